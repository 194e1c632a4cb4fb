/-! METHODS WITHOUT LOOPS, by program -/
/-- a truth as the machine has it -/
def b2i (b : Bool) : Int32 := match b with
  | true => nI 1
  | false => nI 0
theorem b2i_01 (b : Bool) : b2i b = 0 ∨ b2i b = 1 := by cases b <;> first | exact Or.inl rfl | exact Or.inr rfl
theorem b2i_0 {b : Bool} : b2i b = 0 ↔ b = false := by cases b <;> decide
theorem b2i_n0 {b : Bool} : ¬ b2i b = 0 ↔ b = true := by cases b <;> decide

def k_J6_bitCount_0f7a4 : eg_C := ([(0, .iload_n 0, 1), (1, .iload_n 0, 1), (2, .iconst 1, 1), (3, .iushr, 1), (4, .ldc_w 265, 3), (7, .iand, 1), (8, .isub, 1), (9, .istore_n 0, 1), (10, .iload_n 0, 1), (11, .ldc_w 266, 3), (14, .iand, 1), (15, .iload_n 0, 1), (16, .iconst 2, 1), (17, .iushr, 1), (18, .ldc_w 266, 3), (21, .iand, 1), (22, .iadd, 1), (23, .istore_n 0, 1), (24, .iload_n 0, 1), (25, .iload_n 0, 1), (26, .iconst 4, 1), (27, .iushr, 1), (28, .iadd, 1), (29, .ldc_w 267, 3), (32, .iand, 1), (33, .istore_n 0, 1), (34, .iload_n 0, 1), (35, .iload_n 0, 1), (36, .bipush 8, 2), (38, .iushr, 1), (39, .iadd, 1), (40, .istore_n 0, 1), (41, .iload_n 0, 1), (42, .iload_n 0, 1), (43, .bipush 16, 2), (45, .iushr, 1), (46, .iadd, 1), (47, .istore_n 0, 1), (48, .iload_n 0, 1), (49, .bipush 63, 2), (51, .iand, 1), (52, .ireturn, 1)], [], [(265, .int (nI 1431655765)), (266, .int (nI 858993459)), (267, .int (nI 252645135))], [], [], 1, 0, 0)
theorem mk_J6_bitCount_0f7a4 : ∀ q ∈ k_J6_bitCount_0f7a4.2.2.2.1, eg_mono q.2.2.2.2 := (fn)
/-- the number of ones, as the JDK has it -/
def bc (a : Int32) : Int32 := (((((((a - (((a.toUInt32 >>> ((nI 1).toUInt32 &&& Int32.toUInt32 31)).toInt32) &&& (nI 1431655765))) &&& (nI 858993459)) + ((((a - (((a.toUInt32 >>> ((nI 1).toUInt32 &&& Int32.toUInt32 31)).toInt32) &&& (nI 1431655765))).toUInt32 >>> ((nI 2).toUInt32 &&& Int32.toUInt32 31)).toInt32) &&& (nI 858993459))) + (((((a - (((a.toUInt32 >>> ((nI 1).toUInt32 &&& Int32.toUInt32 31)).toInt32) &&& (nI 1431655765))) &&& (nI 858993459)) + ((((a - (((a.toUInt32 >>> ((nI 1).toUInt32 &&& Int32.toUInt32 31)).toInt32) &&& (nI 1431655765))).toUInt32 >>> ((nI 2).toUInt32 &&& Int32.toUInt32 31)).toInt32) &&& (nI 858993459))).toUInt32 >>> ((nI 4).toUInt32 &&& Int32.toUInt32 31)).toInt32)) &&& (nI 252645135)) + (((((((a - (((a.toUInt32 >>> ((nI 1).toUInt32 &&& Int32.toUInt32 31)).toInt32) &&& (nI 1431655765))) &&& (nI 858993459)) + ((((a - (((a.toUInt32 >>> ((nI 1).toUInt32 &&& Int32.toUInt32 31)).toInt32) &&& (nI 1431655765))).toUInt32 >>> ((nI 2).toUInt32 &&& Int32.toUInt32 31)).toInt32) &&& (nI 858993459))) + (((((a - (((a.toUInt32 >>> ((nI 1).toUInt32 &&& Int32.toUInt32 31)).toInt32) &&& (nI 1431655765))) &&& (nI 858993459)) + ((((a - (((a.toUInt32 >>> ((nI 1).toUInt32 &&& Int32.toUInt32 31)).toInt32) &&& (nI 1431655765))).toUInt32 >>> ((nI 2).toUInt32 &&& Int32.toUInt32 31)).toInt32) &&& (nI 858993459))).toUInt32 >>> ((nI 4).toUInt32 &&& Int32.toUInt32 31)).toInt32)) &&& (nI 252645135)).toUInt32 >>> ((nI 8).toUInt32 &&& Int32.toUInt32 31)).toInt32)) + ((((((((a - (((a.toUInt32 >>> ((nI 1).toUInt32 &&& Int32.toUInt32 31)).toInt32) &&& (nI 1431655765))) &&& (nI 858993459)) + ((((a - (((a.toUInt32 >>> ((nI 1).toUInt32 &&& Int32.toUInt32 31)).toInt32) &&& (nI 1431655765))).toUInt32 >>> ((nI 2).toUInt32 &&& Int32.toUInt32 31)).toInt32) &&& (nI 858993459))) + (((((a - (((a.toUInt32 >>> ((nI 1).toUInt32 &&& Int32.toUInt32 31)).toInt32) &&& (nI 1431655765))) &&& (nI 858993459)) + ((((a - (((a.toUInt32 >>> ((nI 1).toUInt32 &&& Int32.toUInt32 31)).toInt32) &&& (nI 1431655765))).toUInt32 >>> ((nI 2).toUInt32 &&& Int32.toUInt32 31)).toInt32) &&& (nI 858993459))).toUInt32 >>> ((nI 4).toUInt32 &&& Int32.toUInt32 31)).toInt32)) &&& (nI 252645135)) + (((((((a - (((a.toUInt32 >>> ((nI 1).toUInt32 &&& Int32.toUInt32 31)).toInt32) &&& (nI 1431655765))) &&& (nI 858993459)) + ((((a - (((a.toUInt32 >>> ((nI 1).toUInt32 &&& Int32.toUInt32 31)).toInt32) &&& (nI 1431655765))).toUInt32 >>> ((nI 2).toUInt32 &&& Int32.toUInt32 31)).toInt32) &&& (nI 858993459))) + (((((a - (((a.toUInt32 >>> ((nI 1).toUInt32 &&& Int32.toUInt32 31)).toInt32) &&& (nI 1431655765))) &&& (nI 858993459)) + ((((a - (((a.toUInt32 >>> ((nI 1).toUInt32 &&& Int32.toUInt32 31)).toInt32) &&& (nI 1431655765))).toUInt32 >>> ((nI 2).toUInt32 &&& Int32.toUInt32 31)).toInt32) &&& (nI 858993459))).toUInt32 >>> ((nI 4).toUInt32 &&& Int32.toUInt32 31)).toInt32)) &&& (nI 252645135)).toUInt32 >>> ((nI 8).toUInt32 &&& Int32.toUInt32 31)).toInt32)).toUInt32 >>> ((nI 16).toUInt32 &&& Int32.toUInt32 31)).toInt32)) &&& (nI 63)
def s_J6_bitCount_0f7a4 : eg_S := fun argv M Qp => match argv with
  | [.int a] => (True) ∧ Qp (.inl (some (.int (bc a)))) M
  | _ => False
theorem mo_J6_bitCount_0f7a4 : eg_mono s_J6_bitCount_0f7a4 := by
  intro argv M Q Q' h
  unfold s_J6_bitCount_0f7a4
  split
  · exact fun z => ⟨z.1, h _ _ z.2⟩
  · exact id
theorem sz_J6_bitCount_0f7a4 : ∀ argv M Qp, s_J6_bitCount_0f7a4 argv M Qp → (eg_ls0 argv).length ≤ 1 := by
  intro argv M Qp h
  unfold s_J6_bitCount_0f7a4 at h
  split at h
  · exact Nat.le_of_ble_eq_true rfl
  · exact h.elim
set_option maxRecDepth 100000 in
theorem T_J6_bitCount_0f7a4 {argv : List Value} {M : eg_M} {Qp : eg_P} (h : s_J6_bitCount_0f7a4 argv M Qp) : eg_T wd k_J6_bitCount_0f7a4 Qp 0 0 0 (eg_lsN 1 argv) [] M := by
  unfold s_J6_bitCount_0f7a4 at h
  split at h
  · rename_i a
    obtain ⟨hp, hq⟩ := h
    refine eg_T_run mk_J6_bitCount_0f7a4 (cut := []) 47 ?_
    refine And.intro (fun z => absurd z (by decide)) ?_
    show Qp (.inl (some (.int ((((((((a - (((a.toUInt32 >>> ((nI 1).toUInt32 &&& Int32.toUInt32 31)).toInt32) &&& (nI 1431655765))) &&& (nI 858993459)) + ((((a - (((a.toUInt32 >>> ((nI 1).toUInt32 &&& Int32.toUInt32 31)).toInt32) &&& (nI 1431655765))).toUInt32 >>> ((nI 2).toUInt32 &&& Int32.toUInt32 31)).toInt32) &&& (nI 858993459))) + (((((a - (((a.toUInt32 >>> ((nI 1).toUInt32 &&& Int32.toUInt32 31)).toInt32) &&& (nI 1431655765))) &&& (nI 858993459)) + ((((a - (((a.toUInt32 >>> ((nI 1).toUInt32 &&& Int32.toUInt32 31)).toInt32) &&& (nI 1431655765))).toUInt32 >>> ((nI 2).toUInt32 &&& Int32.toUInt32 31)).toInt32) &&& (nI 858993459))).toUInt32 >>> ((nI 4).toUInt32 &&& Int32.toUInt32 31)).toInt32)) &&& (nI 252645135)) + (((((((a - (((a.toUInt32 >>> ((nI 1).toUInt32 &&& Int32.toUInt32 31)).toInt32) &&& (nI 1431655765))) &&& (nI 858993459)) + ((((a - (((a.toUInt32 >>> ((nI 1).toUInt32 &&& Int32.toUInt32 31)).toInt32) &&& (nI 1431655765))).toUInt32 >>> ((nI 2).toUInt32 &&& Int32.toUInt32 31)).toInt32) &&& (nI 858993459))) + (((((a - (((a.toUInt32 >>> ((nI 1).toUInt32 &&& Int32.toUInt32 31)).toInt32) &&& (nI 1431655765))) &&& (nI 858993459)) + ((((a - (((a.toUInt32 >>> ((nI 1).toUInt32 &&& Int32.toUInt32 31)).toInt32) &&& (nI 1431655765))).toUInt32 >>> ((nI 2).toUInt32 &&& Int32.toUInt32 31)).toInt32) &&& (nI 858993459))).toUInt32 >>> ((nI 4).toUInt32 &&& Int32.toUInt32 31)).toInt32)) &&& (nI 252645135)).toUInt32 >>> ((nI 8).toUInt32 &&& Int32.toUInt32 31)).toInt32)) + ((((((((a - (((a.toUInt32 >>> ((nI 1).toUInt32 &&& Int32.toUInt32 31)).toInt32) &&& (nI 1431655765))) &&& (nI 858993459)) + ((((a - (((a.toUInt32 >>> ((nI 1).toUInt32 &&& Int32.toUInt32 31)).toInt32) &&& (nI 1431655765))).toUInt32 >>> ((nI 2).toUInt32 &&& Int32.toUInt32 31)).toInt32) &&& (nI 858993459))) + (((((a - (((a.toUInt32 >>> ((nI 1).toUInt32 &&& Int32.toUInt32 31)).toInt32) &&& (nI 1431655765))) &&& (nI 858993459)) + ((((a - (((a.toUInt32 >>> ((nI 1).toUInt32 &&& Int32.toUInt32 31)).toInt32) &&& (nI 1431655765))).toUInt32 >>> ((nI 2).toUInt32 &&& Int32.toUInt32 31)).toInt32) &&& (nI 858993459))).toUInt32 >>> ((nI 4).toUInt32 &&& Int32.toUInt32 31)).toInt32)) &&& (nI 252645135)) + (((((((a - (((a.toUInt32 >>> ((nI 1).toUInt32 &&& Int32.toUInt32 31)).toInt32) &&& (nI 1431655765))) &&& (nI 858993459)) + ((((a - (((a.toUInt32 >>> ((nI 1).toUInt32 &&& Int32.toUInt32 31)).toInt32) &&& (nI 1431655765))).toUInt32 >>> ((nI 2).toUInt32 &&& Int32.toUInt32 31)).toInt32) &&& (nI 858993459))) + (((((a - (((a.toUInt32 >>> ((nI 1).toUInt32 &&& Int32.toUInt32 31)).toInt32) &&& (nI 1431655765))) &&& (nI 858993459)) + ((((a - (((a.toUInt32 >>> ((nI 1).toUInt32 &&& Int32.toUInt32 31)).toInt32) &&& (nI 1431655765))).toUInt32 >>> ((nI 2).toUInt32 &&& Int32.toUInt32 31)).toInt32) &&& (nI 858993459))).toUInt32 >>> ((nI 4).toUInt32 &&& Int32.toUInt32 31)).toInt32)) &&& (nI 252645135)).toUInt32 >>> ((nI 8).toUInt32 &&& Int32.toUInt32 31)).toInt32)).toUInt32 >>> ((nI 16).toUInt32 &&& Int32.toUInt32 31)).toInt32)) &&& (nI 63))))) M
    exact hq
  · exact h.elim
theorem de_J6_bitCount_0f7a4 : ∀ q ∈ k_J6_bitCount_0f7a4.1, decode cJ6_bitCount_0f7a4 q.1 = .ok q.2 := by decide +kernel
theorem me_J6_bitCount_0f7a4 (g : gl_T) : MT g yJ6_bitCount_0f7a4 cJ6_bitCount_0f7a4 1 (some .int) ⟨0, 0, 0, 0⟩ 0 0 s_J6_bitCount_0f7a4 := by
  intro hl
  exact eg_met_of (k := k_J6_bitCount_0f7a4) (by decide) rfl ⟨Nat.le_refl _, Nat.le_refl _⟩ rfl sz_J6_bitCount_0f7a4 de_J6_bitCount_0f7a4 (fun meth hn => (fn)) (fun A s H hE => (fc (List.mem_cons_of_mem _ lk_RJ6_265) (fc (List.mem_cons_of_mem _ lk_RJ6_266) (fc (List.mem_cons_of_mem _ lk_RJ6_267) (fn))))) (fun p e s m args below meth c Q A ad0 N0 S0 hK hEx hA => (fn)) (fun p e s m args below meth c Qc XC A ad0 N0 P S0 hK hEx hA hlk hout hPX => (fn)) (fun argv M Qp h => T_J6_bitCount_0f7a4 h)

def k_X0_add : eg_C := ([(0, .aload_n 0, 1), (1, .getfield 24, 3), (4, .bipush 24, 2), (6, .if_icmp .lt 5, 3), (9, .iconst (-1), 1), (10, .ireturn, 1), (11, .aload_n 0, 1), (12, .getfield 9, 3), (15, .aload_n 0, 1), (16, .getfield 24, 3), (19, .iload_n 1, 1), (20, .iastore, 1), (21, .aload_n 0, 1), (22, .getfield 15, 3), (25, .aload_n 0, 1), (26, .getfield 24, 3), (29, .iload_n 2, 1), (30, .iastore, 1), (31, .aload_n 0, 1), (32, .getfield 18, 3), (35, .aload_n 0, 1), (36, .getfield 24, 3), (39, .iload_n 3, 1), (40, .iastore, 1), (41, .aload_n 0, 1), (42, .getfield 21, 3), (45, .aload_n 0, 1), (46, .getfield 24, 3), (49, .iload 4, 2), (51, .iastore, 1), (52, .aload_n 0, 1), (53, .dup, 1), (54, .getfield 24, 3), (57, .dup_x1, 1), (58, .iconst 1, 1), (59, .iadd, 1), (60, .putfield 24, 3), (63, .ireturn, 1)], [(9, 0, 0, false), (15, 0, 1, false), (18, 0, 2, false), (21, 0, 3, false), (24, 0, 4, true)], [], [], [], 1, 0, 0)
def s_X0_add : eg_S := eg_auto wd k_X0_add 5 (some 0) 40
theorem mk_X0_add : ∀ q ∈ k_X0_add.2.2.2.1, eg_mono q.2.2.2.2 := (fn)
theorem mo_X0_add : eg_mono s_X0_add := eg_auto_mono mk_X0_add
theorem de_X0_add : ∀ q ∈ k_X0_add.1, decode cX0_add q.1 = .ok q.2 := by decide +kernel
theorem me_X0_add (g : gl_T) : MT g yX0_add cX0_add 5 (some .int) ⟨0, 0, 0, 0⟩ 0 0 s_X0_add := by
  intro hl
  exact eg_met_of (k := k_X0_add) (by decide) rfl ⟨Nat.le_refl _, Nat.le_refl _⟩ rfl eg_auto_len de_X0_add (fun meth hn => (fc (eg_FL_of wd_c0 (by decide) lf_RX0_9 (fun h => absurd h (by decide))) (fc (eg_FL_of wd_c0 (by decide) lf_RX0_15 (fun h => absurd h (by decide))) (fc (eg_FL_of wd_c0 (by decide) lf_RX0_18 (fun h => absurd h (by decide))) (fc (eg_FL_of wd_c0 (by decide) lf_RX0_21 (fun h => absurd h (by decide))) (fc (eg_FL_of wd_c0 (by decide) lf_RX0_24 (fun _ => Or.inl rfl)) (fn))))))) (fun A s H hE => (fn)) (fun p e s m args below meth c Q A ad0 N0 S0 hK hEx hA => (fn)) (fun p e s m args below meth c Qc XC A ad0 N0 P S0 hK hEx hA hlk hout hPX => (fn)) (fun argv M Qp h => eg_auto_T mk_X0_add h)

def k_X1_stamp : eg_C := ([(0, .iload_n 1, 1), (1, .iconst (-1), 1), (2, .if_icmp .eq 19, 3), (5, .aload_n 0, 1), (6, .getfield 33, 3), (9, .iload_n 1, 1), (10, .iload_n 2, 1), (11, .iastore, 1), (12, .aload_n 0, 1), (13, .getfield 36, 3), (16, .iload_n 1, 1), (17, .sipush 3600, 3), (20, .iastore, 1), (21, .return_, 1)], [(33, 1, 7, false), (36, 1, 8, false)], [], [], [], 0, 0, 0)
def s_X1_stamp : eg_S := eg_auto wd k_X1_stamp 3 (some 1) 16
theorem mk_X1_stamp : ∀ q ∈ k_X1_stamp.2.2.2.1, eg_mono q.2.2.2.2 := (fn)
theorem mo_X1_stamp : eg_mono s_X1_stamp := eg_auto_mono mk_X1_stamp
theorem de_X1_stamp : ∀ q ∈ k_X1_stamp.1, decode cX1_stamp q.1 = .ok q.2 := by decide +kernel
theorem me_X1_stamp (g : gl_T) : MT g yX1_stamp cX1_stamp 3 none ⟨0, 0, 0, 0⟩ 0 0 s_X1_stamp := by
  intro hl
  exact eg_met_of (k := k_X1_stamp) (by decide) rfl ⟨Nat.le_refl _, Nat.le_refl _⟩ rfl eg_auto_len de_X1_stamp (fun meth hn => (fc (eg_FL_of wd_c1 (by decide) lf_RX1_33 (fun h => absurd h (by decide))) (fc (eg_FL_of wd_c1 (by decide) lf_RX1_36 (fun h => absurd h (by decide))) (fn)))) (fun A s H hE => (fn)) (fun p e s m args below meth c Q A ad0 N0 S0 hK hEx hA => (fn)) (fun p e s m args below meth c Qc XC A ad0 N0 P S0 hK hEx hA hlk hout hPX => (fn)) (fun argv M Qp h => eg_auto_T mk_X1_stamp h)

def k_X1_takeBack : eg_C := ([(0, .aload_n 0, 1), (1, .getfield 36, 3), (4, .iload_n 1, 1), (5, .iaload, 1), (6, .sipush 3600, 3), (9, .if_icmp .ne 7, 3), (12, .iconst 1, 1), (13, .goto 4, 3), (16, .iconst 0, 1), (17, .istore_n 3, 1), (18, .iload_n 3, 1), (19, .ifCond .eq 10, 3), (22, .aload_n 0, 1), (23, .getfield 36, 3), (26, .iload_n 1, 1), (27, .iload_n 2, 1), (28, .iastore, 1), (29, .iload_n 3, 1), (30, .ireturn, 1)], [(36, 1, 8, false)], [], [], [], 2, 0, 0)
def s_X1_takeBack : eg_S := eg_auto wd k_X1_takeBack 4 (some 1) 21
theorem mk_X1_takeBack : ∀ q ∈ k_X1_takeBack.2.2.2.1, eg_mono q.2.2.2.2 := (fn)
theorem mo_X1_takeBack : eg_mono s_X1_takeBack := eg_auto_mono mk_X1_takeBack
theorem de_X1_takeBack : ∀ q ∈ k_X1_takeBack.1, decode cX1_takeBack q.1 = .ok q.2 := by decide +kernel
theorem me_X1_takeBack (g : gl_T) : MT g yX1_takeBack cX1_takeBack 4 (some .boolean) ⟨0, 0, 0, 0⟩ 0 0 s_X1_takeBack := by
  intro hl
  exact eg_met_of (k := k_X1_takeBack) (by decide) rfl ⟨Nat.le_refl _, Nat.le_refl _⟩ rfl eg_auto_len de_X1_takeBack (fun meth hn => (fc (eg_FL_of wd_c1 (by decide) lf_RX1_36 (fun h => absurd h (by decide))) (fn))) (fun A s H hE => (fn)) (fun p e s m args below meth c Q A ad0 N0 S0 hK hEx hA => (fn)) (fun p e s m args below meth c Qc XC A ad0 N0 P S0 hK hEx hA hlk hout hPX => (fn)) (fun argv M Qp h => eg_auto_T mk_X1_takeBack h)

def k_X2_ask : eg_C := ([(0, .iload_n 3, 1), (1, .iconst 1, 1), (2, .iload_n 2, 1), (3, .ishl, 1), (4, .iand, 1), (5, .ifCond .eq 15, 3), (8, .aload_n 0, 1), (9, .getfield 20, 3), (12, .iload_n 2, 1), (13, .aaload, 1), (14, .iload_n 1, 1), (15, .iaload, 1), (16, .iconst (-1), 1), (17, .if_icmp .ne 4, 3), (20, .return_, 1), (21, .aload_n 0, 1), (22, .getfield 23, 3), (25, .iload_n 2, 1), (26, .iaload, 1), (27, .istore 4, 2), (29, .iload 4, 2), (31, .iconst (-1), 1), (32, .if_icmp .eq 32, 3), (35, .aload_n 0, 1), (36, .getfield 20, 3), (39, .iload_n 2, 1), (40, .aaload, 1), (41, .iload 4, 2), (43, .iaload, 1), (44, .aload_n 0, 1), (45, .getfield 20, 3), (48, .iload_n 2, 1), (49, .aaload, 1), (50, .iload_n 1, 1), (51, .iaload, 1), (52, .if_icmp .ge 4, 3), (55, .return_, 1), (56, .aload_n 0, 1), (57, .getfield 23, 3), (60, .iload 4, 2), (62, .iconst (-1), 1), (63, .iastore, 1), (64, .aload_n 0, 1), (65, .getfield 23, 3), (68, .iload_n 2, 1), (69, .iload_n 1, 1), (70, .iastore, 1), (71, .aload_n 0, 1), (72, .getfield 23, 3), (75, .iload_n 1, 1), (76, .iload_n 2, 1), (77, .iastore, 1), (78, .return_, 1)], [(20, 2, 2, false), (23, 2, 3, false)], [], [], [], 0, 0, 0)
def s_X2_ask : eg_S := eg_auto wd k_X2_ask 5 (some 2) 55
theorem mk_X2_ask : ∀ q ∈ k_X2_ask.2.2.2.1, eg_mono q.2.2.2.2 := (fn)
theorem mo_X2_ask : eg_mono s_X2_ask := eg_auto_mono mk_X2_ask
theorem de_X2_ask : ∀ q ∈ k_X2_ask.1, decode cX2_ask q.1 = .ok q.2 := by decide +kernel
theorem me_X2_ask (g : gl_T) : MT g yX2_ask cX2_ask 5 none ⟨0, 0, 0, 0⟩ 0 0 s_X2_ask := by
  intro hl
  exact eg_met_of (k := k_X2_ask) (by decide) rfl ⟨Nat.le_refl _, Nat.le_refl _⟩ rfl eg_auto_len de_X2_ask (fun meth hn => (fc (eg_FL_of wd_c2 (by decide) lf_RX2_20 (fun h => absurd h (by decide))) (fc (eg_FL_of wd_c2 (by decide) lf_RX2_23 (fun h => absurd h (by decide))) (fn)))) (fun A s H hE => (fn)) (fun p e s m args below meth c Q A ad0 N0 S0 hK hEx hA => (fn)) (fun p e s m args below meth c Qc XC A ad0 N0 P S0 hK hEx hA hlk hout hPX => (fn)) (fun argv M Qp h => eg_auto_T mk_X2_ask h)

def k_X2_areWished : eg_C := ([(0, .aload_n 0, 1), (1, .getfield 20, 3), (4, .iload_n 1, 1), (5, .aaload, 1), (6, .iload_n 2, 1), (7, .iaload, 1), (8, .iconst (-1), 1), (9, .if_icmp .eq 19, 3), (12, .aload_n 0, 1), (13, .getfield 20, 3), (16, .iload_n 2, 1), (17, .aaload, 1), (18, .iload_n 1, 1), (19, .iaload, 1), (20, .iconst (-1), 1), (21, .if_icmp .eq 7, 3), (24, .iconst 1, 1), (25, .goto 4, 3), (28, .iconst 0, 1), (29, .ireturn, 1)], [(20, 2, 2, false)], [], [], [], 2, 0, 0)
theorem mk_X2_areWished : ∀ q ∈ k_X2_areWished.2.2.2.1, eg_mono q.2.2.2.2 := (fn)
def s_X2_areWished : eg_S := fun argv M Qp => match argv with
  | [.ref 80, .int a, .int b] => ((vp_in a 16) ∧ (eg_is wd M (99 + 1 + a.toNatClampNeg) 1 = true) ∧ (vp_in b (eg_len wd M (99 + 1 + a.toNatClampNeg))) ∧ ((¬ (eg_gi M (99 + 1 + a.toNatClampNeg) b.toNatClampNeg) = (-nI 1)) → vp_in b 16) ∧ ((¬ (eg_gi M (99 + 1 + a.toNatClampNeg) b.toNatClampNeg) = (-nI 1)) → eg_is wd M (99 + 1 + b.toNatClampNeg) 1 = true) ∧ ((¬ (eg_gi M (99 + 1 + a.toNatClampNeg) b.toNatClampNeg) = (-nI 1)) → vp_in a (eg_len wd M (99 + 1 + b.toNatClampNeg)))) ∧ Qp (.inl (some (.int (b2i (decide (¬ (eg_gi M (99 + 1 + a.toNatClampNeg) b.toNatClampNeg) = (-nI 1) ∧ ¬ (eg_gi M (99 + 1 + b.toNatClampNeg) a.toNatClampNeg) = (-nI 1))))))) M
  | _ => False
theorem mo_X2_areWished : eg_mono s_X2_areWished := by
  intro argv M Q Q' h
  unfold s_X2_areWished
  split
  · exact fun z => ⟨z.1, h _ _ z.2⟩
  · exact id
theorem sz_X2_areWished : ∀ argv M Qp, s_X2_areWished argv M Qp → (eg_ls0 argv).length ≤ 3 := by
  intro argv M Qp h
  unfold s_X2_areWished at h
  split at h
  · exact Nat.le_of_ble_eq_true rfl
  · exact h.elim
theorem sr_X2_areWished : ∀ argv M Qp, s_X2_areWished argv M Qp → ∃ p0 As, argv = .ref p0 :: As ∧ eg_isO wd M p0 2 = true := by
  intro argv M Qp h
  unfold s_X2_areWished at h
  split at h
  · exact ⟨_, _, rfl, rfl⟩
  · exact h.elim
set_option maxRecDepth 100000 in
theorem T_X2_areWished {argv : List Value} {M : eg_M} {Qp : eg_P} (h : s_X2_areWished argv M Qp) : eg_T wd k_X2_areWished Qp 0 0 0 (eg_lsN 3 argv) [] M := by
  unfold s_X2_areWished at h
  split at h
  · rename_i a b
    obtain ⟨hp, hq⟩ := h
    refine eg_T_run mk_X2_areWished (cut := []) 25 ?_
    refine And.intro (show vp_in a 16 from ?_) ?_
    · exact hp.1
    refine eg_need_of (show eg_is wd M (99 + 1 + a.toNatClampNeg) 1 = true from ?_) ?_
    · exact hp.2.1
    refine And.intro (show vp_in b (eg_len wd M (99 + 1 + a.toNatClampNeg)) from ?_) ?_
    · exact hp.2.2.1
    refine And.intro (fun (c1 : (eg_gi M (99 + 1 + a.toNatClampNeg) b.toNatClampNeg) = (-nI 1)) => ?_) (fun (c1 : ¬ (eg_gi M (99 + 1 + a.toNatClampNeg) b.toNatClampNeg) = (-nI 1)) => ?_)
    · skip
      refine And.intro (fun _ => (show (nI 0) = 0 ∨ (nI 0) = 1 from ?_)) ?_
      · exact Or.inl rfl
      show Qp (.inl (some (.int (nI 0)))) M
      rw [show (decide (¬ (eg_gi M (99 + 1 + a.toNatClampNeg) b.toNatClampNeg) = (-nI 1) ∧ ¬ (eg_gi M (99 + 1 + b.toNatClampNeg) a.toNatClampNeg) = (-nI 1))) = false from decide_eq_false (by grind)] at hq
      exact hq
    · skip
      refine And.intro (show vp_in b 16 from ?_) ?_
      · exact hp.2.2.2.1 c1
      refine eg_need_of (show eg_is wd M (99 + 1 + b.toNatClampNeg) 1 = true from ?_) ?_
      · exact hp.2.2.2.2.1 c1
      refine And.intro (show vp_in a (eg_len wd M (99 + 1 + b.toNatClampNeg)) from ?_) ?_
      · exact hp.2.2.2.2.2 c1
      refine And.intro (fun (c2 : (eg_gi M (99 + 1 + b.toNatClampNeg) a.toNatClampNeg) = (-nI 1)) => ?_) (fun (c2 : ¬ (eg_gi M (99 + 1 + b.toNatClampNeg) a.toNatClampNeg) = (-nI 1)) => ?_)
      · skip
        refine And.intro (fun _ => (show (nI 0) = 0 ∨ (nI 0) = 1 from ?_)) ?_
        · exact Or.inl rfl
        show Qp (.inl (some (.int (nI 0)))) M
        rw [show (decide (¬ (eg_gi M (99 + 1 + a.toNatClampNeg) b.toNatClampNeg) = (-nI 1) ∧ ¬ (eg_gi M (99 + 1 + b.toNatClampNeg) a.toNatClampNeg) = (-nI 1))) = false from decide_eq_false (by grind)] at hq
        exact hq
      · skip
        refine And.intro (fun _ => (show (nI 1) = 0 ∨ (nI 1) = 1 from ?_)) ?_
        · exact Or.inr rfl
        show Qp (.inl (some (.int (nI 1)))) M
        rw [show (decide (¬ (eg_gi M (99 + 1 + a.toNatClampNeg) b.toNatClampNeg) = (-nI 1) ∧ ¬ (eg_gi M (99 + 1 + b.toNatClampNeg) a.toNatClampNeg) = (-nI 1))) = true from decide_eq_true (by grind)] at hq
        exact hq
  · exact h.elim
theorem de_X2_areWished : ∀ q ∈ k_X2_areWished.1, decode cX2_areWished q.1 = .ok q.2 := by decide +kernel
theorem me_X2_areWished (g : gl_T) : MT g yX2_areWished cX2_areWished 3 (some .boolean) ⟨0, 0, 0, 0⟩ 0 0 s_X2_areWished := by
  intro hl
  exact eg_met_of (k := k_X2_areWished) (by decide) rfl ⟨Nat.le_refl _, Nat.le_refl _⟩ rfl sz_X2_areWished de_X2_areWished (fun meth hn => (fc (eg_FL_of wd_c2 (by decide) lf_RX2_20 (fun h => absurd h (by decide))) (fn))) (fun A s H hE => (fn)) (fun p e s m args below meth c Q A ad0 N0 S0 hK hEx hA => (fn)) (fun p e s m args below meth c Qc XC A ad0 N0 P S0 hK hEx hA hlk hout hPX => (fn)) (fun argv M Qp h => T_X2_areWished h)

def k_X2_prefers : eg_C := ([(0, .aload_n 0, 1), (1, .getfield 29, 3), (4, .iload_n 1, 1), (5, .iaload, 1), (6, .iconst (-1), 1), (7, .if_icmp .eq 27, 3), (10, .aload_n 0, 1), (11, .getfield 20, 3), (14, .iload_n 1, 1), (15, .aaload, 1), (16, .iload_n 2, 1), (17, .iaload, 1), (18, .aload_n 0, 1), (19, .getfield 20, 3), (22, .iload_n 1, 1), (23, .aaload, 1), (24, .aload_n 0, 1), (25, .getfield 29, 3), (28, .iload_n 1, 1), (29, .iaload, 1), (30, .iaload, 1), (31, .if_icmp .ge 7, 3), (34, .iconst 1, 1), (35, .goto 4, 3), (38, .iconst 0, 1), (39, .ireturn, 1)], [(20, 2, 2, false), (29, 2, 5, false)], [], [], [], 2, 0, 0)
theorem mk_X2_prefers : ∀ q ∈ k_X2_prefers.2.2.2.1, eg_mono q.2.2.2.2 := (fn)
def s_X2_prefers : eg_S := fun argv M Qp => match argv with
  | [.ref 80, .int a, .int b] => ((vp_in a 16) ∧ ((¬ (eg_gi M 118 a.toNatClampNeg) = (-nI 1)) → eg_is wd M (99 + 1 + a.toNatClampNeg) 1 = true) ∧ ((¬ (eg_gi M 118 a.toNatClampNeg) = (-nI 1)) → vp_in b (eg_len wd M (99 + 1 + a.toNatClampNeg))) ∧ ((¬ (eg_gi M 118 a.toNatClampNeg) = (-nI 1)) → vp_in (eg_gi M 118 a.toNatClampNeg) (eg_len wd M (99 + 1 + a.toNatClampNeg)))) ∧ Qp (.inl (some (.int (b2i (decide ((eg_gi M 118 a.toNatClampNeg) = (-nI 1) ∨ ¬ (eg_gi M (99 + 1 + a.toNatClampNeg) (eg_gi M 118 a.toNatClampNeg).toNatClampNeg) ≤ (eg_gi M (99 + 1 + a.toNatClampNeg) b.toNatClampNeg))))))) M
  | _ => False
theorem mo_X2_prefers : eg_mono s_X2_prefers := by
  intro argv M Q Q' h
  unfold s_X2_prefers
  split
  · exact fun z => ⟨z.1, h _ _ z.2⟩
  · exact id
theorem sz_X2_prefers : ∀ argv M Qp, s_X2_prefers argv M Qp → (eg_ls0 argv).length ≤ 3 := by
  intro argv M Qp h
  unfold s_X2_prefers at h
  split at h
  · exact Nat.le_of_ble_eq_true rfl
  · exact h.elim
theorem sr_X2_prefers : ∀ argv M Qp, s_X2_prefers argv M Qp → ∃ p0 As, argv = .ref p0 :: As ∧ eg_isO wd M p0 2 = true := by
  intro argv M Qp h
  unfold s_X2_prefers at h
  split at h
  · exact ⟨_, _, rfl, rfl⟩
  · exact h.elim
set_option maxRecDepth 100000 in
theorem T_X2_prefers {argv : List Value} {M : eg_M} {Qp : eg_P} (h : s_X2_prefers argv M Qp) : eg_T wd k_X2_prefers Qp 0 0 0 (eg_lsN 3 argv) [] M := by
  unfold s_X2_prefers at h
  split at h
  · rename_i a b
    obtain ⟨hp, hq⟩ := h
    refine eg_T_run mk_X2_prefers (cut := []) 31 ?_
    refine And.intro (show vp_in a 16 from ?_) ?_
    · exact hp.1
    refine And.intro (fun (c1 : (eg_gi M 118 a.toNatClampNeg) = (-nI 1)) => ?_) (fun (c1 : ¬ (eg_gi M 118 a.toNatClampNeg) = (-nI 1)) => ?_)
    · skip
      refine And.intro (fun _ => (show (nI 1) = 0 ∨ (nI 1) = 1 from ?_)) ?_
      · exact Or.inr rfl
      show Qp (.inl (some (.int (nI 1)))) M
      rw [show (decide ((eg_gi M 118 a.toNatClampNeg) = (-nI 1) ∨ ¬ (eg_gi M (99 + 1 + a.toNatClampNeg) (eg_gi M 118 a.toNatClampNeg).toNatClampNeg) ≤ (eg_gi M (99 + 1 + a.toNatClampNeg) b.toNatClampNeg))) = true from decide_eq_true (by grind)] at hq
      exact hq
    · skip
      refine And.intro (show vp_in a 16 from ?_) ?_
      · exact hp.1
      refine eg_need_of (show eg_is wd M (99 + 1 + a.toNatClampNeg) 1 = true from ?_) ?_
      · exact hp.2.1 c1
      refine And.intro (show vp_in b (eg_len wd M (99 + 1 + a.toNatClampNeg)) from ?_) ?_
      · exact hp.2.2.1 c1
      refine And.intro (show vp_in a 16 from ?_) ?_
      · exact hp.1
      refine And.intro (show vp_in a 16 from ?_) ?_
      · exact hp.1
      refine eg_need_of (show eg_is wd M (99 + 1 + a.toNatClampNeg) 1 = true from ?_) ?_
      · exact hp.2.1 c1
      refine And.intro (show vp_in (eg_gi M 118 a.toNatClampNeg) (eg_len wd M (99 + 1 + a.toNatClampNeg)) from ?_) ?_
      · exact hp.2.2.2 c1
      refine And.intro (fun (c2 : (eg_gi M (99 + 1 + a.toNatClampNeg) (eg_gi M 118 a.toNatClampNeg).toNatClampNeg) ≤ (eg_gi M (99 + 1 + a.toNatClampNeg) b.toNatClampNeg)) => ?_) (fun (c2 : ¬ (eg_gi M (99 + 1 + a.toNatClampNeg) (eg_gi M 118 a.toNatClampNeg).toNatClampNeg) ≤ (eg_gi M (99 + 1 + a.toNatClampNeg) b.toNatClampNeg)) => ?_)
      · skip
        refine And.intro (fun _ => (show (nI 0) = 0 ∨ (nI 0) = 1 from ?_)) ?_
        · exact Or.inl rfl
        show Qp (.inl (some (.int (nI 0)))) M
        rw [show (decide ((eg_gi M 118 a.toNatClampNeg) = (-nI 1) ∨ ¬ (eg_gi M (99 + 1 + a.toNatClampNeg) (eg_gi M 118 a.toNatClampNeg).toNatClampNeg) ≤ (eg_gi M (99 + 1 + a.toNatClampNeg) b.toNatClampNeg))) = false from decide_eq_false (by grind)] at hq
        exact hq
      · skip
        refine And.intro (fun _ => (show (nI 1) = 0 ∨ (nI 1) = 1 from ?_)) ?_
        · exact Or.inr rfl
        show Qp (.inl (some (.int (nI 1)))) M
        rw [show (decide ((eg_gi M 118 a.toNatClampNeg) = (-nI 1) ∨ ¬ (eg_gi M (99 + 1 + a.toNatClampNeg) (eg_gi M 118 a.toNatClampNeg).toNatClampNeg) ≤ (eg_gi M (99 + 1 + a.toNatClampNeg) b.toNatClampNeg))) = true from decide_eq_true (by grind)] at hq
        exact hq
  · exact h.elim
theorem de_X2_prefers : ∀ q ∈ k_X2_prefers.1, decode cX2_prefers q.1 = .ok q.2 := by decide +kernel
theorem me_X2_prefers (g : gl_T) : MT g yX2_prefers cX2_prefers 3 (some .boolean) ⟨0, 0, 0, 0⟩ 0 0 s_X2_prefers := by
  intro hl
  exact eg_met_of (k := k_X2_prefers) (by decide) rfl ⟨Nat.le_refl _, Nat.le_refl _⟩ rfl sz_X2_prefers de_X2_prefers (fun meth hn => (fc (eg_FL_of wd_c2 (by decide) lf_RX2_20 (fun h => absurd h (by decide))) (fc (eg_FL_of wd_c2 (by decide) lf_RX2_29 (fun h => absurd h (by decide))) (fn)))) (fun A s H hE => (fn)) (fun p e s m args below meth c Q A ad0 N0 S0 hK hEx hA => (fn)) (fun p e s m args below meth c Qc XC A ad0 N0 P S0 hK hEx hA hlk hout hPX => (fn)) (fun argv M Qp h => T_X2_prefers h)

def k_X3_forget : eg_C := ([(0, .aload_n 0, 1), (1, .iconst (-1), 1), (2, .putfield 39, 3), (5, .return_, 1)], [(39, 3, 4, true)], [], [], [], 0, 0, 0)
def s_X3_forget : eg_S := eg_auto wd k_X3_forget 1 (some 3) 6
theorem mk_X3_forget : ∀ q ∈ k_X3_forget.2.2.2.1, eg_mono q.2.2.2.2 := (fn)
theorem mo_X3_forget : eg_mono s_X3_forget := eg_auto_mono mk_X3_forget
theorem de_X3_forget : ∀ q ∈ k_X3_forget.1, decode cX3_forget q.1 = .ok q.2 := by decide +kernel
theorem me_X3_forget (g : gl_T) : MT g yX3_forget cX3_forget 1 none ⟨0, 0, 0, 0⟩ 0 0 s_X3_forget := by
  intro hl
  exact eg_met_of (k := k_X3_forget) (by decide) rfl ⟨Nat.le_refl _, Nat.le_refl _⟩ rfl eg_auto_len de_X3_forget (fun meth hn => (fc (eg_FL_of wd_c3 (by decide) lf_RX3_39 (fun _ => Or.inl rfl)) (fn))) (fun A s H hE => (fn)) (fun p e s m args below meth c Q A ad0 N0 S0 hK hEx hA => (fn)) (fun p e s m args below meth c Qc XC A ad0 N0 P S0 hK hEx hA hlk hout hPX => (fn)) (fun argv M Qp h => eg_auto_T mk_X3_forget h)

def k_X3_chain : eg_C := ([(0, .aload_n 0, 1), (1, .getfield 28, 3), (4, .getfield 120, 3), (7, .iload_n 1, 1), (8, .iaload, 1), (9, .istore_n 3, 1), (10, .aload_n 0, 1), (11, .getfield 58, 3), (14, .iload_n 1, 1), (15, .aload_n 2, 1), (16, .iload_n 3, 1), (17, .iaload, 1), (18, .iastore, 1), (19, .aload_n 0, 1), (20, .getfield 61, 3), (23, .iload_n 1, 1), (24, .aload_n 2, 1), (25, .iload_n 3, 1), (26, .iaload, 1), (27, .iconst (-1), 1), (28, .if_icmp .ne 7, 3), (31, .iconst 0, 1), (32, .goto 13, 3), (35, .aload_n 0, 1), (36, .getfield 61, 3), (39, .aload_n 2, 1), (40, .iload_n 3, 1), (41, .iaload, 1), (42, .iaload, 1), (43, .iconst 1, 1), (44, .iadd, 1), (45, .iastore, 1), (46, .aload_n 2, 1), (47, .iload_n 3, 1), (48, .iload_n 1, 1), (49, .iastore, 1), (50, .return_, 1)], [(28, 3, 2, false), (58, 3, 8, false), (61, 3, 9, false), (120, 1, 1, false)], [], [], [], 0, 0, 0)
def s_X3_chain : eg_S := eg_auto wd k_X3_chain 4 (some 3) 39
theorem mk_X3_chain : ∀ q ∈ k_X3_chain.2.2.2.1, eg_mono q.2.2.2.2 := (fn)
theorem mo_X3_chain : eg_mono s_X3_chain := eg_auto_mono mk_X3_chain
theorem de_X3_chain : ∀ q ∈ k_X3_chain.1, decode cX3_chain q.1 = .ok q.2 := by decide +kernel
theorem me_X3_chain (g : gl_T) : MT g yX3_chain cX3_chain 4 none ⟨0, 0, 0, 0⟩ 0 0 s_X3_chain := by
  intro hl
  exact eg_met_of (k := k_X3_chain) (by decide) rfl ⟨Nat.le_refl _, Nat.le_refl _⟩ rfl eg_auto_len de_X3_chain (fun meth hn => (fc (eg_FL_of wd_c3 (by decide) lf_RX3_28 (fun h => absurd h (by decide))) (fc (eg_FL_of wd_c3 (by decide) lf_RX3_58 (fun h => absurd h (by decide))) (fc (eg_FL_of wd_c3 (by decide) lf_RX3_61 (fun h => absurd h (by decide))) (fc (eg_FL_of wd_c1 (by decide) lf_RX3_120 (fun h => absurd h (by decide))) (fn)))))) (fun A s H hE => (fn)) (fun p e s m args below meth c Q A ad0 N0 S0 hK hEx hA => (fn)) (fun p e s m args below meth c Qc XC A ad0 N0 P S0 hK hEx hA hlk hout hPX => (fn)) (fun argv M Qp h => eg_auto_T mk_X3_chain h)

def k_X3_isKnown : eg_C := ([(0, .aload_n 0, 1), (1, .getfield 28, 3), (4, .getfield 140, 3), (7, .iload_n 1, 1), (8, .iaload, 1), (9, .aload_n 0, 1), (10, .getfield 39, 3), (13, .if_icmp .gt 23, 3), (16, .aload_n 0, 1), (17, .getfield 39, 3), (20, .aload_n 0, 1), (21, .getfield 28, 3), (24, .getfield 143, 3), (27, .iload_n 1, 1), (28, .iaload, 1), (29, .if_icmp .ge 7, 3), (32, .iconst 1, 1), (33, .goto 4, 3), (36, .iconst 0, 1), (37, .ireturn, 1)], [(28, 3, 2, false), (39, 3, 4, false), (140, 1, 7, false), (143, 1, 8, false)], [], [], [], 2, 0, 0)
theorem mk_X3_isKnown : ∀ q ∈ k_X3_isKnown.2.2.2.1, eg_mono q.2.2.2.2 := (fn)
def s_X3_isKnown : eg_S := fun argv M Qp => match argv with
  | [.ref 1, .int a] => ((vp_in a 200)) ∧ Qp (.inl (some (.int (b2i (decide (¬ (eg_gi M 1 4) < (eg_gi M 20 a.toNatClampNeg) ∧ ¬ (eg_gi M 21 a.toNatClampNeg) ≤ (eg_gi M 1 4))))))) M
  | _ => False
theorem mo_X3_isKnown : eg_mono s_X3_isKnown := by
  intro argv M Q Q' h
  unfold s_X3_isKnown
  split
  · exact fun z => ⟨z.1, h _ _ z.2⟩
  · exact id
theorem sz_X3_isKnown : ∀ argv M Qp, s_X3_isKnown argv M Qp → (eg_ls0 argv).length ≤ 2 := by
  intro argv M Qp h
  unfold s_X3_isKnown at h
  split at h
  · exact Nat.le_of_ble_eq_true rfl
  · exact h.elim
theorem sr_X3_isKnown : ∀ argv M Qp, s_X3_isKnown argv M Qp → ∃ p0 As, argv = .ref p0 :: As ∧ eg_isO wd M p0 3 = true := by
  intro argv M Qp h
  unfold s_X3_isKnown at h
  split at h
  · exact ⟨_, _, rfl, rfl⟩
  · exact h.elim
set_option maxRecDepth 100000 in
theorem T_X3_isKnown {argv : List Value} {M : eg_M} {Qp : eg_P} (h : s_X3_isKnown argv M Qp) : eg_T wd k_X3_isKnown Qp 0 0 0 (eg_lsN 2 argv) [] M := by
  unfold s_X3_isKnown at h
  split at h
  · rename_i a
    obtain ⟨hp, hq⟩ := h
    refine eg_T_run mk_X3_isKnown (cut := []) 25 ?_
    refine And.intro (show vp_in a 200 from ?_) ?_
    · exact hp
    refine And.intro (fun (c1 : (eg_gi M 1 4) < (eg_gi M 20 a.toNatClampNeg)) => ?_) (fun (c1 : ¬ (eg_gi M 1 4) < (eg_gi M 20 a.toNatClampNeg)) => ?_)
    · skip
      refine And.intro (fun _ => (show (nI 0) = 0 ∨ (nI 0) = 1 from ?_)) ?_
      · exact Or.inl rfl
      show Qp (.inl (some (.int (nI 0)))) M
      rw [show (decide (¬ (eg_gi M 1 4) < (eg_gi M 20 a.toNatClampNeg) ∧ ¬ (eg_gi M 21 a.toNatClampNeg) ≤ (eg_gi M 1 4))) = false from decide_eq_false (by grind)] at hq
      exact hq
    · skip
      refine And.intro (show vp_in a 200 from ?_) ?_
      · exact hp
      refine And.intro (fun (c2 : (eg_gi M 21 a.toNatClampNeg) ≤ (eg_gi M 1 4)) => ?_) (fun (c2 : ¬ (eg_gi M 21 a.toNatClampNeg) ≤ (eg_gi M 1 4)) => ?_)
      · skip
        refine And.intro (fun _ => (show (nI 0) = 0 ∨ (nI 0) = 1 from ?_)) ?_
        · exact Or.inl rfl
        show Qp (.inl (some (.int (nI 0)))) M
        rw [show (decide (¬ (eg_gi M 1 4) < (eg_gi M 20 a.toNatClampNeg) ∧ ¬ (eg_gi M 21 a.toNatClampNeg) ≤ (eg_gi M 1 4))) = false from decide_eq_false (by grind)] at hq
        exact hq
      · skip
        refine And.intro (fun _ => (show (nI 1) = 0 ∨ (nI 1) = 1 from ?_)) ?_
        · exact Or.inr rfl
        show Qp (.inl (some (.int (nI 1)))) M
        rw [show (decide (¬ (eg_gi M 1 4) < (eg_gi M 20 a.toNatClampNeg) ∧ ¬ (eg_gi M 21 a.toNatClampNeg) ≤ (eg_gi M 1 4))) = true from decide_eq_true (by grind)] at hq
        exact hq
  · exact h.elim
theorem de_X3_isKnown : ∀ q ∈ k_X3_isKnown.1, decode cX3_isKnown q.1 = .ok q.2 := by decide +kernel
theorem me_X3_isKnown (g : gl_T) : MT g yX3_isKnown cX3_isKnown 2 (some .boolean) ⟨0, 0, 0, 0⟩ 0 0 s_X3_isKnown := by
  intro hl
  exact eg_met_of (k := k_X3_isKnown) (by decide) rfl ⟨Nat.le_refl _, Nat.le_refl _⟩ rfl sz_X3_isKnown de_X3_isKnown (fun meth hn => (fc (eg_FL_of wd_c3 (by decide) lf_RX3_28 (fun h => absurd h (by decide))) (fc (eg_FL_of wd_c3 (by decide) lf_RX3_39 (fun h => absurd h (by decide))) (fc (eg_FL_of wd_c1 (by decide) lf_RX3_140 (fun h => absurd h (by decide))) (fc (eg_FL_of wd_c1 (by decide) lf_RX3_143 (fun h => absurd h (by decide))) (fn)))))) (fun A s H hE => (fn)) (fun p e s m args below meth c Q A ad0 N0 S0 hK hEx hA => (fn)) (fun p e s m args below meth c Qc XC A ad0 N0 P S0 hK hEx hA hlk hout hPX => (fn)) (fun argv M Qp h => T_X3_isKnown h)

def k_X3_isAlive : eg_C := ([(0, .aload_n 0, 1), (1, .getfield 21, 3), (4, .getfield 146, 3), (7, .iload_n 1, 1), (8, .iaload, 1), (9, .iload_n 2, 1), (10, .if_icmp .gt 17, 3), (13, .iload_n 2, 1), (14, .aload_n 0, 1), (15, .getfield 50, 3), (18, .iload_n 1, 1), (19, .iaload, 1), (20, .if_icmp .ge 7, 3), (23, .iconst 1, 1), (24, .goto 4, 3), (27, .iconst 0, 1), (28, .ireturn, 1)], [(21, 3, 1, false), (50, 3, 6, false), (146, 0, 2, false)], [], [], [], 2, 0, 0)
theorem mk_X3_isAlive : ∀ q ∈ k_X3_isAlive.2.2.2.1, eg_mono q.2.2.2.2 := (fn)
def s_X3_isAlive : eg_S := fun argv M Qp => match argv with
  | [.ref 1, .int a, .int b] => ((vp_in a 24)) ∧ Qp (.inl (some (.int (b2i (decide (¬ b < (eg_gi M 10 a.toNatClampNeg) ∧ ¬ (eg_gi M 34 a.toNatClampNeg) ≤ b)))))) M
  | _ => False
theorem mo_X3_isAlive : eg_mono s_X3_isAlive := by
  intro argv M Q Q' h
  unfold s_X3_isAlive
  split
  · exact fun z => ⟨z.1, h _ _ z.2⟩
  · exact id
theorem sz_X3_isAlive : ∀ argv M Qp, s_X3_isAlive argv M Qp → (eg_ls0 argv).length ≤ 3 := by
  intro argv M Qp h
  unfold s_X3_isAlive at h
  split at h
  · exact Nat.le_of_ble_eq_true rfl
  · exact h.elim
theorem sr_X3_isAlive : ∀ argv M Qp, s_X3_isAlive argv M Qp → ∃ p0 As, argv = .ref p0 :: As ∧ eg_isO wd M p0 3 = true := by
  intro argv M Qp h
  unfold s_X3_isAlive at h
  split at h
  · exact ⟨_, _, rfl, rfl⟩
  · exact h.elim
set_option maxRecDepth 100000 in
theorem T_X3_isAlive {argv : List Value} {M : eg_M} {Qp : eg_P} (h : s_X3_isAlive argv M Qp) : eg_T wd k_X3_isAlive Qp 0 0 0 (eg_lsN 3 argv) [] M := by
  unfold s_X3_isAlive at h
  split at h
  · rename_i a b
    obtain ⟨hp, hq⟩ := h
    refine eg_T_run mk_X3_isAlive (cut := []) 22 ?_
    refine And.intro (show vp_in a 24 from ?_) ?_
    · exact hp
    refine And.intro (fun (c1 : b < (eg_gi M 10 a.toNatClampNeg)) => ?_) (fun (c1 : ¬ b < (eg_gi M 10 a.toNatClampNeg)) => ?_)
    · skip
      refine And.intro (fun _ => (show (nI 0) = 0 ∨ (nI 0) = 1 from ?_)) ?_
      · exact Or.inl rfl
      show Qp (.inl (some (.int (nI 0)))) M
      rw [show (decide (¬ b < (eg_gi M 10 a.toNatClampNeg) ∧ ¬ (eg_gi M 34 a.toNatClampNeg) ≤ b)) = false from decide_eq_false (by grind)] at hq
      exact hq
    · skip
      refine And.intro (show vp_in a 24 from ?_) ?_
      · exact hp
      refine And.intro (fun (c2 : (eg_gi M 34 a.toNatClampNeg) ≤ b) => ?_) (fun (c2 : ¬ (eg_gi M 34 a.toNatClampNeg) ≤ b) => ?_)
      · skip
        refine And.intro (fun _ => (show (nI 0) = 0 ∨ (nI 0) = 1 from ?_)) ?_
        · exact Or.inl rfl
        show Qp (.inl (some (.int (nI 0)))) M
        rw [show (decide (¬ b < (eg_gi M 10 a.toNatClampNeg) ∧ ¬ (eg_gi M 34 a.toNatClampNeg) ≤ b)) = false from decide_eq_false (by grind)] at hq
        exact hq
      · skip
        refine And.intro (fun _ => (show (nI 1) = 0 ∨ (nI 1) = 1 from ?_)) ?_
        · exact Or.inr rfl
        show Qp (.inl (some (.int (nI 1)))) M
        rw [show (decide (¬ b < (eg_gi M 10 a.toNatClampNeg) ∧ ¬ (eg_gi M 34 a.toNatClampNeg) ≤ b)) = true from decide_eq_true (by grind)] at hq
        exact hq
  · exact h.elim
theorem de_X3_isAlive : ∀ q ∈ k_X3_isAlive.1, decode cX3_isAlive q.1 = .ok q.2 := by decide +kernel
theorem me_X3_isAlive (g : gl_T) : MT g yX3_isAlive cX3_isAlive 3 (some .boolean) ⟨0, 0, 0, 0⟩ 0 0 s_X3_isAlive := by
  intro hl
  exact eg_met_of (k := k_X3_isAlive) (by decide) rfl ⟨Nat.le_refl _, Nat.le_refl _⟩ rfl sz_X3_isAlive de_X3_isAlive (fun meth hn => (fc (eg_FL_of wd_c3 (by decide) lf_RX3_21 (fun h => absurd h (by decide))) (fc (eg_FL_of wd_c3 (by decide) lf_RX3_50 (fun h => absurd h (by decide))) (fc (eg_FL_of wd_c0 (by decide) lf_RX3_146 (fun h => absurd h (by decide))) (fn))))) (fun A s H hE => (fn)) (fun p e s m args below meth c Q A ad0 N0 S0 hK hEx hA => (fn)) (fun p e s m args below meth c Qc XC A ad0 N0 P S0 hK hEx hA hlk hout hPX => (fn)) (fun argv M Qp h => T_X3_isAlive h)

def k_X3_holds : eg_C := ([(0, .aload_n 0, 1), (1, .getfield 28, 3), (4, .getfield 113, 3), (7, .iload_n 1, 1), (8, .iaload, 1), (9, .ifCond .ne 11, 3), (12, .aload_n 0, 1), (13, .iload_n 1, 1), (14, .invokevirtual 116, 3), (17, .goto 9, 3), (20, .aload_n 0, 1), (21, .getfield 54, 3), (24, .iload_n 1, 1), (25, .baload, 1), (26, .ireturn, 1)], [(28, 3, 2, false), (54, 3, 7, false), (113, 1, 0, false)], [], [(116, 1 + 1, 0, 0, s_X3_isKnown)], [], 2, 0, 0)
theorem mk_X3_holds : ∀ q ∈ k_X3_holds.2.2.2.1, eg_mono q.2.2.2.2 := (fc (mo_X3_isKnown) (fn))
def s_X3_holds : eg_S := fun argv M Qp => match argv with
  | [.ref 1, .int a] => ((vp_in a 200) ∧ (((eg_gi M 13 a.toNatClampNeg) = 0) → ((vp_in a 200))) ∧ ((¬ (eg_gi M 13 a.toNatClampNeg) = 0) → ((eg_gi M 35 a.toNatClampNeg) = 0 ∨ (eg_gi M 35 a.toNatClampNeg) = 1))) ∧ Qp (.inl (some (.int (if (eg_gi M 13 a.toNatClampNeg) = 0 then (b2i (decide (¬ (eg_gi M 1 4) < (eg_gi M 20 a.toNatClampNeg) ∧ ¬ (eg_gi M 21 a.toNatClampNeg) ≤ (eg_gi M 1 4)))) else (eg_gi M 35 a.toNatClampNeg))))) M
  | _ => False
theorem mo_X3_holds : eg_mono s_X3_holds := by
  intro argv M Q Q' h
  unfold s_X3_holds
  split
  · exact fun z => ⟨z.1, h _ _ z.2⟩
  · exact id
theorem sz_X3_holds : ∀ argv M Qp, s_X3_holds argv M Qp → (eg_ls0 argv).length ≤ 2 := by
  intro argv M Qp h
  unfold s_X3_holds at h
  split at h
  · exact Nat.le_of_ble_eq_true rfl
  · exact h.elim
theorem sr_X3_holds : ∀ argv M Qp, s_X3_holds argv M Qp → ∃ p0 As, argv = .ref p0 :: As ∧ eg_isO wd M p0 3 = true := by
  intro argv M Qp h
  unfold s_X3_holds at h
  split at h
  · exact ⟨_, _, rfl, rfl⟩
  · exact h.elim
set_option maxRecDepth 100000 in
theorem T_X3_holds {argv : List Value} {M : eg_M} {Qp : eg_P} (h : s_X3_holds argv M Qp) : eg_T wd k_X3_holds Qp 0 0 0 (eg_lsN 2 argv) [] M := by
  unfold s_X3_holds at h
  split at h
  · rename_i a
    obtain ⟨hp, hq⟩ := h
    refine eg_T_run mk_X3_holds (cut := []) 20 ?_
    refine And.intro (show vp_in a 200 from ?_) ?_
    · exact hp.1
    refine And.intro (fun (c1 : (eg_gi M 13 a.toNatClampNeg) = 0) => ?_) (fun (c1 : ¬ (eg_gi M 13 a.toNatClampNeg) = 0) => ?_)
    · skip
      refine And.intro (show ((vp_in a 200)) from ?_) ?_
      · exact hp.2.1 c1
      refine And.intro (fun _ => (show (b2i (decide (¬ (eg_gi M 1 4) < (eg_gi M 20 a.toNatClampNeg) ∧ ¬ (eg_gi M 21 a.toNatClampNeg) ≤ (eg_gi M 1 4)))) = 0 ∨ (b2i (decide (¬ (eg_gi M 1 4) < (eg_gi M 20 a.toNatClampNeg) ∧ ¬ (eg_gi M 21 a.toNatClampNeg) ≤ (eg_gi M 1 4)))) = 1 from ?_)) ?_
      · exact b2i_01 _
      show Qp (.inl (some (.int (b2i (decide (¬ (eg_gi M 1 4) < (eg_gi M 20 a.toNatClampNeg) ∧ ¬ (eg_gi M 21 a.toNatClampNeg) ≤ (eg_gi M 1 4))))))) M
      rw [if_pos c1] at hq
      exact hq
    · skip
      refine And.intro (show vp_in a 200 from ?_) ?_
      · exact hp.1
      refine And.intro (fun _ => (show (eg_gi M 35 a.toNatClampNeg) = 0 ∨ (eg_gi M 35 a.toNatClampNeg) = 1 from ?_)) ?_
      · exact hp.2.2 c1
      show Qp (.inl (some (.int (eg_gi M 35 a.toNatClampNeg)))) M
      rw [if_neg c1] at hq
      exact hq
  · exact h.elim
theorem de_X3_holds : ∀ q ∈ k_X3_holds.1, decode cX3_holds q.1 = .ok q.2 := by decide +kernel
theorem me_X3_holds (g : gl_T) : MT g yX3_holds cX3_holds 2 (some .boolean) ⟨1, 0, 0, 21⟩ 0 0 s_X3_holds := by
  intro hl
  exact eg_met_of (k := k_X3_holds) (by decide) rfl ⟨Nat.le_refl _, Nat.le_refl _⟩ rfl sz_X3_holds de_X3_holds (fun meth hn => (fc (eg_FL_of wd_c3 (by decide) lf_RX3_28 (fun h => absurd h (by decide))) (fc (eg_FL_of wd_c3 (by decide) lf_RX3_54 (fun h => absurd h (by decide))) (fc (eg_FL_of wd_c1 (by decide) lf_RX3_113 (fun h => absurd h (by decide))) (fn))))) (fun A s H hE => (fn)) (fun p e s m args below meth c Q A ad0 N0 S0 hK hEx hA => (fc (mt_V hl S0 hK hEx hA (me_X3_isKnown g) lm_RX3_116 li_X3_isKnown lx_X3_isKnown ln_RX3 lc_X3_isKnown ⟨rfl, by decide, by decide, by decide +kernel⟩ ⟨rfl, rfl⟩ ⟨by decide, by decide⟩ (ci := 3) rfl rfl sr_X3_isKnown (by decide)) (fn))) (fun p e s m args below meth c Qc XC A ad0 N0 P S0 hK hEx hA hlk hout hPX => (fn)) (fun argv M Qp h => T_X3_holds h)

def k_X3_upTo : eg_C := ([(0, .iload_n 1, 1), (1, .iconst (-1), 1), (2, .if_icmp .ne 7, 3), (5, .iconst 0, 1), (6, .goto 11, 3), (9, .aload_n 0, 1), (10, .getfield 61, 3), (13, .iload_n 1, 1), (14, .iaload, 1), (15, .iconst 1, 1), (16, .iadd, 1), (17, .ireturn, 1)], [(61, 3, 9, false)], [], [], [], 1, 0, 0)
theorem mk_X3_upTo : ∀ q ∈ k_X3_upTo.2.2.2.1, eg_mono q.2.2.2.2 := (fn)
def s_X3_upTo : eg_S := fun argv M Qp => match argv with
  | [.ref 1, .int a] => (((¬ a = (-nI 1)) → vp_in a 200)) ∧ Qp (.inl (some (.int (if a = (-nI 1) then (nI 0) else ((eg_gi M 37 a.toNatClampNeg) + (nI 1)))))) M
  | _ => False
theorem mo_X3_upTo : eg_mono s_X3_upTo := by
  intro argv M Q Q' h
  unfold s_X3_upTo
  split
  · exact fun z => ⟨z.1, h _ _ z.2⟩
  · exact id
theorem sz_X3_upTo : ∀ argv M Qp, s_X3_upTo argv M Qp → (eg_ls0 argv).length ≤ 2 := by
  intro argv M Qp h
  unfold s_X3_upTo at h
  split at h
  · exact Nat.le_of_ble_eq_true rfl
  · exact h.elim
theorem sr_X3_upTo : ∀ argv M Qp, s_X3_upTo argv M Qp → ∃ p0 As, argv = .ref p0 :: As ∧ eg_isO wd M p0 3 = true := by
  intro argv M Qp h
  unfold s_X3_upTo at h
  split at h
  · exact ⟨_, _, rfl, rfl⟩
  · exact h.elim
set_option maxRecDepth 100000 in
theorem T_X3_upTo {argv : List Value} {M : eg_M} {Qp : eg_P} (h : s_X3_upTo argv M Qp) : eg_T wd k_X3_upTo Qp 0 0 0 (eg_lsN 2 argv) [] M := by
  unfold s_X3_upTo at h
  split at h
  · rename_i a
    obtain ⟨hp, hq⟩ := h
    refine eg_T_run mk_X3_upTo (cut := []) 17 ?_
    refine And.intro (fun (c1 : a = (-nI 1)) => ?_) (fun (c1 : ¬ a = (-nI 1)) => ?_)
    · skip
      refine And.intro (fun z => absurd z (by decide)) ?_
      show Qp (.inl (some (.int (nI 0)))) M
      rw [if_pos c1] at hq
      exact hq
    · skip
      refine And.intro (show vp_in a 200 from ?_) ?_
      · exact hp c1
      refine And.intro (fun z => absurd z (by decide)) ?_
      show Qp (.inl (some (.int ((eg_gi M 37 a.toNatClampNeg) + (nI 1))))) M
      rw [if_neg c1] at hq
      exact hq
  · exact h.elim
theorem de_X3_upTo : ∀ q ∈ k_X3_upTo.1, decode cX3_upTo q.1 = .ok q.2 := by decide +kernel
theorem me_X3_upTo (g : gl_T) : MT g yX3_upTo cX3_upTo 2 (some .int) ⟨0, 0, 0, 0⟩ 0 0 s_X3_upTo := by
  intro hl
  exact eg_met_of (k := k_X3_upTo) (by decide) rfl ⟨Nat.le_refl _, Nat.le_refl _⟩ rfl sz_X3_upTo de_X3_upTo (fun meth hn => (fc (eg_FL_of wd_c3 (by decide) lf_RX3_61 (fun h => absurd h (by decide))) (fn))) (fun A s H hE => (fn)) (fun p e s m args below meth c Q A ad0 N0 S0 hK hEx hA => (fn)) (fun p e s m args below meth c Qc XC A ad0 N0 P S0 hK hEx hA hlk hout hPX => (fn)) (fun argv M Qp h => T_X3_upTo h)

def k_X3_turnAfter : eg_C := ([(0, .iload_n 1, 1), (1, .iconst (-1), 1), (2, .if_icmp .ne 7, 3), (5, .iconst 0, 1), (6, .goto 14, 3), (9, .iconst 1, 1), (10, .aload_n 0, 1), (11, .getfield 28, 3), (14, .getfield 160, 3), (17, .iload_n 1, 1), (18, .iaload, 1), (19, .isub, 1), (20, .ireturn, 1)], [(28, 3, 2, false), (160, 1, 3, false)], [], [], [], 1, 0, 0)
theorem mk_X3_turnAfter : ∀ q ∈ k_X3_turnAfter.2.2.2.1, eg_mono q.2.2.2.2 := (fn)
def s_X3_turnAfter : eg_S := fun argv M Qp => match argv with
  | [.ref 1, .int a] => (((¬ a = (-nI 1)) → vp_in a 200)) ∧ Qp (.inl (some (.int (if a = (-nI 1) then (nI 0) else ((nI 1) - (eg_gi M 16 a.toNatClampNeg)))))) M
  | _ => False
theorem mo_X3_turnAfter : eg_mono s_X3_turnAfter := by
  intro argv M Q Q' h
  unfold s_X3_turnAfter
  split
  · exact fun z => ⟨z.1, h _ _ z.2⟩
  · exact id
theorem sz_X3_turnAfter : ∀ argv M Qp, s_X3_turnAfter argv M Qp → (eg_ls0 argv).length ≤ 2 := by
  intro argv M Qp h
  unfold s_X3_turnAfter at h
  split at h
  · exact Nat.le_of_ble_eq_true rfl
  · exact h.elim
theorem sr_X3_turnAfter : ∀ argv M Qp, s_X3_turnAfter argv M Qp → ∃ p0 As, argv = .ref p0 :: As ∧ eg_isO wd M p0 3 = true := by
  intro argv M Qp h
  unfold s_X3_turnAfter at h
  split at h
  · exact ⟨_, _, rfl, rfl⟩
  · exact h.elim
set_option maxRecDepth 100000 in
theorem T_X3_turnAfter {argv : List Value} {M : eg_M} {Qp : eg_P} (h : s_X3_turnAfter argv M Qp) : eg_T wd k_X3_turnAfter Qp 0 0 0 (eg_lsN 2 argv) [] M := by
  unfold s_X3_turnAfter at h
  split at h
  · rename_i a
    obtain ⟨hp, hq⟩ := h
    refine eg_T_run mk_X3_turnAfter (cut := []) 18 ?_
    refine And.intro (fun (c1 : a = (-nI 1)) => ?_) (fun (c1 : ¬ a = (-nI 1)) => ?_)
    · skip
      refine And.intro (fun z => absurd z (by decide)) ?_
      show Qp (.inl (some (.int (nI 0)))) M
      rw [if_pos c1] at hq
      exact hq
    · skip
      refine And.intro (show vp_in a 200 from ?_) ?_
      · exact hp c1
      refine And.intro (fun z => absurd z (by decide)) ?_
      show Qp (.inl (some (.int ((nI 1) - (eg_gi M 16 a.toNatClampNeg))))) M
      rw [if_neg c1] at hq
      exact hq
  · exact h.elim
theorem de_X3_turnAfter : ∀ q ∈ k_X3_turnAfter.1, decode cX3_turnAfter q.1 = .ok q.2 := by decide +kernel
theorem me_X3_turnAfter (g : gl_T) : MT g yX3_turnAfter cX3_turnAfter 2 (some .int) ⟨0, 0, 0, 0⟩ 0 0 s_X3_turnAfter := by
  intro hl
  exact eg_met_of (k := k_X3_turnAfter) (by decide) rfl ⟨Nat.le_refl _, Nat.le_refl _⟩ rfl sz_X3_turnAfter de_X3_turnAfter (fun meth hn => (fc (eg_FL_of wd_c3 (by decide) lf_RX3_28 (fun h => absurd h (by decide))) (fc (eg_FL_of wd_c1 (by decide) lf_RX3_160 (fun h => absurd h (by decide))) (fn)))) (fun A s H hE => (fn)) (fun p e s m args below meth c Q A ad0 N0 S0 hK hEx hA => (fn)) (fun p e s m args below meth c Qc XC A ad0 N0 P S0 hK hEx hA hlk hout hPX => (fn)) (fun argv M Qp h => T_X3_turnAfter h)

def k_X3_costOf : eg_C := ([(0, .aload_n 0, 1), (1, .getfield 28, 3), (4, .getfield 180, 3), (7, .iload_n 1, 1), (8, .iaload, 1), (9, .i2l, 1), (10, .aload_n 0, 1), (11, .getfield 28, 3), (14, .getfield 183, 3), (17, .iload_n 1, 1), (18, .iaload, 1), (19, .i2l, 1), (20, .lmul, 1), (21, .aload_n 0, 1), (22, .getfield 47, 3), (25, .getfield 199, 3), (28, .i2l, 1), (29, .lmul, 1), (30, .lreturn, 1)], [(28, 3, 2, false), (47, 3, 5, false), (180, 1, 2, false), (183, 1, 4, false), (199, 8, 2, false)], [], [], [], 3, 0, 0)
def s_X3_costOf : eg_S := eg_auto wd k_X3_costOf 2 (some 3) 21
theorem mk_X3_costOf : ∀ q ∈ k_X3_costOf.2.2.2.1, eg_mono q.2.2.2.2 := (fn)
theorem mo_X3_costOf : eg_mono s_X3_costOf := eg_auto_mono mk_X3_costOf
theorem de_X3_costOf : ∀ q ∈ k_X3_costOf.1, decode cX3_costOf q.1 = .ok q.2 := by decide +kernel
theorem me_X3_costOf (g : gl_T) : MT g yX3_costOf cX3_costOf 2 (some .long) ⟨0, 0, 0, 0⟩ 0 0 s_X3_costOf := by
  intro hl
  exact eg_met_of (k := k_X3_costOf) (by decide) rfl ⟨Nat.le_refl _, Nat.le_refl _⟩ rfl eg_auto_len de_X3_costOf (fun meth hn => (fc (eg_FL_of wd_c3 (by decide) lf_RX3_28 (fun h => absurd h (by decide))) (fc (eg_FL_of wd_c3 (by decide) lf_RX3_47 (fun h => absurd h (by decide))) (fc (eg_FL_of wd_c1 (by decide) lf_RX3_180 (fun h => absurd h (by decide))) (fc (eg_FL_of wd_c1 (by decide) lf_RX3_183 (fun h => absurd h (by decide))) (fc (eg_FL_of wd_c8 (by decide) lf_RX3_199 (fun h => absurd h (by decide))) (fn))))))) (fun A s H hE => (fn)) (fun p e s m args below meth c Q A ad0 N0 S0 hK hEx hA => (fn)) (fun p e s m args below meth c Qc XC A ad0 N0 P S0 hK hEx hA hlk hout hPX => (fn)) (fun argv M Qp h => eg_auto_T mk_X3_costOf h)

def k_X3_borneBy : eg_C := ([(0, .aload_n 0, 1), (1, .iload_n 2, 1), (2, .invokevirtual 227, 3), (5, .lstore_n 3, 1), (6, .lload_n 3, 1), (7, .ldc2_w 230, 3), (10, .ldiv, 1), (11, .lstore 5, 2), (13, .aload_n 0, 1), (14, .getfield 28, 3), (17, .getfield 160, 3), (20, .iload_n 2, 1), (21, .iaload, 1), (22, .iload_n 1, 1), (23, .if_icmp .ne 17, 3), (26, .lload_n 3, 1), (27, .lload 5, 2), (29, .lsub, 1), (30, .aload_n 0, 1), (31, .getfield 77, 3), (34, .iload_n 2, 1), (35, .laload, 1), (36, .lsub, 1), (37, .goto 5, 3), (40, .lload 5, 2), (42, .lreturn, 1)], [(28, 3, 2, false), (77, 3, 14, false), (160, 1, 3, false)], [(230, .long (lN 2))], [(227, 1 + 1, 0, 0, s_X3_costOf)], [], 3, 0, 0)
def s_X3_borneBy : eg_S := eg_auto wd k_X3_borneBy 7 (some 3) 28
theorem mk_X3_borneBy : ∀ q ∈ k_X3_borneBy.2.2.2.1, eg_mono q.2.2.2.2 := (fc (mo_X3_costOf) (fn))
theorem mo_X3_borneBy : eg_mono s_X3_borneBy := eg_auto_mono mk_X3_borneBy
theorem de_X3_borneBy : ∀ q ∈ k_X3_borneBy.1, decode cX3_borneBy q.1 = .ok q.2 := by decide +kernel
theorem me_X3_borneBy (g : gl_T) : MT g yX3_borneBy cX3_borneBy 7 (some .long) ⟨1, 0, 0, 21⟩ 0 0 s_X3_borneBy := by
  intro hl
  exact eg_met_of (k := k_X3_borneBy) (by decide) rfl ⟨Nat.le_refl _, Nat.le_refl _⟩ rfl eg_auto_len de_X3_borneBy (fun meth hn => (fc (eg_FL_of wd_c3 (by decide) lf_RX3_28 (fun h => absurd h (by decide))) (fc (eg_FL_of wd_c3 (by decide) lf_RX3_77 (fun h => absurd h (by decide))) (fc (eg_FL_of wd_c1 (by decide) lf_RX3_160 (fun h => absurd h (by decide))) (fn))))) (fun A s H hE => (fc (List.mem_cons_of_mem _ ll_RX3_230) (fn))) (fun p e s m args below meth c Q A ad0 N0 S0 hK hEx hA => (fc (mt_V hl S0 hK hEx hA (me_X3_costOf g) lm_RX3_227 li_X3_costOf lx_X3_costOf ln_RX3 lc_X3_costOf ⟨rfl, by decide, by decide, by decide +kernel⟩ ⟨rfl, rfl⟩ ⟨by decide, by decide⟩ (ci := 3) rfl rfl eg_auto_rec (by decide)) (fn))) (fun p e s m args below meth c Qc XC A ad0 N0 P S0 hK hEx hA hlk hout hPX => (fn)) (fun argv M Qp h => eg_auto_T mk_X3_borneBy h)

def k_X4_dismiss : eg_C := ([(0, .aload_n 0, 1), (1, .iconst 0, 1), (2, .putfield 11, 3), (5, .aload_n 0, 1), (6, .iconst 0, 1), (7, .putfield 29, 3), (10, .return_, 1)], [(11, 4, 0, true), (29, 4, 5, true)], [], [], [], 0, 0, 0)
def s_X4_dismiss : eg_S := eg_auto wd k_X4_dismiss 1 (some 4) 9
theorem mk_X4_dismiss : ∀ q ∈ k_X4_dismiss.2.2.2.1, eg_mono q.2.2.2.2 := (fn)
theorem mo_X4_dismiss : eg_mono s_X4_dismiss := eg_auto_mono mk_X4_dismiss
theorem de_X4_dismiss : ∀ q ∈ k_X4_dismiss.1, decode cX4_dismiss q.1 = .ok q.2 := by decide +kernel
theorem me_X4_dismiss (g : gl_T) : MT g yX4_dismiss cX4_dismiss 1 none ⟨0, 0, 0, 0⟩ 0 0 s_X4_dismiss := by
  intro hl
  exact eg_met_of (k := k_X4_dismiss) (by decide) rfl ⟨Nat.le_refl _, Nat.le_refl _⟩ rfl eg_auto_len de_X4_dismiss (fun meth hn => (fc (eg_FL_of wd_c4 (by decide) lf_RX4_11 (fun _ => Or.inl rfl)) (fc (eg_FL_of wd_c4 (by decide) lf_RX4_29 (fun _ => Or.inl rfl)) (fn)))) (fun A s H hE => (fn)) (fun p e s m args below meth c Q A ad0 N0 S0 hK hEx hA => (fn)) (fun p e s m args below meth c Qc XC A ad0 N0 P S0 hK hEx hA hlk hout hPX => (fn)) (fun argv M Qp h => eg_auto_T mk_X4_dismiss h)

def k_X4_addHome : eg_C := ([(0, .aload_n 0, 1), (1, .getfield 11, 3), (4, .bipush 6, 2), (6, .if_icmp .lt 5, 3), (9, .iconst (-1), 1), (10, .ireturn, 1), (11, .aload_n 0, 1), (12, .getfield 15, 3), (15, .aload_n 0, 1), (16, .getfield 11, 3), (19, .iload_n 1, 1), (20, .iastore, 1), (21, .aload_n 0, 1), (22, .getfield 19, 3), (25, .aload_n 0, 1), (26, .getfield 11, 3), (29, .iload_n 2, 1), (30, .iastore, 1), (31, .aload_n 0, 1), (32, .getfield 22, 3), (35, .aload_n 0, 1), (36, .getfield 11, 3), (39, .iload_n 3, 1), (40, .bastore, 1), (41, .aload_n 0, 1), (42, .getfield 26, 3), (45, .aload_n 0, 1), (46, .getfield 11, 3), (49, .iload 4, 2), (51, .iastore, 1), (52, .aload_n 0, 1), (53, .dup, 1), (54, .getfield 11, 3), (57, .dup_x1, 1), (58, .iconst 1, 1), (59, .iadd, 1), (60, .putfield 11, 3), (63, .ireturn, 1)], [(11, 4, 0, true), (15, 4, 1, false), (19, 4, 2, false), (22, 4, 3, false), (26, 4, 4, false)], [], [], [], 1, 0, 0)
def s_X4_addHome : eg_S := eg_auto wd k_X4_addHome 5 (some 4) 40
theorem mk_X4_addHome : ∀ q ∈ k_X4_addHome.2.2.2.1, eg_mono q.2.2.2.2 := (fn)
theorem mo_X4_addHome : eg_mono s_X4_addHome := eg_auto_mono mk_X4_addHome
theorem de_X4_addHome : ∀ q ∈ k_X4_addHome.1, decode cX4_addHome q.1 = .ok q.2 := by decide +kernel
theorem me_X4_addHome (g : gl_T) : MT g yX4_addHome cX4_addHome 5 (some .int) ⟨0, 0, 0, 0⟩ 0 0 s_X4_addHome := by
  intro hl
  exact eg_met_of (k := k_X4_addHome) (by decide) rfl ⟨Nat.le_refl _, Nat.le_refl _⟩ rfl eg_auto_len de_X4_addHome (fun meth hn => (fc (eg_FL_of wd_c4 (by decide) lf_RX4_11 (fun _ => Or.inl rfl)) (fc (eg_FL_of wd_c4 (by decide) lf_RX4_15 (fun h => absurd h (by decide))) (fc (eg_FL_of wd_c4 (by decide) lf_RX4_19 (fun h => absurd h (by decide))) (fc (eg_FL_of wd_c4 (by decide) lf_RX4_22 (fun h => absurd h (by decide))) (fc (eg_FL_of wd_c4 (by decide) lf_RX4_26 (fun h => absurd h (by decide))) (fn))))))) (fun A s H hE => (fn)) (fun p e s m args below meth c Q A ad0 N0 S0 hK hEx hA => (fn)) (fun p e s m args below meth c Qc XC A ad0 N0 P S0 hK hEx hA hlk hout hPX => (fn)) (fun argv M Qp h => eg_auto_T mk_X4_addHome h)

def k_X4_addGuest : eg_C := ([(0, .aload_n 0, 1), (1, .getfield 29, 3), (4, .bipush 8, 2), (6, .if_icmp .lt 5, 3), (9, .iconst (-1), 1), (10, .ireturn, 1), (11, .aload_n 0, 1), (12, .getfield 32, 3), (15, .aload_n 0, 1), (16, .getfield 29, 3), (19, .iload_n 1, 1), (20, .iastore, 1), (21, .aload_n 0, 1), (22, .getfield 35, 3), (25, .aload_n 0, 1), (26, .getfield 29, 3), (29, .iload_n 2, 1), (30, .iastore, 1), (31, .aload_n 0, 1), (32, .getfield 38, 3), (35, .aload_n 0, 1), (36, .getfield 29, 3), (39, .iload_n 3, 1), (40, .bastore, 1), (41, .aload_n 0, 1), (42, .dup, 1), (43, .getfield 29, 3), (46, .dup_x1, 1), (47, .iconst 1, 1), (48, .iadd, 1), (49, .putfield 29, 3), (52, .ireturn, 1)], [(29, 4, 5, true), (32, 4, 6, false), (35, 4, 7, false), (38, 4, 8, false)], [], [], [], 1, 0, 0)
def s_X4_addGuest : eg_S := eg_auto wd k_X4_addGuest 4 (some 4) 34
theorem mk_X4_addGuest : ∀ q ∈ k_X4_addGuest.2.2.2.1, eg_mono q.2.2.2.2 := (fn)
theorem mo_X4_addGuest : eg_mono s_X4_addGuest := eg_auto_mono mk_X4_addGuest
theorem de_X4_addGuest : ∀ q ∈ k_X4_addGuest.1, decode cX4_addGuest q.1 = .ok q.2 := by decide +kernel
theorem me_X4_addGuest (g : gl_T) : MT g yX4_addGuest cX4_addGuest 4 (some .int) ⟨0, 0, 0, 0⟩ 0 0 s_X4_addGuest := by
  intro hl
  exact eg_met_of (k := k_X4_addGuest) (by decide) rfl ⟨Nat.le_refl _, Nat.le_refl _⟩ rfl eg_auto_len de_X4_addGuest (fun meth hn => (fc (eg_FL_of wd_c4 (by decide) lf_RX4_29 (fun _ => Or.inl rfl)) (fc (eg_FL_of wd_c4 (by decide) lf_RX4_32 (fun h => absurd h (by decide))) (fc (eg_FL_of wd_c4 (by decide) lf_RX4_35 (fun h => absurd h (by decide))) (fc (eg_FL_of wd_c4 (by decide) lf_RX4_38 (fun h => absurd h (by decide))) (fn)))))) (fun A s H hE => (fn)) (fun p e s m args below meth c Q A ad0 N0 S0 hK hEx hA => (fn)) (fun p e s m args below meth c Qc XC A ad0 N0 P S0 hK hEx hA hlk hout hPX => (fn)) (fun argv M Qp h => eg_auto_T mk_X4_addGuest h)

def k_X4_likingOf : eg_C := ([(0, .aload_n 0, 1), (1, .getfield 32, 3), (4, .iload_n 1, 1), (5, .iaload, 1), (6, .aload_n 0, 1), (7, .getfield 19, 3), (10, .iload_n 2, 1), (11, .iaload, 1), (12, .iand, 1), (13, .invokestatic 57, 3), (16, .istore_n 3, 1), (17, .iload_n 3, 1), (18, .ifCond .eq 21, 3), (21, .aload_n 0, 1), (22, .getfield 22, 3), (25, .iload_n 2, 1), (26, .baload, 1), (27, .ifCond .eq 14, 3), (30, .aload_n 0, 1), (31, .getfield 38, 3), (34, .iload_n 1, 1), (35, .baload, 1), (36, .ifCond .ne 5, 3), (39, .iconst (-1), 1), (40, .ireturn, 1), (41, .iconst 3, 1), (42, .iload_n 3, 1), (43, .imul, 1), (44, .iconst 0, 1), (45, .bipush 10, 2), (47, .aload_n 0, 1), (48, .getfield 35, 3), (51, .iload_n 1, 1), (52, .iaload, 1), (53, .aload_n 0, 1), (54, .getfield 26, 3), (57, .iload_n 2, 1), (58, .iaload, 1), (59, .isub, 1), (60, .invokestatic 63, 3), (63, .isub, 1), (64, .invokestatic 68, 3), (67, .iadd, 1), (68, .ireturn, 1)], [(19, 4, 2, false), (22, 4, 3, false), (26, 4, 4, false), (32, 4, 6, false), (35, 4, 7, false), (38, 4, 8, false)], [], [(57 + 100000, 1, 0, 0, s_J6_bitCount_0f7a4), (63 + 100000, 1, 0, 0, s_J9_abs_0f7a4), (68 + 100000, 2, 0, 0, s_J9_max_7cf53)], [], 1, 0, 0)
theorem mk_X4_likingOf : ∀ q ∈ k_X4_likingOf.2.2.2.1, eg_mono q.2.2.2.2 := (fc (mo_J6_bitCount_0f7a4) (fc (mo_J9_abs_0f7a4) (fc (mo_J9_max_7cf53) (fn))))
def s_X4_likingOf : eg_S := fun argv M Qp => match argv with
  | [.ref 46, .int a, .int b] => ((vp_in a 8) ∧ (vp_in b 6)) ∧ Qp (.inl (some (.int (if (bc ((eg_gi M 51 a.toNatClampNeg) &&& (eg_gi M 48 b.toNatClampNeg))) = 0 then (-nI 1) else (if (eg_gi M 49 b.toNatClampNeg) = 0 then (((nI 3) * (bc ((eg_gi M 51 a.toNatClampNeg) &&& (eg_gi M 48 b.toNatClampNeg)))) + (if (nI 0) < ((nI 10) - (if 0 ≤ ((eg_gi M 52 a.toNatClampNeg) - (eg_gi M 50 b.toNatClampNeg)) then ((eg_gi M 52 a.toNatClampNeg) - (eg_gi M 50 b.toNatClampNeg)) else 0 - ((eg_gi M 52 a.toNatClampNeg) - (eg_gi M 50 b.toNatClampNeg)))) then ((nI 10) - (if 0 ≤ ((eg_gi M 52 a.toNatClampNeg) - (eg_gi M 50 b.toNatClampNeg)) then ((eg_gi M 52 a.toNatClampNeg) - (eg_gi M 50 b.toNatClampNeg)) else 0 - ((eg_gi M 52 a.toNatClampNeg) - (eg_gi M 50 b.toNatClampNeg)))) else (nI 0))) else (if (eg_gi M 53 a.toNatClampNeg) = 0 then (-nI 1) else (((nI 3) * (bc ((eg_gi M 51 a.toNatClampNeg) &&& (eg_gi M 48 b.toNatClampNeg)))) + (if (nI 0) < ((nI 10) - (if 0 ≤ ((eg_gi M 52 a.toNatClampNeg) - (eg_gi M 50 b.toNatClampNeg)) then ((eg_gi M 52 a.toNatClampNeg) - (eg_gi M 50 b.toNatClampNeg)) else 0 - ((eg_gi M 52 a.toNatClampNeg) - (eg_gi M 50 b.toNatClampNeg)))) then ((nI 10) - (if 0 ≤ ((eg_gi M 52 a.toNatClampNeg) - (eg_gi M 50 b.toNatClampNeg)) then ((eg_gi M 52 a.toNatClampNeg) - (eg_gi M 50 b.toNatClampNeg)) else 0 - ((eg_gi M 52 a.toNatClampNeg) - (eg_gi M 50 b.toNatClampNeg)))) else (nI 0))))))))) M
  | _ => False
theorem mo_X4_likingOf : eg_mono s_X4_likingOf := by
  intro argv M Q Q' h
  unfold s_X4_likingOf
  split
  · exact fun z => ⟨z.1, h _ _ z.2⟩
  · exact id
theorem sz_X4_likingOf : ∀ argv M Qp, s_X4_likingOf argv M Qp → (eg_ls0 argv).length ≤ 4 := by
  intro argv M Qp h
  unfold s_X4_likingOf at h
  split at h
  · exact Nat.le_of_ble_eq_true rfl
  · exact h.elim
theorem sr_X4_likingOf : ∀ argv M Qp, s_X4_likingOf argv M Qp → ∃ p0 As, argv = .ref p0 :: As ∧ eg_isO wd M p0 4 = true := by
  intro argv M Qp h
  unfold s_X4_likingOf at h
  split at h
  · exact ⟨_, _, rfl, rfl⟩
  · exact h.elim
set_option maxRecDepth 100000 in
theorem T_X4_likingOf {argv : List Value} {M : eg_M} {Qp : eg_P} (h : s_X4_likingOf argv M Qp) : eg_T wd k_X4_likingOf Qp 0 0 0 (eg_lsN 4 argv) [] M := by
  unfold s_X4_likingOf at h
  split at h
  · rename_i a b
    obtain ⟨hp, hq⟩ := h
    refine eg_T_run mk_X4_likingOf (cut := []) 49 ?_
    refine And.intro (show vp_in a 8 from ?_) ?_
    · exact hp.1
    refine And.intro (show vp_in b 6 from ?_) ?_
    · exact hp.2
    refine And.intro (show (True) from ?_) ?_
    · exact trivial
    refine And.intro (fun (c1 : (bc ((eg_gi M 51 a.toNatClampNeg) &&& (eg_gi M 48 b.toNatClampNeg))) = 0) => ?_) (fun (c1 : ¬ (bc ((eg_gi M 51 a.toNatClampNeg) &&& (eg_gi M 48 b.toNatClampNeg))) = 0) => ?_)
    · skip
      refine And.intro (fun z => absurd z (by decide)) ?_
      show Qp (.inl (some (.int (-nI 1)))) M
      rw [if_pos c1] at hq
      exact hq
    · skip
      refine And.intro (show vp_in b 6 from ?_) ?_
      · exact hp.2
      refine And.intro (fun (c2 : (eg_gi M 49 b.toNatClampNeg) = 0) => ?_) (fun (c2 : ¬ (eg_gi M 49 b.toNatClampNeg) = 0) => ?_)
      · skip
        refine And.intro (show vp_in a 8 from ?_) ?_
        · exact hp.1
        refine And.intro (show vp_in b 6 from ?_) ?_
        · exact hp.2
        refine And.intro (fun z => absurd z (by decide)) ?_
        show Qp (.inl (some (.int (((nI 3) * (bc ((eg_gi M 51 a.toNatClampNeg) &&& (eg_gi M 48 b.toNatClampNeg)))) + (if (nI 0) < ((nI 10) - (if 0 ≤ ((eg_gi M 52 a.toNatClampNeg) - (eg_gi M 50 b.toNatClampNeg)) then ((eg_gi M 52 a.toNatClampNeg) - (eg_gi M 50 b.toNatClampNeg)) else 0 - ((eg_gi M 52 a.toNatClampNeg) - (eg_gi M 50 b.toNatClampNeg)))) then ((nI 10) - (if 0 ≤ ((eg_gi M 52 a.toNatClampNeg) - (eg_gi M 50 b.toNatClampNeg)) then ((eg_gi M 52 a.toNatClampNeg) - (eg_gi M 50 b.toNatClampNeg)) else 0 - ((eg_gi M 52 a.toNatClampNeg) - (eg_gi M 50 b.toNatClampNeg)))) else (nI 0)))))) M
        rw [if_neg c1] at hq
        rw [if_pos c2] at hq
        exact hq
      · skip
        refine And.intro (show vp_in a 8 from ?_) ?_
        · exact hp.1
        refine And.intro (fun (c3 : (eg_gi M 53 a.toNatClampNeg) = 0) => ?_) (fun (c3 : ¬ (eg_gi M 53 a.toNatClampNeg) = 0) => ?_)
        · skip
          refine And.intro (fun z => absurd z (by decide)) ?_
          show Qp (.inl (some (.int (-nI 1)))) M
          rw [if_neg c1] at hq
          rw [if_neg c2] at hq
          rw [if_pos c3] at hq
          exact hq
        · skip
          refine And.intro (show vp_in a 8 from ?_) ?_
          · exact hp.1
          refine And.intro (show vp_in b 6 from ?_) ?_
          · exact hp.2
          refine And.intro (fun z => absurd z (by decide)) ?_
          show Qp (.inl (some (.int (((nI 3) * (bc ((eg_gi M 51 a.toNatClampNeg) &&& (eg_gi M 48 b.toNatClampNeg)))) + (if (nI 0) < ((nI 10) - (if 0 ≤ ((eg_gi M 52 a.toNatClampNeg) - (eg_gi M 50 b.toNatClampNeg)) then ((eg_gi M 52 a.toNatClampNeg) - (eg_gi M 50 b.toNatClampNeg)) else 0 - ((eg_gi M 52 a.toNatClampNeg) - (eg_gi M 50 b.toNatClampNeg)))) then ((nI 10) - (if 0 ≤ ((eg_gi M 52 a.toNatClampNeg) - (eg_gi M 50 b.toNatClampNeg)) then ((eg_gi M 52 a.toNatClampNeg) - (eg_gi M 50 b.toNatClampNeg)) else 0 - ((eg_gi M 52 a.toNatClampNeg) - (eg_gi M 50 b.toNatClampNeg)))) else (nI 0)))))) M
          rw [if_neg c1] at hq
          rw [if_neg c2] at hq
          rw [if_neg c3] at hq
          exact hq
  · exact h.elim
theorem de_X4_likingOf : ∀ q ∈ k_X4_likingOf.1, decode cX4_likingOf q.1 = .ok q.2 := by decide +kernel
theorem me_X4_likingOf (g : gl_T) : MT g yX4_likingOf cX4_likingOf 4 (some .int) ⟨1, 0, 0, 24⟩ 0 0 s_X4_likingOf := by
  intro hl
  exact eg_met_of (k := k_X4_likingOf) (by decide) rfl ⟨Nat.le_refl _, Nat.le_refl _⟩ rfl sz_X4_likingOf de_X4_likingOf (fun meth hn => (fc (eg_FL_of wd_c4 (by decide) lf_RX4_19 (fun h => absurd h (by decide))) (fc (eg_FL_of wd_c4 (by decide) lf_RX4_22 (fun h => absurd h (by decide))) (fc (eg_FL_of wd_c4 (by decide) lf_RX4_26 (fun h => absurd h (by decide))) (fc (eg_FL_of wd_c4 (by decide) lf_RX4_32 (fun h => absurd h (by decide))) (fc (eg_FL_of wd_c4 (by decide) lf_RX4_35 (fun h => absurd h (by decide))) (fc (eg_FL_of wd_c4 (by decide) lf_RX4_38 (fun h => absurd h (by decide))) (fn)))))))) (fun A s H hE => (fn)) (fun p e s m args below meth c Q A ad0 N0 S0 hK hEx hA => (fc (mt_S hl S0 hK hEx hA (me_J6_bitCount_0f7a4 g) lm_RX4_57 ls_J6_bitCount_0f7a4 ln_RJ6 lc_J6_bitCount_0f7a4 ⟨rfl, by decide, by decide, by decide +kernel⟩ ⟨rfl, rfl⟩ ⟨by decide, by decide⟩ (by decide)) (fc (mt_J9_abs_0f7a4 S0 lm_RX4_63 (by decide) (by decide) (by decide)) (fc (mt_J9_max_7cf53 S0 lm_RX4_68 (by decide) (by decide) (by decide)) (fn))))) (fun p e s m args below meth c Qc XC A ad0 N0 P S0 hK hEx hA hlk hout hPX => (fn)) (fun argv M Qp h => T_X4_likingOf h)

def k_X7_hasMore : eg_C := ([(0, .aload_n 0, 1), (1, .getfield 19, 3), (4, .iconst (-1), 1), (5, .if_icmp .eq 16, 3), (8, .aload_n 0, 1), (9, .getfield 19, 3), (12, .bipush (-4), 2), (14, .if_icmp .eq 7, 3), (17, .iconst 1, 1), (18, .goto 4, 3), (21, .iconst 0, 1), (22, .ireturn, 1)], [(19, 7, 2, false)], [], [], [], 2, 0, 0)
theorem mk_X7_hasMore : ∀ q ∈ k_X7_hasMore.2.2.2.1, eg_mono q.2.2.2.2 := (fn)
def s_X7_hasMore : eg_S := fun argv M Qp => match argv with
  | [.ref 25] => (True) ∧ Qp (.inl (some (.int (b2i (decide (¬ (eg_gi M 25 2) = (-nI 1) ∧ ¬ (eg_gi M 25 2) = (-nI 4))))))) M
  | _ => False
theorem mo_X7_hasMore : eg_mono s_X7_hasMore := by
  intro argv M Q Q' h
  unfold s_X7_hasMore
  split
  · exact fun z => ⟨z.1, h _ _ z.2⟩
  · exact id
theorem sz_X7_hasMore : ∀ argv M Qp, s_X7_hasMore argv M Qp → (eg_ls0 argv).length ≤ 1 := by
  intro argv M Qp h
  unfold s_X7_hasMore at h
  split at h
  · exact Nat.le_of_ble_eq_true rfl
  · exact h.elim
theorem sr_X7_hasMore : ∀ argv M Qp, s_X7_hasMore argv M Qp → ∃ p0 As, argv = .ref p0 :: As ∧ eg_isO wd M p0 7 = true := by
  intro argv M Qp h
  unfold s_X7_hasMore at h
  split at h
  · exact ⟨_, _, rfl, rfl⟩
  · exact h.elim
set_option maxRecDepth 100000 in
theorem T_X7_hasMore {argv : List Value} {M : eg_M} {Qp : eg_P} (h : s_X7_hasMore argv M Qp) : eg_T wd k_X7_hasMore Qp 0 0 0 (eg_lsN 1 argv) [] M := by
  unfold s_X7_hasMore at h
  split at h
  · obtain ⟨hp, hq⟩ := h
    refine eg_T_run mk_X7_hasMore (cut := []) 17 ?_
    refine And.intro (fun (c1 : (eg_gi M 25 2) = (-nI 1)) => ?_) (fun (c1 : ¬ (eg_gi M 25 2) = (-nI 1)) => ?_)
    · skip
      refine And.intro (fun _ => (show (nI 0) = 0 ∨ (nI 0) = 1 from ?_)) ?_
      · exact Or.inl rfl
      show Qp (.inl (some (.int (nI 0)))) M
      rw [show (decide (¬ (eg_gi M 25 2) = (-nI 1) ∧ ¬ (eg_gi M 25 2) = (-nI 4))) = false from decide_eq_false (by grind)] at hq
      exact hq
    · skip
      refine And.intro (fun (c2 : (eg_gi M 25 2) = (-nI 4)) => ?_) (fun (c2 : ¬ (eg_gi M 25 2) = (-nI 4)) => ?_)
      · skip
        refine And.intro (fun _ => (show (nI 0) = 0 ∨ (nI 0) = 1 from ?_)) ?_
        · exact Or.inl rfl
        show Qp (.inl (some (.int (nI 0)))) M
        rw [show (decide (¬ (eg_gi M 25 2) = (-nI 1) ∧ ¬ (eg_gi M 25 2) = (-nI 4))) = false from decide_eq_false (by grind)] at hq
        exact hq
      · skip
        refine And.intro (fun _ => (show (nI 1) = 0 ∨ (nI 1) = 1 from ?_)) ?_
        · exact Or.inr rfl
        show Qp (.inl (some (.int (nI 1)))) M
        rw [show (decide (¬ (eg_gi M 25 2) = (-nI 1) ∧ ¬ (eg_gi M 25 2) = (-nI 4))) = true from decide_eq_true (by grind)] at hq
        exact hq
  · exact h.elim
theorem de_X7_hasMore : ∀ q ∈ k_X7_hasMore.1, decode cX7_hasMore q.1 = .ok q.2 := by decide +kernel
theorem me_X7_hasMore (g : gl_T) : MT g yX7_hasMore cX7_hasMore 1 (some .boolean) ⟨0, 0, 0, 0⟩ 0 0 s_X7_hasMore := by
  intro hl
  exact eg_met_of (k := k_X7_hasMore) (by decide) rfl ⟨Nat.le_refl _, Nat.le_refl _⟩ rfl sz_X7_hasMore de_X7_hasMore (fun meth hn => (fc (eg_FL_of wd_c7 (by decide) lf_RX7_19 (fun h => absurd h (by decide))) (fn))) (fun A s H hE => (fn)) (fun p e s m args below meth c Q A ad0 N0 S0 hK hEx hA => (fn)) (fun p e s m args below meth c Qc XC A ad0 N0 P S0 hK hEx hA hlk hout hPX => (fn)) (fun argv M Qp h => T_X7_hasMore h)

def k_X7_keepFormula : eg_C := ([(0, .aload_n 0, 1), (1, .getfield 48, 3), (4, .bipush 12, 2), (6, .if_icmp .ge 36, 3), (9, .aload_n 0, 1), (10, .getfield 42, 3), (13, .aload_n 0, 1), (14, .getfield 48, 3), (17, .iload_n 1, 1), (18, .iastore, 1), (19, .aload_n 0, 1), (20, .getfield 45, 3), (23, .aload_n 0, 1), (24, .getfield 48, 3), (27, .aload_n 0, 1), (28, .getfield 37, 3), (31, .iastore, 1), (32, .aload_n 0, 1), (33, .dup, 1), (34, .getfield 48, 3), (37, .iconst 1, 1), (38, .iadd, 1), (39, .putfield 48, 3), (42, .return_, 1)], [(37, 7, 8, false), (42, 7, 9, false), (45, 7, 10, false), (48, 7, 11, true)], [], [], [], 0, 0, 0)
def s_X7_keepFormula : eg_S := eg_auto wd k_X7_keepFormula 2 (some 7) 26
theorem mk_X7_keepFormula : ∀ q ∈ k_X7_keepFormula.2.2.2.1, eg_mono q.2.2.2.2 := (fn)
theorem mo_X7_keepFormula : eg_mono s_X7_keepFormula := eg_auto_mono mk_X7_keepFormula
theorem de_X7_keepFormula : ∀ q ∈ k_X7_keepFormula.1, decode cX7_keepFormula q.1 = .ok q.2 := by decide +kernel
theorem me_X7_keepFormula (g : gl_T) : MT g yX7_keepFormula cX7_keepFormula 2 none ⟨0, 0, 0, 0⟩ 0 0 s_X7_keepFormula := by
  intro hl
  exact eg_met_of (k := k_X7_keepFormula) (by decide) rfl ⟨Nat.le_refl _, Nat.le_refl _⟩ rfl eg_auto_len de_X7_keepFormula (fun meth hn => (fc (eg_FL_of wd_c7 (by decide) lf_RX7_37 (fun h => absurd h (by decide))) (fc (eg_FL_of wd_c7 (by decide) lf_RX7_42 (fun h => absurd h (by decide))) (fc (eg_FL_of wd_c7 (by decide) lf_RX7_45 (fun h => absurd h (by decide))) (fc (eg_FL_of wd_c7 (by decide) lf_RX7_48 (fun _ => Or.inl rfl)) (fn)))))) (fun A s H hE => (fn)) (fun p e s m args below meth c Q A ad0 N0 S0 hK hEx hA => (fn)) (fun p e s m args below meth c Qc XC A ad0 N0 P S0 hK hEx hA hlk hout hPX => (fn)) (fun argv M Qp h => eg_auto_T mk_X7_keepFormula h)

def k_X7_put : eg_C := ([(0, .aload_n 0, 1), (1, .getfield 37, 3), (4, .sipush 400, 3), (7, .if_icmp .ge 20, 3), (10, .aload_n 0, 1), (11, .getfield 34, 3), (14, .aload_n 0, 1), (15, .dup, 1), (16, .getfield 37, 3), (19, .dup_x1, 1), (20, .iconst 1, 1), (21, .iadd, 1), (22, .putfield 37, 3), (25, .iload_n 1, 1), (26, .iastore, 1), (27, .return_, 1)], [(34, 7, 7, false), (37, 7, 8, true)], [], [], [], 0, 0, 0)
def s_X7_put : eg_S := eg_auto wd k_X7_put 2 (some 7) 18
theorem mk_X7_put : ∀ q ∈ k_X7_put.2.2.2.1, eg_mono q.2.2.2.2 := (fn)
theorem mo_X7_put : eg_mono s_X7_put := eg_auto_mono mk_X7_put
theorem de_X7_put : ∀ q ∈ k_X7_put.1, decode cX7_put q.1 = .ok q.2 := by decide +kernel
theorem me_X7_put (g : gl_T) : MT g yX7_put cX7_put 2 none ⟨0, 0, 0, 0⟩ 0 0 s_X7_put := by
  intro hl
  exact eg_met_of (k := k_X7_put) (by decide) rfl ⟨Nat.le_refl _, Nat.le_refl _⟩ rfl eg_auto_len de_X7_put (fun meth hn => (fc (eg_FL_of wd_c7 (by decide) lf_RX7_34 (fun h => absurd h (by decide))) (fc (eg_FL_of wd_c7 (by decide) lf_RX7_37 (fun _ => Or.inl rfl)) (fn)))) (fun A s H hE => (fn)) (fun p e s m args below meth c Q A ad0 N0 S0 hK hEx hA => (fn)) (fun p e s m args below meth c Qc XC A ad0 N0 P S0 hK hEx hA hlk hout hPX => (fn)) (fun argv M Qp h => eg_auto_T mk_X7_put h)

def k_X7_refuse : eg_C := ([(0, .aload_n 0, 1), (1, .getfield 28, 3), (4, .ifCond .ne 16, 3), (7, .aload_n 0, 1), (8, .iload_n 1, 1), (9, .putfield 28, 3), (12, .aload_n 0, 1), (13, .aload_n 0, 1), (14, .getfield 22, 3), (17, .putfield 31, 3), (20, .aload_n 0, 1), (21, .bipush (-4), 2), (23, .putfield 19, 3), (26, .return_, 1)], [(19, 7, 2, true), (22, 7, 3, false), (28, 7, 5, true), (31, 7, 6, true)], [], [], [], 0, 0, 0)
def s_X7_refuse : eg_S := eg_auto wd k_X7_refuse 2 (some 7) 16
theorem mk_X7_refuse : ∀ q ∈ k_X7_refuse.2.2.2.1, eg_mono q.2.2.2.2 := (fn)
theorem mo_X7_refuse : eg_mono s_X7_refuse := eg_auto_mono mk_X7_refuse
theorem de_X7_refuse : ∀ q ∈ k_X7_refuse.1, decode cX7_refuse q.1 = .ok q.2 := by decide +kernel
theorem me_X7_refuse (g : gl_T) : MT g yX7_refuse cX7_refuse 2 none ⟨0, 0, 0, 0⟩ 0 0 s_X7_refuse := by
  intro hl
  exact eg_met_of (k := k_X7_refuse) (by decide) rfl ⟨Nat.le_refl _, Nat.le_refl _⟩ rfl eg_auto_len de_X7_refuse (fun meth hn => (fc (eg_FL_of wd_c7 (by decide) lf_RX7_19 (fun _ => Or.inl rfl)) (fc (eg_FL_of wd_c7 (by decide) lf_RX7_22 (fun h => absurd h (by decide))) (fc (eg_FL_of wd_c7 (by decide) lf_RX7_28 (fun _ => Or.inl rfl)) (fc (eg_FL_of wd_c7 (by decide) lf_RX7_31 (fun _ => Or.inl rfl)) (fn)))))) (fun A s H hE => (fn)) (fun p e s m args below meth c Q A ad0 N0 S0 hK hEx hA => (fn)) (fun p e s m args below meth c Qc XC A ad0 N0 P S0 hK hEx hA hlk hout hPX => (fn)) (fun argv M Qp h => eg_auto_T mk_X7_refuse h)

def k_X7_kindOf : eg_C := ([(0, .bipush 97, 2), (2, .iload_n 0, 1), (3, .if_icmp .gt 12, 3), (6, .iload_n 0, 1), (7, .bipush 122, 2), (9, .if_icmp .gt 6, 3), (12, .bipush (-2), 2), (14, .ireturn, 1), (15, .bipush 48, 2), (17, .iload_n 0, 1), (18, .if_icmp .gt 14, 3), (21, .iload_n 0, 1), (22, .bipush 57, 2), (24, .if_icmp .gt 8, 3), (27, .bipush (-3), 2), (29, .goto 4, 3), (32, .iload_n 0, 1), (33, .ireturn, 1)], [], [], [], [], 1, 0, 0)
theorem mk_X7_kindOf : ∀ q ∈ k_X7_kindOf.2.2.2.1, eg_mono q.2.2.2.2 := (fn)
def s_X7_kindOf : eg_S := fun argv M Qp => match argv with
  | [.int a] => (True) ∧ Qp (.inl (some (.int (if a < (nI 97) then (if a < (nI 48) then a else (if (nI 57) < a then a else (-nI 3))) else (if (nI 122) < a then (if a < (nI 48) then a else (if (nI 57) < a then a else (-nI 3))) else (-nI 2)))))) M
  | _ => False
theorem mo_X7_kindOf : eg_mono s_X7_kindOf := by
  intro argv M Q Q' h
  unfold s_X7_kindOf
  split
  · exact fun z => ⟨z.1, h _ _ z.2⟩
  · exact id
theorem sz_X7_kindOf : ∀ argv M Qp, s_X7_kindOf argv M Qp → (eg_ls0 argv).length ≤ 1 := by
  intro argv M Qp h
  unfold s_X7_kindOf at h
  split at h
  · exact Nat.le_of_ble_eq_true rfl
  · exact h.elim
set_option maxRecDepth 100000 in
theorem T_X7_kindOf {argv : List Value} {M : eg_M} {Qp : eg_P} (h : s_X7_kindOf argv M Qp) : eg_T wd k_X7_kindOf Qp 0 0 0 (eg_lsN 1 argv) [] M := by
  unfold s_X7_kindOf at h
  split at h
  · rename_i a
    obtain ⟨hp, hq⟩ := h
    refine eg_T_run mk_X7_kindOf (cut := []) 23 ?_
    refine And.intro (fun (c1 : a < (nI 97)) => ?_) (fun (c1 : ¬ a < (nI 97)) => ?_)
    · skip
      refine And.intro (fun (c2 : a < (nI 48)) => ?_) (fun (c2 : ¬ a < (nI 48)) => ?_)
      · skip
        refine And.intro (fun z => absurd z (by decide)) ?_
        show Qp (.inl (some (.int a))) M
        rw [if_pos c1] at hq
        rw [if_pos c2] at hq
        exact hq
      · skip
        refine And.intro (fun (c3 : (nI 57) < a) => ?_) (fun (c3 : ¬ (nI 57) < a) => ?_)
        · skip
          refine And.intro (fun z => absurd z (by decide)) ?_
          show Qp (.inl (some (.int a))) M
          rw [if_pos c1] at hq
          rw [if_neg c2] at hq
          rw [if_pos c3] at hq
          exact hq
        · skip
          refine And.intro (fun z => absurd z (by decide)) ?_
          show Qp (.inl (some (.int (-nI 3)))) M
          rw [if_pos c1] at hq
          rw [if_neg c2] at hq
          rw [if_neg c3] at hq
          exact hq
    · skip
      refine And.intro (fun (c4 : (nI 122) < a) => ?_) (fun (c4 : ¬ (nI 122) < a) => ?_)
      · skip
        refine And.intro (fun (c5 : a < (nI 48)) => ?_) (fun (c5 : ¬ a < (nI 48)) => ?_)
        · skip
          refine And.intro (fun z => absurd z (by decide)) ?_
          show Qp (.inl (some (.int a))) M
          rw [if_neg c1] at hq
          rw [if_pos c4] at hq
          rw [if_pos c5] at hq
          exact hq
        · skip
          refine And.intro (fun (c6 : (nI 57) < a) => ?_) (fun (c6 : ¬ (nI 57) < a) => ?_)
          · skip
            refine And.intro (fun z => absurd z (by decide)) ?_
            show Qp (.inl (some (.int a))) M
            rw [if_neg c1] at hq
            rw [if_pos c4] at hq
            rw [if_neg c5] at hq
            rw [if_pos c6] at hq
            exact hq
          · skip
            refine And.intro (fun z => absurd z (by decide)) ?_
            show Qp (.inl (some (.int (-nI 3)))) M
            rw [if_neg c1] at hq
            rw [if_pos c4] at hq
            rw [if_neg c5] at hq
            rw [if_neg c6] at hq
            exact hq
      · skip
        refine And.intro (fun z => absurd z (by decide)) ?_
        show Qp (.inl (some (.int (-nI 2)))) M
        rw [if_neg c1] at hq
        rw [if_neg c4] at hq
        exact hq
  · exact h.elim
theorem de_X7_kindOf : ∀ q ∈ k_X7_kindOf.1, decode cX7_kindOf q.1 = .ok q.2 := by decide +kernel
theorem me_X7_kindOf (g : gl_T) : MT g yX7_kindOf cX7_kindOf 1 (some .int) ⟨0, 0, 0, 0⟩ 0 0 s_X7_kindOf := by
  intro hl
  exact eg_met_of (k := k_X7_kindOf) (by decide) rfl ⟨Nat.le_refl _, Nat.le_refl _⟩ rfl sz_X7_kindOf de_X7_kindOf (fun meth hn => (fn)) (fun A s H hE => (fn)) (fun p e s m args below meth c Q A ad0 N0 S0 hK hEx hA => (fn)) (fun p e s m args below meth c Qc XC A ad0 N0 P S0 hK hEx hA hlk hout hPX => (fn)) (fun argv M Qp h => T_X7_kindOf h)

def k_X7_nameOf : eg_C := ([(0, .iload_n 0, 1), (1, .tableswitch 85 0 9 #[55, 58, 61, 64, 67, 70, 73, 76, 79, 82], 55), (56, .ldc 141, 2), (58, .areturn, 1), (59, .ldc 143, 2), (61, .areturn, 1), (62, .ldc 145, 2), (64, .areturn, 1), (65, .ldc 147, 2), (67, .areturn, 1), (68, .ldc 149, 2), (70, .areturn, 1), (71, .ldc 151, 2), (73, .areturn, 1), (74, .ldc 153, 2), (76, .areturn, 1), (77, .ldc 155, 2), (79, .areturn, 1), (80, .ldc 157, 2), (82, .areturn, 1), (83, .ldc 159, 2), (85, .areturn, 1), (86, .ldc 161, 2), (88, .areturn, 1)], [], [(141, .retAddr 5), (143, .retAddr 7), (145, .retAddr 31), (147, .retAddr 6), (149, .retAddr 21), (151, .retAddr 2), (153, .retAddr 27), (155, .retAddr 24), (157, .retAddr 0), (159, .retAddr 29), (161, .retAddr 30)], [], [], 4, 0, 0)
def s_X7_nameOf : eg_S := eg_auto wd k_X7_nameOf 1 (none) 26
theorem mk_X7_nameOf : ∀ q ∈ k_X7_nameOf.2.2.2.1, eg_mono q.2.2.2.2 := (fn)
theorem mo_X7_nameOf : eg_mono s_X7_nameOf := eg_auto_mono mk_X7_nameOf
theorem de_X7_nameOf : ∀ q ∈ k_X7_nameOf.1, decode cX7_nameOf q.1 = .ok q.2 := by decide +kernel
theorem me_X7_nameOf (g : gl_T) : MT g yX7_nameOf cX7_nameOf 1 (some (.object "java/lang/String")) ⟨0, 0, 0, 0⟩ 0 0 s_X7_nameOf := by
  intro hl
  exact eg_met_of (k := k_X7_nameOf) (by decide) rfl ⟨Nat.le_refl _, Nat.le_refl _⟩ ⟨_, rfl, Or.inl ⟨_, rfl⟩⟩ eg_auto_len de_X7_nameOf (fun meth hn => (fn)) (fun A s H hE => (fc (⟨"guests", hE.2.2.2.1 (RX7, 141, "guests", 5) (List.mem_of_getElem? (i := 21) rfl)⟩) (fc (⟨"nights", hE.2.2.2.1 (RX7, 143, "nights", 7) (List.mem_of_getElem? (i := 22) rfl)⟩) (fc (⟨"young", hE.2.2.2.1 (RX7, 145, "young", 31) (List.mem_of_getElem? (i := 23) rfl)⟩) (fc (⟨"miles", hE.2.2.2.1 (RX7, 147, "miles", 6) (List.mem_of_getElem? (i := 24) rfl)⟩) (fc (⟨"people", hE.2.2.2.1 (RX7, 149, "people", 21) (List.mem_of_getElem? (i := 25) rfl)⟩) (fc (⟨"common", hE.2.2.2.1 (RX7, 151, "common", 2) (List.mem_of_getElem? (i := 26) rfl)⟩) (fc (⟨"turn", hE.2.2.2.1 (RX7, 153, "turn", 27) (List.mem_of_getElem? (i := 27) rfl)⟩) (fc (⟨"since", hE.2.2.2.1 (RX7, 155, "since", 24) (List.mem_of_getElem? (i := 28) rfl)⟩) (fc (⟨"age", hE.2.2.2.1 (RX7, 157, "age", 0) (List.mem_of_getElem? (i := 29) rfl)⟩) (fc (⟨"visits", hE.2.2.2.1 (RX7, 159, "visits", 29) (List.mem_of_getElem? (i := 30) rfl)⟩) (fc (⟨"year", hE.2.2.2.1 (RX7, 161, "year", 30) (List.mem_of_getElem? (i := 31) rfl)⟩) (fn))))))))))))) (fun p e s m args below meth c Q A ad0 N0 S0 hK hEx hA => (fn)) (fun p e s m args below meth c Qc XC A ad0 N0 P S0 hK hEx hA hlk hout hPX => (fn)) (fun argv M Qp h => eg_auto_T mk_X7_nameOf h)

def k_X9_add : eg_C := ([(0, .aload_n 0, 1), (1, .getfield 24, 3), (4, .bipush 16, 2), (6, .if_icmp .lt 5, 3), (9, .iconst (-1), 1), (10, .ireturn, 1), (11, .aload_n 0, 1), (12, .getfield 9, 3), (15, .aload_n 0, 1), (16, .getfield 24, 3), (19, .iload_n 1, 1), (20, .iastore, 1), (21, .aload_n 0, 1), (22, .getfield 15, 3), (25, .aload_n 0, 1), (26, .getfield 24, 3), (29, .iload_n 2, 1), (30, .iastore, 1), (31, .aload_n 0, 1), (32, .getfield 18, 3), (35, .aload_n 0, 1), (36, .getfield 24, 3), (39, .iload_n 3, 1), (40, .iastore, 1), (41, .aload_n 0, 1), (42, .getfield 21, 3), (45, .aload_n 0, 1), (46, .getfield 24, 3), (49, .iload 4, 2), (51, .iastore, 1), (52, .aload_n 0, 1), (53, .dup, 1), (54, .getfield 24, 3), (57, .dup_x1, 1), (58, .iconst 1, 1), (59, .iadd, 1), (60, .putfield 24, 3), (63, .ireturn, 1)], [(9, 9, 0, false), (15, 9, 1, false), (18, 9, 2, false), (21, 9, 3, false), (24, 9, 4, true)], [], [], [], 1, 0, 0)
def s_X9_add : eg_S := eg_auto wd k_X9_add 5 (some 9) 40
theorem mk_X9_add : ∀ q ∈ k_X9_add.2.2.2.1, eg_mono q.2.2.2.2 := (fn)
theorem mo_X9_add : eg_mono s_X9_add := eg_auto_mono mk_X9_add
theorem de_X9_add : ∀ q ∈ k_X9_add.1, decode cX9_add q.1 = .ok q.2 := by decide +kernel
theorem me_X9_add (g : gl_T) : MT g yX9_add cX9_add 5 (some .int) ⟨0, 0, 0, 0⟩ 0 0 s_X9_add := by
  intro hl
  exact eg_met_of (k := k_X9_add) (by decide) rfl ⟨Nat.le_refl _, Nat.le_refl _⟩ rfl eg_auto_len de_X9_add (fun meth hn => (fc (eg_FL_of wd_c9 (by decide) lf_RX9_9 (fun h => absurd h (by decide))) (fc (eg_FL_of wd_c9 (by decide) lf_RX9_15 (fun h => absurd h (by decide))) (fc (eg_FL_of wd_c9 (by decide) lf_RX9_18 (fun h => absurd h (by decide))) (fc (eg_FL_of wd_c9 (by decide) lf_RX9_21 (fun h => absurd h (by decide))) (fc (eg_FL_of wd_c9 (by decide) lf_RX9_24 (fun _ => Or.inl rfl)) (fn))))))) (fun A s H hE => (fn)) (fun p e s m args below meth c Q A ad0 N0 S0 hK hEx hA => (fn)) (fun p e s m args below meth c Qc XC A ad0 N0 P S0 hK hEx hA hlk hout hPX => (fn)) (fun argv M Qp h => eg_auto_T mk_X9_add h)

def k_X9_miles : eg_C := ([(0, .aload_n 0, 1), (1, .getfield 9, 3), (4, .iload_n 1, 1), (5, .iaload, 1), (6, .aload_n 0, 1), (7, .getfield 9, 3), (10, .iload_n 2, 1), (11, .iaload, 1), (12, .isub, 1), (13, .invokestatic 28, 3), (16, .aload_n 0, 1), (17, .getfield 15, 3), (20, .iload_n 1, 1), (21, .iaload, 1), (22, .aload_n 0, 1), (23, .getfield 15, 3), (26, .iload_n 2, 1), (27, .iaload, 1), (28, .isub, 1), (29, .invokestatic 28, 3), (32, .iadd, 1), (33, .ireturn, 1)], [(9, 9, 0, false), (15, 9, 1, false)], [], [(28 + 100000, 1, 0, 0, s_J9_abs_0f7a4)], [], 1, 0, 0)
theorem mk_X9_miles : ∀ q ∈ k_X9_miles.2.2.2.1, eg_mono q.2.2.2.2 := (fc (mo_J9_abs_0f7a4) (fn))
def s_X9_miles : eg_S := fun argv M Qp => match argv with
  | [.ref 2, .int a, .int b] => ((vp_in a 16) ∧ (vp_in b 16)) ∧ Qp (.inl (some (.int ((if 0 ≤ ((eg_gi M 3 a.toNatClampNeg) - (eg_gi M 3 b.toNatClampNeg)) then ((eg_gi M 3 a.toNatClampNeg) - (eg_gi M 3 b.toNatClampNeg)) else 0 - ((eg_gi M 3 a.toNatClampNeg) - (eg_gi M 3 b.toNatClampNeg))) + (if 0 ≤ ((eg_gi M 4 a.toNatClampNeg) - (eg_gi M 4 b.toNatClampNeg)) then ((eg_gi M 4 a.toNatClampNeg) - (eg_gi M 4 b.toNatClampNeg)) else 0 - ((eg_gi M 4 a.toNatClampNeg) - (eg_gi M 4 b.toNatClampNeg))))))) M
  | _ => False
theorem mo_X9_miles : eg_mono s_X9_miles := by
  intro argv M Q Q' h
  unfold s_X9_miles
  split
  · exact fun z => ⟨z.1, h _ _ z.2⟩
  · exact id
theorem sz_X9_miles : ∀ argv M Qp, s_X9_miles argv M Qp → (eg_ls0 argv).length ≤ 3 := by
  intro argv M Qp h
  unfold s_X9_miles at h
  split at h
  · exact Nat.le_of_ble_eq_true rfl
  · exact h.elim
theorem sr_X9_miles : ∀ argv M Qp, s_X9_miles argv M Qp → ∃ p0 As, argv = .ref p0 :: As ∧ eg_isO wd M p0 9 = true := by
  intro argv M Qp h
  unfold s_X9_miles at h
  split at h
  · exact ⟨_, _, rfl, rfl⟩
  · exact h.elim
set_option maxRecDepth 100000 in
theorem T_X9_miles {argv : List Value} {M : eg_M} {Qp : eg_P} (h : s_X9_miles argv M Qp) : eg_T wd k_X9_miles Qp 0 0 0 (eg_lsN 3 argv) [] M := by
  unfold s_X9_miles at h
  split at h
  · rename_i a b
    obtain ⟨hp, hq⟩ := h
    refine eg_T_run mk_X9_miles (cut := []) 27 ?_
    refine And.intro (show vp_in a 16 from ?_) ?_
    · exact hp.1
    refine And.intro (show vp_in b 16 from ?_) ?_
    · exact hp.2
    refine And.intro (show vp_in a 16 from ?_) ?_
    · exact hp.1
    refine And.intro (show vp_in b 16 from ?_) ?_
    · exact hp.2
    refine And.intro (fun z => absurd z (by decide)) ?_
    show Qp (.inl (some (.int ((if 0 ≤ ((eg_gi M 3 a.toNatClampNeg) - (eg_gi M 3 b.toNatClampNeg)) then ((eg_gi M 3 a.toNatClampNeg) - (eg_gi M 3 b.toNatClampNeg)) else 0 - ((eg_gi M 3 a.toNatClampNeg) - (eg_gi M 3 b.toNatClampNeg))) + (if 0 ≤ ((eg_gi M 4 a.toNatClampNeg) - (eg_gi M 4 b.toNatClampNeg)) then ((eg_gi M 4 a.toNatClampNeg) - (eg_gi M 4 b.toNatClampNeg)) else 0 - ((eg_gi M 4 a.toNatClampNeg) - (eg_gi M 4 b.toNatClampNeg))))))) M
    exact hq
  · exact h.elim
theorem de_X9_miles : ∀ q ∈ k_X9_miles.1, decode cX9_miles q.1 = .ok q.2 := by decide +kernel
theorem me_X9_miles (g : gl_T) : MT g yX9_miles cX9_miles 3 (some .int) ⟨1, 0, 0, 24⟩ 0 0 s_X9_miles := by
  intro hl
  exact eg_met_of (k := k_X9_miles) (by decide) rfl ⟨Nat.le_refl _, Nat.le_refl _⟩ rfl sz_X9_miles de_X9_miles (fun meth hn => (fc (eg_FL_of wd_c9 (by decide) lf_RX9_9 (fun h => absurd h (by decide))) (fc (eg_FL_of wd_c9 (by decide) lf_RX9_15 (fun h => absurd h (by decide))) (fn)))) (fun A s H hE => (fn)) (fun p e s m args below meth c Q A ad0 N0 S0 hK hEx hA => (fc (mt_J9_abs_0f7a4 S0 lm_RX9_28 (by decide) (by decide) (by decide)) (fn))) (fun p e s m args below meth c Qc XC A ad0 N0 P S0 hK hEx hA hlk hout hPX => (fn)) (fun argv M Qp h => T_X9_miles h)

def k_X9_commonTongues : eg_C := ([(0, .aload_n 0, 1), (1, .getfield 21, 3), (4, .iload_n 1, 1), (5, .iaload, 1), (6, .aload_n 0, 1), (7, .getfield 21, 3), (10, .iload_n 2, 1), (11, .iaload, 1), (12, .iand, 1), (13, .invokestatic 34, 3), (16, .ireturn, 1)], [(21, 9, 3, false)], [], [(34 + 100000, 1, 0, 0, s_J6_bitCount_0f7a4)], [], 1, 0, 0)
theorem mk_X9_commonTongues : ∀ q ∈ k_X9_commonTongues.2.2.2.1, eg_mono q.2.2.2.2 := (fc (mo_J6_bitCount_0f7a4) (fn))
def s_X9_commonTongues : eg_S := fun argv M Qp => match argv with
  | [.ref 2, .int a, .int b] => ((vp_in a 16) ∧ (vp_in b 16)) ∧ Qp (.inl (some (.int (bc ((eg_gi M 6 a.toNatClampNeg) &&& (eg_gi M 6 b.toNatClampNeg)))))) M
  | _ => False
theorem mo_X9_commonTongues : eg_mono s_X9_commonTongues := by
  intro argv M Q Q' h
  unfold s_X9_commonTongues
  split
  · exact fun z => ⟨z.1, h _ _ z.2⟩
  · exact id
theorem sz_X9_commonTongues : ∀ argv M Qp, s_X9_commonTongues argv M Qp → (eg_ls0 argv).length ≤ 3 := by
  intro argv M Qp h
  unfold s_X9_commonTongues at h
  split at h
  · exact Nat.le_of_ble_eq_true rfl
  · exact h.elim
theorem sr_X9_commonTongues : ∀ argv M Qp, s_X9_commonTongues argv M Qp → ∃ p0 As, argv = .ref p0 :: As ∧ eg_isO wd M p0 9 = true := by
  intro argv M Qp h
  unfold s_X9_commonTongues at h
  split at h
  · exact ⟨_, _, rfl, rfl⟩
  · exact h.elim
set_option maxRecDepth 100000 in
theorem T_X9_commonTongues {argv : List Value} {M : eg_M} {Qp : eg_P} (h : s_X9_commonTongues argv M Qp) : eg_T wd k_X9_commonTongues Qp 0 0 0 (eg_lsN 3 argv) [] M := by
  unfold s_X9_commonTongues at h
  split at h
  · rename_i a b
    obtain ⟨hp, hq⟩ := h
    refine eg_T_run mk_X9_commonTongues (cut := []) 16 ?_
    refine And.intro (show vp_in a 16 from ?_) ?_
    · exact hp.1
    refine And.intro (show vp_in b 16 from ?_) ?_
    · exact hp.2
    refine And.intro (show (True) from ?_) ?_
    · exact trivial
    refine And.intro (fun z => absurd z (by decide)) ?_
    show Qp (.inl (some (.int (bc ((eg_gi M 6 a.toNatClampNeg) &&& (eg_gi M 6 b.toNatClampNeg)))))) M
    exact hq
  · exact h.elim
theorem de_X9_commonTongues : ∀ q ∈ k_X9_commonTongues.1, decode cX9_commonTongues q.1 = .ok q.2 := by decide +kernel
theorem me_X9_commonTongues (g : gl_T) : MT g yX9_commonTongues cX9_commonTongues 3 (some .int) ⟨1, 0, 0, 20⟩ 0 0 s_X9_commonTongues := by
  intro hl
  exact eg_met_of (k := k_X9_commonTongues) (by decide) rfl ⟨Nat.le_refl _, Nat.le_refl _⟩ rfl sz_X9_commonTongues de_X9_commonTongues (fun meth hn => (fc (eg_FL_of wd_c9 (by decide) lf_RX9_21 (fun h => absurd h (by decide))) (fn))) (fun A s H hE => (fn)) (fun p e s m args below meth c Q A ad0 N0 S0 hK hEx hA => (fc (mt_S hl S0 hK hEx hA (me_J6_bitCount_0f7a4 g) lm_RX9_34 ls_J6_bitCount_0f7a4 ln_RJ6 lc_J6_bitCount_0f7a4 ⟨rfl, by decide, by decide, by decide +kernel⟩ ⟨rfl, rfl⟩ ⟨by decide, by decide⟩ (by decide)) (fn))) (fun p e s m args below meth c Qc XC A ad0 N0 P S0 hK hEx hA hlk hout hPX => (fn)) (fun argv M Qp h => T_X9_commonTongues h)

def k_X10_hasRoom : eg_C := ([(0, .aload_n 0, 1), (1, .getfield 9, 3), (4, .bipush 20, 2), (6, .iadd, 1), (7, .sipush 400, 3), (10, .if_icmp .gt 7, 3), (13, .iconst 1, 1), (14, .goto 4, 3), (17, .iconst 0, 1), (18, .ireturn, 1)], [(9, 10, 0, false)], [], [], [], 2, 0, 0)
theorem mk_X10_hasRoom : ∀ q ∈ k_X10_hasRoom.2.2.2.1, eg_mono q.2.2.2.2 := (fn)
def s_X10_hasRoom : eg_S := fun argv M Qp => match argv with
  | [.ref 23] => (True) ∧ Qp (.inl (some (.int (b2i (decide (¬ (nI 400) < ((eg_gi M 23 0) + (nI 20)))))))) M
  | _ => False
theorem mo_X10_hasRoom : eg_mono s_X10_hasRoom := by
  intro argv M Q Q' h
  unfold s_X10_hasRoom
  split
  · exact fun z => ⟨z.1, h _ _ z.2⟩
  · exact id
theorem sz_X10_hasRoom : ∀ argv M Qp, s_X10_hasRoom argv M Qp → (eg_ls0 argv).length ≤ 1 := by
  intro argv M Qp h
  unfold s_X10_hasRoom at h
  split at h
  · exact Nat.le_of_ble_eq_true rfl
  · exact h.elim
theorem sr_X10_hasRoom : ∀ argv M Qp, s_X10_hasRoom argv M Qp → ∃ p0 As, argv = .ref p0 :: As ∧ eg_isO wd M p0 10 = true := by
  intro argv M Qp h
  unfold s_X10_hasRoom at h
  split at h
  · exact ⟨_, _, rfl, rfl⟩
  · exact h.elim
set_option maxRecDepth 100000 in
theorem T_X10_hasRoom {argv : List Value} {M : eg_M} {Qp : eg_P} (h : s_X10_hasRoom argv M Qp) : eg_T wd k_X10_hasRoom Qp 0 0 0 (eg_lsN 1 argv) [] M := by
  unfold s_X10_hasRoom at h
  split at h
  · obtain ⟨hp, hq⟩ := h
    refine eg_T_run mk_X10_hasRoom (cut := []) 15 ?_
    refine And.intro (fun (c1 : (nI 400) < ((eg_gi M 23 0) + (nI 20))) => ?_) (fun (c1 : ¬ (nI 400) < ((eg_gi M 23 0) + (nI 20))) => ?_)
    · skip
      refine And.intro (fun _ => (show (nI 0) = 0 ∨ (nI 0) = 1 from ?_)) ?_
      · exact Or.inl rfl
      show Qp (.inl (some (.int (nI 0)))) M
      rw [show (decide (¬ (nI 400) < ((eg_gi M 23 0) + (nI 20)))) = false from decide_eq_false (by grind)] at hq
      exact hq
    · skip
      refine And.intro (fun _ => (show (nI 1) = 0 ∨ (nI 1) = 1 from ?_)) ?_
      · exact Or.inr rfl
      show Qp (.inl (some (.int (nI 1)))) M
      rw [show (decide (¬ (nI 400) < ((eg_gi M 23 0) + (nI 20)))) = true from decide_eq_true (by grind)] at hq
      exact hq
  · exact h.elim
theorem de_X10_hasRoom : ∀ q ∈ k_X10_hasRoom.1, decode cX10_hasRoom q.1 = .ok q.2 := by decide +kernel
theorem me_X10_hasRoom (g : gl_T) : MT g yX10_hasRoom cX10_hasRoom 1 (some .boolean) ⟨0, 0, 0, 0⟩ 0 0 s_X10_hasRoom := by
  intro hl
  exact eg_met_of (k := k_X10_hasRoom) (by decide) rfl ⟨Nat.le_refl _, Nat.le_refl _⟩ rfl sz_X10_hasRoom de_X10_hasRoom (fun meth hn => (fc (eg_FL_of wd_c10 (by decide) lf_RX10_9 (fun h => absurd h (by decide))) (fn))) (fun A s H hE => (fn)) (fun p e s m args below meth c Q A ad0 N0 S0 hK hEx hA => (fn)) (fun p e s m args below meth c Qc XC A ad0 N0 P S0 hK hEx hA hlk hout hPX => (fn)) (fun argv M Qp h => T_X10_hasRoom h)

def k_X11_days : eg_C := ([(0, .iload_n 1, 1), (1, .ifCond .lt 15, 3), (4, .iload_n 1, 1), (5, .sipush 3599, 3), (8, .aload_n 0, 1), (9, .getfield 57, 3), (12, .isub, 1), (13, .if_icmp .le 13, 3), (16, .new 82, 3), (19, .dup, 1), (20, .ldc 84, 2), (22, .invokespecial 86, 3), (25, .athrow, 1), (26, .aload_n 0, 1), (27, .dup, 1), (28, .getfield 57, 3), (31, .iload_n 1, 1), (32, .iadd, 1), (33, .putfield 57, 3), (36, .aload_n 0, 1), (37, .getfield 57, 3), (40, .ireturn, 1)], [(57, 11, 8, true)], [], [], [(82, .inl "java/lang/IllegalArgumentException")], 1, 1, 6)
def s_X11_days : eg_S := eg_auto wd k_X11_days 2 (some 11) 24
theorem mk_X11_days : ∀ q ∈ k_X11_days.2.2.2.1, eg_mono q.2.2.2.2 := (fn)
theorem mo_X11_days : eg_mono s_X11_days := eg_auto_mono mk_X11_days
theorem de_X11_days : ∀ q ∈ k_X11_days.1, decode cX11_days q.1 = .ok q.2 := by decide +kernel
theorem me_X11_days (g : gl_T) : MT g yX11_days cX11_days 2 (some .int) ⟨6, 1, 6, 92⟩ 1 6 s_X11_days := by
  intro hl
  exact eg_met_of (k := k_X11_days) (by decide) rfl ⟨Nat.le_refl _, Nat.le_refl _⟩ rfl eg_auto_len de_X11_days (fun meth hn => (fc (eg_FL_of wd_c11 (by decide) lf_RX11_57 (fun _ => Or.inl rfl)) (fn))) (fun A s H hE => (fn)) (fun p e s m args below meth c Q A ad0 N0 S0 hK hEx hA => (fn)) (fun p e s m args below meth c Qc XC A ad0 N0 P S0 hK hEx hA hlk hout hPX => (fc (mt_T hl S0 hEx hlk hout hPX (ix := 7) (rx := Bundle.six) (names := ["java/lang/RuntimeException", "java/lang/Exception"]) (is := 84) (ic := 86) (text := "days go on, and not beyond the last one") (nt := 3) (by decide +kernel) (by decide +kernel) (by decide +kernel) (by decide +kernel) (by decide +kernel) (by decide +kernel) lq_RX11_82 ti_i (List.mem_of_getElem? (i := 0) rfl) ti_g ti_b ti_o (by decide +kernel) (by decide) (by decide) (Nat.le_refl _) (Nat.le_refl _)) (fn))) (fun argv M Qp h => eg_auto_T mk_X11_days h)

def k_X11_fault : eg_C := ([(0, .aload_n 0, 1), (1, .getfield 35, 3), (4, .getfield 138, 3), (7, .ireturn, 1)], [(35, 11, 4, false), (138, 10, 3, false)], [], [], [], 1, 0, 0)
theorem mk_X11_fault : ∀ q ∈ k_X11_fault.2.2.2.1, eg_mono q.2.2.2.2 := (fn)
def s_X11_fault : eg_S := fun argv M Qp => match argv with
  | [.ref 0] => (True) ∧ Qp (.inl (some (.int (eg_gi M 23 3)))) M
  | _ => False
theorem mo_X11_fault : eg_mono s_X11_fault := by
  intro argv M Q Q' h
  unfold s_X11_fault
  split
  · exact fun z => ⟨z.1, h _ _ z.2⟩
  · exact id
theorem sz_X11_fault : ∀ argv M Qp, s_X11_fault argv M Qp → (eg_ls0 argv).length ≤ 1 := by
  intro argv M Qp h
  unfold s_X11_fault at h
  split at h
  · exact Nat.le_of_ble_eq_true rfl
  · exact h.elim
theorem sr_X11_fault : ∀ argv M Qp, s_X11_fault argv M Qp → ∃ p0 As, argv = .ref p0 :: As ∧ eg_isO wd M p0 11 = true := by
  intro argv M Qp h
  unfold s_X11_fault at h
  split at h
  · exact ⟨_, _, rfl, rfl⟩
  · exact h.elim
set_option maxRecDepth 100000 in
theorem T_X11_fault {argv : List Value} {M : eg_M} {Qp : eg_P} (h : s_X11_fault argv M Qp) : eg_T wd k_X11_fault Qp 0 0 0 (eg_lsN 1 argv) [] M := by
  unfold s_X11_fault at h
  split at h
  · obtain ⟨hp, hq⟩ := h
    refine eg_T_run mk_X11_fault (cut := []) 9 ?_
    refine And.intro (fun z => absurd z (by decide)) ?_
    show Qp (.inl (some (.int (eg_gi M 23 3)))) M
    exact hq
  · exact h.elim
theorem de_X11_fault : ∀ q ∈ k_X11_fault.1, decode cX11_fault q.1 = .ok q.2 := by decide +kernel
theorem me_X11_fault (g : gl_T) : MT g yX11_fault cX11_fault 1 (some .int) ⟨0, 0, 0, 0⟩ 0 0 s_X11_fault := by
  intro hl
  exact eg_met_of (k := k_X11_fault) (by decide) rfl ⟨Nat.le_refl _, Nat.le_refl _⟩ rfl sz_X11_fault de_X11_fault (fun meth hn => (fc (eg_FL_of wd_c11 (by decide) lf_RX11_35 (fun h => absurd h (by decide))) (fc (eg_FL_of wd_c10 (by decide) lf_RX11_138 (fun h => absurd h (by decide))) (fn)))) (fun A s H hE => (fn)) (fun p e s m args below meth c Q A ad0 N0 S0 hK hEx hA => (fn)) (fun p e s m args below meth c Qc XC A ad0 N0 P S0 hK hEx hA hlk hout hPX => (fn)) (fun argv M Qp h => T_X11_fault h)

def k_X11_empty : eg_C := ([(0, .aload_n 0, 1), (1, .getfield 39, 3), (4, .invokevirtual 200, 3), (7, .return_, 1)], [(39, 11, 5, false)], [], [(200, 0 + 1, 0, 0, s_X4_dismiss)], [], 0, 0, 0)
def s_X11_empty : eg_S := eg_auto wd k_X11_empty 1 (some 11) 6
theorem mk_X11_empty : ∀ q ∈ k_X11_empty.2.2.2.1, eg_mono q.2.2.2.2 := (fc (mo_X4_dismiss) (fn))
theorem mo_X11_empty : eg_mono s_X11_empty := eg_auto_mono mk_X11_empty
theorem de_X11_empty : ∀ q ∈ k_X11_empty.1, decode cX11_empty q.1 = .ok q.2 := by decide +kernel
theorem me_X11_empty (g : gl_T) : MT g yX11_empty cX11_empty 1 none ⟨1, 0, 0, 20⟩ 0 0 s_X11_empty := by
  intro hl
  exact eg_met_of (k := k_X11_empty) (by decide) rfl ⟨Nat.le_refl _, Nat.le_refl _⟩ rfl eg_auto_len de_X11_empty (fun meth hn => (fc (eg_FL_of wd_c11 (by decide) lf_RX11_39 (fun h => absurd h (by decide))) (fn))) (fun A s H hE => (fn)) (fun p e s m args below meth c Q A ad0 N0 S0 hK hEx hA => (fc (mt_V hl S0 hK hEx hA (me_X4_dismiss g) lm_RX11_200 li_X4_dismiss lx_X4_dismiss ln_RX4 lc_X4_dismiss ⟨rfl, by decide, by decide, by decide +kernel⟩ ⟨rfl, rfl⟩ ⟨by decide, by decide⟩ (ci := 4) rfl rfl eg_auto_rec (by decide)) (fn))) (fun p e s m args below meth c Qc XC A ad0 N0 P S0 hK hEx hA hlk hout hPX => (fn)) (fun argv M Qp h => eg_auto_T mk_X11_empty h)

def k_X11_clear : eg_C := ([(0, .aload_n 0, 1), (1, .getfield 46, 3), (4, .iconst 0, 1), (5, .putfield 246, 3), (8, .return_, 1)], [(46, 11, 6, false), (246, 6, 0, true)], [], [], [], 0, 0, 0)
def s_X11_clear : eg_S := eg_auto wd k_X11_clear 1 (some 11) 7
theorem mk_X11_clear : ∀ q ∈ k_X11_clear.2.2.2.1, eg_mono q.2.2.2.2 := (fn)
theorem mo_X11_clear : eg_mono s_X11_clear := eg_auto_mono mk_X11_clear
theorem de_X11_clear : ∀ q ∈ k_X11_clear.1, decode cX11_clear q.1 = .ok q.2 := by decide +kernel
theorem me_X11_clear (g : gl_T) : MT g yX11_clear cX11_clear 1 none ⟨0, 0, 0, 0⟩ 0 0 s_X11_clear := by
  intro hl
  exact eg_met_of (k := k_X11_clear) (by decide) rfl ⟨Nat.le_refl _, Nat.le_refl _⟩ rfl eg_auto_len de_X11_clear (fun meth hn => (fc (eg_FL_of wd_c11 (by decide) lf_RX11_46 (fun h => absurd h (by decide))) (fc (eg_FL_of wd_c6 (by decide) lf_RX11_246 (fun _ => Or.inl rfl)) (fn)))) (fun A s H hE => (fn)) (fun p e s m args below meth c Q A ad0 N0 S0 hK hEx hA => (fn)) (fun p e s m args below meth c Qc XC A ad0 N0 P S0 hK hEx hA hlk hout hPX => (fn)) (fun argv M Qp h => eg_auto_T mk_X11_clear h)

def k_X11_count : eg_C := ([(0, .iload_n 1, 1), (1, .tableswitch 120 0 8 #[51, 56, 64, 72, 80, 88, 96, 104, 112], 51), (52, .aload_n 0, 1), (53, .getfield 57, 3), (56, .ireturn, 1), (57, .aload_n 0, 1), (58, .getfield 20, 3), (61, .getfield 280, 3), (64, .ireturn, 1), (65, .aload_n 0, 1), (66, .getfield 25, 3), (69, .getfield 283, 3), (72, .ireturn, 1), (73, .aload_n 0, 1), (74, .getfield 30, 3), (77, .getfield 284, 3), (80, .ireturn, 1), (81, .aload_n 0, 1), (82, .getfield 39, 3), (85, .getfield 214, 3), (88, .ireturn, 1), (89, .aload_n 0, 1), (90, .getfield 39, 3), (93, .getfield 211, 3), (96, .ireturn, 1), (97, .aload_n 0, 1), (98, .getfield 46, 3), (101, .getfield 246, 3), (104, .ireturn, 1), (105, .aload_n 0, 1), (106, .getfield 35, 3), (109, .getfield 285, 3), (112, .ireturn, 1), (113, .aload_n 0, 1), (114, .getfield 35, 3), (117, .getfield 129, 3), (120, .ireturn, 1), (121, .new 89, 3), (124, .dup, 1), (125, .ldc_w 288, 3), (128, .invokespecial 93, 3), (131, .athrow, 1)], [(20, 11, 1, false), (25, 11, 2, false), (30, 11, 3, false), (35, 11, 4, false), (39, 11, 5, false), (46, 11, 6, false), (57, 11, 8, false), (129, 10, 0, false), (211, 4, 5, false), (214, 4, 0, false), (246, 6, 0, false), (280, 9, 4, false), (283, 0, 4, false), (284, 1, 10, false), (285, 10, 2, false)], [], [], [(89, .inl "java/util/NoSuchElementException")], 1, 1, 6)
def s_X11_count : eg_S := eg_auto wd k_X11_count 2 (some 11) 44
theorem mk_X11_count : ∀ q ∈ k_X11_count.2.2.2.1, eg_mono q.2.2.2.2 := (fn)
theorem mo_X11_count : eg_mono s_X11_count := eg_auto_mono mk_X11_count
theorem de_X11_count : ∀ q ∈ k_X11_count.1, decode cX11_count q.1 = .ok q.2 := by decide +kernel
theorem me_X11_count (g : gl_T) : MT g yX11_count cX11_count 2 (some .int) ⟨6, 1, 6, 92⟩ 1 6 s_X11_count := by
  intro hl
  exact eg_met_of (k := k_X11_count) (by decide) rfl ⟨Nat.le_refl _, Nat.le_refl _⟩ rfl eg_auto_len de_X11_count (fun meth hn => (fc (eg_FL_of wd_c11 (by decide) lf_RX11_20 (fun h => absurd h (by decide))) (fc (eg_FL_of wd_c11 (by decide) lf_RX11_25 (fun h => absurd h (by decide))) (fc (eg_FL_of wd_c11 (by decide) lf_RX11_30 (fun h => absurd h (by decide))) (fc (eg_FL_of wd_c11 (by decide) lf_RX11_35 (fun h => absurd h (by decide))) (fc (eg_FL_of wd_c11 (by decide) lf_RX11_39 (fun h => absurd h (by decide))) (fc (eg_FL_of wd_c11 (by decide) lf_RX11_46 (fun h => absurd h (by decide))) (fc (eg_FL_of wd_c11 (by decide) lf_RX11_57 (fun h => absurd h (by decide))) (fc (eg_FL_of wd_c10 (by decide) lf_RX11_129 (fun h => absurd h (by decide))) (fc (eg_FL_of wd_c4 (by decide) lf_RX11_211 (fun h => absurd h (by decide))) (fc (eg_FL_of wd_c4 (by decide) lf_RX11_214 (fun h => absurd h (by decide))) (fc (eg_FL_of wd_c6 (by decide) lf_RX11_246 (fun h => absurd h (by decide))) (fc (eg_FL_of wd_c9 (by decide) lf_RX11_280 (fun h => absurd h (by decide))) (fc (eg_FL_of wd_c0 (by decide) lf_RX11_283 (fun h => absurd h (by decide))) (fc (eg_FL_of wd_c1 (by decide) lf_RX11_284 (fun h => absurd h (by decide))) (fc (eg_FL_of wd_c10 (by decide) lf_RX11_285 (fun h => absurd h (by decide))) (fn))))))))))))))))) (fun A s H hE => (fn)) (fun p e s m args below meth c Q A ad0 N0 S0 hK hEx hA => (fn)) (fun p e s m args below meth c Qc XC A ad0 N0 P S0 hK hEx hA hlk hout hPX => (fc (mt_TW hl S0 hEx hlk hout hPX (ix := 13) (rx := nx_rx) (names := ["java/lang/RuntimeException", "java/lang/Exception"]) (is := 288) (ic := 93) (text := "nothing else is counted") (nt := 16) (by decide +kernel) (by decide +kernel) (by decide +kernel) (by decide +kernel) (by decide +kernel) (by decide +kernel) lq_RX11_89 tn_i (List.mem_of_getElem? (i := 6) rfl) tn_g tn_b tn_o (by decide +kernel) (by decide) (by decide) (Nat.le_refl _) (Nat.le_refl _)) (fn))) (fun argv M Qp h => eg_auto_T mk_X11_count h)

def k_X11_within : eg_C := ([(0, .iload_n 1, 1), (1, .iload_n 0, 1), (2, .if_icmp .gt 12, 3), (5, .iload_n 0, 1), (6, .iload_n 2, 1), (7, .if_icmp .gt 7, 3), (10, .iconst 1, 1), (11, .goto 4, 3), (14, .iconst 0, 1), (15, .ireturn, 1)], [], [], [], [], 2, 0, 0)
theorem mk_X11_within : ∀ q ∈ k_X11_within.2.2.2.1, eg_mono q.2.2.2.2 := (fn)
def s_X11_within : eg_S := fun argv M Qp => match argv with
  | [.int a, .int b, .int c] => (True) ∧ Qp (.inl (some (.int (b2i (decide (¬ a < b ∧ ¬ c < a)))))) M
  | _ => False
theorem mo_X11_within : eg_mono s_X11_within := by
  intro argv M Q Q' h
  unfold s_X11_within
  split
  · exact fun z => ⟨z.1, h _ _ z.2⟩
  · exact id
theorem sz_X11_within : ∀ argv M Qp, s_X11_within argv M Qp → (eg_ls0 argv).length ≤ 3 := by
  intro argv M Qp h
  unfold s_X11_within at h
  split at h
  · exact Nat.le_of_ble_eq_true rfl
  · exact h.elim
set_option maxRecDepth 100000 in
theorem T_X11_within {argv : List Value} {M : eg_M} {Qp : eg_P} (h : s_X11_within argv M Qp) : eg_T wd k_X11_within Qp 0 0 0 (eg_lsN 3 argv) [] M := by
  unfold s_X11_within at h
  split at h
  · rename_i a b c
    obtain ⟨hp, hq⟩ := h
    refine eg_T_run mk_X11_within (cut := []) 15 ?_
    refine And.intro (fun (c1 : a < b) => ?_) (fun (c1 : ¬ a < b) => ?_)
    · skip
      refine And.intro (fun _ => (show (nI 0) = 0 ∨ (nI 0) = 1 from ?_)) ?_
      · exact Or.inl rfl
      show Qp (.inl (some (.int (nI 0)))) M
      rw [show (decide (¬ a < b ∧ ¬ c < a)) = false from decide_eq_false (by grind)] at hq
      exact hq
    · skip
      refine And.intro (fun (c2 : c < a) => ?_) (fun (c2 : ¬ c < a) => ?_)
      · skip
        refine And.intro (fun _ => (show (nI 0) = 0 ∨ (nI 0) = 1 from ?_)) ?_
        · exact Or.inl rfl
        show Qp (.inl (some (.int (nI 0)))) M
        rw [show (decide (¬ a < b ∧ ¬ c < a)) = false from decide_eq_false (by grind)] at hq
        exact hq
      · skip
        refine And.intro (fun _ => (show (nI 1) = 0 ∨ (nI 1) = 1 from ?_)) ?_
        · exact Or.inr rfl
        show Qp (.inl (some (.int (nI 1)))) M
        rw [show (decide (¬ a < b ∧ ¬ c < a)) = true from decide_eq_true (by grind)] at hq
        exact hq
  · exact h.elim
theorem de_X11_within : ∀ q ∈ k_X11_within.1, decode cX11_within q.1 = .ok q.2 := by decide +kernel
theorem me_X11_within (g : gl_T) : MT g yX11_within cX11_within 3 (some .boolean) ⟨0, 0, 0, 0⟩ 0 0 s_X11_within := by
  intro hl
  exact eg_met_of (k := k_X11_within) (by decide) rfl ⟨Nat.le_refl _, Nat.le_refl _⟩ rfl sz_X11_within de_X11_within (fun meth hn => (fn)) (fun A s H hE => (fn)) (fun p e s m args below meth c Q A ad0 N0 S0 hK hEx hA => (fn)) (fun p e s m args below meth c Qc XC A ad0 N0 P S0 hK hEx hA hlk hout hPX => (fn)) (fun argv M Qp h => T_X11_within h)

def k_X11_isDay : eg_C := ([(0, .iload_n 0, 1), (1, .iconst 0, 1), (2, .sipush 3599, 3), (5, .invokestatic 61, 3), (8, .ireturn, 1)], [], [], [(61 + 100000, 3, 0, 0, s_X11_within)], [], 2, 0, 0)
theorem mk_X11_isDay : ∀ q ∈ k_X11_isDay.2.2.2.1, eg_mono q.2.2.2.2 := (fc (mo_X11_within) (fn))
def s_X11_isDay : eg_S := fun argv M Qp => match argv with
  | [.int a] => (True) ∧ Qp (.inl (some (.int (b2i (decide (¬ a < (nI 0) ∧ ¬ (nI 3599) < a)))))) M
  | _ => False
theorem mo_X11_isDay : eg_mono s_X11_isDay := by
  intro argv M Q Q' h
  unfold s_X11_isDay
  split
  · exact fun z => ⟨z.1, h _ _ z.2⟩
  · exact id
theorem sz_X11_isDay : ∀ argv M Qp, s_X11_isDay argv M Qp → (eg_ls0 argv).length ≤ 1 := by
  intro argv M Qp h
  unfold s_X11_isDay at h
  split at h
  · exact Nat.le_of_ble_eq_true rfl
  · exact h.elim
set_option maxRecDepth 100000 in
theorem T_X11_isDay {argv : List Value} {M : eg_M} {Qp : eg_P} (h : s_X11_isDay argv M Qp) : eg_T wd k_X11_isDay Qp 0 0 0 (eg_lsN 1 argv) [] M := by
  unfold s_X11_isDay at h
  split at h
  · rename_i a
    obtain ⟨hp, hq⟩ := h
    refine eg_T_run mk_X11_isDay (cut := []) 10 ?_
    refine And.intro (show (True) from ?_) ?_
    · exact trivial
    refine And.intro (fun _ => (show (b2i (decide (¬ a < (nI 0) ∧ ¬ (nI 3599) < a))) = 0 ∨ (b2i (decide (¬ a < (nI 0) ∧ ¬ (nI 3599) < a))) = 1 from ?_)) ?_
    · exact b2i_01 _
    show Qp (.inl (some (.int (b2i (decide (¬ a < (nI 0) ∧ ¬ (nI 3599) < a)))))) M
    rw [show (decide (¬ a < (nI 0) ∧ ¬ (nI 3599) < a)) = decide (¬ a < (nI 0) ∧ ¬ (nI 3599) < a) from decide_eq_decide.mpr (by grind)] at hq
    exact hq
  · exact h.elim
theorem de_X11_isDay : ∀ q ∈ k_X11_isDay.1, decode cX11_isDay q.1 = .ok q.2 := by decide +kernel
theorem me_X11_isDay (g : gl_T) : MT g yX11_isDay cX11_isDay 1 (some .boolean) ⟨1, 0, 0, 22⟩ 0 0 s_X11_isDay := by
  intro hl
  exact eg_met_of (k := k_X11_isDay) (by decide) rfl ⟨Nat.le_refl _, Nat.le_refl _⟩ rfl sz_X11_isDay de_X11_isDay (fun meth hn => (fn)) (fun A s H hE => (fn)) (fun p e s m args below meth c Q A ad0 N0 S0 hK hEx hA => (fc (mt_S hl S0 hK hEx hA (me_X11_within g) lm_RX11_61 ls_X11_within ln_RX11 lc_X11_within ⟨rfl, by decide, by decide, by decide +kernel⟩ ⟨rfl, rfl⟩ ⟨by decide, by decide⟩ (by decide)) (fn))) (fun p e s m args below meth c Qc XC A ad0 N0 P S0 hK hEx hA hlk hout hPX => (fn)) (fun argv M Qp h => T_X11_isDay h)

def k_X11_needTown : eg_C := ([(0, .iload_n 1, 1), (1, .iconst 0, 1), (2, .aload_n 0, 1), (3, .getfield 20, 3), (6, .getfield 280, 3), (9, .iconst 1, 1), (10, .isub, 1), (11, .invokestatic 61, 3), (14, .ifCond .ne 14, 3), (17, .new 89, 3), (20, .dup, 1), (21, .ldc_w 290, 3), (24, .invokespecial 93, 3), (27, .athrow, 1), (28, .return_, 1)], [(20, 11, 1, false), (280, 9, 4, false)], [], [(61 + 100000, 3, 0, 0, s_X11_within)], [(89, .inl "java/util/NoSuchElementException")], 0, 1, 6)
def s_X11_needTown : eg_S := eg_auto wd k_X11_needTown 2 (some 11) 17
theorem mk_X11_needTown : ∀ q ∈ k_X11_needTown.2.2.2.1, eg_mono q.2.2.2.2 := (fc (mo_X11_within) (fn))
theorem mo_X11_needTown : eg_mono s_X11_needTown := eg_auto_mono mk_X11_needTown
theorem de_X11_needTown : ∀ q ∈ k_X11_needTown.1, decode cX11_needTown q.1 = .ok q.2 := by decide +kernel
theorem me_X11_needTown (g : gl_T) : MT g yX11_needTown cX11_needTown 2 none ⟨6, 1, 6, 92⟩ 1 6 s_X11_needTown := by
  intro hl
  exact eg_met_of (k := k_X11_needTown) (by decide) rfl ⟨Nat.le_refl _, Nat.le_refl _⟩ rfl eg_auto_len de_X11_needTown (fun meth hn => (fc (eg_FL_of wd_c11 (by decide) lf_RX11_20 (fun h => absurd h (by decide))) (fc (eg_FL_of wd_c9 (by decide) lf_RX11_280 (fun h => absurd h (by decide))) (fn)))) (fun A s H hE => (fn)) (fun p e s m args below meth c Q A ad0 N0 S0 hK hEx hA => (fc (mt_S hl S0 hK hEx hA (me_X11_within g) lm_RX11_61 ls_X11_within ln_RX11 lc_X11_within ⟨rfl, by decide, by decide, by decide +kernel⟩ ⟨rfl, rfl⟩ ⟨by decide, by decide⟩ (by decide)) (fn))) (fun p e s m args below meth c Qc XC A ad0 N0 P S0 hK hEx hA hlk hout hPX => (fc (mt_TW hl S0 hEx hlk hout hPX (ix := 13) (rx := nx_rx) (names := ["java/lang/RuntimeException", "java/lang/Exception"]) (is := 290) (ic := 93) (text := "no such town") (nt := 14) (by decide +kernel) (by decide +kernel) (by decide +kernel) (by decide +kernel) (by decide +kernel) (by decide +kernel) lq_RX11_89 tn_i (List.mem_of_getElem? (i := 7) rfl) tn_g tn_b tn_o (by decide +kernel) (by decide) (by decide) (Nat.le_refl _) (Nat.le_refl _)) (fn))) (fun argv M Qp h => eg_auto_T mk_X11_needTown h)

def k_X11_needCharter : eg_C := ([(0, .iload_n 1, 1), (1, .iconst 0, 1), (2, .aload_n 0, 1), (3, .getfield 25, 3), (6, .getfield 283, 3), (9, .iconst 1, 1), (10, .isub, 1), (11, .invokestatic 61, 3), (14, .ifCond .ne 14, 3), (17, .new 89, 3), (20, .dup, 1), (21, .ldc_w 292, 3), (24, .invokespecial 93, 3), (27, .athrow, 1), (28, .return_, 1)], [(25, 11, 2, false), (283, 0, 4, false)], [], [(61 + 100000, 3, 0, 0, s_X11_within)], [(89, .inl "java/util/NoSuchElementException")], 0, 1, 6)
def s_X11_needCharter : eg_S := eg_auto wd k_X11_needCharter 2 (some 11) 17
theorem mk_X11_needCharter : ∀ q ∈ k_X11_needCharter.2.2.2.1, eg_mono q.2.2.2.2 := (fc (mo_X11_within) (fn))
theorem mo_X11_needCharter : eg_mono s_X11_needCharter := eg_auto_mono mk_X11_needCharter
theorem de_X11_needCharter : ∀ q ∈ k_X11_needCharter.1, decode cX11_needCharter q.1 = .ok q.2 := by decide +kernel
theorem me_X11_needCharter (g : gl_T) : MT g yX11_needCharter cX11_needCharter 2 none ⟨6, 1, 6, 92⟩ 1 6 s_X11_needCharter := by
  intro hl
  exact eg_met_of (k := k_X11_needCharter) (by decide) rfl ⟨Nat.le_refl _, Nat.le_refl _⟩ rfl eg_auto_len de_X11_needCharter (fun meth hn => (fc (eg_FL_of wd_c11 (by decide) lf_RX11_25 (fun h => absurd h (by decide))) (fc (eg_FL_of wd_c0 (by decide) lf_RX11_283 (fun h => absurd h (by decide))) (fn)))) (fun A s H hE => (fn)) (fun p e s m args below meth c Q A ad0 N0 S0 hK hEx hA => (fc (mt_S hl S0 hK hEx hA (me_X11_within g) lm_RX11_61 ls_X11_within ln_RX11 lc_X11_within ⟨rfl, by decide, by decide, by decide +kernel⟩ ⟨rfl, rfl⟩ ⟨by decide, by decide⟩ (by decide)) (fn))) (fun p e s m args below meth c Qc XC A ad0 N0 P S0 hK hEx hA hlk hout hPX => (fc (mt_TW hl S0 hEx hlk hout hPX (ix := 13) (rx := nx_rx) (names := ["java/lang/RuntimeException", "java/lang/Exception"]) (is := 292) (ic := 93) (text := "no such charter") (nt := 8) (by decide +kernel) (by decide +kernel) (by decide +kernel) (by decide +kernel) (by decide +kernel) (by decide +kernel) lq_RX11_89 tn_i (List.mem_of_getElem? (i := 8) rfl) tn_g tn_b tn_o (by decide +kernel) (by decide) (by decide) (Nat.le_refl _) (Nat.le_refl _)) (fn))) (fun argv M Qp h => eg_auto_T mk_X11_needCharter h)

def k_X11_needEvent : eg_C := ([(0, .iload_n 1, 1), (1, .iconst 0, 1), (2, .aload_n 0, 1), (3, .getfield 30, 3), (6, .getfield 284, 3), (9, .iconst 1, 1), (10, .isub, 1), (11, .invokestatic 61, 3), (14, .ifCond .ne 14, 3), (17, .new 89, 3), (20, .dup, 1), (21, .ldc_w 294, 3), (24, .invokespecial 93, 3), (27, .athrow, 1), (28, .return_, 1)], [(30, 11, 3, false), (284, 1, 10, false)], [], [(61 + 100000, 3, 0, 0, s_X11_within)], [(89, .inl "java/util/NoSuchElementException")], 0, 1, 6)
def s_X11_needEvent : eg_S := eg_auto wd k_X11_needEvent 2 (some 11) 17
theorem mk_X11_needEvent : ∀ q ∈ k_X11_needEvent.2.2.2.1, eg_mono q.2.2.2.2 := (fc (mo_X11_within) (fn))
theorem mo_X11_needEvent : eg_mono s_X11_needEvent := eg_auto_mono mk_X11_needEvent
theorem de_X11_needEvent : ∀ q ∈ k_X11_needEvent.1, decode cX11_needEvent q.1 = .ok q.2 := by decide +kernel
theorem me_X11_needEvent (g : gl_T) : MT g yX11_needEvent cX11_needEvent 2 none ⟨6, 1, 6, 92⟩ 1 6 s_X11_needEvent := by
  intro hl
  exact eg_met_of (k := k_X11_needEvent) (by decide) rfl ⟨Nat.le_refl _, Nat.le_refl _⟩ rfl eg_auto_len de_X11_needEvent (fun meth hn => (fc (eg_FL_of wd_c11 (by decide) lf_RX11_30 (fun h => absurd h (by decide))) (fc (eg_FL_of wd_c1 (by decide) lf_RX11_284 (fun h => absurd h (by decide))) (fn)))) (fun A s H hE => (fn)) (fun p e s m args below meth c Q A ad0 N0 S0 hK hEx hA => (fc (mt_S hl S0 hK hEx hA (me_X11_within g) lm_RX11_61 ls_X11_within ln_RX11 lc_X11_within ⟨rfl, by decide, by decide, by decide +kernel⟩ ⟨rfl, rfl⟩ ⟨by decide, by decide⟩ (by decide)) (fn))) (fun p e s m args below meth c Qc XC A ad0 N0 P S0 hK hEx hA hlk hout hPX => (fc (mt_TW hl S0 hEx hlk hout hPX (ix := 13) (rx := nx_rx) (names := ["java/lang/RuntimeException", "java/lang/Exception"]) (is := 294) (ic := 93) (text := "no such event") (nt := 10) (by decide +kernel) (by decide +kernel) (by decide +kernel) (by decide +kernel) (by decide +kernel) (by decide +kernel) lq_RX11_89 tn_i (List.mem_of_getElem? (i := 9) rfl) tn_g tn_b tn_o (by decide +kernel) (by decide) (by decide) (Nat.le_refl _) (Nat.le_refl _)) (fn))) (fun argv M Qp h => eg_auto_T mk_X11_needEvent h)

def k_X11_needKind : eg_C := ([(0, .iload_n 1, 1), (1, .iconst 0, 1), (2, .iload_n 2, 1), (3, .invokestatic 61, 3), (6, .ifCond .ne 14, 3), (9, .new 89, 3), (12, .dup, 1), (13, .ldc_w 296, 3), (16, .invokespecial 93, 3), (19, .athrow, 1), (20, .return_, 1)], [], [], [(61 + 100000, 3, 0, 0, s_X11_within)], [(89, .inl "java/util/NoSuchElementException")], 0, 1, 6)
def s_X11_needKind : eg_S := eg_auto wd k_X11_needKind 3 (some 11) 13
theorem mk_X11_needKind : ∀ q ∈ k_X11_needKind.2.2.2.1, eg_mono q.2.2.2.2 := (fc (mo_X11_within) (fn))
theorem mo_X11_needKind : eg_mono s_X11_needKind := eg_auto_mono mk_X11_needKind
theorem de_X11_needKind : ∀ q ∈ k_X11_needKind.1, decode cX11_needKind q.1 = .ok q.2 := by decide +kernel
theorem me_X11_needKind (g : gl_T) : MT g yX11_needKind cX11_needKind 3 none ⟨6, 1, 6, 92⟩ 1 6 s_X11_needKind := by
  intro hl
  exact eg_met_of (k := k_X11_needKind) (by decide) rfl ⟨Nat.le_refl _, Nat.le_refl _⟩ rfl eg_auto_len de_X11_needKind (fun meth hn => (fn)) (fun A s H hE => (fn)) (fun p e s m args below meth c Q A ad0 N0 S0 hK hEx hA => (fc (mt_S hl S0 hK hEx hA (me_X11_within g) lm_RX11_61 ls_X11_within ln_RX11 lc_X11_within ⟨rfl, by decide, by decide, by decide +kernel⟩ ⟨rfl, rfl⟩ ⟨by decide, by decide⟩ (by decide)) (fn))) (fun p e s m args below meth c Qc XC A ad0 N0 P S0 hK hEx hA hlk hout hPX => (fc (mt_TW hl S0 hEx hlk hout hPX (ix := 13) (rx := nx_rx) (names := ["java/lang/RuntimeException", "java/lang/Exception"]) (is := 296) (ic := 93) (text := "no such thing to ask for") (nt := 13) (by decide +kernel) (by decide +kernel) (by decide +kernel) (by decide +kernel) (by decide +kernel) (by decide +kernel) lq_RX11_89 tn_i (List.mem_of_getElem? (i := 10) rfl) tn_g tn_b tn_o (by decide +kernel) (by decide) (by decide) (Nat.le_refl _) (Nat.le_refl _)) (fn))) (fun argv M Qp h => eg_auto_T mk_X11_needKind h)

def k_X11_needDay : eg_C := ([(0, .iload_n 1, 1), (1, .invokestatic 75, 3), (4, .ifCond .ne 14, 3), (7, .new 89, 3), (10, .dup, 1), (11, .ldc_w 298, 3), (14, .invokespecial 93, 3), (17, .athrow, 1), (18, .return_, 1)], [], [], [(75 + 100000, 1, 0, 0, s_X11_isDay)], [(89, .inl "java/util/NoSuchElementException")], 0, 1, 6)
def s_X11_needDay : eg_S := eg_auto wd k_X11_needDay 2 (some 11) 11
theorem mk_X11_needDay : ∀ q ∈ k_X11_needDay.2.2.2.1, eg_mono q.2.2.2.2 := (fc (mo_X11_isDay) (fn))
theorem mo_X11_needDay : eg_mono s_X11_needDay := eg_auto_mono mk_X11_needDay
theorem de_X11_needDay : ∀ q ∈ k_X11_needDay.1, decode cX11_needDay q.1 = .ok q.2 := by decide +kernel
theorem me_X11_needDay (g : gl_T) : MT g yX11_needDay cX11_needDay 2 none ⟨6, 1, 6, 92⟩ 1 6 s_X11_needDay := by
  intro hl
  exact eg_met_of (k := k_X11_needDay) (by decide) rfl ⟨Nat.le_refl _, Nat.le_refl _⟩ rfl eg_auto_len de_X11_needDay (fun meth hn => (fn)) (fun A s H hE => (fn)) (fun p e s m args below meth c Q A ad0 N0 S0 hK hEx hA => (fc (mt_S hl S0 hK hEx hA (me_X11_isDay g) lm_RX11_75 ls_X11_isDay ln_RX11 lc_X11_isDay ⟨rfl, by decide, by decide, by decide +kernel⟩ ⟨rfl, rfl⟩ ⟨by decide, by decide⟩ (by decide)) (fn))) (fun p e s m args below meth c Qc XC A ad0 N0 P S0 hK hEx hA hlk hout hPX => (fc (mt_TW hl S0 hEx hlk hout hPX (ix := 13) (rx := nx_rx) (names := ["java/lang/RuntimeException", "java/lang/Exception"]) (is := 298) (ic := 93) (text := "no such day") (nt := 9) (by decide +kernel) (by decide +kernel) (by decide +kernel) (by decide +kernel) (by decide +kernel) (by decide +kernel) lq_RX11_89 tn_i (List.mem_of_getElem? (i := 11) rfl) tn_g tn_b tn_o (by decide +kernel) (by decide) (by decide) (Nat.le_refl _) (Nat.le_refl _)) (fn))) (fun argv M Qp h => eg_auto_T mk_X11_needDay h)

def k_X11_needPast : eg_C := ([(0, .iload_n 1, 1), (1, .iconst 0, 1), (2, .aload_n 0, 1), (3, .getfield 57, 3), (6, .invokestatic 61, 3), (9, .ifCond .ne 14, 3), (12, .new 82, 3), (15, .dup, 1), (16, .ldc_w 300, 3), (19, .invokespecial 86, 3), (22, .athrow, 1), (23, .return_, 1)], [(57, 11, 8, false)], [], [(61 + 100000, 3, 0, 0, s_X11_within)], [(82, .inl "java/lang/IllegalArgumentException")], 0, 1, 6)
def s_X11_needPast : eg_S := eg_auto wd k_X11_needPast 2 (some 11) 14
theorem mk_X11_needPast : ∀ q ∈ k_X11_needPast.2.2.2.1, eg_mono q.2.2.2.2 := (fc (mo_X11_within) (fn))
theorem mo_X11_needPast : eg_mono s_X11_needPast := eg_auto_mono mk_X11_needPast
theorem de_X11_needPast : ∀ q ∈ k_X11_needPast.1, decode cX11_needPast q.1 = .ok q.2 := by decide +kernel
theorem me_X11_needPast (g : gl_T) : MT g yX11_needPast cX11_needPast 2 none ⟨6, 1, 6, 92⟩ 1 6 s_X11_needPast := by
  intro hl
  exact eg_met_of (k := k_X11_needPast) (by decide) rfl ⟨Nat.le_refl _, Nat.le_refl _⟩ rfl eg_auto_len de_X11_needPast (fun meth hn => (fc (eg_FL_of wd_c11 (by decide) lf_RX11_57 (fun h => absurd h (by decide))) (fn))) (fun A s H hE => (fn)) (fun p e s m args below meth c Q A ad0 N0 S0 hK hEx hA => (fc (mt_S hl S0 hK hEx hA (me_X11_within g) lm_RX11_61 ls_X11_within ln_RX11 lc_X11_within ⟨rfl, by decide, by decide, by decide +kernel⟩ ⟨rfl, rfl⟩ ⟨by decide, by decide⟩ (by decide)) (fn))) (fun p e s m args below meth c Qc XC A ad0 N0 P S0 hK hEx hA hlk hout hPX => (fc (mt_TW hl S0 hEx hlk hout hPX (ix := 7) (rx := Bundle.six) (names := ["java/lang/RuntimeException", "java/lang/Exception"]) (is := 300) (ic := 86) (text := "nothing is known of a day that has not come") (nt := 19) (by decide +kernel) (by decide +kernel) (by decide +kernel) (by decide +kernel) (by decide +kernel) (by decide +kernel) lq_RX11_82 ti_i (List.mem_of_getElem? (i := 12) rfl) ti_g ti_b ti_o (by decide +kernel) (by decide) (by decide) (Nat.le_refl _) (Nat.le_refl _)) (fn))) (fun argv M Qp h => eg_auto_T mk_X11_needPast h)

def k_X11_isEventAsTold : eg_C := ([(0, .iload_n 0, 1), (1, .ifCond .ne 13, 3), (4, .iload_n 1, 1), (5, .ifCond .ne 7, 3), (8, .iconst 1, 1), (9, .goto 4, 3), (12, .iconst 0, 1), (13, .ireturn, 1), (14, .iload_n 0, 1), (15, .iconst 2, 1), (16, .if_icmp .ne 29, 3), (19, .iload_n 1, 1), (20, .iconst 1, 1), (21, .ldc_w 302, 3), (24, .invokestatic 61, 3), (27, .ifCond .eq 16, 3), (30, .iload_n 2, 1), (31, .iconst 0, 1), (32, .iconst 1, 1), (33, .invokestatic 61, 3), (36, .ifCond .eq 7, 3), (39, .iconst 1, 1), (40, .goto 4, 3), (43, .iconst 0, 1), (44, .ireturn, 1), (45, .iload_n 1, 1), (46, .iconst 1, 1), (47, .sipush 200, 3), (50, .invokestatic 61, 3), (53, .ifCond .eq 36, 3), (56, .iload_n 2, 1), (57, .iconst 0, 1), (58, .iconst 1, 1), (59, .invokestatic 61, 3), (62, .ifCond .eq 27, 3), (65, .iload_n 3, 1), (66, .iconst 1, 1), (67, .bipush 30, 2), (69, .invokestatic 61, 3), (72, .ifCond .eq 17, 3), (75, .iload 4, 2), (77, .iconst 0, 1), (78, .iload_n 1, 1), (79, .invokestatic 61, 3), (82, .ifCond .eq 7, 3), (85, .iconst 1, 1), (86, .goto 4, 3), (89, .iconst 0, 1), (90, .ireturn, 1)], [], [(302, .int (nI 99999))], [(61 + 100000, 3, 0, 0, s_X11_within)], [], 2, 0, 0)
theorem mk_X11_isEventAsTold : ∀ q ∈ k_X11_isEventAsTold.2.2.2.1, eg_mono q.2.2.2.2 := (fc (mo_X11_within) (fn))
def s_X11_isEventAsTold : eg_S := fun argv M Qp => match argv with
  | [.int a, .int b, .int c, .int d, .int e] => (True) ∧ Qp (.inl (some (.int (b2i (decide ((a = 0 ∧ b = 0) ∨ (¬ a = 0 ∧ ((a = (nI 2) ∧ (¬ (b2i (decide (¬ b < (nI 1) ∧ ¬ (nI 99999) < b))) = 0 ∧ (¬ (b2i (decide (¬ c < (nI 0) ∧ ¬ (nI 1) < c))) = 0))) ∨ (¬ a = (nI 2) ∧ (¬ (b2i (decide (¬ b < (nI 1) ∧ ¬ (nI 200) < b))) = 0 ∧ (¬ (b2i (decide (¬ c < (nI 0) ∧ ¬ (nI 1) < c))) = 0 ∧ (¬ (b2i (decide (¬ d < (nI 1) ∧ ¬ (nI 30) < d))) = 0 ∧ (¬ (b2i (decide (¬ e < (nI 0) ∧ ¬ b < e))) = 0))))))))))))) M
  | _ => False
theorem mo_X11_isEventAsTold : eg_mono s_X11_isEventAsTold := by
  intro argv M Q Q' h
  unfold s_X11_isEventAsTold
  split
  · exact fun z => ⟨z.1, h _ _ z.2⟩
  · exact id
theorem sz_X11_isEventAsTold : ∀ argv M Qp, s_X11_isEventAsTold argv M Qp → (eg_ls0 argv).length ≤ 5 := by
  intro argv M Qp h
  unfold s_X11_isEventAsTold at h
  split at h
  · exact Nat.le_of_ble_eq_true rfl
  · exact h.elim
set_option maxRecDepth 100000 in
theorem T_X11_isEventAsTold {argv : List Value} {M : eg_M} {Qp : eg_P} (h : s_X11_isEventAsTold argv M Qp) : eg_T wd k_X11_isEventAsTold Qp 0 0 0 (eg_lsN 5 argv) [] M := by
  unfold s_X11_isEventAsTold at h
  split at h
  · rename_i a b c d e
    obtain ⟨hp, hq⟩ := h
    refine eg_T_run mk_X11_isEventAsTold (cut := []) 54 ?_
    refine And.intro (fun (c1 : a = 0) => ?_) (fun (c1 : ¬ a = 0) => ?_)
    · skip
      refine And.intro (fun (c2 : b = 0) => ?_) (fun (c2 : ¬ b = 0) => ?_)
      · skip
        refine And.intro (fun _ => (show (nI 1) = 0 ∨ (nI 1) = 1 from ?_)) ?_
        · exact Or.inr rfl
        show Qp (.inl (some (.int (nI 1)))) M
        rw [show (decide ((a = 0 ∧ b = 0) ∨ (¬ a = 0 ∧ ((a = (nI 2) ∧ (¬ (b2i (decide (¬ b < (nI 1) ∧ ¬ (nI 99999) < b))) = 0 ∧ (¬ (b2i (decide (¬ c < (nI 0) ∧ ¬ (nI 1) < c))) = 0))) ∨ (¬ a = (nI 2) ∧ (¬ (b2i (decide (¬ b < (nI 1) ∧ ¬ (nI 200) < b))) = 0 ∧ (¬ (b2i (decide (¬ c < (nI 0) ∧ ¬ (nI 1) < c))) = 0 ∧ (¬ (b2i (decide (¬ d < (nI 1) ∧ ¬ (nI 30) < d))) = 0 ∧ (¬ (b2i (decide (¬ e < (nI 0) ∧ ¬ b < e))) = 0))))))))) = true from decide_eq_true (by grind)] at hq
        exact hq
      · skip
        refine And.intro (fun _ => (show (nI 0) = 0 ∨ (nI 0) = 1 from ?_)) ?_
        · exact Or.inl rfl
        show Qp (.inl (some (.int (nI 0)))) M
        rw [show (decide ((a = 0 ∧ b = 0) ∨ (¬ a = 0 ∧ ((a = (nI 2) ∧ (¬ (b2i (decide (¬ b < (nI 1) ∧ ¬ (nI 99999) < b))) = 0 ∧ (¬ (b2i (decide (¬ c < (nI 0) ∧ ¬ (nI 1) < c))) = 0))) ∨ (¬ a = (nI 2) ∧ (¬ (b2i (decide (¬ b < (nI 1) ∧ ¬ (nI 200) < b))) = 0 ∧ (¬ (b2i (decide (¬ c < (nI 0) ∧ ¬ (nI 1) < c))) = 0 ∧ (¬ (b2i (decide (¬ d < (nI 1) ∧ ¬ (nI 30) < d))) = 0 ∧ (¬ (b2i (decide (¬ e < (nI 0) ∧ ¬ b < e))) = 0))))))))) = false from decide_eq_false (by grind)] at hq
        exact hq
    · skip
      refine And.intro (fun (c3 : a = (nI 2)) => ?_) (fun (c3 : ¬ a = (nI 2)) => ?_)
      · skip
        refine And.intro (show (True) from ?_) ?_
        · exact trivial
        refine And.intro (fun (c4 : (b2i (decide (¬ b < (nI 1) ∧ ¬ (nI 99999) < b))) = 0) => ?_) (fun (c4 : ¬ (b2i (decide (¬ b < (nI 1) ∧ ¬ (nI 99999) < b))) = 0) => ?_)
        · skip
          refine And.intro (fun _ => (show (nI 0) = 0 ∨ (nI 0) = 1 from ?_)) ?_
          · exact Or.inl rfl
          show Qp (.inl (some (.int (nI 0)))) M
          rw [show (decide ((a = 0 ∧ b = 0) ∨ (¬ a = 0 ∧ ((a = (nI 2) ∧ (¬ (b2i (decide (¬ b < (nI 1) ∧ ¬ (nI 99999) < b))) = 0 ∧ (¬ (b2i (decide (¬ c < (nI 0) ∧ ¬ (nI 1) < c))) = 0))) ∨ (¬ a = (nI 2) ∧ (¬ (b2i (decide (¬ b < (nI 1) ∧ ¬ (nI 200) < b))) = 0 ∧ (¬ (b2i (decide (¬ c < (nI 0) ∧ ¬ (nI 1) < c))) = 0 ∧ (¬ (b2i (decide (¬ d < (nI 1) ∧ ¬ (nI 30) < d))) = 0 ∧ (¬ (b2i (decide (¬ e < (nI 0) ∧ ¬ b < e))) = 0))))))))) = false from decide_eq_false (by grind)] at hq
          exact hq
        · skip
          refine And.intro (show (True) from ?_) ?_
          · exact trivial
          refine And.intro (fun (c5 : (b2i (decide (¬ c < (nI 0) ∧ ¬ (nI 1) < c))) = 0) => ?_) (fun (c5 : ¬ (b2i (decide (¬ c < (nI 0) ∧ ¬ (nI 1) < c))) = 0) => ?_)
          · skip
            refine And.intro (fun _ => (show (nI 0) = 0 ∨ (nI 0) = 1 from ?_)) ?_
            · exact Or.inl rfl
            show Qp (.inl (some (.int (nI 0)))) M
            rw [show (decide ((a = 0 ∧ b = 0) ∨ (¬ a = 0 ∧ ((a = (nI 2) ∧ (¬ (b2i (decide (¬ b < (nI 1) ∧ ¬ (nI 99999) < b))) = 0 ∧ (¬ (b2i (decide (¬ c < (nI 0) ∧ ¬ (nI 1) < c))) = 0))) ∨ (¬ a = (nI 2) ∧ (¬ (b2i (decide (¬ b < (nI 1) ∧ ¬ (nI 200) < b))) = 0 ∧ (¬ (b2i (decide (¬ c < (nI 0) ∧ ¬ (nI 1) < c))) = 0 ∧ (¬ (b2i (decide (¬ d < (nI 1) ∧ ¬ (nI 30) < d))) = 0 ∧ (¬ (b2i (decide (¬ e < (nI 0) ∧ ¬ b < e))) = 0))))))))) = false from decide_eq_false (by grind)] at hq
            exact hq
          · skip
            refine And.intro (fun _ => (show (nI 1) = 0 ∨ (nI 1) = 1 from ?_)) ?_
            · exact Or.inr rfl
            show Qp (.inl (some (.int (nI 1)))) M
            rw [show (decide ((a = 0 ∧ b = 0) ∨ (¬ a = 0 ∧ ((a = (nI 2) ∧ (¬ (b2i (decide (¬ b < (nI 1) ∧ ¬ (nI 99999) < b))) = 0 ∧ (¬ (b2i (decide (¬ c < (nI 0) ∧ ¬ (nI 1) < c))) = 0))) ∨ (¬ a = (nI 2) ∧ (¬ (b2i (decide (¬ b < (nI 1) ∧ ¬ (nI 200) < b))) = 0 ∧ (¬ (b2i (decide (¬ c < (nI 0) ∧ ¬ (nI 1) < c))) = 0 ∧ (¬ (b2i (decide (¬ d < (nI 1) ∧ ¬ (nI 30) < d))) = 0 ∧ (¬ (b2i (decide (¬ e < (nI 0) ∧ ¬ b < e))) = 0))))))))) = true from decide_eq_true (by grind)] at hq
            exact hq
      · skip
        refine And.intro (show (True) from ?_) ?_
        · exact trivial
        refine And.intro (fun (c6 : (b2i (decide (¬ b < (nI 1) ∧ ¬ (nI 200) < b))) = 0) => ?_) (fun (c6 : ¬ (b2i (decide (¬ b < (nI 1) ∧ ¬ (nI 200) < b))) = 0) => ?_)
        · skip
          refine And.intro (fun _ => (show (nI 0) = 0 ∨ (nI 0) = 1 from ?_)) ?_
          · exact Or.inl rfl
          show Qp (.inl (some (.int (nI 0)))) M
          rw [show (decide ((a = 0 ∧ b = 0) ∨ (¬ a = 0 ∧ ((a = (nI 2) ∧ (¬ (b2i (decide (¬ b < (nI 1) ∧ ¬ (nI 99999) < b))) = 0 ∧ (¬ (b2i (decide (¬ c < (nI 0) ∧ ¬ (nI 1) < c))) = 0))) ∨ (¬ a = (nI 2) ∧ (¬ (b2i (decide (¬ b < (nI 1) ∧ ¬ (nI 200) < b))) = 0 ∧ (¬ (b2i (decide (¬ c < (nI 0) ∧ ¬ (nI 1) < c))) = 0 ∧ (¬ (b2i (decide (¬ d < (nI 1) ∧ ¬ (nI 30) < d))) = 0 ∧ (¬ (b2i (decide (¬ e < (nI 0) ∧ ¬ b < e))) = 0))))))))) = false from decide_eq_false (by grind)] at hq
          exact hq
        · skip
          refine And.intro (show (True) from ?_) ?_
          · exact trivial
          refine And.intro (fun (c7 : (b2i (decide (¬ c < (nI 0) ∧ ¬ (nI 1) < c))) = 0) => ?_) (fun (c7 : ¬ (b2i (decide (¬ c < (nI 0) ∧ ¬ (nI 1) < c))) = 0) => ?_)
          · skip
            refine And.intro (fun _ => (show (nI 0) = 0 ∨ (nI 0) = 1 from ?_)) ?_
            · exact Or.inl rfl
            show Qp (.inl (some (.int (nI 0)))) M
            rw [show (decide ((a = 0 ∧ b = 0) ∨ (¬ a = 0 ∧ ((a = (nI 2) ∧ (¬ (b2i (decide (¬ b < (nI 1) ∧ ¬ (nI 99999) < b))) = 0 ∧ (¬ (b2i (decide (¬ c < (nI 0) ∧ ¬ (nI 1) < c))) = 0))) ∨ (¬ a = (nI 2) ∧ (¬ (b2i (decide (¬ b < (nI 1) ∧ ¬ (nI 200) < b))) = 0 ∧ (¬ (b2i (decide (¬ c < (nI 0) ∧ ¬ (nI 1) < c))) = 0 ∧ (¬ (b2i (decide (¬ d < (nI 1) ∧ ¬ (nI 30) < d))) = 0 ∧ (¬ (b2i (decide (¬ e < (nI 0) ∧ ¬ b < e))) = 0))))))))) = false from decide_eq_false (by grind)] at hq
            exact hq
          · skip
            refine And.intro (show (True) from ?_) ?_
            · exact trivial
            refine And.intro (fun (c8 : (b2i (decide (¬ d < (nI 1) ∧ ¬ (nI 30) < d))) = 0) => ?_) (fun (c8 : ¬ (b2i (decide (¬ d < (nI 1) ∧ ¬ (nI 30) < d))) = 0) => ?_)
            · skip
              refine And.intro (fun _ => (show (nI 0) = 0 ∨ (nI 0) = 1 from ?_)) ?_
              · exact Or.inl rfl
              show Qp (.inl (some (.int (nI 0)))) M
              rw [show (decide ((a = 0 ∧ b = 0) ∨ (¬ a = 0 ∧ ((a = (nI 2) ∧ (¬ (b2i (decide (¬ b < (nI 1) ∧ ¬ (nI 99999) < b))) = 0 ∧ (¬ (b2i (decide (¬ c < (nI 0) ∧ ¬ (nI 1) < c))) = 0))) ∨ (¬ a = (nI 2) ∧ (¬ (b2i (decide (¬ b < (nI 1) ∧ ¬ (nI 200) < b))) = 0 ∧ (¬ (b2i (decide (¬ c < (nI 0) ∧ ¬ (nI 1) < c))) = 0 ∧ (¬ (b2i (decide (¬ d < (nI 1) ∧ ¬ (nI 30) < d))) = 0 ∧ (¬ (b2i (decide (¬ e < (nI 0) ∧ ¬ b < e))) = 0))))))))) = false from decide_eq_false (by grind)] at hq
              exact hq
            · skip
              refine And.intro (show (True) from ?_) ?_
              · exact trivial
              refine And.intro (fun (c9 : (b2i (decide (¬ e < (nI 0) ∧ ¬ b < e))) = 0) => ?_) (fun (c9 : ¬ (b2i (decide (¬ e < (nI 0) ∧ ¬ b < e))) = 0) => ?_)
              · skip
                refine And.intro (fun _ => (show (nI 0) = 0 ∨ (nI 0) = 1 from ?_)) ?_
                · exact Or.inl rfl
                show Qp (.inl (some (.int (nI 0)))) M
                rw [show (decide ((a = 0 ∧ b = 0) ∨ (¬ a = 0 ∧ ((a = (nI 2) ∧ (¬ (b2i (decide (¬ b < (nI 1) ∧ ¬ (nI 99999) < b))) = 0 ∧ (¬ (b2i (decide (¬ c < (nI 0) ∧ ¬ (nI 1) < c))) = 0))) ∨ (¬ a = (nI 2) ∧ (¬ (b2i (decide (¬ b < (nI 1) ∧ ¬ (nI 200) < b))) = 0 ∧ (¬ (b2i (decide (¬ c < (nI 0) ∧ ¬ (nI 1) < c))) = 0 ∧ (¬ (b2i (decide (¬ d < (nI 1) ∧ ¬ (nI 30) < d))) = 0 ∧ (¬ (b2i (decide (¬ e < (nI 0) ∧ ¬ b < e))) = 0))))))))) = false from decide_eq_false (by grind)] at hq
                exact hq
              · skip
                refine And.intro (fun _ => (show (nI 1) = 0 ∨ (nI 1) = 1 from ?_)) ?_
                · exact Or.inr rfl
                show Qp (.inl (some (.int (nI 1)))) M
                rw [show (decide ((a = 0 ∧ b = 0) ∨ (¬ a = 0 ∧ ((a = (nI 2) ∧ (¬ (b2i (decide (¬ b < (nI 1) ∧ ¬ (nI 99999) < b))) = 0 ∧ (¬ (b2i (decide (¬ c < (nI 0) ∧ ¬ (nI 1) < c))) = 0))) ∨ (¬ a = (nI 2) ∧ (¬ (b2i (decide (¬ b < (nI 1) ∧ ¬ (nI 200) < b))) = 0 ∧ (¬ (b2i (decide (¬ c < (nI 0) ∧ ¬ (nI 1) < c))) = 0 ∧ (¬ (b2i (decide (¬ d < (nI 1) ∧ ¬ (nI 30) < d))) = 0 ∧ (¬ (b2i (decide (¬ e < (nI 0) ∧ ¬ b < e))) = 0))))))))) = true from decide_eq_true (by grind)] at hq
                exact hq
  · exact h.elim
theorem de_X11_isEventAsTold : ∀ q ∈ k_X11_isEventAsTold.1, decode cX11_isEventAsTold q.1 = .ok q.2 := by decide +kernel
theorem me_X11_isEventAsTold (g : gl_T) : MT g yX11_isEventAsTold cX11_isEventAsTold 5 (some .boolean) ⟨1, 0, 0, 22⟩ 0 0 s_X11_isEventAsTold := by
  intro hl
  exact eg_met_of (k := k_X11_isEventAsTold) (by decide) rfl ⟨Nat.le_refl _, Nat.le_refl _⟩ rfl sz_X11_isEventAsTold de_X11_isEventAsTold (fun meth hn => (fn)) (fun A s H hE => (fc (List.mem_cons_of_mem _ lk_RX11_302) (fn))) (fun p e s m args below meth c Q A ad0 N0 S0 hK hEx hA => (fc (mt_S hl S0 hK hEx hA (me_X11_within g) lm_RX11_61 ls_X11_within ln_RX11 lc_X11_within ⟨rfl, by decide, by decide, by decide +kernel⟩ ⟨rfl, rfl⟩ ⟨by decide, by decide⟩ (by decide)) (fn))) (fun p e s m args below meth c Qc XC A ad0 N0 P S0 hK hEx hA hlk hout hPX => (fn)) (fun argv M Qp h => T_X11_isEventAsTold h)

def k_X11_areSets : eg_C := ([(0, .iconst 1, 1), (1, .aload_n 0, 1), (2, .getfield 20, 3), (5, .getfield 280, 3), (8, .ishl, 1), (9, .iconst 1, 1), (10, .isub, 1), (11, .istore_n 3, 1), (12, .iload_n 1, 1), (13, .iload_n 2, 1), (14, .ior, 1), (15, .iload_n 3, 1), (16, .iconst (-1), 1), (17, .ixor, 1), (18, .iand, 1), (19, .ifCond .ne 31, 3), (22, .iload_n 1, 1), (23, .iload_n 2, 1), (24, .iand, 1), (25, .ifCond .ne 25, 3), (28, .iload_n 1, 1), (29, .invokestatic 303, 3), (32, .bipush 6, 2), (34, .if_icmp .gt 16, 3), (37, .iload_n 2, 1), (38, .invokestatic 303, 3), (41, .bipush 6, 2), (43, .if_icmp .gt 7, 3), (46, .iconst 1, 1), (47, .goto 4, 3), (50, .iconst 0, 1), (51, .ireturn, 1)], [(20, 11, 1, false), (280, 9, 4, false)], [], [(303 + 100000, 1, 0, 0, s_J6_bitCount_0f7a4)], [], 2, 0, 0)
theorem mk_X11_areSets : ∀ q ∈ k_X11_areSets.2.2.2.1, eg_mono q.2.2.2.2 := (fc (mo_J6_bitCount_0f7a4) (fn))
def s_X11_areSets : eg_S := fun argv M Qp => match argv with
  | [.ref 0, .int a, .int b] => (True) ∧ Qp (.inl (some (.int (b2i (decide (((a ||| b) &&& ((((nI 1) <<< ((eg_gi M 2 4) &&& 31)) - (nI 1)) ^^^ (-nI 1))) = 0 ∧ ((a &&& b) = 0 ∧ (¬ (nI 6) < (bc a) ∧ ¬ (nI 6) < (bc b))))))))) M
  | _ => False
theorem mo_X11_areSets : eg_mono s_X11_areSets := by
  intro argv M Q Q' h
  unfold s_X11_areSets
  split
  · exact fun z => ⟨z.1, h _ _ z.2⟩
  · exact id
theorem sz_X11_areSets : ∀ argv M Qp, s_X11_areSets argv M Qp → (eg_ls0 argv).length ≤ 4 := by
  intro argv M Qp h
  unfold s_X11_areSets at h
  split at h
  · exact Nat.le_of_ble_eq_true rfl
  · exact h.elim
theorem sr_X11_areSets : ∀ argv M Qp, s_X11_areSets argv M Qp → ∃ p0 As, argv = .ref p0 :: As ∧ eg_isO wd M p0 11 = true := by
  intro argv M Qp h
  unfold s_X11_areSets at h
  split at h
  · exact ⟨_, _, rfl, rfl⟩
  · exact h.elim
set_option maxRecDepth 100000 in
theorem T_X11_areSets {argv : List Value} {M : eg_M} {Qp : eg_P} (h : s_X11_areSets argv M Qp) : eg_T wd k_X11_areSets Qp 0 0 0 (eg_lsN 4 argv) [] M := by
  unfold s_X11_areSets at h
  split at h
  · rename_i a b
    obtain ⟨hp, hq⟩ := h
    refine eg_T_run mk_X11_areSets (cut := []) 37 ?_
    refine And.intro (fun (c1 : ((a ||| b) &&& ((((nI 1) <<< ((eg_gi M 2 4) &&& 31)) - (nI 1)) ^^^ (-nI 1))) = 0) => ?_) (fun (c1 : ¬ ((a ||| b) &&& ((((nI 1) <<< ((eg_gi M 2 4) &&& 31)) - (nI 1)) ^^^ (-nI 1))) = 0) => ?_)
    · skip
      refine And.intro (fun (c2 : (a &&& b) = 0) => ?_) (fun (c2 : ¬ (a &&& b) = 0) => ?_)
      · skip
        refine And.intro (show (True) from ?_) ?_
        · exact trivial
        refine And.intro (fun (c3 : (nI 6) < (bc a)) => ?_) (fun (c3 : ¬ (nI 6) < (bc a)) => ?_)
        · skip
          refine And.intro (fun _ => (show (nI 0) = 0 ∨ (nI 0) = 1 from ?_)) ?_
          · exact Or.inl rfl
          show Qp (.inl (some (.int (nI 0)))) M
          rw [show (decide (((a ||| b) &&& ((((nI 1) <<< ((eg_gi M 2 4) &&& 31)) - (nI 1)) ^^^ (-nI 1))) = 0 ∧ ((a &&& b) = 0 ∧ (¬ (nI 6) < (bc a) ∧ ¬ (nI 6) < (bc b))))) = false from decide_eq_false (by grind)] at hq
          exact hq
        · skip
          refine And.intro (show (True) from ?_) ?_
          · exact trivial
          refine And.intro (fun (c4 : (nI 6) < (bc b)) => ?_) (fun (c4 : ¬ (nI 6) < (bc b)) => ?_)
          · skip
            refine And.intro (fun _ => (show (nI 0) = 0 ∨ (nI 0) = 1 from ?_)) ?_
            · exact Or.inl rfl
            show Qp (.inl (some (.int (nI 0)))) M
            rw [show (decide (((a ||| b) &&& ((((nI 1) <<< ((eg_gi M 2 4) &&& 31)) - (nI 1)) ^^^ (-nI 1))) = 0 ∧ ((a &&& b) = 0 ∧ (¬ (nI 6) < (bc a) ∧ ¬ (nI 6) < (bc b))))) = false from decide_eq_false (by grind)] at hq
            exact hq
          · skip
            refine And.intro (fun _ => (show (nI 1) = 0 ∨ (nI 1) = 1 from ?_)) ?_
            · exact Or.inr rfl
            show Qp (.inl (some (.int (nI 1)))) M
            rw [show (decide (((a ||| b) &&& ((((nI 1) <<< ((eg_gi M 2 4) &&& 31)) - (nI 1)) ^^^ (-nI 1))) = 0 ∧ ((a &&& b) = 0 ∧ (¬ (nI 6) < (bc a) ∧ ¬ (nI 6) < (bc b))))) = true from decide_eq_true (by grind)] at hq
            exact hq
      · skip
        refine And.intro (fun _ => (show (nI 0) = 0 ∨ (nI 0) = 1 from ?_)) ?_
        · exact Or.inl rfl
        show Qp (.inl (some (.int (nI 0)))) M
        rw [show (decide (((a ||| b) &&& ((((nI 1) <<< ((eg_gi M 2 4) &&& 31)) - (nI 1)) ^^^ (-nI 1))) = 0 ∧ ((a &&& b) = 0 ∧ (¬ (nI 6) < (bc a) ∧ ¬ (nI 6) < (bc b))))) = false from decide_eq_false (by grind)] at hq
        exact hq
    · skip
      refine And.intro (fun _ => (show (nI 0) = 0 ∨ (nI 0) = 1 from ?_)) ?_
      · exact Or.inl rfl
      show Qp (.inl (some (.int (nI 0)))) M
      rw [show (decide (((a ||| b) &&& ((((nI 1) <<< ((eg_gi M 2 4) &&& 31)) - (nI 1)) ^^^ (-nI 1))) = 0 ∧ ((a &&& b) = 0 ∧ (¬ (nI 6) < (bc a) ∧ ¬ (nI 6) < (bc b))))) = false from decide_eq_false (by grind)] at hq
      exact hq
  · exact h.elim
theorem de_X11_areSets : ∀ q ∈ k_X11_areSets.1, decode cX11_areSets q.1 = .ok q.2 := by decide +kernel
theorem me_X11_areSets (g : gl_T) : MT g yX11_areSets cX11_areSets 4 (some .boolean) ⟨1, 0, 0, 20⟩ 0 0 s_X11_areSets := by
  intro hl
  exact eg_met_of (k := k_X11_areSets) (by decide) rfl ⟨Nat.le_refl _, Nat.le_refl _⟩ rfl sz_X11_areSets de_X11_areSets (fun meth hn => (fc (eg_FL_of wd_c11 (by decide) lf_RX11_20 (fun h => absurd h (by decide))) (fc (eg_FL_of wd_c9 (by decide) lf_RX11_280 (fun h => absurd h (by decide))) (fn)))) (fun A s H hE => (fn)) (fun p e s m args below meth c Q A ad0 N0 S0 hK hEx hA => (fc (mt_S hl S0 hK hEx hA (me_J6_bitCount_0f7a4 g) lm_RX11_303 ls_J6_bitCount_0f7a4 ln_RJ6 lc_J6_bitCount_0f7a4 ⟨rfl, by decide, by decide, by decide +kernel⟩ ⟨rfl, rfl⟩ ⟨by decide, by decide⟩ (by decide)) (fn))) (fun p e s m args below meth c Qc XC A ad0 N0 P S0 hK hEx hA hlk hout hPX => (fn)) (fun argv M Qp h => T_X11_areSets h)

def k_X12_thrown : eg_C := ([(0, .aload_n 0, 1), (1, .getfield 213, 3), (4, .ireturn, 1)], [(213, 12, 1, false)], [], [], [], 1, 0, 0)
theorem mk_X12_thrown : ∀ q ∈ k_X12_thrown.2.2.2.1, eg_mono q.2.2.2.2 := (fn)
def s_X12_thrown : eg_S := fun argv M Qp => match argv with
  | [.ref 121] => (True) ∧ Qp (.inl (some (.int (eg_gi M 121 1)))) M
  | _ => False
theorem mo_X12_thrown : eg_mono s_X12_thrown := by
  intro argv M Q Q' h
  unfold s_X12_thrown
  split
  · exact fun z => ⟨z.1, h _ _ z.2⟩
  · exact id
theorem sz_X12_thrown : ∀ argv M Qp, s_X12_thrown argv M Qp → (eg_ls0 argv).length ≤ 1 := by
  intro argv M Qp h
  unfold s_X12_thrown at h
  split at h
  · exact Nat.le_of_ble_eq_true rfl
  · exact h.elim
theorem sr_X12_thrown : ∀ argv M Qp, s_X12_thrown argv M Qp → ∃ p0 As, argv = .ref p0 :: As ∧ eg_isO wd M p0 12 = true := by
  intro argv M Qp h
  unfold s_X12_thrown at h
  split at h
  · exact ⟨_, _, rfl, rfl⟩
  · exact h.elim
set_option maxRecDepth 100000 in
theorem T_X12_thrown {argv : List Value} {M : eg_M} {Qp : eg_P} (h : s_X12_thrown argv M Qp) : eg_T wd k_X12_thrown Qp 0 0 0 (eg_lsN 1 argv) [] M := by
  unfold s_X12_thrown at h
  split at h
  · obtain ⟨hp, hq⟩ := h
    refine eg_T_run mk_X12_thrown (cut := []) 8 ?_
    refine And.intro (fun z => absurd z (by decide)) ?_
    show Qp (.inl (some (.int (eg_gi M 121 1)))) M
    exact hq
  · exact h.elim
theorem de_X12_thrown : ∀ q ∈ k_X12_thrown.1, decode cX12_thrown q.1 = .ok q.2 := by decide +kernel
theorem me_X12_thrown (g : gl_T) : MT g yX12_thrown cX12_thrown 1 (some .int) ⟨0, 0, 0, 0⟩ 0 0 s_X12_thrown := by
  intro hl
  exact eg_met_of (k := k_X12_thrown) (by decide) rfl ⟨Nat.le_refl _, Nat.le_refl _⟩ rfl sz_X12_thrown de_X12_thrown (fun meth hn => (fc (eg_FL_of wd_c12 (by decide) lf_RX12_213 (fun h => absurd h (by decide))) (fn))) (fun A s H hE => (fn)) (fun p e s m args below meth c Q A ad0 N0 S0 hK hEx hA => (fn)) (fun p e s m args below meth c Qc XC A ad0 N0 P S0 hK hEx hA hlk hout hPX => (fn)) (fun argv M Qp h => T_X12_thrown h)

def k_X12_fail : eg_C := ([(0, .aload_n 0, 1), (1, .iload_n 1, 1), (2, .putfield 213, 3), (5, .iconst 0, 1), (6, .ireturn, 1)], [(213, 12, 1, true)], [], [], [], 1, 0, 0)
def s_X12_fail : eg_S := eg_auto wd k_X12_fail 2 (some 12) 7
theorem mk_X12_fail : ∀ q ∈ k_X12_fail.2.2.2.1, eg_mono q.2.2.2.2 := (fn)
theorem mo_X12_fail : eg_mono s_X12_fail := eg_auto_mono mk_X12_fail
theorem de_X12_fail : ∀ q ∈ k_X12_fail.1, decode cX12_fail q.1 = .ok q.2 := by decide +kernel
theorem me_X12_fail (g : gl_T) : MT g yX12_fail cX12_fail 2 (some .int) ⟨0, 0, 0, 0⟩ 0 0 s_X12_fail := by
  intro hl
  exact eg_met_of (k := k_X12_fail) (by decide) rfl ⟨Nat.le_refl _, Nat.le_refl _⟩ rfl eg_auto_len de_X12_fail (fun meth hn => (fc (eg_FL_of wd_c12 (by decide) lf_RX12_213 (fun _ => Or.inl rfl)) (fn))) (fun A s H hE => (fn)) (fun p e s m args below meth c Q A ad0 N0 S0 hK hEx hA => (fn)) (fun p e s m args below meth c Qc XC A ad0 N0 P S0 hK hEx hA hlk hout hPX => (fn)) (fun argv M Qp h => eg_auto_T mk_X12_fail h)

def k_X12_refuse : eg_C := ([(0, .aload_n 0, 1), (1, .iload_n 1, 1), (2, .putfield 213, 3), (5, .iconst 0, 1), (6, .ireturn, 1)], [(213, 12, 1, true)], [], [], [], 2, 0, 0)
def s_X12_refuse : eg_S := eg_auto wd k_X12_refuse 2 (some 12) 7
theorem mk_X12_refuse : ∀ q ∈ k_X12_refuse.2.2.2.1, eg_mono q.2.2.2.2 := (fn)
theorem mo_X12_refuse : eg_mono s_X12_refuse := eg_auto_mono mk_X12_refuse
theorem de_X12_refuse : ∀ q ∈ k_X12_refuse.1, decode cX12_refuse q.1 = .ok q.2 := by decide +kernel
theorem me_X12_refuse (g : gl_T) : MT g yX12_refuse cX12_refuse 2 (some .boolean) ⟨0, 0, 0, 0⟩ 0 0 s_X12_refuse := by
  intro hl
  exact eg_met_of (k := k_X12_refuse) (by decide) rfl ⟨Nat.le_refl _, Nat.le_refl _⟩ rfl eg_auto_len de_X12_refuse (fun meth hn => (fc (eg_FL_of wd_c12 (by decide) lf_RX12_213 (fun _ => Or.inl rfl)) (fn))) (fun A s H hE => (fn)) (fun p e s m args below meth c Q A ad0 N0 S0 hK hEx hA => (fn)) (fun p e s m args below meth c Qc XC A ad0 N0 P S0 hK hEx hA hlk hout hPX => (fn)) (fun argv M Qp h => eg_auto_T mk_X12_refuse h)

def k_X12_isIn : eg_C := ([(0, .iload_n 0, 1), (1, .iload_n 1, 1), (2, .if_icmp .lt 12, 3), (5, .iload_n 0, 1), (6, .iload_n 2, 1), (7, .if_icmp .gt 7, 3), (10, .iconst 1, 1), (11, .goto 4, 3), (14, .iconst 0, 1), (15, .ireturn, 1)], [], [], [], [], 2, 0, 0)
theorem mk_X12_isIn : ∀ q ∈ k_X12_isIn.2.2.2.1, eg_mono q.2.2.2.2 := (fn)
def s_X12_isIn : eg_S := fun argv M Qp => match argv with
  | [.int a, .int b, .int c] => (True) ∧ Qp (.inl (some (.int (b2i (decide (¬ a < b ∧ ¬ c < a)))))) M
  | _ => False
theorem mo_X12_isIn : eg_mono s_X12_isIn := by
  intro argv M Q Q' h
  unfold s_X12_isIn
  split
  · exact fun z => ⟨z.1, h _ _ z.2⟩
  · exact id
theorem sz_X12_isIn : ∀ argv M Qp, s_X12_isIn argv M Qp → (eg_ls0 argv).length ≤ 3 := by
  intro argv M Qp h
  unfold s_X12_isIn at h
  split at h
  · exact Nat.le_of_ble_eq_true rfl
  · exact h.elim
set_option maxRecDepth 100000 in
theorem T_X12_isIn {argv : List Value} {M : eg_M} {Qp : eg_P} (h : s_X12_isIn argv M Qp) : eg_T wd k_X12_isIn Qp 0 0 0 (eg_lsN 3 argv) [] M := by
  unfold s_X12_isIn at h
  split at h
  · rename_i a b c
    obtain ⟨hp, hq⟩ := h
    refine eg_T_run mk_X12_isIn (cut := []) 15 ?_
    refine And.intro (fun (c1 : a < b) => ?_) (fun (c1 : ¬ a < b) => ?_)
    · skip
      refine And.intro (fun _ => (show (nI 0) = 0 ∨ (nI 0) = 1 from ?_)) ?_
      · exact Or.inl rfl
      show Qp (.inl (some (.int (nI 0)))) M
      rw [show (decide (¬ a < b ∧ ¬ c < a)) = false from decide_eq_false (by grind)] at hq
      exact hq
    · skip
      refine And.intro (fun (c2 : c < a) => ?_) (fun (c2 : ¬ c < a) => ?_)
      · skip
        refine And.intro (fun _ => (show (nI 0) = 0 ∨ (nI 0) = 1 from ?_)) ?_
        · exact Or.inl rfl
        show Qp (.inl (some (.int (nI 0)))) M
        rw [show (decide (¬ a < b ∧ ¬ c < a)) = false from decide_eq_false (by grind)] at hq
        exact hq
      · skip
        refine And.intro (fun _ => (show (nI 1) = 0 ∨ (nI 1) = 1 from ?_)) ?_
        · exact Or.inr rfl
        show Qp (.inl (some (.int (nI 1)))) M
        rw [show (decide (¬ a < b ∧ ¬ c < a)) = true from decide_eq_true (by grind)] at hq
        exact hq
  · exact h.elim
theorem de_X12_isIn : ∀ q ∈ k_X12_isIn.1, decode cX12_isIn q.1 = .ok q.2 := by decide +kernel
theorem me_X12_isIn (g : gl_T) : MT g yX12_isIn cX12_isIn 3 (some .boolean) ⟨0, 0, 0, 0⟩ 0 0 s_X12_isIn := by
  intro hl
  exact eg_met_of (k := k_X12_isIn) (by decide) rfl ⟨Nat.le_refl _, Nat.le_refl _⟩ rfl sz_X12_isIn de_X12_isIn (fun meth hn => (fn)) (fun A s H hE => (fn)) (fun p e s m args below meth c Q A ad0 N0 S0 hK hEx hA => (fn)) (fun p e s m args below meth c Qc XC A ad0 N0 P S0 hK hEx hA hlk hout hPX => (fn)) (fun argv M Qp h => T_X12_isIn h)

def k_X12_town : eg_C := ([(0, .aload_n 0, 1), (1, .iconst 0, 1), (2, .putfield 213, 3), (5, .aload_n 0, 1), (6, .getfield 216, 3), (9, .bipush 16, 2), (11, .if_icmp .eq 48, 3), (14, .iload_n 1, 1), (15, .iconst 0, 1), (16, .sipush 999, 3), (19, .invokestatic 219, 3), (22, .ifCond .eq 37, 3), (25, .iload_n 2, 1), (26, .iconst 0, 1), (27, .sipush 999, 3), (30, .invokestatic 219, 3), (33, .ifCond .eq 26, 3), (36, .iload_n 3, 1), (37, .iconst 1, 1), (38, .sipush 9999, 3), (41, .invokestatic 219, 3), (44, .ifCond .eq 15, 3), (47, .iload 4, 2), (49, .iconst 1, 1), (50, .sipush 255, 3), (53, .invokestatic 219, 3), (56, .ifCond .ne 5, 3), (59, .iconst (-1), 1), (60, .ireturn, 1), (61, .aload_n 0, 1), (62, .getfield 37, 3), (65, .aload_n 0, 1), (66, .getfield 216, 3), (69, .iload_n 1, 1), (70, .iastore, 1), (71, .aload_n 0, 1), (72, .getfield 41, 3), (75, .aload_n 0, 1), (76, .getfield 216, 3), (79, .iload_n 2, 1), (80, .iastore, 1), (81, .aload_n 0, 1), (82, .getfield 44, 3), (85, .aload_n 0, 1), (86, .getfield 216, 3), (89, .iload_n 3, 1), (90, .iastore, 1), (91, .aload_n 0, 1), (92, .getfield 47, 3), (95, .aload_n 0, 1), (96, .getfield 216, 3), (99, .iload 4, 2), (101, .iastore, 1), (102, .aload_n 0, 1), (103, .getfield 192, 3), (106, .aload_n 0, 1), (107, .getfield 216, 3), (110, .iconst 0, 1), (111, .iastore, 1), (112, .aload_n 0, 1), (113, .dup, 1), (114, .getfield 216, 3), (117, .iconst 1, 1), (118, .iadd, 1), (119, .putfield 216, 3), (122, .aload_n 0, 1), (123, .getfield 216, 3), (126, .iconst 1, 1), (127, .isub, 1), (128, .ireturn, 1)], [(37, 12, 6, false), (41, 12, 7, false), (44, 12, 8, false), (47, 12, 9, false), (192, 12, 74, false), (213, 12, 1, true), (216, 12, 3, true)], [], [(219 + 100000, 3, 0, 0, s_X12_isIn)], [], 1, 0, 0)
def s_X12_town : eg_S := eg_auto wd k_X12_town 5 (some 12) 72
theorem mk_X12_town : ∀ q ∈ k_X12_town.2.2.2.1, eg_mono q.2.2.2.2 := (fc (mo_X12_isIn) (fn))
theorem mo_X12_town : eg_mono s_X12_town := eg_auto_mono mk_X12_town
theorem de_X12_town : ∀ q ∈ k_X12_town.1, decode cX12_town q.1 = .ok q.2 := by decide +kernel
theorem me_X12_town (g : gl_T) : MT g yX12_town cX12_town 5 (some .int) ⟨1, 0, 0, 22⟩ 0 0 s_X12_town := by
  intro hl
  exact eg_met_of (k := k_X12_town) (by decide) rfl ⟨Nat.le_refl _, Nat.le_refl _⟩ rfl eg_auto_len de_X12_town (fun meth hn => (fc (eg_FL_of wd_c12 (by decide) lf_RX12_37 (fun h => absurd h (by decide))) (fc (eg_FL_of wd_c12 (by decide) lf_RX12_41 (fun h => absurd h (by decide))) (fc (eg_FL_of wd_c12 (by decide) lf_RX12_44 (fun h => absurd h (by decide))) (fc (eg_FL_of wd_c12 (by decide) lf_RX12_47 (fun h => absurd h (by decide))) (fc (eg_FL_of wd_c12 (by decide) lf_RX12_192 (fun h => absurd h (by decide))) (fc (eg_FL_of wd_c12 (by decide) lf_RX12_213 (fun _ => Or.inl rfl)) (fc (eg_FL_of wd_c12 (by decide) lf_RX12_216 (fun _ => Or.inl rfl)) (fn))))))))) (fun A s H hE => (fn)) (fun p e s m args below meth c Q A ad0 N0 S0 hK hEx hA => (fc (mt_S hl S0 hK hEx hA (me_X12_isIn g) lm_RX12_219 ls_X12_isIn ln_RX12 lc_X12_isIn ⟨rfl, by decide, by decide, by decide +kernel⟩ ⟨rfl, rfl⟩ ⟨by decide, by decide⟩ (by decide)) (fn))) (fun p e s m args below meth c Qc XC A ad0 N0 P S0 hK hEx hA hlk hout hPX => (fn)) (fun argv M Qp h => eg_auto_T mk_X12_town h)

def k_X12_isTown : eg_C := ([(0, .iload_n 1, 1), (1, .ifCond .lt 15, 3), (4, .iload_n 1, 1), (5, .aload_n 0, 1), (6, .getfield 216, 3), (9, .if_icmp .ge 7, 3), (12, .iconst 1, 1), (13, .goto 4, 3), (16, .iconst 0, 1), (17, .ireturn, 1)], [(216, 12, 3, false)], [], [], [], 2, 0, 0)
theorem mk_X12_isTown : ∀ q ∈ k_X12_isTown.2.2.2.1, eg_mono q.2.2.2.2 := (fn)
def s_X12_isTown : eg_S := fun argv M Qp => match argv with
  | [.ref 121, .int a] => (True) ∧ Qp (.inl (some (.int (b2i (decide (¬ a < 0 ∧ ¬ (eg_gi M 121 3) ≤ a)))))) M
  | _ => False
theorem mo_X12_isTown : eg_mono s_X12_isTown := by
  intro argv M Q Q' h
  unfold s_X12_isTown
  split
  · exact fun z => ⟨z.1, h _ _ z.2⟩
  · exact id
theorem sz_X12_isTown : ∀ argv M Qp, s_X12_isTown argv M Qp → (eg_ls0 argv).length ≤ 2 := by
  intro argv M Qp h
  unfold s_X12_isTown at h
  split at h
  · exact Nat.le_of_ble_eq_true rfl
  · exact h.elim
theorem sr_X12_isTown : ∀ argv M Qp, s_X12_isTown argv M Qp → ∃ p0 As, argv = .ref p0 :: As ∧ eg_isO wd M p0 12 = true := by
  intro argv M Qp h
  unfold s_X12_isTown at h
  split at h
  · exact ⟨_, _, rfl, rfl⟩
  · exact h.elim
set_option maxRecDepth 100000 in
theorem T_X12_isTown {argv : List Value} {M : eg_M} {Qp : eg_P} (h : s_X12_isTown argv M Qp) : eg_T wd k_X12_isTown Qp 0 0 0 (eg_lsN 2 argv) [] M := by
  unfold s_X12_isTown at h
  split at h
  · rename_i a
    obtain ⟨hp, hq⟩ := h
    refine eg_T_run mk_X12_isTown (cut := []) 15 ?_
    refine And.intro (fun (c1 : a < 0) => ?_) (fun (c1 : ¬ a < 0) => ?_)
    · skip
      refine And.intro (fun _ => (show (nI 0) = 0 ∨ (nI 0) = 1 from ?_)) ?_
      · exact Or.inl rfl
      show Qp (.inl (some (.int (nI 0)))) M
      rw [show (decide (¬ a < 0 ∧ ¬ (eg_gi M 121 3) ≤ a)) = false from decide_eq_false (by grind)] at hq
      exact hq
    · skip
      refine And.intro (fun (c2 : (eg_gi M 121 3) ≤ a) => ?_) (fun (c2 : ¬ (eg_gi M 121 3) ≤ a) => ?_)
      · skip
        refine And.intro (fun _ => (show (nI 0) = 0 ∨ (nI 0) = 1 from ?_)) ?_
        · exact Or.inl rfl
        show Qp (.inl (some (.int (nI 0)))) M
        rw [show (decide (¬ a < 0 ∧ ¬ (eg_gi M 121 3) ≤ a)) = false from decide_eq_false (by grind)] at hq
        exact hq
      · skip
        refine And.intro (fun _ => (show (nI 1) = 0 ∨ (nI 1) = 1 from ?_)) ?_
        · exact Or.inr rfl
        show Qp (.inl (some (.int (nI 1)))) M
        rw [show (decide (¬ a < 0 ∧ ¬ (eg_gi M 121 3) ≤ a)) = true from decide_eq_true (by grind)] at hq
        exact hq
  · exact h.elim
theorem de_X12_isTown : ∀ q ∈ k_X12_isTown.1, decode cX12_isTown q.1 = .ok q.2 := by decide +kernel
theorem me_X12_isTown (g : gl_T) : MT g yX12_isTown cX12_isTown 2 (some .boolean) ⟨0, 0, 0, 0⟩ 0 0 s_X12_isTown := by
  intro hl
  exact eg_met_of (k := k_X12_isTown) (by decide) rfl ⟨Nat.le_refl _, Nat.le_refl _⟩ rfl sz_X12_isTown de_X12_isTown (fun meth hn => (fc (eg_FL_of wd_c12 (by decide) lf_RX12_216 (fun h => absurd h (by decide))) (fn))) (fun A s H hE => (fn)) (fun p e s m args below meth c Q A ad0 N0 S0 hK hEx hA => (fn)) (fun p e s m args below meth c Qc XC A ad0 N0 P S0 hK hEx hA hlk hout hPX => (fn)) (fun argv M Qp h => T_X12_isTown h)

def k_X12_isCharter : eg_C := ([(0, .iload_n 1, 1), (1, .ifCond .lt 15, 3), (4, .iload_n 1, 1), (5, .aload_n 0, 1), (6, .getfield 223, 3), (9, .if_icmp .ge 7, 3), (12, .iconst 1, 1), (13, .goto 4, 3), (16, .iconst 0, 1), (17, .ireturn, 1)], [(223, 12, 4, false)], [], [], [], 2, 0, 0)
theorem mk_X12_isCharter : ∀ q ∈ k_X12_isCharter.2.2.2.1, eg_mono q.2.2.2.2 := (fn)
def s_X12_isCharter : eg_S := fun argv M Qp => match argv with
  | [.ref 121, .int a] => (True) ∧ Qp (.inl (some (.int (b2i (decide (¬ a < 0 ∧ ¬ (eg_gi M 121 4) ≤ a)))))) M
  | _ => False
theorem mo_X12_isCharter : eg_mono s_X12_isCharter := by
  intro argv M Q Q' h
  unfold s_X12_isCharter
  split
  · exact fun z => ⟨z.1, h _ _ z.2⟩
  · exact id
theorem sz_X12_isCharter : ∀ argv M Qp, s_X12_isCharter argv M Qp → (eg_ls0 argv).length ≤ 2 := by
  intro argv M Qp h
  unfold s_X12_isCharter at h
  split at h
  · exact Nat.le_of_ble_eq_true rfl
  · exact h.elim
theorem sr_X12_isCharter : ∀ argv M Qp, s_X12_isCharter argv M Qp → ∃ p0 As, argv = .ref p0 :: As ∧ eg_isO wd M p0 12 = true := by
  intro argv M Qp h
  unfold s_X12_isCharter at h
  split at h
  · exact ⟨_, _, rfl, rfl⟩
  · exact h.elim
set_option maxRecDepth 100000 in
theorem T_X12_isCharter {argv : List Value} {M : eg_M} {Qp : eg_P} (h : s_X12_isCharter argv M Qp) : eg_T wd k_X12_isCharter Qp 0 0 0 (eg_lsN 2 argv) [] M := by
  unfold s_X12_isCharter at h
  split at h
  · rename_i a
    obtain ⟨hp, hq⟩ := h
    refine eg_T_run mk_X12_isCharter (cut := []) 15 ?_
    refine And.intro (fun (c1 : a < 0) => ?_) (fun (c1 : ¬ a < 0) => ?_)
    · skip
      refine And.intro (fun _ => (show (nI 0) = 0 ∨ (nI 0) = 1 from ?_)) ?_
      · exact Or.inl rfl
      show Qp (.inl (some (.int (nI 0)))) M
      rw [show (decide (¬ a < 0 ∧ ¬ (eg_gi M 121 4) ≤ a)) = false from decide_eq_false (by grind)] at hq
      exact hq
    · skip
      refine And.intro (fun (c2 : (eg_gi M 121 4) ≤ a) => ?_) (fun (c2 : ¬ (eg_gi M 121 4) ≤ a) => ?_)
      · skip
        refine And.intro (fun _ => (show (nI 0) = 0 ∨ (nI 0) = 1 from ?_)) ?_
        · exact Or.inl rfl
        show Qp (.inl (some (.int (nI 0)))) M
        rw [show (decide (¬ a < 0 ∧ ¬ (eg_gi M 121 4) ≤ a)) = false from decide_eq_false (by grind)] at hq
        exact hq
      · skip
        refine And.intro (fun _ => (show (nI 1) = 0 ∨ (nI 1) = 1 from ?_)) ?_
        · exact Or.inr rfl
        show Qp (.inl (some (.int (nI 1)))) M
        rw [show (decide (¬ a < 0 ∧ ¬ (eg_gi M 121 4) ≤ a)) = true from decide_eq_true (by grind)] at hq
        exact hq
  · exact h.elim
theorem de_X12_isCharter : ∀ q ∈ k_X12_isCharter.1, decode cX12_isCharter q.1 = .ok q.2 := by decide +kernel
theorem me_X12_isCharter (g : gl_T) : MT g yX12_isCharter cX12_isCharter 2 (some .boolean) ⟨0, 0, 0, 0⟩ 0 0 s_X12_isCharter := by
  intro hl
  exact eg_met_of (k := k_X12_isCharter) (by decide) rfl ⟨Nat.le_refl _, Nat.le_refl _⟩ rfl sz_X12_isCharter de_X12_isCharter (fun meth hn => (fc (eg_FL_of wd_c12 (by decide) lf_RX12_223 (fun h => absurd h (by decide))) (fn))) (fun A s H hE => (fn)) (fun p e s m args below meth c Q A ad0 N0 S0 hK hEx hA => (fn)) (fun p e s m args below meth c Qc XC A ad0 N0 P S0 hK hEx hA hlk hout hPX => (fn)) (fun argv M Qp h => T_X12_isCharter h)

def k_X12_charter : eg_C := ([(0, .aload_n 0, 1), (1, .iconst 0, 1), (2, .putfield 213, 3), (5, .aload_n 0, 1), (6, .iload_n 1, 1), (7, .invokevirtual 226, 3), (10, .ifCond .eq 11, 3), (13, .aload_n 0, 1), (14, .iload_n 2, 1), (15, .invokevirtual 226, 3), (18, .ifCond .ne 9, 3), (21, .aload_n 0, 1), (22, .iconst 1, 1), (23, .invokevirtual 230, 3), (26, .ireturn, 1), (27, .aload_n 0, 1), (28, .getfield 223, 3), (31, .bipush 24, 2), (33, .if_icmp .eq 19, 3), (36, .iload_n 1, 1), (37, .iload_n 2, 1), (38, .if_icmp .eq 14, 3), (41, .iload_n 3, 1), (42, .iconst 0, 1), (43, .sipush 3599, 3), (46, .invokestatic 219, 3), (49, .ifCond .ne 5, 3), (52, .iconst (-1), 1), (53, .ireturn, 1), (54, .aload_n 0, 1), (55, .getfield 50, 3), (58, .iconst 2, 1), (59, .aload_n 0, 1), (60, .getfield 223, 3), (63, .imul, 1), (64, .iload_n 1, 1), (65, .iastore, 1), (66, .aload_n 0, 1), (67, .getfield 50, 3), (70, .iconst 2, 1), (71, .aload_n 0, 1), (72, .getfield 223, 3), (75, .imul, 1), (76, .iconst 1, 1), (77, .iadd, 1), (78, .iload_n 2, 1), (79, .iastore, 1), (80, .aload_n 0, 1), (81, .getfield 53, 3), (84, .aload_n 0, 1), (85, .getfield 223, 3), (88, .iload_n 3, 1), (89, .iastore, 1), (90, .aload_n 0, 1), (91, .getfield 56, 3), (94, .aload_n 0, 1), (95, .getfield 223, 3), (98, .aload_n 0, 1), (99, .getfield 234, 3), (102, .iastore, 1), (103, .aload_n 0, 1), (104, .dup, 1), (105, .getfield 223, 3), (108, .iconst 1, 1), (109, .iadd, 1), (110, .putfield 223, 3), (113, .aload_n 0, 1), (114, .getfield 223, 3), (117, .iconst 1, 1), (118, .isub, 1), (119, .ireturn, 1)], [(50, 12, 10, false), (53, 12, 11, false), (56, 12, 12, false), (213, 12, 1, true), (223, 12, 4, true), (234, 12, 2, false)], [], [(219 + 100000, 3, 0, 0, s_X12_isIn), (226, 1 + 1, 0, 0, s_X12_isTown), (230, 1 + 1, 0, 0, s_X12_fail)], [], 1, 0, 0)
def s_X12_charter : eg_S := eg_auto wd k_X12_charter 4 (some 12) 73
theorem mk_X12_charter : ∀ q ∈ k_X12_charter.2.2.2.1, eg_mono q.2.2.2.2 := (fc (mo_X12_isIn) (fc (mo_X12_isTown) (fc (mo_X12_fail) (fn))))
theorem mo_X12_charter : eg_mono s_X12_charter := eg_auto_mono mk_X12_charter
theorem de_X12_charter : ∀ q ∈ k_X12_charter.1, decode cX12_charter q.1 = .ok q.2 := by decide +kernel
theorem me_X12_charter (g : gl_T) : MT g yX12_charter cX12_charter 4 (some .int) ⟨1, 0, 0, 22⟩ 0 0 s_X12_charter := by
  intro hl
  exact eg_met_of (k := k_X12_charter) (by decide) rfl ⟨Nat.le_refl _, Nat.le_refl _⟩ rfl eg_auto_len de_X12_charter (fun meth hn => (fc (eg_FL_of wd_c12 (by decide) lf_RX12_50 (fun h => absurd h (by decide))) (fc (eg_FL_of wd_c12 (by decide) lf_RX12_53 (fun h => absurd h (by decide))) (fc (eg_FL_of wd_c12 (by decide) lf_RX12_56 (fun h => absurd h (by decide))) (fc (eg_FL_of wd_c12 (by decide) lf_RX12_213 (fun _ => Or.inl rfl)) (fc (eg_FL_of wd_c12 (by decide) lf_RX12_223 (fun _ => Or.inl rfl)) (fc (eg_FL_of wd_c12 (by decide) lf_RX12_234 (fun h => absurd h (by decide))) (fn)))))))) (fun A s H hE => (fn)) (fun p e s m args below meth c Q A ad0 N0 S0 hK hEx hA => (fc (mt_S hl S0 hK hEx hA (me_X12_isIn g) lm_RX12_219 ls_X12_isIn ln_RX12 lc_X12_isIn ⟨rfl, by decide, by decide, by decide +kernel⟩ ⟨rfl, rfl⟩ ⟨by decide, by decide⟩ (by decide)) (fc (mt_V hl S0 hK hEx hA (me_X12_isTown g) lm_RX12_226 li_X12_isTown lx_X12_isTown ln_RX12 lc_X12_isTown ⟨rfl, by decide, by decide, by decide +kernel⟩ ⟨rfl, rfl⟩ ⟨by decide, by decide⟩ (ci := 12) rfl rfl sr_X12_isTown (by decide)) (fc (mt_V hl S0 hK hEx hA (me_X12_fail g) lm_RX12_230 li_X12_fail lx_X12_fail ln_RX12 lc_X12_fail ⟨rfl, by decide, by decide, by decide +kernel⟩ ⟨rfl, rfl⟩ ⟨by decide, by decide⟩ (ci := 12) rfl rfl eg_auto_rec (by decide)) (fn))))) (fun p e s m args below meth c Qc XC A ad0 N0 P S0 hK hEx hA hlk hout hPX => (fn)) (fun argv M Qp h => eg_auto_T mk_X12_charter h)

def k_X12_days : eg_C := ([(0, .aload_n 0, 1), (1, .iconst 0, 1), (2, .putfield 213, 3), (5, .iload_n 1, 1), (6, .ifCond .lt 22, 3), (9, .iload_n 1, 1), (10, .sipush 3599, 3), (13, .if_icmp .gt 15, 3), (16, .aload_n 0, 1), (17, .getfield 234, 3), (20, .iload_n 1, 1), (21, .iadd, 1), (22, .sipush 3599, 3), (25, .if_icmp .le 9, 3), (28, .aload_n 0, 1), (29, .iconst 1, 1), (30, .invokevirtual 230, 3), (33, .ireturn, 1), (34, .aload_n 0, 1), (35, .dup, 1), (36, .getfield 234, 3), (39, .iload_n 1, 1), (40, .iadd, 1), (41, .putfield 234, 3), (44, .aload_n 0, 1), (45, .getfield 234, 3), (48, .ireturn, 1)], [(213, 12, 1, true), (234, 12, 2, true)], [], [(230, 1 + 1, 0, 0, s_X12_fail)], [], 1, 0, 0)
def s_X12_days : eg_S := eg_auto wd k_X12_days 2 (some 12) 29
theorem mk_X12_days : ∀ q ∈ k_X12_days.2.2.2.1, eg_mono q.2.2.2.2 := (fc (mo_X12_fail) (fn))
theorem mo_X12_days : eg_mono s_X12_days := eg_auto_mono mk_X12_days
theorem de_X12_days : ∀ q ∈ k_X12_days.1, decode cX12_days q.1 = .ok q.2 := by decide +kernel
theorem me_X12_days (g : gl_T) : MT g yX12_days cX12_days 2 (some .int) ⟨1, 0, 0, 21⟩ 0 0 s_X12_days := by
  intro hl
  exact eg_met_of (k := k_X12_days) (by decide) rfl ⟨Nat.le_refl _, Nat.le_refl _⟩ rfl eg_auto_len de_X12_days (fun meth hn => (fc (eg_FL_of wd_c12 (by decide) lf_RX12_213 (fun _ => Or.inl rfl)) (fc (eg_FL_of wd_c12 (by decide) lf_RX12_234 (fun _ => Or.inl rfl)) (fn)))) (fun A s H hE => (fn)) (fun p e s m args below meth c Q A ad0 N0 S0 hK hEx hA => (fc (mt_V hl S0 hK hEx hA (me_X12_fail g) lm_RX12_230 li_X12_fail lx_X12_fail ln_RX12 lc_X12_fail ⟨rfl, by decide, by decide, by decide +kernel⟩ ⟨rfl, rfl⟩ ⟨by decide, by decide⟩ (ci := 12) rfl rfl eg_auto_rec (by decide)) (fn))) (fun p e s m args below meth c Qc XC A ad0 N0 P S0 hK hEx hA hlk hout hPX => (fn)) (fun argv M Qp h => eg_auto_T mk_X12_days h)

def k_X12_isTold : eg_C := ([(0, .iload_n 1, 1), (1, .ifCond .ne 13, 3), (4, .iload_n 2, 1), (5, .ifCond .ne 7, 3), (8, .iconst 1, 1), (9, .goto 4, 3), (12, .iconst 0, 1), (13, .ireturn, 1), (14, .iload_n 3, 1), (15, .ifCond .eq 8, 3), (18, .iload_n 3, 1), (19, .iconst 1, 1), (20, .if_icmp .ne 7, 3), (23, .iconst 1, 1), (24, .goto 4, 3), (27, .iconst 0, 1), (28, .istore 6, 2), (30, .iload_n 1, 1), (31, .iconst 2, 1), (32, .if_icmp .ne 24, 3), (35, .iload 6, 2), (37, .ifCond .eq 17, 3), (40, .iload_n 2, 1), (41, .iconst 1, 1), (42, .ldc 237, 2), (44, .invokestatic 219, 3), (47, .ifCond .eq 7, 3), (50, .iconst 1, 1), (51, .goto 4, 3), (54, .iconst 0, 1), (55, .ireturn, 1), (56, .iload 6, 2), (58, .ifCond .eq 39, 3), (61, .iload_n 2, 1), (62, .iconst 1, 1), (63, .sipush 200, 3), (66, .invokestatic 219, 3), (69, .ifCond .eq 28, 3), (72, .iload 4, 2), (74, .iconst 1, 1), (75, .bipush 30, 2), (77, .invokestatic 219, 3), (80, .ifCond .eq 17, 3), (83, .iload 5, 2), (85, .iconst 0, 1), (86, .iload_n 2, 1), (87, .invokestatic 219, 3), (90, .ifCond .eq 7, 3), (93, .iconst 1, 1), (94, .goto 4, 3), (97, .iconst 0, 1), (98, .ireturn, 1)], [], [(237, .int (nI 99999))], [(219 + 100000, 3, 0, 0, s_X12_isIn)], [], 2, 0, 0)
theorem mk_X12_isTold : ∀ q ∈ k_X12_isTold.2.2.2.1, eg_mono q.2.2.2.2 := (fc (mo_X12_isIn) (fn))
def s_X12_isTold : eg_S := fun argv M Qp => match argv with
  | [.ref 121, .int a, .int b, .int c, .int d, .int e] => (True) ∧ Qp (.inl (some (.int (b2i (decide ((a = 0 ∧ b = 0) ∨ (¬ a = 0 ∧ ((c = 0 ∧ ((a = (nI 2) ∧ (¬ (b2i (decide (¬ b < (nI 1) ∧ ¬ (nI 99999) < b))) = 0)) ∨ (¬ a = (nI 2) ∧ (¬ (b2i (decide (¬ b < (nI 1) ∧ ¬ (nI 200) < b))) = 0 ∧ (¬ (b2i (decide (¬ d < (nI 1) ∧ ¬ (nI 30) < d))) = 0 ∧ (¬ (b2i (decide (¬ e < (nI 0) ∧ ¬ b < e))) = 0)))))) ∨ (¬ c = 0 ∧ ((c = (nI 1) ∧ ((a = (nI 2) ∧ (¬ (b2i (decide (¬ b < (nI 1) ∧ ¬ (nI 99999) < b))) = 0)) ∨ (¬ a = (nI 2) ∧ (¬ (b2i (decide (¬ b < (nI 1) ∧ ¬ (nI 200) < b))) = 0 ∧ (¬ (b2i (decide (¬ d < (nI 1) ∧ ¬ (nI 30) < d))) = 0 ∧ (¬ (b2i (decide (¬ e < (nI 0) ∧ ¬ b < e))) = 0)))))) ∨ (¬ c = (nI 1) ∧ (¬ a = (nI 2) ∧ False)))))))))))) M
  | _ => False
theorem mo_X12_isTold : eg_mono s_X12_isTold := by
  intro argv M Q Q' h
  unfold s_X12_isTold
  split
  · exact fun z => ⟨z.1, h _ _ z.2⟩
  · exact id
theorem sz_X12_isTold : ∀ argv M Qp, s_X12_isTold argv M Qp → (eg_ls0 argv).length ≤ 7 := by
  intro argv M Qp h
  unfold s_X12_isTold at h
  split at h
  · exact Nat.le_of_ble_eq_true rfl
  · exact h.elim
theorem sr_X12_isTold : ∀ argv M Qp, s_X12_isTold argv M Qp → ∃ p0 As, argv = .ref p0 :: As ∧ eg_isO wd M p0 12 = true := by
  intro argv M Qp h
  unfold s_X12_isTold at h
  split at h
  · exact ⟨_, _, rfl, rfl⟩
  · exact h.elim
set_option maxRecDepth 100000 in
theorem T_X12_isTold {argv : List Value} {M : eg_M} {Qp : eg_P} (h : s_X12_isTold argv M Qp) : eg_T wd k_X12_isTold Qp 0 0 0 (eg_lsN 7 argv) [] M := by
  unfold s_X12_isTold at h
  split at h
  · rename_i a b c d e
    obtain ⟨hp, hq⟩ := h
    refine eg_T_run mk_X12_isTold (cut := []) 57 ?_
    refine And.intro (fun (c1 : a = 0) => ?_) (fun (c1 : ¬ a = 0) => ?_)
    · skip
      refine And.intro (fun (c2 : b = 0) => ?_) (fun (c2 : ¬ b = 0) => ?_)
      · skip
        refine And.intro (fun _ => (show (nI 1) = 0 ∨ (nI 1) = 1 from ?_)) ?_
        · exact Or.inr rfl
        show Qp (.inl (some (.int (nI 1)))) M
        rw [show (decide ((a = 0 ∧ b = 0) ∨ (¬ a = 0 ∧ ((c = 0 ∧ ((a = (nI 2) ∧ (¬ (b2i (decide (¬ b < (nI 1) ∧ ¬ (nI 99999) < b))) = 0)) ∨ (¬ a = (nI 2) ∧ (¬ (b2i (decide (¬ b < (nI 1) ∧ ¬ (nI 200) < b))) = 0 ∧ (¬ (b2i (decide (¬ d < (nI 1) ∧ ¬ (nI 30) < d))) = 0 ∧ (¬ (b2i (decide (¬ e < (nI 0) ∧ ¬ b < e))) = 0)))))) ∨ (¬ c = 0 ∧ ((c = (nI 1) ∧ ((a = (nI 2) ∧ (¬ (b2i (decide (¬ b < (nI 1) ∧ ¬ (nI 99999) < b))) = 0)) ∨ (¬ a = (nI 2) ∧ (¬ (b2i (decide (¬ b < (nI 1) ∧ ¬ (nI 200) < b))) = 0 ∧ (¬ (b2i (decide (¬ d < (nI 1) ∧ ¬ (nI 30) < d))) = 0 ∧ (¬ (b2i (decide (¬ e < (nI 0) ∧ ¬ b < e))) = 0)))))) ∨ (¬ c = (nI 1) ∧ (¬ a = (nI 2) ∧ False)))))))) = true from decide_eq_true (by grind)] at hq
        exact hq
      · skip
        refine And.intro (fun _ => (show (nI 0) = 0 ∨ (nI 0) = 1 from ?_)) ?_
        · exact Or.inl rfl
        show Qp (.inl (some (.int (nI 0)))) M
        rw [show (decide ((a = 0 ∧ b = 0) ∨ (¬ a = 0 ∧ ((c = 0 ∧ ((a = (nI 2) ∧ (¬ (b2i (decide (¬ b < (nI 1) ∧ ¬ (nI 99999) < b))) = 0)) ∨ (¬ a = (nI 2) ∧ (¬ (b2i (decide (¬ b < (nI 1) ∧ ¬ (nI 200) < b))) = 0 ∧ (¬ (b2i (decide (¬ d < (nI 1) ∧ ¬ (nI 30) < d))) = 0 ∧ (¬ (b2i (decide (¬ e < (nI 0) ∧ ¬ b < e))) = 0)))))) ∨ (¬ c = 0 ∧ ((c = (nI 1) ∧ ((a = (nI 2) ∧ (¬ (b2i (decide (¬ b < (nI 1) ∧ ¬ (nI 99999) < b))) = 0)) ∨ (¬ a = (nI 2) ∧ (¬ (b2i (decide (¬ b < (nI 1) ∧ ¬ (nI 200) < b))) = 0 ∧ (¬ (b2i (decide (¬ d < (nI 1) ∧ ¬ (nI 30) < d))) = 0 ∧ (¬ (b2i (decide (¬ e < (nI 0) ∧ ¬ b < e))) = 0)))))) ∨ (¬ c = (nI 1) ∧ (¬ a = (nI 2) ∧ False)))))))) = false from decide_eq_false (by grind)] at hq
        exact hq
    · skip
      refine And.intro (fun (c3 : c = 0) => ?_) (fun (c3 : ¬ c = 0) => ?_)
      · skip
        refine And.intro (fun (c4 : a = (nI 2)) => ?_) (fun (c4 : ¬ a = (nI 2)) => ?_)
        · skip
          refine And.intro (fun (c5 : (nI 1) = 0) => ?_) (fun (c5 : ¬ (nI 1) = 0) => ?_)
          · exact absurd c5 (show ¬ (nI 1) = 0 by decide)
          · skip
            refine And.intro (show (True) from ?_) ?_
            · exact trivial
            refine And.intro (fun (c6 : (b2i (decide (¬ b < (nI 1) ∧ ¬ (nI 99999) < b))) = 0) => ?_) (fun (c6 : ¬ (b2i (decide (¬ b < (nI 1) ∧ ¬ (nI 99999) < b))) = 0) => ?_)
            · skip
              refine And.intro (fun _ => (show (nI 0) = 0 ∨ (nI 0) = 1 from ?_)) ?_
              · exact Or.inl rfl
              show Qp (.inl (some (.int (nI 0)))) M
              rw [show (decide ((a = 0 ∧ b = 0) ∨ (¬ a = 0 ∧ ((c = 0 ∧ ((a = (nI 2) ∧ (¬ (b2i (decide (¬ b < (nI 1) ∧ ¬ (nI 99999) < b))) = 0)) ∨ (¬ a = (nI 2) ∧ (¬ (b2i (decide (¬ b < (nI 1) ∧ ¬ (nI 200) < b))) = 0 ∧ (¬ (b2i (decide (¬ d < (nI 1) ∧ ¬ (nI 30) < d))) = 0 ∧ (¬ (b2i (decide (¬ e < (nI 0) ∧ ¬ b < e))) = 0)))))) ∨ (¬ c = 0 ∧ ((c = (nI 1) ∧ ((a = (nI 2) ∧ (¬ (b2i (decide (¬ b < (nI 1) ∧ ¬ (nI 99999) < b))) = 0)) ∨ (¬ a = (nI 2) ∧ (¬ (b2i (decide (¬ b < (nI 1) ∧ ¬ (nI 200) < b))) = 0 ∧ (¬ (b2i (decide (¬ d < (nI 1) ∧ ¬ (nI 30) < d))) = 0 ∧ (¬ (b2i (decide (¬ e < (nI 0) ∧ ¬ b < e))) = 0)))))) ∨ (¬ c = (nI 1) ∧ (¬ a = (nI 2) ∧ False)))))))) = false from decide_eq_false (by grind)] at hq
              exact hq
            · skip
              refine And.intro (fun _ => (show (nI 1) = 0 ∨ (nI 1) = 1 from ?_)) ?_
              · exact Or.inr rfl
              show Qp (.inl (some (.int (nI 1)))) M
              rw [show (decide ((a = 0 ∧ b = 0) ∨ (¬ a = 0 ∧ ((c = 0 ∧ ((a = (nI 2) ∧ (¬ (b2i (decide (¬ b < (nI 1) ∧ ¬ (nI 99999) < b))) = 0)) ∨ (¬ a = (nI 2) ∧ (¬ (b2i (decide (¬ b < (nI 1) ∧ ¬ (nI 200) < b))) = 0 ∧ (¬ (b2i (decide (¬ d < (nI 1) ∧ ¬ (nI 30) < d))) = 0 ∧ (¬ (b2i (decide (¬ e < (nI 0) ∧ ¬ b < e))) = 0)))))) ∨ (¬ c = 0 ∧ ((c = (nI 1) ∧ ((a = (nI 2) ∧ (¬ (b2i (decide (¬ b < (nI 1) ∧ ¬ (nI 99999) < b))) = 0)) ∨ (¬ a = (nI 2) ∧ (¬ (b2i (decide (¬ b < (nI 1) ∧ ¬ (nI 200) < b))) = 0 ∧ (¬ (b2i (decide (¬ d < (nI 1) ∧ ¬ (nI 30) < d))) = 0 ∧ (¬ (b2i (decide (¬ e < (nI 0) ∧ ¬ b < e))) = 0)))))) ∨ (¬ c = (nI 1) ∧ (¬ a = (nI 2) ∧ False)))))))) = true from decide_eq_true (by grind)] at hq
              exact hq
        · skip
          refine And.intro (fun (c7 : (nI 1) = 0) => ?_) (fun (c7 : ¬ (nI 1) = 0) => ?_)
          · exact absurd c7 (show ¬ (nI 1) = 0 by decide)
          · skip
            refine And.intro (show (True) from ?_) ?_
            · exact trivial
            refine And.intro (fun (c8 : (b2i (decide (¬ b < (nI 1) ∧ ¬ (nI 200) < b))) = 0) => ?_) (fun (c8 : ¬ (b2i (decide (¬ b < (nI 1) ∧ ¬ (nI 200) < b))) = 0) => ?_)
            · skip
              refine And.intro (fun _ => (show (nI 0) = 0 ∨ (nI 0) = 1 from ?_)) ?_
              · exact Or.inl rfl
              show Qp (.inl (some (.int (nI 0)))) M
              rw [show (decide ((a = 0 ∧ b = 0) ∨ (¬ a = 0 ∧ ((c = 0 ∧ ((a = (nI 2) ∧ (¬ (b2i (decide (¬ b < (nI 1) ∧ ¬ (nI 99999) < b))) = 0)) ∨ (¬ a = (nI 2) ∧ (¬ (b2i (decide (¬ b < (nI 1) ∧ ¬ (nI 200) < b))) = 0 ∧ (¬ (b2i (decide (¬ d < (nI 1) ∧ ¬ (nI 30) < d))) = 0 ∧ (¬ (b2i (decide (¬ e < (nI 0) ∧ ¬ b < e))) = 0)))))) ∨ (¬ c = 0 ∧ ((c = (nI 1) ∧ ((a = (nI 2) ∧ (¬ (b2i (decide (¬ b < (nI 1) ∧ ¬ (nI 99999) < b))) = 0)) ∨ (¬ a = (nI 2) ∧ (¬ (b2i (decide (¬ b < (nI 1) ∧ ¬ (nI 200) < b))) = 0 ∧ (¬ (b2i (decide (¬ d < (nI 1) ∧ ¬ (nI 30) < d))) = 0 ∧ (¬ (b2i (decide (¬ e < (nI 0) ∧ ¬ b < e))) = 0)))))) ∨ (¬ c = (nI 1) ∧ (¬ a = (nI 2) ∧ False)))))))) = false from decide_eq_false (by grind)] at hq
              exact hq
            · skip
              refine And.intro (show (True) from ?_) ?_
              · exact trivial
              refine And.intro (fun (c9 : (b2i (decide (¬ d < (nI 1) ∧ ¬ (nI 30) < d))) = 0) => ?_) (fun (c9 : ¬ (b2i (decide (¬ d < (nI 1) ∧ ¬ (nI 30) < d))) = 0) => ?_)
              · skip
                refine And.intro (fun _ => (show (nI 0) = 0 ∨ (nI 0) = 1 from ?_)) ?_
                · exact Or.inl rfl
                show Qp (.inl (some (.int (nI 0)))) M
                rw [show (decide ((a = 0 ∧ b = 0) ∨ (¬ a = 0 ∧ ((c = 0 ∧ ((a = (nI 2) ∧ (¬ (b2i (decide (¬ b < (nI 1) ∧ ¬ (nI 99999) < b))) = 0)) ∨ (¬ a = (nI 2) ∧ (¬ (b2i (decide (¬ b < (nI 1) ∧ ¬ (nI 200) < b))) = 0 ∧ (¬ (b2i (decide (¬ d < (nI 1) ∧ ¬ (nI 30) < d))) = 0 ∧ (¬ (b2i (decide (¬ e < (nI 0) ∧ ¬ b < e))) = 0)))))) ∨ (¬ c = 0 ∧ ((c = (nI 1) ∧ ((a = (nI 2) ∧ (¬ (b2i (decide (¬ b < (nI 1) ∧ ¬ (nI 99999) < b))) = 0)) ∨ (¬ a = (nI 2) ∧ (¬ (b2i (decide (¬ b < (nI 1) ∧ ¬ (nI 200) < b))) = 0 ∧ (¬ (b2i (decide (¬ d < (nI 1) ∧ ¬ (nI 30) < d))) = 0 ∧ (¬ (b2i (decide (¬ e < (nI 0) ∧ ¬ b < e))) = 0)))))) ∨ (¬ c = (nI 1) ∧ (¬ a = (nI 2) ∧ False)))))))) = false from decide_eq_false (by grind)] at hq
                exact hq
              · skip
                refine And.intro (show (True) from ?_) ?_
                · exact trivial
                refine And.intro (fun (c10 : (b2i (decide (¬ e < (nI 0) ∧ ¬ b < e))) = 0) => ?_) (fun (c10 : ¬ (b2i (decide (¬ e < (nI 0) ∧ ¬ b < e))) = 0) => ?_)
                · skip
                  refine And.intro (fun _ => (show (nI 0) = 0 ∨ (nI 0) = 1 from ?_)) ?_
                  · exact Or.inl rfl
                  show Qp (.inl (some (.int (nI 0)))) M
                  rw [show (decide ((a = 0 ∧ b = 0) ∨ (¬ a = 0 ∧ ((c = 0 ∧ ((a = (nI 2) ∧ (¬ (b2i (decide (¬ b < (nI 1) ∧ ¬ (nI 99999) < b))) = 0)) ∨ (¬ a = (nI 2) ∧ (¬ (b2i (decide (¬ b < (nI 1) ∧ ¬ (nI 200) < b))) = 0 ∧ (¬ (b2i (decide (¬ d < (nI 1) ∧ ¬ (nI 30) < d))) = 0 ∧ (¬ (b2i (decide (¬ e < (nI 0) ∧ ¬ b < e))) = 0)))))) ∨ (¬ c = 0 ∧ ((c = (nI 1) ∧ ((a = (nI 2) ∧ (¬ (b2i (decide (¬ b < (nI 1) ∧ ¬ (nI 99999) < b))) = 0)) ∨ (¬ a = (nI 2) ∧ (¬ (b2i (decide (¬ b < (nI 1) ∧ ¬ (nI 200) < b))) = 0 ∧ (¬ (b2i (decide (¬ d < (nI 1) ∧ ¬ (nI 30) < d))) = 0 ∧ (¬ (b2i (decide (¬ e < (nI 0) ∧ ¬ b < e))) = 0)))))) ∨ (¬ c = (nI 1) ∧ (¬ a = (nI 2) ∧ False)))))))) = false from decide_eq_false (by grind)] at hq
                  exact hq
                · skip
                  refine And.intro (fun _ => (show (nI 1) = 0 ∨ (nI 1) = 1 from ?_)) ?_
                  · exact Or.inr rfl
                  show Qp (.inl (some (.int (nI 1)))) M
                  rw [show (decide ((a = 0 ∧ b = 0) ∨ (¬ a = 0 ∧ ((c = 0 ∧ ((a = (nI 2) ∧ (¬ (b2i (decide (¬ b < (nI 1) ∧ ¬ (nI 99999) < b))) = 0)) ∨ (¬ a = (nI 2) ∧ (¬ (b2i (decide (¬ b < (nI 1) ∧ ¬ (nI 200) < b))) = 0 ∧ (¬ (b2i (decide (¬ d < (nI 1) ∧ ¬ (nI 30) < d))) = 0 ∧ (¬ (b2i (decide (¬ e < (nI 0) ∧ ¬ b < e))) = 0)))))) ∨ (¬ c = 0 ∧ ((c = (nI 1) ∧ ((a = (nI 2) ∧ (¬ (b2i (decide (¬ b < (nI 1) ∧ ¬ (nI 99999) < b))) = 0)) ∨ (¬ a = (nI 2) ∧ (¬ (b2i (decide (¬ b < (nI 1) ∧ ¬ (nI 200) < b))) = 0 ∧ (¬ (b2i (decide (¬ d < (nI 1) ∧ ¬ (nI 30) < d))) = 0 ∧ (¬ (b2i (decide (¬ e < (nI 0) ∧ ¬ b < e))) = 0)))))) ∨ (¬ c = (nI 1) ∧ (¬ a = (nI 2) ∧ False)))))))) = true from decide_eq_true (by grind)] at hq
                  exact hq
      · skip
        refine And.intro (fun (c11 : c = (nI 1)) => ?_) (fun (c11 : ¬ c = (nI 1)) => ?_)
        · skip
          refine And.intro (fun (c12 : a = (nI 2)) => ?_) (fun (c12 : ¬ a = (nI 2)) => ?_)
          · skip
            refine And.intro (fun (c13 : (nI 1) = 0) => ?_) (fun (c13 : ¬ (nI 1) = 0) => ?_)
            · exact absurd c13 (show ¬ (nI 1) = 0 by decide)
            · skip
              refine And.intro (show (True) from ?_) ?_
              · exact trivial
              refine And.intro (fun (c14 : (b2i (decide (¬ b < (nI 1) ∧ ¬ (nI 99999) < b))) = 0) => ?_) (fun (c14 : ¬ (b2i (decide (¬ b < (nI 1) ∧ ¬ (nI 99999) < b))) = 0) => ?_)
              · skip
                refine And.intro (fun _ => (show (nI 0) = 0 ∨ (nI 0) = 1 from ?_)) ?_
                · exact Or.inl rfl
                show Qp (.inl (some (.int (nI 0)))) M
                rw [show (decide ((a = 0 ∧ b = 0) ∨ (¬ a = 0 ∧ ((c = 0 ∧ ((a = (nI 2) ∧ (¬ (b2i (decide (¬ b < (nI 1) ∧ ¬ (nI 99999) < b))) = 0)) ∨ (¬ a = (nI 2) ∧ (¬ (b2i (decide (¬ b < (nI 1) ∧ ¬ (nI 200) < b))) = 0 ∧ (¬ (b2i (decide (¬ d < (nI 1) ∧ ¬ (nI 30) < d))) = 0 ∧ (¬ (b2i (decide (¬ e < (nI 0) ∧ ¬ b < e))) = 0)))))) ∨ (¬ c = 0 ∧ ((c = (nI 1) ∧ ((a = (nI 2) ∧ (¬ (b2i (decide (¬ b < (nI 1) ∧ ¬ (nI 99999) < b))) = 0)) ∨ (¬ a = (nI 2) ∧ (¬ (b2i (decide (¬ b < (nI 1) ∧ ¬ (nI 200) < b))) = 0 ∧ (¬ (b2i (decide (¬ d < (nI 1) ∧ ¬ (nI 30) < d))) = 0 ∧ (¬ (b2i (decide (¬ e < (nI 0) ∧ ¬ b < e))) = 0)))))) ∨ (¬ c = (nI 1) ∧ (¬ a = (nI 2) ∧ False)))))))) = false from decide_eq_false (by grind)] at hq
                exact hq
              · skip
                refine And.intro (fun _ => (show (nI 1) = 0 ∨ (nI 1) = 1 from ?_)) ?_
                · exact Or.inr rfl
                show Qp (.inl (some (.int (nI 1)))) M
                rw [show (decide ((a = 0 ∧ b = 0) ∨ (¬ a = 0 ∧ ((c = 0 ∧ ((a = (nI 2) ∧ (¬ (b2i (decide (¬ b < (nI 1) ∧ ¬ (nI 99999) < b))) = 0)) ∨ (¬ a = (nI 2) ∧ (¬ (b2i (decide (¬ b < (nI 1) ∧ ¬ (nI 200) < b))) = 0 ∧ (¬ (b2i (decide (¬ d < (nI 1) ∧ ¬ (nI 30) < d))) = 0 ∧ (¬ (b2i (decide (¬ e < (nI 0) ∧ ¬ b < e))) = 0)))))) ∨ (¬ c = 0 ∧ ((c = (nI 1) ∧ ((a = (nI 2) ∧ (¬ (b2i (decide (¬ b < (nI 1) ∧ ¬ (nI 99999) < b))) = 0)) ∨ (¬ a = (nI 2) ∧ (¬ (b2i (decide (¬ b < (nI 1) ∧ ¬ (nI 200) < b))) = 0 ∧ (¬ (b2i (decide (¬ d < (nI 1) ∧ ¬ (nI 30) < d))) = 0 ∧ (¬ (b2i (decide (¬ e < (nI 0) ∧ ¬ b < e))) = 0)))))) ∨ (¬ c = (nI 1) ∧ (¬ a = (nI 2) ∧ False)))))))) = true from decide_eq_true (by grind)] at hq
                exact hq
          · skip
            refine And.intro (fun (c15 : (nI 1) = 0) => ?_) (fun (c15 : ¬ (nI 1) = 0) => ?_)
            · exact absurd c15 (show ¬ (nI 1) = 0 by decide)
            · skip
              refine And.intro (show (True) from ?_) ?_
              · exact trivial
              refine And.intro (fun (c16 : (b2i (decide (¬ b < (nI 1) ∧ ¬ (nI 200) < b))) = 0) => ?_) (fun (c16 : ¬ (b2i (decide (¬ b < (nI 1) ∧ ¬ (nI 200) < b))) = 0) => ?_)
              · skip
                refine And.intro (fun _ => (show (nI 0) = 0 ∨ (nI 0) = 1 from ?_)) ?_
                · exact Or.inl rfl
                show Qp (.inl (some (.int (nI 0)))) M
                rw [show (decide ((a = 0 ∧ b = 0) ∨ (¬ a = 0 ∧ ((c = 0 ∧ ((a = (nI 2) ∧ (¬ (b2i (decide (¬ b < (nI 1) ∧ ¬ (nI 99999) < b))) = 0)) ∨ (¬ a = (nI 2) ∧ (¬ (b2i (decide (¬ b < (nI 1) ∧ ¬ (nI 200) < b))) = 0 ∧ (¬ (b2i (decide (¬ d < (nI 1) ∧ ¬ (nI 30) < d))) = 0 ∧ (¬ (b2i (decide (¬ e < (nI 0) ∧ ¬ b < e))) = 0)))))) ∨ (¬ c = 0 ∧ ((c = (nI 1) ∧ ((a = (nI 2) ∧ (¬ (b2i (decide (¬ b < (nI 1) ∧ ¬ (nI 99999) < b))) = 0)) ∨ (¬ a = (nI 2) ∧ (¬ (b2i (decide (¬ b < (nI 1) ∧ ¬ (nI 200) < b))) = 0 ∧ (¬ (b2i (decide (¬ d < (nI 1) ∧ ¬ (nI 30) < d))) = 0 ∧ (¬ (b2i (decide (¬ e < (nI 0) ∧ ¬ b < e))) = 0)))))) ∨ (¬ c = (nI 1) ∧ (¬ a = (nI 2) ∧ False)))))))) = false from decide_eq_false (by grind)] at hq
                exact hq
              · skip
                refine And.intro (show (True) from ?_) ?_
                · exact trivial
                refine And.intro (fun (c17 : (b2i (decide (¬ d < (nI 1) ∧ ¬ (nI 30) < d))) = 0) => ?_) (fun (c17 : ¬ (b2i (decide (¬ d < (nI 1) ∧ ¬ (nI 30) < d))) = 0) => ?_)
                · skip
                  refine And.intro (fun _ => (show (nI 0) = 0 ∨ (nI 0) = 1 from ?_)) ?_
                  · exact Or.inl rfl
                  show Qp (.inl (some (.int (nI 0)))) M
                  rw [show (decide ((a = 0 ∧ b = 0) ∨ (¬ a = 0 ∧ ((c = 0 ∧ ((a = (nI 2) ∧ (¬ (b2i (decide (¬ b < (nI 1) ∧ ¬ (nI 99999) < b))) = 0)) ∨ (¬ a = (nI 2) ∧ (¬ (b2i (decide (¬ b < (nI 1) ∧ ¬ (nI 200) < b))) = 0 ∧ (¬ (b2i (decide (¬ d < (nI 1) ∧ ¬ (nI 30) < d))) = 0 ∧ (¬ (b2i (decide (¬ e < (nI 0) ∧ ¬ b < e))) = 0)))))) ∨ (¬ c = 0 ∧ ((c = (nI 1) ∧ ((a = (nI 2) ∧ (¬ (b2i (decide (¬ b < (nI 1) ∧ ¬ (nI 99999) < b))) = 0)) ∨ (¬ a = (nI 2) ∧ (¬ (b2i (decide (¬ b < (nI 1) ∧ ¬ (nI 200) < b))) = 0 ∧ (¬ (b2i (decide (¬ d < (nI 1) ∧ ¬ (nI 30) < d))) = 0 ∧ (¬ (b2i (decide (¬ e < (nI 0) ∧ ¬ b < e))) = 0)))))) ∨ (¬ c = (nI 1) ∧ (¬ a = (nI 2) ∧ False)))))))) = false from decide_eq_false (by grind)] at hq
                  exact hq
                · skip
                  refine And.intro (show (True) from ?_) ?_
                  · exact trivial
                  refine And.intro (fun (c18 : (b2i (decide (¬ e < (nI 0) ∧ ¬ b < e))) = 0) => ?_) (fun (c18 : ¬ (b2i (decide (¬ e < (nI 0) ∧ ¬ b < e))) = 0) => ?_)
                  · skip
                    refine And.intro (fun _ => (show (nI 0) = 0 ∨ (nI 0) = 1 from ?_)) ?_
                    · exact Or.inl rfl
                    show Qp (.inl (some (.int (nI 0)))) M
                    rw [show (decide ((a = 0 ∧ b = 0) ∨ (¬ a = 0 ∧ ((c = 0 ∧ ((a = (nI 2) ∧ (¬ (b2i (decide (¬ b < (nI 1) ∧ ¬ (nI 99999) < b))) = 0)) ∨ (¬ a = (nI 2) ∧ (¬ (b2i (decide (¬ b < (nI 1) ∧ ¬ (nI 200) < b))) = 0 ∧ (¬ (b2i (decide (¬ d < (nI 1) ∧ ¬ (nI 30) < d))) = 0 ∧ (¬ (b2i (decide (¬ e < (nI 0) ∧ ¬ b < e))) = 0)))))) ∨ (¬ c = 0 ∧ ((c = (nI 1) ∧ ((a = (nI 2) ∧ (¬ (b2i (decide (¬ b < (nI 1) ∧ ¬ (nI 99999) < b))) = 0)) ∨ (¬ a = (nI 2) ∧ (¬ (b2i (decide (¬ b < (nI 1) ∧ ¬ (nI 200) < b))) = 0 ∧ (¬ (b2i (decide (¬ d < (nI 1) ∧ ¬ (nI 30) < d))) = 0 ∧ (¬ (b2i (decide (¬ e < (nI 0) ∧ ¬ b < e))) = 0)))))) ∨ (¬ c = (nI 1) ∧ (¬ a = (nI 2) ∧ False)))))))) = false from decide_eq_false (by grind)] at hq
                    exact hq
                  · skip
                    refine And.intro (fun _ => (show (nI 1) = 0 ∨ (nI 1) = 1 from ?_)) ?_
                    · exact Or.inr rfl
                    show Qp (.inl (some (.int (nI 1)))) M
                    rw [show (decide ((a = 0 ∧ b = 0) ∨ (¬ a = 0 ∧ ((c = 0 ∧ ((a = (nI 2) ∧ (¬ (b2i (decide (¬ b < (nI 1) ∧ ¬ (nI 99999) < b))) = 0)) ∨ (¬ a = (nI 2) ∧ (¬ (b2i (decide (¬ b < (nI 1) ∧ ¬ (nI 200) < b))) = 0 ∧ (¬ (b2i (decide (¬ d < (nI 1) ∧ ¬ (nI 30) < d))) = 0 ∧ (¬ (b2i (decide (¬ e < (nI 0) ∧ ¬ b < e))) = 0)))))) ∨ (¬ c = 0 ∧ ((c = (nI 1) ∧ ((a = (nI 2) ∧ (¬ (b2i (decide (¬ b < (nI 1) ∧ ¬ (nI 99999) < b))) = 0)) ∨ (¬ a = (nI 2) ∧ (¬ (b2i (decide (¬ b < (nI 1) ∧ ¬ (nI 200) < b))) = 0 ∧ (¬ (b2i (decide (¬ d < (nI 1) ∧ ¬ (nI 30) < d))) = 0 ∧ (¬ (b2i (decide (¬ e < (nI 0) ∧ ¬ b < e))) = 0)))))) ∨ (¬ c = (nI 1) ∧ (¬ a = (nI 2) ∧ False)))))))) = true from decide_eq_true (by grind)] at hq
                    exact hq
        · skip
          refine And.intro (fun (c19 : a = (nI 2)) => ?_) (fun (c19 : ¬ a = (nI 2)) => ?_)
          · skip
            refine And.intro (fun (c20 : (nI 0) = 0) => ?_) (fun (c20 : ¬ (nI 0) = 0) => ?_)
            · skip
              refine And.intro (fun _ => (show (nI 0) = 0 ∨ (nI 0) = 1 from ?_)) ?_
              · exact Or.inl rfl
              show Qp (.inl (some (.int (nI 0)))) M
              rw [show (decide ((a = 0 ∧ b = 0) ∨ (¬ a = 0 ∧ ((c = 0 ∧ ((a = (nI 2) ∧ (¬ (b2i (decide (¬ b < (nI 1) ∧ ¬ (nI 99999) < b))) = 0)) ∨ (¬ a = (nI 2) ∧ (¬ (b2i (decide (¬ b < (nI 1) ∧ ¬ (nI 200) < b))) = 0 ∧ (¬ (b2i (decide (¬ d < (nI 1) ∧ ¬ (nI 30) < d))) = 0 ∧ (¬ (b2i (decide (¬ e < (nI 0) ∧ ¬ b < e))) = 0)))))) ∨ (¬ c = 0 ∧ ((c = (nI 1) ∧ ((a = (nI 2) ∧ (¬ (b2i (decide (¬ b < (nI 1) ∧ ¬ (nI 99999) < b))) = 0)) ∨ (¬ a = (nI 2) ∧ (¬ (b2i (decide (¬ b < (nI 1) ∧ ¬ (nI 200) < b))) = 0 ∧ (¬ (b2i (decide (¬ d < (nI 1) ∧ ¬ (nI 30) < d))) = 0 ∧ (¬ (b2i (decide (¬ e < (nI 0) ∧ ¬ b < e))) = 0)))))) ∨ (¬ c = (nI 1) ∧ (¬ a = (nI 2) ∧ False)))))))) = false from decide_eq_false (by grind)] at hq
              exact hq
            · exact absurd (show (nI 0) = 0 by decide) c20
          · skip
            refine And.intro (fun (c21 : (nI 0) = 0) => ?_) (fun (c21 : ¬ (nI 0) = 0) => ?_)
            · skip
              refine And.intro (fun _ => (show (nI 0) = 0 ∨ (nI 0) = 1 from ?_)) ?_
              · exact Or.inl rfl
              show Qp (.inl (some (.int (nI 0)))) M
              rw [show (decide ((a = 0 ∧ b = 0) ∨ (¬ a = 0 ∧ ((c = 0 ∧ ((a = (nI 2) ∧ (¬ (b2i (decide (¬ b < (nI 1) ∧ ¬ (nI 99999) < b))) = 0)) ∨ (¬ a = (nI 2) ∧ (¬ (b2i (decide (¬ b < (nI 1) ∧ ¬ (nI 200) < b))) = 0 ∧ (¬ (b2i (decide (¬ d < (nI 1) ∧ ¬ (nI 30) < d))) = 0 ∧ (¬ (b2i (decide (¬ e < (nI 0) ∧ ¬ b < e))) = 0)))))) ∨ (¬ c = 0 ∧ ((c = (nI 1) ∧ ((a = (nI 2) ∧ (¬ (b2i (decide (¬ b < (nI 1) ∧ ¬ (nI 99999) < b))) = 0)) ∨ (¬ a = (nI 2) ∧ (¬ (b2i (decide (¬ b < (nI 1) ∧ ¬ (nI 200) < b))) = 0 ∧ (¬ (b2i (decide (¬ d < (nI 1) ∧ ¬ (nI 30) < d))) = 0 ∧ (¬ (b2i (decide (¬ e < (nI 0) ∧ ¬ b < e))) = 0)))))) ∨ (¬ c = (nI 1) ∧ (¬ a = (nI 2) ∧ False)))))))) = false from decide_eq_false (by grind)] at hq
              exact hq
            · exact absurd (show (nI 0) = 0 by decide) c21
  · exact h.elim
theorem de_X12_isTold : ∀ q ∈ k_X12_isTold.1, decode cX12_isTold q.1 = .ok q.2 := by decide +kernel
theorem me_X12_isTold (g : gl_T) : MT g yX12_isTold cX12_isTold 7 (some .boolean) ⟨1, 0, 0, 22⟩ 0 0 s_X12_isTold := by
  intro hl
  exact eg_met_of (k := k_X12_isTold) (by decide) rfl ⟨Nat.le_refl _, Nat.le_refl _⟩ rfl sz_X12_isTold de_X12_isTold (fun meth hn => (fn)) (fun A s H hE => (fc (List.mem_cons_of_mem _ lk_RX12_237) (fn))) (fun p e s m args below meth c Q A ad0 N0 S0 hK hEx hA => (fc (mt_S hl S0 hK hEx hA (me_X12_isIn g) lm_RX12_219 ls_X12_isIn ln_RX12 lc_X12_isIn ⟨rfl, by decide, by decide, by decide +kernel⟩ ⟨rfl, rfl⟩ ⟨by decide, by decide⟩ (by decide)) (fn))) (fun p e s m args below meth c Qc XC A ad0 N0 P S0 hK hEx hA hlk hout hPX => (fn)) (fun argv M Qp h => T_X12_isTold h)

def k_X12_event : eg_C := ([(0, .aload_n 0, 1), (1, .iconst 0, 1), (2, .putfield 213, 3), (5, .iload_n 1, 1), (6, .ifCond .lt 16, 3), (9, .iload_n 1, 1), (10, .iconst 2, 1), (11, .if_icmp .gt 11, 3), (14, .aload_n 0, 1), (15, .iload_n 2, 1), (16, .invokevirtual 238, 3), (19, .ifCond .ne 9, 3), (22, .aload_n 0, 1), (23, .iconst 1, 1), (24, .invokevirtual 230, 3), (27, .ireturn, 1), (28, .aload_n 0, 1), (29, .getfield 241, 3), (32, .sipush 200, 3), (35, .if_icmp .eq 31, 3), (38, .aload_n 0, 1), (39, .iload_n 1, 1), (40, .iload_n 3, 1), (41, .iload 4, 2), (43, .iload 5, 2), (45, .iload 6, 2), (47, .invokevirtual 244, 3), (50, .ifCond .eq 16, 3), (53, .iload 7, 2), (55, .iconst 0, 1), (56, .aload_n 0, 1), (57, .getfield 234, 3), (60, .invokestatic 219, 3), (63, .ifCond .ne 5, 3), (66, .iconst (-1), 1), (67, .ireturn, 1), (68, .aload_n 0, 1), (69, .getfield 59, 3), (72, .aload_n 0, 1), (73, .getfield 241, 3), (76, .iload_n 1, 1), (77, .iastore, 1), (78, .aload_n 0, 1), (79, .getfield 62, 3), (82, .aload_n 0, 1), (83, .getfield 241, 3), (86, .iload_n 2, 1), (87, .iastore, 1), (88, .aload_n 0, 1), (89, .getfield 65, 3), (92, .aload_n 0, 1), (93, .getfield 241, 3), (96, .iload_n 3, 1), (97, .iastore, 1), (98, .aload_n 0, 1), (99, .getfield 68, 3), (102, .aload_n 0, 1), (103, .getfield 241, 3), (106, .iload 4, 2), (108, .iastore, 1), (109, .aload_n 0, 1), (110, .getfield 71, 3), (113, .aload_n 0, 1), (114, .getfield 241, 3), (117, .iload 5, 2), (119, .iastore, 1), (120, .aload_n 0, 1), (121, .getfield 74, 3), (124, .aload_n 0, 1), (125, .getfield 241, 3), (128, .iload 6, 2), (130, .iastore, 1), (131, .aload_n 0, 1), (132, .getfield 77, 3), (135, .aload_n 0, 1), (136, .getfield 241, 3), (139, .iload 7, 2), (141, .iastore, 1), (142, .aload_n 0, 1), (143, .getfield 80, 3), (146, .aload_n 0, 1), (147, .getfield 241, 3), (150, .aload_n 0, 1), (151, .getfield 234, 3), (154, .iastore, 1), (155, .aload_n 0, 1), (156, .getfield 83, 3), (159, .aload_n 0, 1), (160, .getfield 241, 3), (163, .iconst (-1), 1), (164, .iastore, 1), (165, .aload_n 0, 1), (166, .dup, 1), (167, .getfield 241, 3), (170, .iconst 1, 1), (171, .iadd, 1), (172, .putfield 241, 3), (175, .aload_n 0, 1), (176, .getfield 241, 3), (179, .iconst 1, 1), (180, .isub, 1), (181, .ireturn, 1)], [(59, 12, 13, false), (62, 12, 14, false), (65, 12, 15, false), (68, 12, 16, false), (71, 12, 17, false), (74, 12, 18, false), (77, 12, 19, false), (80, 12, 20, false), (83, 12, 21, false), (213, 12, 1, true), (234, 12, 2, false), (241, 12, 5, true)], [], [(219 + 100000, 3, 0, 0, s_X12_isIn), (230, 1 + 1, 0, 0, s_X12_fail), (238, 1 + 1, 0, 0, s_X12_isCharter), (244, 5 + 1, 0, 0, s_X12_isTold)], [], 1, 0, 0)
def s_X12_event : eg_S := eg_auto wd k_X12_event 8 (some 12) 104
theorem mk_X12_event : ∀ q ∈ k_X12_event.2.2.2.1, eg_mono q.2.2.2.2 := (fc (mo_X12_isIn) (fc (mo_X12_fail) (fc (mo_X12_isCharter) (fc (mo_X12_isTold) (fn)))))
theorem mo_X12_event : eg_mono s_X12_event := eg_auto_mono mk_X12_event
theorem de_X12_event : ∀ q ∈ k_X12_event.1, decode cX12_event q.1 = .ok q.2 := by decide +kernel
theorem me_X12_event (g : gl_T) : MT g yX12_event cX12_event 8 (some .int) ⟨2, 0, 0, 48⟩ 0 0 s_X12_event := by
  intro hl
  exact eg_met_of (k := k_X12_event) (by decide) rfl ⟨Nat.le_refl _, Nat.le_refl _⟩ rfl eg_auto_len de_X12_event (fun meth hn => (fc (eg_FL_of wd_c12 (by decide) lf_RX12_59 (fun h => absurd h (by decide))) (fc (eg_FL_of wd_c12 (by decide) lf_RX12_62 (fun h => absurd h (by decide))) (fc (eg_FL_of wd_c12 (by decide) lf_RX12_65 (fun h => absurd h (by decide))) (fc (eg_FL_of wd_c12 (by decide) lf_RX12_68 (fun h => absurd h (by decide))) (fc (eg_FL_of wd_c12 (by decide) lf_RX12_71 (fun h => absurd h (by decide))) (fc (eg_FL_of wd_c12 (by decide) lf_RX12_74 (fun h => absurd h (by decide))) (fc (eg_FL_of wd_c12 (by decide) lf_RX12_77 (fun h => absurd h (by decide))) (fc (eg_FL_of wd_c12 (by decide) lf_RX12_80 (fun h => absurd h (by decide))) (fc (eg_FL_of wd_c12 (by decide) lf_RX12_83 (fun h => absurd h (by decide))) (fc (eg_FL_of wd_c12 (by decide) lf_RX12_213 (fun _ => Or.inl rfl)) (fc (eg_FL_of wd_c12 (by decide) lf_RX12_234 (fun h => absurd h (by decide))) (fc (eg_FL_of wd_c12 (by decide) lf_RX12_241 (fun _ => Or.inl rfl)) (fn)))))))))))))) (fun A s H hE => (fn)) (fun p e s m args below meth c Q A ad0 N0 S0 hK hEx hA => (fc (mt_S hl S0 hK hEx hA (me_X12_isIn g) lm_RX12_219 ls_X12_isIn ln_RX12 lc_X12_isIn ⟨rfl, by decide, by decide, by decide +kernel⟩ ⟨rfl, rfl⟩ ⟨by decide, by decide⟩ (by decide)) (fc (mt_V hl S0 hK hEx hA (me_X12_fail g) lm_RX12_230 li_X12_fail lx_X12_fail ln_RX12 lc_X12_fail ⟨rfl, by decide, by decide, by decide +kernel⟩ ⟨rfl, rfl⟩ ⟨by decide, by decide⟩ (ci := 12) rfl rfl eg_auto_rec (by decide)) (fc (mt_V hl S0 hK hEx hA (me_X12_isCharter g) lm_RX12_238 li_X12_isCharter lx_X12_isCharter ln_RX12 lc_X12_isCharter ⟨rfl, by decide, by decide, by decide +kernel⟩ ⟨rfl, rfl⟩ ⟨by decide, by decide⟩ (ci := 12) rfl rfl sr_X12_isCharter (by decide)) (fc (mt_V hl S0 hK hEx hA (me_X12_isTold g) lm_RX12_244 li_X12_isTold lx_X12_isTold ln_RX12 lc_X12_isTold ⟨rfl, by decide, by decide, by decide +kernel⟩ ⟨rfl, rfl⟩ ⟨by decide, by decide⟩ (ci := 12) rfl rfl sr_X12_isTold (by decide)) (fn)))))) (fun p e s m args below meth c Qc XC A ad0 N0 P S0 hK hEx hA hlk hout hPX => (fn)) (fun argv M Qp h => eg_auto_T mk_X12_event h)

def k_X12_isEvent : eg_C := ([(0, .iload_n 1, 1), (1, .ifCond .lt 15, 3), (4, .iload_n 1, 1), (5, .aload_n 0, 1), (6, .getfield 241, 3), (9, .if_icmp .ge 7, 3), (12, .iconst 1, 1), (13, .goto 4, 3), (16, .iconst 0, 1), (17, .ireturn, 1)], [(241, 12, 5, false)], [], [], [], 2, 0, 0)
theorem mk_X12_isEvent : ∀ q ∈ k_X12_isEvent.2.2.2.1, eg_mono q.2.2.2.2 := (fn)
def s_X12_isEvent : eg_S := fun argv M Qp => match argv with
  | [.ref 121, .int a] => (True) ∧ Qp (.inl (some (.int (b2i (decide (¬ a < 0 ∧ ¬ (eg_gi M 121 5) ≤ a)))))) M
  | _ => False
theorem mo_X12_isEvent : eg_mono s_X12_isEvent := by
  intro argv M Q Q' h
  unfold s_X12_isEvent
  split
  · exact fun z => ⟨z.1, h _ _ z.2⟩
  · exact id
theorem sz_X12_isEvent : ∀ argv M Qp, s_X12_isEvent argv M Qp → (eg_ls0 argv).length ≤ 2 := by
  intro argv M Qp h
  unfold s_X12_isEvent at h
  split at h
  · exact Nat.le_of_ble_eq_true rfl
  · exact h.elim
theorem sr_X12_isEvent : ∀ argv M Qp, s_X12_isEvent argv M Qp → ∃ p0 As, argv = .ref p0 :: As ∧ eg_isO wd M p0 12 = true := by
  intro argv M Qp h
  unfold s_X12_isEvent at h
  split at h
  · exact ⟨_, _, rfl, rfl⟩
  · exact h.elim
set_option maxRecDepth 100000 in
theorem T_X12_isEvent {argv : List Value} {M : eg_M} {Qp : eg_P} (h : s_X12_isEvent argv M Qp) : eg_T wd k_X12_isEvent Qp 0 0 0 (eg_lsN 2 argv) [] M := by
  unfold s_X12_isEvent at h
  split at h
  · rename_i a
    obtain ⟨hp, hq⟩ := h
    refine eg_T_run mk_X12_isEvent (cut := []) 15 ?_
    refine And.intro (fun (c1 : a < 0) => ?_) (fun (c1 : ¬ a < 0) => ?_)
    · skip
      refine And.intro (fun _ => (show (nI 0) = 0 ∨ (nI 0) = 1 from ?_)) ?_
      · exact Or.inl rfl
      show Qp (.inl (some (.int (nI 0)))) M
      rw [show (decide (¬ a < 0 ∧ ¬ (eg_gi M 121 5) ≤ a)) = false from decide_eq_false (by grind)] at hq
      exact hq
    · skip
      refine And.intro (fun (c2 : (eg_gi M 121 5) ≤ a) => ?_) (fun (c2 : ¬ (eg_gi M 121 5) ≤ a) => ?_)
      · skip
        refine And.intro (fun _ => (show (nI 0) = 0 ∨ (nI 0) = 1 from ?_)) ?_
        · exact Or.inl rfl
        show Qp (.inl (some (.int (nI 0)))) M
        rw [show (decide (¬ a < 0 ∧ ¬ (eg_gi M 121 5) ≤ a)) = false from decide_eq_false (by grind)] at hq
        exact hq
      · skip
        refine And.intro (fun _ => (show (nI 1) = 0 ∨ (nI 1) = 1 from ?_)) ?_
        · exact Or.inr rfl
        show Qp (.inl (some (.int (nI 1)))) M
        rw [show (decide (¬ a < 0 ∧ ¬ (eg_gi M 121 5) ≤ a)) = true from decide_eq_true (by grind)] at hq
        exact hq
  · exact h.elim
theorem de_X12_isEvent : ∀ q ∈ k_X12_isEvent.1, decode cX12_isEvent q.1 = .ok q.2 := by decide +kernel
theorem me_X12_isEvent (g : gl_T) : MT g yX12_isEvent cX12_isEvent 2 (some .boolean) ⟨0, 0, 0, 0⟩ 0 0 s_X12_isEvent := by
  intro hl
  exact eg_met_of (k := k_X12_isEvent) (by decide) rfl ⟨Nat.le_refl _, Nat.le_refl _⟩ rfl sz_X12_isEvent de_X12_isEvent (fun meth hn => (fc (eg_FL_of wd_c12 (by decide) lf_RX12_241 (fun h => absurd h (by decide))) (fn))) (fun A s H hE => (fn)) (fun p e s m args below meth c Q A ad0 N0 S0 hK hEx hA => (fn)) (fun p e s m args below meth c Qc XC A ad0 N0 P S0 hK hEx hA hlk hout hPX => (fn)) (fun argv M Qp h => T_X12_isEvent h)

def k_X12_back : eg_C := ([(0, .aload_n 0, 1), (1, .iconst 0, 1), (2, .putfield 213, 3), (5, .aload_n 0, 1), (6, .iload_n 1, 1), (7, .invokevirtual 248, 3), (10, .ifCond .ne 9, 3), (13, .aload_n 0, 1), (14, .iconst 1, 1), (15, .invokevirtual 251, 3), (18, .ireturn, 1), (19, .aload_n 0, 1), (20, .getfield 83, 3), (23, .iload_n 1, 1), (24, .iaload, 1), (25, .iconst (-1), 1), (26, .if_icmp .eq 5, 3), (29, .iconst 0, 1), (30, .ireturn, 1), (31, .aload_n 0, 1), (32, .getfield 83, 3), (35, .iload_n 1, 1), (36, .aload_n 0, 1), (37, .getfield 234, 3), (40, .iastore, 1), (41, .iconst 1, 1), (42, .ireturn, 1)], [(83, 12, 21, false), (213, 12, 1, true), (234, 12, 2, false)], [], [(248, 1 + 1, 0, 0, s_X12_isEvent), (251, 1 + 1, 0, 0, s_X12_refuse)], [], 2, 0, 0)
def s_X12_back : eg_S := eg_auto wd k_X12_back 2 (some 12) 29
theorem mk_X12_back : ∀ q ∈ k_X12_back.2.2.2.1, eg_mono q.2.2.2.2 := (fc (mo_X12_isEvent) (fc (mo_X12_refuse) (fn)))
theorem mo_X12_back : eg_mono s_X12_back := eg_auto_mono mk_X12_back
theorem de_X12_back : ∀ q ∈ k_X12_back.1, decode cX12_back q.1 = .ok q.2 := by decide +kernel
theorem me_X12_back (g : gl_T) : MT g yX12_back cX12_back 2 (some .boolean) ⟨1, 0, 0, 21⟩ 0 0 s_X12_back := by
  intro hl
  exact eg_met_of (k := k_X12_back) (by decide) rfl ⟨Nat.le_refl _, Nat.le_refl _⟩ rfl eg_auto_len de_X12_back (fun meth hn => (fc (eg_FL_of wd_c12 (by decide) lf_RX12_83 (fun h => absurd h (by decide))) (fc (eg_FL_of wd_c12 (by decide) lf_RX12_213 (fun _ => Or.inl rfl)) (fc (eg_FL_of wd_c12 (by decide) lf_RX12_234 (fun h => absurd h (by decide))) (fn))))) (fun A s H hE => (fn)) (fun p e s m args below meth c Q A ad0 N0 S0 hK hEx hA => (fc (mt_V hl S0 hK hEx hA (me_X12_isEvent g) lm_RX12_248 li_X12_isEvent lx_X12_isEvent ln_RX12 lc_X12_isEvent ⟨rfl, by decide, by decide, by decide +kernel⟩ ⟨rfl, rfl⟩ ⟨by decide, by decide⟩ (ci := 12) rfl rfl sr_X12_isEvent (by decide)) (fc (mt_V hl S0 hK hEx hA (me_X12_refuse g) lm_RX12_251 li_X12_refuse lx_X12_refuse ln_RX12 lc_X12_refuse ⟨rfl, by decide, by decide, by decide +kernel⟩ ⟨rfl, rfl⟩ ⟨by decide, by decide⟩ (ci := 12) rfl rfl eg_auto_rec (by decide)) (fn)))) (fun p e s m args below meth c Qc XC A ad0 N0 P S0 hK hEx hA hlk hout hPX => (fn)) (fun argv M Qp h => eg_auto_T mk_X12_back h)

def k_X12_byteAt : eg_C := ([(0, .iload_n 1, 1), (1, .aload_n 0, 1), (2, .getfield 257, 3), (5, .if_icmp .ge 12, 3), (8, .aload_n 0, 1), (9, .getfield 86, 3), (12, .iload_n 1, 1), (13, .iaload, 1), (14, .goto 4, 3), (17, .iconst (-1), 1), (18, .ireturn, 1)], [(86, 12, 22, false), (257, 12, 25, false)], [], [], [], 1, 0, 0)
theorem mk_X12_byteAt : ∀ q ∈ k_X12_byteAt.2.2.2.1, eg_mono q.2.2.2.2 := (fn)
def s_X12_byteAt : eg_S := fun argv M Qp => match argv with
  | [.ref 121, .int a] => (((¬ (eg_gi M 121 25) ≤ a) → vp_in a 400)) ∧ Qp (.inl (some (.int (if (eg_gi M 121 25) ≤ a then (-nI 1) else (eg_gi M 139 a.toNatClampNeg))))) M
  | _ => False
theorem mo_X12_byteAt : eg_mono s_X12_byteAt := by
  intro argv M Q Q' h
  unfold s_X12_byteAt
  split
  · exact fun z => ⟨z.1, h _ _ z.2⟩
  · exact id
theorem sz_X12_byteAt : ∀ argv M Qp, s_X12_byteAt argv M Qp → (eg_ls0 argv).length ≤ 2 := by
  intro argv M Qp h
  unfold s_X12_byteAt at h
  split at h
  · exact Nat.le_of_ble_eq_true rfl
  · exact h.elim
theorem sr_X12_byteAt : ∀ argv M Qp, s_X12_byteAt argv M Qp → ∃ p0 As, argv = .ref p0 :: As ∧ eg_isO wd M p0 12 = true := by
  intro argv M Qp h
  unfold s_X12_byteAt at h
  split at h
  · exact ⟨_, _, rfl, rfl⟩
  · exact h.elim
set_option maxRecDepth 100000 in
theorem T_X12_byteAt {argv : List Value} {M : eg_M} {Qp : eg_P} (h : s_X12_byteAt argv M Qp) : eg_T wd k_X12_byteAt Qp 0 0 0 (eg_lsN 2 argv) [] M := by
  unfold s_X12_byteAt at h
  split at h
  · rename_i a
    obtain ⟨hp, hq⟩ := h
    refine eg_T_run mk_X12_byteAt (cut := []) 16 ?_
    refine And.intro (fun (c1 : (eg_gi M 121 25) ≤ a) => ?_) (fun (c1 : ¬ (eg_gi M 121 25) ≤ a) => ?_)
    · skip
      refine And.intro (fun z => absurd z (by decide)) ?_
      show Qp (.inl (some (.int (-nI 1)))) M
      rw [if_pos c1] at hq
      exact hq
    · skip
      refine And.intro (show vp_in a 400 from ?_) ?_
      · exact hp c1
      refine And.intro (fun z => absurd z (by decide)) ?_
      show Qp (.inl (some (.int (eg_gi M 139 a.toNatClampNeg)))) M
      rw [if_neg c1] at hq
      exact hq
  · exact h.elim
theorem de_X12_byteAt : ∀ q ∈ k_X12_byteAt.1, decode cX12_byteAt q.1 = .ok q.2 := by decide +kernel
theorem me_X12_byteAt (g : gl_T) : MT g yX12_byteAt cX12_byteAt 2 (some .int) ⟨0, 0, 0, 0⟩ 0 0 s_X12_byteAt := by
  intro hl
  exact eg_met_of (k := k_X12_byteAt) (by decide) rfl ⟨Nat.le_refl _, Nat.le_refl _⟩ rfl sz_X12_byteAt de_X12_byteAt (fun meth hn => (fc (eg_FL_of wd_c12 (by decide) lf_RX12_86 (fun h => absurd h (by decide))) (fc (eg_FL_of wd_c12 (by decide) lf_RX12_257 (fun h => absurd h (by decide))) (fn)))) (fun A s H hE => (fn)) (fun p e s m args below meth c Q A ad0 N0 S0 hK hEx hA => (fn)) (fun p e s m args below meth c Qc XC A ad0 N0 P S0 hK hEx hA hlk hout hPX => (fn)) (fun argv M Qp h => T_X12_byteAt h)

def k_X12_isLetter : eg_C := ([(0, .iload_n 0, 1), (1, .bipush 97, 2), (3, .if_icmp .lt 13, 3), (6, .iload_n 0, 1), (7, .bipush 122, 2), (9, .if_icmp .gt 7, 3), (12, .iconst 1, 1), (13, .goto 4, 3), (16, .iconst 0, 1), (17, .ireturn, 1)], [], [], [], [], 2, 0, 0)
theorem mk_X12_isLetter : ∀ q ∈ k_X12_isLetter.2.2.2.1, eg_mono q.2.2.2.2 := (fn)
def s_X12_isLetter : eg_S := fun argv M Qp => match argv with
  | [.int a] => (True) ∧ Qp (.inl (some (.int (b2i (decide (¬ a < (nI 97) ∧ ¬ (nI 122) < a)))))) M
  | _ => False
theorem mo_X12_isLetter : eg_mono s_X12_isLetter := by
  intro argv M Q Q' h
  unfold s_X12_isLetter
  split
  · exact fun z => ⟨z.1, h _ _ z.2⟩
  · exact id
theorem sz_X12_isLetter : ∀ argv M Qp, s_X12_isLetter argv M Qp → (eg_ls0 argv).length ≤ 1 := by
  intro argv M Qp h
  unfold s_X12_isLetter at h
  split at h
  · exact Nat.le_of_ble_eq_true rfl
  · exact h.elim
set_option maxRecDepth 100000 in
theorem T_X12_isLetter {argv : List Value} {M : eg_M} {Qp : eg_P} (h : s_X12_isLetter argv M Qp) : eg_T wd k_X12_isLetter Qp 0 0 0 (eg_lsN 1 argv) [] M := by
  unfold s_X12_isLetter at h
  split at h
  · rename_i a
    obtain ⟨hp, hq⟩ := h
    refine eg_T_run mk_X12_isLetter (cut := []) 15 ?_
    refine And.intro (fun (c1 : a < (nI 97)) => ?_) (fun (c1 : ¬ a < (nI 97)) => ?_)
    · skip
      refine And.intro (fun _ => (show (nI 0) = 0 ∨ (nI 0) = 1 from ?_)) ?_
      · exact Or.inl rfl
      show Qp (.inl (some (.int (nI 0)))) M
      rw [show (decide (¬ a < (nI 97) ∧ ¬ (nI 122) < a)) = false from decide_eq_false (by grind)] at hq
      exact hq
    · skip
      refine And.intro (fun (c2 : (nI 122) < a) => ?_) (fun (c2 : ¬ (nI 122) < a) => ?_)
      · skip
        refine And.intro (fun _ => (show (nI 0) = 0 ∨ (nI 0) = 1 from ?_)) ?_
        · exact Or.inl rfl
        show Qp (.inl (some (.int (nI 0)))) M
        rw [show (decide (¬ a < (nI 97) ∧ ¬ (nI 122) < a)) = false from decide_eq_false (by grind)] at hq
        exact hq
      · skip
        refine And.intro (fun _ => (show (nI 1) = 0 ∨ (nI 1) = 1 from ?_)) ?_
        · exact Or.inr rfl
        show Qp (.inl (some (.int (nI 1)))) M
        rw [show (decide (¬ a < (nI 97) ∧ ¬ (nI 122) < a)) = true from decide_eq_true (by grind)] at hq
        exact hq
  · exact h.elim
theorem de_X12_isLetter : ∀ q ∈ k_X12_isLetter.1, decode cX12_isLetter q.1 = .ok q.2 := by decide +kernel
theorem me_X12_isLetter (g : gl_T) : MT g yX12_isLetter cX12_isLetter 1 (some .boolean) ⟨0, 0, 0, 0⟩ 0 0 s_X12_isLetter := by
  intro hl
  exact eg_met_of (k := k_X12_isLetter) (by decide) rfl ⟨Nat.le_refl _, Nat.le_refl _⟩ rfl sz_X12_isLetter de_X12_isLetter (fun meth hn => (fn)) (fun A s H hE => (fn)) (fun p e s m args below meth c Q A ad0 N0 S0 hK hEx hA => (fn)) (fun p e s m args below meth c Qc XC A ad0 N0 P S0 hK hEx hA hlk hout hPX => (fn)) (fun argv M Qp h => T_X12_isLetter h)

def k_X12_isDigit : eg_C := ([(0, .iload_n 0, 1), (1, .bipush 48, 2), (3, .if_icmp .lt 13, 3), (6, .iload_n 0, 1), (7, .bipush 57, 2), (9, .if_icmp .gt 7, 3), (12, .iconst 1, 1), (13, .goto 4, 3), (16, .iconst 0, 1), (17, .ireturn, 1)], [], [], [], [], 2, 0, 0)
theorem mk_X12_isDigit : ∀ q ∈ k_X12_isDigit.2.2.2.1, eg_mono q.2.2.2.2 := (fn)
def s_X12_isDigit : eg_S := fun argv M Qp => match argv with
  | [.int a] => (True) ∧ Qp (.inl (some (.int (b2i (decide (¬ a < (nI 48) ∧ ¬ (nI 57) < a)))))) M
  | _ => False
theorem mo_X12_isDigit : eg_mono s_X12_isDigit := by
  intro argv M Q Q' h
  unfold s_X12_isDigit
  split
  · exact fun z => ⟨z.1, h _ _ z.2⟩
  · exact id
theorem sz_X12_isDigit : ∀ argv M Qp, s_X12_isDigit argv M Qp → (eg_ls0 argv).length ≤ 1 := by
  intro argv M Qp h
  unfold s_X12_isDigit at h
  split at h
  · exact Nat.le_of_ble_eq_true rfl
  · exact h.elim
set_option maxRecDepth 100000 in
theorem T_X12_isDigit {argv : List Value} {M : eg_M} {Qp : eg_P} (h : s_X12_isDigit argv M Qp) : eg_T wd k_X12_isDigit Qp 0 0 0 (eg_lsN 1 argv) [] M := by
  unfold s_X12_isDigit at h
  split at h
  · rename_i a
    obtain ⟨hp, hq⟩ := h
    refine eg_T_run mk_X12_isDigit (cut := []) 15 ?_
    refine And.intro (fun (c1 : a < (nI 48)) => ?_) (fun (c1 : ¬ a < (nI 48)) => ?_)
    · skip
      refine And.intro (fun _ => (show (nI 0) = 0 ∨ (nI 0) = 1 from ?_)) ?_
      · exact Or.inl rfl
      show Qp (.inl (some (.int (nI 0)))) M
      rw [show (decide (¬ a < (nI 48) ∧ ¬ (nI 57) < a)) = false from decide_eq_false (by grind)] at hq
      exact hq
    · skip
      refine And.intro (fun (c2 : (nI 57) < a) => ?_) (fun (c2 : ¬ (nI 57) < a) => ?_)
      · skip
        refine And.intro (fun _ => (show (nI 0) = 0 ∨ (nI 0) = 1 from ?_)) ?_
        · exact Or.inl rfl
        show Qp (.inl (some (.int (nI 0)))) M
        rw [show (decide (¬ a < (nI 48) ∧ ¬ (nI 57) < a)) = false from decide_eq_false (by grind)] at hq
        exact hq
      · skip
        refine And.intro (fun _ => (show (nI 1) = 0 ∨ (nI 1) = 1 from ?_)) ?_
        · exact Or.inr rfl
        show Qp (.inl (some (.int (nI 1)))) M
        rw [show (decide (¬ a < (nI 48) ∧ ¬ (nI 57) < a)) = true from decide_eq_true (by grind)] at hq
        exact hq
  · exact h.elim
theorem de_X12_isDigit : ∀ q ∈ k_X12_isDigit.1, decode cX12_isDigit q.1 = .ok q.2 := by decide +kernel
theorem me_X12_isDigit (g : gl_T) : MT g yX12_isDigit cX12_isDigit 1 (some .boolean) ⟨0, 0, 0, 0⟩ 0 0 s_X12_isDigit := by
  intro hl
  exact eg_met_of (k := k_X12_isDigit) (by decide) rfl ⟨Nat.le_refl _, Nat.le_refl _⟩ rfl sz_X12_isDigit de_X12_isDigit (fun meth hn => (fn)) (fun A s H hE => (fn)) (fun p e s m args below meth c Q A ad0 N0 S0 hK hEx hA => (fn)) (fun p e s m args below meth c Qc XC A ad0 N0 P S0 hK hEx hA hlk hout hPX => (fn)) (fun argv M Qp h => T_X12_isDigit h)

def k_X12_wrong : eg_C := ([(0, .aload_n 0, 1), (1, .getfield 294, 3), (4, .ifCond .eq 4, 3), (7, .return_, 1), (8, .aload_n 0, 1), (9, .iload_n 1, 1), (10, .putfield 294, 3), (13, .aload_n 0, 1), (14, .aload_n 0, 1), (15, .getfield 266, 3), (18, .putfield 297, 3), (21, .return_, 1)], [(266, 12, 29, false), (294, 12, 31, true), (297, 12, 32, true)], [], [], [], 0, 0, 0)
def s_X12_wrong : eg_S := eg_auto wd k_X12_wrong 2 (some 12) 14
theorem mk_X12_wrong : ∀ q ∈ k_X12_wrong.2.2.2.1, eg_mono q.2.2.2.2 := (fn)
theorem mo_X12_wrong : eg_mono s_X12_wrong := eg_auto_mono mk_X12_wrong
theorem de_X12_wrong : ∀ q ∈ k_X12_wrong.1, decode cX12_wrong q.1 = .ok q.2 := by decide +kernel
theorem me_X12_wrong (g : gl_T) : MT g yX12_wrong cX12_wrong 2 none ⟨0, 0, 0, 0⟩ 0 0 s_X12_wrong := by
  intro hl
  exact eg_met_of (k := k_X12_wrong) (by decide) rfl ⟨Nat.le_refl _, Nat.le_refl _⟩ rfl eg_auto_len de_X12_wrong (fun meth hn => (fc (eg_FL_of wd_c12 (by decide) lf_RX12_266 (fun h => absurd h (by decide))) (fc (eg_FL_of wd_c12 (by decide) lf_RX12_294 (fun _ => Or.inl rfl)) (fc (eg_FL_of wd_c12 (by decide) lf_RX12_297 (fun _ => Or.inl rfl)) (fn))))) (fun A s H hE => (fn)) (fun p e s m args below meth c Q A ad0 N0 S0 hK hEx hA => (fn)) (fun p e s m args below meth c Qc XC A ad0 N0 P S0 hK hEx hA hlk hout hPX => (fn)) (fun argv M Qp h => eg_auto_T mk_X12_wrong h)

def k_X12_isSign : eg_C := ([(0, .aload_n 0, 1), (1, .getfield 294, 3), (4, .ifCond .ne 23, 3), (7, .aload_n 0, 1), (8, .getfield 272, 3), (11, .iconst 3, 1), (12, .if_icmp .ne 15, 3), (15, .aload_n 0, 1), (16, .getfield 269, 3), (19, .iload_n 1, 1), (20, .if_icmp .ne 7, 3), (23, .iconst 1, 1), (24, .goto 4, 3), (27, .iconst 0, 1), (28, .ireturn, 1)], [(269, 12, 27, false), (272, 12, 26, false), (294, 12, 31, false)], [], [], [], 2, 0, 0)
theorem mk_X12_isSign : ∀ q ∈ k_X12_isSign.2.2.2.1, eg_mono q.2.2.2.2 := (fn)
def s_X12_isSign : eg_S := fun argv M Qp => match argv with
  | [.ref 121, .int a] => (True) ∧ Qp (.inl (some (.int (b2i (decide ((eg_gi M 121 31) = 0 ∧ ((eg_gi M 121 26) = (nI 3) ∧ (eg_gi M 121 27) = a))))))) M
  | _ => False
theorem mo_X12_isSign : eg_mono s_X12_isSign := by
  intro argv M Q Q' h
  unfold s_X12_isSign
  split
  · exact fun z => ⟨z.1, h _ _ z.2⟩
  · exact id
theorem sz_X12_isSign : ∀ argv M Qp, s_X12_isSign argv M Qp → (eg_ls0 argv).length ≤ 2 := by
  intro argv M Qp h
  unfold s_X12_isSign at h
  split at h
  · exact Nat.le_of_ble_eq_true rfl
  · exact h.elim
theorem sr_X12_isSign : ∀ argv M Qp, s_X12_isSign argv M Qp → ∃ p0 As, argv = .ref p0 :: As ∧ eg_isO wd M p0 12 = true := by
  intro argv M Qp h
  unfold s_X12_isSign at h
  split at h
  · exact ⟨_, _, rfl, rfl⟩
  · exact h.elim
set_option maxRecDepth 100000 in
theorem T_X12_isSign {argv : List Value} {M : eg_M} {Qp : eg_P} (h : s_X12_isSign argv M Qp) : eg_T wd k_X12_isSign Qp 0 0 0 (eg_lsN 2 argv) [] M := by
  unfold s_X12_isSign at h
  split at h
  · rename_i a
    obtain ⟨hp, hq⟩ := h
    refine eg_T_run mk_X12_isSign (cut := []) 20 ?_
    refine And.intro (fun (c1 : (eg_gi M 121 31) = 0) => ?_) (fun (c1 : ¬ (eg_gi M 121 31) = 0) => ?_)
    · skip
      refine And.intro (fun (c2 : (eg_gi M 121 26) = (nI 3)) => ?_) (fun (c2 : ¬ (eg_gi M 121 26) = (nI 3)) => ?_)
      · skip
        refine And.intro (fun (c3 : (eg_gi M 121 27) = a) => ?_) (fun (c3 : ¬ (eg_gi M 121 27) = a) => ?_)
        · skip
          refine And.intro (fun _ => (show (nI 1) = 0 ∨ (nI 1) = 1 from ?_)) ?_
          · exact Or.inr rfl
          show Qp (.inl (some (.int (nI 1)))) M
          rw [show (decide ((eg_gi M 121 31) = 0 ∧ ((eg_gi M 121 26) = (nI 3) ∧ (eg_gi M 121 27) = a))) = true from decide_eq_true (by grind)] at hq
          exact hq
        · skip
          refine And.intro (fun _ => (show (nI 0) = 0 ∨ (nI 0) = 1 from ?_)) ?_
          · exact Or.inl rfl
          show Qp (.inl (some (.int (nI 0)))) M
          rw [show (decide ((eg_gi M 121 31) = 0 ∧ ((eg_gi M 121 26) = (nI 3) ∧ (eg_gi M 121 27) = a))) = false from decide_eq_false (by grind)] at hq
          exact hq
      · skip
        refine And.intro (fun _ => (show (nI 0) = 0 ∨ (nI 0) = 1 from ?_)) ?_
        · exact Or.inl rfl
        show Qp (.inl (some (.int (nI 0)))) M
        rw [show (decide ((eg_gi M 121 31) = 0 ∧ ((eg_gi M 121 26) = (nI 3) ∧ (eg_gi M 121 27) = a))) = false from decide_eq_false (by grind)] at hq
        exact hq
    · skip
      refine And.intro (fun _ => (show (nI 0) = 0 ∨ (nI 0) = 1 from ?_)) ?_
      · exact Or.inl rfl
      show Qp (.inl (some (.int (nI 0)))) M
      rw [show (decide ((eg_gi M 121 31) = 0 ∧ ((eg_gi M 121 26) = (nI 3) ∧ (eg_gi M 121 27) = a))) = false from decide_eq_false (by grind)] at hq
      exact hq
  · exact h.elim
theorem de_X12_isSign : ∀ q ∈ k_X12_isSign.1, decode cX12_isSign q.1 = .ok q.2 := by decide +kernel
theorem me_X12_isSign (g : gl_T) : MT g yX12_isSign cX12_isSign 2 (some .boolean) ⟨0, 0, 0, 0⟩ 0 0 s_X12_isSign := by
  intro hl
  exact eg_met_of (k := k_X12_isSign) (by decide) rfl ⟨Nat.le_refl _, Nat.le_refl _⟩ rfl sz_X12_isSign de_X12_isSign (fun meth hn => (fc (eg_FL_of wd_c12 (by decide) lf_RX12_269 (fun h => absurd h (by decide))) (fc (eg_FL_of wd_c12 (by decide) lf_RX12_272 (fun h => absurd h (by decide))) (fc (eg_FL_of wd_c12 (by decide) lf_RX12_294 (fun h => absurd h (by decide))) (fn))))) (fun A s H hE => (fn)) (fun p e s m args below meth c Q A ad0 N0 S0 hK hEx hA => (fn)) (fun p e s m args below meth c Qc XC A ad0 N0 P S0 hK hEx hA hlk hout hPX => (fn)) (fun argv M Qp h => T_X12_isSign h)

def k_X12_emit : eg_C := ([(0, .aload_n 0, 1), (1, .getfield 294, 3), (4, .ifCond .eq 4, 3), (7, .return_, 1), (8, .aload_n 0, 1), (9, .getfield 117, 3), (12, .sipush 640, 3), (15, .iload_n 1, 1), (16, .imul, 1), (17, .aload_n 0, 1), (18, .getfield 318, 3), (21, .iadd, 1), (22, .iload_n 2, 1), (23, .iastore, 1), (24, .aload_n 0, 1), (25, .dup, 1), (26, .getfield 318, 3), (29, .iconst 1, 1), (30, .iadd, 1), (31, .putfield 318, 3), (34, .return_, 1)], [(117, 12, 44, false), (294, 12, 31, false), (318, 12, 34, true)], [], [], [], 0, 0, 0)
def s_X12_emit : eg_S := eg_auto wd k_X12_emit 3 (some 12) 23
theorem mk_X12_emit : ∀ q ∈ k_X12_emit.2.2.2.1, eg_mono q.2.2.2.2 := (fn)
theorem mo_X12_emit : eg_mono s_X12_emit := eg_auto_mono mk_X12_emit
theorem de_X12_emit : ∀ q ∈ k_X12_emit.1, decode cX12_emit q.1 = .ok q.2 := by decide +kernel
theorem me_X12_emit (g : gl_T) : MT g yX12_emit cX12_emit 3 none ⟨0, 0, 0, 0⟩ 0 0 s_X12_emit := by
  intro hl
  exact eg_met_of (k := k_X12_emit) (by decide) rfl ⟨Nat.le_refl _, Nat.le_refl _⟩ rfl eg_auto_len de_X12_emit (fun meth hn => (fc (eg_FL_of wd_c12 (by decide) lf_RX12_117 (fun h => absurd h (by decide))) (fc (eg_FL_of wd_c12 (by decide) lf_RX12_294 (fun h => absurd h (by decide))) (fc (eg_FL_of wd_c12 (by decide) lf_RX12_318 (fun _ => Or.inl rfl)) (fn))))) (fun A s H hE => (fn)) (fun p e s m args below meth c Q A ad0 N0 S0 hK hEx hA => (fn)) (fun p e s m args below meth c Qc XC A ad0 N0 P S0 hK hEx hA hlk hout hPX => (fn)) (fun argv M Qp h => eg_auto_T mk_X12_emit h)

def k_X12_fault : eg_C := ([(0, .aload_n 0, 1), (1, .iconst 0, 1), (2, .putfield 213, 3), (5, .aload_n 0, 1), (6, .getfield 89, 3), (9, .ireturn, 1)], [(89, 12, 33, false), (213, 12, 1, true)], [], [], [], 1, 0, 0)
def s_X12_fault : eg_S := eg_auto wd k_X12_fault 1 (some 12) 8
theorem mk_X12_fault : ∀ q ∈ k_X12_fault.2.2.2.1, eg_mono q.2.2.2.2 := (fn)
theorem mo_X12_fault : eg_mono s_X12_fault := eg_auto_mono mk_X12_fault
theorem de_X12_fault : ∀ q ∈ k_X12_fault.1, decode cX12_fault q.1 = .ok q.2 := by decide +kernel
theorem me_X12_fault (g : gl_T) : MT g yX12_fault cX12_fault 1 (some .int) ⟨0, 0, 0, 0⟩ 0 0 s_X12_fault := by
  intro hl
  exact eg_met_of (k := k_X12_fault) (by decide) rfl ⟨Nat.le_refl _, Nat.le_refl _⟩ rfl eg_auto_len de_X12_fault (fun meth hn => (fc (eg_FL_of wd_c12 (by decide) lf_RX12_89 (fun h => absurd h (by decide))) (fc (eg_FL_of wd_c12 (by decide) lf_RX12_213 (fun _ => Or.inl rfl)) (fn)))) (fun A s H hE => (fn)) (fun p e s m args below meth c Q A ad0 N0 S0 hK hEx hA => (fn)) (fun p e s m args below meth c Qc XC A ad0 N0 P S0 hK hEx hA hlk hout hPX => (fn)) (fun argv M Qp h => eg_auto_T mk_X12_fault h)

def k_X12_isKnown : eg_C := ([(0, .aload_n 0, 1), (1, .getfield 80, 3), (4, .iload_n 1, 1), (5, .iaload, 1), (6, .iload_n 2, 1), (7, .if_icmp .gt 27, 3), (10, .aload_n 0, 1), (11, .getfield 83, 3), (14, .iload_n 1, 1), (15, .iaload, 1), (16, .iconst (-1), 1), (17, .if_icmp .eq 13, 3), (20, .aload_n 0, 1), (21, .getfield 83, 3), (24, .iload_n 1, 1), (25, .iaload, 1), (26, .iload_n 2, 1), (27, .if_icmp .le 7, 3), (30, .iconst 1, 1), (31, .goto 4, 3), (34, .iconst 0, 1), (35, .ireturn, 1)], [(80, 12, 20, false), (83, 12, 21, false)], [], [], [], 2, 0, 0)
theorem mk_X12_isKnown : ∀ q ∈ k_X12_isKnown.2.2.2.1, eg_mono q.2.2.2.2 := (fn)
def s_X12_isKnown : eg_S := fun argv M Qp => match argv with
  | [.ref 121, .int a, .int b] => ((vp_in a 200)) ∧ Qp (.inl (some (.int (b2i (decide (¬ b < (eg_gi M 137 a.toNatClampNeg) ∧ ((eg_gi M 138 a.toNatClampNeg) = (-nI 1) ∨ ¬ (eg_gi M 138 a.toNatClampNeg) ≤ b))))))) M
  | _ => False
theorem mo_X12_isKnown : eg_mono s_X12_isKnown := by
  intro argv M Q Q' h
  unfold s_X12_isKnown
  split
  · exact fun z => ⟨z.1, h _ _ z.2⟩
  · exact id
theorem sz_X12_isKnown : ∀ argv M Qp, s_X12_isKnown argv M Qp → (eg_ls0 argv).length ≤ 3 := by
  intro argv M Qp h
  unfold s_X12_isKnown at h
  split at h
  · exact Nat.le_of_ble_eq_true rfl
  · exact h.elim
theorem sr_X12_isKnown : ∀ argv M Qp, s_X12_isKnown argv M Qp → ∃ p0 As, argv = .ref p0 :: As ∧ eg_isO wd M p0 12 = true := by
  intro argv M Qp h
  unfold s_X12_isKnown at h
  split at h
  · exact ⟨_, _, rfl, rfl⟩
  · exact h.elim
set_option maxRecDepth 100000 in
theorem T_X12_isKnown {argv : List Value} {M : eg_M} {Qp : eg_P} (h : s_X12_isKnown argv M Qp) : eg_T wd k_X12_isKnown Qp 0 0 0 (eg_lsN 3 argv) [] M := by
  unfold s_X12_isKnown at h
  split at h
  · rename_i a b
    obtain ⟨hp, hq⟩ := h
    refine eg_T_run mk_X12_isKnown (cut := []) 27 ?_
    refine And.intro (show vp_in a 200 from ?_) ?_
    · exact hp
    refine And.intro (fun (c1 : b < (eg_gi M 137 a.toNatClampNeg)) => ?_) (fun (c1 : ¬ b < (eg_gi M 137 a.toNatClampNeg)) => ?_)
    · skip
      refine And.intro (fun _ => (show (nI 0) = 0 ∨ (nI 0) = 1 from ?_)) ?_
      · exact Or.inl rfl
      show Qp (.inl (some (.int (nI 0)))) M
      rw [show (decide (¬ b < (eg_gi M 137 a.toNatClampNeg) ∧ ((eg_gi M 138 a.toNatClampNeg) = (-nI 1) ∨ ¬ (eg_gi M 138 a.toNatClampNeg) ≤ b))) = false from decide_eq_false (by grind)] at hq
      exact hq
    · skip
      refine And.intro (show vp_in a 200 from ?_) ?_
      · exact hp
      refine And.intro (fun (c2 : (eg_gi M 138 a.toNatClampNeg) = (-nI 1)) => ?_) (fun (c2 : ¬ (eg_gi M 138 a.toNatClampNeg) = (-nI 1)) => ?_)
      · skip
        refine And.intro (fun _ => (show (nI 1) = 0 ∨ (nI 1) = 1 from ?_)) ?_
        · exact Or.inr rfl
        show Qp (.inl (some (.int (nI 1)))) M
        rw [show (decide (¬ b < (eg_gi M 137 a.toNatClampNeg) ∧ ((eg_gi M 138 a.toNatClampNeg) = (-nI 1) ∨ ¬ (eg_gi M 138 a.toNatClampNeg) ≤ b))) = true from decide_eq_true (by grind)] at hq
        exact hq
      · skip
        refine And.intro (show vp_in a 200 from ?_) ?_
        · exact hp
        refine And.intro (fun (c3 : (eg_gi M 138 a.toNatClampNeg) ≤ b) => ?_) (fun (c3 : ¬ (eg_gi M 138 a.toNatClampNeg) ≤ b) => ?_)
        · skip
          refine And.intro (fun _ => (show (nI 0) = 0 ∨ (nI 0) = 1 from ?_)) ?_
          · exact Or.inl rfl
          show Qp (.inl (some (.int (nI 0)))) M
          rw [show (decide (¬ b < (eg_gi M 137 a.toNatClampNeg) ∧ ((eg_gi M 138 a.toNatClampNeg) = (-nI 1) ∨ ¬ (eg_gi M 138 a.toNatClampNeg) ≤ b))) = false from decide_eq_false (by grind)] at hq
          exact hq
        · skip
          refine And.intro (fun _ => (show (nI 1) = 0 ∨ (nI 1) = 1 from ?_)) ?_
          · exact Or.inr rfl
          show Qp (.inl (some (.int (nI 1)))) M
          rw [show (decide (¬ b < (eg_gi M 137 a.toNatClampNeg) ∧ ((eg_gi M 138 a.toNatClampNeg) = (-nI 1) ∨ ¬ (eg_gi M 138 a.toNatClampNeg) ≤ b))) = true from decide_eq_true (by grind)] at hq
          exact hq
  · exact h.elim
theorem de_X12_isKnown : ∀ q ∈ k_X12_isKnown.1, decode cX12_isKnown q.1 = .ok q.2 := by decide +kernel
theorem me_X12_isKnown (g : gl_T) : MT g yX12_isKnown cX12_isKnown 3 (some .boolean) ⟨0, 0, 0, 0⟩ 0 0 s_X12_isKnown := by
  intro hl
  exact eg_met_of (k := k_X12_isKnown) (by decide) rfl ⟨Nat.le_refl _, Nat.le_refl _⟩ rfl sz_X12_isKnown de_X12_isKnown (fun meth hn => (fc (eg_FL_of wd_c12 (by decide) lf_RX12_80 (fun h => absurd h (by decide))) (fc (eg_FL_of wd_c12 (by decide) lf_RX12_83 (fun h => absurd h (by decide))) (fn)))) (fun A s H hE => (fn)) (fun p e s m args below meth c Q A ad0 N0 S0 hK hEx hA => (fn)) (fun p e s m args below meth c Qc XC A ad0 N0 P S0 hK hEx hA hlk hout hPX => (fn)) (fun argv M Qp h => T_X12_isKnown h)

def k_X12_isDay : eg_C := ([(0, .iload_n 1, 1), (1, .iconst 0, 1), (2, .sipush 3599, 3), (5, .invokestatic 219, 3), (8, .ireturn, 1)], [], [], [(219 + 100000, 3, 0, 0, s_X12_isIn)], [], 2, 0, 0)
theorem mk_X12_isDay : ∀ q ∈ k_X12_isDay.2.2.2.1, eg_mono q.2.2.2.2 := (fc (mo_X12_isIn) (fn))
def s_X12_isDay : eg_S := fun argv M Qp => match argv with
  | [.ref 121, .int a] => (True) ∧ Qp (.inl (some (.int (b2i (decide (¬ a < (nI 0) ∧ ¬ (nI 3599) < a)))))) M
  | _ => False
theorem mo_X12_isDay : eg_mono s_X12_isDay := by
  intro argv M Q Q' h
  unfold s_X12_isDay
  split
  · exact fun z => ⟨z.1, h _ _ z.2⟩
  · exact id
theorem sz_X12_isDay : ∀ argv M Qp, s_X12_isDay argv M Qp → (eg_ls0 argv).length ≤ 2 := by
  intro argv M Qp h
  unfold s_X12_isDay at h
  split at h
  · exact Nat.le_of_ble_eq_true rfl
  · exact h.elim
theorem sr_X12_isDay : ∀ argv M Qp, s_X12_isDay argv M Qp → ∃ p0 As, argv = .ref p0 :: As ∧ eg_isO wd M p0 12 = true := by
  intro argv M Qp h
  unfold s_X12_isDay at h
  split at h
  · exact ⟨_, _, rfl, rfl⟩
  · exact h.elim
set_option maxRecDepth 100000 in
theorem T_X12_isDay {argv : List Value} {M : eg_M} {Qp : eg_P} (h : s_X12_isDay argv M Qp) : eg_T wd k_X12_isDay Qp 0 0 0 (eg_lsN 2 argv) [] M := by
  unfold s_X12_isDay at h
  split at h
  · rename_i a
    obtain ⟨hp, hq⟩ := h
    refine eg_T_run mk_X12_isDay (cut := []) 10 ?_
    refine And.intro (show (True) from ?_) ?_
    · exact trivial
    refine And.intro (fun _ => (show (b2i (decide (¬ a < (nI 0) ∧ ¬ (nI 3599) < a))) = 0 ∨ (b2i (decide (¬ a < (nI 0) ∧ ¬ (nI 3599) < a))) = 1 from ?_)) ?_
    · exact b2i_01 _
    show Qp (.inl (some (.int (b2i (decide (¬ a < (nI 0) ∧ ¬ (nI 3599) < a)))))) M
    rw [show (decide (¬ a < (nI 0) ∧ ¬ (nI 3599) < a)) = decide (¬ a < (nI 0) ∧ ¬ (nI 3599) < a) from decide_eq_decide.mpr (by grind)] at hq
    exact hq
  · exact h.elim
theorem de_X12_isDay : ∀ q ∈ k_X12_isDay.1, decode cX12_isDay q.1 = .ok q.2 := by decide +kernel
theorem me_X12_isDay (g : gl_T) : MT g yX12_isDay cX12_isDay 2 (some .boolean) ⟨1, 0, 0, 22⟩ 0 0 s_X12_isDay := by
  intro hl
  exact eg_met_of (k := k_X12_isDay) (by decide) rfl ⟨Nat.le_refl _, Nat.le_refl _⟩ rfl sz_X12_isDay de_X12_isDay (fun meth hn => (fn)) (fun A s H hE => (fn)) (fun p e s m args below meth c Q A ad0 N0 S0 hK hEx hA => (fc (mt_S hl S0 hK hEx hA (me_X12_isIn g) lm_RX12_219 ls_X12_isIn ln_RX12 lc_X12_isIn ⟨rfl, by decide, by decide, by decide +kernel⟩ ⟨rfl, rfl⟩ ⟨by decide, by decide⟩ (by decide)) (fn))) (fun p e s m args below meth c Qc XC A ad0 N0 P S0 hK hEx hA hlk hout hPX => (fn)) (fun argv M Qp h => T_X12_isDay h)

def k_X12_isOf : eg_C := ([(0, .aload_n 0, 1), (1, .getfield 59, 3), (4, .aload_n 0, 1), (5, .getfield 127, 3), (8, .iload_n 1, 1), (9, .iaload, 1), (10, .iaload, 1), (11, .iconst 1, 1), (12, .if_icmp .ne 26, 3), (15, .aload_n 0, 1), (16, .getfield 77, 3), (19, .aload_n 0, 1), (20, .getfield 127, 3), (23, .iload_n 1, 1), (24, .iaload, 1), (25, .iaload, 1), (26, .sipush 360, 3), (29, .idiv, 1), (30, .iload_n 2, 1), (31, .if_icmp .ne 7, 3), (34, .iconst 1, 1), (35, .goto 4, 3), (38, .iconst 0, 1), (39, .ireturn, 1)], [(59, 12, 13, false), (77, 12, 19, false), (127, 12, 48, false)], [], [], [], 2, 0, 0)
theorem mk_X12_isOf : ∀ q ∈ k_X12_isOf.2.2.2.1, eg_mono q.2.2.2.2 := (fn)
def s_X12_isOf : eg_S := fun argv M Qp => match argv with
  | [.ref 121, .int a, .int b] => ((vp_in a 200) ∧ (vp_in (eg_gi M 151 a.toNatClampNeg) 200)) ∧ Qp (.inl (some (.int (b2i (decide ((eg_gi M 130 (eg_gi M 151 a.toNatClampNeg).toNatClampNeg) = (nI 1) ∧ ((eg_gi M 136 (eg_gi M 151 a.toNatClampNeg).toNatClampNeg) / (nI 360)) = b)))))) M
  | _ => False
theorem mo_X12_isOf : eg_mono s_X12_isOf := by
  intro argv M Q Q' h
  unfold s_X12_isOf
  split
  · exact fun z => ⟨z.1, h _ _ z.2⟩
  · exact id
theorem sz_X12_isOf : ∀ argv M Qp, s_X12_isOf argv M Qp → (eg_ls0 argv).length ≤ 3 := by
  intro argv M Qp h
  unfold s_X12_isOf at h
  split at h
  · exact Nat.le_of_ble_eq_true rfl
  · exact h.elim
theorem sr_X12_isOf : ∀ argv M Qp, s_X12_isOf argv M Qp → ∃ p0 As, argv = .ref p0 :: As ∧ eg_isO wd M p0 12 = true := by
  intro argv M Qp h
  unfold s_X12_isOf at h
  split at h
  · exact ⟨_, _, rfl, rfl⟩
  · exact h.elim
set_option maxRecDepth 100000 in
theorem T_X12_isOf {argv : List Value} {M : eg_M} {Qp : eg_P} (h : s_X12_isOf argv M Qp) : eg_T wd k_X12_isOf Qp 0 0 0 (eg_lsN 3 argv) [] M := by
  unfold s_X12_isOf at h
  split at h
  · rename_i a b
    obtain ⟨hp, hq⟩ := h
    refine eg_T_run mk_X12_isOf (cut := []) 29 ?_
    refine And.intro (show vp_in a 200 from ?_) ?_
    · exact hp.1
    refine And.intro (show vp_in (eg_gi M 151 a.toNatClampNeg) 200 from ?_) ?_
    · exact hp.2
    refine And.intro (fun (c1 : (eg_gi M 130 (eg_gi M 151 a.toNatClampNeg).toNatClampNeg) = (nI 1)) => ?_) (fun (c1 : ¬ (eg_gi M 130 (eg_gi M 151 a.toNatClampNeg).toNatClampNeg) = (nI 1)) => ?_)
    · skip
      refine And.intro (show vp_in a 200 from ?_) ?_
      · exact hp.1
      refine And.intro (show vp_in (eg_gi M 151 a.toNatClampNeg) 200 from ?_) ?_
      · exact hp.2
      refine And.intro (show ¬ (nI 360) = 0 from ?_) ?_
      · decide
      refine And.intro (fun (c2 : ((eg_gi M 136 (eg_gi M 151 a.toNatClampNeg).toNatClampNeg) / (nI 360)) = b) => ?_) (fun (c2 : ¬ ((eg_gi M 136 (eg_gi M 151 a.toNatClampNeg).toNatClampNeg) / (nI 360)) = b) => ?_)
      · skip
        refine And.intro (fun _ => (show (nI 1) = 0 ∨ (nI 1) = 1 from ?_)) ?_
        · exact Or.inr rfl
        show Qp (.inl (some (.int (nI 1)))) M
        rw [show (decide ((eg_gi M 130 (eg_gi M 151 a.toNatClampNeg).toNatClampNeg) = (nI 1) ∧ ((eg_gi M 136 (eg_gi M 151 a.toNatClampNeg).toNatClampNeg) / (nI 360)) = b)) = true from decide_eq_true (by grind)] at hq
        exact hq
      · skip
        refine And.intro (fun _ => (show (nI 0) = 0 ∨ (nI 0) = 1 from ?_)) ?_
        · exact Or.inl rfl
        show Qp (.inl (some (.int (nI 0)))) M
        rw [show (decide ((eg_gi M 130 (eg_gi M 151 a.toNatClampNeg).toNatClampNeg) = (nI 1) ∧ ((eg_gi M 136 (eg_gi M 151 a.toNatClampNeg).toNatClampNeg) / (nI 360)) = b)) = false from decide_eq_false (by grind)] at hq
        exact hq
    · skip
      refine And.intro (fun _ => (show (nI 0) = 0 ∨ (nI 0) = 1 from ?_)) ?_
      · exact Or.inl rfl
      show Qp (.inl (some (.int (nI 0)))) M
      rw [show (decide ((eg_gi M 130 (eg_gi M 151 a.toNatClampNeg).toNatClampNeg) = (nI 1) ∧ ((eg_gi M 136 (eg_gi M 151 a.toNatClampNeg).toNatClampNeg) / (nI 360)) = b)) = false from decide_eq_false (by grind)] at hq
      exact hq
  · exact h.elim
theorem de_X12_isOf : ∀ q ∈ k_X12_isOf.1, decode cX12_isOf q.1 = .ok q.2 := by decide +kernel
theorem me_X12_isOf (g : gl_T) : MT g yX12_isOf cX12_isOf 3 (some .boolean) ⟨0, 0, 0, 0⟩ 0 0 s_X12_isOf := by
  intro hl
  exact eg_met_of (k := k_X12_isOf) (by decide) rfl ⟨Nat.le_refl _, Nat.le_refl _⟩ rfl sz_X12_isOf de_X12_isOf (fun meth hn => (fc (eg_FL_of wd_c12 (by decide) lf_RX12_59 (fun h => absurd h (by decide))) (fc (eg_FL_of wd_c12 (by decide) lf_RX12_77 (fun h => absurd h (by decide))) (fc (eg_FL_of wd_c12 (by decide) lf_RX12_127 (fun h => absurd h (by decide))) (fn))))) (fun A s H hE => (fn)) (fun p e s m args below meth c Q A ad0 N0 S0 hK hEx hA => (fn)) (fun p e s m args below meth c Qc XC A ad0 N0 P S0 hK hEx hA hlk hout hPX => (fn)) (fun argv M Qp h => T_X12_isOf h)

def k_X12_empty : eg_C := ([(0, .aload_n 0, 1), (1, .iconst 0, 1), (2, .putfield 213, 3), (5, .aload_n 0, 1), (6, .iconst 0, 1), (7, .putfield 457, 3), (10, .aload_n 0, 1), (11, .iconst 0, 1), (12, .putfield 460, 3), (15, .return_, 1)], [(213, 12, 1, true), (457, 12, 52, true), (460, 12, 53, true)], [], [], [], 0, 0, 0)
def s_X12_empty : eg_S := eg_auto wd k_X12_empty 1 (some 12) 12
theorem mk_X12_empty : ∀ q ∈ k_X12_empty.2.2.2.1, eg_mono q.2.2.2.2 := (fn)
theorem mo_X12_empty : eg_mono s_X12_empty := eg_auto_mono mk_X12_empty
theorem de_X12_empty : ∀ q ∈ k_X12_empty.1, decode cX12_empty q.1 = .ok q.2 := by decide +kernel
theorem me_X12_empty (g : gl_T) : MT g yX12_empty cX12_empty 1 none ⟨0, 0, 0, 0⟩ 0 0 s_X12_empty := by
  intro hl
  exact eg_met_of (k := k_X12_empty) (by decide) rfl ⟨Nat.le_refl _, Nat.le_refl _⟩ rfl eg_auto_len de_X12_empty (fun meth hn => (fc (eg_FL_of wd_c12 (by decide) lf_RX12_213 (fun _ => Or.inl rfl)) (fc (eg_FL_of wd_c12 (by decide) lf_RX12_457 (fun _ => Or.inl rfl)) (fc (eg_FL_of wd_c12 (by decide) lf_RX12_460 (fun _ => Or.inl rfl)) (fn))))) (fun A s H hE => (fn)) (fun p e s m args below meth c Q A ad0 N0 S0 hK hEx hA => (fn)) (fun p e s m args below meth c Qc XC A ad0 N0 P S0 hK hEx hA hlk hout hPX => (fn)) (fun argv M Qp h => eg_auto_T mk_X12_empty h)

def k_X12_home : eg_C := ([(0, .aload_n 0, 1), (1, .iconst 0, 1), (2, .putfield 213, 3), (5, .aload_n 0, 1), (6, .getfield 457, 3), (9, .bipush 6, 2), (11, .if_icmp .eq 34, 3), (14, .iload_n 1, 1), (15, .iconst 1, 1), (16, .iconst 4, 1), (17, .invokestatic 219, 3), (20, .ifCond .eq 25, 3), (23, .iload_n 2, 1), (24, .iconst 0, 1), (25, .sipush 255, 3), (28, .invokestatic 219, 3), (31, .ifCond .eq 14, 3), (34, .iload 4, 2), (36, .iconst 0, 1), (37, .bipush 99, 2), (39, .invokestatic 219, 3), (42, .ifCond .ne 5, 3), (45, .iconst (-1), 1), (46, .ireturn, 1), (47, .aload_n 0, 1), (48, .getfield 142, 3), (51, .aload_n 0, 1), (52, .getfield 457, 3), (55, .iload_n 1, 1), (56, .iastore, 1), (57, .aload_n 0, 1), (58, .getfield 145, 3), (61, .aload_n 0, 1), (62, .getfield 457, 3), (65, .iload_n 2, 1), (66, .iastore, 1), (67, .aload_n 0, 1), (68, .getfield 164, 3), (71, .aload_n 0, 1), (72, .getfield 457, 3), (75, .iload_n 3, 1), (76, .bastore, 1), (77, .aload_n 0, 1), (78, .getfield 148, 3), (81, .aload_n 0, 1), (82, .getfield 457, 3), (85, .iload 4, 2), (87, .iastore, 1), (88, .aload_n 0, 1), (89, .dup, 1), (90, .getfield 457, 3), (93, .iconst 1, 1), (94, .iadd, 1), (95, .putfield 457, 3), (98, .aload_n 0, 1), (99, .getfield 457, 3), (102, .iconst 1, 1), (103, .isub, 1), (104, .ireturn, 1)], [(142, 12, 56, false), (145, 12, 57, false), (148, 12, 58, false), (164, 12, 63, false), (213, 12, 1, true), (457, 12, 52, true)], [], [(219 + 100000, 3, 0, 0, s_X12_isIn)], [], 1, 0, 0)
def s_X12_home : eg_S := eg_auto wd k_X12_home 5 (some 12) 61
theorem mk_X12_home : ∀ q ∈ k_X12_home.2.2.2.1, eg_mono q.2.2.2.2 := (fc (mo_X12_isIn) (fn))
theorem mo_X12_home : eg_mono s_X12_home := eg_auto_mono mk_X12_home
theorem de_X12_home : ∀ q ∈ k_X12_home.1, decode cX12_home q.1 = .ok q.2 := by decide +kernel
theorem me_X12_home (g : gl_T) : MT g yX12_home cX12_home 5 (some .int) ⟨1, 0, 0, 22⟩ 0 0 s_X12_home := by
  intro hl
  exact eg_met_of (k := k_X12_home) (by decide) rfl ⟨Nat.le_refl _, Nat.le_refl _⟩ rfl eg_auto_len de_X12_home (fun meth hn => (fc (eg_FL_of wd_c12 (by decide) lf_RX12_142 (fun h => absurd h (by decide))) (fc (eg_FL_of wd_c12 (by decide) lf_RX12_145 (fun h => absurd h (by decide))) (fc (eg_FL_of wd_c12 (by decide) lf_RX12_148 (fun h => absurd h (by decide))) (fc (eg_FL_of wd_c12 (by decide) lf_RX12_164 (fun h => absurd h (by decide))) (fc (eg_FL_of wd_c12 (by decide) lf_RX12_213 (fun _ => Or.inl rfl)) (fc (eg_FL_of wd_c12 (by decide) lf_RX12_457 (fun _ => Or.inl rfl)) (fn)))))))) (fun A s H hE => (fn)) (fun p e s m args below meth c Q A ad0 N0 S0 hK hEx hA => (fc (mt_S hl S0 hK hEx hA (me_X12_isIn g) lm_RX12_219 ls_X12_isIn ln_RX12 lc_X12_isIn ⟨rfl, by decide, by decide, by decide +kernel⟩ ⟨rfl, rfl⟩ ⟨by decide, by decide⟩ (by decide)) (fn))) (fun p e s m args below meth c Qc XC A ad0 N0 P S0 hK hEx hA hlk hout hPX => (fn)) (fun argv M Qp h => eg_auto_T mk_X12_home h)

def k_X12_guest : eg_C := ([(0, .aload_n 0, 1), (1, .iconst 0, 1), (2, .putfield 213, 3), (5, .aload_n 0, 1), (6, .getfield 460, 3), (9, .bipush 8, 2), (11, .if_icmp .eq 24, 3), (14, .iload_n 1, 1), (15, .iconst 0, 1), (16, .sipush 255, 3), (19, .invokestatic 219, 3), (22, .ifCond .eq 13, 3), (25, .iload_n 2, 1), (26, .iconst 0, 1), (27, .bipush 99, 2), (29, .invokestatic 219, 3), (32, .ifCond .ne 5, 3), (35, .iconst (-1), 1), (36, .ireturn, 1), (37, .aload_n 0, 1), (38, .getfield 151, 3), (41, .aload_n 0, 1), (42, .getfield 460, 3), (45, .iload_n 1, 1), (46, .iastore, 1), (47, .aload_n 0, 1), (48, .getfield 154, 3), (51, .aload_n 0, 1), (52, .getfield 460, 3), (55, .iload_n 2, 1), (56, .iastore, 1), (57, .aload_n 0, 1), (58, .getfield 168, 3), (61, .aload_n 0, 1), (62, .getfield 460, 3), (65, .iload_n 3, 1), (66, .bastore, 1), (67, .aload_n 0, 1), (68, .dup, 1), (69, .getfield 460, 3), (72, .iconst 1, 1), (73, .iadd, 1), (74, .putfield 460, 3), (77, .aload_n 0, 1), (78, .getfield 460, 3), (81, .iconst 1, 1), (82, .isub, 1), (83, .ireturn, 1)], [(151, 12, 59, false), (154, 12, 60, false), (168, 12, 64, false), (213, 12, 1, true), (460, 12, 53, true)], [], [(219 + 100000, 3, 0, 0, s_X12_isIn)], [], 1, 0, 0)
def s_X12_guest : eg_S := eg_auto wd k_X12_guest 4 (some 12) 50
theorem mk_X12_guest : ∀ q ∈ k_X12_guest.2.2.2.1, eg_mono q.2.2.2.2 := (fc (mo_X12_isIn) (fn))
theorem mo_X12_guest : eg_mono s_X12_guest := eg_auto_mono mk_X12_guest
theorem de_X12_guest : ∀ q ∈ k_X12_guest.1, decode cX12_guest q.1 = .ok q.2 := by decide +kernel
theorem me_X12_guest (g : gl_T) : MT g yX12_guest cX12_guest 4 (some .int) ⟨1, 0, 0, 22⟩ 0 0 s_X12_guest := by
  intro hl
  exact eg_met_of (k := k_X12_guest) (by decide) rfl ⟨Nat.le_refl _, Nat.le_refl _⟩ rfl eg_auto_len de_X12_guest (fun meth hn => (fc (eg_FL_of wd_c12 (by decide) lf_RX12_151 (fun h => absurd h (by decide))) (fc (eg_FL_of wd_c12 (by decide) lf_RX12_154 (fun h => absurd h (by decide))) (fc (eg_FL_of wd_c12 (by decide) lf_RX12_168 (fun h => absurd h (by decide))) (fc (eg_FL_of wd_c12 (by decide) lf_RX12_213 (fun _ => Or.inl rfl)) (fc (eg_FL_of wd_c12 (by decide) lf_RX12_460 (fun _ => Or.inl rfl)) (fn))))))) (fun A s H hE => (fn)) (fun p e s m args below meth c Q A ad0 N0 S0 hK hEx hA => (fc (mt_S hl S0 hK hEx hA (me_X12_isIn g) lm_RX12_219 ls_X12_isIn ln_RX12 lc_X12_isIn ⟨rfl, by decide, by decide, by decide +kernel⟩ ⟨rfl, rfl⟩ ⟨by decide, by decide⟩ (by decide)) (fn))) (fun p e s m args below meth c Qc XC A ad0 N0 P S0 hK hEx hA hlk hout hPX => (fn)) (fun argv M Qp h => eg_auto_T mk_X12_guest h)

def k_X12_lodged : eg_C := ([(0, .aload_n 0, 1), (1, .iconst 0, 1), (2, .putfield 213, 3), (5, .aload_n 0, 1), (6, .getfield 139, 3), (9, .iconst (-1), 1), (10, .if_icmp .eq 16, 3), (13, .iload_n 1, 1), (14, .iconst (-1), 1), (15, .if_icmp .lt 11, 3), (18, .iload_n 1, 1), (19, .aload_n 0, 1), (20, .getfield 139, 3), (23, .if_icmp .lt 9, 3), (26, .aload_n 0, 1), (27, .iconst 1, 1), (28, .invokevirtual 230, 3), (31, .ireturn, 1), (32, .iload_n 1, 1), (33, .iconst (-1), 1), (34, .if_icmp .ne 11, 3), (37, .aload_n 0, 1), (38, .getfield 474, 3), (41, .l2i, 1), (42, .goto 9, 3), (45, .aload_n 0, 1), (46, .getfield 157, 3), (49, .iload_n 1, 1), (50, .iaload, 1), (51, .ireturn, 1)], [(139, 12, 54, false), (157, 12, 61, false), (213, 12, 1, true), (474, 12, 55, false)], [], [(230, 1 + 1, 0, 0, s_X12_fail)], [], 1, 0, 0)
def s_X12_lodged : eg_S := eg_auto wd k_X12_lodged 2 (some 12) 32
theorem mk_X12_lodged : ∀ q ∈ k_X12_lodged.2.2.2.1, eg_mono q.2.2.2.2 := (fc (mo_X12_fail) (fn))
theorem mo_X12_lodged : eg_mono s_X12_lodged := eg_auto_mono mk_X12_lodged
theorem de_X12_lodged : ∀ q ∈ k_X12_lodged.1, decode cX12_lodged q.1 = .ok q.2 := by decide +kernel
theorem me_X12_lodged (g : gl_T) : MT g yX12_lodged cX12_lodged 2 (some .int) ⟨1, 0, 0, 21⟩ 0 0 s_X12_lodged := by
  intro hl
  exact eg_met_of (k := k_X12_lodged) (by decide) rfl ⟨Nat.le_refl _, Nat.le_refl _⟩ rfl eg_auto_len de_X12_lodged (fun meth hn => (fc (eg_FL_of wd_c12 (by decide) lf_RX12_139 (fun h => absurd h (by decide))) (fc (eg_FL_of wd_c12 (by decide) lf_RX12_157 (fun h => absurd h (by decide))) (fc (eg_FL_of wd_c12 (by decide) lf_RX12_213 (fun _ => Or.inl rfl)) (fc (eg_FL_of wd_c12 (by decide) lf_RX12_474 (fun h => absurd h (by decide))) (fn)))))) (fun A s H hE => (fn)) (fun p e s m args below meth c Q A ad0 N0 S0 hK hEx hA => (fc (mt_V hl S0 hK hEx hA (me_X12_fail g) lm_RX12_230 li_X12_fail lx_X12_fail ln_RX12 lc_X12_fail ⟨rfl, by decide, by decide, by decide +kernel⟩ ⟨rfl, rfl⟩ ⟨by decide, by decide⟩ (ci := 12) rfl rfl eg_auto_rec (by decide)) (fn))) (fun p e s m args below meth c Qc XC A ad0 N0 P S0 hK hEx hA hlk hout hPX => (fn)) (fun argv M Qp h => eg_auto_T mk_X12_lodged h)

def k_X12_clear : eg_C := ([(0, .aload_n 0, 1), (1, .iconst 0, 1), (2, .putfield 213, 3), (5, .aload_n 0, 1), (6, .iconst 0, 1), (7, .putfield 478, 3), (10, .return_, 1)], [(213, 12, 1, true), (478, 12, 65, true)], [], [], [], 0, 0, 0)
def s_X12_clear : eg_S := eg_auto wd k_X12_clear 1 (some 12) 9
theorem mk_X12_clear : ∀ q ∈ k_X12_clear.2.2.2.1, eg_mono q.2.2.2.2 := (fn)
theorem mo_X12_clear : eg_mono s_X12_clear := eg_auto_mono mk_X12_clear
theorem de_X12_clear : ∀ q ∈ k_X12_clear.1, decode cX12_clear q.1 = .ok q.2 := by decide +kernel
theorem me_X12_clear (g : gl_T) : MT g yX12_clear cX12_clear 1 none ⟨0, 0, 0, 0⟩ 0 0 s_X12_clear := by
  intro hl
  exact eg_met_of (k := k_X12_clear) (by decide) rfl ⟨Nat.le_refl _, Nat.le_refl _⟩ rfl eg_auto_len de_X12_clear (fun meth hn => (fc (eg_FL_of wd_c12 (by decide) lf_RX12_213 (fun _ => Or.inl rfl)) (fc (eg_FL_of wd_c12 (by decide) lf_RX12_478 (fun _ => Or.inl rfl)) (fn)))) (fun A s H hE => (fn)) (fun p e s m args below meth c Q A ad0 N0 S0 hK hEx hA => (fn)) (fun p e s m args below meth c Qc XC A ad0 N0 P S0 hK hEx hA hlk hout hPX => (fn)) (fun argv M Qp h => eg_auto_T mk_X12_clear h)

def k_X12_planned : eg_C := ([(0, .aload_n 0, 1), (1, .iconst 0, 1), (2, .putfield 213, 3), (5, .aload_n 0, 1), (6, .getfield 171, 3), (9, .iconst (-1), 1), (10, .if_icmp .eq 16, 3), (13, .iload_n 1, 1), (14, .iconst (-1), 1), (15, .if_icmp .lt 11, 3), (18, .iload_n 1, 1), (19, .aload_n 0, 1), (20, .getfield 171, 3), (23, .if_icmp .lt 9, 3), (26, .aload_n 0, 1), (27, .iconst 1, 1), (28, .invokevirtual 230, 3), (31, .ireturn, 1), (32, .iload_n 1, 1), (33, .iconst (-1), 1), (34, .if_icmp .ne 10, 3), (37, .aload_n 0, 1), (38, .getfield 489, 3), (41, .goto 9, 3), (44, .aload_n 0, 1), (45, .getfield 186, 3), (48, .iload_n 1, 1), (49, .iaload, 1), (50, .ireturn, 1)], [(171, 12, 66, false), (186, 12, 72, false), (213, 12, 1, true), (489, 12, 67, false)], [], [(230, 1 + 1, 0, 0, s_X12_fail)], [], 1, 0, 0)
def s_X12_planned : eg_S := eg_auto wd k_X12_planned 2 (some 12) 31
theorem mk_X12_planned : ∀ q ∈ k_X12_planned.2.2.2.1, eg_mono q.2.2.2.2 := (fc (mo_X12_fail) (fn))
theorem mo_X12_planned : eg_mono s_X12_planned := eg_auto_mono mk_X12_planned
theorem de_X12_planned : ∀ q ∈ k_X12_planned.1, decode cX12_planned q.1 = .ok q.2 := by decide +kernel
theorem me_X12_planned (g : gl_T) : MT g yX12_planned cX12_planned 2 (some .int) ⟨1, 0, 0, 21⟩ 0 0 s_X12_planned := by
  intro hl
  exact eg_met_of (k := k_X12_planned) (by decide) rfl ⟨Nat.le_refl _, Nat.le_refl _⟩ rfl eg_auto_len de_X12_planned (fun meth hn => (fc (eg_FL_of wd_c12 (by decide) lf_RX12_171 (fun h => absurd h (by decide))) (fc (eg_FL_of wd_c12 (by decide) lf_RX12_186 (fun h => absurd h (by decide))) (fc (eg_FL_of wd_c12 (by decide) lf_RX12_213 (fun _ => Or.inl rfl)) (fc (eg_FL_of wd_c12 (by decide) lf_RX12_489 (fun h => absurd h (by decide))) (fn)))))) (fun A s H hE => (fn)) (fun p e s m args below meth c Q A ad0 N0 S0 hK hEx hA => (fc (mt_V hl S0 hK hEx hA (me_X12_fail g) lm_RX12_230 li_X12_fail lx_X12_fail ln_RX12 lc_X12_fail ⟨rfl, by decide, by decide, by decide +kernel⟩ ⟨rfl, rfl⟩ ⟨by decide, by decide⟩ (ci := 12) rfl rfl eg_auto_rec (by decide)) (fn))) (fun p e s m args below meth c Qc XC A ad0 N0 P S0 hK hEx hA hlk hout hPX => (fn)) (fun argv M Qp h => eg_auto_T mk_X12_planned h)

def k_X12_friend : eg_C := ([(0, .aload_n 0, 1), (1, .iconst 0, 1), (2, .putfield 213, 3), (5, .aload_n 0, 1), (6, .iload_n 1, 1), (7, .invokevirtual 226, 3), (10, .ifCond .ne 9, 3), (13, .aload_n 0, 1), (14, .iconst 1, 1), (15, .invokevirtual 230, 3), (18, .ireturn, 1), (19, .aload_n 0, 1), (20, .getfield 520, 3), (23, .ifCond .eq 12, 3), (26, .aload_n 0, 1), (27, .getfield 204, 3), (30, .iload_n 1, 1), (31, .iaload, 1), (32, .goto 4, 3), (35, .iconst (-1), 1), (36, .ireturn, 1)], [(204, 12, 78, false), (213, 12, 1, true), (520, 12, 83, false)], [], [(226, 1 + 1, 0, 0, s_X12_isTown), (230, 1 + 1, 0, 0, s_X12_fail)], [], 1, 0, 0)
def s_X12_friend : eg_S := eg_auto wd k_X12_friend 2 (some 12) 23
theorem mk_X12_friend : ∀ q ∈ k_X12_friend.2.2.2.1, eg_mono q.2.2.2.2 := (fc (mo_X12_isTown) (fc (mo_X12_fail) (fn)))
theorem mo_X12_friend : eg_mono s_X12_friend := eg_auto_mono mk_X12_friend
theorem de_X12_friend : ∀ q ∈ k_X12_friend.1, decode cX12_friend q.1 = .ok q.2 := by decide +kernel
theorem me_X12_friend (g : gl_T) : MT g yX12_friend cX12_friend 2 (some .int) ⟨1, 0, 0, 21⟩ 0 0 s_X12_friend := by
  intro hl
  exact eg_met_of (k := k_X12_friend) (by decide) rfl ⟨Nat.le_refl _, Nat.le_refl _⟩ rfl eg_auto_len de_X12_friend (fun meth hn => (fc (eg_FL_of wd_c12 (by decide) lf_RX12_204 (fun h => absurd h (by decide))) (fc (eg_FL_of wd_c12 (by decide) lf_RX12_213 (fun _ => Or.inl rfl)) (fc (eg_FL_of wd_c12 (by decide) lf_RX12_520 (fun h => absurd h (by decide))) (fn))))) (fun A s H hE => (fn)) (fun p e s m args below meth c Q A ad0 N0 S0 hK hEx hA => (fc (mt_V hl S0 hK hEx hA (me_X12_isTown g) lm_RX12_226 li_X12_isTown lx_X12_isTown ln_RX12 lc_X12_isTown ⟨rfl, by decide, by decide, by decide +kernel⟩ ⟨rfl, rfl⟩ ⟨by decide, by decide⟩ (ci := 12) rfl rfl sr_X12_isTown (by decide)) (fc (mt_V hl S0 hK hEx hA (me_X12_fail g) lm_RX12_230 li_X12_fail lx_X12_fail ln_RX12 lc_X12_fail ⟨rfl, by decide, by decide, by decide +kernel⟩ ⟨rfl, rfl⟩ ⟨by decide, by decide⟩ (ci := 12) rfl rfl eg_auto_rec (by decide)) (fn)))) (fun p e s m args below meth c Qc XC A ad0 N0 P S0 hK hEx hA hlk hout hPX => (fn)) (fun argv M Qp h => eg_auto_T mk_X12_friend h)

def k_X12_count : eg_C := ([(0, .aload_n 0, 1), (1, .iconst 0, 1), (2, .putfield 213, 3), (5, .iload_n 1, 1), (6, .tableswitch 95 0 8 #[50, 55, 60, 65, 70, 75, 80, 85, 90], 50), (56, .aload_n 0, 1), (57, .getfield 234, 3), (60, .ireturn, 1), (61, .aload_n 0, 1), (62, .getfield 216, 3), (65, .ireturn, 1), (66, .aload_n 0, 1), (67, .getfield 223, 3), (70, .ireturn, 1), (71, .aload_n 0, 1), (72, .getfield 241, 3), (75, .ireturn, 1), (76, .aload_n 0, 1), (77, .getfield 457, 3), (80, .ireturn, 1), (81, .aload_n 0, 1), (82, .getfield 460, 3), (85, .ireturn, 1), (86, .aload_n 0, 1), (87, .getfield 478, 3), (90, .ireturn, 1), (91, .aload_n 0, 1), (92, .getfield 369, 3), (95, .ireturn, 1), (96, .aload_n 0, 1), (97, .getfield 254, 3), (100, .ireturn, 1), (101, .aload_n 0, 1), (102, .iconst 1, 1), (103, .invokevirtual 230, 3), (106, .ireturn, 1)], [(213, 12, 1, true), (216, 12, 3, false), (223, 12, 4, false), (234, 12, 2, false), (241, 12, 5, false), (254, 12, 23, false), (369, 12, 35, false), (457, 12, 52, false), (460, 12, 53, false), (478, 12, 65, false)], [], [(230, 1 + 1, 0, 0, s_X12_fail)], [], 1, 0, 0)
def s_X12_count : eg_S := eg_auto wd k_X12_count 2 (some 12) 38
theorem mk_X12_count : ∀ q ∈ k_X12_count.2.2.2.1, eg_mono q.2.2.2.2 := (fc (mo_X12_fail) (fn))
theorem mo_X12_count : eg_mono s_X12_count := eg_auto_mono mk_X12_count
theorem de_X12_count : ∀ q ∈ k_X12_count.1, decode cX12_count q.1 = .ok q.2 := by decide +kernel
theorem me_X12_count (g : gl_T) : MT g yX12_count cX12_count 2 (some .int) ⟨1, 0, 0, 21⟩ 0 0 s_X12_count := by
  intro hl
  exact eg_met_of (k := k_X12_count) (by decide) rfl ⟨Nat.le_refl _, Nat.le_refl _⟩ rfl eg_auto_len de_X12_count (fun meth hn => (fc (eg_FL_of wd_c12 (by decide) lf_RX12_213 (fun _ => Or.inl rfl)) (fc (eg_FL_of wd_c12 (by decide) lf_RX12_216 (fun h => absurd h (by decide))) (fc (eg_FL_of wd_c12 (by decide) lf_RX12_223 (fun h => absurd h (by decide))) (fc (eg_FL_of wd_c12 (by decide) lf_RX12_234 (fun h => absurd h (by decide))) (fc (eg_FL_of wd_c12 (by decide) lf_RX12_241 (fun h => absurd h (by decide))) (fc (eg_FL_of wd_c12 (by decide) lf_RX12_254 (fun h => absurd h (by decide))) (fc (eg_FL_of wd_c12 (by decide) lf_RX12_369 (fun h => absurd h (by decide))) (fc (eg_FL_of wd_c12 (by decide) lf_RX12_457 (fun h => absurd h (by decide))) (fc (eg_FL_of wd_c12 (by decide) lf_RX12_460 (fun h => absurd h (by decide))) (fc (eg_FL_of wd_c12 (by decide) lf_RX12_478 (fun h => absurd h (by decide))) (fn)))))))))))) (fun A s H hE => (fn)) (fun p e s m args below meth c Q A ad0 N0 S0 hK hEx hA => (fc (mt_V hl S0 hK hEx hA (me_X12_fail g) lm_RX12_230 li_X12_fail lx_X12_fail ln_RX12 lc_X12_fail ⟨rfl, by decide, by decide, by decide +kernel⟩ ⟨rfl, rfl⟩ ⟨by decide, by decide⟩ (ci := 12) rfl rfl eg_auto_rec (by decide)) (fn))) (fun p e s m args below meth c Qc XC A ad0 N0 P S0 hK hEx hA hlk hout hPX => (fn)) (fun argv M Qp h => eg_auto_T mk_X12_count h)

def k_X2_wouldLeave : eg_C := ([(0, .iload_n 2, 1), (1, .iconst (-1), 1), (2, .if_icmp .eq 34, 3), (5, .aload_n 0, 1), (6, .iload_n 1, 1), (7, .iload_n 2, 1), (8, .invokevirtual 71, 3), (11, .ifCond .eq 25, 3), (14, .aload_n 0, 1), (15, .iload_n 1, 1), (16, .iload_n 2, 1), (17, .invokevirtual 78, 3), (20, .ifCond .eq 16, 3), (23, .aload_n 0, 1), (24, .iload_n 2, 1), (25, .iload_n 1, 1), (26, .invokevirtual 78, 3), (29, .ifCond .eq 7, 3), (32, .iconst 1, 1), (33, .goto 4, 3), (36, .iconst 0, 1), (37, .ireturn, 1)], [], [], [(71, 2 + 1, 0, 0, s_X2_areWished), (78, 2 + 1, 0, 0, s_X2_prefers)], [], 2, 0, 0)
theorem mk_X2_wouldLeave : ∀ q ∈ k_X2_wouldLeave.2.2.2.1, eg_mono q.2.2.2.2 := (fc (mo_X2_areWished) (fc (mo_X2_prefers) (fn)))
def s_X2_wouldLeave : eg_S := fun argv M Qp => match argv with
  | [.ref 80, .int a, .int b] => (((¬ b = (-nI 1)) → ((vp_in a 16) ∧ (eg_is wd M (99 + 1 + a.toNatClampNeg) 1 = true) ∧ (vp_in b (eg_len wd M (99 + 1 + a.toNatClampNeg))) ∧ ((¬ (eg_gi M (99 + 1 + a.toNatClampNeg) b.toNatClampNeg) = (-nI 1)) → vp_in b 16) ∧ ((¬ (eg_gi M (99 + 1 + a.toNatClampNeg) b.toNatClampNeg) = (-nI 1)) → eg_is wd M (99 + 1 + b.toNatClampNeg) 1 = true) ∧ ((¬ (eg_gi M (99 + 1 + a.toNatClampNeg) b.toNatClampNeg) = (-nI 1)) → vp_in a (eg_len wd M (99 + 1 + b.toNatClampNeg))))) ∧ ((¬ b = (-nI 1)) → (¬ (b2i (decide (¬ (eg_gi M (99 + 1 + a.toNatClampNeg) b.toNatClampNeg) = (-nI 1) ∧ ¬ (eg_gi M (99 + 1 + b.toNatClampNeg) a.toNatClampNeg) = (-nI 1)))) = 0) → ((vp_in a 16) ∧ ((¬ (eg_gi M 118 a.toNatClampNeg) = (-nI 1)) → eg_is wd M (99 + 1 + a.toNatClampNeg) 1 = true) ∧ ((¬ (eg_gi M 118 a.toNatClampNeg) = (-nI 1)) → vp_in b (eg_len wd M (99 + 1 + a.toNatClampNeg))) ∧ ((¬ (eg_gi M 118 a.toNatClampNeg) = (-nI 1)) → vp_in (eg_gi M 118 a.toNatClampNeg) (eg_len wd M (99 + 1 + a.toNatClampNeg))))) ∧ ((¬ b = (-nI 1)) → (¬ (b2i (decide (¬ (eg_gi M (99 + 1 + a.toNatClampNeg) b.toNatClampNeg) = (-nI 1) ∧ ¬ (eg_gi M (99 + 1 + b.toNatClampNeg) a.toNatClampNeg) = (-nI 1)))) = 0) → (¬ (b2i (decide ((eg_gi M 118 a.toNatClampNeg) = (-nI 1) ∨ ¬ (eg_gi M (99 + 1 + a.toNatClampNeg) (eg_gi M 118 a.toNatClampNeg).toNatClampNeg) ≤ (eg_gi M (99 + 1 + a.toNatClampNeg) b.toNatClampNeg)))) = 0) → ((vp_in b 16) ∧ ((¬ (eg_gi M 118 b.toNatClampNeg) = (-nI 1)) → eg_is wd M (99 + 1 + b.toNatClampNeg) 1 = true) ∧ ((¬ (eg_gi M 118 b.toNatClampNeg) = (-nI 1)) → vp_in a (eg_len wd M (99 + 1 + b.toNatClampNeg))) ∧ ((¬ (eg_gi M 118 b.toNatClampNeg) = (-nI 1)) → vp_in (eg_gi M 118 b.toNatClampNeg) (eg_len wd M (99 + 1 + b.toNatClampNeg)))))) ∧ Qp (.inl (some (.int (b2i (decide (¬ b = (-nI 1) ∧ (¬ (b2i (decide (¬ (eg_gi M (99 + 1 + a.toNatClampNeg) b.toNatClampNeg) = (-nI 1) ∧ ¬ (eg_gi M (99 + 1 + b.toNatClampNeg) a.toNatClampNeg) = (-nI 1)))) = 0 ∧ (¬ (b2i (decide ((eg_gi M 118 a.toNatClampNeg) = (-nI 1) ∨ ¬ (eg_gi M (99 + 1 + a.toNatClampNeg) (eg_gi M 118 a.toNatClampNeg).toNatClampNeg) ≤ (eg_gi M (99 + 1 + a.toNatClampNeg) b.toNatClampNeg)))) = 0 ∧ (¬ (b2i (decide ((eg_gi M 118 b.toNatClampNeg) = (-nI 1) ∨ ¬ (eg_gi M (99 + 1 + b.toNatClampNeg) (eg_gi M 118 b.toNatClampNeg).toNatClampNeg) ≤ (eg_gi M (99 + 1 + b.toNatClampNeg) a.toNatClampNeg)))) = 0))))))))) M
  | _ => False
theorem mo_X2_wouldLeave : eg_mono s_X2_wouldLeave := by
  intro argv M Q Q' h
  unfold s_X2_wouldLeave
  split
  · exact fun z => ⟨z.1, h _ _ z.2⟩
  · exact id
theorem sz_X2_wouldLeave : ∀ argv M Qp, s_X2_wouldLeave argv M Qp → (eg_ls0 argv).length ≤ 3 := by
  intro argv M Qp h
  unfold s_X2_wouldLeave at h
  split at h
  · exact Nat.le_of_ble_eq_true rfl
  · exact h.elim
theorem sr_X2_wouldLeave : ∀ argv M Qp, s_X2_wouldLeave argv M Qp → ∃ p0 As, argv = .ref p0 :: As ∧ eg_isO wd M p0 2 = true := by
  intro argv M Qp h
  unfold s_X2_wouldLeave at h
  split at h
  · exact ⟨_, _, rfl, rfl⟩
  · exact h.elim
set_option maxRecDepth 100000 in
theorem T_X2_wouldLeave {argv : List Value} {M : eg_M} {Qp : eg_P} (h : s_X2_wouldLeave argv M Qp) : eg_T wd k_X2_wouldLeave Qp 0 0 0 (eg_lsN 3 argv) [] M := by
  unfold s_X2_wouldLeave at h
  split at h
  · rename_i a b
    obtain ⟨hp, hq⟩ := h
    refine eg_T_run mk_X2_wouldLeave (cut := []) 27 ?_
    refine And.intro (fun (c1 : b = (-nI 1)) => ?_) (fun (c1 : ¬ b = (-nI 1)) => ?_)
    · skip
      refine And.intro (fun _ => (show (nI 0) = 0 ∨ (nI 0) = 1 from ?_)) ?_
      · exact Or.inl rfl
      show Qp (.inl (some (.int (nI 0)))) M
      rw [show (decide (¬ b = (-nI 1) ∧ (¬ (b2i (decide (¬ (eg_gi M (99 + 1 + a.toNatClampNeg) b.toNatClampNeg) = (-nI 1) ∧ ¬ (eg_gi M (99 + 1 + b.toNatClampNeg) a.toNatClampNeg) = (-nI 1)))) = 0 ∧ (¬ (b2i (decide ((eg_gi M 118 a.toNatClampNeg) = (-nI 1) ∨ ¬ (eg_gi M (99 + 1 + a.toNatClampNeg) (eg_gi M 118 a.toNatClampNeg).toNatClampNeg) ≤ (eg_gi M (99 + 1 + a.toNatClampNeg) b.toNatClampNeg)))) = 0 ∧ (¬ (b2i (decide ((eg_gi M 118 b.toNatClampNeg) = (-nI 1) ∨ ¬ (eg_gi M (99 + 1 + b.toNatClampNeg) (eg_gi M 118 b.toNatClampNeg).toNatClampNeg) ≤ (eg_gi M (99 + 1 + b.toNatClampNeg) a.toNatClampNeg)))) = 0))))) = false from decide_eq_false (by grind)] at hq
      exact hq
    · skip
      refine And.intro (show ((vp_in a 16) ∧ (eg_is wd M (99 + 1 + a.toNatClampNeg) 1 = true) ∧ (vp_in b (eg_len wd M (99 + 1 + a.toNatClampNeg))) ∧ ((¬ (eg_gi M (99 + 1 + a.toNatClampNeg) b.toNatClampNeg) = (-nI 1)) → vp_in b 16) ∧ ((¬ (eg_gi M (99 + 1 + a.toNatClampNeg) b.toNatClampNeg) = (-nI 1)) → eg_is wd M (99 + 1 + b.toNatClampNeg) 1 = true) ∧ ((¬ (eg_gi M (99 + 1 + a.toNatClampNeg) b.toNatClampNeg) = (-nI 1)) → vp_in a (eg_len wd M (99 + 1 + b.toNatClampNeg)))) from ?_) ?_
      · exact hp.1 c1
      refine And.intro (fun (c2 : (b2i (decide (¬ (eg_gi M (99 + 1 + a.toNatClampNeg) b.toNatClampNeg) = (-nI 1) ∧ ¬ (eg_gi M (99 + 1 + b.toNatClampNeg) a.toNatClampNeg) = (-nI 1)))) = 0) => ?_) (fun (c2 : ¬ (b2i (decide (¬ (eg_gi M (99 + 1 + a.toNatClampNeg) b.toNatClampNeg) = (-nI 1) ∧ ¬ (eg_gi M (99 + 1 + b.toNatClampNeg) a.toNatClampNeg) = (-nI 1)))) = 0) => ?_)
      · skip
        refine And.intro (fun _ => (show (nI 0) = 0 ∨ (nI 0) = 1 from ?_)) ?_
        · exact Or.inl rfl
        show Qp (.inl (some (.int (nI 0)))) M
        rw [show (decide (¬ b = (-nI 1) ∧ (¬ (b2i (decide (¬ (eg_gi M (99 + 1 + a.toNatClampNeg) b.toNatClampNeg) = (-nI 1) ∧ ¬ (eg_gi M (99 + 1 + b.toNatClampNeg) a.toNatClampNeg) = (-nI 1)))) = 0 ∧ (¬ (b2i (decide ((eg_gi M 118 a.toNatClampNeg) = (-nI 1) ∨ ¬ (eg_gi M (99 + 1 + a.toNatClampNeg) (eg_gi M 118 a.toNatClampNeg).toNatClampNeg) ≤ (eg_gi M (99 + 1 + a.toNatClampNeg) b.toNatClampNeg)))) = 0 ∧ (¬ (b2i (decide ((eg_gi M 118 b.toNatClampNeg) = (-nI 1) ∨ ¬ (eg_gi M (99 + 1 + b.toNatClampNeg) (eg_gi M 118 b.toNatClampNeg).toNatClampNeg) ≤ (eg_gi M (99 + 1 + b.toNatClampNeg) a.toNatClampNeg)))) = 0))))) = false from decide_eq_false (by grind)] at hq
        exact hq
      · skip
        refine And.intro (show ((vp_in a 16) ∧ ((¬ (eg_gi M 118 a.toNatClampNeg) = (-nI 1)) → eg_is wd M (99 + 1 + a.toNatClampNeg) 1 = true) ∧ ((¬ (eg_gi M 118 a.toNatClampNeg) = (-nI 1)) → vp_in b (eg_len wd M (99 + 1 + a.toNatClampNeg))) ∧ ((¬ (eg_gi M 118 a.toNatClampNeg) = (-nI 1)) → vp_in (eg_gi M 118 a.toNatClampNeg) (eg_len wd M (99 + 1 + a.toNatClampNeg)))) from ?_) ?_
        · exact hp.2.1 c1 c2
        refine And.intro (fun (c3 : (b2i (decide ((eg_gi M 118 a.toNatClampNeg) = (-nI 1) ∨ ¬ (eg_gi M (99 + 1 + a.toNatClampNeg) (eg_gi M 118 a.toNatClampNeg).toNatClampNeg) ≤ (eg_gi M (99 + 1 + a.toNatClampNeg) b.toNatClampNeg)))) = 0) => ?_) (fun (c3 : ¬ (b2i (decide ((eg_gi M 118 a.toNatClampNeg) = (-nI 1) ∨ ¬ (eg_gi M (99 + 1 + a.toNatClampNeg) (eg_gi M 118 a.toNatClampNeg).toNatClampNeg) ≤ (eg_gi M (99 + 1 + a.toNatClampNeg) b.toNatClampNeg)))) = 0) => ?_)
        · skip
          refine And.intro (fun _ => (show (nI 0) = 0 ∨ (nI 0) = 1 from ?_)) ?_
          · exact Or.inl rfl
          show Qp (.inl (some (.int (nI 0)))) M
          rw [show (decide (¬ b = (-nI 1) ∧ (¬ (b2i (decide (¬ (eg_gi M (99 + 1 + a.toNatClampNeg) b.toNatClampNeg) = (-nI 1) ∧ ¬ (eg_gi M (99 + 1 + b.toNatClampNeg) a.toNatClampNeg) = (-nI 1)))) = 0 ∧ (¬ (b2i (decide ((eg_gi M 118 a.toNatClampNeg) = (-nI 1) ∨ ¬ (eg_gi M (99 + 1 + a.toNatClampNeg) (eg_gi M 118 a.toNatClampNeg).toNatClampNeg) ≤ (eg_gi M (99 + 1 + a.toNatClampNeg) b.toNatClampNeg)))) = 0 ∧ (¬ (b2i (decide ((eg_gi M 118 b.toNatClampNeg) = (-nI 1) ∨ ¬ (eg_gi M (99 + 1 + b.toNatClampNeg) (eg_gi M 118 b.toNatClampNeg).toNatClampNeg) ≤ (eg_gi M (99 + 1 + b.toNatClampNeg) a.toNatClampNeg)))) = 0))))) = false from decide_eq_false (by grind)] at hq
          exact hq
        · skip
          refine And.intro (show ((vp_in b 16) ∧ ((¬ (eg_gi M 118 b.toNatClampNeg) = (-nI 1)) → eg_is wd M (99 + 1 + b.toNatClampNeg) 1 = true) ∧ ((¬ (eg_gi M 118 b.toNatClampNeg) = (-nI 1)) → vp_in a (eg_len wd M (99 + 1 + b.toNatClampNeg))) ∧ ((¬ (eg_gi M 118 b.toNatClampNeg) = (-nI 1)) → vp_in (eg_gi M 118 b.toNatClampNeg) (eg_len wd M (99 + 1 + b.toNatClampNeg)))) from ?_) ?_
          · exact hp.2.2 c1 c2 c3
          refine And.intro (fun (c4 : (b2i (decide ((eg_gi M 118 b.toNatClampNeg) = (-nI 1) ∨ ¬ (eg_gi M (99 + 1 + b.toNatClampNeg) (eg_gi M 118 b.toNatClampNeg).toNatClampNeg) ≤ (eg_gi M (99 + 1 + b.toNatClampNeg) a.toNatClampNeg)))) = 0) => ?_) (fun (c4 : ¬ (b2i (decide ((eg_gi M 118 b.toNatClampNeg) = (-nI 1) ∨ ¬ (eg_gi M (99 + 1 + b.toNatClampNeg) (eg_gi M 118 b.toNatClampNeg).toNatClampNeg) ≤ (eg_gi M (99 + 1 + b.toNatClampNeg) a.toNatClampNeg)))) = 0) => ?_)
          · skip
            refine And.intro (fun _ => (show (nI 0) = 0 ∨ (nI 0) = 1 from ?_)) ?_
            · exact Or.inl rfl
            show Qp (.inl (some (.int (nI 0)))) M
            rw [show (decide (¬ b = (-nI 1) ∧ (¬ (b2i (decide (¬ (eg_gi M (99 + 1 + a.toNatClampNeg) b.toNatClampNeg) = (-nI 1) ∧ ¬ (eg_gi M (99 + 1 + b.toNatClampNeg) a.toNatClampNeg) = (-nI 1)))) = 0 ∧ (¬ (b2i (decide ((eg_gi M 118 a.toNatClampNeg) = (-nI 1) ∨ ¬ (eg_gi M (99 + 1 + a.toNatClampNeg) (eg_gi M 118 a.toNatClampNeg).toNatClampNeg) ≤ (eg_gi M (99 + 1 + a.toNatClampNeg) b.toNatClampNeg)))) = 0 ∧ (¬ (b2i (decide ((eg_gi M 118 b.toNatClampNeg) = (-nI 1) ∨ ¬ (eg_gi M (99 + 1 + b.toNatClampNeg) (eg_gi M 118 b.toNatClampNeg).toNatClampNeg) ≤ (eg_gi M (99 + 1 + b.toNatClampNeg) a.toNatClampNeg)))) = 0))))) = false from decide_eq_false (by grind)] at hq
            exact hq
          · skip
            refine And.intro (fun _ => (show (nI 1) = 0 ∨ (nI 1) = 1 from ?_)) ?_
            · exact Or.inr rfl
            show Qp (.inl (some (.int (nI 1)))) M
            rw [show (decide (¬ b = (-nI 1) ∧ (¬ (b2i (decide (¬ (eg_gi M (99 + 1 + a.toNatClampNeg) b.toNatClampNeg) = (-nI 1) ∧ ¬ (eg_gi M (99 + 1 + b.toNatClampNeg) a.toNatClampNeg) = (-nI 1)))) = 0 ∧ (¬ (b2i (decide ((eg_gi M 118 a.toNatClampNeg) = (-nI 1) ∨ ¬ (eg_gi M (99 + 1 + a.toNatClampNeg) (eg_gi M 118 a.toNatClampNeg).toNatClampNeg) ≤ (eg_gi M (99 + 1 + a.toNatClampNeg) b.toNatClampNeg)))) = 0 ∧ (¬ (b2i (decide ((eg_gi M 118 b.toNatClampNeg) = (-nI 1) ∨ ¬ (eg_gi M (99 + 1 + b.toNatClampNeg) (eg_gi M 118 b.toNatClampNeg).toNatClampNeg) ≤ (eg_gi M (99 + 1 + b.toNatClampNeg) a.toNatClampNeg)))) = 0))))) = true from decide_eq_true (by grind)] at hq
            exact hq
  · exact h.elim
theorem de_X2_wouldLeave : ∀ q ∈ k_X2_wouldLeave.1, decode cX2_wouldLeave q.1 = .ok q.2 := by decide +kernel
theorem me_X2_wouldLeave (g : gl_T) : MT g yX2_wouldLeave cX2_wouldLeave 3 (some .boolean) ⟨1, 0, 0, 22⟩ 0 0 s_X2_wouldLeave := by
  intro hl
  exact eg_met_of (k := k_X2_wouldLeave) (by decide) rfl ⟨Nat.le_refl _, Nat.le_refl _⟩ rfl sz_X2_wouldLeave de_X2_wouldLeave (fun meth hn => (fn)) (fun A s H hE => (fn)) (fun p e s m args below meth c Q A ad0 N0 S0 hK hEx hA => (fc (mt_V hl S0 hK hEx hA (me_X2_areWished g) lm_RX2_71 li_X2_areWished lx_X2_areWished ln_RX2 lc_X2_areWished ⟨rfl, by decide, by decide, by decide +kernel⟩ ⟨rfl, rfl⟩ ⟨by decide, by decide⟩ (ci := 2) rfl rfl sr_X2_areWished (by decide)) (fc (mt_V hl S0 hK hEx hA (me_X2_prefers g) lm_RX2_78 li_X2_prefers lx_X2_prefers ln_RX2 lc_X2_prefers ⟨rfl, by decide, by decide, by decide +kernel⟩ ⟨rfl, rfl⟩ ⟨by decide, by decide⟩ (ci := 2) rfl rfl sr_X2_prefers (by decide)) (fn)))) (fun p e s m args below meth c Qc XC A ad0 N0 P S0 hK hEx hA hlk hout hPX => (fn)) (fun argv M Qp h => T_X2_wouldLeave h)

def k_X3_setShared : eg_C := ([(0, .aload_n 0, 1), (1, .getfield 21, 3), (4, .getfield 170, 3), (7, .iload_n 1, 1), (8, .iaload, 1), (9, .istore 4, 2), (11, .aload_n 0, 1), (12, .getfield 21, 3), (15, .getfield 173, 3), (18, .iload_n 1, 1), (19, .iaload, 1), (20, .istore 5, 2), (22, .aload_n 0, 1), (23, .getfield 88, 3), (26, .iconst 3, 1), (27, .aload_n 0, 1), (28, .getfield 12, 3), (31, .iload 4, 2), (33, .iload 5, 2), (35, .invokevirtual 193, 3), (38, .i2l, 1), (39, .lastore, 1), (40, .aload_n 0, 1), (41, .getfield 88, 3), (44, .iconst 5, 1), (45, .aload_n 0, 1), (46, .getfield 12, 3), (49, .iload 4, 2), (51, .iload 5, 2), (53, .invokevirtual 196, 3), (56, .i2l, 1), (57, .lastore, 1), (58, .aload_n 0, 1), (59, .getfield 88, 3), (62, .bipush 7, 2), (64, .iload_n 2, 1), (65, .iload_n 3, 1), (66, .iconst (-1), 1), (67, .if_icmp .ne 15, 3), (70, .aload_n 0, 1), (71, .getfield 21, 3), (74, .getfield 146, 3), (77, .iload_n 1, 1), (78, .iaload, 1), (79, .goto 12, 3), (82, .aload_n 0, 1), (83, .getfield 28, 3), (86, .getfield 123, 3), (89, .iload_n 3, 1), (90, .iaload, 1), (91, .isub, 1), (92, .i2l, 1), (93, .lastore, 1), (94, .aload_n 0, 1), (95, .getfield 88, 3), (98, .bipush 8, 2), (100, .iload_n 2, 1), (101, .aload_n 0, 1), (102, .getfield 21, 3), (105, .getfield 146, 3), (108, .iload_n 1, 1), (109, .iaload, 1), (110, .isub, 1), (111, .i2l, 1), (112, .lastore, 1), (113, .aload_n 0, 1), (114, .getfield 88, 3), (117, .bipush 9, 2), (119, .aload_n 0, 1), (120, .iload_n 3, 1), (121, .invokevirtual 153, 3), (124, .i2l, 1), (125, .lastore, 1), (126, .aload_n 0, 1), (127, .getfield 88, 3), (130, .bipush 10, 2), (132, .iload_n 2, 1), (133, .sipush 360, 3), (136, .idiv, 1), (137, .i2l, 1), (138, .lastore, 1), (139, .return_, 1)], [(12, 3, 0, false), (21, 3, 1, false), (28, 3, 2, false), (88, 3, 17, false), (123, 1, 6, false), (146, 0, 2, false), (170, 0, 0, false), (173, 0, 1, false)], [], [(153, 1 + 1, 0, 0, s_X3_upTo), (193, 2 + 1, 0, 0, s_X9_miles), (196, 2 + 1, 0, 0, s_X9_commonTongues)], [], 0, 0, 0)
def s_X3_setShared : eg_S := eg_auto wd k_X3_setShared 6 (some 3) 84
theorem mk_X3_setShared : ∀ q ∈ k_X3_setShared.2.2.2.1, eg_mono q.2.2.2.2 := (fc (mo_X3_upTo) (fc (mo_X9_miles) (fc (mo_X9_commonTongues) (fn))))
theorem mo_X3_setShared : eg_mono s_X3_setShared := eg_auto_mono mk_X3_setShared
theorem de_X3_setShared : ∀ q ∈ k_X3_setShared.1, decode cX3_setShared q.1 = .ok q.2 := by decide +kernel
theorem me_X3_setShared (g : gl_T) : MT g yX3_setShared cX3_setShared 6 none ⟨2, 0, 0, 46⟩ 0 0 s_X3_setShared := by
  intro hl
  exact eg_met_of (k := k_X3_setShared) (by decide) rfl ⟨Nat.le_refl _, Nat.le_refl _⟩ rfl eg_auto_len de_X3_setShared (fun meth hn => (fc (eg_FL_of wd_c3 (by decide) lf_RX3_12 (fun h => absurd h (by decide))) (fc (eg_FL_of wd_c3 (by decide) lf_RX3_21 (fun h => absurd h (by decide))) (fc (eg_FL_of wd_c3 (by decide) lf_RX3_28 (fun h => absurd h (by decide))) (fc (eg_FL_of wd_c3 (by decide) lf_RX3_88 (fun h => absurd h (by decide))) (fc (eg_FL_of wd_c1 (by decide) lf_RX3_123 (fun h => absurd h (by decide))) (fc (eg_FL_of wd_c0 (by decide) lf_RX3_146 (fun h => absurd h (by decide))) (fc (eg_FL_of wd_c0 (by decide) lf_RX3_170 (fun h => absurd h (by decide))) (fc (eg_FL_of wd_c0 (by decide) lf_RX3_173 (fun h => absurd h (by decide))) (fn)))))))))) (fun A s H hE => (fn)) (fun p e s m args below meth c Q A ad0 N0 S0 hK hEx hA => (fc (mt_V hl S0 hK hEx hA (me_X3_upTo g) lm_RX3_153 li_X3_upTo lx_X3_upTo ln_RX3 lc_X3_upTo ⟨rfl, by decide, by decide, by decide +kernel⟩ ⟨rfl, rfl⟩ ⟨by decide, by decide⟩ (ci := 3) rfl rfl sr_X3_upTo (by decide)) (fc (mt_V hl S0 hK hEx hA (me_X9_miles g) lm_RX3_193 li_X9_miles lx_X9_miles ln_RX9 lc_X9_miles ⟨rfl, by decide, by decide, by decide +kernel⟩ ⟨rfl, rfl⟩ ⟨by decide, by decide⟩ (ci := 9) rfl rfl sr_X9_miles (by decide)) (fc (mt_V hl S0 hK hEx hA (me_X9_commonTongues g) lm_RX3_196 li_X9_commonTongues lx_X9_commonTongues ln_RX9 lc_X9_commonTongues ⟨rfl, by decide, by decide, by decide +kernel⟩ ⟨rfl, rfl⟩ ⟨by decide, by decide⟩ (ci := 9) rfl rfl sr_X9_commonTongues (by decide)) (fn))))) (fun p e s m args below meth c Qc XC A ad0 N0 P S0 hK hEx hA hlk hout hPX => (fn)) (fun argv M Qp h => eg_auto_T mk_X3_setShared h)

def k_X11_town : eg_C := ([(0, .iload_n 1, 1), (1, .iconst 0, 1), (2, .sipush 999, 3), (5, .invokestatic 61, 3), (8, .ifCond .eq 41, 3), (11, .iload_n 2, 1), (12, .iconst 0, 1), (13, .sipush 999, 3), (16, .invokestatic 61, 3), (19, .ifCond .eq 30, 3), (22, .iload_n 3, 1), (23, .iconst 1, 1), (24, .sipush 9999, 3), (27, .invokestatic 61, 3), (30, .ifCond .eq 19, 3), (33, .iload 4, 2), (35, .iconst 1, 1), (36, .sipush 255, 3), (39, .invokestatic 61, 3), (42, .ifCond .eq 7, 3), (45, .iconst 1, 1), (46, .goto 4, 3), (49, .iconst 0, 1), (50, .istore 5, 2), (52, .iload 5, 2), (54, .ifCond .eq 18, 3), (57, .aload_n 0, 1), (58, .getfield 20, 3), (61, .iload_n 1, 1), (62, .iload_n 2, 1), (63, .iload_n 3, 1), (64, .iload 4, 2), (66, .invokevirtual 65, 3), (69, .goto 4, 3), (72, .iconst (-1), 1), (73, .ireturn, 1)], [(20, 11, 1, false)], [], [(61 + 100000, 3, 0, 0, s_X11_within), (65, 4 + 1, 0, 0, s_X9_add)], [], 1, 0, 0)
def s_X11_town : eg_S := eg_auto wd k_X11_town 6 (some 11) 38
theorem mk_X11_town : ∀ q ∈ k_X11_town.2.2.2.1, eg_mono q.2.2.2.2 := (fc (mo_X11_within) (fc (mo_X9_add) (fn)))
theorem mo_X11_town : eg_mono s_X11_town := eg_auto_mono mk_X11_town
theorem de_X11_town : ∀ q ∈ k_X11_town.1, decode cX11_town q.1 = .ok q.2 := by decide +kernel
theorem me_X11_town (g : gl_T) : MT g yX11_town cX11_town 6 (some .int) ⟨1, 0, 0, 24⟩ 0 0 s_X11_town := by
  intro hl
  exact eg_met_of (k := k_X11_town) (by decide) rfl ⟨Nat.le_refl _, Nat.le_refl _⟩ rfl eg_auto_len de_X11_town (fun meth hn => (fc (eg_FL_of wd_c11 (by decide) lf_RX11_20 (fun h => absurd h (by decide))) (fn))) (fun A s H hE => (fn)) (fun p e s m args below meth c Q A ad0 N0 S0 hK hEx hA => (fc (mt_S hl S0 hK hEx hA (me_X11_within g) lm_RX11_61 ls_X11_within ln_RX11 lc_X11_within ⟨rfl, by decide, by decide, by decide +kernel⟩ ⟨rfl, rfl⟩ ⟨by decide, by decide⟩ (by decide)) (fc (mt_V hl S0 hK hEx hA (me_X9_add g) lm_RX11_65 li_X9_add lx_X9_add ln_RX9 lc_X9_add ⟨rfl, by decide, by decide, by decide +kernel⟩ ⟨rfl, rfl⟩ ⟨by decide, by decide⟩ (ci := 9) rfl rfl eg_auto_rec (by decide)) (fn)))) (fun p e s m args below meth c Qc XC A ad0 N0 P S0 hK hEx hA hlk hout hPX => (fn)) (fun argv M Qp h => eg_auto_T mk_X11_town h)

def k_X11_charter : eg_C := ([(0, .aload_n 0, 1), (1, .iload_n 1, 1), (2, .invokevirtual 71, 3), (5, .aload_n 0, 1), (6, .iload_n 2, 1), (7, .invokevirtual 71, 3), (10, .iload_n 1, 1), (11, .iload_n 2, 1), (12, .if_icmp .eq 10, 3), (15, .iload_n 3, 1), (16, .invokestatic 75, 3), (19, .ifCond .ne 5, 3), (22, .iconst (-1), 1), (23, .ireturn, 1), (24, .aload_n 0, 1), (25, .getfield 25, 3), (28, .iload_n 1, 1), (29, .iload_n 2, 1), (30, .iload_n 3, 1), (31, .aload_n 0, 1), (32, .getfield 57, 3), (35, .invokevirtual 79, 3), (38, .ireturn, 1)], [(25, 11, 2, false), (57, 11, 8, false)], [], [(75 + 100000, 1, 0, 0, s_X11_isDay), (71, 1 + 1, 1, 6, s_X11_needTown), (79, 4 + 1, 0, 0, s_X0_add)], [], 1, 1, 6)
def s_X11_charter : eg_S := eg_auto wd k_X11_charter 4 (some 11) 25
theorem mk_X11_charter : ∀ q ∈ k_X11_charter.2.2.2.1, eg_mono q.2.2.2.2 := (fc (mo_X11_isDay) (fc (mo_X11_needTown) (fc (mo_X0_add) (fn))))
theorem mo_X11_charter : eg_mono s_X11_charter := eg_auto_mono mk_X11_charter
theorem de_X11_charter : ∀ q ∈ k_X11_charter.1, decode cX11_charter q.1 = .ok q.2 := by decide +kernel
theorem me_X11_charter (g : gl_T) : MT g yX11_charter cX11_charter 4 (some .int) ⟨7, 1, 6, 113⟩ 1 6 s_X11_charter := by
  intro hl
  exact eg_met_of (k := k_X11_charter) (by decide) rfl ⟨Nat.le_refl _, Nat.le_refl _⟩ rfl eg_auto_len de_X11_charter (fun meth hn => (fc (eg_FL_of wd_c11 (by decide) lf_RX11_25 (fun h => absurd h (by decide))) (fc (eg_FL_of wd_c11 (by decide) lf_RX11_57 (fun h => absurd h (by decide))) (fn)))) (fun A s H hE => (fn)) (fun p e s m args below meth c Q A ad0 N0 S0 hK hEx hA => (fc (mt_S hl S0 hK hEx hA (me_X11_isDay g) lm_RX11_75 ls_X11_isDay ln_RX11 lc_X11_isDay ⟨rfl, by decide, by decide, by decide +kernel⟩ ⟨rfl, rfl⟩ ⟨by decide, by decide⟩ (by decide)) (fc (mt_V hl S0 hK hEx hA (me_X11_needTown g) lm_RX11_71 li_X11_needTown lx_X11_needTown ln_RX11 lc_X11_needTown ⟨rfl, by decide, by decide, by decide +kernel⟩ ⟨rfl, rfl⟩ ⟨by decide, by decide⟩ (ci := 11) rfl rfl eg_auto_rec (by decide)) (fc (mt_V hl S0 hK hEx hA (me_X0_add g) lm_RX11_79 li_X0_add lx_X0_add ln_RX0 lc_X0_add ⟨rfl, by decide, by decide, by decide +kernel⟩ ⟨rfl, rfl⟩ ⟨by decide, by decide⟩ (ci := 0) rfl rfl eg_auto_rec (by decide)) (fn))))) (fun p e s m args below meth c Qc XC A ad0 N0 P S0 hK hEx hA hlk hout hPX => (fn)) (fun argv M Qp h => eg_auto_T mk_X11_charter h)

def k_X11_back : eg_C := ([(0, .aload_n 0, 1), (1, .iload_n 1, 1), (2, .invokevirtual 113, 3), (5, .aload_n 0, 1), (6, .getfield 12, 3), (9, .invokevirtual 110, 3), (12, .aload_n 0, 1), (13, .getfield 30, 3), (16, .iload_n 1, 1), (17, .aload_n 0, 1), (18, .getfield 57, 3), (21, .invokevirtual 116, 3), (24, .ireturn, 1)], [(12, 11, 0, false), (30, 11, 3, false), (57, 11, 8, false)], [], [(110, 0 + 1, 0, 0, s_X3_forget), (113, 1 + 1, 1, 6, s_X11_needEvent), (116, 2 + 1, 0, 0, s_X1_takeBack)], [], 2, 1, 6)
def s_X11_back : eg_S := eg_auto wd k_X11_back 2 (some 11) 15
theorem mk_X11_back : ∀ q ∈ k_X11_back.2.2.2.1, eg_mono q.2.2.2.2 := (fc (mo_X3_forget) (fc (mo_X11_needEvent) (fc (mo_X1_takeBack) (fn))))
theorem mo_X11_back : eg_mono s_X11_back := eg_auto_mono mk_X11_back
theorem de_X11_back : ∀ q ∈ k_X11_back.1, decode cX11_back q.1 = .ok q.2 := by decide +kernel
theorem me_X11_back (g : gl_T) : MT g yX11_back cX11_back 2 (some .boolean) ⟨7, 1, 6, 113⟩ 1 6 s_X11_back := by
  intro hl
  exact eg_met_of (k := k_X11_back) (by decide) rfl ⟨Nat.le_refl _, Nat.le_refl _⟩ rfl eg_auto_len de_X11_back (fun meth hn => (fc (eg_FL_of wd_c11 (by decide) lf_RX11_12 (fun h => absurd h (by decide))) (fc (eg_FL_of wd_c11 (by decide) lf_RX11_30 (fun h => absurd h (by decide))) (fc (eg_FL_of wd_c11 (by decide) lf_RX11_57 (fun h => absurd h (by decide))) (fn))))) (fun A s H hE => (fn)) (fun p e s m args below meth c Q A ad0 N0 S0 hK hEx hA => (fc (mt_V hl S0 hK hEx hA (me_X3_forget g) lm_RX11_110 li_X3_forget lx_X3_forget ln_RX3 lc_X3_forget ⟨rfl, by decide, by decide, by decide +kernel⟩ ⟨rfl, rfl⟩ ⟨by decide, by decide⟩ (ci := 3) rfl rfl eg_auto_rec (by decide)) (fc (mt_V hl S0 hK hEx hA (me_X11_needEvent g) lm_RX11_113 li_X11_needEvent lx_X11_needEvent ln_RX11 lc_X11_needEvent ⟨rfl, by decide, by decide, by decide +kernel⟩ ⟨rfl, rfl⟩ ⟨by decide, by decide⟩ (ci := 11) rfl rfl eg_auto_rec (by decide)) (fc (mt_V hl S0 hK hEx hA (me_X1_takeBack g) lm_RX11_116 li_X1_takeBack lx_X1_takeBack ln_RX1 lc_X1_takeBack ⟨rfl, by decide, by decide, by decide +kernel⟩ ⟨rfl, rfl⟩ ⟨by decide, by decide⟩ (ci := 1) rfl rfl eg_auto_rec (by decide)) (fn))))) (fun p e s m args below meth c Qc XC A ad0 N0 P S0 hK hEx hA hlk hout hPX => (fn)) (fun argv M Qp h => eg_auto_T mk_X11_back h)

def k_X11_home : eg_C := ([(0, .iload_n 1, 1), (1, .iconst 1, 1), (2, .iconst 4, 1), (3, .invokestatic 61, 3), (6, .ifCond .eq 29, 3), (9, .iload_n 2, 1), (10, .iconst 0, 1), (11, .sipush 255, 3), (14, .invokestatic 61, 3), (17, .ifCond .eq 18, 3), (20, .iload 4, 2), (22, .iconst 0, 1), (23, .bipush 99, 2), (25, .invokestatic 61, 3), (28, .ifCond .eq 7, 3), (31, .iconst 1, 1), (32, .goto 4, 3), (35, .iconst 0, 1), (36, .istore 5, 2), (38, .iload 5, 2), (40, .ifCond .eq 18, 3), (43, .aload_n 0, 1), (44, .getfield 39, 3), (47, .iload_n 1, 1), (48, .iload_n 2, 1), (49, .iload_n 3, 1), (50, .iload 4, 2), (52, .invokevirtual 203, 3), (55, .goto 4, 3), (58, .iconst (-1), 1), (59, .ireturn, 1)], [(39, 11, 5, false)], [], [(61 + 100000, 3, 0, 0, s_X11_within), (203, 4 + 1, 0, 0, s_X4_addHome)], [], 1, 0, 0)
def s_X11_home : eg_S := eg_auto wd k_X11_home 6 (some 11) 33
theorem mk_X11_home : ∀ q ∈ k_X11_home.2.2.2.1, eg_mono q.2.2.2.2 := (fc (mo_X11_within) (fc (mo_X4_addHome) (fn)))
theorem mo_X11_home : eg_mono s_X11_home := eg_auto_mono mk_X11_home
theorem de_X11_home : ∀ q ∈ k_X11_home.1, decode cX11_home q.1 = .ok q.2 := by decide +kernel
theorem me_X11_home (g : gl_T) : MT g yX11_home cX11_home 6 (some .int) ⟨1, 0, 0, 24⟩ 0 0 s_X11_home := by
  intro hl
  exact eg_met_of (k := k_X11_home) (by decide) rfl ⟨Nat.le_refl _, Nat.le_refl _⟩ rfl eg_auto_len de_X11_home (fun meth hn => (fc (eg_FL_of wd_c11 (by decide) lf_RX11_39 (fun h => absurd h (by decide))) (fn))) (fun A s H hE => (fn)) (fun p e s m args below meth c Q A ad0 N0 S0 hK hEx hA => (fc (mt_S hl S0 hK hEx hA (me_X11_within g) lm_RX11_61 ls_X11_within ln_RX11 lc_X11_within ⟨rfl, by decide, by decide, by decide +kernel⟩ ⟨rfl, rfl⟩ ⟨by decide, by decide⟩ (by decide)) (fc (mt_V hl S0 hK hEx hA (me_X4_addHome g) lm_RX11_203 li_X4_addHome lx_X4_addHome ln_RX4 lc_X4_addHome ⟨rfl, by decide, by decide, by decide +kernel⟩ ⟨rfl, rfl⟩ ⟨by decide, by decide⟩ (ci := 4) rfl rfl eg_auto_rec (by decide)) (fn)))) (fun p e s m args below meth c Qc XC A ad0 N0 P S0 hK hEx hA hlk hout hPX => (fn)) (fun argv M Qp h => eg_auto_T mk_X11_home h)

def k_X11_guest : eg_C := ([(0, .iload_n 1, 1), (1, .iconst 0, 1), (2, .sipush 255, 3), (5, .invokestatic 61, 3), (8, .ifCond .eq 17, 3), (11, .iload_n 2, 1), (12, .iconst 0, 1), (13, .bipush 99, 2), (15, .invokestatic 61, 3), (18, .ifCond .eq 7, 3), (21, .iconst 1, 1), (22, .goto 4, 3), (25, .iconst 0, 1), (26, .istore 4, 2), (28, .iload 4, 2), (30, .ifCond .eq 16, 3), (33, .aload_n 0, 1), (34, .getfield 39, 3), (37, .iload_n 1, 1), (38, .iload_n 2, 1), (39, .iload_n 3, 1), (40, .invokevirtual 207, 3), (43, .goto 4, 3), (46, .iconst (-1), 1), (47, .ireturn, 1)], [(39, 11, 5, false)], [], [(61 + 100000, 3, 0, 0, s_X11_within), (207, 3 + 1, 0, 0, s_X4_addGuest)], [], 1, 0, 0)
def s_X11_guest : eg_S := eg_auto wd k_X11_guest 5 (some 11) 27
theorem mk_X11_guest : ∀ q ∈ k_X11_guest.2.2.2.1, eg_mono q.2.2.2.2 := (fc (mo_X11_within) (fc (mo_X4_addGuest) (fn)))
theorem mo_X11_guest : eg_mono s_X11_guest := eg_auto_mono mk_X11_guest
theorem de_X11_guest : ∀ q ∈ k_X11_guest.1, decode cX11_guest q.1 = .ok q.2 := by decide +kernel
theorem me_X11_guest (g : gl_T) : MT g yX11_guest cX11_guest 5 (some .int) ⟨1, 0, 0, 23⟩ 0 0 s_X11_guest := by
  intro hl
  exact eg_met_of (k := k_X11_guest) (by decide) rfl ⟨Nat.le_refl _, Nat.le_refl _⟩ rfl eg_auto_len de_X11_guest (fun meth hn => (fc (eg_FL_of wd_c11 (by decide) lf_RX11_39 (fun h => absurd h (by decide))) (fn))) (fun A s H hE => (fn)) (fun p e s m args below meth c Q A ad0 N0 S0 hK hEx hA => (fc (mt_S hl S0 hK hEx hA (me_X11_within g) lm_RX11_61 ls_X11_within ln_RX11 lc_X11_within ⟨rfl, by decide, by decide, by decide +kernel⟩ ⟨rfl, rfl⟩ ⟨by decide, by decide⟩ (by decide)) (fc (mt_V hl S0 hK hEx hA (me_X4_addGuest g) lm_RX11_207 li_X4_addGuest lx_X4_addGuest ln_RX4 lc_X4_addGuest ⟨rfl, by decide, by decide, by decide +kernel⟩ ⟨rfl, rfl⟩ ⟨by decide, by decide⟩ (ci := 4) rfl rfl eg_auto_rec (by decide)) (fn)))) (fun p e s m args below meth c Qc XC A ad0 N0 P S0 hK hEx hA hlk hout hPX => (fn)) (fun argv M Qp h => eg_auto_T mk_X11_guest h)

def k_X11_liking : eg_C := ([(0, .iload_n 1, 1), (1, .iconst 0, 1), (2, .aload_n 0, 1), (3, .getfield 39, 3), (6, .getfield 211, 3), (9, .iconst 1, 1), (10, .isub, 1), (11, .invokestatic 61, 3), (14, .ifCond .eq 20, 3), (17, .iload_n 2, 1), (18, .iconst 0, 1), (19, .aload_n 0, 1), (20, .getfield 39, 3), (23, .getfield 214, 3), (26, .iconst 1, 1), (27, .isub, 1), (28, .invokestatic 61, 3), (31, .ifCond .ne 13, 3), (34, .new 89, 3), (37, .dup, 1), (38, .ldc 217, 2), (40, .invokespecial 93, 3), (43, .athrow, 1), (44, .aload_n 0, 1), (45, .getfield 39, 3), (48, .iload_n 1, 1), (49, .iload_n 2, 1), (50, .invokevirtual 219, 3), (53, .ireturn, 1)], [(39, 11, 5, false), (211, 4, 5, false), (214, 4, 0, false)], [], [(61 + 100000, 3, 0, 0, s_X11_within), (219, 2 + 1, 0, 0, s_X4_likingOf)], [(89, .inl "java/util/NoSuchElementException")], 1, 1, 6)
def s_X11_liking : eg_S := eg_auto wd k_X11_liking 3 (some 11) 31
theorem mk_X11_liking : ∀ q ∈ k_X11_liking.2.2.2.1, eg_mono q.2.2.2.2 := (fc (mo_X11_within) (fc (mo_X4_likingOf) (fn)))
theorem mo_X11_liking : eg_mono s_X11_liking := eg_auto_mono mk_X11_liking
theorem de_X11_liking : ∀ q ∈ k_X11_liking.1, decode cX11_liking q.1 = .ok q.2 := by decide +kernel
theorem me_X11_liking (g : gl_T) : MT g yX11_liking cX11_liking 3 (some .int) ⟨6, 1, 6, 92⟩ 1 6 s_X11_liking := by
  intro hl
  exact eg_met_of (k := k_X11_liking) (by decide) rfl ⟨Nat.le_refl _, Nat.le_refl _⟩ rfl eg_auto_len de_X11_liking (fun meth hn => (fc (eg_FL_of wd_c11 (by decide) lf_RX11_39 (fun h => absurd h (by decide))) (fc (eg_FL_of wd_c4 (by decide) lf_RX11_211 (fun h => absurd h (by decide))) (fc (eg_FL_of wd_c4 (by decide) lf_RX11_214 (fun h => absurd h (by decide))) (fn))))) (fun A s H hE => (fn)) (fun p e s m args below meth c Q A ad0 N0 S0 hK hEx hA => (fc (mt_S hl S0 hK hEx hA (me_X11_within g) lm_RX11_61 ls_X11_within ln_RX11 lc_X11_within ⟨rfl, by decide, by decide, by decide +kernel⟩ ⟨rfl, rfl⟩ ⟨by decide, by decide⟩ (by decide)) (fc (mt_V hl S0 hK hEx hA (me_X4_likingOf g) lm_RX11_219 li_X4_likingOf lx_X4_likingOf ln_RX4 lc_X4_likingOf ⟨rfl, by decide, by decide, by decide +kernel⟩ ⟨rfl, rfl⟩ ⟨by decide, by decide⟩ (ci := 4) rfl rfl sr_X4_likingOf (by decide)) (fn)))) (fun p e s m args below meth c Qc XC A ad0 N0 P S0 hK hEx hA hlk hout hPX => (fc (mt_T hl S0 hEx hlk hout hPX (ix := 13) (rx := nx_rx) (names := ["java/lang/RuntimeException", "java/lang/Exception"]) (is := 217) (ic := 93) (text := "no such guest or home") (nt := 11) (by decide +kernel) (by decide +kernel) (by decide +kernel) (by decide +kernel) (by decide +kernel) (by decide +kernel) lq_RX11_89 tn_i (List.mem_of_getElem? (i := 3) rfl) tn_g tn_b tn_o (by decide +kernel) (by decide) (by decide) (Nat.le_refl _) (Nat.le_refl _)) (fn))) (fun argv M Qp h => eg_auto_T mk_X11_liking h)

def k_X11_lodged : eg_C := ([(0, .iload_n 1, 1), (1, .iconst (-1), 1), (2, .aload_n 0, 1), (3, .getfield 39, 3), (6, .getfield 226, 3), (9, .iconst 1, 1), (10, .isub, 1), (11, .invokestatic 61, 3), (14, .ifCond .ne 13, 3), (17, .new 89, 3), (20, .dup, 1), (21, .ldc 229, 2), (23, .invokespecial 93, 3), (26, .athrow, 1), (27, .iload_n 1, 1), (28, .iconst (-1), 1), (29, .if_icmp .ne 13, 3), (32, .aload_n 0, 1), (33, .getfield 39, 3), (36, .getfield 231, 3), (39, .goto 12, 3), (42, .aload_n 0, 1), (43, .getfield 39, 3), (46, .getfield 234, 3), (49, .iload_n 1, 1), (50, .iaload, 1), (51, .ireturn, 1)], [(39, 11, 5, false), (226, 4, 9, false), (231, 4, 10, false), (234, 4, 11, false)], [], [(61 + 100000, 3, 0, 0, s_X11_within)], [(89, .inl "java/util/NoSuchElementException")], 1, 1, 6)
def s_X11_lodged : eg_S := eg_auto wd k_X11_lodged 2 (some 11) 29
theorem mk_X11_lodged : ∀ q ∈ k_X11_lodged.2.2.2.1, eg_mono q.2.2.2.2 := (fc (mo_X11_within) (fn))
theorem mo_X11_lodged : eg_mono s_X11_lodged := eg_auto_mono mk_X11_lodged
theorem de_X11_lodged : ∀ q ∈ k_X11_lodged.1, decode cX11_lodged q.1 = .ok q.2 := by decide +kernel
theorem me_X11_lodged (g : gl_T) : MT g yX11_lodged cX11_lodged 2 (some .int) ⟨6, 1, 6, 92⟩ 1 6 s_X11_lodged := by
  intro hl
  exact eg_met_of (k := k_X11_lodged) (by decide) rfl ⟨Nat.le_refl _, Nat.le_refl _⟩ rfl eg_auto_len de_X11_lodged (fun meth hn => (fc (eg_FL_of wd_c11 (by decide) lf_RX11_39 (fun h => absurd h (by decide))) (fc (eg_FL_of wd_c4 (by decide) lf_RX11_226 (fun h => absurd h (by decide))) (fc (eg_FL_of wd_c4 (by decide) lf_RX11_231 (fun h => absurd h (by decide))) (fc (eg_FL_of wd_c4 (by decide) lf_RX11_234 (fun h => absurd h (by decide))) (fn)))))) (fun A s H hE => (fn)) (fun p e s m args below meth c Q A ad0 N0 S0 hK hEx hA => (fc (mt_S hl S0 hK hEx hA (me_X11_within g) lm_RX11_61 ls_X11_within ln_RX11 lc_X11_within ⟨rfl, by decide, by decide, by decide +kernel⟩ ⟨rfl, rfl⟩ ⟨by decide, by decide⟩ (by decide)) (fn))) (fun p e s m args below meth c Qc XC A ad0 N0 P S0 hK hEx hA hlk hout hPX => (fc (mt_T hl S0 hEx hlk hout hPX (ix := 13) (rx := nx_rx) (names := ["java/lang/RuntimeException", "java/lang/Exception"]) (is := 229) (ic := 93) (text := "nothing is kept, or no such guest in it") (nt := 17) (by decide +kernel) (by decide +kernel) (by decide +kernel) (by decide +kernel) (by decide +kernel) (by decide +kernel) lq_RX11_89 tn_i (List.mem_of_getElem? (i := 4) rfl) tn_g tn_b tn_o (by decide +kernel) (by decide) (by decide) (Nat.le_refl _) (Nat.le_refl _)) (fn))) (fun argv M Qp h => eg_auto_T mk_X11_lodged h)

def k_X11_planned : eg_C := ([(0, .iload_n 1, 1), (1, .iconst (-1), 1), (2, .aload_n 0, 1), (3, .getfield 46, 3), (6, .getfield 252, 3), (9, .iconst 1, 1), (10, .isub, 1), (11, .invokestatic 61, 3), (14, .ifCond .ne 13, 3), (17, .new 89, 3), (20, .dup, 1), (21, .ldc 255, 2), (23, .invokespecial 93, 3), (26, .athrow, 1), (27, .iload_n 1, 1), (28, .iconst (-1), 1), (29, .if_icmp .ne 13, 3), (32, .aload_n 0, 1), (33, .getfield 46, 3), (36, .getfield 257, 3), (39, .goto 12, 3), (42, .aload_n 0, 1), (43, .getfield 46, 3), (46, .getfield 258, 3), (49, .iload_n 1, 1), (50, .iaload, 1), (51, .ireturn, 1)], [(46, 11, 6, false), (252, 6, 5, false), (257, 6, 6, false), (258, 6, 7, false)], [], [(61 + 100000, 3, 0, 0, s_X11_within)], [(89, .inl "java/util/NoSuchElementException")], 1, 1, 6)
def s_X11_planned : eg_S := eg_auto wd k_X11_planned 2 (some 11) 29
theorem mk_X11_planned : ∀ q ∈ k_X11_planned.2.2.2.1, eg_mono q.2.2.2.2 := (fc (mo_X11_within) (fn))
theorem mo_X11_planned : eg_mono s_X11_planned := eg_auto_mono mk_X11_planned
theorem de_X11_planned : ∀ q ∈ k_X11_planned.1, decode cX11_planned q.1 = .ok q.2 := by decide +kernel
theorem me_X11_planned (g : gl_T) : MT g yX11_planned cX11_planned 2 (some .int) ⟨6, 1, 6, 92⟩ 1 6 s_X11_planned := by
  intro hl
  exact eg_met_of (k := k_X11_planned) (by decide) rfl ⟨Nat.le_refl _, Nat.le_refl _⟩ rfl eg_auto_len de_X11_planned (fun meth hn => (fc (eg_FL_of wd_c11 (by decide) lf_RX11_46 (fun h => absurd h (by decide))) (fc (eg_FL_of wd_c6 (by decide) lf_RX11_252 (fun h => absurd h (by decide))) (fc (eg_FL_of wd_c6 (by decide) lf_RX11_257 (fun h => absurd h (by decide))) (fc (eg_FL_of wd_c6 (by decide) lf_RX11_258 (fun h => absurd h (by decide))) (fn)))))) (fun A s H hE => (fn)) (fun p e s m args below meth c Q A ad0 N0 S0 hK hEx hA => (fc (mt_S hl S0 hK hEx hA (me_X11_within g) lm_RX11_61 ls_X11_within ln_RX11 lc_X11_within ⟨rfl, by decide, by decide, by decide +kernel⟩ ⟨rfl, rfl⟩ ⟨by decide, by decide⟩ (by decide)) (fn))) (fun p e s m args below meth c Qc XC A ad0 N0 P S0 hK hEx hA hlk hout hPX => (fc (mt_T hl S0 hEx hlk hout hPX (ix := 13) (rx := nx_rx) (names := ["java/lang/RuntimeException", "java/lang/Exception"]) (is := 255) (ic := 93) (text := "nothing is kept, or no such plan in it") (nt := 18) (by decide +kernel) (by decide +kernel) (by decide +kernel) (by decide +kernel) (by decide +kernel) (by decide +kernel) lq_RX11_89 tn_i (List.mem_of_getElem? (i := 5) rfl) tn_g tn_b tn_o (by decide +kernel) (by decide) (by decide) (Nat.le_refl _) (Nat.le_refl _)) (fn))) (fun argv M Qp h => eg_auto_T mk_X11_planned h)

def k_X11_friend : eg_C := ([(0, .aload_n 0, 1), (1, .iload_n 1, 1), (2, .invokevirtual 71, 3), (5, .aload_n 0, 1), (6, .getfield 53, 3), (9, .getfield 274, 3), (12, .iload_n 1, 1), (13, .iaload, 1), (14, .ireturn, 1)], [(53, 11, 7, false), (274, 2, 3, false)], [], [(71, 1 + 1, 1, 6, s_X11_needTown)], [], 1, 1, 6)
def s_X11_friend : eg_S := eg_auto wd k_X11_friend 2 (some 11) 11
theorem mk_X11_friend : ∀ q ∈ k_X11_friend.2.2.2.1, eg_mono q.2.2.2.2 := (fc (mo_X11_needTown) (fn))
theorem mo_X11_friend : eg_mono s_X11_friend := eg_auto_mono mk_X11_friend
theorem de_X11_friend : ∀ q ∈ k_X11_friend.1, decode cX11_friend q.1 = .ok q.2 := by decide +kernel
theorem me_X11_friend (g : gl_T) : MT g yX11_friend cX11_friend 2 (some .int) ⟨7, 1, 6, 113⟩ 1 6 s_X11_friend := by
  intro hl
  exact eg_met_of (k := k_X11_friend) (by decide) rfl ⟨Nat.le_refl _, Nat.le_refl _⟩ rfl eg_auto_len de_X11_friend (fun meth hn => (fc (eg_FL_of wd_c11 (by decide) lf_RX11_53 (fun h => absurd h (by decide))) (fc (eg_FL_of wd_c2 (by decide) lf_RX11_274 (fun h => absurd h (by decide))) (fn)))) (fun A s H hE => (fn)) (fun p e s m args below meth c Q A ad0 N0 S0 hK hEx hA => (fc (mt_V hl S0 hK hEx hA (me_X11_needTown g) lm_RX11_71 li_X11_needTown lx_X11_needTown ln_RX11 lc_X11_needTown ⟨rfl, by decide, by decide, by decide +kernel⟩ ⟨rfl, rfl⟩ ⟨by decide, by decide⟩ (ci := 11) rfl rfl eg_auto_rec (by decide)) (fn))) (fun p e s m args below meth c Qc XC A ad0 N0 P S0 hK hEx hA hlk hout hPX => (fn)) (fun argv M Qp h => eg_auto_T mk_X11_friend h)

/-! METHODS WITHOUT LOOPS, by program -/
def k_J6_bitCount_0f7a4 : eg_C := ([(0, .iload_n 0, 1), (1, .iload_n 0, 1), (2, .iconst 1, 1), (3, .iushr, 1), (4, .ldc_w 265, 3), (7, .iand, 1), (8, .isub, 1), (9, .istore_n 0, 1), (10, .iload_n 0, 1), (11, .ldc_w 266, 3), (14, .iand, 1), (15, .iload_n 0, 1), (16, .iconst 2, 1), (17, .iushr, 1), (18, .ldc_w 266, 3), (21, .iand, 1), (22, .iadd, 1), (23, .istore_n 0, 1), (24, .iload_n 0, 1), (25, .iload_n 0, 1), (26, .iconst 4, 1), (27, .iushr, 1), (28, .iadd, 1), (29, .ldc_w 267, 3), (32, .iand, 1), (33, .istore_n 0, 1), (34, .iload_n 0, 1), (35, .iload_n 0, 1), (36, .bipush 8, 2), (38, .iushr, 1), (39, .iadd, 1), (40, .istore_n 0, 1), (41, .iload_n 0, 1), (42, .iload_n 0, 1), (43, .bipush 16, 2), (45, .iushr, 1), (46, .iadd, 1), (47, .istore_n 0, 1), (48, .iload_n 0, 1), (49, .bipush 63, 2), (51, .iand, 1), (52, .ireturn, 1)], [], [(265, .int (nI 1431655765)), (266, .int (nI 858993459)), (267, .int (nI 252645135))], [], [], 1, 0, 0)
def s_J6_bitCount_0f7a4 : eg_S := eg_auto wd k_J6_bitCount_0f7a4 1 (none) 44
theorem mk_J6_bitCount_0f7a4 : ∀ q ∈ k_J6_bitCount_0f7a4.2.2.2.1, eg_mono q.2.2.2.2 := (fn)
theorem mo_J6_bitCount_0f7a4 : eg_mono s_J6_bitCount_0f7a4 := eg_auto_mono mk_J6_bitCount_0f7a4
theorem de_J6_bitCount_0f7a4 : ∀ q ∈ k_J6_bitCount_0f7a4.1, decode cJ6_bitCount_0f7a4 q.1 = .ok q.2 := by decide +kernel
theorem me_J6_bitCount_0f7a4 (g : gl_T) : MT g yJ6_bitCount_0f7a4 cJ6_bitCount_0f7a4 1 (some .int) ⟨0, 0, 0, 0⟩ 0 0 s_J6_bitCount_0f7a4 := by
  intro hl
  exact eg_met_of (k := k_J6_bitCount_0f7a4) (by decide) rfl ⟨Nat.le_refl _, Nat.le_refl _⟩ rfl eg_auto_len de_J6_bitCount_0f7a4 (fun meth hn => (fn)) (fun A s H hE => (fc (List.mem_cons_of_mem _ lk_RJ6_265) (fc (List.mem_cons_of_mem _ lk_RJ6_266) (fc (List.mem_cons_of_mem _ lk_RJ6_267) (fn))))) (fun p e s m args below meth c Q A ad0 N0 S0 hK hEx hA => (fn)) (fun p e s m args below meth c Qc XC A ad0 N0 P S0 hK hEx hA hlk hout hPX => (fn)) (fun argv M Qp h => eg_auto_T mk_J6_bitCount_0f7a4 h)

def k_X0_add : eg_C := ([(0, .aload_n 0, 1), (1, .getfield 24, 3), (4, .bipush 24, 2), (6, .if_icmp .lt 5, 3), (9, .iconst (-1), 1), (10, .ireturn, 1), (11, .aload_n 0, 1), (12, .getfield 9, 3), (15, .aload_n 0, 1), (16, .getfield 24, 3), (19, .iload_n 1, 1), (20, .iastore, 1), (21, .aload_n 0, 1), (22, .getfield 15, 3), (25, .aload_n 0, 1), (26, .getfield 24, 3), (29, .iload_n 2, 1), (30, .iastore, 1), (31, .aload_n 0, 1), (32, .getfield 18, 3), (35, .aload_n 0, 1), (36, .getfield 24, 3), (39, .iload_n 3, 1), (40, .iastore, 1), (41, .aload_n 0, 1), (42, .getfield 21, 3), (45, .aload_n 0, 1), (46, .getfield 24, 3), (49, .iload 4, 2), (51, .iastore, 1), (52, .aload_n 0, 1), (53, .dup, 1), (54, .getfield 24, 3), (57, .dup_x1, 1), (58, .iconst 1, 1), (59, .iadd, 1), (60, .putfield 24, 3), (63, .ireturn, 1)], [(9, 0, 0, false), (15, 0, 1, false), (18, 0, 2, false), (21, 0, 3, false), (24, 0, 4, true)], [], [], [], 1, 0, 0)
def s_X0_add : eg_S := eg_auto wd k_X0_add 5 (some 0) 40
theorem mk_X0_add : ∀ q ∈ k_X0_add.2.2.2.1, eg_mono q.2.2.2.2 := (fn)
theorem mo_X0_add : eg_mono s_X0_add := eg_auto_mono mk_X0_add
theorem de_X0_add : ∀ q ∈ k_X0_add.1, decode cX0_add q.1 = .ok q.2 := by decide +kernel
theorem me_X0_add (g : gl_T) : MT g yX0_add cX0_add 5 (some .int) ⟨0, 0, 0, 0⟩ 0 0 s_X0_add := by
  intro hl
  exact eg_met_of (k := k_X0_add) (by decide) rfl ⟨Nat.le_refl _, Nat.le_refl _⟩ rfl eg_auto_len de_X0_add (fun meth hn => (fc (eg_FL_of wd_c0 (by decide) lf_RX0_9 (fun h => absurd h (by decide))) (fc (eg_FL_of wd_c0 (by decide) lf_RX0_15 (fun h => absurd h (by decide))) (fc (eg_FL_of wd_c0 (by decide) lf_RX0_18 (fun h => absurd h (by decide))) (fc (eg_FL_of wd_c0 (by decide) lf_RX0_21 (fun h => absurd h (by decide))) (fc (eg_FL_of wd_c0 (by decide) lf_RX0_24 (fun _ => Or.inl rfl)) (fn))))))) (fun A s H hE => (fn)) (fun p e s m args below meth c Q A ad0 N0 S0 hK hEx hA => (fn)) (fun p e s m args below meth c Qc XC A ad0 N0 P S0 hK hEx hA hlk hout hPX => (fn)) (fun argv M Qp h => eg_auto_T mk_X0_add h)

def k_X1_stamp : eg_C := ([(0, .iload_n 1, 1), (1, .iconst (-1), 1), (2, .if_icmp .eq 19, 3), (5, .aload_n 0, 1), (6, .getfield 33, 3), (9, .iload_n 1, 1), (10, .iload_n 2, 1), (11, .iastore, 1), (12, .aload_n 0, 1), (13, .getfield 36, 3), (16, .iload_n 1, 1), (17, .sipush 3600, 3), (20, .iastore, 1), (21, .return_, 1)], [(33, 1, 7, false), (36, 1, 8, false)], [], [], [], 0, 0, 0)
def s_X1_stamp : eg_S := eg_auto wd k_X1_stamp 3 (some 1) 16
theorem mk_X1_stamp : ∀ q ∈ k_X1_stamp.2.2.2.1, eg_mono q.2.2.2.2 := (fn)
theorem mo_X1_stamp : eg_mono s_X1_stamp := eg_auto_mono mk_X1_stamp
theorem de_X1_stamp : ∀ q ∈ k_X1_stamp.1, decode cX1_stamp q.1 = .ok q.2 := by decide +kernel
theorem me_X1_stamp (g : gl_T) : MT g yX1_stamp cX1_stamp 3 none ⟨0, 0, 0, 0⟩ 0 0 s_X1_stamp := by
  intro hl
  exact eg_met_of (k := k_X1_stamp) (by decide) rfl ⟨Nat.le_refl _, Nat.le_refl _⟩ rfl eg_auto_len de_X1_stamp (fun meth hn => (fc (eg_FL_of wd_c1 (by decide) lf_RX1_33 (fun h => absurd h (by decide))) (fc (eg_FL_of wd_c1 (by decide) lf_RX1_36 (fun h => absurd h (by decide))) (fn)))) (fun A s H hE => (fn)) (fun p e s m args below meth c Q A ad0 N0 S0 hK hEx hA => (fn)) (fun p e s m args below meth c Qc XC A ad0 N0 P S0 hK hEx hA hlk hout hPX => (fn)) (fun argv M Qp h => eg_auto_T mk_X1_stamp h)

def k_X1_takeBack : eg_C := ([(0, .aload_n 0, 1), (1, .getfield 36, 3), (4, .iload_n 1, 1), (5, .iaload, 1), (6, .sipush 3600, 3), (9, .if_icmp .ne 7, 3), (12, .iconst 1, 1), (13, .goto 4, 3), (16, .iconst 0, 1), (17, .istore_n 3, 1), (18, .iload_n 3, 1), (19, .ifCond .eq 10, 3), (22, .aload_n 0, 1), (23, .getfield 36, 3), (26, .iload_n 1, 1), (27, .iload_n 2, 1), (28, .iastore, 1), (29, .iload_n 3, 1), (30, .ireturn, 1)], [(36, 1, 8, false)], [], [], [], 2, 0, 0)
def s_X1_takeBack : eg_S := eg_auto wd k_X1_takeBack 4 (some 1) 21
theorem mk_X1_takeBack : ∀ q ∈ k_X1_takeBack.2.2.2.1, eg_mono q.2.2.2.2 := (fn)
theorem mo_X1_takeBack : eg_mono s_X1_takeBack := eg_auto_mono mk_X1_takeBack
theorem de_X1_takeBack : ∀ q ∈ k_X1_takeBack.1, decode cX1_takeBack q.1 = .ok q.2 := by decide +kernel
theorem me_X1_takeBack (g : gl_T) : MT g yX1_takeBack cX1_takeBack 4 (some .boolean) ⟨0, 0, 0, 0⟩ 0 0 s_X1_takeBack := by
  intro hl
  exact eg_met_of (k := k_X1_takeBack) (by decide) rfl ⟨Nat.le_refl _, Nat.le_refl _⟩ rfl eg_auto_len de_X1_takeBack (fun meth hn => (fc (eg_FL_of wd_c1 (by decide) lf_RX1_36 (fun h => absurd h (by decide))) (fn))) (fun A s H hE => (fn)) (fun p e s m args below meth c Q A ad0 N0 S0 hK hEx hA => (fn)) (fun p e s m args below meth c Qc XC A ad0 N0 P S0 hK hEx hA hlk hout hPX => (fn)) (fun argv M Qp h => eg_auto_T mk_X1_takeBack h)

def k_X2_ask : eg_C := ([(0, .iload_n 3, 1), (1, .iconst 1, 1), (2, .iload_n 2, 1), (3, .ishl, 1), (4, .iand, 1), (5, .ifCond .eq 15, 3), (8, .aload_n 0, 1), (9, .getfield 20, 3), (12, .iload_n 2, 1), (13, .aaload, 1), (14, .iload_n 1, 1), (15, .iaload, 1), (16, .iconst (-1), 1), (17, .if_icmp .ne 4, 3), (20, .return_, 1), (21, .aload_n 0, 1), (22, .getfield 23, 3), (25, .iload_n 2, 1), (26, .iaload, 1), (27, .istore 4, 2), (29, .iload 4, 2), (31, .iconst (-1), 1), (32, .if_icmp .eq 32, 3), (35, .aload_n 0, 1), (36, .getfield 20, 3), (39, .iload_n 2, 1), (40, .aaload, 1), (41, .iload 4, 2), (43, .iaload, 1), (44, .aload_n 0, 1), (45, .getfield 20, 3), (48, .iload_n 2, 1), (49, .aaload, 1), (50, .iload_n 1, 1), (51, .iaload, 1), (52, .if_icmp .ge 4, 3), (55, .return_, 1), (56, .aload_n 0, 1), (57, .getfield 23, 3), (60, .iload 4, 2), (62, .iconst (-1), 1), (63, .iastore, 1), (64, .aload_n 0, 1), (65, .getfield 23, 3), (68, .iload_n 2, 1), (69, .iload_n 1, 1), (70, .iastore, 1), (71, .aload_n 0, 1), (72, .getfield 23, 3), (75, .iload_n 1, 1), (76, .iload_n 2, 1), (77, .iastore, 1), (78, .return_, 1)], [(20, 2, 2, false), (23, 2, 3, false)], [], [], [], 0, 0, 0)
def s_X2_ask : eg_S := eg_auto wd k_X2_ask 5 (some 2) 55
theorem mk_X2_ask : ∀ q ∈ k_X2_ask.2.2.2.1, eg_mono q.2.2.2.2 := (fn)
theorem mo_X2_ask : eg_mono s_X2_ask := eg_auto_mono mk_X2_ask
theorem de_X2_ask : ∀ q ∈ k_X2_ask.1, decode cX2_ask q.1 = .ok q.2 := by decide +kernel
theorem me_X2_ask (g : gl_T) : MT g yX2_ask cX2_ask 5 none ⟨0, 0, 0, 0⟩ 0 0 s_X2_ask := by
  intro hl
  exact eg_met_of (k := k_X2_ask) (by decide) rfl ⟨Nat.le_refl _, Nat.le_refl _⟩ rfl eg_auto_len de_X2_ask (fun meth hn => (fc (eg_FL_of wd_c2 (by decide) lf_RX2_20 (fun h => absurd h (by decide))) (fc (eg_FL_of wd_c2 (by decide) lf_RX2_23 (fun h => absurd h (by decide))) (fn)))) (fun A s H hE => (fn)) (fun p e s m args below meth c Q A ad0 N0 S0 hK hEx hA => (fn)) (fun p e s m args below meth c Qc XC A ad0 N0 P S0 hK hEx hA hlk hout hPX => (fn)) (fun argv M Qp h => eg_auto_T mk_X2_ask h)

def k_X2_areWished : eg_C := ([(0, .aload_n 0, 1), (1, .getfield 20, 3), (4, .iload_n 1, 1), (5, .aaload, 1), (6, .iload_n 2, 1), (7, .iaload, 1), (8, .iconst (-1), 1), (9, .if_icmp .eq 19, 3), (12, .aload_n 0, 1), (13, .getfield 20, 3), (16, .iload_n 2, 1), (17, .aaload, 1), (18, .iload_n 1, 1), (19, .iaload, 1), (20, .iconst (-1), 1), (21, .if_icmp .eq 7, 3), (24, .iconst 1, 1), (25, .goto 4, 3), (28, .iconst 0, 1), (29, .ireturn, 1)], [(20, 2, 2, false)], [], [], [], 2, 0, 0)
def s_X2_areWished : eg_S := eg_auto wd k_X2_areWished 3 (some 2) 22
theorem mk_X2_areWished : ∀ q ∈ k_X2_areWished.2.2.2.1, eg_mono q.2.2.2.2 := (fn)
theorem mo_X2_areWished : eg_mono s_X2_areWished := eg_auto_mono mk_X2_areWished
theorem de_X2_areWished : ∀ q ∈ k_X2_areWished.1, decode cX2_areWished q.1 = .ok q.2 := by decide +kernel
theorem me_X2_areWished (g : gl_T) : MT g yX2_areWished cX2_areWished 3 (some .boolean) ⟨0, 0, 0, 0⟩ 0 0 s_X2_areWished := by
  intro hl
  exact eg_met_of (k := k_X2_areWished) (by decide) rfl ⟨Nat.le_refl _, Nat.le_refl _⟩ rfl eg_auto_len de_X2_areWished (fun meth hn => (fc (eg_FL_of wd_c2 (by decide) lf_RX2_20 (fun h => absurd h (by decide))) (fn))) (fun A s H hE => (fn)) (fun p e s m args below meth c Q A ad0 N0 S0 hK hEx hA => (fn)) (fun p e s m args below meth c Qc XC A ad0 N0 P S0 hK hEx hA hlk hout hPX => (fn)) (fun argv M Qp h => eg_auto_T mk_X2_areWished h)

def k_X2_prefers : eg_C := ([(0, .aload_n 0, 1), (1, .getfield 29, 3), (4, .iload_n 1, 1), (5, .iaload, 1), (6, .iconst (-1), 1), (7, .if_icmp .eq 27, 3), (10, .aload_n 0, 1), (11, .getfield 20, 3), (14, .iload_n 1, 1), (15, .aaload, 1), (16, .iload_n 2, 1), (17, .iaload, 1), (18, .aload_n 0, 1), (19, .getfield 20, 3), (22, .iload_n 1, 1), (23, .aaload, 1), (24, .aload_n 0, 1), (25, .getfield 29, 3), (28, .iload_n 1, 1), (29, .iaload, 1), (30, .iaload, 1), (31, .if_icmp .ge 7, 3), (34, .iconst 1, 1), (35, .goto 4, 3), (38, .iconst 0, 1), (39, .ireturn, 1)], [(20, 2, 2, false), (29, 2, 5, false)], [], [], [], 2, 0, 0)
def s_X2_prefers : eg_S := eg_auto wd k_X2_prefers 3 (some 2) 28
theorem mk_X2_prefers : ∀ q ∈ k_X2_prefers.2.2.2.1, eg_mono q.2.2.2.2 := (fn)
theorem mo_X2_prefers : eg_mono s_X2_prefers := eg_auto_mono mk_X2_prefers
theorem de_X2_prefers : ∀ q ∈ k_X2_prefers.1, decode cX2_prefers q.1 = .ok q.2 := by decide +kernel
theorem me_X2_prefers (g : gl_T) : MT g yX2_prefers cX2_prefers 3 (some .boolean) ⟨0, 0, 0, 0⟩ 0 0 s_X2_prefers := by
  intro hl
  exact eg_met_of (k := k_X2_prefers) (by decide) rfl ⟨Nat.le_refl _, Nat.le_refl _⟩ rfl eg_auto_len de_X2_prefers (fun meth hn => (fc (eg_FL_of wd_c2 (by decide) lf_RX2_20 (fun h => absurd h (by decide))) (fc (eg_FL_of wd_c2 (by decide) lf_RX2_29 (fun h => absurd h (by decide))) (fn)))) (fun A s H hE => (fn)) (fun p e s m args below meth c Q A ad0 N0 S0 hK hEx hA => (fn)) (fun p e s m args below meth c Qc XC A ad0 N0 P S0 hK hEx hA hlk hout hPX => (fn)) (fun argv M Qp h => eg_auto_T mk_X2_prefers h)

def k_X3_forget : eg_C := ([(0, .aload_n 0, 1), (1, .iconst (-1), 1), (2, .putfield 39, 3), (5, .return_, 1)], [(39, 3, 4, true)], [], [], [], 0, 0, 0)
def s_X3_forget : eg_S := eg_auto wd k_X3_forget 1 (some 3) 6
theorem mk_X3_forget : ∀ q ∈ k_X3_forget.2.2.2.1, eg_mono q.2.2.2.2 := (fn)
theorem mo_X3_forget : eg_mono s_X3_forget := eg_auto_mono mk_X3_forget
theorem de_X3_forget : ∀ q ∈ k_X3_forget.1, decode cX3_forget q.1 = .ok q.2 := by decide +kernel
theorem me_X3_forget (g : gl_T) : MT g yX3_forget cX3_forget 1 none ⟨0, 0, 0, 0⟩ 0 0 s_X3_forget := by
  intro hl
  exact eg_met_of (k := k_X3_forget) (by decide) rfl ⟨Nat.le_refl _, Nat.le_refl _⟩ rfl eg_auto_len de_X3_forget (fun meth hn => (fc (eg_FL_of wd_c3 (by decide) lf_RX3_39 (fun _ => Or.inl rfl)) (fn))) (fun A s H hE => (fn)) (fun p e s m args below meth c Q A ad0 N0 S0 hK hEx hA => (fn)) (fun p e s m args below meth c Qc XC A ad0 N0 P S0 hK hEx hA hlk hout hPX => (fn)) (fun argv M Qp h => eg_auto_T mk_X3_forget h)

def k_X3_chain : eg_C := ([(0, .aload_n 0, 1), (1, .getfield 28, 3), (4, .getfield 120, 3), (7, .iload_n 1, 1), (8, .iaload, 1), (9, .istore_n 3, 1), (10, .aload_n 0, 1), (11, .getfield 58, 3), (14, .iload_n 1, 1), (15, .aload_n 2, 1), (16, .iload_n 3, 1), (17, .iaload, 1), (18, .iastore, 1), (19, .aload_n 0, 1), (20, .getfield 61, 3), (23, .iload_n 1, 1), (24, .aload_n 2, 1), (25, .iload_n 3, 1), (26, .iaload, 1), (27, .iconst (-1), 1), (28, .if_icmp .ne 7, 3), (31, .iconst 0, 1), (32, .goto 13, 3), (35, .aload_n 0, 1), (36, .getfield 61, 3), (39, .aload_n 2, 1), (40, .iload_n 3, 1), (41, .iaload, 1), (42, .iaload, 1), (43, .iconst 1, 1), (44, .iadd, 1), (45, .iastore, 1), (46, .aload_n 2, 1), (47, .iload_n 3, 1), (48, .iload_n 1, 1), (49, .iastore, 1), (50, .return_, 1)], [(28, 3, 2, false), (58, 3, 8, false), (61, 3, 9, false), (120, 1, 1, false)], [], [], [], 0, 0, 0)
def s_X3_chain : eg_S := eg_auto wd k_X3_chain 4 (some 3) 39
theorem mk_X3_chain : ∀ q ∈ k_X3_chain.2.2.2.1, eg_mono q.2.2.2.2 := (fn)
theorem mo_X3_chain : eg_mono s_X3_chain := eg_auto_mono mk_X3_chain
theorem de_X3_chain : ∀ q ∈ k_X3_chain.1, decode cX3_chain q.1 = .ok q.2 := by decide +kernel
theorem me_X3_chain (g : gl_T) : MT g yX3_chain cX3_chain 4 none ⟨0, 0, 0, 0⟩ 0 0 s_X3_chain := by
  intro hl
  exact eg_met_of (k := k_X3_chain) (by decide) rfl ⟨Nat.le_refl _, Nat.le_refl _⟩ rfl eg_auto_len de_X3_chain (fun meth hn => (fc (eg_FL_of wd_c3 (by decide) lf_RX3_28 (fun h => absurd h (by decide))) (fc (eg_FL_of wd_c3 (by decide) lf_RX3_58 (fun h => absurd h (by decide))) (fc (eg_FL_of wd_c3 (by decide) lf_RX3_61 (fun h => absurd h (by decide))) (fc (eg_FL_of wd_c1 (by decide) lf_RX3_120 (fun h => absurd h (by decide))) (fn)))))) (fun A s H hE => (fn)) (fun p e s m args below meth c Q A ad0 N0 S0 hK hEx hA => (fn)) (fun p e s m args below meth c Qc XC A ad0 N0 P S0 hK hEx hA hlk hout hPX => (fn)) (fun argv M Qp h => eg_auto_T mk_X3_chain h)

def k_X3_isKnown : eg_C := ([(0, .aload_n 0, 1), (1, .getfield 28, 3), (4, .getfield 140, 3), (7, .iload_n 1, 1), (8, .iaload, 1), (9, .aload_n 0, 1), (10, .getfield 39, 3), (13, .if_icmp .gt 23, 3), (16, .aload_n 0, 1), (17, .getfield 39, 3), (20, .aload_n 0, 1), (21, .getfield 28, 3), (24, .getfield 143, 3), (27, .iload_n 1, 1), (28, .iaload, 1), (29, .if_icmp .ge 7, 3), (32, .iconst 1, 1), (33, .goto 4, 3), (36, .iconst 0, 1), (37, .ireturn, 1)], [(28, 3, 2, false), (39, 3, 4, false), (140, 1, 7, false), (143, 1, 8, false)], [], [], [], 2, 0, 0)
def s_X3_isKnown : eg_S := eg_auto wd k_X3_isKnown 2 (some 3) 22
theorem mk_X3_isKnown : ∀ q ∈ k_X3_isKnown.2.2.2.1, eg_mono q.2.2.2.2 := (fn)
theorem mo_X3_isKnown : eg_mono s_X3_isKnown := eg_auto_mono mk_X3_isKnown
theorem de_X3_isKnown : ∀ q ∈ k_X3_isKnown.1, decode cX3_isKnown q.1 = .ok q.2 := by decide +kernel
theorem me_X3_isKnown (g : gl_T) : MT g yX3_isKnown cX3_isKnown 2 (some .boolean) ⟨0, 0, 0, 0⟩ 0 0 s_X3_isKnown := by
  intro hl
  exact eg_met_of (k := k_X3_isKnown) (by decide) rfl ⟨Nat.le_refl _, Nat.le_refl _⟩ rfl eg_auto_len de_X3_isKnown (fun meth hn => (fc (eg_FL_of wd_c3 (by decide) lf_RX3_28 (fun h => absurd h (by decide))) (fc (eg_FL_of wd_c3 (by decide) lf_RX3_39 (fun h => absurd h (by decide))) (fc (eg_FL_of wd_c1 (by decide) lf_RX3_140 (fun h => absurd h (by decide))) (fc (eg_FL_of wd_c1 (by decide) lf_RX3_143 (fun h => absurd h (by decide))) (fn)))))) (fun A s H hE => (fn)) (fun p e s m args below meth c Q A ad0 N0 S0 hK hEx hA => (fn)) (fun p e s m args below meth c Qc XC A ad0 N0 P S0 hK hEx hA hlk hout hPX => (fn)) (fun argv M Qp h => eg_auto_T mk_X3_isKnown h)

def k_X3_isAlive : eg_C := ([(0, .aload_n 0, 1), (1, .getfield 21, 3), (4, .getfield 146, 3), (7, .iload_n 1, 1), (8, .iaload, 1), (9, .iload_n 2, 1), (10, .if_icmp .gt 17, 3), (13, .iload_n 2, 1), (14, .aload_n 0, 1), (15, .getfield 50, 3), (18, .iload_n 1, 1), (19, .iaload, 1), (20, .if_icmp .ge 7, 3), (23, .iconst 1, 1), (24, .goto 4, 3), (27, .iconst 0, 1), (28, .ireturn, 1)], [(21, 3, 1, false), (50, 3, 6, false), (146, 0, 2, false)], [], [], [], 2, 0, 0)
def s_X3_isAlive : eg_S := eg_auto wd k_X3_isAlive 3 (some 3) 19
theorem mk_X3_isAlive : ∀ q ∈ k_X3_isAlive.2.2.2.1, eg_mono q.2.2.2.2 := (fn)
theorem mo_X3_isAlive : eg_mono s_X3_isAlive := eg_auto_mono mk_X3_isAlive
theorem de_X3_isAlive : ∀ q ∈ k_X3_isAlive.1, decode cX3_isAlive q.1 = .ok q.2 := by decide +kernel
theorem me_X3_isAlive (g : gl_T) : MT g yX3_isAlive cX3_isAlive 3 (some .boolean) ⟨0, 0, 0, 0⟩ 0 0 s_X3_isAlive := by
  intro hl
  exact eg_met_of (k := k_X3_isAlive) (by decide) rfl ⟨Nat.le_refl _, Nat.le_refl _⟩ rfl eg_auto_len de_X3_isAlive (fun meth hn => (fc (eg_FL_of wd_c3 (by decide) lf_RX3_21 (fun h => absurd h (by decide))) (fc (eg_FL_of wd_c3 (by decide) lf_RX3_50 (fun h => absurd h (by decide))) (fc (eg_FL_of wd_c0 (by decide) lf_RX3_146 (fun h => absurd h (by decide))) (fn))))) (fun A s H hE => (fn)) (fun p e s m args below meth c Q A ad0 N0 S0 hK hEx hA => (fn)) (fun p e s m args below meth c Qc XC A ad0 N0 P S0 hK hEx hA hlk hout hPX => (fn)) (fun argv M Qp h => eg_auto_T mk_X3_isAlive h)

def k_X3_holds : eg_C := ([(0, .aload_n 0, 1), (1, .getfield 28, 3), (4, .getfield 113, 3), (7, .iload_n 1, 1), (8, .iaload, 1), (9, .ifCond .ne 11, 3), (12, .aload_n 0, 1), (13, .iload_n 1, 1), (14, .invokevirtual 116, 3), (17, .goto 9, 3), (20, .aload_n 0, 1), (21, .getfield 54, 3), (24, .iload_n 1, 1), (25, .baload, 1), (26, .ireturn, 1)], [(28, 3, 2, false), (54, 3, 7, false), (113, 1, 0, false)], [], [(116, 1 + 1, 0, 0, s_X3_isKnown)], [], 2, 0, 0)
def s_X3_holds : eg_S := eg_auto wd k_X3_holds 2 (some 3) 17
theorem mk_X3_holds : ∀ q ∈ k_X3_holds.2.2.2.1, eg_mono q.2.2.2.2 := (fc (mo_X3_isKnown) (fn))
theorem mo_X3_holds : eg_mono s_X3_holds := eg_auto_mono mk_X3_holds
theorem de_X3_holds : ∀ q ∈ k_X3_holds.1, decode cX3_holds q.1 = .ok q.2 := by decide +kernel
theorem me_X3_holds (g : gl_T) : MT g yX3_holds cX3_holds 2 (some .boolean) ⟨1, 0, 0, 21⟩ 0 0 s_X3_holds := by
  intro hl
  exact eg_met_of (k := k_X3_holds) (by decide) rfl ⟨Nat.le_refl _, Nat.le_refl _⟩ rfl eg_auto_len de_X3_holds (fun meth hn => (fc (eg_FL_of wd_c3 (by decide) lf_RX3_28 (fun h => absurd h (by decide))) (fc (eg_FL_of wd_c3 (by decide) lf_RX3_54 (fun h => absurd h (by decide))) (fc (eg_FL_of wd_c1 (by decide) lf_RX3_113 (fun h => absurd h (by decide))) (fn))))) (fun A s H hE => (fn)) (fun p e s m args below meth c Q A ad0 N0 S0 hK hEx hA => (fc (mt_V hl S0 hK hEx hA (me_X3_isKnown g) lm_RX3_116 li_X3_isKnown lx_X3_isKnown ln_RX3 lc_X3_isKnown ⟨rfl, by decide, by decide, by decide +kernel⟩ ⟨rfl, rfl⟩ ⟨by decide, by decide⟩ (ci := 3) rfl rfl eg_auto_rec (by decide)) (fn))) (fun p e s m args below meth c Qc XC A ad0 N0 P S0 hK hEx hA hlk hout hPX => (fn)) (fun argv M Qp h => eg_auto_T mk_X3_holds h)

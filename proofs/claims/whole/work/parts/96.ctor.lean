/-! the constructors of the class -/
def s_X9_ini0 : eg_S := fun argv M Qp => match argv with
  | [.ref 2] => M = mem 3 ∧ Qp (.inl none) (mem 12)
  | _ => False
theorem mo_X9_ini0 : eg_mono s_X9_ini0 := by
  intro argv M Q Q' h
  unfold s_X9_ini0
  split
  · exact fun z => ⟨z.1, h _ _ z.2⟩
  · exact id
theorem sz_X9_ini0 : ∀ argv M Qp, s_X9_ini0 argv M Qp → (eg_ls0 argv).length ≤ 1 := by
  intro argv M Qp h
  unfold s_X9_ini0 at h
  split at h
  · exact Nat.le_of_ble_eq_true rfl
  · exact h.elim
theorem si_X9_ini0 : ∀ argv M Qp, s_X9_ini0 argv M Qp → ∃ p0 As, argv = .ref p0 :: As := by
  intro argv M Qp h
  unfold s_X9_ini0 at h
  split at h
  · exact ⟨_, _, rfl⟩
  · exact h.elim
theorem nt_X9_ini0 : ∀ argv M Qp, s_X9_ini0 argv M Qp → s_X9_ini0 argv M (fun r N => match r with
    | .inl v => Qp (.inl v) N
    | .inr _ => False) := by
  intro argv M Qp h
  unfold s_X9_ini0 at h ⊢
  split at h
  · exact h
  · exact h.elim
def k_X9_ini0 : eg_C := ([(0, .aload_n 0, 1), (1, .invokespecial 3, 3), (4, .aload_n 0, 1), (5, .bipush 16, 2), (7, .newarray .int, 2), (9, .putfield 9, 3), (12, .aload_n 0, 1), (13, .bipush 16, 2), (15, .newarray .int, 2), (17, .putfield 15, 3), (20, .aload_n 0, 1), (21, .bipush 16, 2), (23, .newarray .int, 2), (25, .putfield 18, 3), (28, .aload_n 0, 1), (29, .bipush 16, 2), (31, .newarray .int, 2), (33, .putfield 21, 3), (36, .aload_n 0, 1), (37, .iconst 0, 1), (38, .putfield 24, 3), (41, .return_, 1)], [(9, 9, 0, true), (15, 9, 1, true), (18, 9, 2, true), (21, 9, 3, true), (24, 9, 4, true)], [], [(3 + 200000, 1, 0, 0, eg_So), (300001, 1, 1, 16, s_newa w0 1 16)], [], 0, 4, 64)
theorem mk_X9_ini0 : ∀ q ∈ k_X9_ini0.2.2.2.1, eg_mono q.2.2.2.2 := (fc (mo_So) (fc (mo_newa w0 1 16) (fn)))
set_option maxRecDepth 100000 in
set_option maxHeartbeats 4000000 in
theorem T_X9_ini0 {argv : List Value} {M : eg_M} {Qp : eg_P} (h : s_X9_ini0 argv M Qp) : eg_T w0 k_X9_ini0 Qp 0 0 0 (eg_lsN 1 argv) [] M := by
  unfold s_X9_ini0 at h
  split at h
  · obtain ⟨rfl, hq⟩ := h
    refine (?_ : eg_T w0 k_X9_ini0 Qp 0 0 0 [some (.ref 2)] [] (mem 3))
    refine eg_T_run mk_X9_ini0 (cut := [1]) 12 (?_ : eg_T w0 k_X9_ini0 Qp 1 0 0 [some (.ref 2)] [.ref 2] (mem 3))
    refine x_call (j := 3) (n := 1) (kc := 0) (ks := 0) (S := eg_So) (av := [.ref 2]) (st := []) (M' := mem 3) mk_X9_ini0 rfl rfl rfl rfl rfl rfl ⟨rfl, rfl⟩ mo_So (?_ : eg_T w0 k_X9_ini0 Qp 4 0 0 [some (.ref 2)] [] (mem 3))
    refine eg_T_run mk_X9_ini0 (cut := [7]) 12 (?_ : eg_T w0 k_X9_ini0 Qp 7 0 0 [some (.ref 2)] [.int (nI 16), .ref 2] (mem 3))
    refine x_newa (t := .int) (kd := 1) (ks := 16) (q := 3) (len := 16) mk_X9_ini0 rfl rfl rfl rfl (by decide) (n_c (by decide)) ⟨by decide, by decide⟩ (sN (by decide +kernel)) (sM (o := (0, 1, 16, 0)) (by decide +kernel)) (?_ : eg_T w0 k_X9_ini0 Qp 9 1 16 [some (.ref 2)] [.ref 3, .ref 2] (mem 4))
    refine x_putr (j := 9) (ci := 9) (f := 0) (p := 2) (q := 3) mk_X9_ini0 rfl rfl rfl (so (by decide +kernel)) (sM (o := (2, 2, 0, 3)) (by decide +kernel)) (?_ : eg_T w0 k_X9_ini0 Qp 12 1 16 [some (.ref 2)] [] (mem 5))
    refine eg_T_run mk_X9_ini0 (cut := [15]) 12 (?_ : eg_T w0 k_X9_ini0 Qp 15 1 16 [some (.ref 2)] [.int (nI 16), .ref 2] (mem 5))
    refine x_newa (t := .int) (kd := 1) (ks := 16) (q := 4) (len := 16) mk_X9_ini0 rfl rfl rfl rfl (by decide) (n_c (by decide)) ⟨by decide, by decide⟩ (sN (by decide +kernel)) (sM (o := (0, 1, 16, 0)) (by decide +kernel)) (?_ : eg_T w0 k_X9_ini0 Qp 17 2 32 [some (.ref 2)] [.ref 4, .ref 2] (mem 6))
    refine x_putr (j := 15) (ci := 9) (f := 1) (p := 2) (q := 4) mk_X9_ini0 rfl rfl rfl (so (by decide +kernel)) (sM (o := (2, 2, 1, 4)) (by decide +kernel)) (?_ : eg_T w0 k_X9_ini0 Qp 20 2 32 [some (.ref 2)] [] (mem 7))
    refine eg_T_run mk_X9_ini0 (cut := [23]) 12 (?_ : eg_T w0 k_X9_ini0 Qp 23 2 32 [some (.ref 2)] [.int (nI 16), .ref 2] (mem 7))
    refine x_newa (t := .int) (kd := 1) (ks := 16) (q := 5) (len := 16) mk_X9_ini0 rfl rfl rfl rfl (by decide) (n_c (by decide)) ⟨by decide, by decide⟩ (sN (by decide +kernel)) (sM (o := (0, 1, 16, 0)) (by decide +kernel)) (?_ : eg_T w0 k_X9_ini0 Qp 25 3 48 [some (.ref 2)] [.ref 5, .ref 2] (mem 8))
    refine x_putr (j := 18) (ci := 9) (f := 2) (p := 2) (q := 5) mk_X9_ini0 rfl rfl rfl (so (by decide +kernel)) (sM (o := (2, 2, 2, 5)) (by decide +kernel)) (?_ : eg_T w0 k_X9_ini0 Qp 28 3 48 [some (.ref 2)] [] (mem 9))
    refine eg_T_run mk_X9_ini0 (cut := [31]) 12 (?_ : eg_T w0 k_X9_ini0 Qp 31 3 48 [some (.ref 2)] [.int (nI 16), .ref 2] (mem 9))
    refine x_newa (t := .int) (kd := 1) (ks := 16) (q := 6) (len := 16) mk_X9_ini0 rfl rfl rfl rfl (by decide) (n_c (by decide)) ⟨by decide, by decide⟩ (sN (by decide +kernel)) (sM (o := (0, 1, 16, 0)) (by decide +kernel)) (?_ : eg_T w0 k_X9_ini0 Qp 33 4 64 [some (.ref 2)] [.ref 6, .ref 2] (mem 10))
    refine x_putr (j := 21) (ci := 9) (f := 3) (p := 2) (q := 6) mk_X9_ini0 rfl rfl rfl (so (by decide +kernel)) (sM (o := (2, 2, 3, 6)) (by decide +kernel)) (?_ : eg_T w0 k_X9_ini0 Qp 36 4 64 [some (.ref 2)] [] (mem 11))
    refine eg_T_run mk_X9_ini0 (cut := [38]) 12 (?_ : eg_T w0 k_X9_ini0 Qp 38 4 64 [some (.ref 2)] [.int (nI 0), .ref 2] (mem 11))
    refine x_puti (j := 24) (ci := 9) (f := 4) (p := 2) mk_X9_ini0 rfl rfl rfl (so (by decide +kernel)) (sM (o := (1, 2, 4, 0)) (by decide +kernel)) (?_ : eg_T w0 k_X9_ini0 Qp 41 4 64 [some (.ref 2)] [] (mem 12))
    exact x_ret mk_X9_ini0 rfl rfl rfl hq
  · exact h.elim
theorem de_X9_ini0 : ∀ q ∈ k_X9_ini0.1, decode cX9_init q.1 = .ok q.2 := by decide +kernel
theorem me_X9_ini0 (g : gl_T) : MT0 g yX9_init cX9_init 1 none ⟨1, 4, 64, 20⟩ 4 64 s_X9_ini0 := by
  intro hl
  exact eg_met_of (k := k_X9_ini0) (by decide) rfl ⟨Nat.le_refl _, Nat.le_refl _⟩ rfl sz_X9_ini0 de_X9_ini0 (fun meth hn => (fc (eg_FL_of0 wd_c9 (by decide) lf_RX9_9 (fun _ => Or.inr ⟨rfl, hn, rfl⟩)) (fc (eg_FL_of0 wd_c9 (by decide) lf_RX9_15 (fun _ => Or.inr ⟨rfl, hn, rfl⟩)) (fc (eg_FL_of0 wd_c9 (by decide) lf_RX9_18 (fun _ => Or.inr ⟨rfl, hn, rfl⟩)) (fc (eg_FL_of0 wd_c9 (by decide) lf_RX9_21 (fun _ => Or.inr ⟨rfl, hn, rfl⟩)) (fc (eg_FL_of0 wd_c9 (by decide) lf_RX9_24 (fun _ => Or.inl rfl)) (fn))))))) (fun A s H hE => (fn)) (fun p e s m args below meth c Q A ad0 N0 S0 hK hEx hA => (fc (mz_O S0 lm_RX9_3 (by decide) (by decide) (by decide)) (fc (mz_i S0 hK hA) (fn)))) (fun p e s m args below meth c Qc XC A ad0 N0 P S0 hK hEx hA hlk hout hPX => (fn)) (fun argv M Qp h => T_X9_ini0 h)
def s_X0_ini0 : eg_S := fun argv M Qp => match argv with
  | [.ref 7] => M = mem 14 ∧ Qp (.inl none) (mem 23)
  | _ => False
theorem mo_X0_ini0 : eg_mono s_X0_ini0 := by
  intro argv M Q Q' h
  unfold s_X0_ini0
  split
  · exact fun z => ⟨z.1, h _ _ z.2⟩
  · exact id
theorem sz_X0_ini0 : ∀ argv M Qp, s_X0_ini0 argv M Qp → (eg_ls0 argv).length ≤ 1 := by
  intro argv M Qp h
  unfold s_X0_ini0 at h
  split at h
  · exact Nat.le_of_ble_eq_true rfl
  · exact h.elim
theorem si_X0_ini0 : ∀ argv M Qp, s_X0_ini0 argv M Qp → ∃ p0 As, argv = .ref p0 :: As := by
  intro argv M Qp h
  unfold s_X0_ini0 at h
  split at h
  · exact ⟨_, _, rfl⟩
  · exact h.elim
theorem nt_X0_ini0 : ∀ argv M Qp, s_X0_ini0 argv M Qp → s_X0_ini0 argv M (fun r N => match r with
    | .inl v => Qp (.inl v) N
    | .inr _ => False) := by
  intro argv M Qp h
  unfold s_X0_ini0 at h ⊢
  split at h
  · exact h
  · exact h.elim
def k_X0_ini0 : eg_C := ([(0, .aload_n 0, 1), (1, .invokespecial 3, 3), (4, .aload_n 0, 1), (5, .bipush 24, 2), (7, .newarray .int, 2), (9, .putfield 9, 3), (12, .aload_n 0, 1), (13, .bipush 24, 2), (15, .newarray .int, 2), (17, .putfield 15, 3), (20, .aload_n 0, 1), (21, .bipush 24, 2), (23, .newarray .int, 2), (25, .putfield 18, 3), (28, .aload_n 0, 1), (29, .bipush 24, 2), (31, .newarray .int, 2), (33, .putfield 21, 3), (36, .aload_n 0, 1), (37, .iconst 0, 1), (38, .putfield 24, 3), (41, .return_, 1)], [(9, 0, 0, true), (15, 0, 1, true), (18, 0, 2, true), (21, 0, 3, true), (24, 0, 4, true)], [], [(3 + 200000, 1, 0, 0, eg_So), (300001, 1, 1, 24, s_newa w0 1 24)], [], 0, 4, 96)
theorem mk_X0_ini0 : ∀ q ∈ k_X0_ini0.2.2.2.1, eg_mono q.2.2.2.2 := (fc (mo_So) (fc (mo_newa w0 1 24) (fn)))
set_option maxRecDepth 100000 in
set_option maxHeartbeats 4000000 in
theorem T_X0_ini0 {argv : List Value} {M : eg_M} {Qp : eg_P} (h : s_X0_ini0 argv M Qp) : eg_T w0 k_X0_ini0 Qp 0 0 0 (eg_lsN 1 argv) [] M := by
  unfold s_X0_ini0 at h
  split at h
  · obtain ⟨rfl, hq⟩ := h
    refine (?_ : eg_T w0 k_X0_ini0 Qp 0 0 0 [some (.ref 7)] [] (mem 14))
    refine eg_T_run mk_X0_ini0 (cut := [1]) 12 (?_ : eg_T w0 k_X0_ini0 Qp 1 0 0 [some (.ref 7)] [.ref 7] (mem 14))
    refine x_call (j := 3) (n := 1) (kc := 0) (ks := 0) (S := eg_So) (av := [.ref 7]) (st := []) (M' := mem 14) mk_X0_ini0 rfl rfl rfl rfl rfl rfl ⟨rfl, rfl⟩ mo_So (?_ : eg_T w0 k_X0_ini0 Qp 4 0 0 [some (.ref 7)] [] (mem 14))
    refine eg_T_run mk_X0_ini0 (cut := [7]) 12 (?_ : eg_T w0 k_X0_ini0 Qp 7 0 0 [some (.ref 7)] [.int (nI 24), .ref 7] (mem 14))
    refine x_newa (t := .int) (kd := 1) (ks := 24) (q := 8) (len := 24) mk_X0_ini0 rfl rfl rfl rfl (by decide) (n_c (by decide)) ⟨by decide, by decide⟩ (sN (by decide +kernel)) (sM (o := (0, 1, 24, 0)) (by decide +kernel)) (?_ : eg_T w0 k_X0_ini0 Qp 9 1 24 [some (.ref 7)] [.ref 8, .ref 7] (mem 15))
    refine x_putr (j := 9) (ci := 0) (f := 0) (p := 7) (q := 8) mk_X0_ini0 rfl rfl rfl (so (by decide +kernel)) (sM (o := (2, 7, 0, 8)) (by decide +kernel)) (?_ : eg_T w0 k_X0_ini0 Qp 12 1 24 [some (.ref 7)] [] (mem 16))
    refine eg_T_run mk_X0_ini0 (cut := [15]) 12 (?_ : eg_T w0 k_X0_ini0 Qp 15 1 24 [some (.ref 7)] [.int (nI 24), .ref 7] (mem 16))
    refine x_newa (t := .int) (kd := 1) (ks := 24) (q := 9) (len := 24) mk_X0_ini0 rfl rfl rfl rfl (by decide) (n_c (by decide)) ⟨by decide, by decide⟩ (sN (by decide +kernel)) (sM (o := (0, 1, 24, 0)) (by decide +kernel)) (?_ : eg_T w0 k_X0_ini0 Qp 17 2 48 [some (.ref 7)] [.ref 9, .ref 7] (mem 17))
    refine x_putr (j := 15) (ci := 0) (f := 1) (p := 7) (q := 9) mk_X0_ini0 rfl rfl rfl (so (by decide +kernel)) (sM (o := (2, 7, 1, 9)) (by decide +kernel)) (?_ : eg_T w0 k_X0_ini0 Qp 20 2 48 [some (.ref 7)] [] (mem 18))
    refine eg_T_run mk_X0_ini0 (cut := [23]) 12 (?_ : eg_T w0 k_X0_ini0 Qp 23 2 48 [some (.ref 7)] [.int (nI 24), .ref 7] (mem 18))
    refine x_newa (t := .int) (kd := 1) (ks := 24) (q := 10) (len := 24) mk_X0_ini0 rfl rfl rfl rfl (by decide) (n_c (by decide)) ⟨by decide, by decide⟩ (sN (by decide +kernel)) (sM (o := (0, 1, 24, 0)) (by decide +kernel)) (?_ : eg_T w0 k_X0_ini0 Qp 25 3 72 [some (.ref 7)] [.ref 10, .ref 7] (mem 19))
    refine x_putr (j := 18) (ci := 0) (f := 2) (p := 7) (q := 10) mk_X0_ini0 rfl rfl rfl (so (by decide +kernel)) (sM (o := (2, 7, 2, 10)) (by decide +kernel)) (?_ : eg_T w0 k_X0_ini0 Qp 28 3 72 [some (.ref 7)] [] (mem 20))
    refine eg_T_run mk_X0_ini0 (cut := [31]) 12 (?_ : eg_T w0 k_X0_ini0 Qp 31 3 72 [some (.ref 7)] [.int (nI 24), .ref 7] (mem 20))
    refine x_newa (t := .int) (kd := 1) (ks := 24) (q := 11) (len := 24) mk_X0_ini0 rfl rfl rfl rfl (by decide) (n_c (by decide)) ⟨by decide, by decide⟩ (sN (by decide +kernel)) (sM (o := (0, 1, 24, 0)) (by decide +kernel)) (?_ : eg_T w0 k_X0_ini0 Qp 33 4 96 [some (.ref 7)] [.ref 11, .ref 7] (mem 21))
    refine x_putr (j := 21) (ci := 0) (f := 3) (p := 7) (q := 11) mk_X0_ini0 rfl rfl rfl (so (by decide +kernel)) (sM (o := (2, 7, 3, 11)) (by decide +kernel)) (?_ : eg_T w0 k_X0_ini0 Qp 36 4 96 [some (.ref 7)] [] (mem 22))
    refine eg_T_run mk_X0_ini0 (cut := [38]) 12 (?_ : eg_T w0 k_X0_ini0 Qp 38 4 96 [some (.ref 7)] [.int (nI 0), .ref 7] (mem 22))
    refine x_puti (j := 24) (ci := 0) (f := 4) (p := 7) mk_X0_ini0 rfl rfl rfl (so (by decide +kernel)) (sM (o := (1, 7, 4, 0)) (by decide +kernel)) (?_ : eg_T w0 k_X0_ini0 Qp 41 4 96 [some (.ref 7)] [] (mem 23))
    exact x_ret mk_X0_ini0 rfl rfl rfl hq
  · exact h.elim
theorem de_X0_ini0 : ∀ q ∈ k_X0_ini0.1, decode cX0_init q.1 = .ok q.2 := by decide +kernel
theorem me_X0_ini0 (g : gl_T) : MT0 g yX0_init cX0_init 1 none ⟨1, 4, 96, 20⟩ 4 96 s_X0_ini0 := by
  intro hl
  exact eg_met_of (k := k_X0_ini0) (by decide) rfl ⟨Nat.le_refl _, Nat.le_refl _⟩ rfl sz_X0_ini0 de_X0_ini0 (fun meth hn => (fc (eg_FL_of0 wd_c0 (by decide) lf_RX0_9 (fun _ => Or.inr ⟨rfl, hn, rfl⟩)) (fc (eg_FL_of0 wd_c0 (by decide) lf_RX0_15 (fun _ => Or.inr ⟨rfl, hn, rfl⟩)) (fc (eg_FL_of0 wd_c0 (by decide) lf_RX0_18 (fun _ => Or.inr ⟨rfl, hn, rfl⟩)) (fc (eg_FL_of0 wd_c0 (by decide) lf_RX0_21 (fun _ => Or.inr ⟨rfl, hn, rfl⟩)) (fc (eg_FL_of0 wd_c0 (by decide) lf_RX0_24 (fun _ => Or.inl rfl)) (fn))))))) (fun A s H hE => (fn)) (fun p e s m args below meth c Q A ad0 N0 S0 hK hEx hA => (fc (mz_O S0 lm_RX0_3 (by decide) (by decide) (by decide)) (fc (mz_i S0 hK hA) (fn)))) (fun p e s m args below meth c Qc XC A ad0 N0 P S0 hK hEx hA hlk hout hPX => (fn)) (fun argv M Qp h => T_X0_ini0 h)
def s_X1_ini0 : eg_S := fun argv M Qp => match argv with
  | [.ref 12] => M = mem 25 ∧ Qp (.inl none) (mem 46)
  | _ => False
theorem mo_X1_ini0 : eg_mono s_X1_ini0 := by
  intro argv M Q Q' h
  unfold s_X1_ini0
  split
  · exact fun z => ⟨z.1, h _ _ z.2⟩
  · exact id
theorem sz_X1_ini0 : ∀ argv M Qp, s_X1_ini0 argv M Qp → (eg_ls0 argv).length ≤ 1 := by
  intro argv M Qp h
  unfold s_X1_ini0 at h
  split at h
  · exact Nat.le_of_ble_eq_true rfl
  · exact h.elim
theorem si_X1_ini0 : ∀ argv M Qp, s_X1_ini0 argv M Qp → ∃ p0 As, argv = .ref p0 :: As := by
  intro argv M Qp h
  unfold s_X1_ini0 at h
  split at h
  · exact ⟨_, _, rfl⟩
  · exact h.elim
theorem nt_X1_ini0 : ∀ argv M Qp, s_X1_ini0 argv M Qp → s_X1_ini0 argv M (fun r N => match r with
    | .inl v => Qp (.inl v) N
    | .inr _ => False) := by
  intro argv M Qp h
  unfold s_X1_ini0 at h ⊢
  split at h
  · exact h
  · exact h.elim
def k_X1_ini0 : eg_C := ([(0, .aload_n 0, 1), (1, .invokespecial 3, 3), (4, .aload_n 0, 1), (5, .sipush 200, 3), (8, .newarray .int, 2), (10, .putfield 9, 3), (13, .aload_n 0, 1), (14, .sipush 200, 3), (17, .newarray .int, 2), (19, .putfield 15, 3), (22, .aload_n 0, 1), (23, .sipush 200, 3), (26, .newarray .int, 2), (28, .putfield 18, 3), (31, .aload_n 0, 1), (32, .sipush 200, 3), (35, .newarray .int, 2), (37, .putfield 21, 3), (40, .aload_n 0, 1), (41, .sipush 200, 3), (44, .newarray .int, 2), (46, .putfield 24, 3), (49, .aload_n 0, 1), (50, .sipush 200, 3), (53, .newarray .int, 2), (55, .putfield 27, 3), (58, .aload_n 0, 1), (59, .sipush 200, 3), (62, .newarray .int, 2), (64, .putfield 30, 3), (67, .aload_n 0, 1), (68, .sipush 200, 3), (71, .newarray .int, 2), (73, .putfield 33, 3), (76, .aload_n 0, 1), (77, .sipush 200, 3), (80, .newarray .int, 2), (82, .putfield 36, 3), (85, .aload_n 0, 1), (86, .sipush 200, 3), (89, .newarray .int, 2), (91, .putfield 39, 3), (94, .aload_n 0, 1), (95, .iconst 0, 1), (96, .putfield 42, 3), (99, .return_, 1)], [(9, 1, 0, true), (15, 1, 1, true), (18, 1, 2, true), (21, 1, 3, true), (24, 1, 4, true), (27, 1, 5, true), (30, 1, 6, true), (33, 1, 7, true), (36, 1, 8, true), (39, 1, 9, true), (42, 1, 10, true)], [], [(3 + 200000, 1, 0, 0, eg_So), (300001, 1, 1, 200, s_newa w0 1 200)], [], 0, 10, 2000)
theorem mk_X1_ini0 : ∀ q ∈ k_X1_ini0.2.2.2.1, eg_mono q.2.2.2.2 := (fc (mo_So) (fc (mo_newa w0 1 200) (fn)))
set_option maxRecDepth 100000 in
set_option maxHeartbeats 4000000 in
theorem T_X1_ini0 {argv : List Value} {M : eg_M} {Qp : eg_P} (h : s_X1_ini0 argv M Qp) : eg_T w0 k_X1_ini0 Qp 0 0 0 (eg_lsN 1 argv) [] M := by
  unfold s_X1_ini0 at h
  split at h
  · obtain ⟨rfl, hq⟩ := h
    refine (?_ : eg_T w0 k_X1_ini0 Qp 0 0 0 [some (.ref 12)] [] (mem 25))
    refine eg_T_run mk_X1_ini0 (cut := [1]) 12 (?_ : eg_T w0 k_X1_ini0 Qp 1 0 0 [some (.ref 12)] [.ref 12] (mem 25))
    refine x_call (j := 3) (n := 1) (kc := 0) (ks := 0) (S := eg_So) (av := [.ref 12]) (st := []) (M' := mem 25) mk_X1_ini0 rfl rfl rfl rfl rfl rfl ⟨rfl, rfl⟩ mo_So (?_ : eg_T w0 k_X1_ini0 Qp 4 0 0 [some (.ref 12)] [] (mem 25))
    refine eg_T_run mk_X1_ini0 (cut := [8]) 12 (?_ : eg_T w0 k_X1_ini0 Qp 8 0 0 [some (.ref 12)] [.int (nI 200), .ref 12] (mem 25))
    refine x_newa (t := .int) (kd := 1) (ks := 200) (q := 13) (len := 200) mk_X1_ini0 rfl rfl rfl rfl (by decide) (n_c (by decide)) ⟨by decide, by decide⟩ (sN (by decide +kernel)) (sM (o := (0, 1, 200, 0)) (by decide +kernel)) (?_ : eg_T w0 k_X1_ini0 Qp 10 1 200 [some (.ref 12)] [.ref 13, .ref 12] (mem 26))
    refine x_putr (j := 9) (ci := 1) (f := 0) (p := 12) (q := 13) mk_X1_ini0 rfl rfl rfl (so (by decide +kernel)) (sM (o := (2, 12, 0, 13)) (by decide +kernel)) (?_ : eg_T w0 k_X1_ini0 Qp 13 1 200 [some (.ref 12)] [] (mem 27))
    refine eg_T_run mk_X1_ini0 (cut := [17]) 12 (?_ : eg_T w0 k_X1_ini0 Qp 17 1 200 [some (.ref 12)] [.int (nI 200), .ref 12] (mem 27))
    refine x_newa (t := .int) (kd := 1) (ks := 200) (q := 14) (len := 200) mk_X1_ini0 rfl rfl rfl rfl (by decide) (n_c (by decide)) ⟨by decide, by decide⟩ (sN (by decide +kernel)) (sM (o := (0, 1, 200, 0)) (by decide +kernel)) (?_ : eg_T w0 k_X1_ini0 Qp 19 2 400 [some (.ref 12)] [.ref 14, .ref 12] (mem 28))
    refine x_putr (j := 15) (ci := 1) (f := 1) (p := 12) (q := 14) mk_X1_ini0 rfl rfl rfl (so (by decide +kernel)) (sM (o := (2, 12, 1, 14)) (by decide +kernel)) (?_ : eg_T w0 k_X1_ini0 Qp 22 2 400 [some (.ref 12)] [] (mem 29))
    refine eg_T_run mk_X1_ini0 (cut := [26]) 12 (?_ : eg_T w0 k_X1_ini0 Qp 26 2 400 [some (.ref 12)] [.int (nI 200), .ref 12] (mem 29))
    refine x_newa (t := .int) (kd := 1) (ks := 200) (q := 15) (len := 200) mk_X1_ini0 rfl rfl rfl rfl (by decide) (n_c (by decide)) ⟨by decide, by decide⟩ (sN (by decide +kernel)) (sM (o := (0, 1, 200, 0)) (by decide +kernel)) (?_ : eg_T w0 k_X1_ini0 Qp 28 3 600 [some (.ref 12)] [.ref 15, .ref 12] (mem 30))
    refine x_putr (j := 18) (ci := 1) (f := 2) (p := 12) (q := 15) mk_X1_ini0 rfl rfl rfl (so (by decide +kernel)) (sM (o := (2, 12, 2, 15)) (by decide +kernel)) (?_ : eg_T w0 k_X1_ini0 Qp 31 3 600 [some (.ref 12)] [] (mem 31))
    refine eg_T_run mk_X1_ini0 (cut := [35]) 12 (?_ : eg_T w0 k_X1_ini0 Qp 35 3 600 [some (.ref 12)] [.int (nI 200), .ref 12] (mem 31))
    refine x_newa (t := .int) (kd := 1) (ks := 200) (q := 16) (len := 200) mk_X1_ini0 rfl rfl rfl rfl (by decide) (n_c (by decide)) ⟨by decide, by decide⟩ (sN (by decide +kernel)) (sM (o := (0, 1, 200, 0)) (by decide +kernel)) (?_ : eg_T w0 k_X1_ini0 Qp 37 4 800 [some (.ref 12)] [.ref 16, .ref 12] (mem 32))
    refine x_putr (j := 21) (ci := 1) (f := 3) (p := 12) (q := 16) mk_X1_ini0 rfl rfl rfl (so (by decide +kernel)) (sM (o := (2, 12, 3, 16)) (by decide +kernel)) (?_ : eg_T w0 k_X1_ini0 Qp 40 4 800 [some (.ref 12)] [] (mem 33))
    refine eg_T_run mk_X1_ini0 (cut := [44]) 12 (?_ : eg_T w0 k_X1_ini0 Qp 44 4 800 [some (.ref 12)] [.int (nI 200), .ref 12] (mem 33))
    refine x_newa (t := .int) (kd := 1) (ks := 200) (q := 17) (len := 200) mk_X1_ini0 rfl rfl rfl rfl (by decide) (n_c (by decide)) ⟨by decide, by decide⟩ (sN (by decide +kernel)) (sM (o := (0, 1, 200, 0)) (by decide +kernel)) (?_ : eg_T w0 k_X1_ini0 Qp 46 5 1000 [some (.ref 12)] [.ref 17, .ref 12] (mem 34))
    refine x_putr (j := 24) (ci := 1) (f := 4) (p := 12) (q := 17) mk_X1_ini0 rfl rfl rfl (so (by decide +kernel)) (sM (o := (2, 12, 4, 17)) (by decide +kernel)) (?_ : eg_T w0 k_X1_ini0 Qp 49 5 1000 [some (.ref 12)] [] (mem 35))
    refine eg_T_run mk_X1_ini0 (cut := [53]) 12 (?_ : eg_T w0 k_X1_ini0 Qp 53 5 1000 [some (.ref 12)] [.int (nI 200), .ref 12] (mem 35))
    refine x_newa (t := .int) (kd := 1) (ks := 200) (q := 18) (len := 200) mk_X1_ini0 rfl rfl rfl rfl (by decide) (n_c (by decide)) ⟨by decide, by decide⟩ (sN (by decide +kernel)) (sM (o := (0, 1, 200, 0)) (by decide +kernel)) (?_ : eg_T w0 k_X1_ini0 Qp 55 6 1200 [some (.ref 12)] [.ref 18, .ref 12] (mem 36))
    refine x_putr (j := 27) (ci := 1) (f := 5) (p := 12) (q := 18) mk_X1_ini0 rfl rfl rfl (so (by decide +kernel)) (sM (o := (2, 12, 5, 18)) (by decide +kernel)) (?_ : eg_T w0 k_X1_ini0 Qp 58 6 1200 [some (.ref 12)] [] (mem 37))
    refine eg_T_run mk_X1_ini0 (cut := [62]) 12 (?_ : eg_T w0 k_X1_ini0 Qp 62 6 1200 [some (.ref 12)] [.int (nI 200), .ref 12] (mem 37))
    refine x_newa (t := .int) (kd := 1) (ks := 200) (q := 19) (len := 200) mk_X1_ini0 rfl rfl rfl rfl (by decide) (n_c (by decide)) ⟨by decide, by decide⟩ (sN (by decide +kernel)) (sM (o := (0, 1, 200, 0)) (by decide +kernel)) (?_ : eg_T w0 k_X1_ini0 Qp 64 7 1400 [some (.ref 12)] [.ref 19, .ref 12] (mem 38))
    refine x_putr (j := 30) (ci := 1) (f := 6) (p := 12) (q := 19) mk_X1_ini0 rfl rfl rfl (so (by decide +kernel)) (sM (o := (2, 12, 6, 19)) (by decide +kernel)) (?_ : eg_T w0 k_X1_ini0 Qp 67 7 1400 [some (.ref 12)] [] (mem 39))
    refine eg_T_run mk_X1_ini0 (cut := [71]) 12 (?_ : eg_T w0 k_X1_ini0 Qp 71 7 1400 [some (.ref 12)] [.int (nI 200), .ref 12] (mem 39))
    refine x_newa (t := .int) (kd := 1) (ks := 200) (q := 20) (len := 200) mk_X1_ini0 rfl rfl rfl rfl (by decide) (n_c (by decide)) ⟨by decide, by decide⟩ (sN (by decide +kernel)) (sM (o := (0, 1, 200, 0)) (by decide +kernel)) (?_ : eg_T w0 k_X1_ini0 Qp 73 8 1600 [some (.ref 12)] [.ref 20, .ref 12] (mem 40))
    refine x_putr (j := 33) (ci := 1) (f := 7) (p := 12) (q := 20) mk_X1_ini0 rfl rfl rfl (so (by decide +kernel)) (sM (o := (2, 12, 7, 20)) (by decide +kernel)) (?_ : eg_T w0 k_X1_ini0 Qp 76 8 1600 [some (.ref 12)] [] (mem 41))
    refine eg_T_run mk_X1_ini0 (cut := [80]) 12 (?_ : eg_T w0 k_X1_ini0 Qp 80 8 1600 [some (.ref 12)] [.int (nI 200), .ref 12] (mem 41))
    refine x_newa (t := .int) (kd := 1) (ks := 200) (q := 21) (len := 200) mk_X1_ini0 rfl rfl rfl rfl (by decide) (n_c (by decide)) ⟨by decide, by decide⟩ (sN (by decide +kernel)) (sM (o := (0, 1, 200, 0)) (by decide +kernel)) (?_ : eg_T w0 k_X1_ini0 Qp 82 9 1800 [some (.ref 12)] [.ref 21, .ref 12] (mem 42))
    refine x_putr (j := 36) (ci := 1) (f := 8) (p := 12) (q := 21) mk_X1_ini0 rfl rfl rfl (so (by decide +kernel)) (sM (o := (2, 12, 8, 21)) (by decide +kernel)) (?_ : eg_T w0 k_X1_ini0 Qp 85 9 1800 [some (.ref 12)] [] (mem 43))
    refine eg_T_run mk_X1_ini0 (cut := [89]) 12 (?_ : eg_T w0 k_X1_ini0 Qp 89 9 1800 [some (.ref 12)] [.int (nI 200), .ref 12] (mem 43))
    refine x_newa (t := .int) (kd := 1) (ks := 200) (q := 22) (len := 200) mk_X1_ini0 rfl rfl rfl rfl (by decide) (n_c (by decide)) ⟨by decide, by decide⟩ (sN (by decide +kernel)) (sM (o := (0, 1, 200, 0)) (by decide +kernel)) (?_ : eg_T w0 k_X1_ini0 Qp 91 10 2000 [some (.ref 12)] [.ref 22, .ref 12] (mem 44))
    refine x_putr (j := 39) (ci := 1) (f := 9) (p := 12) (q := 22) mk_X1_ini0 rfl rfl rfl (so (by decide +kernel)) (sM (o := (2, 12, 9, 22)) (by decide +kernel)) (?_ : eg_T w0 k_X1_ini0 Qp 94 10 2000 [some (.ref 12)] [] (mem 45))
    refine eg_T_run mk_X1_ini0 (cut := [96]) 12 (?_ : eg_T w0 k_X1_ini0 Qp 96 10 2000 [some (.ref 12)] [.int (nI 0), .ref 12] (mem 45))
    refine x_puti (j := 42) (ci := 1) (f := 10) (p := 12) mk_X1_ini0 rfl rfl rfl (so (by decide +kernel)) (sM (o := (1, 12, 10, 0)) (by decide +kernel)) (?_ : eg_T w0 k_X1_ini0 Qp 99 10 2000 [some (.ref 12)] [] (mem 46))
    exact x_ret mk_X1_ini0 rfl rfl rfl hq
  · exact h.elim
theorem de_X1_ini0 : ∀ q ∈ k_X1_ini0.1, decode cX1_init q.1 = .ok q.2 := by decide +kernel
theorem me_X1_ini0 (g : gl_T) : MT0 g yX1_init cX1_init 1 none ⟨1, 10, 2000, 20⟩ 10 2000 s_X1_ini0 := by
  intro hl
  exact eg_met_of (k := k_X1_ini0) (by decide) rfl ⟨Nat.le_refl _, Nat.le_refl _⟩ rfl sz_X1_ini0 de_X1_ini0 (fun meth hn => (fc (eg_FL_of0 wd_c1 (by decide) lf_RX1_9 (fun _ => Or.inr ⟨rfl, hn, rfl⟩)) (fc (eg_FL_of0 wd_c1 (by decide) lf_RX1_15 (fun _ => Or.inr ⟨rfl, hn, rfl⟩)) (fc (eg_FL_of0 wd_c1 (by decide) lf_RX1_18 (fun _ => Or.inr ⟨rfl, hn, rfl⟩)) (fc (eg_FL_of0 wd_c1 (by decide) lf_RX1_21 (fun _ => Or.inr ⟨rfl, hn, rfl⟩)) (fc (eg_FL_of0 wd_c1 (by decide) lf_RX1_24 (fun _ => Or.inr ⟨rfl, hn, rfl⟩)) (fc (eg_FL_of0 wd_c1 (by decide) lf_RX1_27 (fun _ => Or.inr ⟨rfl, hn, rfl⟩)) (fc (eg_FL_of0 wd_c1 (by decide) lf_RX1_30 (fun _ => Or.inr ⟨rfl, hn, rfl⟩)) (fc (eg_FL_of0 wd_c1 (by decide) lf_RX1_33 (fun _ => Or.inr ⟨rfl, hn, rfl⟩)) (fc (eg_FL_of0 wd_c1 (by decide) lf_RX1_36 (fun _ => Or.inr ⟨rfl, hn, rfl⟩)) (fc (eg_FL_of0 wd_c1 (by decide) lf_RX1_39 (fun _ => Or.inr ⟨rfl, hn, rfl⟩)) (fc (eg_FL_of0 wd_c1 (by decide) lf_RX1_42 (fun _ => Or.inl rfl)) (fn))))))))))))) (fun A s H hE => (fn)) (fun p e s m args below meth c Q A ad0 N0 S0 hK hEx hA => (fc (mz_O S0 lm_RX1_3 (by decide) (by decide) (by decide)) (fc (mz_i S0 hK hA) (fn)))) (fun p e s m args below meth c Qc XC A ad0 N0 P S0 hK hEx hA hlk hout hPX => (fn)) (fun argv M Qp h => T_X1_ini0 h)
def s_X7_ini0 : eg_S := fun argv M Qp => match argv with
  | [.ref 25] => M = mem 54 ∧ Qp (.inl none) (mem 72)
  | _ => False
theorem mo_X7_ini0 : eg_mono s_X7_ini0 := by
  intro argv M Q Q' h
  unfold s_X7_ini0
  split
  · exact fun z => ⟨z.1, h _ _ z.2⟩
  · exact id
theorem sz_X7_ini0 : ∀ argv M Qp, s_X7_ini0 argv M Qp → (eg_ls0 argv).length ≤ 1 := by
  intro argv M Qp h
  unfold s_X7_ini0 at h
  split at h
  · exact Nat.le_of_ble_eq_true rfl
  · exact h.elim
theorem si_X7_ini0 : ∀ argv M Qp, s_X7_ini0 argv M Qp → ∃ p0 As, argv = .ref p0 :: As := by
  intro argv M Qp h
  unfold s_X7_ini0 at h
  split at h
  · exact ⟨_, _, rfl⟩
  · exact h.elim
theorem nt_X7_ini0 : ∀ argv M Qp, s_X7_ini0 argv M Qp → s_X7_ini0 argv M (fun r N => match r with
    | .inl v => Qp (.inl v) N
    | .inr _ => False) := by
  intro argv M Qp h
  unfold s_X7_ini0 at h ⊢
  split at h
  · exact h
  · exact h.elim
def k_X7_ini0 : eg_C := ([(0, .aload_n 0, 1), (1, .invokespecial 3, 3), (4, .aload_n 0, 1), (5, .sipush 400, 3), (8, .newarray .int, 2), (10, .putfield 9, 3), (13, .aload_n 0, 1), (14, .iconst 0, 1), (15, .putfield 15, 3), (18, .aload_n 0, 1), (19, .iconst (-1), 1), (20, .putfield 19, 3), (23, .aload_n 0, 1), (24, .iconst 0, 1), (25, .putfield 22, 3), (28, .aload_n 0, 1), (29, .iconst 0, 1), (30, .putfield 25, 3), (33, .aload_n 0, 1), (34, .iconst 0, 1), (35, .putfield 28, 3), (38, .aload_n 0, 1), (39, .iconst 0, 1), (40, .putfield 31, 3), (43, .aload_n 0, 1), (44, .sipush 400, 3), (47, .newarray .int, 2), (49, .putfield 34, 3), (52, .aload_n 0, 1), (53, .iconst 0, 1), (54, .putfield 37, 3), (57, .aload_n 0, 1), (58, .bipush 12, 2), (60, .newarray .int, 2), (62, .putfield 42, 3), (65, .aload_n 0, 1), (66, .bipush 12, 2), (68, .newarray .int, 2), (70, .putfield 45, 3), (73, .aload_n 0, 1), (74, .iconst 0, 1), (75, .putfield 48, 3), (78, .aload_n 0, 1), (79, .iconst 0, 1), (80, .putfield 51, 3), (83, .aload_n 0, 1), (84, .iconst 0, 1), (85, .putfield 54, 3), (88, .return_, 1)], [(9, 7, 0, true), (15, 7, 1, true), (19, 7, 2, true), (22, 7, 3, true), (25, 7, 4, true), (28, 7, 5, true), (31, 7, 6, true), (34, 7, 7, true), (37, 7, 8, true), (42, 7, 9, true), (45, 7, 10, true), (48, 7, 11, true), (51, 7, 12, true), (54, 7, 13, true)], [], [(3 + 200000, 1, 0, 0, eg_So), (300001, 1, 1, 400, s_newa w0 1 400)], [], 0, 4, 1600)
theorem mk_X7_ini0 : ∀ q ∈ k_X7_ini0.2.2.2.1, eg_mono q.2.2.2.2 := (fc (mo_So) (fc (mo_newa w0 1 400) (fn)))
set_option maxRecDepth 100000 in
set_option maxHeartbeats 4000000 in
theorem T_X7_ini0 {argv : List Value} {M : eg_M} {Qp : eg_P} (h : s_X7_ini0 argv M Qp) : eg_T w0 k_X7_ini0 Qp 0 0 0 (eg_lsN 1 argv) [] M := by
  unfold s_X7_ini0 at h
  split at h
  · obtain ⟨rfl, hq⟩ := h
    refine (?_ : eg_T w0 k_X7_ini0 Qp 0 0 0 [some (.ref 25)] [] (mem 54))
    refine eg_T_run mk_X7_ini0 (cut := [1]) 12 (?_ : eg_T w0 k_X7_ini0 Qp 1 0 0 [some (.ref 25)] [.ref 25] (mem 54))
    refine x_call (j := 3) (n := 1) (kc := 0) (ks := 0) (S := eg_So) (av := [.ref 25]) (st := []) (M' := mem 54) mk_X7_ini0 rfl rfl rfl rfl rfl rfl ⟨rfl, rfl⟩ mo_So (?_ : eg_T w0 k_X7_ini0 Qp 4 0 0 [some (.ref 25)] [] (mem 54))
    refine eg_T_run mk_X7_ini0 (cut := [8]) 12 (?_ : eg_T w0 k_X7_ini0 Qp 8 0 0 [some (.ref 25)] [.int (nI 400), .ref 25] (mem 54))
    refine x_newa (t := .int) (kd := 1) (ks := 400) (q := 26) (len := 400) mk_X7_ini0 rfl rfl rfl rfl (by decide) (n_c (by decide)) ⟨by decide, by decide⟩ (sN (by decide +kernel)) (sM (o := (0, 1, 400, 0)) (by decide +kernel)) (?_ : eg_T w0 k_X7_ini0 Qp 10 1 400 [some (.ref 25)] [.ref 26, .ref 25] (mem 55))
    refine x_putr (j := 9) (ci := 7) (f := 0) (p := 25) (q := 26) mk_X7_ini0 rfl rfl rfl (so (by decide +kernel)) (sM (o := (2, 25, 0, 26)) (by decide +kernel)) (?_ : eg_T w0 k_X7_ini0 Qp 13 1 400 [some (.ref 25)] [] (mem 56))
    refine eg_T_run mk_X7_ini0 (cut := [15]) 12 (?_ : eg_T w0 k_X7_ini0 Qp 15 1 400 [some (.ref 25)] [.int (nI 0), .ref 25] (mem 56))
    refine x_puti (j := 15) (ci := 7) (f := 1) (p := 25) mk_X7_ini0 rfl rfl rfl (so (by decide +kernel)) (sM (o := (1, 25, 1, 0)) (by decide +kernel)) (?_ : eg_T w0 k_X7_ini0 Qp 18 1 400 [some (.ref 25)] [] (mem 57))
    refine eg_T_run mk_X7_ini0 (cut := [20]) 12 (?_ : eg_T w0 k_X7_ini0 Qp 20 1 400 [some (.ref 25)] [.int (-nI 1), .ref 25] (mem 57))
    refine x_puti (j := 19) (ci := 7) (f := 2) (p := 25) mk_X7_ini0 rfl rfl rfl (so (by decide +kernel)) (sM (o := (5, 25, 2, 1)) (by decide +kernel)) (?_ : eg_T w0 k_X7_ini0 Qp 23 1 400 [some (.ref 25)] [] (mem 58))
    refine eg_T_run mk_X7_ini0 (cut := [25]) 12 (?_ : eg_T w0 k_X7_ini0 Qp 25 1 400 [some (.ref 25)] [.int (nI 0), .ref 25] (mem 58))
    refine x_puti (j := 22) (ci := 7) (f := 3) (p := 25) mk_X7_ini0 rfl rfl rfl (so (by decide +kernel)) (sM (o := (1, 25, 3, 0)) (by decide +kernel)) (?_ : eg_T w0 k_X7_ini0 Qp 28 1 400 [some (.ref 25)] [] (mem 59))
    refine eg_T_run mk_X7_ini0 (cut := [30]) 12 (?_ : eg_T w0 k_X7_ini0 Qp 30 1 400 [some (.ref 25)] [.int (nI 0), .ref 25] (mem 59))
    refine x_puti (j := 25) (ci := 7) (f := 4) (p := 25) mk_X7_ini0 rfl rfl rfl (so (by decide +kernel)) (sM (o := (1, 25, 4, 0)) (by decide +kernel)) (?_ : eg_T w0 k_X7_ini0 Qp 33 1 400 [some (.ref 25)] [] (mem 60))
    refine eg_T_run mk_X7_ini0 (cut := [35]) 12 (?_ : eg_T w0 k_X7_ini0 Qp 35 1 400 [some (.ref 25)] [.int (nI 0), .ref 25] (mem 60))
    refine x_puti (j := 28) (ci := 7) (f := 5) (p := 25) mk_X7_ini0 rfl rfl rfl (so (by decide +kernel)) (sM (o := (1, 25, 5, 0)) (by decide +kernel)) (?_ : eg_T w0 k_X7_ini0 Qp 38 1 400 [some (.ref 25)] [] (mem 61))
    refine eg_T_run mk_X7_ini0 (cut := [40]) 12 (?_ : eg_T w0 k_X7_ini0 Qp 40 1 400 [some (.ref 25)] [.int (nI 0), .ref 25] (mem 61))
    refine x_puti (j := 31) (ci := 7) (f := 6) (p := 25) mk_X7_ini0 rfl rfl rfl (so (by decide +kernel)) (sM (o := (1, 25, 6, 0)) (by decide +kernel)) (?_ : eg_T w0 k_X7_ini0 Qp 43 1 400 [some (.ref 25)] [] (mem 62))
    refine eg_T_run mk_X7_ini0 (cut := [47]) 12 (?_ : eg_T w0 k_X7_ini0 Qp 47 1 400 [some (.ref 25)] [.int (nI 400), .ref 25] (mem 62))
    refine x_newa (t := .int) (kd := 1) (ks := 400) (q := 27) (len := 400) mk_X7_ini0 rfl rfl rfl rfl (by decide) (n_c (by decide)) ⟨by decide, by decide⟩ (sN (by decide +kernel)) (sM (o := (0, 1, 400, 0)) (by decide +kernel)) (?_ : eg_T w0 k_X7_ini0 Qp 49 2 800 [some (.ref 25)] [.ref 27, .ref 25] (mem 63))
    refine x_putr (j := 34) (ci := 7) (f := 7) (p := 25) (q := 27) mk_X7_ini0 rfl rfl rfl (so (by decide +kernel)) (sM (o := (2, 25, 7, 27)) (by decide +kernel)) (?_ : eg_T w0 k_X7_ini0 Qp 52 2 800 [some (.ref 25)] [] (mem 64))
    refine eg_T_run mk_X7_ini0 (cut := [54]) 12 (?_ : eg_T w0 k_X7_ini0 Qp 54 2 800 [some (.ref 25)] [.int (nI 0), .ref 25] (mem 64))
    refine x_puti (j := 37) (ci := 7) (f := 8) (p := 25) mk_X7_ini0 rfl rfl rfl (so (by decide +kernel)) (sM (o := (1, 25, 8, 0)) (by decide +kernel)) (?_ : eg_T w0 k_X7_ini0 Qp 57 2 800 [some (.ref 25)] [] (mem 65))
    refine eg_T_run mk_X7_ini0 (cut := [60]) 12 (?_ : eg_T w0 k_X7_ini0 Qp 60 2 800 [some (.ref 25)] [.int (nI 12), .ref 25] (mem 65))
    refine x_newa (t := .int) (kd := 1) (ks := 400) (q := 28) (len := 12) mk_X7_ini0 rfl rfl rfl rfl (by decide) (n_c (by decide)) ⟨by decide, by decide⟩ (sN (by decide +kernel)) (sM (o := (0, 1, 12, 0)) (by decide +kernel)) (?_ : eg_T w0 k_X7_ini0 Qp 62 3 1200 [some (.ref 25)] [.ref 28, .ref 25] (mem 66))
    refine x_putr (j := 42) (ci := 7) (f := 9) (p := 25) (q := 28) mk_X7_ini0 rfl rfl rfl (so (by decide +kernel)) (sM (o := (2, 25, 9, 28)) (by decide +kernel)) (?_ : eg_T w0 k_X7_ini0 Qp 65 3 1200 [some (.ref 25)] [] (mem 67))
    refine eg_T_run mk_X7_ini0 (cut := [68]) 12 (?_ : eg_T w0 k_X7_ini0 Qp 68 3 1200 [some (.ref 25)] [.int (nI 12), .ref 25] (mem 67))
    refine x_newa (t := .int) (kd := 1) (ks := 400) (q := 29) (len := 12) mk_X7_ini0 rfl rfl rfl rfl (by decide) (n_c (by decide)) ⟨by decide, by decide⟩ (sN (by decide +kernel)) (sM (o := (0, 1, 12, 0)) (by decide +kernel)) (?_ : eg_T w0 k_X7_ini0 Qp 70 4 1600 [some (.ref 25)] [.ref 29, .ref 25] (mem 68))
    refine x_putr (j := 45) (ci := 7) (f := 10) (p := 25) (q := 29) mk_X7_ini0 rfl rfl rfl (so (by decide +kernel)) (sM (o := (2, 25, 10, 29)) (by decide +kernel)) (?_ : eg_T w0 k_X7_ini0 Qp 73 4 1600 [some (.ref 25)] [] (mem 69))
    refine eg_T_run mk_X7_ini0 (cut := [75]) 12 (?_ : eg_T w0 k_X7_ini0 Qp 75 4 1600 [some (.ref 25)] [.int (nI 0), .ref 25] (mem 69))
    refine x_puti (j := 48) (ci := 7) (f := 11) (p := 25) mk_X7_ini0 rfl rfl rfl (so (by decide +kernel)) (sM (o := (1, 25, 11, 0)) (by decide +kernel)) (?_ : eg_T w0 k_X7_ini0 Qp 78 4 1600 [some (.ref 25)] [] (mem 70))
    refine eg_T_run mk_X7_ini0 (cut := [80]) 12 (?_ : eg_T w0 k_X7_ini0 Qp 80 4 1600 [some (.ref 25)] [.int (nI 0), .ref 25] (mem 70))
    refine x_puti (j := 51) (ci := 7) (f := 12) (p := 25) mk_X7_ini0 rfl rfl rfl (so (by decide +kernel)) (sM (o := (1, 25, 12, 0)) (by decide +kernel)) (?_ : eg_T w0 k_X7_ini0 Qp 83 4 1600 [some (.ref 25)] [] (mem 71))
    refine eg_T_run mk_X7_ini0 (cut := [85]) 12 (?_ : eg_T w0 k_X7_ini0 Qp 85 4 1600 [some (.ref 25)] [.int (nI 0), .ref 25] (mem 71))
    refine x_puti (j := 54) (ci := 7) (f := 13) (p := 25) mk_X7_ini0 rfl rfl rfl (so (by decide +kernel)) (sM (o := (1, 25, 13, 0)) (by decide +kernel)) (?_ : eg_T w0 k_X7_ini0 Qp 88 4 1600 [some (.ref 25)] [] (mem 72))
    exact x_ret mk_X7_ini0 rfl rfl rfl hq
  · exact h.elim
theorem de_X7_ini0 : ∀ q ∈ k_X7_ini0.1, decode cX7_init q.1 = .ok q.2 := by decide +kernel
theorem me_X7_ini0 (g : gl_T) : MT0 g yX7_init cX7_init 1 none ⟨1, 4, 1600, 20⟩ 4 1600 s_X7_ini0 := by
  intro hl
  exact eg_met_of (k := k_X7_ini0) (by decide) rfl ⟨Nat.le_refl _, Nat.le_refl _⟩ rfl sz_X7_ini0 de_X7_ini0 (fun meth hn => (fc (eg_FL_of0 wd_c7 (by decide) lf_RX7_9 (fun _ => Or.inr ⟨rfl, hn, rfl⟩)) (fc (eg_FL_of0 wd_c7 (by decide) lf_RX7_15 (fun _ => Or.inl rfl)) (fc (eg_FL_of0 wd_c7 (by decide) lf_RX7_19 (fun _ => Or.inl rfl)) (fc (eg_FL_of0 wd_c7 (by decide) lf_RX7_22 (fun _ => Or.inl rfl)) (fc (eg_FL_of0 wd_c7 (by decide) lf_RX7_25 (fun _ => Or.inl rfl)) (fc (eg_FL_of0 wd_c7 (by decide) lf_RX7_28 (fun _ => Or.inl rfl)) (fc (eg_FL_of0 wd_c7 (by decide) lf_RX7_31 (fun _ => Or.inl rfl)) (fc (eg_FL_of0 wd_c7 (by decide) lf_RX7_34 (fun _ => Or.inr ⟨rfl, hn, rfl⟩)) (fc (eg_FL_of0 wd_c7 (by decide) lf_RX7_37 (fun _ => Or.inl rfl)) (fc (eg_FL_of0 wd_c7 (by decide) lf_RX7_42 (fun _ => Or.inr ⟨rfl, hn, rfl⟩)) (fc (eg_FL_of0 wd_c7 (by decide) lf_RX7_45 (fun _ => Or.inr ⟨rfl, hn, rfl⟩)) (fc (eg_FL_of0 wd_c7 (by decide) lf_RX7_48 (fun _ => Or.inl rfl)) (fc (eg_FL_of0 wd_c7 (by decide) lf_RX7_51 (fun _ => Or.inl rfl)) (fc (eg_FL_of0 wd_c7 (by decide) lf_RX7_54 (fun _ => Or.inl rfl)) (fn)))))))))))))))) (fun A s H hE => (fn)) (fun p e s m args below meth c Q A ad0 N0 S0 hK hEx hA => (fc (mz_O S0 lm_RX7_3 (by decide) (by decide) (by decide)) (fc (mz_i S0 hK hA) (fn)))) (fun p e s m args below meth c Qc XC A ad0 N0 P S0 hK hEx hA hlk hout hPX => (fn)) (fun argv M Qp h => T_X7_ini0 h)
def s_X8_ini0 : eg_S := fun argv M Qp => match argv with
  | [.ref 30, .int x, .int y, .int z, .ref 31, .ref 32, .ref 33] => (x = -nI 1 ∧ y = nI 100000 ∧ z = nI 20) ∧ M = mem 77 ∧ Qp (.inl none) (mem 83)
  | _ => False
theorem mo_X8_ini0 : eg_mono s_X8_ini0 := by
  intro argv M Q Q' h
  unfold s_X8_ini0
  split
  · exact fun z => ⟨z.1, z.2.1, h _ _ z.2.2⟩
  · exact id
theorem sz_X8_ini0 : ∀ argv M Qp, s_X8_ini0 argv M Qp → (eg_ls0 argv).length ≤ 7 := by
  intro argv M Qp h
  unfold s_X8_ini0 at h
  split at h
  · exact Nat.le_of_ble_eq_true rfl
  · exact h.elim
theorem si_X8_ini0 : ∀ argv M Qp, s_X8_ini0 argv M Qp → ∃ p0 As, argv = .ref p0 :: As := by
  intro argv M Qp h
  unfold s_X8_ini0 at h
  split at h
  · exact ⟨_, _, rfl⟩
  · exact h.elim
theorem nt_X8_ini0 : ∀ argv M Qp, s_X8_ini0 argv M Qp → s_X8_ini0 argv M (fun r N => match r with
    | .inl v => Qp (.inl v) N
    | .inr _ => False) := by
  intro argv M Qp h
  unfold s_X8_ini0 at h ⊢
  split at h
  · exact h
  · exact h.elim
def k_X8_ini0 : eg_C := ([(0, .aload_n 0, 1), (1, .invokespecial 1, 3), (4, .aload_n 0, 1), (5, .iload_n 1, 1), (6, .putfield 7, 3), (9, .aload_n 0, 1), (10, .iload_n 2, 1), (11, .putfield 13, 3), (14, .aload_n 0, 1), (15, .iload_n 3, 1), (16, .putfield 16, 3), (19, .aload_n 0, 1), (20, .aload 4, 2), (22, .putfield 19, 3), (25, .aload_n 0, 1), (26, .aload 5, 2), (28, .putfield 23, 3), (31, .aload_n 0, 1), (32, .aload 6, 2), (34, .putfield 26, 3), (37, .return_, 1)], [(7, 8, 0, true), (13, 8, 1, true), (16, 8, 2, true), (19, 8, 3, true), (23, 8, 4, true), (26, 8, 5, true)], [], [(1 + 200000, 1, 0, 0, eg_So)], [], 0, 0, 0)
theorem mk_X8_ini0 : ∀ q ∈ k_X8_ini0.2.2.2.1, eg_mono q.2.2.2.2 := (fc (mo_So) (fn))
set_option maxRecDepth 100000 in
set_option maxHeartbeats 4000000 in
theorem T_X8_ini0 {argv : List Value} {M : eg_M} {Qp : eg_P} (h : s_X8_ini0 argv M Qp) : eg_T w0 k_X8_ini0 Qp 0 0 0 (eg_lsN 7 argv) [] M := by
  unfold s_X8_ini0 at h
  split at h
  · obtain ⟨⟨rfl, rfl, rfl⟩, rfl, hq⟩ := h
    refine (?_ : eg_T w0 k_X8_ini0 Qp 0 0 0 [some (.ref 30), some (.int (-nI 1)), some (.int (nI 100000)), some (.int (nI 20)), some (.ref 31), some (.ref 32), some (.ref 33)] [] (mem 77))
    refine eg_T_run mk_X8_ini0 (cut := [1]) 12 (?_ : eg_T w0 k_X8_ini0 Qp 1 0 0 [some (.ref 30), some (.int (-nI 1)), some (.int (nI 100000)), some (.int (nI 20)), some (.ref 31), some (.ref 32), some (.ref 33)] [.ref 30] (mem 77))
    refine x_call (j := 1) (n := 1) (kc := 0) (ks := 0) (S := eg_So) (av := [.ref 30]) (st := []) (M' := mem 77) mk_X8_ini0 rfl rfl rfl rfl rfl rfl ⟨rfl, rfl⟩ mo_So (?_ : eg_T w0 k_X8_ini0 Qp 4 0 0 [some (.ref 30), some (.int (-nI 1)), some (.int (nI 100000)), some (.int (nI 20)), some (.ref 31), some (.ref 32), some (.ref 33)] [] (mem 77))
    refine eg_T_run mk_X8_ini0 (cut := [6]) 12 (?_ : eg_T w0 k_X8_ini0 Qp 6 0 0 [some (.ref 30), some (.int (-nI 1)), some (.int (nI 100000)), some (.int (nI 20)), some (.ref 31), some (.ref 32), some (.ref 33)] [.int (-nI 1), .ref 30] (mem 77))
    refine x_puti (j := 7) (ci := 8) (f := 0) (p := 30) mk_X8_ini0 rfl rfl rfl (so (by decide +kernel)) (sM (o := (5, 30, 0, 1)) (by decide +kernel)) (?_ : eg_T w0 k_X8_ini0 Qp 9 0 0 [some (.ref 30), some (.int (-nI 1)), some (.int (nI 100000)), some (.int (nI 20)), some (.ref 31), some (.ref 32), some (.ref 33)] [] (mem 78))
    refine eg_T_run mk_X8_ini0 (cut := [11]) 12 (?_ : eg_T w0 k_X8_ini0 Qp 11 0 0 [some (.ref 30), some (.int (-nI 1)), some (.int (nI 100000)), some (.int (nI 20)), some (.ref 31), some (.ref 32), some (.ref 33)] [.int (nI 100000), .ref 30] (mem 78))
    refine x_puti (j := 13) (ci := 8) (f := 1) (p := 30) mk_X8_ini0 rfl rfl rfl (so (by decide +kernel)) (sM (o := (1, 30, 1, 100000)) (by decide +kernel)) (?_ : eg_T w0 k_X8_ini0 Qp 14 0 0 [some (.ref 30), some (.int (-nI 1)), some (.int (nI 100000)), some (.int (nI 20)), some (.ref 31), some (.ref 32), some (.ref 33)] [] (mem 79))
    refine eg_T_run mk_X8_ini0 (cut := [16]) 12 (?_ : eg_T w0 k_X8_ini0 Qp 16 0 0 [some (.ref 30), some (.int (-nI 1)), some (.int (nI 100000)), some (.int (nI 20)), some (.ref 31), some (.ref 32), some (.ref 33)] [.int (nI 20), .ref 30] (mem 79))
    refine x_puti (j := 16) (ci := 8) (f := 2) (p := 30) mk_X8_ini0 rfl rfl rfl (so (by decide +kernel)) (sM (o := (1, 30, 2, 20)) (by decide +kernel)) (?_ : eg_T w0 k_X8_ini0 Qp 19 0 0 [some (.ref 30), some (.int (-nI 1)), some (.int (nI 100000)), some (.int (nI 20)), some (.ref 31), some (.ref 32), some (.ref 33)] [] (mem 80))
    refine eg_T_run mk_X8_ini0 (cut := [22]) 12 (?_ : eg_T w0 k_X8_ini0 Qp 22 0 0 [some (.ref 30), some (.int (-nI 1)), some (.int (nI 100000)), some (.int (nI 20)), some (.ref 31), some (.ref 32), some (.ref 33)] [.ref 31, .ref 30] (mem 80))
    refine x_putr (j := 19) (ci := 8) (f := 3) (p := 30) (q := 31) mk_X8_ini0 rfl rfl rfl (so (by decide +kernel)) (sM (o := (2, 30, 3, 31)) (by decide +kernel)) (?_ : eg_T w0 k_X8_ini0 Qp 25 0 0 [some (.ref 30), some (.int (-nI 1)), some (.int (nI 100000)), some (.int (nI 20)), some (.ref 31), some (.ref 32), some (.ref 33)] [] (mem 81))
    refine eg_T_run mk_X8_ini0 (cut := [28]) 12 (?_ : eg_T w0 k_X8_ini0 Qp 28 0 0 [some (.ref 30), some (.int (-nI 1)), some (.int (nI 100000)), some (.int (nI 20)), some (.ref 31), some (.ref 32), some (.ref 33)] [.ref 32, .ref 30] (mem 81))
    refine x_putr (j := 23) (ci := 8) (f := 4) (p := 30) (q := 32) mk_X8_ini0 rfl rfl rfl (so (by decide +kernel)) (sM (o := (2, 30, 4, 32)) (by decide +kernel)) (?_ : eg_T w0 k_X8_ini0 Qp 31 0 0 [some (.ref 30), some (.int (-nI 1)), some (.int (nI 100000)), some (.int (nI 20)), some (.ref 31), some (.ref 32), some (.ref 33)] [] (mem 82))
    refine eg_T_run mk_X8_ini0 (cut := [34]) 12 (?_ : eg_T w0 k_X8_ini0 Qp 34 0 0 [some (.ref 30), some (.int (-nI 1)), some (.int (nI 100000)), some (.int (nI 20)), some (.ref 31), some (.ref 32), some (.ref 33)] [.ref 33, .ref 30] (mem 82))
    refine x_putr (j := 26) (ci := 8) (f := 5) (p := 30) (q := 33) mk_X8_ini0 rfl rfl rfl (so (by decide +kernel)) (sM (o := (2, 30, 5, 33)) (by decide +kernel)) (?_ : eg_T w0 k_X8_ini0 Qp 37 0 0 [some (.ref 30), some (.int (-nI 1)), some (.int (nI 100000)), some (.int (nI 20)), some (.ref 31), some (.ref 32), some (.ref 33)] [] (mem 83))
    exact x_ret mk_X8_ini0 rfl rfl rfl hq
  · exact h.elim
theorem de_X8_ini0 : ∀ q ∈ k_X8_ini0.1, decode cX8_init q.1 = .ok q.2 := by decide +kernel
theorem me_X8_ini0 (g : gl_T) : MT0 g yX8_init cX8_init 7 none ⟨1, 0, 0, 20⟩ 0 0 s_X8_ini0 := by
  intro hl
  exact eg_met_of (k := k_X8_ini0) (by decide) rfl ⟨Nat.le_refl _, Nat.le_refl _⟩ rfl sz_X8_ini0 de_X8_ini0 (fun meth hn => (fc (eg_FL_of0 wd_c8 (by decide) lf_RX8_7 (fun _ => Or.inr ⟨rfl, hn, rfl⟩)) (fc (eg_FL_of0 wd_c8 (by decide) lf_RX8_13 (fun _ => Or.inr ⟨rfl, hn, rfl⟩)) (fc (eg_FL_of0 wd_c8 (by decide) lf_RX8_16 (fun _ => Or.inr ⟨rfl, hn, rfl⟩)) (fc (eg_FL_of0 wd_c8 (by decide) lf_RX8_19 (fun _ => Or.inr ⟨rfl, hn, rfl⟩)) (fc (eg_FL_of0 wd_c8 (by decide) lf_RX8_23 (fun _ => Or.inr ⟨rfl, hn, rfl⟩)) (fc (eg_FL_of0 wd_c8 (by decide) lf_RX8_26 (fun _ => Or.inr ⟨rfl, hn, rfl⟩)) (fn)))))))) (fun A s H hE => (fn)) (fun p e s m args below meth c Q A ad0 N0 S0 hK hEx hA => (fc (mz_O S0 lm_RX8_1 (by decide) (by decide) (by decide)) (fn))) (fun p e s m args below meth c Qc XC A ad0 N0 P S0 hK hEx hA hlk hout hPX => (fn)) (fun argv M Qp h => T_X8_ini0 h)
def s_X10_ini0 : eg_S := fun argv M Qp => match argv with
  | [.ref 23] => M = mem 48 ∧ Qp (.inl none) (mem 84)
  | _ => False
theorem mo_X10_ini0 : eg_mono s_X10_ini0 := by
  intro argv M Q Q' h
  unfold s_X10_ini0
  split
  · exact fun z => ⟨z.1, h _ _ z.2⟩
  · exact id
theorem sz_X10_ini0 : ∀ argv M Qp, s_X10_ini0 argv M Qp → (eg_ls0 argv).length ≤ 1 := by
  intro argv M Qp h
  unfold s_X10_ini0 at h
  split at h
  · exact Nat.le_of_ble_eq_true rfl
  · exact h.elim
theorem si_X10_ini0 : ∀ argv M Qp, s_X10_ini0 argv M Qp → ∃ p0 As, argv = .ref p0 :: As := by
  intro argv M Qp h
  unfold s_X10_ini0 at h
  split at h
  · exact ⟨_, _, rfl⟩
  · exact h.elim
theorem nt_X10_ini0 : ∀ argv M Qp, s_X10_ini0 argv M Qp → s_X10_ini0 argv M (fun r N => match r with
    | .inl v => Qp (.inl v) N
    | .inr _ => False) := by
  intro argv M Qp h
  unfold s_X10_ini0 at h ⊢
  split at h
  · exact h
  · exact h.elim
def k_X10_ini0 : eg_C := ([(0, .aload_n 0, 1), (1, .invokespecial 3, 3), (4, .aload_n 0, 1), (5, .iconst 0, 1), (6, .putfield 9, 3), (9, .aload_n 0, 1), (10, .bipush 8, 2), (12, .anewarray 15, 3), (15, .putfield 17, 3), (18, .aload_n 0, 1), (19, .iconst 0, 1), (20, .putfield 21, 3), (23, .aload_n 0, 1), (24, .iconst (-1), 1), (25, .putfield 24, 3), (28, .aload_n 0, 1), (29, .new 27, 3), (32, .dup, 1), (33, .invokespecial 29, 3), (36, .putfield 30, 3), (39, .aload_n 0, 1), (40, .new 15, 3), (43, .dup, 1), (44, .iconst (-1), 1), (45, .ldc 34, 2), (47, .bipush 20, 2), (49, .iconst 0, 1), (50, .newarray .int, 2), (52, .iconst 0, 1), (53, .newarray .int, 2), (55, .iconst 0, 1), (56, .newarray .int, 2), (58, .invokespecial 35, 3), (61, .putfield 38, 3), (64, .return_, 1)], [(9, 10, 0, true), (17, 10, 1, true), (21, 10, 2, true), (24, 10, 3, true), (30, 10, 4, true), (38, 10, 5, true)], [(34, .int (nI 100000))], [(3 + 200000, 1, 0, 0, eg_So), (29 + 200000, 0 + 1, 4, 1600, s_X7_ini0), (35 + 200000, 6 + 1, 0, 0, s_X8_ini0), (300001, 1, 1, 0, s_newa w0 1 0), (15 + 310000, 1, 1, 8, s_newa w0 4 8)], [(15, .inr 8), (27, .inr 7)], 0, 10, 1628)
theorem mk_X10_ini0 : ∀ q ∈ k_X10_ini0.2.2.2.1, eg_mono q.2.2.2.2 := (fc (mo_So) (fc (mo_X7_ini0) (fc (mo_X8_ini0) (fc (mo_newa w0 1 0) (fc (mo_newa w0 4 8) (fn))))))
set_option maxRecDepth 100000 in
set_option maxHeartbeats 4000000 in
theorem T_X10_ini0 {argv : List Value} {M : eg_M} {Qp : eg_P} (h : s_X10_ini0 argv M Qp) : eg_T w0 k_X10_ini0 Qp 0 0 0 (eg_lsN 1 argv) [] M := by
  unfold s_X10_ini0 at h
  split at h
  · obtain ⟨rfl, hq⟩ := h
    refine (?_ : eg_T w0 k_X10_ini0 Qp 0 0 0 [some (.ref 23)] [] (mem 48))
    refine eg_T_run mk_X10_ini0 (cut := [1]) 12 (?_ : eg_T w0 k_X10_ini0 Qp 1 0 0 [some (.ref 23)] [.ref 23] (mem 48))
    refine x_call (j := 3) (n := 1) (kc := 0) (ks := 0) (S := eg_So) (av := [.ref 23]) (st := []) (M' := mem 48) mk_X10_ini0 rfl rfl rfl rfl rfl rfl ⟨rfl, rfl⟩ mo_So (?_ : eg_T w0 k_X10_ini0 Qp 4 0 0 [some (.ref 23)] [] (mem 48))
    refine eg_T_run mk_X10_ini0 (cut := [6]) 12 (?_ : eg_T w0 k_X10_ini0 Qp 6 0 0 [some (.ref 23)] [.int (nI 0), .ref 23] (mem 48))
    refine x_puti (j := 9) (ci := 10) (f := 0) (p := 23) mk_X10_ini0 rfl rfl rfl (so (by decide +kernel)) (sM (o := (1, 23, 0, 0)) (by decide +kernel)) (?_ : eg_T w0 k_X10_ini0 Qp 9 0 0 [some (.ref 23)] [] (mem 49))
    refine eg_T_run mk_X10_ini0 (cut := [12]) 12 (?_ : eg_T w0 k_X10_ini0 Qp 12 0 0 [some (.ref 23)] [.int (nI 8), .ref 23] (mem 49))
    refine x_anew (j := 15) (kd := 4) (ks := 8) (q := 24) (len := 8) mk_X10_ini0 rfl rfl rfl rfl (by decide) (n_c (by decide)) ⟨by decide, by decide⟩ (sN (by decide +kernel)) (sM (o := (0, 4, 8, 0)) (by decide +kernel)) (?_ : eg_T w0 k_X10_ini0 Qp 15 1 8 [some (.ref 23)] [.ref 24, .ref 23] (mem 50))
    refine x_putr (j := 17) (ci := 10) (f := 1) (p := 23) (q := 24) mk_X10_ini0 rfl rfl rfl (so (by decide +kernel)) (sM (o := (2, 23, 1, 24)) (by decide +kernel)) (?_ : eg_T w0 k_X10_ini0 Qp 18 1 8 [some (.ref 23)] [] (mem 51))
    refine eg_T_run mk_X10_ini0 (cut := [20]) 12 (?_ : eg_T w0 k_X10_ini0 Qp 20 1 8 [some (.ref 23)] [.int (nI 0), .ref 23] (mem 51))
    refine x_puti (j := 21) (ci := 10) (f := 2) (p := 23) mk_X10_ini0 rfl rfl rfl (so (by decide +kernel)) (sM (o := (1, 23, 2, 0)) (by decide +kernel)) (?_ : eg_T w0 k_X10_ini0 Qp 23 1 8 [some (.ref 23)] [] (mem 52))
    refine eg_T_run mk_X10_ini0 (cut := [25]) 12 (?_ : eg_T w0 k_X10_ini0 Qp 25 1 8 [some (.ref 23)] [.int (-nI 1), .ref 23] (mem 52))
    refine x_puti (j := 24) (ci := 10) (f := 3) (p := 23) mk_X10_ini0 rfl rfl rfl (so (by decide +kernel)) (sM (o := (5, 23, 3, 1)) (by decide +kernel)) (?_ : eg_T w0 k_X10_ini0 Qp 28 1 8 [some (.ref 23)] [] (mem 53))
    refine eg_T_run mk_X10_ini0 (cut := [29]) 12 (?_ : eg_T w0 k_X10_ini0 Qp 29 1 8 [some (.ref 23)] [.ref 23] (mem 53))
    refine x_new (j := 27) (ci := 7) (q := 25) (sl := 14) mk_X10_ini0 rfl rfl rfl rfl (sN (by decide +kernel)) (sM (o := (0, 0, 7, 0)) (by decide +kernel)) (?_ : eg_T w0 k_X10_ini0 Qp 32 2 22 [some (.ref 23)] [.ref 25, .ref 23] (mem 54))
    refine eg_T_run mk_X10_ini0 (cut := [33]) 12 (?_ : eg_T w0 k_X10_ini0 Qp 33 2 22 [some (.ref 23)] [.ref 25, .ref 25, .ref 23] (mem 54))
    refine x_call (j := 29) (n := 1) (kc := 4) (ks := 1600) (S := s_X7_ini0) (av := [.ref 25]) (st := [.ref 25, .ref 23]) (M' := mem 72) mk_X10_ini0 rfl rfl rfl rfl rfl rfl ⟨rfl, rfl, rfl⟩ mo_X7_ini0 (?_ : eg_T w0 k_X10_ini0 Qp 36 6 1622 [some (.ref 23)] [.ref 25, .ref 23] (mem 72))
    refine x_putr (j := 30) (ci := 10) (f := 4) (p := 23) (q := 25) mk_X10_ini0 rfl rfl rfl (so (by decide +kernel)) (sM (o := (2, 23, 4, 25)) (by decide +kernel)) (?_ : eg_T w0 k_X10_ini0 Qp 39 6 1622 [some (.ref 23)] [] (mem 73))
    refine eg_T_run mk_X10_ini0 (cut := [40]) 12 (?_ : eg_T w0 k_X10_ini0 Qp 40 6 1622 [some (.ref 23)] [.ref 23] (mem 73))
    refine x_new (j := 15) (ci := 8) (q := 30) (sl := 6) mk_X10_ini0 rfl rfl rfl rfl (sN (by decide +kernel)) (sM (o := (0, 0, 8, 0)) (by decide +kernel)) (?_ : eg_T w0 k_X10_ini0 Qp 43 7 1628 [some (.ref 23)] [.ref 30, .ref 23] (mem 74))
    refine eg_T_run mk_X10_ini0 (cut := [50]) 12 (?_ : eg_T w0 k_X10_ini0 Qp 50 7 1628 [some (.ref 23)] [.int (nI 0), .int (nI 20), .int (nI 100000), .int (-nI 1), .ref 30, .ref 30, .ref 23] (mem 74))
    refine x_newa (t := .int) (kd := 1) (ks := 0) (q := 31) (len := 0) mk_X10_ini0 rfl rfl rfl rfl (by decide) (n_c (by decide)) ⟨by decide, by decide⟩ (sN (by decide +kernel)) (sM (o := (0, 1, 0, 0)) (by decide +kernel)) (?_ : eg_T w0 k_X10_ini0 Qp 52 8 1628 [some (.ref 23)] [.ref 31, .int (nI 20), .int (nI 100000), .int (-nI 1), .ref 30, .ref 30, .ref 23] (mem 75))
    refine eg_T_run mk_X10_ini0 (cut := [53]) 12 (?_ : eg_T w0 k_X10_ini0 Qp 53 8 1628 [some (.ref 23)] [.int (nI 0), .ref 31, .int (nI 20), .int (nI 100000), .int (-nI 1), .ref 30, .ref 30, .ref 23] (mem 75))
    refine x_newa (t := .int) (kd := 1) (ks := 0) (q := 32) (len := 0) mk_X10_ini0 rfl rfl rfl rfl (by decide) (n_c (by decide)) ⟨by decide, by decide⟩ (sN (by decide +kernel)) (sM (o := (0, 1, 0, 0)) (by decide +kernel)) (?_ : eg_T w0 k_X10_ini0 Qp 55 9 1628 [some (.ref 23)] [.ref 32, .ref 31, .int (nI 20), .int (nI 100000), .int (-nI 1), .ref 30, .ref 30, .ref 23] (mem 76))
    refine eg_T_run mk_X10_ini0 (cut := [56]) 12 (?_ : eg_T w0 k_X10_ini0 Qp 56 9 1628 [some (.ref 23)] [.int (nI 0), .ref 32, .ref 31, .int (nI 20), .int (nI 100000), .int (-nI 1), .ref 30, .ref 30, .ref 23] (mem 76))
    refine x_newa (t := .int) (kd := 1) (ks := 0) (q := 33) (len := 0) mk_X10_ini0 rfl rfl rfl rfl (by decide) (n_c (by decide)) ⟨by decide, by decide⟩ (sN (by decide +kernel)) (sM (o := (0, 1, 0, 0)) (by decide +kernel)) (?_ : eg_T w0 k_X10_ini0 Qp 58 10 1628 [some (.ref 23)] [.ref 33, .ref 32, .ref 31, .int (nI 20), .int (nI 100000), .int (-nI 1), .ref 30, .ref 30, .ref 23] (mem 77))
    refine x_call (j := 35) (n := 7) (kc := 0) (ks := 0) (S := s_X8_ini0) (av := [.ref 33, .ref 32, .ref 31, .int (nI 20), .int (nI 100000), .int (-nI 1), .ref 30]) (st := [.ref 30, .ref 23]) (M' := mem 83) mk_X10_ini0 rfl rfl rfl rfl rfl rfl ⟨⟨rfl, rfl, rfl⟩, rfl, rfl, rfl⟩ mo_X8_ini0 (?_ : eg_T w0 k_X10_ini0 Qp 61 10 1628 [some (.ref 23)] [.ref 30, .ref 23] (mem 83))
    refine x_putr (j := 38) (ci := 10) (f := 5) (p := 23) (q := 30) mk_X10_ini0 rfl rfl rfl (so (by decide +kernel)) (sM (o := (2, 23, 5, 30)) (by decide +kernel)) (?_ : eg_T w0 k_X10_ini0 Qp 64 10 1628 [some (.ref 23)] [] (mem 84))
    exact x_ret mk_X10_ini0 rfl rfl rfl hq
  · exact h.elim
theorem de_X10_ini0 : ∀ q ∈ k_X10_ini0.1, decode cX10_init q.1 = .ok q.2 := by decide +kernel
theorem me_X10_ini0 (g : gl_T) : MT0 g yX10_init cX10_init 1 none ⟨2, 10, 1628, 46⟩ 10 1628 s_X10_ini0 := by
  intro hl
  exact eg_met_of (k := k_X10_ini0) (by decide) rfl ⟨Nat.le_refl _, Nat.le_refl _⟩ rfl sz_X10_ini0 de_X10_ini0 (fun meth hn => (fc (eg_FL_of0 wd_c10 (by decide) lf_RX10_9 (fun _ => Or.inl rfl)) (fc (eg_FL_of0 wd_c10 (by decide) lf_RX10_17 (fun _ => Or.inr ⟨rfl, hn, rfl⟩)) (fc (eg_FL_of0 wd_c10 (by decide) lf_RX10_21 (fun _ => Or.inl rfl)) (fc (eg_FL_of0 wd_c10 (by decide) lf_RX10_24 (fun _ => Or.inl rfl)) (fc (eg_FL_of0 wd_c10 (by decide) lf_RX10_30 (fun _ => Or.inr ⟨rfl, hn, rfl⟩)) (fc (eg_FL_of0 wd_c10 (by decide) lf_RX10_38 (fun _ => Or.inr ⟨rfl, hn, rfl⟩)) (fn)))))))) (fun A s H hE => (fc (List.mem_cons_of_mem _ lk_RX10_34) (fn))) (fun p e s m args below meth c Q A ad0 N0 S0 hK hEx hA => (fc (mz_O S0 lm_RX10_3 (by decide) (by decide) (by decide)) (fc (mz_IN hl S0 hK hEx hA (me_X7_ini0 g) nt_X7_ini0 (List.mem_of_getElem? (i := 9) rfl) li_X7_init ln_RX7 lc_X7_init ⟨rfl, by decide, by decide, by decide +kernel⟩ rfl ⟨rfl, rfl⟩ ⟨by decide, by decide⟩ si_X7_ini0 (by decide)) (fc (mz_I hl S0 hK hEx hA (me_X8_ini0 g) nt_X8_ini0 lm_RX10_35 li_X8_init ln_RX8 lc_X8_init ⟨rfl, by decide, by decide, by decide +kernel⟩ rfl ⟨rfl, rfl⟩ ⟨by decide, by decide⟩ si_X8_ini0 (by decide)) (fc (mz_i S0 hK hA) (fc (mz_q S0 hK hEx hA lq_RX10_15 (Or.inl ⟨rfl, rfl⟩) (by decide)) (fn))))))) (fun p e s m args below meth c Qc XC A ad0 N0 P S0 hK hEx hA hlk hout hPX => (fc (mz_N S0 hK hA wd_c8 f3_Y8 lq_RX10_15 lz_X8 ln_RX8 de_X10_ini0) (fc (mz_N S0 hK hA wd_c7 f3_Y7 lq_RX10_27 lz_X7 ln_RX7 de_X10_ini0) (fn)))) (fun argv M Qp h => T_X10_ini0 h)
def s_X3_ini0 : eg_S := fun argv M Qp => match argv with
  | [.ref 1] => M = mem 2 ∧ Qp (.inl none) (mem 112)
  | _ => False
theorem mo_X3_ini0 : eg_mono s_X3_ini0 := by
  intro argv M Q Q' h
  unfold s_X3_ini0
  split
  · exact fun z => ⟨z.1, h _ _ z.2⟩
  · exact id
theorem sz_X3_ini0 : ∀ argv M Qp, s_X3_ini0 argv M Qp → (eg_ls0 argv).length ≤ 1 := by
  intro argv M Qp h
  unfold s_X3_ini0 at h
  split at h
  · exact Nat.le_of_ble_eq_true rfl
  · exact h.elim
theorem si_X3_ini0 : ∀ argv M Qp, s_X3_ini0 argv M Qp → ∃ p0 As, argv = .ref p0 :: As := by
  intro argv M Qp h
  unfold s_X3_ini0 at h
  split at h
  · exact ⟨_, _, rfl⟩
  · exact h.elim
theorem nt_X3_ini0 : ∀ argv M Qp, s_X3_ini0 argv M Qp → s_X3_ini0 argv M (fun r N => match r with
    | .inl v => Qp (.inl v) N
    | .inr _ => False) := by
  intro argv M Qp h
  unfold s_X3_ini0 at h ⊢
  split at h
  · exact h
  · exact h.elim
def k_X3_ini0 : eg_C := ([(0, .aload_n 0, 1), (1, .invokespecial 3, 3), (4, .aload_n 0, 1), (5, .new 9, 3), (8, .dup, 1), (9, .invokespecial 11, 3), (12, .putfield 12, 3), (15, .aload_n 0, 1), (16, .new 18, 3), (19, .dup, 1), (20, .invokespecial 20, 3), (23, .putfield 21, 3), (26, .aload_n 0, 1), (27, .new 25, 3), (30, .dup, 1), (31, .invokespecial 27, 3), (34, .putfield 28, 3), (37, .aload_n 0, 1), (38, .new 32, 3), (41, .dup, 1), (42, .invokespecial 34, 3), (45, .putfield 35, 3), (48, .aload_n 0, 1), (49, .iconst (-1), 1), (50, .putfield 39, 3), (53, .aload_n 0, 1), (54, .aload_n 0, 1), (55, .getfield 35, 3), (58, .getfield 43, 3), (61, .putfield 47, 3), (64, .aload_n 0, 1), (65, .bipush 24, 2), (67, .newarray .int, 2), (69, .putfield 50, 3), (72, .aload_n 0, 1), (73, .sipush 200, 3), (76, .newarray .boolean, 2), (78, .putfield 54, 3), (81, .aload_n 0, 1), (82, .sipush 200, 3), (85, .newarray .int, 2), (87, .putfield 58, 3), (90, .aload_n 0, 1), (91, .sipush 200, 3), (94, .newarray .int, 2), (96, .putfield 61, 3), (99, .aload_n 0, 1), (100, .bipush 24, 2), (102, .newarray .int, 2), (104, .putfield 64, 3), (107, .aload_n 0, 1), (108, .bipush 24, 2), (110, .newarray .int, 2), (112, .putfield 67, 3), (115, .aload_n 0, 1), (116, .iconst 0, 1), (117, .putfield 70, 3), (120, .aload_n 0, 1), (121, .sipush 200, 3), (124, .newarray .long, 2), (126, .putfield 73, 3), (129, .aload_n 0, 1), (130, .sipush 200, 3), (133, .newarray .long, 2), (135, .putfield 77, 3), (138, .aload_n 0, 1), (139, .sipush 200, 3), (142, .newarray .int, 2), (144, .putfield 80, 3), (147, .aload_n 0, 1), (148, .sipush 200, 3), (151, .newarray .long, 2), (153, .putfield 83, 3), (156, .aload_n 0, 1), (157, .bipush 11, 2), (159, .newarray .long, 2), (161, .putfield 88, 3), (164, .aload_n 0, 1), (165, .bipush 40, 2), (167, .newarray .long, 2), (169, .putfield 91, 3), (172, .return_, 1)], [(12, 3, 0, true), (21, 3, 1, true), (28, 3, 2, true), (35, 3, 3, true), (39, 3, 4, true), (43, 10, 5, false), (47, 3, 5, true), (50, 3, 6, true), (54, 3, 7, true), (58, 3, 8, true), (61, 3, 9, true), (64, 3, 10, true), (67, 3, 11, true), (70, 3, 12, true), (73, 3, 13, true), (77, 3, 14, true), (80, 3, 15, true), (83, 3, 16, true), (88, 3, 17, true), (91, 3, 18, true)], [], [(3 + 200000, 1, 0, 0, eg_So), (11 + 200000, 0 + 1, 4, 64, s_X9_ini0), (20 + 200000, 0 + 1, 4, 96, s_X0_ini0), (27 + 200000, 0 + 1, 10, 2000, s_X1_ini0), (34 + 200000, 0 + 1, 10, 1628, s_X10_ini0), (300001, 1, 1, 200, s_newa w0 1 200), (300002, 1, 1, 200, s_newa w0 2 200), (300003, 1, 1, 200, s_newa w0 3 200)], [(9, .inr 9), (18, .inr 0), (25, .inr 1), (32, .inr 10)], 0, 44, 6215)
theorem mk_X3_ini0 : ∀ q ∈ k_X3_ini0.2.2.2.1, eg_mono q.2.2.2.2 := (fc (mo_So) (fc (mo_X9_ini0) (fc (mo_X0_ini0) (fc (mo_X1_ini0) (fc (mo_X10_ini0) (fc (mo_newa w0 1 200) (fc (mo_newa w0 2 200) (fc (mo_newa w0 3 200) (fn)))))))))
set_option maxRecDepth 100000 in
set_option maxHeartbeats 4000000 in
theorem T_X3_ini0 {argv : List Value} {M : eg_M} {Qp : eg_P} (h : s_X3_ini0 argv M Qp) : eg_T w0 k_X3_ini0 Qp 0 0 0 (eg_lsN 1 argv) [] M := by
  unfold s_X3_ini0 at h
  split at h
  · obtain ⟨rfl, hq⟩ := h
    refine (?_ : eg_T w0 k_X3_ini0 Qp 0 0 0 [some (.ref 1)] [] (mem 2))
    refine eg_T_run mk_X3_ini0 (cut := [1]) 12 (?_ : eg_T w0 k_X3_ini0 Qp 1 0 0 [some (.ref 1)] [.ref 1] (mem 2))
    refine x_call (j := 3) (n := 1) (kc := 0) (ks := 0) (S := eg_So) (av := [.ref 1]) (st := []) (M' := mem 2) mk_X3_ini0 rfl rfl rfl rfl rfl rfl ⟨rfl, rfl⟩ mo_So (?_ : eg_T w0 k_X3_ini0 Qp 4 0 0 [some (.ref 1)] [] (mem 2))
    refine eg_T_run mk_X3_ini0 (cut := [5]) 12 (?_ : eg_T w0 k_X3_ini0 Qp 5 0 0 [some (.ref 1)] [.ref 1] (mem 2))
    refine x_new (j := 9) (ci := 9) (q := 2) (sl := 5) mk_X3_ini0 rfl rfl rfl rfl (sN (by decide +kernel)) (sM (o := (0, 0, 9, 0)) (by decide +kernel)) (?_ : eg_T w0 k_X3_ini0 Qp 8 1 5 [some (.ref 1)] [.ref 2, .ref 1] (mem 3))
    refine eg_T_run mk_X3_ini0 (cut := [9]) 12 (?_ : eg_T w0 k_X3_ini0 Qp 9 1 5 [some (.ref 1)] [.ref 2, .ref 2, .ref 1] (mem 3))
    refine x_call (j := 11) (n := 1) (kc := 4) (ks := 64) (S := s_X9_ini0) (av := [.ref 2]) (st := [.ref 2, .ref 1]) (M' := mem 12) mk_X3_ini0 rfl rfl rfl rfl rfl rfl ⟨rfl, rfl, rfl⟩ mo_X9_ini0 (?_ : eg_T w0 k_X3_ini0 Qp 12 5 69 [some (.ref 1)] [.ref 2, .ref 1] (mem 12))
    refine x_putr (j := 12) (ci := 3) (f := 0) (p := 1) (q := 2) mk_X3_ini0 rfl rfl rfl (so (by decide +kernel)) (sM (o := (2, 1, 0, 2)) (by decide +kernel)) (?_ : eg_T w0 k_X3_ini0 Qp 15 5 69 [some (.ref 1)] [] (mem 13))
    refine eg_T_run mk_X3_ini0 (cut := [16]) 12 (?_ : eg_T w0 k_X3_ini0 Qp 16 5 69 [some (.ref 1)] [.ref 1] (mem 13))
    refine x_new (j := 18) (ci := 0) (q := 7) (sl := 5) mk_X3_ini0 rfl rfl rfl rfl (sN (by decide +kernel)) (sM (o := (0, 0, 0, 0)) (by decide +kernel)) (?_ : eg_T w0 k_X3_ini0 Qp 19 6 74 [some (.ref 1)] [.ref 7, .ref 1] (mem 14))
    refine eg_T_run mk_X3_ini0 (cut := [20]) 12 (?_ : eg_T w0 k_X3_ini0 Qp 20 6 74 [some (.ref 1)] [.ref 7, .ref 7, .ref 1] (mem 14))
    refine x_call (j := 20) (n := 1) (kc := 4) (ks := 96) (S := s_X0_ini0) (av := [.ref 7]) (st := [.ref 7, .ref 1]) (M' := mem 23) mk_X3_ini0 rfl rfl rfl rfl rfl rfl ⟨rfl, rfl, rfl⟩ mo_X0_ini0 (?_ : eg_T w0 k_X3_ini0 Qp 23 10 170 [some (.ref 1)] [.ref 7, .ref 1] (mem 23))
    refine x_putr (j := 21) (ci := 3) (f := 1) (p := 1) (q := 7) mk_X3_ini0 rfl rfl rfl (so (by decide +kernel)) (sM (o := (2, 1, 1, 7)) (by decide +kernel)) (?_ : eg_T w0 k_X3_ini0 Qp 26 10 170 [some (.ref 1)] [] (mem 24))
    refine eg_T_run mk_X3_ini0 (cut := [27]) 12 (?_ : eg_T w0 k_X3_ini0 Qp 27 10 170 [some (.ref 1)] [.ref 1] (mem 24))
    refine x_new (j := 25) (ci := 1) (q := 12) (sl := 11) mk_X3_ini0 rfl rfl rfl rfl (sN (by decide +kernel)) (sM (o := (0, 0, 1, 0)) (by decide +kernel)) (?_ : eg_T w0 k_X3_ini0 Qp 30 11 181 [some (.ref 1)] [.ref 12, .ref 1] (mem 25))
    refine eg_T_run mk_X3_ini0 (cut := [31]) 12 (?_ : eg_T w0 k_X3_ini0 Qp 31 11 181 [some (.ref 1)] [.ref 12, .ref 12, .ref 1] (mem 25))
    refine x_call (j := 27) (n := 1) (kc := 10) (ks := 2000) (S := s_X1_ini0) (av := [.ref 12]) (st := [.ref 12, .ref 1]) (M' := mem 46) mk_X3_ini0 rfl rfl rfl rfl rfl rfl ⟨rfl, rfl, rfl⟩ mo_X1_ini0 (?_ : eg_T w0 k_X3_ini0 Qp 34 21 2181 [some (.ref 1)] [.ref 12, .ref 1] (mem 46))
    refine x_putr (j := 28) (ci := 3) (f := 2) (p := 1) (q := 12) mk_X3_ini0 rfl rfl rfl (so (by decide +kernel)) (sM (o := (2, 1, 2, 12)) (by decide +kernel)) (?_ : eg_T w0 k_X3_ini0 Qp 37 21 2181 [some (.ref 1)] [] (mem 47))
    refine eg_T_run mk_X3_ini0 (cut := [38]) 12 (?_ : eg_T w0 k_X3_ini0 Qp 38 21 2181 [some (.ref 1)] [.ref 1] (mem 47))
    refine x_new (j := 32) (ci := 10) (q := 23) (sl := 6) mk_X3_ini0 rfl rfl rfl rfl (sN (by decide +kernel)) (sM (o := (0, 0, 10, 0)) (by decide +kernel)) (?_ : eg_T w0 k_X3_ini0 Qp 41 22 2187 [some (.ref 1)] [.ref 23, .ref 1] (mem 48))
    refine eg_T_run mk_X3_ini0 (cut := [42]) 12 (?_ : eg_T w0 k_X3_ini0 Qp 42 22 2187 [some (.ref 1)] [.ref 23, .ref 23, .ref 1] (mem 48))
    refine x_call (j := 34) (n := 1) (kc := 10) (ks := 1628) (S := s_X10_ini0) (av := [.ref 23]) (st := [.ref 23, .ref 1]) (M' := mem 84) mk_X3_ini0 rfl rfl rfl rfl rfl rfl ⟨rfl, rfl, rfl⟩ mo_X10_ini0 (?_ : eg_T w0 k_X3_ini0 Qp 45 32 3815 [some (.ref 1)] [.ref 23, .ref 1] (mem 84))
    refine x_putr (j := 35) (ci := 3) (f := 3) (p := 1) (q := 23) mk_X3_ini0 rfl rfl rfl (so (by decide +kernel)) (sM (o := (2, 1, 3, 23)) (by decide +kernel)) (?_ : eg_T w0 k_X3_ini0 Qp 48 32 3815 [some (.ref 1)] [] (mem 85))
    refine eg_T_run mk_X3_ini0 (cut := [50]) 12 (?_ : eg_T w0 k_X3_ini0 Qp 50 32 3815 [some (.ref 1)] [.int (-nI 1), .ref 1] (mem 85))
    refine x_puti (j := 39) (ci := 3) (f := 4) (p := 1) mk_X3_ini0 rfl rfl rfl (so (by decide +kernel)) (sM (o := (5, 1, 4, 1)) (by decide +kernel)) (?_ : eg_T w0 k_X3_ini0 Qp 53 32 3815 [some (.ref 1)] [] (mem 86))
    refine eg_T_run mk_X3_ini0 (cut := [55]) 12 (?_ : eg_T w0 k_X3_ini0 Qp 55 32 3815 [some (.ref 1)] [.ref 1, .ref 1] (mem 86))
    refine x_getr (j := 35) (ci := 3) (f := 3) (p := 1) (q := 23) mk_X3_ini0 rfl rfl (so (by decide +kernel)) (sF (q := 23) rfl (so (by decide +kernel)) (by decide +kernel)) (?_ : eg_T w0 k_X3_ini0 Qp 58 32 3815 [some (.ref 1)] [.ref 23, .ref 1] (mem 86))
    refine x_getr (j := 43) (ci := 10) (f := 5) (p := 23) (q := 30) mk_X3_ini0 rfl rfl (so (by decide +kernel)) (sF (q := 30) rfl (so (by decide +kernel)) (by decide +kernel)) (?_ : eg_T w0 k_X3_ini0 Qp 61 32 3815 [some (.ref 1)] [.ref 30, .ref 1] (mem 86))
    refine x_putr (j := 47) (ci := 3) (f := 5) (p := 1) (q := 30) mk_X3_ini0 rfl rfl rfl (so (by decide +kernel)) (sM (o := (2, 1, 5, 30)) (by decide +kernel)) (?_ : eg_T w0 k_X3_ini0 Qp 64 32 3815 [some (.ref 1)] [] (mem 87))
    refine eg_T_run mk_X3_ini0 (cut := [67]) 12 (?_ : eg_T w0 k_X3_ini0 Qp 67 32 3815 [some (.ref 1)] [.int (nI 24), .ref 1] (mem 87))
    refine x_newa (t := .int) (kd := 1) (ks := 200) (q := 34) (len := 24) mk_X3_ini0 rfl rfl rfl rfl (by decide) (n_c (by decide)) ⟨by decide, by decide⟩ (sN (by decide +kernel)) (sM (o := (0, 1, 24, 0)) (by decide +kernel)) (?_ : eg_T w0 k_X3_ini0 Qp 69 33 4015 [some (.ref 1)] [.ref 34, .ref 1] (mem 88))
    refine x_putr (j := 50) (ci := 3) (f := 6) (p := 1) (q := 34) mk_X3_ini0 rfl rfl rfl (so (by decide +kernel)) (sM (o := (2, 1, 6, 34)) (by decide +kernel)) (?_ : eg_T w0 k_X3_ini0 Qp 72 33 4015 [some (.ref 1)] [] (mem 89))
    refine eg_T_run mk_X3_ini0 (cut := [76]) 12 (?_ : eg_T w0 k_X3_ini0 Qp 76 33 4015 [some (.ref 1)] [.int (nI 200), .ref 1] (mem 89))
    refine x_newa (t := .boolean) (kd := 3) (ks := 200) (q := 35) (len := 200) mk_X3_ini0 rfl rfl rfl rfl (by decide) (n_c (by decide)) ⟨by decide, by decide⟩ (sN (by decide +kernel)) (sM (o := (0, 3, 200, 0)) (by decide +kernel)) (?_ : eg_T w0 k_X3_ini0 Qp 78 34 4215 [some (.ref 1)] [.ref 35, .ref 1] (mem 90))
    refine x_putr (j := 54) (ci := 3) (f := 7) (p := 1) (q := 35) mk_X3_ini0 rfl rfl rfl (so (by decide +kernel)) (sM (o := (2, 1, 7, 35)) (by decide +kernel)) (?_ : eg_T w0 k_X3_ini0 Qp 81 34 4215 [some (.ref 1)] [] (mem 91))
    refine eg_T_run mk_X3_ini0 (cut := [85]) 12 (?_ : eg_T w0 k_X3_ini0 Qp 85 34 4215 [some (.ref 1)] [.int (nI 200), .ref 1] (mem 91))
    refine x_newa (t := .int) (kd := 1) (ks := 200) (q := 36) (len := 200) mk_X3_ini0 rfl rfl rfl rfl (by decide) (n_c (by decide)) ⟨by decide, by decide⟩ (sN (by decide +kernel)) (sM (o := (0, 1, 200, 0)) (by decide +kernel)) (?_ : eg_T w0 k_X3_ini0 Qp 87 35 4415 [some (.ref 1)] [.ref 36, .ref 1] (mem 92))
    refine x_putr (j := 58) (ci := 3) (f := 8) (p := 1) (q := 36) mk_X3_ini0 rfl rfl rfl (so (by decide +kernel)) (sM (o := (2, 1, 8, 36)) (by decide +kernel)) (?_ : eg_T w0 k_X3_ini0 Qp 90 35 4415 [some (.ref 1)] [] (mem 93))
    refine eg_T_run mk_X3_ini0 (cut := [94]) 12 (?_ : eg_T w0 k_X3_ini0 Qp 94 35 4415 [some (.ref 1)] [.int (nI 200), .ref 1] (mem 93))
    refine x_newa (t := .int) (kd := 1) (ks := 200) (q := 37) (len := 200) mk_X3_ini0 rfl rfl rfl rfl (by decide) (n_c (by decide)) ⟨by decide, by decide⟩ (sN (by decide +kernel)) (sM (o := (0, 1, 200, 0)) (by decide +kernel)) (?_ : eg_T w0 k_X3_ini0 Qp 96 36 4615 [some (.ref 1)] [.ref 37, .ref 1] (mem 94))
    refine x_putr (j := 61) (ci := 3) (f := 9) (p := 1) (q := 37) mk_X3_ini0 rfl rfl rfl (so (by decide +kernel)) (sM (o := (2, 1, 9, 37)) (by decide +kernel)) (?_ : eg_T w0 k_X3_ini0 Qp 99 36 4615 [some (.ref 1)] [] (mem 95))
    refine eg_T_run mk_X3_ini0 (cut := [102]) 12 (?_ : eg_T w0 k_X3_ini0 Qp 102 36 4615 [some (.ref 1)] [.int (nI 24), .ref 1] (mem 95))
    refine x_newa (t := .int) (kd := 1) (ks := 200) (q := 38) (len := 24) mk_X3_ini0 rfl rfl rfl rfl (by decide) (n_c (by decide)) ⟨by decide, by decide⟩ (sN (by decide +kernel)) (sM (o := (0, 1, 24, 0)) (by decide +kernel)) (?_ : eg_T w0 k_X3_ini0 Qp 104 37 4815 [some (.ref 1)] [.ref 38, .ref 1] (mem 96))
    refine x_putr (j := 64) (ci := 3) (f := 10) (p := 1) (q := 38) mk_X3_ini0 rfl rfl rfl (so (by decide +kernel)) (sM (o := (2, 1, 10, 38)) (by decide +kernel)) (?_ : eg_T w0 k_X3_ini0 Qp 107 37 4815 [some (.ref 1)] [] (mem 97))
    refine eg_T_run mk_X3_ini0 (cut := [110]) 12 (?_ : eg_T w0 k_X3_ini0 Qp 110 37 4815 [some (.ref 1)] [.int (nI 24), .ref 1] (mem 97))
    refine x_newa (t := .int) (kd := 1) (ks := 200) (q := 39) (len := 24) mk_X3_ini0 rfl rfl rfl rfl (by decide) (n_c (by decide)) ⟨by decide, by decide⟩ (sN (by decide +kernel)) (sM (o := (0, 1, 24, 0)) (by decide +kernel)) (?_ : eg_T w0 k_X3_ini0 Qp 112 38 5015 [some (.ref 1)] [.ref 39, .ref 1] (mem 98))
    refine x_putr (j := 67) (ci := 3) (f := 11) (p := 1) (q := 39) mk_X3_ini0 rfl rfl rfl (so (by decide +kernel)) (sM (o := (2, 1, 11, 39)) (by decide +kernel)) (?_ : eg_T w0 k_X3_ini0 Qp 115 38 5015 [some (.ref 1)] [] (mem 99))
    refine eg_T_run mk_X3_ini0 (cut := [117]) 12 (?_ : eg_T w0 k_X3_ini0 Qp 117 38 5015 [some (.ref 1)] [.int (nI 0), .ref 1] (mem 99))
    refine x_puti (j := 70) (ci := 3) (f := 12) (p := 1) mk_X3_ini0 rfl rfl rfl (so (by decide +kernel)) (sM (o := (1, 1, 12, 0)) (by decide +kernel)) (?_ : eg_T w0 k_X3_ini0 Qp 120 38 5015 [some (.ref 1)] [] (mem 100))
    refine eg_T_run mk_X3_ini0 (cut := [124]) 12 (?_ : eg_T w0 k_X3_ini0 Qp 124 38 5015 [some (.ref 1)] [.int (nI 200), .ref 1] (mem 100))
    refine x_newa (t := .long) (kd := 2) (ks := 200) (q := 40) (len := 200) mk_X3_ini0 rfl rfl rfl rfl (by decide) (n_c (by decide)) ⟨by decide, by decide⟩ (sN (by decide +kernel)) (sM (o := (0, 2, 200, 0)) (by decide +kernel)) (?_ : eg_T w0 k_X3_ini0 Qp 126 39 5215 [some (.ref 1)] [.ref 40, .ref 1] (mem 101))
    refine x_putr (j := 73) (ci := 3) (f := 13) (p := 1) (q := 40) mk_X3_ini0 rfl rfl rfl (so (by decide +kernel)) (sM (o := (2, 1, 13, 40)) (by decide +kernel)) (?_ : eg_T w0 k_X3_ini0 Qp 129 39 5215 [some (.ref 1)] [] (mem 102))
    refine eg_T_run mk_X3_ini0 (cut := [133]) 12 (?_ : eg_T w0 k_X3_ini0 Qp 133 39 5215 [some (.ref 1)] [.int (nI 200), .ref 1] (mem 102))
    refine x_newa (t := .long) (kd := 2) (ks := 200) (q := 41) (len := 200) mk_X3_ini0 rfl rfl rfl rfl (by decide) (n_c (by decide)) ⟨by decide, by decide⟩ (sN (by decide +kernel)) (sM (o := (0, 2, 200, 0)) (by decide +kernel)) (?_ : eg_T w0 k_X3_ini0 Qp 135 40 5415 [some (.ref 1)] [.ref 41, .ref 1] (mem 103))
    refine x_putr (j := 77) (ci := 3) (f := 14) (p := 1) (q := 41) mk_X3_ini0 rfl rfl rfl (so (by decide +kernel)) (sM (o := (2, 1, 14, 41)) (by decide +kernel)) (?_ : eg_T w0 k_X3_ini0 Qp 138 40 5415 [some (.ref 1)] [] (mem 104))
    refine eg_T_run mk_X3_ini0 (cut := [142]) 12 (?_ : eg_T w0 k_X3_ini0 Qp 142 40 5415 [some (.ref 1)] [.int (nI 200), .ref 1] (mem 104))
    refine x_newa (t := .int) (kd := 1) (ks := 200) (q := 42) (len := 200) mk_X3_ini0 rfl rfl rfl rfl (by decide) (n_c (by decide)) ⟨by decide, by decide⟩ (sN (by decide +kernel)) (sM (o := (0, 1, 200, 0)) (by decide +kernel)) (?_ : eg_T w0 k_X3_ini0 Qp 144 41 5615 [some (.ref 1)] [.ref 42, .ref 1] (mem 105))
    refine x_putr (j := 80) (ci := 3) (f := 15) (p := 1) (q := 42) mk_X3_ini0 rfl rfl rfl (so (by decide +kernel)) (sM (o := (2, 1, 15, 42)) (by decide +kernel)) (?_ : eg_T w0 k_X3_ini0 Qp 147 41 5615 [some (.ref 1)] [] (mem 106))
    refine eg_T_run mk_X3_ini0 (cut := [151]) 12 (?_ : eg_T w0 k_X3_ini0 Qp 151 41 5615 [some (.ref 1)] [.int (nI 200), .ref 1] (mem 106))
    refine x_newa (t := .long) (kd := 2) (ks := 200) (q := 43) (len := 200) mk_X3_ini0 rfl rfl rfl rfl (by decide) (n_c (by decide)) ⟨by decide, by decide⟩ (sN (by decide +kernel)) (sM (o := (0, 2, 200, 0)) (by decide +kernel)) (?_ : eg_T w0 k_X3_ini0 Qp 153 42 5815 [some (.ref 1)] [.ref 43, .ref 1] (mem 107))
    refine x_putr (j := 83) (ci := 3) (f := 16) (p := 1) (q := 43) mk_X3_ini0 rfl rfl rfl (so (by decide +kernel)) (sM (o := (2, 1, 16, 43)) (by decide +kernel)) (?_ : eg_T w0 k_X3_ini0 Qp 156 42 5815 [some (.ref 1)] [] (mem 108))
    refine eg_T_run mk_X3_ini0 (cut := [159]) 12 (?_ : eg_T w0 k_X3_ini0 Qp 159 42 5815 [some (.ref 1)] [.int (nI 11), .ref 1] (mem 108))
    refine x_newa (t := .long) (kd := 2) (ks := 200) (q := 44) (len := 11) mk_X3_ini0 rfl rfl rfl rfl (by decide) (n_c (by decide)) ⟨by decide, by decide⟩ (sN (by decide +kernel)) (sM (o := (0, 2, 11, 0)) (by decide +kernel)) (?_ : eg_T w0 k_X3_ini0 Qp 161 43 6015 [some (.ref 1)] [.ref 44, .ref 1] (mem 109))
    refine x_putr (j := 88) (ci := 3) (f := 17) (p := 1) (q := 44) mk_X3_ini0 rfl rfl rfl (so (by decide +kernel)) (sM (o := (2, 1, 17, 44)) (by decide +kernel)) (?_ : eg_T w0 k_X3_ini0 Qp 164 43 6015 [some (.ref 1)] [] (mem 110))
    refine eg_T_run mk_X3_ini0 (cut := [167]) 12 (?_ : eg_T w0 k_X3_ini0 Qp 167 43 6015 [some (.ref 1)] [.int (nI 40), .ref 1] (mem 110))
    refine x_newa (t := .long) (kd := 2) (ks := 200) (q := 45) (len := 40) mk_X3_ini0 rfl rfl rfl rfl (by decide) (n_c (by decide)) ⟨by decide, by decide⟩ (sN (by decide +kernel)) (sM (o := (0, 2, 40, 0)) (by decide +kernel)) (?_ : eg_T w0 k_X3_ini0 Qp 169 44 6215 [some (.ref 1)] [.ref 45, .ref 1] (mem 111))
    refine x_putr (j := 91) (ci := 3) (f := 18) (p := 1) (q := 45) mk_X3_ini0 rfl rfl rfl (so (by decide +kernel)) (sM (o := (2, 1, 18, 45)) (by decide +kernel)) (?_ : eg_T w0 k_X3_ini0 Qp 172 44 6215 [some (.ref 1)] [] (mem 112))
    exact x_ret mk_X3_ini0 rfl rfl rfl hq
  · exact h.elim
theorem de_X3_ini0 : ∀ q ∈ k_X3_ini0.1, decode cX3_init q.1 = .ok q.2 := by decide +kernel
theorem me_X3_ini0 (g : gl_T) : MT0 g yX3_init cX3_init 1 none ⟨3, 44, 6215, 66⟩ 44 6215 s_X3_ini0 := by
  intro hl
  exact eg_met_of (k := k_X3_ini0) (by decide) rfl ⟨Nat.le_refl _, Nat.le_refl _⟩ rfl sz_X3_ini0 de_X3_ini0 (fun meth hn => (fc (eg_FL_of0 wd_c3 (by decide) lf_RX3_12 (fun _ => Or.inr ⟨rfl, hn, rfl⟩)) (fc (eg_FL_of0 wd_c3 (by decide) lf_RX3_21 (fun _ => Or.inr ⟨rfl, hn, rfl⟩)) (fc (eg_FL_of0 wd_c3 (by decide) lf_RX3_28 (fun _ => Or.inr ⟨rfl, hn, rfl⟩)) (fc (eg_FL_of0 wd_c3 (by decide) lf_RX3_35 (fun _ => Or.inr ⟨rfl, hn, rfl⟩)) (fc (eg_FL_of0 wd_c3 (by decide) lf_RX3_39 (fun _ => Or.inl rfl)) (fc (eg_FL_of0 wd_c10 (by decide) lf_RX3_43 (fun h => absurd h (by decide))) (fc (eg_FL_of0 wd_c3 (by decide) lf_RX3_47 (fun _ => Or.inl rfl)) (fc (eg_FL_of0 wd_c3 (by decide) lf_RX3_50 (fun _ => Or.inr ⟨rfl, hn, rfl⟩)) (fc (eg_FL_of0 wd_c3 (by decide) lf_RX3_54 (fun _ => Or.inr ⟨rfl, hn, rfl⟩)) (fc (eg_FL_of0 wd_c3 (by decide) lf_RX3_58 (fun _ => Or.inr ⟨rfl, hn, rfl⟩)) (fc (eg_FL_of0 wd_c3 (by decide) lf_RX3_61 (fun _ => Or.inr ⟨rfl, hn, rfl⟩)) (fc (eg_FL_of0 wd_c3 (by decide) lf_RX3_64 (fun _ => Or.inr ⟨rfl, hn, rfl⟩)) (fc (eg_FL_of0 wd_c3 (by decide) lf_RX3_67 (fun _ => Or.inr ⟨rfl, hn, rfl⟩)) (fc (eg_FL_of0 wd_c3 (by decide) lf_RX3_70 (fun _ => Or.inl rfl)) (fc (eg_FL_of0 wd_c3 (by decide) lf_RX3_73 (fun _ => Or.inr ⟨rfl, hn, rfl⟩)) (fc (eg_FL_of0 wd_c3 (by decide) lf_RX3_77 (fun _ => Or.inr ⟨rfl, hn, rfl⟩)) (fc (eg_FL_of0 wd_c3 (by decide) lf_RX3_80 (fun _ => Or.inr ⟨rfl, hn, rfl⟩)) (fc (eg_FL_of0 wd_c3 (by decide) lf_RX3_83 (fun _ => Or.inr ⟨rfl, hn, rfl⟩)) (fc (eg_FL_of0 wd_c3 (by decide) lf_RX3_88 (fun _ => Or.inr ⟨rfl, hn, rfl⟩)) (fc (eg_FL_of0 wd_c3 (by decide) lf_RX3_91 (fun _ => Or.inr ⟨rfl, hn, rfl⟩)) (fn)))))))))))))))))))))) (fun A s H hE => (fn)) (fun p e s m args below meth c Q A ad0 N0 S0 hK hEx hA => (fc (mz_O S0 lm_RX3_3 (by decide) (by decide) (by decide)) (fc (mz_IN hl S0 hK hEx hA (me_X9_ini0 g) nt_X9_ini0 (List.mem_of_getElem? (i := 3) rfl) li_X9_init ln_RX9 lc_X9_init ⟨rfl, by decide, by decide, by decide +kernel⟩ rfl ⟨rfl, rfl⟩ ⟨by decide, by decide⟩ si_X9_ini0 (by decide)) (fc (mz_IN hl S0 hK hEx hA (me_X0_ini0 g) nt_X0_ini0 (List.mem_of_getElem? (i := 4) rfl) li_X0_init ln_RX0 lc_X0_init ⟨rfl, by decide, by decide, by decide +kernel⟩ rfl ⟨rfl, rfl⟩ ⟨by decide, by decide⟩ si_X0_ini0 (by decide)) (fc (mz_IN hl S0 hK hEx hA (me_X1_ini0 g) nt_X1_ini0 (List.mem_of_getElem? (i := 5) rfl) li_X1_init ln_RX1 lc_X1_init ⟨rfl, by decide, by decide, by decide +kernel⟩ rfl ⟨rfl, rfl⟩ ⟨by decide, by decide⟩ si_X1_ini0 (by decide)) (fc (mz_IN hl S0 hK hEx hA (me_X10_ini0 g) nt_X10_ini0 (List.mem_of_getElem? (i := 6) rfl) li_X10_init ln_RX10 lc_X10_init ⟨rfl, by decide, by decide, by decide +kernel⟩ rfl ⟨rfl, rfl⟩ ⟨by decide, by decide⟩ si_X10_ini0 (by decide)) (fc (mz_i S0 hK hA) (fc (mz_l S0 hK hA) (fc (mz_z S0 hK hA) (fn)))))))))) (fun p e s m args below meth c Qc XC A ad0 N0 P S0 hK hEx hA hlk hout hPX => (fc (mz_N S0 hK hA wd_c9 f3_Y9 lq_RX3_9 lz_X9 ln_RX9 de_X3_ini0) (fc (mz_N S0 hK hA wd_c0 f3_Y0 lq_RX3_18 lz_X0 ln_RX0 de_X3_ini0) (fc (mz_N S0 hK hA wd_c1 f3_Y1 lq_RX3_25 lz_X1 ln_RX1 de_X3_ini0) (fc (mz_N S0 hK hA wd_c10 f3_Y10 lq_RX3_32 lz_X10 ln_RX10 de_X3_ini0) (fn)))))) (fun argv M Qp h => T_X3_ini0 h)
def s_X5_ini0 : eg_S := fun argv M Qp => match argv with
  | [.ref 55] => M = mem 139 ∧ Qp (.inl none) (mem 156)
  | _ => False
theorem mo_X5_ini0 : eg_mono s_X5_ini0 := by
  intro argv M Q Q' h
  unfold s_X5_ini0
  split
  · exact fun z => ⟨z.1, h _ _ z.2⟩
  · exact id
theorem sz_X5_ini0 : ∀ argv M Qp, s_X5_ini0 argv M Qp → (eg_ls0 argv).length ≤ 1 := by
  intro argv M Qp h
  unfold s_X5_ini0 at h
  split at h
  · exact Nat.le_of_ble_eq_true rfl
  · exact h.elim
theorem si_X5_ini0 : ∀ argv M Qp, s_X5_ini0 argv M Qp → ∃ p0 As, argv = .ref p0 :: As := by
  intro argv M Qp h
  unfold s_X5_ini0 at h
  split at h
  · exact ⟨_, _, rfl⟩
  · exact h.elim
theorem nt_X5_ini0 : ∀ argv M Qp, s_X5_ini0 argv M Qp → s_X5_ini0 argv M (fun r N => match r with
    | .inl v => Qp (.inl v) N
    | .inr _ => False) := by
  intro argv M Qp h
  unfold s_X5_ini0 at h ⊢
  split at h
  · exact h
  · exact h.elim
def k_X5_ini0 : eg_C := ([(0, .aload_n 0, 1), (1, .invokespecial 3, 3), (4, .aload_n 0, 1), (5, .bipush 8, 2), (7, .bipush 7, 2), (9, .multianewarray 9 2, 4), (13, .putfield 11, 3), (16, .aload_n 0, 1), (17, .bipush 33, 2), (19, .newarray .int, 2), (21, .putfield 18, 3), (24, .aload_n 0, 1), (25, .iconst 0, 1), (26, .putfield 22, 3), (29, .aload_n 0, 1), (30, .bipush 9, 2), (32, .newarray .long, 2), (34, .putfield 26, 3), (37, .aload_n 0, 1), (38, .bipush 33, 2), (40, .newarray .long, 2), (42, .putfield 30, 3), (45, .aload_n 0, 1), (46, .bipush 33, 2), (48, .newarray .int, 2), (50, .putfield 33, 3), (53, .aload_n 0, 1), (54, .bipush 33, 2), (56, .newarray .int, 2), (58, .putfield 36, 3), (61, .aload_n 0, 1), (62, .bipush 33, 2), (64, .newarray .long, 2), (66, .putfield 39, 3), (69, .aload_n 0, 1), (70, .bipush 33, 2), (72, .newarray .boolean, 2), (74, .putfield 42, 3), (77, .return_, 1)], [(11, 5, 0, true), (18, 5, 1, true), (22, 5, 2, true), (26, 5, 3, true), (30, 5, 4, true), (33, 5, 5, true), (36, 5, 6, true), (39, 5, 7, true), (42, 5, 8, true)], [], [(3 + 200000, 1, 0, 0, eg_So), (300001, 1, 1, 33, s_newa w0 1 33), (300002, 1, 1, 33, s_newa w0 2 33), (300003, 1, 1, 33, s_newa w0 3 33), (9 + 320000, 2, 9, 64, s_mna w0 7 2 9 64)], [], 0, 16, 295)
theorem mk_X5_ini0 : ∀ q ∈ k_X5_ini0.2.2.2.1, eg_mono q.2.2.2.2 := (fc (mo_So) (fc (mo_newa w0 1 33) (fc (mo_newa w0 2 33) (fc (mo_newa w0 3 33) (fc (mo_mna w0 7 2 9 64) (fn))))))
set_option maxRecDepth 100000 in
set_option maxHeartbeats 4000000 in
theorem T_X5_ini0 {argv : List Value} {M : eg_M} {Qp : eg_P} (h : s_X5_ini0 argv M Qp) : eg_T w0 k_X5_ini0 Qp 0 0 0 (eg_lsN 1 argv) [] M := by
  unfold s_X5_ini0 at h
  split at h
  · obtain ⟨rfl, hq⟩ := h
    refine (?_ : eg_T w0 k_X5_ini0 Qp 0 0 0 [some (.ref 55)] [] (mem 139))
    refine eg_T_run mk_X5_ini0 (cut := [1]) 12 (?_ : eg_T w0 k_X5_ini0 Qp 1 0 0 [some (.ref 55)] [.ref 55] (mem 139))
    refine x_call (j := 3) (n := 1) (kc := 0) (ks := 0) (S := eg_So) (av := [.ref 55]) (st := []) (M' := mem 139) mk_X5_ini0 rfl rfl rfl rfl rfl rfl ⟨rfl, rfl⟩ mo_So (?_ : eg_T w0 k_X5_ini0 Qp 4 0 0 [some (.ref 55)] [] (mem 139))
    refine eg_T_run mk_X5_ini0 (cut := [9]) 12 (?_ : eg_T w0 k_X5_ini0 Qp 9 0 0 [some (.ref 55)] [.int (nI 7), .int (nI 8), .ref 55] (mem 139))
    refine x_mna (j := 9) (kd := 7) (kr := 2) (kc := 9) (ks := 64) (q := 56) (a := 8) (b := 7) mk_X5_ini0 rfl rfl rfl rfl ⟨by decide, by decide⟩ (n_c (by decide)) (n_c (by decide)) ⟨by decide, by decide, by decide, by decide⟩ (sN (by decide +kernel)) (sM (o := (4, 8, 7, 0)) (by decide +kernel)) (?_ : eg_T w0 k_X5_ini0 Qp 13 9 64 [some (.ref 55)] [.ref 56, .ref 55] (mem 140))
    refine x_putr (j := 11) (ci := 5) (f := 0) (p := 55) (q := 56) mk_X5_ini0 rfl rfl rfl (so (by decide +kernel)) (sM (o := (2, 55, 0, 56)) (by decide +kernel)) (?_ : eg_T w0 k_X5_ini0 Qp 16 9 64 [some (.ref 55)] [] (mem 141))
    refine eg_T_run mk_X5_ini0 (cut := [19]) 12 (?_ : eg_T w0 k_X5_ini0 Qp 19 9 64 [some (.ref 55)] [.int (nI 33), .ref 55] (mem 141))
    refine x_newa (t := .int) (kd := 1) (ks := 33) (q := 65) (len := 33) mk_X5_ini0 rfl rfl rfl rfl (by decide) (n_c (by decide)) ⟨by decide, by decide⟩ (sN (by decide +kernel)) (sM (o := (0, 1, 33, 0)) (by decide +kernel)) (?_ : eg_T w0 k_X5_ini0 Qp 21 10 97 [some (.ref 55)] [.ref 65, .ref 55] (mem 142))
    refine x_putr (j := 18) (ci := 5) (f := 1) (p := 55) (q := 65) mk_X5_ini0 rfl rfl rfl (so (by decide +kernel)) (sM (o := (2, 55, 1, 65)) (by decide +kernel)) (?_ : eg_T w0 k_X5_ini0 Qp 24 10 97 [some (.ref 55)] [] (mem 143))
    refine eg_T_run mk_X5_ini0 (cut := [26]) 12 (?_ : eg_T w0 k_X5_ini0 Qp 26 10 97 [some (.ref 55)] [.int (nI 0), .ref 55] (mem 143))
    refine x_puti (j := 22) (ci := 5) (f := 2) (p := 55) mk_X5_ini0 rfl rfl rfl (so (by decide +kernel)) (sM (o := (1, 55, 2, 0)) (by decide +kernel)) (?_ : eg_T w0 k_X5_ini0 Qp 29 10 97 [some (.ref 55)] [] (mem 144))
    refine eg_T_run mk_X5_ini0 (cut := [32]) 12 (?_ : eg_T w0 k_X5_ini0 Qp 32 10 97 [some (.ref 55)] [.int (nI 9), .ref 55] (mem 144))
    refine x_newa (t := .long) (kd := 2) (ks := 33) (q := 66) (len := 9) mk_X5_ini0 rfl rfl rfl rfl (by decide) (n_c (by decide)) ⟨by decide, by decide⟩ (sN (by decide +kernel)) (sM (o := (0, 2, 9, 0)) (by decide +kernel)) (?_ : eg_T w0 k_X5_ini0 Qp 34 11 130 [some (.ref 55)] [.ref 66, .ref 55] (mem 145))
    refine x_putr (j := 26) (ci := 5) (f := 3) (p := 55) (q := 66) mk_X5_ini0 rfl rfl rfl (so (by decide +kernel)) (sM (o := (2, 55, 3, 66)) (by decide +kernel)) (?_ : eg_T w0 k_X5_ini0 Qp 37 11 130 [some (.ref 55)] [] (mem 146))
    refine eg_T_run mk_X5_ini0 (cut := [40]) 12 (?_ : eg_T w0 k_X5_ini0 Qp 40 11 130 [some (.ref 55)] [.int (nI 33), .ref 55] (mem 146))
    refine x_newa (t := .long) (kd := 2) (ks := 33) (q := 67) (len := 33) mk_X5_ini0 rfl rfl rfl rfl (by decide) (n_c (by decide)) ⟨by decide, by decide⟩ (sN (by decide +kernel)) (sM (o := (0, 2, 33, 0)) (by decide +kernel)) (?_ : eg_T w0 k_X5_ini0 Qp 42 12 163 [some (.ref 55)] [.ref 67, .ref 55] (mem 147))
    refine x_putr (j := 30) (ci := 5) (f := 4) (p := 55) (q := 67) mk_X5_ini0 rfl rfl rfl (so (by decide +kernel)) (sM (o := (2, 55, 4, 67)) (by decide +kernel)) (?_ : eg_T w0 k_X5_ini0 Qp 45 12 163 [some (.ref 55)] [] (mem 148))
    refine eg_T_run mk_X5_ini0 (cut := [48]) 12 (?_ : eg_T w0 k_X5_ini0 Qp 48 12 163 [some (.ref 55)] [.int (nI 33), .ref 55] (mem 148))
    refine x_newa (t := .int) (kd := 1) (ks := 33) (q := 68) (len := 33) mk_X5_ini0 rfl rfl rfl rfl (by decide) (n_c (by decide)) ⟨by decide, by decide⟩ (sN (by decide +kernel)) (sM (o := (0, 1, 33, 0)) (by decide +kernel)) (?_ : eg_T w0 k_X5_ini0 Qp 50 13 196 [some (.ref 55)] [.ref 68, .ref 55] (mem 149))
    refine x_putr (j := 33) (ci := 5) (f := 5) (p := 55) (q := 68) mk_X5_ini0 rfl rfl rfl (so (by decide +kernel)) (sM (o := (2, 55, 5, 68)) (by decide +kernel)) (?_ : eg_T w0 k_X5_ini0 Qp 53 13 196 [some (.ref 55)] [] (mem 150))
    refine eg_T_run mk_X5_ini0 (cut := [56]) 12 (?_ : eg_T w0 k_X5_ini0 Qp 56 13 196 [some (.ref 55)] [.int (nI 33), .ref 55] (mem 150))
    refine x_newa (t := .int) (kd := 1) (ks := 33) (q := 69) (len := 33) mk_X5_ini0 rfl rfl rfl rfl (by decide) (n_c (by decide)) ⟨by decide, by decide⟩ (sN (by decide +kernel)) (sM (o := (0, 1, 33, 0)) (by decide +kernel)) (?_ : eg_T w0 k_X5_ini0 Qp 58 14 229 [some (.ref 55)] [.ref 69, .ref 55] (mem 151))
    refine x_putr (j := 36) (ci := 5) (f := 6) (p := 55) (q := 69) mk_X5_ini0 rfl rfl rfl (so (by decide +kernel)) (sM (o := (2, 55, 6, 69)) (by decide +kernel)) (?_ : eg_T w0 k_X5_ini0 Qp 61 14 229 [some (.ref 55)] [] (mem 152))
    refine eg_T_run mk_X5_ini0 (cut := [64]) 12 (?_ : eg_T w0 k_X5_ini0 Qp 64 14 229 [some (.ref 55)] [.int (nI 33), .ref 55] (mem 152))
    refine x_newa (t := .long) (kd := 2) (ks := 33) (q := 70) (len := 33) mk_X5_ini0 rfl rfl rfl rfl (by decide) (n_c (by decide)) ⟨by decide, by decide⟩ (sN (by decide +kernel)) (sM (o := (0, 2, 33, 0)) (by decide +kernel)) (?_ : eg_T w0 k_X5_ini0 Qp 66 15 262 [some (.ref 55)] [.ref 70, .ref 55] (mem 153))
    refine x_putr (j := 39) (ci := 5) (f := 7) (p := 55) (q := 70) mk_X5_ini0 rfl rfl rfl (so (by decide +kernel)) (sM (o := (2, 55, 7, 70)) (by decide +kernel)) (?_ : eg_T w0 k_X5_ini0 Qp 69 15 262 [some (.ref 55)] [] (mem 154))
    refine eg_T_run mk_X5_ini0 (cut := [72]) 12 (?_ : eg_T w0 k_X5_ini0 Qp 72 15 262 [some (.ref 55)] [.int (nI 33), .ref 55] (mem 154))
    refine x_newa (t := .boolean) (kd := 3) (ks := 33) (q := 71) (len := 33) mk_X5_ini0 rfl rfl rfl rfl (by decide) (n_c (by decide)) ⟨by decide, by decide⟩ (sN (by decide +kernel)) (sM (o := (0, 3, 33, 0)) (by decide +kernel)) (?_ : eg_T w0 k_X5_ini0 Qp 74 16 295 [some (.ref 55)] [.ref 71, .ref 55] (mem 155))
    refine x_putr (j := 42) (ci := 5) (f := 8) (p := 55) (q := 71) mk_X5_ini0 rfl rfl rfl (so (by decide +kernel)) (sM (o := (2, 55, 8, 71)) (by decide +kernel)) (?_ : eg_T w0 k_X5_ini0 Qp 77 16 295 [some (.ref 55)] [] (mem 156))
    exact x_ret mk_X5_ini0 rfl rfl rfl hq
  · exact h.elim
theorem de_X5_ini0 : ∀ q ∈ k_X5_ini0.1, decode cX5_init q.1 = .ok q.2 := by decide +kernel
theorem me_X5_ini0 (g : gl_T) : MT0 g yX5_init cX5_init 1 none ⟨1, 16, 295, 20⟩ 16 295 s_X5_ini0 := by
  intro hl
  exact eg_met_of (k := k_X5_ini0) (by decide) rfl ⟨Nat.le_refl _, Nat.le_refl _⟩ rfl sz_X5_ini0 de_X5_ini0 (fun meth hn => (fc (eg_FL_of0 wd_c5 (by decide) lf_RX5_11 (fun _ => Or.inr ⟨rfl, hn, rfl⟩)) (fc (eg_FL_of0 wd_c5 (by decide) lf_RX5_18 (fun _ => Or.inr ⟨rfl, hn, rfl⟩)) (fc (eg_FL_of0 wd_c5 (by decide) lf_RX5_22 (fun _ => Or.inl rfl)) (fc (eg_FL_of0 wd_c5 (by decide) lf_RX5_26 (fun _ => Or.inr ⟨rfl, hn, rfl⟩)) (fc (eg_FL_of0 wd_c5 (by decide) lf_RX5_30 (fun _ => Or.inr ⟨rfl, hn, rfl⟩)) (fc (eg_FL_of0 wd_c5 (by decide) lf_RX5_33 (fun _ => Or.inr ⟨rfl, hn, rfl⟩)) (fc (eg_FL_of0 wd_c5 (by decide) lf_RX5_36 (fun _ => Or.inr ⟨rfl, hn, rfl⟩)) (fc (eg_FL_of0 wd_c5 (by decide) lf_RX5_39 (fun _ => Or.inr ⟨rfl, hn, rfl⟩)) (fc (eg_FL_of0 wd_c5 (by decide) lf_RX5_42 (fun _ => Or.inr ⟨rfl, hn, rfl⟩)) (fn))))))))))) (fun A s H hE => (fn)) (fun p e s m args below meth c Q A ad0 N0 S0 hK hEx hA => (fc (mz_O S0 lm_RX5_3 (by decide) (by decide) (by decide)) (fc (mz_i S0 hK hA) (fc (mz_l S0 hK hA) (fc (mz_z S0 hK hA) (fc (mz_m (ty := .long) S0 hK hEx hA gt_l5 (Or.inr ⟨rfl, rfl, rfl⟩) (by decide)) (fn))))))) (fun p e s m args below meth c Qc XC A ad0 N0 P S0 hK hEx hA hlk hout hPX => (fn)) (fun argv M Qp h => T_X5_ini0 h)
def s_X4_ini0 : eg_S := fun argv M Qp => match argv with
  | [.ref 46] => M = mem 118 ∧ Qp (.inl none) (mem 157)
  | _ => False
theorem mo_X4_ini0 : eg_mono s_X4_ini0 := by
  intro argv M Q Q' h
  unfold s_X4_ini0
  split
  · exact fun z => ⟨z.1, h _ _ z.2⟩
  · exact id
theorem sz_X4_ini0 : ∀ argv M Qp, s_X4_ini0 argv M Qp → (eg_ls0 argv).length ≤ 1 := by
  intro argv M Qp h
  unfold s_X4_ini0 at h
  split at h
  · exact Nat.le_of_ble_eq_true rfl
  · exact h.elim
theorem si_X4_ini0 : ∀ argv M Qp, s_X4_ini0 argv M Qp → ∃ p0 As, argv = .ref p0 :: As := by
  intro argv M Qp h
  unfold s_X4_ini0 at h
  split at h
  · exact ⟨_, _, rfl⟩
  · exact h.elim
theorem nt_X4_ini0 : ∀ argv M Qp, s_X4_ini0 argv M Qp → s_X4_ini0 argv M (fun r N => match r with
    | .inl v => Qp (.inl v) N
    | .inr _ => False) := by
  intro argv M Qp h
  unfold s_X4_ini0 at h ⊢
  split at h
  · exact h
  · exact h.elim
def k_X4_ini0 : eg_C := ([(0, .aload_n 0, 1), (1, .invokespecial 5, 3), (4, .aload_n 0, 1), (5, .iconst 0, 1), (6, .putfield 11, 3), (9, .aload_n 0, 1), (10, .bipush 6, 2), (12, .newarray .int, 2), (14, .putfield 15, 3), (17, .aload_n 0, 1), (18, .bipush 6, 2), (20, .newarray .int, 2), (22, .putfield 19, 3), (25, .aload_n 0, 1), (26, .bipush 6, 2), (28, .newarray .boolean, 2), (30, .putfield 22, 3), (33, .aload_n 0, 1), (34, .bipush 6, 2), (36, .newarray .int, 2), (38, .putfield 26, 3), (41, .aload_n 0, 1), (42, .iconst 0, 1), (43, .putfield 29, 3), (46, .aload_n 0, 1), (47, .bipush 8, 2), (49, .newarray .int, 2), (51, .putfield 32, 3), (54, .aload_n 0, 1), (55, .bipush 8, 2), (57, .newarray .int, 2), (59, .putfield 35, 3), (62, .aload_n 0, 1), (63, .bipush 8, 2), (65, .newarray .boolean, 2), (67, .putfield 38, 3), (70, .aload_n 0, 1), (71, .iconst (-1), 1), (72, .putfield 41, 3), (75, .aload_n 0, 1), (76, .iconst 0, 1), (77, .putfield 44, 3), (80, .aload_n 0, 1), (81, .bipush 8, 2), (83, .newarray .int, 2), (85, .putfield 47, 3), (88, .aload_n 0, 1), (89, .new 50, 3), (92, .dup, 1), (93, .invokespecial 52, 3), (96, .putfield 53, 3), (99, .return_, 1)], [(11, 4, 0, true), (15, 4, 1, true), (19, 4, 2, true), (22, 4, 3, true), (26, 4, 4, true), (29, 4, 5, true), (32, 4, 6, true), (35, 4, 7, true), (38, 4, 8, true), (41, 4, 9, true), (44, 4, 10, true), (47, 4, 11, true), (53, 4, 12, true)], [], [(5 + 200000, 1, 0, 0, eg_So), (52 + 200000, 0 + 1, 16, 295, s_X5_ini0), (300001, 1, 1, 8, s_newa w0 1 8), (300003, 1, 1, 8, s_newa w0 3 8)], [(50, .inr 5)], 0, 25, 368)
theorem mk_X4_ini0 : ∀ q ∈ k_X4_ini0.2.2.2.1, eg_mono q.2.2.2.2 := (fc (mo_So) (fc (mo_X5_ini0) (fc (mo_newa w0 1 8) (fc (mo_newa w0 3 8) (fn)))))
set_option maxRecDepth 100000 in
set_option maxHeartbeats 4000000 in
theorem T_X4_ini0 {argv : List Value} {M : eg_M} {Qp : eg_P} (h : s_X4_ini0 argv M Qp) : eg_T w0 k_X4_ini0 Qp 0 0 0 (eg_lsN 1 argv) [] M := by
  unfold s_X4_ini0 at h
  split at h
  · obtain ⟨rfl, hq⟩ := h
    refine (?_ : eg_T w0 k_X4_ini0 Qp 0 0 0 [some (.ref 46)] [] (mem 118))
    refine eg_T_run mk_X4_ini0 (cut := [1]) 12 (?_ : eg_T w0 k_X4_ini0 Qp 1 0 0 [some (.ref 46)] [.ref 46] (mem 118))
    refine x_call (j := 5) (n := 1) (kc := 0) (ks := 0) (S := eg_So) (av := [.ref 46]) (st := []) (M' := mem 118) mk_X4_ini0 rfl rfl rfl rfl rfl rfl ⟨rfl, rfl⟩ mo_So (?_ : eg_T w0 k_X4_ini0 Qp 4 0 0 [some (.ref 46)] [] (mem 118))
    refine eg_T_run mk_X4_ini0 (cut := [6]) 12 (?_ : eg_T w0 k_X4_ini0 Qp 6 0 0 [some (.ref 46)] [.int (nI 0), .ref 46] (mem 118))
    refine x_puti (j := 11) (ci := 4) (f := 0) (p := 46) mk_X4_ini0 rfl rfl rfl (so (by decide +kernel)) (sM (o := (1, 46, 0, 0)) (by decide +kernel)) (?_ : eg_T w0 k_X4_ini0 Qp 9 0 0 [some (.ref 46)] [] (mem 119))
    refine eg_T_run mk_X4_ini0 (cut := [12]) 12 (?_ : eg_T w0 k_X4_ini0 Qp 12 0 0 [some (.ref 46)] [.int (nI 6), .ref 46] (mem 119))
    refine x_newa (t := .int) (kd := 1) (ks := 8) (q := 47) (len := 6) mk_X4_ini0 rfl rfl rfl rfl (by decide) (n_c (by decide)) ⟨by decide, by decide⟩ (sN (by decide +kernel)) (sM (o := (0, 1, 6, 0)) (by decide +kernel)) (?_ : eg_T w0 k_X4_ini0 Qp 14 1 8 [some (.ref 46)] [.ref 47, .ref 46] (mem 120))
    refine x_putr (j := 15) (ci := 4) (f := 1) (p := 46) (q := 47) mk_X4_ini0 rfl rfl rfl (so (by decide +kernel)) (sM (o := (2, 46, 1, 47)) (by decide +kernel)) (?_ : eg_T w0 k_X4_ini0 Qp 17 1 8 [some (.ref 46)] [] (mem 121))
    refine eg_T_run mk_X4_ini0 (cut := [20]) 12 (?_ : eg_T w0 k_X4_ini0 Qp 20 1 8 [some (.ref 46)] [.int (nI 6), .ref 46] (mem 121))
    refine x_newa (t := .int) (kd := 1) (ks := 8) (q := 48) (len := 6) mk_X4_ini0 rfl rfl rfl rfl (by decide) (n_c (by decide)) ⟨by decide, by decide⟩ (sN (by decide +kernel)) (sM (o := (0, 1, 6, 0)) (by decide +kernel)) (?_ : eg_T w0 k_X4_ini0 Qp 22 2 16 [some (.ref 46)] [.ref 48, .ref 46] (mem 122))
    refine x_putr (j := 19) (ci := 4) (f := 2) (p := 46) (q := 48) mk_X4_ini0 rfl rfl rfl (so (by decide +kernel)) (sM (o := (2, 46, 2, 48)) (by decide +kernel)) (?_ : eg_T w0 k_X4_ini0 Qp 25 2 16 [some (.ref 46)] [] (mem 123))
    refine eg_T_run mk_X4_ini0 (cut := [28]) 12 (?_ : eg_T w0 k_X4_ini0 Qp 28 2 16 [some (.ref 46)] [.int (nI 6), .ref 46] (mem 123))
    refine x_newa (t := .boolean) (kd := 3) (ks := 8) (q := 49) (len := 6) mk_X4_ini0 rfl rfl rfl rfl (by decide) (n_c (by decide)) ⟨by decide, by decide⟩ (sN (by decide +kernel)) (sM (o := (0, 3, 6, 0)) (by decide +kernel)) (?_ : eg_T w0 k_X4_ini0 Qp 30 3 24 [some (.ref 46)] [.ref 49, .ref 46] (mem 124))
    refine x_putr (j := 22) (ci := 4) (f := 3) (p := 46) (q := 49) mk_X4_ini0 rfl rfl rfl (so (by decide +kernel)) (sM (o := (2, 46, 3, 49)) (by decide +kernel)) (?_ : eg_T w0 k_X4_ini0 Qp 33 3 24 [some (.ref 46)] [] (mem 125))
    refine eg_T_run mk_X4_ini0 (cut := [36]) 12 (?_ : eg_T w0 k_X4_ini0 Qp 36 3 24 [some (.ref 46)] [.int (nI 6), .ref 46] (mem 125))
    refine x_newa (t := .int) (kd := 1) (ks := 8) (q := 50) (len := 6) mk_X4_ini0 rfl rfl rfl rfl (by decide) (n_c (by decide)) ⟨by decide, by decide⟩ (sN (by decide +kernel)) (sM (o := (0, 1, 6, 0)) (by decide +kernel)) (?_ : eg_T w0 k_X4_ini0 Qp 38 4 32 [some (.ref 46)] [.ref 50, .ref 46] (mem 126))
    refine x_putr (j := 26) (ci := 4) (f := 4) (p := 46) (q := 50) mk_X4_ini0 rfl rfl rfl (so (by decide +kernel)) (sM (o := (2, 46, 4, 50)) (by decide +kernel)) (?_ : eg_T w0 k_X4_ini0 Qp 41 4 32 [some (.ref 46)] [] (mem 127))
    refine eg_T_run mk_X4_ini0 (cut := [43]) 12 (?_ : eg_T w0 k_X4_ini0 Qp 43 4 32 [some (.ref 46)] [.int (nI 0), .ref 46] (mem 127))
    refine x_puti (j := 29) (ci := 4) (f := 5) (p := 46) mk_X4_ini0 rfl rfl rfl (so (by decide +kernel)) (sM (o := (1, 46, 5, 0)) (by decide +kernel)) (?_ : eg_T w0 k_X4_ini0 Qp 46 4 32 [some (.ref 46)] [] (mem 128))
    refine eg_T_run mk_X4_ini0 (cut := [49]) 12 (?_ : eg_T w0 k_X4_ini0 Qp 49 4 32 [some (.ref 46)] [.int (nI 8), .ref 46] (mem 128))
    refine x_newa (t := .int) (kd := 1) (ks := 8) (q := 51) (len := 8) mk_X4_ini0 rfl rfl rfl rfl (by decide) (n_c (by decide)) ⟨by decide, by decide⟩ (sN (by decide +kernel)) (sM (o := (0, 1, 8, 0)) (by decide +kernel)) (?_ : eg_T w0 k_X4_ini0 Qp 51 5 40 [some (.ref 46)] [.ref 51, .ref 46] (mem 129))
    refine x_putr (j := 32) (ci := 4) (f := 6) (p := 46) (q := 51) mk_X4_ini0 rfl rfl rfl (so (by decide +kernel)) (sM (o := (2, 46, 6, 51)) (by decide +kernel)) (?_ : eg_T w0 k_X4_ini0 Qp 54 5 40 [some (.ref 46)] [] (mem 130))
    refine eg_T_run mk_X4_ini0 (cut := [57]) 12 (?_ : eg_T w0 k_X4_ini0 Qp 57 5 40 [some (.ref 46)] [.int (nI 8), .ref 46] (mem 130))
    refine x_newa (t := .int) (kd := 1) (ks := 8) (q := 52) (len := 8) mk_X4_ini0 rfl rfl rfl rfl (by decide) (n_c (by decide)) ⟨by decide, by decide⟩ (sN (by decide +kernel)) (sM (o := (0, 1, 8, 0)) (by decide +kernel)) (?_ : eg_T w0 k_X4_ini0 Qp 59 6 48 [some (.ref 46)] [.ref 52, .ref 46] (mem 131))
    refine x_putr (j := 35) (ci := 4) (f := 7) (p := 46) (q := 52) mk_X4_ini0 rfl rfl rfl (so (by decide +kernel)) (sM (o := (2, 46, 7, 52)) (by decide +kernel)) (?_ : eg_T w0 k_X4_ini0 Qp 62 6 48 [some (.ref 46)] [] (mem 132))
    refine eg_T_run mk_X4_ini0 (cut := [65]) 12 (?_ : eg_T w0 k_X4_ini0 Qp 65 6 48 [some (.ref 46)] [.int (nI 8), .ref 46] (mem 132))
    refine x_newa (t := .boolean) (kd := 3) (ks := 8) (q := 53) (len := 8) mk_X4_ini0 rfl rfl rfl rfl (by decide) (n_c (by decide)) ⟨by decide, by decide⟩ (sN (by decide +kernel)) (sM (o := (0, 3, 8, 0)) (by decide +kernel)) (?_ : eg_T w0 k_X4_ini0 Qp 67 7 56 [some (.ref 46)] [.ref 53, .ref 46] (mem 133))
    refine x_putr (j := 38) (ci := 4) (f := 8) (p := 46) (q := 53) mk_X4_ini0 rfl rfl rfl (so (by decide +kernel)) (sM (o := (2, 46, 8, 53)) (by decide +kernel)) (?_ : eg_T w0 k_X4_ini0 Qp 70 7 56 [some (.ref 46)] [] (mem 134))
    refine eg_T_run mk_X4_ini0 (cut := [72]) 12 (?_ : eg_T w0 k_X4_ini0 Qp 72 7 56 [some (.ref 46)] [.int (-nI 1), .ref 46] (mem 134))
    refine x_puti (j := 41) (ci := 4) (f := 9) (p := 46) mk_X4_ini0 rfl rfl rfl (so (by decide +kernel)) (sM (o := (5, 46, 9, 1)) (by decide +kernel)) (?_ : eg_T w0 k_X4_ini0 Qp 75 7 56 [some (.ref 46)] [] (mem 135))
    refine eg_T_run mk_X4_ini0 (cut := [77]) 12 (?_ : eg_T w0 k_X4_ini0 Qp 77 7 56 [some (.ref 46)] [.int (nI 0), .ref 46] (mem 135))
    refine x_puti (j := 44) (ci := 4) (f := 10) (p := 46) mk_X4_ini0 rfl rfl rfl (so (by decide +kernel)) (sM (o := (1, 46, 10, 0)) (by decide +kernel)) (?_ : eg_T w0 k_X4_ini0 Qp 80 7 56 [some (.ref 46)] [] (mem 136))
    refine eg_T_run mk_X4_ini0 (cut := [83]) 12 (?_ : eg_T w0 k_X4_ini0 Qp 83 7 56 [some (.ref 46)] [.int (nI 8), .ref 46] (mem 136))
    refine x_newa (t := .int) (kd := 1) (ks := 8) (q := 54) (len := 8) mk_X4_ini0 rfl rfl rfl rfl (by decide) (n_c (by decide)) ⟨by decide, by decide⟩ (sN (by decide +kernel)) (sM (o := (0, 1, 8, 0)) (by decide +kernel)) (?_ : eg_T w0 k_X4_ini0 Qp 85 8 64 [some (.ref 46)] [.ref 54, .ref 46] (mem 137))
    refine x_putr (j := 47) (ci := 4) (f := 11) (p := 46) (q := 54) mk_X4_ini0 rfl rfl rfl (so (by decide +kernel)) (sM (o := (2, 46, 11, 54)) (by decide +kernel)) (?_ : eg_T w0 k_X4_ini0 Qp 88 8 64 [some (.ref 46)] [] (mem 138))
    refine eg_T_run mk_X4_ini0 (cut := [89]) 12 (?_ : eg_T w0 k_X4_ini0 Qp 89 8 64 [some (.ref 46)] [.ref 46] (mem 138))
    refine x_new (j := 50) (ci := 5) (q := 55) (sl := 9) mk_X4_ini0 rfl rfl rfl rfl (sN (by decide +kernel)) (sM (o := (0, 0, 5, 0)) (by decide +kernel)) (?_ : eg_T w0 k_X4_ini0 Qp 92 9 73 [some (.ref 46)] [.ref 55, .ref 46] (mem 139))
    refine eg_T_run mk_X4_ini0 (cut := [93]) 12 (?_ : eg_T w0 k_X4_ini0 Qp 93 9 73 [some (.ref 46)] [.ref 55, .ref 55, .ref 46] (mem 139))
    refine x_call (j := 52) (n := 1) (kc := 16) (ks := 295) (S := s_X5_ini0) (av := [.ref 55]) (st := [.ref 55, .ref 46]) (M' := mem 156) mk_X4_ini0 rfl rfl rfl rfl rfl rfl ⟨rfl, rfl, rfl⟩ mo_X5_ini0 (?_ : eg_T w0 k_X4_ini0 Qp 96 25 368 [some (.ref 46)] [.ref 55, .ref 46] (mem 156))
    refine x_putr (j := 53) (ci := 4) (f := 12) (p := 46) (q := 55) mk_X4_ini0 rfl rfl rfl (so (by decide +kernel)) (sM (o := (2, 46, 12, 55)) (by decide +kernel)) (?_ : eg_T w0 k_X4_ini0 Qp 99 25 368 [some (.ref 46)] [] (mem 157))
    exact x_ret mk_X4_ini0 rfl rfl rfl hq
  · exact h.elim
theorem de_X4_ini0 : ∀ q ∈ k_X4_ini0.1, decode cX4_init q.1 = .ok q.2 := by decide +kernel
theorem me_X4_ini0 (g : gl_T) : MT0 g yX4_init cX4_init 1 none ⟨2, 25, 368, 40⟩ 25 368 s_X4_ini0 := by
  intro hl
  exact eg_met_of (k := k_X4_ini0) (by decide) rfl ⟨Nat.le_refl _, Nat.le_refl _⟩ rfl sz_X4_ini0 de_X4_ini0 (fun meth hn => (fc (eg_FL_of0 wd_c4 (by decide) lf_RX4_11 (fun _ => Or.inl rfl)) (fc (eg_FL_of0 wd_c4 (by decide) lf_RX4_15 (fun _ => Or.inr ⟨rfl, hn, rfl⟩)) (fc (eg_FL_of0 wd_c4 (by decide) lf_RX4_19 (fun _ => Or.inr ⟨rfl, hn, rfl⟩)) (fc (eg_FL_of0 wd_c4 (by decide) lf_RX4_22 (fun _ => Or.inr ⟨rfl, hn, rfl⟩)) (fc (eg_FL_of0 wd_c4 (by decide) lf_RX4_26 (fun _ => Or.inr ⟨rfl, hn, rfl⟩)) (fc (eg_FL_of0 wd_c4 (by decide) lf_RX4_29 (fun _ => Or.inl rfl)) (fc (eg_FL_of0 wd_c4 (by decide) lf_RX4_32 (fun _ => Or.inr ⟨rfl, hn, rfl⟩)) (fc (eg_FL_of0 wd_c4 (by decide) lf_RX4_35 (fun _ => Or.inr ⟨rfl, hn, rfl⟩)) (fc (eg_FL_of0 wd_c4 (by decide) lf_RX4_38 (fun _ => Or.inr ⟨rfl, hn, rfl⟩)) (fc (eg_FL_of0 wd_c4 (by decide) lf_RX4_41 (fun _ => Or.inl rfl)) (fc (eg_FL_of0 wd_c4 (by decide) lf_RX4_44 (fun _ => Or.inl rfl)) (fc (eg_FL_of0 wd_c4 (by decide) lf_RX4_47 (fun _ => Or.inr ⟨rfl, hn, rfl⟩)) (fc (eg_FL_of0 wd_c4 (by decide) lf_RX4_53 (fun _ => Or.inr ⟨rfl, hn, rfl⟩)) (fn))))))))))))))) (fun A s H hE => (fn)) (fun p e s m args below meth c Q A ad0 N0 S0 hK hEx hA => (fc (mz_O S0 lm_RX4_5 (by decide) (by decide) (by decide)) (fc (mz_IN hl S0 hK hEx hA (me_X5_ini0 g) nt_X5_ini0 (List.mem_of_getElem? (i := 7) rfl) li_X5_init ln_RX5 lc_X5_init ⟨rfl, by decide, by decide, by decide +kernel⟩ rfl ⟨rfl, rfl⟩ ⟨by decide, by decide⟩ si_X5_ini0 (by decide)) (fc (mz_i S0 hK hA) (fc (mz_z S0 hK hA) (fn)))))) (fun p e s m args below meth c Qc XC A ad0 N0 P S0 hK hEx hA hlk hout hPX => (fc (mz_N S0 hK hA wd_c5 f3_Y5 lq_RX4_50 lz_X5 ln_RX5 de_X4_ini0) (fn))) (fun argv M Qp h => T_X4_ini0 h)
def s_X6_ini0 : eg_S := fun argv M Qp => match argv with
  | [.ref 72] => M = mem 159 ∧ Qp (.inl none) (mem 177)
  | _ => False
theorem mo_X6_ini0 : eg_mono s_X6_ini0 := by
  intro argv M Q Q' h
  unfold s_X6_ini0
  split
  · exact fun z => ⟨z.1, h _ _ z.2⟩
  · exact id
theorem sz_X6_ini0 : ∀ argv M Qp, s_X6_ini0 argv M Qp → (eg_ls0 argv).length ≤ 1 := by
  intro argv M Qp h
  unfold s_X6_ini0 at h
  split at h
  · exact Nat.le_of_ble_eq_true rfl
  · exact h.elim
theorem si_X6_ini0 : ∀ argv M Qp, s_X6_ini0 argv M Qp → ∃ p0 As, argv = .ref p0 :: As := by
  intro argv M Qp h
  unfold s_X6_ini0 at h
  split at h
  · exact ⟨_, _, rfl⟩
  · exact h.elim
theorem nt_X6_ini0 : ∀ argv M Qp, s_X6_ini0 argv M Qp → s_X6_ini0 argv M (fun r N => match r with
    | .inl v => Qp (.inl v) N
    | .inr _ => False) := by
  intro argv M Qp h
  unfold s_X6_ini0 at h ⊢
  split at h
  · exact h
  · exact h.elim
def k_X6_ini0 : eg_C := ([(0, .aload_n 0, 1), (1, .invokespecial 3, 3), (4, .aload_n 0, 1), (5, .iconst 0, 1), (6, .putfield 9, 3), (9, .aload_n 0, 1), (10, .bipush 6, 2), (12, .newarray .int, 2), (14, .putfield 15, 3), (17, .aload_n 0, 1), (18, .bipush 6, 2), (20, .newarray .int, 2), (22, .putfield 19, 3), (25, .aload_n 0, 1), (26, .bipush 6, 2), (28, .newarray .int, 2), (30, .putfield 22, 3), (33, .aload_n 0, 1), (34, .bipush 24, 2), (36, .newarray .int, 2), (38, .putfield 25, 3), (41, .aload_n 0, 1), (42, .iconst (-1), 1), (43, .putfield 28, 3), (46, .aload_n 0, 1), (47, .iconst 0, 1), (48, .putfield 31, 3), (51, .aload_n 0, 1), (52, .bipush 6, 2), (54, .newarray .int, 2), (56, .putfield 34, 3), (59, .aload_n 0, 1), (60, .bipush 24, 2), (62, .newarray .int, 2), (64, .putfield 37, 3), (67, .aload_n 0, 1), (68, .bipush 6, 2), (70, .newarray .int, 2), (72, .putfield 40, 3), (75, .aload_n 0, 1), (76, .iconst (-1), 1), (77, .putfield 43, 3), (80, .return_, 1)], [(9, 6, 0, true), (15, 6, 1, true), (19, 6, 2, true), (22, 6, 3, true), (25, 6, 4, true), (28, 6, 5, true), (31, 6, 6, true), (34, 6, 7, true), (37, 6, 8, true), (40, 6, 9, true), (43, 6, 10, true)], [], [(3 + 200000, 1, 0, 0, eg_So), (300001, 1, 1, 24, s_newa w0 1 24)], [], 0, 7, 168)
theorem mk_X6_ini0 : ∀ q ∈ k_X6_ini0.2.2.2.1, eg_mono q.2.2.2.2 := (fc (mo_So) (fc (mo_newa w0 1 24) (fn)))
set_option maxRecDepth 100000 in
set_option maxHeartbeats 4000000 in
theorem T_X6_ini0 {argv : List Value} {M : eg_M} {Qp : eg_P} (h : s_X6_ini0 argv M Qp) : eg_T w0 k_X6_ini0 Qp 0 0 0 (eg_lsN 1 argv) [] M := by
  unfold s_X6_ini0 at h
  split at h
  · obtain ⟨rfl, hq⟩ := h
    refine (?_ : eg_T w0 k_X6_ini0 Qp 0 0 0 [some (.ref 72)] [] (mem 159))
    refine eg_T_run mk_X6_ini0 (cut := [1]) 12 (?_ : eg_T w0 k_X6_ini0 Qp 1 0 0 [some (.ref 72)] [.ref 72] (mem 159))
    refine x_call (j := 3) (n := 1) (kc := 0) (ks := 0) (S := eg_So) (av := [.ref 72]) (st := []) (M' := mem 159) mk_X6_ini0 rfl rfl rfl rfl rfl rfl ⟨rfl, rfl⟩ mo_So (?_ : eg_T w0 k_X6_ini0 Qp 4 0 0 [some (.ref 72)] [] (mem 159))
    refine eg_T_run mk_X6_ini0 (cut := [6]) 12 (?_ : eg_T w0 k_X6_ini0 Qp 6 0 0 [some (.ref 72)] [.int (nI 0), .ref 72] (mem 159))
    refine x_puti (j := 9) (ci := 6) (f := 0) (p := 72) mk_X6_ini0 rfl rfl rfl (so (by decide +kernel)) (sM (o := (1, 72, 0, 0)) (by decide +kernel)) (?_ : eg_T w0 k_X6_ini0 Qp 9 0 0 [some (.ref 72)] [] (mem 160))
    refine eg_T_run mk_X6_ini0 (cut := [12]) 12 (?_ : eg_T w0 k_X6_ini0 Qp 12 0 0 [some (.ref 72)] [.int (nI 6), .ref 72] (mem 160))
    refine x_newa (t := .int) (kd := 1) (ks := 24) (q := 73) (len := 6) mk_X6_ini0 rfl rfl rfl rfl (by decide) (n_c (by decide)) ⟨by decide, by decide⟩ (sN (by decide +kernel)) (sM (o := (0, 1, 6, 0)) (by decide +kernel)) (?_ : eg_T w0 k_X6_ini0 Qp 14 1 24 [some (.ref 72)] [.ref 73, .ref 72] (mem 161))
    refine x_putr (j := 15) (ci := 6) (f := 1) (p := 72) (q := 73) mk_X6_ini0 rfl rfl rfl (so (by decide +kernel)) (sM (o := (2, 72, 1, 73)) (by decide +kernel)) (?_ : eg_T w0 k_X6_ini0 Qp 17 1 24 [some (.ref 72)] [] (mem 162))
    refine eg_T_run mk_X6_ini0 (cut := [20]) 12 (?_ : eg_T w0 k_X6_ini0 Qp 20 1 24 [some (.ref 72)] [.int (nI 6), .ref 72] (mem 162))
    refine x_newa (t := .int) (kd := 1) (ks := 24) (q := 74) (len := 6) mk_X6_ini0 rfl rfl rfl rfl (by decide) (n_c (by decide)) ⟨by decide, by decide⟩ (sN (by decide +kernel)) (sM (o := (0, 1, 6, 0)) (by decide +kernel)) (?_ : eg_T w0 k_X6_ini0 Qp 22 2 48 [some (.ref 72)] [.ref 74, .ref 72] (mem 163))
    refine x_putr (j := 19) (ci := 6) (f := 2) (p := 72) (q := 74) mk_X6_ini0 rfl rfl rfl (so (by decide +kernel)) (sM (o := (2, 72, 2, 74)) (by decide +kernel)) (?_ : eg_T w0 k_X6_ini0 Qp 25 2 48 [some (.ref 72)] [] (mem 164))
    refine eg_T_run mk_X6_ini0 (cut := [28]) 12 (?_ : eg_T w0 k_X6_ini0 Qp 28 2 48 [some (.ref 72)] [.int (nI 6), .ref 72] (mem 164))
    refine x_newa (t := .int) (kd := 1) (ks := 24) (q := 75) (len := 6) mk_X6_ini0 rfl rfl rfl rfl (by decide) (n_c (by decide)) ⟨by decide, by decide⟩ (sN (by decide +kernel)) (sM (o := (0, 1, 6, 0)) (by decide +kernel)) (?_ : eg_T w0 k_X6_ini0 Qp 30 3 72 [some (.ref 72)] [.ref 75, .ref 72] (mem 165))
    refine x_putr (j := 22) (ci := 6) (f := 3) (p := 72) (q := 75) mk_X6_ini0 rfl rfl rfl (so (by decide +kernel)) (sM (o := (2, 72, 3, 75)) (by decide +kernel)) (?_ : eg_T w0 k_X6_ini0 Qp 33 3 72 [some (.ref 72)] [] (mem 166))
    refine eg_T_run mk_X6_ini0 (cut := [36]) 12 (?_ : eg_T w0 k_X6_ini0 Qp 36 3 72 [some (.ref 72)] [.int (nI 24), .ref 72] (mem 166))
    refine x_newa (t := .int) (kd := 1) (ks := 24) (q := 76) (len := 24) mk_X6_ini0 rfl rfl rfl rfl (by decide) (n_c (by decide)) ⟨by decide, by decide⟩ (sN (by decide +kernel)) (sM (o := (0, 1, 24, 0)) (by decide +kernel)) (?_ : eg_T w0 k_X6_ini0 Qp 38 4 96 [some (.ref 72)] [.ref 76, .ref 72] (mem 167))
    refine x_putr (j := 25) (ci := 6) (f := 4) (p := 72) (q := 76) mk_X6_ini0 rfl rfl rfl (so (by decide +kernel)) (sM (o := (2, 72, 4, 76)) (by decide +kernel)) (?_ : eg_T w0 k_X6_ini0 Qp 41 4 96 [some (.ref 72)] [] (mem 168))
    refine eg_T_run mk_X6_ini0 (cut := [43]) 12 (?_ : eg_T w0 k_X6_ini0 Qp 43 4 96 [some (.ref 72)] [.int (-nI 1), .ref 72] (mem 168))
    refine x_puti (j := 28) (ci := 6) (f := 5) (p := 72) mk_X6_ini0 rfl rfl rfl (so (by decide +kernel)) (sM (o := (5, 72, 5, 1)) (by decide +kernel)) (?_ : eg_T w0 k_X6_ini0 Qp 46 4 96 [some (.ref 72)] [] (mem 169))
    refine eg_T_run mk_X6_ini0 (cut := [48]) 12 (?_ : eg_T w0 k_X6_ini0 Qp 48 4 96 [some (.ref 72)] [.int (nI 0), .ref 72] (mem 169))
    refine x_puti (j := 31) (ci := 6) (f := 6) (p := 72) mk_X6_ini0 rfl rfl rfl (so (by decide +kernel)) (sM (o := (1, 72, 6, 0)) (by decide +kernel)) (?_ : eg_T w0 k_X6_ini0 Qp 51 4 96 [some (.ref 72)] [] (mem 170))
    refine eg_T_run mk_X6_ini0 (cut := [54]) 12 (?_ : eg_T w0 k_X6_ini0 Qp 54 4 96 [some (.ref 72)] [.int (nI 6), .ref 72] (mem 170))
    refine x_newa (t := .int) (kd := 1) (ks := 24) (q := 77) (len := 6) mk_X6_ini0 rfl rfl rfl rfl (by decide) (n_c (by decide)) ⟨by decide, by decide⟩ (sN (by decide +kernel)) (sM (o := (0, 1, 6, 0)) (by decide +kernel)) (?_ : eg_T w0 k_X6_ini0 Qp 56 5 120 [some (.ref 72)] [.ref 77, .ref 72] (mem 171))
    refine x_putr (j := 34) (ci := 6) (f := 7) (p := 72) (q := 77) mk_X6_ini0 rfl rfl rfl (so (by decide +kernel)) (sM (o := (2, 72, 7, 77)) (by decide +kernel)) (?_ : eg_T w0 k_X6_ini0 Qp 59 5 120 [some (.ref 72)] [] (mem 172))
    refine eg_T_run mk_X6_ini0 (cut := [62]) 12 (?_ : eg_T w0 k_X6_ini0 Qp 62 5 120 [some (.ref 72)] [.int (nI 24), .ref 72] (mem 172))
    refine x_newa (t := .int) (kd := 1) (ks := 24) (q := 78) (len := 24) mk_X6_ini0 rfl rfl rfl rfl (by decide) (n_c (by decide)) ⟨by decide, by decide⟩ (sN (by decide +kernel)) (sM (o := (0, 1, 24, 0)) (by decide +kernel)) (?_ : eg_T w0 k_X6_ini0 Qp 64 6 144 [some (.ref 72)] [.ref 78, .ref 72] (mem 173))
    refine x_putr (j := 37) (ci := 6) (f := 8) (p := 72) (q := 78) mk_X6_ini0 rfl rfl rfl (so (by decide +kernel)) (sM (o := (2, 72, 8, 78)) (by decide +kernel)) (?_ : eg_T w0 k_X6_ini0 Qp 67 6 144 [some (.ref 72)] [] (mem 174))
    refine eg_T_run mk_X6_ini0 (cut := [70]) 12 (?_ : eg_T w0 k_X6_ini0 Qp 70 6 144 [some (.ref 72)] [.int (nI 6), .ref 72] (mem 174))
    refine x_newa (t := .int) (kd := 1) (ks := 24) (q := 79) (len := 6) mk_X6_ini0 rfl rfl rfl rfl (by decide) (n_c (by decide)) ⟨by decide, by decide⟩ (sN (by decide +kernel)) (sM (o := (0, 1, 6, 0)) (by decide +kernel)) (?_ : eg_T w0 k_X6_ini0 Qp 72 7 168 [some (.ref 72)] [.ref 79, .ref 72] (mem 175))
    refine x_putr (j := 40) (ci := 6) (f := 9) (p := 72) (q := 79) mk_X6_ini0 rfl rfl rfl (so (by decide +kernel)) (sM (o := (2, 72, 9, 79)) (by decide +kernel)) (?_ : eg_T w0 k_X6_ini0 Qp 75 7 168 [some (.ref 72)] [] (mem 176))
    refine eg_T_run mk_X6_ini0 (cut := [77]) 12 (?_ : eg_T w0 k_X6_ini0 Qp 77 7 168 [some (.ref 72)] [.int (-nI 1), .ref 72] (mem 176))
    refine x_puti (j := 43) (ci := 6) (f := 10) (p := 72) mk_X6_ini0 rfl rfl rfl (so (by decide +kernel)) (sM (o := (5, 72, 10, 1)) (by decide +kernel)) (?_ : eg_T w0 k_X6_ini0 Qp 80 7 168 [some (.ref 72)] [] (mem 177))
    exact x_ret mk_X6_ini0 rfl rfl rfl hq
  · exact h.elim
theorem de_X6_ini0 : ∀ q ∈ k_X6_ini0.1, decode cX6_init q.1 = .ok q.2 := by decide +kernel
theorem me_X6_ini0 (g : gl_T) : MT0 g yX6_init cX6_init 1 none ⟨1, 7, 168, 20⟩ 7 168 s_X6_ini0 := by
  intro hl
  exact eg_met_of (k := k_X6_ini0) (by decide) rfl ⟨Nat.le_refl _, Nat.le_refl _⟩ rfl sz_X6_ini0 de_X6_ini0 (fun meth hn => (fc (eg_FL_of0 wd_c6 (by decide) lf_RX6_9 (fun _ => Or.inl rfl)) (fc (eg_FL_of0 wd_c6 (by decide) lf_RX6_15 (fun _ => Or.inr ⟨rfl, hn, rfl⟩)) (fc (eg_FL_of0 wd_c6 (by decide) lf_RX6_19 (fun _ => Or.inr ⟨rfl, hn, rfl⟩)) (fc (eg_FL_of0 wd_c6 (by decide) lf_RX6_22 (fun _ => Or.inr ⟨rfl, hn, rfl⟩)) (fc (eg_FL_of0 wd_c6 (by decide) lf_RX6_25 (fun _ => Or.inr ⟨rfl, hn, rfl⟩)) (fc (eg_FL_of0 wd_c6 (by decide) lf_RX6_28 (fun _ => Or.inl rfl)) (fc (eg_FL_of0 wd_c6 (by decide) lf_RX6_31 (fun _ => Or.inl rfl)) (fc (eg_FL_of0 wd_c6 (by decide) lf_RX6_34 (fun _ => Or.inr ⟨rfl, hn, rfl⟩)) (fc (eg_FL_of0 wd_c6 (by decide) lf_RX6_37 (fun _ => Or.inr ⟨rfl, hn, rfl⟩)) (fc (eg_FL_of0 wd_c6 (by decide) lf_RX6_40 (fun _ => Or.inr ⟨rfl, hn, rfl⟩)) (fc (eg_FL_of0 wd_c6 (by decide) lf_RX6_43 (fun _ => Or.inl rfl)) (fn))))))))))))) (fun A s H hE => (fn)) (fun p e s m args below meth c Q A ad0 N0 S0 hK hEx hA => (fc (mz_O S0 lm_RX6_3 (by decide) (by decide) (by decide)) (fc (mz_i S0 hK hA) (fn)))) (fun p e s m args below meth c Qc XC A ad0 N0 P S0 hK hEx hA hlk hout hPX => (fn)) (fun argv M Qp h => T_X6_ini0 h)
def s_X2_ini0 : eg_S := fun argv M Qp => match argv with
  | [.ref 80] => M = mem 179 ∧ Qp (.inl none) (mem 214)
  | _ => False
theorem mo_X2_ini0 : eg_mono s_X2_ini0 := by
  intro argv M Q Q' h
  unfold s_X2_ini0
  split
  · exact fun z => ⟨z.1, h _ _ z.2⟩
  · exact id
theorem sz_X2_ini0 : ∀ argv M Qp, s_X2_ini0 argv M Qp → (eg_ls0 argv).length ≤ 2 := by
  intro argv M Qp h
  unfold s_X2_ini0 at h
  split at h
  · exact Nat.le_of_ble_eq_true rfl
  · exact h.elim
theorem si_X2_ini0 : ∀ argv M Qp, s_X2_ini0 argv M Qp → ∃ p0 As, argv = .ref p0 :: As := by
  intro argv M Qp h
  unfold s_X2_ini0 at h
  split at h
  · exact ⟨_, _, rfl⟩
  · exact h.elim
theorem nt_X2_ini0 : ∀ argv M Qp, s_X2_ini0 argv M Qp → s_X2_ini0 argv M (fun r N => match r with
    | .inl v => Qp (.inl v) N
    | .inr _ => False) := by
  intro argv M Qp h
  unfold s_X2_ini0 at h ⊢
  split at h
  · exact h
  · exact h.elim
def k_X2_ini0 : eg_C := ([(0, .aload_n 0, 1), (1, .invokespecial 3, 3), (4, .aload_n 0, 1), (5, .bipush 16, 2), (7, .bipush 6, 2), (9, .multianewarray 9 2, 4), (13, .putfield 11, 3), (16, .aload_n 0, 1), (17, .bipush 16, 2), (19, .newarray .int, 2), (21, .putfield 16, 3), (24, .aload_n 0, 1), (25, .bipush 16, 2), (27, .bipush 16, 2), (29, .multianewarray 9 2, 4), (33, .putfield 20, 3), (36, .aload_n 0, 1), (37, .bipush 16, 2), (39, .newarray .int, 2), (41, .putfield 23, 3), (44, .aload_n 0, 1), (45, .bipush 16, 2), (47, .newarray .int, 2), (49, .putfield 26, 3), (52, .aload_n 0, 1), (53, .bipush 16, 2), (55, .newarray .int, 2), (57, .putfield 29, 3), (60, .aload_n 0, 1), (61, .bipush 6, 2), (63, .newarray .int, 2), (65, .putfield 32, 3), (68, .aload_n 0, 1), (69, .bipush 6, 2), (71, .newarray .int, 2), (73, .putfield 35, 3), (76, .aload_n 0, 1), (77, .iconst 0, 1), (78, .putfield 38, 3), (81, .aload_n 0, 1), (82, .iconst 0, 1), (83, .putfield 42, 3), (86, .iconst 0, 1), (87, .istore_n 1, 1), (88, .iload_n 1, 1), (89, .bipush 16, 2), (91, .if_icmp .ge 19, 3), (94, .aload_n 0, 1), (95, .getfield 20, 3), (98, .iload_n 1, 1), (99, .aaload, 1), (100, .iconst (-1), 1), (101, .invokestatic 45, 3), (104, .iinc 1 1, 3), (107, .goto (-19), 3), (110, .aload_n 0, 1), (111, .getfield 23, 3), (114, .iconst (-1), 1), (115, .invokestatic 45, 3), (118, .return_, 1)], [(11, 2, 0, true), (16, 2, 1, true), (20, 2, 2, true), (23, 2, 3, true), (26, 2, 4, true), (29, 2, 5, true), (32, 2, 6, true), (35, 2, 7, true), (38, 2, 8, true), (42, 2, 9, true)], [], [(45 + 100000, 2, 0, 0, s_fill0), (3 + 200000, 1, 0, 0, eg_So), (300001, 1, 1, 16, s_newa w0 1 16), (9 + 320000, 2, 17, 272, s_mna w0 6 1 17 272)], [], 0, 40, 640)
theorem mk_X2_ini0 : ∀ q ∈ k_X2_ini0.2.2.2.1, eg_mono q.2.2.2.2 := (fc (mo_fill0) (fc (mo_So) (fc (mo_newa w0 1 16) (fc (mo_mna w0 6 1 17 272) (fn)))))
set_option maxRecDepth 100000 in
set_option maxHeartbeats 4000000 in
theorem T_X2_ini0 {argv : List Value} {M : eg_M} {Qp : eg_P} (h : s_X2_ini0 argv M Qp) : eg_T w0 k_X2_ini0 Qp 0 0 0 (eg_lsN 2 argv) [] M := by
  unfold s_X2_ini0 at h
  split at h
  · obtain ⟨rfl, hq⟩ := h
    refine (?_ : eg_T w0 k_X2_ini0 Qp 0 0 0 [some (.ref 80), none] [] (mem 179))
    refine eg_T_run mk_X2_ini0 (cut := [1]) 12 (?_ : eg_T w0 k_X2_ini0 Qp 1 0 0 [some (.ref 80), none] [.ref 80] (mem 179))
    refine x_call (j := 3) (n := 1) (kc := 0) (ks := 0) (S := eg_So) (av := [.ref 80]) (st := []) (M' := mem 179) mk_X2_ini0 rfl rfl rfl rfl rfl rfl ⟨rfl, rfl⟩ mo_So (?_ : eg_T w0 k_X2_ini0 Qp 4 0 0 [some (.ref 80), none] [] (mem 179))
    refine eg_T_run mk_X2_ini0 (cut := [9]) 12 (?_ : eg_T w0 k_X2_ini0 Qp 9 0 0 [some (.ref 80), none] [.int (nI 6), .int (nI 16), .ref 80] (mem 179))
    refine x_mna (j := 9) (kd := 6) (kr := 1) (kc := 17) (ks := 272) (q := 81) (a := 16) (b := 6) mk_X2_ini0 rfl rfl rfl rfl ⟨by decide, by decide⟩ (n_c (by decide)) (n_c (by decide)) ⟨by decide, by decide, by decide, by decide⟩ (sN (by decide +kernel)) (sM (o := (3, 16, 6, 0)) (by decide +kernel)) (?_ : eg_T w0 k_X2_ini0 Qp 13 17 272 [some (.ref 80), none] [.ref 81, .ref 80] (mem 180))
    refine x_putr (j := 11) (ci := 2) (f := 0) (p := 80) (q := 81) mk_X2_ini0 rfl rfl rfl (so (by decide +kernel)) (sM (o := (2, 80, 0, 81)) (by decide +kernel)) (?_ : eg_T w0 k_X2_ini0 Qp 16 17 272 [some (.ref 80), none] [] (mem 181))
    refine eg_T_run mk_X2_ini0 (cut := [19]) 12 (?_ : eg_T w0 k_X2_ini0 Qp 19 17 272 [some (.ref 80), none] [.int (nI 16), .ref 80] (mem 181))
    refine x_newa (t := .int) (kd := 1) (ks := 16) (q := 98) (len := 16) mk_X2_ini0 rfl rfl rfl rfl (by decide) (n_c (by decide)) ⟨by decide, by decide⟩ (sN (by decide +kernel)) (sM (o := (0, 1, 16, 0)) (by decide +kernel)) (?_ : eg_T w0 k_X2_ini0 Qp 21 18 288 [some (.ref 80), none] [.ref 98, .ref 80] (mem 182))
    refine x_putr (j := 16) (ci := 2) (f := 1) (p := 80) (q := 98) mk_X2_ini0 rfl rfl rfl (so (by decide +kernel)) (sM (o := (2, 80, 1, 98)) (by decide +kernel)) (?_ : eg_T w0 k_X2_ini0 Qp 24 18 288 [some (.ref 80), none] [] (mem 183))
    refine eg_T_run mk_X2_ini0 (cut := [29]) 12 (?_ : eg_T w0 k_X2_ini0 Qp 29 18 288 [some (.ref 80), none] [.int (nI 16), .int (nI 16), .ref 80] (mem 183))
    refine x_mna (j := 9) (kd := 6) (kr := 1) (kc := 17) (ks := 272) (q := 99) (a := 16) (b := 16) mk_X2_ini0 rfl rfl rfl rfl ⟨by decide, by decide⟩ (n_c (by decide)) (n_c (by decide)) ⟨by decide, by decide, by decide, by decide⟩ (sN (by decide +kernel)) (sM (o := (3, 16, 16, 0)) (by decide +kernel)) (?_ : eg_T w0 k_X2_ini0 Qp 33 35 560 [some (.ref 80), none] [.ref 99, .ref 80] (mem 184))
    refine x_putr (j := 20) (ci := 2) (f := 2) (p := 80) (q := 99) mk_X2_ini0 rfl rfl rfl (so (by decide +kernel)) (sM (o := (2, 80, 2, 99)) (by decide +kernel)) (?_ : eg_T w0 k_X2_ini0 Qp 36 35 560 [some (.ref 80), none] [] (mem 185))
    refine eg_T_run mk_X2_ini0 (cut := [39]) 12 (?_ : eg_T w0 k_X2_ini0 Qp 39 35 560 [some (.ref 80), none] [.int (nI 16), .ref 80] (mem 185))
    refine x_newa (t := .int) (kd := 1) (ks := 16) (q := 116) (len := 16) mk_X2_ini0 rfl rfl rfl rfl (by decide) (n_c (by decide)) ⟨by decide, by decide⟩ (sN (by decide +kernel)) (sM (o := (0, 1, 16, 0)) (by decide +kernel)) (?_ : eg_T w0 k_X2_ini0 Qp 41 36 576 [some (.ref 80), none] [.ref 116, .ref 80] (mem 186))
    refine x_putr (j := 23) (ci := 2) (f := 3) (p := 80) (q := 116) mk_X2_ini0 rfl rfl rfl (so (by decide +kernel)) (sM (o := (2, 80, 3, 116)) (by decide +kernel)) (?_ : eg_T w0 k_X2_ini0 Qp 44 36 576 [some (.ref 80), none] [] (mem 187))
    refine eg_T_run mk_X2_ini0 (cut := [47]) 12 (?_ : eg_T w0 k_X2_ini0 Qp 47 36 576 [some (.ref 80), none] [.int (nI 16), .ref 80] (mem 187))
    refine x_newa (t := .int) (kd := 1) (ks := 16) (q := 117) (len := 16) mk_X2_ini0 rfl rfl rfl rfl (by decide) (n_c (by decide)) ⟨by decide, by decide⟩ (sN (by decide +kernel)) (sM (o := (0, 1, 16, 0)) (by decide +kernel)) (?_ : eg_T w0 k_X2_ini0 Qp 49 37 592 [some (.ref 80), none] [.ref 117, .ref 80] (mem 188))
    refine x_putr (j := 26) (ci := 2) (f := 4) (p := 80) (q := 117) mk_X2_ini0 rfl rfl rfl (so (by decide +kernel)) (sM (o := (2, 80, 4, 117)) (by decide +kernel)) (?_ : eg_T w0 k_X2_ini0 Qp 52 37 592 [some (.ref 80), none] [] (mem 189))
    refine eg_T_run mk_X2_ini0 (cut := [55]) 12 (?_ : eg_T w0 k_X2_ini0 Qp 55 37 592 [some (.ref 80), none] [.int (nI 16), .ref 80] (mem 189))
    refine x_newa (t := .int) (kd := 1) (ks := 16) (q := 118) (len := 16) mk_X2_ini0 rfl rfl rfl rfl (by decide) (n_c (by decide)) ⟨by decide, by decide⟩ (sN (by decide +kernel)) (sM (o := (0, 1, 16, 0)) (by decide +kernel)) (?_ : eg_T w0 k_X2_ini0 Qp 57 38 608 [some (.ref 80), none] [.ref 118, .ref 80] (mem 190))
    refine x_putr (j := 29) (ci := 2) (f := 5) (p := 80) (q := 118) mk_X2_ini0 rfl rfl rfl (so (by decide +kernel)) (sM (o := (2, 80, 5, 118)) (by decide +kernel)) (?_ : eg_T w0 k_X2_ini0 Qp 60 38 608 [some (.ref 80), none] [] (mem 191))
    refine eg_T_run mk_X2_ini0 (cut := [63]) 12 (?_ : eg_T w0 k_X2_ini0 Qp 63 38 608 [some (.ref 80), none] [.int (nI 6), .ref 80] (mem 191))
    refine x_newa (t := .int) (kd := 1) (ks := 16) (q := 119) (len := 6) mk_X2_ini0 rfl rfl rfl rfl (by decide) (n_c (by decide)) ⟨by decide, by decide⟩ (sN (by decide +kernel)) (sM (o := (0, 1, 6, 0)) (by decide +kernel)) (?_ : eg_T w0 k_X2_ini0 Qp 65 39 624 [some (.ref 80), none] [.ref 119, .ref 80] (mem 192))
    refine x_putr (j := 32) (ci := 2) (f := 6) (p := 80) (q := 119) mk_X2_ini0 rfl rfl rfl (so (by decide +kernel)) (sM (o := (2, 80, 6, 119)) (by decide +kernel)) (?_ : eg_T w0 k_X2_ini0 Qp 68 39 624 [some (.ref 80), none] [] (mem 193))
    refine eg_T_run mk_X2_ini0 (cut := [71]) 12 (?_ : eg_T w0 k_X2_ini0 Qp 71 39 624 [some (.ref 80), none] [.int (nI 6), .ref 80] (mem 193))
    refine x_newa (t := .int) (kd := 1) (ks := 16) (q := 120) (len := 6) mk_X2_ini0 rfl rfl rfl rfl (by decide) (n_c (by decide)) ⟨by decide, by decide⟩ (sN (by decide +kernel)) (sM (o := (0, 1, 6, 0)) (by decide +kernel)) (?_ : eg_T w0 k_X2_ini0 Qp 73 40 640 [some (.ref 80), none] [.ref 120, .ref 80] (mem 194))
    refine x_putr (j := 35) (ci := 2) (f := 7) (p := 80) (q := 120) mk_X2_ini0 rfl rfl rfl (so (by decide +kernel)) (sM (o := (2, 80, 7, 120)) (by decide +kernel)) (?_ : eg_T w0 k_X2_ini0 Qp 76 40 640 [some (.ref 80), none] [] (mem 195))
    refine eg_T_run mk_X2_ini0 (cut := [78]) 12 (?_ : eg_T w0 k_X2_ini0 Qp 78 40 640 [some (.ref 80), none] [.int (nI 0), .ref 80] (mem 195))
    refine x_puti (j := 38) (ci := 2) (f := 8) (p := 80) mk_X2_ini0 rfl rfl rfl (so (by decide +kernel)) (sM (o := (1, 80, 8, 0)) (by decide +kernel)) (?_ : eg_T w0 k_X2_ini0 Qp 81 40 640 [some (.ref 80), none] [] (mem 196))
    refine eg_T_run mk_X2_ini0 (cut := [83]) 12 (?_ : eg_T w0 k_X2_ini0 Qp 83 40 640 [some (.ref 80), none] [.int (nI 0), .ref 80] (mem 196))
    refine x_puti (j := 42) (ci := 2) (f := 9) (p := 80) mk_X2_ini0 rfl rfl rfl (so (by decide +kernel)) (sM (o := (1, 80, 9, 0)) (by decide +kernel)) (?_ : eg_T w0 k_X2_ini0 Qp 86 40 640 [some (.ref 80), none] [] (mem 197))
    refine eg_T_run mk_X2_ini0 (cut := [91]) 12 (?_ : eg_T w0 k_X2_ini0 Qp 91 40 640 [some (.ref 80), some (.int (nI 0))] [.int (nI 16), .int (nI 0)] (mem 197))
    refine eg_T_run mk_X2_ini0 (cut := [110, 94]) 1 ?_
    refine And.intro (fun z => absurd (show nI 16 ≤ nI 0 from z) (by decide)) (fun _ => (?_ : eg_T w0 k_X2_ini0 Qp 94 40 640 [some (.ref 80), some (.int (nI 0))] [] (mem 197)))
    refine eg_T_run mk_X2_ini0 (cut := [95]) 12 (?_ : eg_T w0 k_X2_ini0 Qp 95 40 640 [some (.ref 80), some (.int (nI 0))] [.ref 80] (mem 197))
    refine x_getr (j := 20) (ci := 2) (f := 2) (p := 80) (q := 99) mk_X2_ini0 rfl rfl (so (by decide +kernel)) (sF (q := 99) rfl (so (by decide +kernel)) (by decide +kernel)) (?_ : eg_T w0 k_X2_ini0 Qp 98 40 640 [some (.ref 80), some (.int (nI 0))] [.ref 99] (mem 197))
    refine eg_T_run mk_X2_ini0 (cut := [99]) 12 (?_ : eg_T w0 k_X2_ini0 Qp 99 40 640 [some (.ref 80), some (.int (nI 0))] [.int (nI 0), .ref 99] (mem 197))
    refine x_aal (a := 99) (kd := 6) (len := 16) (i := 0) mk_X2_ini0 rfl (so (by decide +kernel)) (Or.inl rfl) (by unfold vp_in; decide) (n_c (by decide)) (?_ : eg_T w0 k_X2_ini0 Qp 100 40 640 [some (.ref 80), some (.int (nI 0))] [.ref 100] (mem 197))
    refine eg_T_run mk_X2_ini0 (cut := [101]) 12 (?_ : eg_T w0 k_X2_ini0 Qp 101 40 640 [some (.ref 80), some (.int (nI 0))] [.int (-nI 1), .ref 100] (mem 197))
    refine x_callS (j := 45) (n := 2) (kc := 0) (ks := 0) (S := s_fill0) (av := [.int (-nI 1), .ref 100]) (st := []) (M' := mem 198) mk_X2_ini0 rfl rfl rfl rfl rfl rfl (sI (len := 16) (so (by decide +kernel)) (by decide) (sM (o := (6, 100, 16, 0)) (by decide +kernel))) mo_fill0 (?_ : eg_T w0 k_X2_ini0 Qp 104 40 640 [some (.ref 80), some (.int (nI 0))] [] (mem 198))
    refine eg_T_run mk_X2_ini0 (cut := [107]) 1 (?_ : eg_T w0 k_X2_ini0 Qp 107 40 640 [some (.ref 80), some (.int (nI 0 + nI 1))] [] (mem 198))
    rw [n_s]
    refine eg_T_run mk_X2_ini0 (cut := [88]) 1 (?_ : eg_T w0 k_X2_ini0 Qp 88 40 640 [some (.ref 80), some (.int (nI 1))] [] (mem 198))
    refine eg_T_run mk_X2_ini0 (cut := [91]) 12 (?_ : eg_T w0 k_X2_ini0 Qp 91 40 640 [some (.ref 80), some (.int (nI 1))] [.int (nI 16), .int (nI 1)] (mem 198))
    refine eg_T_run mk_X2_ini0 (cut := [110, 94]) 1 ?_
    refine And.intro (fun z => absurd (show nI 16 ≤ nI 1 from z) (by decide)) (fun _ => (?_ : eg_T w0 k_X2_ini0 Qp 94 40 640 [some (.ref 80), some (.int (nI 1))] [] (mem 198)))
    refine eg_T_run mk_X2_ini0 (cut := [95]) 12 (?_ : eg_T w0 k_X2_ini0 Qp 95 40 640 [some (.ref 80), some (.int (nI 1))] [.ref 80] (mem 198))
    refine x_getr (j := 20) (ci := 2) (f := 2) (p := 80) (q := 99) mk_X2_ini0 rfl rfl (so (by decide +kernel)) (sF (q := 99) rfl (so (by decide +kernel)) (by decide +kernel)) (?_ : eg_T w0 k_X2_ini0 Qp 98 40 640 [some (.ref 80), some (.int (nI 1))] [.ref 99] (mem 198))
    refine eg_T_run mk_X2_ini0 (cut := [99]) 12 (?_ : eg_T w0 k_X2_ini0 Qp 99 40 640 [some (.ref 80), some (.int (nI 1))] [.int (nI 1), .ref 99] (mem 198))
    refine x_aal (a := 99) (kd := 6) (len := 16) (i := 1) mk_X2_ini0 rfl (so (by decide +kernel)) (Or.inl rfl) (by unfold vp_in; decide) (n_c (by decide)) (?_ : eg_T w0 k_X2_ini0 Qp 100 40 640 [some (.ref 80), some (.int (nI 1))] [.ref 101] (mem 198))
    refine eg_T_run mk_X2_ini0 (cut := [101]) 12 (?_ : eg_T w0 k_X2_ini0 Qp 101 40 640 [some (.ref 80), some (.int (nI 1))] [.int (-nI 1), .ref 101] (mem 198))
    refine x_callS (j := 45) (n := 2) (kc := 0) (ks := 0) (S := s_fill0) (av := [.int (-nI 1), .ref 101]) (st := []) (M' := mem 199) mk_X2_ini0 rfl rfl rfl rfl rfl rfl (sI (len := 16) (so (by decide +kernel)) (by decide) (sM (o := (6, 101, 16, 0)) (by decide +kernel))) mo_fill0 (?_ : eg_T w0 k_X2_ini0 Qp 104 40 640 [some (.ref 80), some (.int (nI 1))] [] (mem 199))
    refine eg_T_run mk_X2_ini0 (cut := [107]) 1 (?_ : eg_T w0 k_X2_ini0 Qp 107 40 640 [some (.ref 80), some (.int (nI 1 + nI 1))] [] (mem 199))
    rw [n_s]
    refine eg_T_run mk_X2_ini0 (cut := [88]) 1 (?_ : eg_T w0 k_X2_ini0 Qp 88 40 640 [some (.ref 80), some (.int (nI 2))] [] (mem 199))
    refine eg_T_run mk_X2_ini0 (cut := [91]) 12 (?_ : eg_T w0 k_X2_ini0 Qp 91 40 640 [some (.ref 80), some (.int (nI 2))] [.int (nI 16), .int (nI 2)] (mem 199))
    refine eg_T_run mk_X2_ini0 (cut := [110, 94]) 1 ?_
    refine And.intro (fun z => absurd (show nI 16 ≤ nI 2 from z) (by decide)) (fun _ => (?_ : eg_T w0 k_X2_ini0 Qp 94 40 640 [some (.ref 80), some (.int (nI 2))] [] (mem 199)))
    refine eg_T_run mk_X2_ini0 (cut := [95]) 12 (?_ : eg_T w0 k_X2_ini0 Qp 95 40 640 [some (.ref 80), some (.int (nI 2))] [.ref 80] (mem 199))
    refine x_getr (j := 20) (ci := 2) (f := 2) (p := 80) (q := 99) mk_X2_ini0 rfl rfl (so (by decide +kernel)) (sF (q := 99) rfl (so (by decide +kernel)) (by decide +kernel)) (?_ : eg_T w0 k_X2_ini0 Qp 98 40 640 [some (.ref 80), some (.int (nI 2))] [.ref 99] (mem 199))
    refine eg_T_run mk_X2_ini0 (cut := [99]) 12 (?_ : eg_T w0 k_X2_ini0 Qp 99 40 640 [some (.ref 80), some (.int (nI 2))] [.int (nI 2), .ref 99] (mem 199))
    refine x_aal (a := 99) (kd := 6) (len := 16) (i := 2) mk_X2_ini0 rfl (so (by decide +kernel)) (Or.inl rfl) (by unfold vp_in; decide) (n_c (by decide)) (?_ : eg_T w0 k_X2_ini0 Qp 100 40 640 [some (.ref 80), some (.int (nI 2))] [.ref 102] (mem 199))
    refine eg_T_run mk_X2_ini0 (cut := [101]) 12 (?_ : eg_T w0 k_X2_ini0 Qp 101 40 640 [some (.ref 80), some (.int (nI 2))] [.int (-nI 1), .ref 102] (mem 199))
    refine x_callS (j := 45) (n := 2) (kc := 0) (ks := 0) (S := s_fill0) (av := [.int (-nI 1), .ref 102]) (st := []) (M' := mem 200) mk_X2_ini0 rfl rfl rfl rfl rfl rfl (sI (len := 16) (so (by decide +kernel)) (by decide) (sM (o := (6, 102, 16, 0)) (by decide +kernel))) mo_fill0 (?_ : eg_T w0 k_X2_ini0 Qp 104 40 640 [some (.ref 80), some (.int (nI 2))] [] (mem 200))
    refine eg_T_run mk_X2_ini0 (cut := [107]) 1 (?_ : eg_T w0 k_X2_ini0 Qp 107 40 640 [some (.ref 80), some (.int (nI 2 + nI 1))] [] (mem 200))
    rw [n_s]
    refine eg_T_run mk_X2_ini0 (cut := [88]) 1 (?_ : eg_T w0 k_X2_ini0 Qp 88 40 640 [some (.ref 80), some (.int (nI 3))] [] (mem 200))
    refine eg_T_run mk_X2_ini0 (cut := [91]) 12 (?_ : eg_T w0 k_X2_ini0 Qp 91 40 640 [some (.ref 80), some (.int (nI 3))] [.int (nI 16), .int (nI 3)] (mem 200))
    refine eg_T_run mk_X2_ini0 (cut := [110, 94]) 1 ?_
    refine And.intro (fun z => absurd (show nI 16 ≤ nI 3 from z) (by decide)) (fun _ => (?_ : eg_T w0 k_X2_ini0 Qp 94 40 640 [some (.ref 80), some (.int (nI 3))] [] (mem 200)))
    refine eg_T_run mk_X2_ini0 (cut := [95]) 12 (?_ : eg_T w0 k_X2_ini0 Qp 95 40 640 [some (.ref 80), some (.int (nI 3))] [.ref 80] (mem 200))
    refine x_getr (j := 20) (ci := 2) (f := 2) (p := 80) (q := 99) mk_X2_ini0 rfl rfl (so (by decide +kernel)) (sF (q := 99) rfl (so (by decide +kernel)) (by decide +kernel)) (?_ : eg_T w0 k_X2_ini0 Qp 98 40 640 [some (.ref 80), some (.int (nI 3))] [.ref 99] (mem 200))
    refine eg_T_run mk_X2_ini0 (cut := [99]) 12 (?_ : eg_T w0 k_X2_ini0 Qp 99 40 640 [some (.ref 80), some (.int (nI 3))] [.int (nI 3), .ref 99] (mem 200))
    refine x_aal (a := 99) (kd := 6) (len := 16) (i := 3) mk_X2_ini0 rfl (so (by decide +kernel)) (Or.inl rfl) (by unfold vp_in; decide) (n_c (by decide)) (?_ : eg_T w0 k_X2_ini0 Qp 100 40 640 [some (.ref 80), some (.int (nI 3))] [.ref 103] (mem 200))
    refine eg_T_run mk_X2_ini0 (cut := [101]) 12 (?_ : eg_T w0 k_X2_ini0 Qp 101 40 640 [some (.ref 80), some (.int (nI 3))] [.int (-nI 1), .ref 103] (mem 200))
    refine x_callS (j := 45) (n := 2) (kc := 0) (ks := 0) (S := s_fill0) (av := [.int (-nI 1), .ref 103]) (st := []) (M' := mem 201) mk_X2_ini0 rfl rfl rfl rfl rfl rfl (sI (len := 16) (so (by decide +kernel)) (by decide) (sM (o := (6, 103, 16, 0)) (by decide +kernel))) mo_fill0 (?_ : eg_T w0 k_X2_ini0 Qp 104 40 640 [some (.ref 80), some (.int (nI 3))] [] (mem 201))
    refine eg_T_run mk_X2_ini0 (cut := [107]) 1 (?_ : eg_T w0 k_X2_ini0 Qp 107 40 640 [some (.ref 80), some (.int (nI 3 + nI 1))] [] (mem 201))
    rw [n_s]
    refine eg_T_run mk_X2_ini0 (cut := [88]) 1 (?_ : eg_T w0 k_X2_ini0 Qp 88 40 640 [some (.ref 80), some (.int (nI 4))] [] (mem 201))
    refine eg_T_run mk_X2_ini0 (cut := [91]) 12 (?_ : eg_T w0 k_X2_ini0 Qp 91 40 640 [some (.ref 80), some (.int (nI 4))] [.int (nI 16), .int (nI 4)] (mem 201))
    refine eg_T_run mk_X2_ini0 (cut := [110, 94]) 1 ?_
    refine And.intro (fun z => absurd (show nI 16 ≤ nI 4 from z) (by decide)) (fun _ => (?_ : eg_T w0 k_X2_ini0 Qp 94 40 640 [some (.ref 80), some (.int (nI 4))] [] (mem 201)))
    refine eg_T_run mk_X2_ini0 (cut := [95]) 12 (?_ : eg_T w0 k_X2_ini0 Qp 95 40 640 [some (.ref 80), some (.int (nI 4))] [.ref 80] (mem 201))
    refine x_getr (j := 20) (ci := 2) (f := 2) (p := 80) (q := 99) mk_X2_ini0 rfl rfl (so (by decide +kernel)) (sF (q := 99) rfl (so (by decide +kernel)) (by decide +kernel)) (?_ : eg_T w0 k_X2_ini0 Qp 98 40 640 [some (.ref 80), some (.int (nI 4))] [.ref 99] (mem 201))
    refine eg_T_run mk_X2_ini0 (cut := [99]) 12 (?_ : eg_T w0 k_X2_ini0 Qp 99 40 640 [some (.ref 80), some (.int (nI 4))] [.int (nI 4), .ref 99] (mem 201))
    refine x_aal (a := 99) (kd := 6) (len := 16) (i := 4) mk_X2_ini0 rfl (so (by decide +kernel)) (Or.inl rfl) (by unfold vp_in; decide) (n_c (by decide)) (?_ : eg_T w0 k_X2_ini0 Qp 100 40 640 [some (.ref 80), some (.int (nI 4))] [.ref 104] (mem 201))
    refine eg_T_run mk_X2_ini0 (cut := [101]) 12 (?_ : eg_T w0 k_X2_ini0 Qp 101 40 640 [some (.ref 80), some (.int (nI 4))] [.int (-nI 1), .ref 104] (mem 201))
    refine x_callS (j := 45) (n := 2) (kc := 0) (ks := 0) (S := s_fill0) (av := [.int (-nI 1), .ref 104]) (st := []) (M' := mem 202) mk_X2_ini0 rfl rfl rfl rfl rfl rfl (sI (len := 16) (so (by decide +kernel)) (by decide) (sM (o := (6, 104, 16, 0)) (by decide +kernel))) mo_fill0 (?_ : eg_T w0 k_X2_ini0 Qp 104 40 640 [some (.ref 80), some (.int (nI 4))] [] (mem 202))
    refine eg_T_run mk_X2_ini0 (cut := [107]) 1 (?_ : eg_T w0 k_X2_ini0 Qp 107 40 640 [some (.ref 80), some (.int (nI 4 + nI 1))] [] (mem 202))
    rw [n_s]
    refine eg_T_run mk_X2_ini0 (cut := [88]) 1 (?_ : eg_T w0 k_X2_ini0 Qp 88 40 640 [some (.ref 80), some (.int (nI 5))] [] (mem 202))
    refine eg_T_run mk_X2_ini0 (cut := [91]) 12 (?_ : eg_T w0 k_X2_ini0 Qp 91 40 640 [some (.ref 80), some (.int (nI 5))] [.int (nI 16), .int (nI 5)] (mem 202))
    refine eg_T_run mk_X2_ini0 (cut := [110, 94]) 1 ?_
    refine And.intro (fun z => absurd (show nI 16 ≤ nI 5 from z) (by decide)) (fun _ => (?_ : eg_T w0 k_X2_ini0 Qp 94 40 640 [some (.ref 80), some (.int (nI 5))] [] (mem 202)))
    refine eg_T_run mk_X2_ini0 (cut := [95]) 12 (?_ : eg_T w0 k_X2_ini0 Qp 95 40 640 [some (.ref 80), some (.int (nI 5))] [.ref 80] (mem 202))
    refine x_getr (j := 20) (ci := 2) (f := 2) (p := 80) (q := 99) mk_X2_ini0 rfl rfl (so (by decide +kernel)) (sF (q := 99) rfl (so (by decide +kernel)) (by decide +kernel)) (?_ : eg_T w0 k_X2_ini0 Qp 98 40 640 [some (.ref 80), some (.int (nI 5))] [.ref 99] (mem 202))
    refine eg_T_run mk_X2_ini0 (cut := [99]) 12 (?_ : eg_T w0 k_X2_ini0 Qp 99 40 640 [some (.ref 80), some (.int (nI 5))] [.int (nI 5), .ref 99] (mem 202))
    refine x_aal (a := 99) (kd := 6) (len := 16) (i := 5) mk_X2_ini0 rfl (so (by decide +kernel)) (Or.inl rfl) (by unfold vp_in; decide) (n_c (by decide)) (?_ : eg_T w0 k_X2_ini0 Qp 100 40 640 [some (.ref 80), some (.int (nI 5))] [.ref 105] (mem 202))
    refine eg_T_run mk_X2_ini0 (cut := [101]) 12 (?_ : eg_T w0 k_X2_ini0 Qp 101 40 640 [some (.ref 80), some (.int (nI 5))] [.int (-nI 1), .ref 105] (mem 202))
    refine x_callS (j := 45) (n := 2) (kc := 0) (ks := 0) (S := s_fill0) (av := [.int (-nI 1), .ref 105]) (st := []) (M' := mem 203) mk_X2_ini0 rfl rfl rfl rfl rfl rfl (sI (len := 16) (so (by decide +kernel)) (by decide) (sM (o := (6, 105, 16, 0)) (by decide +kernel))) mo_fill0 (?_ : eg_T w0 k_X2_ini0 Qp 104 40 640 [some (.ref 80), some (.int (nI 5))] [] (mem 203))
    refine eg_T_run mk_X2_ini0 (cut := [107]) 1 (?_ : eg_T w0 k_X2_ini0 Qp 107 40 640 [some (.ref 80), some (.int (nI 5 + nI 1))] [] (mem 203))
    rw [n_s]
    refine eg_T_run mk_X2_ini0 (cut := [88]) 1 (?_ : eg_T w0 k_X2_ini0 Qp 88 40 640 [some (.ref 80), some (.int (nI 6))] [] (mem 203))
    refine eg_T_run mk_X2_ini0 (cut := [91]) 12 (?_ : eg_T w0 k_X2_ini0 Qp 91 40 640 [some (.ref 80), some (.int (nI 6))] [.int (nI 16), .int (nI 6)] (mem 203))
    refine eg_T_run mk_X2_ini0 (cut := [110, 94]) 1 ?_
    refine And.intro (fun z => absurd (show nI 16 ≤ nI 6 from z) (by decide)) (fun _ => (?_ : eg_T w0 k_X2_ini0 Qp 94 40 640 [some (.ref 80), some (.int (nI 6))] [] (mem 203)))
    refine eg_T_run mk_X2_ini0 (cut := [95]) 12 (?_ : eg_T w0 k_X2_ini0 Qp 95 40 640 [some (.ref 80), some (.int (nI 6))] [.ref 80] (mem 203))
    refine x_getr (j := 20) (ci := 2) (f := 2) (p := 80) (q := 99) mk_X2_ini0 rfl rfl (so (by decide +kernel)) (sF (q := 99) rfl (so (by decide +kernel)) (by decide +kernel)) (?_ : eg_T w0 k_X2_ini0 Qp 98 40 640 [some (.ref 80), some (.int (nI 6))] [.ref 99] (mem 203))
    refine eg_T_run mk_X2_ini0 (cut := [99]) 12 (?_ : eg_T w0 k_X2_ini0 Qp 99 40 640 [some (.ref 80), some (.int (nI 6))] [.int (nI 6), .ref 99] (mem 203))
    refine x_aal (a := 99) (kd := 6) (len := 16) (i := 6) mk_X2_ini0 rfl (so (by decide +kernel)) (Or.inl rfl) (by unfold vp_in; decide) (n_c (by decide)) (?_ : eg_T w0 k_X2_ini0 Qp 100 40 640 [some (.ref 80), some (.int (nI 6))] [.ref 106] (mem 203))
    refine eg_T_run mk_X2_ini0 (cut := [101]) 12 (?_ : eg_T w0 k_X2_ini0 Qp 101 40 640 [some (.ref 80), some (.int (nI 6))] [.int (-nI 1), .ref 106] (mem 203))
    refine x_callS (j := 45) (n := 2) (kc := 0) (ks := 0) (S := s_fill0) (av := [.int (-nI 1), .ref 106]) (st := []) (M' := mem 204) mk_X2_ini0 rfl rfl rfl rfl rfl rfl (sI (len := 16) (so (by decide +kernel)) (by decide) (sM (o := (6, 106, 16, 0)) (by decide +kernel))) mo_fill0 (?_ : eg_T w0 k_X2_ini0 Qp 104 40 640 [some (.ref 80), some (.int (nI 6))] [] (mem 204))
    refine eg_T_run mk_X2_ini0 (cut := [107]) 1 (?_ : eg_T w0 k_X2_ini0 Qp 107 40 640 [some (.ref 80), some (.int (nI 6 + nI 1))] [] (mem 204))
    rw [n_s]
    refine eg_T_run mk_X2_ini0 (cut := [88]) 1 (?_ : eg_T w0 k_X2_ini0 Qp 88 40 640 [some (.ref 80), some (.int (nI 7))] [] (mem 204))
    refine eg_T_run mk_X2_ini0 (cut := [91]) 12 (?_ : eg_T w0 k_X2_ini0 Qp 91 40 640 [some (.ref 80), some (.int (nI 7))] [.int (nI 16), .int (nI 7)] (mem 204))
    refine eg_T_run mk_X2_ini0 (cut := [110, 94]) 1 ?_
    refine And.intro (fun z => absurd (show nI 16 ≤ nI 7 from z) (by decide)) (fun _ => (?_ : eg_T w0 k_X2_ini0 Qp 94 40 640 [some (.ref 80), some (.int (nI 7))] [] (mem 204)))
    refine eg_T_run mk_X2_ini0 (cut := [95]) 12 (?_ : eg_T w0 k_X2_ini0 Qp 95 40 640 [some (.ref 80), some (.int (nI 7))] [.ref 80] (mem 204))
    refine x_getr (j := 20) (ci := 2) (f := 2) (p := 80) (q := 99) mk_X2_ini0 rfl rfl (so (by decide +kernel)) (sF (q := 99) rfl (so (by decide +kernel)) (by decide +kernel)) (?_ : eg_T w0 k_X2_ini0 Qp 98 40 640 [some (.ref 80), some (.int (nI 7))] [.ref 99] (mem 204))
    refine eg_T_run mk_X2_ini0 (cut := [99]) 12 (?_ : eg_T w0 k_X2_ini0 Qp 99 40 640 [some (.ref 80), some (.int (nI 7))] [.int (nI 7), .ref 99] (mem 204))
    refine x_aal (a := 99) (kd := 6) (len := 16) (i := 7) mk_X2_ini0 rfl (so (by decide +kernel)) (Or.inl rfl) (by unfold vp_in; decide) (n_c (by decide)) (?_ : eg_T w0 k_X2_ini0 Qp 100 40 640 [some (.ref 80), some (.int (nI 7))] [.ref 107] (mem 204))
    refine eg_T_run mk_X2_ini0 (cut := [101]) 12 (?_ : eg_T w0 k_X2_ini0 Qp 101 40 640 [some (.ref 80), some (.int (nI 7))] [.int (-nI 1), .ref 107] (mem 204))
    refine x_callS (j := 45) (n := 2) (kc := 0) (ks := 0) (S := s_fill0) (av := [.int (-nI 1), .ref 107]) (st := []) (M' := mem 205) mk_X2_ini0 rfl rfl rfl rfl rfl rfl (sI (len := 16) (so (by decide +kernel)) (by decide) (sM (o := (6, 107, 16, 0)) (by decide +kernel))) mo_fill0 (?_ : eg_T w0 k_X2_ini0 Qp 104 40 640 [some (.ref 80), some (.int (nI 7))] [] (mem 205))
    refine eg_T_run mk_X2_ini0 (cut := [107]) 1 (?_ : eg_T w0 k_X2_ini0 Qp 107 40 640 [some (.ref 80), some (.int (nI 7 + nI 1))] [] (mem 205))
    rw [n_s]
    refine eg_T_run mk_X2_ini0 (cut := [88]) 1 (?_ : eg_T w0 k_X2_ini0 Qp 88 40 640 [some (.ref 80), some (.int (nI 8))] [] (mem 205))
    refine eg_T_run mk_X2_ini0 (cut := [91]) 12 (?_ : eg_T w0 k_X2_ini0 Qp 91 40 640 [some (.ref 80), some (.int (nI 8))] [.int (nI 16), .int (nI 8)] (mem 205))
    refine eg_T_run mk_X2_ini0 (cut := [110, 94]) 1 ?_
    refine And.intro (fun z => absurd (show nI 16 ≤ nI 8 from z) (by decide)) (fun _ => (?_ : eg_T w0 k_X2_ini0 Qp 94 40 640 [some (.ref 80), some (.int (nI 8))] [] (mem 205)))
    refine eg_T_run mk_X2_ini0 (cut := [95]) 12 (?_ : eg_T w0 k_X2_ini0 Qp 95 40 640 [some (.ref 80), some (.int (nI 8))] [.ref 80] (mem 205))
    refine x_getr (j := 20) (ci := 2) (f := 2) (p := 80) (q := 99) mk_X2_ini0 rfl rfl (so (by decide +kernel)) (sF (q := 99) rfl (so (by decide +kernel)) (by decide +kernel)) (?_ : eg_T w0 k_X2_ini0 Qp 98 40 640 [some (.ref 80), some (.int (nI 8))] [.ref 99] (mem 205))
    refine eg_T_run mk_X2_ini0 (cut := [99]) 12 (?_ : eg_T w0 k_X2_ini0 Qp 99 40 640 [some (.ref 80), some (.int (nI 8))] [.int (nI 8), .ref 99] (mem 205))
    refine x_aal (a := 99) (kd := 6) (len := 16) (i := 8) mk_X2_ini0 rfl (so (by decide +kernel)) (Or.inl rfl) (by unfold vp_in; decide) (n_c (by decide)) (?_ : eg_T w0 k_X2_ini0 Qp 100 40 640 [some (.ref 80), some (.int (nI 8))] [.ref 108] (mem 205))
    refine eg_T_run mk_X2_ini0 (cut := [101]) 12 (?_ : eg_T w0 k_X2_ini0 Qp 101 40 640 [some (.ref 80), some (.int (nI 8))] [.int (-nI 1), .ref 108] (mem 205))
    refine x_callS (j := 45) (n := 2) (kc := 0) (ks := 0) (S := s_fill0) (av := [.int (-nI 1), .ref 108]) (st := []) (M' := mem 206) mk_X2_ini0 rfl rfl rfl rfl rfl rfl (sI (len := 16) (so (by decide +kernel)) (by decide) (sM (o := (6, 108, 16, 0)) (by decide +kernel))) mo_fill0 (?_ : eg_T w0 k_X2_ini0 Qp 104 40 640 [some (.ref 80), some (.int (nI 8))] [] (mem 206))
    refine eg_T_run mk_X2_ini0 (cut := [107]) 1 (?_ : eg_T w0 k_X2_ini0 Qp 107 40 640 [some (.ref 80), some (.int (nI 8 + nI 1))] [] (mem 206))
    rw [n_s]
    refine eg_T_run mk_X2_ini0 (cut := [88]) 1 (?_ : eg_T w0 k_X2_ini0 Qp 88 40 640 [some (.ref 80), some (.int (nI 9))] [] (mem 206))
    refine eg_T_run mk_X2_ini0 (cut := [91]) 12 (?_ : eg_T w0 k_X2_ini0 Qp 91 40 640 [some (.ref 80), some (.int (nI 9))] [.int (nI 16), .int (nI 9)] (mem 206))
    refine eg_T_run mk_X2_ini0 (cut := [110, 94]) 1 ?_
    refine And.intro (fun z => absurd (show nI 16 ≤ nI 9 from z) (by decide)) (fun _ => (?_ : eg_T w0 k_X2_ini0 Qp 94 40 640 [some (.ref 80), some (.int (nI 9))] [] (mem 206)))
    refine eg_T_run mk_X2_ini0 (cut := [95]) 12 (?_ : eg_T w0 k_X2_ini0 Qp 95 40 640 [some (.ref 80), some (.int (nI 9))] [.ref 80] (mem 206))
    refine x_getr (j := 20) (ci := 2) (f := 2) (p := 80) (q := 99) mk_X2_ini0 rfl rfl (so (by decide +kernel)) (sF (q := 99) rfl (so (by decide +kernel)) (by decide +kernel)) (?_ : eg_T w0 k_X2_ini0 Qp 98 40 640 [some (.ref 80), some (.int (nI 9))] [.ref 99] (mem 206))
    refine eg_T_run mk_X2_ini0 (cut := [99]) 12 (?_ : eg_T w0 k_X2_ini0 Qp 99 40 640 [some (.ref 80), some (.int (nI 9))] [.int (nI 9), .ref 99] (mem 206))
    refine x_aal (a := 99) (kd := 6) (len := 16) (i := 9) mk_X2_ini0 rfl (so (by decide +kernel)) (Or.inl rfl) (by unfold vp_in; decide) (n_c (by decide)) (?_ : eg_T w0 k_X2_ini0 Qp 100 40 640 [some (.ref 80), some (.int (nI 9))] [.ref 109] (mem 206))
    refine eg_T_run mk_X2_ini0 (cut := [101]) 12 (?_ : eg_T w0 k_X2_ini0 Qp 101 40 640 [some (.ref 80), some (.int (nI 9))] [.int (-nI 1), .ref 109] (mem 206))
    refine x_callS (j := 45) (n := 2) (kc := 0) (ks := 0) (S := s_fill0) (av := [.int (-nI 1), .ref 109]) (st := []) (M' := mem 207) mk_X2_ini0 rfl rfl rfl rfl rfl rfl (sI (len := 16) (so (by decide +kernel)) (by decide) (sM (o := (6, 109, 16, 0)) (by decide +kernel))) mo_fill0 (?_ : eg_T w0 k_X2_ini0 Qp 104 40 640 [some (.ref 80), some (.int (nI 9))] [] (mem 207))
    refine eg_T_run mk_X2_ini0 (cut := [107]) 1 (?_ : eg_T w0 k_X2_ini0 Qp 107 40 640 [some (.ref 80), some (.int (nI 9 + nI 1))] [] (mem 207))
    rw [n_s]
    refine eg_T_run mk_X2_ini0 (cut := [88]) 1 (?_ : eg_T w0 k_X2_ini0 Qp 88 40 640 [some (.ref 80), some (.int (nI 10))] [] (mem 207))
    refine eg_T_run mk_X2_ini0 (cut := [91]) 12 (?_ : eg_T w0 k_X2_ini0 Qp 91 40 640 [some (.ref 80), some (.int (nI 10))] [.int (nI 16), .int (nI 10)] (mem 207))
    refine eg_T_run mk_X2_ini0 (cut := [110, 94]) 1 ?_
    refine And.intro (fun z => absurd (show nI 16 ≤ nI 10 from z) (by decide)) (fun _ => (?_ : eg_T w0 k_X2_ini0 Qp 94 40 640 [some (.ref 80), some (.int (nI 10))] [] (mem 207)))
    refine eg_T_run mk_X2_ini0 (cut := [95]) 12 (?_ : eg_T w0 k_X2_ini0 Qp 95 40 640 [some (.ref 80), some (.int (nI 10))] [.ref 80] (mem 207))
    refine x_getr (j := 20) (ci := 2) (f := 2) (p := 80) (q := 99) mk_X2_ini0 rfl rfl (so (by decide +kernel)) (sF (q := 99) rfl (so (by decide +kernel)) (by decide +kernel)) (?_ : eg_T w0 k_X2_ini0 Qp 98 40 640 [some (.ref 80), some (.int (nI 10))] [.ref 99] (mem 207))
    refine eg_T_run mk_X2_ini0 (cut := [99]) 12 (?_ : eg_T w0 k_X2_ini0 Qp 99 40 640 [some (.ref 80), some (.int (nI 10))] [.int (nI 10), .ref 99] (mem 207))
    refine x_aal (a := 99) (kd := 6) (len := 16) (i := 10) mk_X2_ini0 rfl (so (by decide +kernel)) (Or.inl rfl) (by unfold vp_in; decide) (n_c (by decide)) (?_ : eg_T w0 k_X2_ini0 Qp 100 40 640 [some (.ref 80), some (.int (nI 10))] [.ref 110] (mem 207))
    refine eg_T_run mk_X2_ini0 (cut := [101]) 12 (?_ : eg_T w0 k_X2_ini0 Qp 101 40 640 [some (.ref 80), some (.int (nI 10))] [.int (-nI 1), .ref 110] (mem 207))
    refine x_callS (j := 45) (n := 2) (kc := 0) (ks := 0) (S := s_fill0) (av := [.int (-nI 1), .ref 110]) (st := []) (M' := mem 208) mk_X2_ini0 rfl rfl rfl rfl rfl rfl (sI (len := 16) (so (by decide +kernel)) (by decide) (sM (o := (6, 110, 16, 0)) (by decide +kernel))) mo_fill0 (?_ : eg_T w0 k_X2_ini0 Qp 104 40 640 [some (.ref 80), some (.int (nI 10))] [] (mem 208))
    refine eg_T_run mk_X2_ini0 (cut := [107]) 1 (?_ : eg_T w0 k_X2_ini0 Qp 107 40 640 [some (.ref 80), some (.int (nI 10 + nI 1))] [] (mem 208))
    rw [n_s]
    refine eg_T_run mk_X2_ini0 (cut := [88]) 1 (?_ : eg_T w0 k_X2_ini0 Qp 88 40 640 [some (.ref 80), some (.int (nI 11))] [] (mem 208))
    refine eg_T_run mk_X2_ini0 (cut := [91]) 12 (?_ : eg_T w0 k_X2_ini0 Qp 91 40 640 [some (.ref 80), some (.int (nI 11))] [.int (nI 16), .int (nI 11)] (mem 208))
    refine eg_T_run mk_X2_ini0 (cut := [110, 94]) 1 ?_
    refine And.intro (fun z => absurd (show nI 16 ≤ nI 11 from z) (by decide)) (fun _ => (?_ : eg_T w0 k_X2_ini0 Qp 94 40 640 [some (.ref 80), some (.int (nI 11))] [] (mem 208)))
    refine eg_T_run mk_X2_ini0 (cut := [95]) 12 (?_ : eg_T w0 k_X2_ini0 Qp 95 40 640 [some (.ref 80), some (.int (nI 11))] [.ref 80] (mem 208))
    refine x_getr (j := 20) (ci := 2) (f := 2) (p := 80) (q := 99) mk_X2_ini0 rfl rfl (so (by decide +kernel)) (sF (q := 99) rfl (so (by decide +kernel)) (by decide +kernel)) (?_ : eg_T w0 k_X2_ini0 Qp 98 40 640 [some (.ref 80), some (.int (nI 11))] [.ref 99] (mem 208))
    refine eg_T_run mk_X2_ini0 (cut := [99]) 12 (?_ : eg_T w0 k_X2_ini0 Qp 99 40 640 [some (.ref 80), some (.int (nI 11))] [.int (nI 11), .ref 99] (mem 208))
    refine x_aal (a := 99) (kd := 6) (len := 16) (i := 11) mk_X2_ini0 rfl (so (by decide +kernel)) (Or.inl rfl) (by unfold vp_in; decide) (n_c (by decide)) (?_ : eg_T w0 k_X2_ini0 Qp 100 40 640 [some (.ref 80), some (.int (nI 11))] [.ref 111] (mem 208))
    refine eg_T_run mk_X2_ini0 (cut := [101]) 12 (?_ : eg_T w0 k_X2_ini0 Qp 101 40 640 [some (.ref 80), some (.int (nI 11))] [.int (-nI 1), .ref 111] (mem 208))
    refine x_callS (j := 45) (n := 2) (kc := 0) (ks := 0) (S := s_fill0) (av := [.int (-nI 1), .ref 111]) (st := []) (M' := mem 209) mk_X2_ini0 rfl rfl rfl rfl rfl rfl (sI (len := 16) (so (by decide +kernel)) (by decide) (sM (o := (6, 111, 16, 0)) (by decide +kernel))) mo_fill0 (?_ : eg_T w0 k_X2_ini0 Qp 104 40 640 [some (.ref 80), some (.int (nI 11))] [] (mem 209))
    refine eg_T_run mk_X2_ini0 (cut := [107]) 1 (?_ : eg_T w0 k_X2_ini0 Qp 107 40 640 [some (.ref 80), some (.int (nI 11 + nI 1))] [] (mem 209))
    rw [n_s]
    refine eg_T_run mk_X2_ini0 (cut := [88]) 1 (?_ : eg_T w0 k_X2_ini0 Qp 88 40 640 [some (.ref 80), some (.int (nI 12))] [] (mem 209))
    refine eg_T_run mk_X2_ini0 (cut := [91]) 12 (?_ : eg_T w0 k_X2_ini0 Qp 91 40 640 [some (.ref 80), some (.int (nI 12))] [.int (nI 16), .int (nI 12)] (mem 209))
    refine eg_T_run mk_X2_ini0 (cut := [110, 94]) 1 ?_
    refine And.intro (fun z => absurd (show nI 16 ≤ nI 12 from z) (by decide)) (fun _ => (?_ : eg_T w0 k_X2_ini0 Qp 94 40 640 [some (.ref 80), some (.int (nI 12))] [] (mem 209)))
    refine eg_T_run mk_X2_ini0 (cut := [95]) 12 (?_ : eg_T w0 k_X2_ini0 Qp 95 40 640 [some (.ref 80), some (.int (nI 12))] [.ref 80] (mem 209))
    refine x_getr (j := 20) (ci := 2) (f := 2) (p := 80) (q := 99) mk_X2_ini0 rfl rfl (so (by decide +kernel)) (sF (q := 99) rfl (so (by decide +kernel)) (by decide +kernel)) (?_ : eg_T w0 k_X2_ini0 Qp 98 40 640 [some (.ref 80), some (.int (nI 12))] [.ref 99] (mem 209))
    refine eg_T_run mk_X2_ini0 (cut := [99]) 12 (?_ : eg_T w0 k_X2_ini0 Qp 99 40 640 [some (.ref 80), some (.int (nI 12))] [.int (nI 12), .ref 99] (mem 209))
    refine x_aal (a := 99) (kd := 6) (len := 16) (i := 12) mk_X2_ini0 rfl (so (by decide +kernel)) (Or.inl rfl) (by unfold vp_in; decide) (n_c (by decide)) (?_ : eg_T w0 k_X2_ini0 Qp 100 40 640 [some (.ref 80), some (.int (nI 12))] [.ref 112] (mem 209))
    refine eg_T_run mk_X2_ini0 (cut := [101]) 12 (?_ : eg_T w0 k_X2_ini0 Qp 101 40 640 [some (.ref 80), some (.int (nI 12))] [.int (-nI 1), .ref 112] (mem 209))
    refine x_callS (j := 45) (n := 2) (kc := 0) (ks := 0) (S := s_fill0) (av := [.int (-nI 1), .ref 112]) (st := []) (M' := mem 210) mk_X2_ini0 rfl rfl rfl rfl rfl rfl (sI (len := 16) (so (by decide +kernel)) (by decide) (sM (o := (6, 112, 16, 0)) (by decide +kernel))) mo_fill0 (?_ : eg_T w0 k_X2_ini0 Qp 104 40 640 [some (.ref 80), some (.int (nI 12))] [] (mem 210))
    refine eg_T_run mk_X2_ini0 (cut := [107]) 1 (?_ : eg_T w0 k_X2_ini0 Qp 107 40 640 [some (.ref 80), some (.int (nI 12 + nI 1))] [] (mem 210))
    rw [n_s]
    refine eg_T_run mk_X2_ini0 (cut := [88]) 1 (?_ : eg_T w0 k_X2_ini0 Qp 88 40 640 [some (.ref 80), some (.int (nI 13))] [] (mem 210))
    refine eg_T_run mk_X2_ini0 (cut := [91]) 12 (?_ : eg_T w0 k_X2_ini0 Qp 91 40 640 [some (.ref 80), some (.int (nI 13))] [.int (nI 16), .int (nI 13)] (mem 210))
    refine eg_T_run mk_X2_ini0 (cut := [110, 94]) 1 ?_
    refine And.intro (fun z => absurd (show nI 16 ≤ nI 13 from z) (by decide)) (fun _ => (?_ : eg_T w0 k_X2_ini0 Qp 94 40 640 [some (.ref 80), some (.int (nI 13))] [] (mem 210)))
    refine eg_T_run mk_X2_ini0 (cut := [95]) 12 (?_ : eg_T w0 k_X2_ini0 Qp 95 40 640 [some (.ref 80), some (.int (nI 13))] [.ref 80] (mem 210))
    refine x_getr (j := 20) (ci := 2) (f := 2) (p := 80) (q := 99) mk_X2_ini0 rfl rfl (so (by decide +kernel)) (sF (q := 99) rfl (so (by decide +kernel)) (by decide +kernel)) (?_ : eg_T w0 k_X2_ini0 Qp 98 40 640 [some (.ref 80), some (.int (nI 13))] [.ref 99] (mem 210))
    refine eg_T_run mk_X2_ini0 (cut := [99]) 12 (?_ : eg_T w0 k_X2_ini0 Qp 99 40 640 [some (.ref 80), some (.int (nI 13))] [.int (nI 13), .ref 99] (mem 210))
    refine x_aal (a := 99) (kd := 6) (len := 16) (i := 13) mk_X2_ini0 rfl (so (by decide +kernel)) (Or.inl rfl) (by unfold vp_in; decide) (n_c (by decide)) (?_ : eg_T w0 k_X2_ini0 Qp 100 40 640 [some (.ref 80), some (.int (nI 13))] [.ref 113] (mem 210))
    refine eg_T_run mk_X2_ini0 (cut := [101]) 12 (?_ : eg_T w0 k_X2_ini0 Qp 101 40 640 [some (.ref 80), some (.int (nI 13))] [.int (-nI 1), .ref 113] (mem 210))
    refine x_callS (j := 45) (n := 2) (kc := 0) (ks := 0) (S := s_fill0) (av := [.int (-nI 1), .ref 113]) (st := []) (M' := mem 211) mk_X2_ini0 rfl rfl rfl rfl rfl rfl (sI (len := 16) (so (by decide +kernel)) (by decide) (sM (o := (6, 113, 16, 0)) (by decide +kernel))) mo_fill0 (?_ : eg_T w0 k_X2_ini0 Qp 104 40 640 [some (.ref 80), some (.int (nI 13))] [] (mem 211))
    refine eg_T_run mk_X2_ini0 (cut := [107]) 1 (?_ : eg_T w0 k_X2_ini0 Qp 107 40 640 [some (.ref 80), some (.int (nI 13 + nI 1))] [] (mem 211))
    rw [n_s]
    refine eg_T_run mk_X2_ini0 (cut := [88]) 1 (?_ : eg_T w0 k_X2_ini0 Qp 88 40 640 [some (.ref 80), some (.int (nI 14))] [] (mem 211))
    refine eg_T_run mk_X2_ini0 (cut := [91]) 12 (?_ : eg_T w0 k_X2_ini0 Qp 91 40 640 [some (.ref 80), some (.int (nI 14))] [.int (nI 16), .int (nI 14)] (mem 211))
    refine eg_T_run mk_X2_ini0 (cut := [110, 94]) 1 ?_
    refine And.intro (fun z => absurd (show nI 16 ≤ nI 14 from z) (by decide)) (fun _ => (?_ : eg_T w0 k_X2_ini0 Qp 94 40 640 [some (.ref 80), some (.int (nI 14))] [] (mem 211)))
    refine eg_T_run mk_X2_ini0 (cut := [95]) 12 (?_ : eg_T w0 k_X2_ini0 Qp 95 40 640 [some (.ref 80), some (.int (nI 14))] [.ref 80] (mem 211))
    refine x_getr (j := 20) (ci := 2) (f := 2) (p := 80) (q := 99) mk_X2_ini0 rfl rfl (so (by decide +kernel)) (sF (q := 99) rfl (so (by decide +kernel)) (by decide +kernel)) (?_ : eg_T w0 k_X2_ini0 Qp 98 40 640 [some (.ref 80), some (.int (nI 14))] [.ref 99] (mem 211))
    refine eg_T_run mk_X2_ini0 (cut := [99]) 12 (?_ : eg_T w0 k_X2_ini0 Qp 99 40 640 [some (.ref 80), some (.int (nI 14))] [.int (nI 14), .ref 99] (mem 211))
    refine x_aal (a := 99) (kd := 6) (len := 16) (i := 14) mk_X2_ini0 rfl (so (by decide +kernel)) (Or.inl rfl) (by unfold vp_in; decide) (n_c (by decide)) (?_ : eg_T w0 k_X2_ini0 Qp 100 40 640 [some (.ref 80), some (.int (nI 14))] [.ref 114] (mem 211))
    refine eg_T_run mk_X2_ini0 (cut := [101]) 12 (?_ : eg_T w0 k_X2_ini0 Qp 101 40 640 [some (.ref 80), some (.int (nI 14))] [.int (-nI 1), .ref 114] (mem 211))
    refine x_callS (j := 45) (n := 2) (kc := 0) (ks := 0) (S := s_fill0) (av := [.int (-nI 1), .ref 114]) (st := []) (M' := mem 212) mk_X2_ini0 rfl rfl rfl rfl rfl rfl (sI (len := 16) (so (by decide +kernel)) (by decide) (sM (o := (6, 114, 16, 0)) (by decide +kernel))) mo_fill0 (?_ : eg_T w0 k_X2_ini0 Qp 104 40 640 [some (.ref 80), some (.int (nI 14))] [] (mem 212))
    refine eg_T_run mk_X2_ini0 (cut := [107]) 1 (?_ : eg_T w0 k_X2_ini0 Qp 107 40 640 [some (.ref 80), some (.int (nI 14 + nI 1))] [] (mem 212))
    rw [n_s]
    refine eg_T_run mk_X2_ini0 (cut := [88]) 1 (?_ : eg_T w0 k_X2_ini0 Qp 88 40 640 [some (.ref 80), some (.int (nI 15))] [] (mem 212))
    refine eg_T_run mk_X2_ini0 (cut := [91]) 12 (?_ : eg_T w0 k_X2_ini0 Qp 91 40 640 [some (.ref 80), some (.int (nI 15))] [.int (nI 16), .int (nI 15)] (mem 212))
    refine eg_T_run mk_X2_ini0 (cut := [110, 94]) 1 ?_
    refine And.intro (fun z => absurd (show nI 16 ≤ nI 15 from z) (by decide)) (fun _ => (?_ : eg_T w0 k_X2_ini0 Qp 94 40 640 [some (.ref 80), some (.int (nI 15))] [] (mem 212)))
    refine eg_T_run mk_X2_ini0 (cut := [95]) 12 (?_ : eg_T w0 k_X2_ini0 Qp 95 40 640 [some (.ref 80), some (.int (nI 15))] [.ref 80] (mem 212))
    refine x_getr (j := 20) (ci := 2) (f := 2) (p := 80) (q := 99) mk_X2_ini0 rfl rfl (so (by decide +kernel)) (sF (q := 99) rfl (so (by decide +kernel)) (by decide +kernel)) (?_ : eg_T w0 k_X2_ini0 Qp 98 40 640 [some (.ref 80), some (.int (nI 15))] [.ref 99] (mem 212))
    refine eg_T_run mk_X2_ini0 (cut := [99]) 12 (?_ : eg_T w0 k_X2_ini0 Qp 99 40 640 [some (.ref 80), some (.int (nI 15))] [.int (nI 15), .ref 99] (mem 212))
    refine x_aal (a := 99) (kd := 6) (len := 16) (i := 15) mk_X2_ini0 rfl (so (by decide +kernel)) (Or.inl rfl) (by unfold vp_in; decide) (n_c (by decide)) (?_ : eg_T w0 k_X2_ini0 Qp 100 40 640 [some (.ref 80), some (.int (nI 15))] [.ref 115] (mem 212))
    refine eg_T_run mk_X2_ini0 (cut := [101]) 12 (?_ : eg_T w0 k_X2_ini0 Qp 101 40 640 [some (.ref 80), some (.int (nI 15))] [.int (-nI 1), .ref 115] (mem 212))
    refine x_callS (j := 45) (n := 2) (kc := 0) (ks := 0) (S := s_fill0) (av := [.int (-nI 1), .ref 115]) (st := []) (M' := mem 213) mk_X2_ini0 rfl rfl rfl rfl rfl rfl (sI (len := 16) (so (by decide +kernel)) (by decide) (sM (o := (6, 115, 16, 0)) (by decide +kernel))) mo_fill0 (?_ : eg_T w0 k_X2_ini0 Qp 104 40 640 [some (.ref 80), some (.int (nI 15))] [] (mem 213))
    refine eg_T_run mk_X2_ini0 (cut := [107]) 1 (?_ : eg_T w0 k_X2_ini0 Qp 107 40 640 [some (.ref 80), some (.int (nI 15 + nI 1))] [] (mem 213))
    rw [n_s]
    refine eg_T_run mk_X2_ini0 (cut := [88]) 1 (?_ : eg_T w0 k_X2_ini0 Qp 88 40 640 [some (.ref 80), some (.int (nI 16))] [] (mem 213))
    refine eg_T_run mk_X2_ini0 (cut := [91]) 12 (?_ : eg_T w0 k_X2_ini0 Qp 91 40 640 [some (.ref 80), some (.int (nI 16))] [.int (nI 16), .int (nI 16)] (mem 213))
    refine eg_T_run mk_X2_ini0 (cut := [110, 94]) 1 ?_
    refine And.intro (fun _ => (?_ : eg_T w0 k_X2_ini0 Qp 110 40 640 [some (.ref 80), some (.int (nI 16))] [] (mem 213))) (fun z => absurd (show nI 16 ≤ nI 16 by decide) z)
    refine eg_T_run mk_X2_ini0 (cut := [111]) 12 (?_ : eg_T w0 k_X2_ini0 Qp 111 40 640 [some (.ref 80), some (.int (nI 16))] [.ref 80] (mem 213))
    refine x_getr (j := 23) (ci := 2) (f := 3) (p := 80) (q := 116) mk_X2_ini0 rfl rfl (so (by decide +kernel)) (sF (q := 116) rfl (so (by decide +kernel)) (by decide +kernel)) (?_ : eg_T w0 k_X2_ini0 Qp 114 40 640 [some (.ref 80), some (.int (nI 16))] [.ref 116] (mem 213))
    refine eg_T_run mk_X2_ini0 (cut := [115]) 12 (?_ : eg_T w0 k_X2_ini0 Qp 115 40 640 [some (.ref 80), some (.int (nI 16))] [.int (-nI 1), .ref 116] (mem 213))
    refine x_callS (j := 45) (n := 2) (kc := 0) (ks := 0) (S := s_fill0) (av := [.int (-nI 1), .ref 116]) (st := []) (M' := mem 214) mk_X2_ini0 rfl rfl rfl rfl rfl rfl (sI (len := 16) (so (by decide +kernel)) (by decide) (sM (o := (6, 116, 16, 0)) (by decide +kernel))) mo_fill0 (?_ : eg_T w0 k_X2_ini0 Qp 118 40 640 [some (.ref 80), some (.int (nI 16))] [] (mem 214))
    exact x_ret mk_X2_ini0 rfl rfl rfl hq
  · exact h.elim
theorem de_X2_ini0 : ∀ q ∈ k_X2_ini0.1, decode cX2_init q.1 = .ok q.2 := by decide +kernel
theorem me_X2_ini0 (g : gl_T) : MT0 g yX2_init cX2_init 2 none ⟨1, 40, 640, 23⟩ 40 640 s_X2_ini0 := by
  intro hl
  exact eg_met_of (k := k_X2_ini0) (by decide) rfl ⟨Nat.le_refl _, Nat.le_refl _⟩ rfl sz_X2_ini0 de_X2_ini0 (fun meth hn => (fc (eg_FL_of0 wd_c2 (by decide) lf_RX2_11 (fun _ => Or.inr ⟨rfl, hn, rfl⟩)) (fc (eg_FL_of0 wd_c2 (by decide) lf_RX2_16 (fun _ => Or.inr ⟨rfl, hn, rfl⟩)) (fc (eg_FL_of0 wd_c2 (by decide) lf_RX2_20 (fun _ => Or.inr ⟨rfl, hn, rfl⟩)) (fc (eg_FL_of0 wd_c2 (by decide) lf_RX2_23 (fun _ => Or.inr ⟨rfl, hn, rfl⟩)) (fc (eg_FL_of0 wd_c2 (by decide) lf_RX2_26 (fun _ => Or.inr ⟨rfl, hn, rfl⟩)) (fc (eg_FL_of0 wd_c2 (by decide) lf_RX2_29 (fun _ => Or.inr ⟨rfl, hn, rfl⟩)) (fc (eg_FL_of0 wd_c2 (by decide) lf_RX2_32 (fun _ => Or.inr ⟨rfl, hn, rfl⟩)) (fc (eg_FL_of0 wd_c2 (by decide) lf_RX2_35 (fun _ => Or.inr ⟨rfl, hn, rfl⟩)) (fc (eg_FL_of0 wd_c2 (by decide) lf_RX2_38 (fun _ => Or.inl rfl)) (fc (eg_FL_of0 wd_c2 (by decide) lf_RX2_42 (fun _ => Or.inl rfl)) (fn)))))))))))) (fun A s H hE => (fn)) (fun p e s m args below meth c Q A ad0 N0 S0 hK hEx hA => (fc (mz_S hl S0 hK hEx hA (me_fill0 g) lm_RX2_45 ls_J7_fill_53178 ln_RJ7 lc_J7_fill_53178 ⟨rfl, by decide, by decide, by decide +kernel⟩ ⟨rfl, rfl⟩ ⟨by decide, by decide⟩ (by decide)) (fc (mz_O S0 lm_RX2_3 (by decide) (by decide) (by decide)) (fc (mz_i S0 hK hA) (fc (mz_m (ty := .int) S0 hK hEx hA gt_l2 (Or.inl ⟨rfl, rfl, rfl⟩) (by decide)) (fn)))))) (fun p e s m args below meth c Qc XC A ad0 N0 P S0 hK hEx hA hlk hout hPX => (fn)) (fun argv M Qp h => T_X2_ini0 h)
def s_X11_ini0 : eg_S := fun argv M Qp => match argv with
  | [.ref 0] => M = mem 1 ∧ Qp (.inl none) (mem 216)
  | _ => False
theorem mo_X11_ini0 : eg_mono s_X11_ini0 := by
  intro argv M Q Q' h
  unfold s_X11_ini0
  split
  · exact fun z => ⟨z.1, h _ _ z.2⟩
  · exact id
theorem sz_X11_ini0 : ∀ argv M Qp, s_X11_ini0 argv M Qp → (eg_ls0 argv).length ≤ 1 := by
  intro argv M Qp h
  unfold s_X11_ini0 at h
  split at h
  · exact Nat.le_of_ble_eq_true rfl
  · exact h.elim
theorem si_X11_ini0 : ∀ argv M Qp, s_X11_ini0 argv M Qp → ∃ p0 As, argv = .ref p0 :: As := by
  intro argv M Qp h
  unfold s_X11_ini0 at h
  split at h
  · exact ⟨_, _, rfl⟩
  · exact h.elim
theorem nt_X11_ini0 : ∀ argv M Qp, s_X11_ini0 argv M Qp → s_X11_ini0 argv M (fun r N => match r with
    | .inl v => Qp (.inl v) N
    | .inr _ => False) := by
  intro argv M Qp h
  unfold s_X11_ini0 at h ⊢
  split at h
  · exact h
  · exact h.elim
def k_X11_ini0 : eg_C := ([(0, .aload_n 0, 1), (1, .invokespecial 3, 3), (4, .aload_n 0, 1), (5, .new 9, 3), (8, .dup, 1), (9, .invokespecial 11, 3), (12, .putfield 12, 3), (15, .aload_n 0, 1), (16, .aload_n 0, 1), (17, .getfield 12, 3), (20, .getfield 16, 3), (23, .putfield 20, 3), (26, .aload_n 0, 1), (27, .aload_n 0, 1), (28, .getfield 12, 3), (31, .getfield 21, 3), (34, .putfield 25, 3), (37, .aload_n 0, 1), (38, .aload_n 0, 1), (39, .getfield 12, 3), (42, .getfield 26, 3), (45, .putfield 30, 3), (48, .aload_n 0, 1), (49, .aload_n 0, 1), (50, .getfield 12, 3), (53, .getfield 31, 3), (56, .putfield 35, 3), (59, .aload_n 0, 1), (60, .new 36, 3), (63, .dup, 1), (64, .invokespecial 38, 3), (67, .putfield 39, 3), (70, .aload_n 0, 1), (71, .new 43, 3), (74, .dup, 1), (75, .invokespecial 45, 3), (78, .putfield 46, 3), (81, .aload_n 0, 1), (82, .new 50, 3), (85, .dup, 1), (86, .invokespecial 52, 3), (89, .putfield 53, 3), (92, .aload_n 0, 1), (93, .iconst 0, 1), (94, .putfield 57, 3), (97, .return_, 1)], [(12, 11, 0, true), (16, 3, 0, false), (20, 11, 1, true), (21, 3, 1, false), (25, 11, 2, true), (26, 3, 2, false), (30, 11, 3, true), (31, 3, 3, false), (35, 11, 4, true), (39, 11, 5, true), (46, 11, 6, true), (53, 11, 7, true), (57, 11, 8, true)], [], [(3 + 200000, 1, 0, 0, eg_So), (11 + 200000, 0 + 1, 44, 6215, s_X3_ini0), (38 + 200000, 0 + 1, 25, 368, s_X4_ini0), (45 + 200000, 0 + 1, 7, 168, s_X6_ini0), (52 + 200000, 0 + 1, 40, 640, s_X2_ini0)], [(9, .inr 3), (36, .inr 4), (43, .inr 6), (50, .inr 2)], 0, 120, 7444)
theorem mk_X11_ini0 : ∀ q ∈ k_X11_ini0.2.2.2.1, eg_mono q.2.2.2.2 := (fc (mo_So) (fc (mo_X3_ini0) (fc (mo_X4_ini0) (fc (mo_X6_ini0) (fc (mo_X2_ini0) (fn))))))
set_option maxRecDepth 100000 in
set_option maxHeartbeats 4000000 in
theorem T_X11_ini0 {argv : List Value} {M : eg_M} {Qp : eg_P} (h : s_X11_ini0 argv M Qp) : eg_T w0 k_X11_ini0 Qp 0 0 0 (eg_lsN 1 argv) [] M := by
  unfold s_X11_ini0 at h
  split at h
  · obtain ⟨rfl, hq⟩ := h
    refine (?_ : eg_T w0 k_X11_ini0 Qp 0 0 0 [some (.ref 0)] [] (mem 1))
    refine eg_T_run mk_X11_ini0 (cut := [1]) 12 (?_ : eg_T w0 k_X11_ini0 Qp 1 0 0 [some (.ref 0)] [.ref 0] (mem 1))
    refine x_call (j := 3) (n := 1) (kc := 0) (ks := 0) (S := eg_So) (av := [.ref 0]) (st := []) (M' := mem 1) mk_X11_ini0 rfl rfl rfl rfl rfl rfl ⟨rfl, rfl⟩ mo_So (?_ : eg_T w0 k_X11_ini0 Qp 4 0 0 [some (.ref 0)] [] (mem 1))
    refine eg_T_run mk_X11_ini0 (cut := [5]) 12 (?_ : eg_T w0 k_X11_ini0 Qp 5 0 0 [some (.ref 0)] [.ref 0] (mem 1))
    refine x_new (j := 9) (ci := 3) (q := 1) (sl := 19) mk_X11_ini0 rfl rfl rfl rfl (sN (by decide +kernel)) (sM (o := (0, 0, 3, 0)) (by decide +kernel)) (?_ : eg_T w0 k_X11_ini0 Qp 8 1 19 [some (.ref 0)] [.ref 1, .ref 0] (mem 2))
    refine eg_T_run mk_X11_ini0 (cut := [9]) 12 (?_ : eg_T w0 k_X11_ini0 Qp 9 1 19 [some (.ref 0)] [.ref 1, .ref 1, .ref 0] (mem 2))
    refine x_call (j := 11) (n := 1) (kc := 44) (ks := 6215) (S := s_X3_ini0) (av := [.ref 1]) (st := [.ref 1, .ref 0]) (M' := mem 112) mk_X11_ini0 rfl rfl rfl rfl rfl rfl ⟨rfl, rfl, rfl⟩ mo_X3_ini0 (?_ : eg_T w0 k_X11_ini0 Qp 12 45 6234 [some (.ref 0)] [.ref 1, .ref 0] (mem 112))
    refine x_putr (j := 12) (ci := 11) (f := 0) (p := 0) (q := 1) mk_X11_ini0 rfl rfl rfl (so (by decide +kernel)) (sM (o := (2, 0, 0, 1)) (by decide +kernel)) (?_ : eg_T w0 k_X11_ini0 Qp 15 45 6234 [some (.ref 0)] [] (mem 113))
    refine eg_T_run mk_X11_ini0 (cut := [17]) 12 (?_ : eg_T w0 k_X11_ini0 Qp 17 45 6234 [some (.ref 0)] [.ref 0, .ref 0] (mem 113))
    refine x_getr (j := 12) (ci := 11) (f := 0) (p := 0) (q := 1) mk_X11_ini0 rfl rfl (so (by decide +kernel)) (sF (q := 1) rfl (so (by decide +kernel)) (by decide +kernel)) (?_ : eg_T w0 k_X11_ini0 Qp 20 45 6234 [some (.ref 0)] [.ref 1, .ref 0] (mem 113))
    refine x_getr (j := 16) (ci := 3) (f := 0) (p := 1) (q := 2) mk_X11_ini0 rfl rfl (so (by decide +kernel)) (sF (q := 2) rfl (so (by decide +kernel)) (by decide +kernel)) (?_ : eg_T w0 k_X11_ini0 Qp 23 45 6234 [some (.ref 0)] [.ref 2, .ref 0] (mem 113))
    refine x_putr (j := 20) (ci := 11) (f := 1) (p := 0) (q := 2) mk_X11_ini0 rfl rfl rfl (so (by decide +kernel)) (sM (o := (2, 0, 1, 2)) (by decide +kernel)) (?_ : eg_T w0 k_X11_ini0 Qp 26 45 6234 [some (.ref 0)] [] (mem 114))
    refine eg_T_run mk_X11_ini0 (cut := [28]) 12 (?_ : eg_T w0 k_X11_ini0 Qp 28 45 6234 [some (.ref 0)] [.ref 0, .ref 0] (mem 114))
    refine x_getr (j := 12) (ci := 11) (f := 0) (p := 0) (q := 1) mk_X11_ini0 rfl rfl (so (by decide +kernel)) (sF (q := 1) rfl (so (by decide +kernel)) (by decide +kernel)) (?_ : eg_T w0 k_X11_ini0 Qp 31 45 6234 [some (.ref 0)] [.ref 1, .ref 0] (mem 114))
    refine x_getr (j := 21) (ci := 3) (f := 1) (p := 1) (q := 7) mk_X11_ini0 rfl rfl (so (by decide +kernel)) (sF (q := 7) rfl (so (by decide +kernel)) (by decide +kernel)) (?_ : eg_T w0 k_X11_ini0 Qp 34 45 6234 [some (.ref 0)] [.ref 7, .ref 0] (mem 114))
    refine x_putr (j := 25) (ci := 11) (f := 2) (p := 0) (q := 7) mk_X11_ini0 rfl rfl rfl (so (by decide +kernel)) (sM (o := (2, 0, 2, 7)) (by decide +kernel)) (?_ : eg_T w0 k_X11_ini0 Qp 37 45 6234 [some (.ref 0)] [] (mem 115))
    refine eg_T_run mk_X11_ini0 (cut := [39]) 12 (?_ : eg_T w0 k_X11_ini0 Qp 39 45 6234 [some (.ref 0)] [.ref 0, .ref 0] (mem 115))
    refine x_getr (j := 12) (ci := 11) (f := 0) (p := 0) (q := 1) mk_X11_ini0 rfl rfl (so (by decide +kernel)) (sF (q := 1) rfl (so (by decide +kernel)) (by decide +kernel)) (?_ : eg_T w0 k_X11_ini0 Qp 42 45 6234 [some (.ref 0)] [.ref 1, .ref 0] (mem 115))
    refine x_getr (j := 26) (ci := 3) (f := 2) (p := 1) (q := 12) mk_X11_ini0 rfl rfl (so (by decide +kernel)) (sF (q := 12) rfl (so (by decide +kernel)) (by decide +kernel)) (?_ : eg_T w0 k_X11_ini0 Qp 45 45 6234 [some (.ref 0)] [.ref 12, .ref 0] (mem 115))
    refine x_putr (j := 30) (ci := 11) (f := 3) (p := 0) (q := 12) mk_X11_ini0 rfl rfl rfl (so (by decide +kernel)) (sM (o := (2, 0, 3, 12)) (by decide +kernel)) (?_ : eg_T w0 k_X11_ini0 Qp 48 45 6234 [some (.ref 0)] [] (mem 116))
    refine eg_T_run mk_X11_ini0 (cut := [50]) 12 (?_ : eg_T w0 k_X11_ini0 Qp 50 45 6234 [some (.ref 0)] [.ref 0, .ref 0] (mem 116))
    refine x_getr (j := 12) (ci := 11) (f := 0) (p := 0) (q := 1) mk_X11_ini0 rfl rfl (so (by decide +kernel)) (sF (q := 1) rfl (so (by decide +kernel)) (by decide +kernel)) (?_ : eg_T w0 k_X11_ini0 Qp 53 45 6234 [some (.ref 0)] [.ref 1, .ref 0] (mem 116))
    refine x_getr (j := 31) (ci := 3) (f := 3) (p := 1) (q := 23) mk_X11_ini0 rfl rfl (so (by decide +kernel)) (sF (q := 23) rfl (so (by decide +kernel)) (by decide +kernel)) (?_ : eg_T w0 k_X11_ini0 Qp 56 45 6234 [some (.ref 0)] [.ref 23, .ref 0] (mem 116))
    refine x_putr (j := 35) (ci := 11) (f := 4) (p := 0) (q := 23) mk_X11_ini0 rfl rfl rfl (so (by decide +kernel)) (sM (o := (2, 0, 4, 23)) (by decide +kernel)) (?_ : eg_T w0 k_X11_ini0 Qp 59 45 6234 [some (.ref 0)] [] (mem 117))
    refine eg_T_run mk_X11_ini0 (cut := [60]) 12 (?_ : eg_T w0 k_X11_ini0 Qp 60 45 6234 [some (.ref 0)] [.ref 0] (mem 117))
    refine x_new (j := 36) (ci := 4) (q := 46) (sl := 13) mk_X11_ini0 rfl rfl rfl rfl (sN (by decide +kernel)) (sM (o := (0, 0, 4, 0)) (by decide +kernel)) (?_ : eg_T w0 k_X11_ini0 Qp 63 46 6247 [some (.ref 0)] [.ref 46, .ref 0] (mem 118))
    refine eg_T_run mk_X11_ini0 (cut := [64]) 12 (?_ : eg_T w0 k_X11_ini0 Qp 64 46 6247 [some (.ref 0)] [.ref 46, .ref 46, .ref 0] (mem 118))
    refine x_call (j := 38) (n := 1) (kc := 25) (ks := 368) (S := s_X4_ini0) (av := [.ref 46]) (st := [.ref 46, .ref 0]) (M' := mem 157) mk_X11_ini0 rfl rfl rfl rfl rfl rfl ⟨rfl, rfl, rfl⟩ mo_X4_ini0 (?_ : eg_T w0 k_X11_ini0 Qp 67 71 6615 [some (.ref 0)] [.ref 46, .ref 0] (mem 157))
    refine x_putr (j := 39) (ci := 11) (f := 5) (p := 0) (q := 46) mk_X11_ini0 rfl rfl rfl (so (by decide +kernel)) (sM (o := (2, 0, 5, 46)) (by decide +kernel)) (?_ : eg_T w0 k_X11_ini0 Qp 70 71 6615 [some (.ref 0)] [] (mem 158))
    refine eg_T_run mk_X11_ini0 (cut := [71]) 12 (?_ : eg_T w0 k_X11_ini0 Qp 71 71 6615 [some (.ref 0)] [.ref 0] (mem 158))
    refine x_new (j := 43) (ci := 6) (q := 72) (sl := 11) mk_X11_ini0 rfl rfl rfl rfl (sN (by decide +kernel)) (sM (o := (0, 0, 6, 0)) (by decide +kernel)) (?_ : eg_T w0 k_X11_ini0 Qp 74 72 6626 [some (.ref 0)] [.ref 72, .ref 0] (mem 159))
    refine eg_T_run mk_X11_ini0 (cut := [75]) 12 (?_ : eg_T w0 k_X11_ini0 Qp 75 72 6626 [some (.ref 0)] [.ref 72, .ref 72, .ref 0] (mem 159))
    refine x_call (j := 45) (n := 1) (kc := 7) (ks := 168) (S := s_X6_ini0) (av := [.ref 72]) (st := [.ref 72, .ref 0]) (M' := mem 177) mk_X11_ini0 rfl rfl rfl rfl rfl rfl ⟨rfl, rfl, rfl⟩ mo_X6_ini0 (?_ : eg_T w0 k_X11_ini0 Qp 78 79 6794 [some (.ref 0)] [.ref 72, .ref 0] (mem 177))
    refine x_putr (j := 46) (ci := 11) (f := 6) (p := 0) (q := 72) mk_X11_ini0 rfl rfl rfl (so (by decide +kernel)) (sM (o := (2, 0, 6, 72)) (by decide +kernel)) (?_ : eg_T w0 k_X11_ini0 Qp 81 79 6794 [some (.ref 0)] [] (mem 178))
    refine eg_T_run mk_X11_ini0 (cut := [82]) 12 (?_ : eg_T w0 k_X11_ini0 Qp 82 79 6794 [some (.ref 0)] [.ref 0] (mem 178))
    refine x_new (j := 50) (ci := 2) (q := 80) (sl := 10) mk_X11_ini0 rfl rfl rfl rfl (sN (by decide +kernel)) (sM (o := (0, 0, 2, 0)) (by decide +kernel)) (?_ : eg_T w0 k_X11_ini0 Qp 85 80 6804 [some (.ref 0)] [.ref 80, .ref 0] (mem 179))
    refine eg_T_run mk_X11_ini0 (cut := [86]) 12 (?_ : eg_T w0 k_X11_ini0 Qp 86 80 6804 [some (.ref 0)] [.ref 80, .ref 80, .ref 0] (mem 179))
    refine x_call (j := 52) (n := 1) (kc := 40) (ks := 640) (S := s_X2_ini0) (av := [.ref 80]) (st := [.ref 80, .ref 0]) (M' := mem 214) mk_X11_ini0 rfl rfl rfl rfl rfl rfl ⟨rfl, rfl, rfl⟩ mo_X2_ini0 (?_ : eg_T w0 k_X11_ini0 Qp 89 120 7444 [some (.ref 0)] [.ref 80, .ref 0] (mem 214))
    refine x_putr (j := 53) (ci := 11) (f := 7) (p := 0) (q := 80) mk_X11_ini0 rfl rfl rfl (so (by decide +kernel)) (sM (o := (2, 0, 7, 80)) (by decide +kernel)) (?_ : eg_T w0 k_X11_ini0 Qp 92 120 7444 [some (.ref 0)] [] (mem 215))
    refine eg_T_run mk_X11_ini0 (cut := [94]) 12 (?_ : eg_T w0 k_X11_ini0 Qp 94 120 7444 [some (.ref 0)] [.int (nI 0), .ref 0] (mem 215))
    refine x_puti (j := 57) (ci := 11) (f := 8) (p := 0) mk_X11_ini0 rfl rfl rfl (so (by decide +kernel)) (sM (o := (1, 0, 8, 0)) (by decide +kernel)) (?_ : eg_T w0 k_X11_ini0 Qp 97 120 7444 [some (.ref 0)] [] (mem 216))
    exact x_ret mk_X11_ini0 rfl rfl rfl hq
  · exact h.elim
theorem de_X11_ini0 : ∀ q ∈ k_X11_ini0.1, decode cX11_init q.1 = .ok q.2 := by decide +kernel
theorem me_X11_ini0 (g : gl_T) : MT0 g yX11_init cX11_init 1 none ⟨4, 120, 7444, 86⟩ 120 7444 s_X11_ini0 := by
  intro hl
  exact eg_met_of (k := k_X11_ini0) (by decide) rfl ⟨Nat.le_refl _, Nat.le_refl _⟩ rfl sz_X11_ini0 de_X11_ini0 (fun meth hn => (fc (eg_FL_of0 wd_c11 (by decide) lf_RX11_12 (fun _ => Or.inr ⟨rfl, hn, rfl⟩)) (fc (eg_FL_of0 wd_c3 (by decide) lf_RX11_16 (fun h => absurd h (by decide))) (fc (eg_FL_of0 wd_c11 (by decide) lf_RX11_20 (fun _ => Or.inr ⟨rfl, hn, rfl⟩)) (fc (eg_FL_of0 wd_c3 (by decide) lf_RX11_21 (fun h => absurd h (by decide))) (fc (eg_FL_of0 wd_c11 (by decide) lf_RX11_25 (fun _ => Or.inr ⟨rfl, hn, rfl⟩)) (fc (eg_FL_of0 wd_c3 (by decide) lf_RX11_26 (fun h => absurd h (by decide))) (fc (eg_FL_of0 wd_c11 (by decide) lf_RX11_30 (fun _ => Or.inr ⟨rfl, hn, rfl⟩)) (fc (eg_FL_of0 wd_c3 (by decide) lf_RX11_31 (fun h => absurd h (by decide))) (fc (eg_FL_of0 wd_c11 (by decide) lf_RX11_35 (fun _ => Or.inr ⟨rfl, hn, rfl⟩)) (fc (eg_FL_of0 wd_c11 (by decide) lf_RX11_39 (fun _ => Or.inr ⟨rfl, hn, rfl⟩)) (fc (eg_FL_of0 wd_c11 (by decide) lf_RX11_46 (fun _ => Or.inr ⟨rfl, hn, rfl⟩)) (fc (eg_FL_of0 wd_c11 (by decide) lf_RX11_53 (fun _ => Or.inr ⟨rfl, hn, rfl⟩)) (fc (eg_FL_of0 wd_c11 (by decide) lf_RX11_57 (fun _ => Or.inl rfl)) (fn))))))))))))))) (fun A s H hE => (fn)) (fun p e s m args below meth c Q A ad0 N0 S0 hK hEx hA => (fc (mz_O S0 lm_RX11_3 (by decide) (by decide) (by decide)) (fc (mz_IN hl S0 hK hEx hA (me_X3_ini0 g) nt_X3_ini0 (List.mem_of_getElem? (i := 0) rfl) li_X3_init ln_RX3 lc_X3_init ⟨rfl, by decide, by decide, by decide +kernel⟩ rfl ⟨rfl, rfl⟩ ⟨by decide, by decide⟩ si_X3_ini0 (by decide)) (fc (mz_IN hl S0 hK hEx hA (me_X4_ini0 g) nt_X4_ini0 (List.mem_of_getElem? (i := 1) rfl) li_X4_init ln_RX4 lc_X4_init ⟨rfl, by decide, by decide, by decide +kernel⟩ rfl ⟨rfl, rfl⟩ ⟨by decide, by decide⟩ si_X4_ini0 (by decide)) (fc (mz_IN hl S0 hK hEx hA (me_X6_ini0 g) nt_X6_ini0 (List.mem_of_getElem? (i := 2) rfl) li_X6_init ln_RX6 lc_X6_init ⟨rfl, by decide, by decide, by decide +kernel⟩ rfl ⟨rfl, rfl⟩ ⟨by decide, by decide⟩ si_X6_ini0 (by decide)) (fc (mz_I hl S0 hK hEx hA (me_X2_ini0 g) nt_X2_ini0 lm_RX11_52 li_X2_init ln_RX2 lc_X2_init ⟨rfl, by decide, by decide, by decide +kernel⟩ rfl ⟨rfl, rfl⟩ ⟨by decide, by decide⟩ si_X2_ini0 (by decide)) (fn))))))) (fun p e s m args below meth c Qc XC A ad0 N0 P S0 hK hEx hA hlk hout hPX => (fc (mz_N S0 hK hA wd_c3 f3_Y3 lq_RX11_9 lz_X3 ln_RX3 de_X11_ini0) (fc (mz_N S0 hK hA wd_c4 f3_Y4 lq_RX11_36 lz_X4 ln_RX4 de_X11_ini0) (fc (mz_N S0 hK hA wd_c6 f3_Y6 lq_RX11_43 lz_X6 ln_RX6 de_X11_ini0) (fc (mz_N S0 hK hA wd_c2 f3_Y2 lq_RX11_50 lz_X2 ln_RX2 de_X11_ini0) (fn)))))) (fun argv M Qp h => T_X11_ini0 h)

theorem h_I_of {n k : Nat} {a a' : Nat → Nat → Int} {u v : Nat → Int} {p : Nat → Nat} (h : ∀ i j, 1 ≤ i → i ≤ k → a' i j = a i j) (hI : h_I n k a u v p) : h_I n k a' u v p := by
  obtain ⟨⟨f1, f2, f3, f4, f5⟩, f6⟩ := hI
  refine ⟨⟨fun i j h1 h2 h3 h4 => ?_, fun j h1 h2 h3 => ?_, f3, f4, f5⟩, f6⟩
  · rw [h i j h1 h2]
    exact f1 i j h1 h2 h3 h4
  · obtain ⟨g1, g2⟩ := f2 j h1 h2 h3
    refine ⟨g1, ?_⟩
    rw [h _ _ (Nat.pos_of_ne_zero h3) g1]
    exact g2
theorem kh_a_m (M : eg_M) (U V W : Nat → Int64) (P F R : Nat → Int32) {i : Nat} (j : Nat) (h : i ≤ 8) : kh_a (kh_m M U V W P F R) i j = kh_a M i j := by
  unfold kh_a
  rw [kh_l, if_neg (by omega), if_neg (by omega), if_neg (by omega)]
  rfl
theorem kh_mm (M : eg_M) (U V W U' V' W' : Nat → Int64) (P F R P' F' R' : Nat → Int32) : kh_m (kh_m M U V W P F R) U' V' W' P' F' R' = kh_m M U' V' W' P' F' R' := by
  refine eg_ext2 rfl (fun q j => ?_) (fun q j => ?_) rfl
  · rw [kh_g, kh_g, kh_g]
    by_cases h1 : q = 71
    · rw [if_pos h1, if_pos h1]
    · rw [if_neg h1, if_neg h1, if_neg h1]
      by_cases h2 : q = 69
      · rw [if_pos h2, if_pos h2]
      · rw [if_neg h2, if_neg h2, if_neg h2]
        by_cases h3 : q = 68
        · rw [if_pos h3, if_pos h3]
        · rw [if_neg h3, if_neg h3, if_neg h3]
  · rw [kh_l, kh_l, kh_l]
    by_cases h1 : q = 70
    · rw [if_pos h1, if_pos h1]
    · rw [if_neg h1, if_neg h1, if_neg h1]
      by_cases h2 : q = 67
      · rw [if_pos h2, if_pos h2]
      · rw [if_neg h2, if_neg h2, if_neg h2]
        by_cases h3 : q = 66
        · rw [if_pos h3, if_pos h3]
        · rw [if_neg h3, if_neg h3, if_neg h3]
def k_X5_solve : eg_C := ([(0, .aload_n 0, 1), (1, .getfield 26, 3), (4, .lconst 0, 1), (5, .invokestatic 46, 3), (8, .aload_n 0, 1), (9, .getfield 30, 3), (12, .lconst 0, 1), (13, .invokestatic 46, 3), (16, .aload_n 0, 1), (17, .getfield 33, 3), (20, .iconst 0, 1), (21, .invokestatic 52, 3), (24, .iconst 1, 1), (25, .istore_n 2, 1), (26, .iload_n 2, 1), (27, .iload_n 1, 1), (28, .if_icmp .gt 14, 3), (31, .aload_n 0, 1), (32, .iload_n 2, 1), (33, .invokevirtual 55, 3), (36, .iinc 2 1, 3), (39, .goto (-13), 3), (42, .return_, 1)], [(26, 5, 3, false), (30, 5, 4, false), (33, 5, 5, false)], [], [(46 + 100000, 2, 0, 0, s_J7_fill_d0a16), (52 + 100000, 2, 0, 0, s_J7_fill_53178), (55, 1 + 1, 0, 0, s_X5_addRow)], [], 0, 0, 0)
theorem mk_X5_solve : ∀ q ∈ k_X5_solve.2.2.2.1, eg_mono q.2.2.2.2 := (fc (mo_J7_fill_d0a16) (fc (mo_J7_fill_53178) (fc (mo_X5_addRow) (fn))))
set_option maxRecDepth 100000 in
theorem st_X5_solve_0 {Qp : eg_P} {M : eg_M} (a : Int32)
  (l0 : eg_T wd k_X5_solve Qp 26 0 0 [some (.ref 55), some (.int a), some (.int (nI 1))] [] (eg_fi (eg_fL (eg_fL M 66 9 (lN 0)) 67 33 (lN 0)) 68 33 (nI 0))) :
  eg_T wd k_X5_solve Qp 0 0 0 [some (.ref 55), some (.int a), none] [] M := by
  refine eg_T_run mk_X5_solve (cut := [26, 36]) 26 ?_
  refine And.intro (show 9 < 2 ^ 31 by decide) ?_
  refine And.intro (show 33 < 2 ^ 31 by decide) ?_
  refine And.intro (show 33 < 2 ^ 31 by decide) ?_
  show eg_T wd k_X5_solve Qp 26 0 0 [some (.ref 55), some (.int a), some (.int (nI 1))] [] (eg_fi (eg_fL (eg_fL M 66 9 (lN 0)) 67 33 (lN 0)) 68 33 (nI 0))
  exact l0

set_option maxRecDepth 100000 in
theorem st_X5_solve_26 {Qp : eg_P} {M : eg_M} (a : Int32) (x2 : Int32)
  (g0 : (¬ (a < x2)) → (∃ k n, k < n ∧ n ≤ 32 ∧ k < 8 ∧ x2 = nI (k + 1) ∧ eg_gi M 55 2 = nI n ∧ h_A n (k + 1) (kh_a M) ∧ (∀ c, 1 ≤ c → c ≤ n → vp_in (eg_gi M 65 c) 7) ∧ kh_P M n k (eg_gl M 66) (eg_gl M 67) (eg_gi M 68)))
  (l0 : (a < x2) → Qp (.inl none) M)
  (l1 : (¬ a < x2) → ∀ (U_1 : Nat → Int64) (V_1 : Nat → Int64) (W_1 : Nat → Int64) (P_1 : Nat → Int32) (F_1 : Nat → Int32) (R_1 : Nat → Int32), (kh_P M (eg_gi M 55 2).toNatClampNeg x2.toNatClampNeg U_1 V_1 P_1) → eg_T wd k_X5_solve Qp 36 0 0 [some (.ref 55), some (.int a), some (.int x2)] [] (kh_m M U_1 V_1 W_1 P_1 F_1 R_1)) :
  eg_T wd k_X5_solve Qp 26 0 0 [some (.ref 55), some (.int a), some (.int x2)] [] M := by
  refine eg_T_run mk_X5_solve (cut := [26, 36]) 26 ?_
  refine And.intro (fun (c1 : a < x2) => ?_) (fun (c1 : ¬ a < x2) => ?_)
  · skip
    show Qp (.inl none) M
    exact l0 c1
  · skip
    refine And.intro (show (∃ k n, k < n ∧ n ≤ 32 ∧ k < 8 ∧ x2 = nI (k + 1) ∧ eg_gi M 55 2 = nI n ∧ h_A n (k + 1) (kh_a M) ∧ (∀ c, 1 ≤ c → c ≤ n → vp_in (eg_gi M 65 c) 7) ∧ kh_P M n k (eg_gl M 66) (eg_gl M 67) (eg_gi M 68)) from ?_) ?_
    · exact g0 c1
    intro U_1 V_1 W_1 P_1 F_1 R_1 ha_1
    show eg_T wd k_X5_solve Qp 36 0 0 [some (.ref 55), some (.int a), some (.int x2)] [] (kh_m M U_1 V_1 W_1 P_1 F_1 R_1)
    exact l1 c1 U_1 V_1 W_1 P_1 F_1 R_1 ha_1

set_option maxRecDepth 100000 in
theorem st_X5_solve_36 {Qp : eg_P} {M : eg_M} (a : Int32) (x2 : Int32)
  (l0 : eg_T wd k_X5_solve Qp 26 0 0 [some (.ref 55), some (.int a), some (.int (x2 + (nI 1)))] [] M) :
  eg_T wd k_X5_solve Qp 36 0 0 [some (.ref 55), some (.int a), some (.int x2)] [] M := by
  refine eg_T_run mk_X5_solve (cut := [26, 36]) 26 ?_
  show eg_T wd k_X5_solve Qp 26 0 0 [some (.ref 55), some (.int a), some (.int (x2 + (nI 1)))] [] M
  exact l0

def s_X5_solve : eg_S := fun argv M Qp => match argv with
  | [.ref 55, .int a] => (∃ k n, k ≤ n ∧ n ≤ 32 ∧ k ≤ 8 ∧ a = nI k ∧ eg_gi M 55 2 = nI n ∧ h_A n k (kh_a M) ∧ (∀ c, 1 ≤ c → c ≤ n → vp_in (eg_gi M 65 c) 7)) ∧ ∀ (U : Nat → Int64) (V : Nat → Int64) (W : Nat → Int64) (P : Nat → Int32) (F : Nat → Int32) (R : Nat → Int32), (kh_P M (eg_gi M 55 2).toNatClampNeg a.toNatClampNeg U V P) → Qp (.inl none) (kh_m M U V W P F R)
  | _ => False
theorem mo_X5_solve : eg_mono s_X5_solve := by
  intro argv M Q Q' h
  unfold s_X5_solve
  split
  · exact fun z => ⟨z.1, fun U V W P F R y => h _ _ (z.2 U V W P F R y)⟩
  · exact id
theorem sz_X5_solve : ∀ argv M Qp, s_X5_solve argv M Qp → (eg_ls0 argv).length ≤ 3 := by
  intro argv M Qp h
  unfold s_X5_solve at h
  split at h
  · exact Nat.le_of_ble_eq_true rfl
  · exact h.elim
theorem sr_X5_solve : ∀ argv M Qp, s_X5_solve argv M Qp → ∃ p0 As, argv = .ref p0 :: As ∧ eg_isO wd M p0 5 = true := by
  intro argv M Qp h
  unfold s_X5_solve at h
  split at h
  · exact ⟨_, _, rfl, rfl⟩
  · exact h.elim
set_option maxRecDepth 100000 in
set_option maxHeartbeats 1000000 in
theorem T_X5_solve {argv : List Value} {M : eg_M} {Qp : eg_P} (h : s_X5_solve argv M Qp) : eg_T wd k_X5_solve Qp 0 0 0 (eg_lsN 3 argv) [] M := by
  unfold s_X5_solve at h
  split at h
  · rename_i a
    obtain ⟨hp, hq⟩ := h
    obtain ⟨k, n, hk, hn, hk8, rfl, hN, hA, hKd⟩ := hp
    rw [hN, n_c (show n < 2 ^ 31 by omega), n_c (show k < 2 ^ 31 by omega)] at hq
    have lp : ∀ i (x : (Nat → Int64) × (Nat → Int64) × (Nat → Int64) × (Nat → Int32) × (Nat → Int32) × (Nat → Int32)), i ≤ k → kh_P M n i x.1 x.2.1 x.2.2.2.1 → eg_T wd k_X5_solve Qp 26 0 0 [some (.ref 55), some (.int (nI k)), some (.int (nI (i + 1)))] [] (kh_m M x.1 x.2.1 x.2.2.1 x.2.2.2.1 x.2.2.2.2.1 x.2.2.2.2.2) := by
      refine eg_for ?_
      intro i ⟨U, V, W, P, F, R⟩ hi hP kk
      dsimp only at hP ⊢
      have st := st_X5_solve_26 (Qp := Qp) (M := kh_m M U V W P F R) (nI k) (nI (i + 1))
      have r55 : eg_gi (kh_m M U V W P F R) 55 2 = nI n := hN
      rw [n_lt (by omega) (by omega), r55, n_c (show n < 2 ^ 31 by omega), n_c (show i + 1 < 2 ^ 31 by omega)] at st
      refine st (fun w => ⟨i, n, by omega, hn, by omega, rfl, rfl, ?_, hKd, ?_⟩) (fun w => ?_) (fun w U1 V1 W1 P1 F1 R1 h1 => ?_)
      · intro r j h1 h2 h3 h4
        rw [kh_a_m _ _ _ _ _ _ _ _ (by omega)]
        exact hA r j h1 (by omega) h3 h4
      · exact ⟨hP.1, h_I_of (fun r j h1 h2 => kh_a_m _ _ _ _ _ _ _ _ (by omega)) hP.2.1, hP.2.2⟩
      · have : i = k := by omega
        subst this
        exact hq U V W P F R hP
      · refine st_X5_solve_36 _ _ ?_
        rw [kh_mm, n_s]
        exact kk (U1, V1, W1, P1, F1, R1) (by omega) ⟨h1.1, h_I_of (fun r j q1 q2 => (kh_a_m _ _ _ _ _ _ _ _ (by omega)).symm) h1.2.1, h1.2.2⟩
    have st := st_X5_solve_0 (Qp := Qp) (M := M) (nI k)
    refine st ?_
    have l0 := lp 0 ((fun j => if j < 9 then lN 0 else eg_gl M 66 j), (fun j => if j < 33 then lN 0 else eg_gl M 67 j), eg_gl M 70, (fun j => if j < 33 then nI 0 else eg_gi M 68 j), eg_gi M 69, eg_gi M 71) (Nat.zero_le _) ?_
    · dsimp only at l0
      have e : kh_m M (fun j => if j < 9 then lN 0 else eg_gl M 66 j) (fun j => if j < 33 then lN 0 else eg_gl M 67 j) (eg_gl M 70) (fun j => if j < 33 then nI 0 else eg_gi M 68 j) (eg_gi M 69) (eg_gi M 71) = eg_fi (eg_fL (eg_fL M 66 9 (lN 0)) 67 33 (lN 0)) 68 33 (nI 0) := by
        have e1 : eg_fi (eg_fL (eg_fL M 66 9 (lN 0)) 67 33 (lN 0)) 68 33 (nI 0) = eg_ri (eg_rl (eg_rl M 66 (fun j => if j < 9 then lN 0 else eg_gl M 66 j)) 67 (fun j => if j < 33 then lN 0 else eg_gl M 67 j)) 68 (fun j => if j < 33 then nI 0 else eg_gi M 68 j) := rfl
        rw [e1]
        generalize (fun j => if j < 9 then lN 0 else eg_gl M 66 j) = U
        generalize (fun j => if j < 33 then lN 0 else eg_gl M 67 j) = V
        generalize (fun j => if j < 33 then nI 0 else eg_gi M 68 j) = P
        refine eg_ext2 rfl (fun q j => ?_) (fun q j => ?_) rfl
        · rw [kh_g, ri_g, rl_gi, rl_gi]
          by_cases h1 : q = 71
          · rw [if_pos h1, if_neg (by omega), h1]
          · rw [if_neg h1]
            by_cases h2 : q = 69
            · rw [if_pos h2, if_neg (by omega), h2]
            · rw [if_neg h2]
        · rw [kh_l, ri_gl, rl_g, rl_g]
          by_cases h1 : q = 70
          · rw [if_pos h1, if_neg (by omega), if_neg (by omega), h1]
          · rw [if_neg h1]
      rw [e] at l0
      exact l0
    · have z0 : (lN 0).toInt = 0 := by decide
      have v0 : ∀ j, j ≤ n → kh_i (fun j => if j < 33 then lN 0 else eg_gl M 67 j) j = 0 := fun j hj => by
        show (if j < 33 then lN 0 else eg_gl M 67 j).toInt = 0
        rw [if_pos (by omega)]
        exact z0
      have p0 : ∀ j, j ≤ n → kh_n (fun j => if j < 33 then nI 0 else eg_gi M 68 j) j = 0 := fun j hj => by
        show (if j < 33 then nI 0 else eg_gi M 68 j).toNatClampNeg = 0
        rw [if_pos (by omega)]
        rfl
      refine ⟨fun c h1 h2 => ⟨0, by omega, if_pos (by omega)⟩, ⟨⟨fun i j h1 h2 => by omega, fun j h1 h2 h3 => absurd (p0 j h2) h3, fun j h1 h2 => ⟨by rw [v0 j h2]; exact Int.le_refl _, fun _ => v0 j h2⟩, fun i j h1 h2 h3 h4 h5 h6 => absurd (p0 i h2) h6, fun i h1 h2 => by omega⟩, fun j h1 h2 => ?_, fun i h1 h2 => by omega⟩, fun i h1 h2 => if_pos (by omega)⟩
      rw [v0 j h2]
      omega
  · exact h.elim
theorem de_X5_solve : ∀ q ∈ k_X5_solve.1, decode cX5_solve q.1 = .ok q.2 := by decide +kernel
theorem me_X5_solve (g : gl_T) : MT g yX5_solve cX5_solve 3 none ⟨2, 0, 0, 49⟩ 0 0 s_X5_solve := by
  intro hl
  exact eg_met_of (k := k_X5_solve) (by decide) rfl ⟨Nat.le_refl _, Nat.le_refl _⟩ rfl sz_X5_solve de_X5_solve (fun meth hn => (fc (eg_FL_of wd_c5 (by decide) lf_RX5_26 (fun h => absurd h (by decide))) (fc (eg_FL_of wd_c5 (by decide) lf_RX5_30 (fun h => absurd h (by decide))) (fc (eg_FL_of wd_c5 (by decide) lf_RX5_33 (fun h => absurd h (by decide))) (fn))))) (fun A s H hE => (fn)) (fun p e s m args below meth c Q A ad0 N0 S0 hK hEx hA => (fc (mt_S hl S0 hK hEx hA (me_J7_fill_d0a16 g) lm_RX5_46 ls_J7_fill_d0a16 ln_RJ7 lc_J7_fill_d0a16 ⟨rfl, by decide, by decide, by decide +kernel⟩ ⟨rfl, rfl⟩ ⟨by decide, by decide⟩ (by decide)) (fc (mt_S hl S0 hK hEx hA (me_J7_fill_53178 g) lm_RX5_52 ls_J7_fill_53178 ln_RJ7 lc_J7_fill_53178 ⟨rfl, by decide, by decide, by decide +kernel⟩ ⟨rfl, rfl⟩ ⟨by decide, by decide⟩ (by decide)) (fc (mt_V hl S0 hK hEx hA (me_X5_addRow g) lm_RX5_55 li_X5_addRow lx_X5_addRow ln_RX5 lc_X5_addRow ⟨rfl, by decide, by decide, by decide +kernel⟩ ⟨rfl, rfl⟩ ⟨by decide, by decide⟩ (ci := 5) rfl rfl sr_X5_addRow (by decide)) (fn))))) (fun p e s m args below meth c Qc XC A ad0 N0 P S0 hK hEx hA hlk hout hPX => (fn)) (fun argv M Qp h => T_X5_solve h)

theorem kc_m_10 (M : eg_M) (D K : Nat → Int32) (a b x : Int32) : kc_m (eg_si M 72 10 x) D K a b = kc_m M D K a b := by
  refine eg_ext rfl (fun q j => ?_) rfl
  rw [kc_m_g, kc_m_g, si_g]
  by_cases h1 : q = 72 ∧ j = 10
  · rw [if_pos h1, if_pos h1]
  · rw [if_neg h1, if_neg h1, if_neg h1]
def k_X6_findCalendar : eg_C := ([(0, .iconst 0, 1), (1, .istore_n 1, 1), (2, .iload_n 1, 1), (3, .aload_n 0, 1), (4, .getfield 9, 3), (7, .if_icmp .ge 52, 3), (10, .iconst 0, 1), (11, .istore_n 2, 1), (12, .iload_n 2, 1), (13, .aload_n 0, 1), (14, .getfield 22, 3), (17, .iload_n 1, 1), (18, .iaload, 1), (19, .if_icmp .ge 34, 3), (22, .aload_n 0, 1), (23, .getfield 37, 3), (26, .iload_n 1, 1), (27, .iconst 4, 1), (28, .imul, 1), (29, .iload_n 2, 1), (30, .iadd, 1), (31, .aload_n 0, 1), (32, .iload_n 1, 1), (33, .aload_n 0, 1), (34, .getfield 25, 3), (37, .iload_n 1, 1), (38, .iconst 4, 1), (39, .imul, 1), (40, .iload_n 2, 1), (41, .iadd, 1), (42, .iaload, 1), (43, .invokevirtual 52, 3), (46, .iastore, 1), (47, .iinc 2 1, 3), (50, .goto (-38), 3), (53, .iinc 1 1, 3), (56, .goto (-54), 3), (59, .aload_n 0, 1), (60, .aload_n 0, 1), (61, .getfield 9, 3), (64, .putfield 28, 3), (67, .aload_n 0, 1), (68, .iconst (-1), 1), (69, .putfield 43, 3), (72, .aload_n 0, 1), (73, .iconst 0, 1), (74, .iconst 0, 1), (75, .iconst 0, 1), (76, .iconst 0, 1), (77, .invokevirtual 56, 3), (80, .aload_n 0, 1), (81, .getfield 43, 3), (84, .ireturn, 1)], [(9, 6, 0, false), (22, 6, 3, false), (25, 6, 4, false), (28, 6, 5, true), (37, 6, 8, false), (43, 6, 10, true)], [], [(52, 2 + 1, 0, 0, s_X6_clashesAhead), (56, 4 + 1, 0, 0, s_X6_search)], [], 1, 0, 0)
theorem mk_X6_findCalendar : ∀ q ∈ k_X6_findCalendar.2.2.2.1, eg_mono q.2.2.2.2 := (fc (mo_X6_clashesAhead) (fc (mo_X6_search) (fn)))
set_option maxRecDepth 100000 in
theorem st_X6_findCalendar_0 {Qp : eg_P} {M : eg_M} 
  (l0 : eg_T wd k_X6_findCalendar Qp 2 0 0 [some (.ref 72), some (.int (nI 0)), none] [] M) :
  eg_T wd k_X6_findCalendar Qp 0 0 0 [some (.ref 72), none, none] [] M := by
  refine eg_T_run mk_X6_findCalendar (cut := [2, 12, 46, 80]) 56 ?_
  show eg_T wd k_X6_findCalendar Qp 2 0 0 [some (.ref 72), some (.int (nI 0)), none] [] M
  exact l0

set_option maxRecDepth 100000 in
theorem st_X6_findCalendar_2 {Qp : eg_P} {M : eg_M} (x1 : Int32) (o2 : Option Value)
  (g0 : ((eg_gi M 72 0) ≤ x1) → (0 < 7 ∧ k_sp (eg_si (eg_si M 72 5 (eg_gi M 72 0)) 72 10 (-nI 1)) ∧ eg_cn (nI 0) (eg_gi (eg_si (eg_si M 72 5 (eg_gi M 72 0)) 72 10 (-nI 1)) 72 0).toNatClampNeg ∧ (eg_gi (eg_si (eg_si M 72 5 (eg_gi M 72 0)) 72 10 (-nI 1)) 72 0).toNatClampNeg < (nI 0).toNatClampNeg + 7 ∧ eg_cn (nI 0) (nI 0).toNatClampNeg ∧ eg_cn (nI 0) (3599 * (nI 0).toNatClampNeg) ∧ (eg_gi (eg_si (eg_si M 72 5 (eg_gi M 72 0)) 72 10 (-nI 1)) 72 10 = -nI 1 ∨ eg_cn (eg_gi (eg_si (eg_si M 72 5 (eg_gi M 72 0)) 72 10 (-nI 1)) 72 10) 6)))
  (l0 : ((eg_gi M 72 0) ≤ x1) → ∀ (D_1 : Nat → Int32) (K_1 : Nat → Int32) (b1_1 : Int32) (b2_1 : Int32), ((b1_1, b2_1, (List.range (eg_gi (eg_si (eg_si M 72 5 (eg_gi M 72 0)) 72 10 (-nI 1)) 72 0).toNatClampNeg).map K_1) = (k_rf (eg_si (eg_si M 72 5 (eg_gi M 72 0)) 72 10 (-nI 1)) 7 (nI 0).toNatClampNeg (nI 0) (nI 0).toNatClampNeg (nI 0).toNatClampNeg ((List.range (nI 0).toNatClampNeg).map (eg_gi (eg_si (eg_si M 72 5 (eg_gi M 72 0)) 72 10 (-nI 1)) 79))).foldl k_bu (eg_gi (eg_si (eg_si M 72 5 (eg_gi M 72 0)) 72 10 (-nI 1)) 72 10, eg_gi (eg_si (eg_si M 72 5 (eg_gi M 72 0)) 72 10 (-nI 1)) 72 6, (List.range (eg_gi (eg_si (eg_si M 72 5 (eg_gi M 72 0)) 72 10 (-nI 1)) 72 0).toNatClampNeg).map (eg_gi (eg_si (eg_si M 72 5 (eg_gi M 72 0)) 72 10 (-nI 1)) 77)) ∧ ∀ j, j < (nI 0).toNatClampNeg → D_1 j = eg_gi (eg_si (eg_si M 72 5 (eg_gi M 72 0)) 72 10 (-nI 1)) 79 j) → eg_T wd k_X6_findCalendar Qp 80 0 0 [some (.ref 72), some (.int x1), o2] [] (kc_m (eg_si (eg_si M 72 5 (eg_gi M 72 0)) 72 10 (-nI 1)) D_1 K_1 b1_1 b2_1))
  (l1 : (¬ (eg_gi M 72 0) ≤ x1) → eg_T wd k_X6_findCalendar Qp 12 0 0 [some (.ref 72), some (.int x1), some (.int (nI 0))] [] M) :
  eg_T wd k_X6_findCalendar Qp 2 0 0 [some (.ref 72), some (.int x1), o2] [] M := by
  refine eg_T_run mk_X6_findCalendar (cut := [2, 12, 46, 80]) 56 ?_
  refine And.intro (fun (c1 : (eg_gi M 72 0) ≤ x1) => ?_) (fun (c1 : ¬ (eg_gi M 72 0) ≤ x1) => ?_)
  · skip
    refine And.intro (show (0 < 7 ∧ k_sp (eg_si (eg_si M 72 5 (eg_gi M 72 0)) 72 10 (-nI 1)) ∧ eg_cn (nI 0) (eg_gi (eg_si (eg_si M 72 5 (eg_gi M 72 0)) 72 10 (-nI 1)) 72 0).toNatClampNeg ∧ (eg_gi (eg_si (eg_si M 72 5 (eg_gi M 72 0)) 72 10 (-nI 1)) 72 0).toNatClampNeg < (nI 0).toNatClampNeg + 7 ∧ eg_cn (nI 0) (nI 0).toNatClampNeg ∧ eg_cn (nI 0) (3599 * (nI 0).toNatClampNeg) ∧ (eg_gi (eg_si (eg_si M 72 5 (eg_gi M 72 0)) 72 10 (-nI 1)) 72 10 = -nI 1 ∨ eg_cn (eg_gi (eg_si (eg_si M 72 5 (eg_gi M 72 0)) 72 10 (-nI 1)) 72 10) 6)) from ?_) ?_
    · exact g0 c1
    intro D_1 K_1 b1_1 b2_1 ha_1
    show eg_T wd k_X6_findCalendar Qp 80 0 0 [some (.ref 72), some (.int x1), o2] [] (kc_m (eg_si (eg_si M 72 5 (eg_gi M 72 0)) 72 10 (-nI 1)) D_1 K_1 b1_1 b2_1)
    exact l0 c1 D_1 K_1 b1_1 b2_1 ha_1
  · skip
    show eg_T wd k_X6_findCalendar Qp 12 0 0 [some (.ref 72), some (.int x1), some (.int (nI 0))] [] M
    exact l1 c1

set_option maxRecDepth 100000 in
theorem st_X6_findCalendar_12 {Qp : eg_P} {M : eg_M} (x1 : Int32) (x2 : Int32)
  (g0 : (vp_in x1 6))
  (g1 : (¬ ((eg_gi M 75 x1.toNatClampNeg) ≤ x2)) → (vp_in ((x1 * (nI 4)) + x2) 24))
  (g2 : (¬ ((eg_gi M 75 x1.toNatClampNeg) ≤ x2)) → (∃ k, k < 6 ∧ x1 = nI k ∧ ∀ p, p < k → eg_cn (eg_gi M 75 p) 4))
  (l0 : ((eg_gi M 75 x1.toNatClampNeg) ≤ x2) → eg_T wd k_X6_findCalendar Qp 2 0 0 [some (.ref 72), some (.int (x1 + (nI 1))), some (.int x2)] [] M)
  (l1 : (¬ (eg_gi M 75 x1.toNatClampNeg) ≤ x2) → ∀ (r_1 : Int32), (k_cb M x1.toNatClampNeg (eg_gi M 76 ((x1 * (nI 4)) + x2).toNatClampNeg) r_1 (fun p d => p < x1.toNatClampNeg ∧ d < (eg_gi M 75 p).toNatClampNeg)) → eg_T wd k_X6_findCalendar Qp 46 0 0 [some (.ref 72), some (.int x1), some (.int x2)] [.int r_1, .int ((x1 * (nI 4)) + x2), .ref 78] M) :
  eg_T wd k_X6_findCalendar Qp 12 0 0 [some (.ref 72), some (.int x1), some (.int x2)] [] M := by
  refine eg_T_run mk_X6_findCalendar (cut := [2, 12, 46, 80]) 56 ?_
  refine And.intro (show vp_in x1 6 from ?_) ?_
  · exact g0
  refine And.intro (fun (c1 : (eg_gi M 75 x1.toNatClampNeg) ≤ x2) => ?_) (fun (c1 : ¬ (eg_gi M 75 x1.toNatClampNeg) ≤ x2) => ?_)
  · skip
    show eg_T wd k_X6_findCalendar Qp 2 0 0 [some (.ref 72), some (.int (x1 + (nI 1))), some (.int x2)] [] M
    exact l0 c1
  · skip
    refine And.intro (show vp_in ((x1 * (nI 4)) + x2) 24 from ?_) ?_
    · exact g1 c1
    refine And.intro (show (∃ k, k < 6 ∧ x1 = nI k ∧ ∀ p, p < k → eg_cn (eg_gi M 75 p) 4) from ?_) ?_
    · exact g2 c1
    intro r_1 ha_1
    show eg_T wd k_X6_findCalendar Qp 46 0 0 [some (.ref 72), some (.int x1), some (.int x2)] [.int r_1, .int ((x1 * (nI 4)) + x2), .ref 78] M
    exact l1 c1 r_1 ha_1

set_option maxRecDepth 100000 in
theorem st_X6_findCalendar_46 {Qp : eg_P} {M : eg_M} (x1 : Int32) (x2 : Int32) (s0 : Int32) (s1 : Int32)
  (g0 : (vp_in s1 24))
  (l0 : eg_T wd k_X6_findCalendar Qp 12 0 0 [some (.ref 72), some (.int x1), some (.int (x2 + (nI 1)))] [] (eg_si M 78 s1.toNatClampNeg s0)) :
  eg_T wd k_X6_findCalendar Qp 46 0 0 [some (.ref 72), some (.int x1), some (.int x2)] [.int s0, .int s1, .ref 78] M := by
  refine eg_T_run mk_X6_findCalendar (cut := [2, 12, 46, 80]) 56 ?_
  refine And.intro (show vp_in s1 24 from ?_) ?_
  · exact g0
  show eg_T wd k_X6_findCalendar Qp 12 0 0 [some (.ref 72), some (.int x1), some (.int (x2 + (nI 1)))] [] (eg_si M 78 s1.toNatClampNeg s0)
  exact l0

set_option maxRecDepth 100000 in
theorem st_X6_findCalendar_80 {Qp : eg_P} {M : eg_M} (o1 : Option Value) (o2 : Option Value)
  (l0 : Qp (.inl (some (.int (eg_gi M 72 10)))) M) :
  eg_T wd k_X6_findCalendar Qp 80 0 0 [some (.ref 72), o1, o2] [] M := by
  refine eg_T_run mk_X6_findCalendar (cut := [2, 12, 46, 80]) 56 ?_
  refine And.intro (fun z => absurd z (by decide)) ?_
  show Qp (.inl (some (.int (eg_gi M 72 10)))) M
  exact l0

def s_X6_findCalendar : eg_S := fun argv M Qp => match argv with
  | [.ref 72] => (k_sp M) ∧ ∀ (C : Nat → Int32) (D : Nat → Int32) (K : Nat → Int32) (b1 : Int32) (b2 : Int32), ((∀ p, p < (eg_gi M 72 0).toNatClampNeg → ∀ d, d < (eg_gi M 75 p).toNatClampNeg → k_cb M p (eg_gi M 76 (p * 4 + d)) (C (p * 4 + d)) (fun p' d' => p' < p ∧ d' < (eg_gi M 75 p').toNatClampNeg)) ∧ (b1, b2, (List.range (eg_gi M 72 0).toNatClampNeg).map K) = (k_rf (eg_ri M 78 C) 7 0 (nI 0) 0 0 []).foldl k_bu (-nI 1, eg_gi M 72 6, (List.range (eg_gi M 72 0).toNatClampNeg).map (eg_gi M 77))) → Qp (.inl (some (.int (b1)))) (kc_m (eg_si (eg_ri M 78 C) 72 5 (eg_gi M 72 0)) D K b1 b2)
  | _ => False
theorem mo_X6_findCalendar : eg_mono s_X6_findCalendar := by
  intro argv M Q Q' h
  unfold s_X6_findCalendar
  split
  · exact fun z => ⟨z.1, fun C D K b1 b2 y => h _ _ (z.2 C D K b1 b2 y)⟩
  · exact id
theorem sz_X6_findCalendar : ∀ argv M Qp, s_X6_findCalendar argv M Qp → (eg_ls0 argv).length ≤ 3 := by
  intro argv M Qp h
  unfold s_X6_findCalendar at h
  split at h
  · exact Nat.le_of_ble_eq_true rfl
  · exact h.elim
theorem sr_X6_findCalendar : ∀ argv M Qp, s_X6_findCalendar argv M Qp → ∃ p0 As, argv = .ref p0 :: As ∧ eg_isO wd M p0 6 = true := by
  intro argv M Qp h
  unfold s_X6_findCalendar at h
  split at h
  · exact ⟨_, _, rfl, rfl⟩
  · exact h.elim
set_option maxRecDepth 100000 in
set_option maxHeartbeats 1000000 in
theorem T_X6_findCalendar {argv : List Value} {M : eg_M} {Qp : eg_P} (h : s_X6_findCalendar argv M Qp) : eg_T wd k_X6_findCalendar Qp 0 0 0 (eg_lsN 3 argv) [] M := by
  unfold s_X6_findCalendar at h
  split at h
  · obtain ⟨hp, hq⟩ := h
    have hsp := hp
    obtain ⟨⟨N, hN, eN⟩, hpl⟩ := hp
    rw [eN, n_c (show N < 2 ^ 31 by omega)] at hpl hq
    have lp : ∀ i (x : (Nat → Int32) × Option Value), i ≤ N → (∀ p, p < i → ∀ d, d < (eg_gi M 75 p).toNatClampNeg → k_cb M p (eg_gi M 76 (p * 4 + d)) (x.1 (p * 4 + d)) (fun p' d' => p' < p ∧ d' < (eg_gi M 75 p').toNatClampNeg)) → eg_T wd k_X6_findCalendar Qp 2 0 0 [some (.ref 72), some (.int (nI i)), x.2] [] (eg_ri M 78 x.1) := by
      refine eg_for ?_
      intro i ⟨C, o⟩ hi hI kk
      dsimp only at hI ⊢
      have st := st_X6_findCalendar_2 (Qp := Qp) (M := eg_ri M 78 C) (nI i) o
      have r0 : eg_gi (eg_ri M 78 C) 72 0 = nI N := eN
      have q0 : eg_gi (eg_si (eg_si (eg_ri M 78 C) 72 5 (nI N)) 72 10 (-nI 1)) 72 0 = nI N := eN
      have q10 : eg_gi (eg_si (eg_si (eg_ri M 78 C) 72 5 (nI N)) 72 10 (-nI 1)) 72 10 = -nI 1 := rfl
      have q6 : eg_gi (eg_si (eg_si (eg_ri M 78 C) 72 5 (nI N)) 72 10 (-nI 1)) 72 6 = eg_gi M 72 6 := rfl
      have q77 : eg_gi (eg_si (eg_si (eg_ri M 78 C) 72 5 (nI N)) 72 10 (-nI 1)) 77 = eg_gi M 77 := rfl
      have qs : k_sp (eg_si (eg_si (eg_ri M 78 C) 72 5 (nI N)) 72 10 (-nI 1)) := hsp
      have qr : ∀ d p t n s L, k_rf (eg_si (eg_si (eg_ri M 78 C) 72 5 (nI N)) 72 10 (-nI 1)) d p t n s L = k_rf (eg_ri M 78 C) d p t n s L := k_rf_of rfl (fun _ => rfl) (fun _ => rfl) (fun _ => rfl)
      have c0 : (nI 0).toNatClampNeg = 0 := rfl
      rw [r0, n_le (by omega) (by omega)] at st
      simp only [q0, q10, q6, q77, qr, c0, kc_m_10, n_c (show N < 2 ^ 31 by omega), List.range_zero, List.map_nil] at st
      refine st (fun w => ⟨by decide, qs, ⟨0, Nat.zero_le _, rfl⟩, by omega, ⟨0, Nat.le_refl _, rfl⟩, ⟨0, Nat.le_refl _, rfl⟩, Or.inl trivial⟩) (fun w D K b1 b2 hc => ?_) (fun w => ?_)
      · have : i = N := by omega
        subst this
        refine st_X6_findCalendar_80 _ _ ?_
        exact hq C D K b1 b2 ⟨hI, hc.1⟩
      · obtain ⟨⟨m, hm, em⟩, hda⟩ := hpl i (by omega)
        have li : ∀ j (x : Nat → Int32), j ≤ m → (∀ p d, (p < i ∨ (p = i ∧ d < j)) → d < (eg_gi M 75 p).toNatClampNeg → k_cb M p (eg_gi M 76 (p * 4 + d)) (x (p * 4 + d)) (fun p' d' => p' < p ∧ d' < (eg_gi M 75 p').toNatClampNeg)) → eg_T wd k_X6_findCalendar Qp 12 0 0 [some (.ref 72), some (.int (nI i)), some (.int (nI j))] [] (eg_ri M 78 x) := by
          refine eg_for ?_
          intro j C hj hJ kj
          have s2 := st_X6_findCalendar_12 (Qp := Qp) (M := eg_ri M 78 C) (nI i) (nI j)
          have r75 : eg_gi (eg_ri M 78 C) 75 i = nI m := em
          have r76 : ∀ j, eg_gi (eg_ri M 78 C) 76 j = eg_gi M 76 j := fun _ => rfl
          rw [n_m, n_s, n_c (show i < 2 ^ 31 by omega), n_c (show i * 4 + j < 2 ^ 31 by omega), r75, r76, n_le (by omega) (by omega), n_in (by omega) (by decide), n_in (by omega) (by decide), n_s] at s2
          refine s2 (by omega) (fun w2 => by omega) (fun w2 => ⟨i, by omega, rfl, fun p hp => (hpl p (by omega)).1⟩) (fun w2 => ?_) (fun w2 r hr => ?_)
          · have : j = m := by omega
            subst this
            exact kk (C, some (.int (nI j))) (by omega) (fun p hp d hd => hJ p d (by
              by_cases e : p = i
              · refine Or.inr ⟨e, ?_⟩
                rw [e, em, n_c (by omega)] at hd
                exact hd
              · exact Or.inl (by omega)) hd)
          · have s3 := st_X6_findCalendar_46 (Qp := Qp) (M := eg_ri M 78 C) (nI i) (nI j) r (nI (i * 4 + j)) ((n_in (by omega) (by decide)).mpr (by omega))
            rw [n_c (show i * 4 + j < 2 ^ 31 by omega), si_ri, n_s] at s3
            refine s3 (kj _ (by omega) (fun p d hpd hd => ?_))
            by_cases e : p = i ∧ d = j
            · rw [e.1, e.2, if_pos rfl]
              exact hr
            · have hd4 : d < 4 := by
                obtain ⟨k, hk, ek⟩ := (hpl p (by omega)).1
                rw [ek, n_c (by omega)] at hd
                omega
              rw [if_neg (by omega)]
              exact hJ p d (by omega) hd
        refine li 0 C (Nat.zero_le _) (fun p d hpd hd => hI p (by omega) d hd)
    have l0 := lp 0 (eg_gi M 78, none) (Nat.zero_le _) (fun p hp => absurd hp (Nat.not_lt_zero _))
    dsimp only at l0
    rw [ri_id] at l0
    exact st_X6_findCalendar_0 l0
    
  · exact h.elim
theorem de_X6_findCalendar : ∀ q ∈ k_X6_findCalendar.1, decode cX6_findCalendar q.1 = .ok q.2 := by decide +kernel
theorem me_X6_findCalendar (g : gl_T) : MT g yX6_findCalendar cX6_findCalendar 3 (some .int) ⟨9, 0, 0, 246⟩ 0 0 s_X6_findCalendar := by
  intro hl
  exact eg_met_of (k := k_X6_findCalendar) (by decide) rfl ⟨Nat.le_refl _, Nat.le_refl _⟩ rfl sz_X6_findCalendar de_X6_findCalendar (fun meth hn => (fc (eg_FL_of wd_c6 (by decide) lf_RX6_9 (fun h => absurd h (by decide))) (fc (eg_FL_of wd_c6 (by decide) lf_RX6_22 (fun h => absurd h (by decide))) (fc (eg_FL_of wd_c6 (by decide) lf_RX6_25 (fun h => absurd h (by decide))) (fc (eg_FL_of wd_c6 (by decide) lf_RX6_28 (fun _ => Or.inl rfl)) (fc (eg_FL_of wd_c6 (by decide) lf_RX6_37 (fun h => absurd h (by decide))) (fc (eg_FL_of wd_c6 (by decide) lf_RX6_43 (fun _ => Or.inl rfl)) (fn)))))))) (fun A s H hE => (fn)) (fun p e s m args below meth c Q A ad0 N0 S0 hK hEx hA => (fc (mt_V hl S0 hK hEx hA (me_X6_clashesAhead g) lm_RX6_52 li_X6_clashesAhead lx_X6_clashesAhead ln_RX6 lc_X6_clashesAhead ⟨rfl, by decide, by decide, by decide +kernel⟩ ⟨rfl, rfl⟩ ⟨by decide, by decide⟩ (ci := 6) rfl rfl sr_X6_clashesAhead (by decide)) (fc (mt_V hl S0 hK hEx hA (me_X6_search g) lm_RX6_56 li_X6_search lx_X6_search ln_RX6 lc_X6_search ⟨rfl, by decide, by decide, by decide +kernel⟩ ⟨rfl, rfl⟩ ⟨by decide, by decide⟩ (ci := 6) rfl rfl sr_X6_search (by decide)) (fn)))) (fun p e s m args below meth c Qc XC A ad0 N0 P S0 hK hEx hA hlk hout hPX => (fn)) (fun argv M Qp h => T_X6_findCalendar h)

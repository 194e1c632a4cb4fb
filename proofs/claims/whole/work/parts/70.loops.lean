def k_X4_findBest : eg_C := ([(0, .aload_n 0, 1), (1, .invokevirtual 72, 3), (4, .aload_n 0, 1), (5, .invokevirtual 75, 3), (8, .aload_n 0, 1), (9, .getfield 53, 3), (12, .aload_n 0, 1), (13, .getfield 29, 3), (16, .invokevirtual 78, 3), (19, .aload_n 0, 1), (20, .aload_n 0, 1), (21, .getfield 29, 3), (24, .putfield 41, 3), (27, .aload_n 0, 1), (28, .iconst 0, 1), (29, .putfield 44, 3), (32, .iconst 0, 1), (33, .istore_n 1, 1), (34, .iconst 0, 1), (35, .istore_n 2, 1), (36, .iload_n 2, 1), (37, .aload_n 0, 1), (38, .getfield 29, 3), (41, .if_icmp .ge 59, 3), (44, .aload_n 0, 1), (45, .getfield 53, 3), (48, .iload_n 2, 1), (49, .invokevirtual 82, 3), (52, .istore_n 3, 1), (53, .aload_n 0, 1), (54, .getfield 47, 3), (57, .iload_n 2, 1), (58, .iload_n 3, 1), (59, .bipush 6, 2), (61, .if_icmp .ne 7, 3), (64, .iconst (-1), 1), (65, .goto 4, 3), (68, .iload_n 3, 1), (69, .iastore, 1), (70, .iload_n 3, 1), (71, .bipush 6, 2), (73, .if_icmp .eq 21, 3), (76, .aload_n 0, 1), (77, .dup, 1), (78, .getfield 44, 3), (81, .aload_n 0, 1), (82, .iload_n 2, 1), (83, .iload_n 3, 1), (84, .invokevirtual 85, 3), (87, .iadd, 1), (88, .putfield 44, 3), (91, .iinc 1 1, 3), (94, .iinc 2 1, 3), (97, .goto (-61), 3), (100, .iload_n 1, 1), (101, .ireturn, 1)], [(29, 4, 5, false), (41, 4, 9, true), (44, 4, 10, true), (47, 4, 11, false), (53, 4, 12, false)], [], [(72, 0 + 1, 0, 0, s_X4_setCosts), (75, 0 + 1, 0, 0, s_X4_setColumns), (78, 1 + 1, 0, 0, s_X5_solve), (82, 1 + 1, 0, 0, s_X5_kindGivenTo), (85, 2 + 1, 0, 0, s_X4_likingOf_v)], [], 1, 0, 0)
theorem mk_X4_findBest : ∀ q ∈ k_X4_findBest.2.2.2.1, eg_mono q.2.2.2.2 := (fc (mo_X4_setCosts) (fc (mo_X4_setColumns) (fc (mo_X5_solve) (fc (mo_X5_kindGivenTo) (fc (mo_X4_likingOf_v) (fn))))))
set_option maxRecDepth 100000 in
theorem st_X4_findBest_0 {Qp : eg_P} {M : eg_M} 
  (g0 : (eg_cn (eg_gi M 46 0) 6 ∧ eg_cn (eg_gi M 46 5) 8))
  (l0 : ∀ (F_1 : Nat → Nat → Int64), ((∀ g, g < (eg_gi M 46 5).toNatClampNeg → F_1 (56 + 1 + g) 6 = lN 6 * lN (7 ^ ((eg_gi M 46 5).toNatClampNeg - (g + 1))) ∧ ∀ h, h < (eg_gi M 46 0).toNatClampNeg → F_1 (56 + 1 + g) h = k_cs M (lN (7 ^ ((eg_gi M 46 5).toNatClampNeg - (g + 1)))) g h) ∧ ∀ p j, (p < 57 ∨ 64 < p) → F_1 p j = eg_gl M p j) → eg_T wd k_X4_findBest Qp 4 0 0 [some (.ref 46), none, none, none] [] (eg_aL M F_1)) :
  eg_T wd k_X4_findBest Qp 0 0 0 [some (.ref 46), none, none, none] [] M := by
  refine eg_T_run mk_X4_findBest (cut := [4, 8, 19, 36]) 59 ?_
  refine And.intro (show (eg_cn (eg_gi M 46 0) 6 ∧ eg_cn (eg_gi M 46 5) 8) from ?_) ?_
  · exact g0
  intro F_1 ha_1
  show eg_T wd k_X4_findBest Qp 4 0 0 [some (.ref 46), none, none, none] [] (eg_aL M F_1)
  exact l0 F_1 ha_1

set_option maxRecDepth 100000 in
theorem st_X4_findBest_4 {Qp : eg_P} {M : eg_M} (o1 : Option Value) (o2 : Option Value) (o3 : Option Value)
  (g0 : (eg_cn (eg_gi M 46 0) 6 ∧ eg_cn (eg_gi M 46 5) 8 ∧ ∀ h, h < (eg_gi M 46 0).toNatClampNeg → eg_cn (eg_gi M 47 h) 4))
  (l0 : ∀ (f_1 : Nat → Int32), ((∀ h j, h < (eg_gi M 46 0).toNatClampNeg → k_sb M h < j → j ≤ k_sb M (h + 1) → f_1 j = nI h) ∧ ∀ j, k_sb M (eg_gi M 46 0).toNatClampNeg < j → j ≤ k_sb M (eg_gi M 46 0).toNatClampNeg + (eg_gi M 46 5).toNatClampNeg → f_1 j = nI 6) → eg_T wd k_X4_findBest Qp 8 0 0 [some (.ref 46), o1, o2, o3] [] (eg_ri (eg_si M 55 2 (nI (k_sb M (eg_gi M 46 0).toNatClampNeg + (eg_gi M 46 5).toNatClampNeg))) 65 f_1)) :
  eg_T wd k_X4_findBest Qp 4 0 0 [some (.ref 46), o1, o2, o3] [] M := by
  refine eg_T_run mk_X4_findBest (cut := [4, 8, 19, 36]) 59 ?_
  refine And.intro (show (eg_cn (eg_gi M 46 0) 6 ∧ eg_cn (eg_gi M 46 5) 8 ∧ ∀ h, h < (eg_gi M 46 0).toNatClampNeg → eg_cn (eg_gi M 47 h) 4) from ?_) ?_
  · exact g0
  intro f_1 ha_1
  show eg_T wd k_X4_findBest Qp 8 0 0 [some (.ref 46), o1, o2, o3] [] (eg_ri (eg_si M 55 2 (nI (k_sb M (eg_gi M 46 0).toNatClampNeg + (eg_gi M 46 5).toNatClampNeg))) 65 f_1)
  exact l0 f_1 ha_1

set_option maxRecDepth 100000 in
theorem st_X4_findBest_8 {Qp : eg_P} {M : eg_M} (o1 : Option Value) (o2 : Option Value) (o3 : Option Value)
  (g0 : (∃ k n, k ≤ n ∧ n ≤ 32 ∧ k ≤ 8 ∧ (eg_gi M 46 5) = nI k ∧ eg_gi M 55 2 = nI n ∧ h_A n k (kh_a M) ∧ (∀ c, 1 ≤ c → c ≤ n → vp_in (eg_gi M 65 c) 7)))
  (l0 : ∀ (U_1 : Nat → Int64) (V_1 : Nat → Int64) (W_1 : Nat → Int64) (P_1 : Nat → Int32) (F_1 : Nat → Int32) (R_1 : Nat → Int32), (kh_P M (eg_gi M 55 2).toNatClampNeg (eg_gi M 46 5).toNatClampNeg U_1 V_1 P_1) → eg_T wd k_X4_findBest Qp 19 0 0 [some (.ref 46), o1, o2, o3] [] (kh_m M U_1 V_1 W_1 P_1 F_1 R_1)) :
  eg_T wd k_X4_findBest Qp 8 0 0 [some (.ref 46), o1, o2, o3] [] M := by
  refine eg_T_run mk_X4_findBest (cut := [4, 8, 19, 36]) 59 ?_
  refine And.intro (show (∃ k n, k ≤ n ∧ n ≤ 32 ∧ k ≤ 8 ∧ (eg_gi M 46 5) = nI k ∧ eg_gi M 55 2 = nI n ∧ h_A n k (kh_a M) ∧ (∀ c, 1 ≤ c → c ≤ n → vp_in (eg_gi M 65 c) 7)) from ?_) ?_
  · exact g0
  intro U_1 V_1 W_1 P_1 F_1 R_1 ha_1
  show eg_T wd k_X4_findBest Qp 19 0 0 [some (.ref 46), o1, o2, o3] [] (kh_m M U_1 V_1 W_1 P_1 F_1 R_1)
  exact l0 U_1 V_1 W_1 P_1 F_1 R_1 ha_1

set_option maxRecDepth 100000 in
theorem st_X4_findBest_19 {Qp : eg_P} {M : eg_M} (o1 : Option Value) (o2 : Option Value) (o3 : Option Value)
  (l0 : eg_T wd k_X4_findBest Qp 36 0 0 [some (.ref 46), some (.int (nI 0)), some (.int (nI 0)), o3] [] (eg_si (eg_si M 46 9 (eg_gi M 46 5)) 46 10 (nI 0))) :
  eg_T wd k_X4_findBest Qp 19 0 0 [some (.ref 46), o1, o2, o3] [] M := by
  refine eg_T_run mk_X4_findBest (cut := [4, 8, 19, 36]) 59 ?_
  show eg_T wd k_X4_findBest Qp 36 0 0 [some (.ref 46), some (.int (nI 0)), some (.int (nI 0)), o3] [] (eg_si (eg_si M 46 9 (eg_gi M 46 5)) 46 10 (nI 0))
  exact l0

set_option maxRecDepth 100000 in
theorem st_X4_findBest_36 {Qp : eg_P} {M : eg_M} (x1 : Int32) (x2 : Int32) (o3 : Option Value)
  (g0 : (¬ ((eg_gi M 46 5) ≤ x2)) → (eg_cn (eg_gi M 55 2) 32))
  (g1 : (¬ ((eg_gi M 46 5) ≤ x2)) → (vp_in x2 8))
  (g2 : (¬ ((eg_gi M 46 5) ≤ x2)) → (¬ ((k_kg M (x2 + nI 1) 1 (eg_gi M 55 2).toNatClampNeg) = (nI 6))) → (vp_in x2 8 ∧ vp_in (k_kg M (x2 + nI 1) 1 (eg_gi M 55 2).toNatClampNeg) 6))
  (l0 : ((eg_gi M 46 5) ≤ x2) → Qp (.inl (some (.int x1))) M)
  (l1 : (¬ (eg_gi M 46 5) ≤ x2 ∧ (k_kg M (x2 + nI 1) 1 (eg_gi M 55 2).toNatClampNeg) = (nI 6)) → eg_T wd k_X4_findBest Qp 36 0 0 [some (.ref 46), some (.int x1), some (.int (x2 + (nI 1))), some (.int (k_kg M (x2 + nI 1) 1 (eg_gi M 55 2).toNatClampNeg))] [] (eg_si M 54 x2.toNatClampNeg (-nI 1)))
  (l2 : (¬ (eg_gi M 46 5) ≤ x2 ∧ ¬ (k_kg M (x2 + nI 1) 1 (eg_gi M 55 2).toNatClampNeg) = (nI 6)) → eg_T wd k_X4_findBest Qp 36 0 0 [some (.ref 46), some (.int (x1 + (nI 1))), some (.int (x2 + (nI 1))), some (.int (k_kg M (x2 + nI 1) 1 (eg_gi M 55 2).toNatClampNeg))] [] (eg_si (eg_si M 54 x2.toNatClampNeg (k_kg M (x2 + nI 1) 1 (eg_gi M 55 2).toNatClampNeg)) 46 10 ((eg_gi M 46 10) + (k_lk (eg_si M 54 x2.toNatClampNeg (k_kg M (x2 + nI 1) 1 (eg_gi M 55 2).toNatClampNeg)) x2.toNatClampNeg (k_kg M (x2 + nI 1) 1 (eg_gi M 55 2).toNatClampNeg).toNatClampNeg)))) :
  eg_T wd k_X4_findBest Qp 36 0 0 [some (.ref 46), some (.int x1), some (.int x2), o3] [] M := by
  refine eg_T_run mk_X4_findBest (cut := [4, 8, 19, 36]) 59 ?_
  refine And.intro (fun (c1 : (eg_gi M 46 5) ≤ x2) => ?_) (fun (c1 : ¬ (eg_gi M 46 5) ≤ x2) => ?_)
  · skip
    refine And.intro (fun z => absurd z (by decide)) ?_
    show Qp (.inl (some (.int x1))) M
    exact l0 c1
  · skip
    refine And.intro (show (eg_cn (eg_gi M 55 2) 32) from ?_) ?_
    · exact g0 c1
    refine And.intro (fun (c2 : (k_kg M (x2 + nI 1) 1 (eg_gi M 55 2).toNatClampNeg) = (nI 6)) => ?_) (fun (c2 : ¬ (k_kg M (x2 + nI 1) 1 (eg_gi M 55 2).toNatClampNeg) = (nI 6)) => ?_)
    · skip
      refine And.intro (show vp_in x2 8 from ?_) ?_
      · exact g1 c1
      refine And.intro (fun (c3 : (k_kg M (x2 + nI 1) 1 (eg_gi M 55 2).toNatClampNeg) = (nI 6)) => ?_) (fun (c3 : ¬ (k_kg M (x2 + nI 1) 1 (eg_gi M 55 2).toNatClampNeg) = (nI 6)) => ?_)
      · clear c3
        show eg_T wd k_X4_findBest Qp 36 0 0 [some (.ref 46), some (.int x1), some (.int (x2 + (nI 1))), some (.int (k_kg M (x2 + nI 1) 1 (eg_gi M 55 2).toNatClampNeg))] [] (eg_si M 54 x2.toNatClampNeg (-nI 1))
        exact l1 ⟨c1, c2⟩
      · exact absurd c2 c3
    · skip
      refine And.intro (show vp_in x2 8 from ?_) ?_
      · exact g1 c1
      refine And.intro (fun (c4 : (k_kg M (x2 + nI 1) 1 (eg_gi M 55 2).toNatClampNeg) = (nI 6)) => ?_) (fun (c4 : ¬ (k_kg M (x2 + nI 1) 1 (eg_gi M 55 2).toNatClampNeg) = (nI 6)) => ?_)
      · exact absurd c4 c2
      · clear c4
        refine And.intro (show (vp_in x2 8 ∧ vp_in (k_kg M (x2 + nI 1) 1 (eg_gi M 55 2).toNatClampNeg) 6) from ?_) ?_
        · exact g2 c1 c2
        show eg_T wd k_X4_findBest Qp 36 0 0 [some (.ref 46), some (.int (x1 + (nI 1))), some (.int (x2 + (nI 1))), some (.int (k_kg M (x2 + nI 1) 1 (eg_gi M 55 2).toNatClampNeg))] [] (eg_si (eg_si M 54 x2.toNatClampNeg (k_kg M (x2 + nI 1) 1 (eg_gi M 55 2).toNatClampNeg)) 46 10 ((eg_gi M 46 10) + (k_lk (eg_si M 54 x2.toNatClampNeg (k_kg M (x2 + nI 1) 1 (eg_gi M 55 2).toNatClampNeg)) x2.toNatClampNeg (k_kg M (x2 + nI 1) 1 (eg_gi M 55 2).toNatClampNeg).toNatClampNeg)))
        exact l2 ⟨c1, c2⟩

def s_X4_findBest : eg_S := fun argv M Qp => match argv with
  | [.ref 46] => (True) ∧ ∀ (v : Int32), (True) → Qp (.inl (some (.int (v)))) M
  | _ => False
theorem mo_X4_findBest : eg_mono s_X4_findBest := by
  intro argv M Q Q' h
  unfold s_X4_findBest
  split
  · exact fun z => ⟨z.1, fun v y => h _ _ (z.2 v y)⟩
  · exact id
theorem sz_X4_findBest : ∀ argv M Qp, s_X4_findBest argv M Qp → (eg_ls0 argv).length ≤ 4 := by
  intro argv M Qp h
  unfold s_X4_findBest at h
  split at h
  · exact Nat.le_of_ble_eq_true rfl
  · exact h.elim
theorem sr_X4_findBest : ∀ argv M Qp, s_X4_findBest argv M Qp → ∃ p0 As, argv = .ref p0 :: As ∧ eg_isO wd M p0 4 = true := by
  intro argv M Qp h
  unfold s_X4_findBest at h
  split at h
  · exact ⟨_, _, rfl, rfl⟩
  · exact h.elim
set_option maxRecDepth 100000 in
set_option maxHeartbeats 1000000 in
theorem T_X4_findBest {argv : List Value} {M : eg_M} {Qp : eg_P} (h : s_X4_findBest argv M Qp) : eg_T wd k_X4_findBest Qp 0 0 0 (eg_lsN 4 argv) [] M := by
  unfold s_X4_findBest at h
  split at h
  · obtain ⟨hp, hq⟩ := h
    sorry
    
  · exact h.elim
theorem de_X4_findBest : ∀ q ∈ k_X4_findBest.1, decode cX4_findBest q.1 = .ok q.2 := by decide +kernel
theorem me_X4_findBest (g : gl_T) : MT g yX4_findBest cX4_findBest 4 (some .int) ⟨3, 0, 0, 72⟩ 0 0 s_X4_findBest := by
  intro hl
  exact eg_met_of (k := k_X4_findBest) (by decide) rfl ⟨Nat.le_refl _, Nat.le_refl _⟩ rfl sz_X4_findBest de_X4_findBest (fun meth hn => (fc (eg_FL_of wd_c4 (by decide) lf_RX4_29 (fun h => absurd h (by decide))) (fc (eg_FL_of wd_c4 (by decide) lf_RX4_41 (fun _ => Or.inl rfl)) (fc (eg_FL_of wd_c4 (by decide) lf_RX4_44 (fun _ => Or.inl rfl)) (fc (eg_FL_of wd_c4 (by decide) lf_RX4_47 (fun h => absurd h (by decide))) (fc (eg_FL_of wd_c4 (by decide) lf_RX4_53 (fun h => absurd h (by decide))) (fn))))))) (fun A s H hE => (fn)) (fun p e s m args below meth c Q A ad0 N0 S0 hK hEx hA => (fc (mt_V hl S0 hK hEx hA (me_X4_setCosts g) lm_RX4_72 li_X4_setCosts lx_X4_setCosts ln_RX4 lc_X4_setCosts ⟨rfl, by decide, by decide, by decide +kernel⟩ ⟨rfl, rfl⟩ ⟨by decide, by decide⟩ (ci := 4) rfl rfl sr_X4_setCosts (by decide)) (fc (mt_V hl S0 hK hEx hA (me_X4_setColumns g) lm_RX4_75 li_X4_setColumns lx_X4_setColumns ln_RX4 lc_X4_setColumns ⟨rfl, by decide, by decide, by decide +kernel⟩ ⟨rfl, rfl⟩ ⟨by decide, by decide⟩ (ci := 4) rfl rfl sr_X4_setColumns (by decide)) (fc (mt_V hl S0 hK hEx hA (me_X5_solve g) lm_RX4_78 li_X5_solve lx_X5_solve ln_RX5 lc_X5_solve ⟨rfl, by decide, by decide, by decide +kernel⟩ ⟨rfl, rfl⟩ ⟨by decide, by decide⟩ (ci := 5) rfl rfl sr_X5_solve (by decide)) (fc (mt_V hl S0 hK hEx hA (me_X5_kindGivenTo g) lm_RX4_82 li_X5_kindGivenTo lx_X5_kindGivenTo ln_RX5 lc_X5_kindGivenTo ⟨rfl, by decide, by decide, by decide +kernel⟩ ⟨rfl, rfl⟩ ⟨by decide, by decide⟩ (ci := 5) rfl rfl sr_X5_kindGivenTo (by decide)) (fc (mt_V hl S0 hK hEx hA (me_X4_likingOf_v g) lm_RX4_85 li_X4_likingOf lx_X4_likingOf ln_RX4 lc_X4_likingOf ⟨rfl, by decide, by decide, by decide +kernel⟩ ⟨rfl, rfl⟩ ⟨by decide, by decide⟩ (ci := 4) rfl rfl sr_X4_likingOf_v (by decide)) (fn))))))) (fun p e s m args below meth c Qc XC A ad0 N0 P S0 hK hEx hA hlk hout hPX => (fn)) (fun argv M Qp h => T_X4_findBest h)

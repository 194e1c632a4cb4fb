/-- the i-th day in a row of days -/
def dy (d : Int64) (i : Nat) : Int32 := ((d >>> ((nI (12 * i)).toInt64 &&& 63)) &&& lN 4095).toInt32
/-- the model takes the plan -/
def m_pk (M : eg_M) (b m : Int32) (d : Int64) : Prop := ¬ eg_gi M 121 65 = nI 6 ∧ (¬ b < nI 1 ∧ ¬ nI 30 < b) ∧ (¬ m < nI 1 ∧ ¬ nI 4 < m) ∧ ∀ i, i < m.toNatClampNeg → dy d i ≤ nI 3599
def k_X12_plan : eg_C := ([(0, .aload_n 0, 1), (1, .iconst 0, 1), (2, .putfield 213, 3), (5, .aload_n 0, 1), (6, .iload_n 1, 1), (7, .invokevirtual 238, 3), (10, .ifCond .ne 9, 3), (13, .aload_n 0, 1), (14, .iconst 1, 1), (15, .invokevirtual 230, 3), (18, .ireturn, 1), (19, .aload_n 0, 1), (20, .getfield 478, 3), (23, .bipush 6, 2), (25, .if_icmp .eq 22, 3), (28, .iload_n 2, 1), (29, .iconst 1, 1), (30, .bipush 30, 2), (32, .invokestatic 219, 3), (35, .ifCond .eq 12, 3), (38, .iload_n 3, 1), (39, .iconst 1, 1), (40, .iconst 4, 1), (41, .invokestatic 219, 3), (44, .ifCond .ne 5, 3), (47, .iconst (-1), 1), (48, .ireturn, 1), (49, .iconst 0, 1), (50, .istore 6, 2), (52, .iload 6, 2), (54, .iload_n 3, 1), (55, .if_icmp .ge 50, 3), (58, .lload 4, 2), (60, .bipush 12, 2), (62, .iload 6, 2), (64, .imul, 1), (65, .lshr, 1), (66, .ldc2_w 481, 3), (69, .land, 1), (70, .l2i, 1), (71, .istore 7, 2), (73, .iload 7, 2), (75, .sipush 3599, 3), (78, .if_icmp .le 5, 3), (81, .iconst (-1), 1), (82, .ireturn, 1), (83, .aload_n 0, 1), (84, .getfield 183, 3), (87, .iconst 4, 1), (88, .aload_n 0, 1), (89, .getfield 478, 3), (92, .imul, 1), (93, .iload 6, 2), (95, .iadd, 1), (96, .iload 7, 2), (98, .iastore, 1), (99, .iinc 6 1, 3), (102, .goto (-50), 3), (105, .aload_n 0, 1), (106, .getfield 174, 3), (109, .aload_n 0, 1), (110, .getfield 478, 3), (113, .iload_n 1, 1), (114, .iastore, 1), (115, .aload_n 0, 1), (116, .getfield 177, 3), (119, .aload_n 0, 1), (120, .getfield 478, 3), (123, .iload_n 2, 1), (124, .iastore, 1), (125, .aload_n 0, 1), (126, .getfield 180, 3), (129, .aload_n 0, 1), (130, .getfield 478, 3), (133, .iload_n 3, 1), (134, .iastore, 1), (135, .aload_n 0, 1), (136, .dup, 1), (137, .getfield 478, 3), (140, .iconst 1, 1), (141, .iadd, 1), (142, .putfield 478, 3), (145, .aload_n 0, 1), (146, .getfield 478, 3), (149, .iconst 1, 1), (150, .isub, 1), (151, .ireturn, 1)], [(174, 12, 68, false), (177, 12, 69, false), (180, 12, 70, false), (183, 12, 71, false), (213, 12, 1, true), (478, 12, 65, true)], [(481, .long (lN 4095))], [(219 + 100000, 3, 0, 0, s_X12_isIn), (230, 1 + 1, 0, 0, s_X12_fail), (238, 1 + 1, 0, 0, s_X12_isCharter)], [], 1, 0, 0)
theorem mk_X12_plan : ∀ q ∈ k_X12_plan.2.2.2.1, eg_mono q.2.2.2.2 := (fc (mo_X12_isIn) (fc (mo_X12_fail) (fc (mo_X12_isCharter) (fn))))
set_option maxRecDepth 100000 in
theorem st_X12_plan_0 {Qp : eg_P} {M : eg_M} (c : Int32) (b : Int32) (m : Int32) (d : Int64)
  (l0 : (¬ (¬ c < 0 ∧ ¬ (eg_gi (eg_si M 121 1 (nI 0)) 121 4) ≤ c)) → Qp (.inl (some (.int (nI 0)))) (eg_si (eg_si M 121 1 (nI 0)) 121 1 (nI 1)))
  (l1 : ((¬ c < 0 ∧ ¬ (eg_gi (eg_si M 121 1 (nI 0)) 121 4) ≤ c) ∧ ((eg_gi M 121 65) = (nI 6) ∨ ((¬ (¬ b < (nI 1) ∧ ¬ (nI 30) < b)) ∨ (¬ (¬ m < (nI 1) ∧ ¬ (nI 4) < m))))) → Qp (.inl (some (.int (-nI 1)))) (eg_si M 121 1 (nI 0)))
  (l2 : ((¬ c < 0 ∧ ¬ (eg_gi (eg_si M 121 1 (nI 0)) 121 4) ≤ c) ∧ (¬ (eg_gi M 121 65) = (nI 6) ∧ ((¬ b < (nI 1) ∧ ¬ (nI 30) < b) ∧ ((¬ m < (nI 1) ∧ ¬ (nI 4) < m))))) → eg_T wd k_X12_plan Qp 52 0 0 [some (.ref 121), some (.int c), some (.int b), some (.int m), some (.long d), none, some (.int (nI 0)), none] [] (eg_si M 121 1 (nI 0))) :
  eg_T wd k_X12_plan Qp 0 0 0 [some (.ref 121), some (.int c), some (.int b), some (.int m), some (.long d), none, none, none] [] M := by
  refine eg_T_run mk_X12_plan (cut := [52]) 90 ?_
  refine And.intro (show (True) from ?_) ?_
  · exact trivial
  refine And.intro (fun (c1 : (b2i (decide (¬ c < 0 ∧ ¬ (eg_gi (eg_si M 121 1 (nI 0)) 121 4) ≤ c))) = 0) => ?_) (fun (c1 : ¬ (b2i (decide (¬ c < 0 ∧ ¬ (eg_gi (eg_si M 121 1 (nI 0)) 121 4) ≤ c))) = 0) => ?_)
  · replace c1 := b2i_d0.mp c1
    refine And.intro (fun z => absurd z (by decide)) ?_
    refine And.intro (fun z => absurd z (by decide)) ?_
    show Qp (.inl (some (.int (nI 0)))) (eg_si (eg_si M 121 1 (nI 0)) 121 1 (nI 1))
    exact l0 c1
  · replace c1 := b2i_dn.mp c1
    refine And.intro (fun (c2 : (eg_gi M 121 65) = (nI 6)) => ?_) (fun (c2 : ¬ (eg_gi M 121 65) = (nI 6)) => ?_)
    · skip
      refine And.intro (fun z => absurd z (by decide)) ?_
      show Qp (.inl (some (.int (-nI 1)))) (eg_si M 121 1 (nI 0))
      exact l1 ⟨(Classical.byContradiction c1), (Or.inl c2)⟩
    · skip
      refine And.intro (show (True) from ?_) ?_
      · exact trivial
      refine And.intro (fun (c3 : (b2i (decide (¬ b < (nI 1) ∧ ¬ (nI 30) < b))) = 0) => ?_) (fun (c3 : ¬ (b2i (decide (¬ b < (nI 1) ∧ ¬ (nI 30) < b))) = 0) => ?_)
      · replace c3 := b2i_d0.mp c3
        refine And.intro (fun z => absurd z (by decide)) ?_
        show Qp (.inl (some (.int (-nI 1)))) (eg_si M 121 1 (nI 0))
        exact l1 ⟨(Classical.byContradiction c1), (Or.inr (Or.inl c3))⟩
      · replace c3 := b2i_dn.mp c3
        refine And.intro (show (True) from ?_) ?_
        · exact trivial
        refine And.intro (fun (c4 : (b2i (decide (¬ m < (nI 1) ∧ ¬ (nI 4) < m))) = 0) => ?_) (fun (c4 : ¬ (b2i (decide (¬ m < (nI 1) ∧ ¬ (nI 4) < m))) = 0) => ?_)
        · replace c4 := b2i_d0.mp c4
          refine And.intro (fun z => absurd z (by decide)) ?_
          show Qp (.inl (some (.int (-nI 1)))) (eg_si M 121 1 (nI 0))
          exact l1 ⟨(Classical.byContradiction c1), (Or.inr (Or.inr c4))⟩
        · replace c4 := b2i_dn.mp c4
          show eg_T wd k_X12_plan Qp 52 0 0 [some (.ref 121), some (.int c), some (.int b), some (.int m), some (.long d), none, some (.int (nI 0)), none] [] (eg_si M 121 1 (nI 0))
          exact l2 ⟨(Classical.byContradiction c1), ⟨c2, ⟨(Classical.byContradiction c3), (Classical.byContradiction c4)⟩⟩⟩

set_option maxRecDepth 100000 in
theorem st_X12_plan_52 {Qp : eg_P} {M : eg_M} (c : Int32) (b : Int32) (m : Int32) (d : Int64) (x6 : Int32) (o7 : Option Value)
  (g0 : (m ≤ x6) → (vp_in (eg_gi M 121 65) 6))
  (g1 : (¬ (m ≤ x6)) → ((((d >>> (((nI 12) * x6).toInt64 &&& 63)) &&& (lN 4095)).toInt32) ≤ (nI 3599)) → (vp_in (((nI 4) * (eg_gi M 121 65)) + x6) 24))
  (l0 : (m ≤ x6) → Qp (.inl (some (.int (((eg_gi M 121 65) + (nI 1)) - (nI 1))))) (eg_si (eg_si (eg_si (eg_si M 164 (eg_gi M 121 65).toNatClampNeg c) 165 (eg_gi M 121 65).toNatClampNeg b) 166 (eg_gi M 121 65).toNatClampNeg m) 121 65 ((eg_gi M 121 65) + (nI 1))))
  (l1 : (¬ m ≤ x6 ∧ (((d >>> (((nI 12) * x6).toInt64 &&& 63)) &&& (lN 4095)).toInt32) ≤ (nI 3599)) → eg_T wd k_X12_plan Qp 52 0 0 [some (.ref 121), some (.int c), some (.int b), some (.int m), some (.long d), none, some (.int (x6 + (nI 1))), some (.int (((d >>> (((nI 12) * x6).toInt64 &&& 63)) &&& (lN 4095)).toInt32))] [] (eg_si M 167 (((nI 4) * (eg_gi M 121 65)) + x6).toNatClampNeg (((d >>> (((nI 12) * x6).toInt64 &&& 63)) &&& (lN 4095)).toInt32)))
  (l2 : (¬ m ≤ x6 ∧ ¬ (((d >>> (((nI 12) * x6).toInt64 &&& 63)) &&& (lN 4095)).toInt32) ≤ (nI 3599)) → Qp (.inl (some (.int (-nI 1)))) M) :
  eg_T wd k_X12_plan Qp 52 0 0 [some (.ref 121), some (.int c), some (.int b), some (.int m), some (.long d), none, some (.int x6), o7] [] M := by
  refine eg_T_run mk_X12_plan (cut := [52]) 90 ?_
  refine And.intro (fun (c1 : m ≤ x6) => ?_) (fun (c1 : ¬ m ≤ x6) => ?_)
  · skip
    refine And.intro (show vp_in (eg_gi M 121 65) 6 from ?_) ?_
    · exact g0 c1
    refine And.intro (show vp_in (eg_gi M 121 65) 6 from ?_) ?_
    · exact g0 c1
    refine And.intro (show vp_in (eg_gi M 121 65) 6 from ?_) ?_
    · exact g0 c1
    refine And.intro (fun z => absurd z (by decide)) ?_
    show Qp (.inl (some (.int (((eg_gi M 121 65) + (nI 1)) - (nI 1))))) (eg_si (eg_si (eg_si (eg_si M 164 (eg_gi M 121 65).toNatClampNeg c) 165 (eg_gi M 121 65).toNatClampNeg b) 166 (eg_gi M 121 65).toNatClampNeg m) 121 65 ((eg_gi M 121 65) + (nI 1)))
    exact l0 c1
  · skip
    refine And.intro (fun (c2 : (((d >>> (((nI 12) * x6).toInt64 &&& 63)) &&& (lN 4095)).toInt32) ≤ (nI 3599)) => ?_) (fun (c2 : ¬ (((d >>> (((nI 12) * x6).toInt64 &&& 63)) &&& (lN 4095)).toInt32) ≤ (nI 3599)) => ?_)
    · skip
      refine And.intro (show vp_in (((nI 4) * (eg_gi M 121 65)) + x6) 24 from ?_) ?_
      · exact g1 c1 c2
      show eg_T wd k_X12_plan Qp 52 0 0 [some (.ref 121), some (.int c), some (.int b), some (.int m), some (.long d), none, some (.int (x6 + (nI 1))), some (.int (((d >>> (((nI 12) * x6).toInt64 &&& 63)) &&& (lN 4095)).toInt32))] [] (eg_si M 167 (((nI 4) * (eg_gi M 121 65)) + x6).toNatClampNeg (((d >>> (((nI 12) * x6).toInt64 &&& 63)) &&& (lN 4095)).toInt32))
      exact l1 ⟨c1, c2⟩
    · skip
      refine And.intro (fun z => absurd z (by decide)) ?_
      show Qp (.inl (some (.int (-nI 1)))) M
      exact l2 ⟨c1, c2⟩

def s_X12_plan : eg_S := fun argv M Qp => match argv with
  | [.ref 121, .int c, .int b, .int m, .long d] => (eg_cn (eg_gi M 121 65) 6) ∧ ∀ (v : Int32) (M2 : eg_M), ((¬ (¬ c < 0 ∧ ¬ eg_gi M 121 4 ≤ c) ∧ v = nI 0 ∧ M2 = eg_si M 121 1 (nI 1)) ∨ ((¬ c < 0 ∧ ¬ eg_gi M 121 4 ≤ c) ∧ ¬ m_pk M b m d ∧ v = -nI 1 ∧ ∃ f, (∀ j, j < 4 * (eg_gi M 121 65).toNatClampNeg → f j = eg_gi M 167 j) ∧ M2 = eg_ri (eg_si M 121 1 (nI 0)) 167 f) ∨ ((¬ c < 0 ∧ ¬ eg_gi M 121 4 ≤ c) ∧ m_pk M b m d ∧ v = eg_gi M 121 65 ∧ ∃ f, (∀ j, j < 4 * (eg_gi M 121 65).toNatClampNeg → f j = eg_gi M 167 j) ∧ (∀ i, i < m.toNatClampNeg → f (4 * (eg_gi M 121 65).toNatClampNeg + i) = dy d i) ∧ M2 = eg_si (eg_si (eg_si (eg_si (eg_ri (eg_si M 121 1 (nI 0)) 167 f) 164 (eg_gi M 121 65).toNatClampNeg c) 165 (eg_gi M 121 65).toNatClampNeg b) 166 (eg_gi M 121 65).toNatClampNeg m) 121 65 (nI ((eg_gi M 121 65).toNatClampNeg + 1)))) → Qp (.inl (some (.int (v)))) M2
  | _ => False
theorem mo_X12_plan : eg_mono s_X12_plan := by
  intro argv M Q Q' h
  unfold s_X12_plan
  split
  · exact fun z => ⟨z.1, fun v M2 y => h _ _ (z.2 v M2 y)⟩
  · exact id
theorem sz_X12_plan : ∀ argv M Qp, s_X12_plan argv M Qp → (eg_ls0 argv).length ≤ 8 := by
  intro argv M Qp h
  unfold s_X12_plan at h
  split at h
  · exact Nat.le_of_ble_eq_true rfl
  · exact h.elim
theorem sr_X12_plan : ∀ argv M Qp, s_X12_plan argv M Qp → ∃ p0 As, argv = .ref p0 :: As ∧ eg_isO wd M p0 12 = true := by
  intro argv M Qp h
  unfold s_X12_plan at h
  split at h
  · exact ⟨_, _, rfl, rfl⟩
  · exact h.elim
set_option maxRecDepth 100000 in
set_option maxHeartbeats 4000000 in
theorem T_X12_plan {argv : List Value} {M : eg_M} {Qp : eg_P} (h : s_X12_plan argv M Qp) : eg_T wd k_X12_plan Qp 0 0 0 (eg_lsN 8 argv) [] M := by
  unfold s_X12_plan at h
  split at h
  · rename_i c b m d
    obtain ⟨hp, hq⟩ := h
    obtain ⟨p, hp, hN⟩ := hp
    have hq := hq
    rw [hN, n_c (by omega)] at hq
    refine st_X12_plan_0 c b m d (fun z => ?_) (fun z => ?_) (fun z => ?_)
    · rw [si_si]
      exact hq _ _ (Or.inl ⟨z, rfl, rfl⟩)
    · have e := ri_id (eg_si M 121 1 (nI 0)) 167
      refine hq _ _ (Or.inr (Or.inl ⟨z.1, fun y => ?_, rfl, eg_gi M 167, fun _ _ => rfl, e.symm⟩))
      rcases z.2 with w | w | w
      · exact y.1 w
      · exact w y.2.1
      · exact w y.2.2.1
    have zc : ¬ c < 0 ∧ ¬ eg_gi M 121 4 ≤ c := z.1
    obtain ⟨_, z6, zb, zm⟩ := z
    obtain ⟨n, hn, rfl⟩ : ∃ n, n ≤ 4 ∧ m = nI n := nI_of2 (M := nI 4) (by decide) (fun y => zm.1 (by
      have h1 : (0 : Int32) < nI 1 := by decide
      exact Int32.lt_trans y h1)) (Int32.not_lt.mp zm.2)
    have hp6 : p < 6 := by
      rw [hN] at z6
      rcases Nat.lt_or_ge p 6 with y | y
      · exact y
      · exact absurd (show nI p = nI 6 by rw [show p = 6 by omega]) z6
    have lp : ∀ i (x : (Nat → Int32) × Option Value), i ≤ n → ((∀ j, j < 4 * p → x.1 j = eg_gi M 167 j) ∧ ∀ i', i' < i → x.1 (4 * p + i') = dy d i' ∧ dy d i' ≤ nI 3599) → eg_T wd k_X12_plan Qp 52 0 0 [some (.ref 121), some (.int c), some (.int b), some (.int (nI n)), some (.long d), none, some (.int (nI i)), x.2] [] (eg_ri (eg_si M 121 1 (nI 0)) 167 x.1) := by
      refine eg_for ?_
      intro i ⟨f, o7⟩ hi ⟨h1, h2⟩ kk
      have st := st_X12_plan_52 (Qp := Qp) (M := eg_ri (eg_si M 121 1 (nI 0)) 167 f) c b (nI n) d (nI i) o7
      have r65 : eg_gi (eg_ri (eg_si M 121 1 (nI 0)) 167 f) 121 65 = nI p := hN
      simp (disch := omega) only [r65, n_c, n_le, n_in, n_s, n_m, Nat.not_le, n_p] at st
      refine st (fun _ => hp6) (fun _ _ => by omega) (fun z => ?_) (fun z => ?_) (fun z => ?_)
      · have : i = n := by omega
        subst this
        refine hq _ _ (Or.inr (Or.inr ⟨zc, ⟨z6, zb, zm, ?_⟩, rfl, f, h1, ?_, rfl⟩))
        · rw [n_c (by omega)]
          exact fun i' hi' => (h2 i' hi').2
        · rw [n_c (by omega)]
          exact fun i' hi' => (h2 i' hi').1
      · rw [si_ri]
        refine kk (_, _) z.1 ⟨fun j hj => ?_, fun i' hi' => ?_⟩
        · show (if j = 4 * p + i then _ else f j) = _
          rw [if_neg (by omega)]
          exact h1 j hj
        · show (if 4 * p + i' = 4 * p + i then _ else f (4 * p + i')) = _ ∧ _
          by_cases e : i' = i
          · subst e
            rw [if_pos rfl]
            exact ⟨rfl, z.2⟩
          · rw [if_neg (by omega)]
            exact h2 i' (by omega)
      · refine hq _ _ (Or.inr (Or.inl ⟨zc, fun y => ?_, rfl, f, h1, rfl⟩))
        exact z.2 (y.2.2.2 i (by rw [n_c (by omega)]; exact z.1))
    have := lp 0 (eg_gi M 167, none) (Nat.zero_le _) ⟨fun _ _ => rfl, fun _ h => absurd h (Nat.not_lt_zero _)⟩
    have e := ri_id (eg_si M 121 1 (nI 0)) 167
    rw [show eg_gi M 167 = eg_gi (eg_si M 121 1 (nI 0)) 167 from rfl, e] at this
    exact this
    
  · exact h.elim
theorem de_X12_plan : ∀ q ∈ k_X12_plan.1, decode cX12_plan q.1 = .ok q.2 := by decide +kernel
theorem me_X12_plan (g : gl_T) : MT g yX12_plan cX12_plan 8 (some .int) ⟨1, 0, 0, 22⟩ 0 0 s_X12_plan := by
  intro hl
  exact eg_met_of (k := k_X12_plan) (by decide) rfl ⟨Nat.le_refl _, Nat.le_refl _⟩ rfl sz_X12_plan de_X12_plan (fun meth hn => (fc (eg_FL_of wd_c12 (by decide) lf_RX12_174 (fun h => absurd h (by decide))) (fc (eg_FL_of wd_c12 (by decide) lf_RX12_177 (fun h => absurd h (by decide))) (fc (eg_FL_of wd_c12 (by decide) lf_RX12_180 (fun h => absurd h (by decide))) (fc (eg_FL_of wd_c12 (by decide) lf_RX12_183 (fun h => absurd h (by decide))) (fc (eg_FL_of wd_c12 (by decide) lf_RX12_213 (fun _ => Or.inl rfl)) (fc (eg_FL_of wd_c12 (by decide) lf_RX12_478 (fun _ => Or.inl rfl)) (fn)))))))) (fun A s H hE => (fc (List.mem_cons_of_mem _ ll_RX12_481) (fn))) (fun p e s m args below meth c Q A ad0 N0 S0 hK hEx hA => (fc (mt_S hl S0 hK hEx hA (me_X12_isIn g) lm_RX12_219 ls_X12_isIn ln_RX12 lc_X12_isIn ⟨rfl, by decide, by decide, by decide +kernel⟩ ⟨rfl, rfl⟩ ⟨by decide, by decide⟩ (by decide)) (fc (mt_V hl S0 hK hEx hA (me_X12_fail g) lm_RX12_230 li_X12_fail lx_X12_fail ln_RX12 lc_X12_fail ⟨rfl, by decide, by decide, by decide +kernel⟩ ⟨rfl, rfl⟩ ⟨by decide, by decide⟩ (ci := 12) rfl rfl eg_auto_rec (by decide)) (fc (mt_V hl S0 hK hEx hA (me_X12_isCharter g) lm_RX12_238 li_X12_isCharter lx_X12_isCharter ln_RX12 lc_X12_isCharter ⟨rfl, by decide, by decide, by decide +kernel⟩ ⟨rfl, rfl⟩ ⟨by decide, by decide⟩ (ci := 12) rfl rfl sr_X12_isCharter (by decide)) (fn))))) (fun p e s m args below meth c Qc XC A ad0 N0 P S0 hK hEx hA hlk hout hPX => (fn)) (fun argv M Qp h => T_X12_plan h)

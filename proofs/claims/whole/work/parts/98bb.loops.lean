def k_X11_charter_v : eg_C := ([(0, .aload_n 0, 1), (1, .iload_n 1, 1), (2, .invokevirtual 71, 3), (5, .aload_n 0, 1), (6, .iload_n 2, 1), (7, .invokevirtual 71, 3), (10, .iload_n 1, 1), (11, .iload_n 2, 1), (12, .if_icmp .eq 10, 3), (15, .iload_n 3, 1), (16, .invokestatic 75, 3), (19, .ifCond .ne 5, 3), (22, .iconst (-1), 1), (23, .ireturn, 1), (24, .aload_n 0, 1), (25, .getfield 25, 3), (28, .iload_n 1, 1), (29, .iload_n 2, 1), (30, .iload_n 3, 1), (31, .aload_n 0, 1), (32, .getfield 57, 3), (35, .invokevirtual 79, 3), (38, .ireturn, 1)], [(25, 11, 2, false), (57, 11, 8, false)], [], [(75 + 100000, 1, 0, 0, s_X11_isDay), (71, 1 + 1, 1, 6, s_X11_needTown), (79, 4 + 1, 0, 0, s_X0_add)], [], 1, 2, 12)
theorem mk_X11_charter_v : ∀ q ∈ k_X11_charter_v.2.2.2.1, eg_mono q.2.2.2.2 := (fc (mo_X11_isDay) (fc (mo_X11_needTown) (fc (mo_X0_add) (fn))))
set_option maxRecDepth 100000 in
theorem st_X11_charter_v_0 {Qp : eg_P} {M : eg_M} (a : Int32) (b : Int32) (c : Int32)
  (g0 : (¬ (¬ (¬ a < (nI 0) ∧ ¬ ((eg_gi M 2 4) - (nI 1)) < a))) → (¬ (¬ (¬ b < (nI 0) ∧ ¬ ((eg_gi M 2 4) - (nI 1)) < b))) → (¬ (a = b)) → (¬ (¬ (¬ c < (nI 0) ∧ ¬ (nI 3599) < c))) → ((eg_gi M 7 4) < (nI 24)) → (vp_in (eg_gi M 7 4) 24))
  (l0 : ((¬ (¬ a < (nI 0) ∧ ¬ ((eg_gi M 2 4) - (nI 1)) < a)) ∨ (¬ (¬ b < (nI 0) ∧ ¬ ((eg_gi M 2 4) - (nI 1)) < b))) → Qp (.inr "java/util/NoSuchElementException") M)
  (l1 : ((¬ a < (nI 0) ∧ ¬ ((eg_gi M 2 4) - (nI 1)) < a) ∧ ((¬ b < (nI 0) ∧ ¬ ((eg_gi M 2 4) - (nI 1)) < b) ∧ (a = b ∨ ((¬ (¬ c < (nI 0) ∧ ¬ (nI 3599) < c)) ∨ ¬ (eg_gi M 7 4) < (nI 24))))) → Qp (.inl (some (.int (-nI 1)))) M)
  (l2 : ((¬ a < (nI 0) ∧ ¬ ((eg_gi M 2 4) - (nI 1)) < a) ∧ ((¬ b < (nI 0) ∧ ¬ ((eg_gi M 2 4) - (nI 1)) < b) ∧ (¬ a = b ∧ ((¬ c < (nI 0) ∧ ¬ (nI 3599) < c) ∧ (eg_gi M 7 4) < (nI 24))))) → Qp (.inl (some (.int (eg_gi M 7 4)))) (eg_si (eg_si (eg_si (eg_si (eg_si M 8 (eg_gi M 7 4).toNatClampNeg a) 9 (eg_gi M 7 4).toNatClampNeg b) 10 (eg_gi M 7 4).toNatClampNeg c) 11 (eg_gi M 7 4).toNatClampNeg (eg_gi M 0 8)) 7 4 ((eg_gi M 7 4) + (nI 1)))) :
  eg_T wd k_X11_charter_v Qp 0 0 0 [some (.ref 0), some (.int a), some (.int b), some (.int c)] [] M := by
  refine eg_T_run mk_X11_charter_v (cut := []) 26 ?_
  refine And.intro (show (True) from ?_) ?_
  · exact trivial
  refine And.intro (fun (c1 : (b2i (decide (¬ a < (nI 0) ∧ ¬ ((eg_gi M 2 4) - (nI 1)) < a))) = 0) => ?_) (fun (c1 : ¬ (b2i (decide (¬ a < (nI 0) ∧ ¬ ((eg_gi M 2 4) - (nI 1)) < a))) = 0) => ?_)
  · replace c1 := b2i_d0.mp c1
    show Qp (.inr "java/util/NoSuchElementException") M
    exact l0 (Or.inl c1)
  · replace c1 := b2i_dn.mp c1
    refine And.intro (show (True) from ?_) ?_
    · exact trivial
    refine And.intro (fun (c2 : (b2i (decide (¬ b < (nI 0) ∧ ¬ ((eg_gi M 2 4) - (nI 1)) < b))) = 0) => ?_) (fun (c2 : ¬ (b2i (decide (¬ b < (nI 0) ∧ ¬ ((eg_gi M 2 4) - (nI 1)) < b))) = 0) => ?_)
    · replace c2 := b2i_d0.mp c2
      show Qp (.inr "java/util/NoSuchElementException") M
      exact l0 (Or.inr c2)
    · replace c2 := b2i_dn.mp c2
      refine And.intro (fun (c3 : a = b) => ?_) (fun (c3 : ¬ a = b) => ?_)
      · skip
        refine And.intro (fun z => absurd z (by decide)) ?_
        show Qp (.inl (some (.int (-nI 1)))) M
        exact l1 ⟨(Classical.byContradiction c1), ⟨(Classical.byContradiction c2), (Or.inl c3)⟩⟩
      · skip
        refine And.intro (show (True) from ?_) ?_
        · exact trivial
        refine And.intro (fun (c4 : (b2i (decide (¬ c < (nI 0) ∧ ¬ (nI 3599) < c))) = 0) => ?_) (fun (c4 : ¬ (b2i (decide (¬ c < (nI 0) ∧ ¬ (nI 3599) < c))) = 0) => ?_)
        · replace c4 := b2i_d0.mp c4
          refine And.intro (fun z => absurd z (by decide)) ?_
          show Qp (.inl (some (.int (-nI 1)))) M
          exact l1 ⟨(Classical.byContradiction c1), ⟨(Classical.byContradiction c2), (Or.inr (Or.inl c4))⟩⟩
        · replace c4 := b2i_dn.mp c4
          refine And.intro (fun (c5 : (eg_gi M 7 4) < (nI 24)) => ?_) (fun (c5 : ¬ (eg_gi M 7 4) < (nI 24)) => ?_)
          · skip
            refine And.intro (show vp_in (eg_gi M 7 4) 24 from ?_) ?_
            · exact g0 c1 c2 c3 c4 c5
            refine And.intro (show vp_in (eg_gi M 7 4) 24 from ?_) ?_
            · exact g0 c1 c2 c3 c4 c5
            refine And.intro (show vp_in (eg_gi M 7 4) 24 from ?_) ?_
            · exact g0 c1 c2 c3 c4 c5
            refine And.intro (show vp_in (eg_gi M 7 4) 24 from ?_) ?_
            · exact g0 c1 c2 c3 c4 c5
            refine And.intro (fun z => absurd z (by decide)) ?_
            refine And.intro (fun z => absurd z (by decide)) ?_
            show Qp (.inl (some (.int (eg_gi M 7 4)))) (eg_si (eg_si (eg_si (eg_si (eg_si M 8 (eg_gi M 7 4).toNatClampNeg a) 9 (eg_gi M 7 4).toNatClampNeg b) 10 (eg_gi M 7 4).toNatClampNeg c) 11 (eg_gi M 7 4).toNatClampNeg (eg_gi M 0 8)) 7 4 ((eg_gi M 7 4) + (nI 1)))
            exact l2 ⟨(Classical.byContradiction c1), ⟨(Classical.byContradiction c2), ⟨c3, ⟨(Classical.byContradiction c4), c5⟩⟩⟩⟩
          · skip
            refine And.intro (fun z => absurd z (by decide)) ?_
            refine And.intro (fun z => absurd z (by decide)) ?_
            show Qp (.inl (some (.int (-nI 1)))) M
            exact l1 ⟨(Classical.byContradiction c1), ⟨(Classical.byContradiction c2), (Or.inr (Or.inr c5))⟩⟩

def s_X11_charter_v : eg_S := fun argv M Qp => match argv with
  | [.ref 0, .int a, .int b, .int c] => (eg_cn (eg_gi M 2 4) 16 ∧ eg_cn (eg_gi M 7 4) 24) ∧ ∀ (oo : Option Value ⊕ String) (M2 : eg_M), ((¬ ((¬ a < nI 0 ∧ ¬ (eg_gi M 2 4 - nI 1) < a) ∧ (¬ b < nI 0 ∧ ¬ (eg_gi M 2 4 - nI 1) < b)) ∧ oo = .inr "java/util/NoSuchElementException" ∧ M2 = M) ∨ (((¬ a < nI 0 ∧ ¬ (eg_gi M 2 4 - nI 1) < a) ∧ (¬ b < nI 0 ∧ ¬ (eg_gi M 2 4 - nI 1) < b)) ∧ (a = b ∨ ¬ (¬ c < nI 0 ∧ ¬ nI 3599 < c) ∨ ¬ eg_gi M 7 4 < nI 24) ∧ oo = .inl (some (.int (-nI 1))) ∧ M2 = M) ∨ (((¬ a < nI 0 ∧ ¬ (eg_gi M 2 4 - nI 1) < a) ∧ (¬ b < nI 0 ∧ ¬ (eg_gi M 2 4 - nI 1) < b)) ∧ ¬ a = b ∧ (¬ c < nI 0 ∧ ¬ nI 3599 < c) ∧ eg_gi M 7 4 < nI 24 ∧ oo = .inl (some (.int (eg_gi M 7 4))) ∧ M2 = eg_si (eg_si (eg_si (eg_si (eg_si M 8 (eg_gi M 7 4).toNatClampNeg a) 9 (eg_gi M 7 4).toNatClampNeg b) 10 (eg_gi M 7 4).toNatClampNeg c) 11 (eg_gi M 7 4).toNatClampNeg (eg_gi M 0 8)) 7 4 (eg_gi M 7 4 + nI 1))) → Qp oo M2
  | _ => False
theorem mo_X11_charter_v : eg_mono s_X11_charter_v := by
  intro argv M Q Q' h
  unfold s_X11_charter_v
  split
  · exact fun z => ⟨z.1, fun oo M2 y => h _ _ (z.2 oo M2 y)⟩
  · exact id
theorem sz_X11_charter_v : ∀ argv M Qp, s_X11_charter_v argv M Qp → (eg_ls0 argv).length ≤ 4 := by
  intro argv M Qp h
  unfold s_X11_charter_v at h
  split at h
  · exact Nat.le_of_ble_eq_true rfl
  · exact h.elim
theorem sr_X11_charter_v : ∀ argv M Qp, s_X11_charter_v argv M Qp → ∃ p0 As, argv = .ref p0 :: As ∧ eg_isO wd M p0 11 = true := by
  intro argv M Qp h
  unfold s_X11_charter_v at h
  split at h
  · exact ⟨_, _, rfl, rfl⟩
  · exact h.elim
set_option maxRecDepth 100000 in
set_option maxHeartbeats 1000000 in
theorem T_X11_charter_v {argv : List Value} {M : eg_M} {Qp : eg_P} (h : s_X11_charter_v argv M Qp) : eg_T wd k_X11_charter_v Qp 0 0 0 (eg_lsN 4 argv) [] M := by
  unfold s_X11_charter_v at h
  split at h
  · rename_i a b c
    obtain ⟨hp, hq⟩ := h
    refine st_X11_charter_v_0 a b c (fun _ _ _ _ z5 => ?_) (fun z => hq _ _ (Or.inl ⟨fun y => z.elim (fun w => w y.1) (fun w => w y.2), rfl, rfl⟩)) (fun z => hq _ _ (Or.inr (Or.inl ⟨⟨z.1, z.2.1⟩, z.2.2, rfl, rfl⟩))) (fun z => hq _ _ (Or.inr (Or.inr ⟨⟨z.1, z.2.1⟩, z.2.2.1, z.2.2.2.1, z.2.2.2.2, rfl, rfl⟩)))
    obtain ⟨n, hn, e⟩ := hp.2
    rw [e] at z5 ⊢
    rw [n_lt (by omega) (by omega)] at z5
    exact (n_in (by omega) (by decide)).mpr (by omega)
    
  · exact h.elim
theorem de_X11_charter_v : ∀ q ∈ k_X11_charter_v.1, decode cX11_charter q.1 = .ok q.2 := by decide +kernel
theorem me_X11_charter_v (g : gl_T) : MT g yX11_charter cX11_charter 4 (some .int) ⟨7, 2, 12, 113⟩ 2 12 s_X11_charter_v := by
  intro hl
  exact eg_met_of (k := k_X11_charter_v) (by decide) rfl ⟨Nat.le_refl _, Nat.le_refl _⟩ rfl sz_X11_charter_v de_X11_charter_v (fun meth hn => (fc (eg_FL_of wd_c11 (by decide) lf_RX11_25 (fun h => absurd h (by decide))) (fc (eg_FL_of wd_c11 (by decide) lf_RX11_57 (fun h => absurd h (by decide))) (fn)))) (fun A s H hE => (fn)) (fun p e s m args below meth c Q A ad0 N0 S0 hK hEx hA => (fc (mt_S hl S0 hK hEx hA (me_X11_isDay g) lm_RX11_75 ls_X11_isDay ln_RX11 lc_X11_isDay ⟨rfl, by decide, by decide, by decide +kernel⟩ ⟨rfl, rfl⟩ ⟨by decide, by decide⟩ (by decide)) (fc (mt_V hl S0 hK hEx hA (me_X11_needTown g) lm_RX11_71 li_X11_needTown lx_X11_needTown ln_RX11 lc_X11_needTown ⟨rfl, by decide, by decide, by decide +kernel⟩ ⟨rfl, rfl⟩ ⟨by decide, by decide⟩ (ci := 11) rfl rfl eg_auto_rec (by decide)) (fc (mt_V hl S0 hK hEx hA (me_X0_add g) lm_RX11_79 li_X0_add lx_X0_add ln_RX0 lc_X0_add ⟨rfl, by decide, by decide, by decide +kernel⟩ ⟨rfl, rfl⟩ ⟨by decide, by decide⟩ (ci := 0) rfl rfl eg_auto_rec (by decide)) (fn))))) (fun p e s m args below meth c Qc XC A ad0 N0 P S0 hK hEx hA hlk hout hPX => (fn)) (fun argv M Qp h => T_X11_charter_v h)

def k_X12_clash : eg_C := ([(0, .aload_n 0, 1), (1, .getfield 183, 3), (4, .iconst 4, 1), (5, .iload_n 1, 1), (6, .imul, 1), (7, .aload_n 0, 1), (8, .getfield 189, 3), (11, .iload_n 1, 1), (12, .iaload, 1), (13, .iadd, 1), (14, .iaload, 1), (15, .istore_n 3, 1), (16, .aload_n 0, 1), (17, .getfield 183, 3), (20, .iconst 4, 1), (21, .iload_n 2, 1), (22, .imul, 1), (23, .aload_n 0, 1), (24, .getfield 189, 3), (27, .iload_n 2, 1), (28, .iaload, 1), (29, .iadd, 1), (30, .iaload, 1), (31, .istore 4, 2), (33, .aload_n 0, 1), (34, .iload_n 1, 1), (35, .iload_n 2, 1), (36, .invokevirtual 483, 3), (39, .ifCond .eq 33, 3), (42, .iload_n 3, 1), (43, .iload 4, 2), (45, .aload_n 0, 1), (46, .getfield 177, 3), (49, .iload_n 2, 1), (50, .iaload, 1), (51, .iadd, 1), (52, .if_icmp .gt 20, 3), (55, .iload 4, 2), (57, .iload_n 3, 1), (58, .aload_n 0, 1), (59, .getfield 177, 3), (62, .iload_n 1, 1), (63, .iaload, 1), (64, .iadd, 1), (65, .if_icmp .gt 7, 3), (68, .iconst 1, 1), (69, .goto 4, 3), (72, .iconst 0, 1), (73, .ireturn, 1)], [(177, 12, 69, false), (183, 12, 71, false), (189, 12, 73, false)], [], [(483, 2 + 1, 0, 0, s_X12_haveTown)], [], 2, 0, 0)
theorem mk_X12_clash : ∀ q ∈ k_X12_clash.2.2.2.1, eg_mono q.2.2.2.2 := (fc (mo_X12_haveTown) (fn))
def s_X12_clash : eg_S := fun argv M Qp => match argv with
  | [.ref 121, .int a, .int b] => ((vp_in a 6) ∧ (vp_in (((nI 4) * a) + (eg_gi M 169 a.toNatClampNeg)) 24) ∧ (vp_in b 6) ∧ (vp_in (((nI 4) * b) + (eg_gi M 169 b.toNatClampNeg)) 24) ∧ ((vp_in a 6 ∧ vp_in b 6 ∧ vp_in (eg_gi M 164 a.toNatClampNeg) 24 ∧ vp_in (eg_gi M 164 b.toNatClampNeg) 24))) ∧ Qp (.inl (some (.int (b2i (decide (¬ (b2i (m_h2 M a.toNatClampNeg b.toNatClampNeg 0 || m_h2 M a.toNatClampNeg b.toNatClampNeg 1)) = 0 ∧ (¬ ((eg_gi M 167 (((nI 4) * b) + (eg_gi M 169 b.toNatClampNeg)).toNatClampNeg) + (eg_gi M 165 b.toNatClampNeg)) < (eg_gi M 167 (((nI 4) * a) + (eg_gi M 169 a.toNatClampNeg)).toNatClampNeg) ∧ ¬ ((eg_gi M 167 (((nI 4) * a) + (eg_gi M 169 a.toNatClampNeg)).toNatClampNeg) + (eg_gi M 165 a.toNatClampNeg)) < (eg_gi M 167 (((nI 4) * b) + (eg_gi M 169 b.toNatClampNeg)).toNatClampNeg)))))))) M
  | _ => False
theorem mo_X12_clash : eg_mono s_X12_clash := by
  intro argv M Q Q' h
  unfold s_X12_clash
  split
  · exact fun z => ⟨z.1, h _ _ z.2⟩
  · exact id
theorem sz_X12_clash : ∀ argv M Qp, s_X12_clash argv M Qp → (eg_ls0 argv).length ≤ 5 := by
  intro argv M Qp h
  unfold s_X12_clash at h
  split at h
  · exact Nat.le_of_ble_eq_true rfl
  · exact h.elim
theorem sr_X12_clash : ∀ argv M Qp, s_X12_clash argv M Qp → ∃ p0 As, argv = .ref p0 :: As ∧ eg_isO wd M p0 12 = true := by
  intro argv M Qp h
  unfold s_X12_clash at h
  split at h
  · exact ⟨_, _, rfl, rfl⟩
  · exact h.elim
set_option maxRecDepth 100000 in
theorem T_X12_clash {argv : List Value} {M : eg_M} {Qp : eg_P} (h : s_X12_clash argv M Qp) : eg_T wd k_X12_clash Qp 0 0 0 (eg_lsN 5 argv) [] M := by
  unfold s_X12_clash at h
  split at h
  · rename_i a b
    obtain ⟨hp, hq⟩ := h
    refine eg_T_run mk_X12_clash (cut := []) 54 ?_
    refine And.intro (show vp_in a 6 from ?_) ?_
    · exact hp.1
    refine And.intro (show vp_in (((nI 4) * a) + (eg_gi M 169 a.toNatClampNeg)) 24 from ?_) ?_
    · exact hp.2.1
    refine And.intro (show vp_in b 6 from ?_) ?_
    · exact hp.2.2.1
    refine And.intro (show vp_in (((nI 4) * b) + (eg_gi M 169 b.toNatClampNeg)) 24 from ?_) ?_
    · exact hp.2.2.2.1
    refine And.intro (show (vp_in a 6 ∧ vp_in b 6 ∧ vp_in (eg_gi M 164 a.toNatClampNeg) 24 ∧ vp_in (eg_gi M 164 b.toNatClampNeg) 24) from ?_) ?_
    · exact hp.2.2.2.2
    refine And.intro (fun (c1 : (b2i (m_h2 M a.toNatClampNeg b.toNatClampNeg 0 || m_h2 M a.toNatClampNeg b.toNatClampNeg 1)) = 0) => ?_) (fun (c1 : ¬ (b2i (m_h2 M a.toNatClampNeg b.toNatClampNeg 0 || m_h2 M a.toNatClampNeg b.toNatClampNeg 1)) = 0) => ?_)
    · skip
      refine And.intro (fun _ => (show (nI 0) = 0 ∨ (nI 0) = 1 from ?_)) ?_
      · exact Or.inl rfl
      show Qp (.inl (some (.int (nI 0)))) M
      rw [show (decide (¬ (b2i (m_h2 M a.toNatClampNeg b.toNatClampNeg 0 || m_h2 M a.toNatClampNeg b.toNatClampNeg 1)) = 0 ∧ (¬ ((eg_gi M 167 (((nI 4) * b) + (eg_gi M 169 b.toNatClampNeg)).toNatClampNeg) + (eg_gi M 165 b.toNatClampNeg)) < (eg_gi M 167 (((nI 4) * a) + (eg_gi M 169 a.toNatClampNeg)).toNatClampNeg) ∧ ¬ ((eg_gi M 167 (((nI 4) * a) + (eg_gi M 169 a.toNatClampNeg)).toNatClampNeg) + (eg_gi M 165 a.toNatClampNeg)) < (eg_gi M 167 (((nI 4) * b) + (eg_gi M 169 b.toNatClampNeg)).toNatClampNeg)))) = false from decide_eq_false (by grind)] at hq
      exact hq
    · skip
      refine And.intro (show vp_in b 6 from ?_) ?_
      · exact hp.2.2.1
      refine And.intro (fun (c2 : ((eg_gi M 167 (((nI 4) * b) + (eg_gi M 169 b.toNatClampNeg)).toNatClampNeg) + (eg_gi M 165 b.toNatClampNeg)) < (eg_gi M 167 (((nI 4) * a) + (eg_gi M 169 a.toNatClampNeg)).toNatClampNeg)) => ?_) (fun (c2 : ¬ ((eg_gi M 167 (((nI 4) * b) + (eg_gi M 169 b.toNatClampNeg)).toNatClampNeg) + (eg_gi M 165 b.toNatClampNeg)) < (eg_gi M 167 (((nI 4) * a) + (eg_gi M 169 a.toNatClampNeg)).toNatClampNeg)) => ?_)
      · skip
        refine And.intro (fun _ => (show (nI 0) = 0 ∨ (nI 0) = 1 from ?_)) ?_
        · exact Or.inl rfl
        show Qp (.inl (some (.int (nI 0)))) M
        rw [show (decide (¬ (b2i (m_h2 M a.toNatClampNeg b.toNatClampNeg 0 || m_h2 M a.toNatClampNeg b.toNatClampNeg 1)) = 0 ∧ (¬ ((eg_gi M 167 (((nI 4) * b) + (eg_gi M 169 b.toNatClampNeg)).toNatClampNeg) + (eg_gi M 165 b.toNatClampNeg)) < (eg_gi M 167 (((nI 4) * a) + (eg_gi M 169 a.toNatClampNeg)).toNatClampNeg) ∧ ¬ ((eg_gi M 167 (((nI 4) * a) + (eg_gi M 169 a.toNatClampNeg)).toNatClampNeg) + (eg_gi M 165 a.toNatClampNeg)) < (eg_gi M 167 (((nI 4) * b) + (eg_gi M 169 b.toNatClampNeg)).toNatClampNeg)))) = false from decide_eq_false (by grind)] at hq
        exact hq
      · skip
        refine And.intro (show vp_in a 6 from ?_) ?_
        · exact hp.1
        refine And.intro (fun (c3 : ((eg_gi M 167 (((nI 4) * a) + (eg_gi M 169 a.toNatClampNeg)).toNatClampNeg) + (eg_gi M 165 a.toNatClampNeg)) < (eg_gi M 167 (((nI 4) * b) + (eg_gi M 169 b.toNatClampNeg)).toNatClampNeg)) => ?_) (fun (c3 : ¬ ((eg_gi M 167 (((nI 4) * a) + (eg_gi M 169 a.toNatClampNeg)).toNatClampNeg) + (eg_gi M 165 a.toNatClampNeg)) < (eg_gi M 167 (((nI 4) * b) + (eg_gi M 169 b.toNatClampNeg)).toNatClampNeg)) => ?_)
        · skip
          refine And.intro (fun _ => (show (nI 0) = 0 ∨ (nI 0) = 1 from ?_)) ?_
          · exact Or.inl rfl
          show Qp (.inl (some (.int (nI 0)))) M
          rw [show (decide (¬ (b2i (m_h2 M a.toNatClampNeg b.toNatClampNeg 0 || m_h2 M a.toNatClampNeg b.toNatClampNeg 1)) = 0 ∧ (¬ ((eg_gi M 167 (((nI 4) * b) + (eg_gi M 169 b.toNatClampNeg)).toNatClampNeg) + (eg_gi M 165 b.toNatClampNeg)) < (eg_gi M 167 (((nI 4) * a) + (eg_gi M 169 a.toNatClampNeg)).toNatClampNeg) ∧ ¬ ((eg_gi M 167 (((nI 4) * a) + (eg_gi M 169 a.toNatClampNeg)).toNatClampNeg) + (eg_gi M 165 a.toNatClampNeg)) < (eg_gi M 167 (((nI 4) * b) + (eg_gi M 169 b.toNatClampNeg)).toNatClampNeg)))) = false from decide_eq_false (by grind)] at hq
          exact hq
        · skip
          refine And.intro (fun _ => (show (nI 1) = 0 ∨ (nI 1) = 1 from ?_)) ?_
          · exact Or.inr rfl
          show Qp (.inl (some (.int (nI 1)))) M
          rw [show (decide (¬ (b2i (m_h2 M a.toNatClampNeg b.toNatClampNeg 0 || m_h2 M a.toNatClampNeg b.toNatClampNeg 1)) = 0 ∧ (¬ ((eg_gi M 167 (((nI 4) * b) + (eg_gi M 169 b.toNatClampNeg)).toNatClampNeg) + (eg_gi M 165 b.toNatClampNeg)) < (eg_gi M 167 (((nI 4) * a) + (eg_gi M 169 a.toNatClampNeg)).toNatClampNeg) ∧ ¬ ((eg_gi M 167 (((nI 4) * a) + (eg_gi M 169 a.toNatClampNeg)).toNatClampNeg) + (eg_gi M 165 a.toNatClampNeg)) < (eg_gi M 167 (((nI 4) * b) + (eg_gi M 169 b.toNatClampNeg)).toNatClampNeg)))) = true from decide_eq_true (by grind)] at hq
          exact hq
  · exact h.elim
theorem de_X12_clash : ∀ q ∈ k_X12_clash.1, decode cX12_clash q.1 = .ok q.2 := by decide +kernel
theorem me_X12_clash (g : gl_T) : MT g yX12_clash cX12_clash 5 (some .boolean) ⟨1, 0, 0, 25⟩ 0 0 s_X12_clash := by
  intro hl
  exact eg_met_of (k := k_X12_clash) (by decide) rfl ⟨Nat.le_refl _, Nat.le_refl _⟩ rfl sz_X12_clash de_X12_clash (fun meth hn => (fc (eg_FL_of wd_c12 (by decide) lf_RX12_177 (fun h => absurd h (by decide))) (fc (eg_FL_of wd_c12 (by decide) lf_RX12_183 (fun h => absurd h (by decide))) (fc (eg_FL_of wd_c12 (by decide) lf_RX12_189 (fun h => absurd h (by decide))) (fn))))) (fun A s H hE => (fn)) (fun p e s m args below meth c Q A ad0 N0 S0 hK hEx hA => (fc (mt_V hl S0 hK hEx hA (me_X12_haveTown g) lm_RX12_483 li_X12_haveTown lx_X12_haveTown ln_RX12 lc_X12_haveTown ⟨rfl, by decide, by decide, by decide +kernel⟩ ⟨rfl, rfl⟩ ⟨by decide, by decide⟩ (ci := 12) rfl rfl sr_X12_haveTown (by decide)) (fn))) (fun p e s m args below meth c Qc XC A ad0 N0 P S0 hK hEx hA hlk hout hPX => (fn)) (fun argv M Qp h => T_X12_clash h)

def k_X12_with : eg_C := ([(0, .iload_n 2, 1), (1, .aload_n 0, 1), (2, .getfield 457, 3), (5, .if_icmp .ne 18, 3), (8, .aload_n 0, 1), (9, .getfield 161, 3), (12, .sipush 15625, 3), (15, .iload_n 1, 1), (16, .iconst 1, 1), (17, .iadd, 1), (18, .imul, 1), (19, .iload_n 3, 1), (20, .iadd, 1), (21, .iaload, 1), (22, .ireturn, 1), (23, .aload_n 0, 1), (24, .iload_n 1, 1), (25, .iload_n 2, 1), (26, .invokevirtual 464, 3), (29, .istore 4, 2), (31, .iload 4, 2), (33, .iconst (-1), 1), (34, .if_icmp .eq 14, 3), (37, .iload_n 3, 1), (38, .iload_n 2, 1), (39, .invokestatic 467, 3), (42, .idiv, 1), (43, .iconst 5, 1), (44, .irem, 1), (45, .ifCond .ne 5, 3), (48, .iconst (-1), 1), (49, .ireturn, 1), (50, .sipush 1000, 3), (53, .iload 4, 2), (55, .iadd, 1), (56, .aload_n 0, 1), (57, .getfield 161, 3), (60, .sipush 15625, 3), (63, .iload_n 1, 1), (64, .iconst 1, 1), (65, .iadd, 1), (66, .imul, 1), (67, .iload_n 3, 1), (68, .iadd, 1), (69, .iload_n 2, 1), (70, .invokestatic 467, 3), (73, .isub, 1), (74, .iaload, 1), (75, .iadd, 1), (76, .ireturn, 1)], [(161, 12, 62, false), (457, 12, 52, false)], [], [(467 + 100000, 1, 0, 0, s_X12_unit), (464, 2 + 1, 0, 0, s_X12_likingOf)], [], 1, 0, 0)
theorem mk_X12_with : ∀ q ∈ k_X12_with.2.2.2.1, eg_mono q.2.2.2.2 := (fc (mo_X12_unit) (fc (mo_X12_likingOf) (fn)))
def s_X12_with : eg_S := fun argv M Qp => match argv with
  | [.ref 121, .int a, .int b, .int c] => (((b = (eg_gi M 121 52)) → vp_in (((nI 15625) * (a + (nI 1))) + c) 140625) ∧ ((¬ b = (eg_gi M 121 52)) → (vp_in a 8 ∧ vp_in b 6)) ∧ ((¬ b = (eg_gi M 121 52)) → (¬ (m_li M a b) = (-nI 1)) → (eg_cn b 16)) ∧ ((¬ b = (eg_gi M 121 52)) → (¬ (m_li M a b) = (-nI 1)) → ¬ (m_un b.toNatClampNeg) = 0) ∧ ((¬ b = (eg_gi M 121 52)) → (¬ (m_li M a b) = (-nI 1)) → (¬ ((c / (m_un b.toNatClampNeg)) - (c / (m_un b.toNatClampNeg)) / (nI 5) * (nI 5)) = 0) → vp_in ((((nI 15625) * (a + (nI 1))) + c) - (m_un b.toNatClampNeg)) 140625)) ∧ Qp (.inl (some (.int (if b = (eg_gi M 121 52) then (eg_gi M 161 (((nI 15625) * (a + (nI 1))) + c).toNatClampNeg) else (if (m_li M a b) = (-nI 1) then (-nI 1) else (if ((c / (m_un b.toNatClampNeg)) - (c / (m_un b.toNatClampNeg)) / (nI 5) * (nI 5)) = 0 then (-nI 1) else (((nI 1000) + (m_li M a b)) + (eg_gi M 161 ((((nI 15625) * (a + (nI 1))) + c) - (m_un b.toNatClampNeg)).toNatClampNeg)))))))) M
  | _ => False
theorem mo_X12_with : eg_mono s_X12_with := by
  intro argv M Q Q' h
  unfold s_X12_with
  split
  · exact fun z => ⟨z.1, h _ _ z.2⟩
  · exact id
theorem sz_X12_with : ∀ argv M Qp, s_X12_with argv M Qp → (eg_ls0 argv).length ≤ 5 := by
  intro argv M Qp h
  unfold s_X12_with at h
  split at h
  · exact Nat.le_of_ble_eq_true rfl
  · exact h.elim
theorem sr_X12_with : ∀ argv M Qp, s_X12_with argv M Qp → ∃ p0 As, argv = .ref p0 :: As ∧ eg_isO wd M p0 12 = true := by
  intro argv M Qp h
  unfold s_X12_with at h
  split at h
  · exact ⟨_, _, rfl, rfl⟩
  · exact h.elim
set_option maxRecDepth 100000 in
theorem T_X12_with {argv : List Value} {M : eg_M} {Qp : eg_P} (h : s_X12_with argv M Qp) : eg_T wd k_X12_with Qp 0 0 0 (eg_lsN 5 argv) [] M := by
  unfold s_X12_with at h
  split at h
  · rename_i a b c
    obtain ⟨hp, hq⟩ := h
    refine eg_T_run mk_X12_with (cut := []) 55 ?_
    refine And.intro (fun (c1 : b = (eg_gi M 121 52)) => ?_) (fun (c1 : ¬ b = (eg_gi M 121 52)) => ?_)
    · skip
      refine And.intro (show vp_in (((nI 15625) * (a + (nI 1))) + c) 140625 from ?_) ?_
      · exact hp.1 c1
      refine And.intro (fun z => absurd z (by decide)) ?_
      show Qp (.inl (some (.int (eg_gi M 161 (((nI 15625) * (a + (nI 1))) + c).toNatClampNeg)))) M
      rw [if_pos c1] at hq
      exact hq
    · skip
      refine And.intro (show (vp_in a 8 ∧ vp_in b 6) from ?_) ?_
      · exact hp.2.1 c1
      refine And.intro (fun (c2 : (m_li M a b) = (-nI 1)) => ?_) (fun (c2 : ¬ (m_li M a b) = (-nI 1)) => ?_)
      · skip
        refine And.intro (fun z => absurd z (by decide)) ?_
        show Qp (.inl (some (.int (-nI 1)))) M
        rw [if_neg c1] at hq
        rw [if_pos c2] at hq
        exact hq
      · skip
        refine And.intro (show (eg_cn b 16) from ?_) ?_
        · exact hp.2.2.1 c1 c2
        refine And.intro (show ¬ (m_un b.toNatClampNeg) = 0 from ?_) ?_
        · exact hp.2.2.2.1 c1 c2
        refine And.intro (show ¬ (nI 5) = 0 from ?_) ?_
        · decide
        refine And.intro (fun (c3 : ((c / (m_un b.toNatClampNeg)) - (c / (m_un b.toNatClampNeg)) / (nI 5) * (nI 5)) = 0) => ?_) (fun (c3 : ¬ ((c / (m_un b.toNatClampNeg)) - (c / (m_un b.toNatClampNeg)) / (nI 5) * (nI 5)) = 0) => ?_)
        · skip
          refine And.intro (fun z => absurd z (by decide)) ?_
          show Qp (.inl (some (.int (-nI 1)))) M
          rw [if_neg c1] at hq
          rw [if_neg c2] at hq
          rw [if_pos c3] at hq
          exact hq
        · skip
          refine And.intro (show (eg_cn b 16) from ?_) ?_
          · exact hp.2.2.1 c1 c2
          refine And.intro (show vp_in ((((nI 15625) * (a + (nI 1))) + c) - (m_un b.toNatClampNeg)) 140625 from ?_) ?_
          · exact hp.2.2.2.2 c1 c2 c3
          refine And.intro (fun z => absurd z (by decide)) ?_
          show Qp (.inl (some (.int (((nI 1000) + (m_li M a b)) + (eg_gi M 161 ((((nI 15625) * (a + (nI 1))) + c) - (m_un b.toNatClampNeg)).toNatClampNeg))))) M
          rw [if_neg c1] at hq
          rw [if_neg c2] at hq
          rw [if_neg c3] at hq
          exact hq
  · exact h.elim
theorem de_X12_with : ∀ q ∈ k_X12_with.1, decode cX12_with q.1 = .ok q.2 := by decide +kernel
theorem me_X12_with (g : gl_T) : MT g yX12_with cX12_with 5 (some .int) ⟨2, 0, 0, 49⟩ 0 0 s_X12_with := by
  intro hl
  exact eg_met_of (k := k_X12_with) (by decide) rfl ⟨Nat.le_refl _, Nat.le_refl _⟩ rfl sz_X12_with de_X12_with (fun meth hn => (fc (eg_FL_of wd_c12 (by decide) lf_RX12_161 (fun h => absurd h (by decide))) (fc (eg_FL_of wd_c12 (by decide) lf_RX12_457 (fun h => absurd h (by decide))) (fn)))) (fun A s H hE => (fn)) (fun p e s m args below meth c Q A ad0 N0 S0 hK hEx hA => (fc (mt_S hl S0 hK hEx hA (me_X12_unit g) lm_RX12_467 ls_X12_unit ln_RX12 lc_X12_unit ⟨rfl, by decide, by decide, by decide +kernel⟩ ⟨rfl, rfl⟩ ⟨by decide, by decide⟩ (by decide)) (fc (mt_V hl S0 hK hEx hA (me_X12_likingOf g) lm_RX12_464 li_X12_likingOf lx_X12_likingOf ln_RX12 lc_X12_likingOf ⟨rfl, by decide, by decide, by decide +kernel⟩ ⟨rfl, rfl⟩ ⟨by decide, by decide⟩ (ci := 12) rfl rfl sr_X12_likingOf (by decide)) (fn)))) (fun p e s m args below meth c Qc XC A ad0 N0 P S0 hK hEx hA hlk hout hPX => (fn)) (fun argv M Qp h => T_X12_with h)

/-- the model: two may be friends; t would rather have w -/
def m_my (M : eg_M) (a b : Int32) : Bool := decide (¬ m_de M a b = -nI 1 ∧ ¬ m_de M b a = -nI 1)
def m_wl (M : eg_M) (t w : Int32) : Bool := decide (eg_gi M 175 t.toNatClampNeg = -nI 1 ∨ ¬ m_de M t (eg_gi M 175 t.toNatClampNeg) ≤ m_de M t w)
def m_tn (M : eg_M) (t : Int32) : Prop := vp_in t 16 ∧ eg_cn (eg_gi M 170 t.toNatClampNeg) 6
def k_X12_may : eg_C := ([(0, .aload_n 0, 1), (1, .iload_n 1, 1), (2, .iload_n 2, 1), (3, .invokevirtual 492, 3), (6, .iconst (-1), 1), (7, .if_icmp .eq 17, 3), (10, .aload_n 0, 1), (11, .iload_n 2, 1), (12, .iload_n 1, 1), (13, .invokevirtual 492, 3), (16, .iconst (-1), 1), (17, .if_icmp .eq 7, 3), (20, .iconst 1, 1), (21, .goto 4, 3), (24, .iconst 0, 1), (25, .ireturn, 1)], [], [], [(492, 2 + 1, 0, 0, s_X12_dear)], [], 2, 0, 0)
theorem mk_X12_may : ∀ q ∈ k_X12_may.2.2.2.1, eg_mono q.2.2.2.2 := (fc (mo_X12_dear) (fn))
set_option maxRecDepth 100000 in
theorem st_X12_may_0 {Qp : eg_P} {M : eg_M} (a : Int32) (b : Int32)
  (g0 : (vp_in a 16 ∧ eg_cn (eg_gi M 170 a.toNatClampNeg) 6))
  (g1 : (¬ ((m_de M a b) = (-nI 1))) → (vp_in b 16 ∧ eg_cn (eg_gi M 170 b.toNatClampNeg) 6))
  (l0 : ((m_de M a b) = (-nI 1) ∨ (m_de M b a) = (-nI 1)) → Qp (.inl (some (.int (nI 0)))) M)
  (l1 : (¬ (m_de M a b) = (-nI 1) ∧ ¬ (m_de M b a) = (-nI 1)) → Qp (.inl (some (.int (nI 1)))) M) :
  eg_T wd k_X12_may Qp 0 0 0 [some (.ref 121), some (.int a), some (.int b)] [] M := by
  refine eg_T_run mk_X12_may (cut := []) 19 ?_
  refine And.intro (show (vp_in a 16 ∧ eg_cn (eg_gi M 170 a.toNatClampNeg) 6) from ?_) ?_
  · exact g0
  refine And.intro (fun (c1 : (m_de M a b) = (-nI 1)) => ?_) (fun (c1 : ¬ (m_de M a b) = (-nI 1)) => ?_)
  · skip
    refine And.intro (fun _ => (show (nI 0) = 0 ∨ (nI 0) = 1 from ?_)) ?_
    · exact Or.inl rfl
    show Qp (.inl (some (.int (nI 0)))) M
    exact l0 (Or.inl c1)
  · skip
    refine And.intro (show (vp_in b 16 ∧ eg_cn (eg_gi M 170 b.toNatClampNeg) 6) from ?_) ?_
    · exact g1 c1
    refine And.intro (fun (c2 : (m_de M b a) = (-nI 1)) => ?_) (fun (c2 : ¬ (m_de M b a) = (-nI 1)) => ?_)
    · skip
      refine And.intro (fun _ => (show (nI 0) = 0 ∨ (nI 0) = 1 from ?_)) ?_
      · exact Or.inl rfl
      show Qp (.inl (some (.int (nI 0)))) M
      exact l0 (Or.inr c2)
    · skip
      refine And.intro (fun _ => (show (nI 1) = 0 ∨ (nI 1) = 1 from ?_)) ?_
      · exact Or.inr rfl
      show Qp (.inl (some (.int (nI 1)))) M
      exact l1 ⟨c1, c2⟩

def s_X12_may : eg_S := fun argv M Qp => match argv with
  | [.ref 121, .int a, .int b] => (m_tn M a ∧ m_tn M b) ∧ Qp (.inl (some (.int (b2i (m_my M a b))))) M
  | _ => False
theorem mo_X12_may : eg_mono s_X12_may := by
  intro argv M Q Q' h
  unfold s_X12_may
  split
  · exact fun z => ⟨z.1, h _ _ z.2⟩
  · exact id
theorem sz_X12_may : ∀ argv M Qp, s_X12_may argv M Qp → (eg_ls0 argv).length ≤ 3 := by
  intro argv M Qp h
  unfold s_X12_may at h
  split at h
  · exact Nat.le_of_ble_eq_true rfl
  · exact h.elim
theorem sr_X12_may : ∀ argv M Qp, s_X12_may argv M Qp → ∃ p0 As, argv = .ref p0 :: As ∧ eg_isO wd M p0 12 = true := by
  intro argv M Qp h
  unfold s_X12_may at h
  split at h
  · exact ⟨_, _, rfl, rfl⟩
  · exact h.elim
set_option maxRecDepth 100000 in
set_option maxHeartbeats 4000000 in
theorem T_X12_may {argv : List Value} {M : eg_M} {Qp : eg_P} (h : s_X12_may argv M Qp) : eg_T wd k_X12_may Qp 0 0 0 (eg_lsN 3 argv) [] M := by
  unfold s_X12_may at h
  split at h
  · rename_i a b
    obtain ⟨hp, hq⟩ := h
    refine st_X12_may_0 _ _ hp.1 (fun _ => hp.2) (fun z => ?_) (fun z => ?_)
    · rw [show m_my M a b = false from decide_eq_false (fun y => z.elim y.1 y.2)] at hq
      exact hq
    · rw [show m_my M a b = true from decide_eq_true z] at hq
      exact hq
  · exact h.elim
theorem de_X12_may : ∀ q ∈ k_X12_may.1, decode cX12_may q.1 = .ok q.2 := by decide +kernel
theorem me_X12_may (g : gl_T) : MT g yX12_may cX12_may 3 (some .boolean) ⟨1, 0, 0, 23⟩ 0 0 s_X12_may := by
  intro hl
  exact eg_met_of (k := k_X12_may) (by decide) rfl ⟨Nat.le_refl _, Nat.le_refl _⟩ rfl sz_X12_may de_X12_may (fun meth hn => (fn)) (fun A s H hE => (fn)) (fun p e s m args below meth c Q A ad0 N0 S0 hK hEx hA => (fc (mt_V hl S0 hK hEx hA (me_X12_dear g) lm_RX12_492 li_X12_dear lx_X12_dear ln_RX12 lc_X12_dear ⟨rfl, by decide, by decide, by decide +kernel⟩ ⟨rfl, rfl⟩ ⟨by decide, by decide⟩ (ci := 12) rfl rfl sr_X12_dear (by decide)) (fn))) (fun p e s m args below meth c Qc XC A ad0 N0 P S0 hK hEx hA hlk hout hPX => (fn)) (fun argv M Qp h => T_X12_may h)

def k_X12_would : eg_C := ([(0, .aload_n 0, 1), (1, .getfield 207, 3), (4, .iload_n 1, 1), (5, .iaload, 1), (6, .iconst (-1), 1), (7, .if_icmp .eq 23, 3), (10, .aload_n 0, 1), (11, .iload_n 1, 1), (12, .iload_n 2, 1), (13, .invokevirtual 492, 3), (16, .aload_n 0, 1), (17, .iload_n 1, 1), (18, .aload_n 0, 1), (19, .getfield 207, 3), (22, .iload_n 1, 1), (23, .iaload, 1), (24, .invokevirtual 492, 3), (27, .if_icmp .ge 7, 3), (30, .iconst 1, 1), (31, .goto 4, 3), (34, .iconst 0, 1), (35, .ireturn, 1)], [(207, 12, 79, false)], [], [(492, 2 + 1, 0, 0, s_X12_dear)], [], 2, 0, 0)
theorem mk_X12_would : ∀ q ∈ k_X12_would.2.2.2.1, eg_mono q.2.2.2.2 := (fc (mo_X12_dear) (fn))
set_option maxRecDepth 100000 in
theorem st_X12_would_0 {Qp : eg_P} {M : eg_M} (t : Int32) (w : Int32)
  (g0 : (vp_in t 16))
  (g1 : (¬ ((eg_gi M 175 t.toNatClampNeg) = (-nI 1))) → (vp_in t 16 ∧ eg_cn (eg_gi M 170 t.toNatClampNeg) 6))
  (l0 : ((eg_gi M 175 t.toNatClampNeg) = (-nI 1) ∨ ¬ (m_de M t (eg_gi M 175 t.toNatClampNeg)) ≤ (m_de M t w)) → Qp (.inl (some (.int (nI 1)))) M)
  (l1 : (¬ (eg_gi M 175 t.toNatClampNeg) = (-nI 1) ∧ (m_de M t (eg_gi M 175 t.toNatClampNeg)) ≤ (m_de M t w)) → Qp (.inl (some (.int (nI 0)))) M) :
  eg_T wd k_X12_would Qp 0 0 0 [some (.ref 121), some (.int t), some (.int w)] [] M := by
  refine eg_T_run mk_X12_would (cut := []) 25 ?_
  refine And.intro (show vp_in t 16 from ?_) ?_
  · exact g0
  refine And.intro (fun (c1 : (eg_gi M 175 t.toNatClampNeg) = (-nI 1)) => ?_) (fun (c1 : ¬ (eg_gi M 175 t.toNatClampNeg) = (-nI 1)) => ?_)
  · skip
    refine And.intro (fun _ => (show (nI 1) = 0 ∨ (nI 1) = 1 from ?_)) ?_
    · exact Or.inr rfl
    show Qp (.inl (some (.int (nI 1)))) M
    exact l0 (Or.inl c1)
  · skip
    refine And.intro (show (vp_in t 16 ∧ eg_cn (eg_gi M 170 t.toNatClampNeg) 6) from ?_) ?_
    · exact g1 c1
    refine And.intro (show vp_in t 16 from ?_) ?_
    · exact g0
    refine And.intro (show (vp_in t 16 ∧ eg_cn (eg_gi M 170 t.toNatClampNeg) 6) from ?_) ?_
    · exact g1 c1
    refine And.intro (fun (c2 : (m_de M t (eg_gi M 175 t.toNatClampNeg)) ≤ (m_de M t w)) => ?_) (fun (c2 : ¬ (m_de M t (eg_gi M 175 t.toNatClampNeg)) ≤ (m_de M t w)) => ?_)
    · skip
      refine And.intro (fun _ => (show (nI 0) = 0 ∨ (nI 0) = 1 from ?_)) ?_
      · exact Or.inl rfl
      show Qp (.inl (some (.int (nI 0)))) M
      exact l1 ⟨c1, c2⟩
    · skip
      refine And.intro (fun _ => (show (nI 1) = 0 ∨ (nI 1) = 1 from ?_)) ?_
      · exact Or.inr rfl
      show Qp (.inl (some (.int (nI 1)))) M
      exact l0 (Or.inr c2)

def s_X12_would : eg_S := fun argv M Qp => match argv with
  | [.ref 121, .int t, .int w] => (m_tn M t) ∧ Qp (.inl (some (.int (b2i (m_wl M t w))))) M
  | _ => False
theorem mo_X12_would : eg_mono s_X12_would := by
  intro argv M Q Q' h
  unfold s_X12_would
  split
  · exact fun z => ⟨z.1, h _ _ z.2⟩
  · exact id
theorem sz_X12_would : ∀ argv M Qp, s_X12_would argv M Qp → (eg_ls0 argv).length ≤ 3 := by
  intro argv M Qp h
  unfold s_X12_would at h
  split at h
  · exact Nat.le_of_ble_eq_true rfl
  · exact h.elim
theorem sr_X12_would : ∀ argv M Qp, s_X12_would argv M Qp → ∃ p0 As, argv = .ref p0 :: As ∧ eg_isO wd M p0 12 = true := by
  intro argv M Qp h
  unfold s_X12_would at h
  split at h
  · exact ⟨_, _, rfl, rfl⟩
  · exact h.elim
set_option maxRecDepth 100000 in
set_option maxHeartbeats 4000000 in
theorem T_X12_would {argv : List Value} {M : eg_M} {Qp : eg_P} (h : s_X12_would argv M Qp) : eg_T wd k_X12_would Qp 0 0 0 (eg_lsN 3 argv) [] M := by
  unfold s_X12_would at h
  split at h
  · rename_i t w
    obtain ⟨hp, hq⟩ := h
    refine st_X12_would_0 _ _ hp.1 (fun _ => hp) (fun z => ?_) (fun z => ?_)
    · rw [show m_wl M t w = true from decide_eq_true z] at hq
      exact hq
    · rw [show m_wl M t w = false from decide_eq_false (fun y => y.elim z.1 (fun x => x z.2))] at hq
      exact hq
    
  · exact h.elim
theorem de_X12_would : ∀ q ∈ k_X12_would.1, decode cX12_would q.1 = .ok q.2 := by decide +kernel
theorem me_X12_would (g : gl_T) : MT g yX12_would cX12_would 3 (some .boolean) ⟨1, 0, 0, 23⟩ 0 0 s_X12_would := by
  intro hl
  exact eg_met_of (k := k_X12_would) (by decide) rfl ⟨Nat.le_refl _, Nat.le_refl _⟩ rfl sz_X12_would de_X12_would (fun meth hn => (fc (eg_FL_of wd_c12 (by decide) lf_RX12_207 (fun h => absurd h (by decide))) (fn))) (fun A s H hE => (fn)) (fun p e s m args below meth c Q A ad0 N0 S0 hK hEx hA => (fc (mt_V hl S0 hK hEx hA (me_X12_dear g) lm_RX12_492 li_X12_dear lx_X12_dear ln_RX12 lc_X12_dear ⟨rfl, by decide, by decide, by decide +kernel⟩ ⟨rfl, rfl⟩ ⟨by decide, by decide⟩ (ci := 12) rfl rfl sr_X12_dear (by decide)) (fn))) (fun p e s m args below meth c Qc XC A ad0 N0 P S0 hK hEx hA hlk hout hPX => (fn)) (fun argv M Qp h => T_X12_would h)

/-- the model: the i-th of the first and the j-th of the second quarrel with the pairing -/
def m_qu (M : eg_M) (i j : Nat) : Prop := m_my M (eg_gi M 172 i) (eg_gi M 173 j) = true ∧ m_wl M (eg_gi M 172 i) (eg_gi M 173 j) = true ∧ m_wl M (eg_gi M 173 j) (eg_gi M 172 i) = true
/-- the model: what the lists of the two sets must be -/
def m_ps (M : eg_M) (u w : Nat) : Prop := u ≤ 6 ∧ w ≤ 6 ∧ eg_gi M 121 80 = nI u ∧ eg_gi M 121 81 = nI w ∧ (∀ i, i < u → vp_in (eg_gi M 172 i) 16) ∧ (∀ j, j < w → vp_in (eg_gi M 173 j) 16) ∧ ∀ t, t < 16 → eg_cn (eg_gi M 170 t) 6
def k_X12_isStable : eg_C := ([(0, .iconst 0, 1), (1, .istore_n 1, 1), (2, .iload_n 1, 1), (3, .aload_n 0, 1), (4, .getfield 495, 3), (7, .if_icmp .ge 84, 3), (10, .iconst 0, 1), (11, .istore_n 2, 1), (12, .iload_n 2, 1), (13, .aload_n 0, 1), (14, .getfield 498, 3), (17, .if_icmp .ge 68, 3), (20, .aload_n 0, 1), (21, .aload_n 0, 1), (22, .getfield 198, 3), (25, .iload_n 1, 1), (26, .iaload, 1), (27, .aload_n 0, 1), (28, .getfield 201, 3), (31, .iload_n 2, 1), (32, .iaload, 1), (33, .invokevirtual 501, 3), (36, .ifCond .eq 43, 3), (39, .aload_n 0, 1), (40, .aload_n 0, 1), (41, .getfield 198, 3), (44, .iload_n 1, 1), (45, .iaload, 1), (46, .aload_n 0, 1), (47, .getfield 201, 3), (50, .iload_n 2, 1), (51, .iaload, 1), (52, .invokevirtual 504, 3), (55, .ifCond .eq 24, 3), (58, .aload_n 0, 1), (59, .aload_n 0, 1), (60, .getfield 201, 3), (63, .iload_n 2, 1), (64, .iaload, 1), (65, .aload_n 0, 1), (66, .getfield 198, 3), (69, .iload_n 1, 1), (70, .iaload, 1), (71, .invokevirtual 504, 3), (74, .ifCond .eq 5, 3), (77, .iconst 0, 1), (78, .ireturn, 1), (79, .iinc 2 1, 3), (82, .goto (-70), 3), (85, .iinc 1 1, 3), (88, .goto (-86), 3), (91, .iconst 1, 1), (92, .ireturn, 1)], [(198, 12, 76, false), (201, 12, 77, false), (495, 12, 80, false), (498, 12, 81, false)], [], [(501, 2 + 1, 0, 0, s_X12_may), (504, 2 + 1, 0, 0, s_X12_would)], [], 2, 0, 0)
theorem mk_X12_isStable : ∀ q ∈ k_X12_isStable.2.2.2.1, eg_mono q.2.2.2.2 := (fc (mo_X12_may) (fc (mo_X12_would) (fn)))
set_option maxRecDepth 100000 in
theorem st_X12_isStable_0 {Qp : eg_P} {M : eg_M} 
  (l0 : eg_T wd k_X12_isStable Qp 2 0 0 [some (.ref 121), some (.int (nI 0)), none] [] M) :
  eg_T wd k_X12_isStable Qp 0 0 0 [some (.ref 121), none, none] [] M := by
  refine eg_T_run mk_X12_isStable (cut := [2, 12, 39, 58]) 56 ?_
  show eg_T wd k_X12_isStable Qp 2 0 0 [some (.ref 121), some (.int (nI 0)), none] [] M
  exact l0

set_option maxRecDepth 100000 in
theorem st_X12_isStable_2 {Qp : eg_P} {M : eg_M} (x1 : Int32) (o2 : Option Value)
  (l0 : ((eg_gi M 121 80) ≤ x1) → Qp (.inl (some (.int (nI 1)))) M)
  (l1 : (¬ (eg_gi M 121 80) ≤ x1) → eg_T wd k_X12_isStable Qp 12 0 0 [some (.ref 121), some (.int x1), some (.int (nI 0))] [] M) :
  eg_T wd k_X12_isStable Qp 2 0 0 [some (.ref 121), some (.int x1), o2] [] M := by
  refine eg_T_run mk_X12_isStable (cut := [2, 12, 39, 58]) 56 ?_
  refine And.intro (fun (c1 : (eg_gi M 121 80) ≤ x1) => ?_) (fun (c1 : ¬ (eg_gi M 121 80) ≤ x1) => ?_)
  · skip
    refine And.intro (fun _ => (show (nI 1) = 0 ∨ (nI 1) = 1 from ?_)) ?_
    · exact Or.inr rfl
    show Qp (.inl (some (.int (nI 1)))) M
    exact l0 c1
  · skip
    show eg_T wd k_X12_isStable Qp 12 0 0 [some (.ref 121), some (.int x1), some (.int (nI 0))] [] M
    exact l1 c1

set_option maxRecDepth 100000 in
theorem st_X12_isStable_12 {Qp : eg_P} {M : eg_M} (x1 : Int32) (x2 : Int32)
  (g0 : (¬ ((eg_gi M 121 81) ≤ x2)) → (vp_in x1 6))
  (g1 : (¬ ((eg_gi M 121 81) ≤ x2)) → (vp_in x2 6))
  (g2 : (¬ ((eg_gi M 121 81) ≤ x2)) → (m_tn M (eg_gi M 172 x1.toNatClampNeg) ∧ m_tn M (eg_gi M 173 x2.toNatClampNeg)))
  (l0 : ((eg_gi M 121 81) ≤ x2) → eg_T wd k_X12_isStable Qp 2 0 0 [some (.ref 121), some (.int (x1 + (nI 1))), some (.int x2)] [] M)
  (l1 : (¬ (eg_gi M 121 81) ≤ x2 ∧ (m_my M (eg_gi M 172 x1.toNatClampNeg) (eg_gi M 173 x2.toNatClampNeg)) = false) → eg_T wd k_X12_isStable Qp 12 0 0 [some (.ref 121), some (.int x1), some (.int (x2 + (nI 1)))] [] M)
  (l2 : (¬ (eg_gi M 121 81) ≤ x2 ∧ ¬ (m_my M (eg_gi M 172 x1.toNatClampNeg) (eg_gi M 173 x2.toNatClampNeg)) = false) → eg_T wd k_X12_isStable Qp 39 0 0 [some (.ref 121), some (.int x1), some (.int x2)] [] M) :
  eg_T wd k_X12_isStable Qp 12 0 0 [some (.ref 121), some (.int x1), some (.int x2)] [] M := by
  refine eg_T_run mk_X12_isStable (cut := [2, 12, 39, 58]) 56 ?_
  refine And.intro (fun (c1 : (eg_gi M 121 81) ≤ x2) => ?_) (fun (c1 : ¬ (eg_gi M 121 81) ≤ x2) => ?_)
  · skip
    show eg_T wd k_X12_isStable Qp 2 0 0 [some (.ref 121), some (.int (x1 + (nI 1))), some (.int x2)] [] M
    exact l0 c1
  · skip
    refine And.intro (show vp_in x1 6 from ?_) ?_
    · exact g0 c1
    refine And.intro (show vp_in x2 6 from ?_) ?_
    · exact g1 c1
    refine And.intro (show (m_tn M (eg_gi M 172 x1.toNatClampNeg) ∧ m_tn M (eg_gi M 173 x2.toNatClampNeg)) from ?_) ?_
    · exact g2 c1
    refine And.intro (fun (c2 : (b2i (m_my M (eg_gi M 172 x1.toNatClampNeg) (eg_gi M 173 x2.toNatClampNeg))) = 0) => ?_) (fun (c2 : ¬ (b2i (m_my M (eg_gi M 172 x1.toNatClampNeg) (eg_gi M 173 x2.toNatClampNeg))) = 0) => ?_)
    · replace c2 := b2i_0.mp c2
      show eg_T wd k_X12_isStable Qp 12 0 0 [some (.ref 121), some (.int x1), some (.int (x2 + (nI 1)))] [] M
      exact l1 ⟨c1, c2⟩
    · replace c2 := b2i_ff c2
      show eg_T wd k_X12_isStable Qp 39 0 0 [some (.ref 121), some (.int x1), some (.int x2)] [] M
      exact l2 ⟨c1, c2⟩

set_option maxRecDepth 100000 in
theorem st_X12_isStable_39 {Qp : eg_P} {M : eg_M} (x1 : Int32) (x2 : Int32)
  (g0 : (vp_in x1 6))
  (g1 : (vp_in x2 6))
  (g2 : (m_tn M (eg_gi M 172 x1.toNatClampNeg)))
  (l0 : ((m_wl M (eg_gi M 172 x1.toNatClampNeg) (eg_gi M 173 x2.toNatClampNeg)) = false) → eg_T wd k_X12_isStable Qp 12 0 0 [some (.ref 121), some (.int x1), some (.int (x2 + (nI 1)))] [] M)
  (l1 : (¬ (m_wl M (eg_gi M 172 x1.toNatClampNeg) (eg_gi M 173 x2.toNatClampNeg)) = false) → eg_T wd k_X12_isStable Qp 58 0 0 [some (.ref 121), some (.int x1), some (.int x2)] [] M) :
  eg_T wd k_X12_isStable Qp 39 0 0 [some (.ref 121), some (.int x1), some (.int x2)] [] M := by
  refine eg_T_run mk_X12_isStable (cut := [2, 12, 39, 58]) 56 ?_
  refine And.intro (show vp_in x1 6 from ?_) ?_
  · exact g0
  refine And.intro (show vp_in x2 6 from ?_) ?_
  · exact g1
  refine And.intro (show (m_tn M (eg_gi M 172 x1.toNatClampNeg)) from ?_) ?_
  · exact g2
  refine And.intro (fun (c1 : (b2i (m_wl M (eg_gi M 172 x1.toNatClampNeg) (eg_gi M 173 x2.toNatClampNeg))) = 0) => ?_) (fun (c1 : ¬ (b2i (m_wl M (eg_gi M 172 x1.toNatClampNeg) (eg_gi M 173 x2.toNatClampNeg))) = 0) => ?_)
  · replace c1 := b2i_0.mp c1
    show eg_T wd k_X12_isStable Qp 12 0 0 [some (.ref 121), some (.int x1), some (.int (x2 + (nI 1)))] [] M
    exact l0 c1
  · replace c1 := b2i_ff c1
    show eg_T wd k_X12_isStable Qp 58 0 0 [some (.ref 121), some (.int x1), some (.int x2)] [] M
    exact l1 c1

set_option maxRecDepth 100000 in
theorem st_X12_isStable_58 {Qp : eg_P} {M : eg_M} (x1 : Int32) (x2 : Int32)
  (g0 : (vp_in x2 6))
  (g1 : (vp_in x1 6))
  (g2 : (m_tn M (eg_gi M 173 x2.toNatClampNeg)))
  (l0 : ((m_wl M (eg_gi M 173 x2.toNatClampNeg) (eg_gi M 172 x1.toNatClampNeg)) = false) → eg_T wd k_X12_isStable Qp 12 0 0 [some (.ref 121), some (.int x1), some (.int (x2 + (nI 1)))] [] M)
  (l1 : (¬ (m_wl M (eg_gi M 173 x2.toNatClampNeg) (eg_gi M 172 x1.toNatClampNeg)) = false) → Qp (.inl (some (.int (nI 0)))) M) :
  eg_T wd k_X12_isStable Qp 58 0 0 [some (.ref 121), some (.int x1), some (.int x2)] [] M := by
  refine eg_T_run mk_X12_isStable (cut := [2, 12, 39, 58]) 56 ?_
  refine And.intro (show vp_in x2 6 from ?_) ?_
  · exact g0
  refine And.intro (show vp_in x1 6 from ?_) ?_
  · exact g1
  refine And.intro (show (m_tn M (eg_gi M 173 x2.toNatClampNeg)) from ?_) ?_
  · exact g2
  refine And.intro (fun (c1 : (b2i (m_wl M (eg_gi M 173 x2.toNatClampNeg) (eg_gi M 172 x1.toNatClampNeg))) = 0) => ?_) (fun (c1 : ¬ (b2i (m_wl M (eg_gi M 173 x2.toNatClampNeg) (eg_gi M 172 x1.toNatClampNeg))) = 0) => ?_)
  · replace c1 := b2i_0.mp c1
    show eg_T wd k_X12_isStable Qp 12 0 0 [some (.ref 121), some (.int x1), some (.int (x2 + (nI 1)))] [] M
    exact l0 c1
  · replace c1 := b2i_ff c1
    refine And.intro (fun _ => (show (nI 0) = 0 ∨ (nI 0) = 1 from ?_)) ?_
    · exact Or.inl rfl
    show Qp (.inl (some (.int (nI 0)))) M
    exact l1 c1

def s_X12_isStable : eg_S := fun argv M Qp => match argv with
  | [.ref 121] => (∃ u w, m_ps M u w) ∧ ∀ (v : Bool), (∀ u w, m_ps M u w → (v = true ↔ ∀ i, i < u → ∀ j, j < w → ¬ m_qu M i j)) → Qp (.inl (some (.int (b2i v)))) M
  | _ => False
theorem mo_X12_isStable : eg_mono s_X12_isStable := by
  intro argv M Q Q' h
  unfold s_X12_isStable
  split
  · exact fun z => ⟨z.1, fun v y => h _ _ (z.2 v y)⟩
  · exact id
theorem sz_X12_isStable : ∀ argv M Qp, s_X12_isStable argv M Qp → (eg_ls0 argv).length ≤ 3 := by
  intro argv M Qp h
  unfold s_X12_isStable at h
  split at h
  · exact Nat.le_of_ble_eq_true rfl
  · exact h.elim
theorem sr_X12_isStable : ∀ argv M Qp, s_X12_isStable argv M Qp → ∃ p0 As, argv = .ref p0 :: As ∧ eg_isO wd M p0 12 = true := by
  intro argv M Qp h
  unfold s_X12_isStable at h
  split at h
  · exact ⟨_, _, rfl, rfl⟩
  · exact h.elim
set_option maxRecDepth 100000 in
set_option maxHeartbeats 4000000 in
theorem T_X12_isStable {argv : List Value} {M : eg_M} {Qp : eg_P} (h : s_X12_isStable argv M Qp) : eg_T wd k_X12_isStable Qp 0 0 0 (eg_lsN 3 argv) [] M := by
  unfold s_X12_isStable at h
  split at h
  · obtain ⟨hp, hq⟩ := h
    obtain ⟨u, w, hu, hw, eu, ew, hF, hS, hW⟩ := hp
    have hq2 : ∀ (v : Bool), (v = true ↔ ∀ i, i < u → ∀ j, j < w → ¬ m_qu M i j) → Qp (.inl (some (.int (b2i v)))) M := by
      intro v hv
      refine hq v (fun u' w' h' => ?_)
      have e1 : u' = u := (n_eq (by have := h'.1; omega) (by omega)).mp (h'.2.2.1.symm.trans eu)
      have e2 : w' = w := (n_eq (by have := h'.2.1; omega) (by omega)).mp (h'.2.2.2.1.symm.trans ew)
      subst e1 e2
      exact hv
    have cF : ∀ i, i < u → eg_cn (eg_gi M 170 (eg_gi M 172 i).toNatClampNeg) 6 := by
      intro i hi
      obtain ⟨t, ht, e⟩ := vp_in_of (hF i hi) (by decide)
      rw [e, n_c (by omega)]
      exact hW t ht
    have cS : ∀ i, i < w → eg_cn (eg_gi M 170 (eg_gi M 173 i).toNatClampNeg) 6 := by
      intro i hi
      obtain ⟨t, ht, e⟩ := vp_in_of (hS i hi) (by decide)
      rw [e, n_c (by omega)]
      exact hW t ht
    have lp : ∀ i (o2 : Option Value), i ≤ u → (∀ a, a < i → ∀ j, j < w → ¬ m_qu M a j) → eg_T wd k_X12_isStable Qp 2 0 0 [some (.ref 121), some (.int (nI i)), o2] [] M := by
      refine eg_for ?_
      intro i o2 hi hI kk
      have st := st_X12_isStable_2 (Qp := Qp) (M := M) (nI i) o2
      simp (disch := omega) only [eu, n_le, Nat.not_le] at st
      refine st (fun z => ?_) (fun z => ?_)
      · have : i = u := by omega
        subst this
        exact hq2 true ⟨fun _ => hI, fun _ => rfl⟩
      have ij : ∀ j (_ : Unit), j ≤ w → (∀ b, b < j → ¬ m_qu M i b) → eg_T wd k_X12_isStable Qp 12 0 0 [some (.ref 121), some (.int (nI i)), some (.int (nI j))] [] M := by
        refine eg_for ?_
        intro j _ hj hJ k2
        have s2 := st_X12_isStable_12 (Qp := Qp) (M := M) (nI i) (nI j)
        simp (disch := omega) only [ew, n_le, n_c, n_in, n_s, Nat.not_le] at s2
        have nx : j < w → ¬ m_qu M i j → eg_T wd k_X12_isStable Qp 12 0 0 [some (.ref 121), some (.int (nI i)), some (.int (nI j + nI 1))] [] M := by
          intro y y2
          rw [n_s]
          exact k2 () y (lt_s hJ y2)
        have s3 := st_X12_isStable_39 (Qp := Qp) (M := M) (nI i) (nI j)
        have s4 := st_X12_isStable_58 (Qp := Qp) (M := M) (nI i) (nI j)
        simp (disch := omega) only [n_c, n_in, n_s] at s3 s4 nx
        refine s2 (fun _ => by omega) (fun _ => by omega) (fun y => ⟨⟨hF i z, cF i z⟩, ⟨hS j y, cS j y⟩⟩) (fun y => ?_) (fun y => ?_) (fun y => ?_)
        · have : j = w := by omega
          subst this
          exact kk _ z (lt_s hI hJ)
        · exact nx y.1 (fun x => absurd x.1 (by rw [y.2]; decide))
        · refine s3 (by omega) (by omega) ⟨hF i z, cF i z⟩ (fun y2 => ?_) (fun y2 => ?_)
          · exact nx y.1 (fun x => absurd x.2.1 (by rw [y2]; decide))
          · refine s4 (by omega) (by omega) ⟨hS j y.1, cS j y.1⟩ (fun y3 => ?_) (fun y3 => ?_)
            · exact nx y.1 (fun x => absurd x.2.2 (by rw [y3]; decide))
            · exact hq2 false ⟨fun x => absurd x (by decide), fun x => absurd ⟨eq_true_of_ne_false y.2, eq_true_of_ne_false y2, eq_true_of_ne_false y3⟩ (x i z j y.1)⟩
      exact ij 0 () (Nat.zero_le _) lt_0
    exact st_X12_isStable_0 (lp 0 none (Nat.zero_le _) lt_0)
    
  · exact h.elim
theorem de_X12_isStable : ∀ q ∈ k_X12_isStable.1, decode cX12_isStable q.1 = .ok q.2 := by decide +kernel
theorem me_X12_isStable (g : gl_T) : MT g yX12_isStable cX12_isStable 3 (some .boolean) ⟨2, 0, 0, 45⟩ 0 0 s_X12_isStable := by
  intro hl
  exact eg_met_of (k := k_X12_isStable) (by decide) rfl ⟨Nat.le_refl _, Nat.le_refl _⟩ rfl sz_X12_isStable de_X12_isStable (fun meth hn => (fc (eg_FL_of wd_c12 (by decide) lf_RX12_198 (fun h => absurd h (by decide))) (fc (eg_FL_of wd_c12 (by decide) lf_RX12_201 (fun h => absurd h (by decide))) (fc (eg_FL_of wd_c12 (by decide) lf_RX12_495 (fun h => absurd h (by decide))) (fc (eg_FL_of wd_c12 (by decide) lf_RX12_498 (fun h => absurd h (by decide))) (fn)))))) (fun A s H hE => (fn)) (fun p e s m args below meth c Q A ad0 N0 S0 hK hEx hA => (fc (mt_V hl S0 hK hEx hA (me_X12_may g) lm_RX12_501 li_X12_may lx_X12_may ln_RX12 lc_X12_may ⟨rfl, by decide, by decide, by decide +kernel⟩ ⟨rfl, rfl⟩ ⟨by decide, by decide⟩ (ci := 12) rfl rfl sr_X12_may (by decide)) (fc (mt_V hl S0 hK hEx hA (me_X12_would g) lm_RX12_504 li_X12_would lx_X12_would ln_RX12 lc_X12_would ⟨rfl, by decide, by decide, by decide +kernel⟩ ⟨rfl, rfl⟩ ⟨by decide, by decide⟩ (ci := 12) rfl rfl sr_X12_would (by decide)) (fn)))) (fun p e s m args below meth c Qc XC A ad0 N0 P S0 hK hEx hA hlk hout hPX => (fn)) (fun argv M Qp h => T_X12_isStable h)

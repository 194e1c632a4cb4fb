theorem si_id (M : eg_M) (p k : Nat) : eg_si M p k (eg_gi M p k) = M := by
  obtain ⟨a, b, c⟩ := M
  unfold eg_si eg_gi eg_up
  refine Prod.ext rfl (Prod.ext ?_ rfl)
  funext q
  by_cases h : q = p
  · subst h
    funext j
    by_cases h2 : j = k <;> simp [h2]
  · simp [h]
/-- the k-th of the twenty bytes -/
def fb (a b c d e : Int32) (k : Nat) : Int32 := ((if k < 4 then a else if k < 8 then b else if k < 12 then c else if k < 16 then d else e) >>> ((nI 24 - nI 8 * (nI k - nI k / nI 4 * nI 4)) &&& 31)) &&& nI 255
/-- the model's tape with k of the bytes behind the t that it holds -/
def m_fm (M : eg_M) (a b c d e : Int32) (t k : Nat) : eg_M := eg_ri (eg_si (eg_si M 121 1 (nI 0)) 121 23 (nI (t + k))) 139 (fun j => if t ≤ j ∧ j < t + k then fb a b c d e (j - t) else eg_gi M 139 j)
theorem m_fm_s {M : eg_M} {a b c d e : Int32} {t k : Nat} {v : Int32} (hv : v = fb a b c d e k) : eg_si (eg_si (m_fm M a b c d e t k) 139 (t + k) v) 121 23 (nI (t + k + 1)) = m_fm M a b c d e t (k + 1) := by
  unfold m_fm
  rw [si_ri, si_ri_n (by decide), si_si]
  congr 1
  funext j
  by_cases y : j = t + k
  · rw [if_pos y, if_pos (by omega), hv]
    congr 1
    omega
  · rw [if_neg y]
    by_cases y2 : t ≤ j ∧ j < t + k
    · rw [if_pos y2, if_pos (by omega)]
    · rw [if_neg y2, if_neg (by omega)]
def k_X12_feed : eg_C := ([(0, .aload_n 0, 1), (1, .iconst 0, 1), (2, .putfield 213, 3), (5, .aload_n 0, 1), (6, .getfield 254, 3), (9, .bipush 20, 2), (11, .iadd, 1), (12, .sipush 400, 3), (15, .if_icmp .le 5, 3), (18, .iconst (-1), 1), (19, .ireturn, 1), (20, .iconst 0, 1), (21, .istore 6, 2), (23, .iload 6, 2), (25, .bipush 20, 2), (27, .if_icmp .ge 93, 3), (30, .iload 6, 2), (32, .iconst 4, 1), (33, .if_icmp .ge 7, 3), (36, .iload_n 1, 1), (37, .goto 39, 3), (40, .iload 6, 2), (42, .bipush 8, 2), (44, .if_icmp .ge 7, 3), (47, .iload_n 2, 1), (48, .goto 28, 3), (51, .iload 6, 2), (53, .bipush 12, 2), (55, .if_icmp .ge 7, 3), (58, .iload_n 3, 1), (59, .goto 17, 3), (62, .iload 6, 2), (64, .bipush 16, 2), (66, .if_icmp .ge 8, 3), (69, .iload 4, 2), (71, .goto 5, 3), (74, .iload 5, 2), (76, .istore 7, 2), (78, .aload_n 0, 1), (79, .getfield 86, 3), (82, .aload_n 0, 1), (83, .getfield 254, 3), (86, .iload 7, 2), (88, .bipush 24, 2), (90, .bipush 8, 2), (92, .iload 6, 2), (94, .iconst 4, 1), (95, .irem, 1), (96, .imul, 1), (97, .isub, 1), (98, .ishr, 1), (99, .sipush 255, 3), (102, .iand, 1), (103, .iastore, 1), (104, .aload_n 0, 1), (105, .dup, 1), (106, .getfield 254, 3), (109, .iconst 1, 1), (110, .iadd, 1), (111, .putfield 254, 3), (114, .iinc 6 1, 3), (117, .goto (-94), 3), (120, .aload_n 0, 1), (121, .getfield 254, 3), (124, .ireturn, 1)], [(86, 12, 22, false), (213, 12, 1, true), (254, 12, 23, true)], [], [], [], 1, 0, 0)
theorem mk_X12_feed : ∀ q ∈ k_X12_feed.2.2.2.1, eg_mono q.2.2.2.2 := (fn)
set_option maxRecDepth 100000 in
theorem st_X12_feed_0 {Qp : eg_P} {M : eg_M} (a : Int32) (b : Int32) (c : Int32) (d : Int32) (e : Int32)
  (l0 : (((eg_gi M 121 23) + (nI 20)) ≤ (nI 400)) → eg_T wd k_X12_feed Qp 23 0 0 [some (.ref 121), some (.int a), some (.int b), some (.int c), some (.int d), some (.int e), some (.int (nI 0)), none] [] (eg_si M 121 1 (nI 0)))
  (l1 : (¬ ((eg_gi M 121 23) + (nI 20)) ≤ (nI 400)) → Qp (.inl (some (.int (-nI 1)))) (eg_si M 121 1 (nI 0))) :
  eg_T wd k_X12_feed Qp 0 0 0 [some (.ref 121), some (.int a), some (.int b), some (.int c), some (.int d), some (.int e), none, none] [] M := by
  refine eg_T_run mk_X12_feed (cut := [23]) 68 ?_
  refine And.intro (fun (c1 : ((eg_gi M 121 23) + (nI 20)) ≤ (nI 400)) => ?_) (fun (c1 : ¬ ((eg_gi M 121 23) + (nI 20)) ≤ (nI 400)) => ?_)
  · skip
    show eg_T wd k_X12_feed Qp 23 0 0 [some (.ref 121), some (.int a), some (.int b), some (.int c), some (.int d), some (.int e), some (.int (nI 0)), none] [] (eg_si M 121 1 (nI 0))
    exact l0 c1
  · skip
    refine And.intro (fun z => absurd z (by decide)) ?_
    show Qp (.inl (some (.int (-nI 1)))) (eg_si M 121 1 (nI 0))
    exact l1 c1

set_option maxRecDepth 100000 in
theorem st_X12_feed_23 {Qp : eg_P} {M : eg_M} (a : Int32) (b : Int32) (c : Int32) (d : Int32) (e : Int32) (x6 : Int32) (o7 : Option Value)
  (g0 : (¬ ((nI 20) ≤ x6)) → (vp_in (eg_gi M 121 23) 400))
  (l0 : ((nI 20) ≤ x6) → Qp (.inl (some (.int (eg_gi M 121 23)))) M)
  (l1 : (¬ (nI 20) ≤ x6 ∧ ((nI 4) ≤ x6 ∧ ((nI 8) ≤ x6 ∧ ((nI 12) ≤ x6 ∧ (nI 16) ≤ x6)))) → eg_T wd k_X12_feed Qp 23 0 0 [some (.ref 121), some (.int a), some (.int b), some (.int c), some (.int d), some (.int e), some (.int (x6 + (nI 1))), some (.int e)] [] (eg_si (eg_si M 139 (eg_gi M 121 23).toNatClampNeg ((e >>> (((nI 24) - ((nI 8) * (x6 - x6 / (nI 4) * (nI 4)))) &&& 31)) &&& (nI 255))) 121 23 ((eg_gi M 121 23) + (nI 1))))
  (l2 : (¬ (nI 20) ≤ x6 ∧ ((nI 4) ≤ x6 ∧ ((nI 8) ≤ x6 ∧ ((nI 12) ≤ x6 ∧ ¬ (nI 16) ≤ x6)))) → eg_T wd k_X12_feed Qp 23 0 0 [some (.ref 121), some (.int a), some (.int b), some (.int c), some (.int d), some (.int e), some (.int (x6 + (nI 1))), some (.int d)] [] (eg_si (eg_si M 139 (eg_gi M 121 23).toNatClampNeg ((d >>> (((nI 24) - ((nI 8) * (x6 - x6 / (nI 4) * (nI 4)))) &&& 31)) &&& (nI 255))) 121 23 ((eg_gi M 121 23) + (nI 1))))
  (l3 : (¬ (nI 20) ≤ x6 ∧ ((nI 4) ≤ x6 ∧ ((nI 8) ≤ x6 ∧ ¬ (nI 12) ≤ x6))) → eg_T wd k_X12_feed Qp 23 0 0 [some (.ref 121), some (.int a), some (.int b), some (.int c), some (.int d), some (.int e), some (.int (x6 + (nI 1))), some (.int c)] [] (eg_si (eg_si M 139 (eg_gi M 121 23).toNatClampNeg ((c >>> (((nI 24) - ((nI 8) * (x6 - x6 / (nI 4) * (nI 4)))) &&& 31)) &&& (nI 255))) 121 23 ((eg_gi M 121 23) + (nI 1))))
  (l4 : (¬ (nI 20) ≤ x6 ∧ ((nI 4) ≤ x6 ∧ ¬ (nI 8) ≤ x6)) → eg_T wd k_X12_feed Qp 23 0 0 [some (.ref 121), some (.int a), some (.int b), some (.int c), some (.int d), some (.int e), some (.int (x6 + (nI 1))), some (.int b)] [] (eg_si (eg_si M 139 (eg_gi M 121 23).toNatClampNeg ((b >>> (((nI 24) - ((nI 8) * (x6 - x6 / (nI 4) * (nI 4)))) &&& 31)) &&& (nI 255))) 121 23 ((eg_gi M 121 23) + (nI 1))))
  (l5 : (¬ (nI 20) ≤ x6 ∧ ¬ (nI 4) ≤ x6) → eg_T wd k_X12_feed Qp 23 0 0 [some (.ref 121), some (.int a), some (.int b), some (.int c), some (.int d), some (.int e), some (.int (x6 + (nI 1))), some (.int a)] [] (eg_si (eg_si M 139 (eg_gi M 121 23).toNatClampNeg ((a >>> (((nI 24) - ((nI 8) * (x6 - x6 / (nI 4) * (nI 4)))) &&& 31)) &&& (nI 255))) 121 23 ((eg_gi M 121 23) + (nI 1)))) :
  eg_T wd k_X12_feed Qp 23 0 0 [some (.ref 121), some (.int a), some (.int b), some (.int c), some (.int d), some (.int e), some (.int x6), o7] [] M := by
  refine eg_T_run mk_X12_feed (cut := [23]) 68 ?_
  refine And.intro (fun (c1 : (nI 20) ≤ x6) => ?_) (fun (c1 : ¬ (nI 20) ≤ x6) => ?_)
  · skip
    refine And.intro (fun z => absurd z (by decide)) ?_
    show Qp (.inl (some (.int (eg_gi M 121 23)))) M
    exact l0 c1
  · skip
    refine And.intro (fun (c2 : (nI 4) ≤ x6) => ?_) (fun (c2 : ¬ (nI 4) ≤ x6) => ?_)
    · skip
      refine And.intro (fun (c3 : (nI 8) ≤ x6) => ?_) (fun (c3 : ¬ (nI 8) ≤ x6) => ?_)
      · skip
        refine And.intro (fun (c4 : (nI 12) ≤ x6) => ?_) (fun (c4 : ¬ (nI 12) ≤ x6) => ?_)
        · skip
          refine And.intro (fun (c5 : (nI 16) ≤ x6) => ?_) (fun (c5 : ¬ (nI 16) ≤ x6) => ?_)
          · skip
            refine And.intro (show ¬ (nI 4) = 0 from ?_) ?_
            · decide
            refine And.intro (show vp_in (eg_gi M 121 23) 400 from ?_) ?_
            · exact g0 c1
            show eg_T wd k_X12_feed Qp 23 0 0 [some (.ref 121), some (.int a), some (.int b), some (.int c), some (.int d), some (.int e), some (.int (x6 + (nI 1))), some (.int e)] [] (eg_si (eg_si M 139 (eg_gi M 121 23).toNatClampNeg ((e >>> (((nI 24) - ((nI 8) * (x6 - x6 / (nI 4) * (nI 4)))) &&& 31)) &&& (nI 255))) 121 23 ((eg_gi M 121 23) + (nI 1)))
            exact l1 ⟨c1, ⟨c2, ⟨c3, ⟨c4, c5⟩⟩⟩⟩
          · skip
            refine And.intro (show ¬ (nI 4) = 0 from ?_) ?_
            · decide
            refine And.intro (show vp_in (eg_gi M 121 23) 400 from ?_) ?_
            · exact g0 c1
            show eg_T wd k_X12_feed Qp 23 0 0 [some (.ref 121), some (.int a), some (.int b), some (.int c), some (.int d), some (.int e), some (.int (x6 + (nI 1))), some (.int d)] [] (eg_si (eg_si M 139 (eg_gi M 121 23).toNatClampNeg ((d >>> (((nI 24) - ((nI 8) * (x6 - x6 / (nI 4) * (nI 4)))) &&& 31)) &&& (nI 255))) 121 23 ((eg_gi M 121 23) + (nI 1)))
            exact l2 ⟨c1, ⟨c2, ⟨c3, ⟨c4, c5⟩⟩⟩⟩
        · skip
          refine And.intro (show ¬ (nI 4) = 0 from ?_) ?_
          · decide
          refine And.intro (show vp_in (eg_gi M 121 23) 400 from ?_) ?_
          · exact g0 c1
          show eg_T wd k_X12_feed Qp 23 0 0 [some (.ref 121), some (.int a), some (.int b), some (.int c), some (.int d), some (.int e), some (.int (x6 + (nI 1))), some (.int c)] [] (eg_si (eg_si M 139 (eg_gi M 121 23).toNatClampNeg ((c >>> (((nI 24) - ((nI 8) * (x6 - x6 / (nI 4) * (nI 4)))) &&& 31)) &&& (nI 255))) 121 23 ((eg_gi M 121 23) + (nI 1)))
          exact l3 ⟨c1, ⟨c2, ⟨c3, c4⟩⟩⟩
      · skip
        refine And.intro (show ¬ (nI 4) = 0 from ?_) ?_
        · decide
        refine And.intro (show vp_in (eg_gi M 121 23) 400 from ?_) ?_
        · exact g0 c1
        show eg_T wd k_X12_feed Qp 23 0 0 [some (.ref 121), some (.int a), some (.int b), some (.int c), some (.int d), some (.int e), some (.int (x6 + (nI 1))), some (.int b)] [] (eg_si (eg_si M 139 (eg_gi M 121 23).toNatClampNeg ((b >>> (((nI 24) - ((nI 8) * (x6 - x6 / (nI 4) * (nI 4)))) &&& 31)) &&& (nI 255))) 121 23 ((eg_gi M 121 23) + (nI 1)))
        exact l4 ⟨c1, ⟨c2, c3⟩⟩
    · skip
      refine And.intro (show ¬ (nI 4) = 0 from ?_) ?_
      · decide
      refine And.intro (show vp_in (eg_gi M 121 23) 400 from ?_) ?_
      · exact g0 c1
      show eg_T wd k_X12_feed Qp 23 0 0 [some (.ref 121), some (.int a), some (.int b), some (.int c), some (.int d), some (.int e), some (.int (x6 + (nI 1))), some (.int a)] [] (eg_si (eg_si M 139 (eg_gi M 121 23).toNatClampNeg ((a >>> (((nI 24) - ((nI 8) * (x6 - x6 / (nI 4) * (nI 4)))) &&& 31)) &&& (nI 255))) 121 23 ((eg_gi M 121 23) + (nI 1)))
      exact l5 ⟨c1, c2⟩

def s_X12_feed : eg_S := fun argv M Qp => match argv with
  | [.ref 121, .int a, .int b, .int c, .int d, .int e] => (eg_cn (eg_gi M 121 23) 400) ∧ ∀ (v : Int32) (M2 : eg_M), ((400 < (eg_gi M 121 23).toNatClampNeg + 20 ∧ v = -nI 1 ∧ M2 = eg_si M 121 1 (nI 0)) ∨ ((eg_gi M 121 23).toNatClampNeg + 20 ≤ 400 ∧ v = nI ((eg_gi M 121 23).toNatClampNeg + 20) ∧ M2 = m_fm M a b c d e (eg_gi M 121 23).toNatClampNeg 20)) → Qp (.inl (some (.int (v)))) M2
  | _ => False
theorem mo_X12_feed : eg_mono s_X12_feed := by
  intro argv M Q Q' h
  unfold s_X12_feed
  split
  · exact fun z => ⟨z.1, fun v M2 y => h _ _ (z.2 v M2 y)⟩
  · exact id
theorem sz_X12_feed : ∀ argv M Qp, s_X12_feed argv M Qp → (eg_ls0 argv).length ≤ 8 := by
  intro argv M Qp h
  unfold s_X12_feed at h
  split at h
  · exact Nat.le_of_ble_eq_true rfl
  · exact h.elim
theorem sr_X12_feed : ∀ argv M Qp, s_X12_feed argv M Qp → ∃ p0 As, argv = .ref p0 :: As ∧ eg_isO wd M p0 12 = true := by
  intro argv M Qp h
  unfold s_X12_feed at h
  split at h
  · exact ⟨_, _, rfl, rfl⟩
  · exact h.elim
set_option maxRecDepth 100000 in
set_option maxHeartbeats 4000000 in
theorem T_X12_feed {argv : List Value} {M : eg_M} {Qp : eg_P} (h : s_X12_feed argv M Qp) : eg_T wd k_X12_feed Qp 0 0 0 (eg_lsN 8 argv) [] M := by
  unfold s_X12_feed at h
  split at h
  · rename_i a b c d e
    obtain ⟨hp, hq⟩ := h
    obtain ⟨t, ht, hN⟩ := hp
    rw [hN, n_c (by omega)] at hq
    have s0 := st_X12_feed_0 (Qp := Qp) (M := M) a b c d e
    simp (disch := omega) only [hN, n_s, n_le] at s0
    refine s0 (fun z => ?_) (fun z => hq _ _ (Or.inl ⟨by omega, rfl, rfl⟩))
    have lp : ∀ k (o7 : Option Value), k ≤ 20 → True → eg_T wd k_X12_feed Qp 23 0 0 [some (.ref 121), some (.int a), some (.int b), some (.int c), some (.int d), some (.int e), some (.int (nI k)), o7] [] (m_fm M a b c d e t k) := by
      refine eg_for ?_
      intro k o7 hk _ kk
      have st := st_X12_feed_23 (Qp := Qp) (M := m_fm M a b c d e t k) a b c d e (nI k) o7
      have rd : eg_gi (m_fm M a b c d e t k) 121 23 = nI (t + k) := rfl
      have r2 : ∀ v, eg_gi (eg_si (m_fm M a b c d e t k) 139 (t + k) v) 121 23 = nI (t + k) := fun _ => rfl
      simp (disch := omega) only [rd, n_c, r2, n_le, n_in, n_s, Nat.not_le] at st
      refine st (fun z => by omega) (fun z => ?_) (fun z => ?_) (fun z => ?_) (fun z => ?_) (fun z => ?_) (fun z => ?_)
      · have : k = 20 := by omega
        subst this
        exact hq _ _ (Or.inr ⟨by omega, rfl, rfl⟩)
      all_goals
        have := kk (some (.int (if k < 4 then a else if k < 8 then b else if k < 12 then c else if k < 16 then d else e))) (by omega) trivial
        rw [← m_fm_s rfl, fb] at this
        simp (disch := omega) only [if_pos, if_neg] at this
        exact this
    have := lp 0 none (by omega) trivial
    have e0 : m_fm M a b c d e t 0 = eg_si M 121 1 (nI 0) := by
      unfold m_fm
      have e1 : eg_si (eg_si M 121 1 (nI 0)) 121 23 (nI (t + 0)) = eg_si M 121 1 (nI 0) := by
        rw [Nat.add_zero, ← hN]
        exact si_id _ _ _
      rw [e1]
      conv => rhs; rw [← ri_id (eg_si M 121 1 (nI 0)) 139]
      congr 1
      funext j
      rw [if_neg (by omega)]
      rfl
    rw [e0] at this
    exact this
  · exact h.elim
theorem de_X12_feed : ∀ q ∈ k_X12_feed.1, decode cX12_feed q.1 = .ok q.2 := by decide +kernel
theorem me_X12_feed (g : gl_T) : MT g yX12_feed cX12_feed 8 (some .int) ⟨0, 0, 0, 0⟩ 0 0 s_X12_feed := by
  intro hl
  exact eg_met_of (k := k_X12_feed) (by decide) rfl ⟨Nat.le_refl _, Nat.le_refl _⟩ rfl sz_X12_feed de_X12_feed (fun meth hn => (fc (eg_FL_of wd_c12 (by decide) lf_RX12_86 (fun h => absurd h (by decide))) (fc (eg_FL_of wd_c12 (by decide) lf_RX12_213 (fun _ => Or.inl rfl)) (fc (eg_FL_of wd_c12 (by decide) lf_RX12_254 (fun _ => Or.inl rfl)) (fn))))) (fun A s H hE => (fn)) (fun p e s m args below meth c Q A ad0 N0 S0 hK hEx hA => (fn)) (fun p e s m args below meth c Qc XC A ad0 N0 P S0 hK hEx hA hlk hout hPX => (fn)) (fun argv M Qp h => T_X12_feed h)

/-- the model: the i-th town of plan p -/
def m_pt (M : eg_M) (p i : Nat) : Int32 := eg_gi M 127 (nI 2 * eg_gi M 164 p + nI i).toNatClampNeg
def m_h2 (M : eg_M) (p q i : Nat) : Bool := decide (m_pt M p i = m_pt M q 0) || decide (m_pt M p i = m_pt M q 1)
def m_hj (M : eg_M) (p q i : Nat) : Nat → Bool
  | 0 => decide (m_pt M p i = m_pt M q 0) || decide (m_pt M p i = m_pt M q 1)
  | 1 => decide (m_pt M p i = m_pt M q 1)
  | _ => false
theorem m_hj_s {M : eg_M} {p q i j : Nat} (h : j < 2) : m_hj M p q i j = (decide (m_pt M p i = m_pt M q j) || m_hj M p q i (j + 1)) := by
  rcases (show j = 0 ∨ j = 1 by omega) with rfl | rfl
  · rfl
  · exact (Bool.or_false _).symm
def k_X12_haveTown : eg_C := ([(0, .iconst 0, 1), (1, .istore_n 3, 1), (2, .iconst 0, 1), (3, .istore 4, 2), (5, .iload 4, 2), (7, .iconst 2, 1), (8, .if_icmp .ge 69, 3), (11, .iconst 0, 1), (12, .istore 5, 2), (14, .iload 5, 2), (16, .iconst 2, 1), (17, .if_icmp .ge 54, 3), (20, .iload_n 3, 1), (21, .ifCond .ne 38, 3), (24, .aload_n 0, 1), (25, .getfield 50, 3), (28, .iconst 2, 1), (29, .aload_n 0, 1), (30, .getfield 174, 3), (33, .iload_n 1, 1), (34, .iaload, 1), (35, .imul, 1), (36, .iload 4, 2), (38, .iadd, 1), (39, .iaload, 1), (40, .aload_n 0, 1), (41, .getfield 50, 3), (44, .iconst 2, 1), (45, .aload_n 0, 1), (46, .getfield 174, 3), (49, .iload_n 2, 1), (50, .iaload, 1), (51, .imul, 1), (52, .iload 5, 2), (54, .iadd, 1), (55, .iaload, 1), (56, .if_icmp .ne 7, 3), (59, .iconst 1, 1), (60, .goto 4, 3), (63, .iconst 0, 1), (64, .istore_n 3, 1), (65, .iinc 5 1, 3), (68, .goto (-54), 3), (71, .iinc 4 1, 3), (74, .goto (-69), 3), (77, .iload_n 3, 1), (78, .ireturn, 1)], [(50, 12, 10, false), (174, 12, 68, false)], [], [], [], 2, 0, 0)
theorem mk_X12_haveTown : ∀ q ∈ k_X12_haveTown.2.2.2.1, eg_mono q.2.2.2.2 := (fn)
set_option maxRecDepth 100000 in
theorem st_X12_haveTown_0 {Qp : eg_P} {M : eg_M} (a : Int32) (b : Int32)
  (l0 : eg_T wd k_X12_haveTown Qp 5 0 0 [some (.ref 121), some (.int a), some (.int b), some (.int (nI 0)), some (.int (nI 0)), none] [] M) :
  eg_T wd k_X12_haveTown Qp 0 0 0 [some (.ref 121), some (.int a), some (.int b), none, none, none] [] M := by
  refine eg_T_run mk_X12_haveTown (cut := [5, 14]) 50 ?_
  show eg_T wd k_X12_haveTown Qp 5 0 0 [some (.ref 121), some (.int a), some (.int b), some (.int (nI 0)), some (.int (nI 0)), none] [] M
  exact l0

set_option maxRecDepth 100000 in
theorem st_X12_haveTown_5 {Qp : eg_P} {M : eg_M} (a : Int32) (b : Int32) (x3 : Int32) (x4 : Int32) (o5 : Option Value)
  (g0 : ((nI 2) ≤ x4) → (x3 = 0 ∨ x3 = 1))
  (l0 : ((nI 2) ≤ x4) → Qp (.inl (some (.int x3))) M)
  (l1 : (¬ (nI 2) ≤ x4) → eg_T wd k_X12_haveTown Qp 14 0 0 [some (.ref 121), some (.int a), some (.int b), some (.int x3), some (.int x4), some (.int (nI 0))] [] M) :
  eg_T wd k_X12_haveTown Qp 5 0 0 [some (.ref 121), some (.int a), some (.int b), some (.int x3), some (.int x4), o5] [] M := by
  refine eg_T_run mk_X12_haveTown (cut := [5, 14]) 50 ?_
  refine And.intro (fun (c1 : (nI 2) ≤ x4) => ?_) (fun (c1 : ¬ (nI 2) ≤ x4) => ?_)
  · skip
    refine And.intro (fun _ => (show x3 = 0 ∨ x3 = 1 from ?_)) ?_
    · exact g0 c1
    show Qp (.inl (some (.int x3))) M
    exact l0 c1
  · skip
    show eg_T wd k_X12_haveTown Qp 14 0 0 [some (.ref 121), some (.int a), some (.int b), some (.int x3), some (.int x4), some (.int (nI 0))] [] M
    exact l1 c1

set_option maxRecDepth 100000 in
theorem st_X12_haveTown_14 {Qp : eg_P} {M : eg_M} (a : Int32) (b : Int32) (x3 : Int32) (x4 : Int32) (x5 : Int32)
  (g0 : (¬ ((nI 2) ≤ x5)) → (x3 = 0) → (vp_in a 6))
  (g1 : (¬ ((nI 2) ≤ x5)) → (x3 = 0) → (vp_in (((nI 2) * (eg_gi M 164 a.toNatClampNeg)) + x4) 48))
  (g2 : (¬ ((nI 2) ≤ x5)) → (x3 = 0) → (vp_in b 6))
  (g3 : (¬ ((nI 2) ≤ x5)) → (x3 = 0) → (vp_in (((nI 2) * (eg_gi M 164 b.toNatClampNeg)) + x5) 48))
  (l0 : ((nI 2) ≤ x5) → eg_T wd k_X12_haveTown Qp 5 0 0 [some (.ref 121), some (.int a), some (.int b), some (.int x3), some (.int (x4 + (nI 1))), some (.int x5)] [] M)
  (l1 : (¬ (nI 2) ≤ x5 ∧ (¬ x3 = 0 ∨ (eg_gi M 127 (((nI 2) * (eg_gi M 164 a.toNatClampNeg)) + x4).toNatClampNeg) = (eg_gi M 127 (((nI 2) * (eg_gi M 164 b.toNatClampNeg)) + x5).toNatClampNeg))) → eg_T wd k_X12_haveTown Qp 14 0 0 [some (.ref 121), some (.int a), some (.int b), some (.int (nI 1)), some (.int x4), some (.int (x5 + (nI 1)))] [] M)
  (l2 : (¬ (nI 2) ≤ x5 ∧ (x3 = 0 ∧ ¬ (eg_gi M 127 (((nI 2) * (eg_gi M 164 a.toNatClampNeg)) + x4).toNatClampNeg) = (eg_gi M 127 (((nI 2) * (eg_gi M 164 b.toNatClampNeg)) + x5).toNatClampNeg))) → eg_T wd k_X12_haveTown Qp 14 0 0 [some (.ref 121), some (.int a), some (.int b), some (.int (nI 0)), some (.int x4), some (.int (x5 + (nI 1)))] [] M) :
  eg_T wd k_X12_haveTown Qp 14 0 0 [some (.ref 121), some (.int a), some (.int b), some (.int x3), some (.int x4), some (.int x5)] [] M := by
  refine eg_T_run mk_X12_haveTown (cut := [5, 14]) 50 ?_
  refine And.intro (fun (c1 : (nI 2) ≤ x5) => ?_) (fun (c1 : ¬ (nI 2) ≤ x5) => ?_)
  · skip
    show eg_T wd k_X12_haveTown Qp 5 0 0 [some (.ref 121), some (.int a), some (.int b), some (.int x3), some (.int (x4 + (nI 1))), some (.int x5)] [] M
    exact l0 c1
  · skip
    refine And.intro (fun (c2 : x3 = 0) => ?_) (fun (c2 : ¬ x3 = 0) => ?_)
    · skip
      refine And.intro (show vp_in a 6 from ?_) ?_
      · exact g0 c1 c2
      refine And.intro (show vp_in (((nI 2) * (eg_gi M 164 a.toNatClampNeg)) + x4) 48 from ?_) ?_
      · exact g1 c1 c2
      refine And.intro (show vp_in b 6 from ?_) ?_
      · exact g2 c1 c2
      refine And.intro (show vp_in (((nI 2) * (eg_gi M 164 b.toNatClampNeg)) + x5) 48 from ?_) ?_
      · exact g3 c1 c2
      refine And.intro (fun (c3 : (eg_gi M 127 (((nI 2) * (eg_gi M 164 a.toNatClampNeg)) + x4).toNatClampNeg) = (eg_gi M 127 (((nI 2) * (eg_gi M 164 b.toNatClampNeg)) + x5).toNatClampNeg)) => ?_) (fun (c3 : ¬ (eg_gi M 127 (((nI 2) * (eg_gi M 164 a.toNatClampNeg)) + x4).toNatClampNeg) = (eg_gi M 127 (((nI 2) * (eg_gi M 164 b.toNatClampNeg)) + x5).toNatClampNeg)) => ?_)
      · skip
        show eg_T wd k_X12_haveTown Qp 14 0 0 [some (.ref 121), some (.int a), some (.int b), some (.int (nI 1)), some (.int x4), some (.int (x5 + (nI 1)))] [] M
        exact l1 ⟨c1, (Or.inr c3)⟩
      · skip
        show eg_T wd k_X12_haveTown Qp 14 0 0 [some (.ref 121), some (.int a), some (.int b), some (.int (nI 0)), some (.int x4), some (.int (x5 + (nI 1)))] [] M
        exact l2 ⟨c1, ⟨c2, c3⟩⟩
    · skip
      show eg_T wd k_X12_haveTown Qp 14 0 0 [some (.ref 121), some (.int a), some (.int b), some (.int (nI 1)), some (.int x4), some (.int (x5 + (nI 1)))] [] M
      exact l1 ⟨c1, (Or.inl c2)⟩

def s_X12_haveTown : eg_S := fun argv M Qp => match argv with
  | [.ref 121, .int a, .int b] => (vp_in a 6 ∧ vp_in b 6 ∧ vp_in (eg_gi M 164 a.toNatClampNeg) 24 ∧ vp_in (eg_gi M 164 b.toNatClampNeg) 24) ∧ Qp (.inl (some (.int (b2i (m_h2 M a.toNatClampNeg b.toNatClampNeg 0 || m_h2 M a.toNatClampNeg b.toNatClampNeg 1))))) M
  | _ => False
theorem mo_X12_haveTown : eg_mono s_X12_haveTown := by
  intro argv M Q Q' h
  unfold s_X12_haveTown
  split
  · exact fun z => ⟨z.1, h _ _ z.2⟩
  · exact id
theorem sz_X12_haveTown : ∀ argv M Qp, s_X12_haveTown argv M Qp → (eg_ls0 argv).length ≤ 6 := by
  intro argv M Qp h
  unfold s_X12_haveTown at h
  split at h
  · exact Nat.le_of_ble_eq_true rfl
  · exact h.elim
theorem sr_X12_haveTown : ∀ argv M Qp, s_X12_haveTown argv M Qp → ∃ p0 As, argv = .ref p0 :: As ∧ eg_isO wd M p0 12 = true := by
  intro argv M Qp h
  unfold s_X12_haveTown at h
  split at h
  · exact ⟨_, _, rfl, rfl⟩
  · exact h.elim
set_option maxRecDepth 100000 in
set_option maxHeartbeats 4000000 in
theorem T_X12_haveTown {argv : List Value} {M : eg_M} {Qp : eg_P} (h : s_X12_haveTown argv M Qp) : eg_T wd k_X12_haveTown Qp 0 0 0 (eg_lsN 6 argv) [] M := by
  unfold s_X12_haveTown at h
  split at h
  · rename_i a b
    obtain ⟨hp, hq⟩ := h
    obtain ⟨ha, hb, hp, hr⟩ := hp
    obtain ⟨p, hp6, rfl⟩ := vp_in_of ha (by decide)
    obtain ⟨q, hq6, rfl⟩ := vp_in_of hb (by decide)
    simp (disch := omega) only [n_c] at hp hr hq
    have gp : ∀ i, i < 2 → vp_in (nI 2 * eg_gi M 164 p + nI i) 48 := by
      intro i hi
      obtain ⟨x, hx, e⟩ := vp_in_of hp (by decide)
      rw [e, n_m, n_s]
      exact vp_in_nI (by omega) (by decide)
    have gq : ∀ i, i < 2 → vp_in (nI 2 * eg_gi M 164 q + nI i) 48 := by
      intro i hi
      obtain ⟨x, hx, e⟩ := vp_in_of hr (by decide)
      rw [e, n_m, n_s]
      exact vp_in_nI (by omega) (by decide)
    have inn : ∀ i, i < 2 → ∀ j (s : Bool), j ≤ 2 → True → (eg_T wd k_X12_haveTown Qp 5 0 0 [some (.ref 121), some (.int (nI p)), some (.int (nI q)), some (.int (b2i (s || m_hj M p q i j))), some (.int (nI (i + 1))), some (.int (nI 2))] [] M) → eg_T wd k_X12_haveTown Qp 14 0 0 [some (.ref 121), some (.int (nI p)), some (.int (nI q)), some (.int (b2i s)), some (.int (nI i)), some (.int (nI j))] [] M := by
      intro i hi
      refine eg_for ?_
      intro j s hj _ kk hT
      have st := st_X12_haveTown_14 (Qp := Qp) (M := M) (nI p) (nI q) (b2i s) (nI i) (nI j)
      simp (disch := omega) only [n_c, n_le, n_s, Nat.not_le] at st
      refine st (fun _ _ => ha) (fun _ _ => gp i hi) (fun _ _ => hb) (fun z _ => gq j z) (fun z => ?_) (fun z => ?_) (fun z => ?_)
      · have : j = 2 := by omega
        subst this
        rw [show m_hj M p q i 2 = false from rfl, Bool.or_false] at hT
        exact hT
      · refine kk true z.1 trivial ?_
        have : (s || m_hj M p q i j) = true := by
          rcases z.2 with y | y
          · rw [b2i_n0.mp y, Bool.true_or]
          · rw [m_hj_s z.1, show decide (m_pt M p i = m_pt M q j) = true from decide_eq_true y, Bool.true_or, Bool.or_true]
        rw [this] at hT
        rw [Bool.true_or]
        exact hT
      · refine kk false z.1 trivial ?_
        rw [b2i_0.mp z.2.1, Bool.false_or] at hT
        rw [Bool.false_or]
        have : m_hj M p q i (j + 1) = m_hj M p q i j := by
          rw [m_hj_s z.1, show decide (m_pt M p i = m_pt M q j) = false from decide_eq_false z.2.2, Bool.false_or]
        rw [this]
        exact hT
    have h2 : ∀ i, m_hj M p q i 0 = m_h2 M p q i := fun _ => rfl
    have s5 : ∀ i (s : Bool) (o5 : Option Value), i < 2 → (eg_T wd k_X12_haveTown Qp 5 0 0 [some (.ref 121), some (.int (nI p)), some (.int (nI q)), some (.int (b2i (s || m_h2 M p q i))), some (.int (nI (i + 1))), some (.int (nI 2))] [] M) → eg_T wd k_X12_haveTown Qp 5 0 0 [some (.ref 121), some (.int (nI p)), some (.int (nI q)), some (.int (b2i s)), some (.int (nI i)), o5] [] M := by
      intro i s o5 hi hT
      have st := st_X12_haveTown_5 (Qp := Qp) (M := M) (nI p) (nI q) (b2i s) (nI i) o5
      simp (disch := omega) only [n_c, n_le, n_s, Nat.not_le] at st
      refine st (fun z => b2i_01 _) (fun z => absurd z (by omega)) (fun z => ?_)
      refine inn i hi 0 s (by omega) trivial ?_
      rw [h2]
      exact hT
    refine st_X12_haveTown_0 _ _ (s5 0 false none (by omega) (s5 1 _ _ (by omega) ?_))
    have st := st_X12_haveTown_5 (Qp := Qp) (M := M) (nI p) (nI q) (b2i (false || m_h2 M p q 0 || m_h2 M p q 1)) (nI 2) (some (.int (nI 2)))
    refine st (fun z => b2i_01 _) (fun z => ?_) (fun z => absurd (by decide) z)
    rw [Bool.false_or]
    exact hq
    
  · exact h.elim
theorem de_X12_haveTown : ∀ q ∈ k_X12_haveTown.1, decode cX12_haveTown q.1 = .ok q.2 := by decide +kernel
theorem me_X12_haveTown (g : gl_T) : MT g yX12_haveTown cX12_haveTown 6 (some .boolean) ⟨0, 0, 0, 0⟩ 0 0 s_X12_haveTown := by
  intro hl
  exact eg_met_of (k := k_X12_haveTown) (by decide) rfl ⟨Nat.le_refl _, Nat.le_refl _⟩ rfl sz_X12_haveTown de_X12_haveTown (fun meth hn => (fc (eg_FL_of wd_c12 (by decide) lf_RX12_50 (fun h => absurd h (by decide))) (fc (eg_FL_of wd_c12 (by decide) lf_RX12_174 (fun h => absurd h (by decide))) (fn)))) (fun A s H hE => (fn)) (fun p e s m args below meth c Q A ad0 N0 S0 hK hEx hA => (fn)) (fun p e s m args below meth c Qc XC A ad0 N0 P S0 hK hEx hA hlk hout hPX => (fn)) (fun argv M Qp h => T_X12_haveTown h)

theorem sm_sm {M : eg_M} {w w' : Int32} {f f' : Nat → Int32} {t t' : k_T5} : k_sm (k_sm M w f t) w' f' t' = k_sm M w' f' t' := by
  obtain ⟨m1, mi, ml, mr⟩ := M
  unfold k_sm eg_rl eg_ri eg_si eg_up
  dsimp only
  refine Prod.ext rfl (Prod.ext ?_ (Prod.ext ?_ rfl))
  · dsimp only
    funext q
    by_cases h1 : q = 42
    · subst h1; rfl
    · by_cases h2 : q = 1
      · subst h2
        simp only [if_neg h1, if_true]
        funext j
        by_cases h3 : j = 12
        · subst h3; rfl
        · simp only [if_neg h3, if_true]
      · simp only [if_neg h1, if_neg h2]
  · dsimp only
    funext q
    by_cases h1 : q = 45
    · subst h1; rfl
    · by_cases h2 : q = 44
      · subst h2; rfl
      · by_cases h3 : q = 43
        · subst h3; rfl
        · by_cases h4 : q = 41
          · subst h4; rfl
          · by_cases h5 : q = 40
            · subst h5; rfl
            · simp only [if_neg h1, if_neg h2, if_neg h3, if_neg h4, if_neg h5]
theorem sm_co {M : eg_M} {s : Int32} {f : Nat → Int32} {t : k_T5} (h : k_pq M) (e : Nat) : k_co (k_sm M s f t) e = k_co M e := by
  obtain ⟨q, P, h1, h2, h3, h4⟩ := h
  have h1' : eg_ref (eg_sh wd (k_sm M s f t) 1) (k_sm M s f t) 1 5 = some q := h1
  have e1 : eg_gi (k_sm M s f t) q 2 = eg_gi M q 2 := sm_gi (k_8n h2) (Or.inr (by decide))
  unfold k_co
  rw [h1', h1]
  show _ * (eg_gi (k_sm M s f t) q 2).toInt64 = _ * (eg_gi M q 2).toInt64
  rw [e1]
  rfl
theorem sm_es {M : eg_M} {s : Int32} {f : Nat → Int32} {t : k_T5} (h : k_es M) : k_es (k_sm M s f t) := h
/-- the class: the grant of visit e -/
def k_ge (M : eg_M) (P : Nat) (CL : List (Int32 × List Int32)) (e : Nat) : Nat := k_gv M P CL (eg_gi M 19 e / nI 360) ((k_vl M (eg_gi M 19 e / nI 360)).idxOf e)
/-- the class: what event e adds to the balance of charter c's side s by day d -/
def k_bc (M : eg_M) (P : Nat) (CL : List (Int32 × List Int32)) (c s d : Int32) (e : Nat) : Int64 :=
  if ¬ eg_gi M 35 e = 0 ∧ eg_gi M 14 e = c ∧ ¬ d < eg_gi M 19 e then
    (if eg_gi M 13 e = nI 1 then (if eg_gi M 16 e = s then k_co M e - k_co M e / lN 2 - lN (k_ge M P CL e) else k_co M e / lN 2) else if eg_gi M 16 e = s then (eg_gi M 15 e).toInt64 else lN 0)
  else lN 0
def k_bl (M : eg_M) (P : Nat) (CL : List (Int32 × List Int32)) (c s d : Int32) : Nat → Int64
  | 0 => lN 0
  | e + 1 => k_bl M P CL c s d e + k_bc M P CL c s d e
theorem k_vl_in {M : eg_M} (h : k_es M) {e : Nat} (he : e < (eg_gi M 12 10).toNatClampNeg) (h1 : ¬ eg_gi M 35 e = 0) (h2 : eg_gi M 13 e = nI 1) : e ∈ k_vl M (eg_gi M 19 e / nI 360) := by
  obtain ⟨⟨L, ⟨n, hn, hN⟩, hL, ⟨hl1, hl2, hl3⟩, _⟩, _⟩ := h
  unfold k_vl
  rw [hN, n_c (by omega)] at hl1 hl3 he ⊢
  obtain ⟨i, hi, ei⟩ := List.mem_iff_getElem.mp ((hl3 e).mpr he)
  have e22 : (eg_gi M 22 i).toNatClampNeg = e := by rw [hL i hi, ei, n_c (by omega)]
  refine List.mem_map.mpr ⟨i, fl_mem.mpr ⟨by omega, ?_⟩, e22⟩
  unfold k_vy
  rw [decide_eq_true_eq, e22]
  exact ⟨h1, h2, rfl⟩
def k_X3_balanceOf : eg_C := ([(0, .lconst 0, 1), (1, .lstore 4, 2), (3, .iconst 0, 1), (4, .istore 6, 2), (6, .iload 6, 2), (8, .aload_n 0, 1), (9, .getfield 28, 3), (12, .getfield 107, 3), (15, .if_icmp .ge 112, 3), (18, .aload_n 0, 1), (19, .getfield 54, 3), (22, .iload 6, 2), (24, .baload, 1), (25, .ifCond .eq 96, 3), (28, .aload_n 0, 1), (29, .getfield 28, 3), (32, .getfield 120, 3), (35, .iload 6, 2), (37, .iaload, 1), (38, .iload_n 1, 1), (39, .if_icmp .ne 82, 3), (42, .aload_n 0, 1), (43, .getfield 28, 3), (46, .getfield 123, 3), (49, .iload 6, 2), (51, .iaload, 1), (52, .iload_n 3, 1), (53, .if_icmp .gt 68, 3), (56, .aload_n 0, 1), (57, .getfield 28, 3), (60, .getfield 113, 3), (63, .iload 6, 2), (65, .iaload, 1), (66, .iconst 1, 1), (67, .if_icmp .ne 24, 3), (70, .aload_n 0, 1), (71, .iload 6, 2), (73, .invokevirtual 219, 3), (76, .lload 4, 2), (78, .aload_n 0, 1), (79, .iload_n 2, 1), (80, .iload 6, 2), (82, .invokevirtual 223, 3), (85, .ladd, 1), (86, .lstore 4, 2), (88, .goto 33, 3), (91, .aload_n 0, 1), (92, .getfield 28, 3), (95, .getfield 160, 3), (98, .iload 6, 2), (100, .iaload, 1), (101, .iload_n 2, 1), (102, .if_icmp .ne 19, 3), (105, .lload 4, 2), (107, .aload_n 0, 1), (108, .getfield 28, 3), (111, .getfield 180, 3), (114, .iload 6, 2), (116, .iaload, 1), (117, .i2l, 1), (118, .ladd, 1), (119, .lstore 4, 2), (121, .iinc 6 1, 3), (124, .goto (-118), 3), (127, .lload 4, 2), (129, .lreturn, 1)], [(28, 3, 2, false), (54, 3, 7, false), (107, 1, 10, false), (113, 1, 0, false), (120, 1, 1, false), (123, 1, 6, false), (160, 1, 3, false), (180, 1, 2, false)], [], [(219, 1 + 1, 0, 0, s_X3_settleYearOf), (223, 2 + 1, 0, 0, s_X3_borneBy_v)], [], 3, 0, 0)
theorem mk_X3_balanceOf : ∀ q ∈ k_X3_balanceOf.2.2.2.1, eg_mono q.2.2.2.2 := (fc (mo_X3_settleYearOf) (fc (mo_X3_borneBy_v) (fn)))
set_option maxRecDepth 100000 in
theorem st_X3_balanceOf_0 {Qp : eg_P} {M : eg_M} (c : Int32) (s : Int32) (d : Int32)
  (l0 : eg_T wd k_X3_balanceOf Qp 6 0 0 [some (.ref 1), some (.int c), some (.int s), some (.int d), some (.long (lN 0)), none, some (.int (nI 0))] [] M) :
  eg_T wd k_X3_balanceOf Qp 0 0 0 [some (.ref 1), some (.int c), some (.int s), some (.int d), none, none, none] [] M := by
  refine eg_T_run mk_X3_balanceOf (cut := [6, 76]) 69 ?_
  show eg_T wd k_X3_balanceOf Qp 6 0 0 [some (.ref 1), some (.int c), some (.int s), some (.int d), some (.long (lN 0)), none, some (.int (nI 0))] [] M
  exact l0

set_option maxRecDepth 100000 in
theorem st_X3_balanceOf_6 {Qp : eg_P} {M : eg_M} (c : Int32) (s : Int32) (d : Int32) (x4 : Int64) (x6 : Int32)
  (g0 : (¬ ((eg_gi M 12 10) ≤ x6)) → (vp_in x6 200))
  (g1 : (¬ ((eg_gi M 12 10) ≤ x6)) → (¬ ((eg_gi M 35 x6.toNatClampNeg) = 0)) → ((eg_gi M 14 x6.toNatClampNeg) = c) → (¬ (d < (eg_gi M 19 x6.toNatClampNeg))) → ((eg_gi M 13 x6.toNatClampNeg) = (nI 1)) → (vp_in x6 200 ∧ vp_in (eg_gi M 19 x6.toNatClampNeg) 3600 ∧ k_es M ∧ k_pq M ∧ ∃ q CL, k_tx M q CL ∧ k_set M (k_pt M) CL))
  (l0 : ((eg_gi M 12 10) ≤ x6) → Qp (.inl (some (.long x4))) M)
  (l1 : (¬ (eg_gi M 12 10) ≤ x6 ∧ ((eg_gi M 35 x6.toNatClampNeg) = 0 ∨ (¬ (eg_gi M 14 x6.toNatClampNeg) = c ∨ (d < (eg_gi M 19 x6.toNatClampNeg) ∨ (¬ (eg_gi M 13 x6.toNatClampNeg) = (nI 1) ∧ ¬ (eg_gi M 16 x6.toNatClampNeg) = s))))) → eg_T wd k_X3_balanceOf Qp 6 0 0 [some (.ref 1), some (.int c), some (.int s), some (.int d), some (.long x4), none, some (.int (x6 + (nI 1)))] [] M)
  (l2 : (¬ (eg_gi M 12 10) ≤ x6 ∧ (¬ (eg_gi M 35 x6.toNatClampNeg) = 0 ∧ ((eg_gi M 14 x6.toNatClampNeg) = c ∧ (¬ d < (eg_gi M 19 x6.toNatClampNeg) ∧ (eg_gi M 13 x6.toNatClampNeg) = (nI 1))))) → ∀ (s_1 : Int32) (f_1 : Nat → Int32) (t_1 : k_T5), ((∀ q CL, k_tx M q CL → k_set (k_sm M s_1 f_1 t_1) (k_pt M) CL) ∧ ¬ (s_1 &&& (nI 1 <<< ((eg_gi M 19 x6.toNatClampNeg / nI 360) &&& 31)) = 0)) → eg_T wd k_X3_balanceOf Qp 76 0 0 [some (.ref 1), some (.int c), some (.int s), some (.int d), some (.long x4), none, some (.int x6)] [] (k_sm M s_1 f_1 t_1))
  (l3 : (¬ (eg_gi M 12 10) ≤ x6 ∧ (¬ (eg_gi M 35 x6.toNatClampNeg) = 0 ∧ ((eg_gi M 14 x6.toNatClampNeg) = c ∧ (¬ d < (eg_gi M 19 x6.toNatClampNeg) ∧ (¬ (eg_gi M 13 x6.toNatClampNeg) = (nI 1) ∧ (eg_gi M 16 x6.toNatClampNeg) = s))))) → eg_T wd k_X3_balanceOf Qp 6 0 0 [some (.ref 1), some (.int c), some (.int s), some (.int d), some (.long (x4 + ((eg_gi M 15 x6.toNatClampNeg).toInt64))), none, some (.int (x6 + (nI 1)))] [] M) :
  eg_T wd k_X3_balanceOf Qp 6 0 0 [some (.ref 1), some (.int c), some (.int s), some (.int d), some (.long x4), none, some (.int x6)] [] M := by
  refine eg_T_run mk_X3_balanceOf (cut := [6, 76]) 69 ?_
  refine And.intro (fun (c1 : (eg_gi M 12 10) ≤ x6) => ?_) (fun (c1 : ¬ (eg_gi M 12 10) ≤ x6) => ?_)
  · skip
    show Qp (.inl (some (.long x4))) M
    exact l0 c1
  · skip
    refine And.intro (show vp_in x6 200 from ?_) ?_
    · exact g0 c1
    refine And.intro (fun (c2 : (eg_gi M 35 x6.toNatClampNeg) = 0) => ?_) (fun (c2 : ¬ (eg_gi M 35 x6.toNatClampNeg) = 0) => ?_)
    · skip
      show eg_T wd k_X3_balanceOf Qp 6 0 0 [some (.ref 1), some (.int c), some (.int s), some (.int d), some (.long x4), none, some (.int (x6 + (nI 1)))] [] M
      exact l1 ⟨c1, (Or.inl c2)⟩
    · skip
      refine And.intro (show vp_in x6 200 from ?_) ?_
      · exact g0 c1
      refine And.intro (fun (c3 : (eg_gi M 14 x6.toNatClampNeg) = c) => ?_) (fun (c3 : ¬ (eg_gi M 14 x6.toNatClampNeg) = c) => ?_)
      · skip
        refine And.intro (show vp_in x6 200 from ?_) ?_
        · exact g0 c1
        refine And.intro (fun (c4 : d < (eg_gi M 19 x6.toNatClampNeg)) => ?_) (fun (c4 : ¬ d < (eg_gi M 19 x6.toNatClampNeg)) => ?_)
        · skip
          show eg_T wd k_X3_balanceOf Qp 6 0 0 [some (.ref 1), some (.int c), some (.int s), some (.int d), some (.long x4), none, some (.int (x6 + (nI 1)))] [] M
          exact l1 ⟨c1, (Or.inr (Or.inr (Or.inl c4)))⟩
        · skip
          refine And.intro (show vp_in x6 200 from ?_) ?_
          · exact g0 c1
          refine And.intro (fun (c5 : (eg_gi M 13 x6.toNatClampNeg) = (nI 1)) => ?_) (fun (c5 : ¬ (eg_gi M 13 x6.toNatClampNeg) = (nI 1)) => ?_)
          · skip
            refine And.intro (show (vp_in x6 200 ∧ vp_in (eg_gi M 19 x6.toNatClampNeg) 3600 ∧ k_es M ∧ k_pq M ∧ ∃ q CL, k_tx M q CL ∧ k_set M (k_pt M) CL) from ?_) ?_
            · exact g1 c1 c2 c3 c4 c5
            intro s_1 f_1 t_1 ha_1
            show eg_T wd k_X3_balanceOf Qp 76 0 0 [some (.ref 1), some (.int c), some (.int s), some (.int d), some (.long x4), none, some (.int x6)] [] (k_sm M s_1 f_1 t_1)
            exact l2 ⟨c1, ⟨c2, ⟨c3, ⟨c4, c5⟩⟩⟩⟩ s_1 f_1 t_1 ha_1
          · skip
            refine And.intro (show vp_in x6 200 from ?_) ?_
            · exact g0 c1
            refine And.intro (fun (c6 : (eg_gi M 16 x6.toNatClampNeg) = s) => ?_) (fun (c6 : ¬ (eg_gi M 16 x6.toNatClampNeg) = s) => ?_)
            · skip
              refine And.intro (show vp_in x6 200 from ?_) ?_
              · exact g0 c1
              show eg_T wd k_X3_balanceOf Qp 6 0 0 [some (.ref 1), some (.int c), some (.int s), some (.int d), some (.long (x4 + ((eg_gi M 15 x6.toNatClampNeg).toInt64))), none, some (.int (x6 + (nI 1)))] [] M
              exact l3 ⟨c1, ⟨c2, ⟨c3, ⟨c4, ⟨c5, c6⟩⟩⟩⟩⟩
            · skip
              show eg_T wd k_X3_balanceOf Qp 6 0 0 [some (.ref 1), some (.int c), some (.int s), some (.int d), some (.long x4), none, some (.int (x6 + (nI 1)))] [] M
              exact l1 ⟨c1, (Or.inr (Or.inr (Or.inr ⟨c5, c6⟩)))⟩
      · skip
        show eg_T wd k_X3_balanceOf Qp 6 0 0 [some (.ref 1), some (.int c), some (.int s), some (.int d), some (.long x4), none, some (.int (x6 + (nI 1)))] [] M
        exact l1 ⟨c1, (Or.inr (Or.inl c3))⟩

set_option maxRecDepth 100000 in
theorem st_X3_balanceOf_76 {Qp : eg_P} {M : eg_M} (c : Int32) (s : Int32) (d : Int32) (x4 : Int64) (x6 : Int32)
  (g0 : (vp_in x6 200 ∧ k_pq M))
  (l0 : eg_T wd k_X3_balanceOf Qp 6 0 0 [some (.ref 1), some (.int c), some (.int s), some (.int d), some (.long (x4 + (if eg_gi M 16 x6.toNatClampNeg = s then k_co M x6.toNatClampNeg - k_co M x6.toNatClampNeg / lN 2 - eg_gl M 41 x6.toNatClampNeg else k_co M x6.toNatClampNeg / lN 2))), none, some (.int (x6 + (nI 1)))] [] M) :
  eg_T wd k_X3_balanceOf Qp 76 0 0 [some (.ref 1), some (.int c), some (.int s), some (.int d), some (.long x4), none, some (.int x6)] [] M := by
  refine eg_T_run mk_X3_balanceOf (cut := [6, 76]) 69 ?_
  refine And.intro (show (vp_in x6 200 ∧ k_pq M) from ?_) ?_
  · exact g0
  show eg_T wd k_X3_balanceOf Qp 6 0 0 [some (.ref 1), some (.int c), some (.int s), some (.int d), some (.long (x4 + (if eg_gi M 16 x6.toNatClampNeg = s then k_co M x6.toNatClampNeg - k_co M x6.toNatClampNeg / lN 2 - eg_gl M 41 x6.toNatClampNeg else k_co M x6.toNatClampNeg / lN 2))), none, some (.int (x6 + (nI 1)))] [] M
  exact l0

def s_X3_balanceOf : eg_S := fun argv M Qp => match argv with
  | [.ref 1, .int c, .int s, .int d] => (k_es M ∧ k_pq M ∧ ∃ q CL, k_tx M q CL ∧ k_set M (k_pt M) CL) ∧ ∀ (r : Int64) (w : Int32) (f : Nat → Int32) (t : k_T5), (∀ q CL, k_tx M q CL → k_set (k_sm M w f t) (k_pt M) CL ∧ r = k_bl M (k_pt M) CL c s d (eg_gi M 12 10).toNatClampNeg) → Qp (.inl (some (.long (r)))) (k_sm M w f t)
  | _ => False
theorem mo_X3_balanceOf : eg_mono s_X3_balanceOf := by
  intro argv M Q Q' h
  unfold s_X3_balanceOf
  split
  · exact fun z => ⟨z.1, fun r w f t y => h _ _ (z.2 r w f t y)⟩
  · exact id
theorem sz_X3_balanceOf : ∀ argv M Qp, s_X3_balanceOf argv M Qp → (eg_ls0 argv).length ≤ 7 := by
  intro argv M Qp h
  unfold s_X3_balanceOf at h
  split at h
  · exact Nat.le_of_ble_eq_true rfl
  · exact h.elim
theorem sr_X3_balanceOf : ∀ argv M Qp, s_X3_balanceOf argv M Qp → ∃ p0 As, argv = .ref p0 :: As ∧ eg_isO wd M p0 3 = true := by
  intro argv M Qp h
  unfold s_X3_balanceOf at h
  split at h
  · exact ⟨_, _, rfl, rfl⟩
  · exact h.elim
set_option maxRecDepth 100000 in
set_option maxHeartbeats 1000000 in
theorem T_X3_balanceOf {argv : List Value} {M : eg_M} {Qp : eg_P} (h : s_X3_balanceOf argv M Qp) : eg_T wd k_X3_balanceOf Qp 0 0 0 (eg_lsN 7 argv) [] M := by
  unfold s_X3_balanceOf at h
  split at h
  · rename_i c s d
    obtain ⟨hp, hq⟩ := h
    obtain ⟨hES, hPQ, q, CL, hT, hSet⟩ := hp
    have hq : ∀ r w f t, k_set (k_sm M w f t) (k_pt M) CL → r = k_bl M (k_pt M) CL c s d (eg_gi M 12 10).toNatClampNeg → Qp (.inl (some (.long r))) (k_sm M w f t) := fun r w f t h1 h2 => hq r w f t (fun q' CL' hT' => by rw [← (k_tx_inj hT hT').2]; exact ⟨h1, h2⟩)
    obtain ⟨⟨L, ⟨n, hn, hN⟩, hL, hO, hC⟩, hch, h36, h19⟩ := id hES
    have hnn : (eg_gi M 12 10).toNatClampNeg = n := by rw [hN, n_c (by omega)]
    rw [hnn] at hq h19
    have lp : ∀ i (x : Int32 × (Nat → Int32) × k_T5), i ≤ n → k_set (k_sm M x.1 x.2.1 x.2.2) (k_pt M) CL → eg_T wd k_X3_balanceOf Qp 6 0 0 [some (.ref 1), some (.int c), some (.int s), some (.int d), some (.long (k_bl M (k_pt M) CL c s d i)), none, some (.int (nI i))] [] (k_sm M x.1 x.2.1 x.2.2) := by
      refine eg_for ?_
      intro i ⟨w, f, t⟩ hi hS kk
      have hS : k_set (k_sm M w f t) (k_pt M) CL := hS
      have st := st_X3_balanceOf_6 (Qp := Qp) (M := k_sm M w f t) c s d (k_bl M (k_pt M) CL c s d i) (nI i)
      have r10 : eg_gi (k_sm M w f t) 12 10 = nI n := hN
      rw [n_c (show i < 2 ^ 31 by omega), r10, n_le (by omega) (by omega), Nat.not_le, n_s] at st
      refine st (fun z => vp_in_nI (by omega) (by decide)) (fun z _ _ _ _ => ⟨vp_in_nI (by omega) (by decide), h19 i z, sm_es hES, (sm_pq hPQ).1, q, CL, sm_tx hT, ?_⟩) (fun z => ?_) (fun z => ?_) (fun z w' f' t' hc => ?_) (fun z => ?_)
      · rw [(sm_pq hPQ).2]
        exact hS
      · have : i = n := by omega
        subst this
        exact hq _ w f t hS rfl
      · have := kk (w, f, t) z.1 hS
        rw [k_bl] at this
        have e0 : k_bc M (k_pt M) CL c s d i = 0 := by
          unfold k_bc
          have z2 : eg_gi M 35 i = 0 ∨ (¬ eg_gi M 14 i = c ∨ (d < eg_gi M 19 i ∨ (¬ eg_gi M 13 i = nI 1 ∧ ¬ eg_gi M 16 i = s))) := z.2
          by_cases y : ¬ eg_gi M 35 i = 0 ∧ eg_gi M 14 i = c ∧ ¬ d < eg_gi M 19 i
          · rw [if_pos y]
            rcases z2 with z2 | z2 | z2 | z2
            · exact absurd z2 y.1
            · exact absurd y.2.1 z2
            · exact absurd z2 y.2.2
            · rw [if_neg z2.1, if_neg z2.2]
              rfl
          · rw [if_neg y]
            rfl
        rw [e0, Int64.add_zero] at this
        exact this
      · have z2 : ¬ eg_gi M 35 i = 0 ∧ eg_gi M 14 i = c ∧ ¬ d < eg_gi M 19 i ∧ eg_gi M 13 i = nI 1 := z.2
        have hS' := hc.1 q CL (sm_tx hT)
        rw [(sm_pq hPQ).2, sm_sm] at hS'
        rw [sm_sm]
        have s7 := st_X3_balanceOf_76 (Qp := Qp) (M := k_sm M w' f' t') c s d (k_bl M (k_pt M) CL c s d i) (nI i) ⟨vp_in_nI (by omega) (by decide), (sm_pq hPQ).1⟩
        rw [n_c (show i < 2 ^ 31 by omega), n_s, sm_co hPQ] at s7
        refine s7 ?_
        have := kk (w', f', t') z.1 hS'
        rw [k_bl] at this
        have e0 : k_bc M (k_pt M) CL c s d i = if eg_gi (k_sm M w' f' t') 16 i = s then k_co M i - k_co M i / lN 2 - eg_gl (k_sm M w' f' t') 41 i else k_co M i / lN 2 := by
          unfold k_bc
          rw [if_pos ⟨z2.1, z2.2.1, z2.2.2.1⟩, if_pos z2.2.2.2]
          have hin := k_vl_in hES (by rw [hnn]; exact z.1) z2.1 z2.2.2.2
          obtain ⟨dd, hdd, ed⟩ := vp_in_of (h19 i z.1) (by decide)
          have hy : eg_gi M 19 i / nI 360 = nI (dd / 360) := by
            rw [ed]
            exact pk_div (by omega) (by decide) (by decide)
          have hbit : ¬ (w' &&& (nI 1 <<< (nI (dd / 360) &&& 31)) = 0) := by
            have := hc.2
            rw [show eg_gi (k_sm M w f t) 19 i = eg_gi M 19 i from rfl, hy] at this
            exact this
          have g1 := hS' (dd / 360) (by omega) hbit
          have hvl : k_vl (k_sm M w' f' t') (nI (dd / 360)) = k_vl M (nI (dd / 360)) := rfl
          have hgv : ∀ j, k_gv (k_sm M w' f' t') (k_pt M) CL (nI (dd / 360)) j = k_gv M (k_pt M) CL (nI (dd / 360)) j := fun _ => rfl
          rw [hvl] at g1
          rw [hy] at hin
          have g2 := (g1 ((k_vl M (nI (dd / 360))).idxOf i) (List.idxOf_lt_length_of_mem hin)).1
          rw [hgv, gD (List.idxOf_lt_length_of_mem hin), List.getElem_idxOf] at g2
          have hge : k_ge M (k_pt M) CL i = k_gv M (k_pt M) CL (nI (dd / 360)) ((k_vl M (nI (dd / 360))).idxOf i) := by
            unfold k_ge
            rw [hy]
          rw [hge, g2]
          rfl
        rw [e0] at this
        exact this
      · have z2 : ¬ eg_gi M 35 i = 0 ∧ eg_gi M 14 i = c ∧ ¬ d < eg_gi M 19 i ∧ ¬ eg_gi M 13 i = nI 1 ∧ eg_gi M 16 i = s := z.2
        have := kk (w, f, t) z.1 hS
        rw [k_bl] at this
        have e0 : k_bc M (k_pt M) CL c s d i = (eg_gi M 15 i).toInt64 := by
          unfold k_bc
          rw [if_pos ⟨z2.1, z2.2.1, z2.2.2.1⟩, if_neg z2.2.2.2.1, if_pos z2.2.2.2.2]
        rw [e0] at this
        exact this
    refine st_X3_balanceOf_0 c s d ?_
    have := lp 0 (eg_gi M 1 12, eg_gi M 42, eg_gl M 40, eg_gl M 41, eg_gl M 43, eg_gl M 44, eg_gl M 45) (Nat.zero_le _) (by rw [k_sm_id]; exact hSet)
    dsimp only at this
    rw [k_sm_id] at this
    exact this
    
  · exact h.elim
theorem de_X3_balanceOf : ∀ q ∈ k_X3_balanceOf.1, decode cX3_balanceOf q.1 = .ok q.2 := by decide +kernel
theorem me_X3_balanceOf (g : gl_T) : MT g yX3_balanceOf cX3_balanceOf 7 (some .long) ⟨5, 0, 0, 126⟩ 0 0 s_X3_balanceOf := by
  intro hl
  exact eg_met_of (k := k_X3_balanceOf) (by decide) rfl ⟨Nat.le_refl _, Nat.le_refl _⟩ rfl sz_X3_balanceOf de_X3_balanceOf (fun meth hn => (fc (eg_FL_of wd_c3 (by decide) lf_RX3_28 (fun h => absurd h (by decide))) (fc (eg_FL_of wd_c3 (by decide) lf_RX3_54 (fun h => absurd h (by decide))) (fc (eg_FL_of wd_c1 (by decide) lf_RX3_107 (fun h => absurd h (by decide))) (fc (eg_FL_of wd_c1 (by decide) lf_RX3_113 (fun h => absurd h (by decide))) (fc (eg_FL_of wd_c1 (by decide) lf_RX3_120 (fun h => absurd h (by decide))) (fc (eg_FL_of wd_c1 (by decide) lf_RX3_123 (fun h => absurd h (by decide))) (fc (eg_FL_of wd_c1 (by decide) lf_RX3_160 (fun h => absurd h (by decide))) (fc (eg_FL_of wd_c1 (by decide) lf_RX3_180 (fun h => absurd h (by decide))) (fn)))))))))) (fun A s H hE => (fn)) (fun p e s m args below meth c Q A ad0 N0 S0 hK hEx hA => (fc (mt_V hl S0 hK hEx hA (me_X3_settleYearOf g) lm_RX3_219 li_X3_settleYearOf lx_X3_settleYearOf ln_RX3 lc_X3_settleYearOf ⟨rfl, by decide, by decide, by decide +kernel⟩ ⟨rfl, rfl⟩ ⟨by decide, by decide⟩ (ci := 3) rfl rfl sr_X3_settleYearOf (by decide)) (fc (mt_V hl S0 hK hEx hA (me_X3_borneBy_v g) lm_RX3_223 li_X3_borneBy lx_X3_borneBy ln_RX3 lc_X3_borneBy ⟨rfl, by decide, by decide, by decide +kernel⟩ ⟨rfl, rfl⟩ ⟨by decide, by decide⟩ (ci := 3) rfl rfl sr_X3_borneBy_v (by decide)) (fn)))) (fun p e s m args below meth c Qc XC A ad0 N0 P S0 hK hEx hA hlk hout hPX => (fn)) (fun argv M Qp h => T_X3_balanceOf h)

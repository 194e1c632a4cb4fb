/-- the class: a pair more -/
def k_p2 (P : Nat → Int32) (t o : Nat) : Nat → Int32 := fun j => if j = o then nI t else if j = t then nI o else P j
/-- the class: how many stable pairings go on from P at place n -/
def k_cf (M : eg_M) (fc sc : Nat) : Nat → Nat → (Nat → Int32) → Nat
  | 0, _, _ => 0
  | d + 1, n, P => if fc ≤ n then (if k_sA (eg_ri M 118 P) = true then 0 else 1) else
    (if (List.range n).any (k_qr (eg_ri M 118 P) n) = true then 0 else k_cf M fc sc d (n + 1) P) + ((List.range sc).map (fun i => if P (eg_gi M 120 i).toNatClampNeg = -nI 1 ∧ k_aw M (eg_gi M 119 n).toNatClampNeg (eg_gi M 120 i).toNatClampNeg = true then (if (List.range n).any (k_qr (eg_ri M 118 (k_p2 P (eg_gi M 119 n).toNatClampNeg (eg_gi M 120 i).toNatClampNeg)) n) = true then 0 else k_cf M fc sc d (n + 1) (k_p2 P (eg_gi M 119 n).toNatClampNeg (eg_gi M 120 i).toNatClampNeg)) else 0)).sum
/-- no first is a second, none stands twice -/
def k_ds (M : eg_M) (fc sc : Nat) : Prop := (∀ i j, i < fc → j < sc → ¬ eg_gi M 119 i = eg_gi M 120 j) ∧ ∀ i j, i < j → j < fc → ¬ eg_gi M 119 i = eg_gi M 119 j
/-- from place n on none is paired -/
def k_un (M : eg_M) (n fc : Nat) : Prop := ∀ j, n ≤ j → j < fc → eg_gi M 118 (eg_gi M 119 j).toNatClampNeg = -nI 1
theorem k_aw_ri {M : eg_M} {P : Nat → Int32} {t o : Nat} (ht : t < 16) (ho : o < 16) : k_aw (eg_ri M 118 P) t o = k_aw M t o := by
  unfold k_aw
  rw [ri_g, if_neg (by omega), ri_g, if_neg (by omega)]
theorem k_t1_c {x : Int32} (h : k_t1 x) : x.toNatClampNeg < 16 := by
  obtain ⟨b, hb, rfl⟩ := h
  rw [n_c (by omega)]
  exact hb
theorem k_cf_ri {M : eg_M} {P' : Nat → Int32} {fc sc : Nat} (hF : ∀ i, i < fc → k_t1 (eg_gi M 119 i)) (hS : ∀ i, i < sc → k_t1 (eg_gi M 120 i)) : ∀ (d n : Nat) (P : Nat → Int32), k_cf (eg_ri M 118 P') fc sc d n P = k_cf M fc sc d n P
  | 0, _, _ => rfl
  | d + 1, n, P => by
    have ih := k_cf_ri (P' := P') hF hS d
    have r119 : ∀ j, eg_gi (eg_ri M 118 P') 119 j = eg_gi M 119 j := fun _ => rfl
    have r120 : ∀ j, eg_gi (eg_ri M 118 P') 120 j = eg_gi M 120 j := fun _ => rfl
    rw [k_cf, k_cf, ri_ri]
    by_cases h : fc ≤ n
    · rw [if_pos h, if_pos h]
    · rw [if_neg h, if_neg h, ih]
      congr 2
      refine List.map_congr_left (fun i hi => ?_)
      have hi := List.mem_range.mp hi
      rw [r119, r120, k_aw_ri (k_t1_c (hF n (by omega))) (k_t1_c (hS i hi)), ri_ri, ih]
theorem k_2s (M : eg_M) (t b : Nat) (x y : Int32) : eg_si (eg_si M 118 t x) 118 b y = eg_ri M 118 (fun j => if j = b then y else if j = t then x else eg_gi M 118 j) := by
  conv => lhs; rw [← ri_id M 118]
  rw [si_ri, si_ri]
def s_X2_countFrom_r (dd : Nat) : eg_S := fun argv M Qp => match argv with
  | [.ref 80, .int ii] => (0 < dd ∧ k_mt M ∧ k_fs M ∧ k_ds M (eg_gi M 80 8).toNatClampNeg (eg_gi M 80 9).toNatClampNeg ∧ k_un M ii.toNatClampNeg (eg_gi M 80 8).toNatClampNeg ∧ eg_cn ii (eg_gi M 80 8).toNatClampNeg ∧ (eg_gi M 80 8).toNatClampNeg < ii.toNatClampNeg + dd) ∧ Qp (.inl (some (.int (nI (k_cf M (eg_gi M 80 8).toNatClampNeg (eg_gi M 80 9).toNatClampNeg dd ii.toNatClampNeg (eg_gi M 118)))))) M
  | _ => False
theorem mo_X2_countFrom_r (dd : Nat) : eg_mono (s_X2_countFrom_r dd) := by
  intro argv M Q Q' h
  unfold s_X2_countFrom_r
  split
  · exact fun z => ⟨z.1, h _ _ z.2⟩
  · exact id
theorem sz_X2_countFrom_r (dd : Nat) : ∀ argv M Qp, s_X2_countFrom_r dd argv M Qp → (eg_ls0 argv).length ≤ 6 := by
  intro argv M Qp h
  unfold s_X2_countFrom_r at h
  split at h
  · exact Nat.le_of_ble_eq_true rfl
  · exact h.elim
theorem sr_X2_countFrom_r (dd : Nat) : ∀ argv M Qp, s_X2_countFrom_r dd argv M Qp → ∃ p0 As, argv = .ref p0 :: As ∧ eg_isO wd M p0 2 = true := by
  intro argv M Qp h
  unfold s_X2_countFrom_r at h
  split at h
  · exact ⟨_, _, rfl, rfl⟩
  · exact h.elim
theorem sF_X2_countFrom_r : ∀ argv M Qp, s_X2_countFrom_r 0 argv M Qp → False := by
  intro argv M Qp h
  unfold s_X2_countFrom_r at h
  split at h
  · exact absurd h.1.1 (Nat.lt_irrefl 0)
  · exact h
def k_X2_countFrom (dd : Nat) : eg_C := ([(0, .iload_n 1, 1), (1, .aload_n 0, 1), (2, .getfield 38, 3), (5, .if_icmp .lt 16, 3), (8, .aload_n 0, 1), (9, .invokevirtual 63, 3), (12, .ifCond .eq 7, 3), (15, .iconst 0, 1), (16, .goto 4, 3), (19, .iconst 1, 1), (20, .ireturn, 1), (21, .aload_n 0, 1), (22, .getfield 32, 3), (25, .iload_n 1, 1), (26, .iaload, 1), (27, .istore_n 2, 1), (28, .aload_n 0, 1), (29, .iload_n 1, 1), (30, .invokevirtual 67, 3), (33, .ifCond .eq 7, 3), (36, .iconst 0, 1), (37, .goto 10, 3), (40, .aload_n 0, 1), (41, .iload_n 1, 1), (42, .iconst 1, 1), (43, .iadd, 1), (44, .invokevirtual 59, 3), (47, .istore_n 3, 1), (48, .iconst 0, 1), (49, .istore 4, 2), (51, .iload 4, 2), (53, .aload_n 0, 1), (54, .getfield 42, 3), (57, .if_icmp .ge 92, 3), (60, .aload_n 0, 1), (61, .getfield 35, 3), (64, .iload 4, 2), (66, .iaload, 1), (67, .istore 5, 2), (69, .aload_n 0, 1), (70, .getfield 29, 3), (73, .iload 5, 2), (75, .iaload, 1), (76, .iconst (-1), 1), (77, .if_icmp .ne 66, 3), (80, .aload_n 0, 1), (81, .iload_n 2, 1), (82, .iload 5, 2), (84, .invokevirtual 71, 3), (87, .ifCond .eq 56, 3), (90, .aload_n 0, 1), (91, .getfield 29, 3), (94, .iload_n 2, 1), (95, .iload 5, 2), (97, .iastore, 1), (98, .aload_n 0, 1), (99, .getfield 29, 3), (102, .iload 5, 2), (104, .iload_n 2, 1), (105, .iastore, 1), (106, .iload_n 3, 1), (107, .aload_n 0, 1), (108, .iload_n 1, 1), (109, .invokevirtual 67, 3), (112, .ifCond .eq 7, 3), (115, .iconst 0, 1), (116, .goto 10, 3), (119, .aload_n 0, 1), (120, .iload_n 1, 1), (121, .iconst 1, 1), (122, .iadd, 1), (123, .invokevirtual 59, 3), (126, .iadd, 1), (127, .istore_n 3, 1), (128, .aload_n 0, 1), (129, .getfield 29, 3), (132, .iload_n 2, 1), (133, .iconst (-1), 1), (134, .iastore, 1), (135, .aload_n 0, 1), (136, .getfield 29, 3), (139, .iload 5, 2), (141, .iconst (-1), 1), (142, .iastore, 1), (143, .iinc 4 1, 3), (146, .goto (-95), 3), (149, .iload_n 3, 1), (150, .ireturn, 1)], [(29, 2, 5, false), (32, 2, 6, false), (35, 2, 7, false), (38, 2, 8, false), (42, 2, 9, false)], [], [(59, 1 + 1, 0, 0, s_X2_countFrom_r dd), (63, 0 + 1, 0, 0, s_X2_isAnySecondLeft), (67, 1 + 1, 0, 0, s_X2_isQuarrel), (71, 2 + 1, 0, 0, s_X2_areWished_v)], [], 1, 0, 0)
theorem mk_X2_countFrom (dd : Nat) : ∀ q ∈ (k_X2_countFrom dd).2.2.2.1, eg_mono q.2.2.2.2 := (fc (mo_X2_countFrom_r dd) (fc (mo_X2_isAnySecondLeft) (fc (mo_X2_isQuarrel) (fc (mo_X2_areWished_v) (fn)))))

set_option maxRecDepth 100000 in
theorem st_X2_countFrom_0 {dd : Nat} {Qp : eg_P} {M : eg_M} (ii : Int32)
  (g0 : (ii < (eg_gi M 80 8)) → (vp_in ii 6))
  (g1 : (¬ (ii < (eg_gi M 80 8))) → (k_mt M ∧ k_fs M))
  (l0 : (ii < (eg_gi M 80 8)) → eg_T wd (k_X2_countFrom dd) Qp 28 0 0 [some (.ref 80), some (.int ii), some (.int (eg_gi M 119 ii.toNatClampNeg)), none, none, none] [] M)
  (l1 : (¬ ii < (eg_gi M 80 8) ∧ (k_sA M) = false) → Qp (.inl (some (.int (nI 1)))) M)
  (l2 : (¬ ii < (eg_gi M 80 8) ∧ ¬ (k_sA M) = false) → Qp (.inl (some (.int (nI 0)))) M) :
  eg_T wd (k_X2_countFrom dd) Qp 0 0 0 [some (.ref 80), some (.int ii), none, none, none, none] [] M := by
  refine eg_T_run (mk_X2_countFrom dd) (cut := [28, 40, 47, 51, 90, 106, 119, 126]) 91 ?_
  refine And.intro (fun (c1 : ii < (eg_gi M 80 8)) => ?_) (fun (c1 : ¬ ii < (eg_gi M 80 8)) => ?_)
  · skip
    refine And.intro (show vp_in ii 6 from ?_) ?_
    · exact g0 c1
    show eg_T wd (k_X2_countFrom dd) Qp 28 0 0 [some (.ref 80), some (.int ii), some (.int (eg_gi M 119 ii.toNatClampNeg)), none, none, none] [] M
    exact l0 c1
  · skip
    refine And.intro (show (k_mt M ∧ k_fs M) from ?_) ?_
    · exact g1 c1
    refine And.intro (fun (c2 : (b2i (k_sA M)) = 0) => ?_) (fun (c2 : ¬ (b2i (k_sA M)) = 0) => ?_)
    · replace c2 := b2i_0.mp c2
      refine And.intro (fun z => absurd z (show ¬ (false = true) from Bool.noConfusion)) ?_
      show Qp (.inl (some (.int (nI 1)))) M
      exact l1 ⟨c1, c2⟩
    · replace c2 := b2i_ff c2
      refine And.intro (fun z => absurd z (show ¬ (false = true) from Bool.noConfusion)) ?_
      show Qp (.inl (some (.int (nI 0)))) M
      exact l2 ⟨c1, c2⟩

set_option maxRecDepth 100000 in
theorem st_X2_countFrom_28 {dd : Nat} {Qp : eg_P} {M : eg_M} (ii : Int32) (x2 : Int32) (o3 : Option Value) (o4 : Option Value) (o5 : Option Value)
  (g0 : (k_mt M ∧ ∃ k, k < 6 ∧ ii = nI k ∧ ∀ i, i ≤ k → k_t1 (eg_gi M 119 i)))
  (l0 : (((List.range ii.toNatClampNeg).any (k_qr M ii.toNatClampNeg)) = false) → eg_T wd (k_X2_countFrom dd) Qp 40 0 0 [some (.ref 80), some (.int ii), some (.int x2), o3, o4, o5] [] M)
  (l1 : (¬ ((List.range ii.toNatClampNeg).any (k_qr M ii.toNatClampNeg)) = false) → eg_T wd (k_X2_countFrom dd) Qp 47 0 0 [some (.ref 80), some (.int ii), some (.int x2), o3, o4, o5] [.int (nI 0)] M) :
  eg_T wd (k_X2_countFrom dd) Qp 28 0 0 [some (.ref 80), some (.int ii), some (.int x2), o3, o4, o5] [] M := by
  refine eg_T_run (mk_X2_countFrom dd) (cut := [28, 40, 47, 51, 90, 106, 119, 126]) 91 ?_
  refine And.intro (show (k_mt M ∧ ∃ k, k < 6 ∧ ii = nI k ∧ ∀ i, i ≤ k → k_t1 (eg_gi M 119 i)) from ?_) ?_
  · exact g0
  refine And.intro (fun (c1 : (b2i ((List.range ii.toNatClampNeg).any (k_qr M ii.toNatClampNeg))) = 0) => ?_) (fun (c1 : ¬ (b2i ((List.range ii.toNatClampNeg).any (k_qr M ii.toNatClampNeg))) = 0) => ?_)
  · replace c1 := b2i_0.mp c1
    show eg_T wd (k_X2_countFrom dd) Qp 40 0 0 [some (.ref 80), some (.int ii), some (.int x2), o3, o4, o5] [] M
    exact l0 c1
  · replace c1 := b2i_ff c1
    show eg_T wd (k_X2_countFrom dd) Qp 47 0 0 [some (.ref 80), some (.int ii), some (.int x2), o3, o4, o5] [.int (nI 0)] M
    exact l1 c1

set_option maxRecDepth 100000 in
theorem st_X2_countFrom_40 {dd : Nat} {Qp : eg_P} {M : eg_M} (ii : Int32) (x2 : Int32) (o3 : Option Value) (o4 : Option Value) (o5 : Option Value)
  (g0 : (0 < dd ∧ k_mt M ∧ k_fs M ∧ k_ds M (eg_gi M 80 8).toNatClampNeg (eg_gi M 80 9).toNatClampNeg ∧ k_un M (ii + (nI 1)).toNatClampNeg (eg_gi M 80 8).toNatClampNeg ∧ eg_cn (ii + (nI 1)) (eg_gi M 80 8).toNatClampNeg ∧ (eg_gi M 80 8).toNatClampNeg < (ii + (nI 1)).toNatClampNeg + dd))
  (l0 : eg_T wd (k_X2_countFrom dd) Qp 47 0 0 [some (.ref 80), some (.int ii), some (.int x2), o3, o4, o5] [.int (nI (k_cf M (eg_gi M 80 8).toNatClampNeg (eg_gi M 80 9).toNatClampNeg dd (ii + (nI 1)).toNatClampNeg (eg_gi M 118)))] M) :
  eg_T wd (k_X2_countFrom dd) Qp 40 0 0 [some (.ref 80), some (.int ii), some (.int x2), o3, o4, o5] [] M := by
  refine eg_T_run (mk_X2_countFrom dd) (cut := [28, 40, 47, 51, 90, 106, 119, 126]) 91 ?_
  refine And.intro (show (0 < dd ∧ k_mt M ∧ k_fs M ∧ k_ds M (eg_gi M 80 8).toNatClampNeg (eg_gi M 80 9).toNatClampNeg ∧ k_un M (ii + (nI 1)).toNatClampNeg (eg_gi M 80 8).toNatClampNeg ∧ eg_cn (ii + (nI 1)) (eg_gi M 80 8).toNatClampNeg ∧ (eg_gi M 80 8).toNatClampNeg < (ii + (nI 1)).toNatClampNeg + dd) from ?_) ?_
  · exact g0
  show eg_T wd (k_X2_countFrom dd) Qp 47 0 0 [some (.ref 80), some (.int ii), some (.int x2), o3, o4, o5] [.int (nI (k_cf M (eg_gi M 80 8).toNatClampNeg (eg_gi M 80 9).toNatClampNeg dd (ii + (nI 1)).toNatClampNeg (eg_gi M 118)))] M
  exact l0

set_option maxRecDepth 100000 in
theorem st_X2_countFrom_47 {dd : Nat} {Qp : eg_P} {M : eg_M} (ii : Int32) (x2 : Int32) (o3 : Option Value) (o4 : Option Value) (o5 : Option Value) (s0 : Int32)
  (l0 : eg_T wd (k_X2_countFrom dd) Qp 51 0 0 [some (.ref 80), some (.int ii), some (.int x2), some (.int s0), some (.int (nI 0)), o5] [] M) :
  eg_T wd (k_X2_countFrom dd) Qp 47 0 0 [some (.ref 80), some (.int ii), some (.int x2), o3, o4, o5] [.int s0] M := by
  refine eg_T_run (mk_X2_countFrom dd) (cut := [28, 40, 47, 51, 90, 106, 119, 126]) 91 ?_
  show eg_T wd (k_X2_countFrom dd) Qp 51 0 0 [some (.ref 80), some (.int ii), some (.int x2), some (.int s0), some (.int (nI 0)), o5] [] M
  exact l0

set_option maxRecDepth 100000 in
theorem st_X2_countFrom_51 {dd : Nat} {Qp : eg_P} {M : eg_M} (ii : Int32) (x2 : Int32) (x3 : Int32) (x4 : Int32) (o5 : Option Value)
  (g0 : (¬ ((eg_gi M 80 9) ≤ x4)) → (vp_in x4 6))
  (g1 : (¬ ((eg_gi M 80 9) ≤ x4)) → (vp_in (eg_gi M 120 x4.toNatClampNeg) 16))
  (g2 : (¬ ((eg_gi M 80 9) ≤ x4)) → ((eg_gi M 118 (eg_gi M 120 x4.toNatClampNeg).toNatClampNeg) = (-nI 1)) → (k_t1 x2 ∧ k_t1 (eg_gi M 120 x4.toNatClampNeg)))
  (l0 : ((eg_gi M 80 9) ≤ x4) → Qp (.inl (some (.int x3))) M)
  (l1 : (¬ (eg_gi M 80 9) ≤ x4 ∧ (¬ (eg_gi M 118 (eg_gi M 120 x4.toNatClampNeg).toNatClampNeg) = (-nI 1) ∨ (k_aw M x2.toNatClampNeg (eg_gi M 120 x4.toNatClampNeg).toNatClampNeg) = false)) → eg_T wd (k_X2_countFrom dd) Qp 51 0 0 [some (.ref 80), some (.int ii), some (.int x2), some (.int x3), some (.int (x4 + (nI 1))), some (.int (eg_gi M 120 x4.toNatClampNeg))] [] M)
  (l2 : (¬ (eg_gi M 80 9) ≤ x4 ∧ ((eg_gi M 118 (eg_gi M 120 x4.toNatClampNeg).toNatClampNeg) = (-nI 1) ∧ ¬ (k_aw M x2.toNatClampNeg (eg_gi M 120 x4.toNatClampNeg).toNatClampNeg) = false)) → eg_T wd (k_X2_countFrom dd) Qp 90 0 0 [some (.ref 80), some (.int ii), some (.int x2), some (.int x3), some (.int x4), some (.int (eg_gi M 120 x4.toNatClampNeg))] [] M) :
  eg_T wd (k_X2_countFrom dd) Qp 51 0 0 [some (.ref 80), some (.int ii), some (.int x2), some (.int x3), some (.int x4), o5] [] M := by
  refine eg_T_run (mk_X2_countFrom dd) (cut := [28, 40, 47, 51, 90, 106, 119, 126]) 91 ?_
  refine And.intro (fun (c1 : (eg_gi M 80 9) ≤ x4) => ?_) (fun (c1 : ¬ (eg_gi M 80 9) ≤ x4) => ?_)
  · skip
    refine And.intro (fun z => absurd z (show ¬ (false = true) from Bool.noConfusion)) ?_
    show Qp (.inl (some (.int x3))) M
    exact l0 c1
  · skip
    refine And.intro (show vp_in x4 6 from ?_) ?_
    · exact g0 c1
    refine And.intro (show vp_in (eg_gi M 120 x4.toNatClampNeg) 16 from ?_) ?_
    · exact g1 c1
    refine And.intro (fun (c2 : (eg_gi M 118 (eg_gi M 120 x4.toNatClampNeg).toNatClampNeg) = (-nI 1)) => ?_) (fun (c2 : ¬ (eg_gi M 118 (eg_gi M 120 x4.toNatClampNeg).toNatClampNeg) = (-nI 1)) => ?_)
    · skip
      refine And.intro (show (k_t1 x2 ∧ k_t1 (eg_gi M 120 x4.toNatClampNeg)) from ?_) ?_
      · exact g2 c1 c2
      refine And.intro (fun (c3 : (b2i (k_aw M x2.toNatClampNeg (eg_gi M 120 x4.toNatClampNeg).toNatClampNeg)) = 0) => ?_) (fun (c3 : ¬ (b2i (k_aw M x2.toNatClampNeg (eg_gi M 120 x4.toNatClampNeg).toNatClampNeg)) = 0) => ?_)
      · replace c3 := b2i_0.mp c3
        show eg_T wd (k_X2_countFrom dd) Qp 51 0 0 [some (.ref 80), some (.int ii), some (.int x2), some (.int x3), some (.int (x4 + (nI 1))), some (.int (eg_gi M 120 x4.toNatClampNeg))] [] M
        exact l1 ⟨c1, (Or.inr c3)⟩
      · replace c3 := b2i_ff c3
        show eg_T wd (k_X2_countFrom dd) Qp 90 0 0 [some (.ref 80), some (.int ii), some (.int x2), some (.int x3), some (.int x4), some (.int (eg_gi M 120 x4.toNatClampNeg))] [] M
        exact l2 ⟨c1, ⟨c2, c3⟩⟩
    · skip
      show eg_T wd (k_X2_countFrom dd) Qp 51 0 0 [some (.ref 80), some (.int ii), some (.int x2), some (.int x3), some (.int (x4 + (nI 1))), some (.int (eg_gi M 120 x4.toNatClampNeg))] [] M
      exact l1 ⟨c1, (Or.inl c2)⟩

set_option maxRecDepth 100000 in
theorem st_X2_countFrom_90 {dd : Nat} {Qp : eg_P} {M : eg_M} (ii : Int32) (x2 : Int32) (x3 : Int32) (x4 : Int32) (x5 : Int32)
  (g0 : (vp_in x2 16))
  (g1 : (vp_in x5 16))
  (l0 : eg_T wd (k_X2_countFrom dd) Qp 106 0 0 [some (.ref 80), some (.int ii), some (.int x2), some (.int x3), some (.int x4), some (.int x5)] [] (eg_si (eg_si M 118 x2.toNatClampNeg x5) 118 x5.toNatClampNeg x2)) :
  eg_T wd (k_X2_countFrom dd) Qp 90 0 0 [some (.ref 80), some (.int ii), some (.int x2), some (.int x3), some (.int x4), some (.int x5)] [] M := by
  refine eg_T_run (mk_X2_countFrom dd) (cut := [28, 40, 47, 51, 90, 106, 119, 126]) 91 ?_
  refine And.intro (show vp_in x2 16 from ?_) ?_
  · exact g0
  refine And.intro (show vp_in x5 16 from ?_) ?_
  · exact g1
  show eg_T wd (k_X2_countFrom dd) Qp 106 0 0 [some (.ref 80), some (.int ii), some (.int x2), some (.int x3), some (.int x4), some (.int x5)] [] (eg_si (eg_si M 118 x2.toNatClampNeg x5) 118 x5.toNatClampNeg x2)
  exact l0

set_option maxRecDepth 100000 in
theorem st_X2_countFrom_106 {dd : Nat} {Qp : eg_P} {M : eg_M} (ii : Int32) (x2 : Int32) (x3 : Int32) (x4 : Int32) (x5 : Int32)
  (g0 : (k_mt M ∧ ∃ k, k < 6 ∧ ii = nI k ∧ ∀ i, i ≤ k → k_t1 (eg_gi M 119 i)))
  (l0 : (((List.range ii.toNatClampNeg).any (k_qr M ii.toNatClampNeg)) = false) → eg_T wd (k_X2_countFrom dd) Qp 119 0 0 [some (.ref 80), some (.int ii), some (.int x2), some (.int x3), some (.int x4), some (.int x5)] [.int x3] M)
  (l1 : (¬ ((List.range ii.toNatClampNeg).any (k_qr M ii.toNatClampNeg)) = false) → eg_T wd (k_X2_countFrom dd) Qp 126 0 0 [some (.ref 80), some (.int ii), some (.int x2), some (.int x3), some (.int x4), some (.int x5)] [.int (nI 0), .int x3] M) :
  eg_T wd (k_X2_countFrom dd) Qp 106 0 0 [some (.ref 80), some (.int ii), some (.int x2), some (.int x3), some (.int x4), some (.int x5)] [] M := by
  refine eg_T_run (mk_X2_countFrom dd) (cut := [28, 40, 47, 51, 90, 106, 119, 126]) 91 ?_
  refine And.intro (show (k_mt M ∧ ∃ k, k < 6 ∧ ii = nI k ∧ ∀ i, i ≤ k → k_t1 (eg_gi M 119 i)) from ?_) ?_
  · exact g0
  refine And.intro (fun (c1 : (b2i ((List.range ii.toNatClampNeg).any (k_qr M ii.toNatClampNeg))) = 0) => ?_) (fun (c1 : ¬ (b2i ((List.range ii.toNatClampNeg).any (k_qr M ii.toNatClampNeg))) = 0) => ?_)
  · replace c1 := b2i_0.mp c1
    show eg_T wd (k_X2_countFrom dd) Qp 119 0 0 [some (.ref 80), some (.int ii), some (.int x2), some (.int x3), some (.int x4), some (.int x5)] [.int x3] M
    exact l0 c1
  · replace c1 := b2i_ff c1
    show eg_T wd (k_X2_countFrom dd) Qp 126 0 0 [some (.ref 80), some (.int ii), some (.int x2), some (.int x3), some (.int x4), some (.int x5)] [.int (nI 0), .int x3] M
    exact l1 c1

set_option maxRecDepth 100000 in
theorem st_X2_countFrom_119 {dd : Nat} {Qp : eg_P} {M : eg_M} (ii : Int32) (x2 : Int32) (x3 : Int32) (x4 : Int32) (x5 : Int32) (s0 : Int32)
  (g0 : (0 < dd ∧ k_mt M ∧ k_fs M ∧ k_ds M (eg_gi M 80 8).toNatClampNeg (eg_gi M 80 9).toNatClampNeg ∧ k_un M (ii + (nI 1)).toNatClampNeg (eg_gi M 80 8).toNatClampNeg ∧ eg_cn (ii + (nI 1)) (eg_gi M 80 8).toNatClampNeg ∧ (eg_gi M 80 8).toNatClampNeg < (ii + (nI 1)).toNatClampNeg + dd))
  (l0 : eg_T wd (k_X2_countFrom dd) Qp 126 0 0 [some (.ref 80), some (.int ii), some (.int x2), some (.int x3), some (.int x4), some (.int x5)] [.int (nI (k_cf M (eg_gi M 80 8).toNatClampNeg (eg_gi M 80 9).toNatClampNeg dd (ii + (nI 1)).toNatClampNeg (eg_gi M 118))), .int s0] M) :
  eg_T wd (k_X2_countFrom dd) Qp 119 0 0 [some (.ref 80), some (.int ii), some (.int x2), some (.int x3), some (.int x4), some (.int x5)] [.int s0] M := by
  refine eg_T_run (mk_X2_countFrom dd) (cut := [28, 40, 47, 51, 90, 106, 119, 126]) 91 ?_
  refine And.intro (show (0 < dd ∧ k_mt M ∧ k_fs M ∧ k_ds M (eg_gi M 80 8).toNatClampNeg (eg_gi M 80 9).toNatClampNeg ∧ k_un M (ii + (nI 1)).toNatClampNeg (eg_gi M 80 8).toNatClampNeg ∧ eg_cn (ii + (nI 1)) (eg_gi M 80 8).toNatClampNeg ∧ (eg_gi M 80 8).toNatClampNeg < (ii + (nI 1)).toNatClampNeg + dd) from ?_) ?_
  · exact g0
  show eg_T wd (k_X2_countFrom dd) Qp 126 0 0 [some (.ref 80), some (.int ii), some (.int x2), some (.int x3), some (.int x4), some (.int x5)] [.int (nI (k_cf M (eg_gi M 80 8).toNatClampNeg (eg_gi M 80 9).toNatClampNeg dd (ii + (nI 1)).toNatClampNeg (eg_gi M 118))), .int s0] M
  exact l0

set_option maxRecDepth 100000 in
theorem st_X2_countFrom_126 {dd : Nat} {Qp : eg_P} {M : eg_M} (ii : Int32) (x2 : Int32) (x3 : Int32) (x4 : Int32) (x5 : Int32) (s0 : Int32) (s1 : Int32)
  (g0 : (vp_in x2 16))
  (g1 : (vp_in x5 16))
  (l0 : eg_T wd (k_X2_countFrom dd) Qp 51 0 0 [some (.ref 80), some (.int ii), some (.int x2), some (.int (s1 + s0)), some (.int (x4 + (nI 1))), some (.int x5)] [] (eg_si (eg_si M 118 x2.toNatClampNeg (-nI 1)) 118 x5.toNatClampNeg (-nI 1))) :
  eg_T wd (k_X2_countFrom dd) Qp 126 0 0 [some (.ref 80), some (.int ii), some (.int x2), some (.int x3), some (.int x4), some (.int x5)] [.int s0, .int s1] M := by
  refine eg_T_run (mk_X2_countFrom dd) (cut := [28, 40, 47, 51, 90, 106, 119, 126]) 91 ?_
  refine And.intro (show vp_in x2 16 from ?_) ?_
  · exact g0
  refine And.intro (show vp_in x5 16 from ?_) ?_
  · exact g1
  show eg_T wd (k_X2_countFrom dd) Qp 51 0 0 [some (.ref 80), some (.int ii), some (.int x2), some (.int (s1 + s0)), some (.int (x4 + (nI 1))), some (.int x5)] [] (eg_si (eg_si M 118 x2.toNatClampNeg (-nI 1)) 118 x5.toNatClampNeg (-nI 1))
  exact l0

set_option maxRecDepth 100000 in
set_option maxHeartbeats 1000000 in
theorem T_X2_countFrom_r (dd : Nat) {argv : List Value} {M : eg_M} {Qp : eg_P} (h : s_X2_countFrom_r (dd + 1) argv M Qp) : eg_T wd (k_X2_countFrom dd) Qp 0 0 0 (eg_lsN 6 argv) [] M := by
  unfold s_X2_countFrom_r at h
  split at h
  · rename_i ii
    obtain ⟨hp, hq⟩ := h
    obtain ⟨_, hM, hFS, hD, hU, ⟨n, hn, rfl⟩, hdd⟩ := hp
    obtain ⟨⟨⟨fc, hfc, eF⟩, hF⟩, ⟨sc, hsc, eS⟩, hS⟩ := id hFS
    rw [eF, n_c (show fc < 2 ^ 31 by omega)] at hn hF hD hU hdd hq
    rw [eS, n_c (show sc < 2 ^ 31 by omega)] at hS hD hq
    rw [n_c (show n < 2 ^ 31 by omega)] at hU hdd hq
    have s0 := st_X2_countFrom_0 (dd := dd) (Qp := Qp) (M := M) (nI n)
    rw [eF, n_lt (by omega) (by omega), n_in (by omega) (by decide), n_c (show n < 2 ^ 31 by omega)] at s0
    refine s0 (fun z => by omega) (fun _ => ⟨hM, hFS⟩) (fun z => ?_) (fun z => ?_) (fun z => ?_)
    · obtain ⟨t, ht, et⟩ := hF n z
      have hqF : ∀ i, i ≤ n → k_t1 (eg_gi M 119 i) := fun i hi => hF i (by omega)
      have hmt : eg_gi M 118 t = -nI 1 := by
        have := hU n (Nat.le_refl _) z
        rw [et, n_c (by omega)] at this
        exact this
      rw [k_cf, if_neg (show ¬ fc ≤ n by omega), ri_id, et, n_c (show t < 2 ^ 31 by omega)] at hq
      generalize hA : (if (List.range n).any (k_qr M n) = true then 0 else k_cf M fc sc dd (n + 1) (eg_gi M 118)) = A at hq
      have lp : ∀ i (o : Option Value), i ≤ sc → True → eg_T wd (k_X2_countFrom dd) Qp 51 0 0 [some (.ref 80), some (.int (nI n)), some (.int (nI t)), some (.int (nI (A + ((List.range i).map (fun i => if eg_gi M 118 (eg_gi M 120 i).toNatClampNeg = -nI 1 ∧ k_aw M t (eg_gi M 120 i).toNatClampNeg = true then (if (List.range n).any (k_qr (eg_ri M 118 (k_p2 (eg_gi M 118) t (eg_gi M 120 i).toNatClampNeg)) n) = true then 0 else k_cf M fc sc dd (n + 1) (k_p2 (eg_gi M 118) t (eg_gi M 120 i).toNatClampNeg)) else 0)).sum))), some (.int (nI i)), o] [] M := by
        refine eg_for ?_
        intro i o hi _ kk
        rw [List.range_succ, List.map_append, List.sum_append, List.map_singleton, List.sum_singleton] at kk
        have s1 := st_X2_countFrom_51 (dd := dd) (Qp := Qp) (M := M) (nI n) (nI t) (nI (A + ((List.range i).map (fun i => if eg_gi M 118 (eg_gi M 120 i).toNatClampNeg = -nI 1 ∧ k_aw M t (eg_gi M 120 i).toNatClampNeg = true then (if (List.range n).any (k_qr (eg_ri M 118 (k_p2 (eg_gi M 118) t (eg_gi M 120 i).toNatClampNeg)) n) = true then 0 else k_cf M fc sc dd (n + 1) (k_p2 (eg_gi M 118) t (eg_gi M 120 i).toNatClampNeg)) else 0)).sum)) (nI i) o
        rw [eS, n_le (by omega) (by omega), Nat.not_le, n_c (show i < 2 ^ 31 by omega), n_in (by omega) (by decide), n_c (show t < 2 ^ 31 by omega)] at s1
        rcases Nat.lt_or_ge i sc with hi' | hi'
        · obtain ⟨b, hb, eb⟩ := hS i hi'
          rw [eb, n_c (show b < 2 ^ 31 by omega), n_s] at s1
          rw [eb, n_c (show b < 2 ^ 31 by omega)] at kk
          have vt : vp_in (nI t) 16 := (n_in (by omega) (by decide)).mpr ht
          have vb : vp_in (nI b) 16 := (n_in (by omega) (by decide)).mpr hb
          have tb : ¬ t = b := by
            have := hD.1 n i z hi'
            rw [et, eb, n_eq (by omega) (by omega)] at this
            exact this
          refine s1 (fun _ => by omega) (fun _ => vb) (fun _ _ => ⟨⟨t, ht, rfl⟩, b, hb, rfl⟩) (fun w => absurd w (by omega)) (fun w => ?_) (fun w => ?_)
          · have := kk (some (.int (nI b))) hi' trivial
            rw [if_neg, Nat.add_zero] at this
            · exact this
            · intro y
              rcases w.2 with w2 | w2
              · exact w2 y.1
              · rw [w2] at y
                exact Bool.noConfusion y.2
          · refine st_X2_countFrom_90 _ _ _ _ _ vt vb ?_
            rw [n_c (show t < 2 ^ 31 by omega), n_c (show b < 2 ^ 31 by omega), k_2s]
            have kk := kk (some (.int (nI b))) hi' trivial
            rw [if_pos ⟨w.2.1, bq_t w.2.2⟩, ← Nat.add_assoc, ← n_s (i := A + _)] at kk
            have fin : ∀ s, s = nI (if (List.range n).any (k_qr (eg_ri M 118 (k_p2 (eg_gi M 118) t b)) n) = true then 0 else k_cf M fc sc dd (n + 1) (k_p2 (eg_gi M 118) t b)) → ∀ s1, eg_T wd (k_X2_countFrom dd) Qp 51 0 0 [some (.ref 80), some (.int (nI n)), some (.int (nI t)), some (.int (s1 + nI (if (List.range n).any (k_qr (eg_ri M 118 (k_p2 (eg_gi M 118) t b)) n) = true then 0 else k_cf M fc sc dd (n + 1) (k_p2 (eg_gi M 118) t b)))), some (.int (nI (i + 1))), some (.int (nI b))] [] M → eg_T wd (k_X2_countFrom dd) Qp 126 0 0 [some (.ref 80), some (.int (nI n)), some (.int (nI t)), some (.int s1), some (.int (nI i)), some (.int (nI b))] [.int s, .int s1] (eg_ri M 118 (k_p2 (eg_gi M 118) t b)) := by
              intro s hs s1 h1
              refine st_X2_countFrom_126 _ _ _ _ _ _ _ vt vb ?_
              rw [n_c (show t < 2 ^ 31 by omega), n_c (show b < 2 ^ 31 by omega), si_ri, si_ri, hs, n_s]
              have e : (fun j => if j = b then -nI 1 else if j = t then -nI 1 else k_p2 (eg_gi M 118) t b j) = eg_gi M 118 := by
                funext j
                unfold k_p2
                by_cases h2 : j = b
                · rw [if_pos h2, h2]
                  exact w.2.1.symm
                · by_cases h3 : j = t
                  · rw [if_neg h2, if_pos h3, h3, hmt]
                  · rw [if_neg h2, if_neg h3, if_neg h2, if_neg h3]
              rw [e, ri_id]
              exact h1
            have hM' : k_mt (eg_ri M 118 (k_p2 (eg_gi M 118) t b)) := by
              intro a ha
              show k_tw (k_p2 (eg_gi M 118) t b a)
              unfold k_p2
              by_cases h2 : a = b
              · rw [if_pos h2]
                exact Or.inr ⟨t, ht, rfl⟩
              · rw [if_neg h2]
                by_cases h3 : a = t
                · rw [if_pos h3]
                  exact Or.inr ⟨b, hb, rfl⟩
                · rw [if_neg h3]
                  exact hM a ha
            have s6 := st_X2_countFrom_106 (dd := dd) (Qp := Qp) (M := eg_ri M 118 (k_p2 (eg_gi M 118) t b)) (nI n) (nI t) (nI (A + ((List.range i).map (fun i => if eg_gi M 118 (eg_gi M 120 i).toNatClampNeg = -nI 1 ∧ k_aw M t (eg_gi M 120 i).toNatClampNeg = true then (if (List.range n).any (k_qr (eg_ri M 118 (k_p2 (eg_gi M 118) t (eg_gi M 120 i).toNatClampNeg)) n) = true then 0 else k_cf M fc sc dd (n + 1) (k_p2 (eg_gi M 118) t (eg_gi M 120 i).toNatClampNeg)) else 0)).sum)) (nI i) (nI b) ⟨hM', n, by omega, rfl, hqF⟩
            rw [n_c (show n < 2 ^ 31 by omega)] at s6
            refine s6 (fun y => ?_) (fun y => ?_)
            · have s7 := st_X2_countFrom_119 (dd := dd) (Qp := Qp) (M := eg_ri M 118 (k_p2 (eg_gi M 118) t b)) (nI n) (nI t) (nI (A + ((List.range i).map (fun i => if eg_gi M 118 (eg_gi M 120 i).toNatClampNeg = -nI 1 ∧ k_aw M t (eg_gi M 120 i).toNatClampNeg = true then (if (List.range n).any (k_qr (eg_ri M 118 (k_p2 (eg_gi M 118) t (eg_gi M 120 i).toNatClampNeg)) n) = true then 0 else k_cf M fc sc dd (n + 1) (k_p2 (eg_gi M 118) t (eg_gi M 120 i).toNatClampNeg)) else 0)).sum)) (nI i) (nI b) (nI (A + ((List.range i).map (fun i => if eg_gi M 118 (eg_gi M 120 i).toNatClampNeg = -nI 1 ∧ k_aw M t (eg_gi M 120 i).toNatClampNeg = true then (if (List.range n).any (k_qr (eg_ri M 118 (k_p2 (eg_gi M 118) t (eg_gi M 120 i).toNatClampNeg)) n) = true then 0 else k_cf M fc sc dd (n + 1) (k_p2 (eg_gi M 118) t (eg_gi M 120 i).toNatClampNeg)) else 0)).sum))
              have r8 : eg_gi (eg_ri M 118 (k_p2 (eg_gi M 118) t b)) 80 8 = nI fc := eF
              have r9 : eg_gi (eg_ri M 118 (k_p2 (eg_gi M 118) t b)) 80 9 = nI sc := eS
              rw [r8, r9, n_c (show fc < 2 ^ 31 by omega), n_c (show sc < 2 ^ 31 by omega), n_s, n_c (show n + 1 < 2 ^ 31 by omega), k_cf_ri hF hS] at s7
              refine s7 ⟨by omega, hM', hFS, hD, fun j h1 h2 => ?_, ⟨n + 1, by omega, rfl⟩, by omega⟩ (fin _ ?_ _ kk)
              · show k_p2 (eg_gi M 118) t b (eg_gi M 119 j).toNatClampNeg = -nI 1
                obtain ⟨c, hc, ec⟩ := hF j h2
                have n1 : ¬ c = b := by
                  have := hD.1 j i h2 hi'
                  rw [ec, eb, n_eq (by omega) (by omega)] at this
                  exact this
                have n2 : ¬ c = t := by
                  have := hD.2 n j (by omega) h2
                  rw [ec, et, n_eq (by omega) (by omega)] at this
                  exact fun w3 => this w3.symm
                rw [ec, n_c (by omega)]
                unfold k_p2
                rw [if_neg n1, if_neg n2]
                have := hU j (by omega) h2
                rw [ec, n_c (by omega)] at this
                exact this
              · rw [if_neg (by rw [y]; exact Bool.noConfusion)]
                rfl
            · refine fin _ ?_ _ kk
              rw [if_pos (bq_t y)]
        · have hi' : i = sc := by omega
          subst hi'
          exact s1 (fun w => by omega) (fun w => absurd w (by omega)) (fun w => absurd w (by omega)) (fun _ => hq) (fun w => absurd w.1 (by omega)) (fun w => absurd w.1 (by omega))
      have l0 := lp 0 none (Nat.zero_le _) trivial
      rw [List.range_zero, List.map_nil, List.sum_nil, Nat.add_zero] at l0
      rw [et]
      have s8 := st_X2_countFrom_28 (dd := dd) (Qp := Qp) (M := M) (nI n) (nI t) none none none ⟨hM, n, by omega, rfl, hqF⟩
      rw [n_c (show n < 2 ^ 31 by omega)] at s8
      refine s8 (fun y => ?_) (fun y => ?_)
      · have s9 := st_X2_countFrom_40 (dd := dd) (Qp := Qp) (M := M) (nI n) (nI t) none none none
        rw [eF, eS, n_c (show fc < 2 ^ 31 by omega), n_c (show sc < 2 ^ 31 by omega), n_s, n_c (show n + 1 < 2 ^ 31 by omega)] at s9
        refine s9 ⟨by omega, hM, hFS, hD, fun j h1 h2 => hU j (by omega) h2, ⟨n + 1, by omega, rfl⟩, by omega⟩ ?_
        refine st_X2_countFrom_47 _ _ _ _ _ _ ?_
        rw [if_neg (by rw [y]; exact Bool.noConfusion)] at hA
        rw [hA]
        exact l0
      · refine st_X2_countFrom_47 _ _ _ _ _ _ ?_
        rw [if_pos (bq_t y)] at hA
        rw [← hA] at l0
        exact l0
    · rw [k_cf, if_pos (show fc ≤ n by omega), ri_id, if_neg (by rw [z.2]; exact Bool.noConfusion)] at hq
      exact hq
    · rw [k_cf, if_pos (show fc ≤ n by omega), ri_id, if_pos (bq_t z.2)] at hq
      exact hq
    
  · exact h.elim
theorem de_X2_countFrom (dd : Nat) : ∀ q ∈ (k_X2_countFrom dd).1, decode cX2_countFrom q.1 = .ok q.2 := by show ∀ q ∈ (k_X2_countFrom 0).1, decode cX2_countFrom q.1 = .ok q.2; decide +kernel
theorem me_X2_countFrom_r (g : gl_T) : ∀ dd : Nat, MT g yX2_countFrom cX2_countFrom 6 (some .int) ⟨3 + 1 * dd, 0, 0, 68 + 25 * dd⟩ 0 0 (s_X2_countFrom_r dd)
  | 0 => fun _ _ argv M Qp _ hS => (sF_X2_countFrom_r argv M Qp hS).elim
  | dd + 1 => by
    have ih_X2_countFrom := me_X2_countFrom_r g dd
    intro hl
    exact eg_met_of (k := k_X2_countFrom dd) (by decide) rfl ⟨Nat.le_refl _, Nat.le_refl _⟩ rfl (sz_X2_countFrom_r (dd + 1)) (de_X2_countFrom dd) (fun meth hn => (fc (eg_FL_of wd_c2 (by decide) lf_RX2_29 (fun h => absurd h (by decide))) (fc (eg_FL_of wd_c2 (by decide) lf_RX2_32 (fun h => absurd h (by decide))) (fc (eg_FL_of wd_c2 (by decide) lf_RX2_35 (fun h => absurd h (by decide))) (fc (eg_FL_of wd_c2 (by decide) lf_RX2_38 (fun h => absurd h (by decide))) (fc (eg_FL_of wd_c2 (by decide) lf_RX2_42 (fun h => absurd h (by decide))) (fn))))))) (fun A s H hE => (fn)) (fun p e s m args below meth c Q A ad0 N0 S0 hK hEx hA => (fc (mt_V hl S0 hK hEx hA (ih_X2_countFrom) lm_RX2_59 li_X2_countFrom lx_X2_countFrom ln_RX2 lc_X2_countFrom ⟨rfl, by decide, by decide, by decide +kernel⟩ ⟨rfl, rfl⟩ ⟨(show 3 + 1 * dd + 1 ≤ 3 + 1 * (dd + 1) by omega), (show 8 + (6 + 11) + (68 + 25 * dd) ≤ 68 + 25 * (dd + 1) by omega)⟩ (ci := 2) rfl rfl (sr_X2_countFrom_r dd) (by decide)) (fc (mt_V hl S0 hK hEx hA (me_X2_isAnySecondLeft g) lm_RX2_63 li_X2_isAnySecondLeft lx_X2_isAnySecondLeft ln_RX2 lc_X2_isAnySecondLeft ⟨rfl, by decide, by decide, by decide +kernel⟩ ⟨rfl, rfl⟩ ⟨by dsimp only; omega, by dsimp only; omega⟩ (ci := 2) rfl rfl sr_X2_isAnySecondLeft (by decide)) (fc (mt_V hl S0 hK hEx hA (me_X2_isQuarrel g) lm_RX2_67 li_X2_isQuarrel lx_X2_isQuarrel ln_RX2 lc_X2_isQuarrel ⟨rfl, by decide, by decide, by decide +kernel⟩ ⟨rfl, rfl⟩ ⟨by dsimp only; omega, by dsimp only; omega⟩ (ci := 2) rfl rfl sr_X2_isQuarrel (by decide)) (fc (mt_V hl S0 hK hEx hA (me_X2_areWished_v g) lm_RX2_71 li_X2_areWished lx_X2_areWished ln_RX2 lc_X2_areWished ⟨rfl, by decide, by decide, by decide +kernel⟩ ⟨rfl, rfl⟩ ⟨by dsimp only; omega, by dsimp only; omega⟩ (ci := 2) rfl rfl sr_X2_areWished_v (by decide)) (fn)))))) (fun p e s m args below meth c Qc XC A ad0 N0 P S0 hK hEx hA hlk hout hPX => (fn)) (fun argv M Qp h => T_X2_countFrom_r dd h)
def s_X2_countFrom : eg_S := s_X2_countFrom_r 7
theorem mo_X2_countFrom : eg_mono s_X2_countFrom := mo_X2_countFrom_r 7
theorem sr_X2_countFrom : ∀ argv M Qp, s_X2_countFrom argv M Qp → ∃ p0 As, argv = .ref p0 :: As ∧ eg_isO wd M p0 2 = true := sr_X2_countFrom_r 7
theorem me_X2_countFrom (g : gl_T) : MT g yX2_countFrom cX2_countFrom 6 (some .int) ⟨10, 0, 0, 243⟩ 0 0 s_X2_countFrom := me_X2_countFrom_r g 7

def k_J7_fill_d0a16 : eg_C := ([(0, .iconst 0, 1), (1, .istore_n 3, 1), (2, .aload_n 0, 1), (3, .arraylength, 1), (4, .istore 4, 2), (6, .iload_n 3, 1), (7, .iload 4, 2), (9, .if_icmp .ge 13, 3), (12, .aload_n 0, 1), (13, .iload_n 3, 1), (14, .lload_n 1, 1), (15, .lastore, 1), (16, .iinc 3 1, 3), (19, .goto (-13), 3), (22, .return_, 1)], [], [], [], [], 0, 0, 0)
theorem mk_J7_fill_d0a16 : ∀ q ∈ k_J7_fill_d0a16.2.2.2.1, eg_mono q.2.2.2.2 := (fn)
def s_J7_fill_d0a16 : eg_S := fun argv M Qp => match argv with
  | [.ref p, .long v] => eg_need (eg_is wd M p 2) (eg_len wd M p < 2 ^ 31 ∧ Qp (.inl none) (eg_fL M p (eg_len wd M p) v))
  | _ => False
theorem mo_J7_fill_d0a16 : eg_mono s_J7_fill_d0a16 := by
  intro argv M Q Q' h
  unfold s_J7_fill_d0a16
  split
  · exact eg_need_mono (fun z => ⟨z.1, h _ _ z.2⟩)
  · exact id
theorem sz_J7_fill_d0a16 : ∀ argv M Qp, s_J7_fill_d0a16 argv M Qp → (eg_ls0 argv).length ≤ 5 := by
  intro argv M Qp h
  unfold s_J7_fill_d0a16 at h
  split at h
  · exact Nat.le_of_ble_eq_true rfl
  · exact h.elim
theorem T_J7_fill_d0a16 {argv : List Value} {M : eg_M} {Qp : eg_P} (h : s_J7_fill_d0a16 argv M Qp) : eg_T wd k_J7_fill_d0a16 Qp 0 0 0 (eg_lsN 5 argv) [] M := by
  unfold s_J7_fill_d0a16 at h
  split at h
  · rename_i p v
    replace h := eg_need_out h
    obtain ⟨h1, h2, h3⟩ := h
    have hk := eg_is_out h1
    have lp : ∀ (r i : Nat), i + r = eg_len wd M p → eg_T wd k_J7_fill_d0a16 Qp 6 0 0 [some (.ref p), some (.long v), none, some (.int (nI i)), some (.int (nI (eg_len wd M p)))] [] (eg_fL M p i v) := by
      intro r
      induction r with
      | zero =>
        intro i hi
        have hi : i = eg_len wd M p := hi
        subst hi
        refine eg_T_run mk_J7_fill_d0a16 (cut := [6]) 20 ?_
        exact And.intro (fun _ => h3) (fun z => absurd (nI_le (Nat.le_refl _) h2) z)
      | succ r ih =>
        intro i hi
        refine eg_T_run mk_J7_fill_d0a16 (cut := [6]) 20 ?_
        refine And.intro (fun z => absurd z (nI_ge (by omega) h2)) (fun z => ?_)
        refine eg_need_of (by exact h1) ?_
        refine And.intro (vp_in_nI (show i < eg_len wd (eg_fL M p i v) p from (show i < eg_len wd M p by omega)) h2) ?_
        have e := ih (i + 1) (by omega)
        rw [← eg_fL_s, ← nI_1] at e
        rw [nI_clamp (by omega)]
        exact e
    refine eg_T_run mk_J7_fill_d0a16 (cut := [6]) 20 ?_
    refine eg_need_of (show (Nat.ble 1 (eg_sh wd M p).1 && Nat.ble (eg_sh wd M p).1 7) = true by rw [hk]; rfl) ?_
    have e := lp (eg_len wd M p) 0 (by omega)
    rw [eg_fL_0] at e
    exact e
  · exact h.elim
theorem de_J7_fill_d0a16 : ∀ q ∈ k_J7_fill_d0a16.1, decode cJ7_fill_d0a16 q.1 = .ok q.2 := by decide +kernel
theorem me_J7_fill_d0a16 (g : gl_T) : MT g yJ7_fill_d0a16 cJ7_fill_d0a16 5 none ⟨0, 0, 0, 0⟩ 0 0 s_J7_fill_d0a16 := by
  intro hl
  exact eg_met_of (k := k_J7_fill_d0a16) (by decide) rfl ⟨Nat.le_refl _, Nat.le_refl _⟩ rfl sz_J7_fill_d0a16 de_J7_fill_d0a16 (fun meth hn => (fn)) (fun A s H hE => (fn)) (fun p e s m args below meth c Q A ad0 N0 S0 hK hEx hA => (fn)) (fun p e s m args below meth c Qc XC A ad0 N0 P S0 hK hEx hA hlk hout hPX => (fn)) (fun argv M Qp h => T_J7_fill_d0a16 h)

theorem fi_ri (M : eg_M) (p n : Nat) (v : Int32) : eg_fi M p n v = eg_ri M p (fun j => if j < n then v else eg_gi M p j) := by
  unfold eg_fi eg_ri eg_gi
  rfl
theorem fL_rl (M : eg_M) (p n : Nat) (v : Int64) : eg_fL M p n v = eg_rl M p (fun j => if j < n then v else eg_gl M p j) := by
  unfold eg_fL eg_rl eg_gl
  rfl
/-- the class: who of the first m lost more than a, or as much and stands ahead -/
def k_ls (M : eg_M) (a j : Nat) : Bool := decide (eg_gl M 43 a < eg_gl M 43 j ∨ (eg_gl M 43 j = eg_gl M 43 a ∧ j < a))
def k_X3_losersAhead : eg_C := ([(0, .iconst 0, 1), (1, .istore_n 3, 1), (2, .iconst 0, 1), (3, .istore 4, 2), (5, .iload 4, 2), (7, .iload_n 2, 1), (8, .if_icmp .ge 52, 3), (11, .aload_n 0, 1), (12, .getfield 83, 3), (15, .iload 4, 2), (17, .laload, 1), (18, .aload_n 0, 1), (19, .getfield 83, 3), (22, .iload_n 1, 1), (23, .laload, 1), (24, .lcmp, 1), (25, .ifCond .gt 26, 3), (28, .aload_n 0, 1), (29, .getfield 83, 3), (32, .iload 4, 2), (34, .laload, 1), (35, .aload_n 0, 1), (36, .getfield 83, 3), (39, .iload_n 1, 1), (40, .laload, 1), (41, .lcmp, 1), (42, .ifCond .ne 12, 3), (45, .iload 4, 2), (47, .iload_n 1, 1), (48, .if_icmp .ge 6, 3), (51, .iinc 3 1, 3), (54, .iinc 4 1, 3), (57, .goto (-52), 3), (60, .iload_n 3, 1), (61, .ireturn, 1)], [(83, 3, 16, false)], [], [], [], 1, 0, 0)
theorem mk_X3_losersAhead : ∀ q ∈ k_X3_losersAhead.2.2.2.1, eg_mono q.2.2.2.2 := (fn)
set_option maxRecDepth 100000 in
theorem st_X3_losersAhead_0 {Qp : eg_P} {M : eg_M} (a : Int32) (b : Int32)
  (l0 : eg_T wd k_X3_losersAhead Qp 5 0 0 [some (.ref 1), some (.int a), some (.int b), some (.int (nI 0)), some (.int (nI 0))] [] M) :
  eg_T wd k_X3_losersAhead Qp 0 0 0 [some (.ref 1), some (.int a), some (.int b), none, none] [] M := by
  refine eg_T_run mk_X3_losersAhead (cut := [5]) 38 ?_
  show eg_T wd k_X3_losersAhead Qp 5 0 0 [some (.ref 1), some (.int a), some (.int b), some (.int (nI 0)), some (.int (nI 0))] [] M
  exact l0

set_option maxRecDepth 100000 in
theorem st_X3_losersAhead_5 {Qp : eg_P} {M : eg_M} (a : Int32) (b : Int32) (x3 : Int32) (x4 : Int32)
  (g0 : (¬ (b ≤ x4)) → (vp_in x4 200))
  (g1 : (¬ (b ≤ x4)) → (vp_in a 200))
  (l0 : (b ≤ x4) → Qp (.inl (some (.int x3))) M)
  (l1 : (¬ b ≤ x4 ∧ ((eg_gl M 43 a.toNatClampNeg) < (eg_gl M 43 x4.toNatClampNeg) ∨ ((eg_gl M 43 x4.toNatClampNeg) = (eg_gl M 43 a.toNatClampNeg) ∧ ¬ a ≤ x4))) → eg_T wd k_X3_losersAhead Qp 5 0 0 [some (.ref 1), some (.int a), some (.int b), some (.int (x3 + (nI 1))), some (.int (x4 + (nI 1)))] [] M)
  (l2 : (¬ b ≤ x4 ∧ (¬ (eg_gl M 43 a.toNatClampNeg) < (eg_gl M 43 x4.toNatClampNeg) ∧ (¬ (eg_gl M 43 x4.toNatClampNeg) = (eg_gl M 43 a.toNatClampNeg) ∨ a ≤ x4))) → eg_T wd k_X3_losersAhead Qp 5 0 0 [some (.ref 1), some (.int a), some (.int b), some (.int x3), some (.int (x4 + (nI 1)))] [] M) :
  eg_T wd k_X3_losersAhead Qp 5 0 0 [some (.ref 1), some (.int a), some (.int b), some (.int x3), some (.int x4)] [] M := by
  refine eg_T_run mk_X3_losersAhead (cut := [5]) 38 ?_
  refine And.intro (fun (c1 : b ≤ x4) => ?_) (fun (c1 : ¬ b ≤ x4) => ?_)
  · skip
    refine And.intro (fun z => absurd z (by decide)) ?_
    show Qp (.inl (some (.int x3))) M
    exact l0 c1
  · skip
    refine And.intro (show vp_in x4 200 from ?_) ?_
    · exact g0 c1
    refine And.intro (show vp_in a 200 from ?_) ?_
    · exact g1 c1
    refine And.intro (fun (c2 : 0 < (lg_cmp (eg_gl M 43 x4.toNatClampNeg) (eg_gl M 43 a.toNatClampNeg))) => ?_) (fun (c2 : ¬ 0 < (lg_cmp (eg_gl M 43 x4.toNatClampNeg) (eg_gl M 43 a.toNatClampNeg))) => ?_)
    · replace c2 := lgc_gt.mp c2
      show eg_T wd k_X3_losersAhead Qp 5 0 0 [some (.ref 1), some (.int a), some (.int b), some (.int (x3 + (nI 1))), some (.int (x4 + (nI 1)))] [] M
      exact l1 ⟨c1, (Or.inl c2)⟩
    · replace c2 := mt lgc_gt.mpr c2
      refine And.intro (show vp_in x4 200 from ?_) ?_
      · exact g0 c1
      refine And.intro (show vp_in a 200 from ?_) ?_
      · exact g1 c1
      refine And.intro (fun (c3 : (lg_cmp (eg_gl M 43 x4.toNatClampNeg) (eg_gl M 43 a.toNatClampNeg)) = 0) => ?_) (fun (c3 : ¬ (lg_cmp (eg_gl M 43 x4.toNatClampNeg) (eg_gl M 43 a.toNatClampNeg)) = 0) => ?_)
      · replace c3 := lgc_eq.mp c3
        refine And.intro (fun (c4 : a ≤ x4) => ?_) (fun (c4 : ¬ a ≤ x4) => ?_)
        · skip
          show eg_T wd k_X3_losersAhead Qp 5 0 0 [some (.ref 1), some (.int a), some (.int b), some (.int x3), some (.int (x4 + (nI 1)))] [] M
          exact l2 ⟨c1, ⟨c2, (Or.inr c4)⟩⟩
        · skip
          show eg_T wd k_X3_losersAhead Qp 5 0 0 [some (.ref 1), some (.int a), some (.int b), some (.int (x3 + (nI 1))), some (.int (x4 + (nI 1)))] [] M
          exact l1 ⟨c1, (Or.inr ⟨c3, c4⟩)⟩
      · replace c3 := mt lgc_eq.mpr c3
        show eg_T wd k_X3_losersAhead Qp 5 0 0 [some (.ref 1), some (.int a), some (.int b), some (.int x3), some (.int (x4 + (nI 1)))] [] M
        exact l2 ⟨c1, ⟨c2, (Or.inl c3)⟩⟩

def s_X3_losersAhead : eg_S := fun argv M Qp => match argv with
  | [.ref 1, .int a, .int b] => (∃ m, m ≤ 200 ∧ b = nI m ∧ vp_in a 200) ∧ Qp (.inl (some (.int (nI ((List.range b.toNatClampNeg).countP (k_ls M a.toNatClampNeg)))))) M
  | _ => False
theorem mo_X3_losersAhead : eg_mono s_X3_losersAhead := by
  intro argv M Q Q' h
  unfold s_X3_losersAhead
  split
  · exact fun z => ⟨z.1, h _ _ z.2⟩
  · exact id
theorem sz_X3_losersAhead : ∀ argv M Qp, s_X3_losersAhead argv M Qp → (eg_ls0 argv).length ≤ 5 := by
  intro argv M Qp h
  unfold s_X3_losersAhead at h
  split at h
  · exact Nat.le_of_ble_eq_true rfl
  · exact h.elim
theorem sr_X3_losersAhead : ∀ argv M Qp, s_X3_losersAhead argv M Qp → ∃ p0 As, argv = .ref p0 :: As ∧ eg_isO wd M p0 3 = true := by
  intro argv M Qp h
  unfold s_X3_losersAhead at h
  split at h
  · exact ⟨_, _, rfl, rfl⟩
  · exact h.elim
set_option maxRecDepth 100000 in
set_option maxHeartbeats 1000000 in
theorem T_X3_losersAhead {argv : List Value} {M : eg_M} {Qp : eg_P} (h : s_X3_losersAhead argv M Qp) : eg_T wd k_X3_losersAhead Qp 0 0 0 (eg_lsN 5 argv) [] M := by
  unfold s_X3_losersAhead at h
  split at h
  · rename_i a b
    obtain ⟨hp, hq⟩ := h
    obtain ⟨m, hm, rfl, ha⟩ := hp
    obtain ⟨k, hk, rfl⟩ := vp_in_of ha (by decide)
    rw [n_c (by omega), n_c (by omega)] at hq
    have lp : ∀ i (_ : Unit), i ≤ m → True → eg_T wd k_X3_losersAhead Qp 5 0 0 [some (.ref 1), some (.int (nI k)), some (.int (nI m)), some (.int (nI ((List.range i).countP (k_ls M k)))), some (.int (nI i))] [] M := by
      refine eg_for ?_
      intro i _ hi _ kk
      have st := st_X3_losersAhead_5 (Qp := Qp) (M := M) (nI k) (nI m) (nI ((List.range i).countP (k_ls M k))) (nI i)
      simp (disch := omega) only [n_c, n_le, n_in, n_s, Nat.not_le] at st
      have hs : (List.range (i + 1)).countP (k_ls M k) = (List.range i).countP (k_ls M k) + if k_ls M k i = true then 1 else 0 := by
        rw [List.range_succ, List.countP_append, List.countP_singleton]
      refine st (fun _ => by omega) (fun _ => hk) (fun z => ?_) (fun z => ?_) (fun z => ?_)
      · have : i = m := by omega
        subst this
        exact hq
      · have := kk () z.1 trivial
        rw [hs, if_pos (show k_ls M k i = true from decide_eq_true z.2)] at this
        exact this
      · have := kk () z.1 trivial
        rw [hs, if_neg] at this
        · exact this
        · unfold k_ls
          rw [decide_eq_true_eq]
          rintro (y | y)
          · exact z.2.1 y
          · rcases z.2.2 with w | w
            · exact w y.1
            · omega
    exact st_X3_losersAhead_0 _ _ (lp 0 () (Nat.zero_le _) trivial)
  · exact h.elim
theorem de_X3_losersAhead : ∀ q ∈ k_X3_losersAhead.1, decode cX3_losersAhead q.1 = .ok q.2 := by decide +kernel
theorem me_X3_losersAhead (g : gl_T) : MT g yX3_losersAhead cX3_losersAhead 5 (some .int) ⟨0, 0, 0, 0⟩ 0 0 s_X3_losersAhead := by
  intro hl
  exact eg_met_of (k := k_X3_losersAhead) (by decide) rfl ⟨Nat.le_refl _, Nat.le_refl _⟩ rfl sz_X3_losersAhead de_X3_losersAhead (fun meth hn => (fc (eg_FL_of wd_c3 (by decide) lf_RX3_83 (fun h => absurd h (by decide))) (fn))) (fun A s H hE => (fn)) (fun p e s m args below meth c Q A ad0 N0 S0 hK hEx hA => (fn)) (fun p e s m args below meth c Qc XC A ad0 N0 P S0 hK hEx hA hlk hout hPX => (fn)) (fun argv M Qp h => T_X3_losersAhead h)

/-- the class: the i-th event in order is a visit of the year that counts -/
def k_vy (M : eg_M) (y : Int32) (i : Nat) : Bool := decide (¬ eg_gi M 35 (eg_gi M 22 i).toNatClampNeg = 0 ∧ eg_gi M 13 (eg_gi M 22 i).toNatClampNeg = nI 1 ∧ eg_gi M 19 (eg_gi M 22 i).toNatClampNeg / nI 360 = y)
def k_X3_listVisits : eg_C := ([(0, .iconst 0, 1), (1, .istore_n 2, 1), (2, .iconst 0, 1), (3, .istore_n 3, 1), (4, .iload_n 3, 1), (5, .aload_n 0, 1), (6, .getfield 28, 3), (9, .getfield 107, 3), (12, .if_icmp .ge 73, 3), (15, .aload_n 0, 1), (16, .getfield 28, 3), (19, .getfield 110, 3), (22, .iload_n 3, 1), (23, .iaload, 1), (24, .istore 4, 2), (26, .aload_n 0, 1), (27, .getfield 54, 3), (30, .iload 4, 2), (32, .baload, 1), (33, .ifCond .eq 46, 3), (36, .aload_n 0, 1), (37, .getfield 28, 3), (40, .getfield 113, 3), (43, .iload 4, 2), (45, .iaload, 1), (46, .iconst 1, 1), (47, .if_icmp .ne 32, 3), (50, .aload_n 0, 1), (51, .getfield 28, 3), (54, .getfield 123, 3), (57, .iload 4, 2), (59, .iaload, 1), (60, .sipush 360, 3), (63, .idiv, 1), (64, .iload_n 1, 1), (65, .if_icmp .ne 14, 3), (68, .aload_n 0, 1), (69, .getfield 80, 3), (72, .iload_n 2, 1), (73, .iinc 2 1, 3), (76, .iload 4, 2), (78, .iastore, 1), (79, .iinc 3 1, 3), (82, .goto (-78), 3), (85, .iload_n 2, 1), (86, .ireturn, 1)], [(28, 3, 2, false), (54, 3, 7, false), (80, 3, 15, false), (107, 1, 10, false), (110, 1, 9, false), (113, 1, 0, false), (123, 1, 6, false)], [], [], [], 1, 0, 0)
theorem mk_X3_listVisits : ∀ q ∈ k_X3_listVisits.2.2.2.1, eg_mono q.2.2.2.2 := (fn)
set_option maxRecDepth 100000 in
theorem st_X3_listVisits_0 {Qp : eg_P} {M : eg_M} (y : Int32)
  (l0 : eg_T wd k_X3_listVisits Qp 4 0 0 [some (.ref 1), some (.int y), some (.int (nI 0)), some (.int (nI 0)), none] [] M) :
  eg_T wd k_X3_listVisits Qp 0 0 0 [some (.ref 1), some (.int y), none, none, none] [] M := by
  refine eg_T_run mk_X3_listVisits (cut := [4]) 49 ?_
  show eg_T wd k_X3_listVisits Qp 4 0 0 [some (.ref 1), some (.int y), some (.int (nI 0)), some (.int (nI 0)), none] [] M
  exact l0

set_option maxRecDepth 100000 in
theorem st_X3_listVisits_4 {Qp : eg_P} {M : eg_M} (y : Int32) (x2 : Int32) (x3 : Int32) (o4 : Option Value)
  (g0 : (¬ ((eg_gi M 12 10) ≤ x3)) → (vp_in x3 200))
  (g1 : (¬ ((eg_gi M 12 10) ≤ x3)) → (vp_in (eg_gi M 22 x3.toNatClampNeg) 200))
  (g2 : (¬ ((eg_gi M 12 10) ≤ x3)) → (¬ ((eg_gi M 35 (eg_gi M 22 x3.toNatClampNeg).toNatClampNeg) = 0)) → ((eg_gi M 13 (eg_gi M 22 x3.toNatClampNeg).toNatClampNeg) = (nI 1)) → (((eg_gi M 19 (eg_gi M 22 x3.toNatClampNeg).toNatClampNeg) / (nI 360)) = y) → (vp_in x2 200))
  (l0 : ((eg_gi M 12 10) ≤ x3) → Qp (.inl (some (.int x2))) M)
  (l1 : (¬ (eg_gi M 12 10) ≤ x3 ∧ ((eg_gi M 35 (eg_gi M 22 x3.toNatClampNeg).toNatClampNeg) = 0 ∨ (¬ (eg_gi M 13 (eg_gi M 22 x3.toNatClampNeg).toNatClampNeg) = (nI 1) ∨ ¬ ((eg_gi M 19 (eg_gi M 22 x3.toNatClampNeg).toNatClampNeg) / (nI 360)) = y))) → eg_T wd k_X3_listVisits Qp 4 0 0 [some (.ref 1), some (.int y), some (.int x2), some (.int (x3 + (nI 1))), some (.int (eg_gi M 22 x3.toNatClampNeg))] [] M)
  (l2 : (¬ (eg_gi M 12 10) ≤ x3 ∧ (¬ (eg_gi M 35 (eg_gi M 22 x3.toNatClampNeg).toNatClampNeg) = 0 ∧ ((eg_gi M 13 (eg_gi M 22 x3.toNatClampNeg).toNatClampNeg) = (nI 1) ∧ ((eg_gi M 19 (eg_gi M 22 x3.toNatClampNeg).toNatClampNeg) / (nI 360)) = y))) → eg_T wd k_X3_listVisits Qp 4 0 0 [some (.ref 1), some (.int y), some (.int (x2 + (nI 1))), some (.int (x3 + (nI 1))), some (.int (eg_gi M 22 x3.toNatClampNeg))] [] (eg_si M 42 x2.toNatClampNeg (eg_gi M 22 x3.toNatClampNeg))) :
  eg_T wd k_X3_listVisits Qp 4 0 0 [some (.ref 1), some (.int y), some (.int x2), some (.int x3), o4] [] M := by
  refine eg_T_run mk_X3_listVisits (cut := [4]) 49 ?_
  refine And.intro (fun (c1 : (eg_gi M 12 10) ≤ x3) => ?_) (fun (c1 : ¬ (eg_gi M 12 10) ≤ x3) => ?_)
  · skip
    refine And.intro (fun z => absurd z (by decide)) ?_
    show Qp (.inl (some (.int x2))) M
    exact l0 c1
  · skip
    refine And.intro (show vp_in x3 200 from ?_) ?_
    · exact g0 c1
    refine And.intro (show vp_in (eg_gi M 22 x3.toNatClampNeg) 200 from ?_) ?_
    · exact g1 c1
    refine And.intro (fun (c2 : (eg_gi M 35 (eg_gi M 22 x3.toNatClampNeg).toNatClampNeg) = 0) => ?_) (fun (c2 : ¬ (eg_gi M 35 (eg_gi M 22 x3.toNatClampNeg).toNatClampNeg) = 0) => ?_)
    · skip
      show eg_T wd k_X3_listVisits Qp 4 0 0 [some (.ref 1), some (.int y), some (.int x2), some (.int (x3 + (nI 1))), some (.int (eg_gi M 22 x3.toNatClampNeg))] [] M
      exact l1 ⟨c1, (Or.inl c2)⟩
    · skip
      refine And.intro (show vp_in (eg_gi M 22 x3.toNatClampNeg) 200 from ?_) ?_
      · exact g1 c1
      refine And.intro (fun (c3 : (eg_gi M 13 (eg_gi M 22 x3.toNatClampNeg).toNatClampNeg) = (nI 1)) => ?_) (fun (c3 : ¬ (eg_gi M 13 (eg_gi M 22 x3.toNatClampNeg).toNatClampNeg) = (nI 1)) => ?_)
      · skip
        refine And.intro (show vp_in (eg_gi M 22 x3.toNatClampNeg) 200 from ?_) ?_
        · exact g1 c1
        refine And.intro (show ¬ (nI 360) = 0 from ?_) ?_
        · decide
        refine And.intro (fun (c4 : ((eg_gi M 19 (eg_gi M 22 x3.toNatClampNeg).toNatClampNeg) / (nI 360)) = y) => ?_) (fun (c4 : ¬ ((eg_gi M 19 (eg_gi M 22 x3.toNatClampNeg).toNatClampNeg) / (nI 360)) = y) => ?_)
        · skip
          refine And.intro (show vp_in x2 200 from ?_) ?_
          · exact g2 c1 c2 c3 c4
          show eg_T wd k_X3_listVisits Qp 4 0 0 [some (.ref 1), some (.int y), some (.int (x2 + (nI 1))), some (.int (x3 + (nI 1))), some (.int (eg_gi M 22 x3.toNatClampNeg))] [] (eg_si M 42 x2.toNatClampNeg (eg_gi M 22 x3.toNatClampNeg))
          exact l2 ⟨c1, ⟨c2, ⟨c3, c4⟩⟩⟩
        · skip
          show eg_T wd k_X3_listVisits Qp 4 0 0 [some (.ref 1), some (.int y), some (.int x2), some (.int (x3 + (nI 1))), some (.int (eg_gi M 22 x3.toNatClampNeg))] [] M
          exact l1 ⟨c1, (Or.inr (Or.inr c4))⟩
      · skip
        show eg_T wd k_X3_listVisits Qp 4 0 0 [some (.ref 1), some (.int y), some (.int x2), some (.int (x3 + (nI 1))), some (.int (eg_gi M 22 x3.toNatClampNeg))] [] M
        exact l1 ⟨c1, (Or.inr (Or.inl c3))⟩

def s_X3_listVisits : eg_S := fun argv M Qp => match argv with
  | [.ref 1, .int y] => (eg_cn (eg_gi M 12 10) 200 ∧ ∀ i, i < (eg_gi M 12 10).toNatClampNeg → vp_in (eg_gi M 22 i) 200) ∧ ∀ (f : Nat → Int32), (∀ i (h : i < ((List.range (eg_gi M 12 10).toNatClampNeg).filter (k_vy M y)).length), f i = eg_gi M 22 ((List.range (eg_gi M 12 10).toNatClampNeg).filter (k_vy M y))[i]) → Qp (.inl (some (.int (nI ((List.range (eg_gi M 12 10).toNatClampNeg).filter (k_vy M y)).length)))) (eg_ri M 42 f)
  | _ => False
theorem mo_X3_listVisits : eg_mono s_X3_listVisits := by
  intro argv M Q Q' h
  unfold s_X3_listVisits
  split
  · exact fun z => ⟨z.1, fun f y => h _ _ (z.2 f y)⟩
  · exact id
theorem sz_X3_listVisits : ∀ argv M Qp, s_X3_listVisits argv M Qp → (eg_ls0 argv).length ≤ 5 := by
  intro argv M Qp h
  unfold s_X3_listVisits at h
  split at h
  · exact Nat.le_of_ble_eq_true rfl
  · exact h.elim
theorem sr_X3_listVisits : ∀ argv M Qp, s_X3_listVisits argv M Qp → ∃ p0 As, argv = .ref p0 :: As ∧ eg_isO wd M p0 3 = true := by
  intro argv M Qp h
  unfold s_X3_listVisits at h
  split at h
  · exact ⟨_, _, rfl, rfl⟩
  · exact h.elim
set_option maxRecDepth 100000 in
set_option maxHeartbeats 1000000 in
theorem T_X3_listVisits {argv : List Value} {M : eg_M} {Qp : eg_P} (h : s_X3_listVisits argv M Qp) : eg_T wd k_X3_listVisits Qp 0 0 0 (eg_lsN 5 argv) [] M := by
  unfold s_X3_listVisits at h
  split at h
  · rename_i y
    obtain ⟨hp, hq⟩ := h
    obtain ⟨⟨n, hn, hN⟩, hO⟩ := hp
    rw [hN, n_c (by omega)] at hq hO
    have lp : ∀ i (x : (Nat → Int32) × Option Value), i ≤ n → (∀ j (h : j < ((List.range i).filter (k_vy M y)).length), x.1 j = eg_gi M 22 ((List.range i).filter (k_vy M y))[j]) → eg_T wd k_X3_listVisits Qp 4 0 0 [some (.ref 1), some (.int y), some (.int (nI ((List.range i).filter (k_vy M y)).length)), some (.int (nI i)), x.2] [] (eg_ri M 42 x.1) := by
      refine eg_for ?_
      intro i ⟨f, o4⟩ hi hf kk
      have hf : ∀ j (h : j < ((List.range i).filter (k_vy M y)).length), f j = eg_gi M 22 ((List.range i).filter (k_vy M y))[j] := hf
      have st := st_X3_listVisits_4 (Qp := Qp) (M := eg_ri M 42 f) y (nI ((List.range i).filter (k_vy M y)).length) (nI i) o4
      have r10 : eg_gi (eg_ri M 42 f) 12 10 = nI n := hN
      have r22 : ∀ j, eg_gi (eg_ri M 42 f) 22 j = eg_gi M 22 j := fun _ => rfl
      have r35 : ∀ j, eg_gi (eg_ri M 42 f) 35 j = eg_gi M 35 j := fun _ => rfl
      have r13 : ∀ j, eg_gi (eg_ri M 42 f) 13 j = eg_gi M 13 j := fun _ => rfl
      have r19 : ∀ j, eg_gi (eg_ri M 42 f) 19 j = eg_gi M 19 j := fun _ => rfl
      have hl := fl_len (k_vy M y) i
      simp (disch := omega) only [r10, r22, r35, r13, r19, n_c, n_le, n_in, n_s, Nat.not_le, si_ri] at st
      refine st (fun _ => by omega) (fun z => hO i z) (fun z _ _ _ => by omega) (fun z => ?_) (fun z => ?_) (fun z => ?_)
      · have : i = n := by omega
        subst this
        exact hq f hf
      · have hs : (List.range (i + 1)).filter (k_vy M y) = (List.range i).filter (k_vy M y) := by
          rw [fl_s, if_neg]
          unfold k_vy
          rw [decide_eq_true_eq]
          rcases z.2 with w | w | w
          · exact fun v => v.1 w
          · exact fun v => w v.2.1
          · exact fun v => w v.2.2
        have := kk (f, some (.int (eg_gi M 22 i))) z.1 (fun j h => ?_)
        · rw [hs] at this
          exact this
        · simp only [hs] at h ⊢
          exact hf j h
      · have hs : (List.range (i + 1)).filter (k_vy M y) = (List.range i).filter (k_vy M y) ++ [i] := by
          rw [fl_s, if_pos (show k_vy M y i = true from decide_eq_true z.2)]
        have := kk (fun j => if j = ((List.range i).filter (k_vy M y)).length then eg_gi M 22 i else f j, some (.int (eg_gi M 22 i))) z.1 (fun j h => ?_)
        · rw [hs, List.length_append] at this
          exact this
        · simp only [hs] at h ⊢
          rw [List.length_append, List.length_singleton] at h
          by_cases e : j = ((List.range i).filter (k_vy M y)).length
          · subst e
            simp
          · rw [if_neg e, List.getElem_append_left (by omega)]
            exact hf j (by omega)
    have := lp 0 (eg_gi M 42, none) (Nat.zero_le _) (fun j h => absurd h (Nat.not_lt_zero _))
    rw [ri_id] at this
    exact st_X3_listVisits_0 _ this
  · exact h.elim
theorem de_X3_listVisits : ∀ q ∈ k_X3_listVisits.1, decode cX3_listVisits q.1 = .ok q.2 := by decide +kernel
theorem me_X3_listVisits (g : gl_T) : MT g yX3_listVisits cX3_listVisits 5 (some .int) ⟨0, 0, 0, 0⟩ 0 0 s_X3_listVisits := by
  intro hl
  exact eg_met_of (k := k_X3_listVisits) (by decide) rfl ⟨Nat.le_refl _, Nat.le_refl _⟩ rfl sz_X3_listVisits de_X3_listVisits (fun meth hn => (fc (eg_FL_of wd_c3 (by decide) lf_RX3_28 (fun h => absurd h (by decide))) (fc (eg_FL_of wd_c3 (by decide) lf_RX3_54 (fun h => absurd h (by decide))) (fc (eg_FL_of wd_c3 (by decide) lf_RX3_80 (fun h => absurd h (by decide))) (fc (eg_FL_of wd_c1 (by decide) lf_RX3_107 (fun h => absurd h (by decide))) (fc (eg_FL_of wd_c1 (by decide) lf_RX3_110 (fun h => absurd h (by decide))) (fc (eg_FL_of wd_c1 (by decide) lf_RX3_113 (fun h => absurd h (by decide))) (fc (eg_FL_of wd_c1 (by decide) lf_RX3_123 (fun h => absurd h (by decide))) (fn))))))))) (fun A s H hE => (fn)) (fun p e s m args below meth c Q A ad0 N0 S0 hK hEx hA => (fn)) (fun p e s m args below meth c Qc XC A ad0 N0 P S0 hK hEx hA hlk hout hPX => (fn)) (fun argv M Qp h => T_X3_listVisits h)

/-- the class: back along a chain to the last event by day d -/
def k_lb (M : eg_M) (d : Int32) : Nat → Int32 → Int32
  | 0, e => e
  | n + 1, e => if e = -nI 1 ∨ eg_gi M 19 e.toNatClampNeg ≤ d then e else k_lb M d n (eg_gi M 36 e.toNatClampNeg)
/-- none, or an event -/
def k_ev (e : Int32) : Prop := e = -nI 1 ∨ vp_in e 200
def k_X3_lastBy : eg_C := ([(0, .aload_n 2, 1), (1, .iload_n 3, 1), (2, .iaload, 1), (3, .istore 4, 2), (5, .iconst 0, 1), (6, .istore 5, 2), (8, .iload 5, 2), (10, .sipush 200, 3), (13, .if_icmp .ge 38, 3), (16, .iload 4, 2), (18, .iconst (-1), 1), (19, .if_icmp .eq 32, 3), (22, .aload_n 0, 1), (23, .getfield 28, 3), (26, .getfield 123, 3), (29, .iload 4, 2), (31, .iaload, 1), (32, .iload_n 1, 1), (33, .if_icmp .le 18, 3), (36, .aload_n 0, 1), (37, .getfield 58, 3), (40, .iload 4, 2), (42, .iaload, 1), (43, .istore 4, 2), (45, .iinc 5 1, 3), (48, .goto (-40), 3), (51, .iload 4, 2), (53, .ireturn, 1)], [(28, 3, 2, false), (58, 3, 8, false), (123, 1, 6, false)], [], [], [], 1, 0, 0)
theorem mk_X3_lastBy : ∀ q ∈ k_X3_lastBy.2.2.2.1, eg_mono q.2.2.2.2 := (fn)
set_option maxRecDepth 100000 in
theorem st_X3_lastBy_0 {Qp : eg_P} {M : eg_M} (d : Int32) (l : Nat) (c : Int32)
  (g0 : (eg_is wd M l 1 = true))
  (g1 : (vp_in c (eg_len wd M l)))
  (l0 : eg_T wd k_X3_lastBy Qp 8 0 0 [some (.ref 1), some (.int d), some (.ref l), some (.int c), some (.int (eg_gi M l c.toNatClampNeg)), some (.int (nI 0))] [] M) :
  eg_T wd k_X3_lastBy Qp 0 0 0 [some (.ref 1), some (.int d), some (.ref l), some (.int c), none, none] [] M := by
  refine eg_T_run mk_X3_lastBy (cut := [8]) 31 ?_
  refine eg_need_of (show eg_is wd M l 1 = true from ?_) ?_
  · exact g0
  refine And.intro (show vp_in c (eg_len wd M l) from ?_) ?_
  · exact g1
  show eg_T wd k_X3_lastBy Qp 8 0 0 [some (.ref 1), some (.int d), some (.ref l), some (.int c), some (.int (eg_gi M l c.toNatClampNeg)), some (.int (nI 0))] [] M
  exact l0

set_option maxRecDepth 100000 in
theorem st_X3_lastBy_8 {Qp : eg_P} {M : eg_M} (d : Int32) (o2 : Option Value) (c : Int32) (x4 : Int32) (x5 : Int32)
  (g0 : (¬ ((nI 200) ≤ x5)) → (¬ (x4 = (-nI 1))) → (vp_in x4 200))
  (l0 : ((nI 200) ≤ x5 ∨ (x4 = (-nI 1) ∨ (eg_gi M 19 x4.toNatClampNeg) ≤ d)) → Qp (.inl (some (.int x4))) M)
  (l1 : (¬ (nI 200) ≤ x5 ∧ (¬ x4 = (-nI 1) ∧ ¬ (eg_gi M 19 x4.toNatClampNeg) ≤ d)) → eg_T wd k_X3_lastBy Qp 8 0 0 [some (.ref 1), some (.int d), o2, some (.int c), some (.int (eg_gi M 36 x4.toNatClampNeg)), some (.int (x5 + (nI 1)))] [] M) :
  eg_T wd k_X3_lastBy Qp 8 0 0 [some (.ref 1), some (.int d), o2, some (.int c), some (.int x4), some (.int x5)] [] M := by
  refine eg_T_run mk_X3_lastBy (cut := [8]) 31 ?_
  refine And.intro (fun (c1 : (nI 200) ≤ x5) => ?_) (fun (c1 : ¬ (nI 200) ≤ x5) => ?_)
  · skip
    refine And.intro (fun z => absurd z (by decide)) ?_
    show Qp (.inl (some (.int x4))) M
    exact l0 (Or.inl c1)
  · skip
    refine And.intro (fun (c2 : x4 = (-nI 1)) => ?_) (fun (c2 : ¬ x4 = (-nI 1)) => ?_)
    · skip
      refine And.intro (fun z => absurd z (by decide)) ?_
      show Qp (.inl (some (.int x4))) M
      exact l0 (Or.inr (Or.inl c2))
    · skip
      refine And.intro (show vp_in x4 200 from ?_) ?_
      · exact g0 c1 c2
      refine And.intro (fun (c3 : (eg_gi M 19 x4.toNatClampNeg) ≤ d) => ?_) (fun (c3 : ¬ (eg_gi M 19 x4.toNatClampNeg) ≤ d) => ?_)
      · skip
        refine And.intro (fun z => absurd z (by decide)) ?_
        show Qp (.inl (some (.int x4))) M
        exact l0 (Or.inr (Or.inr c3))
      · skip
        refine And.intro (show vp_in x4 200 from ?_) ?_
        · exact g0 c1 c2
        show eg_T wd k_X3_lastBy Qp 8 0 0 [some (.ref 1), some (.int d), o2, some (.int c), some (.int (eg_gi M 36 x4.toNatClampNeg)), some (.int (x5 + (nI 1)))] [] M
        exact l1 ⟨c1, ⟨c2, c3⟩⟩

def s_X3_lastBy : eg_S := fun argv M Qp => match argv with
  | [.ref 1, .int d, .ref l, .int c] => ((l = 38 ∨ l = 39) ∧ vp_in c 24 ∧ k_ev (eg_gi M l c.toNatClampNeg) ∧ ∀ j, j < 200 → k_ev (eg_gi M 36 j)) ∧ Qp (.inl (some (.int (k_lb M d 200 (eg_gi M l c.toNatClampNeg))))) M
  | _ => False
theorem mo_X3_lastBy : eg_mono s_X3_lastBy := by
  intro argv M Q Q' h
  unfold s_X3_lastBy
  split
  · exact fun z => ⟨z.1, h _ _ z.2⟩
  · exact id
theorem sz_X3_lastBy : ∀ argv M Qp, s_X3_lastBy argv M Qp → (eg_ls0 argv).length ≤ 6 := by
  intro argv M Qp h
  unfold s_X3_lastBy at h
  split at h
  · exact Nat.le_of_ble_eq_true rfl
  · exact h.elim
theorem sr_X3_lastBy : ∀ argv M Qp, s_X3_lastBy argv M Qp → ∃ p0 As, argv = .ref p0 :: As ∧ eg_isO wd M p0 3 = true := by
  intro argv M Qp h
  unfold s_X3_lastBy at h
  split at h
  · exact ⟨_, _, rfl, rfl⟩
  · exact h.elim
set_option maxRecDepth 100000 in
set_option maxHeartbeats 1000000 in
theorem T_X3_lastBy {argv : List Value} {M : eg_M} {Qp : eg_P} (h : s_X3_lastBy argv M Qp) : eg_T wd k_X3_lastBy Qp 0 0 0 (eg_lsN 6 argv) [] M := by
  unfold s_X3_lastBy at h
  split at h
  · rename_i d l c
    obtain ⟨hp, hq⟩ := h
    obtain ⟨hl, hc, he, hP⟩ := hp
    have lp : ∀ i (x : Int32), i ≤ 200 → (k_ev x ∧ k_lb M d (200 - i) x = k_lb M d 200 (eg_gi M l c.toNatClampNeg)) → eg_T wd k_X3_lastBy Qp 8 0 0 [some (.ref 1), some (.int d), some (.ref l), some (.int c), some (.int x), some (.int (nI i))] [] M := by
      refine eg_for ?_
      intro i x hi ⟨hx, hk⟩ kk
      have st := st_X3_lastBy_8 (Qp := Qp) (M := M) d (some (.ref l)) c x (nI i)
      simp (disch := omega) only [n_le, n_s, Nat.not_le] at st
      refine st (fun _ z => hx.resolve_left z) (fun z => ?_) (fun z => ?_)
      · rw [← hk] at hq
        rcases Nat.lt_or_ge i 200 with w | w
        · rw [show 200 - i = (199 - i) + 1 by omega, k_lb, if_pos (z.resolve_left (by omega))] at hq
          exact hq
        · rw [show 200 - i = 0 by omega] at hq
          exact hq
      · obtain ⟨j, hj, e⟩ := vp_in_of (hx.resolve_left z.2.1) (by decide)
        refine kk _ z.1 ⟨?_, ?_⟩
        · rw [e, n_c (by omega)]
          exact hP j hj
        · rw [← hk, show 200 - i = (200 - (i + 1)) + 1 by omega, k_lb, if_neg]
          rintro (w | w)
          · exact z.2.1 w
          · exact z.2.2 w
    rcases hl with rfl | rfl
    · exact st_X3_lastBy_0 _ _ _ rfl hc (lp 0 _ (Nat.zero_le _) ⟨he, rfl⟩)
    · exact st_X3_lastBy_0 _ _ _ rfl hc (lp 0 _ (Nat.zero_le _) ⟨he, rfl⟩)
  · exact h.elim
theorem de_X3_lastBy : ∀ q ∈ k_X3_lastBy.1, decode cX3_lastBy q.1 = .ok q.2 := by decide +kernel
theorem me_X3_lastBy (g : gl_T) : MT g yX3_lastBy cX3_lastBy 6 (some .int) ⟨0, 0, 0, 0⟩ 0 0 s_X3_lastBy := by
  intro hl
  exact eg_met_of (k := k_X3_lastBy) (by decide) rfl ⟨Nat.le_refl _, Nat.le_refl _⟩ rfl sz_X3_lastBy de_X3_lastBy (fun meth hn => (fc (eg_FL_of wd_c3 (by decide) lf_RX3_28 (fun h => absurd h (by decide))) (fc (eg_FL_of wd_c3 (by decide) lf_RX3_58 (fun h => absurd h (by decide))) (fc (eg_FL_of wd_c1 (by decide) lf_RX3_123 (fun h => absurd h (by decide))) (fn))))) (fun A s H hE => (fn)) (fun p e s m args below meth c Q A ad0 N0 S0 hK hEx hA => (fn)) (fun p e s m args below meth c Qc XC A ad0 N0 P S0 hK hEx hA hlk hout hPX => (fn)) (fun argv M Qp h => T_X3_lastBy h)

/-- the class: L holds all the first n events, in order -/
def k_ord (D : Nat → Int32) (n : Nat) (L : List Nat) : Prop := L.length = n ∧ L.Pairwise (dlt D) ∧ ∀ e, e ∈ L ↔ e < n
def k_X1_putInOrder : eg_C := ([(0, .iload_n 1, 1), (1, .istore_n 2, 1), (2, .iload_n 2, 1), (3, .ifCond .le 45, 3), (6, .aload_n 0, 1), (7, .getfield 30, 3), (10, .aload_n 0, 1), (11, .getfield 39, 3), (14, .iload_n 2, 1), (15, .iconst 1, 1), (16, .isub, 1), (17, .iaload, 1), (18, .iaload, 1), (19, .aload_n 0, 1), (20, .getfield 30, 3), (23, .iload_n 1, 1), (24, .iaload, 1), (25, .if_icmp .le 23, 3), (28, .aload_n 0, 1), (29, .getfield 39, 3), (32, .iload_n 2, 1), (33, .aload_n 0, 1), (34, .getfield 39, 3), (37, .iload_n 2, 1), (38, .iconst 1, 1), (39, .isub, 1), (40, .iaload, 1), (41, .iastore, 1), (42, .iinc 2 (-1), 3), (45, .goto (-43), 3), (48, .aload_n 0, 1), (49, .getfield 39, 3), (52, .iload_n 2, 1), (53, .iload_n 1, 1), (54, .iastore, 1), (55, .return_, 1)], [(30, 1, 6, false), (39, 1, 9, false)], [], [], [], 0, 0, 0)
theorem mk_X1_putInOrder : ∀ q ∈ k_X1_putInOrder.2.2.2.1, eg_mono q.2.2.2.2 := (fn)
set_option maxRecDepth 100000 in
theorem st_X1_putInOrder_0 {Qp : eg_P} {M : eg_M} (a : Int32)
  (l0 : eg_T wd k_X1_putInOrder Qp 2 0 0 [some (.ref 12), some (.int a), some (.int a)] [] M) :
  eg_T wd k_X1_putInOrder Qp 0 0 0 [some (.ref 12), some (.int a), none] [] M := by
  refine eg_T_run mk_X1_putInOrder (cut := [2]) 39 ?_
  show eg_T wd k_X1_putInOrder Qp 2 0 0 [some (.ref 12), some (.int a), some (.int a)] [] M
  exact l0

set_option maxRecDepth 100000 in
theorem st_X1_putInOrder_2 {Qp : eg_P} {M : eg_M} (a : Int32) (x2 : Int32)
  (g0 : (vp_in x2 200))
  (g1 : (¬ (x2 ≤ 0)) → (vp_in (x2 - (nI 1)) 200))
  (g2 : (¬ (x2 ≤ 0)) → (vp_in (eg_gi M 22 (x2 - (nI 1)).toNatClampNeg) 200))
  (g3 : (¬ (x2 ≤ 0)) → (vp_in a 200))
  (l0 : (x2 ≤ 0 ∨ (eg_gi M 19 (eg_gi M 22 (x2 - (nI 1)).toNatClampNeg).toNatClampNeg) ≤ (eg_gi M 19 a.toNatClampNeg)) → Qp (.inl none) (eg_si M 22 x2.toNatClampNeg a))
  (l1 : (¬ x2 ≤ 0 ∧ ¬ (eg_gi M 19 (eg_gi M 22 (x2 - (nI 1)).toNatClampNeg).toNatClampNeg) ≤ (eg_gi M 19 a.toNatClampNeg)) → eg_T wd k_X1_putInOrder Qp 2 0 0 [some (.ref 12), some (.int a), some (.int (x2 + (-nI 1)))] [] (eg_si M 22 x2.toNatClampNeg (eg_gi M 22 (x2 - (nI 1)).toNatClampNeg))) :
  eg_T wd k_X1_putInOrder Qp 2 0 0 [some (.ref 12), some (.int a), some (.int x2)] [] M := by
  refine eg_T_run mk_X1_putInOrder (cut := [2]) 39 ?_
  refine And.intro (fun (c1 : x2 ≤ 0) => ?_) (fun (c1 : ¬ x2 ≤ 0) => ?_)
  · skip
    refine And.intro (show vp_in x2 200 from ?_) ?_
    · exact g0
    show Qp (.inl none) (eg_si M 22 x2.toNatClampNeg a)
    exact l0 (Or.inl c1)
  · skip
    refine And.intro (show vp_in (x2 - (nI 1)) 200 from ?_) ?_
    · exact g1 c1
    refine And.intro (show vp_in (eg_gi M 22 (x2 - (nI 1)).toNatClampNeg) 200 from ?_) ?_
    · exact g2 c1
    refine And.intro (show vp_in a 200 from ?_) ?_
    · exact g3 c1
    refine And.intro (fun (c2 : (eg_gi M 19 (eg_gi M 22 (x2 - (nI 1)).toNatClampNeg).toNatClampNeg) ≤ (eg_gi M 19 a.toNatClampNeg)) => ?_) (fun (c2 : ¬ (eg_gi M 19 (eg_gi M 22 (x2 - (nI 1)).toNatClampNeg).toNatClampNeg) ≤ (eg_gi M 19 a.toNatClampNeg)) => ?_)
    · skip
      refine And.intro (show vp_in x2 200 from ?_) ?_
      · exact g0
      show Qp (.inl none) (eg_si M 22 x2.toNatClampNeg a)
      exact l0 (Or.inr c2)
    · skip
      refine And.intro (show vp_in (x2 - (nI 1)) 200 from ?_) ?_
      · exact g1 c1
      refine And.intro (show vp_in x2 200 from ?_) ?_
      · exact g0
      show eg_T wd k_X1_putInOrder Qp 2 0 0 [some (.ref 12), some (.int a), some (.int (x2 + (-nI 1)))] [] (eg_si M 22 x2.toNatClampNeg (eg_gi M 22 (x2 - (nI 1)).toNatClampNeg))
      exact l1 ⟨c1, c2⟩

def s_X1_putInOrder : eg_S := fun argv M Qp => match argv with
  | [.ref 12, .int a] => (∃ n L, n < 200 ∧ a = nI n ∧ isL (eg_gi M 22) L ∧ k_ord (eg_gi M 19) n L) ∧ ∀ (L : List Nat) (f : Nat → Int32), (isL f L ∧ k_ord (eg_gi M 19) (a.toNatClampNeg + 1) L) → Qp (.inl none) (eg_ri M 22 f)
  | _ => False
theorem mo_X1_putInOrder : eg_mono s_X1_putInOrder := by
  intro argv M Q Q' h
  unfold s_X1_putInOrder
  split
  · exact fun z => ⟨z.1, fun L f y => h _ _ (z.2 L f y)⟩
  · exact id
theorem sz_X1_putInOrder : ∀ argv M Qp, s_X1_putInOrder argv M Qp → (eg_ls0 argv).length ≤ 3 := by
  intro argv M Qp h
  unfold s_X1_putInOrder at h
  split at h
  · exact Nat.le_of_ble_eq_true rfl
  · exact h.elim
theorem sr_X1_putInOrder : ∀ argv M Qp, s_X1_putInOrder argv M Qp → ∃ p0 As, argv = .ref p0 :: As ∧ eg_isO wd M p0 1 = true := by
  intro argv M Qp h
  unfold s_X1_putInOrder at h
  split at h
  · exact ⟨_, _, rfl, rfl⟩
  · exact h.elim
set_option maxRecDepth 100000 in
set_option maxHeartbeats 1000000 in
theorem T_X1_putInOrder {argv : List Value} {M : eg_M} {Qp : eg_P} (h : s_X1_putInOrder argv M Qp) : eg_T wd k_X1_putInOrder Qp 0 0 0 (eg_lsN 3 argv) [] M := by
  unfold s_X1_putInOrder at h
  split at h
  · rename_i a
    obtain ⟨hp, hq⟩ := h
    obtain ⟨n, L, hn, rfl, hL, hlen, hpw, hmem⟩ := hp
    rw [n_c (by omega)] at hq
    have fin : ∀ i (f : Nat → Int32), i ≤ L.length → (∀ j (h : j < L.length), j < i → f j = nI L[j]) → (∀ j (h : j < L.length), i ≤ j → f (j + 1) = nI L[j] ∧ eg_gi M 19 n < eg_gi M 19 L[j]) → (∀ j (h : j < L.length), j < i → eg_gi M 19 L[j] ≤ eg_gi M 19 n) → Qp (.inl none) (eg_si (eg_ri M 22 f) 22 i (nI n)) := by
      intro i f hi h1 h2 h3
      rw [si_ri]
      have hl : (L.take i ++ n :: L.drop i).length = L.length + 1 := by
        rw [List.length_append, List.length_cons, List.length_take, List.length_drop]
        omega
      refine hq (L.take i ++ n :: L.drop i) _ ⟨fun j hj => ?_, by omega, dlt_ins (by rw [List.take_append_drop]; exact hpw) (fun a ha => ?_) (fun b hb => ?_), fun x => ?_⟩
      · grind
      · obtain ⟨j, hj, rfl⟩ := List.mem_iff_getElem.mp ha
        rw [List.length_take] at hj
        rw [List.getElem_take]
        exact ⟨h3 j (by omega) (by omega), (hmem _).mp (List.getElem_mem _)⟩
      · obtain ⟨j, hj, rfl⟩ := List.mem_iff_getElem.mp hb
        rw [List.length_drop] at hj
        rw [List.getElem_drop]
        exact (h2 (i + j) (by omega) (by omega)).2
      · have : x ∈ L.take i ++ n :: L.drop i ↔ x = n ∨ x ∈ L := by
          conv => rhs; rw [← List.take_append_drop i L]
          simp only [List.mem_append, List.mem_cons]
          grind
        rw [this, hmem]
        omega
    have lp : ∀ i (f : Nat → Int32), i ≤ L.length → (∀ j (h : j < L.length), j < i → f j = nI L[j]) → (∀ j (h : j < L.length), i ≤ j → f (j + 1) = nI L[j] ∧ eg_gi M 19 n < eg_gi M 19 L[j]) → eg_T wd k_X1_putInOrder Qp 2 0 0 [some (.ref 12), some (.int (nI n)), some (.int (nI i))] [] (eg_ri M 22 f) := by
      intro i
      induction i with
      | zero =>
        intro f hi h1 h2
        have st := st_X1_putInOrder_2 (Qp := Qp) (M := eg_ri M 22 f) (nI n) (nI 0)
        refine st (vp_in_nI (by decide) (by decide)) (fun z => absurd (by decide) z) (fun z => absurd (by decide) z) (fun z => absurd (by decide) z) (fun _ => ?_) (fun z => absurd (by decide) z.1)
        exact fin 0 f hi h1 h2 (fun j _ z => absurd z (Nat.not_lt_zero _))
      | succ i ih =>
        intro f hi h1 h2
        have st := st_X1_putInOrder_2 (Qp := Qp) (M := eg_ri M 22 f) (nI n) (nI (i + 1))
        have r22 : ∀ j, eg_gi (eg_ri M 22 f) 22 j = f j := fun _ => rfl
        have r19 : ∀ j, eg_gi (eg_ri M 22 f) 19 j = eg_gi M 19 j := fun _ => rfl
        have h1i := h1 i (by omega) (by omega)
        have hei : L[i] < n := (hmem _).mp (List.getElem_mem (by omega))
        simp (disch := omega) only [n_p, n_d, n_c, r22, r19, n_in] at st
        rw [h1i] at st
        simp (disch := omega) only [n_c, n_in] at st
        refine st (by omega) (fun _ => by omega) (fun _ => by omega) (fun _ => by omega) (fun z => ?_) (fun z => ?_)
        · refine fin (i + 1) f hi h1 h2 (fun j hj hji => ?_)
          have z1 : eg_gi M 19 L[i] ≤ eg_gi M 19 n := by
            rcases z with z | z
            · exact absurd z (nI_nle (by omega) (by omega))
            · exact z
          rcases Nat.lt_or_ge j i with y | y
          · have := List.pairwise_iff_getElem.mp hpw j i hj (by omega) y
            unfold dlt at this
            grind
          · have : j = i := by omega
            subst this
            exact z1
        · rw [si_ri]
          refine ih _ (by omega) (fun j hj hji => ?_) (fun j hj hji => ?_)
          · rw [if_neg (by omega)]
            exact h1 j hj (by omega)
          · by_cases y : j = i
            · subst y
              rw [if_pos rfl]
              exact ⟨rfl, by grind⟩
            · rw [if_neg (by omega)]
              exact h2 j hj (by omega)
    have := lp L.length (eg_gi M 22) (Nat.le_refl _) (fun j hj _ => hL j hj) (fun j hj y => absurd hj (by omega))
    rw [ri_id, hlen] at this
    exact st_X1_putInOrder_0 _ this
  · exact h.elim
theorem de_X1_putInOrder : ∀ q ∈ k_X1_putInOrder.1, decode cX1_putInOrder q.1 = .ok q.2 := by decide +kernel
theorem me_X1_putInOrder (g : gl_T) : MT g yX1_putInOrder cX1_putInOrder 3 none ⟨0, 0, 0, 0⟩ 0 0 s_X1_putInOrder := by
  intro hl
  exact eg_met_of (k := k_X1_putInOrder) (by decide) rfl ⟨Nat.le_refl _, Nat.le_refl _⟩ rfl sz_X1_putInOrder de_X1_putInOrder (fun meth hn => (fc (eg_FL_of wd_c1 (by decide) lf_RX1_30 (fun h => absurd h (by decide))) (fc (eg_FL_of wd_c1 (by decide) lf_RX1_39 (fun h => absurd h (by decide))) (fn)))) (fun A s H hE => (fn)) (fun p e s m args below meth c Q A ad0 N0 S0 hK hEx hA => (fn)) (fun p e s m args below meth c Qc XC A ad0 N0 P S0 hK hEx hA hlk hout hPX => (fn)) (fun argv M Qp h => T_X1_putInOrder h)

/-- the class: event e is known on the day looked at; the day from which charter c is broken, by the first n events -/
def k_kn (M : eg_M) (e : Nat) : Bool := decide (¬ eg_gi M 1 4 < eg_gi M 20 e ∧ ¬ eg_gi M 21 e ≤ eg_gi M 1 4)
def k_bf (M : eg_M) (c : Int32) : Nat → Int32
  | 0 => nI 3600
  | e + 1 => if eg_gi M 13 e = 0 ∧ k_kn M e = true ∧ eg_gi M 14 e = c then (if eg_gi M 19 e < k_bf M c e then eg_gi M 19 e else k_bf M c e) else k_bf M c e
def k_X3_findBreaks : eg_C := ([(0, .aload_n 0, 1), (1, .getfield 50, 3), (4, .sipush 3600, 3), (7, .invokestatic 101, 3), (10, .iconst 0, 1), (11, .istore_n 1, 1), (12, .iload_n 1, 1), (13, .aload_n 0, 1), (14, .getfield 28, 3), (17, .getfield 107, 3), (20, .if_icmp .ge 63, 3), (23, .aload_n 0, 1), (24, .getfield 28, 3), (27, .getfield 113, 3), (30, .iload_n 1, 1), (31, .iaload, 1), (32, .ifCond .ne 45, 3), (35, .aload_n 0, 1), (36, .iload_n 1, 1), (37, .invokevirtual 116, 3), (40, .ifCond .eq 37, 3), (43, .aload_n 0, 1), (44, .getfield 28, 3), (47, .getfield 120, 3), (50, .iload_n 1, 1), (51, .iaload, 1), (52, .istore_n 2, 1), (53, .aload_n 0, 1), (54, .getfield 50, 3), (57, .iload_n 2, 1), (58, .aload_n 0, 1), (59, .getfield 50, 3), (62, .iload_n 2, 1), (63, .iaload, 1), (64, .aload_n 0, 1), (65, .getfield 28, 3), (68, .getfield 123, 3), (71, .iload_n 1, 1), (72, .iaload, 1), (73, .invokestatic 134, 3), (76, .iastore, 1), (77, .iinc 1 1, 3), (80, .goto (-68), 3), (83, .return_, 1)], [(28, 3, 2, false), (50, 3, 6, false), (107, 1, 10, false), (113, 1, 0, false), (120, 1, 1, false), (123, 1, 6, false)], [], [(101 + 100000, 2, 0, 0, s_J7_fill_53178), (134 + 100000, 2, 0, 0, s_J9_min_7cf53), (116, 1 + 1, 0, 0, s_X3_isKnown)], [], 0, 0, 0)
theorem mk_X3_findBreaks : ∀ q ∈ k_X3_findBreaks.2.2.2.1, eg_mono q.2.2.2.2 := (fc (mo_J7_fill_53178) (fc (mo_J9_min_7cf53) (fc (mo_X3_isKnown) (fn))))
set_option maxRecDepth 100000 in
theorem st_X3_findBreaks_0 {Qp : eg_P} {M : eg_M} 
  (l0 : eg_T wd k_X3_findBreaks Qp 12 0 0 [some (.ref 1), some (.int (nI 0)), none] [] (eg_fi M 34 24 (nI 3600))) :
  eg_T wd k_X3_findBreaks Qp 0 0 0 [some (.ref 1), none, none] [] M := by
  refine eg_T_run mk_X3_findBreaks (cut := [12]) 47 ?_
  refine And.intro (show 24 < 2 ^ 31 by decide) ?_
  show eg_T wd k_X3_findBreaks Qp 12 0 0 [some (.ref 1), some (.int (nI 0)), none] [] (eg_fi M 34 24 (nI 3600))
  exact l0

set_option maxRecDepth 100000 in
theorem st_X3_findBreaks_12 {Qp : eg_P} {M : eg_M} (x1 : Int32) (o2 : Option Value)
  (g0 : (¬ ((eg_gi M 12 10) ≤ x1)) → (vp_in x1 200))
  (g1 : (¬ ((eg_gi M 12 10) ≤ x1)) → ((eg_gi M 13 x1.toNatClampNeg) = 0) → (¬ (¬ (¬ (eg_gi M 1 4) < (eg_gi M 20 x1.toNatClampNeg) ∧ ¬ (eg_gi M 21 x1.toNatClampNeg) ≤ (eg_gi M 1 4)))) → (vp_in (eg_gi M 14 x1.toNatClampNeg) 24))
  (l0 : ((eg_gi M 12 10) ≤ x1) → Qp (.inl none) M)
  (l1 : (¬ (eg_gi M 12 10) ≤ x1 ∧ (¬ (eg_gi M 13 x1.toNatClampNeg) = 0 ∨ (¬ (¬ (eg_gi M 1 4) < (eg_gi M 20 x1.toNatClampNeg) ∧ ¬ (eg_gi M 21 x1.toNatClampNeg) ≤ (eg_gi M 1 4))))) → eg_T wd k_X3_findBreaks Qp 12 0 0 [some (.ref 1), some (.int (x1 + (nI 1))), o2] [] M)
  (l2 : (¬ (eg_gi M 12 10) ≤ x1 ∧ ((eg_gi M 13 x1.toNatClampNeg) = 0 ∧ ((¬ (eg_gi M 1 4) < (eg_gi M 20 x1.toNatClampNeg) ∧ ¬ (eg_gi M 21 x1.toNatClampNeg) ≤ (eg_gi M 1 4))))) → eg_T wd k_X3_findBreaks Qp 12 0 0 [some (.ref 1), some (.int (x1 + (nI 1))), some (.int (eg_gi M 14 x1.toNatClampNeg))] [] (eg_si M 34 (eg_gi M 14 x1.toNatClampNeg).toNatClampNeg (if (eg_gi M 19 x1.toNatClampNeg) < (eg_gi M 34 (eg_gi M 14 x1.toNatClampNeg).toNatClampNeg) then (eg_gi M 19 x1.toNatClampNeg) else (eg_gi M 34 (eg_gi M 14 x1.toNatClampNeg).toNatClampNeg)))) :
  eg_T wd k_X3_findBreaks Qp 12 0 0 [some (.ref 1), some (.int x1), o2] [] M := by
  refine eg_T_run mk_X3_findBreaks (cut := [12]) 47 ?_
  refine And.intro (fun (c1 : (eg_gi M 12 10) ≤ x1) => ?_) (fun (c1 : ¬ (eg_gi M 12 10) ≤ x1) => ?_)
  · skip
    show Qp (.inl none) M
    exact l0 c1
  · skip
    refine And.intro (show vp_in x1 200 from ?_) ?_
    · exact g0 c1
    refine And.intro (fun (c2 : (eg_gi M 13 x1.toNatClampNeg) = 0) => ?_) (fun (c2 : ¬ (eg_gi M 13 x1.toNatClampNeg) = 0) => ?_)
    · skip
      refine And.intro (show ((vp_in x1 200)) from ?_) ?_
      · exact g0 c1
      refine And.intro (fun (c3 : (b2i (decide (¬ (eg_gi M 1 4) < (eg_gi M 20 x1.toNatClampNeg) ∧ ¬ (eg_gi M 21 x1.toNatClampNeg) ≤ (eg_gi M 1 4)))) = 0) => ?_) (fun (c3 : ¬ (b2i (decide (¬ (eg_gi M 1 4) < (eg_gi M 20 x1.toNatClampNeg) ∧ ¬ (eg_gi M 21 x1.toNatClampNeg) ≤ (eg_gi M 1 4)))) = 0) => ?_)
      · replace c3 := b2i_d0.mp c3
        show eg_T wd k_X3_findBreaks Qp 12 0 0 [some (.ref 1), some (.int (x1 + (nI 1))), o2] [] M
        exact l1 ⟨c1, (Or.inr c3)⟩
      · replace c3 := b2i_dn.mp c3
        refine And.intro (show vp_in x1 200 from ?_) ?_
        · exact g0 c1
        refine And.intro (show vp_in (eg_gi M 14 x1.toNatClampNeg) 24 from ?_) ?_
        · exact g1 c1 c2 c3
        refine And.intro (show vp_in x1 200 from ?_) ?_
        · exact g0 c1
        refine And.intro (show vp_in (eg_gi M 14 x1.toNatClampNeg) 24 from ?_) ?_
        · exact g1 c1 c2 c3
        show eg_T wd k_X3_findBreaks Qp 12 0 0 [some (.ref 1), some (.int (x1 + (nI 1))), some (.int (eg_gi M 14 x1.toNatClampNeg))] [] (eg_si M 34 (eg_gi M 14 x1.toNatClampNeg).toNatClampNeg (if (eg_gi M 19 x1.toNatClampNeg) < (eg_gi M 34 (eg_gi M 14 x1.toNatClampNeg).toNatClampNeg) then (eg_gi M 19 x1.toNatClampNeg) else (eg_gi M 34 (eg_gi M 14 x1.toNatClampNeg).toNatClampNeg)))
        exact l2 ⟨c1, ⟨c2, (Classical.byContradiction c3)⟩⟩
    · skip
      show eg_T wd k_X3_findBreaks Qp 12 0 0 [some (.ref 1), some (.int (x1 + (nI 1))), o2] [] M
      exact l1 ⟨c1, (Or.inl c2)⟩

def s_X3_findBreaks : eg_S := fun argv M Qp => match argv with
  | [.ref 1] => (eg_cn (eg_gi M 12 10) 200 ∧ ∀ e, e < (eg_gi M 12 10).toNatClampNeg → vp_in (eg_gi M 14 e) 24) ∧ Qp (.inl none) (eg_ri M 34 (fun c => if c < 24 then k_bf M (nI c) (eg_gi M 12 10).toNatClampNeg else eg_gi M 34 c))
  | _ => False
theorem mo_X3_findBreaks : eg_mono s_X3_findBreaks := by
  intro argv M Q Q' h
  unfold s_X3_findBreaks
  split
  · exact fun z => ⟨z.1, h _ _ z.2⟩
  · exact id
theorem sz_X3_findBreaks : ∀ argv M Qp, s_X3_findBreaks argv M Qp → (eg_ls0 argv).length ≤ 3 := by
  intro argv M Qp h
  unfold s_X3_findBreaks at h
  split at h
  · exact Nat.le_of_ble_eq_true rfl
  · exact h.elim
theorem sr_X3_findBreaks : ∀ argv M Qp, s_X3_findBreaks argv M Qp → ∃ p0 As, argv = .ref p0 :: As ∧ eg_isO wd M p0 3 = true := by
  intro argv M Qp h
  unfold s_X3_findBreaks at h
  split at h
  · exact ⟨_, _, rfl, rfl⟩
  · exact h.elim
set_option maxRecDepth 100000 in
set_option maxHeartbeats 1000000 in
theorem T_X3_findBreaks {argv : List Value} {M : eg_M} {Qp : eg_P} (h : s_X3_findBreaks argv M Qp) : eg_T wd k_X3_findBreaks Qp 0 0 0 (eg_lsN 3 argv) [] M := by
  unfold s_X3_findBreaks at h
  split at h
  · obtain ⟨hp, hq⟩ := h
    obtain ⟨⟨n, hn, hN⟩, hC⟩ := hp
    rw [hN, n_c (by omega)] at hC hq
    have lp : ∀ i (o : Option Value), i ≤ n → True → eg_T wd k_X3_findBreaks Qp 12 0 0 [some (.ref 1), some (.int (nI i)), o] [] (eg_ri M 34 (fun c => if c < 24 then k_bf M (nI c) i else eg_gi M 34 c)) := by
      refine eg_for ?_
      intro i o hi _ kk
      have st := st_X3_findBreaks_12 (Qp := Qp) (M := eg_ri M 34 (fun c => if c < 24 then k_bf M (nI c) i else eg_gi M 34 c)) (nI i) o
      have r10 : eg_gi (eg_ri M 34 (fun c => if c < 24 then k_bf M (nI c) i else eg_gi M 34 c)) 12 10 = nI n := hN
      have rr : ∀ p j, p ≠ 34 → eg_gi (eg_ri M 34 (fun c => if c < 24 then k_bf M (nI c) i else eg_gi M 34 c)) p j = eg_gi M p j := fun p j h => by rw [ri_g, if_neg h]
      have r34 : ∀ j, eg_gi (eg_ri M 34 (fun c => if c < 24 then k_bf M (nI c) i else eg_gi M 34 c)) 34 j = if j < 24 then k_bf M (nI j) i else eg_gi M 34 j := fun _ => rfl
      rw [n_c (by omega), r10] at st
      simp (disch := omega) only [rr 13 _ (by decide), rr 14 _ (by decide), rr 19 _ (by decide), rr 20 _ (by decide), rr 21 _ (by decide), rr 1 _ (by decide), r34, n_le, n_in, n_s, Nat.not_le, Classical.not_not] at st
      have knd : k_kn M i = true ↔ (¬ eg_gi M 1 4 < eg_gi M 20 i ∧ ¬ eg_gi M 21 i ≤ eg_gi M 1 4) := by unfold k_kn; rw [decide_eq_true_eq]
      rw [← knd] at st
      refine st (fun _ => by omega) (fun z _ _ => hC i z) (fun z => ?_) (fun z => ?_) (fun z => ?_)
      · have : i = n := by omega
        subst this
        exact hq
      · have := kk o z.1 trivial
        have e : (fun c => if c < 24 then k_bf M (nI c) (i + 1) else eg_gi M 34 c) = fun c => if c < 24 then k_bf M (nI c) i else eg_gi M 34 c := by
          funext c
          have hb : k_bf M (nI c) (i + 1) = k_bf M (nI c) i := by
            rw [k_bf, if_neg]
            rintro ⟨a1, a2, _⟩
            rcases z.2 with w | w
            · exact w a1
            · exact w a2
          rw [hb]
        rw [e] at this
        exact this
      · have := kk (some (.int (eg_gi M 14 i))) z.1 trivial
        obtain ⟨q, hq24, eq⟩ := vp_in_of (hC i z.1) (by decide)
        rw [eq, n_c (by omega), if_pos hq24, si_ri]
        have e : (fun j => if j = q then (if eg_gi M 19 i < k_bf M (nI q) i then eg_gi M 19 i else k_bf M (nI q) i) else if j < 24 then k_bf M (nI j) i else eg_gi M 34 j) = fun c => if c < 24 then k_bf M (nI c) (i + 1) else eg_gi M 34 c := by
          funext j
          by_cases c : j = q
          · subst c
            have hb : k_bf M (nI j) (i + 1) = (if eg_gi M 19 i < k_bf M (nI j) i then eg_gi M 19 i else k_bf M (nI j) i) := by rw [k_bf, if_pos ⟨z.2.1, z.2.2, eq⟩]
            rw [if_pos rfl, hb, if_pos hq24]
          · rw [if_neg c]
            by_cases c2 : j < 24
            · have hb : k_bf M (nI j) (i + 1) = k_bf M (nI j) i := by
                rw [k_bf, if_neg]
                rintro ⟨_, _, a3⟩
                rw [eq] at a3
                exact c ((n_eq (by omega) (by omega)).mp a3).symm
              rw [hb]
            · rw [if_neg c2, if_neg c2]
        rw [e]
        rw [eq] at this
        exact this
    refine st_X3_findBreaks_0 ?_
    rw [fi_ri]
    exact lp 0 none (Nat.zero_le _) trivial
  · exact h.elim
theorem de_X3_findBreaks : ∀ q ∈ k_X3_findBreaks.1, decode cX3_findBreaks q.1 = .ok q.2 := by decide +kernel
theorem me_X3_findBreaks (g : gl_T) : MT g yX3_findBreaks cX3_findBreaks 3 none ⟨1, 0, 0, 24⟩ 0 0 s_X3_findBreaks := by
  intro hl
  exact eg_met_of (k := k_X3_findBreaks) (by decide) rfl ⟨Nat.le_refl _, Nat.le_refl _⟩ rfl sz_X3_findBreaks de_X3_findBreaks (fun meth hn => (fc (eg_FL_of wd_c3 (by decide) lf_RX3_28 (fun h => absurd h (by decide))) (fc (eg_FL_of wd_c3 (by decide) lf_RX3_50 (fun h => absurd h (by decide))) (fc (eg_FL_of wd_c1 (by decide) lf_RX3_107 (fun h => absurd h (by decide))) (fc (eg_FL_of wd_c1 (by decide) lf_RX3_113 (fun h => absurd h (by decide))) (fc (eg_FL_of wd_c1 (by decide) lf_RX3_120 (fun h => absurd h (by decide))) (fc (eg_FL_of wd_c1 (by decide) lf_RX3_123 (fun h => absurd h (by decide))) (fn)))))))) (fun A s H hE => (fn)) (fun p e s m args below meth c Q A ad0 N0 S0 hK hEx hA => (fc (mt_S hl S0 hK hEx hA (me_J7_fill_53178 g) lm_RX3_101 ls_J7_fill_53178 ln_RJ7 lc_J7_fill_53178 ⟨rfl, by decide, by decide, by decide +kernel⟩ ⟨rfl, rfl⟩ ⟨by decide, by decide⟩ (by decide)) (fc (mt_J9_min_7cf53 S0 lm_RX3_134 (by decide) (by decide) (by decide)) (fc (mt_V hl S0 hK hEx hA (me_X3_isKnown g) lm_RX3_116 li_X3_isKnown lx_X3_isKnown ln_RX3 lc_X3_isKnown ⟨rfl, by decide, by decide, by decide +kernel⟩ ⟨rfl, rfl⟩ ⟨by decide, by decide⟩ (ci := 3) rfl rfl sr_X3_isKnown (by decide)) (fn))))) (fun p e s m args below meth c Qc XC A ad0 N0 P S0 hK hEx hA hlk hout hPX => (fn)) (fun argv M Qp h => T_X3_findBreaks h)

/-- bit t, as the class asks for it -/
theorem bit_sh : ∀ t, t < 16 → ∀ x : Int32, (x &&& (nI 1 <<< (nI t &&& 31)) = 0) ↔ bit x t = false := by
  intro t ht x
  have hb : ∀ t, t < 16 → (nI 1 <<< (nI t &&& 31)) = nI (2 ^ t) := by decide
  have hs : ∀ t, t < 16 → ((nI t &&& 31).toBitVec.smod 32).toNat = t := by decide
  rw [hb t ht]
  unfold bit
  rw [decide_eq_false_iff_not]
  have e1 : (x &&& nI (2 ^ t) = 0) ↔ x.toBitVec.getLsbD t = false := by
    constructor
    · intro h
      have h := congrArg (fun z => z.toBitVec.getLsbD t) h
      simp only [Int32.toBitVec_and, BitVec.getLsbD_and] at h
      have e : ∀ t, t < 16 → (nI (2 ^ t)).toBitVec.getLsbD t = true := by decide
      rw [e t ht, Bool.and_true] at h
      rw [h]
      show (0 : BitVec 32).getLsbD t = false
      exact BitVec.getLsbD_zero
    · intro h
      apply Int32.toBitVec_inj.mp
      apply BitVec.eq_of_getLsbD_eq
      intro i hi
      simp only [Int32.toBitVec_and, BitVec.getLsbD_and]
      by_cases c : i = t
      · subst c
        rw [h, Bool.false_and]
        exact BitVec.getLsbD_zero.symm
      · have e : (nI (2 ^ t)).toBitVec.getLsbD i = false := by
          have : ∀ t, t < 16 → ∀ i, i < 32 → i ≠ t → (nI (2 ^ t)).toBitVec.getLsbD i = false := by decide +kernel
          exact this t ht i hi c
        rw [e, Bool.and_false]
        exact BitVec.getLsbD_zero.symm
  rw [e1]
  have e2 : ((x >>> (nI t &&& 31)) &&& nI 1 = nI 1) ↔ x.toBitVec.getLsbD t = true := by
    have e3 : ((x >>> (nI t &&& 31)) &&& nI 1).toBitVec.getLsbD 0 = x.toBitVec.getLsbD t := by
      simp only [Int32.toBitVec_and, Int32.toBitVec_shiftRight, BitVec.getLsbD_and]
      rw [show (nI 1).toBitVec.getLsbD 0 = true from by decide, Bool.and_true]
      show (x.toBitVec.sshiftRight ((nI t &&& 31).toBitVec.smod 32).toNat).getLsbD 0 = _
      rw [BitVec.getLsbD_sshiftRight, show ((nI t &&& 31).toBitVec.smod 32).toNat = t from hs t ht]
      simp [show t < 32 by omega]
    rcases and1 (x >>> (nI t &&& 31)) with h | h
    · rw [h] at e3 ⊢
      rw [← e3]
      decide
    · rw [h] at e3 ⊢
      rw [← e3]
      decide
  rw [e2]
  cases x.toBitVec.getLsbD t <;> simp
def k_X2_listTowns : eg_C := ([(0, .iconst 0, 1), (1, .istore_n 2, 1), (2, .iconst 0, 1), (3, .istore_n 3, 1), (4, .iload_n 3, 1), (5, .bipush 16, 2), (7, .if_icmp .ge 30, 3), (10, .iload_n 2, 1), (11, .aload_n 1, 1), (12, .arraylength, 1), (13, .if_icmp .ge 24, 3), (16, .iload_n 0, 1), (17, .iconst 1, 1), (18, .iload_n 3, 1), (19, .ishl, 1), (20, .iand, 1), (21, .ifCond .eq 10, 3), (24, .aload_n 1, 1), (25, .iload_n 2, 1), (26, .iinc 2 1, 3), (29, .iload_n 3, 1), (30, .iastore, 1), (31, .iinc 3 1, 3), (34, .goto (-30), 3), (37, .iload_n 2, 1), (38, .ireturn, 1)], [], [], [], [], 1, 0, 0)
theorem mk_X2_listTowns : ∀ q ∈ k_X2_listTowns.2.2.2.1, eg_mono q.2.2.2.2 := (fn)
set_option maxRecDepth 100000 in
theorem st_X2_listTowns_0 {Qp : eg_P} {M : eg_M} (x : Int32) (l : Nat)
  (l0 : eg_T wd k_X2_listTowns Qp 4 0 0 [some (.int x), some (.ref l), some (.int (nI 0)), some (.int (nI 0))] [] M) :
  eg_T wd k_X2_listTowns Qp 0 0 0 [some (.int x), some (.ref l), none, none] [] M := by
  refine eg_T_run mk_X2_listTowns (cut := [4]) 29 ?_
  show eg_T wd k_X2_listTowns Qp 4 0 0 [some (.int x), some (.ref l), some (.int (nI 0)), some (.int (nI 0))] [] M
  exact l0

set_option maxRecDepth 100000 in
theorem st_X2_listTowns_4 {Qp : eg_P} {M : eg_M} (x : Int32) (l : Nat) (x2 : Int32) (x3 : Int32)
  (g0 : (¬ ((nI 16) ≤ x3)) → ((Nat.ble 1 (eg_sh wd M l).1 && Nat.ble (eg_sh wd M l).1 7) = true))
  (g1 : (¬ ((nI 16) ≤ x3)) → (¬ ((nI (eg_len wd M l)) ≤ x2)) → (¬ ((x &&& ((nI 1) <<< (x3 &&& 31))) = 0)) → (eg_is wd M l 1 = true))
  (g2 : (¬ ((nI 16) ≤ x3)) → (¬ ((nI (eg_len wd M l)) ≤ x2)) → (¬ ((x &&& ((nI 1) <<< (x3 &&& 31))) = 0)) → (vp_in x2 (eg_len wd M l)))
  (l0 : ((nI 16) ≤ x3 ∨ (nI (eg_len wd M l)) ≤ x2) → Qp (.inl (some (.int x2))) M)
  (l1 : (¬ (nI 16) ≤ x3 ∧ (¬ (nI (eg_len wd M l)) ≤ x2 ∧ (x &&& ((nI 1) <<< (x3 &&& 31))) = 0)) → eg_T wd k_X2_listTowns Qp 4 0 0 [some (.int x), some (.ref l), some (.int x2), some (.int (x3 + (nI 1)))] [] M)
  (l2 : (¬ (nI 16) ≤ x3 ∧ (¬ (nI (eg_len wd M l)) ≤ x2 ∧ ¬ (x &&& ((nI 1) <<< (x3 &&& 31))) = 0)) → eg_T wd k_X2_listTowns Qp 4 0 0 [some (.int x), some (.ref l), some (.int (x2 + (nI 1))), some (.int (x3 + (nI 1)))] [] (eg_si M l x2.toNatClampNeg x3)) :
  eg_T wd k_X2_listTowns Qp 4 0 0 [some (.int x), some (.ref l), some (.int x2), some (.int x3)] [] M := by
  refine eg_T_run mk_X2_listTowns (cut := [4]) 29 ?_
  refine And.intro (fun (c1 : (nI 16) ≤ x3) => ?_) (fun (c1 : ¬ (nI 16) ≤ x3) => ?_)
  · skip
    refine And.intro (fun z => absurd z (by decide)) ?_
    show Qp (.inl (some (.int x2))) M
    exact l0 (Or.inl c1)
  · skip
    refine eg_need_of (show (Nat.ble 1 (eg_sh wd M l).1 && Nat.ble (eg_sh wd M l).1 7) = true from ?_) ?_
    · exact g0 c1
    refine And.intro (fun (c2 : (nI (eg_len wd M l)) ≤ x2) => ?_) (fun (c2 : ¬ (nI (eg_len wd M l)) ≤ x2) => ?_)
    · skip
      refine And.intro (fun z => absurd z (by decide)) ?_
      show Qp (.inl (some (.int x2))) M
      exact l0 (Or.inr c2)
    · skip
      refine And.intro (fun (c3 : (x &&& ((nI 1) <<< (x3 &&& 31))) = 0) => ?_) (fun (c3 : ¬ (x &&& ((nI 1) <<< (x3 &&& 31))) = 0) => ?_)
      · skip
        show eg_T wd k_X2_listTowns Qp 4 0 0 [some (.int x), some (.ref l), some (.int x2), some (.int (x3 + (nI 1)))] [] M
        exact l1 ⟨c1, ⟨c2, c3⟩⟩
      · skip
        refine eg_need_of (show eg_is wd M l 1 = true from ?_) ?_
        · exact g1 c1 c2 c3
        refine And.intro (show vp_in x2 (eg_len wd M l) from ?_) ?_
        · exact g2 c1 c2 c3
        show eg_T wd k_X2_listTowns Qp 4 0 0 [some (.int x), some (.ref l), some (.int (x2 + (nI 1))), some (.int (x3 + (nI 1)))] [] (eg_si M l x2.toNatClampNeg x3)
        exact l2 ⟨c1, ⟨c2, c3⟩⟩

def s_X2_listTowns : eg_S := fun argv M Qp => match argv with
  | [.int x, .ref l] => ((l = 119 ∨ l = 120)) ∧ ∀ (f : Nat → Int32), (isL f ((ones x 16).take 6)) → Qp (.inl (some (.int (nI ((ones x 16).take 6).length)))) (eg_ri M l f)
  | _ => False
theorem mo_X2_listTowns : eg_mono s_X2_listTowns := by
  intro argv M Q Q' h
  unfold s_X2_listTowns
  split
  · exact fun z => ⟨z.1, fun f y => h _ _ (z.2 f y)⟩
  · exact id
theorem sz_X2_listTowns : ∀ argv M Qp, s_X2_listTowns argv M Qp → (eg_ls0 argv).length ≤ 4 := by
  intro argv M Qp h
  unfold s_X2_listTowns at h
  split at h
  · exact Nat.le_of_ble_eq_true rfl
  · exact h.elim
set_option maxRecDepth 100000 in
set_option maxHeartbeats 1000000 in
theorem T_X2_listTowns {argv : List Value} {M : eg_M} {Qp : eg_P} (h : s_X2_listTowns argv M Qp) : eg_T wd k_X2_listTowns Qp 0 0 0 (eg_lsN 4 argv) [] M := by
  unfold s_X2_listTowns at h
  split at h
  · rename_i x l
    obtain ⟨hp, hq⟩ := h
    have hS : eg_is wd M l 1 = true ∧ eg_len wd M l = 6 ∧ (Nat.ble 1 (eg_sh wd M l).1 && Nat.ble (eg_sh wd M l).1 7) = true := by
      rcases hp with rfl | rfl <;> exact ⟨rfl, rfl, rfl⟩
    have lp : ∀ i (f : Nat → Int32), i ≤ 16 → (isL f (ones x i) ∧ (ones x i).length ≤ 6) → eg_T wd k_X2_listTowns Qp 4 0 0 [some (.int x), some (.ref l), some (.int (nI (ones x i).length)), some (.int (nI i))] [] (eg_ri M l f) := by
      refine eg_for ?_
      intro i f hi ⟨hf, hl⟩ kk
      have st := st_X2_listTowns_4 (Qp := Qp) (M := eg_ri M l f) x l (nI (ones x i).length) (nI i)
      rw [show eg_len wd (eg_ri M l f) l = 6 from hS.2.1, show eg_is wd (eg_ri M l f) l 1 = true from hS.1] at st
      simp (disch := omega) only [n_c, n_le, n_in, n_s, Nat.not_le, si_ri] at st
      refine st (fun _ => hS.2.2) (fun _ _ _ => trivial) (fun _ z _ => z) (fun z => ?_) (fun z => ?_) (fun z => ?_)
      · have e : (ones x 16).take 6 = ones x i := by
          rcases z with z | z
          · have : i = 16 := by omega
            subst this
            exact List.take_of_length_le hl
          · have hpre : ∃ R, ones x 16 = ones x i ++ R := by
              have : ∀ n, i ≤ n → ∃ R, ones x n = ones x i ++ R := by
                intro n hn
                induction hn with
                | refl => exact ⟨[], by rw [List.append_nil]⟩
                | step _ ih =>
                  obtain ⟨R, hR⟩ := ih
                  rw [ones_s, hR]
                  split
                  · exact ⟨R ++ [_], by rw [List.append_assoc]⟩
                  · exact ⟨R, rfl⟩
              exact this 16 hi
            obtain ⟨R, hR⟩ := hpre
            rw [hR, List.take_append_of_le_length (by omega)]
            exact List.take_of_length_le hl
        rw [e] at hq
        exact hq f hf
      · have hb : bit x i = false := (bit_sh i z.1 x).mp z.2.2
        have e : ones x (i + 1) = ones x i := by rw [ones_s, hb]; rfl
        have := kk f z.1 ⟨by rw [e]; exact hf, by rw [e]; exact hl⟩
        rw [e] at this
        exact this
      · have hb : bit x i = true := by
          cases h : bit x i with
          | true => rfl
          | false => exact absurd ((bit_sh i z.1 x).mpr h) z.2.2
        have e : ones x (i + 1) = ones x i ++ [i] := by rw [ones_s, if_pos hb]
        have := kk (fun j => if j = (ones x i).length then nI i else f j) z.1 ⟨by rw [e]; exact isL_add hf, by rw [e, List.length_append, List.length_singleton]; omega⟩
        rw [e, List.length_append] at this
        exact this
    have := lp 0 (eg_gi M l) (Nat.zero_le _) ⟨fun j h => absurd h (Nat.not_lt_zero _), Nat.zero_le _⟩
    rw [ri_id] at this
    exact st_X2_listTowns_0 _ _ this
    
  · exact h.elim
theorem de_X2_listTowns : ∀ q ∈ k_X2_listTowns.1, decode cX2_listTowns q.1 = .ok q.2 := by decide +kernel
theorem me_X2_listTowns (g : gl_T) : MT g yX2_listTowns cX2_listTowns 4 (some .int) ⟨0, 0, 0, 0⟩ 0 0 s_X2_listTowns := by
  intro hl
  exact eg_met_of (k := k_X2_listTowns) (by decide) rfl ⟨Nat.le_refl _, Nat.le_refl _⟩ rfl sz_X2_listTowns de_X2_listTowns (fun meth hn => (fn)) (fun A s H hE => (fn)) (fun p e s m args below meth c Q A ad0 N0 S0 hK hEx hA => (fn)) (fun p e s m args below meth c Qc XC A ad0 N0 P S0 hK hEx hA hlk hout hPX => (fn)) (fun argv M Qp h => T_X2_listTowns h)

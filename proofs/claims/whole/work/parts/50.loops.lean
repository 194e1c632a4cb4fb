theorem co_is (M : eg_M) {k : Nat} (h : k < 8) : eg_is wd M (56 + 1 + k) 2 = true ∧ eg_len wd M (56 + 1 + k) = 7 := by
  have e : ∀ p, p < 178 → eg_sh wd M p = wd.1 p := by
    intro p hp
    unfold eg_sh
    rw [show Nat.blt p wd.2.1 = true from Nat.ble_eq.mpr hp]
    rfl
  unfold eg_is eg_len
  rw [e _ (by omega)]
  have : ∀ k, k < 8 → Nat.beq (wd.1 (56 + 1 + k)).1 2 = true ∧ (wd.1 (56 + 1 + k)).2.1 = 7 := by decide
  exact this k h
/-- how far column c is from row r, under the prices -/
def k_far (M : eg_M) (r c : Nat) : Int64 := eg_gl M (56 + 1 + (r - 1)) (eg_gi M 65 c).toNatClampNeg - eg_gl M 66 r - eg_gl M 67 c
def k_nb (M : eg_M) (r n c : Nat) : Bool := decide ((1 ≤ c ∧ c ≤ n) ∧ eg_gi M 71 c = 0 ∧ ¬ eg_gl M 70 c ≤ k_far M r c)
def k_lw (M : eg_M) (r n c : Nat) : Int64 := if k_nb M r n c = true then k_far M r c else eg_gl M 70 c
def k_lc (M : eg_M) (a : Int32) (r n c : Nat) : Int32 := if k_nb M r n c = true then a else eg_gi M 69 c
def k_X5_lookFrom : eg_C := ([(0, .aload_n 0, 1), (1, .getfield 33, 3), (4, .iload_n 1, 1), (5, .iaload, 1), (6, .istore_n 2, 1), (7, .iconst 1, 1), (8, .istore_n 3, 1), (9, .iload_n 3, 1), (10, .aload_n 0, 1), (11, .getfield 22, 3), (14, .if_icmp .gt 76, 3), (17, .aload_n 0, 1), (18, .getfield 42, 3), (21, .iload_n 3, 1), (22, .baload, 1), (23, .ifCond .ne 61, 3), (26, .aload_n 0, 1), (27, .getfield 11, 3), (30, .iload_n 2, 1), (31, .iconst 1, 1), (32, .isub, 1), (33, .aaload, 1), (34, .aload_n 0, 1), (35, .getfield 18, 3), (38, .iload_n 3, 1), (39, .iaload, 1), (40, .laload, 1), (41, .aload_n 0, 1), (42, .getfield 26, 3), (45, .iload_n 2, 1), (46, .laload, 1), (47, .lsub, 1), (48, .aload_n 0, 1), (49, .getfield 30, 3), (52, .iload_n 3, 1), (53, .laload, 1), (54, .lsub, 1), (55, .lstore 4, 2), (57, .lload 4, 2), (59, .aload_n 0, 1), (60, .getfield 39, 3), (63, .iload_n 3, 1), (64, .laload, 1), (65, .lcmp, 1), (66, .ifCond .ge 18, 3), (69, .aload_n 0, 1), (70, .getfield 39, 3), (73, .iload_n 3, 1), (74, .lload 4, 2), (76, .lastore, 1), (77, .aload_n 0, 1), (78, .getfield 36, 3), (81, .iload_n 3, 1), (82, .iload_n 1, 1), (83, .iastore, 1), (84, .iinc 3 1, 3), (87, .goto (-78), 3), (90, .return_, 1)], [(11, 5, 0, false), (18, 5, 1, false), (22, 5, 2, false), (26, 5, 3, false), (30, 5, 4, false), (33, 5, 5, false), (36, 5, 6, false), (39, 5, 7, false), (42, 5, 8, false)], [], [], [], 0, 0, 0)
theorem mk_X5_lookFrom : ∀ q ∈ k_X5_lookFrom.2.2.2.1, eg_mono q.2.2.2.2 := (fn)
set_option maxRecDepth 100000 in
theorem st_X5_lookFrom_0 {Qp : eg_P} {M : eg_M} (a : Int32)
  (g0 : (vp_in a 33))
  (l0 : eg_T wd k_X5_lookFrom Qp 9 0 0 [some (.ref 55), some (.int a), some (.int (eg_gi M 68 a.toNatClampNeg)), some (.int (nI 1)), none, none] [] M) :
  eg_T wd k_X5_lookFrom Qp 0 0 0 [some (.ref 55), some (.int a), none, none, none, none] [] M := by
  refine eg_T_run mk_X5_lookFrom (cut := [9]) 61 ?_
  refine And.intro (show vp_in a 33 from ?_) ?_
  · exact g0
  show eg_T wd k_X5_lookFrom Qp 9 0 0 [some (.ref 55), some (.int a), some (.int (eg_gi M 68 a.toNatClampNeg)), some (.int (nI 1)), none, none] [] M
  exact l0

set_option maxRecDepth 100000 in
theorem st_X5_lookFrom_9 {Qp : eg_P} {M : eg_M} (a : Int32) (x2 : Int32) (x3 : Int32) (o4 : Option Value) (o5 : Option Value)
  (g0 : (¬ ((eg_gi M 55 2) < x3)) → (vp_in x3 33))
  (g1 : (¬ ((eg_gi M 55 2) < x3)) → ((eg_gi M 71 x3.toNatClampNeg) = 0) → (vp_in (x2 - (nI 1)) 8))
  (g2 : (¬ ((eg_gi M 55 2) < x3)) → ((eg_gi M 71 x3.toNatClampNeg) = 0) → (eg_is wd M (56 + 1 + (x2 - (nI 1)).toNatClampNeg) 2 = true))
  (g3 : (¬ ((eg_gi M 55 2) < x3)) → ((eg_gi M 71 x3.toNatClampNeg) = 0) → (vp_in (eg_gi M 65 x3.toNatClampNeg) (eg_len wd M (56 + 1 + (x2 - (nI 1)).toNatClampNeg))))
  (g4 : (¬ ((eg_gi M 55 2) < x3)) → ((eg_gi M 71 x3.toNatClampNeg) = 0) → (vp_in x2 9))
  (l0 : ((eg_gi M 55 2) < x3) → Qp (.inl none) M)
  (l1 : (¬ (eg_gi M 55 2) < x3 ∧ ((eg_gi M 71 x3.toNatClampNeg) = 0 ∧ (eg_gl M 70 x3.toNatClampNeg) ≤ (((eg_gl M (56 + 1 + (x2 - (nI 1)).toNatClampNeg) (eg_gi M 65 x3.toNatClampNeg).toNatClampNeg) - (eg_gl M 66 x2.toNatClampNeg)) - (eg_gl M 67 x3.toNatClampNeg)))) → eg_T wd k_X5_lookFrom Qp 9 0 0 [some (.ref 55), some (.int a), some (.int x2), some (.int (x3 + (nI 1))), some (.long (((eg_gl M (56 + 1 + (x2 - (nI 1)).toNatClampNeg) (eg_gi M 65 x3.toNatClampNeg).toNatClampNeg) - (eg_gl M 66 x2.toNatClampNeg)) - (eg_gl M 67 x3.toNatClampNeg))), none] [] M)
  (l2 : (¬ (eg_gi M 55 2) < x3 ∧ ((eg_gi M 71 x3.toNatClampNeg) = 0 ∧ ¬ (eg_gl M 70 x3.toNatClampNeg) ≤ (((eg_gl M (56 + 1 + (x2 - (nI 1)).toNatClampNeg) (eg_gi M 65 x3.toNatClampNeg).toNatClampNeg) - (eg_gl M 66 x2.toNatClampNeg)) - (eg_gl M 67 x3.toNatClampNeg)))) → eg_T wd k_X5_lookFrom Qp 9 0 0 [some (.ref 55), some (.int a), some (.int x2), some (.int (x3 + (nI 1))), some (.long (((eg_gl M (56 + 1 + (x2 - (nI 1)).toNatClampNeg) (eg_gi M 65 x3.toNatClampNeg).toNatClampNeg) - (eg_gl M 66 x2.toNatClampNeg)) - (eg_gl M 67 x3.toNatClampNeg))), none] [] (eg_si (eg_sl M 70 x3.toNatClampNeg (((eg_gl M (56 + 1 + (x2 - (nI 1)).toNatClampNeg) (eg_gi M 65 x3.toNatClampNeg).toNatClampNeg) - (eg_gl M 66 x2.toNatClampNeg)) - (eg_gl M 67 x3.toNatClampNeg))) 69 x3.toNatClampNeg a))
  (l3 : (¬ (eg_gi M 55 2) < x3 ∧ ¬ (eg_gi M 71 x3.toNatClampNeg) = 0) → eg_T wd k_X5_lookFrom Qp 9 0 0 [some (.ref 55), some (.int a), some (.int x2), some (.int (x3 + (nI 1))), o4, o5] [] M) :
  eg_T wd k_X5_lookFrom Qp 9 0 0 [some (.ref 55), some (.int a), some (.int x2), some (.int x3), o4, o5] [] M := by
  refine eg_T_run mk_X5_lookFrom (cut := [9]) 61 ?_
  refine And.intro (fun (c1 : (eg_gi M 55 2) < x3) => ?_) (fun (c1 : ¬ (eg_gi M 55 2) < x3) => ?_)
  · skip
    show Qp (.inl none) M
    exact l0 c1
  · skip
    refine And.intro (show vp_in x3 33 from ?_) ?_
    · exact g0 c1
    refine And.intro (fun (c2 : (eg_gi M 71 x3.toNatClampNeg) = 0) => ?_) (fun (c2 : ¬ (eg_gi M 71 x3.toNatClampNeg) = 0) => ?_)
    · skip
      refine And.intro (show vp_in (x2 - (nI 1)) 8 from ?_) ?_
      · exact g1 c1 c2
      refine And.intro (show vp_in x3 33 from ?_) ?_
      · exact g0 c1
      refine eg_need_of (show eg_is wd M (56 + 1 + (x2 - (nI 1)).toNatClampNeg) 2 = true from ?_) ?_
      · exact g2 c1 c2
      refine And.intro (show vp_in (eg_gi M 65 x3.toNatClampNeg) (eg_len wd M (56 + 1 + (x2 - (nI 1)).toNatClampNeg)) from ?_) ?_
      · exact g3 c1 c2
      refine And.intro (show vp_in x2 9 from ?_) ?_
      · exact g4 c1 c2
      refine And.intro (show vp_in x3 33 from ?_) ?_
      · exact g0 c1
      refine And.intro (show vp_in x3 33 from ?_) ?_
      · exact g0 c1
      refine And.intro (fun (c3 : 0 ≤ (lg_cmp (((eg_gl M (56 + 1 + (x2 - (nI 1)).toNatClampNeg) (eg_gi M 65 x3.toNatClampNeg).toNatClampNeg) - (eg_gl M 66 x2.toNatClampNeg)) - (eg_gl M 67 x3.toNatClampNeg)) (eg_gl M 70 x3.toNatClampNeg))) => ?_) (fun (c3 : ¬ 0 ≤ (lg_cmp (((eg_gl M (56 + 1 + (x2 - (nI 1)).toNatClampNeg) (eg_gi M 65 x3.toNatClampNeg).toNatClampNeg) - (eg_gl M 66 x2.toNatClampNeg)) - (eg_gl M 67 x3.toNatClampNeg)) (eg_gl M 70 x3.toNatClampNeg))) => ?_)
      · replace c3 := lgc_ge.mp c3
        show eg_T wd k_X5_lookFrom Qp 9 0 0 [some (.ref 55), some (.int a), some (.int x2), some (.int (x3 + (nI 1))), some (.long (((eg_gl M (56 + 1 + (x2 - (nI 1)).toNatClampNeg) (eg_gi M 65 x3.toNatClampNeg).toNatClampNeg) - (eg_gl M 66 x2.toNatClampNeg)) - (eg_gl M 67 x3.toNatClampNeg))), none] [] M
        exact l1 ⟨c1, ⟨c2, c3⟩⟩
      · replace c3 := mt lgc_ge.mpr c3
        refine And.intro (show vp_in x3 33 from ?_) ?_
        · exact g0 c1
        refine And.intro (show vp_in x3 33 from ?_) ?_
        · exact g0 c1
        show eg_T wd k_X5_lookFrom Qp 9 0 0 [some (.ref 55), some (.int a), some (.int x2), some (.int (x3 + (nI 1))), some (.long (((eg_gl M (56 + 1 + (x2 - (nI 1)).toNatClampNeg) (eg_gi M 65 x3.toNatClampNeg).toNatClampNeg) - (eg_gl M 66 x2.toNatClampNeg)) - (eg_gl M 67 x3.toNatClampNeg))), none] [] (eg_si (eg_sl M 70 x3.toNatClampNeg (((eg_gl M (56 + 1 + (x2 - (nI 1)).toNatClampNeg) (eg_gi M 65 x3.toNatClampNeg).toNatClampNeg) - (eg_gl M 66 x2.toNatClampNeg)) - (eg_gl M 67 x3.toNatClampNeg))) 69 x3.toNatClampNeg a)
        exact l2 ⟨c1, ⟨c2, c3⟩⟩
    · skip
      show eg_T wd k_X5_lookFrom Qp 9 0 0 [some (.ref 55), some (.int a), some (.int x2), some (.int (x3 + (nI 1))), o4, o5] [] M
      exact l3 ⟨c1, c2⟩

def s_X5_lookFrom : eg_S := fun argv M Qp => match argv with
  | [.ref 55, .int a] => (vp_in a 33 ∧ eg_cn (eg_gi M 55 2) 32 ∧ (∃ r, 1 ≤ r ∧ r ≤ 8 ∧ eg_gi M 68 a.toNatClampNeg = nI r) ∧ ∀ c, 1 ≤ c → c ≤ (eg_gi M 55 2).toNatClampNeg → vp_in (eg_gi M 65 c) 7) ∧ Qp (.inl none) (eg_ri (eg_rl M 70 (k_lw M (eg_gi M 68 a.toNatClampNeg).toNatClampNeg (eg_gi M 55 2).toNatClampNeg)) 69 (k_lc M a (eg_gi M 68 a.toNatClampNeg).toNatClampNeg (eg_gi M 55 2).toNatClampNeg))
  | _ => False
theorem mo_X5_lookFrom : eg_mono s_X5_lookFrom := by
  intro argv M Q Q' h
  unfold s_X5_lookFrom
  split
  · exact fun z => ⟨z.1, h _ _ z.2⟩
  · exact id
theorem sz_X5_lookFrom : ∀ argv M Qp, s_X5_lookFrom argv M Qp → (eg_ls0 argv).length ≤ 6 := by
  intro argv M Qp h
  unfold s_X5_lookFrom at h
  split at h
  · exact Nat.le_of_ble_eq_true rfl
  · exact h.elim
theorem sr_X5_lookFrom : ∀ argv M Qp, s_X5_lookFrom argv M Qp → ∃ p0 As, argv = .ref p0 :: As ∧ eg_isO wd M p0 5 = true := by
  intro argv M Qp h
  unfold s_X5_lookFrom at h
  split at h
  · exact ⟨_, _, rfl, rfl⟩
  · exact h.elim
set_option maxRecDepth 100000 in
set_option maxHeartbeats 1000000 in
theorem T_X5_lookFrom {argv : List Value} {M : eg_M} {Qp : eg_P} (h : s_X5_lookFrom argv M Qp) : eg_T wd k_X5_lookFrom Qp 0 0 0 (eg_lsN 6 argv) [] M := by
  unfold s_X5_lookFrom at h
  split at h
  · rename_i a
    obtain ⟨hp, hq⟩ := h
    obtain ⟨ha, ⟨n, hn, hN⟩, ⟨r, hr1, hr8, hR⟩, hK⟩ := hp
    rw [hN, n_c (by omega)] at hK hq
    rw [hR, n_c (by omega)] at hq
    have lp : ∀ i (x : Option Value × Option Value), i ≤ n → True → eg_T wd k_X5_lookFrom Qp 9 0 0 [some (.ref 55), some (.int a), some (.int (nI r)), some (.int (nI (i + 1))), x.1, x.2] [] (eg_ri (eg_rl M 70 (k_lw M r i)) 69 (k_lc M a r i)) := by
      refine eg_for ?_
      intro i ⟨o4, o5⟩ hi _ kk
      have st := st_X5_lookFrom_9 (Qp := Qp) (M := eg_ri (eg_rl M 70 (k_lw M r i)) 69 (k_lc M a r i)) a (nI r) (nI (i + 1)) o4 o5
      have r1 : nI r - nI 1 = nI (r - 1) := by
        obtain ⟨q, rfl⟩ := Nat.exists_eq_add_of_le hr1
        rw [Nat.add_comm 1 q, n_p, Nat.add_sub_cancel]
      have r55 : eg_gi (eg_ri (eg_rl M 70 (k_lw M r i)) 69 (k_lc M a r i)) 55 2 = nI n := hN
      have r71 : eg_gi (eg_ri (eg_rl M 70 (k_lw M r i)) 69 (k_lc M a r i)) 71 (i + 1) = eg_gi M 71 (i + 1) := rfl
      have r65 : eg_gi (eg_ri (eg_rl M 70 (k_lw M r i)) 69 (k_lc M a r i)) 65 (i + 1) = eg_gi M 65 (i + 1) := rfl
      have r66 : eg_gl (eg_ri (eg_rl M 70 (k_lw M r i)) 69 (k_lc M a r i)) 66 r = eg_gl M 66 r := rfl
      have r67 : eg_gl (eg_ri (eg_rl M 70 (k_lw M r i)) 69 (k_lc M a r i)) 67 (i + 1) = eg_gl M 67 (i + 1) := rfl
      have nb0 : k_nb M r i (i + 1) = false := decide_eq_false (fun z => by omega)
      have r70 : eg_gl (eg_ri (eg_rl M 70 (k_lw M r i)) 69 (k_lc M a r i)) 70 (i + 1) = eg_gl M 70 (i + 1) := by
        show k_lw M r i (i + 1) = _
        unfold k_lw
        rw [nb0]
        rfl
      have rco : ∀ k, eg_gl (eg_ri (eg_rl M 70 (k_lw M r i)) 69 (k_lc M a r i)) (56 + 1 + (r - 1)) k = eg_gl M (56 + 1 + (r - 1)) k := fun k => by
        rw [ri_gl, rl_g, if_neg (by omega)]
      have hfar : eg_gl M (56 + 1 + (r - 1)) (eg_gi M 65 (i + 1)).toNatClampNeg - eg_gl M 66 r - eg_gl M 67 (i + 1) = k_far M r (i + 1) := rfl
      rw [n_c (show i + 1 < 2 ^ 31 by omega), r1, n_c (show r - 1 < 2 ^ 31 by omega), r55, n_lt (by omega) (by omega), r71, r65, n_c (show r < 2 ^ 31 by omega), r66, r67, r70, rco, n_s, hfar] at st
      have nbs : ∀ c, ¬ c = i + 1 → k_nb M r (i + 1) c = k_nb M r i c := fun c hc => by
        unfold k_nb
        rw [decide_eq_decide]
        exact and_congr (by omega) Iff.rfl
      have same : k_nb M r (i + 1) (i + 1) = false → eg_ri (eg_rl M 70 (k_lw M r (i + 1))) 69 (k_lc M a r (i + 1)) = eg_ri (eg_rl M 70 (k_lw M r i)) 69 (k_lc M a r i) := by
        intro h
        have h0 : ∀ c, k_nb M r (i + 1) c = k_nb M r i c := fun c => by
          by_cases hc : c = i + 1
          · rw [hc, h, nb0]
          · exact nbs c hc
        have e1 : k_lw M r (i + 1) = k_lw M r i := by
          funext c
          unfold k_lw
          rw [h0]
        have e2 : k_lc M a r (i + 1) = k_lc M a r i := by
          funext c
          unfold k_lc
          rw [h0]
        rw [e1, e2]
      refine st (fun _ => (n_in (by omega) (by decide)).mpr (by omega)) (fun _ _ => (n_in (by omega) (by decide)).mpr (by omega)) (fun _ _ => (co_is _ (by omega)).1) (fun z _ => ?_) (fun _ _ => (n_in (by omega) (by decide)).mpr (by omega)) (fun z => ?_) (fun z => ?_) (fun z => ?_) (fun z => ?_)
      · rw [(co_is _ (by omega)).2]
        exact hK (i + 1) (by omega) (by omega)
      · have : i = n := by omega
        subst this
        exact hq
      · have := kk (some (.long (k_far M r (i + 1))), none) (by omega) trivial
        rw [same (decide_eq_false (fun w => w.2.2 z.2.2))] at this
        exact this
      · have hnb : k_nb M r (i + 1) (i + 1) = true := decide_eq_true ⟨by omega, z.2⟩
        have := kk (some (.long (k_far M r (i + 1))), none) (by omega) trivial
        have e1 : k_lw M r (i + 1) = fun c => if c = i + 1 then k_far M r (i + 1) else k_lw M r i c := by
          funext c
          by_cases hc : c = i + 1
          · rw [if_pos hc, hc]
            unfold k_lw
            rw [if_pos hnb]
          · rw [if_neg hc]
            unfold k_lw
            rw [nbs c hc]
        have e2 : k_lc M a r (i + 1) = fun c => if c = i + 1 then a else k_lc M a r i c := by
          funext c
          by_cases hc : c = i + 1
          · rw [if_pos hc, hc]
            unfold k_lc
            rw [if_pos hnb]
          · rw [if_neg hc]
            unfold k_lc
            rw [nbs c hc]
        rw [e1, e2, ← si_ri, ← sl_rl] at this
        exact this
      · have := kk (o4, o5) (by omega) trivial
        rw [same (decide_eq_false (fun w => z.2 w.2.1))] at this
        exact this
    have st := st_X5_lookFrom_0 (Qp := Qp) (M := M) a ha
    rw [hR] at st
    refine st ?_
    have := lp 0 (none, none) (Nat.zero_le _) trivial
    have nb0 : ∀ c, k_nb M r 0 c = false := fun c => decide_eq_false (fun z => by omega)
    have e1 : k_lw M r 0 = eg_gl M 70 := by
      funext c
      unfold k_lw
      rw [nb0]
      rfl
    have e2 : k_lc M a r 0 = eg_gi M 69 := by
      funext c
      unfold k_lc
      rw [nb0]
      rfl
    rw [e1, e2, rl_id, ri_id] at this
    exact this
  · exact h.elim
theorem de_X5_lookFrom : ∀ q ∈ k_X5_lookFrom.1, decode cX5_lookFrom q.1 = .ok q.2 := by decide +kernel
theorem me_X5_lookFrom (g : gl_T) : MT g yX5_lookFrom cX5_lookFrom 6 none ⟨0, 0, 0, 0⟩ 0 0 s_X5_lookFrom := by
  intro hl
  exact eg_met_of (k := k_X5_lookFrom) (by decide) rfl ⟨Nat.le_refl _, Nat.le_refl _⟩ rfl sz_X5_lookFrom de_X5_lookFrom (fun meth hn => (fc (eg_FL_of wd_c5 (by decide) lf_RX5_11 (fun h => absurd h (by decide))) (fc (eg_FL_of wd_c5 (by decide) lf_RX5_18 (fun h => absurd h (by decide))) (fc (eg_FL_of wd_c5 (by decide) lf_RX5_22 (fun h => absurd h (by decide))) (fc (eg_FL_of wd_c5 (by decide) lf_RX5_26 (fun h => absurd h (by decide))) (fc (eg_FL_of wd_c5 (by decide) lf_RX5_30 (fun h => absurd h (by decide))) (fc (eg_FL_of wd_c5 (by decide) lf_RX5_33 (fun h => absurd h (by decide))) (fc (eg_FL_of wd_c5 (by decide) lf_RX5_36 (fun h => absurd h (by decide))) (fc (eg_FL_of wd_c5 (by decide) lf_RX5_39 (fun h => absurd h (by decide))) (fc (eg_FL_of wd_c5 (by decide) lf_RX5_42 (fun h => absurd h (by decide))) (fn))))))))))) (fun A s H hE => (fn)) (fun p e s m args below meth c Q A ad0 N0 S0 hK hEx hA => (fn)) (fun p e s m args below meth c Qc XC A ad0 N0 P S0 hK hEx hA hlk hout hPX => (fn)) (fun argv M Qp h => T_X5_lookFrom h)

def k_X5_moveBy : eg_C := ([(0, .iconst 0, 1), (1, .istore_n 3, 1), (2, .iload_n 3, 1), (3, .aload_n 0, 1), (4, .getfield 22, 3), (7, .if_icmp .gt 56, 3), (10, .aload_n 0, 1), (11, .getfield 42, 3), (14, .iload_n 3, 1), (15, .baload, 1), (16, .ifCond .eq 31, 3), (19, .aload_n 0, 1), (20, .getfield 26, 3), (23, .aload_n 0, 1), (24, .getfield 33, 3), (27, .iload_n 3, 1), (28, .iaload, 1), (29, .dup2, 1), (30, .laload, 1), (31, .lload_n 1, 1), (32, .ladd, 1), (33, .lastore, 1), (34, .aload_n 0, 1), (35, .getfield 30, 3), (38, .iload_n 3, 1), (39, .dup2, 1), (40, .laload, 1), (41, .lload_n 1, 1), (42, .lsub, 1), (43, .lastore, 1), (44, .goto 13, 3), (47, .aload_n 0, 1), (48, .getfield 39, 3), (51, .iload_n 3, 1), (52, .dup2, 1), (53, .laload, 1), (54, .lload_n 1, 1), (55, .lsub, 1), (56, .lastore, 1), (57, .iinc 3 1, 3), (60, .goto (-58), 3), (63, .return_, 1)], [(22, 5, 2, false), (26, 5, 3, false), (30, 5, 4, false), (33, 5, 5, false), (39, 5, 7, false), (42, 5, 8, false)], [], [], [], 0, 0, 0)
theorem mk_X5_moveBy : ∀ q ∈ k_X5_moveBy.2.2.2.1, eg_mono q.2.2.2.2 := (fn)
set_option maxRecDepth 100000 in
theorem st_X5_moveBy_0 {Qp : eg_P} {M : eg_M} (a : Int64)
  (l0 : eg_T wd k_X5_moveBy Qp 2 0 0 [some (.ref 55), some (.long a), none, some (.int (nI 0))] [] M) :
  eg_T wd k_X5_moveBy Qp 0 0 0 [some (.ref 55), some (.long a), none, none] [] M := by
  refine eg_T_run mk_X5_moveBy (cut := [2]) 45 ?_
  show eg_T wd k_X5_moveBy Qp 2 0 0 [some (.ref 55), some (.long a), none, some (.int (nI 0))] [] M
  exact l0

set_option maxRecDepth 100000 in
theorem st_X5_moveBy_2 {Qp : eg_P} {M : eg_M} (a : Int64) (x3 : Int32)
  (g0 : (¬ ((eg_gi M 55 2) < x3)) → (vp_in x3 33))
  (g1 : (¬ ((eg_gi M 55 2) < x3)) → (¬ ((eg_gi M 71 x3.toNatClampNeg) = 0)) → (vp_in (eg_gi M 68 x3.toNatClampNeg) 9))
  (l0 : ((eg_gi M 55 2) < x3) → Qp (.inl none) M)
  (l1 : (¬ (eg_gi M 55 2) < x3 ∧ (eg_gi M 71 x3.toNatClampNeg) = 0) → eg_T wd k_X5_moveBy Qp 2 0 0 [some (.ref 55), some (.long a), none, some (.int (x3 + (nI 1)))] [] (eg_sl M 70 x3.toNatClampNeg ((eg_gl M 70 x3.toNatClampNeg) - a)))
  (l2 : (¬ (eg_gi M 55 2) < x3 ∧ ¬ (eg_gi M 71 x3.toNatClampNeg) = 0) → eg_T wd k_X5_moveBy Qp 2 0 0 [some (.ref 55), some (.long a), none, some (.int (x3 + (nI 1)))] [] (eg_sl (eg_sl M 66 (eg_gi M 68 x3.toNatClampNeg).toNatClampNeg ((eg_gl M 66 (eg_gi M 68 x3.toNatClampNeg).toNatClampNeg) + a)) 67 x3.toNatClampNeg ((eg_gl M 67 x3.toNatClampNeg) - a))) :
  eg_T wd k_X5_moveBy Qp 2 0 0 [some (.ref 55), some (.long a), none, some (.int x3)] [] M := by
  refine eg_T_run mk_X5_moveBy (cut := [2]) 45 ?_
  refine And.intro (fun (c1 : (eg_gi M 55 2) < x3) => ?_) (fun (c1 : ¬ (eg_gi M 55 2) < x3) => ?_)
  · skip
    show Qp (.inl none) M
    exact l0 c1
  · skip
    refine And.intro (show vp_in x3 33 from ?_) ?_
    · exact g0 c1
    refine And.intro (fun (c2 : (eg_gi M 71 x3.toNatClampNeg) = 0) => ?_) (fun (c2 : ¬ (eg_gi M 71 x3.toNatClampNeg) = 0) => ?_)
    · skip
      refine And.intro (show vp_in x3 33 from ?_) ?_
      · exact g0 c1
      refine And.intro (show vp_in x3 33 from ?_) ?_
      · exact g0 c1
      show eg_T wd k_X5_moveBy Qp 2 0 0 [some (.ref 55), some (.long a), none, some (.int (x3 + (nI 1)))] [] (eg_sl M 70 x3.toNatClampNeg ((eg_gl M 70 x3.toNatClampNeg) - a))
      exact l1 ⟨c1, c2⟩
    · skip
      refine And.intro (show vp_in x3 33 from ?_) ?_
      · exact g0 c1
      refine And.intro (show vp_in (eg_gi M 68 x3.toNatClampNeg) 9 from ?_) ?_
      · exact g1 c1 c2
      refine And.intro (show vp_in (eg_gi M 68 x3.toNatClampNeg) 9 from ?_) ?_
      · exact g1 c1 c2
      refine And.intro (show vp_in x3 33 from ?_) ?_
      · exact g0 c1
      refine And.intro (show vp_in x3 33 from ?_) ?_
      · exact g0 c1
      show eg_T wd k_X5_moveBy Qp 2 0 0 [some (.ref 55), some (.long a), none, some (.int (x3 + (nI 1)))] [] (eg_sl (eg_sl M 66 (eg_gi M 68 x3.toNatClampNeg).toNatClampNeg ((eg_gl M 66 (eg_gi M 68 x3.toNatClampNeg).toNatClampNeg) + a)) 67 x3.toNatClampNeg ((eg_gl M 67 x3.toNatClampNeg) - a))
      exact l2 ⟨c1, c2⟩

def s_X5_moveBy : eg_S := fun argv M Qp => match argv with
  | [.ref 55, .long a] => (eg_cn (eg_gi M 55 2) 32 ∧ (∀ c, c ≤ (eg_gi M 55 2).toNatClampNeg → ¬ eg_gi M 71 c = 0 → vp_in (eg_gi M 68 c) 9) ∧ ∀ c d, c ≤ (eg_gi M 55 2).toNatClampNeg → d ≤ (eg_gi M 55 2).toNatClampNeg → ¬ eg_gi M 71 c = 0 → ¬ eg_gi M 71 d = 0 → (eg_gi M 68 c).toNatClampNeg = (eg_gi M 68 d).toNatClampNeg → c = d) ∧ ∀ (u : Nat → Int64), ((∀ c, c ≤ (eg_gi M 55 2).toNatClampNeg → ¬ eg_gi M 71 c = 0 → u (eg_gi M 68 c).toNatClampNeg = eg_gl M 66 (eg_gi M 68 c).toNatClampNeg + a) ∧ ∀ r, (∀ c, c ≤ (eg_gi M 55 2).toNatClampNeg → ¬ eg_gi M 71 c = 0 → ¬ (eg_gi M 68 c).toNatClampNeg = r) → u r = eg_gl M 66 r) → Qp (.inl none) (eg_rl (eg_rl (eg_rl M 66 u) 67 (fun c => if c < (eg_gi M 55 2).toNatClampNeg + 1 ∧ ¬ eg_gi M 71 c = 0 then eg_gl M 67 c - a else eg_gl M 67 c)) 70 (fun c => if c < (eg_gi M 55 2).toNatClampNeg + 1 ∧ eg_gi M 71 c = 0 then eg_gl M 70 c - a else eg_gl M 70 c))
  | _ => False
theorem mo_X5_moveBy : eg_mono s_X5_moveBy := by
  intro argv M Q Q' h
  unfold s_X5_moveBy
  split
  · exact fun z => ⟨z.1, fun u y => h _ _ (z.2 u y)⟩
  · exact id
theorem sz_X5_moveBy : ∀ argv M Qp, s_X5_moveBy argv M Qp → (eg_ls0 argv).length ≤ 4 := by
  intro argv M Qp h
  unfold s_X5_moveBy at h
  split at h
  · exact Nat.le_of_ble_eq_true rfl
  · exact h.elim
theorem sr_X5_moveBy : ∀ argv M Qp, s_X5_moveBy argv M Qp → ∃ p0 As, argv = .ref p0 :: As ∧ eg_isO wd M p0 5 = true := by
  intro argv M Qp h
  unfold s_X5_moveBy at h
  split at h
  · exact ⟨_, _, rfl, rfl⟩
  · exact h.elim
set_option maxRecDepth 100000 in
set_option maxHeartbeats 1000000 in
theorem T_X5_moveBy {argv : List Value} {M : eg_M} {Qp : eg_P} (h : s_X5_moveBy argv M Qp) : eg_T wd k_X5_moveBy Qp 0 0 0 (eg_lsN 4 argv) [] M := by
  unfold s_X5_moveBy at h
  split at h
  · rename_i a
    obtain ⟨hp, hq⟩ := h
    obtain ⟨⟨n, hn, hN⟩, hR, hJ⟩ := hp
    rw [hN, n_c (by omega)] at hR hJ hq
    have lp : ∀ i (u : Nat → Int64), i ≤ n + 1 → ((∀ c, c < i → ¬ eg_gi M 71 c = 0 → u (eg_gi M 68 c).toNatClampNeg = eg_gl M 66 (eg_gi M 68 c).toNatClampNeg + a) ∧ ∀ r, (∀ c, c < i → ¬ eg_gi M 71 c = 0 → ¬ (eg_gi M 68 c).toNatClampNeg = r) → u r = eg_gl M 66 r) → eg_T wd k_X5_moveBy Qp 2 0 0 [some (.ref 55), some (.long a), none, some (.int (nI i))] [] (eg_rl (eg_rl (eg_rl M 66 u) 67 (fun c => if c < i ∧ ¬ eg_gi M 71 c = 0 then eg_gl M 67 c - a else eg_gl M 67 c)) 70 (fun c => if c < i ∧ eg_gi M 71 c = 0 then eg_gl M 70 c - a else eg_gl M 70 c)) := by
      refine eg_for ?_
      intro i u hi ⟨h1, h2⟩ kk
      have st := st_X5_moveBy_2 (Qp := Qp) (M := eg_rl (eg_rl (eg_rl M 66 u) 67 (fun c => if c < i ∧ ¬ eg_gi M 71 c = 0 then eg_gl M 67 c - a else eg_gl M 67 c)) 70 (fun c => if c < i ∧ eg_gi M 71 c = 0 then eg_gl M 70 c - a else eg_gl M 70 c)) a (nI i)
      simp only [rl_gi] at st
      have r70 : eg_gl (eg_rl (eg_rl (eg_rl M 66 u) 67 (fun c => if c < i ∧ ¬ eg_gi M 71 c = 0 then eg_gl M 67 c - a else eg_gl M 67 c)) 70 (fun c => if c < i ∧ eg_gi M 71 c = 0 then eg_gl M 70 c - a else eg_gl M 70 c)) 70 i = eg_gl M 70 i := by
        rw [rl_g, if_pos rfl, if_neg (by omega)]
      have r67 : eg_gl (eg_rl (eg_rl (eg_rl M 66 u) 67 (fun c => if c < i ∧ ¬ eg_gi M 71 c = 0 then eg_gl M 67 c - a else eg_gl M 67 c)) 70 (fun c => if c < i ∧ eg_gi M 71 c = 0 then eg_gl M 70 c - a else eg_gl M 70 c)) 67 i = eg_gl M 67 i := by
        rw [rl_g, if_neg (by decide), rl_g, if_pos rfl, if_neg (by omega)]
      have r66 : ∀ k, eg_gl (eg_rl (eg_rl (eg_rl M 66 u) 67 (fun c => if c < i ∧ ¬ eg_gi M 71 c = 0 then eg_gl M 67 c - a else eg_gl M 67 c)) 70 (fun c => if c < i ∧ eg_gi M 71 c = 0 then eg_gl M 70 c - a else eg_gl M 70 c)) 66 k = u k := fun _ => rfl
      rw [n_c (show i < 2 ^ 31 by omega), hN, n_lt (by omega) (by omega), r70, r67, r66, n_s] at st
      refine st (fun _ => (n_in (by omega) (by decide)).mpr (by omega)) (fun z y => hR i (by omega) y) (fun z => ?_) (fun z => ?_) (fun z => ?_)
      · have : i = n + 1 := by omega
        subst this
        exact hq u ⟨fun c hc => h1 c (by omega), fun r hr => h2 r (fun c hc => hr c (by omega))⟩
      · have := kk u (by omega) ⟨fun c hc hr => ?_, fun r hr => h2 r (fun c hc => hr c (by omega))⟩
        · have e1 : (fun c => if c < i + 1 ∧ ¬ eg_gi M 71 c = 0 then eg_gl M 67 c - a else eg_gl M 67 c) = fun c => if c < i ∧ ¬ eg_gi M 71 c = 0 then eg_gl M 67 c - a else eg_gl M 67 c := by
            funext c
            by_cases w : c < i ∧ ¬ eg_gi M 71 c = 0
            · rw [if_pos w, if_pos ⟨by omega, w.2⟩]
            · rw [if_neg w, if_neg]
              rintro ⟨w1, w2⟩
              by_cases e : c = i
              · exact w2 (e ▸ z.2)
              · exact w ⟨by omega, w2⟩
          have e2 : (fun c => if c < i + 1 ∧ eg_gi M 71 c = 0 then eg_gl M 70 c - a else eg_gl M 70 c) = fun c => if c = i then eg_gl M 70 i - a else if c < i ∧ eg_gi M 71 c = 0 then eg_gl M 70 c - a else eg_gl M 70 c := by
            funext c
            by_cases e : c = i
            · subst e
              rw [if_pos rfl, if_pos ⟨by omega, z.2⟩]
            · rw [if_neg e]
              by_cases w : c < i ∧ eg_gi M 71 c = 0
              · rw [if_pos w, if_pos ⟨by omega, w.2⟩]
              · rw [if_neg w, if_neg (fun w2 => w ⟨by omega, w2.2⟩)]
          rw [e1, e2, ← sl_rl] at this
          exact this
        · by_cases e : c = i
          · exact absurd (e ▸ z.2) hr
          · exact h1 c (by omega) hr
      · have hui : u (eg_gi M 68 i).toNatClampNeg = eg_gl M 66 (eg_gi M 68 i).toNatClampNeg := h2 _ (fun c hc hr e => by
          have := hJ c i (by omega) (by omega) hr z.2 e
          omega)
        have := kk (fun j => if j = (eg_gi M 68 i).toNatClampNeg then u (eg_gi M 68 i).toNatClampNeg + a else u j) (by omega) ⟨fun c hc hr => ?_, fun r hr => ?_⟩
        · have e1 : (fun c => if c < i + 1 ∧ eg_gi M 71 c = 0 then eg_gl M 70 c - a else eg_gl M 70 c) = fun c => if c < i ∧ eg_gi M 71 c = 0 then eg_gl M 70 c - a else eg_gl M 70 c := by
            funext c
            by_cases w : c < i ∧ eg_gi M 71 c = 0
            · rw [if_pos w, if_pos ⟨by omega, w.2⟩]
            · rw [if_neg w, if_neg]
              rintro ⟨w1, w2⟩
              by_cases e : c = i
              · exact z.2 (e ▸ w2)
              · exact w ⟨by omega, w2⟩
          have e2 : (fun c => if c < i + 1 ∧ ¬ eg_gi M 71 c = 0 then eg_gl M 67 c - a else eg_gl M 67 c) = fun c => if c = i then eg_gl M 67 i - a else if c < i ∧ ¬ eg_gi M 71 c = 0 then eg_gl M 67 c - a else eg_gl M 67 c := by
            funext c
            by_cases e : c = i
            · subst e
              rw [if_pos rfl, if_pos ⟨by omega, z.2⟩]
            · rw [if_neg e]
              by_cases w : c < i ∧ ¬ eg_gi M 71 c = 0
              · rw [if_pos w, if_pos ⟨by omega, w.2⟩]
              · rw [if_neg w, if_neg (fun w2 => w ⟨by omega, w2.2⟩)]
          rw [e1, e2] at this
          simp (disch := decide) only [sl_rl_n, sl_rl]
          exact this
        · by_cases e : c = i
          · rw [e, if_pos rfl, hui]
          · rw [if_neg (fun w => e (hJ c i (by omega) (by omega) hr z.2 w))]
            exact h1 c (by omega) hr
        · rw [if_neg (fun w => hr i (by omega) z.2 w.symm)]
          exact h2 r (fun c hc => hr c (by omega))
    have := lp 0 (eg_gl M 66) (Nat.zero_le _) ⟨fun c hc => absurd hc (Nat.not_lt_zero _), fun r _ => rfl⟩
    have e1 : (fun c => if c < 0 ∧ ¬ eg_gi M 71 c = 0 then eg_gl M 67 c - a else eg_gl M 67 c) = eg_gl M 67 := by
      funext c
      rw [if_neg (fun w => absurd w.1 (Nat.not_lt_zero _))]
    have e2 : (fun c => if c < 0 ∧ eg_gi M 71 c = 0 then eg_gl M 70 c - a else eg_gl M 70 c) = eg_gl M 70 := by
      funext c
      rw [if_neg (fun w => absurd w.1 (Nat.not_lt_zero _))]
    rw [e1, e2, rl_id, rl_id, rl_id] at this
    exact st_X5_moveBy_0 a this
    
  · exact h.elim
theorem de_X5_moveBy : ∀ q ∈ k_X5_moveBy.1, decode cX5_moveBy q.1 = .ok q.2 := by decide +kernel
theorem me_X5_moveBy (g : gl_T) : MT g yX5_moveBy cX5_moveBy 4 none ⟨0, 0, 0, 0⟩ 0 0 s_X5_moveBy := by
  intro hl
  exact eg_met_of (k := k_X5_moveBy) (by decide) rfl ⟨Nat.le_refl _, Nat.le_refl _⟩ rfl sz_X5_moveBy de_X5_moveBy (fun meth hn => (fc (eg_FL_of wd_c5 (by decide) lf_RX5_22 (fun h => absurd h (by decide))) (fc (eg_FL_of wd_c5 (by decide) lf_RX5_26 (fun h => absurd h (by decide))) (fc (eg_FL_of wd_c5 (by decide) lf_RX5_30 (fun h => absurd h (by decide))) (fc (eg_FL_of wd_c5 (by decide) lf_RX5_33 (fun h => absurd h (by decide))) (fc (eg_FL_of wd_c5 (by decide) lf_RX5_39 (fun h => absurd h (by decide))) (fc (eg_FL_of wd_c5 (by decide) lf_RX5_42 (fun h => absurd h (by decide))) (fn)))))))) (fun A s H hE => (fn)) (fun p e s m args below meth c Q A ad0 N0 S0 hK hEx hA => (fn)) (fun p e s m args below meth c Qc XC A ad0 N0 P S0 hK hEx hA hlk hout hPX => (fn)) (fun argv M Qp h => T_X5_moveBy h)

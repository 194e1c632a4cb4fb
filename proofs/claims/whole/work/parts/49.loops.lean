/-- the class: one more event -/
def k_am (M : eg_M) (n : Nat) (a b c d e f g : Int32) : eg_M := eg_si (eg_si (eg_si (eg_si (eg_si (eg_si (eg_si M 13 n a) 14 n b) 15 n c) 16 n d) 17 n e) 18 n f) 19 n g
theorem k_ord_of {D D' : Nat → Int32} {n : Nat} {L : List Nat} (h : ∀ e, e < n → D' e = D e) (k : k_ord D n L) : k_ord D' n L := by
  obtain ⟨h1, h2, h3⟩ := k
  refine ⟨h1, List.Pairwise.imp_of_mem ?_ h2, h3⟩
  intro a b ha hb hab
  unfold dlt at hab ⊢
  rw [h a ((h3 a).mp ha), h b ((h3 b).mp hb)]
  exact hab
def k_X1_add : eg_C := ([(0, .aload_n 0, 1), (1, .getfield 42, 3), (4, .sipush 200, 3), (7, .if_icmp .lt 5, 3), (10, .iconst (-1), 1), (11, .ireturn, 1), (12, .aload_n 0, 1), (13, .getfield 9, 3), (16, .aload_n 0, 1), (17, .getfield 42, 3), (20, .iload_n 1, 1), (21, .iastore, 1), (22, .aload_n 0, 1), (23, .getfield 15, 3), (26, .aload_n 0, 1), (27, .getfield 42, 3), (30, .iload_n 2, 1), (31, .iastore, 1), (32, .aload_n 0, 1), (33, .getfield 18, 3), (36, .aload_n 0, 1), (37, .getfield 42, 3), (40, .iload_n 3, 1), (41, .iastore, 1), (42, .aload_n 0, 1), (43, .getfield 21, 3), (46, .aload_n 0, 1), (47, .getfield 42, 3), (50, .iload 4, 2), (52, .iastore, 1), (53, .aload_n 0, 1), (54, .getfield 24, 3), (57, .aload_n 0, 1), (58, .getfield 42, 3), (61, .iload 5, 2), (63, .iastore, 1), (64, .aload_n 0, 1), (65, .getfield 27, 3), (68, .aload_n 0, 1), (69, .getfield 42, 3), (72, .iload 6, 2), (74, .iastore, 1), (75, .aload_n 0, 1), (76, .getfield 30, 3), (79, .aload_n 0, 1), (80, .getfield 42, 3), (83, .iload 7, 2), (85, .iastore, 1), (86, .aload_n 0, 1), (87, .aload_n 0, 1), (88, .getfield 42, 3), (91, .invokevirtual 46, 3), (94, .aload_n 0, 1), (95, .dup, 1), (96, .getfield 42, 3), (99, .dup_x1, 1), (100, .iconst 1, 1), (101, .iadd, 1), (102, .putfield 42, 3), (105, .ireturn, 1)], [(9, 1, 0, false), (15, 1, 1, false), (18, 1, 2, false), (21, 1, 3, false), (24, 1, 4, false), (27, 1, 5, false), (30, 1, 6, false), (42, 1, 10, true)], [], [(46, 1 + 1, 0, 0, s_X1_putInOrder)], [], 1, 0, 0)
theorem mk_X1_add : ∀ q ∈ k_X1_add.2.2.2.1, eg_mono q.2.2.2.2 := (fc (mo_X1_putInOrder) (fn))
set_option maxRecDepth 100000 in
theorem st_X1_add_0 {Qp : eg_P} {M : eg_M} (a : Int32) (b : Int32) (c : Int32) (d : Int32) (e : Int32) (f : Int32) (g : Int32)
  (g0 : ((eg_gi M 12 10) < (nI 200)) → (vp_in (eg_gi M 12 10) 200))
  (g1 : ((eg_gi M 12 10) < (nI 200)) → (∃ n L, n < 200 ∧ (eg_gi M 12 10) = nI n ∧ isL (eg_gi (eg_si (eg_si (eg_si (eg_si (eg_si (eg_si (eg_si M 13 (eg_gi M 12 10).toNatClampNeg a) 14 (eg_gi M 12 10).toNatClampNeg b) 15 (eg_gi M 12 10).toNatClampNeg c) 16 (eg_gi M 12 10).toNatClampNeg d) 17 (eg_gi M 12 10).toNatClampNeg e) 18 (eg_gi M 12 10).toNatClampNeg f) 19 (eg_gi M 12 10).toNatClampNeg g) 22) L ∧ k_ord (eg_gi (eg_si (eg_si (eg_si (eg_si (eg_si (eg_si (eg_si M 13 (eg_gi M 12 10).toNatClampNeg a) 14 (eg_gi M 12 10).toNatClampNeg b) 15 (eg_gi M 12 10).toNatClampNeg c) 16 (eg_gi M 12 10).toNatClampNeg d) 17 (eg_gi M 12 10).toNatClampNeg e) 18 (eg_gi M 12 10).toNatClampNeg f) 19 (eg_gi M 12 10).toNatClampNeg g) 19) n L))
  (l0 : ((eg_gi M 12 10) < (nI 200)) → ∀ (L_1 : List Nat) (f_1 : Nat → Int32), (isL f_1 L_1 ∧ k_ord (eg_gi (eg_si (eg_si (eg_si (eg_si (eg_si (eg_si (eg_si M 13 (eg_gi M 12 10).toNatClampNeg a) 14 (eg_gi M 12 10).toNatClampNeg b) 15 (eg_gi M 12 10).toNatClampNeg c) 16 (eg_gi M 12 10).toNatClampNeg d) 17 (eg_gi M 12 10).toNatClampNeg e) 18 (eg_gi M 12 10).toNatClampNeg f) 19 (eg_gi M 12 10).toNatClampNeg g) 19) ((eg_gi M 12 10).toNatClampNeg + 1) L_1) → eg_T wd k_X1_add Qp 94 0 0 [some (.ref 12), some (.int a), some (.int b), some (.int c), some (.int d), some (.int e), some (.int f), some (.int g)] [] (eg_ri (eg_si (eg_si (eg_si (eg_si (eg_si (eg_si (eg_si M 13 (eg_gi M 12 10).toNatClampNeg a) 14 (eg_gi M 12 10).toNatClampNeg b) 15 (eg_gi M 12 10).toNatClampNeg c) 16 (eg_gi M 12 10).toNatClampNeg d) 17 (eg_gi M 12 10).toNatClampNeg e) 18 (eg_gi M 12 10).toNatClampNeg f) 19 (eg_gi M 12 10).toNatClampNeg g) 22 f_1))
  (l1 : (¬ (eg_gi M 12 10) < (nI 200)) → Qp (.inl (some (.int (-nI 1)))) M) :
  eg_T wd k_X1_add Qp 0 0 0 [some (.ref 12), some (.int a), some (.int b), some (.int c), some (.int d), some (.int e), some (.int f), some (.int g)] [] M := by
  refine eg_T_run mk_X1_add (cut := [94]) 63 ?_
  refine And.intro (fun (c1 : (eg_gi M 12 10) < (nI 200)) => ?_) (fun (c1 : ¬ (eg_gi M 12 10) < (nI 200)) => ?_)
  · skip
    refine And.intro (show vp_in (eg_gi M 12 10) 200 from ?_) ?_
    · exact g0 c1
    refine And.intro (show vp_in (eg_gi M 12 10) 200 from ?_) ?_
    · exact g0 c1
    refine And.intro (show vp_in (eg_gi M 12 10) 200 from ?_) ?_
    · exact g0 c1
    refine And.intro (show vp_in (eg_gi M 12 10) 200 from ?_) ?_
    · exact g0 c1
    refine And.intro (show vp_in (eg_gi M 12 10) 200 from ?_) ?_
    · exact g0 c1
    refine And.intro (show vp_in (eg_gi M 12 10) 200 from ?_) ?_
    · exact g0 c1
    refine And.intro (show vp_in (eg_gi M 12 10) 200 from ?_) ?_
    · exact g0 c1
    refine And.intro (show (∃ n L, n < 200 ∧ (eg_gi M 12 10) = nI n ∧ isL (eg_gi (eg_si (eg_si (eg_si (eg_si (eg_si (eg_si (eg_si M 13 (eg_gi M 12 10).toNatClampNeg a) 14 (eg_gi M 12 10).toNatClampNeg b) 15 (eg_gi M 12 10).toNatClampNeg c) 16 (eg_gi M 12 10).toNatClampNeg d) 17 (eg_gi M 12 10).toNatClampNeg e) 18 (eg_gi M 12 10).toNatClampNeg f) 19 (eg_gi M 12 10).toNatClampNeg g) 22) L ∧ k_ord (eg_gi (eg_si (eg_si (eg_si (eg_si (eg_si (eg_si (eg_si M 13 (eg_gi M 12 10).toNatClampNeg a) 14 (eg_gi M 12 10).toNatClampNeg b) 15 (eg_gi M 12 10).toNatClampNeg c) 16 (eg_gi M 12 10).toNatClampNeg d) 17 (eg_gi M 12 10).toNatClampNeg e) 18 (eg_gi M 12 10).toNatClampNeg f) 19 (eg_gi M 12 10).toNatClampNeg g) 19) n L) from ?_) ?_
    · exact g1 c1
    intro L_1 f_1 ha_1
    show eg_T wd k_X1_add Qp 94 0 0 [some (.ref 12), some (.int a), some (.int b), some (.int c), some (.int d), some (.int e), some (.int f), some (.int g)] [] (eg_ri (eg_si (eg_si (eg_si (eg_si (eg_si (eg_si (eg_si M 13 (eg_gi M 12 10).toNatClampNeg a) 14 (eg_gi M 12 10).toNatClampNeg b) 15 (eg_gi M 12 10).toNatClampNeg c) 16 (eg_gi M 12 10).toNatClampNeg d) 17 (eg_gi M 12 10).toNatClampNeg e) 18 (eg_gi M 12 10).toNatClampNeg f) 19 (eg_gi M 12 10).toNatClampNeg g) 22 f_1)
    exact l0 c1 L_1 f_1 ha_1
  · skip
    refine And.intro (fun z => absurd z (by decide)) ?_
    show Qp (.inl (some (.int (-nI 1)))) M
    exact l1 c1

set_option maxRecDepth 100000 in
theorem st_X1_add_94 {Qp : eg_P} {M : eg_M} (o1 : Option Value) (o2 : Option Value) (o3 : Option Value) (o4 : Option Value) (o5 : Option Value) (o6 : Option Value) (o7 : Option Value)
  (l0 : Qp (.inl (some (.int (eg_gi M 12 10)))) (eg_si M 12 10 ((eg_gi M 12 10) + (nI 1)))) :
  eg_T wd k_X1_add Qp 94 0 0 [some (.ref 12), o1, o2, o3, o4, o5, o6, o7] [] M := by
  refine eg_T_run mk_X1_add (cut := [94]) 63 ?_
  refine And.intro (fun z => absurd z (by decide)) ?_
  show Qp (.inl (some (.int (eg_gi M 12 10)))) (eg_si M 12 10 ((eg_gi M 12 10) + (nI 1)))
  exact l0

def s_X1_add : eg_S := fun argv M Qp => match argv with
  | [.ref 12, .int a, .int b, .int c, .int d, .int e, .int f, .int g] => (∃ n L, n ≤ 200 ∧ eg_gi M 12 10 = nI n ∧ isL (eg_gi M 22) L ∧ k_ord (eg_gi M 19) n L) ∧ ∀ (v : Int32) (M2 : eg_M), (((eg_gi M 12 10).toNatClampNeg = 200 ∧ v = -nI 1 ∧ M2 = M) ∨ ((eg_gi M 12 10).toNatClampNeg < 200 ∧ v = eg_gi M 12 10 ∧ ∃ L f', isL f' L ∧ k_ord (eg_gi (k_am M (eg_gi M 12 10).toNatClampNeg a b c d e f g) 19) ((eg_gi M 12 10).toNatClampNeg + 1) L ∧ M2 = eg_si (eg_ri (k_am M (eg_gi M 12 10).toNatClampNeg a b c d e f g) 22 f') 12 10 (nI ((eg_gi M 12 10).toNatClampNeg + 1)))) → Qp (.inl (some (.int (v)))) M2
  | _ => False
theorem mo_X1_add : eg_mono s_X1_add := by
  intro argv M Q Q' h
  unfold s_X1_add
  split
  · exact fun z => ⟨z.1, fun v M2 y => h _ _ (z.2 v M2 y)⟩
  · exact id
theorem sz_X1_add : ∀ argv M Qp, s_X1_add argv M Qp → (eg_ls0 argv).length ≤ 8 := by
  intro argv M Qp h
  unfold s_X1_add at h
  split at h
  · exact Nat.le_of_ble_eq_true rfl
  · exact h.elim
theorem sr_X1_add : ∀ argv M Qp, s_X1_add argv M Qp → ∃ p0 As, argv = .ref p0 :: As ∧ eg_isO wd M p0 1 = true := by
  intro argv M Qp h
  unfold s_X1_add at h
  split at h
  · exact ⟨_, _, rfl, rfl⟩
  · exact h.elim
set_option maxRecDepth 100000 in
set_option maxHeartbeats 1000000 in
theorem T_X1_add {argv : List Value} {M : eg_M} {Qp : eg_P} (h : s_X1_add argv M Qp) : eg_T wd k_X1_add Qp 0 0 0 (eg_lsN 8 argv) [] M := by
  unfold s_X1_add at h
  split at h
  · rename_i a b c d e f g
    obtain ⟨hp, hq⟩ := h
    obtain ⟨n, L, hn, hN, hL, hO⟩ := hp
    have hnn : (eg_gi M 12 10).toNatClampNeg = n := by rw [hN, n_c (by omega)]
    have st := st_X1_add_0 (Qp := Qp) (M := M) a b c d e f g
    rw [hnn] at hq st
    rw [hN, n_lt (by omega) (by decide)] at st
    rw [hN] at hq
    refine st (fun z => (n_in (by omega) (by decide)).mpr z) (fun z => ⟨n, L, z, rfl, hL, ?_⟩) (fun z L' f' hL' => ?_) (fun z => hq _ _ (Or.inl ⟨by omega, rfl, rfl⟩))
    · refine k_ord_of (fun e' he' => ?_) hO
      rw [si_g, if_neg (by omega)]
      rfl
    · refine st_X1_add_94 _ _ _ _ _ _ _ ?_
      have e1 : eg_gi (eg_ri (k_am M n a b c d e f g) 22 f') 12 10 = nI n := hN
      have := hq (nI n) (eg_si (eg_ri (k_am M n a b c d e f g) 22 f') 12 10 (nI (n + 1))) (Or.inr ⟨z, rfl, L', f', hL'.1, hL'.2, rfl⟩)
      unfold k_am at this e1
      rw [e1, n_s]
      exact this
  · exact h.elim
theorem de_X1_add : ∀ q ∈ k_X1_add.1, decode cX1_add q.1 = .ok q.2 := by decide +kernel
theorem me_X1_add (g : gl_T) : MT g yX1_add cX1_add 8 (some .int) ⟨1, 0, 0, 22⟩ 0 0 s_X1_add := by
  intro hl
  exact eg_met_of (k := k_X1_add) (by decide) rfl ⟨Nat.le_refl _, Nat.le_refl _⟩ rfl sz_X1_add de_X1_add (fun meth hn => (fc (eg_FL_of wd_c1 (by decide) lf_RX1_9 (fun h => absurd h (by decide))) (fc (eg_FL_of wd_c1 (by decide) lf_RX1_15 (fun h => absurd h (by decide))) (fc (eg_FL_of wd_c1 (by decide) lf_RX1_18 (fun h => absurd h (by decide))) (fc (eg_FL_of wd_c1 (by decide) lf_RX1_21 (fun h => absurd h (by decide))) (fc (eg_FL_of wd_c1 (by decide) lf_RX1_24 (fun h => absurd h (by decide))) (fc (eg_FL_of wd_c1 (by decide) lf_RX1_27 (fun h => absurd h (by decide))) (fc (eg_FL_of wd_c1 (by decide) lf_RX1_30 (fun h => absurd h (by decide))) (fc (eg_FL_of wd_c1 (by decide) lf_RX1_42 (fun _ => Or.inl rfl)) (fn)))))))))) (fun A s H hE => (fn)) (fun p e s m args below meth c Q A ad0 N0 S0 hK hEx hA => (fc (mt_V hl S0 hK hEx hA (me_X1_putInOrder g) lm_RX1_46 li_X1_putInOrder lx_X1_putInOrder ln_RX1 lc_X1_putInOrder ⟨rfl, by decide, by decide, by decide +kernel⟩ ⟨rfl, rfl⟩ ⟨by decide, by decide⟩ (ci := 1) rfl rfl sr_X1_putInOrder (by decide)) (fn))) (fun p e s m args below meth c Qc XC A ad0 N0 P S0 hK hEx hA hlk hout hPX => (fn)) (fun argv M Qp h => T_X1_add h)

/-- the class: columns of one kind more -/
def k_ac (M : eg_M) (a : Int32) (t k : Nat) : eg_M := eg_ri (eg_si M 55 2 (nI (t + k))) 65 (fun j => if t < j ∧ j ≤ t + k then a else eg_gi M 65 j)
theorem k_ac_s {M : eg_M} {a : Int32} {t k : Nat} : eg_si (eg_si (k_ac M a t k) 55 2 (nI (t + k + 1))) 65 (t + k + 1) a = k_ac M a t (k + 1) := by
  unfold k_ac
  rw [si_ri_n (by decide), si_si, si_ri]
  congr 1
  funext j
  by_cases h : j = t + k + 1
  · subst h
    rw [if_pos rfl, if_pos (by omega)]
  · rw [if_neg h]
    by_cases h2 : t < j ∧ j ≤ t + k
    · rw [if_pos h2, if_pos (by omega)]
    · rw [if_neg h2, if_neg (by omega)]
theorem k_ac_0 {M : eg_M} {a : Int32} {t : Nat} (h : eg_gi M 55 2 = nI t) : k_ac M a t 0 = M := by
  unfold k_ac
  rw [show t + 0 = t from rfl, ← h, si_id]
  refine ri_id' ?_
  funext j
  rw [if_neg (by omega)]
def k_X5_addColumns : eg_C := ([(0, .iconst 0, 1), (1, .istore_n 3, 1), (2, .iload_n 3, 1), (3, .iload_n 2, 1), (4, .if_icmp .ge 38, 3), (7, .aload_n 0, 1), (8, .getfield 22, 3), (11, .bipush 32, 2), (13, .if_icmp .ge 29, 3), (16, .aload_n 0, 1), (17, .dup, 1), (18, .getfield 22, 3), (21, .iconst 1, 1), (22, .iadd, 1), (23, .putfield 22, 3), (26, .aload_n 0, 1), (27, .getfield 18, 3), (30, .aload_n 0, 1), (31, .getfield 22, 3), (34, .iload_n 1, 1), (35, .iastore, 1), (36, .iinc 3 1, 3), (39, .goto (-37), 3), (42, .return_, 1)], [(18, 5, 1, false), (22, 5, 2, true)], [], [], [], 0, 0, 0)
theorem mk_X5_addColumns : ∀ q ∈ k_X5_addColumns.2.2.2.1, eg_mono q.2.2.2.2 := (fn)
set_option maxRecDepth 100000 in
theorem st_X5_addColumns_0 {Qp : eg_P} {M : eg_M} (a : Int32) (b : Int32)
  (l0 : eg_T wd k_X5_addColumns Qp 2 0 0 [some (.ref 55), some (.int a), some (.int b), some (.int (nI 0))] [] M) :
  eg_T wd k_X5_addColumns Qp 0 0 0 [some (.ref 55), some (.int a), some (.int b), none] [] M := by
  refine eg_T_run mk_X5_addColumns (cut := [2]) 27 ?_
  show eg_T wd k_X5_addColumns Qp 2 0 0 [some (.ref 55), some (.int a), some (.int b), some (.int (nI 0))] [] M
  exact l0

set_option maxRecDepth 100000 in
theorem st_X5_addColumns_2 {Qp : eg_P} {M : eg_M} (a : Int32) (b : Int32) (x3 : Int32)
  (g0 : (¬ (b ≤ x3)) → (¬ ((nI 32) ≤ (eg_gi M 55 2))) → (vp_in ((eg_gi M 55 2) + (nI 1)) 33))
  (l0 : (b ≤ x3 ∨ (nI 32) ≤ (eg_gi M 55 2)) → Qp (.inl none) M)
  (l1 : (¬ b ≤ x3 ∧ ¬ (nI 32) ≤ (eg_gi M 55 2)) → eg_T wd k_X5_addColumns Qp 2 0 0 [some (.ref 55), some (.int a), some (.int b), some (.int (x3 + (nI 1)))] [] (eg_si (eg_si M 55 2 ((eg_gi M 55 2) + (nI 1))) 65 ((eg_gi M 55 2) + (nI 1)).toNatClampNeg a)) :
  eg_T wd k_X5_addColumns Qp 2 0 0 [some (.ref 55), some (.int a), some (.int b), some (.int x3)] [] M := by
  refine eg_T_run mk_X5_addColumns (cut := [2]) 27 ?_
  refine And.intro (fun (c1 : b ≤ x3) => ?_) (fun (c1 : ¬ b ≤ x3) => ?_)
  · skip
    show Qp (.inl none) M
    exact l0 (Or.inl c1)
  · skip
    refine And.intro (fun (c2 : (nI 32) ≤ (eg_gi M 55 2)) => ?_) (fun (c2 : ¬ (nI 32) ≤ (eg_gi M 55 2)) => ?_)
    · skip
      show Qp (.inl none) M
      exact l0 (Or.inr c2)
    · skip
      refine And.intro (show vp_in ((eg_gi M 55 2) + (nI 1)) 33 from ?_) ?_
      · exact g0 c1 c2
      show eg_T wd k_X5_addColumns Qp 2 0 0 [some (.ref 55), some (.int a), some (.int b), some (.int (x3 + (nI 1)))] [] (eg_si (eg_si M 55 2 ((eg_gi M 55 2) + (nI 1))) 65 ((eg_gi M 55 2) + (nI 1)).toNatClampNeg a)
      exact l1 ⟨c1, c2⟩

def s_X5_addColumns : eg_S := fun argv M Qp => match argv with
  | [.ref 55, .int a, .int b] => (∃ t m, t + m ≤ 32 ∧ eg_gi M 55 2 = nI t ∧ b = nI m) ∧ Qp (.inl none) (k_ac M a (eg_gi M 55 2).toNatClampNeg b.toNatClampNeg)
  | _ => False
theorem mo_X5_addColumns : eg_mono s_X5_addColumns := by
  intro argv M Q Q' h
  unfold s_X5_addColumns
  split
  · exact fun z => ⟨z.1, h _ _ z.2⟩
  · exact id
theorem sz_X5_addColumns : ∀ argv M Qp, s_X5_addColumns argv M Qp → (eg_ls0 argv).length ≤ 4 := by
  intro argv M Qp h
  unfold s_X5_addColumns at h
  split at h
  · exact Nat.le_of_ble_eq_true rfl
  · exact h.elim
theorem sr_X5_addColumns : ∀ argv M Qp, s_X5_addColumns argv M Qp → ∃ p0 As, argv = .ref p0 :: As ∧ eg_isO wd M p0 5 = true := by
  intro argv M Qp h
  unfold s_X5_addColumns at h
  split at h
  · exact ⟨_, _, rfl, rfl⟩
  · exact h.elim
set_option maxRecDepth 100000 in
set_option maxHeartbeats 1000000 in
theorem T_X5_addColumns {argv : List Value} {M : eg_M} {Qp : eg_P} (h : s_X5_addColumns argv M Qp) : eg_T wd k_X5_addColumns Qp 0 0 0 (eg_lsN 4 argv) [] M := by
  unfold s_X5_addColumns at h
  split at h
  · rename_i a b
    obtain ⟨hp, hq⟩ := h
    obtain ⟨t, m, ht, hN, rfl⟩ := hp
    rw [hN, n_c (by omega), n_c (by omega)] at hq
    have lp : ∀ i (_ : Unit), i ≤ m → True → eg_T wd k_X5_addColumns Qp 2 0 0 [some (.ref 55), some (.int a), some (.int (nI m)), some (.int (nI i))] [] (k_ac M a t i) := by
      refine eg_for ?_
      intro i _ hi _ kk
      have st := st_X5_addColumns_2 (Qp := Qp) (M := k_ac M a t i) a (nI m) (nI i)
      have r0 : eg_gi (k_ac M a t i) 55 2 = nI (t + i) := rfl
      rw [r0, n_s, n_s, n_c (show t + i + 1 < 2 ^ 31 by omega), n_le (by omega) (by omega), n_le (by omega) (by omega), n_in (by omega) (by decide), k_ac_s] at st
      refine st (fun _ _ => by omega) (fun z => ?_) (fun z => kk () (by omega) trivial)
      have : i = m := by omega
      subst this
      exact hq
    have := lp 0 () (Nat.zero_le _) trivial
    rw [k_ac_0 hN] at this
    exact st_X5_addColumns_0 a _ this
  · exact h.elim
theorem de_X5_addColumns : ∀ q ∈ k_X5_addColumns.1, decode cX5_addColumns q.1 = .ok q.2 := by decide +kernel
theorem me_X5_addColumns (g : gl_T) : MT g yX5_addColumns cX5_addColumns 4 none ⟨0, 0, 0, 0⟩ 0 0 s_X5_addColumns := by
  intro hl
  exact eg_met_of (k := k_X5_addColumns) (by decide) rfl ⟨Nat.le_refl _, Nat.le_refl _⟩ rfl sz_X5_addColumns de_X5_addColumns (fun meth hn => (fc (eg_FL_of wd_c5 (by decide) lf_RX5_18 (fun h => absurd h (by decide))) (fc (eg_FL_of wd_c5 (by decide) lf_RX5_22 (fun _ => Or.inl rfl)) (fn)))) (fun A s H hE => (fn)) (fun p e s m args below meth c Q A ad0 N0 S0 hK hEx hA => (fn)) (fun p e s m args below meth c Qc XC A ad0 N0 P S0 hK hEx hA hlk hout hPX => (fn)) (fun argv M Qp h => T_X5_addColumns h)

/-- the kind of the first column whose row is a, behind column i -/
def k_kg (M : eg_M) (a : Int32) : Nat → Nat → Int32
  | _, 0 => nI 6
  | i, r + 1 => if eg_gi M 68 i = a then eg_gi M 65 i else k_kg M a (i + 1) r
def k_X5_kindGivenTo : eg_C := ([(0, .iconst 1, 1), (1, .istore_n 2, 1), (2, .iload_n 2, 1), (3, .aload_n 0, 1), (4, .getfield 22, 3), (7, .if_icmp .gt 28, 3), (10, .aload_n 0, 1), (11, .getfield 33, 3), (14, .iload_n 2, 1), (15, .iaload, 1), (16, .iload_n 1, 1), (17, .iconst 1, 1), (18, .iadd, 1), (19, .if_icmp .ne 10, 3), (22, .aload_n 0, 1), (23, .getfield 18, 3), (26, .iload_n 2, 1), (27, .iaload, 1), (28, .ireturn, 1), (29, .iinc 2 1, 3), (32, .goto (-30), 3), (35, .bipush 6, 2), (37, .ireturn, 1)], [(18, 5, 1, false), (22, 5, 2, false), (33, 5, 5, false)], [], [], [], 1, 0, 0)
theorem mk_X5_kindGivenTo : ∀ q ∈ k_X5_kindGivenTo.2.2.2.1, eg_mono q.2.2.2.2 := (fn)
set_option maxRecDepth 100000 in
theorem st_X5_kindGivenTo_0 {Qp : eg_P} {M : eg_M} (a : Int32)
  (l0 : eg_T wd k_X5_kindGivenTo Qp 2 0 0 [some (.ref 55), some (.int a), some (.int (nI 1))] [] M) :
  eg_T wd k_X5_kindGivenTo Qp 0 0 0 [some (.ref 55), some (.int a), none] [] M := by
  refine eg_T_run mk_X5_kindGivenTo (cut := [2]) 26 ?_
  show eg_T wd k_X5_kindGivenTo Qp 2 0 0 [some (.ref 55), some (.int a), some (.int (nI 1))] [] M
  exact l0

set_option maxRecDepth 100000 in
theorem st_X5_kindGivenTo_2 {Qp : eg_P} {M : eg_M} (a : Int32) (x2 : Int32)
  (g0 : (¬ ((eg_gi M 55 2) < x2)) → (vp_in x2 33))
  (l0 : ((eg_gi M 55 2) < x2) → Qp (.inl (some (.int (nI 6)))) M)
  (l1 : (¬ (eg_gi M 55 2) < x2 ∧ (eg_gi M 68 x2.toNatClampNeg) = (a + (nI 1))) → Qp (.inl (some (.int (eg_gi M 65 x2.toNatClampNeg)))) M)
  (l2 : (¬ (eg_gi M 55 2) < x2 ∧ ¬ (eg_gi M 68 x2.toNatClampNeg) = (a + (nI 1))) → eg_T wd k_X5_kindGivenTo Qp 2 0 0 [some (.ref 55), some (.int a), some (.int (x2 + (nI 1)))] [] M) :
  eg_T wd k_X5_kindGivenTo Qp 2 0 0 [some (.ref 55), some (.int a), some (.int x2)] [] M := by
  refine eg_T_run mk_X5_kindGivenTo (cut := [2]) 26 ?_
  refine And.intro (fun (c1 : (eg_gi M 55 2) < x2) => ?_) (fun (c1 : ¬ (eg_gi M 55 2) < x2) => ?_)
  · skip
    refine And.intro (fun z => absurd z (by decide)) ?_
    show Qp (.inl (some (.int (nI 6)))) M
    exact l0 c1
  · skip
    refine And.intro (show vp_in x2 33 from ?_) ?_
    · exact g0 c1
    refine And.intro (fun (c2 : (eg_gi M 68 x2.toNatClampNeg) = (a + (nI 1))) => ?_) (fun (c2 : ¬ (eg_gi M 68 x2.toNatClampNeg) = (a + (nI 1))) => ?_)
    · skip
      refine And.intro (show vp_in x2 33 from ?_) ?_
      · exact g0 c1
      refine And.intro (fun z => absurd z (by decide)) ?_
      show Qp (.inl (some (.int (eg_gi M 65 x2.toNatClampNeg)))) M
      exact l1 ⟨c1, c2⟩
    · skip
      show eg_T wd k_X5_kindGivenTo Qp 2 0 0 [some (.ref 55), some (.int a), some (.int (x2 + (nI 1)))] [] M
      exact l2 ⟨c1, c2⟩

def s_X5_kindGivenTo : eg_S := fun argv M Qp => match argv with
  | [.ref 55, .int a] => (eg_cn (eg_gi M 55 2) 32) ∧ Qp (.inl (some (.int (k_kg M (a + nI 1) 1 (eg_gi M 55 2).toNatClampNeg)))) M
  | _ => False
theorem mo_X5_kindGivenTo : eg_mono s_X5_kindGivenTo := by
  intro argv M Q Q' h
  unfold s_X5_kindGivenTo
  split
  · exact fun z => ⟨z.1, h _ _ z.2⟩
  · exact id
theorem sz_X5_kindGivenTo : ∀ argv M Qp, s_X5_kindGivenTo argv M Qp → (eg_ls0 argv).length ≤ 3 := by
  intro argv M Qp h
  unfold s_X5_kindGivenTo at h
  split at h
  · exact Nat.le_of_ble_eq_true rfl
  · exact h.elim
theorem sr_X5_kindGivenTo : ∀ argv M Qp, s_X5_kindGivenTo argv M Qp → ∃ p0 As, argv = .ref p0 :: As ∧ eg_isO wd M p0 5 = true := by
  intro argv M Qp h
  unfold s_X5_kindGivenTo at h
  split at h
  · exact ⟨_, _, rfl, rfl⟩
  · exact h.elim
set_option maxRecDepth 100000 in
set_option maxHeartbeats 1000000 in
theorem T_X5_kindGivenTo {argv : List Value} {M : eg_M} {Qp : eg_P} (h : s_X5_kindGivenTo argv M Qp) : eg_T wd k_X5_kindGivenTo Qp 0 0 0 (eg_lsN 3 argv) [] M := by
  unfold s_X5_kindGivenTo at h
  split at h
  · rename_i a
    obtain ⟨hp, hq⟩ := h
    obtain ⟨n, hn, hN⟩ := hp
    rw [hN, n_c (by omega)] at hq
    have lp : ∀ r i, i + r = n + 1 → k_kg M (a + nI 1) i r = k_kg M (a + nI 1) 1 n → eg_T wd k_X5_kindGivenTo Qp 2 0 0 [some (.ref 55), some (.int a), some (.int (nI i))] [] M := by
      intro r
      induction r with
      | zero =>
        intro i hi hk
        have st := st_X5_kindGivenTo_2 (Qp := Qp) (M := M) a (nI i)
        rw [hN, n_lt (by omega) (by omega)] at st
        refine st (fun z => absurd (by omega) z) (fun _ => ?_) (fun z => absurd (by omega) z.1) (fun z => absurd (by omega) z.1)
        rw [← hk] at hq
        exact hq
      | succ r ih =>
        intro i hi hk
        have st := st_X5_kindGivenTo_2 (Qp := Qp) (M := M) a (nI i)
        rw [hN, n_lt (by omega) (by omega), n_s, n_c (by omega), n_in (by omega) (by decide)] at st
        refine st (fun _ => by omega) (fun z => by omega) (fun z => ?_) (fun z => ih (i + 1) (by omega) ?_)
        · rw [← hk, k_kg, if_pos z.2] at hq
          exact hq
        · rw [← hk, k_kg, if_neg z.2]
    exact st_X5_kindGivenTo_0 a (lp n 1 (by omega) rfl)
  · exact h.elim
theorem de_X5_kindGivenTo : ∀ q ∈ k_X5_kindGivenTo.1, decode cX5_kindGivenTo q.1 = .ok q.2 := by decide +kernel
theorem me_X5_kindGivenTo (g : gl_T) : MT g yX5_kindGivenTo cX5_kindGivenTo 3 (some .int) ⟨0, 0, 0, 0⟩ 0 0 s_X5_kindGivenTo := by
  intro hl
  exact eg_met_of (k := k_X5_kindGivenTo) (by decide) rfl ⟨Nat.le_refl _, Nat.le_refl _⟩ rfl sz_X5_kindGivenTo de_X5_kindGivenTo (fun meth hn => (fc (eg_FL_of wd_c5 (by decide) lf_RX5_18 (fun h => absurd h (by decide))) (fc (eg_FL_of wd_c5 (by decide) lf_RX5_22 (fun h => absurd h (by decide))) (fc (eg_FL_of wd_c5 (by decide) lf_RX5_33 (fun h => absurd h (by decide))) (fn))))) (fun A s H hE => (fn)) (fun p e s m args below meth c Q A ad0 N0 S0 hK hEx hA => (fn)) (fun p e s m args below meth c Qc XC A ad0 N0 P S0 hK hEx hA hlk hout hPX => (fn)) (fun argv M Qp h => T_X5_kindGivenTo h)

/-- b is the first nearest of the columns 1 .. n that are not reached; 0 if none -/
def k_nr (M : eg_M) (n b : Nat) : Prop := (b = 0 ∧ ∀ j, 1 ≤ j → j ≤ n → ¬ eg_gi M 71 j = 0) ∨ (1 ≤ b ∧ b ≤ n ∧ eg_gi M 71 b = 0 ∧ ∀ j, 1 ≤ j → j ≤ n → eg_gi M 71 j = 0 → eg_gl M 70 b ≤ eg_gl M 70 j)
def k_X5_nearest : eg_C := ([(0, .iconst 0, 1), (1, .istore_n 1, 1), (2, .iconst 1, 1), (3, .istore_n 2, 1), (4, .iload_n 2, 1), (5, .aload_n 0, 1), (6, .getfield 22, 3), (9, .if_icmp .gt 40, 3), (12, .aload_n 0, 1), (13, .getfield 42, 3), (16, .iload_n 2, 1), (17, .baload, 1), (18, .ifCond .ne 25, 3), (21, .iload_n 1, 1), (22, .ifCond .eq 19, 3), (25, .aload_n 0, 1), (26, .getfield 39, 3), (29, .iload_n 2, 1), (30, .laload, 1), (31, .aload_n 0, 1), (32, .getfield 39, 3), (35, .iload_n 1, 1), (36, .laload, 1), (37, .lcmp, 1), (38, .ifCond .ge 5, 3), (41, .iload_n 2, 1), (42, .istore_n 1, 1), (43, .iinc 2 1, 3), (46, .goto (-42), 3), (49, .iload_n 1, 1), (50, .ireturn, 1)], [(22, 5, 2, false), (39, 5, 7, false), (42, 5, 8, false)], [], [], [], 1, 0, 0)
theorem mk_X5_nearest : ∀ q ∈ k_X5_nearest.2.2.2.1, eg_mono q.2.2.2.2 := (fn)
set_option maxRecDepth 100000 in
theorem st_X5_nearest_0 {Qp : eg_P} {M : eg_M} 
  (l0 : eg_T wd k_X5_nearest Qp 4 0 0 [some (.ref 55), some (.int (nI 0)), some (.int (nI 1))] [] M) :
  eg_T wd k_X5_nearest Qp 0 0 0 [some (.ref 55), none, none] [] M := by
  refine eg_T_run mk_X5_nearest (cut := [4]) 34 ?_
  show eg_T wd k_X5_nearest Qp 4 0 0 [some (.ref 55), some (.int (nI 0)), some (.int (nI 1))] [] M
  exact l0

set_option maxRecDepth 100000 in
theorem st_X5_nearest_4 {Qp : eg_P} {M : eg_M} (x1 : Int32) (x2 : Int32)
  (g0 : (¬ ((eg_gi M 55 2) < x2)) → (vp_in x2 33))
  (g1 : (¬ ((eg_gi M 55 2) < x2)) → ((eg_gi M 71 x2.toNatClampNeg) = 0) → (¬ (x1 = 0)) → (vp_in x1 33))
  (l0 : ((eg_gi M 55 2) < x2) → Qp (.inl (some (.int x1))) M)
  (l1 : (¬ (eg_gi M 55 2) < x2 ∧ ((eg_gi M 71 x2.toNatClampNeg) = 0 ∧ (x1 = 0 ∨ ¬ (eg_gl M 70 x1.toNatClampNeg) ≤ (eg_gl M 70 x2.toNatClampNeg)))) → eg_T wd k_X5_nearest Qp 4 0 0 [some (.ref 55), some (.int x2), some (.int (x2 + (nI 1)))] [] M)
  (l2 : (¬ (eg_gi M 55 2) < x2 ∧ (¬ (eg_gi M 71 x2.toNatClampNeg) = 0 ∨ (¬ x1 = 0 ∧ (eg_gl M 70 x1.toNatClampNeg) ≤ (eg_gl M 70 x2.toNatClampNeg)))) → eg_T wd k_X5_nearest Qp 4 0 0 [some (.ref 55), some (.int x1), some (.int (x2 + (nI 1)))] [] M) :
  eg_T wd k_X5_nearest Qp 4 0 0 [some (.ref 55), some (.int x1), some (.int x2)] [] M := by
  refine eg_T_run mk_X5_nearest (cut := [4]) 34 ?_
  refine And.intro (fun (c1 : (eg_gi M 55 2) < x2) => ?_) (fun (c1 : ¬ (eg_gi M 55 2) < x2) => ?_)
  · skip
    refine And.intro (fun z => absurd z (by decide)) ?_
    show Qp (.inl (some (.int x1))) M
    exact l0 c1
  · skip
    refine And.intro (show vp_in x2 33 from ?_) ?_
    · exact g0 c1
    refine And.intro (fun (c2 : (eg_gi M 71 x2.toNatClampNeg) = 0) => ?_) (fun (c2 : ¬ (eg_gi M 71 x2.toNatClampNeg) = 0) => ?_)
    · skip
      refine And.intro (fun (c3 : x1 = 0) => ?_) (fun (c3 : ¬ x1 = 0) => ?_)
      · skip
        show eg_T wd k_X5_nearest Qp 4 0 0 [some (.ref 55), some (.int x2), some (.int (x2 + (nI 1)))] [] M
        exact l1 ⟨c1, ⟨c2, (Or.inl c3)⟩⟩
      · skip
        refine And.intro (show vp_in x2 33 from ?_) ?_
        · exact g0 c1
        refine And.intro (show vp_in x1 33 from ?_) ?_
        · exact g1 c1 c2 c3
        refine And.intro (fun (c4 : 0 ≤ (lg_cmp (eg_gl M 70 x2.toNatClampNeg) (eg_gl M 70 x1.toNatClampNeg))) => ?_) (fun (c4 : ¬ 0 ≤ (lg_cmp (eg_gl M 70 x2.toNatClampNeg) (eg_gl M 70 x1.toNatClampNeg))) => ?_)
        · replace c4 := lgc_ge.mp c4
          show eg_T wd k_X5_nearest Qp 4 0 0 [some (.ref 55), some (.int x1), some (.int (x2 + (nI 1)))] [] M
          exact l2 ⟨c1, (Or.inr ⟨c3, c4⟩)⟩
        · replace c4 := mt lgc_ge.mpr c4
          show eg_T wd k_X5_nearest Qp 4 0 0 [some (.ref 55), some (.int x2), some (.int (x2 + (nI 1)))] [] M
          exact l1 ⟨c1, ⟨c2, (Or.inr c4)⟩⟩
    · skip
      show eg_T wd k_X5_nearest Qp 4 0 0 [some (.ref 55), some (.int x1), some (.int (x2 + (nI 1)))] [] M
      exact l2 ⟨c1, (Or.inl c2)⟩

def s_X5_nearest : eg_S := fun argv M Qp => match argv with
  | [.ref 55] => (eg_cn (eg_gi M 55 2) 32) ∧ ∀ (b : Nat), (k_nr M (eg_gi M 55 2).toNatClampNeg b) → Qp (.inl (some (.int (nI b)))) M
  | _ => False
theorem mo_X5_nearest : eg_mono s_X5_nearest := by
  intro argv M Q Q' h
  unfold s_X5_nearest
  split
  · exact fun z => ⟨z.1, fun b y => h _ _ (z.2 b y)⟩
  · exact id
theorem sz_X5_nearest : ∀ argv M Qp, s_X5_nearest argv M Qp → (eg_ls0 argv).length ≤ 3 := by
  intro argv M Qp h
  unfold s_X5_nearest at h
  split at h
  · exact Nat.le_of_ble_eq_true rfl
  · exact h.elim
theorem sr_X5_nearest : ∀ argv M Qp, s_X5_nearest argv M Qp → ∃ p0 As, argv = .ref p0 :: As ∧ eg_isO wd M p0 5 = true := by
  intro argv M Qp h
  unfold s_X5_nearest at h
  split at h
  · exact ⟨_, _, rfl, rfl⟩
  · exact h.elim
set_option maxRecDepth 100000 in
set_option maxHeartbeats 1000000 in
theorem T_X5_nearest {argv : List Value} {M : eg_M} {Qp : eg_P} (h : s_X5_nearest argv M Qp) : eg_T wd k_X5_nearest Qp 0 0 0 (eg_lsN 3 argv) [] M := by
  unfold s_X5_nearest at h
  split at h
  · obtain ⟨hp, hq⟩ := h
    obtain ⟨n, hn, hN⟩ := hp
    rw [hN, n_c (by omega)] at hq
    have lp : ∀ i (b : Nat), i ≤ n → k_nr M i b → eg_T wd k_X5_nearest Qp 4 0 0 [some (.ref 55), some (.int (nI b)), some (.int (nI (i + 1)))] [] M := by
      refine eg_for ?_
      intro i b hi hb kk
      have hbi : b ≤ i := by
        rcases hb with h | h
        · omega
        · exact h.2.1
      have st := st_X5_nearest_4 (Qp := Qp) (M := M) (nI b) (nI (i + 1))
      rw [hN, n_lt (by omega) (by omega), n_s, n_c (by omega), n_c (by omega), n_in (by omega) (by decide), n_in (by omega) (by decide), show (0 : Int32) = nI 0 from rfl, n_eq (by omega) (by omega)] at st
      refine st (fun _ => by omega) (fun _ _ _ => by omega) (fun z => ?_) (fun z => kk (i + 1) (by omega) ?_) (fun z => kk b (by omega) ?_)
      · have : i = n := by omega
        subst this
        exact hq b hb
      · refine Or.inr ⟨by omega, by omega, z.2.1, fun j h1 h2 h3 => ?_⟩
        by_cases y : j = i + 1
        · subst y
          exact Int64.le_refl _
        · rcases hb with h | h
          · exact absurd h3 (h.2 j h1 (by omega))
          · rcases z.2.2 with w | w
            · omega
            · exact Int64.le_of_lt (Int64.lt_of_lt_of_le (Int64.not_le.mp w) (h.2.2.2 j h1 (by omega) h3))
      · rcases hb with h | h
        · refine Or.inl ⟨h.1, fun j h1 h2 => ?_⟩
          by_cases y : j = i + 1
          · subst y
            rcases z.2 with w | w
            · exact w
            · exact absurd h.1 w.1
          · exact h.2 j h1 (by omega)
        · refine Or.inr ⟨h.1, by omega, h.2.2.1, fun j h1 h2 h3 => ?_⟩
          by_cases y : j = i + 1
          · subst y
            rcases z.2 with w | w
            · exact absurd h3 w
            · exact w.2
          · exact h.2.2.2 j h1 (by omega) h3
    exact st_X5_nearest_0 (lp 0 0 (Nat.zero_le _) (Or.inl ⟨rfl, fun j h1 h2 => by omega⟩))
    
  · exact h.elim
theorem de_X5_nearest : ∀ q ∈ k_X5_nearest.1, decode cX5_nearest q.1 = .ok q.2 := by decide +kernel
theorem me_X5_nearest (g : gl_T) : MT g yX5_nearest cX5_nearest 3 (some .int) ⟨0, 0, 0, 0⟩ 0 0 s_X5_nearest := by
  intro hl
  exact eg_met_of (k := k_X5_nearest) (by decide) rfl ⟨Nat.le_refl _, Nat.le_refl _⟩ rfl sz_X5_nearest de_X5_nearest (fun meth hn => (fc (eg_FL_of wd_c5 (by decide) lf_RX5_22 (fun h => absurd h (by decide))) (fc (eg_FL_of wd_c5 (by decide) lf_RX5_39 (fun h => absurd h (by decide))) (fc (eg_FL_of wd_c5 (by decide) lf_RX5_42 (fun h => absurd h (by decide))) (fn))))) (fun A s H hE => (fn)) (fun p e s m args below meth c Q A ad0 N0 S0 hK hEx hA => (fn)) (fun p e s m args below meth c Qc XC A ad0 N0 P S0 hK hEx hA hlk hout hPX => (fn)) (fun argv M Qp h => T_X5_nearest h)

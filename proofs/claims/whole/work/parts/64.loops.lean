/-- the class: an event as it may be told -/
def k_at (a b c d e : Int32) : Prop := (a = 0 ∧ b = 0) ∨ (¬ a = 0 ∧ ((a = (nI 2) ∧ (¬ (b2i (decide (¬ b < (nI 1) ∧ ¬ (nI 99999) < b))) = 0 ∧ (¬ (b2i (decide (¬ c < (nI 0) ∧ ¬ (nI 1) < c))) = 0))) ∨ (¬ a = (nI 2) ∧ (¬ (b2i (decide (¬ b < (nI 1) ∧ ¬ (nI 200) < b))) = 0 ∧ (¬ (b2i (decide (¬ c < (nI 0) ∧ ¬ (nI 1) < c))) = 0 ∧ (¬ (b2i (decide (¬ d < (nI 1) ∧ ¬ (nI 30) < d))) = 0 ∧ (¬ (b2i (decide (¬ e < (nI 0) ∧ ¬ b < e))) = 0)))))))
/-- texts read their own rows alone -/
theorem k_ts_of {M N : eg_M} (h1 : N.1 = M.1) (h2 : N.2.2.2 = M.2.2.2) (h3 : ∀ p, (k_tp p ∨ eg_isO wd M p 8 = true) → ∀ j, eg_gi N p j = eg_gi M p j) (h4 : eg_gi N 23 2 = eg_gi M 23 2) (h : k_ts M) : k_ts N := by
  have hgr : ∀ p j, eg_gr N p j = eg_gr M p j := fun p j => by
    unfold eg_gr
    rw [h2]
  have ho : ∀ p, eg_isO wd N p 8 = eg_isO wd M p 8 := fun p => by
    unfold eg_isO eg_sh
    rw [h1]
  have tq : ∀ q, k_tq M q → k_tq N q := by
    intro q ⟨a1, ⟨CL, a2⟩, P, a3, a4⟩
    refine ⟨by rw [ho]; exact a1, ⟨CL, k_rt_of h1 h2 (fun p hp => h3 p (Or.inl hp)) a2⟩, P, a3, ?_⟩
    rw [h3 q (Or.inr a1)]
    exact a4
  obtain ⟨⟨b1, b2⟩, b3, b4⟩ := h
  refine ⟨⟨by rw [h4]; exact b1, fun i hi => ?_⟩, tq 30 b3, fun i hi q hq => ?_⟩
  · rw [h4] at hi
    obtain ⟨q, c1, c2⟩ := b2 i hi
    exact ⟨q, by rw [hgr]; exact c1, by rw [ho]; exact c2⟩
  · rw [h4] at hi
    rw [hgr] at hq
    exact tq q (b4 i hi q hq)
theorem k_8e {M : eg_M} {q : Nat} (h : k_tp q ∨ eg_isO wd M q 8 = true) : ¬ q = 1 ∧ ¬ (12 ≤ q ∧ q ≤ 22) := by
  rcases h with h | h
  · unfold k_tp at h
    omega
  · constructor
    · rintro rfl
      exact Bool.noConfusion (h.symm.trans (show eg_isO wd M 1 8 = false from rfl))
    · rintro ⟨h1, h2⟩
      rcases (show q = 12 ∨ q = 13 ∨ q = 14 ∨ q = 15 ∨ q = 16 ∨ q = 17 ∨ q = 18 ∨ q = 19 ∨ q = 20 ∨ q = 21 ∨ q = 22 by omega) with rfl | rfl | rfl | rfl | rfl | rfl | rfl | rfl | rfl | rfl | rfl
      all_goals exact Bool.noConfusion (h.symm.trans (show eg_isO wd M _ 8 = false from rfl))
/-- the class: an event more, told today -/
def k_ne (M : eg_M) (n : Nat) (a b c d e f g : Int32) (f' : Nat → Int32) : eg_M := eg_si (eg_si (eg_si (eg_si (eg_ri (k_am M n a b c d e f g) 22 f') 12 10 (nI (n + 1))) 20 n (eg_gi M 0 8)) 21 n (nI 3600)) 1 4 (-nI 1)
theorem ne_g {M : eg_M} {n : Nat} {a b c d e f g : Int32} {f' : Nat → Int32} {p j : Nat} (h1 : ¬ p = 1) (h2 : ¬ (12 ≤ p ∧ p ≤ 22)) : eg_gi (k_ne M n a b c d e f g f') p j = eg_gi M p j := by
  unfold k_ne k_am
  rw [si_g, if_neg (by omega), si_g, if_neg (by omega), si_g, if_neg (by omega), si_g, if_neg (by omega), ri_g, if_neg (by omega), si_g, if_neg (by omega), si_g, if_neg (by omega), si_g, if_neg (by omega), si_g, if_neg (by omega), si_g, if_neg (by omega), si_g, if_neg (by omega), si_g, if_neg (by omega)]
theorem ne_I {M : eg_M} {n : Nat} {a b c d e f g : Int32} {f' : Nat → Int32} {L : List Nat} (hI : k_I M) (hn : n < 200) (hN : eg_gi M 12 10 = nI n) (hL : isL f' L) (hO : k_ord (eg_gi (k_am M n a b c d e f g) 19) (n + 1) L) (hb : vp_in b 24) (hg : vp_in g 3600) : k_I (k_ne M n a b c d e f g f') := by
  obtain ⟨hES, hTS, _, hc, ht⟩ := hI
  obtain ⟨⟨L0, _, _, _, hC⟩, h8, h36, h19⟩ := hES
  rw [hN, n_c (by omega)] at hC h19
  have e10 : eg_gi (k_ne M n a b c d e f g f') 12 10 = nI (n + 1) := rfl
  have e14 : ∀ x, eg_gi (k_ne M n a b c d e f g f') 14 x = if x = n then b else eg_gi M 14 x := fun x => by
    show eg_gi (eg_si (eg_si M 13 n a) 14 n b) 14 x = _
    rw [si_g]
    by_cases y : x = n
    · rw [if_pos ⟨rfl, y⟩, if_pos y]
    · rw [if_neg (fun z => y z.2), if_neg y]
      rfl
  have e19 : ∀ x, eg_gi (k_ne M n a b c d e f g f') 19 x = if x = n then g else eg_gi M 19 x := fun x => by
    show eg_gi (k_am M n a b c d e f g) 19 x = _
    unfold k_am
    rw [si_g]
    by_cases y : x = n
    · rw [if_pos ⟨rfl, y⟩, if_pos y]
    · rw [if_neg (fun z => y z.2), if_neg y]
      rfl
  refine ⟨⟨⟨L, ⟨n + 1, by omega, e10⟩, hL, ?_, fun x hx => ?_⟩, h8, h36, fun x hx => ?_⟩, ?_, Or.inl rfl, hc, ht⟩
  · rw [e10, n_c (by omega)]
    exact hO
  · rw [e10, n_c (by omega)] at hx
    rw [e14]
    by_cases y : x = n
    · rw [if_pos y]
      exact hb
    · rw [if_neg y]
      exact hC x (by omega)
  · rw [e10, n_c (by omega)] at hx
    rw [e19]
    by_cases y : x = n
    · rw [if_pos y]
      exact hg
    · rw [if_neg y]
      exact h19 x (by omega)
  · exact k_ts_of (M := M) (N := k_ne M n a b c d e f g f') rfl rfl (fun p hp j => ne_g (k_8e hp).1 (k_8e hp).2) rfl hTS
/-- forgetting keeps all -/
theorem fg_I {M : eg_M} (hI : k_I M) : k_I (eg_si M 1 4 (-nI 1)) := by
  obtain ⟨hES, hTS, _, hc, ht⟩ := hI
  refine ⟨hES, ?_, Or.inl rfl, hc, ht⟩
  refine k_ts_of (M := M) (N := eg_si M 1 4 (-nI 1)) rfl rfl (fun p hp j => ?_) rfl hTS
  rw [si_g, if_neg (fun z => (k_8e hp).1 z.1)]
def k_X11_event : eg_C := ([(0, .iload_n 1, 1), (1, .iconst 0, 1), (2, .iconst 2, 1), (3, .invokestatic 61, 3), (6, .ifCond .ne 13, 3), (9, .new 89, 3), (12, .dup, 1), (13, .ldc 91, 2), (15, .invokespecial 93, 3), (18, .athrow, 1), (19, .aload_n 0, 1), (20, .iload_n 2, 1), (21, .invokevirtual 94, 3), (24, .iload 7, 2), (26, .iconst 0, 1), (27, .aload_n 0, 1), (28, .getfield 57, 3), (31, .invokestatic 61, 3), (34, .ifCond .eq 17, 3), (37, .iload_n 1, 1), (38, .iload_n 3, 1), (39, .iload 4, 2), (41, .iload 5, 2), (43, .iload 6, 2), (45, .invokestatic 97, 3), (48, .ifCond .ne 5, 3), (51, .iconst (-1), 1), (52, .ireturn, 1), (53, .aload_n 0, 1), (54, .getfield 30, 3), (57, .iload_n 1, 1), (58, .iload_n 2, 1), (59, .iload_n 3, 1), (60, .iload 4, 2), (62, .iload 5, 2), (64, .iload 6, 2), (66, .iload 7, 2), (68, .invokevirtual 101, 3), (71, .istore 8, 2), (73, .aload_n 0, 1), (74, .getfield 30, 3), (77, .iload 8, 2), (79, .aload_n 0, 1), (80, .getfield 57, 3), (83, .invokevirtual 106, 3), (86, .aload_n 0, 1), (87, .getfield 12, 3), (90, .invokevirtual 110, 3), (93, .iload 8, 2), (95, .ireturn, 1)], [(12, 11, 0, false), (30, 11, 3, false), (57, 11, 8, false)], [], [(61 + 100000, 3, 0, 0, s_X11_within), (97 + 100000, 5, 0, 0, s_X11_isEventAsTold), (94, 1 + 1, 1, 6, s_X11_needCharter), (101, 7 + 1, 0, 0, s_X1_add), (106, 2 + 1, 0, 0, s_X1_stamp), (110, 0 + 1, 0, 0, s_X3_forget)], [(89, .inl "java/util/NoSuchElementException")], 1, 1, 6)
theorem mk_X11_event : ∀ q ∈ k_X11_event.2.2.2.1, eg_mono q.2.2.2.2 := (fc (mo_X11_within) (fc (mo_X11_isEventAsTold) (fc (mo_X11_needCharter) (fc (mo_X1_add) (fc (mo_X1_stamp) (fc (mo_X3_forget) (fn)))))))
set_option maxRecDepth 100000 in
theorem st_X11_event_0 {Qp : eg_P} {M : eg_M} (a : Int32) (b : Int32) (c : Int32) (d : Int32) (e : Int32) (f : Int32) (g : Int32)
  (g0 : (¬ (¬ (¬ a < (nI 0) ∧ ¬ (nI 2) < a))) → (¬ (¬ (¬ b < (nI 0) ∧ ¬ ((eg_gi M 7 4) - (nI 1)) < b))) → (¬ (¬ (¬ g < (nI 0) ∧ ¬ (eg_gi M 0 8) < g))) → (¬ (¬ ((a = 0 ∧ c = 0) ∨ (¬ a = 0 ∧ ((a = (nI 2) ∧ (¬ (b2i (decide (¬ c < (nI 1) ∧ ¬ (nI 99999) < c))) = 0 ∧ (¬ (b2i (decide (¬ d < (nI 0) ∧ ¬ (nI 1) < d))) = 0))) ∨ (¬ a = (nI 2) ∧ (¬ (b2i (decide (¬ c < (nI 1) ∧ ¬ (nI 200) < c))) = 0 ∧ (¬ (b2i (decide (¬ d < (nI 0) ∧ ¬ (nI 1) < d))) = 0 ∧ (¬ (b2i (decide (¬ e < (nI 1) ∧ ¬ (nI 30) < e))) = 0 ∧ (¬ (b2i (decide (¬ f < (nI 0) ∧ ¬ c < f))) = 0)))))))))) → (∃ n L, n ≤ 200 ∧ eg_gi M 12 10 = nI n ∧ isL (eg_gi M 22) L ∧ k_ord (eg_gi M 19) n L))
  (l0 : ((¬ (¬ a < (nI 0) ∧ ¬ (nI 2) < a)) ∨ (¬ (¬ b < (nI 0) ∧ ¬ ((eg_gi M 7 4) - (nI 1)) < b))) → Qp (.inr "java/util/NoSuchElementException") M)
  (l1 : ((¬ a < (nI 0) ∧ ¬ (nI 2) < a) ∧ ((¬ b < (nI 0) ∧ ¬ ((eg_gi M 7 4) - (nI 1)) < b) ∧ ((¬ (¬ g < (nI 0) ∧ ¬ (eg_gi M 0 8) < g)) ∨ (¬ ((a = 0 ∧ c = 0) ∨ (¬ a = 0 ∧ ((a = (nI 2) ∧ (¬ (b2i (decide (¬ c < (nI 1) ∧ ¬ (nI 99999) < c))) = 0 ∧ (¬ (b2i (decide (¬ d < (nI 0) ∧ ¬ (nI 1) < d))) = 0))) ∨ (¬ a = (nI 2) ∧ (¬ (b2i (decide (¬ c < (nI 1) ∧ ¬ (nI 200) < c))) = 0 ∧ (¬ (b2i (decide (¬ d < (nI 0) ∧ ¬ (nI 1) < d))) = 0 ∧ (¬ (b2i (decide (¬ e < (nI 1) ∧ ¬ (nI 30) < e))) = 0 ∧ (¬ (b2i (decide (¬ f < (nI 0) ∧ ¬ c < f))) = 0)))))))))))) → Qp (.inl (some (.int (-nI 1)))) M)
  (l2 : ((¬ a < (nI 0) ∧ ¬ (nI 2) < a) ∧ ((¬ b < (nI 0) ∧ ¬ ((eg_gi M 7 4) - (nI 1)) < b) ∧ ((¬ g < (nI 0) ∧ ¬ (eg_gi M 0 8) < g) ∧ (((a = 0 ∧ c = 0) ∨ (¬ a = 0 ∧ ((a = (nI 2) ∧ (¬ (b2i (decide (¬ c < (nI 1) ∧ ¬ (nI 99999) < c))) = 0 ∧ (¬ (b2i (decide (¬ d < (nI 0) ∧ ¬ (nI 1) < d))) = 0))) ∨ (¬ a = (nI 2) ∧ (¬ (b2i (decide (¬ c < (nI 1) ∧ ¬ (nI 200) < c))) = 0 ∧ (¬ (b2i (decide (¬ d < (nI 0) ∧ ¬ (nI 1) < d))) = 0 ∧ (¬ (b2i (decide (¬ e < (nI 1) ∧ ¬ (nI 30) < e))) = 0 ∧ (¬ (b2i (decide (¬ f < (nI 0) ∧ ¬ c < f))) = 0)))))))))))) → ∀ (v_1 : Int32) (M2_1 : eg_M), (((eg_gi M 12 10).toNatClampNeg = 200 ∧ v_1 = -nI 1 ∧ M2_1 = M) ∨ ((eg_gi M 12 10).toNatClampNeg < 200 ∧ v_1 = eg_gi M 12 10 ∧ ∃ L f', isL f' L ∧ k_ord (eg_gi (k_am M (eg_gi M 12 10).toNatClampNeg a b c d e f g) 19) ((eg_gi M 12 10).toNatClampNeg + 1) L ∧ M2_1 = eg_si (eg_ri (k_am M (eg_gi M 12 10).toNatClampNeg a b c d e f g) 22 f') 12 10 (nI ((eg_gi M 12 10).toNatClampNeg + 1)))) → eg_T wd k_X11_event Qp 71 1 6 [some (.ref 0), some (.int a), some (.int b), some (.int c), some (.int d), some (.int e), some (.int f), some (.int g), none] [.int v_1] M2_1) :
  eg_T wd k_X11_event Qp 0 0 0 [some (.ref 0), some (.int a), some (.int b), some (.int c), some (.int d), some (.int e), some (.int f), some (.int g), none] [] M := by
  refine eg_T_run mk_X11_event (cut := [71]) 53 ?_
  refine And.intro (show (True) from ?_) ?_
  · exact trivial
  refine And.intro (fun (c1 : (b2i (decide (¬ a < (nI 0) ∧ ¬ (nI 2) < a))) = 0) => ?_) (fun (c1 : ¬ (b2i (decide (¬ a < (nI 0) ∧ ¬ (nI 2) < a))) = 0) => ?_)
  · replace c1 := b2i_d0.mp c1
    show Qp (.inr "java/util/NoSuchElementException") M
    exact l0 (Or.inl c1)
  · replace c1 := b2i_dn.mp c1
    refine And.intro (show (True) from ?_) ?_
    · exact trivial
    refine And.intro (fun (c2 : (b2i (decide (¬ b < (nI 0) ∧ ¬ ((eg_gi M 7 4) - (nI 1)) < b))) = 0) => ?_) (fun (c2 : ¬ (b2i (decide (¬ b < (nI 0) ∧ ¬ ((eg_gi M 7 4) - (nI 1)) < b))) = 0) => ?_)
    · replace c2 := b2i_d0.mp c2
      show Qp (.inr "java/util/NoSuchElementException") M
      exact l0 (Or.inr c2)
    · replace c2 := b2i_dn.mp c2
      refine And.intro (show (True) from ?_) ?_
      · exact trivial
      refine And.intro (fun (c3 : (b2i (decide (¬ g < (nI 0) ∧ ¬ (eg_gi M 0 8) < g))) = 0) => ?_) (fun (c3 : ¬ (b2i (decide (¬ g < (nI 0) ∧ ¬ (eg_gi M 0 8) < g))) = 0) => ?_)
      · replace c3 := b2i_d0.mp c3
        refine And.intro (fun z => absurd z (by decide)) ?_
        show Qp (.inl (some (.int (-nI 1)))) M
        exact l1 ⟨(Classical.byContradiction c1), ⟨(Classical.byContradiction c2), (Or.inl c3)⟩⟩
      · replace c3 := b2i_dn.mp c3
        refine And.intro (show (True) from ?_) ?_
        · exact trivial
        refine And.intro (fun (c4 : (b2i (decide ((a = 0 ∧ c = 0) ∨ (¬ a = 0 ∧ ((a = (nI 2) ∧ (¬ (b2i (decide (¬ c < (nI 1) ∧ ¬ (nI 99999) < c))) = 0 ∧ (¬ (b2i (decide (¬ d < (nI 0) ∧ ¬ (nI 1) < d))) = 0))) ∨ (¬ a = (nI 2) ∧ (¬ (b2i (decide (¬ c < (nI 1) ∧ ¬ (nI 200) < c))) = 0 ∧ (¬ (b2i (decide (¬ d < (nI 0) ∧ ¬ (nI 1) < d))) = 0 ∧ (¬ (b2i (decide (¬ e < (nI 1) ∧ ¬ (nI 30) < e))) = 0 ∧ (¬ (b2i (decide (¬ f < (nI 0) ∧ ¬ c < f))) = 0)))))))))) = 0) => ?_) (fun (c4 : ¬ (b2i (decide ((a = 0 ∧ c = 0) ∨ (¬ a = 0 ∧ ((a = (nI 2) ∧ (¬ (b2i (decide (¬ c < (nI 1) ∧ ¬ (nI 99999) < c))) = 0 ∧ (¬ (b2i (decide (¬ d < (nI 0) ∧ ¬ (nI 1) < d))) = 0))) ∨ (¬ a = (nI 2) ∧ (¬ (b2i (decide (¬ c < (nI 1) ∧ ¬ (nI 200) < c))) = 0 ∧ (¬ (b2i (decide (¬ d < (nI 0) ∧ ¬ (nI 1) < d))) = 0 ∧ (¬ (b2i (decide (¬ e < (nI 1) ∧ ¬ (nI 30) < e))) = 0 ∧ (¬ (b2i (decide (¬ f < (nI 0) ∧ ¬ c < f))) = 0)))))))))) = 0) => ?_)
        · replace c4 := b2i_d0.mp c4
          refine And.intro (fun z => absurd z (by decide)) ?_
          show Qp (.inl (some (.int (-nI 1)))) M
          exact l1 ⟨(Classical.byContradiction c1), ⟨(Classical.byContradiction c2), (Or.inr c4)⟩⟩
        · replace c4 := b2i_dn.mp c4
          refine And.intro (show (∃ n L, n ≤ 200 ∧ eg_gi M 12 10 = nI n ∧ isL (eg_gi M 22) L ∧ k_ord (eg_gi M 19) n L) from ?_) ?_
          · exact g0 c1 c2 c3 c4
          intro v_1 M2_1 ha_1
          show eg_T wd k_X11_event Qp 71 1 6 [some (.ref 0), some (.int a), some (.int b), some (.int c), some (.int d), some (.int e), some (.int f), some (.int g), none] [.int v_1] M2_1
          exact l2 ⟨(Classical.byContradiction c1), ⟨(Classical.byContradiction c2), ⟨(Classical.byContradiction c3), (Classical.byContradiction c4)⟩⟩⟩ v_1 M2_1 ha_1

set_option maxRecDepth 100000 in
theorem st_X11_event_71 {Qp : eg_P} {M : eg_M} (o1 : Option Value) (o2 : Option Value) (o3 : Option Value) (o4 : Option Value) (o5 : Option Value) (o6 : Option Value) (g : Int32) (o8 : Option Value) (s0 : Int32)
  (g0 : (¬ (s0 = (-nI 1))) → (vp_in s0 200))
  (l0 : (s0 = (-nI 1)) → Qp (.inl (some (.int s0))) (eg_si M 1 4 (-nI 1)))
  (l1 : (¬ s0 = (-nI 1)) → Qp (.inl (some (.int s0))) (eg_si (eg_si (eg_si M 20 s0.toNatClampNeg (eg_gi M 0 8)) 21 s0.toNatClampNeg (nI 3600)) 1 4 (-nI 1))) :
  eg_T wd k_X11_event Qp 71 1 6 [some (.ref 0), o1, o2, o3, o4, o5, o6, some (.int g), o8] [.int s0] M := by
  refine eg_T_run mk_X11_event (cut := [71]) 53 ?_
  refine And.intro (fun (c1 : s0 = (-nI 1)) => ?_) (fun (c1 : ¬ s0 = (-nI 1)) => ?_)
  · skip
    refine And.intro (fun z => absurd z (by decide)) ?_
    show Qp (.inl (some (.int s0))) (eg_si M 1 4 (-nI 1))
    exact l0 c1
  · skip
    refine And.intro (show vp_in s0 200 from ?_) ?_
    · exact g0 c1
    refine And.intro (show vp_in s0 200 from ?_) ?_
    · exact g0 c1
    refine And.intro (fun z => absurd z (by decide)) ?_
    show Qp (.inl (some (.int s0))) (eg_si (eg_si (eg_si M 20 s0.toNatClampNeg (eg_gi M 0 8)) 21 s0.toNatClampNeg (nI 3600)) 1 4 (-nI 1))
    exact l1 c1

def s_X11_event : eg_S := fun argv M Qp => match argv with
  | [.ref 0, .int a, .int b, .int c, .int d, .int e, .int f, .int g] => (k_I M) ∧ ∀ (oo : Option Value ⊕ String) (M2 : eg_M), ((¬ ((¬ a < nI 0 ∧ ¬ nI 2 < a) ∧ (¬ b < nI 0 ∧ ¬ (eg_gi M 7 4 - nI 1) < b)) ∧ oo = .inr "java/util/NoSuchElementException" ∧ M2 = M) ∨ (((¬ a < nI 0 ∧ ¬ nI 2 < a) ∧ (¬ b < nI 0 ∧ ¬ (eg_gi M 7 4 - nI 1) < b)) ∧ ¬ ((¬ g < nI 0 ∧ ¬ eg_gi M 0 8 < g) ∧ k_at a c d e f) ∧ oo = .inl (some (.int (-nI 1))) ∧ M2 = M) ∨ (((¬ a < nI 0 ∧ ¬ nI 2 < a) ∧ (¬ b < nI 0 ∧ ¬ (eg_gi M 7 4 - nI 1) < b)) ∧ ((¬ g < nI 0 ∧ ¬ eg_gi M 0 8 < g) ∧ k_at a c d e f) ∧ k_I M2 ∧ (((eg_gi M 12 10).toNatClampNeg = 200 ∧ oo = .inl (some (.int (-nI 1))) ∧ M2 = eg_si M 1 4 (-nI 1)) ∨ ((eg_gi M 12 10).toNatClampNeg < 200 ∧ oo = .inl (some (.int (eg_gi M 12 10))) ∧ ∃ f', M2 = k_ne M (eg_gi M 12 10).toNatClampNeg a b c d e f g f')))) → Qp oo M2
  | _ => False
theorem mo_X11_event : eg_mono s_X11_event := by
  intro argv M Q Q' h
  unfold s_X11_event
  split
  · exact fun z => ⟨z.1, fun oo M2 y => h _ _ (z.2 oo M2 y)⟩
  · exact id
theorem sz_X11_event : ∀ argv M Qp, s_X11_event argv M Qp → (eg_ls0 argv).length ≤ 9 := by
  intro argv M Qp h
  unfold s_X11_event at h
  split at h
  · exact Nat.le_of_ble_eq_true rfl
  · exact h.elim
theorem sr_X11_event : ∀ argv M Qp, s_X11_event argv M Qp → ∃ p0 As, argv = .ref p0 :: As ∧ eg_isO wd M p0 11 = true := by
  intro argv M Qp h
  unfold s_X11_event at h
  split at h
  · exact ⟨_, _, rfl, rfl⟩
  · exact h.elim
set_option maxRecDepth 100000 in
set_option maxHeartbeats 1000000 in
theorem T_X11_event {argv : List Value} {M : eg_M} {Qp : eg_P} (h : s_X11_event argv M Qp) : eg_T wd k_X11_event Qp 0 0 0 (eg_lsN 9 argv) [] M := by
  unfold s_X11_event at h
  split at h
  · rename_i a b c d e f g
    obtain ⟨hp, hq⟩ := h
    have hI := hp
    obtain ⟨L0, ⟨n, hn, hN⟩, hL0, hO0, _⟩ := hI.1.1
    have hnn : (eg_gi M 12 10).toNatClampNeg = n := by rw [hN, n_c (by omega)]
    refine st_X11_event_0 a b c d e f g (fun _ _ _ _ => ⟨n, L0, hn, hN, hL0, by rw [← hnn]; exact hO0⟩) (fun z => ?_) (fun z => ?_) (fun z v M3 h3 => ?_)
    · exact hq _ _ (Or.inl ⟨fun y => z.elim (fun w => w y.1) (fun w => w y.2), rfl, rfl⟩)
    · exact hq _ _ (Or.inr (Or.inl ⟨⟨z.1, z.2.1⟩, fun y => z.2.2.elim (fun w => w y.1) (fun w => w y.2), rfl, rfl⟩))
    · rcases h3 with ⟨h4, rfl, rfl⟩ | ⟨h4, rfl, L, f', h5, h6, rfl⟩
      · exact st_X11_event_71 _ _ _ _ _ _ _ _ _ (fun w => absurd rfl w) (fun _ => hq _ _ (Or.inr (Or.inr ⟨⟨z.1, z.2.1⟩, z.2.2, fg_I hI, Or.inl ⟨h4, rfl, rfl⟩⟩))) (fun w => absurd rfl w)
      · obtain ⟨m, hm, _, eb⟩ := k_chr hI.2.2.2.1 z.2.1.1 z.2.1.2
        obtain ⟨k, hk, eg⟩ := k_day hI.2.2.2.2 z.2.2.1.1 z.2.2.1.2
        have hn0 : n < 200 := by rw [hnn] at h4; exact h4
        have nm : ¬ eg_gi M 12 10 = -nI 1 := by rw [hN]; exact nI_m1 (by omega)
        refine st_X11_event_71 _ _ _ _ _ _ _ _ _ (fun _ => by rw [hN]; exact (n_in (by omega) (by decide)).mpr hn0) (fun w => absurd w nm) (fun _ => ?_)
        have hne := ne_I (n := n) (a := a) (b := b) (c := c) (d := d) (e := e) (f := f) (g := g) hI hn0 hN h5 (by rw [hnn] at h6; exact h6) (by rw [eb]; exact (n_in (by omega) (by decide)).mpr hm) (by rw [eg]; exact (n_in (by omega) (by decide)).mpr hk)
        have := hq (.inl (some (.int (eg_gi M 12 10)))) (k_ne M n a b c d e f g f') (Or.inr (Or.inr ⟨⟨z.1, z.2.1⟩, z.2.2, hne, Or.inr ⟨h4, rfl, f', by rw [hnn]⟩⟩))
        rw [hnn]
        exact this
    
  · exact h.elim
theorem de_X11_event : ∀ q ∈ k_X11_event.1, decode cX11_event q.1 = .ok q.2 := by decide +kernel
theorem me_X11_event (g : gl_T) : MT g yX11_event cX11_event 9 (some .int) ⟨7, 1, 6, 113⟩ 1 6 s_X11_event := by
  intro hl
  exact eg_met_of (k := k_X11_event) (by decide) rfl ⟨Nat.le_refl _, Nat.le_refl _⟩ rfl sz_X11_event de_X11_event (fun meth hn => (fc (eg_FL_of wd_c11 (by decide) lf_RX11_12 (fun h => absurd h (by decide))) (fc (eg_FL_of wd_c11 (by decide) lf_RX11_30 (fun h => absurd h (by decide))) (fc (eg_FL_of wd_c11 (by decide) lf_RX11_57 (fun h => absurd h (by decide))) (fn))))) (fun A s H hE => (fn)) (fun p e s m args below meth c Q A ad0 N0 S0 hK hEx hA => (fc (mt_S hl S0 hK hEx hA (me_X11_within g) lm_RX11_61 ls_X11_within ln_RX11 lc_X11_within ⟨rfl, by decide, by decide, by decide +kernel⟩ ⟨rfl, rfl⟩ ⟨by decide, by decide⟩ (by decide)) (fc (mt_S hl S0 hK hEx hA (me_X11_isEventAsTold g) lm_RX11_97 ls_X11_isEventAsTold ln_RX11 lc_X11_isEventAsTold ⟨rfl, by decide, by decide, by decide +kernel⟩ ⟨rfl, rfl⟩ ⟨by decide, by decide⟩ (by decide)) (fc (mt_V hl S0 hK hEx hA (me_X11_needCharter g) lm_RX11_94 li_X11_needCharter lx_X11_needCharter ln_RX11 lc_X11_needCharter ⟨rfl, by decide, by decide, by decide +kernel⟩ ⟨rfl, rfl⟩ ⟨by decide, by decide⟩ (ci := 11) rfl rfl eg_auto_rec (by decide)) (fc (mt_V hl S0 hK hEx hA (me_X1_add g) lm_RX11_101 li_X1_add lx_X1_add ln_RX1 lc_X1_add ⟨rfl, by decide, by decide, by decide +kernel⟩ ⟨rfl, rfl⟩ ⟨by decide, by decide⟩ (ci := 1) rfl rfl sr_X1_add (by decide)) (fc (mt_V hl S0 hK hEx hA (me_X1_stamp g) lm_RX11_106 li_X1_stamp lx_X1_stamp ln_RX1 lc_X1_stamp ⟨rfl, by decide, by decide, by decide +kernel⟩ ⟨rfl, rfl⟩ ⟨by decide, by decide⟩ (ci := 1) rfl rfl eg_auto_rec (by decide)) (fc (mt_V hl S0 hK hEx hA (me_X3_forget g) lm_RX11_110 li_X3_forget lx_X3_forget ln_RX3 lc_X3_forget ⟨rfl, by decide, by decide, by decide +kernel⟩ ⟨rfl, rfl⟩ ⟨by decide, by decide⟩ (ci := 3) rfl rfl eg_auto_rec (by decide)) (fn)))))))) (fun p e s m args below meth c Qc XC A ad0 N0 P S0 hK hEx hA hlk hout hPX => (fc (mt_T hl S0 hEx hlk hout hPX (ix := 13) (rx := nx_rx) (names := ["java/lang/RuntimeException", "java/lang/Exception"]) (is := 91) (ic := 93) (text := "no such kind of event") (nt := 12) (by decide +kernel) (by decide +kernel) (by decide +kernel) (by decide +kernel) (by decide +kernel) (by decide +kernel) lq_RX11_89 tn_i (List.mem_of_getElem? (i := 1) rfl) tn_g tn_b tn_o (by decide +kernel) (by decide) (by decide) (Nat.le_refl _) (Nat.le_refl _)) (fn))) (fun argv M Qp h => T_X11_event h)

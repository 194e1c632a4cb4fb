/-- an index below a count -/
theorem k_idx {x c : Int32} {m : Nat} (hm : m < 2 ^ 31) (h : eg_cn x m) (h1 : ¬ c < nI 0) (h2 : ¬ (x - nI 1) < c) : ∃ n, n < m ∧ n < x.toNatClampNeg ∧ c = nI n := by
  obtain ⟨k, hk, rfl⟩ := h
  obtain ⟨n, hn, rfl⟩ := nI_of h1
  rw [n_c (by omega)]
  cases k with
  | zero =>
    exfalso
    refine h2 (Int32.lt_of_lt_of_le (show nI 0 - nI 1 < nI 0 by decide) (Int32.not_lt.mp h1))
  | succ k =>
    rw [n_p, n_lt (by omega) (by omega)] at h2
    exact ⟨n, by omega, by omega, rfl⟩
def k_X11_wish : eg_C := ([(0, .aload_n 0, 1), (1, .iload_n 1, 1), (2, .invokevirtual 71, 3), (5, .iload_n 2, 1), (6, .iconst 0, 1), (7, .bipush 6, 2), (9, .invokestatic 61, 3), (12, .ifCond .eq 13, 3), (15, .aload_n 0, 1), (16, .iload_n 1, 1), (17, .iload_n 2, 1), (18, .iload_n 3, 1), (19, .invokevirtual 261, 3), (22, .ifCond .ne 5, 3), (25, .iconst 0, 1), (26, .ireturn, 1), (27, .aload_n 0, 1), (28, .getfield 53, 3), (31, .iload_n 1, 1), (32, .iload_n 2, 1), (33, .iload_n 3, 1), (34, .invokevirtual 264, 3), (37, .iconst 1, 1), (38, .ireturn, 1)], [(53, 11, 7, false)], [], [(61 + 100000, 3, 0, 0, s_X11_within), (71, 1 + 1, 1, 6, s_X11_needTown), (261, 3 + 1, 0, 0, s_X11_isWish), (264, 3 + 1, 0, 0, s_X2_setWish)], [], 2, 1, 6)
theorem mk_X11_wish : ∀ q ∈ k_X11_wish.2.2.2.1, eg_mono q.2.2.2.2 := (fc (mo_X11_within) (fc (mo_X11_needTown) (fc (mo_X11_isWish) (fc (mo_X2_setWish) (fn)))))
set_option maxRecDepth 100000 in
theorem st_X11_wish_0 {Qp : eg_P} {M : eg_M} (a : Int32) (b : Int32) (row : Int32)
  (g0 : (¬ (¬ (¬ a < (nI 0) ∧ ¬ ((eg_gi M 2 4) - (nI 1)) < a))) → (¬ (¬ (¬ b < (nI 0) ∧ ¬ (nI 6) < b))) → ((∃ k, k < 16 ∧ a = nI k) ∧ eg_cn b 6))
  (l0 : (¬ (¬ a < (nI 0) ∧ ¬ ((eg_gi M 2 4) - (nI 1)) < a)) → Qp (.inr "java/util/NoSuchElementException") M)
  (l1 : ((¬ a < (nI 0) ∧ ¬ ((eg_gi M 2 4) - (nI 1)) < a) ∧ (¬ (¬ b < (nI 0) ∧ ¬ (nI 6) < b))) → Qp (.inl (some (.int (nI 0)))) M)
  (l2 : ((¬ a < (nI 0) ∧ ¬ ((eg_gi M 2 4) - (nI 1)) < a) ∧ ((¬ b < (nI 0) ∧ ¬ (nI 6) < b))) → ∀ (r_1 : Bool), (r_1 = true ↔ k_wk M a row b.toNatClampNeg) → eg_T wd k_X11_wish Qp 22 1 6 [some (.ref 0), some (.int a), some (.int b), some (.int row)] [.int (b2i r_1)] M) :
  eg_T wd k_X11_wish Qp 0 0 0 [some (.ref 0), some (.int a), some (.int b), some (.int row)] [] M := by
  refine eg_T_run mk_X11_wish (cut := [22]) 27 ?_
  refine And.intro (show (True) from ?_) ?_
  · exact trivial
  refine And.intro (fun (c1 : (b2i (decide (¬ a < (nI 0) ∧ ¬ ((eg_gi M 2 4) - (nI 1)) < a))) = 0) => ?_) (fun (c1 : ¬ (b2i (decide (¬ a < (nI 0) ∧ ¬ ((eg_gi M 2 4) - (nI 1)) < a))) = 0) => ?_)
  · replace c1 := b2i_d0.mp c1
    show Qp (.inr "java/util/NoSuchElementException") M
    exact l0 c1
  · replace c1 := b2i_dn.mp c1
    refine And.intro (show (True) from ?_) ?_
    · exact trivial
    refine And.intro (fun (c2 : (b2i (decide (¬ b < (nI 0) ∧ ¬ (nI 6) < b))) = 0) => ?_) (fun (c2 : ¬ (b2i (decide (¬ b < (nI 0) ∧ ¬ (nI 6) < b))) = 0) => ?_)
    · replace c2 := b2i_d0.mp c2
      refine And.intro (fun _ => (show (nI 0) = 0 ∨ (nI 0) = 1 from ?_)) ?_
      · exact Or.inl rfl
      show Qp (.inl (some (.int (nI 0)))) M
      exact l1 ⟨(Classical.byContradiction c1), c2⟩
    · replace c2 := b2i_dn.mp c2
      refine And.intro (show ((∃ k, k < 16 ∧ a = nI k) ∧ eg_cn b 6) from ?_) ?_
      · exact g0 c1 c2
      intro r_1 ha_1
      show eg_T wd k_X11_wish Qp 22 1 6 [some (.ref 0), some (.int a), some (.int b), some (.int row)] [.int (b2i r_1)] M
      exact l2 ⟨(Classical.byContradiction c1), (Classical.byContradiction c2)⟩ r_1 ha_1

set_option maxRecDepth 100000 in
theorem st_X11_wish_22 {Qp : eg_P} {M : eg_M} (a : Int32) (b : Int32) (row : Int32) (s0 : Int32)
  (g0 : (¬ (s0 = 0)) → ((∃ k, k < 16 ∧ a = nI k) ∧ eg_cn b 6))
  (l0 : (s0 = 0) → Qp (.inl (some (.int (nI 0)))) M)
  (l1 : (¬ s0 = 0) → Qp (.inl (some (.int (nI 1)))) (eg_si (k_swm M a.toNatClampNeg b.toNatClampNeg row) 98 a.toNatClampNeg b)) :
  eg_T wd k_X11_wish Qp 22 1 6 [some (.ref 0), some (.int a), some (.int b), some (.int row)] [.int s0] M := by
  refine eg_T_run mk_X11_wish (cut := [22]) 27 ?_
  refine And.intro (fun (c1 : s0 = 0) => ?_) (fun (c1 : ¬ s0 = 0) => ?_)
  · skip
    refine And.intro (fun _ => (show (nI 0) = 0 ∨ (nI 0) = 1 from ?_)) ?_
    · exact Or.inl rfl
    show Qp (.inl (some (.int (nI 0)))) M
    exact l0 c1
  · skip
    refine And.intro (show ((∃ k, k < 16 ∧ a = nI k) ∧ eg_cn b 6) from ?_) ?_
    · exact g0 c1
    refine And.intro (fun _ => (show (nI 1) = 0 ∨ (nI 1) = 1 from ?_)) ?_
    · exact Or.inr rfl
    show Qp (.inl (some (.int (nI 1)))) (eg_si (k_swm M a.toNatClampNeg b.toNatClampNeg row) 98 a.toNatClampNeg b)
    exact l1 c1

def s_X11_wish : eg_S := fun argv M Qp => match argv with
  | [.ref 0, .int a, .int b, .int row] => (eg_cn (eg_gi M 2 4) 16) ∧ ∀ (oo : Option Value ⊕ String) (M2 : eg_M), ((¬ (¬ a < nI 0 ∧ ¬ (eg_gi M 2 4 - nI 1) < a) ∧ oo = .inr "java/util/NoSuchElementException" ∧ M2 = M) ∨ ((¬ a < nI 0 ∧ ¬ (eg_gi M 2 4 - nI 1) < a) ∧ ¬ ((¬ b < nI 0 ∧ ¬ nI 6 < b) ∧ k_wk M a row b.toNatClampNeg) ∧ oo = .inl (some (.int (nI 0))) ∧ M2 = M) ∨ ((¬ a < nI 0 ∧ ¬ (eg_gi M 2 4 - nI 1) < a) ∧ ((¬ b < nI 0 ∧ ¬ nI 6 < b) ∧ k_wk M a row b.toNatClampNeg) ∧ oo = .inl (some (.int (nI 1))) ∧ M2 = eg_si (k_swm M a.toNatClampNeg b.toNatClampNeg row) 98 a.toNatClampNeg b)) → Qp oo M2
  | _ => False
theorem mo_X11_wish : eg_mono s_X11_wish := by
  intro argv M Q Q' h
  unfold s_X11_wish
  split
  · exact fun z => ⟨z.1, fun oo M2 y => h _ _ (z.2 oo M2 y)⟩
  · exact id
theorem sz_X11_wish : ∀ argv M Qp, s_X11_wish argv M Qp → (eg_ls0 argv).length ≤ 4 := by
  intro argv M Qp h
  unfold s_X11_wish at h
  split at h
  · exact Nat.le_of_ble_eq_true rfl
  · exact h.elim
theorem sr_X11_wish : ∀ argv M Qp, s_X11_wish argv M Qp → ∃ p0 As, argv = .ref p0 :: As ∧ eg_isO wd M p0 11 = true := by
  intro argv M Qp h
  unfold s_X11_wish at h
  split at h
  · exact ⟨_, _, rfl, rfl⟩
  · exact h.elim
set_option maxRecDepth 100000 in
set_option maxHeartbeats 1000000 in
theorem T_X11_wish {argv : List Value} {M : eg_M} {Qp : eg_P} (h : s_X11_wish argv M Qp) : eg_T wd k_X11_wish Qp 0 0 0 (eg_lsN 4 argv) [] M := by
  unfold s_X11_wish at h
  split at h
  · rename_i a b row
    obtain ⟨hp, hq⟩ := h
    have hpr : (¬ a < nI 0 ∧ ¬ (eg_gi M 2 4 - nI 1) < a) → (¬ b < nI 0 ∧ ¬ nI 6 < b) → ((∃ k, k < 16 ∧ a = nI k) ∧ eg_cn b 6) := fun z1 z2 => by
      obtain ⟨n, hn, _, e⟩ := k_idx (by decide) hp z1.1 z1.2
      obtain ⟨j, hj, e2⟩ := nI_of2 (M := nI 6) (n := 6) (by decide) z2.1 (Int32.not_lt.mp z2.2)
      exact ⟨⟨n, hn, e⟩, j, hj, e2⟩
    refine st_X11_wish_0 a b row (fun z1 z2 => hpr (Classical.not_not.mp z1) (Classical.not_not.mp z2)) (fun z => hq _ _ (Or.inl ⟨z, rfl, rfl⟩)) (fun z => hq _ _ (Or.inr (Or.inl ⟨z.1, fun y => z.2 y.1, rfl, rfl⟩))) (fun z r hr => ?_)
    refine st_X11_wish_22 a b row _ (fun _ => hpr z.1 z.2) (fun y => ?_) (fun y => ?_)
    · refine hq _ _ (Or.inr (Or.inl ⟨z.1, fun x => ?_, rfl, rfl⟩))
      have := hr.mpr x.2
      rw [b2i_0.mp y] at this
      exact Bool.noConfusion this
    · exact hq _ _ (Or.inr (Or.inr ⟨z.1, ⟨z.2, hr.mp (b2i_n0.mp y)⟩, rfl, rfl⟩))
  · exact h.elim
theorem de_X11_wish : ∀ q ∈ k_X11_wish.1, decode cX11_wish q.1 = .ok q.2 := by decide +kernel
theorem me_X11_wish (g : gl_T) : MT g yX11_wish cX11_wish 4 (some .boolean) ⟨7, 1, 6, 113⟩ 1 6 s_X11_wish := by
  intro hl
  exact eg_met_of (k := k_X11_wish) (by decide) rfl ⟨Nat.le_refl _, Nat.le_refl _⟩ rfl sz_X11_wish de_X11_wish (fun meth hn => (fc (eg_FL_of wd_c11 (by decide) lf_RX11_53 (fun h => absurd h (by decide))) (fn))) (fun A s H hE => (fn)) (fun p e s m args below meth c Q A ad0 N0 S0 hK hEx hA => (fc (mt_S hl S0 hK hEx hA (me_X11_within g) lm_RX11_61 ls_X11_within ln_RX11 lc_X11_within ⟨rfl, by decide, by decide, by decide +kernel⟩ ⟨rfl, rfl⟩ ⟨by decide, by decide⟩ (by decide)) (fc (mt_V hl S0 hK hEx hA (me_X11_needTown g) lm_RX11_71 li_X11_needTown lx_X11_needTown ln_RX11 lc_X11_needTown ⟨rfl, by decide, by decide, by decide +kernel⟩ ⟨rfl, rfl⟩ ⟨by decide, by decide⟩ (ci := 11) rfl rfl eg_auto_rec (by decide)) (fc (mt_V hl S0 hK hEx hA (me_X11_isWish g) lm_RX11_261 li_X11_isWish lx_X11_isWish ln_RX11 lc_X11_isWish ⟨rfl, by decide, by decide, by decide +kernel⟩ ⟨rfl, rfl⟩ ⟨by decide, by decide⟩ (ci := 11) rfl rfl sr_X11_isWish (by decide)) (fc (mt_V hl S0 hK hEx hA (me_X2_setWish g) lm_RX11_264 li_X2_setWish lx_X2_setWish ln_RX2 lc_X2_setWish ⟨rfl, by decide, by decide, by decide +kernel⟩ ⟨rfl, rfl⟩ ⟨by decide, by decide⟩ (ci := 2) rfl rfl sr_X2_setWish (by decide)) (fn)))))) (fun p e s m args below meth c Qc XC A ad0 N0 P S0 hK hEx hA hlk hout hPX => (fn)) (fun argv M Qp h => T_X11_wish h)

def k_X11_liking_v : eg_C := ([(0, .iload_n 1, 1), (1, .iconst 0, 1), (2, .aload_n 0, 1), (3, .getfield 39, 3), (6, .getfield 211, 3), (9, .iconst 1, 1), (10, .isub, 1), (11, .invokestatic 61, 3), (14, .ifCond .eq 20, 3), (17, .iload_n 2, 1), (18, .iconst 0, 1), (19, .aload_n 0, 1), (20, .getfield 39, 3), (23, .getfield 214, 3), (26, .iconst 1, 1), (27, .isub, 1), (28, .invokestatic 61, 3), (31, .ifCond .ne 13, 3), (34, .new 89, 3), (37, .dup, 1), (38, .ldc 217, 2), (40, .invokespecial 93, 3), (43, .athrow, 1), (44, .aload_n 0, 1), (45, .getfield 39, 3), (48, .iload_n 1, 1), (49, .iload_n 2, 1), (50, .invokevirtual 219, 3), (53, .ireturn, 1)], [(39, 11, 5, false), (211, 4, 5, false), (214, 4, 0, false)], [], [(61 + 100000, 3, 0, 0, s_X11_within), (219, 2 + 1, 0, 0, s_X4_likingOf_v)], [(89, .inl "java/util/NoSuchElementException")], 1, 1, 6)
theorem mk_X11_liking_v : ∀ q ∈ k_X11_liking_v.2.2.2.1, eg_mono q.2.2.2.2 := (fc (mo_X11_within) (fc (mo_X4_likingOf_v) (fn)))
set_option maxRecDepth 100000 in
theorem st_X11_liking_v_0 {Qp : eg_P} {M : eg_M} (a : Int32) (b : Int32)
  (g0 : (¬ (¬ (¬ a < (nI 0) ∧ ¬ ((eg_gi M 46 5) - (nI 1)) < a))) → (¬ (¬ (¬ b < (nI 0) ∧ ¬ ((eg_gi M 46 0) - (nI 1)) < b))) → (vp_in a 8 ∧ vp_in b 6))
  (l0 : ((¬ (¬ a < (nI 0) ∧ ¬ ((eg_gi M 46 5) - (nI 1)) < a)) ∨ (¬ (¬ b < (nI 0) ∧ ¬ ((eg_gi M 46 0) - (nI 1)) < b))) → Qp (.inr "java/util/NoSuchElementException") M)
  (l1 : ((¬ a < (nI 0) ∧ ¬ ((eg_gi M 46 5) - (nI 1)) < a) ∧ ((¬ b < (nI 0) ∧ ¬ ((eg_gi M 46 0) - (nI 1)) < b))) → Qp (.inl (some (.int (k_lk M a.toNatClampNeg b.toNatClampNeg)))) M) :
  eg_T wd k_X11_liking_v Qp 0 0 0 [some (.ref 0), some (.int a), some (.int b)] [] M := by
  refine eg_T_run mk_X11_liking_v (cut := []) 32 ?_
  refine And.intro (show (True) from ?_) ?_
  · exact trivial
  refine And.intro (fun (c1 : (b2i (decide (¬ a < (nI 0) ∧ ¬ ((eg_gi M 46 5) - (nI 1)) < a))) = 0) => ?_) (fun (c1 : ¬ (b2i (decide (¬ a < (nI 0) ∧ ¬ ((eg_gi M 46 5) - (nI 1)) < a))) = 0) => ?_)
  · replace c1 := b2i_d0.mp c1
    show Qp (.inr "java/util/NoSuchElementException") M
    exact l0 (Or.inl c1)
  · replace c1 := b2i_dn.mp c1
    refine And.intro (show (True) from ?_) ?_
    · exact trivial
    refine And.intro (fun (c2 : (b2i (decide (¬ b < (nI 0) ∧ ¬ ((eg_gi M 46 0) - (nI 1)) < b))) = 0) => ?_) (fun (c2 : ¬ (b2i (decide (¬ b < (nI 0) ∧ ¬ ((eg_gi M 46 0) - (nI 1)) < b))) = 0) => ?_)
    · replace c2 := b2i_d0.mp c2
      show Qp (.inr "java/util/NoSuchElementException") M
      exact l0 (Or.inr c2)
    · replace c2 := b2i_dn.mp c2
      refine And.intro (show (vp_in a 8 ∧ vp_in b 6) from ?_) ?_
      · exact g0 c1 c2
      refine And.intro (fun z => absurd z (by decide)) ?_
      show Qp (.inl (some (.int (k_lk M a.toNatClampNeg b.toNatClampNeg)))) M
      exact l1 ⟨(Classical.byContradiction c1), (Classical.byContradiction c2)⟩

def s_X11_liking_v : eg_S := fun argv M Qp => match argv with
  | [.ref 0, .int a, .int b] => (eg_cn (eg_gi M 46 5) 8 ∧ eg_cn (eg_gi M 46 0) 6) ∧ ∀ (oo : Option Value ⊕ String), ((¬ ((¬ a < nI 0 ∧ ¬ (eg_gi M 46 5 - nI 1) < a) ∧ (¬ b < nI 0 ∧ ¬ (eg_gi M 46 0 - nI 1) < b)) ∧ oo = .inr "java/util/NoSuchElementException") ∨ (((¬ a < nI 0 ∧ ¬ (eg_gi M 46 5 - nI 1) < a) ∧ (¬ b < nI 0 ∧ ¬ (eg_gi M 46 0 - nI 1) < b)) ∧ oo = .inl (some (.int (k_lk M a.toNatClampNeg b.toNatClampNeg))))) → Qp oo M
  | _ => False
theorem mo_X11_liking_v : eg_mono s_X11_liking_v := by
  intro argv M Q Q' h
  unfold s_X11_liking_v
  split
  · exact fun z => ⟨z.1, fun oo y => h _ _ (z.2 oo y)⟩
  · exact id
theorem sz_X11_liking_v : ∀ argv M Qp, s_X11_liking_v argv M Qp → (eg_ls0 argv).length ≤ 3 := by
  intro argv M Qp h
  unfold s_X11_liking_v at h
  split at h
  · exact Nat.le_of_ble_eq_true rfl
  · exact h.elim
theorem sr_X11_liking_v : ∀ argv M Qp, s_X11_liking_v argv M Qp → ∃ p0 As, argv = .ref p0 :: As ∧ eg_isO wd M p0 11 = true := by
  intro argv M Qp h
  unfold s_X11_liking_v at h
  split at h
  · exact ⟨_, _, rfl, rfl⟩
  · exact h.elim
set_option maxRecDepth 100000 in
set_option maxHeartbeats 1000000 in
theorem T_X11_liking_v {argv : List Value} {M : eg_M} {Qp : eg_P} (h : s_X11_liking_v argv M Qp) : eg_T wd k_X11_liking_v Qp 0 0 0 (eg_lsN 3 argv) [] M := by
  unfold s_X11_liking_v at h
  split at h
  · rename_i a b
    obtain ⟨hp, hq⟩ := h
    refine st_X11_liking_v_0 a b (fun z1 z2 => ?_) (fun z => hq _ (Or.inl ⟨fun y => z.elim (fun w => w y.1) (fun w => w y.2), rfl⟩)) (fun z => hq _ (Or.inr ⟨z, rfl⟩))
    have z1 := Classical.not_not.mp z1
    have z2 := Classical.not_not.mp z2
    obtain ⟨n, hn, _, rfl⟩ := k_idx (by decide) hp.1 z1.1 z1.2
    obtain ⟨m, hm, _, rfl⟩ := k_idx (by decide) hp.2 z2.1 z2.2
    exact ⟨(n_in (by omega) (by decide)).mpr hn, (n_in (by omega) (by decide)).mpr hm⟩
    
  · exact h.elim
theorem de_X11_liking_v : ∀ q ∈ k_X11_liking_v.1, decode cX11_liking q.1 = .ok q.2 := by decide +kernel
theorem me_X11_liking_v (g : gl_T) : MT g yX11_liking cX11_liking 3 (some .int) ⟨6, 1, 6, 92⟩ 1 6 s_X11_liking_v := by
  intro hl
  exact eg_met_of (k := k_X11_liking_v) (by decide) rfl ⟨Nat.le_refl _, Nat.le_refl _⟩ rfl sz_X11_liking_v de_X11_liking_v (fun meth hn => (fc (eg_FL_of wd_c11 (by decide) lf_RX11_39 (fun h => absurd h (by decide))) (fc (eg_FL_of wd_c4 (by decide) lf_RX11_211 (fun h => absurd h (by decide))) (fc (eg_FL_of wd_c4 (by decide) lf_RX11_214 (fun h => absurd h (by decide))) (fn))))) (fun A s H hE => (fn)) (fun p e s m args below meth c Q A ad0 N0 S0 hK hEx hA => (fc (mt_S hl S0 hK hEx hA (me_X11_within g) lm_RX11_61 ls_X11_within ln_RX11 lc_X11_within ⟨rfl, by decide, by decide, by decide +kernel⟩ ⟨rfl, rfl⟩ ⟨by decide, by decide⟩ (by decide)) (fc (mt_V hl S0 hK hEx hA (me_X4_likingOf_v g) lm_RX11_219 li_X4_likingOf lx_X4_likingOf ln_RX4 lc_X4_likingOf ⟨rfl, by decide, by decide, by decide +kernel⟩ ⟨rfl, rfl⟩ ⟨by decide, by decide⟩ (ci := 4) rfl rfl sr_X4_likingOf_v (by decide)) (fn)))) (fun p e s m args below meth c Qc XC A ad0 N0 P S0 hK hEx hA hlk hout hPX => (fc (mt_T hl S0 hEx hlk hout hPX (ix := 13) (rx := nx_rx) (names := ["java/lang/RuntimeException", "java/lang/Exception"]) (is := 217) (ic := 93) (text := "no such guest or home") (nt := 11) (by decide +kernel) (by decide +kernel) (by decide +kernel) (by decide +kernel) (by decide +kernel) (by decide +kernel) lq_RX11_89 tn_i (List.mem_of_getElem? (i := 3) rfl) tn_g tn_b tn_o (by decide +kernel) (by decide) (by decide) (Nat.le_refl _) (Nat.le_refl _)) (fn))) (fun argv M Qp h => T_X11_liking_v h)

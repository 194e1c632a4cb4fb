/-- a counted loop -/
theorem eg_for {σ : Type} {n : Nat} {Inv T : Nat → σ → Prop} (stp : ∀ i x, i ≤ n → Inv i x → (∀ y, i < n → Inv (i + 1) y → T (i + 1) y) → T i x) : ∀ i x, i ≤ n → Inv i x → T i x := by
  have h : ∀ r i x, n - i ≤ r → i ≤ n → Inv i x → T i x := by
    intro r
    induction r with
    | zero => exact fun i x hr hi hI => stp i x hi hI (fun y hl _ => absurd hl (by omega))
    | succ r ih => exact fun i x hr hi hI => stp i x hi hI (fun y hl hy => ih (i + 1) y (by omega) hl hy)
  exact fun i x hi hI => h (n - i) i x (Nat.le_refl _) hi hI
/-- a loop whose measure falls -/
theorem eg_wh {σ : Type} {Inv T : σ → Prop} (μ : σ → Nat) (stp : ∀ x, Inv x → (∀ y, Inv y → μ y < μ x → T y) → T x) : ∀ x, Inv x → T x := by
  have h : ∀ n x, μ x < n → Inv x → T x := by
    intro n
    induction n with
    | zero => exact fun x hn => absurd hn (Nat.not_lt_zero _)
    | succ n ih => exact fun x hn hI => stp x hI (fun y hy hl => ih y (by omega) hy)
  exact fun x hI => h (μ x + 1) x (Nat.lt_succ_self _) hI
/-- a count that is small enough -/
def eg_cn (x : Int32) (m : Nat) : Prop := ∃ n, n ≤ m ∧ x = nI n
theorem eg_ii {i m : Nat} (h : i < m) (hm : m < 2 ^ 31) : vp_in (nI i) m := vp_in_nI h hm
theorem b2i_d0 {p : Prop} {_ : Decidable p} : b2i (decide p) = 0 ↔ ¬ p := by rw [b2i_0, decide_eq_false_iff_not]
theorem b2i_dn {p : Prop} {_ : Decidable p} : ¬ b2i (decide p) = 0 ↔ ¬ ¬ p := by rw [b2i_d0]
theorem b2i_ff {b : Bool} (h : ¬ b2i b = 0) : ¬ b = false := fun z => h (b2i_0.mpr z)
theorem n_c {i : Nat} (h : i < 2 ^ 31) : (nI i).toNatClampNeg = i := nI_clamp h
theorem n_le {i j : Nat} (h : i < 2 ^ 31) (h2 : j < 2 ^ 31) : nI i ≤ nI j ↔ i ≤ j := nI_leI h h2
theorem n_lt {i j : Nat} (h : i < 2 ^ 31) (h2 : j < 2 ^ 31) : nI i < nI j ↔ i < j := by
  rw [← Int32.not_le, n_le h2 h, Nat.not_le]
theorem n_eq {i j : Nat} (h : i < 2 ^ 31) (h2 : j < 2 ^ 31) : nI i = nI j ↔ i = j :=
  ⟨fun z => by have := congrArg Int32.toNatClampNeg z; rwa [n_c h, n_c h2] at this, fun z => z ▸ rfl⟩
theorem n_in {i m : Nat} (h : i < 2 ^ 31) (hm : m < 2 ^ 31) : vp_in (nI i) m ↔ i < m :=
  ⟨fun z => by have := (vp_in_iff.mp z).2; unfold vp_in at z; rw [n_c h] at z; omega, fun z => vp_in_nI z hm⟩
theorem lgc_eq {a b : Int64} : lg_cmp a b = 0 ↔ a = b := lg_cmp_eq a b
theorem lgc_lt {a b : Int64} : lg_cmp a b < 0 ↔ a < b := lg_cmp_lt a b
theorem lgc_le {a b : Int64} : lg_cmp a b ≤ 0 ↔ a ≤ b := lg_cmp_le a b
theorem lgc_ge {a b : Int64} : 0 ≤ lg_cmp a b ↔ b ≤ a := lg_cmp_ge a b
theorem lgc_gt {a b : Int64} : 0 < lg_cmp a b ↔ b < a := lg_cmp_gt a b
theorem n_m {i j : Nat} : nI i * nI j = nI (i * j) := by
  unfold nI
  rw [Int32.ofNat_mul]
theorem n_p {i : Nat} : nI (i + 1) - nI 1 = nI i := by rw [show nI 1 = (1 : Int32) from rfl]; exact nI_pred i
theorem n_d {i : Nat} : nI (i + 1) + -nI 1 = nI i := by rw [← Int32.sub_eq_add_neg]; exact n_p
/-- a whole row of ints, of longs -/
def eg_ri (M : eg_M) (p : Nat) (f : Nat → Int32) : eg_M := (M.1, (fun q => if q = p then f else M.2.1 q), M.2.2)
def eg_rl (M : eg_M) (p : Nat) (f : Nat → Int64) : eg_M := (M.1, M.2.1, (fun q => if q = p then f else M.2.2.1 q), M.2.2.2)
theorem si_g (M : eg_M) (p k q j : Nat) (v : Int32) : eg_gi (eg_si M p k v) q j = if q = p ∧ j = k then v else eg_gi M q j := by
  unfold eg_gi eg_si eg_up
  by_cases h : q = p
  · subst h; by_cases h2 : j = k <;> simp [h2]
  · simp [h]
theorem sl_g (M : eg_M) (p k q j : Nat) (v : Int64) : eg_gl (eg_sl M p k v) q j = if q = p ∧ j = k then v else eg_gl M q j := by
  unfold eg_gl eg_sl eg_up
  by_cases h : q = p
  · subst h; by_cases h2 : j = k <;> simp [h2]
  · simp [h]
theorem ri_g (M : eg_M) (p q j : Nat) (f : Nat → Int32) : eg_gi (eg_ri M p f) q j = if q = p then f j else eg_gi M q j := by
  unfold eg_gi eg_ri
  by_cases h : q = p <;> simp [h]
theorem rl_g (M : eg_M) (p q j : Nat) (f : Nat → Int64) : eg_gl (eg_rl M p f) q j = if q = p then f j else eg_gl M q j := by
  unfold eg_gl eg_rl
  by_cases h : q = p <;> simp [h]
theorem ri_id (M : eg_M) (p : Nat) : eg_ri M p (eg_gi M p) = M := by
  obtain ⟨a, b, c⟩ := M
  unfold eg_ri eg_gi
  refine Prod.ext rfl (Prod.ext ?_ rfl)
  funext q
  by_cases h : q = p
  · subst h; simp
  · simp [h]
theorem rl_id (M : eg_M) (p : Nat) : eg_rl M p (eg_gl M p) = M := by
  obtain ⟨a, b, c, d⟩ := M
  unfold eg_rl eg_gl
  refine Prod.ext rfl (Prod.ext rfl (Prod.ext ?_ rfl))
  funext q
  by_cases h : q = p
  · subst h; simp
  · simp [h]
theorem si_ri (M : eg_M) (p k : Nat) (v : Int32) (f : Nat → Int32) : eg_si (eg_ri M p f) p k v = eg_ri M p (fun j => if j = k then v else f j) := by
  unfold eg_si eg_ri eg_up
  refine Prod.ext rfl (Prod.ext ?_ rfl)
  funext q
  by_cases h : q = p
  · subst h; simp
  · simp [h]
theorem sl_rl (M : eg_M) (p k : Nat) (v : Int64) (f : Nat → Int64) : eg_sl (eg_rl M p f) p k v = eg_rl M p (fun j => if j = k then v else f j) := by
  unfold eg_sl eg_rl eg_up
  refine Prod.ext rfl (Prod.ext rfl (Prod.ext ?_ rfl))
  funext q
  by_cases h : q = p
  · subst h; simp
  · simp [h]
theorem si_ri_n {M : eg_M} {p q k : Nat} {v : Int32} {f : Nat → Int32} (h : ¬ q = p) : eg_si (eg_ri M p f) q k v = eg_ri (eg_si M q k v) p f := by
  unfold eg_si eg_ri eg_up
  refine Prod.ext rfl (Prod.ext ?_ rfl)
  funext x
  by_cases h1 : x = q
  · subst h1; simp [h]
  · have h' : ¬ p = q := fun z => h z.symm
    by_cases h2 : x = p <;> simp [h1, h2, h']
theorem si_si (M : eg_M) (p k : Nat) (v w : Int32) : eg_si (eg_si M p k v) p k w = eg_si M p k w := by
  unfold eg_si eg_up
  refine Prod.ext rfl (Prod.ext ?_ rfl)
  funext x
  by_cases h1 : x = p
  · subst h1; funext j; by_cases h2 : j = k <;> simp [h2]
  · simp [h1]
theorem n_s {i j : Nat} : nI i + nI j = nI (i + j) := nI_add i j

/-- the model: an event is known on day k; it breaks charter c by day d; a charter lives -/
def m_kn (M : eg_M) (e : Nat) (k : Int32) : Bool := decide (¬ k < (eg_gi M 137 e) ∧ ((eg_gi M 138 e) = (-nI 1) ∨ ¬ (eg_gi M 138 e) ≤ k))
def m_bk (M : eg_M) (c d k : Int32) (e : Nat) : Bool := decide (eg_gi M 130 e = 0 ∧ eg_gi M 131 e = c ∧ m_kn M e k = true ∧ ¬ d < eg_gi M 136 e)
def m_al (M : eg_M) (c d k : Int32) : Bool := decide (¬ k < eg_gi M 129 c.toNatClampNeg ∧ eg_gi M 128 c.toNatClampNeg ≤ d ∧ ∀ e, e < (eg_gi M 121 5).toNatClampNeg → m_bk M c d k e = false)
def k_X12_isAlive : eg_C := ([(0, .aload_n 0, 1), (1, .getfield 56, 3), (4, .iload_n 1, 1), (5, .iaload, 1), (6, .iload_n 3, 1), (7, .if_icmp .gt 13, 3), (10, .aload_n 0, 1), (11, .getfield 53, 3), (14, .iload_n 1, 1), (15, .iaload, 1), (16, .iload_n 2, 1), (17, .if_icmp .le 5, 3), (20, .iconst 0, 1), (21, .ireturn, 1), (22, .iconst 0, 1), (23, .istore 4, 2), (25, .iload 4, 2), (27, .aload_n 0, 1), (28, .getfield 241, 3), (31, .if_icmp .ge 53, 3), (34, .aload_n 0, 1), (35, .getfield 59, 3), (38, .iload 4, 2), (40, .iaload, 1), (41, .ifCond .ne 37, 3), (44, .aload_n 0, 1), (45, .getfield 62, 3), (48, .iload 4, 2), (50, .iaload, 1), (51, .iload_n 1, 1), (52, .if_icmp .ne 26, 3), (55, .aload_n 0, 1), (56, .iload 4, 2), (58, .iload_n 3, 1), (59, .invokevirtual 384, 3), (62, .ifCond .eq 16, 3), (65, .aload_n 0, 1), (66, .getfield 77, 3), (69, .iload 4, 2), (71, .iaload, 1), (72, .iload_n 2, 1), (73, .if_icmp .gt 5, 3), (76, .iconst 0, 1), (77, .ireturn, 1), (78, .iinc 4 1, 3), (81, .goto (-56), 3), (84, .iconst 1, 1), (85, .ireturn, 1)], [(53, 12, 11, false), (56, 12, 12, false), (59, 12, 13, false), (62, 12, 14, false), (77, 12, 19, false), (241, 12, 5, false)], [], [(384, 2 + 1, 0, 0, s_X12_isKnown)], [], 2, 0, 0)
theorem mk_X12_isAlive : ∀ q ∈ k_X12_isAlive.2.2.2.1, eg_mono q.2.2.2.2 := (fc (mo_X12_isKnown) (fn))
set_option maxRecDepth 100000 in
theorem st_X12_isAlive_0 {Qp : eg_P} {M : eg_M} (c : Int32) (d : Int32) (k : Int32)
  (g0 : (vp_in c 24))
  (l0 : (k < (eg_gi M 129 c.toNatClampNeg) ∨ ¬ (eg_gi M 128 c.toNatClampNeg) ≤ d) → Qp (.inl (some (.int (nI 0)))) M)
  (l1 : (¬ k < (eg_gi M 129 c.toNatClampNeg) ∧ (eg_gi M 128 c.toNatClampNeg) ≤ d) → eg_T wd k_X12_isAlive Qp 25 0 0 [some (.ref 121), some (.int c), some (.int d), some (.int k), some (.int (nI 0))] [] M) :
  eg_T wd k_X12_isAlive Qp 0 0 0 [some (.ref 121), some (.int c), some (.int d), some (.int k), none] [] M := by
  refine eg_T_run mk_X12_isAlive (cut := [25]) 51 ?_
  refine And.intro (show vp_in c 24 from ?_) ?_
  · exact g0
  refine And.intro (fun (c1 : k < (eg_gi M 129 c.toNatClampNeg)) => ?_) (fun (c1 : ¬ k < (eg_gi M 129 c.toNatClampNeg)) => ?_)
  · skip
    refine And.intro (fun _ => (show (nI 0) = 0 ∨ (nI 0) = 1 from ?_)) ?_
    · exact Or.inl rfl
    show Qp (.inl (some (.int (nI 0)))) M
    exact l0 (Or.inl c1)
  · skip
    refine And.intro (show vp_in c 24 from ?_) ?_
    · exact g0
    refine And.intro (fun (c2 : (eg_gi M 128 c.toNatClampNeg) ≤ d) => ?_) (fun (c2 : ¬ (eg_gi M 128 c.toNatClampNeg) ≤ d) => ?_)
    · skip
      show eg_T wd k_X12_isAlive Qp 25 0 0 [some (.ref 121), some (.int c), some (.int d), some (.int k), some (.int (nI 0))] [] M
      exact l1 ⟨c1, c2⟩
    · skip
      refine And.intro (fun _ => (show (nI 0) = 0 ∨ (nI 0) = 1 from ?_)) ?_
      · exact Or.inl rfl
      show Qp (.inl (some (.int (nI 0)))) M
      exact l0 (Or.inr c2)

set_option maxRecDepth 100000 in
theorem st_X12_isAlive_25 {Qp : eg_P} {M : eg_M} (c : Int32) (d : Int32) (k : Int32) (x4 : Int32)
  (g0 : (¬ ((eg_gi M 121 5) ≤ x4)) → (vp_in x4 200))
  (l0 : ((eg_gi M 121 5) ≤ x4) → Qp (.inl (some (.int (nI 1)))) M)
  (l1 : (¬ (eg_gi M 121 5) ≤ x4 ∧ (¬ (eg_gi M 130 x4.toNatClampNeg) = 0 ∨ (¬ (eg_gi M 131 x4.toNatClampNeg) = c ∨ ((¬ (¬ k < (eg_gi M 137 x4.toNatClampNeg) ∧ ((eg_gi M 138 x4.toNatClampNeg) = (-nI 1) ∨ ¬ (eg_gi M 138 x4.toNatClampNeg) ≤ k))) ∨ d < (eg_gi M 136 x4.toNatClampNeg))))) → eg_T wd k_X12_isAlive Qp 25 0 0 [some (.ref 121), some (.int c), some (.int d), some (.int k), some (.int (x4 + (nI 1)))] [] M)
  (l2 : (¬ (eg_gi M 121 5) ≤ x4 ∧ ((eg_gi M 130 x4.toNatClampNeg) = 0 ∧ ((eg_gi M 131 x4.toNatClampNeg) = c ∧ ((¬ k < (eg_gi M 137 x4.toNatClampNeg) ∧ ((eg_gi M 138 x4.toNatClampNeg) = (-nI 1) ∨ ¬ (eg_gi M 138 x4.toNatClampNeg) ≤ k)) ∧ ¬ d < (eg_gi M 136 x4.toNatClampNeg))))) → Qp (.inl (some (.int (nI 0)))) M) :
  eg_T wd k_X12_isAlive Qp 25 0 0 [some (.ref 121), some (.int c), some (.int d), some (.int k), some (.int x4)] [] M := by
  refine eg_T_run mk_X12_isAlive (cut := [25]) 51 ?_
  refine And.intro (fun (c1 : (eg_gi M 121 5) ≤ x4) => ?_) (fun (c1 : ¬ (eg_gi M 121 5) ≤ x4) => ?_)
  · skip
    refine And.intro (fun _ => (show (nI 1) = 0 ∨ (nI 1) = 1 from ?_)) ?_
    · exact Or.inr rfl
    show Qp (.inl (some (.int (nI 1)))) M
    exact l0 c1
  · skip
    refine And.intro (show vp_in x4 200 from ?_) ?_
    · exact g0 c1
    refine And.intro (fun (c2 : (eg_gi M 130 x4.toNatClampNeg) = 0) => ?_) (fun (c2 : ¬ (eg_gi M 130 x4.toNatClampNeg) = 0) => ?_)
    · skip
      refine And.intro (show vp_in x4 200 from ?_) ?_
      · exact g0 c1
      refine And.intro (fun (c3 : (eg_gi M 131 x4.toNatClampNeg) = c) => ?_) (fun (c3 : ¬ (eg_gi M 131 x4.toNatClampNeg) = c) => ?_)
      · skip
        refine And.intro (show ((vp_in x4 200)) from ?_) ?_
        · exact g0 c1
        refine And.intro (fun (c4 : (b2i (decide (¬ k < (eg_gi M 137 x4.toNatClampNeg) ∧ ((eg_gi M 138 x4.toNatClampNeg) = (-nI 1) ∨ ¬ (eg_gi M 138 x4.toNatClampNeg) ≤ k)))) = 0) => ?_) (fun (c4 : ¬ (b2i (decide (¬ k < (eg_gi M 137 x4.toNatClampNeg) ∧ ((eg_gi M 138 x4.toNatClampNeg) = (-nI 1) ∨ ¬ (eg_gi M 138 x4.toNatClampNeg) ≤ k)))) = 0) => ?_)
        · replace c4 := b2i_d0.mp c4
          show eg_T wd k_X12_isAlive Qp 25 0 0 [some (.ref 121), some (.int c), some (.int d), some (.int k), some (.int (x4 + (nI 1)))] [] M
          exact l1 ⟨c1, (Or.inr (Or.inr (Or.inl c4)))⟩
        · replace c4 := b2i_dn.mp c4
          refine And.intro (show vp_in x4 200 from ?_) ?_
          · exact g0 c1
          refine And.intro (fun (c5 : d < (eg_gi M 136 x4.toNatClampNeg)) => ?_) (fun (c5 : ¬ d < (eg_gi M 136 x4.toNatClampNeg)) => ?_)
          · skip
            show eg_T wd k_X12_isAlive Qp 25 0 0 [some (.ref 121), some (.int c), some (.int d), some (.int k), some (.int (x4 + (nI 1)))] [] M
            exact l1 ⟨c1, (Or.inr (Or.inr (Or.inr c5)))⟩
          · skip
            refine And.intro (fun _ => (show (nI 0) = 0 ∨ (nI 0) = 1 from ?_)) ?_
            · exact Or.inl rfl
            show Qp (.inl (some (.int (nI 0)))) M
            exact l2 ⟨c1, ⟨c2, ⟨c3, ⟨(Classical.byContradiction c4), c5⟩⟩⟩⟩
      · skip
        show eg_T wd k_X12_isAlive Qp 25 0 0 [some (.ref 121), some (.int c), some (.int d), some (.int k), some (.int (x4 + (nI 1)))] [] M
        exact l1 ⟨c1, (Or.inr (Or.inl c3))⟩
    · skip
      show eg_T wd k_X12_isAlive Qp 25 0 0 [some (.ref 121), some (.int c), some (.int d), some (.int k), some (.int (x4 + (nI 1)))] [] M
      exact l1 ⟨c1, (Or.inl c2)⟩

def s_X12_isAlive : eg_S := fun argv M Qp => match argv with
  | [.ref 121, .int c, .int d, .int k] => (vp_in c 24 ∧ eg_cn (eg_gi M 121 5) 200) ∧ Qp (.inl (some (.int (b2i (m_al M c d k))))) M
  | _ => False
theorem mo_X12_isAlive : eg_mono s_X12_isAlive := by
  intro argv M Q Q' h
  unfold s_X12_isAlive
  split
  · exact fun z => ⟨z.1, h _ _ z.2⟩
  · exact id
theorem sz_X12_isAlive : ∀ argv M Qp, s_X12_isAlive argv M Qp → (eg_ls0 argv).length ≤ 5 := by
  intro argv M Qp h
  unfold s_X12_isAlive at h
  split at h
  · exact Nat.le_of_ble_eq_true rfl
  · exact h.elim
theorem sr_X12_isAlive : ∀ argv M Qp, s_X12_isAlive argv M Qp → ∃ p0 As, argv = .ref p0 :: As ∧ eg_isO wd M p0 12 = true := by
  intro argv M Qp h
  unfold s_X12_isAlive at h
  split at h
  · exact ⟨_, _, rfl, rfl⟩
  · exact h.elim
set_option maxRecDepth 100000 in
set_option maxHeartbeats 4000000 in
theorem T_X12_isAlive {argv : List Value} {M : eg_M} {Qp : eg_P} (h : s_X12_isAlive argv M Qp) : eg_T wd k_X12_isAlive Qp 0 0 0 (eg_lsN 5 argv) [] M := by
  unfold s_X12_isAlive at h
  split at h
  · rename_i c d k
    obtain ⟨hp, hq⟩ := h
    obtain ⟨hc, n, hn, hN⟩ := hp
    have lp : ∀ i (_ : Unit), i ≤ n → ((¬ k < eg_gi M 129 c.toNatClampNeg ∧ eg_gi M 128 c.toNatClampNeg ≤ d) ∧ ∀ e, e < i → m_bk M c d k e = false) → eg_T wd k_X12_isAlive Qp 25 0 0 [some (.ref 121), some (.int c), some (.int d), some (.int k), some (.int (nI i))] [] M := by
      refine eg_for ?_
      intro i _ hi ⟨h0, hI⟩ kk
      have st := st_X12_isAlive_25 (Qp := Qp) (M := M) c d k (nI i)
      simp (disch := omega) only [hN, n_c, n_le, n_in, n_s, Nat.not_le] at st
      refine st (fun z => Nat.lt_of_lt_of_le z hn) (fun z => ?_) (fun ⟨z1, z⟩ => kk () z1 ⟨h0, lt_s hI ?_⟩) (fun ⟨z1, z⟩ => ?_)
      · rw [show m_al M c d k = true from decide_eq_true ⟨h0.1, h0.2, by rw [hN, n_c (by omega)]; exact fun e he => hI e (by omega)⟩] at hq
        exact hq
      · unfold m_bk m_kn
        grind
      · rw [show m_al M c d k = false from decide_eq_false (fun y => by
          have := y.2.2 i (by rw [hN, n_c (by omega)]; exact z1)
          unfold m_bk m_kn at this
          grind)] at hq
        exact hq
    refine st_X12_isAlive_0 _ _ _ hc (fun z => ?_) (fun z => lp 0 () (Nat.zero_le _) ⟨z, lt_0⟩)
    rw [show m_al M c d k = false from decide_eq_false (fun y => by grind)] at hq
    exact hq
  · exact h.elim
theorem de_X12_isAlive : ∀ q ∈ k_X12_isAlive.1, decode cX12_isAlive q.1 = .ok q.2 := by decide +kernel
theorem me_X12_isAlive (g : gl_T) : MT g yX12_isAlive cX12_isAlive 5 (some .boolean) ⟨1, 0, 0, 22⟩ 0 0 s_X12_isAlive := by
  intro hl
  exact eg_met_of (k := k_X12_isAlive) (by decide) rfl ⟨Nat.le_refl _, Nat.le_refl _⟩ rfl sz_X12_isAlive de_X12_isAlive (fun meth hn => (fc (eg_FL_of wd_c12 (by decide) lf_RX12_53 (fun h => absurd h (by decide))) (fc (eg_FL_of wd_c12 (by decide) lf_RX12_56 (fun h => absurd h (by decide))) (fc (eg_FL_of wd_c12 (by decide) lf_RX12_59 (fun h => absurd h (by decide))) (fc (eg_FL_of wd_c12 (by decide) lf_RX12_62 (fun h => absurd h (by decide))) (fc (eg_FL_of wd_c12 (by decide) lf_RX12_77 (fun h => absurd h (by decide))) (fc (eg_FL_of wd_c12 (by decide) lf_RX12_241 (fun h => absurd h (by decide))) (fn)))))))) (fun A s H hE => (fn)) (fun p e s m args below meth c Q A ad0 N0 S0 hK hEx hA => (fc (mt_V hl S0 hK hEx hA (me_X12_isKnown g) lm_RX12_384 li_X12_isKnown lx_X12_isKnown ln_RX12 lc_X12_isKnown ⟨rfl, by decide, by decide, by decide +kernel⟩ ⟨rfl, rfl⟩ ⟨by decide, by decide⟩ (ci := 12) rfl rfl sr_X12_isKnown (by decide)) (fn))) (fun p e s m args below meth c Qc XC A ad0 N0 P S0 hK hEx hA hlk hout hPX => (fn)) (fun argv M Qp h => T_X12_isAlive h)

/-- the model: the number of the rules told last by day k, among the first i -/
def m_ra (M : eg_M) (k : Int32) : Nat → Int32
  | 0 => -nI 1
  | i + 1 => if k < eg_gi M 140 i then m_ra M k i else nI i
def k_X12_rulesAt : eg_C := ([(0, .iconst (-1), 1), (1, .istore_n 2, 1), (2, .iconst 0, 1), (3, .istore_n 3, 1), (4, .iload_n 3, 1), (5, .aload_n 0, 1), (6, .getfield 369, 3), (9, .if_icmp .ge 21, 3), (12, .aload_n 0, 1), (13, .getfield 93, 3), (16, .iload_n 3, 1), (17, .iaload, 1), (18, .iload_n 1, 1), (19, .if_icmp .gt 5, 3), (22, .iload_n 3, 1), (23, .istore_n 2, 1), (24, .iinc 3 1, 3), (27, .goto (-23), 3), (30, .iload_n 2, 1), (31, .ireturn, 1)], [(93, 12, 36, false), (369, 12, 35, false)], [], [], [], 1, 0, 0)
theorem mk_X12_rulesAt : ∀ q ∈ k_X12_rulesAt.2.2.2.1, eg_mono q.2.2.2.2 := (fn)
set_option maxRecDepth 100000 in
theorem st_X12_rulesAt_0 {Qp : eg_P} {M : eg_M} (k : Int32)
  (l0 : eg_T wd k_X12_rulesAt Qp 4 0 0 [some (.ref 121), some (.int k), some (.int (-nI 1)), some (.int (nI 0))] [] M) :
  eg_T wd k_X12_rulesAt Qp 0 0 0 [some (.ref 121), some (.int k), none, none] [] M := by
  refine eg_T_run mk_X12_rulesAt (cut := [4]) 23 ?_
  show eg_T wd k_X12_rulesAt Qp 4 0 0 [some (.ref 121), some (.int k), some (.int (-nI 1)), some (.int (nI 0))] [] M
  exact l0

set_option maxRecDepth 100000 in
theorem st_X12_rulesAt_4 {Qp : eg_P} {M : eg_M} (k : Int32) (x2 : Int32) (x3 : Int32)
  (g0 : (¬ ((eg_gi M 121 35) ≤ x3)) → (vp_in x3 8))
  (l0 : ((eg_gi M 121 35) ≤ x3) → Qp (.inl (some (.int x2))) M)
  (l1 : (¬ (eg_gi M 121 35) ≤ x3 ∧ k < (eg_gi M 140 x3.toNatClampNeg)) → eg_T wd k_X12_rulesAt Qp 4 0 0 [some (.ref 121), some (.int k), some (.int x2), some (.int (x3 + (nI 1)))] [] M)
  (l2 : (¬ (eg_gi M 121 35) ≤ x3 ∧ ¬ k < (eg_gi M 140 x3.toNatClampNeg)) → eg_T wd k_X12_rulesAt Qp 4 0 0 [some (.ref 121), some (.int k), some (.int x3), some (.int (x3 + (nI 1)))] [] M) :
  eg_T wd k_X12_rulesAt Qp 4 0 0 [some (.ref 121), some (.int k), some (.int x2), some (.int x3)] [] M := by
  refine eg_T_run mk_X12_rulesAt (cut := [4]) 23 ?_
  refine And.intro (fun (c1 : (eg_gi M 121 35) ≤ x3) => ?_) (fun (c1 : ¬ (eg_gi M 121 35) ≤ x3) => ?_)
  · skip
    refine And.intro (fun z => absurd z (by decide)) ?_
    show Qp (.inl (some (.int x2))) M
    exact l0 c1
  · skip
    refine And.intro (show vp_in x3 8 from ?_) ?_
    · exact g0 c1
    refine And.intro (fun (c2 : k < (eg_gi M 140 x3.toNatClampNeg)) => ?_) (fun (c2 : ¬ k < (eg_gi M 140 x3.toNatClampNeg)) => ?_)
    · skip
      show eg_T wd k_X12_rulesAt Qp 4 0 0 [some (.ref 121), some (.int k), some (.int x2), some (.int (x3 + (nI 1)))] [] M
      exact l1 ⟨c1, c2⟩
    · skip
      show eg_T wd k_X12_rulesAt Qp 4 0 0 [some (.ref 121), some (.int k), some (.int x3), some (.int (x3 + (nI 1)))] [] M
      exact l2 ⟨c1, c2⟩

def s_X12_rulesAt : eg_S := fun argv M Qp => match argv with
  | [.ref 121, .int k] => (eg_cn (eg_gi M 121 35) 8) ∧ Qp (.inl (some (.int (m_ra M k (eg_gi M 121 35).toNatClampNeg)))) M
  | _ => False
theorem mo_X12_rulesAt : eg_mono s_X12_rulesAt := by
  intro argv M Q Q' h
  unfold s_X12_rulesAt
  split
  · exact fun z => ⟨z.1, h _ _ z.2⟩
  · exact id
theorem sz_X12_rulesAt : ∀ argv M Qp, s_X12_rulesAt argv M Qp → (eg_ls0 argv).length ≤ 4 := by
  intro argv M Qp h
  unfold s_X12_rulesAt at h
  split at h
  · exact Nat.le_of_ble_eq_true rfl
  · exact h.elim
theorem sr_X12_rulesAt : ∀ argv M Qp, s_X12_rulesAt argv M Qp → ∃ p0 As, argv = .ref p0 :: As ∧ eg_isO wd M p0 12 = true := by
  intro argv M Qp h
  unfold s_X12_rulesAt at h
  split at h
  · exact ⟨_, _, rfl, rfl⟩
  · exact h.elim
set_option maxRecDepth 100000 in
set_option maxHeartbeats 4000000 in
theorem T_X12_rulesAt {argv : List Value} {M : eg_M} {Qp : eg_P} (h : s_X12_rulesAt argv M Qp) : eg_T wd k_X12_rulesAt Qp 0 0 0 (eg_lsN 4 argv) [] M := by
  unfold s_X12_rulesAt at h
  split at h
  · rename_i k
    obtain ⟨hp, hq⟩ := h
    obtain ⟨n, hn, hN⟩ := hp
    rw [hN, n_c (by omega)] at hq
    have lp : ∀ i (x : Int32), i ≤ n → x = m_ra M k i → eg_T wd k_X12_rulesAt Qp 4 0 0 [some (.ref 121), some (.int k), some (.int x), some (.int (nI i))] [] M := by
      refine eg_for ?_
      intro i x hi hx kk
      have st := st_X12_rulesAt_4 (Qp := Qp) (M := M) k x (nI i)
      simp (disch := omega) only [hN, n_c, n_le, n_in, n_s, Nat.not_le] at st
      refine st (fun z => Nat.lt_of_lt_of_le z hn) (fun z => ?_) (fun ⟨z1, z⟩ => kk _ z1 ?_) (fun ⟨z1, z⟩ => kk _ z1 ?_)
      · rw [show n = i by omega, ← hx] at hq
        exact hq
      · unfold m_ra; rw [if_pos z, hx]
      · unfold m_ra; rw [if_neg z]
    exact st_X12_rulesAt_0 _ (lp 0 _ (Nat.zero_le _) rfl)
  · exact h.elim
theorem de_X12_rulesAt : ∀ q ∈ k_X12_rulesAt.1, decode cX12_rulesAt q.1 = .ok q.2 := by decide +kernel
theorem me_X12_rulesAt (g : gl_T) : MT g yX12_rulesAt cX12_rulesAt 4 (some .int) ⟨0, 0, 0, 0⟩ 0 0 s_X12_rulesAt := by
  intro hl
  exact eg_met_of (k := k_X12_rulesAt) (by decide) rfl ⟨Nat.le_refl _, Nat.le_refl _⟩ rfl sz_X12_rulesAt de_X12_rulesAt (fun meth hn => (fc (eg_FL_of wd_c12 (by decide) lf_RX12_93 (fun h => absurd h (by decide))) (fc (eg_FL_of wd_c12 (by decide) lf_RX12_369 (fun h => absurd h (by decide))) (fn)))) (fun A s H hE => (fn)) (fun p e s m args below meth c Q A ad0 N0 S0 hK hEx hA => (fn)) (fun p e s m args below meth c Qc XC A ad0 N0 P S0 hK hEx hA hlk hout hPX => (fn)) (fun argv M Qp h => T_X12_rulesAt h)

/-- where x stands first in a row, from i on for r places; -1 where it doesn't -/
def fnd (f : Nat → Int32) (x : Int32) (i : Nat) : Nat → Int32
  | 0 => -nI 1
  | r + 1 => if f i = x then nI i else fnd f x (i + 1) r
def k_X12_placeOf : eg_C := ([(0, .iconst 0, 1), (1, .istore_n 2, 1), (2, .iload_n 2, 1), (3, .aload_n 0, 1), (4, .getfield 388, 3), (7, .if_icmp .ge 21, 3), (10, .aload_n 0, 1), (11, .getfield 127, 3), (14, .iload_n 2, 1), (15, .iaload, 1), (16, .iload_n 1, 1), (17, .if_icmp .ne 5, 3), (20, .iload_n 2, 1), (21, .ireturn, 1), (22, .iinc 2 1, 3), (25, .goto (-23), 3), (28, .iconst (-1), 1), (29, .ireturn, 1)], [(127, 12, 48, false), (388, 12, 47, false)], [], [], [], 1, 0, 0)
theorem mk_X12_placeOf : ∀ q ∈ k_X12_placeOf.2.2.2.1, eg_mono q.2.2.2.2 := (fn)
set_option maxRecDepth 100000 in
theorem st_X12_placeOf_0 {Qp : eg_P} {M : eg_M} (e : Int32)
  (l0 : eg_T wd k_X12_placeOf Qp 2 0 0 [some (.ref 121), some (.int e), some (.int (nI 0))] [] M) :
  eg_T wd k_X12_placeOf Qp 0 0 0 [some (.ref 121), some (.int e), none] [] M := by
  refine eg_T_run mk_X12_placeOf (cut := [2]) 21 ?_
  show eg_T wd k_X12_placeOf Qp 2 0 0 [some (.ref 121), some (.int e), some (.int (nI 0))] [] M
  exact l0

set_option maxRecDepth 100000 in
theorem st_X12_placeOf_2 {Qp : eg_P} {M : eg_M} (e : Int32) (x2 : Int32)
  (g0 : (¬ ((eg_gi M 121 47) ≤ x2)) → (vp_in x2 200))
  (l0 : ((eg_gi M 121 47) ≤ x2) → Qp (.inl (some (.int (-nI 1)))) M)
  (l1 : (¬ (eg_gi M 121 47) ≤ x2 ∧ (eg_gi M 151 x2.toNatClampNeg) = e) → Qp (.inl (some (.int x2))) M)
  (l2 : (¬ (eg_gi M 121 47) ≤ x2 ∧ ¬ (eg_gi M 151 x2.toNatClampNeg) = e) → eg_T wd k_X12_placeOf Qp 2 0 0 [some (.ref 121), some (.int e), some (.int (x2 + (nI 1)))] [] M) :
  eg_T wd k_X12_placeOf Qp 2 0 0 [some (.ref 121), some (.int e), some (.int x2)] [] M := by
  refine eg_T_run mk_X12_placeOf (cut := [2]) 21 ?_
  refine And.intro (fun (c1 : (eg_gi M 121 47) ≤ x2) => ?_) (fun (c1 : ¬ (eg_gi M 121 47) ≤ x2) => ?_)
  · skip
    refine And.intro (fun z => absurd z (by decide)) ?_
    show Qp (.inl (some (.int (-nI 1)))) M
    exact l0 c1
  · skip
    refine And.intro (show vp_in x2 200 from ?_) ?_
    · exact g0 c1
    refine And.intro (fun (c2 : (eg_gi M 151 x2.toNatClampNeg) = e) => ?_) (fun (c2 : ¬ (eg_gi M 151 x2.toNatClampNeg) = e) => ?_)
    · skip
      refine And.intro (fun z => absurd z (by decide)) ?_
      show Qp (.inl (some (.int x2))) M
      exact l1 ⟨c1, c2⟩
    · skip
      show eg_T wd k_X12_placeOf Qp 2 0 0 [some (.ref 121), some (.int e), some (.int (x2 + (nI 1)))] [] M
      exact l2 ⟨c1, c2⟩

def s_X12_placeOf : eg_S := fun argv M Qp => match argv with
  | [.ref 121, .int e] => (eg_cn (eg_gi M 121 47) 200) ∧ Qp (.inl (some (.int (fnd (eg_gi M 151) e 0 (eg_gi M 121 47).toNatClampNeg)))) M
  | _ => False
theorem mo_X12_placeOf : eg_mono s_X12_placeOf := by
  intro argv M Q Q' h
  unfold s_X12_placeOf
  split
  · exact fun z => ⟨z.1, h _ _ z.2⟩
  · exact id
theorem sz_X12_placeOf : ∀ argv M Qp, s_X12_placeOf argv M Qp → (eg_ls0 argv).length ≤ 3 := by
  intro argv M Qp h
  unfold s_X12_placeOf at h
  split at h
  · exact Nat.le_of_ble_eq_true rfl
  · exact h.elim
theorem sr_X12_placeOf : ∀ argv M Qp, s_X12_placeOf argv M Qp → ∃ p0 As, argv = .ref p0 :: As ∧ eg_isO wd M p0 12 = true := by
  intro argv M Qp h
  unfold s_X12_placeOf at h
  split at h
  · exact ⟨_, _, rfl, rfl⟩
  · exact h.elim
set_option maxRecDepth 100000 in
set_option maxHeartbeats 4000000 in
theorem T_X12_placeOf {argv : List Value} {M : eg_M} {Qp : eg_P} (h : s_X12_placeOf argv M Qp) : eg_T wd k_X12_placeOf Qp 0 0 0 (eg_lsN 3 argv) [] M := by
  unfold s_X12_placeOf at h
  split at h
  · rename_i e
    obtain ⟨hp, hq⟩ := h
    obtain ⟨n, hn, hN⟩ := hp
    rw [hN, n_c (by omega)] at hq
    have lp : ∀ i (_ : Unit), i ≤ n → fnd (eg_gi M 151) e i (n - i) = fnd (eg_gi M 151) e 0 n → eg_T wd k_X12_placeOf Qp 2 0 0 [some (.ref 121), some (.int e), some (.int (nI i))] [] M := by
      refine eg_for ?_
      intro i x hi hx kk
      have st := st_X12_placeOf_2 (Qp := Qp) (M := M) e (nI i)
      simp (disch := omega) only [hN, n_c, n_le, n_in, n_s, Nat.not_le] at st
      refine st (fun z => Nat.lt_of_lt_of_le z hn) (fun z => ?_) (fun ⟨z1, z⟩ => ?_) (fun ⟨z1, z⟩ => kk () z1 ?_)
      · rw [← hx, show n - i = 0 by omega] at hq
        exact hq
      · rw [← hx, show n - i = n - (i + 1) + 1 by omega, fnd, if_pos z] at hq
        exact hq
      · rw [← hx, show n - i = n - (i + 1) + 1 by omega, fnd, if_neg z]
    exact st_X12_placeOf_0 _ (lp 0 () (Nat.zero_le _) rfl)
  · exact h.elim
theorem de_X12_placeOf : ∀ q ∈ k_X12_placeOf.1, decode cX12_placeOf q.1 = .ok q.2 := by decide +kernel
theorem me_X12_placeOf (g : gl_T) : MT g yX12_placeOf cX12_placeOf 3 (some .int) ⟨0, 0, 0, 0⟩ 0 0 s_X12_placeOf := by
  intro hl
  exact eg_met_of (k := k_X12_placeOf) (by decide) rfl ⟨Nat.le_refl _, Nat.le_refl _⟩ rfl sz_X12_placeOf de_X12_placeOf (fun meth hn => (fc (eg_FL_of wd_c12 (by decide) lf_RX12_127 (fun h => absurd h (by decide))) (fc (eg_FL_of wd_c12 (by decide) lf_RX12_388 (fun h => absurd h (by decide))) (fn)))) (fun A s H hE => (fn)) (fun p e s m args below meth c Q A ad0 N0 S0 hK hEx hA => (fn)) (fun p e s m args below meth c Qc XC A ad0 N0 P S0 hK hEx hA hlk hout hPX => (fn)) (fun argv M Qp h => T_X12_placeOf h)

/-- the model: how many of what counts lie up to a day -/
def m_mb (M : eg_M) (d : Int32) (i : Nat) : Nat → Int32
  | 0 => nI i
  | r + 1 => if d < eg_gi M 136 (eg_gi M 151 i).toNatClampNeg then nI i else m_mb M d (i + 1) r
def k_X12_manyBy : eg_C := ([(0, .iconst 0, 1), (1, .istore_n 2, 1), (2, .iload_n 2, 1), (3, .aload_n 0, 1), (4, .getfield 388, 3), (7, .if_icmp .ge 24, 3), (10, .aload_n 0, 1), (11, .getfield 77, 3), (14, .aload_n 0, 1), (15, .getfield 127, 3), (18, .iload_n 2, 1), (19, .iaload, 1), (20, .iaload, 1), (21, .iload_n 1, 1), (22, .if_icmp .gt 9, 3), (25, .iinc 2 1, 3), (28, .goto (-26), 3), (31, .iload_n 2, 1), (32, .ireturn, 1)], [(77, 12, 19, false), (127, 12, 48, false), (388, 12, 47, false)], [], [], [], 1, 0, 0)
theorem mk_X12_manyBy : ∀ q ∈ k_X12_manyBy.2.2.2.1, eg_mono q.2.2.2.2 := (fn)
set_option maxRecDepth 100000 in
theorem st_X12_manyBy_0 {Qp : eg_P} {M : eg_M} (d : Int32)
  (l0 : eg_T wd k_X12_manyBy Qp 2 0 0 [some (.ref 121), some (.int d), some (.int (nI 0))] [] M) :
  eg_T wd k_X12_manyBy Qp 0 0 0 [some (.ref 121), some (.int d), none] [] M := by
  refine eg_T_run mk_X12_manyBy (cut := [2]) 22 ?_
  show eg_T wd k_X12_manyBy Qp 2 0 0 [some (.ref 121), some (.int d), some (.int (nI 0))] [] M
  exact l0

set_option maxRecDepth 100000 in
theorem st_X12_manyBy_2 {Qp : eg_P} {M : eg_M} (d : Int32) (x2 : Int32)
  (g0 : (¬ ((eg_gi M 121 47) ≤ x2)) → (vp_in x2 200))
  (g1 : (¬ ((eg_gi M 121 47) ≤ x2)) → (vp_in (eg_gi M 151 x2.toNatClampNeg) 200))
  (l0 : ((eg_gi M 121 47) ≤ x2 ∨ d < (eg_gi M 136 (eg_gi M 151 x2.toNatClampNeg).toNatClampNeg)) → Qp (.inl (some (.int x2))) M)
  (l1 : (¬ (eg_gi M 121 47) ≤ x2 ∧ ¬ d < (eg_gi M 136 (eg_gi M 151 x2.toNatClampNeg).toNatClampNeg)) → eg_T wd k_X12_manyBy Qp 2 0 0 [some (.ref 121), some (.int d), some (.int (x2 + (nI 1)))] [] M) :
  eg_T wd k_X12_manyBy Qp 2 0 0 [some (.ref 121), some (.int d), some (.int x2)] [] M := by
  refine eg_T_run mk_X12_manyBy (cut := [2]) 22 ?_
  refine And.intro (fun (c1 : (eg_gi M 121 47) ≤ x2) => ?_) (fun (c1 : ¬ (eg_gi M 121 47) ≤ x2) => ?_)
  · skip
    refine And.intro (fun z => absurd z (by decide)) ?_
    show Qp (.inl (some (.int x2))) M
    exact l0 (Or.inl c1)
  · skip
    refine And.intro (show vp_in x2 200 from ?_) ?_
    · exact g0 c1
    refine And.intro (show vp_in (eg_gi M 151 x2.toNatClampNeg) 200 from ?_) ?_
    · exact g1 c1
    refine And.intro (fun (c2 : d < (eg_gi M 136 (eg_gi M 151 x2.toNatClampNeg).toNatClampNeg)) => ?_) (fun (c2 : ¬ d < (eg_gi M 136 (eg_gi M 151 x2.toNatClampNeg).toNatClampNeg)) => ?_)
    · skip
      refine And.intro (fun z => absurd z (by decide)) ?_
      show Qp (.inl (some (.int x2))) M
      exact l0 (Or.inr c2)
    · skip
      show eg_T wd k_X12_manyBy Qp 2 0 0 [some (.ref 121), some (.int d), some (.int (x2 + (nI 1)))] [] M
      exact l1 ⟨c1, c2⟩

def s_X12_manyBy : eg_S := fun argv M Qp => match argv with
  | [.ref 121, .int d] => (eg_cn (eg_gi M 121 47) 200 ∧ ∀ i, i < (eg_gi M 121 47).toNatClampNeg → vp_in (eg_gi M 151 i) 200) ∧ Qp (.inl (some (.int (m_mb M d 0 (eg_gi M 121 47).toNatClampNeg)))) M
  | _ => False
theorem mo_X12_manyBy : eg_mono s_X12_manyBy := by
  intro argv M Q Q' h
  unfold s_X12_manyBy
  split
  · exact fun z => ⟨z.1, h _ _ z.2⟩
  · exact id
theorem sz_X12_manyBy : ∀ argv M Qp, s_X12_manyBy argv M Qp → (eg_ls0 argv).length ≤ 3 := by
  intro argv M Qp h
  unfold s_X12_manyBy at h
  split at h
  · exact Nat.le_of_ble_eq_true rfl
  · exact h.elim
theorem sr_X12_manyBy : ∀ argv M Qp, s_X12_manyBy argv M Qp → ∃ p0 As, argv = .ref p0 :: As ∧ eg_isO wd M p0 12 = true := by
  intro argv M Qp h
  unfold s_X12_manyBy at h
  split at h
  · exact ⟨_, _, rfl, rfl⟩
  · exact h.elim
set_option maxRecDepth 100000 in
set_option maxHeartbeats 4000000 in
theorem T_X12_manyBy {argv : List Value} {M : eg_M} {Qp : eg_P} (h : s_X12_manyBy argv M Qp) : eg_T wd k_X12_manyBy Qp 0 0 0 (eg_lsN 3 argv) [] M := by
  unfold s_X12_manyBy at h
  split at h
  · rename_i d
    obtain ⟨hp, hq⟩ := h
    obtain ⟨⟨n, hn, hN⟩, ho⟩ := hp
    rw [hN, n_c (by omega)] at hq ho
    have lp : ∀ i (_ : Unit), i ≤ n → m_mb M d i (n - i) = m_mb M d 0 n → eg_T wd k_X12_manyBy Qp 2 0 0 [some (.ref 121), some (.int d), some (.int (nI i))] [] M := by
      refine eg_for ?_
      intro i x hi hx kk
      have st := st_X12_manyBy_2 (Qp := Qp) (M := M) d (nI i)
      simp (disch := omega) only [hN, n_c, n_le, n_in, n_s, Nat.not_le] at st
      refine st (fun z => Nat.lt_of_lt_of_le z hn) (fun z => ho i z) (fun z => ?_) (fun ⟨z1, z⟩ => kk () z1 ?_)
      · rw [← hx] at hq
        by_cases z1 : n ≤ i
        · rw [show n - i = 0 by omega] at hq
          exact hq
        · rw [show n - i = n - (i + 1) + 1 by omega, m_mb, if_pos (by grind)] at hq
          exact hq
      · rw [← hx, show n - i = n - (i + 1) + 1 by omega, m_mb, if_neg z]
    exact st_X12_manyBy_0 _ (lp 0 () (Nat.zero_le _) rfl)
  · exact h.elim
theorem de_X12_manyBy : ∀ q ∈ k_X12_manyBy.1, decode cX12_manyBy q.1 = .ok q.2 := by decide +kernel
theorem me_X12_manyBy (g : gl_T) : MT g yX12_manyBy cX12_manyBy 3 (some .int) ⟨0, 0, 0, 0⟩ 0 0 s_X12_manyBy := by
  intro hl
  exact eg_met_of (k := k_X12_manyBy) (by decide) rfl ⟨Nat.le_refl _, Nat.le_refl _⟩ rfl sz_X12_manyBy de_X12_manyBy (fun meth hn => (fc (eg_FL_of wd_c12 (by decide) lf_RX12_77 (fun h => absurd h (by decide))) (fc (eg_FL_of wd_c12 (by decide) lf_RX12_127 (fun h => absurd h (by decide))) (fc (eg_FL_of wd_c12 (by decide) lf_RX12_388 (fun h => absurd h (by decide))) (fn))))) (fun A s H hE => (fn)) (fun p e s m args below meth c Q A ad0 N0 S0 hK hEx hA => (fn)) (fun p e s m args below meth c Qc XC A ad0 N0 P S0 hK hEx hA hlk hout hPX => (fn)) (fun argv M Qp h => T_X12_manyBy h)

/-- 5 by itself, h times -/
def m_un : Nat → Int32
  | 0 => nI 1
  | h + 1 => m_un h * nI 5
def k_X12_unit : eg_C := ([(0, .iconst 1, 1), (1, .istore_n 1, 1), (2, .iconst 0, 1), (3, .istore_n 2, 1), (4, .iload_n 2, 1), (5, .iload_n 0, 1), (6, .if_icmp .ge 13, 3), (9, .iload_n 1, 1), (10, .iconst 5, 1), (11, .imul, 1), (12, .istore_n 1, 1), (13, .iinc 2 1, 3), (16, .goto (-12), 3), (19, .iload_n 1, 1), (20, .ireturn, 1)], [], [], [], [], 1, 0, 0)
theorem mk_X12_unit : ∀ q ∈ k_X12_unit.2.2.2.1, eg_mono q.2.2.2.2 := (fn)
set_option maxRecDepth 100000 in
theorem st_X12_unit_0 {Qp : eg_P} {M : eg_M} (h : Int32)
  (l0 : eg_T wd k_X12_unit Qp 4 0 0 [some (.int h), some (.int (nI 1)), some (.int (nI 0))] [] M) :
  eg_T wd k_X12_unit Qp 0 0 0 [some (.int h), none, none] [] M := by
  refine eg_T_run mk_X12_unit (cut := [4]) 18 ?_
  show eg_T wd k_X12_unit Qp 4 0 0 [some (.int h), some (.int (nI 1)), some (.int (nI 0))] [] M
  exact l0

set_option maxRecDepth 100000 in
theorem st_X12_unit_4 {Qp : eg_P} {M : eg_M} (h : Int32) (x1 : Int32) (x2 : Int32)
  (l0 : (h ≤ x2) → Qp (.inl (some (.int x1))) M)
  (l1 : (¬ h ≤ x2) → eg_T wd k_X12_unit Qp 4 0 0 [some (.int h), some (.int (x1 * (nI 5))), some (.int (x2 + (nI 1)))] [] M) :
  eg_T wd k_X12_unit Qp 4 0 0 [some (.int h), some (.int x1), some (.int x2)] [] M := by
  refine eg_T_run mk_X12_unit (cut := [4]) 18 ?_
  refine And.intro (fun (c1 : h ≤ x2) => ?_) (fun (c1 : ¬ h ≤ x2) => ?_)
  · skip
    refine And.intro (fun z => absurd z (by decide)) ?_
    show Qp (.inl (some (.int x1))) M
    exact l0 c1
  · skip
    show eg_T wd k_X12_unit Qp 4 0 0 [some (.int h), some (.int (x1 * (nI 5))), some (.int (x2 + (nI 1)))] [] M
    exact l1 c1

def s_X12_unit : eg_S := fun argv M Qp => match argv with
  | [.int h] => (eg_cn h 16) ∧ Qp (.inl (some (.int (m_un h.toNatClampNeg)))) M
  | _ => False
theorem mo_X12_unit : eg_mono s_X12_unit := by
  intro argv M Q Q' h
  unfold s_X12_unit
  split
  · exact fun z => ⟨z.1, h _ _ z.2⟩
  · exact id
theorem sz_X12_unit : ∀ argv M Qp, s_X12_unit argv M Qp → (eg_ls0 argv).length ≤ 3 := by
  intro argv M Qp h
  unfold s_X12_unit at h
  split at h
  · exact Nat.le_of_ble_eq_true rfl
  · exact h.elim
set_option maxRecDepth 100000 in
set_option maxHeartbeats 4000000 in
theorem T_X12_unit {argv : List Value} {M : eg_M} {Qp : eg_P} (h : s_X12_unit argv M Qp) : eg_T wd k_X12_unit Qp 0 0 0 (eg_lsN 3 argv) [] M := by
  unfold s_X12_unit at h
  split at h
  · rename_i h
    obtain ⟨hp, hq⟩ := h
    obtain ⟨n, hn, rfl⟩ := hp
    rw [n_c (by omega)] at hq
    have lp : ∀ i (x : Int32), i ≤ n → x = m_un i → eg_T wd k_X12_unit Qp 4 0 0 [some (.int (nI n)), some (.int x), some (.int (nI i))] [] M := by
      refine eg_for ?_
      intro i x hi hx kk
      have st := st_X12_unit_4 (Qp := Qp) (M := M) (nI n) x (nI i)
      simp (disch := omega) only [n_c, n_le, n_in, n_s, Nat.not_le] at st
      refine st (fun z => ?_) (fun z1 => kk _ z1 ?_)
      · rw [show n = i by omega, ← hx] at hq
        exact hq
      · rw [m_un, hx]
    exact st_X12_unit_0 _ (lp 0 _ (Nat.zero_le _) rfl)
  · exact h.elim
theorem de_X12_unit : ∀ q ∈ k_X12_unit.1, decode cX12_unit q.1 = .ok q.2 := by decide +kernel
theorem me_X12_unit (g : gl_T) : MT g yX12_unit cX12_unit 3 (some .int) ⟨0, 0, 0, 0⟩ 0 0 s_X12_unit := by
  intro hl
  exact eg_met_of (k := k_X12_unit) (by decide) rfl ⟨Nat.le_refl _, Nat.le_refl _⟩ rfl sz_X12_unit de_X12_unit (fun meth hn => (fn)) (fun A s H hE => (fn)) (fun p e s m args below meth c Q A ad0 N0 S0 hK hEx hA => (fn)) (fun p e s m args below meth c Qc XC A ad0 N0 P S0 hK hEx hA hlk hout hPX => (fn)) (fun argv M Qp h => T_X12_unit h)

/-- the tongues that two share, three a tongue, behind n -/
def m_t3 (b n : Int32) : Nat → Int32
  | 0 => n
  | t + 1 => m_t3 b n t + nI 3 * ((b >>> (nI t &&& 31)) &&& nI 1)
/-- the model: how a guest likes a home -/
def m_li (M : eg_M) (g h : Int32) : Int32 :=
  if eg_gi M 158 g.toNatClampNeg &&& eg_gi M 156 h.toNatClampNeg = 0 ∨ (¬ eg_gi M 162 h.toNatClampNeg = 0 ∧ eg_gi M 163 g.toNatClampNeg = 0) then -nI 1 else
  m_t3 (eg_gi M 158 g.toNatClampNeg &&& eg_gi M 156 h.toNatClampNeg) (if nI 0 < (nI 10 - (if 0 ≤ (eg_gi M 159 g.toNatClampNeg - eg_gi M 157 h.toNatClampNeg) then (eg_gi M 159 g.toNatClampNeg - eg_gi M 157 h.toNatClampNeg) else 0 - (eg_gi M 159 g.toNatClampNeg - eg_gi M 157 h.toNatClampNeg))) then (nI 10 - (if 0 ≤ (eg_gi M 159 g.toNatClampNeg - eg_gi M 157 h.toNatClampNeg) then (eg_gi M 159 g.toNatClampNeg - eg_gi M 157 h.toNatClampNeg) else 0 - (eg_gi M 159 g.toNatClampNeg - eg_gi M 157 h.toNatClampNeg))) else nI 0) 8
def k_X12_likingOf : eg_C := ([(0, .aload_n 0, 1), (1, .getfield 151, 3), (4, .iload_n 1, 1), (5, .iaload, 1), (6, .aload_n 0, 1), (7, .getfield 145, 3), (10, .iload_n 2, 1), (11, .iaload, 1), (12, .iand, 1), (13, .istore_n 3, 1), (14, .iload_n 3, 1), (15, .ifCond .eq 21, 3), (18, .aload_n 0, 1), (19, .getfield 164, 3), (22, .iload_n 2, 1), (23, .baload, 1), (24, .ifCond .eq 14, 3), (27, .aload_n 0, 1), (28, .getfield 168, 3), (31, .iload_n 1, 1), (32, .baload, 1), (33, .ifCond .ne 5, 3), (36, .iconst (-1), 1), (37, .ireturn, 1), (38, .iconst 0, 1), (39, .bipush 10, 2), (41, .aload_n 0, 1), (42, .getfield 154, 3), (45, .iload_n 1, 1), (46, .iaload, 1), (47, .aload_n 0, 1), (48, .getfield 148, 3), (51, .iload_n 2, 1), (52, .iaload, 1), (53, .isub, 1), (54, .invokestatic 394, 3), (57, .isub, 1), (58, .invokestatic 462, 3), (61, .istore 4, 2), (63, .iconst 0, 1), (64, .istore 5, 2), (66, .iload 5, 2), (68, .bipush 8, 2), (70, .if_icmp .ge 22, 3), (73, .iload 4, 2), (75, .iconst 3, 1), (76, .iload_n 3, 1), (77, .iload 5, 2), (79, .ishr, 1), (80, .iconst 1, 1), (81, .iand, 1), (82, .imul, 1), (83, .iadd, 1), (84, .istore 4, 2), (86, .iinc 5 1, 3), (89, .goto (-23), 3), (92, .iload 4, 2), (94, .ireturn, 1)], [(145, 12, 57, false), (148, 12, 58, false), (151, 12, 59, false), (154, 12, 60, false), (164, 12, 63, false), (168, 12, 64, false)], [], [(394 + 100000, 1, 0, 0, s_J9_abs_0f7a4), (462 + 100000, 2, 0, 0, s_J9_max_7cf53)], [], 1, 0, 0)
theorem mk_X12_likingOf : ∀ q ∈ k_X12_likingOf.2.2.2.1, eg_mono q.2.2.2.2 := (fc (mo_J9_abs_0f7a4) (fc (mo_J9_max_7cf53) (fn)))
set_option maxRecDepth 100000 in
theorem st_X12_likingOf_0 {Qp : eg_P} {M : eg_M} (g : Int32) (h : Int32)
  (g0 : (vp_in g 8))
  (g1 : (vp_in h 6))
  (l0 : (((eg_gi M 158 g.toNatClampNeg) &&& (eg_gi M 156 h.toNatClampNeg)) = 0 ∨ (¬ (eg_gi M 162 h.toNatClampNeg) = 0 ∧ (eg_gi M 163 g.toNatClampNeg) = 0)) → Qp (.inl (some (.int (-nI 1)))) M)
  (l1 : (¬ ((eg_gi M 158 g.toNatClampNeg) &&& (eg_gi M 156 h.toNatClampNeg)) = 0 ∧ ((eg_gi M 162 h.toNatClampNeg) = 0 ∨ ¬ (eg_gi M 163 g.toNatClampNeg) = 0)) → eg_T wd k_X12_likingOf Qp 66 0 0 [some (.ref 121), some (.int g), some (.int h), some (.int ((eg_gi M 158 g.toNatClampNeg) &&& (eg_gi M 156 h.toNatClampNeg))), some (.int (if (nI 0) < ((nI 10) - (if 0 ≤ ((eg_gi M 159 g.toNatClampNeg) - (eg_gi M 157 h.toNatClampNeg)) then ((eg_gi M 159 g.toNatClampNeg) - (eg_gi M 157 h.toNatClampNeg)) else 0 - ((eg_gi M 159 g.toNatClampNeg) - (eg_gi M 157 h.toNatClampNeg)))) then ((nI 10) - (if 0 ≤ ((eg_gi M 159 g.toNatClampNeg) - (eg_gi M 157 h.toNatClampNeg)) then ((eg_gi M 159 g.toNatClampNeg) - (eg_gi M 157 h.toNatClampNeg)) else 0 - ((eg_gi M 159 g.toNatClampNeg) - (eg_gi M 157 h.toNatClampNeg)))) else (nI 0))), some (.int (nI 0))] [] M) :
  eg_T wd k_X12_likingOf Qp 0 0 0 [some (.ref 121), some (.int g), some (.int h), none, none, none] [] M := by
  refine eg_T_run mk_X12_likingOf (cut := [66]) 61 ?_
  refine And.intro (show vp_in g 8 from ?_) ?_
  · exact g0
  refine And.intro (show vp_in h 6 from ?_) ?_
  · exact g1
  refine And.intro (fun (c1 : ((eg_gi M 158 g.toNatClampNeg) &&& (eg_gi M 156 h.toNatClampNeg)) = 0) => ?_) (fun (c1 : ¬ ((eg_gi M 158 g.toNatClampNeg) &&& (eg_gi M 156 h.toNatClampNeg)) = 0) => ?_)
  · skip
    refine And.intro (fun z => absurd z (by decide)) ?_
    show Qp (.inl (some (.int (-nI 1)))) M
    exact l0 (Or.inl c1)
  · skip
    refine And.intro (show vp_in h 6 from ?_) ?_
    · exact g1
    refine And.intro (fun (c2 : (eg_gi M 162 h.toNatClampNeg) = 0) => ?_) (fun (c2 : ¬ (eg_gi M 162 h.toNatClampNeg) = 0) => ?_)
    · skip
      refine And.intro (show vp_in g 8 from ?_) ?_
      · exact g0
      refine And.intro (show vp_in h 6 from ?_) ?_
      · exact g1
      show eg_T wd k_X12_likingOf Qp 66 0 0 [some (.ref 121), some (.int g), some (.int h), some (.int ((eg_gi M 158 g.toNatClampNeg) &&& (eg_gi M 156 h.toNatClampNeg))), some (.int (if (nI 0) < ((nI 10) - (if 0 ≤ ((eg_gi M 159 g.toNatClampNeg) - (eg_gi M 157 h.toNatClampNeg)) then ((eg_gi M 159 g.toNatClampNeg) - (eg_gi M 157 h.toNatClampNeg)) else 0 - ((eg_gi M 159 g.toNatClampNeg) - (eg_gi M 157 h.toNatClampNeg)))) then ((nI 10) - (if 0 ≤ ((eg_gi M 159 g.toNatClampNeg) - (eg_gi M 157 h.toNatClampNeg)) then ((eg_gi M 159 g.toNatClampNeg) - (eg_gi M 157 h.toNatClampNeg)) else 0 - ((eg_gi M 159 g.toNatClampNeg) - (eg_gi M 157 h.toNatClampNeg)))) else (nI 0))), some (.int (nI 0))] [] M
      exact l1 ⟨c1, (Or.inl c2)⟩
    · skip
      refine And.intro (show vp_in g 8 from ?_) ?_
      · exact g0
      refine And.intro (fun (c3 : (eg_gi M 163 g.toNatClampNeg) = 0) => ?_) (fun (c3 : ¬ (eg_gi M 163 g.toNatClampNeg) = 0) => ?_)
      · skip
        refine And.intro (fun z => absurd z (by decide)) ?_
        show Qp (.inl (some (.int (-nI 1)))) M
        exact l0 (Or.inr ⟨c2, c3⟩)
      · skip
        refine And.intro (show vp_in g 8 from ?_) ?_
        · exact g0
        refine And.intro (show vp_in h 6 from ?_) ?_
        · exact g1
        show eg_T wd k_X12_likingOf Qp 66 0 0 [some (.ref 121), some (.int g), some (.int h), some (.int ((eg_gi M 158 g.toNatClampNeg) &&& (eg_gi M 156 h.toNatClampNeg))), some (.int (if (nI 0) < ((nI 10) - (if 0 ≤ ((eg_gi M 159 g.toNatClampNeg) - (eg_gi M 157 h.toNatClampNeg)) then ((eg_gi M 159 g.toNatClampNeg) - (eg_gi M 157 h.toNatClampNeg)) else 0 - ((eg_gi M 159 g.toNatClampNeg) - (eg_gi M 157 h.toNatClampNeg)))) then ((nI 10) - (if 0 ≤ ((eg_gi M 159 g.toNatClampNeg) - (eg_gi M 157 h.toNatClampNeg)) then ((eg_gi M 159 g.toNatClampNeg) - (eg_gi M 157 h.toNatClampNeg)) else 0 - ((eg_gi M 159 g.toNatClampNeg) - (eg_gi M 157 h.toNatClampNeg)))) else (nI 0))), some (.int (nI 0))] [] M
        exact l1 ⟨c1, (Or.inr c3)⟩

set_option maxRecDepth 100000 in
theorem st_X12_likingOf_66 {Qp : eg_P} {M : eg_M} (o0 : Option Value) (o1 : Option Value) (o2 : Option Value) (x3 : Int32) (x4 : Int32) (x5 : Int32)
  (l0 : ((nI 8) ≤ x5) → Qp (.inl (some (.int x4))) M)
  (l1 : (¬ (nI 8) ≤ x5) → eg_T wd k_X12_likingOf Qp 66 0 0 [o0, o1, o2, some (.int x3), some (.int (x4 + ((nI 3) * ((x3 >>> (x5 &&& 31)) &&& (nI 1))))), some (.int (x5 + (nI 1)))] [] M) :
  eg_T wd k_X12_likingOf Qp 66 0 0 [o0, o1, o2, some (.int x3), some (.int x4), some (.int x5)] [] M := by
  refine eg_T_run mk_X12_likingOf (cut := [66]) 61 ?_
  refine And.intro (fun (c1 : (nI 8) ≤ x5) => ?_) (fun (c1 : ¬ (nI 8) ≤ x5) => ?_)
  · skip
    refine And.intro (fun z => absurd z (by decide)) ?_
    show Qp (.inl (some (.int x4))) M
    exact l0 c1
  · skip
    show eg_T wd k_X12_likingOf Qp 66 0 0 [o0, o1, o2, some (.int x3), some (.int (x4 + ((nI 3) * ((x3 >>> (x5 &&& 31)) &&& (nI 1))))), some (.int (x5 + (nI 1)))] [] M
    exact l1 c1

def s_X12_likingOf : eg_S := fun argv M Qp => match argv with
  | [.ref 121, .int g, .int h] => (vp_in g 8 ∧ vp_in h 6) ∧ Qp (.inl (some (.int (m_li M g h)))) M
  | _ => False
theorem mo_X12_likingOf : eg_mono s_X12_likingOf := by
  intro argv M Q Q' h
  unfold s_X12_likingOf
  split
  · exact fun z => ⟨z.1, h _ _ z.2⟩
  · exact id
theorem sz_X12_likingOf : ∀ argv M Qp, s_X12_likingOf argv M Qp → (eg_ls0 argv).length ≤ 6 := by
  intro argv M Qp h
  unfold s_X12_likingOf at h
  split at h
  · exact Nat.le_of_ble_eq_true rfl
  · exact h.elim
theorem sr_X12_likingOf : ∀ argv M Qp, s_X12_likingOf argv M Qp → ∃ p0 As, argv = .ref p0 :: As ∧ eg_isO wd M p0 12 = true := by
  intro argv M Qp h
  unfold s_X12_likingOf at h
  split at h
  · exact ⟨_, _, rfl, rfl⟩
  · exact h.elim
set_option maxRecDepth 100000 in
set_option maxHeartbeats 4000000 in
theorem T_X12_likingOf {argv : List Value} {M : eg_M} {Qp : eg_P} (h : s_X12_likingOf argv M Qp) : eg_T wd k_X12_likingOf Qp 0 0 0 (eg_lsN 6 argv) [] M := by
  unfold s_X12_likingOf at h
  split at h
  · rename_i g h
    obtain ⟨hp, hq⟩ := h
    refine st_X12_likingOf_0 _ _ hp.1 hp.2 (fun z => ?_) (fun z => ?_)
    · rw [m_li, if_pos z] at hq
      exact hq
    rw [m_li, if_neg (by grind)] at hq
    generalize (if nI 0 < (nI 10 - (if 0 ≤ (eg_gi M 159 g.toNatClampNeg - eg_gi M 157 h.toNatClampNeg) then (eg_gi M 159 g.toNatClampNeg - eg_gi M 157 h.toNatClampNeg) else 0 - (eg_gi M 159 g.toNatClampNeg - eg_gi M 157 h.toNatClampNeg))) then (nI 10 - (if 0 ≤ (eg_gi M 159 g.toNatClampNeg - eg_gi M 157 h.toNatClampNeg) then (eg_gi M 159 g.toNatClampNeg - eg_gi M 157 h.toNatClampNeg) else 0 - (eg_gi M 159 g.toNatClampNeg - eg_gi M 157 h.toNatClampNeg))) else nI 0) = q at *
    generalize eg_gi M 158 g.toNatClampNeg &&& eg_gi M 156 h.toNatClampNeg = b at *
    have lp : ∀ i (x : Int32), i ≤ 8 → x = m_t3 b q i → eg_T wd k_X12_likingOf Qp 66 0 0 [some (.ref 121), some (.int g), some (.int h), some (.int b), some (.int x), some (.int (nI i))] [] M := by
      refine eg_for ?_
      intro i x hi hx kk
      have st := st_X12_likingOf_66 (Qp := Qp) (M := M) (some (.ref 121)) (some (.int g)) (some (.int h)) b x (nI i)
      simp (disch := omega) only [n_c, n_le, n_in, n_s, Nat.not_le] at st
      refine st (fun z => ?_) (fun z1 => kk _ z1 ?_)
      · rw [show 8 = i by omega, ← hx] at hq
        exact hq
      · rw [m_t3, hx]
    exact lp 0 _ (Nat.zero_le _) rfl
  · exact h.elim
theorem de_X12_likingOf : ∀ q ∈ k_X12_likingOf.1, decode cX12_likingOf q.1 = .ok q.2 := by decide +kernel
theorem me_X12_likingOf (g : gl_T) : MT g yX12_likingOf cX12_likingOf 6 (some .int) ⟨1, 0, 0, 24⟩ 0 0 s_X12_likingOf := by
  intro hl
  exact eg_met_of (k := k_X12_likingOf) (by decide) rfl ⟨Nat.le_refl _, Nat.le_refl _⟩ rfl sz_X12_likingOf de_X12_likingOf (fun meth hn => (fc (eg_FL_of wd_c12 (by decide) lf_RX12_145 (fun h => absurd h (by decide))) (fc (eg_FL_of wd_c12 (by decide) lf_RX12_148 (fun h => absurd h (by decide))) (fc (eg_FL_of wd_c12 (by decide) lf_RX12_151 (fun h => absurd h (by decide))) (fc (eg_FL_of wd_c12 (by decide) lf_RX12_154 (fun h => absurd h (by decide))) (fc (eg_FL_of wd_c12 (by decide) lf_RX12_164 (fun h => absurd h (by decide))) (fc (eg_FL_of wd_c12 (by decide) lf_RX12_168 (fun h => absurd h (by decide))) (fn)))))))) (fun A s H hE => (fn)) (fun p e s m args below meth c Q A ad0 N0 S0 hK hEx hA => (fc (mt_J9_abs_0f7a4 S0 lm_RX12_394 (by decide) (by decide) (by decide)) (fc (mt_J9_max_7cf53 S0 lm_RX12_462 (by decide) (by decide) (by decide)) (fn)))) (fun p e s m args below meth c Qc XC A ad0 N0 P S0 hK hEx hA hlk hout hPX => (fn)) (fun argv M Qp h => T_X12_likingOf h)

/-- the model: how dear w is to t -/
def m_de (M : eg_M) (t w : Int32) : Int32 := fnd (fun i => eg_gi M 171 (nI 6 * t + nI i).toNatClampNeg) w 0 (eg_gi M 170 t.toNatClampNeg).toNatClampNeg
def k_X12_dear : eg_C := ([(0, .iconst 0, 1), (1, .istore_n 3, 1), (2, .iload_n 3, 1), (3, .aload_n 0, 1), (4, .getfield 192, 3), (7, .iload_n 1, 1), (8, .iaload, 1), (9, .if_icmp .ge 26, 3), (12, .aload_n 0, 1), (13, .getfield 195, 3), (16, .bipush 6, 2), (18, .iload_n 1, 1), (19, .imul, 1), (20, .iload_n 3, 1), (21, .iadd, 1), (22, .iaload, 1), (23, .iload_n 2, 1), (24, .if_icmp .ne 5, 3), (27, .iload_n 3, 1), (28, .ireturn, 1), (29, .iinc 3 1, 3), (32, .goto (-30), 3), (35, .iconst (-1), 1), (36, .ireturn, 1)], [(192, 12, 74, false), (195, 12, 75, false)], [], [], [], 1, 0, 0)
theorem mk_X12_dear : ∀ q ∈ k_X12_dear.2.2.2.1, eg_mono q.2.2.2.2 := (fn)
set_option maxRecDepth 100000 in
theorem st_X12_dear_0 {Qp : eg_P} {M : eg_M} (t : Int32) (w : Int32)
  (l0 : eg_T wd k_X12_dear Qp 2 0 0 [some (.ref 121), some (.int t), some (.int w), some (.int (nI 0))] [] M) :
  eg_T wd k_X12_dear Qp 0 0 0 [some (.ref 121), some (.int t), some (.int w), none] [] M := by
  refine eg_T_run mk_X12_dear (cut := [2]) 27 ?_
  show eg_T wd k_X12_dear Qp 2 0 0 [some (.ref 121), some (.int t), some (.int w), some (.int (nI 0))] [] M
  exact l0

set_option maxRecDepth 100000 in
theorem st_X12_dear_2 {Qp : eg_P} {M : eg_M} (t : Int32) (w : Int32) (x3 : Int32)
  (g0 : (vp_in t 16))
  (g1 : (¬ ((eg_gi M 170 t.toNatClampNeg) ≤ x3)) → (vp_in (((nI 6) * t) + x3) 96))
  (l0 : ((eg_gi M 170 t.toNatClampNeg) ≤ x3) → Qp (.inl (some (.int (-nI 1)))) M)
  (l1 : (¬ (eg_gi M 170 t.toNatClampNeg) ≤ x3 ∧ (eg_gi M 171 (((nI 6) * t) + x3).toNatClampNeg) = w) → Qp (.inl (some (.int x3))) M)
  (l2 : (¬ (eg_gi M 170 t.toNatClampNeg) ≤ x3 ∧ ¬ (eg_gi M 171 (((nI 6) * t) + x3).toNatClampNeg) = w) → eg_T wd k_X12_dear Qp 2 0 0 [some (.ref 121), some (.int t), some (.int w), some (.int (x3 + (nI 1)))] [] M) :
  eg_T wd k_X12_dear Qp 2 0 0 [some (.ref 121), some (.int t), some (.int w), some (.int x3)] [] M := by
  refine eg_T_run mk_X12_dear (cut := [2]) 27 ?_
  refine And.intro (show vp_in t 16 from ?_) ?_
  · exact g0
  refine And.intro (fun (c1 : (eg_gi M 170 t.toNatClampNeg) ≤ x3) => ?_) (fun (c1 : ¬ (eg_gi M 170 t.toNatClampNeg) ≤ x3) => ?_)
  · skip
    refine And.intro (fun z => absurd z (by decide)) ?_
    show Qp (.inl (some (.int (-nI 1)))) M
    exact l0 c1
  · skip
    refine And.intro (show vp_in (((nI 6) * t) + x3) 96 from ?_) ?_
    · exact g1 c1
    refine And.intro (fun (c2 : (eg_gi M 171 (((nI 6) * t) + x3).toNatClampNeg) = w) => ?_) (fun (c2 : ¬ (eg_gi M 171 (((nI 6) * t) + x3).toNatClampNeg) = w) => ?_)
    · skip
      refine And.intro (fun z => absurd z (by decide)) ?_
      show Qp (.inl (some (.int x3))) M
      exact l1 ⟨c1, c2⟩
    · skip
      show eg_T wd k_X12_dear Qp 2 0 0 [some (.ref 121), some (.int t), some (.int w), some (.int (x3 + (nI 1)))] [] M
      exact l2 ⟨c1, c2⟩

def s_X12_dear : eg_S := fun argv M Qp => match argv with
  | [.ref 121, .int t, .int w] => (vp_in t 16 ∧ eg_cn (eg_gi M 170 t.toNatClampNeg) 6) ∧ Qp (.inl (some (.int (m_de M t w)))) M
  | _ => False
theorem mo_X12_dear : eg_mono s_X12_dear := by
  intro argv M Q Q' h
  unfold s_X12_dear
  split
  · exact fun z => ⟨z.1, h _ _ z.2⟩
  · exact id
theorem sz_X12_dear : ∀ argv M Qp, s_X12_dear argv M Qp → (eg_ls0 argv).length ≤ 4 := by
  intro argv M Qp h
  unfold s_X12_dear at h
  split at h
  · exact Nat.le_of_ble_eq_true rfl
  · exact h.elim
theorem sr_X12_dear : ∀ argv M Qp, s_X12_dear argv M Qp → ∃ p0 As, argv = .ref p0 :: As ∧ eg_isO wd M p0 12 = true := by
  intro argv M Qp h
  unfold s_X12_dear at h
  split at h
  · exact ⟨_, _, rfl, rfl⟩
  · exact h.elim
set_option maxRecDepth 100000 in
set_option maxHeartbeats 4000000 in
theorem T_X12_dear {argv : List Value} {M : eg_M} {Qp : eg_P} (h : s_X12_dear argv M Qp) : eg_T wd k_X12_dear Qp 0 0 0 (eg_lsN 4 argv) [] M := by
  unfold s_X12_dear at h
  split at h
  · rename_i t w
    obtain ⟨hp, hq⟩ := h
    obtain ⟨ht, n, hn, hN⟩ := hp
    rw [m_de, hN, n_c (by omega)] at hq
    have lp : ∀ i (_ : Unit), i ≤ n → fnd (fun i => eg_gi M 171 (nI 6 * t + nI i).toNatClampNeg) w i (n - i) = fnd (fun i => eg_gi M 171 (nI 6 * t + nI i).toNatClampNeg) w 0 n → eg_T wd k_X12_dear Qp 2 0 0 [some (.ref 121), some (.int t), some (.int w), some (.int (nI i))] [] M := by
      refine eg_for ?_
      intro i x hi hx kk
      have st := st_X12_dear_2 (Qp := Qp) (M := M) t w (nI i) ht
      simp (disch := omega) only [hN, n_le, n_s, Nat.not_le] at st
      refine st (fun z => ?_) (fun z => ?_) (fun ⟨z1, z⟩ => ?_) (fun ⟨z1, z⟩ => kk () z1 ?_)
      · obtain ⟨j, hj, rfl⟩ := vp_in_of ht (by decide)
        rw [show nI 6 * nI j + nI i = nI (6 * j + i) by rw [n_m, n_s]]
        exact vp_in_nI (by omega) (by decide)
      · rw [← hx, show n - i = 0 by omega] at hq
        exact hq
      · rw [← hx, show n - i = n - (i + 1) + 1 by omega, fnd, if_pos z] at hq
        exact hq
      · rw [← hx, show n - i = n - (i + 1) + 1 by omega, fnd, if_neg z]
    exact st_X12_dear_0 _ _ (lp 0 () (Nat.zero_le _) rfl)
    
  · exact h.elim
theorem de_X12_dear : ∀ q ∈ k_X12_dear.1, decode cX12_dear q.1 = .ok q.2 := by decide +kernel
theorem me_X12_dear (g : gl_T) : MT g yX12_dear cX12_dear 4 (some .int) ⟨0, 0, 0, 0⟩ 0 0 s_X12_dear := by
  intro hl
  exact eg_met_of (k := k_X12_dear) (by decide) rfl ⟨Nat.le_refl _, Nat.le_refl _⟩ rfl sz_X12_dear de_X12_dear (fun meth hn => (fc (eg_FL_of wd_c12 (by decide) lf_RX12_192 (fun h => absurd h (by decide))) (fc (eg_FL_of wd_c12 (by decide) lf_RX12_195 (fun h => absurd h (by decide))) (fn)))) (fun A s H hE => (fn)) (fun p e s m args below meth c Q A ad0 N0 S0 hK hEx hA => (fn)) (fun p e s m args below meth c Qc XC A ad0 N0 P S0 hK hEx hA hlk hout hPX => (fn)) (fun argv M Qp h => T_X12_dear h)

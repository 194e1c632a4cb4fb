/-- a counted loop -/
theorem eg_for {σ : Type} {n : Nat} {Inv T : Nat → σ → Prop} (stp : ∀ i x, i ≤ n → Inv i x → (∀ y, i < n → Inv (i + 1) y → T (i + 1) y) → T i x) : ∀ i x, i ≤ n → Inv i x → T i x := by
  have h : ∀ r i x, n - i ≤ r → i ≤ n → Inv i x → T i x := by
    intro r
    induction r with
    | zero => exact fun i x hr hi hI => stp i x hi hI (fun y hl _ => absurd hl (by omega))
    | succ r ih => exact fun i x hr hi hI => stp i x hi hI (fun y hl hy => ih (i + 1) y (by omega) hl hy)
  exact fun i x hi hI => h (n - i) i x (Nat.le_refl _) hi hI
/-- a loop whose measure falls -/
theorem eg_wh {σ : Type} {Inv T : σ → Prop} (μ : σ → Nat) (stp : ∀ x, Inv x → (∀ y, Inv y → μ y < μ x → T y) → T x) : ∀ x, Inv x → T x := by
  have h : ∀ n x, μ x < n → Inv x → T x := by
    intro n
    induction n with
    | zero => exact fun x hn => absurd hn (Nat.not_lt_zero _)
    | succ n ih => exact fun x hn hI => stp x hI (fun y hy hl => ih y (by omega) hy)
  exact fun x hI => h (μ x + 1) x (Nat.lt_succ_self _) hI
/-- a count that is small enough -/
def eg_cn (x : Int32) (m : Nat) : Prop := ∃ n, n ≤ m ∧ x = nI n
theorem eg_ii {i m : Nat} (h : i < m) (hm : m < 2 ^ 31) : vp_in (nI i) m := vp_in_nI h hm
theorem b2i_d0 {p : Prop} {_ : Decidable p} : b2i (decide p) = 0 ↔ ¬ p := by rw [b2i_0, decide_eq_false_iff_not]
theorem b2i_dn {p : Prop} {_ : Decidable p} : ¬ b2i (decide p) = 0 ↔ ¬ ¬ p := by rw [b2i_d0]
theorem b2i_ff {b : Bool} (h : ¬ b2i b = 0) : ¬ b = false := fun z => h (b2i_0.mpr z)
theorem n_c {i : Nat} (h : i < 2 ^ 31) : (nI i).toNatClampNeg = i := nI_clamp h
theorem n_le {i j : Nat} (h : i < 2 ^ 31) (h2 : j < 2 ^ 31) : nI i ≤ nI j ↔ i ≤ j := nI_leI h h2
theorem n_lt {i j : Nat} (h : i < 2 ^ 31) (h2 : j < 2 ^ 31) : nI i < nI j ↔ i < j := by
  rw [← Int32.not_le, n_le h2 h, Nat.not_le]
theorem n_eq {i j : Nat} (h : i < 2 ^ 31) (h2 : j < 2 ^ 31) : nI i = nI j ↔ i = j :=
  ⟨fun z => by have := congrArg Int32.toNatClampNeg z; rwa [n_c h, n_c h2] at this, fun z => z ▸ rfl⟩
theorem n_in {i m : Nat} (h : i < 2 ^ 31) (hm : m < 2 ^ 31) : vp_in (nI i) m ↔ i < m :=
  ⟨fun z => by have := (vp_in_iff.mp z).2; unfold vp_in at z; rw [n_c h] at z; omega, fun z => vp_in_nI z hm⟩
theorem n_s {i j : Nat} : nI i + nI j = nI (i + j) := nI_add i j

/-- the model: an event is known on day k; it breaks charter c by day d; a charter lives -/
def m_kn (M : eg_M) (e : Nat) (k : Int32) : Bool := decide (¬ k < (eg_gi M 137 e) ∧ ((eg_gi M 138 e) = (-nI 1) ∨ ¬ (eg_gi M 138 e) ≤ k))
def m_bk (M : eg_M) (c d k : Int32) (e : Nat) : Bool := decide (eg_gi M 130 e = 0 ∧ eg_gi M 131 e = c ∧ m_kn M e k = true ∧ ¬ d < eg_gi M 136 e)
def m_al (M : eg_M) (c d k : Int32) : Bool := decide (¬ k < eg_gi M 129 c.toNatClampNeg ∧ eg_gi M 128 c.toNatClampNeg ≤ d ∧ ∀ e, e < (eg_gi M 121 5).toNatClampNeg → m_bk M c d k e = false)
def k_X12_isAlive : eg_C := ([(0, .aload_n 0, 1), (1, .getfield 56, 3), (4, .iload_n 1, 1), (5, .iaload, 1), (6, .iload_n 3, 1), (7, .if_icmp .gt 13, 3), (10, .aload_n 0, 1), (11, .getfield 53, 3), (14, .iload_n 1, 1), (15, .iaload, 1), (16, .iload_n 2, 1), (17, .if_icmp .le 5, 3), (20, .iconst 0, 1), (21, .ireturn, 1), (22, .iconst 0, 1), (23, .istore 4, 2), (25, .iload 4, 2), (27, .aload_n 0, 1), (28, .getfield 241, 3), (31, .if_icmp .ge 53, 3), (34, .aload_n 0, 1), (35, .getfield 59, 3), (38, .iload 4, 2), (40, .iaload, 1), (41, .ifCond .ne 37, 3), (44, .aload_n 0, 1), (45, .getfield 62, 3), (48, .iload 4, 2), (50, .iaload, 1), (51, .iload_n 1, 1), (52, .if_icmp .ne 26, 3), (55, .aload_n 0, 1), (56, .iload 4, 2), (58, .iload_n 3, 1), (59, .invokevirtual 384, 3), (62, .ifCond .eq 16, 3), (65, .aload_n 0, 1), (66, .getfield 77, 3), (69, .iload 4, 2), (71, .iaload, 1), (72, .iload_n 2, 1), (73, .if_icmp .gt 5, 3), (76, .iconst 0, 1), (77, .ireturn, 1), (78, .iinc 4 1, 3), (81, .goto (-56), 3), (84, .iconst 1, 1), (85, .ireturn, 1)], [(53, 12, 11, false), (56, 12, 12, false), (59, 12, 13, false), (62, 12, 14, false), (77, 12, 19, false), (241, 12, 5, false)], [], [(384, 2 + 1, 0, 0, s_X12_isKnown)], [], 2, 0, 0)
theorem mk_X12_isAlive : ∀ q ∈ k_X12_isAlive.2.2.2.1, eg_mono q.2.2.2.2 := (fc (mo_X12_isKnown) (fn))
set_option maxRecDepth 100000 in
theorem st_X12_isAlive_0 {Qp : eg_P} {M : eg_M} (c : Int32) (d : Int32) (k : Int32)
  (g0 : (vp_in c 24))
  (l0 : (k < (eg_gi M 129 c.toNatClampNeg) ∨ ¬ (eg_gi M 128 c.toNatClampNeg) ≤ d) → Qp (.inl (some (.int (nI 0)))) M)
  (l1 : (¬ k < (eg_gi M 129 c.toNatClampNeg) ∧ (eg_gi M 128 c.toNatClampNeg) ≤ d) → eg_T wd k_X12_isAlive Qp 25 0 0 [some (.ref 121), some (.int c), some (.int d), some (.int k), some (.int (nI 0))] [] M) :
  eg_T wd k_X12_isAlive Qp 0 0 0 [some (.ref 121), some (.int c), some (.int d), some (.int k), none] [] M := by
  refine eg_T_run mk_X12_isAlive (cut := [25]) 51 ?_
  refine And.intro (show vp_in c 24 from ?_) ?_
  · exact g0
  refine And.intro (fun (c1 : k < (eg_gi M 129 c.toNatClampNeg)) => ?_) (fun (c1 : ¬ k < (eg_gi M 129 c.toNatClampNeg)) => ?_)
  · skip
    refine And.intro (fun _ => (show (nI 0) = 0 ∨ (nI 0) = 1 from ?_)) ?_
    · exact Or.inl rfl
    show Qp (.inl (some (.int (nI 0)))) M
    exact l0 (by grind)
  · skip
    refine And.intro (show vp_in c 24 from ?_) ?_
    · exact g0
    refine And.intro (fun (c2 : (eg_gi M 128 c.toNatClampNeg) ≤ d) => ?_) (fun (c2 : ¬ (eg_gi M 128 c.toNatClampNeg) ≤ d) => ?_)
    · skip
      show eg_T wd k_X12_isAlive Qp 25 0 0 [some (.ref 121), some (.int c), some (.int d), some (.int k), some (.int (nI 0))] [] M
      exact l1 (by grind)
    · skip
      refine And.intro (fun _ => (show (nI 0) = 0 ∨ (nI 0) = 1 from ?_)) ?_
      · exact Or.inl rfl
      show Qp (.inl (some (.int (nI 0)))) M
      exact l0 (by grind)

set_option maxRecDepth 100000 in
theorem st_X12_isAlive_25 {Qp : eg_P} {M : eg_M} (c : Int32) (d : Int32) (k : Int32) (x4 : Int32)
  (g0 : (¬ ((eg_gi M 121 5) ≤ x4)) → (vp_in x4 200))
  (l0 : ((eg_gi M 121 5) ≤ x4) → Qp (.inl (some (.int (nI 1)))) M)
  (l1 : (¬ (eg_gi M 121 5) ≤ x4 ∧ (¬ (eg_gi M 130 x4.toNatClampNeg) = 0 ∨ (¬ (eg_gi M 131 x4.toNatClampNeg) = c ∨ ((¬ (¬ k < (eg_gi M 137 x4.toNatClampNeg) ∧ ((eg_gi M 138 x4.toNatClampNeg) = (-nI 1) ∨ ¬ (eg_gi M 138 x4.toNatClampNeg) ≤ k))) ∨ d < (eg_gi M 136 x4.toNatClampNeg))))) → eg_T wd k_X12_isAlive Qp 25 0 0 [some (.ref 121), some (.int c), some (.int d), some (.int k), some (.int (x4 + (nI 1)))] [] M)
  (l2 : (¬ (eg_gi M 121 5) ≤ x4 ∧ ((eg_gi M 130 x4.toNatClampNeg) = 0 ∧ ((eg_gi M 131 x4.toNatClampNeg) = c ∧ ((¬ k < (eg_gi M 137 x4.toNatClampNeg) ∧ ((eg_gi M 138 x4.toNatClampNeg) = (-nI 1) ∨ ¬ (eg_gi M 138 x4.toNatClampNeg) ≤ k)) ∧ ¬ d < (eg_gi M 136 x4.toNatClampNeg))))) → Qp (.inl (some (.int (nI 0)))) M) :
  eg_T wd k_X12_isAlive Qp 25 0 0 [some (.ref 121), some (.int c), some (.int d), some (.int k), some (.int x4)] [] M := by
  refine eg_T_run mk_X12_isAlive (cut := [25]) 51 ?_
  refine And.intro (fun (c1 : (eg_gi M 121 5) ≤ x4) => ?_) (fun (c1 : ¬ (eg_gi M 121 5) ≤ x4) => ?_)
  · skip
    refine And.intro (fun _ => (show (nI 1) = 0 ∨ (nI 1) = 1 from ?_)) ?_
    · exact Or.inr rfl
    show Qp (.inl (some (.int (nI 1)))) M
    exact l0 (by grind)
  · skip
    refine And.intro (show vp_in x4 200 from ?_) ?_
    · exact g0 c1
    refine And.intro (fun (c2 : (eg_gi M 130 x4.toNatClampNeg) = 0) => ?_) (fun (c2 : ¬ (eg_gi M 130 x4.toNatClampNeg) = 0) => ?_)
    · skip
      refine And.intro (show vp_in x4 200 from ?_) ?_
      · exact g0 c1
      refine And.intro (fun (c3 : (eg_gi M 131 x4.toNatClampNeg) = c) => ?_) (fun (c3 : ¬ (eg_gi M 131 x4.toNatClampNeg) = c) => ?_)
      · skip
        refine And.intro (show ((vp_in x4 200)) from ?_) ?_
        · exact g0 c1
        refine And.intro (fun (c4 : (b2i (decide (¬ k < (eg_gi M 137 x4.toNatClampNeg) ∧ ((eg_gi M 138 x4.toNatClampNeg) = (-nI 1) ∨ ¬ (eg_gi M 138 x4.toNatClampNeg) ≤ k)))) = 0) => ?_) (fun (c4 : ¬ (b2i (decide (¬ k < (eg_gi M 137 x4.toNatClampNeg) ∧ ((eg_gi M 138 x4.toNatClampNeg) = (-nI 1) ∨ ¬ (eg_gi M 138 x4.toNatClampNeg) ≤ k)))) = 0) => ?_)
        · replace c4 := b2i_d0.mp c4
          show eg_T wd k_X12_isAlive Qp 25 0 0 [some (.ref 121), some (.int c), some (.int d), some (.int k), some (.int (x4 + (nI 1)))] [] M
          exact l1 (by grind)
        · replace c4 := b2i_dn.mp c4
          refine And.intro (show vp_in x4 200 from ?_) ?_
          · exact g0 c1
          refine And.intro (fun (c5 : d < (eg_gi M 136 x4.toNatClampNeg)) => ?_) (fun (c5 : ¬ d < (eg_gi M 136 x4.toNatClampNeg)) => ?_)
          · skip
            show eg_T wd k_X12_isAlive Qp 25 0 0 [some (.ref 121), some (.int c), some (.int d), some (.int k), some (.int (x4 + (nI 1)))] [] M
            exact l1 (by grind)
          · skip
            refine And.intro (fun _ => (show (nI 0) = 0 ∨ (nI 0) = 1 from ?_)) ?_
            · exact Or.inl rfl
            show Qp (.inl (some (.int (nI 0)))) M
            exact l2 (by grind)
      · skip
        show eg_T wd k_X12_isAlive Qp 25 0 0 [some (.ref 121), some (.int c), some (.int d), some (.int k), some (.int (x4 + (nI 1)))] [] M
        exact l1 (by grind)
    · skip
      show eg_T wd k_X12_isAlive Qp 25 0 0 [some (.ref 121), some (.int c), some (.int d), some (.int k), some (.int (x4 + (nI 1)))] [] M
      exact l1 (by grind)

def s_X12_isAlive : eg_S := fun argv M Qp => match argv with
  | [.ref 121, .int c, .int d, .int k] => (vp_in c 24 ∧ eg_cn (eg_gi M 121 5) 200) ∧ Qp (.inl (some (.int (b2i (m_al M c d k))))) M
  | _ => False
theorem mo_X12_isAlive : eg_mono s_X12_isAlive := by
  intro argv M Q Q' h
  unfold s_X12_isAlive
  split
  · exact fun z => ⟨z.1, h _ _ z.2⟩
  · exact id
theorem sz_X12_isAlive : ∀ argv M Qp, s_X12_isAlive argv M Qp → (eg_ls0 argv).length ≤ 5 := by
  intro argv M Qp h
  unfold s_X12_isAlive at h
  split at h
  · exact Nat.le_of_ble_eq_true rfl
  · exact h.elim
theorem sr_X12_isAlive : ∀ argv M Qp, s_X12_isAlive argv M Qp → ∃ p0 As, argv = .ref p0 :: As ∧ eg_isO wd M p0 12 = true := by
  intro argv M Qp h
  unfold s_X12_isAlive at h
  split at h
  · exact ⟨_, _, rfl, rfl⟩
  · exact h.elim
set_option maxRecDepth 100000 in
set_option maxHeartbeats 4000000 in
theorem T_X12_isAlive {argv : List Value} {M : eg_M} {Qp : eg_P} (h : s_X12_isAlive argv M Qp) : eg_T wd k_X12_isAlive Qp 0 0 0 (eg_lsN 5 argv) [] M := by
  unfold s_X12_isAlive at h
  split at h
  · rename_i c d k
    obtain ⟨hp, hq⟩ := h
    obtain ⟨hc, n, hn, hN⟩ := hp
    have lp : ∀ i (_ : Unit), i ≤ n → ((¬ k < eg_gi M 129 c.toNatClampNeg ∧ eg_gi M 128 c.toNatClampNeg ≤ d) ∧ ∀ e, e < i → m_bk M c d k e = false) → eg_T wd k_X12_isAlive Qp 25 0 0 [some (.ref 121), some (.int c), some (.int d), some (.int k), some (.int (nI i))] [] M := by
      refine eg_for ?_
      intro i _ hi ⟨h0, hI⟩ kk
      have st := st_X12_isAlive_25 (Qp := Qp) (M := M) c d k (nI i)
      simp (disch := omega) only [hN, n_c, n_le, n_in, n_s, Nat.not_le] at st
      refine st (fun z => Nat.lt_of_lt_of_le z hn) (fun z => ?_) (fun ⟨z1, z⟩ => kk () z1 ⟨h0, lt_s hI ?_⟩) (fun ⟨z1, z⟩ => ?_)
      · rw [show m_al M c d k = true from decide_eq_true ⟨h0.1, h0.2, by rw [hN, n_c (by omega)]; exact fun e he => hI e (by omega)⟩] at hq
        exact hq
      · unfold m_bk m_kn
        grind
      · rw [show m_al M c d k = false from decide_eq_false (fun y => by
          have := y.2.2 i (by rw [hN, n_c (by omega)]; exact z1)
          unfold m_bk m_kn at this
          grind)] at hq
        exact hq
    refine st_X12_isAlive_0 _ _ _ hc (fun z => ?_) (fun z => lp 0 () (Nat.zero_le _) ⟨z, lt_0⟩)
    rw [show m_al M c d k = false from decide_eq_false (fun y => by grind)] at hq
    exact hq
    
  · exact h.elim
theorem de_X12_isAlive : ∀ q ∈ k_X12_isAlive.1, decode cX12_isAlive q.1 = .ok q.2 := by decide +kernel
theorem me_X12_isAlive (g : gl_T) : MT g yX12_isAlive cX12_isAlive 5 (some .boolean) ⟨1, 0, 0, 22⟩ 0 0 s_X12_isAlive := by
  intro hl
  exact eg_met_of (k := k_X12_isAlive) (by decide) rfl ⟨Nat.le_refl _, Nat.le_refl _⟩ rfl sz_X12_isAlive de_X12_isAlive (fun meth hn => (fc (eg_FL_of wd_c12 (by decide) lf_RX12_53 (fun h => absurd h (by decide))) (fc (eg_FL_of wd_c12 (by decide) lf_RX12_56 (fun h => absurd h (by decide))) (fc (eg_FL_of wd_c12 (by decide) lf_RX12_59 (fun h => absurd h (by decide))) (fc (eg_FL_of wd_c12 (by decide) lf_RX12_62 (fun h => absurd h (by decide))) (fc (eg_FL_of wd_c12 (by decide) lf_RX12_77 (fun h => absurd h (by decide))) (fc (eg_FL_of wd_c12 (by decide) lf_RX12_241 (fun h => absurd h (by decide))) (fn)))))))) (fun A s H hE => (fn)) (fun p e s m args below meth c Q A ad0 N0 S0 hK hEx hA => (fc (mt_V hl S0 hK hEx hA (me_X12_isKnown g) lm_RX12_384 li_X12_isKnown lx_X12_isKnown ln_RX12 lc_X12_isKnown ⟨rfl, by decide, by decide, by decide +kernel⟩ ⟨rfl, rfl⟩ ⟨by decide, by decide⟩ (ci := 12) rfl rfl sr_X12_isKnown (by decide)) (fn))) (fun p e s m args below meth c Qc XC A ad0 N0 P S0 hK hEx hA hlk hout hPX => (fn)) (fun argv M Qp h => T_X12_isAlive h)

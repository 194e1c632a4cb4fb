/-! LOOPS of the JDK: Arrays.fill -/
/-- the first n ints of a row are v -/
def eg_fi (M : eg_M) (p n : Nat) (v : Int32) : eg_M := (M.1, (fun q => if q = p then (fun j => if j < n then v else M.2.1 p j) else M.2.1 q), M.2.2)
def eg_fL (M : eg_M) (p n : Nat) (v : Int64) : eg_M := (M.1, M.2.1, (fun q => if q = p then (fun j => if j < n then v else M.2.2.1 p j) else M.2.2.1 q), M.2.2.2)
theorem eg_fi_0 (M : eg_M) (p : Nat) (v : Int32) : eg_fi M p 0 v = M := by
  obtain ⟨a, b, c⟩ := M
  unfold eg_fi
  refine Prod.ext rfl (Prod.ext ?_ rfl)
  funext q
  by_cases h : q = p
  · subst h; simp
  · simp [h]
theorem eg_fL_0 (M : eg_M) (p : Nat) (v : Int64) : eg_fL M p 0 v = M := by
  obtain ⟨a, b, c, d⟩ := M
  unfold eg_fL
  refine Prod.ext rfl (Prod.ext rfl (Prod.ext ?_ rfl))
  funext q
  by_cases h : q = p
  · subst h; simp
  · simp [h]
theorem eg_fi_s (M : eg_M) (p n : Nat) (v : Int32) : eg_si (eg_fi M p n v) p n v = eg_fi M p (n + 1) v := by
  unfold eg_fi eg_si eg_up
  refine Prod.ext rfl (Prod.ext ?_ rfl)
  funext q
  by_cases h : q = p
  · subst h
    funext j
    simp only [if_true]
    by_cases h1 : j = n
    · subst h1; simp
    · by_cases h2 : j < n
      · simp [h1, h2, Nat.lt_succ_of_lt h2]
      · have : ¬ j < n + 1 := by omega
        simp [h1, h2, this]
  · simp [h]
theorem eg_fL_s (M : eg_M) (p n : Nat) (v : Int64) : eg_sl (eg_fL M p n v) p n v = eg_fL M p (n + 1) v := by
  unfold eg_fL eg_sl eg_up
  refine Prod.ext rfl (Prod.ext rfl (Prod.ext ?_ rfl))
  funext q
  by_cases h : q = p
  · subst h
    funext j
    simp only [if_true]
    by_cases h1 : j = n
    · subst h1; simp
    · by_cases h2 : j < n
      · simp [h1, h2, Nat.lt_succ_of_lt h2]
      · have : ¬ j < n + 1 := by omega
        simp [h1, h2, this]
  · simp [h]
theorem eg_gi_fi (M : eg_M) (p n q j : Nat) (v : Int32) : eg_gi (eg_fi M p n v) q j = if q = p ∧ j < n then v else eg_gi M q j := by
  unfold eg_gi eg_fi
  by_cases h : q = p
  · subst h; by_cases h2 : j < n <;> simp [h2]
  · simp [h]
theorem eg_gl_fL (M : eg_M) (p n q j : Nat) (v : Int64) : eg_gl (eg_fL M p n v) q j = if q = p ∧ j < n then v else eg_gl M q j := by
  unfold eg_gl eg_fL
  by_cases h : q = p
  · subst h; by_cases h2 : j < n <;> simp [h2]
  · simp [h]
def k_J7_fill_53178 : eg_C := ([(0, .iconst 0, 1), (1, .istore_n 2, 1), (2, .aload_n 0, 1), (3, .arraylength, 1), (4, .istore_n 3, 1), (5, .iload_n 2, 1), (6, .iload_n 3, 1), (7, .if_icmp .ge 13, 3), (10, .aload_n 0, 1), (11, .iload_n 2, 1), (12, .iload_n 1, 1), (13, .iastore, 1), (14, .iinc 2 1, 3), (17, .goto (-12), 3), (20, .return_, 1)], [], [], [], [], 0, 0, 0)
theorem mk_J7_fill_53178 : ∀ q ∈ k_J7_fill_53178.2.2.2.1, eg_mono q.2.2.2.2 := (fn)
def s_J7_fill_53178 : eg_S := fun argv M Qp => match argv with
  | [.ref p, .int v] => eg_need (eg_is wd M p 1) (eg_len wd M p < 2 ^ 31 ∧ Qp (.inl none) (eg_fi M p (eg_len wd M p) v))
  | _ => False
theorem mo_J7_fill_53178 : eg_mono s_J7_fill_53178 := by
  intro argv M Q Q' h
  unfold s_J7_fill_53178
  split
  · exact eg_need_mono (fun z => ⟨z.1, h _ _ z.2⟩)
  · exact id
theorem sz_J7_fill_53178 : ∀ argv M Qp, s_J7_fill_53178 argv M Qp → (eg_ls0 argv).length ≤ 4 := by
  intro argv M Qp h
  unfold s_J7_fill_53178 at h
  split at h
  · exact Nat.le_of_ble_eq_true rfl
  · exact h.elim
theorem T_J7_fill_53178 {argv : List Value} {M : eg_M} {Qp : eg_P} (h : s_J7_fill_53178 argv M Qp) : eg_T wd k_J7_fill_53178 Qp 0 0 0 (eg_lsN 4 argv) [] M := by
  unfold s_J7_fill_53178 at h
  split at h
  · rename_i p v
    replace h := eg_need_out h
    obtain ⟨h1, h2, h3⟩ := h
    have hk := eg_is_out h1
    have lp : ∀ (r i : Nat), i + r = eg_len wd M p → eg_T wd k_J7_fill_53178 Qp 5 0 0 [some (.ref p), some (.int v), some (.int (nI i)), some (.int (nI (eg_len wd M p)))] [] (eg_fi M p i v) := by
      intro r
      induction r with
      | zero =>
        intro i hi
        have hi : i = eg_len wd M p := hi
        subst hi
        refine eg_T_run mk_J7_fill_53178 (cut := [5]) 20 ?_
        exact And.intro (fun _ => h3) (fun z => absurd (nI_le (Nat.le_refl _) h2) z)
      | succ r ih =>
        intro i hi
        refine eg_T_run mk_J7_fill_53178 (cut := [5]) 20 ?_
        refine And.intro (fun z => absurd z (nI_ge (by omega) h2)) (fun z => ?_)
        refine eg_need_of (by exact h1) ?_
        refine And.intro (vp_in_nI (show i < eg_len wd (eg_fi M p i v) p from (show i < eg_len wd M p by omega)) h2) ?_
        have e := ih (i + 1) (by omega)
        rw [← eg_fi_s, ← nI_1] at e
        rw [nI_clamp (by omega)]
        exact e
    refine eg_T_run mk_J7_fill_53178 (cut := [5]) 20 ?_
    refine eg_need_of (show (Nat.ble 1 (eg_sh wd M p).1 && Nat.ble (eg_sh wd M p).1 7) = true by rw [hk]; rfl) ?_
    have e := lp (eg_len wd M p) 0 (by omega)
    rw [eg_fi_0] at e
    exact e
  · exact h.elim

theorem de_J7_fill_53178 : ∀ q ∈ k_J7_fill_53178.1, decode cJ7_fill_53178 q.1 = .ok q.2 := by decide +kernel
theorem me_J7_fill_53178 (g : gl_T) : MT g yJ7_fill_53178 cJ7_fill_53178 4 none ⟨0, 0, 0, 0⟩ 0 0 s_J7_fill_53178 := by
  intro hl
  exact eg_met_of (k := k_J7_fill_53178) (by decide) rfl ⟨Nat.le_refl _, Nat.le_refl _⟩ rfl sz_J7_fill_53178 de_J7_fill_53178 (fun meth hn => (fn)) (fun A s H hE => (fn)) (fun p e s m args below meth c Q A ad0 N0 S0 hK hEx hA => (fn)) (fun p e s m args below meth c Qc XC A ad0 N0 P S0 hK hEx hA hlk hout hPX => (fn)) (fun argv M Qp h => T_J7_fill_53178 h)

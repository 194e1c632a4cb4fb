/-! mathematics: a text means the same to the class and to the model -/
theorem p_run_a (V : Nat → Int64) : ∀ (A B : List Int32) (k : List Int64), p_run V (A ++ B) k = p_run V B (p_run V A k)
  | [], _, _ => rfl
  | s :: A, B, k => p_run_a V A B (p_st V s k)
theorem p_st_h {V : Nat → Int64} {m e : Nat} {s : Int32} {P : List Int32} {l : List Int64} (h : p_ok m e (s :: P) l.length) : p_ok m e P (p_st V s l).length ∧ ∀ k, p_st V s (l ++ k) = p_st V s l ++ k := by
  unfold p_ok at h
  unfold p_st
  by_cases c1 : 0 ≤ s.toInt
  · rw [if_pos c1] at h
    rw [if_pos c1]
    refine ⟨h.2, fun k => ?_⟩
    rw [if_pos c1]
    rfl
  · rw [if_neg c1] at h
    rw [if_neg c1]
    by_cases c2 : s.toInt ≤ -11
    · rw [if_pos c2] at h
      rw [if_pos c2]
      refine ⟨h.2.2, fun k => ?_⟩
      rw [if_neg c1, if_pos c2]
      rfl
    · rw [if_neg c2] at h
      rw [if_neg c2]
      by_cases c3 : s.toInt = -3
      · rw [if_pos c3] at h
        rw [if_pos c3]
        match l, h with
        | x :: r, h => exact ⟨h.2, fun k => by rw [if_neg c1, if_neg c2, if_pos c3]; rfl⟩
        | [], h => exact absurd h.1 (by decide)
      · rw [if_neg c3] at h
        rw [if_neg c3]
        match l, h with
        | y :: x :: r, h => exact ⟨h.2.2, fun k => by rw [if_neg c1, if_neg c2, if_neg c3]; rfl⟩
        | [y], h => exact absurd (show 2 ≤ 1 from h.2.1) (by decide)
        | [], h => exact absurd h.2.1 (by decide)
theorem p_run_h {V : Nat → Int64} {m e : Nat} : ∀ {P : List Int32} {l : List Int64}, p_ok m e P l.length → (p_run V P l).length = e ∧ ∀ k, p_run V P (l ++ k) = p_run V P l ++ k
  | [], l, h => ⟨h, fun _ => rfl⟩
  | s :: P, l, h => by
    obtain ⟨h1, h2⟩ := p_st_h (V := V) h
    obtain ⟨h3, h4⟩ := p_run_h (V := V) h1
    refine ⟨h3, fun k => ?_⟩
    show p_run V P (p_st V s (l ++ k)) = _
    rw [h2 k]
    exact h4 k
theorem p_run_1 {V : Nat → Int64} {m : Nat} {P : List Int32} (h : p_ok m 1 P 0) (k : List Int64) : p_run V P k = p_v V P :: k := by
  obtain ⟨h1, h2⟩ := p_run_h (V := V) (l := []) h
  have h2 := h2 k
  rw [List.nil_append] at h2
  rw [h2]
  unfold p_v
  match p_run V P [], h1 with
  | [x], _ => rfl
theorem p_v_cs (V : Nat → Int64) {c : px_K} (h : px_ko c) : p_v V (px_cs c) = p_cv V c.2.1 c.2.2 := by
  obtain ⟨_, h1, h2⟩ := h
  unfold px_cs p_cv
  rcases h2 with z | z
  · rw [if_pos z, if_neg (fun y => y.1 z)]
  · have hn := p_ok_ne z
    rw [if_neg hn]
    show (p_run V (c.2.1 ++ c.2.2 ++ [-nI 10]) []).headD 0 = _
    rw [p_run_a, p_run_a, p_run_1 h1, p_run_1 z]
    show (if p_v V c.2.2 = lN 0 then p_v V c.2.1 else lN 0) = _
    by_cases hy : p_v V c.2.2 = lN 0
    · rw [if_pos hy, if_neg (fun y => y.2 hy)]
    · rw [if_neg hy, if_pos ⟨hn, hy⟩]
/-- the class's text of these clauses -/
def px_tx (CL : List px_K) : List (Int32 × List Int32) := CL.map (fun c => (c.1, px_cs c))
theorem p_one_cs (V : Nat → Int64) {c : px_K} (h : px_ko c) : p_oneS V (c.1, px_cs c) = p_one V c := by
  unfold p_oneS p_one
  dsimp only
  rw [p_v_cs V h]
theorem fold_cg {α β γ : Type} (f : γ → α → γ) (g : γ → β → γ) (m : β → α) : ∀ (L : List β) (s : γ), (∀ c ∈ L, ∀ s, f s (m c) = g s c) → (L.map m).foldl f s = L.foldl g s
  | [], _, _ => rfl
  | c :: L, s, h => by
    rw [List.map_cons, List.foldl_cons, List.foldl_cons, h c List.mem_cons_self s]
    exact fold_cg f g m L _ (fun d hd => h d (List.mem_cons_of_mem _ hd))
theorem p_cla_cs (V : Nat → Int64) (CL : List px_K) (h : ∀ c ∈ CL, px_ko c) : p_claS V (px_tx CL) = p_cla V CL := fold_cg _ _ _ CL _ (fun c hc s => congrArg (fun z => s + z) (p_one_cs V (h c hc)))
theorem p_slp_cs (V : Nat → Int64) (CL : List px_K) (h : ∀ c ∈ CL, px_ko c) : p_slpS V (px_tx CL) = p_slp V CL := by
  have e1 : ∀ (f : Int32 × List Int32 → Bool) (g : px_K → Bool), (∀ c ∈ CL, f (c.1, px_cs c) = g c) → (px_tx CL).any f = CL.any g := by
    intro f g hfg
    unfold px_tx
    rw [List.any_map]
    clear h
    induction CL with
    | nil => rfl
    | cons c CL ih =>
      rw [List.any_cons, List.any_cons, ih (fun d hd => hfg d (List.mem_cons_of_mem _ hd))]
      show (f (c.1, px_cs c) || _) = _
      rw [hfg c List.mem_cons_self]
  unfold p_slpS p_slp
  rw [e1 _ (fun c => decide (c.1 = nI 1 ∧ ¬ p_cv V c.2.1 c.2.2 = lN 0)) (fun c hc => ?_), e1 _ (fun c => decide (c.1 = nI 1)) (fun c hc => rfl)]
  rw [p_v_cs V (h c hc)]
def k_X12_liking : eg_C := ([(0, .aload_n 0, 1), (1, .iconst 0, 1), (2, .putfield 213, 3), (5, .iload_n 1, 1), (6, .ifCond .lt 23, 3), (9, .iload_n 1, 1), (10, .aload_n 0, 1), (11, .getfield 460, 3), (14, .if_icmp .ge 15, 3), (17, .iload_n 2, 1), (18, .ifCond .lt 11, 3), (21, .iload_n 2, 1), (22, .aload_n 0, 1), (23, .getfield 457, 3), (26, .if_icmp .lt 9, 3), (29, .aload_n 0, 1), (30, .iconst 1, 1), (31, .invokevirtual 230, 3), (34, .ireturn, 1), (35, .aload_n 0, 1), (36, .iload_n 1, 1), (37, .iload_n 2, 1), (38, .invokevirtual 464, 3), (41, .ireturn, 1)], [(213, 12, 1, true), (457, 12, 52, false), (460, 12, 53, false)], [], [(230, 1 + 1, 0, 0, s_X12_fail), (464, 2 + 1, 0, 0, s_X12_likingOf)], [], 1, 0, 0)
theorem mk_X12_liking : ∀ q ∈ k_X12_liking.2.2.2.1, eg_mono q.2.2.2.2 := (fc (mo_X12_fail) (fc (mo_X12_likingOf) (fn)))
set_option maxRecDepth 100000 in
theorem st_X12_liking_0 {Qp : eg_P} {M : eg_M} (a : Int32) (b : Int32)
  (g0 : (¬ (a < 0)) → (¬ ((eg_gi M 121 53) ≤ a)) → (¬ (b < 0)) → (b < (eg_gi M 121 52)) → (vp_in a 8 ∧ vp_in b 6))
  (l0 : (a < 0 ∨ ((eg_gi M 121 53) ≤ a ∨ (b < 0 ∨ ¬ b < (eg_gi M 121 52)))) → Qp (.inl (some (.int (nI 0)))) (eg_si (eg_si M 121 1 (nI 0)) 121 1 (nI 1)))
  (l1 : (¬ a < 0 ∧ (¬ (eg_gi M 121 53) ≤ a ∧ (¬ b < 0 ∧ b < (eg_gi M 121 52)))) → Qp (.inl (some (.int (m_li (eg_si M 121 1 (nI 0)) a b)))) (eg_si M 121 1 (nI 0))) :
  eg_T wd k_X12_liking Qp 0 0 0 [some (.ref 121), some (.int a), some (.int b)] [] M := by
  refine eg_T_run mk_X12_liking (cut := []) 27 ?_
  refine And.intro (fun (c1 : a < 0) => ?_) (fun (c1 : ¬ a < 0) => ?_)
  · skip
    refine And.intro (fun z => absurd z (by decide)) ?_
    refine And.intro (fun z => absurd z (by decide)) ?_
    show Qp (.inl (some (.int (nI 0)))) (eg_si (eg_si M 121 1 (nI 0)) 121 1 (nI 1))
    exact l0 (Or.inl c1)
  · skip
    refine And.intro (fun (c2 : (eg_gi M 121 53) ≤ a) => ?_) (fun (c2 : ¬ (eg_gi M 121 53) ≤ a) => ?_)
    · skip
      refine And.intro (fun z => absurd z (by decide)) ?_
      refine And.intro (fun z => absurd z (by decide)) ?_
      show Qp (.inl (some (.int (nI 0)))) (eg_si (eg_si M 121 1 (nI 0)) 121 1 (nI 1))
      exact l0 (Or.inr (Or.inl c2))
    · skip
      refine And.intro (fun (c3 : b < 0) => ?_) (fun (c3 : ¬ b < 0) => ?_)
      · skip
        refine And.intro (fun z => absurd z (by decide)) ?_
        refine And.intro (fun z => absurd z (by decide)) ?_
        show Qp (.inl (some (.int (nI 0)))) (eg_si (eg_si M 121 1 (nI 0)) 121 1 (nI 1))
        exact l0 (Or.inr (Or.inr (Or.inl c3)))
      · skip
        refine And.intro (fun (c4 : b < (eg_gi M 121 52)) => ?_) (fun (c4 : ¬ b < (eg_gi M 121 52)) => ?_)
        · skip
          refine And.intro (show (vp_in a 8 ∧ vp_in b 6) from ?_) ?_
          · exact g0 c1 c2 c3 c4
          refine And.intro (fun z => absurd z (by decide)) ?_
          show Qp (.inl (some (.int (m_li (eg_si M 121 1 (nI 0)) a b)))) (eg_si M 121 1 (nI 0))
          exact l1 ⟨c1, ⟨c2, ⟨c3, c4⟩⟩⟩
        · skip
          refine And.intro (fun z => absurd z (by decide)) ?_
          refine And.intro (fun z => absurd z (by decide)) ?_
          show Qp (.inl (some (.int (nI 0)))) (eg_si (eg_si M 121 1 (nI 0)) 121 1 (nI 1))
          exact l0 (Or.inr (Or.inr (Or.inr c4)))

def s_X12_liking : eg_S := fun argv M Qp => match argv with
  | [.ref 121, .int a, .int b] => (eg_cn (eg_gi M 121 53) 8 ∧ eg_cn (eg_gi M 121 52) 6) ∧ ∀ (v : Int32) (M2 : eg_M), ((¬ ((¬ a < 0 ∧ ¬ eg_gi M 121 53 ≤ a) ∧ ¬ b < 0 ∧ b < eg_gi M 121 52) ∧ v = nI 0 ∧ M2 = eg_si M 121 1 (nI 1)) ∨ (((¬ a < 0 ∧ ¬ eg_gi M 121 53 ≤ a) ∧ ¬ b < 0 ∧ b < eg_gi M 121 52) ∧ v = m_li M a b ∧ M2 = eg_si M 121 1 (nI 0))) → Qp (.inl (some (.int (v)))) M2
  | _ => False
theorem mo_X12_liking : eg_mono s_X12_liking := by
  intro argv M Q Q' h
  unfold s_X12_liking
  split
  · exact fun z => ⟨z.1, fun v M2 y => h _ _ (z.2 v M2 y)⟩
  · exact id
theorem sz_X12_liking : ∀ argv M Qp, s_X12_liking argv M Qp → (eg_ls0 argv).length ≤ 3 := by
  intro argv M Qp h
  unfold s_X12_liking at h
  split at h
  · exact Nat.le_of_ble_eq_true rfl
  · exact h.elim
theorem sr_X12_liking : ∀ argv M Qp, s_X12_liking argv M Qp → ∃ p0 As, argv = .ref p0 :: As ∧ eg_isO wd M p0 12 = true := by
  intro argv M Qp h
  unfold s_X12_liking at h
  split at h
  · exact ⟨_, _, rfl, rfl⟩
  · exact h.elim
set_option maxRecDepth 100000 in
set_option maxHeartbeats 1000000 in
theorem T_X12_liking {argv : List Value} {M : eg_M} {Qp : eg_P} (h : s_X12_liking argv M Qp) : eg_T wd k_X12_liking Qp 0 0 0 (eg_lsN 3 argv) [] M := by
  unfold s_X12_liking at h
  split at h
  · rename_i a b
    obtain ⟨hp, hq⟩ := h
    obtain ⟨⟨n, hn, en⟩, k, hk, ek⟩ := hp
    have vin : ∀ (x : Int32) (N B : Nat), N ≤ B → B < 2 ^ 20 → ¬ x < 0 → x < nI N → vp_in x B := by
      intro x N B h1 h2 h3 h4
      have h5 : (0 : Int) ≤ x.toInt := Int32.le_iff_toInt_le.mp (Int32.not_lt.mp h3)
      have h6 := Int32.lt_iff_toInt_lt.mp h4
      rw [nI_toInt (by omega)] at h6
      exact vp_in_iff.mpr ⟨h5, by omega⟩
    refine st_X12_liking_0 a b (fun z1 z2 z3 z4 => ?_) (fun z => ?_) (fun z => ?_)
    · rw [en] at z2
      rw [ek] at z4
      exact ⟨vin a n 8 hn (by decide) z1 (Int32.not_le.mp z2), vin b k 6 hk (by decide) z3 z4⟩
    · refine hq _ _ (Or.inl ⟨fun y => ?_, rfl, si_si M 121 1 (nI 0) (nI 1)⟩)
      rcases z with w | w | w | w
      · exact y.1.1 w
      · exact y.1.2 w
      · exact y.2.1 w
      · exact w y.2.2
    · exact hq _ _ (Or.inr ⟨⟨⟨z.1, z.2.1⟩, z.2.2.1, z.2.2.2⟩, rfl, rfl⟩)
    
  · exact h.elim
theorem de_X12_liking : ∀ q ∈ k_X12_liking.1, decode cX12_liking q.1 = .ok q.2 := by decide +kernel
theorem me_X12_liking (g : gl_T) : MT g yX12_liking cX12_liking 3 (some .int) ⟨2, 0, 0, 49⟩ 0 0 s_X12_liking := by
  intro hl
  exact eg_met_of (k := k_X12_liking) (by decide) rfl ⟨Nat.le_refl _, Nat.le_refl _⟩ rfl sz_X12_liking de_X12_liking (fun meth hn => (fc (eg_FL_of wd_c12 (by decide) lf_RX12_213 (fun _ => Or.inl rfl)) (fc (eg_FL_of wd_c12 (by decide) lf_RX12_457 (fun h => absurd h (by decide))) (fc (eg_FL_of wd_c12 (by decide) lf_RX12_460 (fun h => absurd h (by decide))) (fn))))) (fun A s H hE => (fn)) (fun p e s m args below meth c Q A ad0 N0 S0 hK hEx hA => (fc (mt_V hl S0 hK hEx hA (me_X12_fail g) lm_RX12_230 li_X12_fail lx_X12_fail ln_RX12 lc_X12_fail ⟨rfl, by decide, by decide, by decide +kernel⟩ ⟨rfl, rfl⟩ ⟨by decide, by decide⟩ (ci := 12) rfl rfl eg_auto_rec (by decide)) (fc (mt_V hl S0 hK hEx hA (me_X12_likingOf g) lm_RX12_464 li_X12_likingOf lx_X12_likingOf ln_RX12 lc_X12_likingOf ⟨rfl, by decide, by decide, by decide +kernel⟩ ⟨rfl, rfl⟩ ⟨by decide, by decide⟩ (ci := 12) rfl rfl sr_X12_likingOf (by decide)) (fn)))) (fun p e s m args below meth c Qc XC A ad0 N0 P S0 hK hEx hA hlk hout hPX => (fn)) (fun argv M Qp h => T_X12_liking h)

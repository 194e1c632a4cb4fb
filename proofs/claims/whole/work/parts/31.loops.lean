/-! a rule reads the eleven values alone -/
theorem p_st_of {V V' : Nat → Int64} (h : ∀ j, j < 11 → V j = V' j) {s : Int32} (hs : 0 ≤ s.toInt ∨ -21 ≤ s.toInt) (k : List Int64) : p_st V s k = p_st V' s k := by
  unfold p_st
  split
  · rfl
  · split
    · rw [h _ (by omega)]
    · rfl
theorem p_run_of {V V' : Nat → Int64} (h : ∀ j, j < 11 → V j = V' j) {m e : Nat} : ∀ (P : List Int32) (k : List Int64) (t : Nat), p_ok m e P t → p_run V P k = p_run V' P k
  | [], _, _, _ => rfl
  | s :: P, k, t, hk => by
    obtain ⟨hs, t', hP⟩ := p_ok_hd hk
    show p_run V P (p_st V s k) = p_run V' P (p_st V' s k)
    rw [p_st_of h (hs.imp id (fun z => z.1)), p_run_of h P _ t' hP]
/-- the clauses are such that both readers make -/
def p_cok (CL : List (Int32 × List Int32 × List Int32)) : Prop := ∀ c ∈ CL, p_ok 200 1 c.2.1 0 ∧ (c.2.2 = [] ∨ p_ok 200 1 c.2.2 0)
theorem p_cv_of {V V' : Nat → Int64} (h : ∀ j, j < 11 → V j = V' j) {P Q : List Int32} (hP : p_ok 200 1 P 0) (hQ : Q = [] ∨ p_ok 200 1 Q 0) : p_cv V P Q = p_cv V' P Q := by
  unfold p_cv p_v
  rw [p_run_of h P [] 0 hP]
  rcases hQ with rfl | hQ
  · simp
  · rw [p_run_of h Q [] 0 hQ]
theorem p_one_of {V V' : Nat → Int64} {c : Int32 × List Int32 × List Int32} (h : p_cv V c.2.1 c.2.2 = p_cv V' c.2.1 c.2.2) : p_one V c = p_one V' c := by
  unfold p_one
  rw [h]
theorem fold_of {α : Type} {f g : α → Int64} : ∀ (l : List α) (x : Int64), (∀ c ∈ l, f c = g c) → l.foldl (fun s c => s + f c) x = l.foldl (fun s c => s + g c) x
  | [], _, _ => rfl
  | c :: l, x, h => by
    have e := h c List.mem_cons_self
    have ih := fold_of l (x + f c) (fun d hd => h d (List.mem_cons_of_mem _ hd))
    rw [List.foldl_cons, List.foldl_cons, ih, e]
theorem p_cla_of {V V' : Nat → Int64} (h : ∀ j, j < 11 → V j = V' j) {CL : List (Int32 × List Int32 × List Int32)} (hC : p_cok CL) : p_cla V CL = p_cla V' CL := by
  unfold p_cla
  exact fold_of CL (lN 0) (fun c hc => p_one_of (p_cv_of h (hC c hc).1 (hC c hc).2))
theorem p_slp_of {V V' : Nat → Int64} (h : ∀ j, j < 11 → V j = V' j) {CL : List (Int32 × List Int32 × List Int32)} (hC : p_cok CL) : p_slp V CL = p_slp V' CL := by
  unfold p_slp
  rw [h 7 (by omega)]
  congr 1
  rw [Bool.eq_iff_iff, List.any_eq_true, List.any_eq_true]
  constructor
  all_goals
    rintro ⟨c, hc, z⟩
    refine ⟨c, hc, ?_⟩
    simp only [decide_eq_true_eq] at z ⊢
    have := hC c hc
    first
    | rw [← p_cv_of h this.1 this.2]; exact z
    | rw [p_cv_of h this.1 this.2]; exact z
theorem m_rr_ok {M : eg_M} {x : Int32} {CL : List (Int32 × List Int32 × List Int32)} (h : m_rr M x CL) : p_cok CL ∧ CL.length ≤ 12 := by
  rcases h with ⟨_, rfl⟩ | ⟨r, _, _, h1, h2, h3⟩
  · exact ⟨fun c hc => (by cases hc), by simp⟩
  · refine ⟨fun c hc => ?_, h2⟩
    obtain ⟨i, hi, rfl⟩ := List.mem_iff_getElem.mp hc
    obtain ⟨u, v, w, _, _, _, _, _, hP, hQ⟩ := (h3 i hi).2
    exact ⟨hP, hQ.imp (fun z => z.2) (fun z => z.2.2)⟩
theorem p_one_v (V : Nat → Int64) (c : Int32 × List Int32 × List Int32) : ∃ v, v ≤ 999999 ∧ p_one V c = lN v := by
  unfold p_one
  split
  · generalize p_cv V c.2.1 c.2.2 = x
    have hm : (if x < lN 999999 then x else lN 999999) ≤ lN 999999 := by
      split
      · rename_i h
        exact Int64.le_of_lt h
      · exact Int64.le_refl _
    generalize (if x < lN 999999 then x else lN 999999) = y at hm
    split
    · exact ⟨0, by omega, rfl⟩
    · rename_i h
      obtain ⟨k, hk, rfl⟩ := pk_lOf h
      exact ⟨k, (l_le hk (by decide)).mp hm, rfl⟩
  · exact ⟨0, by omega, rfl⟩
theorem p_cla_v (V : Nat → Int64) (CL : List (Int32 × List Int32 × List Int32)) : ∃ v, v ≤ CL.length * 999999 ∧ p_cla V CL = lN v := by
  unfold p_cla
  have : ∀ (l : List (Int32 × List Int32 × List Int32)) (x : Nat), ∃ v, v ≤ x + l.length * 999999 ∧ l.foldl (fun s c => s + p_one V c) (lN x) = lN v := by
    intro l
    induction l with
    | nil => intro x; exact ⟨x, by simp, rfl⟩
    | cons c l ih =>
      intro x
      obtain ⟨w, hw, e⟩ := p_one_v V c
      obtain ⟨v, hv, e2⟩ := ih (x + w)
      refine ⟨v, ?_, ?_⟩
      · rw [List.length_cons]; omega
      · rw [List.foldl_cons, e, lN_add]; exact e2
  obtain ⟨v, hv, e⟩ := this CL 0
  exact ⟨v, by omega, e⟩
/-! what the ints alone tell -/
theorem m_ra_of {M N : eg_M} (h : N.2.1 = M.2.1) (k : Int32) (n : Nat) : m_ra N k n = m_ra M k n := by
  induction n with
  | zero => rfl
  | succ n ih =>
    have e : eg_gi N 140 n = eg_gi M 140 n := by unfold eg_gi; rw [h]
    rw [m_ra, m_ra, ih, e]
theorem gi_of {M N : eg_M} (h : N.2.1 = M.2.1) (p j : Nat) : eg_gi N p j = eg_gi M p j := by unfold eg_gi; rw [h]
theorem m_mb_of {M N : eg_M} (h : N.2.1 = M.2.1) (d : Int32) (i n : Nat) : m_mb N d i n = m_mb M d i n := by
  induction n generalizing i with
  | zero => rfl
  | succ n ih => rw [m_mb, m_mb, ih, gi_of h, gi_of h]
theorem m_ts_of {M N : eg_M} (h : N.2.1 = M.2.1) (c : Int32) (n : Nat) : m_ts N c n = m_ts M c n := by
  induction n with
  | zero => unfold m_ts; rw [gi_of h]
  | succ n ih => rw [m_ts, m_ts, ih]; simp only [gi_of h]
theorem m_vr_of {M N : eg_M} (h : N.2.1 = M.2.1) (c d : Int32) (m : Nat) {j : Nat} (hj : j < 11) : m_vr N c d m j = m_vr M c d m j := by
  unfold m_vr
  simp only [gi_of h, m_ts_of h]
  rcases (show j = 0 ∨ j = 1 ∨ j = 2 ∨ j = 3 ∨ j = 4 ∨ j = 5 ∨ j = 6 ∨ j = 7 ∨ j = 8 ∨ j = 9 ∨ j = 10 by omega) with rfl | rfl | rfl | rfl | rfl | rfl | rfl | rfl | rfl | rfl | rfl <;> rfl
theorem m_vv_of {M N : eg_M} (h : N.2.1 = M.2.1) (e i : Nat) {j : Nat} (hj : j < 11) : m_vv N e i j = m_vv M e i j := by
  unfold m_vv
  simp only [gi_of h, m_vr_of h _ _ _ hj, m_vr_of h _ _ _ (show 6 < 11 by omega)]
theorem m_cl_of {M N : eg_M} (h : N.2.1 = M.2.1) (r c : Nat) (P Q : List Int32) : m_cl N r c P Q ↔ m_cl M r c P Q := by
  unfold m_cl
  have e : eg_gi N 148 = eg_gi M 148 := by funext j; exact gi_of h _ _
  simp only [gi_of h, e]
theorem m_rr_of {M N : eg_M} (h : N.2.1 = M.2.1) (x : Int32) (CL : List (Int32 × List Int32 × List Int32)) : m_rr N x CL ↔ m_rr M x CL := by
  unfold m_rr m_ru
  simp only [gi_of h, m_cl_of h]
theorem m_yr_of {M N : eg_M} (h : N.2.1 = M.2.1) (y : Int32) : m_yr N y = m_yr M y := by
  unfold m_yr m_of
  simp only [gi_of h]
/-- the model: its events are as told -/
def m_EV (M : eg_M) : Prop := eg_cn (eg_gi M 121 5) 200 ∧ ∀ e, e < (eg_gi M 121 5).toNatClampNeg → vp_in (eg_gi M 136 e) 3600 ∧ vp_in (eg_gi M 131 e) 24 ∧ vp_in (eg_gi M 127 (nI 2 * eg_gi M 131 e).toNatClampNeg) 16 ∧ vp_in (eg_gi M 127 (nI 2 * eg_gi M 131 e + nI 1).toNatClampNeg) 16 ∧ (¬ eg_gi M 130 e = 0 → vp_in (eg_gi M 133 e) 2)
/-- the model: the pot by the rules that count on day k -/
def m_pot (M : eg_M) (k : Int32) : Int64 := if m_ra M k (eg_gi M 121 35).toNatClampNeg = -nI 1 then lN 100000 else (eg_gi M 142 (m_ra M k (eg_gi M 121 35).toNatClampNeg).toNatClampNeg).toInt64
/-- the model: the rules that count on day k are good ones -/
def m_RK (M : eg_M) (k : Int32) : Prop := eg_cn (eg_gi M 121 35) 8 ∧ (∃ CL, m_rr M (m_ra M k (eg_gi M 121 35).toNatClampNeg) CL) ∧ ∃ P, P < 2 ^ 20 ∧ m_pot M k = lN P
/-- the model, what counts laid out as L -/
def m_L (M : eg_M) (L : List Nat) (f : Nat → Int32) : eg_M := eg_ri (eg_si M 121 47 (nI L.length)) 151 f
/-- the model: the claim of the i-th of what counts -/
def m_clm (M : eg_M) (CL : List (Int32 × List Int32 × List Int32)) (i : Nat) : Int64 := if eg_gi M 130 (eg_gi M 151 i).toNatClampNeg = nI 1 then p_cla (m_vv M (eg_gi M 151 i).toNatClampNeg i) CL else lN 0
/-- the model: claims and grants of what counts on day k -/
def m_TG (M : eg_M) (k : Int32) (L : List Nat) (f : Nat → Int32) (cl g : Nat → Int64) : Prop := m_lay M k (eg_gi M 121 5).toNatClampNeg L ∧ isL f L ∧ (∀ CL, m_rr M (m_ra M k (eg_gi M 121 35).toNatClampNeg) CL → ∀ i, i < L.length → cl i = m_clm (m_L M L f) CL i) ∧ ∀ i (h : i < L.length), eg_gi M 130 L[i] = nI 1 → g i = lN (g_gr (lnat (m_pot M k)) (fun j => lnat (cl j)) (m_yr (m_L M L f) (eg_gi M 136 L[i] / nI 360)) i)
def k_X12_tellGrants : eg_C := ([(0, .aload_n 0, 1), (1, .iload_n 1, 1), (2, .invokevirtual 415, 3), (5, .aload_n 0, 1), (6, .iload_n 1, 1), (7, .invokevirtual 404, 3), (10, .istore_n 2, 1), (11, .iconst 0, 1), (12, .istore_n 3, 1), (13, .iload_n 3, 1), (14, .aload_n 0, 1), (15, .getfield 388, 3), (18, .if_icmp .ge 21, 3), (21, .aload_n 0, 1), (22, .getfield 130, 3), (25, .iload_n 3, 1), (26, .aload_n 0, 1), (27, .iload_n 3, 1), (28, .iload_n 2, 1), (29, .invokevirtual 432, 3), (32, .lastore, 1), (33, .iinc 3 1, 3), (36, .goto (-23), 3), (39, .iload_n 2, 1), (40, .iconst (-1), 1), (41, .if_icmp .ne 9, 3), (44, .ldc2_w 435, 3), (47, .goto 10, 3), (50, .aload_n 0, 1), (51, .getfield 99, 3), (54, .iload_n 2, 1), (55, .iaload, 1), (56, .i2l, 1), (57, .lstore_n 3, 1), (58, .iconst 0, 1), (59, .istore 5, 2), (61, .iload 5, 2), (63, .bipush 9, 2), (65, .if_icmp .gt 16, 3), (68, .aload_n 0, 1), (69, .iload 5, 2), (71, .lload_n 3, 1), (72, .invokevirtual 437, 3), (75, .iinc 5 1, 3), (78, .goto (-17), 3), (81, .return_, 1)], [(99, 12, 38, false), (130, 12, 49, false), (388, 12, 47, false)], [(435, .long (lN 100000))], [(404, 1 + 1, 0, 0, s_X12_rulesAt), (415, 1 + 1, 0, 0, s_X12_lay), (432, 2 + 1, 0, 0, s_X12_claimOf), (437, 2 + 1, 0, 0, s_X12_share)], [], 0, 0, 0)
theorem mk_X12_tellGrants : ∀ q ∈ k_X12_tellGrants.2.2.2.1, eg_mono q.2.2.2.2 := (fc (mo_X12_rulesAt) (fc (mo_X12_lay) (fc (mo_X12_claimOf) (fc (mo_X12_share) (fn)))))
set_option maxRecDepth 100000 in
theorem st_X12_tellGrants_0 {Qp : eg_P} {M : eg_M} (k : Int32)
  (g0 : (eg_cn (eg_gi M 121 5) 200 ∧ ∀ e, e < (eg_gi M 121 5).toNatClampNeg → ¬ eg_gi M 130 e = 0 → vp_in (eg_gi M 131 e) 24))
  (l0 : ∀ (L_1 : List Nat) (f_1 : Nat → Int32), (m_lay M k (eg_gi M 121 5).toNatClampNeg L_1 ∧ ∀ i (h : i < L_1.length), f_1 i = nI L_1[i]) → eg_T wd k_X12_tellGrants Qp 5 0 0 [some (.ref 121), some (.int k), none, none, none, none] [] (eg_ri (eg_si M 121 47 (nI L_1.length)) 151 f_1)) :
  eg_T wd k_X12_tellGrants Qp 0 0 0 [some (.ref 121), some (.int k), none, none, none, none] [] M := by
  refine eg_T_run mk_X12_tellGrants (cut := [5, 13, 32, 61, 75]) 49 ?_
  refine And.intro (show (eg_cn (eg_gi M 121 5) 200 ∧ ∀ e, e < (eg_gi M 121 5).toNatClampNeg → ¬ eg_gi M 130 e = 0 → vp_in (eg_gi M 131 e) 24) from ?_) ?_
  · exact g0
  intro L_1 f_1 ha_1
  show eg_T wd k_X12_tellGrants Qp 5 0 0 [some (.ref 121), some (.int k), none, none, none, none] [] (eg_ri (eg_si M 121 47 (nI L_1.length)) 151 f_1)
  exact l0 L_1 f_1 ha_1

set_option maxRecDepth 100000 in
theorem st_X12_tellGrants_5 {Qp : eg_P} {M : eg_M} (k : Int32) (o2 : Option Value) (o3 : Option Value) (o4 : Option Value) (o5 : Option Value)
  (g0 : (eg_cn (eg_gi M 121 35) 8))
  (l0 : eg_T wd k_X12_tellGrants Qp 13 0 0 [some (.ref 121), some (.int k), some (.int (m_ra M k (eg_gi M 121 35).toNatClampNeg)), some (.int (nI 0)), o4, o5] [] M) :
  eg_T wd k_X12_tellGrants Qp 5 0 0 [some (.ref 121), some (.int k), o2, o3, o4, o5] [] M := by
  refine eg_T_run mk_X12_tellGrants (cut := [5, 13, 32, 61, 75]) 49 ?_
  refine And.intro (show (eg_cn (eg_gi M 121 35) 8) from ?_) ?_
  · exact g0
  show eg_T wd k_X12_tellGrants Qp 13 0 0 [some (.ref 121), some (.int k), some (.int (m_ra M k (eg_gi M 121 35).toNatClampNeg)), some (.int (nI 0)), o4, o5] [] M
  exact l0

set_option maxRecDepth 100000 in
theorem st_X12_tellGrants_13 {Qp : eg_P} {M : eg_M} (o1 : Option Value) (x2 : Int32) (x3 : Int32) (o4 : Option Value) (o5 : Option Value)
  (g0 : ((eg_gi M 121 47) ≤ x3) → (¬ (x2 = (-nI 1))) → (vp_in x2 8))
  (g1 : (¬ ((eg_gi M 121 47) ≤ x3)) → (vp_in x3 200 ∧ (∀ j, j ≤ x3.toNatClampNeg → vp_in (eg_gi M 151 j) 200) ∧ (eg_gi M 130 (eg_gi M 151 x3.toNatClampNeg).toNatClampNeg = nI 1 → vp_in (eg_gi M 131 (eg_gi M 151 x3.toNatClampNeg).toNatClampNeg) 24 ∧ vp_in (eg_gi M 133 (eg_gi M 151 x3.toNatClampNeg).toNatClampNeg) 2 ∧ vp_in (eg_gi M 127 (nI 2 * (eg_gi M 131 (eg_gi M 151 x3.toNatClampNeg).toNatClampNeg)).toNatClampNeg) 16 ∧ vp_in (eg_gi M 127 (nI 2 * (eg_gi M 131 (eg_gi M 151 x3.toNatClampNeg).toNatClampNeg) + nI 1).toNatClampNeg) 16) ∧ ∃ CL, m_rr M x2 CL))
  (l0 : ((eg_gi M 121 47) ≤ x3 ∧ x2 = (-nI 1)) → eg_T wd k_X12_tellGrants Qp 61 0 0 [some (.ref 121), o1, some (.int x2), some (.long (lN 100000)), none, some (.int (nI 0))] [] M)
  (l1 : ((eg_gi M 121 47) ≤ x3 ∧ ¬ x2 = (-nI 1)) → eg_T wd k_X12_tellGrants Qp 61 0 0 [some (.ref 121), o1, some (.int x2), some (.long ((eg_gi M 142 x2.toNatClampNeg).toInt64)), none, some (.int (nI 0))] [] M)
  (l2 : (¬ (eg_gi M 121 47) ≤ x3) → ∀ (g_1 : Nat → Int64) (f_1 : Nat → Int64) (v_1 : Int64), (∀ CL, m_rr M x2 CL → v_1 = if eg_gi M 130 (eg_gi M 151 x3.toNatClampNeg).toNatClampNeg = nI 1 then p_cla (m_vv M (eg_gi M 151 x3.toNatClampNeg).toNatClampNeg x3.toNatClampNeg) CL else lN 0) → eg_T wd k_X12_tellGrants Qp 32 0 0 [some (.ref 121), o1, some (.int x2), some (.int x3), o4, o5] [.long v_1, .int x3, .ref 152] (eg_rl (eg_rl M 149 g_1) 150 f_1)) :
  eg_T wd k_X12_tellGrants Qp 13 0 0 [some (.ref 121), o1, some (.int x2), some (.int x3), o4, o5] [] M := by
  refine eg_T_run mk_X12_tellGrants (cut := [5, 13, 32, 61, 75]) 49 ?_
  refine And.intro (fun (c1 : (eg_gi M 121 47) ≤ x3) => ?_) (fun (c1 : ¬ (eg_gi M 121 47) ≤ x3) => ?_)
  · skip
    refine And.intro (fun (c2 : x2 = (-nI 1)) => ?_) (fun (c2 : ¬ x2 = (-nI 1)) => ?_)
    · skip
      show eg_T wd k_X12_tellGrants Qp 61 0 0 [some (.ref 121), o1, some (.int x2), some (.long (lN 100000)), none, some (.int (nI 0))] [] M
      exact l0 ⟨c1, c2⟩
    · skip
      refine And.intro (show vp_in x2 8 from ?_) ?_
      · exact g0 c1 c2
      show eg_T wd k_X12_tellGrants Qp 61 0 0 [some (.ref 121), o1, some (.int x2), some (.long ((eg_gi M 142 x2.toNatClampNeg).toInt64)), none, some (.int (nI 0))] [] M
      exact l1 ⟨c1, c2⟩
  · skip
    refine And.intro (show (vp_in x3 200 ∧ (∀ j, j ≤ x3.toNatClampNeg → vp_in (eg_gi M 151 j) 200) ∧ (eg_gi M 130 (eg_gi M 151 x3.toNatClampNeg).toNatClampNeg = nI 1 → vp_in (eg_gi M 131 (eg_gi M 151 x3.toNatClampNeg).toNatClampNeg) 24 ∧ vp_in (eg_gi M 133 (eg_gi M 151 x3.toNatClampNeg).toNatClampNeg) 2 ∧ vp_in (eg_gi M 127 (nI 2 * (eg_gi M 131 (eg_gi M 151 x3.toNatClampNeg).toNatClampNeg)).toNatClampNeg) 16 ∧ vp_in (eg_gi M 127 (nI 2 * (eg_gi M 131 (eg_gi M 151 x3.toNatClampNeg).toNatClampNeg) + nI 1).toNatClampNeg) 16) ∧ ∃ CL, m_rr M x2 CL) from ?_) ?_
    · exact g1 c1
    intro g_1 f_1 v_1 ha_1
    show eg_T wd k_X12_tellGrants Qp 32 0 0 [some (.ref 121), o1, some (.int x2), some (.int x3), o4, o5] [.long v_1, .int x3, .ref 152] (eg_rl (eg_rl M 149 g_1) 150 f_1)
    exact l2 c1 g_1 f_1 v_1 ha_1

set_option maxRecDepth 100000 in
theorem st_X12_tellGrants_32 {Qp : eg_P} {M : eg_M} (o1 : Option Value) (x2 : Int32) (x3 : Int32) (o4 : Option Value) (o5 : Option Value) (s0 : Int64) (s1 : Int32)
  (g0 : (vp_in s1 200))
  (l0 : eg_T wd k_X12_tellGrants Qp 13 0 0 [some (.ref 121), o1, some (.int x2), some (.int (x3 + (nI 1))), o4, o5] [] (eg_sl M 152 s1.toNatClampNeg s0)) :
  eg_T wd k_X12_tellGrants Qp 32 0 0 [some (.ref 121), o1, some (.int x2), some (.int x3), o4, o5] [.long s0, .int s1, .ref 152] M := by
  refine eg_T_run mk_X12_tellGrants (cut := [5, 13, 32, 61, 75]) 49 ?_
  refine And.intro (show vp_in s1 200 from ?_) ?_
  · exact g0
  show eg_T wd k_X12_tellGrants Qp 13 0 0 [some (.ref 121), o1, some (.int x2), some (.int (x3 + (nI 1))), o4, o5] [] (eg_sl M 152 s1.toNatClampNeg s0)
  exact l0

set_option maxRecDepth 100000 in
theorem st_X12_tellGrants_61 {Qp : eg_P} {M : eg_M} (o1 : Option Value) (o2 : Option Value) (x3 : Int64) (x5 : Int32)
  (g0 : (¬ ((nI 9) < x5)) → (eg_cn (eg_gi M 121 47) 200 ∧ (∀ i, i < (eg_gi M 121 47).toNatClampNeg → vp_in (eg_gi M 151 i) 200) ∧ (∃ P, P < 2 ^ 20 ∧ x3 = lN P) ∧ ∀ i, i < (eg_gi M 121 47).toNatClampNeg → ∃ v, v < 2 ^ 24 ∧ eg_gl M 152 i = lN v))
  (l0 : ((nI 9) < x5) → Qp (.inl none) M)
  (l1 : (¬ (nI 9) < x5) → ∀ (g_1 : Nat → Int64) (o_1 : Nat → Int64), ((∀ i, i ∈ m_yr M x5 → g_1 i = lN (g_gr (lnat x3) (m_cn M) (m_yr M x5) i)) ∧ ∀ i, ¬ i ∈ m_yr M x5 → g_1 i = eg_gl M 153 i) → eg_T wd k_X12_tellGrants Qp 75 0 0 [some (.ref 121), o1, o2, some (.long x3), none, some (.int x5)] [] (eg_rl (eg_rl M 153 g_1) 154 o_1)) :
  eg_T wd k_X12_tellGrants Qp 61 0 0 [some (.ref 121), o1, o2, some (.long x3), none, some (.int x5)] [] M := by
  refine eg_T_run mk_X12_tellGrants (cut := [5, 13, 32, 61, 75]) 49 ?_
  refine And.intro (fun (c1 : (nI 9) < x5) => ?_) (fun (c1 : ¬ (nI 9) < x5) => ?_)
  · skip
    show Qp (.inl none) M
    exact l0 c1
  · skip
    refine And.intro (show (eg_cn (eg_gi M 121 47) 200 ∧ (∀ i, i < (eg_gi M 121 47).toNatClampNeg → vp_in (eg_gi M 151 i) 200) ∧ (∃ P, P < 2 ^ 20 ∧ x3 = lN P) ∧ ∀ i, i < (eg_gi M 121 47).toNatClampNeg → ∃ v, v < 2 ^ 24 ∧ eg_gl M 152 i = lN v) from ?_) ?_
    · exact g0 c1
    intro g_1 o_1 ha_1
    show eg_T wd k_X12_tellGrants Qp 75 0 0 [some (.ref 121), o1, o2, some (.long x3), none, some (.int x5)] [] (eg_rl (eg_rl M 153 g_1) 154 o_1)
    exact l1 c1 g_1 o_1 ha_1

set_option maxRecDepth 100000 in
theorem st_X12_tellGrants_75 {Qp : eg_P} {M : eg_M} (o1 : Option Value) (o2 : Option Value) (x3 : Int64) (x5 : Int32)
  (l0 : eg_T wd k_X12_tellGrants Qp 61 0 0 [some (.ref 121), o1, o2, some (.long x3), none, some (.int (x5 + (nI 1)))] [] M) :
  eg_T wd k_X12_tellGrants Qp 75 0 0 [some (.ref 121), o1, o2, some (.long x3), none, some (.int x5)] [] M := by
  refine eg_T_run mk_X12_tellGrants (cut := [5, 13, 32, 61, 75]) 49 ?_
  show eg_T wd k_X12_tellGrants Qp 61 0 0 [some (.ref 121), o1, o2, some (.long x3), none, some (.int (x5 + (nI 1)))] [] M
  exact l0

def s_X12_tellGrants : eg_S := fun argv M Qp => match argv with
  | [.ref 121, .int k] => (m_EV M ∧ m_RK M k) ∧ ∀ (L : List Nat) (f : Nat → Int32) (v : Nat → Int64) (s : Nat → Int64) (cl : Nat → Int64) (g : Nat → Int64) (o : Nat → Int64), (m_TG M k L f cl g) → Qp (.inl none) (eg_rl (eg_rl (eg_rl (eg_rl (eg_rl (m_L M L f) 149 v) 150 s) 152 cl) 153 g) 154 o)
  | _ => False
theorem mo_X12_tellGrants : eg_mono s_X12_tellGrants := by
  intro argv M Q Q' h
  unfold s_X12_tellGrants
  split
  · exact fun z => ⟨z.1, fun L f v s cl g o y => h _ _ (z.2 L f v s cl g o y)⟩
  · exact id
theorem sz_X12_tellGrants : ∀ argv M Qp, s_X12_tellGrants argv M Qp → (eg_ls0 argv).length ≤ 6 := by
  intro argv M Qp h
  unfold s_X12_tellGrants at h
  split at h
  · exact Nat.le_of_ble_eq_true rfl
  · exact h.elim
theorem sr_X12_tellGrants : ∀ argv M Qp, s_X12_tellGrants argv M Qp → ∃ p0 As, argv = .ref p0 :: As ∧ eg_isO wd M p0 12 = true := by
  intro argv M Qp h
  unfold s_X12_tellGrants at h
  split at h
  · exact ⟨_, _, rfl, rfl⟩
  · exact h.elim
set_option maxRecDepth 100000 in
set_option maxHeartbeats 1000000 in
theorem T_X12_tellGrants {argv : List Value} {M : eg_M} {Qp : eg_P} (h : s_X12_tellGrants argv M Qp) : eg_T wd k_X12_tellGrants Qp 0 0 0 (eg_lsN 6 argv) [] M := by
  unfold s_X12_tellGrants at h
  split at h
  · rename_i k
    obtain ⟨hp, hq⟩ := h
    obtain ⟨⟨⟨n, hn, hN⟩, hE⟩, hR, ⟨CL, hCL⟩, P, hP, hpot⟩ := hp
    rw [hN, n_c (by omega)] at hE
    refine st_X12_tellGrants_0 _ ⟨⟨n, hn, hN⟩, fun e he _ => ?_⟩ (fun L f ⟨hL, hf⟩ => ?_)
    · rw [hN, n_c (by omega)] at he
      exact (hE e he).2.1
    have hlen : L.length ≤ n := by
      have := hL.1
      rw [hN, n_c (by omega)] at this
      exact this
    have hmem : ∀ i (h : i < L.length), L[i] < n := fun i h => by
      have := ((hL.2.2 L[i]).mp (List.getElem_mem h)).1
      rw [hN, n_c (by omega)] at this
      exact this
    obtain ⟨hok, hl12⟩ := m_rr_ok hCL
    have ra1 : m_ra (m_L M L f) k (eg_gi M 121 35).toNatClampNeg = m_ra M k (eg_gi M 121 35).toNatClampNeg := by
      generalize (eg_gi M 121 35).toNatClampNeg = q
      induction q with
      | zero => rfl
      | succ q ih => rw [m_ra, m_ra, ih]; rfl
    have hCL1 : m_rr (m_L M L f) (m_ra M k (eg_gi M 121 35).toNatClampNeg) CL := hCL
    have s61 : ∀ (v s cl : Nat → Int64), (∀ i, i < L.length → cl i = m_clm (m_L M L f) CL i) → ∀ y (x : (Nat → Int64) × (Nat → Int64)), y ≤ 10 → (∀ i (h : i < L.length), eg_gi M 130 L[i] = nI 1 → ∀ z, z < y → eg_gi M 136 L[i] / nI 360 = nI z → x.1 i = lN (g_gr P (fun j => lnat (cl j)) (m_yr (m_L M L f) (nI z)) i)) → ∀ o1 o2 : Option Value, eg_T wd k_X12_tellGrants Qp 61 0 0 [some (.ref 121), o1, o2, some (.long (lN P)), none, some (.int (nI y))] [] (eg_rl (eg_rl (eg_rl (eg_rl (eg_rl (m_L M L f) 149 v) 150 s) 152 cl) 153 x.1) 154 x.2) := by
      intro v s cl hcl
      refine eg_for ?_
      intro y ⟨g, o⟩ hy hI kk o1 o2
      have st := st_X12_tellGrants_61 (Qp := Qp) (M := eg_rl (eg_rl (eg_rl (eg_rl (eg_rl (m_L M L f) 149 v) 150 s) 152 cl) 153 g) 154 o) o1 o2 (lN P) (nI y)
      have r47 : eg_gi (m_L M L f) 121 47 = nI L.length := rfl
      have r151 : ∀ i, eg_gi (m_L M L f) 151 i = f i := fun _ => rfl
      have eyr : m_yr (eg_rl (eg_rl (eg_rl (eg_rl (eg_rl (m_L M L f) 149 v) 150 s) 152 cl) 153 g) 154 o) (nI y) = m_yr (m_L M L f) (nI y) := m_yr_of rfl _
      have ecn : m_cn (eg_rl (eg_rl (eg_rl (eg_rl (eg_rl (m_L M L f) 149 v) 150 s) 152 cl) 153 g) 154 o) = fun j => lnat (cl j) := rfl
      simp (disch := omega) only [eyr, ecn, rl_gi, r47, r151, rl_g, if_true, if_false, Nat.reduceEqDiff, n_c, n_lt, Nat.not_lt, lnat_lN] at st
      refine st (fun z => ⟨⟨L.length, by omega, rfl⟩, fun i hi => ?_, ⟨P, hP, rfl⟩, fun i hi => ?_⟩) (fun z => ?_) (fun z g' o' hg' => ?_)
      · rw [hf i hi]
        exact vp_in_nI (by have := hmem i hi; omega) (by decide)
      · rw [hcl i hi]
        unfold m_clm
        split
        · obtain ⟨w, hw, e⟩ := p_cla_v (m_vv (m_L M L f) (eg_gi (m_L M L f) 151 i).toNatClampNeg i) CL
          exact ⟨w, by omega, e⟩
        · exact ⟨0, by decide, rfl⟩
      · refine hq L f v s cl g o ⟨hL, hf, fun CL' hCL' => ?_, fun i hi hk => ?_⟩
        · rw [m_rr_inj hCL' hCL]
          exact hcl
        · have hd := (hE _ (hmem i hi)).1
          obtain ⟨d, hd, ed⟩ := vp_in_of hd (by decide)
          have e : eg_gi M 136 L[i] / nI 360 = nI (d / 360) := by
            rw [ed]
            exact pk_div (by omega) (by decide) (by decide)
          rw [e, hpot, lnat_lN (by omega)]
          exact hI i hi hk (d / 360) (by omega) e
      · have e9 : ∀ (X : eg_M) (a b c d : Nat → Int64), eg_rl (eg_rl (eg_rl (eg_rl X 153 a) 154 b) 153 c) 154 d = eg_rl (eg_rl X 153 c) 154 d := by
          intro X a b c d
          unfold eg_rl
          refine Prod.ext rfl (Prod.ext rfl (Prod.ext ?_ rfl))
          funext q
          by_cases h1 : q = 154
          · simp [h1]
          · by_cases h2 : q = 153 <;> simp [h1, h2]
        rw [e9]
        refine st_X12_tellGrants_75 _ _ _ _ ?_
        rw [n_s]
        refine kk (g', o') (by omega) (fun i hi hk z' hz' ez => ?_) o1 o2
        by_cases c : z' = y
        · subst c
          refine hg'.1 i ?_
          unfold m_yr
          rw [List.mem_filter, List.mem_range, r47, n_c (by omega)]
          refine ⟨hi, decide_eq_true ?_⟩
          show eg_gi M 130 (f i).toNatClampNeg = nI 1 ∧ eg_gi M 136 (f i).toNatClampNeg / nI 360 = nI z'
          rw [hf i hi, n_c (by have := hmem i hi; omega)]
          exact ⟨hk, ez⟩
        · show g' i = _
          rw [hg'.2 i ?_]
          · exact hI i hi hk z' (by omega) ez
          · unfold m_yr
            rw [List.mem_filter]
            rintro ⟨_, w⟩
            have w := (of_decide_eq_true w).2
            have w : eg_gi M 136 (f i).toNatClampNeg / nI 360 = nI y := w
            rw [hf i hi, n_c (by have := hmem i hi; omega), ez] at w
            exact c ((n_eq (by omega) (by omega)).mp w)
    have lp : ∀ i (x : (Nat → Int64) × (Nat → Int64) × (Nat → Int64)), i ≤ L.length → (∀ j, j < i → x.2.2 j = m_clm (m_L M L f) CL j) → ∀ o4 o5 : Option Value, eg_T wd k_X12_tellGrants Qp 13 0 0 [some (.ref 121), some (.int k), some (.int (m_ra M k (eg_gi M 121 35).toNatClampNeg)), some (.int (nI i)), o4, o5] [] (eg_rl (eg_rl (eg_rl (m_L M L f) 149 x.1) 150 x.2.1) 152 x.2.2) := by
      refine eg_for ?_
      intro i ⟨v, s, cl⟩ hi hI kk o4 o5
      have hI : ∀ j, j < i → cl j = m_clm (m_L M L f) CL j := hI
      have st := st_X12_tellGrants_13 (Qp := Qp) (M := eg_rl (eg_rl (eg_rl (m_L M L f) 149 v) 150 s) 152 cl) (some (.int k)) (m_ra M k (eg_gi M 121 35).toNatClampNeg) (nI i) o4 o5
      have r47 : eg_gi (m_L M L f) 121 47 = nI L.length := rfl
      have r151 : ∀ i, eg_gi (m_L M L f) 151 i = f i := fun _ => rfl
      have r142 : ∀ i, eg_gi (m_L M L f) 142 i = eg_gi M 142 i := fun _ => rfl
      have r130 : ∀ i, eg_gi (m_L M L f) 130 i = eg_gi M 130 i := fun _ => rfl
      have r131 : ∀ i, eg_gi (m_L M L f) 131 i = eg_gi M 131 i := fun _ => rfl
      have r133 : ∀ i, eg_gi (m_L M L f) 133 i = eg_gi M 133 i := fun _ => rfl
      have r127 : ∀ i, eg_gi (m_L M L f) 127 i = eg_gi M 127 i := fun _ => rfl
      simp (disch := omega) only [m_rr_of (show (eg_rl (eg_rl (eg_rl (m_L M L f) 149 v) 150 s) 152 cl).2.1 = (m_L M L f).2.1 from rfl), rl_gi, r47, r151, r142, r130, r131, r133, r127, n_c, n_le, n_s, n_in, Nat.not_le] at st
      have fin : ∀ p : Int64, p = m_pot M k → L.length ≤ i → eg_T wd k_X12_tellGrants Qp 61 0 0 [some (.ref 121), some (.int k), some (.int (m_ra M k (eg_gi M 121 35).toNatClampNeg)), some (.long p), none, some (.int (nI 0))] [] (eg_rl (eg_rl (eg_rl (m_L M L f) 149 v) 150 s) 152 cl) := by
        intro p hp' z
        rw [hp', hpot]
        have := s61 v s cl (fun j hj => hI j (by omega)) 0 (eg_gl (eg_rl (eg_rl (eg_rl (m_L M L f) 149 v) 150 s) 152 cl) 153, eg_gl (eg_rl (eg_rl (eg_rl (m_L M L f) 149 v) 150 s) 152 cl) 154) (by omega) (fun _ _ _ z hz => absurd hz (Nat.not_lt_zero _)) (some (.int k)) (some (.int (m_ra M k (eg_gi M 121 35).toNatClampNeg)))
        have e1 := rl_id (eg_rl (eg_rl (eg_rl (m_L M L f) 149 v) 150 s) 152 cl) 153
        have e2 := rl_id (eg_rl (eg_rl (eg_rl (m_L M L f) 149 v) 150 s) 152 cl) 154
        rw [e1, e2] at this
        exact this
      refine st (fun _ z => ?_) (fun z => ⟨by omega, fun j hj => ?_, fun hk => ?_, ⟨CL, hCL1⟩⟩) (fun z => ?_) (fun z => ?_) (fun z v' s' c' hc' => ?_)
      · rcases m_ra_in M k (eg_gi M 121 35).toNatClampNeg with h | ⟨r, h, e⟩
        · exact absurd h z
        · rw [e]
          obtain ⟨q, hq8, eq⟩ := hR
          rw [eq, n_c (by omega)] at h
          exact vp_in_nI (by omega) (by decide)
      · rw [hf j (by omega)]
        exact vp_in_nI (by have := hmem j (by omega); omega) (by decide)
      · rw [hf i z, n_c (by have := hmem i z; omega)] at hk ⊢
        have h := hE _ (hmem i z)
        exact ⟨h.2.1, h.2.2.2.2 (by rw [hk]; decide), h.2.2.1, h.2.2.2.1⟩
      · refine fin _ ?_ z.1
        rw [m_pot, if_pos z.2]
      · refine fin _ ?_ z.1
        rw [m_pot, if_neg z.2]
      · have hc2 := hc' CL hCL1
        have e9 : ∀ (X : eg_M) (a b c d e : Nat → Int64), eg_rl (eg_rl (eg_rl (eg_rl (eg_rl X 149 a) 150 b) 152 c) 149 d) 150 e = eg_rl (eg_rl (eg_rl X 149 d) 150 e) 152 c := by
          intro X a b c d e
          unfold eg_rl
          refine Prod.ext rfl (Prod.ext rfl (Prod.ext ?_ rfl))
          funext q
          by_cases h1 : q = 149
          · simp [h1]
          · by_cases h2 : q = 150
            · simp [h2]
            · by_cases h3 : q = 152 <;> simp [h1, h2, h3]
        rw [e9]
        refine st_X12_tellGrants_32 _ _ _ _ _ _ _ (vp_in_nI (by omega) (by decide)) ?_
        rw [n_s, n_c (by omega), sl_rl]
        refine kk (v', s', fun j => if j = i then c' else cl j) z (fun j hj => ?_) o4 o5
        show (if j = i then c' else cl j) = _
        by_cases c : j = i
        · subst c
          rw [if_pos rfl]
          have e8 := p_cla_of (V := m_vv (eg_rl (eg_rl (eg_rl (m_L M L f) 149 v) 150 s) 152 cl) (f j).toNatClampNeg j) (V' := m_vv (m_L M L f) (f j).toNatClampNeg j) (fun q hq => m_vv_of (M := m_L M L f) (N := eg_rl (eg_rl (eg_rl (m_L M L f) 149 v) 150 s) 152 cl) rfl _ _ hq) hok
          unfold m_clm
          rw [r151, r130]
          rw [e8] at hc2
          exact hc2
        · rw [if_neg c]
          exact hI j (by omega)
    refine st_X12_tellGrants_5 _ _ _ _ _ hR ?_
    have := lp 0 (eg_gl M 149, eg_gl M 150, eg_gl M 152) (Nat.zero_le _) (fun j hj => absurd hj (Nat.not_lt_zero _)) none none
    have e : eg_rl (eg_rl (eg_rl (m_L M L f) 149 (eg_gl M 149)) 150 (eg_gl M 150)) 152 (eg_gl M 152) = m_L M L f := by
      have e1 := rl_id (m_L M L f) 149
      have e2 := rl_id (m_L M L f) 150
      have e3 := rl_id (m_L M L f) 152
      exact (congrArg (fun X => eg_rl (eg_rl X 150 (eg_gl M 150)) 152 (eg_gl M 152)) e1).trans ((congrArg (fun X => eg_rl X 152 (eg_gl M 152)) e2).trans e3)
    rw [e] at this
    rw [show m_ra (eg_ri (eg_si M 121 47 (nI L.length)) 151 f) k (eg_gi (eg_ri (eg_si M 121 47 (nI L.length)) 151 f) 121 35).toNatClampNeg = m_ra M k (eg_gi M 121 35).toNatClampNeg from ra1]
    exact this
    
  · exact h.elim
theorem de_X12_tellGrants : ∀ q ∈ k_X12_tellGrants.1, decode cX12_tellGrants q.1 = .ok q.2 := by decide +kernel
theorem me_X12_tellGrants (g : gl_T) : MT g yX12_tellGrants cX12_tellGrants 6 none ⟨4, 0, 0, 98⟩ 0 0 s_X12_tellGrants := by
  intro hl
  exact eg_met_of (k := k_X12_tellGrants) (by decide) rfl ⟨Nat.le_refl _, Nat.le_refl _⟩ rfl sz_X12_tellGrants de_X12_tellGrants (fun meth hn => (fc (eg_FL_of wd_c12 (by decide) lf_RX12_99 (fun h => absurd h (by decide))) (fc (eg_FL_of wd_c12 (by decide) lf_RX12_130 (fun h => absurd h (by decide))) (fc (eg_FL_of wd_c12 (by decide) lf_RX12_388 (fun h => absurd h (by decide))) (fn))))) (fun A s H hE => (fc (List.mem_cons_of_mem _ ll_RX12_435) (fn))) (fun p e s m args below meth c Q A ad0 N0 S0 hK hEx hA => (fc (mt_V hl S0 hK hEx hA (me_X12_rulesAt g) lm_RX12_404 li_X12_rulesAt lx_X12_rulesAt ln_RX12 lc_X12_rulesAt ⟨rfl, by decide, by decide, by decide +kernel⟩ ⟨rfl, rfl⟩ ⟨by decide, by decide⟩ (ci := 12) rfl rfl sr_X12_rulesAt (by decide)) (fc (mt_V hl S0 hK hEx hA (me_X12_lay g) lm_RX12_415 li_X12_lay lx_X12_lay ln_RX12 lc_X12_lay ⟨rfl, by decide, by decide, by decide +kernel⟩ ⟨rfl, rfl⟩ ⟨by decide, by decide⟩ (ci := 12) rfl rfl sr_X12_lay (by decide)) (fc (mt_V hl S0 hK hEx hA (me_X12_claimOf g) lm_RX12_432 li_X12_claimOf lx_X12_claimOf ln_RX12 lc_X12_claimOf ⟨rfl, by decide, by decide, by decide +kernel⟩ ⟨rfl, rfl⟩ ⟨by decide, by decide⟩ (ci := 12) rfl rfl sr_X12_claimOf (by decide)) (fc (mt_V hl S0 hK hEx hA (me_X12_share g) lm_RX12_437 li_X12_share lx_X12_share ln_RX12 lc_X12_share ⟨rfl, by decide, by decide, by decide +kernel⟩ ⟨rfl, rfl⟩ ⟨by decide, by decide⟩ (ci := 12) rfl rfl sr_X12_share (by decide)) (fn)))))) (fun p e s m args below meth c Qc XC A ad0 N0 P S0 hK hEx hA hlk hout hPX => (fn)) (fun argv M Qp h => T_X12_tellGrants h)

/-! PAIRS: about -/
def ty (N X : eg_M) : Prop := eg_gi X 121 35 = eg_gi N 23 2 ∧ eg_cn (eg_gi N 23 2) 8 ∧ (k_rt N 30 [] ∧ eg_gi N 30 1 = nI 100000 ∧ eg_gi N 30 2 = nI 20) ∧ ∀ i, i < (eg_gi N 23 2).toNatClampNeg → ∃ q CL, eg_gr N 24 i = some q ∧ eg_gi X 140 i = eg_gi N q 0 ∧ eg_gi X 142 i = eg_gi N q 1 ∧ eg_gi X 143 i = eg_gi N q 2 ∧ px_pr (eg_gi N q 1) ∧ k_rt N q (px_tx CL) ∧ m_ru X i CL ∧ ∀ c ∈ CL, px_ko c
theorem tx_k {N X : eg_M} (h : ty N X) (k : Int32) : ∀ i, i ≤ (eg_gi N 23 2).toNatClampNeg → (m_ra X k i = -nI 1 ∧ k_to N k i = 30) ∨ ∃ r, r < i ∧ m_ra X k i = nI r ∧ eg_gr N 24 r = some (k_to N k i)
  | 0, _ => Or.inl ⟨rfl, rfl⟩
  | i + 1, hi => by
    obtain ⟨q, CL, b1, b2, _⟩ := h.2.2.2 i (by omega)
    have e1 : m_ra X k (i + 1) = if k < eg_gi X 140 i then m_ra X k i else nI i := rfl
    have e2 : k_to N k (i + 1) = if k < eg_gi N q 0 then k_to N k i else q := by
      show (match eg_gr N 24 i with
        | some q => if k < eg_gi N q 0 then k_to N k i else q
        | none => k_to N k i) = _
      rw [b1]
    rw [e1, e2, b2]
    by_cases z : k < eg_gi N q 0
    · rw [if_pos z, if_pos z]
      rcases tx_k h k i (by omega) with y | ⟨r, y1, y2⟩
      · exact Or.inl y
      · exact Or.inr ⟨r, by omega, y2⟩
    · rw [if_neg z, if_neg z]
      exact Or.inr ⟨i, Nat.lt_succ_self i, rfl, b1⟩
/-- the text that counts on a day, to both -/
theorem tx_on {N X : eg_M} {k : Int32} (h : ty N X) {q : Nat} {CL : List (Int32 × List Int32)} (hg : eg_gr N 1 5 = some (k_to N k (eg_gi N 23 2).toNatClampNeg)) (ht : k_tx N q CL) : ∃ CM P, m_rr X (m_ra X k (eg_gi X 121 35).toNatClampNeg) CM ∧ CL = px_tx CM ∧ (∀ c ∈ CM, px_ko c) ∧ P < 2 ^ 20 ∧ m_pot X k = lN P ∧ k_pt N = P ∧ eg_gi N q 2 = if m_ra X k (eg_gi X 121 35).toNatClampNeg = -nI 1 then nI 20 else eg_gi X 143 (m_ra X k (eg_gi X 121 35).toNatClampNeg).toNatClampNeg := by
  obtain ⟨t1, t2, t3⟩ := ht
  have eq : q = k_to N k (eg_gi N 23 2).toNatClampNeg := by
    have : eg_ref (eg_sh wd N 1) N 1 5 = eg_gr N 1 5 := rfl
    rw [this, hg] at t1
    exact (Option.some.inj t1).symm
  have ep : k_pt N = lnat (eg_gi N q 1).toInt64 := by
    unfold k_pt
    rw [t1]
    rfl
  have hx := tx_k h k _ (Nat.le_refl _)
  rw [← eq] at hx
  obtain ⟨h1, ⟨cn, hcn, ecn⟩, ⟨s1, s2, s3⟩, h4⟩ := h
  have e35 : eg_gi X 121 35 = eg_gi N 23 2 := h1
  unfold m_pot
  rw [e35, ep]
  rcases hx with ⟨y1, y2⟩ | ⟨r, y1, y2, y3⟩
  · rw [y1, if_pos rfl, if_pos rfl, y2, s2, s3]
    rw [y2] at t3
    refine ⟨[], 100000, Or.inl ⟨rfl, rfl⟩, k_rt_inj t3 s1, fun c hc => absurd hc List.not_mem_nil, by decide, rfl, ?_, rfl⟩
    rw [nI_l (by decide), lnat_lN (by decide)]
  · obtain ⟨q', CM, b1, b2, b3, b4, b5, b6, b7, b8⟩ := h4 r y1
    rw [b1] at y3
    have eqq : q' = q := Option.some.inj y3
    subst eqq
    have hr8 : r < 8 := by
      rw [ecn, n_c (by omega)] at y1
      omega
    obtain ⟨P, hP, eP⟩ := b5
    rw [y2, if_neg (nI_m1 (by omega)), if_neg (nI_m1 (by omega)), n_c (by omega), b3, b4, eP]
    refine ⟨CM, P, Or.inr ⟨r, rfl, hr8, b7⟩, k_rt_inj t3 b6, b8, hP, nI_l (by omega), ?_, rfl⟩
    rw [nI_l (by omega), lnat_lN (by omega)]
/-- what the class looked at and the model: out of what stands alike -/
theorem ly_of {N X : eg_M} {k : Int32} (rX : r_A X) (hc : ∀ p j, ¬ p = 42 → ¬ (p = 1 ∧ j = 12) → eg_gi N p j = eg_gi X p j) (hr : ∀ p j, eg_gr N p j = eg_gr X p j) (h1 : N.1 = X.1) (hk : eg_gi N 1 4 = k) (hk2 : vp_in k 3600) : ly N X (eg_gi N 12 10).toNatClampNeg (eg_gi N 7 4).toNatClampNeg k ∧ ty N X := by
  obtain ⟨a1, a2, a3, a4, a5, a6, _⟩ := rX
  have hi : ∀ p j, ¬ p = 42 → ¬ p = 1 → eg_gi N p j = eg_gi X p j := fun p j z1 z2 => hc p j z1 (fun y => z2 y.1)
  obtain ⟨n, hn, en⟩ := a1.1.1.choose_spec.1
  obtain ⟨m, hm, em⟩ := a1.2.2.2.1
  obtain ⟨t, ht, et⟩ := a2.1
  have e12 : eg_gi N 12 10 = nI n := (hi 12 10 (by decide) (by decide)).trans en
  have e7 : eg_gi N 7 4 = nI m := (hi 7 4 (by decide) (by decide)).trans em
  constructor
  · rw [e12, e7, n_c (by omega), n_c (by omega)]
    refine ⟨⟨e12, hn, a4.1.trans en⟩, ⟨e7, hm, a3.2.1.trans em⟩, ⟨hk, hk2⟩, fun e he => ?_, fun c hc' => ?_⟩
    · have he2 : e < (eg_gi X 12 10).toNatClampNeg := by rw [en, n_c (by omega)]; exact he
      obtain ⟨f1, f2, f3, f4, f5, f6⟩ := a4.2 e he2
      rw [em, n_c (by omega)] at f4
      unfold ly_e
      rw [hi 13 e (by decide) (by decide), hi 14 e (by decide) (by decide), hi 15 e (by decide) (by decide), hi 16 e (by decide) (by decide), hi 17 e (by decide) (by decide), hi 18 e (by decide) (by decide), hi 19 e (by decide) (by decide), hi 20 e (by decide) (by decide), hi 21 e (by decide) (by decide), hi 11 _ (by decide) (by decide)]
      exact ⟨f1, f2, f3, f4, f5, f6, a1.1.2.2.2 e he2⟩
    · have hc2 : c < (eg_gi X 7 4).toNatClampNeg := by rw [em, n_c (by omega)]; exact hc'
      obtain ⟨b1, b2, b3, b4, b5, b6, _⟩ := a3.2.2 c hc2
      have tt : ∀ x, vp_in x (eg_gi X 2 4).toNatClampNeg → ∃ a, x = nI a ∧ ly_t N X a := fun x hx => by
        rw [et, n_c (by omega)] at hx
        obtain ⟨a, ha, ea⟩ := vp_in_of hx (by omega)
        obtain ⟨w1, w2, w3, w4, w5⟩ := a2.2.2 a (by rw [et, n_c (by omega)]; exact ha)
        refine ⟨a, ea, by omega, ?_⟩
        rw [hi 3 a (by decide) (by decide), hi 4 a (by decide) (by decide), hi 5 a (by decide) (by decide), hi 6 a (by decide) (by decide)]
        exact ⟨w1, w2, w3, w4, w5⟩
      unfold ly_c
      rw [hi 8 c (by decide) (by decide), hi 9 c (by decide) (by decide), hi 10 c (by decide) (by decide), hi 11 c (by decide) (by decide)]
      exact ⟨b1, b2, b3, b4, tt _ b5, tt _ b6⟩
  · obtain ⟨b1, ⟨b2, b3, b4⟩, b5⟩ := a6
    have e23 : eg_gi N 23 2 = eg_gi X 23 2 := hi 23 2 (by decide) (by decide)
    have htp : ∀ a, k_tp a → ∀ j, eg_gi N a j = eg_gi X a j := fun a ha j => hi a j (by unfold k_tp at ha; omega) (by unfold k_tp at ha; omega)
    unfold ty
    rw [e23]
    refine ⟨b1, a1.2.1.1.1, ⟨k_rt_ofR h1 (fun j => hr 30 j) htp b2, (hi 30 1 (by decide) (by decide)).trans b3, (hi 30 2 (by decide) (by decide)).trans b4⟩, fun i hi' => ?_⟩
    obtain ⟨q, CL, c1, c2, c3, c4, c5, c6, c7, c8, c9, c0⟩ := b5 i hi'
    have eq : ∀ j, eg_gi N q j = eg_gi X q j := fun j => hi q j (by omega) (by omega)
    exact ⟨q, CL, (hr 24 i).trans c1, by rw [eq]; exact c4, by rw [eq]; exact c5, by rw [eq]; exact c6, by rw [eq]; exact c7, k_rt_ofR h1 (fun j => hr q j) htp c8, c9, c0⟩
theorem m_EV_of {X : eg_M} (rX : r_A X) : m_EV X ∧ m_CH X := by
  obtain ⟨a1, a2, a3, a4, _⟩ := rX
  obtain ⟨n, hn, en⟩ := a1.1.1.choose_spec.1
  obtain ⟨m, hm, em⟩ := a1.2.2.2.1
  obtain ⟨t, ht, et⟩ := a2.1
  have t16 : (eg_gi X 2 4).toNatClampNeg ≤ 16 := by rw [et, n_c (by omega)]; exact ht
  constructor
  · refine ⟨⟨n, hn, a4.1.trans en⟩, fun e he => ?_⟩
    rw [a4.1] at he
    obtain ⟨⟨f1, f2, _, f4, _, _, f7, _⟩, _, _, g4, g5, _⟩ := a4.2 e he
    have g4' := g4
    rw [em, n_c (by omega)] at g4'
    obtain ⟨c, hc, ec⟩ := vp_in_of g4' (by omega)
    obtain ⟨b1, b2, b3, b4, b5, b6, _⟩ := a3.2.2 c (by rw [em, n_c (by omega)]; exact hc)
    rw [f1, f2, f4, f7, ec, n_m, n_s, n_c (by omega), n_c (by omega), b1, b2]
    exact ⟨a1.1.2.2.2 e he, vp_in_nI (by omega) (by decide), in_m t16 b5, in_m t16 b6, g5⟩
  · refine ⟨⟨m, hm, a3.2.1.trans em⟩, fun c hc => ?_⟩
    rw [a3.2.1] at hc
    obtain ⟨b1, b2, b3, b4, b5, b6, _⟩ := a3.2.2 c hc
    rw [b1, b2]
    exact ⟨in_m t16 b5, in_m t16 b6⟩
theorem m_RK_of {X : eg_M} (rX : r_A X) (k : Int32) : m_RK X k := by
  obtain ⟨a1, _, _, _, _, a6, _⟩ := rX
  obtain ⟨b1, _, b5⟩ := a6
  obtain ⟨t, ht, et⟩ := a1.2.1.1.1
  have e35 : eg_gi X 121 35 = nI t := b1.trans et
  refine ⟨⟨t, ht, e35⟩, ?_⟩
  unfold m_pot
  rw [e35, n_c (by omega)]
  rcases m_ra_in X k t with z | ⟨r, hr, er⟩
  · rw [z, if_pos rfl]
    exact ⟨⟨[], Or.inl ⟨rfl, rfl⟩⟩, 100000, by decide, rfl⟩
  · rw [er, if_neg (nI_m1 (by omega)), n_c (by omega)]
    obtain ⟨q, CL, c1, c2, c3, c4, c5, c6, ⟨P, hP, eP⟩, c8, c9, c0⟩ := b5 r (by rw [et, n_c (by omega)]; exact hr)
    exact ⟨⟨CL, Or.inr ⟨r, rfl, by omega, c9⟩⟩, P, hP, by rw [c5, eP]; exact nI_l (by omega)⟩
theorem ab_core {N X : eg_M} {n nC c : Nat} {k w d v v' : Int32} {L : List Nat} (h : ly N X n nC k) (t : ty N X) (hW : k_W N L) (hl : k_lkd N L) {q : Nat} {CL : List (Int32 × List Int32)} (ht : k_tx N q CL) (hc : c < nC) (hd : vp_in d 3600) (htold : ¬ k < eg_gi N 11 c)
    (hk : (w = nI 0 ∧ (k_al N (nI c) d → v = nI 1) ∧ (¬ k_al N (nI c) d → v = nI 0)) ∨ (w = nI 1 ∧ v = k_tn N (k_by N d (k_cL N true c L))) ∨ (w = nI 2 ∧ (k_al N (nI c) d → v = b2i (p_slpS (k_zw N (nI c) d (k_lb N d 200 (eg_gi N 38 c))) CL)) ∧ (¬ k_al N (nI c) d → v = nI 0)) ∨ (w = nI 3 ∧ v = nI (k_by N d (k_cL N true c L)).length) ∨ (w = nI 4 ∧ v = k_gs N (k_by N d (k_cL N false c L))))
    (hm : m_av X (nI c) w d k v') : v = v' := by
  obtain ⟨hn1, hn2⟩ := ly_n h
  have hC := h.2.1.2.1
  have hn200 := h.1.2.1
  have ic : (nI c).toNatClampNeg = c := n_c (by omega)
  obtain ⟨c1, c2, c3, c4, _⟩ := h.2.2.2.2 c hc
  have e34 : ∀ c, c < 24 → eg_gi N 34 c = k_bf N (nI c) n := fun c hc => by rw [← hn1]; exact hl.2.1 c hc
  unfold m_av at hm
  rw [ic, c4, if_neg (fun z => z (Int32.not_lt.mp htold)), hn2] at hm
  obtain ⟨A, f, hA, hf, m0, m1, m2, m3, m4⟩ := hm
  have hLo : k_ord (eg_gi N 19) n L := by rw [← hn1]; exact hW.2.2.1
  have eA := lay_eq h e34 hLo hA
  have hAn : ∀ e ∈ A, e < n := fun e he => ((hA.2.2 e).mp he).1
  have hs : A.Pairwise (dlt (eg_gi N 19)) := by rw [eA]; exact List.Pairwise.filter _ hLo.2.1
  have hup := up_eq h hA.1 hf hAn hs d
  have eR : k_by N d (k_cL N true c L) = ((A.take (m_up X A f d)).filter (vis N c)).reverse := by
    rw [cL_vis, ← eA]
    exact by_eq h hA.1 hf hAn hs d _
  have eG : k_by N d (k_cL N false c L) = ((A.take (m_up X A f d)).filter (gif N c)).reverse := by
    rw [cL_gif, ← eA]
    exact by_eq h hA.1 hf hAn hs d _
  have ts : m_ts (m_L X A f) (nI c) (m_up X A f d) = tsP N c (k_by N d (k_cL N true c L)) := by
    rw [eR]
    exact ts_eq h hf hAn hc _ hup.1
  have al := al_eq h hc (e34 c (by omega)) hd htold
  rcases hk with ⟨rfl, y1, y2⟩ | ⟨rfl, y1⟩ | ⟨rfl, y1, y2⟩ | ⟨rfl, y1⟩ | ⟨rfl, y1⟩
  · rw [m0 rfl]
    by_cases z : k_al N (nI c) d
    · rw [y1 z, al.mp z]
      rfl
    · rw [y2 z, Bool.eq_false_iff.mpr (fun y => z (al.mpr y))]
      rfl
  · rw [y1, m1 rfl, vr_6, ts, l64_32]
    rfl
  · obtain ⟨CM, P, r1, r2, r3, _⟩ := tx_on t (k := k) (by rw [← h.2.2.1.1]; exact hl.1) ht
    rw [m2 rfl CM r1]
    by_cases z : k_al N (nI c) d
    · rw [y1 z, al.mp z, r2, Bool.true_and, p_slp_cs _ _ r3]
      congr 1
      have ch := (hl.2.2.2 c (by omega)).1
      have hlen : (k_cL N true c L).length ≤ 200 := by
        rw [cL_vis, ← eA, List.length_reverse]
        exact Nat.le_trans (List.length_filter_le _ _) (Nat.le_trans hA.1 hn200)
      have hx := k_lb_chn (d := d) (k_cL N true c L) 200 (eg_gi N 38 c) hlen ch
      refine p_slp_of (fun j hj => zw_eq h hc ts hx (fun e he => ?_) hj) (m_rr_ok r1).1
      rw [eR] at he
      have := hAn e (List.mem_of_mem_take (List.mem_filter.mp (List.mem_reverse.mp he)).1)
      omega
    · rw [y2 z, Bool.eq_false_iff.mpr (fun y => z (al.mpr y))]
      rfl
  · rw [y1, m3 rfl, vr_9, ts, l64_32]
    rfl
  · have hct : ∀ e ∈ A, ¬ eg_gi N 13 e = 0 := fun e he => by
      rw [eA] at he
      have := (List.mem_filter.mp he).2
      unfold k_ct at this
      exact (decide_eq_true_iff.mp this).1
    rw [y1, m4 rfl, ge_eq h hf hAn hct _ hup.1, geP_eq, eG]
abbrev ps_lk : vf_K := [(1, some 4), (1, some 12), (1, some 5), (34, none), (35, none), (36, none), (37, none), (38, none), (39, none), (44, none), (45, none), (177, none)]
theorem lk_A {M N : eg_M} {w : Int64} (hA : r_A M) (hI : k_I N) (hf : vf ps_lk M N) : r_A (eg_sl N 177 0 w) := by
  have hf2 : vf ps_lk M (eg_sl N 177 0 w) := vf_sl hf rfl
  exact rA_k hf2 hA (Or.inr (kp_I (vf_sm (ps := [(177, none)]) (vf_sl vf_0 rfl) rfl) hI)) (Or.inl rfl) (Or.inl rfl) (Or.inl rfl) (Or.inl rfl) (Or.inl rfl) (Or.inl rfl) (Or.inl rfl) (Or.inl rfl) (Or.inl rfl) (Or.inl rfl) (Or.inl rfl)
theorem vf_nwl {M : eg_M} {k : Int32} {u : k_U} : vf ps_lk M (k_nw M k u) := vf_ri (vf_ri (vf_ri (vf_ri (vf_ri (vf_ri (vf_sr (vf_si (vf_si vf_0 rfl) rfl) rfl) rfl) rfl) rfl) rfl) rfl) rfl
abbrev ps_sc : vf_K := [(121, some 1), (121, some 47), (151, none), (149, none), (150, none), (152, none), (153, none), (154, none)]
theorem sc_A {X Y : eg_M} (rX : r_A X) (h : m_sc (eg_si X 121 1 (nI 0)) Y) : r_A Y ∧ eg_gl Y 177 0 = eg_gl X 177 0 ∧ eg_gi Y 121 1 = nI 0 := by
  obtain ⟨q, f, v, s, cl, g, o, rfl⟩ := h
  have hf : vf ps_sc X (eg_rl (eg_rl (eg_rl (eg_rl (eg_rl (eg_ri (eg_si (eg_si X 121 1 (nI 0)) 121 47 q) 151 f) 149 v) 150 s) 152 cl) 153 g) 154 o) := vf_rl (vf_rl (vf_rl (vf_rl (vf_rl (vf_ri (vf_si (vf_si vf_0 rfl) rfl) rfl) rfl) rfl) rfl) rfl) rfl
  refine ⟨rA_k hf rX (Or.inl rfl) (Or.inl rfl) (Or.inl rfl) (Or.inl rfl) (Or.inl rfl) (Or.inl rfl) (Or.inl rfl) (Or.inl rfl) (Or.inl rfl) (Or.inl rfl) (Or.inl rfl) (Or.inl rfl), (hf.2 177 0 rfl).2.1, ?_⟩
  simp [rl_gi, ri_g, si_g]
theorem pr_about (a b c d : Int32) : pr ag_i hNI s_X11_about s_X12_about [.int a, .int b, .int c, .int d] := by
  intro M hA
  have h24 := hA.1.2.2.2.1
  have e4 : eg_gi M 121 4 = eg_gi M 7 4 := hA.2.2.1.2.1
  have e2 : eg_gi M 121 2 = eg_gi M 0 8 := hA.2.2.1.1
  have ha := ix_cm (c := a) (by decide) h24
  have z1 : ((¬ a < nI 0 ∧ ¬ (eg_gi M 7 4 - nI 1) < a) ∧ (¬ b < nI 0 ∧ ¬ nI 4 < b) ∧ (¬ c < nI 0 ∧ ¬ nI 3599 < c)) ↔ ((¬ a < 0 ∧ ¬ eg_gi M 7 4 ≤ a) ∧ (¬ b < 0 ∧ ¬ nI 4 < b) ∧ ¬ c < nI 0 ∧ ¬ nI 3599 < c) := and_congr ha Iff.rfl
  have z2 : (¬ d < nI 0 ∧ ¬ eg_gi M 0 8 < d) ↔ (¬ d < 0 ∧ d ≤ eg_gi M 0 8) := and_congr Iff.rfl Int32.not_lt
  have mdl : ∀ X : eg_M, r_A X → eg_gi X 121 4 = eg_gi M 7 4 → eg_gi X 121 2 = eg_gi M 0 8 → ∀ Qp : eg_P, ((¬ ((¬ a < nI 0 ∧ ¬ (eg_gi M 7 4 - nI 1) < a) ∧ (¬ b < nI 0 ∧ ¬ nI 4 < b) ∧ (¬ c < nI 0 ∧ ¬ nI 3599 < c)) → Qp (.inl (some (.int (nI 0)))) (eg_si X 121 1 (nI 1))) ∧ (((¬ a < nI 0 ∧ ¬ (eg_gi M 7 4 - nI 1) < a) ∧ (¬ b < nI 0 ∧ ¬ nI 4 < b) ∧ (¬ c < nI 0 ∧ ¬ nI 3599 < c)) → ¬ (¬ d < nI 0 ∧ ¬ eg_gi M 0 8 < d) → Qp (.inl (some (.int (nI 0)))) (eg_si X 121 1 (nI 2))) ∧ (((¬ a < nI 0 ∧ ¬ (eg_gi M 7 4 - nI 1) < a) ∧ (¬ b < nI 0 ∧ ¬ nI 4 < b) ∧ (¬ c < nI 0 ∧ ¬ nI 3599 < c)) → (¬ d < nI 0 ∧ ¬ eg_gi M 0 8 < d) → ∀ v Y, m_sc (eg_si X 121 1 (nI 0)) Y → m_av X a b c d v → Qp (.inl (some (.int v))) Y)) → s_X12_about [.ref 121, .int a, .int b, .int c, .int d] X Qp := by
    intro X rX x4 x2 Qp ⟨q1, q2, q3⟩
    refine ⟨⟨(m_EV_of rX).1, (m_EV_of rX).2, fun _ => m_RK_of rX d⟩, fun v Y hY => ?_⟩
    rw [x4, x2, ← z1, ← z2] at hY
    rcases hY with ⟨y, rfl, rfl⟩ | ⟨y, y2, rfl, rfl⟩ | ⟨y, y2, y3, y4⟩
    · exact q1 y
    · exact q2 y y2
    · exact q3 y y2 v Y y3 y4
  refine ⟨hA.1, fun oo N hN w => ?_⟩
  rcases hN with ⟨y, rfl, rfl⟩ | ⟨y, y2, rfl, rfl⟩ | ⟨y, y2, hN⟩
  · exact mdl _ (rA_w hA) e4 e2 _ ⟨fun _ => ⟨rA_c hA, rfl, ag_NI1 rfl⟩, fun z => absurd z y, fun z => absurd z y⟩
  · exact mdl _ (rA_w hA) e4 e2 _ ⟨fun z => absurd y z, fun _ _ => ⟨rA_c hA, rfl, ag_NI2 rfl⟩, fun _ z => absurd z y2⟩
  · obtain ⟨ci, hci, hci2, rfl⟩ := k_idx (by decide) h24 y.1.1 y.1.2
    have hd : vp_in d 3600 := by
      obtain ⟨x, hx, rfl⟩ := k_day hA.1.2.2.2.2 y2.1 y2.2
      exact vp_in_nI hx (by decide)
    have hcd : vp_in c 3600 := rg_in (a := 0) (m := 3599) (by decide) (by decide) y.2.2.1 y.2.2.2
    have ic : (nI ci).toNatClampNeg = ci := n_c (by omega)
    rw [ic] at hN
    have e129 : eg_gi M 129 ci = eg_gi M 11 ci := (hA.2.2.1.2.2 ci hci2).2.2.2.1
    rcases hN with ⟨hN1, rfl, rfl⟩ | ⟨hN1, u, v, rfl, hab, hN2, hI⟩
    · refine mdl _ (rA_w hA) e4 e2 _ ⟨fun z => absurd y z, fun _ z => absurd y2 z, fun _ _ v Y hY hv => ?_⟩
      obtain ⟨s1, s2, s3⟩ := sc_A (rA_w hA) hY
      unfold m_av at hv
      rw [ic, show eg_gi (eg_sl N 177 0 w) 129 ci = eg_gi N 11 ci from e129, if_pos hN1] at hv
      exact ⟨s1, s2, ag_ok hv.symm s3⟩
    · have hf : vf ps_lk M N := by
        rcases hN2 with rfl | ⟨f, g, rfl⟩
        · exact vf_nwl
        · exact vf_rl (vf_rl vf_nwl rfl) rfl
      have rX : r_A (eg_sl N 177 0 w) := lk_A hA hI hf
      have hint : ∀ p j, eg_gi (k_nw M d u) p j = eg_gi (eg_sl N 177 0 w) p j ∧ eg_gr (k_nw M d u) p j = eg_gr (eg_sl N 177 0 w) p j := fun p j => by
        rcases hN2 with rfl | ⟨f, g, rfl⟩
        · exact ⟨rfl, rfl⟩
        · exact ⟨rfl, rfl⟩
      have h1 : (k_nw M d u).1 = (eg_sl N 177 0 w).1 := by
        rcases hN2 with rfl | ⟨f, g, rfl⟩
        · rfl
        · rfl
      obtain ⟨lyh, tyh⟩ := ly_of (N := k_nw M d u) (k := d) rX (fun p j _ _ => (hint p j).1) (fun p j => (hint p j).2) h1 rfl hd
      refine mdl _ rX ((hf.2 121 4 rfl).1.trans e4) ((hf.2 121 2 rfl).1.trans e2) _ ⟨fun z => absurd y z, fun _ z => absurd y2 z, fun _ _ v' Y hY hv => ?_⟩
      obtain ⟨s1, s2, s3⟩ := sc_A rX hY
      refine ⟨s1, s2, ag_ok ?_ s3⟩
      obtain ⟨L, q, CL, k1, k2, k3, k4⟩ := hab
      rw [ic] at k4
      refine ab_core lyh tyh k1 k2 k3 ?_ hcd ?_ k4 hv
      · rw [nw_gi (by omega) (Or.inl (by decide))]
        exact hci2
      · rw [nw_gi (by omega) (Or.inl (by decide))]
        exact Int32.not_lt.mpr hN1

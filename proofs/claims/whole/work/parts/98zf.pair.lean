/-! PAIRS: pair -/
section RHO
variable {ρ ρ' : Nat → Nat → Int32} {F S : List Nat}
theorem f_my_c (he : ∀ t o, t < 16 → ρ t o = ρ' t o) {t o : Nat} (ht : t < 16) (ho : o < 16) : f_my ρ t o = f_my ρ' t o := by
  unfold f_my
  rw [he t o ht, he o t ho]
theorem f_bl_c (he : ∀ t o, t < 16 → ρ t o = ρ' t o) {p : Nat → Int32} {t o : Nat} (ht : t < 16) (ho : o < 16) : f_bl ρ p t o = f_bl ρ' p t o := by
  unfold f_bl f_wd
  rw [f_my_c he ht ho, he t o ht, he t _ ht, he o t ho, he o _ ho]
theorem f_ok_c (he : ∀ t o, t < 16 → ρ t o = ρ' t o) (hF : ∀ x ∈ F, x < 16) (hS : ∀ x ∈ S, x < 16) {p : Nat → Int32} (h : f_ok ρ F S p) : f_ok ρ' F S p := ⟨fun t ht => (h.1 t ht).imp id (fun ⟨o, ho, z1, z2, z3⟩ => ⟨o, ho, z1, z2, by rw [← f_my_c he (hF t ht) (hS o ho)]; exact z3⟩), h.2⟩
theorem f_st_c (he : ∀ t o, t < 16 → ρ t o = ρ' t o) (hF : ∀ x ∈ F, x < 16) (hS : ∀ x ∈ S, x < 16) {p : Nat → Int32} (h : f_st ρ F S p = true) : f_st ρ' F S p = true := by
  refine List.all_eq_true.mpr (fun t ht => List.all_eq_true.mpr (fun o ho => ?_))
  rw [← f_bl_c he (hF t ht) (hS o ho)]
  exact List.all_eq_true.mp (List.all_eq_true.mp h t ht) o ho
theorem f_st_p (hF : ∀ x ∈ F, x < 16) (hS : ∀ x ∈ S, x < 16) {p q : Nat → Int32} (he : ∀ y, y < 16 → q y = p y) (h : f_st ρ F S p = true) : f_st ρ F S q = true := by
  refine List.all_eq_true.mpr (fun t ht => List.all_eq_true.mpr (fun o ho => ?_))
  rw [f_bl_of (he t (hF t ht)) (he o (hS o ho))]
  exact List.all_eq_true.mp (List.all_eq_true.mp h t ht) o ho
end RHO
theorem ones_mem {x : Int32} {o : Nat} (ho : o < 16) : (x &&& (nI 1 <<< (nI o &&& 31)) = 0) ↔ o ∉ ones x 16 := by
  rw [bit_sh o ho x]
  unfold ones
  rw [List.mem_filter, List.mem_range]
  constructor
  · intro h z
    rw [h] at z
    exact Bool.noConfusion z.2
  · intro h
    exact Bool.eq_false_iff.mpr (fun z => h ⟨ho, z⟩)
/-- the class's friends are the model's -/
theorem pair_eq {M X Y : eg_M} {F S : List Nat} {K A : Nat → Int32} {c : Int32} {r g0 : Nat → Int32} (hW : g_W M) (wiX : r_wi X) (hY : yl X Y F S) (hds : m_ds Y F.length S.length) (hrh : ∀ t o, t < 16 → g_rh M t o = g_rh X t o) (hI : g_I M F S K A) (hd : ∀ t ∈ F, ¬ (K t = -nI 1 ∧ ¬ eg_gi M 98 t ≤ A t)) (hg0 : ∀ y, y < 16 → g0 y = -nI 1) {c0 : Int32} (hall : (c, r) = m_all Y F.length S.length (c0, g0)) : (m_pw Y r F.length).1 = F.countP (fun t => decide (¬ K t = -nI 1)) ∧ ∀ y, y < 16 → (m_pw Y r F.length).2 y = K y := by
  have hY' := hY
  obtain ⟨_, _, _, _, y5, y6, y7, y8, y9, y10, y11⟩ := hY'
  obtain ⟨k1, k2, k3⟩ := g_end hW y5 y6 hI hd
  have kX := f_ok_c hrh y5 y6 k1
  have sX := f_st_c hrh y5 y6 k2
  have hrh' : ∀ t o, t < 16 → g_rh X t o = g_rh M t o := fun t o ht => (hrh t o ht).symm
  have K0 : ∀ y, y < 16 → y ∉ F → y ∉ S → K y = -nI 1 := hI.2.2.2.1
  have pm : ∀ y, y < 16 → nob (eg_gi Y 175) y = -nI 1 := fun y hy => nob_m _ hy
  obtain ⟨g1, g2⟩ := gp_all hY wiX pm
  obtain ⟨q0, hq0, eq0⟩ := gp_mem y5 y6 y7 kX K0 F (nob (eg_gi Y 175)) y8 (fun x hx => hx) (fun y hy => ⟨fun _ => pm y hy, fun w => by
    rw [pm y hy]
    symm
    by_cases a : y ∈ F
    · exact absurd (Or.inl a) w
    · by_cases b : y ∈ S
      · rcases k1.2 y b with z | ⟨t, ht, z, _⟩
        · exact z
        · exact absurd (Or.inr ⟨t, ht, z⟩) w
      · exact K0 y hy a b⟩)
  have s0 : f_st (g_rh X) F S q0 = true := f_st_p y5 y6 eq0 sX
  have er : r = ((f_gp (g_rh X) S F (nob (eg_gi Y 175))).foldl (m_g1 Y F.length S.length) (c0, g0)).2 := by
    have := congrArg Prod.snd hall
    unfold m_all at this
    rw [g1] at this
    exact this
  obtain ⟨b1, b2⟩ := g1_best hY wiX hds (f_gp (g_rh X) S F (nob (eg_gi Y 175))) [] (c0, g0) (fun q hq => (g2 q hq).2) (fun y hy => Or.inl (hg0 y hy)) (fun t ht => Or.inl ⟨hg0 t (y5 t ht), fun q hq => absurd hq List.not_mem_nil⟩)
  rw [← er, List.nil_append] at b1
  rw [← er] at b2
  have rK : ∀ t ∈ F, r t = K t := fun t ht => by
    have t16 := y5 t ht
    rcases b1 t ht with ⟨z1, z2⟩ | ⟨q, hq, z1, z2, z3, z4⟩
    · rw [z1, ← eq0 t t16]
      exact (z2 q0 hq0 s0).symm
    · rcases (g2 q hq).1.1 t ht with w | ⟨o, ho, w1, w2, w3⟩
      · exact absurd w z3
      · obtain ⟨o', ho', e1, e2⟩ := k3 q (f_ok_c hrh' y5 y6 (g2 q hq).1) (f_st_c hrh' y5 y6 z1) t ht o ho w1
        have e3 := (z4 q0 hq0 s0).resolve_left (by rw [eq0 t t16, e1]; exact nI_ne (y6 o' ho'))
        rw [eq0 t t16, e1, w1, n_c (by have := y6 o' ho'; omega), n_c (by have := y6 o ho; omega), ← hrh t _ t16, ← hrh t _ t16] at e3
        have e4 : g_rh M t o = g_rh M t o' := Int32.le_antisymm (Int32.not_lt.mp e3) (Int32.not_lt.mp e2)
        have hn : ¬ g_rh M t o = -nI 1 := by
          rw [hrh t o t16]
          exact (decide_eq_true_iff.mp w3).1
        rw [z2, w1, e1, g_inj hW t16 (y6 o ho) (y6 o' ho') hn e4]
  have hr : ∀ t ∈ F, r t = -nI 1 ∨ ∃ o ∈ S, r t = nI o := fun t ht => by
    rw [rK t ht]
    exact (k1.1 t ht).imp id (fun ⟨o, ho, z, _⟩ => ⟨o, ho, z⟩)
  obtain ⟨p1, p2, p3⟩ := pw_eq hY hr F.length (Nat.le_refl _)
  rw [List.take_length] at p1 p3
  refine ⟨?_, fun y hy => ?_⟩
  · rw [p1]
    exact List.countP_congr (fun t ht => by rw [rK t ht])
  · by_cases a : y ∈ F
    · rw [p2 y a, rK y a]
    · rcases p3 y hy a with ⟨z1, z2⟩ | ⟨t, ht, z1, z2⟩
      · rw [z1, b2 y a, show (c0, g0).snd y = -nI 1 from hg0 y hy]
        symm
        by_cases b : y ∈ S
        · rcases k1.2 y b with w | ⟨t, ht, _, w⟩
          · exact w
          · exact absurd ((rK t ht).trans w) (z2 t ht)
        · exact K0 y hy a b
      · rw [z2]
        rw [rK t ht] at z1
        rcases k1.1 t ht with w | ⟨o, ho, w1, w2, _⟩
        · rw [w] at z1
          exact absurd z1.symm (nI_ne hy)
        · rw [z1] at w1
          rw [n16 hy (y6 o ho) w1]
          exact w2.symm
abbrev ps_pr : vf_K := [(119, none), (80, some 8), (117, none), (116, none), (177, none), (121, some 1), (121, some 80), (121, some 81), (121, some 83), (121, some 82), (172, none), (173, none), (174, none), (175, none)]
theorem pr_pair (a b : Int32) : pr ag_i [] s_X11_pair s_X12_pair [.int a, .int b] := by
  intro M hA
  have hT := hA.2.1.1
  obtain ⟨T, hT16, eT⟩ := hT
  have e3 : eg_gi M 121 3 = nI T := hA.2.1.2.1.trans eT
  have wi := hA.2.2.2.2.2.2.2.2.2.2.1
  have T16 : (eg_gi M 2 4).toNatClampNeg ≤ 16 := by rw [eT, n_c (by omega)]; exact hT16
  have kwi : k_wi M := fun t ht => ⟨(wi t ht).1, fun i hi => by
    obtain ⟨x, hx, ex⟩ := vp_in_of (in_m T16 ((wi t ht).2.2.2.1 i hi).2.1) (by decide)
    exact ⟨x, hx, ex⟩⟩
  refine ⟨⟨⟨T, hT16, eT⟩, kwi⟩, fun v N hN w => ?_⟩
  have pre : ∀ X : eg_M, eg_gi X 121 3 = nI T → (∀ t, eg_gi X 170 t = eg_gi M 170 t) → eg_cn (eg_gi X 121 3) 16 ∧ ∀ t, t < 16 → eg_cn (eg_gi X 170 t) 6 := fun X x1 x2 => ⟨⟨T, hT16, x1⟩, fun t ht => by rw [x2, (wi t ht).2.1]; exact (wi t ht).1⟩
  rcases hN with ⟨z, rfl, rfl⟩ | ⟨z, f, xp, hf, exp, rfl, rfl⟩
  · refine ⟨pre _ e3 (fun _ => rfl), fun v' Y hY' => ?_⟩
    rw [← sets_iff hT16 eT (show eg_gi (eg_sl N 177 0 w) 121 3 = nI T from e3)] at hY'
    rcases hY' with ⟨y, rfl, p, q, rfl⟩ | ⟨y, _⟩
    · exact ⟨rA_k (ps := [(177, none), (121, some 1), (121, some 80), (121, some 81)]) (vf_si (vf_si (vf_si (vf_sl vf_0 rfl) rfl) rfl) rfl) hA (Or.inl rfl) (Or.inl rfl) (Or.inl rfl) (Or.inl rfl) (Or.inl rfl) (Or.inl rfl) (Or.inl rfl) (Or.inl rfl) (Or.inl rfl) (Or.inl rfl) (Or.inl rfl) (Or.inl rfl), rfl, ag_ok rfl rfl⟩
    · exact absurd y z
  · have hfX : vf [(119, none), (80, some 8), (117, none), (116, none), (177, none)] M (eg_sl (k_gm M (ones a 16).length f xp.1 xp.2.1) 177 0 w) := vf_sl (vf_ri (vf_ri (vf_si (vf_ri vf_0 rfl) rfl) rfl) rfl) rfl
    have wiX : r_wi (eg_sl (k_gm M (ones a 16).length f xp.1 xp.2.1) 177 0 w) := kp_wi (vf_sm hfX rfl) wi
    have x3 : eg_gi (eg_sl (k_gm M (ones a 16).length f xp.1 xp.2.1) 177 0 w) 121 3 = nI T := (hfX.2 121 3 rfl).1.trans e3
    have hrh : ∀ t o, t < 16 → g_rh M t o = g_rh (eg_sl (k_gm M (ones a 16).length f xp.1 xp.2.1) 177 0 w) t o := fun t o ht => by
      unfold g_rh
      rw [sl_gi, gm_g (by omega) (by omega) (by omega) (by omega)]
    refine ⟨pre _ x3 (fun t => (hfX.2 170 t rfl).1), fun v' Y hY' => ?_⟩
    rw [← sets_iff hT16 eT x3] at hY'
    rcases hY' with ⟨y, _⟩ | ⟨_, f', g', c, r, hf', hg', hall, rfl, rfl⟩
    · exact absurd z y
    · obtain ⟨t1, t2⟩ := sets_T hT16 eT z
      rw [x3, n_c (by omega), ← t1] at hf'
      rw [x3, n_c (by omega), ← t2] at hg'
      rw [x3, n_c (by omega), ← t1, ← t2] at hall ⊢
      obtain ⟨yY, yD⟩ := sets_yl (X := eg_sl (k_gm M (ones a 16).length f xp.1 xp.2.1) 177 0 w) (k := nI 0) (⟨T, hT16, eT⟩ : eg_cn (eg_gi M 2 4) 16) z hf' hg'
      have yY' := yY
      obtain ⟨_, _, _, _, y5, y6, y7, y8, y9, y10, y11⟩ := yY'
      have hW := gW_of wi T16
      obtain ⟨hI, hd⟩ := g_rounds hW y5 y6 y7 y8 y10 (s := b) (fun o ho => ones_mem ho) 37 ((fun j => if j < 16 then -nI 1 else eg_gi M 116 j), (fun j => if j < 16 then nI 0 else eg_gi M 117 j), true) (g_0 y5 y6 hW (fun j hj => if_pos hj) (fun j hj => if_pos hj)) rfl (by omega)
      rw [← exp] at hI hd
      obtain ⟨r1, r2⟩ := pair_eq hW wiX yY yD hrh hI hd (fun y hy => nob_m _ hy) hall
      have hf2 : vf ps_pr M (m_pm (eg_sl (k_gm M (ones a 16).length f xp.1 xp.2.1) 177 0 w) (nI (ones a 16).length) (nI (ones b 16).length) c (nI 1) f' g' (m_pw (m_ls (eg_si (eg_sl (k_gm M (ones a 16).length f xp.1 xp.2.1) 177 0 w) 121 1 (nI 0)) (ones a 16).length (ones b 16).length f' g') r (ones a 16).length).2 (nob (eg_gi (eg_sl (k_gm M (ones a 16).length f xp.1 xp.2.1) 177 0 w) 175))) := vf_ri (vf_ri (vf_ri (vf_ri (vf_si (vf_si (vf_si (vf_si (vf_si (vf_sl (vf_ri (vf_ri (vf_si (vf_ri vf_0 rfl) rfl) rfl) rfl) rfl) rfl) rfl) rfl) rfl) rfl) rfl) rfl) rfl) rfl
      refine ⟨rA_k hf2 hA (Or.inl rfl) (Or.inl rfl) (Or.inl rfl) (Or.inl rfl) (Or.inl rfl) (Or.inl rfl) (Or.inl rfl) (Or.inl rfl) (Or.inl rfl) (Or.inl rfl) (Or.inl rfl) (Or.inr (fun t ht => ?_)), rfl, ag_ok (congrArg nI r1.symm) (by simp [m_pm, ri_g, si_g])⟩
      generalize (m_pw (m_ls (eg_si (eg_sl (k_gm M (ones a 16).length f xp.1 xp.2.1) 177 0 w) 121 1 (nI 0)) (ones a 16).length (ones b 16).length f' g') r (ones a 16).length).2 = fin at r2
      have c1 : eg_gi (m_pm (eg_sl (k_gm M (ones a 16).length f xp.1 xp.2.1) 177 0 w) (nI (ones a 16).length) (nI (ones b 16).length) c (nI 1) f' g' fin (nob (eg_gi (eg_sl (k_gm M (ones a 16).length f xp.1 xp.2.1) 177 0 w) 175))) 121 83 = nI 1 := by simp [m_pm, ri_g, si_g]
      have c2 : eg_gi (m_pm (eg_sl (k_gm M (ones a 16).length f xp.1 xp.2.1) 177 0 w) (nI (ones a 16).length) (nI (ones b 16).length) c (nI 1) f' g' fin (nob (eg_gi (eg_sl (k_gm M (ones a 16).length f xp.1 xp.2.1) 177 0 w) 175))) 174 t = fin t := by simp [m_pm, ri_g, si_g]
      have c3 : eg_gi (m_pm (eg_sl (k_gm M (ones a 16).length f xp.1 xp.2.1) 177 0 w) (nI (ones a 16).length) (nI (ones b 16).length) c (nI 1) f' g' fin (nob (eg_gi (eg_sl (k_gm M (ones a 16).length f xp.1 xp.2.1) 177 0 w) 175))) 116 t = xp.1 t := by simp [m_pm, k_gm, ri_g, si_g, sl_gi]
      rw [c1, c2, c3, if_neg (by decide)]
      exact (r2 t ht).symm

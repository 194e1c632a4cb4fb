/-! PAIRS: days, what was kept, towns, homes, guests, charters -/
theorem sl_gi (M : eg_M) (p k q j : Nat) (v : Int64) : eg_gi (eg_sl M p k v) q j = eg_gi M q j := rfl
theorem vf_178 {ps : vf_K} {p : Nat} (hp : 178 ≤ p) (j : Nat) : vf_t ps p j = vf_t ps 178 j := by
  have e : vf_c p = 178 := by
    unfold vf_c
    rw [show Nat.blt p 178 = false from Bool.eq_false_iff.mpr (fun z => by have := Nat.blt_eq.mp z; omega)]
    rfl
  induction ps with
  | nil => rfl
  | cons q t ih =>
    unfold vf_t
    rw [ih, e]
    rfl
abbrev rd_J : vf_K := [(23, some 2), (1, none), (12, none), (13, none), (14, none), (15, none), (16, none), (17, none), (18, none), (19, none), (20, none), (21, none), (22, none), (24, none), (30, none), (31, none), (32, none), (33, none), (34, none), (35, none), (36, none), (37, none), (38, none), (39, none), (40, none), (41, none), (178, none)]
theorem kp_J {M N : eg_M} (h : sm rd_J M N) (hC : ∀ e, e < (eg_gi M 12 10).toNatClampNeg → (∀ p, 8 ≤ p → p ≤ 10 → eg_gi N p (eg_gi M 14 e).toNatClampNeg = eg_gi M p (eg_gi M 14 e).toNatClampNeg) ∧ ∀ p, 3 ≤ p → p ≤ 6 → eg_gi N p (eg_gi M 8 (eg_gi M 14 e).toNatClampNeg).toNatClampNeg = eg_gi M p (eg_gi M 8 (eg_gi M 14 e).toNatClampNeg).toNatClampNeg ∧ eg_gi N p (eg_gi M 9 (eg_gi M 14 e).toNatClampNeg).toNatClampNeg = eg_gi M p (eg_gi M 9 (eg_gi M 14 e).toNatClampNeg).toNatClampNeg)
    (hc24 : eg_cn (eg_gi N 7 4) 24) (hd : vp_in (eg_gi N 0 8) 3600) (hab : ∀ c, c < 24 → vp_in (eg_gi N 8 c) 16 ∧ vp_in (eg_gi N 9 c) 16) (a : k_I M) : k_I N := by
  have w1 : ∀ p, p < 42 → (p = 1 ∨ p = 24 ∨ (12 ≤ p ∧ p ≤ 22) ∨ 30 ≤ p) → vf_w rd_J p = true := by decide
  refine k_I_of h.1 (fun p j hp => ?_) (fun p j hp => ?_) (fun p j hp => ?_) (sm_i h rfl) hC hc24 hd hab a
  · by_cases z : 178 ≤ p
    · exact sm_r h ((vf_178 z j).trans rfl)
    · exact sm_r h (vf_wt (w1 p (by omega) (by omega)))
  · by_cases z : 178 ≤ p
    · exact sm_i h ((vf_178 z j).trans rfl)
    · exact sm_i h (vf_wt (w1 p (by omega) (by omega)))
  · exact sm_l h (vf_wt (w1 p (by omega) (by omega)))
theorem pr_days (a : Int32) : pr ag_i hI1 s_X11_days s_X12_days [.int a] := by
  intro M hA
  have ch := hA.2.2.1
  obtain ⟨d, hd, ed⟩ := vp_in_of hA.1.2.2.2.2 (by decide)
  have e2 : eg_gi M 121 2 = nI d := ch.1.trans ed
  have hs : ∀ b, b ≤ 3599 → nI 3599 - nI b = nI (3599 - b) := fun b hb => by
    have := n_sb (a := 3599 - b) (b := b)
    rw [Nat.sub_add_cancel hb] at this
    exact this
  have key : (¬ a < 0 ∧ a ≤ nI 3599 - nI d) ↔ (¬ a < 0 ∧ (¬ nI 3599 < a ∧ nI d + a ≤ nI 3599)) := by
    rw [hs d (by omega)]
    constructor
    · rintro ⟨h1, h2⟩
      obtain ⟨k, hk, rfl⟩ := nI_of h1
      rw [n_le (by omega) (by omega)] at h2
      refine ⟨h1, ?_, ?_⟩
      · rw [n_lt (by omega) (by omega)]; omega
      · rw [n_s, n_le (by omega) (by omega)]; omega
    · rintro ⟨h1, h2, h3⟩
      obtain ⟨k, hk, rfl⟩ := nI_of h1
      rw [n_lt (by omega) (by omega)] at h2
      rw [n_s, n_le (by omega) (by omega)] at h3
      refine ⟨h1, ?_⟩
      rw [n_le (by omega) (by omega)]; omega
  refine au_X11_days a (fun z w => ?_) (fun z w => ?_)
  · rw [ed] at z
    refine au_X12_days a (fun _ => ⟨rA_cc hA, rfl, ag_I1 rfl⟩) (fun y => ?_)
    have y' : ¬ a < 0 ∧ (¬ nI 3599 < a ∧ nI d + a ≤ nI 3599) := by rw [← e2]; exact y
    have := key.mpr y'
    exact absurd this (fun t => z.elim (fun q => t.1 q) (fun q => q t.2))
  · rw [ed] at z ⊢
    have z2 := key.mp z
    refine au_X12_days a (fun y => ?_) (fun y => ?_)
    · have y' : a < 0 ∨ (nI 3599 < a ∨ ¬ (nI d + a) ≤ nI 3599) := by rw [← e2]; exact y
      exact absurd z2 (fun t => y'.elim t.1 (fun q => q.elim t.2.1 (fun r => r t.2.2)))
    · show r_A _ ∧ _ ∧ _
      rw [show eg_gi (eg_sl (eg_si M 0 8 (nI d + a)) 177 0 w) 121 2 = nI d from e2]
      refine ⟨?_, rfl, ag_ok rfl rfl⟩
      obtain ⟨k, hk, rfl⟩ := nI_of z2.1
      have z3 := z2.2
      rw [n_lt (by omega) (by omega), n_s] at z3
      rw [n_s]
      have z4 := z3.2
      rw [n_le (by omega) (by omega)] at z4
      have hf : vf [(0, some 8), (177, none), (121, some 1), (121, some 2)] M (eg_si (eg_si (eg_sl (eg_si M 0 8 (nI (d + k))) 177 0 w) 121 1 (nI 0)) 121 2 (nI (d + k))) := vf_si (vf_si (vf_sl (vf_si vf_0 rfl) rfl) rfl) rfl
      refine rA_k hf hA (Or.inr ?_) (Or.inl rfl) (Or.inr ?_) (Or.inl rfl) (Or.inl rfl) (Or.inl rfl) (Or.inl rfl) (Or.inl rfl) (Or.inl rfl) (Or.inl rfl) (Or.inl rfl) (Or.inl rfl)
      · refine kp_J (vf_sm hf rfl) (fun e he => ⟨fun p h1 h2 => (hf.2 p _ ?_).1, fun p h1 h2 => ⟨(hf.2 p _ ?_).1, (hf.2 p _ ?_).1⟩⟩) hA.1.2.2.2.1 (vp_in_nI (by omega) (by decide)) hA.1.1.2.1 hA.1
        · rcases (show p = 8 ∨ p = 9 ∨ p = 10 by omega) with rfl | rfl | rfl <;> rfl
        · rcases (show p = 3 ∨ p = 4 ∨ p = 5 ∨ p = 6 by omega) with rfl | rfl | rfl | rfl <;> rfl
        · rcases (show p = 3 ∨ p = 4 ∨ p = 5 ∨ p = 6 by omega) with rfl | rfl | rfl | rfl <;> rfl
      · refine ⟨rfl, ch.2.1, fun c hc => ?_⟩
        obtain ⟨b1, b2, b3, b4, b5, b6, b7⟩ := ch.2.2 c hc
        refine ⟨b1, b2, b3, b4, b5, b6, ?_⟩
        show ¬ nI (d + k) < eg_gi M 11 c
        rw [ed] at b7
        intro t
        exact b7 (Int32.lt_of_le_of_lt ((n_le (by omega) (by omega)).mpr (by omega)) t)
/-- a place in what was kept -/
theorem kp_idx {x c : Int32} {m : Nat} (hm : m < 2 ^ 31) (h : x = -nI 1 ∨ eg_cn x m) : (¬ c < (-nI 1) ∧ ¬ (x - nI 1) < c) ↔ (¬ x = (-nI 1) ∧ (¬ c < (-nI 1) ∧ c < x)) := by
  have z1 : (-nI 1).toInt = -1 := by decide
  rcases h with rfl | ⟨n, hn, rfl⟩
  · constructor
    · rintro ⟨h1, h2⟩
      exfalso
      rw [Int32.lt_iff_toInt_lt] at h1 h2
      rw [show ((-nI 1 : Int32) - nI 1).toInt = -2 by decide] at h2
      rw [z1] at h1
      omega
    · exact fun t => absurd rfl t.1
  · have e1 : (nI n - nI 1).toInt = (n : Int) - 1 := by
      cases n with
      | zero => decide
      | succ n =>
        rw [n_p, nI_toInt (by omega)]
        omega
    have e2 := nI_toInt (n := n) (by omega)
    rw [Int32.lt_iff_toInt_lt, Int32.lt_iff_toInt_lt, Int32.lt_iff_toInt_lt, e1, e2, z1]
    constructor
    · rintro ⟨h1, h2⟩
      refine ⟨fun t => ?_, h1, by omega⟩
      have := congrArg Int32.toInt t
      rw [e2, z1] at this
      omega
    · rintro ⟨_, h1, h2⟩
      exact ⟨h1, by omega⟩
theorem kp_nat {x c : Int32} {m : Nat} (hm : m < 2 ^ 31) (h : eg_cn x m) (h1 : ¬ c < (-nI 1)) (h2 : c < x) (h3 : ¬ c = -nI 1) : ∃ g, g < m ∧ g < x.toNatClampNeg ∧ c = nI g := by
  obtain ⟨n, hn, rfl⟩ := h
  have hc : ¬ c < 0 := by
    intro t
    rw [Int32.lt_iff_toInt_lt] at t h1
    refine h3 (Int32.toInt_inj.mp ?_)
    rw [show (-nI 1).toInt = -1 by decide] at h1 ⊢
    rw [show (0 : Int32).toInt = 0 by decide] at t
    omega
  obtain ⟨k, hk, rfl⟩ := nI_of hc
  rw [n_lt (by omega) (by omega)] at h2
  exact ⟨k, by omega, by rw [n_c (by omega)]; exact h2, rfl⟩
theorem pr_lodged (a : Int32) : pr ag_i hN1 s_X11_lodged s_X12_lodged [.int a] := by
  intro M hA
  obtain ⟨e1, lo⟩ := hA.2.2.2.2.2.2.2.1
  have ho : eg_gi M 46 9 = -nI 1 ∨ eg_cn (eg_gi M 46 9) 8 := lo.imp id And.left
  have kx := kp_idx (c := a) (by decide) ho
  have kn : (¬ eg_gi M 46 9 = (-nI 1) ∧ (¬ a < (-nI 1) ∧ a < eg_gi M 46 9)) → ¬ a = -nI 1 → ∃ g, g < 8 ∧ g < (eg_gi M 46 9).toNatClampNeg ∧ a = nI g := fun z h3 => kp_nat (by decide) (ho.resolve_left z.1) z.2.1 z.2.2 h3
  refine au_X11_lodged a (fun z1 z2 => ?_) (fun z w => ?_) (fun z w => ?_) (fun z w => ?_)
  · obtain ⟨g, h1, _, rfl⟩ := kn (kx.mp (Classical.not_not.mp z1)) z2
    exact vp_in_nI h1 (by decide)
  · have g : eg_gi (eg_sl M 177 0 w) 121 54 = eg_gi M 46 9 := e1
    refine au_X12_lodged a (fun y1 y2 y3 => ?_) (fun _ => ⟨rA_cc hA, rfl, ag_N1 rfl⟩) (fun y => ?_) (fun y => ?_)
    · rw [g] at y1 y3
      exact absurd (kx.mpr ⟨y1, y2, y3⟩) z
    · rw [g] at y
      exact absurd (kx.mpr ⟨y.1, y.2.1, y.2.2.1⟩) z
    · rw [g] at y
      exact absurd (kx.mpr ⟨y.1, y.2.1, y.2.2.1⟩) z
  · have g : eg_gi (eg_sl M 177 0 w) 121 54 = eg_gi M 46 9 := e1
    have zz := kx.mp z.1
    have l2 := (lo.resolve_left zz.1).2
    refine au_X12_lodged a (fun y1 y2 y3 y4 => absurd z.2 y4) (fun y => ?_) (fun y => ⟨rA_c hA, rfl, ag_ok l2.1.symm rfl⟩) (fun y => absurd z.2 y.2.2.2)
    rw [g] at y
    exact absurd zz (fun t => y.elim t.1 (fun q => q.elim t.2.1 (fun r => r t.2.2)))
  · have g : eg_gi (eg_sl M 177 0 w) 121 54 = eg_gi M 46 9 := e1
    have zz := kx.mp z.1
    have l2 := (lo.resolve_left zz.1).2
    obtain ⟨k, h1, h2, rfl⟩ := kn zz z.2
    refine au_X12_lodged (nI k) (fun y1 y2 y3 y4 => vp_in_nI h1 (by decide)) (fun y => ?_) (fun y => absurd y.2.2.2 z.2) (fun y => ⟨rA_c hA, rfl, ag_ok ?_ rfl⟩)
    · rw [g] at y
      exact absurd zz (fun t => y.elim t.1 (fun q => q.elim t.2.1 (fun r => r t.2.2)))
    · rw [n_c (by omega)]
      exact (l2.2 k h2).symm
theorem pr_planned (a : Int32) : pr ag_i hN1 s_X11_planned s_X12_planned [.int a] := by
  intro M hA
  obtain ⟨e1, lo⟩ := hA.2.2.2.2.2.2.2.2.2.1
  have ho : eg_gi M 72 5 = -nI 1 ∨ eg_cn (eg_gi M 72 5) 6 := lo.imp id And.left
  have kx := kp_idx (c := a) (by decide) ho
  have kn : (¬ eg_gi M 72 5 = (-nI 1) ∧ (¬ a < (-nI 1) ∧ a < eg_gi M 72 5)) → ¬ a = -nI 1 → ∃ g, g < 6 ∧ g < (eg_gi M 72 5).toNatClampNeg ∧ a = nI g := fun z h3 => kp_nat (by decide) (ho.resolve_left z.1) z.2.1 z.2.2 h3
  refine au_X11_planned a (fun z1 z2 => ?_) (fun z w => ?_) (fun z w => ?_) (fun z w => ?_)
  · obtain ⟨g, h1, _, rfl⟩ := kn (kx.mp (Classical.not_not.mp z1)) z2
    exact vp_in_nI h1 (by decide)
  · have g : eg_gi (eg_sl M 177 0 w) 121 66 = eg_gi M 72 5 := e1
    refine au_X12_planned a (fun y1 y2 y3 => ?_) (fun _ => ⟨rA_cc hA, rfl, ag_N1 rfl⟩) (fun y => ?_) (fun y => ?_)
    · rw [g] at y1 y3
      exact absurd (kx.mpr ⟨y1, y2, y3⟩) z
    · rw [g] at y
      exact absurd (kx.mpr ⟨y.1, y.2.1, y.2.2.1⟩) z
    · rw [g] at y
      exact absurd (kx.mpr ⟨y.1, y.2.1, y.2.2.1⟩) z
  · have g : eg_gi (eg_sl M 177 0 w) 121 66 = eg_gi M 72 5 := e1
    have zz := kx.mp z.1
    have l2 := (lo.resolve_left zz.1).2
    refine au_X12_planned a (fun y1 y2 y3 y4 => absurd z.2 y4) (fun y => ?_) (fun y => ⟨rA_c hA, rfl, ag_ok l2.1.symm rfl⟩) (fun y => absurd z.2 y.2.2.2)
    rw [g] at y
    exact absurd zz (fun t => y.elim t.1 (fun q => q.elim t.2.1 (fun r => r t.2.2)))
  · have g : eg_gi (eg_sl M 177 0 w) 121 66 = eg_gi M 72 5 := e1
    have zz := kx.mp z.1
    have l2 := (lo.resolve_left zz.1).2
    obtain ⟨k, h1, h2, rfl⟩ := kn zz z.2
    refine au_X12_planned (nI k) (fun y1 y2 y3 y4 => vp_in_nI h1 (by decide)) (fun y => ?_) (fun y => absurd y.2.2.2 z.2) (fun y => ⟨rA_c hA, rfl, ag_ok ?_ rfl⟩)
    · rw [g] at y
      exact absurd zz (fun t => y.elim t.1 (fun q => q.elim t.2.1 (fun r => r t.2.2)))
    · rw [n_c (by omega)]
      exact (l2.2 k h2).symm
theorem bk_I {M : eg_M} {t : Nat} {v : Int32} (hI : k_I M) : k_I (eg_si (eg_si M 1 4 (-nI 1)) 21 t v) := by
  obtain ⟨hES, hTS, _, hc, ht⟩ := hI
  refine ⟨hES, ?_, Or.inl rfl, hc, ht⟩
  refine k_ts_of (M := M) rfl rfl (fun p hp j => ?_) rfl hTS
  have := k_8e hp
  rw [si_g, if_neg (fun z => by omega), si_g, if_neg (fun z => this.1 z.1)]
theorem pr_back (a : Int32) : pr ag_i hN1 s_X11_back s_X12_back [.int a] := by
  intro M hA
  have ev := hA.2.2.2.1
  obtain ⟨n, hn, en⟩ := hA.1.1.1.choose_spec.1
  have hcn : eg_cn (eg_gi M 12 10) 200 := ⟨n, hn, en⟩
  have e : eg_gi M 121 5 = eg_gi M 12 10 := ev.1
  have hix := ix_cm (c := a) (by decide) hcn
  have hk : (¬ a < 0 ∧ ¬ eg_gi M 12 10 ≤ a) → ∃ t, t < 200 ∧ t < (eg_gi M 12 10).toNatClampNeg ∧ a = nI t := fun z => k_idx (by decide) hcn (hix.mpr z).1 (hix.mpr z).2
  refine au_X11_back a (fun z => ?_) (fun z w => ?_) (fun z w => ?_) (fun z w => ?_)
  · obtain ⟨t, ht, _, rfl⟩ := hk (hix.mp (Classical.not_not.mp z))
    exact vp_in_nI ht (by decide)
  · have g1 : eg_gi (eg_si (eg_sl M 177 0 w) 121 1 (nI 0)) 121 5 = eg_gi M 12 10 := e
    refine au_X12_back a (fun y => ?_) (fun y => ⟨rA_cc hA, rfl, ag_N1 rfl⟩) (fun y => ?_) (fun y => ?_)
    all_goals rw [g1] at y
    · exact absurd (hix.mpr (Classical.not_not.mp y)) z
    · exact absurd (hix.mpr y.1) z
    · exact absurd (hix.mpr y.1) z
  · obtain ⟨t, ht, ht2, rfl⟩ := hk (hix.mp z.1)
    rw [n_c (by omega)] at z ⊢
    obtain ⟨_, bk, _⟩ := ev.2 t ht2
    have z2 := z.2
    have hb : eg_gi M 138 t = -nI 1 := by
      rcases bk with q | q
      · exact q.1
      · rw [z2] at q
        exact absurd ((n_in (by decide) (by decide)).mp q.2) (by decide)
    have g1 : eg_gi (eg_si (eg_sl (eg_si (eg_si M 1 4 (-nI 1)) 21 t (eg_gi M 0 8)) 177 0 w) 121 1 (nI 0)) 121 5 = eg_gi M 12 10 := e
    refine au_X12_back (nI t) (fun y => vp_in_nI ht (by decide)) (fun y => ?_) (fun y => ⟨?_, rfl, ag_ok rfl rfl⟩) (fun y => ?_)
    · rw [g1] at y
      exact absurd (hix.mp z.1) y
    · rw [n_c (by omega)]
      have hf : vf [(1, some 4), (21, none), (177, none), (121, some 1), (138, none)] M (eg_si (eg_si (eg_sl (eg_si (eg_si M 1 4 (-nI 1)) 21 t (eg_gi M 0 8)) 177 0 w) 121 1 (nI 0)) 138 t (eg_gi M 121 2)) := vf_si (vf_si (vf_sl (vf_si (vf_si vf_0 rfl) rfl) rfl) rfl) rfl
      refine rA_k hf hA (Or.inr ?_) (Or.inl rfl) (Or.inl rfl) (Or.inr ?_) (Or.inl rfl) (Or.inl rfl) (Or.inl rfl) (Or.inl rfl) (Or.inl rfl) (Or.inl rfl) (Or.inl rfl) (Or.inl rfl)
      · refine kp_I (M := eg_si (eg_si M 1 4 (-nI 1)) 21 t (eg_gi M 0 8)) (vf_sm (ps := [(177, none), (121, some 1), (138, none)]) ?_ rfl) (bk_I hA.1)
        exact vf_si (vf_si (vf_sl vf_0 rfl) rfl) rfl
      · refine ⟨e, fun x hx => ?_⟩
        obtain ⟨f1, f2, f3⟩ := ev.2 x hx
        refine ⟨f1, ?_, f3⟩
        show r_bk (eg_gi (eg_si M 138 t (eg_gi M 121 2)) 138 x) (eg_gi (eg_si M 21 t (eg_gi M 0 8)) 21 x)
        rw [si_g, si_g]
        by_cases q : x = t
        · rw [if_pos ⟨rfl, q⟩, if_pos ⟨rfl, q⟩]
          exact Or.inr ⟨hA.2.2.1.1, hA.1.2.2.2.2⟩
        · rw [if_neg (fun r => q r.2), if_neg (fun r => q r.2)]
          exact f2
    · rw [n_c (by omega)] at y
      exact absurd hb y.2
  · obtain ⟨t, ht, ht2, rfl⟩ := hk (hix.mp z.1)
    rw [n_c (by omega)] at z
    obtain ⟨_, bk, _⟩ := ev.2 t ht2
    have hb : ¬ eg_gi M 138 t = -nI 1 := by
      rcases bk with q | q
      · exact absurd q.2 z.2
      · intro r
        rw [q.1] at r
        rw [r] at q
        exact q.2 (Or.inl (by decide))
    have g1 : eg_gi (eg_si (eg_sl (eg_si M 1 4 (-nI 1)) 177 0 w) 121 1 (nI 0)) 121 5 = eg_gi M 12 10 := e
    refine au_X12_back (nI t) (fun y => vp_in_nI ht (by decide)) (fun y => ?_) (fun y => ?_) (fun y => ⟨?_, rfl, ag_ok rfl rfl⟩)
    · rw [g1] at y
      exact absurd (hix.mp z.1) y
    · rw [n_c (by omega)] at y
      exact absurd y.2 hb
    · have hf : vf [(1, some 4), (177, none), (121, some 1)] M (eg_si (eg_sl (eg_si M 1 4 (-nI 1)) 177 0 w) 121 1 (nI 0)) := vf_si (vf_sl (vf_si vf_0 rfl) rfl) rfl
      refine rA_k hf hA (Or.inr ?_) (Or.inl rfl) (Or.inl rfl) (Or.inl rfl) (Or.inl rfl) (Or.inl rfl) (Or.inl rfl) (Or.inl rfl) (Or.inl rfl) (Or.inl rfl) (Or.inl rfl) (Or.inl rfl)
      exact kp_I (vf_sm (ps := [(177, none), (121, some 1)]) (vf_si (vf_sl vf_0 rfl) rfl) rfl) (fg_I hA.1)

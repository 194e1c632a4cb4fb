/-! PAIRS: likings, wishes, plans -/
theorem t3_cm (b n : Int32) : ∀ t, m_t3 b n t = n + nI 3 * m_cm b t
  | 0 => by
    show n = n + nI 3 * nI 0
    rw [n_m, show nI (3 * 0) = (0 : Int32) from rfl, Int32.add_zero]
  | t + 1 => by
    show m_t3 b n t + nI 3 * _ = n + nI 3 * (m_cm b t + _)
    rw [t3_cm b n t, Int32.mul_add, Int32.add_assoc]
theorem bc_z : ∀ v, v < 256 → (bc (nI v) = 0 ↔ nI v = 0) := by decide +kernel
theorem bc_b : ∀ v, v < 256 → bc (nI v) ≤ nI 8 ∧ ¬ bc (nI v) < 0 := by decide +kernel
theorem ab_b : ∀ x, x < 100 → ∀ y, y < 100 → (if nI 0 < nI 10 - ab (nI x) (nI y) then nI 10 - ab (nI x) (nI y) else nI 0) ≤ nI 10 ∧ ¬ (if nI 0 < nI 10 - ab (nI x) (nI y) then nI 10 - ab (nI x) (nI y) else nI 0) < 0 := by decide +kernel
theorem tg_and {x y : Int32} (hx : vp_in x 256) (hy : vp_in y 256) : ∃ v, v < 256 ∧ x &&& y = nI v := by
  obtain ⟨a, ha, rfl⟩ := vp_in_of hx (by decide)
  obtain ⟨b, hb, rfl⟩ := vp_in_of hy (by decide)
  exact ⟨a &&& b, Nat.lt_of_le_of_lt Nat.and_le_left ha, u_and a b (by omega) (by omega)⟩
theorem li_eq {M : eg_M} (ho : r_ho M) {g h : Nat} (hg : g < (eg_gi M 46 5).toNatClampNeg) (hh : h < (eg_gi M 46 0).toNatClampNeg) : m_li M (nI g) (nI h) = k_lk M g h := by
  obtain ⟨⟨⟨nh, h1, h2⟩, _⟩, ⟨⟨ng, h3, h4⟩, _⟩, h5, h6⟩ := ho
  have hg2 : g < 8 := by rw [h4, n_c (by omega)] at hg; omega
  have hh2 : h < 6 := by rw [h2, n_c (by omega)] at hh; omega
  obtain ⟨a1, a2, a3, a4, a5⟩ := h6 g hg
  obtain ⟨b1, b2, b3, b4, b5, b6, b7⟩ := h5 h hh
  unfold m_li k_lk
  rw [n_c (by omega), n_c (by omega), a1, a2, a3, b2, b3, b4]
  obtain ⟨v, hv, ev⟩ := tg_and a4 b6
  rw [ev, t3_cm, ← bc_8 v hv]
  have hz := bc_z v hv
  unfold ab
  by_cases q : nI v = 0 ∨ (¬ eg_gi M 49 h = 0 ∧ eg_gi M 53 g = 0)
  · rw [if_pos q, if_pos (q.imp hz.mpr id)]
  · have q2 : ¬ (bc (nI v) = 0 ∨ (¬ eg_gi M 49 h = 0 ∧ eg_gi M 53 g = 0)) := fun z => q (z.imp hz.mp id)
    rw [if_neg q, if_neg q2, Int32.add_comm]
/-- how much a guest likes a home: not at all, or at most 34 -/
theorem lk_b {M : eg_M} (ho : r_ho M) {g h : Nat} (hg : g < (eg_gi M 46 5).toNatClampNeg) (hh : h < (eg_gi M 46 0).toNatClampNeg) : k_lk M g h = -nI 1 ∨ eg_cn (k_lk M g h) 34 := by
  obtain ⟨⟨⟨nh, h1, h2⟩, _⟩, ⟨⟨ng, h3, h4⟩, _⟩, h5, h6⟩ := ho
  obtain ⟨a1, a2, a3, a4, a5⟩ := h6 g hg
  obtain ⟨b1, b2, b3, b4, b5, b6, b7⟩ := h5 h hh
  obtain ⟨v, hv, ev⟩ := tg_and a4 b6
  obtain ⟨x, hx, ex⟩ := vp_in_of a5 (by decide)
  obtain ⟨y, hy, ey⟩ := vp_in_of b7 (by decide)
  unfold k_lk
  rw [ev, ex, ey]
  by_cases q : bc (nI v) = 0 ∨ (¬ eg_gi M 49 h = 0 ∧ eg_gi M 53 g = 0)
  · rw [if_pos q]
    exact Or.inl rfl
  · rw [if_neg q]
    right
    obtain ⟨z1, z2⟩ := bc_b v hv
    obtain ⟨c, hc, ec⟩ := nI_of2 (M := nI 8) (n := 8) (by decide) z2 z1
    rw [ec, n_m]
    obtain ⟨z3, z4⟩ := ab_b x hx y hy
    obtain ⟨k, hk, ek⟩ := nI_of2 (M := nI 10) (n := 10) (by decide) z4 z3
    rw [ek, n_s]
    exact ⟨_, by omega, rfl⟩
theorem pr_liking (a b : Int32) : pr ag_i hN1 s_X11_liking_v s_X12_liking [.int a, .int b] := by
  intro M hA
  have ho := hA.2.2.2.2.2.2.1
  have e1 : eg_gi M 121 53 = eg_gi M 46 5 := ho.2.1.2
  have e2 : eg_gi M 121 52 = eg_gi M 46 0 := ho.1.2
  have ha := ix_cm (c := a) (by decide) ho.2.1.1
  have hb := ix_cm (c := b) (by decide) ho.1.1
  refine ⟨⟨ho.2.1.1, ho.1.1⟩, fun oo hN w => ?_⟩
  refine ⟨⟨by rw [show eg_gi (eg_sl M 177 0 w) 121 53 = eg_gi M 46 5 from e1]; exact ho.2.1.1, by rw [show eg_gi (eg_sl M 177 0 w) 121 52 = eg_gi M 46 0 from e2]; exact ho.1.1⟩, fun v N2 h2 => ?_⟩
  rw [show eg_gi (eg_sl M 177 0 w) 121 53 = eg_gi M 46 5 from e1, show eg_gi (eg_sl M 177 0 w) 121 52 = eg_gi M 46 0 from e2] at h2
  rcases h2 with ⟨y, rfl, rfl⟩ | ⟨y, rfl, rfl⟩
  · rcases hN with ⟨z, rfl⟩ | ⟨z, rfl⟩
    · exact ⟨rA_c hA, rfl, ag_N1 rfl⟩
    · exfalso
      have q1 := ha.mp z.1
      have q2 := hb.mp z.2
      exact y ⟨q1, q2.1, Int32.not_le.mp q2.2⟩
  · rcases hN with ⟨z, rfl⟩ | ⟨z, rfl⟩
    · exact absurd ⟨ha.mpr y.1, hb.mpr ⟨y.2.1, Int32.not_le.mpr y.2.2⟩⟩ z
    · obtain ⟨g, _, p2, rfl⟩ := k_idx (by decide) ho.2.1.1 z.1.1 z.1.2
      obtain ⟨h, _, p4, rfl⟩ := k_idx (by decide) ho.1.1 z.2.1 z.2.2
      refine ⟨rA_c hA, rfl, ag_ok ?_ rfl⟩
      have q := li_eq ho p2 p4
      rw [n_c (by rename_i h8 _; omega), n_c (by rename_i h8 _; omega)]
      exact q.symm
theorem rk_v (row : Int32) (j : Nat) : ∀ m, (k_rk row m j = -nI 1 ∧ ∀ i, i < m → ¬ w4 row i = nI j) ∨ ∃ i, i < m ∧ w4 row i = nI j ∧ k_rk row m j = nI i
  | 0 => Or.inl ⟨rfl, fun i hi => absurd hi (Nat.not_lt_zero i)⟩
  | m + 1 => by
    by_cases q : w4 row m = nI j
    · right
      refine ⟨m, Nat.lt_succ_self m, q, ?_⟩
      unfold k_rk
      rw [if_pos q]
    · have e : k_rk row (m + 1) j = k_rk row m j := by
        show (if w4 row m = nI j then nI m else k_rk row m j) = _
        rw [if_neg q]
      rw [e]
      rcases rk_v row j m with ⟨z1, z2⟩ | ⟨i, z1, z2, z3⟩
      · left
        refine ⟨z1, fun i hi => ?_⟩
        by_cases r : i = m
        · rw [r]; exact q
        · exact z2 i (by omega)
      · exact Or.inr ⟨i, by omega, z2, z3⟩
theorem rk_fnd {row : Int32} {m : Nat} {f : Nat → Int32} (hf : ∀ i, i < m → f i = w4 row i) (hd : ∀ i, i < m → ∀ j, j < i → ¬ w4 row j = w4 row i) (x : Nat) : k_rk row m x = fnd f (nI x) 0 m := by
  rcases fnd_v f (nI x) m 0 with ⟨a1, a2⟩ | ⟨i, _, a2, a3, a4⟩
  · rw [a1]
    rcases rk_v row x m with ⟨b1, _⟩ | ⟨i, b1, b2, _⟩
    · exact b1
    · exact absurd ((hf i b1).trans b2) (a2 i (Nat.zero_le _) (by omega))
  · rw [a4]
    rw [hf i (by omega)] at a3
    rcases rk_v row x m with ⟨_, b2⟩ | ⟨i2, b1, b2, b3⟩
    · exact absurd a3 (b2 i (by omega))
    · rw [b3]
      rcases Nat.lt_trichotomy i i2 with q | q | q
      · exact absurd (a3.trans b2.symm) (hd i2 b1 i q)
      · rw [q]
      · exact absurd (b2.trans a3.symm) (hd i (by omega) i2 q)
abbrev ps_wi : vf_K := [(98, none), (177, none), (121, some 1), (170, none), (171, none), (82, none), (83, none), (84, none), (85, none), (86, none), (87, none), (88, none), (89, none), (90, none), (91, none), (92, none), (93, none), (94, none), (95, none), (96, none), (97, none), (100, none), (101, none), (102, none), (103, none), (104, none), (105, none), (106, none), (107, none), (108, none), (109, none), (110, none), (111, none), (112, none), (113, none), (114, none), (115, none)]
theorem ps_wi_w : ∀ t, t < 16 → vf_w ps_wi (81 + 1 + t) = true ∧ vf_w ps_wi (99 + 1 + t) = true := by decide
theorem wi_set {M N : eg_M} {t m : Nat} {row : Int32} (hA : r_A M) (ht : t < 16) (ht2 : t < (eg_gi M 2 4).toNatClampNeg) (hm : m ≤ 6) (hk : k_wk M (nI t) row m) (hf : vf ps_wi M N) (g98 : pu t (nI m) (eg_gi N 98) (eg_gi M 98)) (g170 : pu t (nI m) (eg_gi N 170) (eg_gi M 170)) (g171 : ∀ j, eg_gi N 171 j = if 6 * t ≤ j ∧ j < 6 * t + m then w4 row (j - 6 * t) else eg_gi M 171 j) (gw : ∀ i, i < m → eg_gi N (81 + 1 + t) i = w4 row i) (gr : ∀ x, x < 16 → eg_gi N (99 + 1 + t) x = k_rk row m x) (go : ∀ s, s < 16 → ¬ s = t → ∀ j, eg_gi N (81 + 1 + s) j = eg_gi M (81 + 1 + s) j ∧ eg_gi N (99 + 1 + s) j = eg_gi M (99 + 1 + s) j) : r_A N := by
  refine rA_k hf hA (Or.inl rfl) (Or.inl rfl) (Or.inl rfl) (Or.inl rfl) (Or.inl rfl) (Or.inl rfl) (Or.inl rfl) (Or.inl rfl) (Or.inl rfl) (Or.inl rfl) (Or.inr ?_) (Or.inl rfl)
  have e24 : eg_gi N 2 4 = eg_gi M 2 4 := (hf.2 2 4 rfl).1
  obtain ⟨nt, hnt, ent⟩ := hA.2.1.1
  intro s hs
  obtain ⟨w1, w2, w3, w4', w5⟩ := hA.2.2.2.2.2.2.2.2.2.2.1 s hs
  rw [e24]
  by_cases q : s = t
  · subst q
    rw [g98.1, g170.1, n_c (by omega)]
    refine ⟨⟨m, hm, rfl⟩, rfl, fun h => absurd h (by omega), fun i hi => ?_, fun x hx => ?_⟩
    · obtain ⟨k1, k2, k3⟩ := hk i hi
      obtain ⟨v, hv, ev⟩ := w4_v row i
      rw [g171, if_pos ⟨by omega, by omega⟩, gw i hi, Nat.add_sub_cancel_left]
      refine ⟨rfl, ?_, k2, fun j hj => by rw [gw j (by omega)]; exact k3 j hj⟩
      rw [ev, ent, n_le (by omega) (by omega)] at k1
      rw [ev, ent, n_c (by omega)]
      exact vp_in_nI (by omega) (by omega)
    · rw [gr x hx]
      exact rk_fnd gw (fun i hi j hj => (hk i hi).2.2 j hj) x
  · obtain ⟨ns, hns, ens⟩ := w1
    rw [g98.2 s q, g170.2 s q, show eg_gi N (81 + 1 + s) = eg_gi M (81 + 1 + s) from funext fun j => (go s hs q j).1]
    refine ⟨⟨ns, hns, ens⟩, w2, w3, fun i hi => ?_, fun x hx => by rw [(go s hs q x).2]; exact w5 x hx⟩
    obtain ⟨v1, v2⟩ := w4' i hi
    rw [ens, n_c (by omega)] at hi
    refine ⟨?_, v2⟩
    rw [g171, if_neg (by omega)]
    exact v1
theorem wk_eq {M : eg_M} (hA : r_A M) (a b row : Int32) : ((¬ b < nI 0 ∧ ¬ nI 6 < b) ∧ k_wk M a row b.toNatClampNeg) ↔ m_wk M a b row := by
  unfold m_wk k_wk
  refine and_congr Iff.rfl (forall_congr' fun i => forall_congr' fun _ => ?_)
  unfold k_wo m_wo
  rw [hA.2.1.2.1]
  obtain ⟨v, hv, ev⟩ := w4_v row i
  refine and_congr ⟨fun h => ⟨?_, h⟩, fun h => h.2⟩ Iff.rfl
  rw [ev]
  intro z
  exact absurd ((n_lt (j := 0) (by omega) (by decide)).mp z) (Nat.not_lt_zero v)
theorem pr_wish (a b row : Int32) : pr ag_i hN1 s_X11_wish s_X12_wish [.int a, .int b, .int row] := by
  intro M hA
  have tw := hA.2.1
  have e3 : eg_gi M 121 3 = eg_gi M 2 4 := tw.2.1
  have ha := ix_cm (c := a) (by decide) tw.1
  refine ⟨tw.1, fun oo N hN w => ?_⟩
  rcases hN with ⟨z, rfl, rfl⟩ | ⟨z, z2, rfl, rfl⟩ | ⟨z, z2, rfl, rfl⟩
  · have X3 : eg_gi (eg_sl N 177 0 w) 121 3 = eg_gi N 2 4 := e3
    refine ⟨by rw [X3]; exact tw.1, fun v N2 h2 => ?_⟩
    rw [X3] at h2
    rcases h2 with ⟨y, rfl, rfl⟩ | ⟨y, _⟩ | ⟨y, _⟩
    · exact ⟨rA_c hA, rfl, ag_N1 rfl⟩
    · exact absurd (ha.mpr y) z
    · exact absurd (ha.mpr y) z
  · have X3 : eg_gi (eg_sl N 177 0 w) 121 3 = eg_gi N 2 4 := e3
    refine ⟨by rw [X3]; exact tw.1, fun v N2 h2 => ?_⟩
    rw [X3] at h2
    rcases h2 with ⟨y, rfl, rfl⟩ | ⟨y, _, rfl, rfl⟩ | ⟨y, y2, _⟩
    · exact absurd (ha.mp z) y
    · exact ⟨rA_c hA, rfl, ag_ok rfl rfl⟩
    · exact absurd ((wk_eq (rA_w (w := w) hA) a b row).mpr y2) z2
  · obtain ⟨t, ht, ht2, rfl⟩ := k_idx (by decide) tw.1 z.1 z.2
    have hb := (nI_of2 (M := nI 6) (n := 6) (by decide) z2.1.1 (Int32.not_lt.mp z2.1.2))
    obtain ⟨m, hm, rfl⟩ := hb
    rw [n_c (by omega), n_c (by omega)] at *
    have X3 : eg_gi (eg_sl (eg_si (k_swm M t m row) 98 t (nI m)) 177 0 w) 121 3 = eg_gi M 2 4 := by
      refine Eq.trans ?_ e3
      unfold k_swm
      rw [sl_gi, si_g, if_neg (by omega), ri_g, if_neg (by omega), ri_g, if_neg (by omega)]
    refine ⟨by rw [X3]; exact tw.1, fun v N2 h2 => ?_⟩
    rw [X3] at h2
    have hwk : m_wk (eg_sl (eg_si (k_swm M t m row) 98 t (nI m)) 177 0 w) (nI t) (nI m) row := by
      have q := (wk_eq hA (nI t) (nI m) row).mp ⟨z2.1, by rw [n_c (by omega)]; exact z2.2⟩
      unfold m_wk m_wo at q ⊢
      rw [X3]
      rw [e3] at q
      exact q
    rcases h2 with ⟨y, _⟩ | ⟨y, y2, _⟩ | ⟨y, y2, rfl, rfl⟩
    · exact absurd (ha.mp z) y
    · exact absurd hwk y2
    · have S : m_wm (eg_sl (eg_si (k_swm M t m row) 98 t (nI m)) 177 0 w) (nI t) (nI m) row (nI m).toNatClampNeg = eg_ri (eg_si (eg_si (eg_sl (eg_si (eg_ri (eg_ri M (99 + 1 + t) (fun j => if j < 16 then k_rk row m j else eg_gi M (99 + 1 + t) j)) (81 + 1 + t) (fun j => if j < m then w4 row j else eg_gi M (81 + 1 + t) j)) 98 t (nI m)) 177 0 w) 121 1 (nI 0)) 170 t (nI m)) 171 (fun j => if 6 * t ≤ j ∧ j < 6 * t + m then w4 row (j - 6 * t) else eg_gi M 171 j) := by
        have e171 : ∀ j, eg_gi (eg_sl (eg_si (k_swm M t m row) 98 t (nI m)) 177 0 w) 171 j = eg_gi M 171 j := fun j => by
          unfold k_swm
          rw [sl_gi, si_g, if_neg (by omega), ri_g, if_neg (by omega), ri_g, if_neg (by omega)]
        unfold m_wm
        rw [n_c (by omega), n_c (by omega)]
        simp only [e171]
        rfl
      rw [S]
      refine ⟨wi_set (t := t) (m := m) (row := row) hA ht ht2 hm z2.2 (vf_ri (vf_si (vf_si (vf_sl (vf_si (vf_ri (vf_ri vf_0 (ps_wi_w t ht).2) (ps_wi_w t ht).1) rfl) rfl) rfl) rfl) rfl) ?_ ?_ (fun j => ?_) (fun i hi => ?_) (fun x hx => ?_) (fun s hs hne j => ⟨?_, ?_⟩), rfl, ag_ok rfl ?_⟩
      · refine pu_of fun j => ?_
        rw [ri_g, if_neg (by decide), si_g, if_neg (by omega), si_g, if_neg (by omega), sl_gi, si_g]
        by_cases q : j = t
        · rw [if_pos ⟨rfl, q⟩, if_pos q]
        · rw [if_neg (fun r => q r.2), if_neg q, ri_g, if_neg (by omega), ri_g, if_neg (by omega)]
      · refine pu_of fun j => ?_
        rw [ri_g, if_neg (by decide), si_g]
        by_cases q : j = t
        · rw [if_pos ⟨rfl, q⟩, if_pos q]
        · rw [if_neg (fun r => q r.2), if_neg q, si_g, if_neg (by omega), sl_gi, si_g, if_neg (by omega), ri_g, if_neg (by omega), ri_g, if_neg (by omega)]
      · rw [ri_g, if_pos rfl]
      · rw [ri_g, if_neg (by omega), si_g, if_neg (by omega), si_g, if_neg (by omega), sl_gi, si_g, if_neg (by omega), ri_g, if_pos rfl, if_pos hi]
      · rw [ri_g, if_neg (by omega), si_g, if_neg (by omega), si_g, if_neg (by omega), sl_gi, si_g, if_neg (by omega), ri_g, if_neg (by omega), ri_g, if_pos rfl, if_pos hx]
      · rw [ri_g, if_neg (by omega), si_g, if_neg (by omega), si_g, if_neg (by omega), sl_gi, si_g, if_neg (by omega), ri_g, if_neg (by omega), ri_g, if_neg (by omega)]
      · rw [ri_g, if_neg (by omega), si_g, if_neg (by omega), si_g, if_neg (by omega), sl_gi, si_g, if_neg (by omega), ri_g, if_neg (by omega), ri_g, if_neg (by omega)]
      · rw [ri_g, if_neg (by decide), si_g, if_neg (by omega), si_g, if_pos ⟨rfl, rfl⟩]

/-! PAIRS: plans -/
abbrev ps_pd : vf_K := [(76, none), (177, none), (121, some 1), (167, none)]
theorem pl_keep {M N : eg_M} {n : Nat} (hA : r_A M) (en : eg_gi M 72 0 = nI n) (hn : n ≤ 6) (hf : vf ps_pd M N) (h1 : ∀ j, j < 4 * n → eg_gi N 76 j = eg_gi M 76 j) (h2 : ∀ j, j < 4 * n → eg_gi N 167 j = eg_gi M 167 j) : r_A N := by
  refine rA_k hf hA (Or.inl rfl) (Or.inl rfl) (Or.inl rfl) (Or.inl rfl) (Or.inl rfl) (Or.inl rfl) (Or.inl rfl) (Or.inl rfl) (Or.inr ?_) (Or.inl rfl) (Or.inl rfl) (Or.inl rfl)
  have s := vf_sm (rs := [(121, some 65), (72, some 0), (7, some 4), (164, none), (73, none), (165, none), (74, none), (166, none), (75, none), (8, none), (9, none)]) hf rfl
  obtain ⟨b1, b2, b3⟩ := hA.2.2.2.2.2.2.2.2.1
  have i72 : eg_gi N 72 0 = eg_gi M 72 0 := sm_i s rfl
  refine ⟨by rw [i72]; exact b1, (sm_i s rfl).trans (b2.trans i72.symm), fun p hp => ?_⟩
  rw [i72] at hp
  obtain ⟨f1, f2, f3, f4, f5, f6, f7⟩ := b3 p hp
  have hp2 : p < n := by rw [en, n_c (by omega)] at hp; exact hp
  have i75 : eg_gi N 75 p = eg_gi M 75 p := sm_i s rfl
  rw [show eg_gi N 7 4 = eg_gi M 7 4 from sm_i s rfl, show eg_gi N 164 p = eg_gi M 164 p from sm_i s rfl, show eg_gi N 73 p = eg_gi M 73 p from sm_i s rfl, show eg_gi N 165 p = eg_gi M 165 p from sm_i s rfl, show eg_gi N 74 p = eg_gi M 74 p from sm_i s rfl, show eg_gi N 166 p = eg_gi M 166 p from sm_i s rfl, i75, show ∀ j, eg_gi N 8 j = eg_gi M 8 j from fun j => sm_i s rfl, show ∀ j, eg_gi N 9 j = eg_gi M 9 j from fun j => sm_i s rfl]
  refine ⟨f1, f2, f3, f4, f5, f6, fun i hi => ?_⟩
  obtain ⟨k, hk, ek⟩ := f6
  have hi2 := hi
  rw [ek, n_c (by omega)] at hi2
  rw [h1 _ (by omega), h2 _ (by omega)]
  exact f7 i hi
abbrev ps_pl : vf_K := [(76, none), (73, none), (74, none), (75, none), (72, some 0), (177, none), (121, some 1), (167, none), (164, none), (165, none), (166, none), (121, some 65)]
theorem pl_add {M N : eg_M} {n m k : Nat} {b : Int32} {d : Int64} (hA : r_A M) (en : eg_gi M 72 0 = nI n) (hn : n < 6) (hm : m ≤ 4) (hk : k < (eg_gi M 7 4).toNatClampNeg) (hb : vp_in b 31) (hd : ∀ i, i < m → ¬ nI 3599 < dy d i) (hf : vf ps_pl M N) (c72 : eg_gi N 72 0 = nI (n + 1)) (c65 : eg_gi N 121 65 = nI (n + 1)) (h1 : ∀ j, j < 4 * n → eg_gi N 76 j = eg_gi M 76 j) (h2 : ∀ j, j < 4 * n → eg_gi N 167 j = eg_gi M 167 j) (k1 : ∀ i, i < m → eg_gi N 76 (n * 4 + i) = dy d i) (k2 : ∀ i, i < m → eg_gi N 167 (4 * n + i) = dy d i)
    (g73 : pu n ((nI 1 <<< (eg_gi M 8 k &&& 31)) ||| (nI 1 <<< (eg_gi M 9 k &&& 31))) (eg_gi N 73) (eg_gi M 73)) (g74 : pu n b (eg_gi N 74) (eg_gi M 74)) (g75 : pu n (nI m) (eg_gi N 75) (eg_gi M 75)) (m4 : pu n (nI k) (eg_gi N 164) (eg_gi M 164)) (m5 : pu n b (eg_gi N 165) (eg_gi M 165)) (m6 : pu n (nI m) (eg_gi N 166) (eg_gi M 166)) : r_A N := by
  refine rA_k hf hA (Or.inl rfl) (Or.inl rfl) (Or.inl rfl) (Or.inl rfl) (Or.inl rfl) (Or.inl rfl) (Or.inl rfl) (Or.inl rfl) (Or.inr ?_) (Or.inl rfl) (Or.inl rfl) (Or.inl rfl)
  obtain ⟨b1, b2, b3⟩ := hA.2.2.2.2.2.2.2.2.1
  have s := vf_sm (rs := [(7, some 4), (8, none), (9, none)]) hf rfl
  obtain ⟨c, hc, ec⟩ := hA.1.2.2.2.1
  have h24 : (eg_gi M 7 4).toNatClampNeg ≤ 24 := by rw [ec, n_c (by omega)]; exact hc
  refine ⟨⟨n + 1, by omega, c72⟩, c65.trans c72.symm, fun p hp => ?_⟩
  rw [c72, n_c (by omega)] at hp
  rw [show eg_gi N 7 4 = eg_gi M 7 4 from sm_i s rfl, show ∀ j, eg_gi N 8 j = eg_gi M 8 j from fun j => sm_i s rfl, show ∀ j, eg_gi N 9 j = eg_gi M 9 j from fun j => sm_i s rfl]
  by_cases q : p = n
  · subst q
    rw [g73.1, g74.1, g75.1, m4.1, m5.1, m6.1, n_c (by omega), n_c (by omega)]
    refine ⟨vp_in_nI hk (by omega), rfl, rfl, hb, rfl, ⟨m, hm, rfl⟩, fun i hi => ?_⟩
    rw [k1 i hi, k2 i hi]
    refine ⟨rfl, ?_⟩
    obtain ⟨x, hx, ex⟩ := nI_of2 (M := nI 3599) (n := 3599) (by decide) (dy_0 d i) (Int32.not_lt.mp (hd i hi))
    exact ⟨x, hx, ex⟩
  · obtain ⟨f1, f2, f3, f4, f5, f6, f7⟩ := b3 p (by rw [en, n_c (by omega)]; omega)
    rw [g73.2 p q, g74.2 p q, g75.2 p q, m4.2 p q, m5.2 p q, m6.2 p q]
    refine ⟨f1, f2, f3, f4, f5, f6, fun i hi => ?_⟩
    obtain ⟨z, hz, ez⟩ := f6
    have hi2 := hi
    rw [ez, n_c (by omega)] at hi2
    rw [h1 _ (by omega), h2 _ (by omega)]
    exact f7 i hi
theorem pr_plan (a b c : Int32) (d : Int64) : pr ag_i hN1 s_X11_plan s_X12_plan [.int a, .int b, .int c, .long d] := by
  intro M hA
  obtain ⟨p1, p2, _⟩ := hA.2.2.2.2.2.2.2.2.1
  have h24 := hA.1.2.2.2.1
  have e4 : eg_gi M 121 4 = eg_gi M 7 4 := hA.2.2.1.2.1
  have ha := ix_cm (c := a) (by decide) h24
  obtain ⟨n, hn, en⟩ := p1
  have ep : eg_gi M 121 65 = nI n := p2.trans en
  refine ⟨⟨h24, ⟨n, hn, en⟩⟩, fun oo N hN w => ?_⟩
  rw [en, n_c (by omega)] at hN
  have mdl : ∀ K : eg_M, eg_gi K 121 65 = nI n → eg_gi K 121 4 = eg_gi M 7 4 → ∀ Qp : eg_P,
      ((¬ (¬ a < 0 ∧ ¬ eg_gi M 7 4 ≤ a) → Qp (.inl (some (.int (nI 0)))) (eg_si K 121 1 (nI 1))) ∧
       ((¬ a < 0 ∧ ¬ eg_gi M 7 4 ≤ a) → ¬ (¬ n = 6 ∧ (¬ b < nI 1 ∧ ¬ nI 30 < b) ∧ (¬ c < nI 1 ∧ ¬ nI 4 < c) ∧ ∀ i, i < c.toNatClampNeg → ¬ nI 3599 < dy d i) → ∀ f, (∀ j, j < 4 * n → f j = eg_gi K 167 j) → Qp (.inl (some (.int (-nI 1)))) (eg_ri (eg_si K 121 1 (nI 0)) 167 f)) ∧
       ((¬ a < 0 ∧ ¬ eg_gi M 7 4 ≤ a) → (¬ n = 6 ∧ (¬ b < nI 1 ∧ ¬ nI 30 < b) ∧ (¬ c < nI 1 ∧ ¬ nI 4 < c) ∧ ∀ i, i < c.toNatClampNeg → ¬ nI 3599 < dy d i) → ∀ f, (∀ j, j < 4 * n → f j = eg_gi K 167 j) → (∀ i, i < c.toNatClampNeg → f (4 * n + i) = dy d i) → Qp (.inl (some (.int (nI n)))) (eg_si (eg_si (eg_si (eg_si (eg_ri (eg_si K 121 1 (nI 0)) 167 f) 164 n a) 165 n b) 166 n c) 121 65 (nI (n + 1))))) → s_X12_plan [.ref 121, .int a, .int b, .int c, .long d] K Qp := by
    intro K k1 k2 Qp ⟨q1, q2, q3⟩
    refine ⟨by rw [k1]; exact ⟨n, hn, rfl⟩, fun v M2 h => ?_⟩
    have kk : m_pk K b c d ↔ (¬ n = 6 ∧ (¬ b < nI 1 ∧ ¬ nI 30 < b) ∧ (¬ c < nI 1 ∧ ¬ nI 4 < c) ∧ ∀ i, i < c.toNatClampNeg → ¬ nI 3599 < dy d i) := by
      unfold m_pk
      rw [k1, n_eq (by omega) (by decide)]
      refine and_congr Iff.rfl (and_congr Iff.rfl (and_congr Iff.rfl (forall_congr' fun i => forall_congr' fun _ => Int32.not_lt.symm)))
    rw [k2, k1, n_c (by omega), kk] at h
    rcases h with ⟨y, rfl, rfl⟩ | ⟨y, y2, rfl, f, hf, rfl⟩ | ⟨y, y2, rfl, f, hf, hf2, rfl⟩
    · exact q1 y
    · exact q2 y y2 f hf
    · exact q3 y y2 f hf hf2
  rcases hN with ⟨z, rfl, rfl⟩ | ⟨z, z2, rfl, rfl⟩ | ⟨z, z2, hN⟩
  · exact mdl (eg_sl N 177 0 w) ep e4 _ ⟨fun _ => ⟨rA_c hA, rfl, ag_N1 rfl⟩, fun y => absurd (ha.mpr y) z, fun y => absurd (ha.mpr y) z⟩
  · refine mdl (eg_sl N 177 0 w) ep e4 _ ⟨fun y => absurd (ha.mp z) y, fun _ _ f hf => ⟨?_, rfl, ag_ok rfl (by simp [si_g, ri_g])⟩, fun _ y => absurd ⟨y.2.1, y.2.2.1⟩ z2⟩
    exact pl_keep hA en hn (vf_ri (vf_si (vf_sl vf_0 rfl) rfl) rfl) (fun j _ => by simp [si_g, ri_g, sl_gi]) (fun j hj => by simp [ri_g]; rw [hf j hj]; rfl)
  · rcases hN with ⟨hn6, rfl, rfl⟩ | ⟨hn6, i, hi, hdi, rfl, rfl⟩ | ⟨hn6, hd, rfl, rfl⟩
    · refine mdl (eg_sl N 177 0 w) ep e4 _ ⟨fun y => absurd (ha.mp z) y, fun _ _ f hf => ⟨?_, rfl, ag_ok rfl (by simp [si_g, ri_g])⟩, fun _ y => absurd hn6 y.1⟩
      exact pl_keep hA en hn (vf_ri (vf_si (vf_sl vf_0 rfl) rfl) rfl) (fun j _ => by simp [si_g, ri_g, sl_gi]) (fun j hj => by simp [ri_g]; rw [hf j hj]; rfl)
    · refine mdl _ ((show _ = eg_gi M 121 65 by simp [k_pd, ri_g, sl_gi]).trans ep) ((show _ = eg_gi M 121 4 by simp [k_pd, ri_g, sl_gi]).trans e4) _ ⟨fun y => absurd (ha.mp z) y, fun _ _ f hf => ⟨?_, rfl, ag_ok rfl (by simp [si_g, ri_g])⟩, fun _ y => absurd hdi (y.2.2.2 i hi)⟩
      refine pl_keep hA en hn (vf_ri (vf_si (vf_sl (vf_ri vf_0 rfl) rfl) rfl) rfl) (fun j hj => ?_) (fun j hj => ?_)
      · simp [k_pd, si_g, ri_g, sl_gi]
        omega
      · simp [ri_g]
        rw [hf j hj]
        simp [k_pd, ri_g, sl_gi]
    · obtain ⟨k, hk, hk2, rfl⟩ := k_idx (by decide) h24 z.1 z.2
      obtain ⟨m, hm, rfl⟩ := nI_of2 (M := nI 4) (n := 4) (by decide) (fun t => z2.2.1 (Int32.lt_of_lt_of_le t (by decide))) (Int32.not_lt.mp z2.2.2)
      rw [n_c (show m < 2 ^ 31 by omega)] at hd ⊢
      rw [n_c (show k < 2 ^ 31 by omega)]
      refine mdl _ ((show _ = eg_gi M 121 65 by simp [k_pl, k_pd, si_g, ri_g, sl_gi]).trans ep) ((show _ = eg_gi M 121 4 by simp [k_pl, k_pd, si_g, ri_g, sl_gi]).trans e4) _ ⟨fun y => absurd (ha.mp z) y, fun _ y => absurd ⟨by omega, z2.1, z2.2, by rw [n_c (by omega)]; exact hd⟩ y, fun _ _ f hf hf2 => ⟨?_, rfl, ag_ok rfl (by simp [si_g, ri_g])⟩⟩
      rw [n_c (by omega)] at hf2
      refine pl_add (n := n) (m := m) (k := k) (b := b) (d := d) hA en hn6 hm hk2 (rg_in (a := 1) (m := 30) (by decide) (by decide) z2.1.1 z2.1.2) hd (vf_si (vf_si (vf_si (vf_si (vf_ri (vf_si (vf_sl (vf_si (vf_si (vf_si (vf_si (vf_ri vf_0 rfl) rfl) rfl) rfl) rfl) rfl) rfl) rfl) rfl) rfl) rfl) rfl) (by simp [k_pl, k_pd, si_g, ri_g, sl_gi]) (by simp [k_pl, k_pd, si_g, ri_g, sl_gi]) (fun j hj => ?_) (fun j hj => ?_) (fun i hi => ?_) (fun i hi => ?_) (pu_of fun j => by simp [k_pl, k_pd, si_g, ri_g, sl_gi]) (pu_of fun j => by simp [k_pl, k_pd, si_g, ri_g, sl_gi]) (pu_of fun j => by simp [k_pl, k_pd, si_g, ri_g, sl_gi]) (pu_of fun j => by simp [k_pl, k_pd, si_g, ri_g, sl_gi]) (pu_of fun j => by simp [k_pl, k_pd, si_g, ri_g, sl_gi]) (pu_of fun j => by simp [k_pl, k_pd, si_g, ri_g, sl_gi])
      · simp [k_pl, k_pd, si_g, ri_g, sl_gi]
        omega
      · simp [si_g, ri_g]
        rw [hf j hj]
        simp [k_pl, k_pd, si_g, ri_g, sl_gi]
      · simp [k_pl, k_pd, si_g, ri_g, sl_gi]
        omega
      · simp [si_g, ri_g]
        exact hf2 i hi

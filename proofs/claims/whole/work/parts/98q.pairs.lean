/-! PAIRS: charters, events, the tape -/
abbrev ps_ch : vf_K := [(7, some 4), (8, none), (9, none), (10, none), (11, none), (177, none), (121, some 1), (121, some 4), (127, none), (128, none), (129, none)]
theorem ch_add {M N : eg_M} {n : Nat} {a b c : Int32} (hA : r_A M) (hn : n < 24) (en : eg_gi M 7 4 = nI n) (ha : vp_in a (eg_gi M 2 4).toNatClampNeg) (hb : vp_in b (eg_gi M 2 4).toNatClampNeg) (hf : vf ps_ch M N) (c7 : eg_gi N 7 4 = nI (n + 1)) (c4 : eg_gi N 121 4 = nI (n + 1)) (g8 : pu n a (eg_gi N 8) (eg_gi M 8)) (g9 : pu n b (eg_gi N 9) (eg_gi M 9)) (g10 : pu n c (eg_gi N 10) (eg_gi M 10)) (g11 : pu n (eg_gi M 0 8) (eg_gi N 11) (eg_gi M 11)) (m0 : eg_gi N 127 (2 * n) = a) (m1 : eg_gi N 127 (2 * n + 1) = b) (m2 : ∀ j, j < 2 * n → eg_gi N 127 j = eg_gi M 127 j) (m3 : pu n c (eg_gi N 128) (eg_gi M 128)) (m4 : pu n (eg_gi M 121 2) (eg_gi N 129) (eg_gi M 129)) : r_A N := by
  have hM : (eg_gi M 7 4).toNatClampNeg = n := by rw [en, n_c (by omega)]
  have hN : (eg_gi N 7 4).toNatClampNeg = n + 1 := by rw [c7, n_c (by omega)]
  obtain ⟨nt, hnt, ent⟩ := hA.2.1.1
  have h16 : (eg_gi M 2 4).toNatClampNeg ≤ 16 := by rw [ent, n_c (by omega)]; exact hnt
  have e24 : eg_gi N 2 4 = eg_gi M 2 4 := (hf.2 2 4 rfl).1
  have e08 : eg_gi N 0 8 = eg_gi M 0 8 := (hf.2 0 8 rfl).1
  have ix : ∀ x, vp_in x n → ∃ k, k < n ∧ x.toNatClampNeg = k := fun x hx => by
    obtain ⟨k, hk, rfl⟩ := vp_in_of hx (by omega)
    exact ⟨k, hk, n_c (by omega)⟩
  refine rA_k hf hA (Or.inr ?_) (Or.inl rfl) (Or.inr ?_) (Or.inr ?_) (Or.inl rfl) (Or.inl rfl) (Or.inl rfl) (Or.inl rfl) (Or.inr ?_) (Or.inl rfl) (Or.inl rfl) (Or.inl rfl)
  · refine kp_J (vf_sm hf rfl) (fun e he => ?_) ⟨n + 1, by omega, c7⟩ (by rw [e08]; exact hA.1.2.2.2.2) (fun k hk => ?_) hA.1
    · obtain ⟨_, _, _, hc, _⟩ := hA.2.2.2.1.2 e he
      rw [hM] at hc
      obtain ⟨k, hk, ek⟩ := ix _ hc
      rw [ek]
      refine ⟨fun p h1 h2 => ?_, fun p h1 h2 => ⟨(hf.2 p _ ?_).1, (hf.2 p _ ?_).1⟩⟩
      · rcases (show p = 8 ∨ p = 9 ∨ p = 10 by omega) with rfl | rfl | rfl
        · exact g8.2 _ (by omega)
        · exact g9.2 _ (by omega)
        · exact g10.2 _ (by omega)
      · rcases (show p = 3 ∨ p = 4 ∨ p = 5 ∨ p = 6 by omega) with rfl | rfl | rfl | rfl <;> rfl
      · rcases (show p = 3 ∨ p = 4 ∨ p = 5 ∨ p = 6 by omega) with rfl | rfl | rfl | rfl <;> rfl
    · by_cases q : k = n
      · subst q
        rw [g8.1, g9.1]
        exact ⟨in_m h16 ha, in_m h16 hb⟩
      · rw [g8.2 k q, g9.2 k q]
        exact hA.1.1.2.1 k hk
  · refine ⟨by rw [e08, (hf.2 121 2 rfl).1]; exact hA.2.2.1.1, c4.trans c7.symm, fun k hk => ?_⟩
    rw [hN] at hk
    rw [e24, e08]
    by_cases q : k = n
    · subst q
      rw [g8.1, g9.1, g10.1, g11.1, m0, m1, m3.1, m4.1]
      exact ⟨rfl, rfl, rfl, hA.2.2.1.1, ha, hb, fun h => Int32.lt_irrefl h⟩
    · rw [g8.2 k q, g9.2 k q, g10.2 k q, g11.2 k q, m2 _ (by omega), m2 _ (by omega), m3.2 k q, m4.2 k q]
      exact hA.2.2.1.2.2 k (by rw [hM]; omega)
  · have s := vf_sm (rs := [(121, some 5), (12, some 10), (130, none), (131, none), (132, none), (133, none), (134, none), (135, none), (136, none), (137, none), (138, none), (13, none), (14, none), (15, none), (16, none), (17, none), (18, none), (19, none), (20, none), (21, none)]) hf rfl
    have i12 : eg_gi N 12 10 = eg_gi M 12 10 := sm_i s rfl
    refine ⟨(sm_i s rfl).trans (hA.2.2.2.1.1.trans i12.symm), fun e he => ?_⟩
    rw [i12] at he
    obtain ⟨f1, f2, f3, f4, f5, f6⟩ := hA.2.2.2.1.2 e he
    rw [hM] at f4
    obtain ⟨k, hk, ek⟩ := ix _ f4
    rw [ek] at f6
    rw [hN, show eg_gi N 130 e = eg_gi M 130 e from sm_i s rfl, show eg_gi N 131 e = eg_gi M 131 e from sm_i s rfl, show eg_gi N 132 e = eg_gi M 132 e from sm_i s rfl, show eg_gi N 133 e = eg_gi M 133 e from sm_i s rfl, show eg_gi N 134 e = eg_gi M 134 e from sm_i s rfl, show eg_gi N 135 e = eg_gi M 135 e from sm_i s rfl, show eg_gi N 136 e = eg_gi M 136 e from sm_i s rfl, show eg_gi N 137 e = eg_gi M 137 e from sm_i s rfl, show eg_gi N 138 e = eg_gi M 138 e from sm_i s rfl, show eg_gi N 13 e = eg_gi M 13 e from sm_i s rfl, show eg_gi N 14 e = eg_gi M 14 e from sm_i s rfl, show eg_gi N 15 e = eg_gi M 15 e from sm_i s rfl, show eg_gi N 16 e = eg_gi M 16 e from sm_i s rfl, show eg_gi N 17 e = eg_gi M 17 e from sm_i s rfl, show eg_gi N 18 e = eg_gi M 18 e from sm_i s rfl, show eg_gi N 19 e = eg_gi M 19 e from sm_i s rfl, show eg_gi N 20 e = eg_gi M 20 e from sm_i s rfl, show eg_gi N 21 e = eg_gi M 21 e from sm_i s rfl, ek, g11.2 k (by omega)]
    exact ⟨f1, f2, f3, in_m (by omega) f4, f5, f6⟩
  · have s := vf_sm (rs := [(121, some 65), (72, some 0), (164, none), (73, none), (165, none), (74, none), (166, none), (75, none), (167, none), (76, none)]) hf rfl
    obtain ⟨b1, b2, b3⟩ := hA.2.2.2.2.2.2.2.2.1
    have i72 : eg_gi N 72 0 = eg_gi M 72 0 := sm_i s rfl
    refine ⟨by rw [i72]; exact b1, (sm_i s rfl).trans (b2.trans i72.symm), fun p hp => ?_⟩
    rw [i72] at hp
    obtain ⟨f1, f2, f3⟩ := b3 p hp
    rw [hM] at f1
    obtain ⟨k, hk, ek⟩ := ix _ f1
    rw [ek] at f2
    have j4 : ∀ j, eg_gi N 167 j = eg_gi M 167 j := fun j => sm_i s rfl
    have j5 : ∀ j, eg_gi N 76 j = eg_gi M 76 j := fun j => sm_i s rfl
    simp only [hN, show eg_gi N 164 p = eg_gi M 164 p from sm_i s rfl, show eg_gi N 73 p = eg_gi M 73 p from sm_i s rfl, show eg_gi N 165 p = eg_gi M 165 p from sm_i s rfl, show eg_gi N 74 p = eg_gi M 74 p from sm_i s rfl, show eg_gi N 166 p = eg_gi M 166 p from sm_i s rfl, show eg_gi N 75 p = eg_gi M 75 p from sm_i s rfl, j4, j5, ek, g8.2 k (by omega), g9.2 k (by omega)]
    exact ⟨in_m (by omega) f1, f2, f3⟩
theorem pr_charter (a b c : Int32) : pr ag_i hN1 s_X11_charter_v s_X12_charter [.int a, .int b, .int c] := by
  intro M hA
  have tw := hA.2.1
  have e3 : eg_gi M 121 3 = eg_gi M 2 4 := tw.2.1
  have e4 : eg_gi M 121 4 = eg_gi M 7 4 := hA.2.2.1.2.1
  have h24 := hA.1.2.2.2.1
  have ha := ix_cm (c := a) (by decide) tw.1
  have hb := ix_cm (c := b) (by decide) tw.1
  have hlt := cn_lt (by decide : 24 < 2 ^ 31) h24
  refine ⟨⟨tw.1, h24⟩, fun oo N hN w => ?_⟩
  rcases hN with ⟨z, rfl, rfl⟩ | ⟨z, z2, rfl, rfl⟩ | ⟨z, z2, z3, z4, rfl, rfl⟩
  · have X3 : eg_gi (eg_si (eg_sl N 177 0 w) 121 1 (nI 0)) 121 3 = eg_gi N 2 4 := e3
    have no : (¬ a < 0 ∧ ¬ eg_gi N 2 4 ≤ a) → (¬ b < 0 ∧ ¬ eg_gi N 2 4 ≤ b) → False := fun y1 y2 => z ⟨ha.mpr y1, hb.mpr y2⟩
    refine au_X12_charter a b c (fun y1 y2 => ?_) (fun y1 y2 => ?_) (fun y1 y2 => ?_) (fun _ => ⟨rA_cc hA, rfl, ag_N1 rfl⟩) (fun y => ?_) (fun y => ?_)
    · rw [X3] at y1 y2
      exact (no (Classical.not_not.mp y1) (Classical.not_not.mp y2)).elim
    · rw [X3] at y1 y2
      exact (no (Classical.not_not.mp y1) (Classical.not_not.mp y2)).elim
    · rw [X3] at y1 y2
      exact (no (Classical.not_not.mp y1) (Classical.not_not.mp y2)).elim
    · rw [X3] at y
      exact (no y.1 y.2.1).elim
    · rw [X3] at y
      exact (no y.1 y.2.1).elim
  · have X3 : eg_gi (eg_si (eg_sl N 177 0 w) 121 1 (nI 0)) 121 3 = eg_gi N 2 4 := e3
    have X4 : eg_gi (eg_sl N 177 0 w) 121 4 = eg_gi N 7 4 := e4
    have no : ¬ eg_gi N 7 4 = nI 24 → ¬ a = b → (¬ c < nI 0 ∧ ¬ nI 3599 < c) → False := fun y1 y2 y3 => z2.elim y2 (fun q => q.elim (fun r => r y3) (fun r => r (hlt.mpr y1)))
    refine au_X12_charter a b c (fun _ _ y1 y2 y3 => ?_) (fun _ _ y1 y2 y3 => ?_) (fun _ _ y1 y2 y3 => ?_) (fun y => ?_) (fun y => ⟨rA_c hA, rfl, ag_ok rfl rfl⟩) (fun y => ?_)
    · rw [X4] at y1
      exact (no y1 y2 (Classical.not_not.mp y3)).elim
    · rw [X4] at y1
      exact (no y1 y2 (Classical.not_not.mp y3)).elim
    · rw [X4] at y1
      exact (no y1 y2 (Classical.not_not.mp y3)).elim
    · rw [X3] at y
      exact absurd z (fun t => y.elim (fun q => q (ha.mp t.1)) (fun q => q (hb.mp t.2)))
    · rw [X4] at y
      exact (no y.2.2.1 y.2.2.2.1 y.2.2.2.2).elim
  · obtain ⟨n, hn, en⟩ := (cn_in (by decide) h24 z4).2
    rw [en, n_c (by omega)]
    have X3 : eg_gi (eg_si (eg_sl (eg_si (eg_si (eg_si (eg_si (eg_si M 8 n a) 9 n b) 10 n c) 11 n (eg_gi M 0 8)) 7 4 (nI n + nI 1)) 177 0 w) 121 1 (nI 0)) 121 3 = eg_gi M 2 4 := (show _ = eg_gi M 121 3 by simp [si_g, sl_gi]).trans e3
    have X4 : eg_gi (eg_sl (eg_si (eg_si (eg_si (eg_si (eg_si M 8 n a) 9 n b) 10 n c) 11 n (eg_gi M 0 8)) 7 4 (nI n + nI 1)) 177 0 w) 121 4 = nI n := (show _ = eg_gi M 121 4 by simp [si_g, sl_gi]).trans (e4.trans en)
    have X2 : eg_gi (eg_sl (eg_si (eg_si (eg_si (eg_si (eg_si M 8 n a) 9 n b) 10 n c) 11 n (eg_gi M 0 8)) 7 4 (nI n + nI 1)) 177 0 w) 121 2 = eg_gi M 121 2 := by simp [si_g, sl_gi]
    refine au_X12_charter a b c (fun _ _ _ _ _ => ?_) (fun _ _ _ _ _ => ?_) (fun _ _ _ _ _ => ?_) (fun y => ?_) (fun y => ?_) (fun y => ?_)
    · rw [X4, n_m]
      exact vp_in_nI (by omega) (by decide)
    · rw [X4, n_m, n_s]
      exact vp_in_nI (by omega) (by decide)
    · rw [X4]
      exact vp_in_nI (by omega) (by decide)
    · rw [X3] at y
      exact absurd z (fun t => y.elim (fun q => q (ha.mp t.1)) (fun q => q (hb.mp t.2)))
    · rw [X4, n_eq (by omega) (by decide)] at y
      exfalso
      rcases y.2.2 with q | q | q
      · omega
      · exact z2 q
      · exact q z3
    · rw [X4, X2, n_m, n_s, n_s, n_c (by omega), n_c (by omega), n_c (by omega)]
      obtain ⟨t1, p1, p2, rfl⟩ := k_idx (by decide) tw.1 z.1.1 z.1.2
      obtain ⟨t2, p3, p4, rfl⟩ := k_idx (by decide) tw.1 z.2.1 z.2.2
      have h16 : (eg_gi M 2 4).toNatClampNeg < 2 ^ 31 := by
        obtain ⟨k, hk, ek⟩ := tw.1
        rw [ek, n_c (by omega)]
        omega
      exact ⟨ch_add (a := nI t1) (b := nI t2) (c := c) hA hn en (vp_in_nI p2 h16) (vp_in_nI p4 h16) (vf_si (vf_si (vf_si (vf_si (vf_si (vf_si (vf_sl (vf_si (vf_si (vf_si (vf_si (vf_si vf_0 rfl) rfl) rfl) rfl) rfl) rfl) rfl) rfl) rfl) rfl) rfl) rfl) (by simp [si_g, sl_gi]) (by simp [si_g, sl_gi]) (pu_of (fun j => by simp [si_g, sl_gi])) (pu_of (fun j => by simp [si_g, sl_gi])) (pu_of (fun j => by simp [si_g, sl_gi])) (pu_of (fun j => by simp [si_g, sl_gi])) (by simp [si_g, sl_gi]) (by simp [si_g, sl_gi]) (fun j hj => by simp [si_g, sl_gi, show ¬ j = 2 * n by omega, show ¬ j = 2 * n + 1 by omega]) (pu_of (fun j => by simp [si_g, sl_gi])) (pu_of (fun j => by simp [si_g, sl_gi])), rfl, ag_ok n_p.symm (by simp [si_g, sl_gi])⟩
abbrev ps_ev : vf_K := [(1, some 4), (12, some 10), (13, none), (14, none), (15, none), (16, none), (17, none), (18, none), (19, none), (20, none), (21, none), (22, none), (177, none), (121, some 1), (121, some 5), (130, none), (131, none), (132, none), (133, none), (134, none), (135, none), (136, none), (137, none), (138, none)]
abbrev ps_em : vf_K := [(177, none), (121, some 1), (121, some 5), (130, none), (131, none), (132, none), (133, none), (134, none), (135, none), (136, none), (137, none), (138, none)]
theorem ev_add {M K N : eg_M} {n : Nat} {a b c d e f g : Int32} (hA : r_A M) (hn : n < 200) (en : eg_gi M 12 10 = nI n) (ha : vp_in a 3) (hb : vp_in b (eg_gi M 7 4).toNatClampNeg) (hd : ¬ a = 0 → vp_in d 2) (hK : k_I K) (hKN : vf ps_em K N) (hf : vf ps_ev M N) (c12 : eg_gi N 12 10 = nI (n + 1)) (c5 : eg_gi N 121 5 = nI (n + 1))
    (g13 : pu n a (eg_gi N 13) (eg_gi M 13)) (m13 : pu n a (eg_gi N 130) (eg_gi M 130))
    (g14 : pu n b (eg_gi N 14) (eg_gi M 14)) (m14 : pu n b (eg_gi N 131) (eg_gi M 131))
    (g15 : pu n c (eg_gi N 15) (eg_gi M 15)) (m15 : pu n c (eg_gi N 132) (eg_gi M 132))
    (g16 : pu n d (eg_gi N 16) (eg_gi M 16)) (m16 : pu n d (eg_gi N 133) (eg_gi M 133))
    (g17 : pu n e (eg_gi N 17) (eg_gi M 17)) (m17 : pu n e (eg_gi N 134) (eg_gi M 134))
    (g18 : pu n f (eg_gi N 18) (eg_gi M 18)) (m18 : pu n f (eg_gi N 135) (eg_gi M 135))
    (g19 : pu n g (eg_gi N 19) (eg_gi M 19)) (m19 : pu n g (eg_gi N 136) (eg_gi M 136))
    (g20 : pu n (eg_gi M 0 8) (eg_gi N 20) (eg_gi M 20)) (m20 : pu n (eg_gi M 121 2) (eg_gi N 137) (eg_gi M 137)) (g21 : pu n (nI 3600) (eg_gi N 21) (eg_gi M 21)) (m21 : pu n (-nI 1) (eg_gi N 138) (eg_gi M 138)) : r_A N := by
  have hM : (eg_gi M 12 10).toNatClampNeg = n := by rw [en, n_c (by omega)]
  have hN : (eg_gi N 12 10).toNatClampNeg = n + 1 := by rw [c12, n_c (by omega)]
  have e74 : eg_gi N 7 4 = eg_gi M 7 4 := (hf.2 7 4 rfl).1
  refine rA_k hf hA (Or.inr (kp_I (vf_sm hKN rfl) hK)) (Or.inl rfl) (Or.inl rfl) (Or.inr ?_) (Or.inl rfl) (Or.inl rfl) (Or.inl rfl) (Or.inl rfl) (Or.inl rfl) (Or.inl rfl) (Or.inl rfl) (Or.inl rfl)
  refine ⟨c5.trans c12.symm, fun x hx => ?_⟩
  rw [hN] at hx
  rw [e74]
  by_cases q : x = n
  · subst q
    obtain ⟨k, hk, ek⟩ := vp_in_of hb (by
      obtain ⟨z, hz, ez⟩ := hA.1.2.2.2.1
      rw [ez, n_c (by omega)]
      omega)
    have hk24 : k < 24 := by
      obtain ⟨z, hz, ez⟩ := hA.1.2.2.2.1
      rw [ez, n_c (by omega)] at hk
      omega
    rw [g13.1, m13.1, g14.1, m14.1, g15.1, m15.1, g16.1, m16.1, g17.1, m17.1, g18.1, m18.1, g19.1, m19.1, g20.1, m20.1, g21.1, m21.1]
    refine ⟨⟨rfl, rfl, rfl, rfl, rfl, rfl, rfl, hA.2.2.1.1⟩, Or.inl ⟨rfl, rfl⟩, ha, hb, hd, ?_⟩
    rw [ek, n_c (by omega), (hf.2 11 k rfl).1]
    exact (hA.2.2.1.2.2 k hk).2.2.2.2.2.2
  · rw [g13.2 x q, m13.2 x q, g14.2 x q, m14.2 x q, g15.2 x q, m15.2 x q, g16.2 x q, m16.2 x q, g17.2 x q, m17.2 x q, g18.2 x q, m18.2 x q, g19.2 x q, m19.2 x q, g20.2 x q, m20.2 x q, g21.2 x q, m21.2 x q, (hf.2 11 _ rfl).1]
    exact hA.2.2.2.1.2 x (by rw [hM]; omega)
def m_atB (a c d e f : Int32) : Prop := ((a = 0 ∧ c = 0) ∨ (¬ a = 0 ∧ ((d = 0 ∧ ((a = (nI 2) ∧ (¬ (b2i (decide (¬ c < (nI 1) ∧ ¬ (nI 99999) < c))) = 0)) ∨ (¬ a = (nI 2) ∧ (¬ (b2i (decide (¬ c < (nI 1) ∧ ¬ (nI 200) < c))) = 0 ∧ (¬ (b2i (decide (¬ e < (nI 1) ∧ ¬ (nI 30) < e))) = 0 ∧ (¬ (b2i (decide (¬ f < (nI 0) ∧ ¬ c < f))) = 0)))))) ∨ (¬ d = 0 ∧ ((d = (nI 1) ∧ ((a = (nI 2) ∧ (¬ (b2i (decide (¬ c < (nI 1) ∧ ¬ (nI 99999) < c))) = 0)) ∨ (¬ a = (nI 2) ∧ (¬ (b2i (decide (¬ c < (nI 1) ∧ ¬ (nI 200) < c))) = 0 ∧ (¬ (b2i (decide (¬ e < (nI 1) ∧ ¬ (nI 30) < e))) = 0 ∧ (¬ (b2i (decide (¬ f < (nI 0) ∧ ¬ c < f))) = 0)))))) ∨ (¬ d = (nI 1) ∧ (¬ a = (nI 2) ∧ False)))))))
theorem s01 {d : Int32} : (¬ d < nI 0 ∧ ¬ nI 1 < d) ↔ (d = 0 ∨ d = nI 1) := by
  constructor
  · rintro ⟨h1, h2⟩
    obtain ⟨k, hk, rfl⟩ := nI_of h1
    rw [n_lt (by omega) (by omega)] at h2
    rcases (show k = 0 ∨ k = 1 by omega) with rfl | rfl
    · exact Or.inl rfl
    · exact Or.inr rfl
  · rintro (rfl | rfl)
    · exact ⟨by decide, by decide⟩
    · exact ⟨by decide, by decide⟩
theorem at_eq (a c d e f : Int32) : k_at a c d e f ↔ m_atB a c d e f := by
  unfold k_at m_atB
  simp only [b2i_dn, Classical.not_not, s01]
  by_cases h0 : d = 0
  · simp [h0]
  · by_cases h1 : d = nI 1
    · simp [h0, h1, show ¬ nI 1 = (0 : Int32) by decide]
    · simp [h0, h1]
theorem pr_event (a b c d e f g : Int32) : pr ag_i hN1 s_X11_event s_X12_event [.int a, .int b, .int c, .int d, .int e, .int f, .int g] := by
  intro M hA
  have e4 : eg_gi M 121 4 = eg_gi M 7 4 := hA.2.2.1.2.1
  have e5 : eg_gi M 121 5 = eg_gi M 12 10 := hA.2.2.2.1.1
  have e2 : eg_gi M 121 2 = eg_gi M 0 8 := hA.2.2.1.1
  have h24 := hA.1.2.2.2.1
  have hb := ix_cm (c := b) (by decide) h24
  have h200 : eg_cn (eg_gi M 12 10) 200 := hA.1.1.1.choose_spec.1
  refine ⟨hA.1, fun oo N hN w => ?_⟩
  rcases hN with ⟨z, rfl, rfl⟩ | ⟨z, z2, rfl, rfl⟩ | ⟨z, z2, hK, hN⟩
  · have X4 : eg_gi (eg_si (eg_sl N 177 0 w) 121 1 (nI 0)) 121 4 = eg_gi N 7 4 := e4
    have no : ¬ a < 0 → ¬ nI 2 < a → (¬ b < 0 ∧ ¬ eg_gi N 7 4 ≤ b) → False := fun y1 y2 y3 => z ⟨⟨y1, y2⟩, hb.mpr y3⟩
    refine au_X12_event a b c d e f g (fun y1 y2 y3 => ?_) (fun _ => ⟨rA_cc hA, rfl, ag_N1 rfl⟩) (fun y => ?_) (fun y => ?_)
    · rw [X4] at y3
      exact (no y1 y2 (Classical.not_not.mp y3)).elim
    · rw [X4] at y
      exact (no y.1 y.2.1 y.2.2.1).elim
    · rw [X4] at y
      exact (no y.1 y.2.1 y.2.2.1).elim
  · have X4 : eg_gi (eg_si (eg_sl N 177 0 w) 121 1 (nI 0)) 121 4 = eg_gi N 7 4 := e4
    have X2 : eg_gi (eg_sl N 177 0 w) 121 2 = eg_gi N 0 8 := e2
    have no : m_atB a c d e f → (¬ g < nI 0 ∧ ¬ eg_gi N 0 8 < g) → False := fun y1 y2 => z2 ⟨y2, (at_eq a c d e f).mpr y1⟩
    refine au_X12_event a b c d e f g (fun _ _ _ _ y5 y6 => ?_) (fun y => ?_) (fun y => ⟨rA_c hA, rfl, ag_ok rfl rfl⟩) (fun y => ?_)
    · rw [X2] at y6
      exact (no (Classical.not_not.mp y5) (Classical.not_not.mp y6)).elim
    · rw [X4] at y
      exact absurd z (fun t => y.elim t.1.1 (fun q => q.elim t.1.2 (fun r => r (hb.mp t.2))))
    · rw [X2] at y
      exact (no y.2.2.2.2.1 y.2.2.2.2.2).elim
  · have key : ∀ K : eg_M, eg_gi K 121 4 = eg_gi M 121 4 → eg_gi K 121 2 = eg_gi M 121 2 → (a < 0 ∨ ((nI 2) < a ∨ (¬ (¬ b < 0 ∧ ¬ (eg_gi K 121 4) ≤ b)))) → False := fun K k1 k2 y => by
      rw [k1, e4] at y
      exact absurd z (fun t => y.elim t.1.1 (fun q => q.elim t.1.2 (fun r => r (hb.mp t.2))))
    rcases hN with ⟨hn, rfl, rfl⟩ | ⟨hn, rfl, f', rfl⟩
    · have en : eg_gi M 12 10 = nI 200 := by
        obtain ⟨k, hk, ek⟩ := h200
        rw [ek, n_c (by omega)] at hn
        rw [ek, hn]
      have X5 : eg_gi (eg_sl (eg_si M 1 4 (-nI 1)) 177 0 w) 121 5 = nI 200 := e5.trans en
      refine au_X12_event a b c d e f g (fun _ _ _ y4 => absurd X5 y4) (fun y => (key _ rfl rfl y).elim) (fun y => ⟨?_, rfl, ag_ok rfl rfl⟩) (fun y => absurd X5 y.2.2.2.1)
      exact rA_k (ps := [(1, some 4), (177, none), (121, some 1)]) (vf_si (vf_sl (vf_si vf_0 rfl) rfl) rfl) hA (Or.inr (kp_I (vf_sm (ps := [(177, none), (121, some 1)]) (vf_si (vf_sl vf_0 rfl) rfl) rfl) hK)) (Or.inl rfl) (Or.inl rfl) (Or.inl rfl) (Or.inl rfl) (Or.inl rfl) (Or.inl rfl) (Or.inl rfl) (Or.inl rfl) (Or.inl rfl) (Or.inl rfl) (Or.inl rfl)
    · obtain ⟨n, hn2, en⟩ : ∃ n, n < 200 ∧ eg_gi M 12 10 = nI n := by
        obtain ⟨k, hk, ek⟩ := h200
        rw [ek, n_c (by omega)] at hn
        exact ⟨k, hn, ek⟩
      rw [en, n_c (by omega)] at hK ⊢
      have X5 : eg_gi (eg_sl (k_ne M n a b c d e f g f') 177 0 w) 121 5 = nI n := (show _ = eg_gi M 121 5 by simp [k_ne, k_am, si_g, sl_gi, ri_g]).trans (e5.trans en)
      have X4 : eg_gi (eg_si (eg_sl (k_ne M n a b c d e f g f') 177 0 w) 121 1 (nI 0)) 121 4 = eg_gi M 121 4 := by simp [k_ne, k_am, si_g, sl_gi, ri_g]
      have X2 : eg_gi (eg_sl (k_ne M n a b c d e f g f') 177 0 w) 121 2 = eg_gi M 121 2 := by simp [k_ne, k_am, si_g, sl_gi, ri_g]
      refine au_X12_event a b c d e f g (fun _ _ _ _ _ _ => ?_) (fun y => ?_) (fun y => ?_) (fun y => ?_)
      · rw [X5]
        exact vp_in_nI hn2 (by decide)
      · rw [X4, e4] at y
        exact absurd z (fun t => y.elim t.1.1 (fun q => q.elim t.1.2 (fun r => r (hb.mp t.2))))
      · rw [X5, X2, e2] at y
        exfalso
        rcases y.2.2.2 with q | q | q
        · rw [n_eq (by omega) (by decide)] at q
          omega
        · exact q ((at_eq a c d e f).mp z2.2)
        · exact q z2.1
      · rw [X5, X2, n_s, n_c (by omega)]
        obtain ⟨t1, p1, p2, p3⟩ := k_idx (by decide) h24 z.2.1 z.2.2
        have h24' : (eg_gi M 7 4).toNatClampNeg < 2 ^ 31 := by
          obtain ⟨k, hk, ek⟩ := h24
          rw [ek, n_c (by omega)]
          omega
        have hd : ¬ a = 0 → vp_in d 2 := fun h0 => by
          rcases z2.2 with q | ⟨_, q | q⟩
          · exact absurd q.1 h0
          · have := Classical.not_not.mp (b2i_dn.mp q.2.2)
            exact rg_in (a := 0) (m := 1) (by decide) (by decide) this.1 this.2
          · have := Classical.not_not.mp (b2i_dn.mp q.2.2.1)
            exact rg_in (a := 0) (m := 1) (by decide) (by decide) this.1 this.2
        exact ⟨ev_add (a := a) (b := b) (c := c) (d := d) (e := e) (f := f) (g := g) hA hn2 en (rg_in (a := 0) (m := 2) (by decide) (by decide) z.1.1 z.1.2) (by rw [p3]; exact vp_in_nI p2 h24') hd hK (vf_si (vf_si (vf_si (vf_si (vf_si (vf_si (vf_si (vf_si (vf_si (vf_si (vf_si (vf_sl vf_0 rfl) rfl) rfl) rfl) rfl) rfl) rfl) rfl) rfl) rfl) rfl) rfl) (vf_si (vf_si (vf_si (vf_si (vf_si (vf_si (vf_si (vf_si (vf_si (vf_si (vf_si (vf_sl (vf_si (vf_si (vf_si (vf_si (vf_ri (vf_si (vf_si (vf_si (vf_si (vf_si (vf_si (vf_si vf_0 rfl) rfl) rfl) rfl) rfl) rfl) rfl) rfl) rfl) rfl) rfl) rfl) rfl) rfl) rfl) rfl) rfl) rfl) rfl) rfl) rfl) rfl) rfl) rfl) (by simp [k_ne, k_am, si_g, sl_gi, ri_g]) (by simp [k_ne, k_am, si_g, sl_gi, ri_g]) (pu_of (fun j => by simp [k_ne, k_am, si_g, sl_gi, ri_g])) (pu_of (fun j => by simp [k_ne, k_am, si_g, sl_gi, ri_g])) (pu_of (fun j => by simp [k_ne, k_am, si_g, sl_gi, ri_g])) (pu_of (fun j => by simp [k_ne, k_am, si_g, sl_gi, ri_g])) (pu_of (fun j => by simp [k_ne, k_am, si_g, sl_gi, ri_g])) (pu_of (fun j => by simp [k_ne, k_am, si_g, sl_gi, ri_g])) (pu_of (fun j => by simp [k_ne, k_am, si_g, sl_gi, ri_g])) (pu_of (fun j => by simp [k_ne, k_am, si_g, sl_gi, ri_g])) (pu_of (fun j => by simp [k_ne, k_am, si_g, sl_gi, ri_g])) (pu_of (fun j => by simp [k_ne, k_am, si_g, sl_gi, ri_g])) (pu_of (fun j => by simp [k_ne, k_am, si_g, sl_gi, ri_g])) (pu_of (fun j => by simp [k_ne, k_am, si_g, sl_gi, ri_g])) (pu_of (fun j => by simp [k_ne, k_am, si_g, sl_gi, ri_g])) (pu_of (fun j => by simp [k_ne, k_am, si_g, sl_gi, ri_g])) (pu_of (fun j => by simp [k_ne, k_am, si_g, sl_gi, ri_g])) (pu_of (fun j => by simp [k_ne, k_am, si_g, sl_gi, ri_g])) (pu_of (fun j => by simp [k_ne, k_am, si_g, sl_gi, ri_g])) (pu_of (fun j => by simp [k_ne, k_am, si_g, sl_gi, ri_g])), rfl, ag_ok n_p.symm (by simp [k_ne, k_am, si_g, sl_gi, ri_g])⟩
theorem b255 (z : Int32) : ∃ m, m < 256 ∧ z &&& nI 255 = nI m := by
  refine ⟨(z &&& nI 255).toBitVec.toNat, ?_, ?_⟩
  · rw [Int32.toBitVec_and, BitVec.toNat_and]
    exact Nat.lt_of_le_of_lt Nat.and_le_right (by decide)
  · apply Int32.toBitVec_inj.mp
    have : (z &&& nI 255).toBitVec.toNat < 2 ^ 32 := BitVec.isLt _
    apply BitVec.eq_of_toNat_eq
    have e : ∀ n, (nI n).toBitVec = BitVec.ofNat 32 n := fun _ => rfl
    rw [e, BitVec.toNat_ofNat, Nat.mod_eq_of_lt this]
theorem pr_feed (a b c d e : Int32) : pr ag_i [] s_X11_feed s_X12_feed [.int a, .int b, .int c, .int d, .int e] := by
  intro M hA
  obtain ⟨t1, t2, t3, t4, t5⟩ := hA.2.2.2.2.1
  obtain ⟨n, hn, en⟩ := t3
  refine ⟨⟨n, hn, en⟩, fun v N hN w => ?_⟩
  rw [en, n_c (by omega)] at hN
  rcases hN with ⟨h, rfl, rfl⟩ | ⟨h, rfl, rfl⟩
  · have X : eg_gi (eg_sl N 177 0 w) 121 23 = nI n := t1.trans en
    refine ⟨by rw [X]; exact ⟨n, hn, rfl⟩, fun v2 N2 h2 => ?_⟩
    rw [X, n_c (by omega)] at h2
    rcases h2 with ⟨_, rfl, rfl⟩ | ⟨h3, _⟩
    · exact ⟨rA_c hA, rfl, ag_ok rfl rfl⟩
    · omega
  · have X : eg_gi (eg_sl (k_fm M a b c d e n) 177 0 w) 121 23 = nI n := (show _ = eg_gi M 121 23 by simp [k_fm, si_g, sl_gi, ri_g]).trans (t1.trans en)
    refine ⟨by rw [X]; exact ⟨n, hn, rfl⟩, fun v2 N2 h2 => ?_⟩
    rw [X, n_c (by omega)] at h2
    rcases h2 with ⟨h3, _⟩ | ⟨h3, rfl, rfl⟩
    · omega
    · refine ⟨rA_k (ps := [(23, some 0), (26, none), (177, none), (121, some 1), (121, some 23), (139, none)]) (vf_ri (vf_si (vf_si (vf_sl (vf_ri (vf_si vf_0 rfl) rfl) rfl) rfl) rfl) rfl) hA (Or.inl rfl) (Or.inl rfl) (Or.inl rfl) (Or.inl rfl) (Or.inr ?_) (Or.inl rfl) (Or.inl rfl) (Or.inl rfl) (Or.inl rfl) (Or.inl rfl) (Or.inl rfl) (Or.inl rfl), rfl, ag_ok rfl (by simp [m_fm, k_fm, si_g, sl_gi, ri_g])⟩
      have y0 : eg_gi (m_fm (eg_sl (k_fm M a b c d e n) 177 0 w) a b c d e n 20) 23 0 = nI (n + 20) := by simp [m_fm, k_fm, si_g, sl_gi, ri_g]
      have y1 : ∀ j, eg_gi (m_fm (eg_sl (k_fm M a b c d e n) 177 0 w) a b c d e n 20) 26 j = if n ≤ j ∧ j < n + 20 then fb a b c d e (j - n) else eg_gi M 26 j := fun j => by simp [m_fm, k_fm, si_g, sl_gi, ri_g]
      have y2 : ∀ j, eg_gi (m_fm (eg_sl (k_fm M a b c d e n) 177 0 w) a b c d e n 20) 139 j = if n ≤ j ∧ j < n + 20 then fb a b c d e (j - n) else eg_gi M 139 j := fun j => by simp [m_fm, k_fm, si_g, sl_gi, ri_g]
      refine ⟨?_, ?_, ?_, fun j => ?_, fun j hj => ?_⟩
      · rw [y0]
        simp [m_fm, k_fm, si_g, sl_gi, ri_g]
      · have z1 : eg_gi (m_fm (eg_sl (k_fm M a b c d e n) 177 0 w) a b c d e n 20) 121 33 = eg_gi M 121 33 := by simp [m_fm, k_fm, si_g, sl_gi, ri_g]
        have z2 : eg_gi (m_fm (eg_sl (k_fm M a b c d e n) 177 0 w) a b c d e n 20) 23 3 = eg_gi M 23 3 := by simp [m_fm, k_fm, si_g, sl_gi, ri_g]
        rw [z1, z2]
        exact t2
      · exact ⟨n + 20, h, y0⟩
      · rw [y1, y2, t4]
      · rw [y1]
        by_cases q : n ≤ j ∧ j < n + 20
        · rw [if_pos q]
          exact b255 _
        · rw [if_neg q]
          exact t5 j hj

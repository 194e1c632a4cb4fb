/-! PAIRS: towns, homes, guests, charters -/
theorem cn_lt {x : Int32} {m : Nat} (hm : m < 2 ^ 31) (h : eg_cn x m) : (x < nI m) ↔ ¬ x = nI m := by
  obtain ⟨n, hn, rfl⟩ := h
  rw [n_lt (by omega) hm, n_eq (by omega) hm]
  omega
theorem cn_in {x : Int32} {m : Nat} (hm : m < 2 ^ 31) (h : eg_cn x m) (h2 : x < nI m) : vp_in x m ∧ ∃ n, n < m ∧ x = nI n := by
  obtain ⟨n, hn, rfl⟩ := h
  rw [n_lt (by omega) hm] at h2
  exact ⟨vp_in_nI h2 hm, n, h2, rfl⟩
theorem rg_in {x : Int32} {a m : Nat} (ha : a < 2 ^ 31) (hm : m + 1 < 2 ^ 31) (h1 : ¬ x < nI a) (h2 : ¬ nI m < x) : vp_in x (m + 1) := by
  have h0 : ¬ x < 0 := fun z => h1 (Int32.lt_of_lt_of_le z ((n_le (i := 0) (by decide) ha).mpr (Nat.zero_le _)))
  obtain ⟨k, hk, rfl⟩ := nI_of h0
  rw [n_lt (by omega) (by omega)] at h2
  exact vp_in_nI (by omega) (by omega)
theorem in_m {x : Int32} {a b : Nat} (hab : a ≤ b) (h : vp_in x a) : vp_in x b := fun z => h (z.imp id (fun y => Nat.le_trans hab y))
theorem si_eq {M : eg_M} {p k : Nat} {v : Int32} : eg_gi (eg_si M p k v) p k = v := by rw [si_g, if_pos ⟨rfl, rfl⟩]
theorem si_nj {M : eg_M} {p k q j : Nat} {v : Int32} (h : ¬ j = k) : eg_gi (eg_si M p k v) q j = eg_gi M q j := by rw [si_g, if_neg (fun z => h z.2)]
theorem rA_go {ps : vf_K} {M N : eg_M} {P Q : Prop} (hf : vf ps M N) (h : vf ps M N → r_A N) (hp : P) (hq : Q) : r_A N ∧ P ∧ Q := ⟨h hf, hp, hq⟩
/-- a row with one number more -/
def pu (n : Nat) (v : Int32) (f g : Nat → Int32) : Prop := f n = v ∧ ∀ j, ¬ j = n → f j = g j
theorem pu_of {M N : eg_M} {p q n : Nat} {v : Int32} (h : ∀ j, eg_gi N p j = if j = n then v else eg_gi M q j) : pu n v (eg_gi N p) (eg_gi M q) := ⟨by rw [h, if_pos rfl], fun j hj => by rw [h, if_neg hj]⟩
abbrev rw_K : vf_K := [(82, none), (83, none), (84, none), (85, none), (86, none), (87, none), (88, none), (89, none), (90, none), (91, none), (92, none), (93, none), (94, none), (95, none), (96, none), (97, none), (100, none), (101, none), (102, none), (103, none), (104, none), (105, none), (106, none), (107, none), (108, none), (109, none), (110, none), (111, none), (112, none), (113, none), (114, none), (115, none)]
theorem rw_w : ∀ t, t < 16 → vf_w rw_K (81 + 1 + t) = true ∧ vf_w rw_K (99 + 1 + t) = true := by decide
abbrev ps_town : vf_K := [(2, some 4), (3, none), (4, none), (5, none), (6, none), (177, none), (121, some 1), (121, some 3), (123, none), (124, none), (125, none), (126, none), (170, none)]
theorem tw_add {M N : eg_M} {n : Nat} {a b c d : Int32} (hA : r_A M) (hn : n < 16) (en : eg_gi M 2 4 = nI n) (hd : vp_in d 256) (hf : vf ps_town M N) (c24 : eg_gi N 2 4 = nI (n + 1)) (c3 : eg_gi N 121 3 = nI (n + 1)) (g3 : pu n a (eg_gi N 3) (eg_gi M 3)) (g4 : pu n b (eg_gi N 4) (eg_gi M 4)) (g5 : pu n c (eg_gi N 5) (eg_gi M 5)) (g6 : pu n d (eg_gi N 6) (eg_gi M 6)) (m3 : pu n a (eg_gi N 123) (eg_gi M 123)) (m4 : pu n b (eg_gi N 124) (eg_gi M 124)) (m5 : pu n c (eg_gi N 125) (eg_gi M 125)) (m6 : pu n d (eg_gi N 126) (eg_gi M 126)) (mw : pu n (nI 0) (eg_gi N 170) (eg_gi M 170)) : r_A N := by
  have hM : (eg_gi M 2 4).toNatClampNeg = n := by rw [en, n_c (by omega)]
  have hN : (eg_gi N 2 4).toNatClampNeg = n + 1 := by rw [c24, n_c (by omega)]
  refine rA_k hf hA (Or.inr ?_) (Or.inr ?_) (Or.inr ?_) (Or.inl rfl) (Or.inl rfl) (Or.inl rfl) (Or.inl rfl) (Or.inl rfl) (Or.inl rfl) (Or.inl rfl) (Or.inr ?_) (Or.inl rfl)
  · refine kp_J (vf_sm hf rfl) (fun e he => ?_) (by rw [(hf.2 7 4 rfl).1]; exact hA.1.2.2.2.1) (by rw [(hf.2 0 8 rfl).1]; exact hA.1.2.2.2.2) (fun c hc => by rw [(hf.2 8 c rfl).1, (hf.2 9 c rfl).1]; exact hA.1.1.2.1 c hc) hA.1
    obtain ⟨_, _, _, hc, _⟩ := hA.2.2.2.1.2 e he
    obtain ⟨n24, h24, e24⟩ := hA.1.2.2.2.1
    obtain ⟨k, hk, ek⟩ := vp_in_of hc (by rw [e24, n_c (by omega)]; omega)
    have ekc : (eg_gi M 14 e).toNatClampNeg = k := by
      rw [e24, n_c (by omega)] at hk
      rw [ek, n_c (by omega)]
    have hcc := hA.2.2.1.2.2 k hk
    rw [ekc]
    obtain ⟨t1, q1, q2⟩ := vp_in_of hcc.2.2.2.2.1 (by rw [hM]; omega)
    obtain ⟨t2, q3, q4⟩ := vp_in_of hcc.2.2.2.2.2.1 (by rw [hM]; omega)
    rw [hM] at q1 q3
    rw [q2, q4, n_c (by omega), n_c (by omega)]
    refine ⟨fun p h1 h2 => (hf.2 p _ ?_).1, fun p h1 h2 => ?_⟩
    · rcases (show p = 8 ∨ p = 9 ∨ p = 10 by omega) with rfl | rfl | rfl <;> rfl
    · rcases (show p = 3 ∨ p = 4 ∨ p = 5 ∨ p = 6 by omega) with rfl | rfl | rfl | rfl
      · exact ⟨g3.2 _ (by omega), g3.2 _ (by omega)⟩
      · exact ⟨g4.2 _ (by omega), g4.2 _ (by omega)⟩
      · exact ⟨g5.2 _ (by omega), g5.2 _ (by omega)⟩
      · exact ⟨g6.2 _ (by omega), g6.2 _ (by omega)⟩
  · refine ⟨⟨n + 1, by omega, c24⟩, c3.trans c24.symm, fun t ht => ?_⟩
    rw [hN] at ht
    by_cases q : t = n
    · subst q
      rw [g3.1, g4.1, g5.1, g6.1, m3.1, m4.1, m5.1, m6.1]
      exact ⟨rfl, rfl, rfl, rfl, hd⟩
    · rw [g3.2 t q, g4.2 t q, g5.2 t q, g6.2 t q, m3.2 t q, m4.2 t q, m5.2 t q, m6.2 t q]
      exact hA.2.1.2.2 t (by rw [hM]; omega)
  · have s := vf_sm (rs := [(121, some 2), (0, some 8), (121, some 4), (7, some 4), (127, none), (128, none), (129, none), (8, none), (9, none), (10, none), (11, none)]) hf rfl
    refine ⟨(sm_i s rfl).trans (hA.2.2.1.1.trans (sm_i s rfl).symm), (sm_i s rfl).trans (hA.2.2.1.2.1.trans (sm_i s rfl).symm), fun k hk => ?_⟩
    rw [show eg_gi N 7 4 = eg_gi M 7 4 from sm_i s rfl] at hk
    obtain ⟨b1, b2, b3, b4, b5, b6, b7⟩ := hA.2.2.1.2.2 k hk
    rw [hM] at b5 b6
    rw [hN, show eg_gi N 127 (2 * k) = eg_gi M 127 (2 * k) from sm_i s rfl, show eg_gi N 127 (2 * k + 1) = eg_gi M 127 (2 * k + 1) from sm_i s rfl, show eg_gi N 128 k = eg_gi M 128 k from sm_i s rfl, show eg_gi N 129 k = eg_gi M 129 k from sm_i s rfl, show eg_gi N 8 k = eg_gi M 8 k from sm_i s rfl, show eg_gi N 9 k = eg_gi M 9 k from sm_i s rfl, show eg_gi N 10 k = eg_gi M 10 k from sm_i s rfl, show eg_gi N 11 k = eg_gi M 11 k from sm_i s rfl, show eg_gi N 0 8 = eg_gi M 0 8 from sm_i s rfl]
    exact ⟨b1, b2, b3, b4, in_m (by omega) b5, in_m (by omega) b6, b7⟩
  · intro t ht
    obtain ⟨w1, w2, w3, w4, w5⟩ := hA.2.2.2.2.2.2.2.2.2.2.1 t ht
    rw [hM] at w3 w4
    have hs := vf_sm (rs := rw_K) hf rfl
    have r1 : ∀ j, eg_gi N (81 + 1 + t) j = eg_gi M (81 + 1 + t) j := fun j => sm_i hs (vf_wt (rw_w t ht).1)
    have r2 : ∀ j, eg_gi N (99 + 1 + t) j = eg_gi M (99 + 1 + t) j := fun j => sm_i hs (vf_wt (rw_w t ht).2)
    have r3 : ∀ j, eg_gi N 98 j = eg_gi M 98 j := fun j => (hf.2 98 j rfl).1
    have r4 : ∀ j, eg_gi N 171 j = eg_gi M 171 j := fun j => (hf.2 171 j rfl).1
    rw [hN, show eg_gi N (81 + 1 + t) = eg_gi M (81 + 1 + t) from funext r1, r3]
    refine ⟨w1, ?_, fun h => w3 (by omega), fun i hi => ?_, fun x hx => ?_⟩
    · by_cases q : t = n
      · subst q
        rw [mw.1]
        exact (w3 (Nat.le_refl _)).symm
      · rw [mw.2 t q]
        exact w2
    · obtain ⟨v1, v2, v3, v4⟩ := w4 i hi
      exact ⟨(r4 _).trans v1, in_m (by omega) v2, v3, v4⟩
    · rw [r2]
      exact w5 x hx
abbrev ps_home : vf_K := [(46, some 0), (47, none), (48, none), (49, none), (50, none), (177, none), (121, some 1), (121, some 52), (155, none), (156, none), (157, none), (162, none)]
theorem ho_add {M N : eg_M} {n : Nat} {a b c d : Int32} (hA : r_A M) (hn : n < 6) (en : eg_gi M 46 0 = nI n) (ha : vp_in a 5) (hb : vp_in b 256) (hd : vp_in d 100) (hf : vf ps_home M N) (c0 : eg_gi N 46 0 = nI (n + 1)) (c1 : eg_gi N 121 52 = nI (n + 1)) (g1 : pu n a (eg_gi N 47) (eg_gi M 47)) (g2 : pu n b (eg_gi N 48) (eg_gi M 48)) (g3 : pu n c (eg_gi N 49) (eg_gi M 49)) (g4 : pu n d (eg_gi N 50) (eg_gi M 50)) (m1 : pu n a (eg_gi N 155) (eg_gi M 155)) (m2 : pu n b (eg_gi N 156) (eg_gi M 156)) (m3 : pu n c (eg_gi N 162) (eg_gi M 162)) (m4 : pu n d (eg_gi N 157) (eg_gi M 157)) : r_A N := by
  have hM : (eg_gi M 46 0).toNatClampNeg = n := by rw [en, n_c (by omega)]
  have hN : (eg_gi N 46 0).toNatClampNeg = n + 1 := by rw [c0, n_c (by omega)]
  refine rA_k hf hA (Or.inl rfl) (Or.inl rfl) (Or.inl rfl) (Or.inl rfl) (Or.inl rfl) (Or.inl rfl) (Or.inr ?_) (Or.inl rfl) (Or.inl rfl) (Or.inl rfl) (Or.inl rfl) (Or.inl rfl)
  obtain ⟨h1, h2, h3, h4⟩ := hA.2.2.2.2.2.2.1
  have s := vf_sm (rs := [(46, some 5), (121, some 53), (158, none), (159, none), (163, none), (51, none), (52, none), (53, none)]) hf rfl
  have e5 : eg_gi N 46 5 = eg_gi M 46 5 := sm_i s rfl
  refine ⟨⟨⟨n + 1, by omega, c0⟩, c1.trans c0.symm⟩, ⟨by rw [e5]; exact h2.1, by rw [e5, show eg_gi N 121 53 = eg_gi M 121 53 from sm_i s rfl]; exact h2.2⟩, fun t ht => ?_, fun g hg => ?_⟩
  · rw [hN] at ht
    by_cases q : t = n
    · subst q
      rw [g1.1, g2.1, g3.1, g4.1, m1.1, m2.1, m3.1, m4.1]
      exact ⟨rfl, rfl, rfl, rfl, ha, hb, hd⟩
    · rw [g1.2 t q, g2.2 t q, g3.2 t q, g4.2 t q, m1.2 t q, m2.2 t q, m3.2 t q, m4.2 t q]
      exact h3 t (by rw [hM]; omega)
  · rw [e5] at hg
    rw [show eg_gi N 158 g = eg_gi M 158 g from sm_i s rfl, show eg_gi N 159 g = eg_gi M 159 g from sm_i s rfl, show eg_gi N 163 g = eg_gi M 163 g from sm_i s rfl, show eg_gi N 51 g = eg_gi M 51 g from sm_i s rfl, show eg_gi N 52 g = eg_gi M 52 g from sm_i s rfl, show eg_gi N 53 g = eg_gi M 53 g from sm_i s rfl]
    exact h4 g hg
abbrev ps_guest : vf_K := [(46, some 5), (51, none), (52, none), (53, none), (177, none), (121, some 1), (121, some 53), (158, none), (159, none), (163, none)]
theorem gu_add {M N : eg_M} {n : Nat} {a b c : Int32} (hA : r_A M) (hn : n < 8) (en : eg_gi M 46 5 = nI n) (ha : vp_in a 256) (hb : vp_in b 100) (hf : vf ps_guest M N) (c0 : eg_gi N 46 5 = nI (n + 1)) (c1 : eg_gi N 121 53 = nI (n + 1)) (g1 : pu n a (eg_gi N 51) (eg_gi M 51)) (g2 : pu n b (eg_gi N 52) (eg_gi M 52)) (g3 : pu n c (eg_gi N 53) (eg_gi M 53)) (m1 : pu n a (eg_gi N 158) (eg_gi M 158)) (m2 : pu n b (eg_gi N 159) (eg_gi M 159)) (m3 : pu n c (eg_gi N 163) (eg_gi M 163)) : r_A N := by
  have hM : (eg_gi M 46 5).toNatClampNeg = n := by rw [en, n_c (by omega)]
  have hN : (eg_gi N 46 5).toNatClampNeg = n + 1 := by rw [c0, n_c (by omega)]
  refine rA_k hf hA (Or.inl rfl) (Or.inl rfl) (Or.inl rfl) (Or.inl rfl) (Or.inl rfl) (Or.inl rfl) (Or.inr ?_) (Or.inl rfl) (Or.inl rfl) (Or.inl rfl) (Or.inl rfl) (Or.inl rfl)
  obtain ⟨h1, h2, h3, h4⟩ := hA.2.2.2.2.2.2.1
  have s := vf_sm (rs := [(46, some 0), (121, some 52), (155, none), (156, none), (162, none), (157, none), (47, none), (48, none), (49, none), (50, none)]) hf rfl
  have e5 : eg_gi N 46 0 = eg_gi M 46 0 := sm_i s rfl
  refine ⟨⟨by rw [e5]; exact h1.1, by rw [e5, show eg_gi N 121 52 = eg_gi M 121 52 from sm_i s rfl]; exact h1.2⟩, ⟨⟨n + 1, by omega, c0⟩, c1.trans c0.symm⟩, fun g hg => ?_, fun t ht => ?_⟩
  · rw [e5] at hg
    rw [show eg_gi N 155 g = eg_gi M 155 g from sm_i s rfl, show eg_gi N 156 g = eg_gi M 156 g from sm_i s rfl, show eg_gi N 162 g = eg_gi M 162 g from sm_i s rfl, show eg_gi N 157 g = eg_gi M 157 g from sm_i s rfl, show eg_gi N 47 g = eg_gi M 47 g from sm_i s rfl, show eg_gi N 48 g = eg_gi M 48 g from sm_i s rfl, show eg_gi N 49 g = eg_gi M 49 g from sm_i s rfl, show eg_gi N 50 g = eg_gi M 50 g from sm_i s rfl]
    exact h3 g hg
  · rw [hN] at ht
    by_cases q : t = n
    · subst q
      rw [g1.1, g2.1, g3.1, m1.1, m2.1, m3.1]
      exact ⟨rfl, rfl, rfl, ha, hb⟩
    · rw [g1.2 t q, g2.2 t q, g3.2 t q, m1.2 t q, m2.2 t q, m3.2 t q]
      exact h4 t (by rw [hM]; omega)
theorem pr_town (a b c d : Int32) : pr ag_i [] s_X11_town s_X12_town [.int a, .int b, .int c, .int d] := by
  intro M hA
  have tw := hA.2.1
  have hlt := cn_lt (by decide : 16 < 2 ^ 31) tw.1
  have e3 : eg_gi M 121 3 = eg_gi M 2 4 := tw.2.1
  refine au_X11_town a b c d (fun _ _ _ _ z => (cn_in (by decide) tw.1 z).1) (fun z w => ?_) (fun z w => ?_)
  · refine au_X12_town a b c d (fun y1 y2 y3 y4 y5 => ?_) (fun _ => ⟨rA_c hA, rfl, ag_ok rfl rfl⟩) (fun y => ?_)
    · rw [show eg_gi (eg_sl M 177 0 w) 121 3 = eg_gi M 2 4 from e3] at y1 ⊢
      exact (cn_in (by decide) tw.1 (hlt.mpr y1)).1
    · rw [show eg_gi (eg_sl M 177 0 w) 121 3 = eg_gi M 2 4 from e3] at y
      exfalso
      rcases z with q | q | q | q | q
      · exact q y.2.1
      · exact q y.2.2.1
      · exact q y.2.2.2.1
      · exact q y.2.2.2.2
      · exact q (hlt.mpr y.1)
  · obtain ⟨n, hn, en⟩ := (cn_in (by decide) tw.1 z.2.2.2.2).2
    rw [en, n_c (by omega)]
    have X3 : eg_gi (eg_sl (eg_si (eg_si (eg_si (eg_si (eg_si M 3 n a) 4 n b) 5 n c) 6 n d) 2 4 (nI n + nI 1)) 177 0 w) 121 3 = nI n := (show _ = eg_gi M 121 3 by simp [si_g, sl_gi]).trans (e3.trans en)
    refine au_X12_town a b c d (fun _ _ _ _ _ => by rw [X3]; exact vp_in_nI hn (by decide)) (fun y => ?_) (fun y => ?_)
    · rw [X3] at y
      exfalso
      rcases y with q | q | q | q | q
      · rw [n_eq (by omega) (by decide)] at q
        omega
      · exact q z.1
      · exact q z.2.1
      · exact q z.2.2.1
      · exact q z.2.2.2.1
    · rw [X3, n_c (by omega), n_s]
      exact ⟨tw_add (a := a) (b := b) (c := c) (d := d) hA hn en (rg_in (a := 1) (m := 255) (by decide) (by decide) z.2.2.2.1.1 z.2.2.2.1.2) (vf_si (vf_si (vf_si (vf_si (vf_si (vf_si (vf_si (vf_sl (vf_si (vf_si (vf_si (vf_si (vf_si vf_0 rfl) rfl) rfl) rfl) rfl) rfl) rfl) rfl) rfl) rfl) rfl) rfl) rfl) (by simp [si_g, sl_gi]) (by simp [si_g, sl_gi]) (pu_of (fun j => by simp [si_g, sl_gi])) (pu_of (fun j => by simp [si_g, sl_gi])) (pu_of (fun j => by simp [si_g, sl_gi])) (pu_of (fun j => by simp [si_g, sl_gi])) (pu_of (fun j => by simp [si_g, sl_gi])) (pu_of (fun j => by simp [si_g, sl_gi])) (pu_of (fun j => by simp [si_g, sl_gi])) (pu_of (fun j => by simp [si_g, sl_gi])) (pu_of (fun j => by simp [si_g, sl_gi])), rfl, ag_ok n_p.symm (by simp [si_g, sl_gi])⟩
theorem pr_home (a b c d : Int32) (hc : c = 0 ∨ c = 1) : pr ag_i [] s_X11_home s_X12_home [.int a, .int b, .int c, .int d] := by
  intro M hA
  have ho := hA.2.2.2.2.2.2.1
  have hlt := cn_lt (by decide : 6 < 2 ^ 31) ho.1.1
  have e3 : eg_gi M 121 52 = eg_gi M 46 0 := ho.1.2
  refine au_X11_home a b c d (fun _ _ _ z => (cn_in (by decide) ho.1.1 z).1) (fun _ _ _ _ => hc) (fun z w => ?_) (fun z w => ?_)
  · refine au_X12_home a b c d (fun y1 y2 y3 y4 => ?_) (fun _ _ _ _ => hc) (fun _ => ⟨rA_c hA, rfl, ag_ok rfl rfl⟩) (fun y => ?_)
    · rw [show eg_gi (eg_sl M 177 0 w) 121 52 = eg_gi M 46 0 from e3] at y1 ⊢
      exact (cn_in (by decide) ho.1.1 (hlt.mpr y1)).1
    · rw [show eg_gi (eg_sl M 177 0 w) 121 52 = eg_gi M 46 0 from e3] at y
      exfalso
      rcases z with q | q | q | q
      · exact q y.2.1
      · exact q y.2.2.1
      · exact q y.2.2.2
      · exact q (hlt.mpr y.1)
  · obtain ⟨n, hn, en⟩ := (cn_in (by decide) ho.1.1 z.2.2.2).2
    rw [en, n_c (by omega)]
    have X3 : eg_gi (eg_sl (eg_si (eg_si (eg_si (eg_si (eg_si M 47 n a) 48 n b) 49 n c) 50 n d) 46 0 (nI n + nI 1)) 177 0 w) 121 52 = nI n := (show _ = eg_gi M 121 52 by simp [si_g, sl_gi]).trans (e3.trans en)
    refine au_X12_home a b c d (fun _ _ _ _ => by rw [X3]; exact vp_in_nI hn (by decide)) (fun _ _ _ _ => hc) (fun y => ?_) (fun y => ?_)
    · rw [X3] at y
      exfalso
      rcases y with q | q | q | q
      · rw [n_eq (by omega) (by decide)] at q
        omega
      · exact q z.1
      · exact q z.2.1
      · exact q z.2.2.1
    · rw [X3, n_c (by omega), n_s]
      exact ⟨ho_add (a := a) (b := b) (c := c) (d := d) hA hn en (rg_in (a := 1) (m := 4) (by decide) (by decide) z.1.1 z.1.2) (rg_in (a := 0) (m := 255) (by decide) (by decide) z.2.1.1 z.2.1.2) (rg_in (a := 0) (m := 99) (by decide) (by decide) z.2.2.1.1 z.2.2.1.2) (vf_si (vf_si (vf_si (vf_si (vf_si (vf_si (vf_sl (vf_si (vf_si (vf_si (vf_si (vf_si vf_0 rfl) rfl) rfl) rfl) rfl) rfl) rfl) rfl) rfl) rfl) rfl) rfl) (by simp [si_g, sl_gi]) (by simp [si_g, sl_gi]) (pu_of (fun j => by simp [si_g, sl_gi])) (pu_of (fun j => by simp [si_g, sl_gi])) (pu_of (fun j => by simp [si_g, sl_gi])) (pu_of (fun j => by simp [si_g, sl_gi])) (pu_of (fun j => by simp [si_g, sl_gi])) (pu_of (fun j => by simp [si_g, sl_gi])) (pu_of (fun j => by simp [si_g, sl_gi])) (pu_of (fun j => by simp [si_g, sl_gi])), rfl, ag_ok n_p.symm (by simp [si_g, sl_gi])⟩
theorem pr_guest (a b c : Int32) (hc : c = 0 ∨ c = 1) : pr ag_i [] s_X11_guest s_X12_guest [.int a, .int b, .int c] := by
  intro M hA
  have ho := hA.2.2.2.2.2.2.1
  have hlt := cn_lt (by decide : 8 < 2 ^ 31) ho.2.1.1
  have e3 : eg_gi M 121 53 = eg_gi M 46 5 := ho.2.1.2
  refine au_X11_guest a b c (fun _ _ z => (cn_in (by decide) ho.2.1.1 z).1) (fun _ _ _ => hc) (fun z w => ?_) (fun z w => ?_)
  · refine au_X12_guest a b c (fun y1 y2 y3 => ?_) (fun _ _ _ => hc) (fun _ => ⟨rA_c hA, rfl, ag_ok rfl rfl⟩) (fun y => ?_)
    · rw [show eg_gi (eg_sl M 177 0 w) 121 53 = eg_gi M 46 5 from e3] at y1 ⊢
      exact (cn_in (by decide) ho.2.1.1 (hlt.mpr y1)).1
    · rw [show eg_gi (eg_sl M 177 0 w) 121 53 = eg_gi M 46 5 from e3] at y
      exfalso
      rcases z with q | q | q
      · exact q y.2.1
      · exact q y.2.2
      · exact q (hlt.mpr y.1)
  · obtain ⟨n, hn, en⟩ := (cn_in (by decide) ho.2.1.1 z.2.2).2
    rw [en, n_c (by omega)]
    have X3 : eg_gi (eg_sl (eg_si (eg_si (eg_si (eg_si M 51 n a) 52 n b) 53 n c) 46 5 (nI n + nI 1)) 177 0 w) 121 53 = nI n := (show _ = eg_gi M 121 53 by simp [si_g, sl_gi]).trans (e3.trans en)
    refine au_X12_guest a b c (fun _ _ _ => by rw [X3]; exact vp_in_nI hn (by decide)) (fun _ _ _ => hc) (fun y => ?_) (fun y => ?_)
    · rw [X3] at y
      exfalso
      rcases y with q | q | q
      · rw [n_eq (by omega) (by decide)] at q
        omega
      · exact q z.1
      · exact q z.2.1
    · rw [X3, n_c (by omega), n_s]
      exact ⟨gu_add (a := a) (b := b) (c := c) hA hn en (rg_in (a := 0) (m := 255) (by decide) (by decide) z.1.1 z.1.2) (rg_in (a := 0) (m := 99) (by decide) (by decide) z.2.1.1 z.2.1.2) (vf_si (vf_si (vf_si (vf_si (vf_si (vf_sl (vf_si (vf_si (vf_si (vf_si vf_0 rfl) rfl) rfl) rfl) rfl) rfl) rfl) rfl) rfl) rfl) (by simp [si_g, sl_gi]) (by simp [si_g, sl_gi]) (pu_of (fun j => by simp [si_g, sl_gi])) (pu_of (fun j => by simp [si_g, sl_gi])) (pu_of (fun j => by simp [si_g, sl_gi])) (pu_of (fun j => by simp [si_g, sl_gi])) (pu_of (fun j => by simp [si_g, sl_gi])) (pu_of (fun j => by simp [si_g, sl_gi])), rfl, ag_ok n_p.symm (by simp [si_g, sl_gi])⟩

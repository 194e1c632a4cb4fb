/-! WHAT IS KEPT WHERE NOTHING READ IS WRITTEN -/
theorem gD_in {l : List Nat} {i : Nat} (h : i < l.length) : l.getD i 0 ∈ l := by
  rw [List.getD_eq_getElem?_getD, List.getElem?_eq_getElem h]
  exact List.getElem_mem h
section KEEP
variable {M N : eg_M}
theorem cg_W {L : List Nat} (e0 : eg_gi N 12 10 = eg_gi M 12 10) (e1 : ∀ j, eg_gi N 22 j = eg_gi M 22 j) (e2 : ∀ j, eg_gi N 19 j = eg_gi M 19 j) (e3 : ∀ j, eg_gi N 14 j = eg_gi M 14 j) (h : k_W M L) : k_W N L := by
  obtain ⟨a, b, c, d⟩ := h
  have f2 : eg_gi N 19 = eg_gi M 19 := funext e2
  refine ⟨by rw [e0]; exact a, fun i hi => (e1 i).trans (b i hi), by rw [e0, f2]; exact c, fun e he => by rw [e3]; exact d e (by rw [← e0]; exact he)⟩
theorem cg_kn {e : Nat} (e0 : eg_gi N 1 4 = eg_gi M 1 4) (e1 : eg_gi N 20 e = eg_gi M 20 e) (e2 : eg_gi N 21 e = eg_gi M 21 e) : k_kn N e = k_kn M e := by
  unfold k_kn
  rw [e0, e1, e2]
theorem cg_bf {c : Int32} (e0 : ∀ e, eg_gi N 13 e = eg_gi M 13 e) (e1 : ∀ e, k_kn N e = k_kn M e) (e2 : ∀ e, eg_gi N 14 e = eg_gi M 14 e) (e3 : ∀ e, eg_gi N 19 e = eg_gi M 19 e) : ∀ n, k_bf N c n = k_bf M c n
  | 0 => rfl
  | n + 1 => by
    unfold k_bf
    rw [e0, e1, e2, e3, cg_bf e0 e1 e2 e3 n]
/-- what k_I reads of N is what it reads of M -/
theorem k_I_of (h1 : N.1 = M.1) (hr : ∀ p j, (p = 1 ∨ p = 24 ∨ p = 30 ∨ 178 ≤ p) → eg_gr N p j = eg_gr M p j)
    (hi : ∀ p j, (p = 1 ∨ (12 ≤ p ∧ p ≤ 22) ∨ (30 ≤ p ∧ p ≤ 39) ∨ 178 ≤ p) → eg_gi N p j = eg_gi M p j) (hl : ∀ p j, (p = 40 ∨ p = 41) → eg_gl N p j = eg_gl M p j) (h2 : eg_gi N 23 2 = eg_gi M 23 2)
    (hC : ∀ e, e < (eg_gi M 12 10).toNatClampNeg → (∀ p, 8 ≤ p → p ≤ 10 → eg_gi N p (eg_gi M 14 e).toNatClampNeg = eg_gi M p (eg_gi M 14 e).toNatClampNeg) ∧ ∀ p, 3 ≤ p → p ≤ 6 → eg_gi N p (eg_gi M 8 (eg_gi M 14 e).toNatClampNeg).toNatClampNeg = eg_gi M p (eg_gi M 8 (eg_gi M 14 e).toNatClampNeg).toNatClampNeg ∧ eg_gi N p (eg_gi M 9 (eg_gi M 14 e).toNatClampNeg).toNatClampNeg = eg_gi M p (eg_gi M 9 (eg_gi M 14 e).toNatClampNeg).toNatClampNeg)
    (hc24 : eg_cn (eg_gi N 7 4) 24) (hd : vp_in (eg_gi N 0 8) 3600) (hab : ∀ c, c < 24 → vp_in (eg_gi N 8 c) 16 ∧ vp_in (eg_gi N 9 c) 16) (h : k_I M) : k_I N := by
  obtain ⟨⟨⟨L, hW⟩, a2, a3, a4⟩, hT, hLK, _, _⟩ := h
  have E : ∀ j, eg_gi N 12 j = eg_gi M 12 j := fun j => hi 12 j (by omega)
  have E13 : ∀ j, eg_gi N 13 j = eg_gi M 13 j := fun j => hi 13 j (by omega)
  have E14 : ∀ j, eg_gi N 14 j = eg_gi M 14 j := fun j => hi 14 j (by omega)
  have E15 : ∀ j, eg_gi N 15 j = eg_gi M 15 j := fun j => hi 15 j (by omega)
  have E16 : ∀ j, eg_gi N 16 j = eg_gi M 16 j := fun j => hi 16 j (by omega)
  have E17 : ∀ j, eg_gi N 17 j = eg_gi M 17 j := fun j => hi 17 j (by omega)
  have E18 : ∀ j, eg_gi N 18 j = eg_gi M 18 j := fun j => hi 18 j (by omega)
  have E19 : ∀ j, eg_gi N 19 j = eg_gi M 19 j := fun j => hi 19 j (by omega)
  have E22 : ∀ j, eg_gi N 22 j = eg_gi M 22 j := fun j => hi 22 j (by omega)
  have E34 : ∀ j, eg_gi N 34 j = eg_gi M 34 j := fun j => hi 34 j (by omega)
  have E35 : ∀ j, eg_gi N 35 j = eg_gi M 35 j := fun j => hi 35 j (by omega)
  have E36 : ∀ j, eg_gi N 36 j = eg_gi M 36 j := fun j => hi 36 j (by omega)
  have E37 : ∀ j, eg_gi N 37 j = eg_gi M 37 j := fun j => hi 37 j (by omega)
  have E38 : ∀ j, eg_gi N 38 j = eg_gi M 38 j := fun j => hi 38 j (by omega)
  have E39 : ∀ j, eg_gi N 39 j = eg_gi M 39 j := fun j => hi 39 j (by omega)
  have E1 : ∀ j, eg_gi N 1 j = eg_gi M 1 j := fun j => hi 1 j (by omega)
  have hkn : ∀ e, k_kn N e = k_kn M e := fun e => cg_kn (E1 4) (hi 20 e (by omega)) (hi 21 e (by omega))
  have hW' : ∀ L, k_W M L → k_W N L := fun L => cg_W (E 10) E22 E19 E14
  have hgo : ∀ q, eg_isO wd M q 8 = true → ∀ j, eg_gr N q j = eg_gr M q j := fun q hq j => hr q j (by have := k_8a hq; omega)
  have hgi : ∀ q, eg_isO wd M q 8 = true → ∀ j, eg_gi N q j = eg_gi M q j := fun q hq j => hi q j (by have := k_8a hq; omega)
  have htp : ∀ a, k_tp a → ∀ j, eg_gi N a j = eg_gi M a j := fun a ha j => hi a j (by unfold k_tp at ha; omega)
  have ho : ∀ p, eg_isO wd N p 8 = eg_isO wd M p 8 := fun p => by
    unfold eg_isO eg_sh
    rw [h1]
  have tq : ∀ q, k_tq M q → k_tq N q := fun q ⟨b1, ⟨CL, b2⟩, P, b3, b4⟩ => ⟨by rw [ho]; exact b1, ⟨CL, k_rt_ofR h1 (hgo q b1) htp b2⟩, P, b3, by rw [hgi q b1]; exact b4⟩
  have hT' : k_ts N := by
    obtain ⟨⟨b1, b2⟩, b3, b4⟩ := hT
    refine ⟨⟨by rw [h2]; exact b1, fun i hi' => ?_⟩, tq 30 b3, fun i hi' q hq => ?_⟩
    · rw [h2] at hi'
      obtain ⟨q, c1, c2⟩ := b2 i hi'
      exact ⟨q, by rw [hr 24 i (by omega)]; exact c1, by rw [ho]; exact c2⟩
    · rw [h2] at hi'
      rw [hr 24 i (by omega)] at hq
      exact tq q (b4 i hi' q hq)
  refine ⟨⟨⟨L, hW' L hW⟩, hab, fun j hj => by rw [E36]; exact a3 j hj, fun e he => ?_⟩, hT', ?_, hc24, hd⟩
  · rw [E19]
    exact a4 e (by rw [← E 10]; exact he)
  rcases hLK with z | ⟨⟨L, w1, w2⟩, w3⟩
  · exact Or.inl ((E1 4).trans z)
  right
  have hlt : ∀ e, e ∈ L → e < (eg_gi M 12 10).toNatClampNeg := fun e he => (w1.2.2.1.2.2 e).mp he
  have hct : ∀ e, e < (eg_gi M 12 10).toNatClampNeg → k_ct N e = k_ct M e := fun e he => by
    unfold k_ct
    rw [E13, E14, E19, hkn, E34, (hC e he).1 10 (by omega) (by omega)]
  have hcL : ∀ v c, k_cL N v c L = k_cL M v c L := fun v c => by
    unfold k_cL
    rw [List.filter_congr (fun e he => by
      show k_cq N v c e = k_cq M v c e
      unfold k_cq
      rw [hct e (hlt e he), E14, E13])]
  have hto : ∀ k i, i ≤ (eg_gi M 23 2).toNatClampNeg → k_to N k i = k_to M k i := by
    intro k i
    induction i with
    | zero => intro _; rfl
    | succ i ih =>
      intro hle
      obtain ⟨q, c1, c2⟩ := hT.1.2 i (by omega)
      unfold k_to
      rw [hr 24 i (by omega), c1]
      show (if k < eg_gi N q 0 then k_to N k i else q) = (if k < eg_gi M q 0 then k_to M k i else q)
      rw [hgi q c2, ih (by omega)]
  refine ⟨⟨L, hW' L w1, ?_⟩, ?_⟩
  · obtain ⟨b1, b2, b3, b4⟩ := w2
    refine ⟨?_, fun c hc => ?_, fun e he => ?_, fun c hc => ?_⟩
    · rw [hr 1 5 (by omega), E1, h2, hto _ _ (Nat.le_refl _)]
      exact b1
    · rw [E34, E 10, cg_bf E13 hkn E14 E19]
      exact b2 c hc
    · rw [E 10] at he
      rw [E35, hct e he]
      exact b3 e he
    · rw [hcL, hcL, E38, E39, show eg_gi N 36 = eg_gi M 36 from funext E36, show eg_gi N 37 = eg_gi M 37 from funext E37]
      exact b4 c hc
  · intro q CL hq
    have er : eg_ref (eg_sh wd N 1) N 1 5 = eg_ref (eg_sh wd M 1) M 1 5 := by
      unfold eg_ref eg_sh
      rw [h1, hr 1 5 (by omega)]
    obtain ⟨q1, q2, q3⟩ := hq
    rw [er] at q1
    rw [ho] at q2
    have q3' : k_rt M q CL := k_rt_ofR h1.symm (fun j => (hgo q q2 j).symm) (fun a ha j => (htp a ha j).symm) q3
    have hs := w3 q CL ⟨q1, q2, q3'⟩
    have ep : k_pt N = k_pt M := by
      unfold k_pt
      rw [er, q1]
      show lnat (eg_gi N q 1).toInt64 = lnat (eg_gi M q 1).toInt64
      rw [hgi q q2]
    have hvl : ∀ y, k_vl N y = k_vl M y := fun y => by
      unfold k_vl
      have e1 : k_vy N y = k_vy M y := funext fun i => by
        unfold k_vy
        rw [E22, E35, E13, E19]
      rw [E 10, e1, show (fun i => (eg_gi N 22 i).toNatClampNeg) = (fun i => (eg_gi M 22 i).toNatClampNeg) from funext fun i => by rw [E22]]
    have hvm : ∀ y e, e ∈ k_vl M y → e < (eg_gi M 12 10).toNatClampNeg := by
      intro y e he
      unfold k_vl at he
      obtain ⟨i, hi1, rfl⟩ := List.mem_map.mp he
      have hi2 := List.mem_range.mp (List.mem_filter.mp hi1).1
      obtain ⟨b1, b2, b3, b4⟩ := w1
      have hi3 : i < L.length := by rw [b3.1]; exact hi2
      obtain ⟨n, hn, en⟩ := b1
      rw [b2 i hi3]
      have hm := hlt _ (List.getElem_mem hi3)
      rw [en, n_c (by omega)] at hm ⊢
      rw [n_c (by omega)]
      exact hm
    have hcl : ∀ e, e < (eg_gi M 12 10).toNatClampNeg → k_cl N CL e = k_cl M CL e := fun e he => by
      unfold k_cl
      have : k_cw N e = k_cw M e := funext fun j => by
        have c1 := hC e he
        have s0 : k_sv N (eg_gi M 14 e) (eg_gi M 19 e) (eg_gi M 36 e) (fun _ => lN 0) j = k_sv M (eg_gi M 14 e) (eg_gi M 19 e) (eg_gi M 36 e) (fun _ => lN 0) j := by
          unfold k_sv
          rw [c1.1 8 (by omega) (by omega), c1.1 9 (by omega) (by omega), c1.1 10 (by omega) (by omega), (c1.2 3 (by omega) (by omega)).1, (c1.2 3 (by omega) (by omega)).2, (c1.2 4 (by omega) (by omega)).1, (c1.2 4 (by omega) (by omega)).2, (c1.2 6 (by omega) (by omega)).1, (c1.2 6 (by omega) (by omega)).2, E19, E37]
        unfold k_cw
        rw [E36, E16, E14, E19, E15, E17, E18, E16, c1.1 8 (by omega) (by omega), c1.1 9 (by omega) (by omega), s0]
        have s1 : eg_gi N 5 (if eg_gi M 16 e = 0 then eg_gi M 8 (eg_gi M 14 e).toNatClampNeg else eg_gi M 9 (eg_gi M 14 e).toNatClampNeg).toNatClampNeg = eg_gi M 5 (if eg_gi M 16 e = 0 then eg_gi M 8 (eg_gi M 14 e).toNatClampNeg else eg_gi M 9 (eg_gi M 14 e).toNatClampNeg).toNatClampNeg := by
          by_cases z : eg_gi M 16 e = 0
          · rw [if_pos z]
            exact (c1.2 5 (by omega) (by omega)).1
          · rw [if_neg z]
            exact (c1.2 5 (by omega) (by omega)).2
        rw [s1]
      rw [this]
    intro y hy hb i hi'
    rw [E1] at hb
    rw [hvl] at hi' ⊢
    obtain ⟨g1, g2⟩ := hs y hy hb i hi'
    have em : (k_vl M (nI y)).getD i 0 ∈ k_vl M (nI y) := gD_in hi'
    rw [hl 41 _ (by omega), hl 40 _ (by omega), hcl _ (hvm _ _ em), ep]
    refine ⟨g1.trans (congrArg lN ?_), g2⟩
    have e9 : ∀ j ∈ List.range (k_vl M (nI y)).length, k_cl M CL ((k_vl M (nI y)).getD j 0) = k_cl N CL ((k_vl M (nI y)).getD j 0) := fun j hj => (hcl _ (hvm (nI y) _ (gD_in (List.mem_range.mp hj)))).symm
    have e10 : k_gv N (k_pt M) CL (nI y) i = g_gr (k_pt M) (fun j => k_cl N CL ((k_vl M (nI y)).getD j 0)) (List.range (k_vl M (nI y)).length) i := by
      unfold k_gv
      rw [hvl]
    rw [e10]
    exact g_gr_of e9 (List.mem_range.mpr hi')
end KEEP
abbrev rd_tw : vf_K := [(2, some 4), (121, some 3), (123, none), (124, none), (125, none), (126, none), (3, none), (4, none), (5, none), (6, none)]
theorem kp_tw {M N : eg_M} (h : sm rd_tw M N) (a : r_tw M) : r_tw N := by
  have s2_4 : eg_gi N 2 4 = eg_gi M 2 4 := sm_i h rfl
  have s121_3 : eg_gi N 121 3 = eg_gi M 121 3 := sm_i h rfl
  have i123 : ∀ j, eg_gi N 123 j = eg_gi M 123 j := fun j => sm_i h rfl
  have i124 : ∀ j, eg_gi N 124 j = eg_gi M 124 j := fun j => sm_i h rfl
  have i125 : ∀ j, eg_gi N 125 j = eg_gi M 125 j := fun j => sm_i h rfl
  have i126 : ∀ j, eg_gi N 126 j = eg_gi M 126 j := fun j => sm_i h rfl
  have i3 : ∀ j, eg_gi N 3 j = eg_gi M 3 j := fun j => sm_i h rfl
  have i4 : ∀ j, eg_gi N 4 j = eg_gi M 4 j := fun j => sm_i h rfl
  have i5 : ∀ j, eg_gi N 5 j = eg_gi M 5 j := fun j => sm_i h rfl
  have i6 : ∀ j, eg_gi N 6 j = eg_gi M 6 j := fun j => sm_i h rfl
  unfold r_tw at a ⊢
  simp only [s2_4, s121_3, i123, i124, i125, i126, i3, i4, i5, i6]
  exact a
abbrev rd_ch : vf_K := [(121, some 2), (0, some 8), (121, some 4), (7, some 4), (2, some 4), (127, none), (128, none), (129, none), (8, none), (9, none), (10, none), (11, none)]
theorem kp_ch {M N : eg_M} (h : sm rd_ch M N) (a : r_ch M) : r_ch N := by
  have s121_2 : eg_gi N 121 2 = eg_gi M 121 2 := sm_i h rfl
  have s0_8 : eg_gi N 0 8 = eg_gi M 0 8 := sm_i h rfl
  have s121_4 : eg_gi N 121 4 = eg_gi M 121 4 := sm_i h rfl
  have s7_4 : eg_gi N 7 4 = eg_gi M 7 4 := sm_i h rfl
  have s2_4 : eg_gi N 2 4 = eg_gi M 2 4 := sm_i h rfl
  have i127 : ∀ j, eg_gi N 127 j = eg_gi M 127 j := fun j => sm_i h rfl
  have i128 : ∀ j, eg_gi N 128 j = eg_gi M 128 j := fun j => sm_i h rfl
  have i129 : ∀ j, eg_gi N 129 j = eg_gi M 129 j := fun j => sm_i h rfl
  have i8 : ∀ j, eg_gi N 8 j = eg_gi M 8 j := fun j => sm_i h rfl
  have i9 : ∀ j, eg_gi N 9 j = eg_gi M 9 j := fun j => sm_i h rfl
  have i10 : ∀ j, eg_gi N 10 j = eg_gi M 10 j := fun j => sm_i h rfl
  have i11 : ∀ j, eg_gi N 11 j = eg_gi M 11 j := fun j => sm_i h rfl
  unfold r_ch at a ⊢
  simp only [s121_2, s0_8, s121_4, s7_4, s2_4, i127, i128, i129, i8, i9, i10, i11]
  exact a
abbrev rd_ev : vf_K := [(121, some 5), (12, some 10), (7, some 4), (130, none), (131, none), (132, none), (133, none), (134, none), (135, none), (136, none), (137, none), (138, none), (13, none), (14, none), (15, none), (16, none), (17, none), (18, none), (19, none), (20, none), (21, none), (11, none)]
theorem kp_ev {M N : eg_M} (h : sm rd_ev M N) (a : r_ev M) : r_ev N := by
  have s121_5 : eg_gi N 121 5 = eg_gi M 121 5 := sm_i h rfl
  have s12_10 : eg_gi N 12 10 = eg_gi M 12 10 := sm_i h rfl
  have s7_4 : eg_gi N 7 4 = eg_gi M 7 4 := sm_i h rfl
  have i130 : ∀ j, eg_gi N 130 j = eg_gi M 130 j := fun j => sm_i h rfl
  have i131 : ∀ j, eg_gi N 131 j = eg_gi M 131 j := fun j => sm_i h rfl
  have i132 : ∀ j, eg_gi N 132 j = eg_gi M 132 j := fun j => sm_i h rfl
  have i133 : ∀ j, eg_gi N 133 j = eg_gi M 133 j := fun j => sm_i h rfl
  have i134 : ∀ j, eg_gi N 134 j = eg_gi M 134 j := fun j => sm_i h rfl
  have i135 : ∀ j, eg_gi N 135 j = eg_gi M 135 j := fun j => sm_i h rfl
  have i136 : ∀ j, eg_gi N 136 j = eg_gi M 136 j := fun j => sm_i h rfl
  have i137 : ∀ j, eg_gi N 137 j = eg_gi M 137 j := fun j => sm_i h rfl
  have i138 : ∀ j, eg_gi N 138 j = eg_gi M 138 j := fun j => sm_i h rfl
  have i13 : ∀ j, eg_gi N 13 j = eg_gi M 13 j := fun j => sm_i h rfl
  have i14 : ∀ j, eg_gi N 14 j = eg_gi M 14 j := fun j => sm_i h rfl
  have i15 : ∀ j, eg_gi N 15 j = eg_gi M 15 j := fun j => sm_i h rfl
  have i16 : ∀ j, eg_gi N 16 j = eg_gi M 16 j := fun j => sm_i h rfl
  have i17 : ∀ j, eg_gi N 17 j = eg_gi M 17 j := fun j => sm_i h rfl
  have i18 : ∀ j, eg_gi N 18 j = eg_gi M 18 j := fun j => sm_i h rfl
  have i19 : ∀ j, eg_gi N 19 j = eg_gi M 19 j := fun j => sm_i h rfl
  have i20 : ∀ j, eg_gi N 20 j = eg_gi M 20 j := fun j => sm_i h rfl
  have i21 : ∀ j, eg_gi N 21 j = eg_gi M 21 j := fun j => sm_i h rfl
  have i11 : ∀ j, eg_gi N 11 j = eg_gi M 11 j := fun j => sm_i h rfl
  unfold r_ev at a ⊢
  simp only [s121_5, s12_10, s7_4, i130, i131, i132, i133, i134, i135, i136, i137, i138, i13, i14, i15, i16, i17, i18, i19, i20, i21, i11]
  exact a
abbrev rd_tp : vf_K := [(121, some 23), (23, some 0), (121, some 33), (23, some 3), (139, none), (26, none)]
theorem kp_tp {M N : eg_M} (h : sm rd_tp M N) (a : r_tp M) : r_tp N := by
  have s121_23 : eg_gi N 121 23 = eg_gi M 121 23 := sm_i h rfl
  have s23_0 : eg_gi N 23 0 = eg_gi M 23 0 := sm_i h rfl
  have s121_33 : eg_gi N 121 33 = eg_gi M 121 33 := sm_i h rfl
  have s23_3 : eg_gi N 23 3 = eg_gi M 23 3 := sm_i h rfl
  have i139 : ∀ j, eg_gi N 139 j = eg_gi M 139 j := fun j => sm_i h rfl
  have i26 : ∀ j, eg_gi N 26 j = eg_gi M 26 j := fun j => sm_i h rfl
  unfold r_tp at a ⊢
  simp only [s121_23, s23_0, s121_33, s23_3, i139, i26]
  exact a
abbrev rd_ho : vf_K := [(46, some 0), (121, some 52), (46, some 5), (121, some 53), (155, none), (156, none), (162, none), (157, none), (47, none), (48, none), (49, none), (50, none), (158, none), (159, none), (163, none), (51, none), (52, none), (53, none)]
theorem kp_ho {M N : eg_M} (h : sm rd_ho M N) (a : r_ho M) : r_ho N := by
  have s46_0 : eg_gi N 46 0 = eg_gi M 46 0 := sm_i h rfl
  have s121_52 : eg_gi N 121 52 = eg_gi M 121 52 := sm_i h rfl
  have s46_5 : eg_gi N 46 5 = eg_gi M 46 5 := sm_i h rfl
  have s121_53 : eg_gi N 121 53 = eg_gi M 121 53 := sm_i h rfl
  have i155 : ∀ j, eg_gi N 155 j = eg_gi M 155 j := fun j => sm_i h rfl
  have i156 : ∀ j, eg_gi N 156 j = eg_gi M 156 j := fun j => sm_i h rfl
  have i162 : ∀ j, eg_gi N 162 j = eg_gi M 162 j := fun j => sm_i h rfl
  have i157 : ∀ j, eg_gi N 157 j = eg_gi M 157 j := fun j => sm_i h rfl
  have i47 : ∀ j, eg_gi N 47 j = eg_gi M 47 j := fun j => sm_i h rfl
  have i48 : ∀ j, eg_gi N 48 j = eg_gi M 48 j := fun j => sm_i h rfl
  have i49 : ∀ j, eg_gi N 49 j = eg_gi M 49 j := fun j => sm_i h rfl
  have i50 : ∀ j, eg_gi N 50 j = eg_gi M 50 j := fun j => sm_i h rfl
  have i158 : ∀ j, eg_gi N 158 j = eg_gi M 158 j := fun j => sm_i h rfl
  have i159 : ∀ j, eg_gi N 159 j = eg_gi M 159 j := fun j => sm_i h rfl
  have i163 : ∀ j, eg_gi N 163 j = eg_gi M 163 j := fun j => sm_i h rfl
  have i51 : ∀ j, eg_gi N 51 j = eg_gi M 51 j := fun j => sm_i h rfl
  have i52 : ∀ j, eg_gi N 52 j = eg_gi M 52 j := fun j => sm_i h rfl
  have i53 : ∀ j, eg_gi N 53 j = eg_gi M 53 j := fun j => sm_i h rfl
  unfold r_ho at a ⊢
  simp only [s46_0, s121_52, s46_5, s121_53, i155, i156, i162, i157, i47, i48, i49, i50, i158, i159, i163, i51, i52, i53]
  exact a
abbrev rd_lo : vf_K := [(121, some 54), (46, some 9), (121, some 55), (46, some 10), (160, none), (54, none)]
theorem kp_lo {M N : eg_M} (h : sm rd_lo M N) (a : r_lo M) : r_lo N := by
  have s121_54 : eg_gi N 121 54 = eg_gi M 121 54 := sm_i h rfl
  have s46_9 : eg_gi N 46 9 = eg_gi M 46 9 := sm_i h rfl
  have l55 : eg_gl N 121 55 = eg_gl M 121 55 := sm_l h rfl
  have s46_10 : eg_gi N 46 10 = eg_gi M 46 10 := sm_i h rfl
  have i160 : ∀ j, eg_gi N 160 j = eg_gi M 160 j := fun j => sm_i h rfl
  have i54 : ∀ j, eg_gi N 54 j = eg_gi M 54 j := fun j => sm_i h rfl
  unfold r_lo at a ⊢
  simp only [s121_54, s46_9, l55, s46_10, i160, i54]
  exact a
abbrev rd_pl : vf_K := [(72, some 0), (121, some 65), (7, some 4), (164, none), (73, none), (8, none), (9, none), (165, none), (74, none), (166, none), (75, none), (167, none), (76, none)]
theorem kp_pl {M N : eg_M} (h : sm rd_pl M N) (a : r_pl M) : r_pl N := by
  have s72_0 : eg_gi N 72 0 = eg_gi M 72 0 := sm_i h rfl
  have s121_65 : eg_gi N 121 65 = eg_gi M 121 65 := sm_i h rfl
  have s7_4 : eg_gi N 7 4 = eg_gi M 7 4 := sm_i h rfl
  have i164 : ∀ j, eg_gi N 164 j = eg_gi M 164 j := fun j => sm_i h rfl
  have i73 : ∀ j, eg_gi N 73 j = eg_gi M 73 j := fun j => sm_i h rfl
  have i8 : ∀ j, eg_gi N 8 j = eg_gi M 8 j := fun j => sm_i h rfl
  have i9 : ∀ j, eg_gi N 9 j = eg_gi M 9 j := fun j => sm_i h rfl
  have i165 : ∀ j, eg_gi N 165 j = eg_gi M 165 j := fun j => sm_i h rfl
  have i74 : ∀ j, eg_gi N 74 j = eg_gi M 74 j := fun j => sm_i h rfl
  have i166 : ∀ j, eg_gi N 166 j = eg_gi M 166 j := fun j => sm_i h rfl
  have i75 : ∀ j, eg_gi N 75 j = eg_gi M 75 j := fun j => sm_i h rfl
  have i167 : ∀ j, eg_gi N 167 j = eg_gi M 167 j := fun j => sm_i h rfl
  have i76 : ∀ j, eg_gi N 76 j = eg_gi M 76 j := fun j => sm_i h rfl
  unfold r_pl at a ⊢
  simp only [s72_0, s121_65, s7_4, i164, i73, i8, i9, i165, i74, i166, i75, i167, i76]
  exact a
abbrev rd_pn : vf_K := [(121, some 66), (72, some 5), (121, some 67), (72, some 6), (168, none), (77, none)]
theorem kp_pn {M N : eg_M} (h : sm rd_pn M N) (a : r_pn M) : r_pn N := by
  have s121_66 : eg_gi N 121 66 = eg_gi M 121 66 := sm_i h rfl
  have s72_5 : eg_gi N 72 5 = eg_gi M 72 5 := sm_i h rfl
  have s121_67 : eg_gi N 121 67 = eg_gi M 121 67 := sm_i h rfl
  have s72_6 : eg_gi N 72 6 = eg_gi M 72 6 := sm_i h rfl
  have i168 : ∀ j, eg_gi N 168 j = eg_gi M 168 j := fun j => sm_i h rfl
  have i77 : ∀ j, eg_gi N 77 j = eg_gi M 77 j := fun j => sm_i h rfl
  unfold r_pn at a ⊢
  simp only [s121_66, s72_5, s121_67, s72_6, i168, i77]
  exact a
abbrev rd_fr : vf_K := [(121, some 83), (116, none), (174, none)]
theorem kp_fr {M N : eg_M} (h : sm rd_fr M N) (a : r_fr M) : r_fr N := by
  have s121_83 : eg_gi N 121 83 = eg_gi M 121 83 := sm_i h rfl
  have i116 : ∀ j, eg_gi N 116 j = eg_gi M 116 j := fun j => sm_i h rfl
  have i174 : ∀ j, eg_gi N 174 j = eg_gi M 174 j := fun j => sm_i h rfl
  unfold r_fr at a ⊢
  simp only [s121_83, i116, i174]
  exact a
abbrev rd_tx : vf_K := [(121, some 35), (23, some 2), (24, none), (30, none), (31, none), (32, none), (33, none), (140, none), (141, none), (142, none), (143, none), (144, none), (145, none), (146, none), (147, none), (148, none), (178, none)]
theorem cg_ru {M N : eg_M} {r : Nat} {CL : List (Int32 × List Int32 × List Int32)} (h1 : eg_gi N 141 r = eg_gi M 141 r) (h2 : ∀ i, i < 12 → eg_gi N 144 (12 * r + i) = eg_gi M 144 (12 * r + i) ∧ eg_gi N 145 (12 * r + i) = eg_gi M 145 (12 * r + i) ∧ eg_gi N 146 (12 * r + i) = eg_gi M 146 (12 * r + i) ∧ eg_gi N 147 (12 * r + i) = eg_gi M 147 (12 * r + i)) (h3 : ∀ a b P, b ≤ 640 * r + 640 → 640 * r ≤ a → m_sl (eg_gi M 148) b P a → m_sl (eg_gi N 148) b P a) (h : m_ru M r CL) : m_ru N r CL := by
  obtain ⟨a, b, c⟩ := h
  refine ⟨h1.trans a, b, fun i hi => ?_⟩
  obtain ⟨c1, u, v, w, c2, c3, c4, c5, c6, c7, c8⟩ := c i hi
  obtain ⟨d1, d2, d3, d4⟩ := h2 i (by omega)
  have hvw : v ≤ w := by
    rcases c8 with z | z
    · omega
    · omega
  refine ⟨d1.trans c1, u, v, w, d2.trans c2, d3.trans c3, d4.trans c4, c5, h3 _ _ _ (by omega) (by omega) c6, c7, ?_⟩
  rcases c8 with z | z
  · exact Or.inl z
  · exact Or.inr ⟨z.1, h3 _ _ _ (by omega) (by omega) z.2.1, z.2.2⟩
theorem kp_tx {M N : eg_M} (h : sm rd_tx M N) (a : r_tx M) : r_tx N := by
  have i24 : ∀ j, eg_gr N 24 j = eg_gr M 24 j := fun j => sm_r h rfl
  have hm : ∀ p, 178 ≤ p → ∀ j, vf_t rd_tx p j = true := fun p hp j => by
    have e : vf_c p = 178 := by
      unfold vf_c
      rw [show Nat.blt p 178 = false from Bool.eq_false_iff.mpr (fun z => by have := Nat.blt_eq.mp z; omega)]
      rfl
    have e2 : ∀ ps : vf_K, vf_t ps p j = vf_t ps 178 j := by
      intro ps
      induction ps with
      | nil => rfl
      | cons q t ih =>
        unfold vf_t
        rw [ih, e]
        rfl
    rw [e2]
    rfl
  have htp : ∀ b, k_tp b → ∀ j, eg_gi N b j = eg_gi M b j := fun b hb j => by
    unfold k_tp at hb
    rcases (show b = 31 ∨ b = 32 ∨ b = 33 ∨ 178 ≤ b by omega) with rfl | rfl | rfl | z
    · exact sm_i h rfl
    · exact sm_i h rfl
    · exact sm_i h rfl
    · exact sm_i h (hm b z j)
  obtain ⟨a1, ⟨a2, a3, a4⟩, a5⟩ := a
  refine ⟨(sm_i h rfl).trans (a1.trans (sm_i h rfl).symm), ⟨k_rt_ofR h.1 (fun j => sm_r h rfl) htp a2, (sm_i h rfl).trans a3, (sm_i h rfl).trans a4⟩, fun i hi => ?_⟩
  rw [show eg_gi N 23 2 = eg_gi M 23 2 from sm_i h rfl] at hi
  obtain ⟨q, CL, b1, b2, b3, b4, b5, b6, b7, b8, b9, b0⟩ := a5 i hi
  have e : ∀ j, eg_gi N q j = eg_gi M q j := fun j => sm_i h (hm q b2 j)
  refine ⟨q, CL, (i24 i).trans b1, b2, ?_, ?_, ?_, ?_, by rw [e]; exact b7, k_rt_ofR h.1 (fun j => sm_r h (hm q b2 j)) htp b8, cg_ru (sm_i h rfl) (fun i _ => ⟨sm_i h rfl, sm_i h rfl, sm_i h rfl, sm_i h rfl⟩) (fun a b P _ _ z => by rw [show eg_gi N 148 = eg_gi M 148 from funext fun j => sm_i h rfl]; exact z) b9, b0⟩
  · unfold eg_N at b3 ⊢
    rw [h.1]
    exact b3
  · rw [e, show eg_gi N 140 i = eg_gi M 140 i from sm_i h rfl]
    exact b4
  · rw [e, show eg_gi N 142 i = eg_gi M 142 i from sm_i h rfl]
    exact b5
  · rw [e, show eg_gi N 143 i = eg_gi M 143 i from sm_i h rfl]
    exact b6

abbrev rd_wi : vf_K := [(2, some 4), (98, none), (170, none), (171, none), (82, none), (83, none), (84, none), (85, none), (86, none), (87, none), (88, none), (89, none), (90, none), (91, none), (92, none), (93, none), (94, none), (95, none), (96, none), (97, none), (100, none), (101, none), (102, none), (103, none), (104, none), (105, none), (106, none), (107, none), (108, none), (109, none), (110, none), (111, none), (112, none), (113, none), (114, none), (115, none)]
theorem kp_wi {M N : eg_M} (h : sm rd_wi M N) (a : r_wi M) : r_wi N := by
  have w1 : ∀ t, t < 16 → vf_w rd_wi (81 + 1 + t) = true := by decide
  have w2 : ∀ t, t < 16 → vf_w rd_wi (99 + 1 + t) = true := by decide
  intro t ht
  have e1 : ∀ j, eg_gi N (81 + 1 + t) j = eg_gi M (81 + 1 + t) j := fun j => sm_i h (vf_wt (w1 t ht))
  have e2 : ∀ j, eg_gi N (99 + 1 + t) j = eg_gi M (99 + 1 + t) j := fun j => sm_i h (vf_wt (w2 t ht))
  have e3 : ∀ j, eg_gi N 98 j = eg_gi M 98 j := fun j => sm_i h rfl
  have e4 : ∀ j, eg_gi N 170 j = eg_gi M 170 j := fun j => sm_i h rfl
  have e5 : ∀ j, eg_gi N 171 j = eg_gi M 171 j := fun j => sm_i h rfl
  have e6 : eg_gi N 2 4 = eg_gi M 2 4 := sm_i h rfl
  have e7 : eg_gi N (81 + 1 + t) = eg_gi M (81 + 1 + t) := funext e1
  rw [e7]
  simp only [e2, e3, e4, e5, e6]
  exact a t ht

abbrev rd_I : vf_K := [(0, some 8), (7, some 4), (23, some 2), (1, none), (3, none), (4, none), (5, none), (6, none), (8, none), (9, none), (10, none), (12, none), (13, none), (14, none), (15, none), (16, none), (17, none), (18, none), (19, none), (20, none), (21, none), (22, none), (24, none), (30, none), (31, none), (32, none), (33, none), (34, none), (35, none), (36, none), (37, none), (38, none), (39, none), (40, none), (41, none), (178, none)]
theorem kp_I {M N : eg_M} (h : sm rd_I M N) (a : k_I M) : k_I N := by
  have hm : ∀ p, 178 ≤ p → ∀ j, vf_t rd_I p j = true := fun p hp j => by
    have e : vf_c p = 178 := by
      unfold vf_c
      rw [show Nat.blt p 178 = false from Bool.eq_false_iff.mpr (fun z => by have := Nat.blt_eq.mp z; omega)]
      rfl
    have e2 : ∀ ps : vf_K, vf_t ps p j = vf_t ps 178 j := by
      intro ps
      induction ps with
      | nil => rfl
      | cons q t ih =>
        unfold vf_t
        rw [ih, e]
        rfl
    rw [e2]
    rfl
  have w1 : ∀ p, p < 42 → (p = 1 ∨ p = 24 ∨ (3 ≤ p ∧ p ≤ 6) ∨ (8 ≤ p ∧ p ≤ 10) ∨ (12 ≤ p ∧ p ≤ 22) ∨ 30 ≤ p) → vf_w rd_I p = true := by decide
  refine k_I_of h.1 (fun p j hp => ?_) (fun p j hp => ?_) (fun p j hp => ?_) (sm_i h rfl) (fun e he => ⟨fun p h1 h2 => sm_i h (vf_wt (w1 p (by omega) (by omega))), fun p h1 h2 => ⟨sm_i h (vf_wt (w1 p (by omega) (by omega))), sm_i h (vf_wt (w1 p (by omega) (by omega)))⟩⟩) ?_ ?_ (fun c hc => ?_) a
  · by_cases z : 178 ≤ p
    · exact sm_r h (hm p z j)
    · exact sm_r h (vf_wt (w1 p (by omega) (by omega)))
  · by_cases z : 178 ≤ p
    · exact sm_i h (hm p z j)
    · exact sm_i h (vf_wt (w1 p (by omega) (by omega)))
  · exact sm_l h (vf_wt (w1 p (by omega) (by omega)))
  · rw [show eg_gi N 7 4 = eg_gi M 7 4 from sm_i h rfl]
    exact a.2.2.2.1
  · rw [show eg_gi N 0 8 = eg_gi M 0 8 from sm_i h rfl]
    exact a.2.2.2.2
  · rw [show eg_gi N 8 c = eg_gi M 8 c from sm_i h rfl, show eg_gi N 9 c = eg_gi M 9 c from sm_i h rfl]
    exact a.1.2.1 c hc


/-! THE LAW'S LOOP, ROUND BY ROUND -/
def lw_P : eg_P := fun r _ => r = .inl (some (.int (nI 1)))
def k_hd : List (Nat × Instr × Nat) := [(23, .iload 4, 2), (25, .aload_n 0, 1), (26, .arraylength, 1), (27, .bipush 8, 2), (29, .isub, 1), (30, .if_icmp .gt 1699, 3), (33, .aload_n 0, 1), (34, .iload 4, 2), (36, .iaload, 1), (37, .bipush 31, 2), (39, .iand, 1), (40, .tableswitch 1683 0 25 #[120, 181, 261, 317, 449, 512, 585, 641, 654, 746, 825, 916, 927, 1004, 1069, 1137, 1150, 1206, 1330, 1341, 1354, 1410, 1497, 1534, 1590, 1627], 120), (1723, .iinc 4 8, 3), (1726, .goto (-1703), 3), (1729, .iconst 1, 1), (1730, .ireturn, 1)]
theorem hs_hd : ∀ q ∈ k_hd, eg_lq k_LW.1 q.1 = some q.2 := by decide +kernel
theorem t2_al {L : Nat} {xs : Nat → Int32} {P : eg_P} {code : List (Nat × Instr × Nat)} {pc cu su : Nat} {ls : List (Option Value)} {st : List Value} {M : eg_M} (hs : ∀ q ∈ code, eg_lq k_LW.1 q.1 = some q.2) (hc : eg_lq code pc = some (.arraylength, 1)) (h : eg_T2 L xs wd k_LW P (pc + 1) cu su ls (.int (nI L) :: st) M) : eg_T2 L xs wd k_LW P pc cu su ls (.retAddr 1000 :: st) M := eg_T2_fold mk_LW (Or.inr (Or.inr ⟨hs (pc, .arraylength, 1) (eg_lq_in hc), st, rfl, h⟩))
theorem sub8 {L : Nat} (h : L ≤ 4096) : (nI L - nI 8).toInt = (L : Int) - 8 := by
  by_cases q : 8 ≤ L
  · have := n_sb (a := L - 8) (b := 8)
    rw [Nat.sub_add_cancel q] at this
    rw [this, nI_toInt (by omega)]
    omega
  · have : ∀ L, L < 8 → (nI L - nI 8).toInt = (L : Int) - 8 := by decide +kernel
    exact this L (by omega)
theorem gt8 {L i : Nat} (h : L ≤ 4096) (hi : i ≤ 5000) : (nI L - nI 8 < nI i) ↔ L < i + 8 := by
  rw [Int32.lt_iff_toInt_lt, sub8 h, nI_toInt (by omega)]
  omega
set_option maxRecDepth 100000 in
set_option maxHeartbeats 4000000 in
theorem lw_loop {L : Nat} {xs : Nat → Int32} (hL2 : L ≤ 4096) : ∀ (f i cu su : Nat) (x5 x6 x7 : Option Value) (M : eg_M), L < i + 8 + 8 * f → i ≤ 5000 → cu + 5 * f ≤ 601024 → su + 1212 * f ≤ 7293034 → r_A M → eg_T2 L xs wd k_LW lw_P 23 cu su [some (.retAddr 1000), some (.ref 0), some (.ref 121), some (.ref 177), some (.int (nI i)), x5, x6, x7] [] M := by
  intro f
  induction f with
  | zero =>
    intro i cu su x5 x6 x7 M h1 h2 h3 h4 hA
    have hs := hs_hd
    have hC := hC_sub (P := lw_P) (L := L) (xs := xs) hs
    refine y_run (k := (k_hd, k_LW.2)) mk_LW hC (cut := [26]) 2 (?_ : eg_T2 L xs wd k_LW lw_P 26 cu su [some (.retAddr 1000), some (.ref 0), some (.ref 121), some (.ref 177), some (.int (nI i)), x5, x6, x7] [.retAddr 1000, .int (nI i)] M)
    refine t2_al (code := k_hd) hs rfl (?_ : eg_T2 L xs wd k_LW lw_P 27 cu su [some (.retAddr 1000), some (.ref 0), some (.ref 121), some (.ref 177), some (.int (nI i)), x5, x6, x7] [.int (nI L), .int (nI i)] M)
    refine y_run (k := (k_hd, k_LW.2)) mk_LW hC (cut := [30]) 2 (?_ : eg_T2 L xs wd k_LW lw_P 30 cu su [some (.retAddr 1000), some (.ref 0), some (.ref 121), some (.ref 177), some (.int (nI i)), x5, x6, x7] [.int (nI L - nI 8), .int (nI i)] M)
    refine y_run (k := (k_hd, k_LW.2)) mk_LW hC (cut := [1729, 33]) 1 ⟨fun _ => (?_ : eg_T2 L xs wd k_LW lw_P 1729 cu su [some (.retAddr 1000), some (.ref 0), some (.ref 121), some (.ref 177), some (.int (nI i)), x5, x6, x7] [] M), fun z => absurd ((gt8 hL2 h2).mpr (by omega)) z⟩
    exact y_run (k := (k_hd, k_LW.2)) mk_LW hC (cut := []) 2 ⟨fun _ => Or.inr rfl, eg_need_of (hrr (show cu ≤ 601024 by omega) (show su ≤ 7293034 by omega)) rfl⟩
  | succ f ih =>
    intro i cu su x5 x6 x7 M h1 h2 h3 h4 hA
    have hs := hs_hd
    have hC := hC_sub (P := lw_P) (L := L) (xs := xs) hs
    refine y_run (k := (k_hd, k_LW.2)) mk_LW hC (cut := [26]) 2 (?_ : eg_T2 L xs wd k_LW lw_P 26 cu su [some (.retAddr 1000), some (.ref 0), some (.ref 121), some (.ref 177), some (.int (nI i)), x5, x6, x7] [.retAddr 1000, .int (nI i)] M)
    refine t2_al (code := k_hd) hs rfl (?_ : eg_T2 L xs wd k_LW lw_P 27 cu su [some (.retAddr 1000), some (.ref 0), some (.ref 121), some (.ref 177), some (.int (nI i)), x5, x6, x7] [.int (nI L), .int (nI i)] M)
    refine y_run (k := (k_hd, k_LW.2)) mk_LW hC (cut := [30]) 2 (?_ : eg_T2 L xs wd k_LW lw_P 30 cu su [some (.retAddr 1000), some (.ref 0), some (.ref 121), some (.ref 177), some (.int (nI i)), x5, x6, x7] [.int (nI L - nI 8), .int (nI i)] M)
    refine y_run (k := (k_hd, k_LW.2)) mk_LW hC (cut := [1729, 33]) 1 ⟨fun _ => (?_ : eg_T2 L xs wd k_LW lw_P 1729 cu su [some (.retAddr 1000), some (.ref 0), some (.ref 121), some (.ref 177), some (.int (nI i)), x5, x6, x7] [] M), fun z => (?_ : eg_T2 L xs wd k_LW lw_P 33 cu su [some (.retAddr 1000), some (.ref 0), some (.ref 121), some (.ref 177), some (.int (nI i)), x5, x6, x7] [] M)⟩
    · exact y_run (k := (k_hd, k_LW.2)) mk_LW hC (cut := []) 2 ⟨fun _ => Or.inr rfl, eg_need_of (hrr (show cu ≤ 601024 by omega) (show su ≤ 7293034 by omega)) rfl⟩
    · have hL : i + 8 ≤ L := by
        rw [gt8 hL2 h2] at z
        omega
      have hn : ∀ cu' su' y5 y6 y7 M', cu' ≤ cu + 5 → su' ≤ su + 1212 → r_A M' → eg_T2 L xs wd k_LW lw_P 1723 cu' su' [some (.retAddr 1000), some (.ref 0), some (.ref 121), some (.ref 177), some (.int (nI i)), y5, y6, y7] [] M' := fun cu' su' y5 y6 y7 M' c1 c2 hA' => by
        refine y_run (k := (k_hd, k_LW.2)) mk_LW hC (cut := [23]) 2 (?_ : eg_T2 L xs wd k_LW lw_P 23 cu' su' [some (.retAddr 1000), some (.ref 0), some (.ref 121), some (.ref 177), some (.int (nI i + nI 8)), y5, y6, y7] [] M')
        rw [n_s]
        exact ih (i + 8) cu' su' y5 y6 y7 M' (by omega) (by omega) (by omega) (by omega) hA'
      have hcu : cu + 5 ≤ 601024 := by omega
      have hsu : su + 1212 ≤ 7293034 := by omega
      refine y_run (k := (k_hd, k_LW.2)) mk_LW hC (cut := [36]) 2 (?_ : eg_T2 L xs wd k_LW lw_P 36 cu su [some (.retAddr 1000), some (.ref 0), some (.ref 121), some (.ref 177), some (.int (nI i)), x5, x6, x7] [.int (nI i), .retAddr 1000] M)
      refine t2_ia (code := k_hd) hs rfl (rfl : nI i = nI i) (show i < L by omega) hL2 (?_ : eg_T2 L xs wd k_LW lw_P 37 cu su [some (.retAddr 1000), some (.ref 0), some (.ref 121), some (.ref 177), some (.int (nI i)), x5, x6, x7] [.int (xs i)] M)
      refine y_run (k := (k_hd, k_LW.2)) mk_LW hC (cut := [40]) 2 (?_ : eg_T2 L xs wd k_LW lw_P 40 cu su [some (.retAddr 1000), some (.ref 0), some (.ref 121), some (.ref 177), some (.int (nI i)), x5, x6, x7] [.int (xs i &&& nI 31)] M)
      exact y_run (k := (k_hd, k_LW.2)) mk_LW hC (cut := [1723, 160, 221, 301, 357, 489, 552, 625, 681, 694, 786, 865, 956, 967, 1044, 1109, 1177, 1190, 1246, 1370, 1381, 1394, 1450, 1537, 1574, 1630, 1667]) 1 ⟨fun _ => hn cu su x5 x6 x7 M (by omega) (by omega) hA, fun _ => lc_0 hL hL2 hcu hsu hA hn, fun _ => lc_1 hL hL2 hcu hsu hA hn, fun _ => lc_2 hL hL2 hcu hsu hA hn, fun _ => lc_3 hL hL2 hcu hsu hA hn, fun _ => lc_4 hL hL2 hcu hsu hA hn, fun _ => lc_5 hL hL2 hcu hsu hA hn, fun _ => lc_6 hL hL2 hcu hsu hA hn, fun _ => lc_7 hL hL2 hcu hsu hA hn, fun _ => lc_8 hL hL2 hcu hsu hA hn, fun _ => lc_9 hL hL2 hcu hsu hA hn, fun _ => lc_10 hL hL2 hcu hsu hA hn, fun _ => lc_11 hL hL2 hcu hsu hA hn, fun _ => lc_12 hL hL2 hcu hsu hA hn, fun _ => lc_13 hL hL2 hcu hsu hA hn, fun _ => lc_14 hL hL2 hcu hsu hA hn, fun _ => lc_15 hL hL2 hcu hsu hA hn, fun _ => lc_16 hL hL2 hcu hsu hA hn, fun _ => lc_17 hL hL2 hcu hsu hA hn, fun _ => lc_18 hL hL2 hcu hsu hA hn, fun _ => lc_19 hL hL2 hcu hsu hA hn, fun _ => lc_20 hL hL2 hcu hsu hA hn, fun _ => lc_21 hL hL2 hcu hsu hA hn, fun _ => lc_22 hL hL2 hcu hsu hA hn, fun _ => lc_23 hL hL2 hcu hsu hA hn, fun _ => lc_24 hL hL2 hcu hsu hA hn, fun _ => lc_25 hL hL2 hcu hsu hA hn, trivial⟩
/-! class and model stand alike when all is made -/
def z_wr (p : Nat) : Bool := o_L.all (fun o => !((Nat.beq o.1 1 || Nat.beq o.1 5 || Nat.beq o.1 6) && Nat.beq o.2.1 p))
theorem z_do {M : eg_M} {o : Nat × Nat × Nat × Nat} {p : Nat} (h : (!((Nat.beq o.1 1 || Nat.beq o.1 5 || Nat.beq o.1 6) && Nat.beq o.2.1 p)) = true) (hM : ∀ j, eg_gi M p j = 0) : ∀ j, eg_gi (o_do M o) p j = 0 := by
  obtain ⟨t, x, y, z⟩ := o
  intro j
  match t, h with
  | 0, _ =>
    show (if p = eg_N w0 M then (fun _ => 0) else M.2.1 p) j = 0
    by_cases q : p = eg_N w0 M
    · rw [if_pos q]
    · rw [if_neg q]; exact hM j
  | 1, h =>
    have hx : ¬ p = x := fun e => by
      rw [e] at h
      simp at h
    show eg_gi (eg_si M x y (nI z)) p j = 0
    rw [si_g, if_neg (fun e => hx e.1)]
    exact hM j
  | 2, _ => exact hM j
  | 3, _ =>
    show (if eg_N w0 M ≤ p then (fun _ => 0) else M.2.1 p) j = 0
    by_cases q : eg_N w0 M ≤ p
    · rw [if_pos q]
    · rw [if_neg q]; exact hM j
  | 4, _ =>
    show (if eg_N w0 M ≤ p then (fun _ => 0) else M.2.1 p) j = 0
    by_cases q : eg_N w0 M ≤ p
    · rw [if_pos q]
    · rw [if_neg q]; exact hM j
  | 5, h =>
    have hx : ¬ p = x := fun e => by
      rw [e] at h
      simp at h
    show eg_gi (eg_si M x y (-nI z)) p j = 0
    rw [si_g, if_neg (fun e => hx e.1)]
    exact hM j
  | 6, h =>
    have hx : ¬ p = x := fun e => by
      rw [e] at h
      simp at h
    show (if p = x then _ else M.2.1 p) j = 0
    rw [if_neg hx]
    exact hM j
  | t + 7, _ => exact hM j
theorem z_row {p : Nat} (h : z_wr p = true) : ∀ a j, eg_gi (mem a) p j = 0
  | 0, _ => rfl
  | a + 1, j => by
    have ih := z_row h a
    show eg_gi (match o_L[a]? with
      | some o => o_do (mem a) o
      | none => mem a) p j = 0
    cases e : o_L[a]? with
    | none => exact ih j
    | some o => exact z_do (List.all_eq_true.mp h o (List.mem_of_getElem? e)) ih j
theorem z_neg : ∀ t, t < 16 → (∀ x, x < 16 → eg_gi (mem 342) (99 + 1 + t) x = -nI 1) ∧ eg_gi (mem 342) 116 t = -nI 1 := by decide +kernel
theorem z_c : eg_gi (mem 342) 0 8 = nI 0 ∧ eg_gi (mem 342) 2 4 = nI 0 ∧ eg_gi (mem 342) 7 4 = nI 0 ∧ eg_gi (mem 342) 12 10 = nI 0 ∧ eg_gi (mem 342) 1 4 = -nI 1 ∧ eg_gi (mem 342) 23 0 = nI 0 ∧ eg_gi (mem 342) 23 2 = nI 0 ∧ eg_gi (mem 342) 23 3 = -nI 1 ∧ eg_gi (mem 342) 30 1 = nI 100000 ∧ eg_gi (mem 342) 30 2 = nI 20 := by decide +kernel
theorem z_d : eg_gi (mem 342) 46 0 = nI 0 ∧ eg_gi (mem 342) 46 5 = nI 0 ∧ eg_gi (mem 342) 46 9 = -nI 1 ∧ eg_gi (mem 342) 72 0 = nI 0 ∧ eg_gi (mem 342) 72 5 = -nI 1 := by decide +kernel
theorem z_m : eg_gi (mem 342) 121 2 = nI 0 ∧ eg_gi (mem 342) 121 3 = nI 0 ∧ eg_gi (mem 342) 121 4 = nI 0 ∧ eg_gi (mem 342) 121 5 = nI 0 ∧ eg_gi (mem 342) 121 23 = nI 0 ∧ eg_gi (mem 342) 121 33 = -nI 1 ∧ eg_gi (mem 342) 121 35 = nI 0 ∧ eg_gi (mem 342) 121 52 = nI 0 ∧ eg_gi (mem 342) 121 53 = nI 0 ∧ eg_gi (mem 342) 121 54 = -nI 1 ∧ eg_gi (mem 342) 121 65 = nI 0 ∧ eg_gi (mem 342) 121 66 = -nI 1 ∧ eg_gi (mem 342) 121 83 = nI 0 := by decide +kernel
theorem z_w : z_wr 8 = true ∧ z_wr 9 = true ∧ z_wr 36 = true ∧ z_wr 98 = true ∧ z_wr 170 = true ∧ z_wr 26 = true ∧ z_wr 139 = true := by decide +kernel
theorem rA_of {N : eg_M} (hr : eg_ref (eg_sh wd (mwo N) 30) (mwo N) 30 3 = some 31) (hz : ∀ p, z_wr p = true → ∀ j, eg_gi (mwo N) p j = nI 0) (zn : ∀ t, t < 16 → (∀ x, x < 16 → eg_gi (mwo N) (99 + 1 + t) x = -nI 1) ∧ eg_gi (mwo N) 116 t = -nI 1)
    (zc : eg_gi (mwo N) 0 8 = nI 0 ∧ eg_gi (mwo N) 2 4 = nI 0 ∧ eg_gi (mwo N) 7 4 = nI 0 ∧ eg_gi (mwo N) 12 10 = nI 0 ∧ eg_gi (mwo N) 1 4 = -nI 1 ∧ eg_gi (mwo N) 23 0 = nI 0 ∧ eg_gi (mwo N) 23 2 = nI 0 ∧ eg_gi (mwo N) 23 3 = -nI 1 ∧ eg_gi (mwo N) 30 1 = nI 100000 ∧ eg_gi (mwo N) 30 2 = nI 20)
    (zd : eg_gi (mwo N) 46 0 = nI 0 ∧ eg_gi (mwo N) 46 5 = nI 0 ∧ eg_gi (mwo N) 46 9 = -nI 1 ∧ eg_gi (mwo N) 72 0 = nI 0 ∧ eg_gi (mwo N) 72 5 = -nI 1)
    (zm : eg_gi (mwo N) 121 2 = nI 0 ∧ eg_gi (mwo N) 121 3 = nI 0 ∧ eg_gi (mwo N) 121 4 = nI 0 ∧ eg_gi (mwo N) 121 5 = nI 0 ∧ eg_gi (mwo N) 121 23 = nI 0 ∧ eg_gi (mwo N) 121 33 = -nI 1 ∧ eg_gi (mwo N) 121 35 = nI 0 ∧ eg_gi (mwo N) 121 52 = nI 0 ∧ eg_gi (mwo N) 121 53 = nI 0 ∧ eg_gi (mwo N) 121 54 = -nI 1 ∧ eg_gi (mwo N) 121 65 = nI 0 ∧ eg_gi (mwo N) 121 66 = -nI 1 ∧ eg_gi (mwo N) 121 83 = nI 0) : r_A (mwo N) := by
  obtain ⟨c1, c2, c3, c4, c5, c6, c7, c8, c9, c10⟩ := zc
  obtain ⟨d1, d2, d3, d4, d5⟩ := zd
  obtain ⟨m1, m2, m3, m4, m5, m6, m7, m8, m9, m10, m11, m12, m13⟩ := zm
  obtain ⟨w1, w2, w3, w4, w5, w6, w7⟩ := z_w
  have no : ∀ {x : Int32} {j : Nat}, x = nI 0 → j < x.toNatClampNeg → False := fun h hj => by
    rw [h, n_c (by decide)] at hj
    exact Nat.not_lt_zero _ hj
  have rt30 : k_rt (mwo N) 30 [] := ⟨31, hr, rfl, Or.inl ⟨by decide, by decide⟩, rfl, Nat.zero_le _, fun i hi => absurd hi (Nat.not_lt_zero i)⟩
  have in0 : ∀ {x : Int32} {m : Nat}, x = nI 0 → 0 < m → m < 2 ^ 31 → vp_in x m := fun h h1 h2 => by
    rw [h]
    exact vp_in_nI h1 h2
  refine ⟨⟨⟨⟨[], ⟨0, by decide, c4⟩, fun i hi => absurd hi (Nat.not_lt_zero i), ⟨?_, List.Pairwise.nil, fun e => ⟨fun z => absurd z List.not_mem_nil, fun z => (no c4 z).elim⟩⟩, fun e he => (no c4 he).elim⟩, fun c hc => ⟨in0 (hz _ w1 c) (by decide) (by decide), in0 (hz _ w2 c) (by decide) (by decide)⟩, fun j hj => Or.inr (in0 (hz _ w3 j) (by decide) (by decide)), fun e he => (no c4 he).elim⟩, ⟨⟨⟨0, by decide, c7⟩, fun i hi => (no c7 hi).elim⟩, ⟨rfl, ⟨[], rt30⟩, 100000, by decide, ?_⟩, fun i hi => (no c7 hi).elim⟩, Or.inl c5, ⟨0, by decide, c3⟩, in0 c1 (by decide) (by decide)⟩, ⟨⟨0, by decide, c2⟩, m2.trans c2.symm, fun t ht => (no c2 ht).elim⟩, ⟨m1.trans c1.symm, m3.trans c3.symm, fun c hc => (no c3 hc).elim⟩, ⟨m4.trans c4.symm, fun e he => (no c4 he).elim⟩, ⟨m5.trans c6.symm, m6.trans c8.symm, ⟨0, by decide, c6⟩, fun j => (hz _ w7 j).trans (hz _ w6 j).symm, fun j _ => ⟨0, by decide, hz _ w6 j⟩⟩, ⟨m7.trans c7.symm, ⟨rt30, c9, c10⟩, fun i hi => (no c7 hi).elim⟩, ⟨⟨⟨0, by decide, d1⟩, m8.trans d1.symm⟩, ⟨⟨0, by decide, d2⟩, m9.trans d2.symm⟩, fun h hh => (no d1 hh).elim, fun g hg => (no d2 hg).elim⟩, ⟨m10.trans d3.symm, Or.inl d3⟩, ⟨⟨0, by decide, d4⟩, m11.trans d4.symm, fun p hp => (no d4 hp).elim⟩, ⟨m12.trans d5.symm, Or.inl d5⟩, fun t ht => ⟨⟨0, by decide, hz _ w4 t⟩, (hz _ w5 t).trans (hz _ w4 t).symm, fun _ => hz _ w4 t, fun i hi => (no (hz _ w4 t) hi).elim, fun x hx => ?_⟩, fun t ht => ?_⟩
  · show 0 = (eg_gi (mwo N) 12 10).toNatClampNeg
    rw [show eg_gi (mwo N) 12 10 = nI 0 from c4, n_c (by decide)]
  · rw [show eg_gi (mwo N) 30 1 = nI 100000 from c9]
    exact nI_l (by decide)
  · rw [show eg_gi (mwo N) (99 + 1 + t) x = -nI 1 from (zn t ht).1 x hx, show eg_gi (mwo N) 98 t = nI 0 from hz _ w4 t, n_c (by decide)]
    rfl
  · rw [show eg_gi (mwo N) 116 t = -nI 1 from (zn t ht).2, if_pos (show eg_gi (mwo N) 121 83 = 0 from m13)]
theorem mwo_gi (N : eg_M) (p j : Nat) : eg_gi (mwo N) p j = eg_gi N p j := rfl
theorem mwo_gr (N : eg_M) : eg_ref (eg_sh wd (mwo N) 30) (mwo N) 30 3 = match (wd_B 30).2.2.getD 3 none with
  | some q => some q
  | none => eg_gr N 30 3 := rfl
theorem z_31 : (match (wd_B 30).2.2.getD 3 none with
  | some q => some q
  | none => eg_gr (mem 342) 30 3) = some 31 := by decide +kernel
theorem rA_start : r_A (mwo (mem 342)) := by
  have zn := z_neg
  have zc := z_c
  have zd := z_d
  have zm := z_m
  have zr := @z_row
  have z31 := z_31
  have hz : ∀ p, z_wr p = true → ∀ j, eg_gi (mem 342) p j = nI 0 := fun p h j => zr h 342 j
  clear zr
  generalize mem 342 = N at *
  exact rA_of ((mwo_gr N).trans z31) hz zn zc zd zm

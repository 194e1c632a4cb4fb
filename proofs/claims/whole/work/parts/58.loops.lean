/-- the same for 64 bits -/
theorem us12 (x : Int64) {i : Nat} (h : i < 4) : (((x.toUInt64 >>> ((nI 12 * nI i).toInt64.toUInt64 &&& Int64.toUInt64 63)).toInt64) &&& lN 4095).toInt32 = dy x i := by
  have h1 : ∀ i, i < 4 → (((nI (12 * i)).toInt64 &&& 63).toBitVec.smod 64).toNat = 12 * i := by decide
  have h2 : ∀ i, i < 4 → (((nI 12 * nI i).toInt64.toUInt64 &&& Int64.toUInt64 63).toBitVec % 64).toNat = 12 * i := by decide
  have hk : ∀ j, j < 64 → (lN 4095).toBitVec.getLsbD j = true → j < 12 := by decide
  unfold dy
  congr 1
  apply Int64.toBitVec_inj.mp
  apply BitVec.eq_of_getLsbD_eq
  intro j hj
  simp only [Int64.toBitVec_and, BitVec.getLsbD_and]
  cases hb : (lN 4095).toBitVec.getLsbD j with
  | false => rw [Bool.and_false, Bool.and_false]
  | true =>
    have hjw := hk j hj hb
    rw [Bool.and_true, Bool.and_true, Int64.toBitVec_shiftRight]
    have e1 : (x.toUInt64 >>> ((nI 12 * nI i).toInt64.toUInt64 &&& Int64.toUInt64 63)).toInt64.toBitVec = x.toBitVec >>> (((nI 12 * nI i).toInt64.toUInt64 &&& Int64.toUInt64 63).toBitVec % 64).toNat := rfl
    rw [e1, h2 i h, BitVec.getLsbD_ushiftRight]
    have e2 : ∀ y : BitVec 64, BitVec.sshiftRight' x.toBitVec y = x.toBitVec.sshiftRight y.toNat := fun _ => rfl
    rw [e2, h1 i h, BitVec.getLsbD_sshiftRight]
    have hl : 12 * i + j < 64 := by omega
    simp [hl, show ¬ 64 ≤ j by omega]
/-- the class: the dates of plan p, the first i of them -/
def k_pd (M : eg_M) (p i : Nat) (d : Int64) : eg_M := eg_ri M 76 (fun j => if p * 4 ≤ j ∧ j < p * 4 + i then dy d (j - p * 4) else eg_gi M 76 j)
/-- the class: plan p stands -/
def k_pl (M : eg_M) (p m : Nat) (a b : Int32) (d : Int64) : eg_M := eg_si (eg_si (eg_si (eg_si (k_pd M p m d) 73 p a) 74 p b) 75 p (nI m)) 72 0 (nI (p + 1))
theorem dy_0 (x : Int64) (i : Nat) : ¬ dy x i < nI 0 := by
  unfold dy
  generalize x >>> ((nI (12 * i)).toInt64 &&& 63) = z
  have h : (z &&& lN 4095).toBitVec.toNat < 4096 := by
    rw [Int64.toBitVec_and, BitVec.toNat_and]
    exact Nat.lt_of_le_of_lt Nat.and_le_right (by decide)
  have e : z &&& lN 4095 = lN (z &&& lN 4095).toBitVec.toNat := by
    apply Int64.toBitVec_inj.mp
    apply BitVec.eq_of_toNat_eq
    have e : ∀ n, (lN n).toBitVec = BitVec.ofNat 64 n := fun _ => rfl
    rw [e, BitVec.toNat_ofNat, Nat.mod_eq_of_lt (by omega)]
  rw [e, lN_i, n_lt (by omega) (by decide)]
  exact Nat.not_lt_zero _
theorem nt_X11_isDay : ∀ argv M Qp, s_X11_isDay argv M Qp → s_X11_isDay argv M (fun r N => match r with
    | .inl v => Qp (.inl v) N
    | .inr _ => False) := by
  intro argv M Qp h
  unfold s_X11_isDay at h ⊢
  split at h
  · exact h
  · exact h.elim
def k_X6_add : eg_C := ([(0, .aload_n 0, 1), (1, .getfield 9, 3), (4, .bipush 6, 2), (6, .if_icmp .lt 5, 3), (9, .iconst (-1), 1), (10, .ireturn, 1), (11, .iconst 0, 1), (12, .istore 6, 2), (14, .iload 6, 2), (16, .iload_n 3, 1), (17, .if_icmp .ge 50, 3), (20, .lload 4, 2), (22, .bipush 12, 2), (24, .iload 6, 2), (26, .imul, 1), (27, .lushr, 1), (28, .ldc2_w 46, 3), (31, .land, 1), (32, .l2i, 1), (33, .istore 7, 2), (35, .iload 7, 2), (37, .invokestatic 48, 3), (40, .ifCond .ne 5, 3), (43, .iconst (-1), 1), (44, .ireturn, 1), (45, .aload_n 0, 1), (46, .getfield 25, 3), (49, .aload_n 0, 1), (50, .getfield 9, 3), (53, .iconst 4, 1), (54, .imul, 1), (55, .iload 6, 2), (57, .iadd, 1), (58, .iload 7, 2), (60, .iastore, 1), (61, .iinc 6 1, 3), (64, .goto (-50), 3), (67, .aload_n 0, 1), (68, .getfield 15, 3), (71, .aload_n 0, 1), (72, .getfield 9, 3), (75, .iload_n 1, 1), (76, .iastore, 1), (77, .aload_n 0, 1), (78, .getfield 19, 3), (81, .aload_n 0, 1), (82, .getfield 9, 3), (85, .iload_n 2, 1), (86, .iastore, 1), (87, .aload_n 0, 1), (88, .getfield 22, 3), (91, .aload_n 0, 1), (92, .getfield 9, 3), (95, .iload_n 3, 1), (96, .iastore, 1), (97, .aload_n 0, 1), (98, .dup, 1), (99, .getfield 9, 3), (102, .dup_x1, 1), (103, .iconst 1, 1), (104, .iadd, 1), (105, .putfield 9, 3), (108, .ireturn, 1)], [(9, 6, 0, true), (15, 6, 1, false), (19, 6, 2, false), (22, 6, 3, false), (25, 6, 4, false)], [(46, .long (lN 4095))], [(48 + 100000, 1, 0, 0, s_X11_isDay)], [], 1, 0, 0)
theorem mk_X6_add : ∀ q ∈ k_X6_add.2.2.2.1, eg_mono q.2.2.2.2 := (fc (mo_X11_isDay) (fn))
set_option maxRecDepth 100000 in
theorem st_X6_add_0 {Qp : eg_P} {M : eg_M} (a : Int32) (b : Int32) (c : Int32) (d : Int64)
  (l0 : ((eg_gi M 72 0) < (nI 6)) → eg_T wd k_X6_add Qp 14 0 0 [some (.ref 72), some (.int a), some (.int b), some (.int c), some (.long d), none, some (.int (nI 0)), none] [] M)
  (l1 : (¬ (eg_gi M 72 0) < (nI 6)) → Qp (.inl (some (.int (-nI 1)))) M) :
  eg_T wd k_X6_add Qp 0 0 0 [some (.ref 72), some (.int a), some (.int b), some (.int c), some (.long d), none, none, none] [] M := by
  refine eg_T_run mk_X6_add (cut := [14]) 66 ?_
  refine And.intro (fun (c1 : (eg_gi M 72 0) < (nI 6)) => ?_) (fun (c1 : ¬ (eg_gi M 72 0) < (nI 6)) => ?_)
  · skip
    show eg_T wd k_X6_add Qp 14 0 0 [some (.ref 72), some (.int a), some (.int b), some (.int c), some (.long d), none, some (.int (nI 0)), none] [] M
    exact l0 c1
  · skip
    refine And.intro (fun z => absurd z (by decide)) ?_
    show Qp (.inl (some (.int (-nI 1)))) M
    exact l1 c1

set_option maxRecDepth 100000 in
theorem st_X6_add_14 {Qp : eg_P} {M : eg_M} (a : Int32) (b : Int32) (c : Int32) (d : Int64) (x6 : Int32) (o7 : Option Value)
  (g0 : (c ≤ x6) → (vp_in (eg_gi M 72 0) 6))
  (g1 : (¬ (c ≤ x6)) → (¬ (¬ (¬ ((((d.toUInt64 >>> (((nI 12) * x6).toInt64.toUInt64 &&& Int64.toUInt64 63)).toInt64) &&& (lN 4095)).toInt32) < (nI 0) ∧ ¬ (nI 3599) < ((((d.toUInt64 >>> (((nI 12) * x6).toInt64.toUInt64 &&& Int64.toUInt64 63)).toInt64) &&& (lN 4095)).toInt32)))) → (vp_in (((eg_gi M 72 0) * (nI 4)) + x6) 24))
  (l0 : (c ≤ x6) → Qp (.inl (some (.int (eg_gi M 72 0)))) (eg_si (eg_si (eg_si (eg_si M 73 (eg_gi M 72 0).toNatClampNeg a) 74 (eg_gi M 72 0).toNatClampNeg b) 75 (eg_gi M 72 0).toNatClampNeg c) 72 0 ((eg_gi M 72 0) + (nI 1))))
  (l1 : (¬ c ≤ x6 ∧ (¬ (¬ ((((d.toUInt64 >>> (((nI 12) * x6).toInt64.toUInt64 &&& Int64.toUInt64 63)).toInt64) &&& (lN 4095)).toInt32) < (nI 0) ∧ ¬ (nI 3599) < ((((d.toUInt64 >>> (((nI 12) * x6).toInt64.toUInt64 &&& Int64.toUInt64 63)).toInt64) &&& (lN 4095)).toInt32)))) → Qp (.inl (some (.int (-nI 1)))) M)
  (l2 : (¬ c ≤ x6 ∧ ((¬ ((((d.toUInt64 >>> (((nI 12) * x6).toInt64.toUInt64 &&& Int64.toUInt64 63)).toInt64) &&& (lN 4095)).toInt32) < (nI 0) ∧ ¬ (nI 3599) < ((((d.toUInt64 >>> (((nI 12) * x6).toInt64.toUInt64 &&& Int64.toUInt64 63)).toInt64) &&& (lN 4095)).toInt32)))) → eg_T wd k_X6_add Qp 14 0 0 [some (.ref 72), some (.int a), some (.int b), some (.int c), some (.long d), none, some (.int (x6 + (nI 1))), some (.int ((((d.toUInt64 >>> (((nI 12) * x6).toInt64.toUInt64 &&& Int64.toUInt64 63)).toInt64) &&& (lN 4095)).toInt32))] [] (eg_si M 76 (((eg_gi M 72 0) * (nI 4)) + x6).toNatClampNeg ((((d.toUInt64 >>> (((nI 12) * x6).toInt64.toUInt64 &&& Int64.toUInt64 63)).toInt64) &&& (lN 4095)).toInt32))) :
  eg_T wd k_X6_add Qp 14 0 0 [some (.ref 72), some (.int a), some (.int b), some (.int c), some (.long d), none, some (.int x6), o7] [] M := by
  refine eg_T_run mk_X6_add (cut := [14]) 66 ?_
  refine And.intro (fun (c1 : c ≤ x6) => ?_) (fun (c1 : ¬ c ≤ x6) => ?_)
  · skip
    refine And.intro (show vp_in (eg_gi M 72 0) 6 from ?_) ?_
    · exact g0 c1
    refine And.intro (show vp_in (eg_gi M 72 0) 6 from ?_) ?_
    · exact g0 c1
    refine And.intro (show vp_in (eg_gi M 72 0) 6 from ?_) ?_
    · exact g0 c1
    refine And.intro (fun z => absurd z (by decide)) ?_
    show Qp (.inl (some (.int (eg_gi M 72 0)))) (eg_si (eg_si (eg_si (eg_si M 73 (eg_gi M 72 0).toNatClampNeg a) 74 (eg_gi M 72 0).toNatClampNeg b) 75 (eg_gi M 72 0).toNatClampNeg c) 72 0 ((eg_gi M 72 0) + (nI 1)))
    exact l0 c1
  · skip
    refine And.intro (show (True) from ?_) ?_
    · exact trivial
    refine And.intro (fun (c2 : (b2i (decide (¬ ((((d.toUInt64 >>> (((nI 12) * x6).toInt64.toUInt64 &&& Int64.toUInt64 63)).toInt64) &&& (lN 4095)).toInt32) < (nI 0) ∧ ¬ (nI 3599) < ((((d.toUInt64 >>> (((nI 12) * x6).toInt64.toUInt64 &&& Int64.toUInt64 63)).toInt64) &&& (lN 4095)).toInt32)))) = 0) => ?_) (fun (c2 : ¬ (b2i (decide (¬ ((((d.toUInt64 >>> (((nI 12) * x6).toInt64.toUInt64 &&& Int64.toUInt64 63)).toInt64) &&& (lN 4095)).toInt32) < (nI 0) ∧ ¬ (nI 3599) < ((((d.toUInt64 >>> (((nI 12) * x6).toInt64.toUInt64 &&& Int64.toUInt64 63)).toInt64) &&& (lN 4095)).toInt32)))) = 0) => ?_)
    · replace c2 := b2i_d0.mp c2
      refine And.intro (fun z => absurd z (by decide)) ?_
      show Qp (.inl (some (.int (-nI 1)))) M
      exact l1 ⟨c1, c2⟩
    · replace c2 := b2i_dn.mp c2
      refine And.intro (show vp_in (((eg_gi M 72 0) * (nI 4)) + x6) 24 from ?_) ?_
      · exact g1 c1 c2
      show eg_T wd k_X6_add Qp 14 0 0 [some (.ref 72), some (.int a), some (.int b), some (.int c), some (.long d), none, some (.int (x6 + (nI 1))), some (.int ((((d.toUInt64 >>> (((nI 12) * x6).toInt64.toUInt64 &&& Int64.toUInt64 63)).toInt64) &&& (lN 4095)).toInt32))] [] (eg_si M 76 (((eg_gi M 72 0) * (nI 4)) + x6).toNatClampNeg ((((d.toUInt64 >>> (((nI 12) * x6).toInt64.toUInt64 &&& Int64.toUInt64 63)).toInt64) &&& (lN 4095)).toInt32))
      exact l2 ⟨c1, (Classical.byContradiction c2)⟩

def s_X6_add : eg_S := fun argv M Qp => match argv with
  | [.ref 72, .int a, .int b, .int c, .long d] => (eg_cn (eg_gi M 72 0) 6 ∧ eg_cn c 4) ∧ ∀ (v : Int32) (M2 : eg_M), (((eg_gi M 72 0).toNatClampNeg = 6 ∧ v = -nI 1 ∧ M2 = M) ∨ ((eg_gi M 72 0).toNatClampNeg < 6 ∧ (∃ i, i < c.toNatClampNeg ∧ nI 3599 < dy d i ∧ v = -nI 1 ∧ M2 = k_pd M (eg_gi M 72 0).toNatClampNeg i d)) ∨ ((eg_gi M 72 0).toNatClampNeg < 6 ∧ (∀ i, i < c.toNatClampNeg → ¬ nI 3599 < dy d i) ∧ v = eg_gi M 72 0 ∧ M2 = k_pl M (eg_gi M 72 0).toNatClampNeg c.toNatClampNeg a b d)) → Qp (.inl (some (.int (v)))) M2
  | _ => False
theorem mo_X6_add : eg_mono s_X6_add := by
  intro argv M Q Q' h
  unfold s_X6_add
  split
  · exact fun z => ⟨z.1, fun v M2 y => h _ _ (z.2 v M2 y)⟩
  · exact id
theorem sz_X6_add : ∀ argv M Qp, s_X6_add argv M Qp → (eg_ls0 argv).length ≤ 8 := by
  intro argv M Qp h
  unfold s_X6_add at h
  split at h
  · exact Nat.le_of_ble_eq_true rfl
  · exact h.elim
theorem sr_X6_add : ∀ argv M Qp, s_X6_add argv M Qp → ∃ p0 As, argv = .ref p0 :: As ∧ eg_isO wd M p0 6 = true := by
  intro argv M Qp h
  unfold s_X6_add at h
  split at h
  · exact ⟨_, _, rfl, rfl⟩
  · exact h.elim
set_option maxRecDepth 100000 in
set_option maxHeartbeats 1000000 in
theorem T_X6_add {argv : List Value} {M : eg_M} {Qp : eg_P} (h : s_X6_add argv M Qp) : eg_T wd k_X6_add Qp 0 0 0 (eg_lsN 8 argv) [] M := by
  unfold s_X6_add at h
  split at h
  · rename_i a b c d
    obtain ⟨hp, hq⟩ := h
    obtain ⟨⟨p, hp6, eP⟩, m, hm, rfl⟩ := hp
    rw [eP, n_c (by omega), n_c (by omega)] at hq
    have s0 := st_X6_add_0 (Qp := Qp) (M := M) a b (nI m) d
    rw [eP, n_lt (by omega) (by decide)] at s0
    refine s0 (fun z => ?_) (fun z => hq _ _ (Or.inl ⟨by omega, rfl, rfl⟩))
    have lp : ∀ i (o : Option Value), i ≤ m → (∀ j, j < i → ¬ nI 3599 < dy d j) → eg_T wd k_X6_add Qp 14 0 0 [some (.ref 72), some (.int a), some (.int b), some (.int (nI m)), some (.long d), none, some (.int (nI i)), o] [] (k_pd M p i d) := by
      refine eg_for ?_
      intro i o hi hI kk
      have st := st_X6_add_14 (Qp := Qp) (M := k_pd M p i d) a b (nI m) d (nI i) o
      have r0 : eg_gi (k_pd M p i d) 72 0 = nI p := eP
      have d0 := dy_0 d i
      rcases Nat.lt_or_ge i m with h | h
      · rw [us12 d (by omega), r0, n_m, n_s, n_c (show p * 4 + i < 2 ^ 31 by omega), n_le (by omega) (by omega), Nat.not_le, n_in (by omega) (by decide), n_in (by omega) (by decide), n_s, n_s] at st
        refine st (fun w => absurd w (by omega)) (fun _ _ => by omega) (fun w => absurd w (by omega)) (fun w => ?_) (fun w => ?_)
        · refine hq _ _ (Or.inr (Or.inl ⟨z, i, h, ?_, rfl, rfl⟩))
          by_cases y : nI 3599 < dy d i
          · exact y
          · exact absurd ⟨d0, y⟩ w.2
        · have e : eg_si (k_pd M p i d) 76 (p * 4 + i) (dy d i) = k_pd M p (i + 1) d := by
            unfold k_pd
            rw [si_ri]
            congr 1
            funext j
            by_cases h1 : j = p * 4 + i
            · subst h1
              rw [if_pos rfl, if_pos (by omega), show p * 4 + i - p * 4 = i by omega]
            · rw [if_neg h1]
              by_cases h2 : p * 4 ≤ j ∧ j < p * 4 + i
              · rw [if_pos h2, if_pos (by omega)]
              · rw [if_neg h2, if_neg (by omega)]
          rw [e]
          refine kk _ h (fun j hj => ?_)
          by_cases h1 : j = i
          · subst h1
            exact w.2.2
          · exact hI j (by omega)
      · have him : i = m := by omega
        subst him
        have hle : nI i ≤ nI i := (n_le (by omega) (by omega)).mpr (Nat.le_refl _)
        rw [r0, n_c (show p < 2 ^ 31 by omega), n_s] at st
        exact st (fun _ => (n_in (by omega) (by decide)).mpr z) (fun w => absurd hle w) (fun _ => hq _ _ (Or.inr (Or.inr ⟨z, hI, rfl, rfl⟩))) (fun w => absurd hle w.1) (fun w => absurd hle w.1)
    have := lp 0 none (Nat.zero_le _) (fun j hj => absurd hj (Nat.not_lt_zero _))
    have e : k_pd M p 0 d = M := by
      unfold k_pd
      refine ri_id' ?_
      funext j
      rw [if_neg (by omega)]
    rw [e] at this
    exact this
    
  · exact h.elim
theorem de_X6_add : ∀ q ∈ k_X6_add.1, decode cX6_add q.1 = .ok q.2 := by decide +kernel
theorem me_X6_add (g : gl_T) : MT g yX6_add cX6_add 8 (some .int) ⟨2, 0, 0, 42⟩ 0 0 s_X6_add := by
  intro hl
  exact eg_met_of (k := k_X6_add) (by decide) rfl ⟨Nat.le_refl _, Nat.le_refl _⟩ rfl sz_X6_add de_X6_add (fun meth hn => (fc (eg_FL_of wd_c6 (by decide) lf_RX6_9 (fun _ => Or.inl rfl)) (fc (eg_FL_of wd_c6 (by decide) lf_RX6_15 (fun h => absurd h (by decide))) (fc (eg_FL_of wd_c6 (by decide) lf_RX6_19 (fun h => absurd h (by decide))) (fc (eg_FL_of wd_c6 (by decide) lf_RX6_22 (fun h => absurd h (by decide))) (fc (eg_FL_of wd_c6 (by decide) lf_RX6_25 (fun h => absurd h (by decide))) (fn))))))) (fun A s H hE => (fc (List.mem_cons_of_mem _ ll_RX6_46) (fn))) (fun p e s m args below meth c Q A ad0 N0 S0 hK hEx hA => (fc (mt_SN hl S0 hK hEx hA (me_X11_isDay g) nt_X11_isDay (List.mem_of_getElem? (i := 8) rfl) ls_X11_isDay ln_RX11 lc_X11_isDay ⟨rfl, by decide, by decide, by decide +kernel⟩ ⟨rfl, rfl⟩ ⟨by decide, by decide⟩ (by decide)) (fn))) (fun p e s m args below meth c Qc XC A ad0 N0 P S0 hK hEx hA hlk hout hPX => (fn)) (fun argv M Qp h => T_X6_add h)

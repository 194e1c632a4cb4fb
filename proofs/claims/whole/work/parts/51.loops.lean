/-- the class: how guest g likes home h -/
def k_lk (M : eg_M) (g h : Nat) : Int32 := if bc (eg_gi M 51 g &&& eg_gi M 48 h) = 0 ∨ (¬ eg_gi M 49 h = 0 ∧ eg_gi M 53 g = 0) then -nI 1 else nI 3 * bc (eg_gi M 51 g &&& eg_gi M 48 h) + (if nI 0 < nI 10 - ab (eg_gi M 52 g) (eg_gi M 50 h) then nI 10 - ab (eg_gi M 52 g) (eg_gi M 50 h) else nI 0)
def k_X4_likingOf_v : eg_C := ([(0, .aload_n 0, 1), (1, .getfield 32, 3), (4, .iload_n 1, 1), (5, .iaload, 1), (6, .aload_n 0, 1), (7, .getfield 19, 3), (10, .iload_n 2, 1), (11, .iaload, 1), (12, .iand, 1), (13, .invokestatic 57, 3), (16, .istore_n 3, 1), (17, .iload_n 3, 1), (18, .ifCond .eq 21, 3), (21, .aload_n 0, 1), (22, .getfield 22, 3), (25, .iload_n 2, 1), (26, .baload, 1), (27, .ifCond .eq 14, 3), (30, .aload_n 0, 1), (31, .getfield 38, 3), (34, .iload_n 1, 1), (35, .baload, 1), (36, .ifCond .ne 5, 3), (39, .iconst (-1), 1), (40, .ireturn, 1), (41, .iconst 3, 1), (42, .iload_n 3, 1), (43, .imul, 1), (44, .iconst 0, 1), (45, .bipush 10, 2), (47, .aload_n 0, 1), (48, .getfield 35, 3), (51, .iload_n 1, 1), (52, .iaload, 1), (53, .aload_n 0, 1), (54, .getfield 26, 3), (57, .iload_n 2, 1), (58, .iaload, 1), (59, .isub, 1), (60, .invokestatic 63, 3), (63, .isub, 1), (64, .invokestatic 68, 3), (67, .iadd, 1), (68, .ireturn, 1)], [(19, 4, 2, false), (22, 4, 3, false), (26, 4, 4, false), (32, 4, 6, false), (35, 4, 7, false), (38, 4, 8, false)], [], [(57 + 100000, 1, 0, 0, s_J6_bitCount_0f7a4), (63 + 100000, 1, 0, 0, s_J9_abs_0f7a4), (68 + 100000, 2, 0, 0, s_J9_max_7cf53)], [], 1, 0, 0)
theorem mk_X4_likingOf_v : ∀ q ∈ k_X4_likingOf_v.2.2.2.1, eg_mono q.2.2.2.2 := (fc (mo_J6_bitCount_0f7a4) (fc (mo_J9_abs_0f7a4) (fc (mo_J9_max_7cf53) (fn))))
set_option maxRecDepth 100000 in
theorem st_X4_likingOf_v_0 {Qp : eg_P} {M : eg_M} (g : Int32) (h : Int32)
  (g0 : (vp_in g 8))
  (g1 : (vp_in h 6))
  (l0 : ((bc ((eg_gi M 51 g.toNatClampNeg) &&& (eg_gi M 48 h.toNatClampNeg))) = 0 ∨ (¬ (eg_gi M 49 h.toNatClampNeg) = 0 ∧ (eg_gi M 53 g.toNatClampNeg) = 0)) → Qp (.inl (some (.int (-nI 1)))) M)
  (l1 : (¬ (bc ((eg_gi M 51 g.toNatClampNeg) &&& (eg_gi M 48 h.toNatClampNeg))) = 0 ∧ ((eg_gi M 49 h.toNatClampNeg) = 0 ∨ ¬ (eg_gi M 53 g.toNatClampNeg) = 0)) → Qp (.inl (some (.int (((nI 3) * (bc ((eg_gi M 51 g.toNatClampNeg) &&& (eg_gi M 48 h.toNatClampNeg)))) + (if (nI 0) < ((nI 10) - (if 0 ≤ ((eg_gi M 52 g.toNatClampNeg) - (eg_gi M 50 h.toNatClampNeg)) then ((eg_gi M 52 g.toNatClampNeg) - (eg_gi M 50 h.toNatClampNeg)) else 0 - ((eg_gi M 52 g.toNatClampNeg) - (eg_gi M 50 h.toNatClampNeg)))) then ((nI 10) - (if 0 ≤ ((eg_gi M 52 g.toNatClampNeg) - (eg_gi M 50 h.toNatClampNeg)) then ((eg_gi M 52 g.toNatClampNeg) - (eg_gi M 50 h.toNatClampNeg)) else 0 - ((eg_gi M 52 g.toNatClampNeg) - (eg_gi M 50 h.toNatClampNeg)))) else (nI 0)))))) M) :
  eg_T wd k_X4_likingOf_v Qp 0 0 0 [some (.ref 46), some (.int g), some (.int h), none] [] M := by
  refine eg_T_run mk_X4_likingOf_v (cut := []) 47 ?_
  refine And.intro (show vp_in g 8 from ?_) ?_
  · exact g0
  refine And.intro (show vp_in h 6 from ?_) ?_
  · exact g1
  refine And.intro (show (True) from ?_) ?_
  · exact trivial
  refine And.intro (fun (c1 : (bc ((eg_gi M 51 g.toNatClampNeg) &&& (eg_gi M 48 h.toNatClampNeg))) = 0) => ?_) (fun (c1 : ¬ (bc ((eg_gi M 51 g.toNatClampNeg) &&& (eg_gi M 48 h.toNatClampNeg))) = 0) => ?_)
  · skip
    refine And.intro (fun z => absurd z (by decide)) ?_
    show Qp (.inl (some (.int (-nI 1)))) M
    exact l0 (Or.inl c1)
  · skip
    refine And.intro (show vp_in h 6 from ?_) ?_
    · exact g1
    refine And.intro (fun (c2 : (eg_gi M 49 h.toNatClampNeg) = 0) => ?_) (fun (c2 : ¬ (eg_gi M 49 h.toNatClampNeg) = 0) => ?_)
    · skip
      refine And.intro (show vp_in g 8 from ?_) ?_
      · exact g0
      refine And.intro (show vp_in h 6 from ?_) ?_
      · exact g1
      refine And.intro (fun z => absurd z (by decide)) ?_
      show Qp (.inl (some (.int (((nI 3) * (bc ((eg_gi M 51 g.toNatClampNeg) &&& (eg_gi M 48 h.toNatClampNeg)))) + (if (nI 0) < ((nI 10) - (if 0 ≤ ((eg_gi M 52 g.toNatClampNeg) - (eg_gi M 50 h.toNatClampNeg)) then ((eg_gi M 52 g.toNatClampNeg) - (eg_gi M 50 h.toNatClampNeg)) else 0 - ((eg_gi M 52 g.toNatClampNeg) - (eg_gi M 50 h.toNatClampNeg)))) then ((nI 10) - (if 0 ≤ ((eg_gi M 52 g.toNatClampNeg) - (eg_gi M 50 h.toNatClampNeg)) then ((eg_gi M 52 g.toNatClampNeg) - (eg_gi M 50 h.toNatClampNeg)) else 0 - ((eg_gi M 52 g.toNatClampNeg) - (eg_gi M 50 h.toNatClampNeg)))) else (nI 0)))))) M
      exact l1 ⟨c1, (Or.inl c2)⟩
    · skip
      refine And.intro (show vp_in g 8 from ?_) ?_
      · exact g0
      refine And.intro (fun (c3 : (eg_gi M 53 g.toNatClampNeg) = 0) => ?_) (fun (c3 : ¬ (eg_gi M 53 g.toNatClampNeg) = 0) => ?_)
      · skip
        refine And.intro (fun z => absurd z (by decide)) ?_
        show Qp (.inl (some (.int (-nI 1)))) M
        exact l0 (Or.inr ⟨c2, c3⟩)
      · skip
        refine And.intro (show vp_in g 8 from ?_) ?_
        · exact g0
        refine And.intro (show vp_in h 6 from ?_) ?_
        · exact g1
        refine And.intro (fun z => absurd z (by decide)) ?_
        show Qp (.inl (some (.int (((nI 3) * (bc ((eg_gi M 51 g.toNatClampNeg) &&& (eg_gi M 48 h.toNatClampNeg)))) + (if (nI 0) < ((nI 10) - (if 0 ≤ ((eg_gi M 52 g.toNatClampNeg) - (eg_gi M 50 h.toNatClampNeg)) then ((eg_gi M 52 g.toNatClampNeg) - (eg_gi M 50 h.toNatClampNeg)) else 0 - ((eg_gi M 52 g.toNatClampNeg) - (eg_gi M 50 h.toNatClampNeg)))) then ((nI 10) - (if 0 ≤ ((eg_gi M 52 g.toNatClampNeg) - (eg_gi M 50 h.toNatClampNeg)) then ((eg_gi M 52 g.toNatClampNeg) - (eg_gi M 50 h.toNatClampNeg)) else 0 - ((eg_gi M 52 g.toNatClampNeg) - (eg_gi M 50 h.toNatClampNeg)))) else (nI 0)))))) M
        exact l1 ⟨c1, (Or.inr c3)⟩

def s_X4_likingOf_v : eg_S := fun argv M Qp => match argv with
  | [.ref 46, .int g, .int h] => (vp_in g 8 ∧ vp_in h 6) ∧ Qp (.inl (some (.int (k_lk M g.toNatClampNeg h.toNatClampNeg)))) M
  | _ => False
theorem mo_X4_likingOf_v : eg_mono s_X4_likingOf_v := by
  intro argv M Q Q' h
  unfold s_X4_likingOf_v
  split
  · exact fun z => ⟨z.1, h _ _ z.2⟩
  · exact id
theorem sz_X4_likingOf_v : ∀ argv M Qp, s_X4_likingOf_v argv M Qp → (eg_ls0 argv).length ≤ 4 := by
  intro argv M Qp h
  unfold s_X4_likingOf_v at h
  split at h
  · exact Nat.le_of_ble_eq_true rfl
  · exact h.elim
theorem sr_X4_likingOf_v : ∀ argv M Qp, s_X4_likingOf_v argv M Qp → ∃ p0 As, argv = .ref p0 :: As ∧ eg_isO wd M p0 4 = true := by
  intro argv M Qp h
  unfold s_X4_likingOf_v at h
  split at h
  · exact ⟨_, _, rfl, rfl⟩
  · exact h.elim
set_option maxRecDepth 100000 in
set_option maxHeartbeats 1000000 in
theorem T_X4_likingOf_v {argv : List Value} {M : eg_M} {Qp : eg_P} (h : s_X4_likingOf_v argv M Qp) : eg_T wd k_X4_likingOf_v Qp 0 0 0 (eg_lsN 4 argv) [] M := by
  unfold s_X4_likingOf_v at h
  split at h
  · rename_i g h
    obtain ⟨hp, hq⟩ := h
    obtain ⟨hg, hh⟩ := hp
    refine st_X4_likingOf_v_0 g h hg hh (fun z => ?_) (fun z => ?_)
    · unfold k_lk at hq
      rw [if_pos z] at hq
      exact hq
    · unfold k_lk ab at hq
      rw [if_neg] at hq
      · exact hq
      · rintro (w | w)
        · exact z.1 w
        · rcases z.2 with y | y
          · exact w.1 y
          · exact y w.2
  · exact h.elim
theorem de_X4_likingOf_v : ∀ q ∈ k_X4_likingOf_v.1, decode cX4_likingOf q.1 = .ok q.2 := by decide +kernel
theorem me_X4_likingOf_v (g : gl_T) : MT g yX4_likingOf cX4_likingOf 4 (some .int) ⟨1, 0, 0, 24⟩ 0 0 s_X4_likingOf_v := by
  intro hl
  exact eg_met_of (k := k_X4_likingOf_v) (by decide) rfl ⟨Nat.le_refl _, Nat.le_refl _⟩ rfl sz_X4_likingOf_v de_X4_likingOf_v (fun meth hn => (fc (eg_FL_of wd_c4 (by decide) lf_RX4_19 (fun h => absurd h (by decide))) (fc (eg_FL_of wd_c4 (by decide) lf_RX4_22 (fun h => absurd h (by decide))) (fc (eg_FL_of wd_c4 (by decide) lf_RX4_26 (fun h => absurd h (by decide))) (fc (eg_FL_of wd_c4 (by decide) lf_RX4_32 (fun h => absurd h (by decide))) (fc (eg_FL_of wd_c4 (by decide) lf_RX4_35 (fun h => absurd h (by decide))) (fc (eg_FL_of wd_c4 (by decide) lf_RX4_38 (fun h => absurd h (by decide))) (fn)))))))) (fun A s H hE => (fn)) (fun p e s m args below meth c Q A ad0 N0 S0 hK hEx hA => (fc (mt_S hl S0 hK hEx hA (me_J6_bitCount_0f7a4 g) lm_RX4_57 ls_J6_bitCount_0f7a4 ln_RJ6 lc_J6_bitCount_0f7a4 ⟨rfl, by decide, by decide, by decide +kernel⟩ ⟨rfl, rfl⟩ ⟨by decide, by decide⟩ (by decide)) (fc (mt_J9_abs_0f7a4 S0 lm_RX4_63 (by decide) (by decide) (by decide)) (fc (mt_J9_max_7cf53 S0 lm_RX4_68 (by decide) (by decide) (by decide)) (fn))))) (fun p e s m args below meth c Qc XC A ad0 N0 P S0 hK hEx hA hlk hout hPX => (fn)) (fun argv M Qp h => T_X4_likingOf_v h)

/-- all numbers of 64 bits anew -/
def eg_aL (M : eg_M) (F : Nat → Nat → Int64) : eg_M := (M.1, M.2.1, F, M.2.2.2)
theorem aL_id (M : eg_M) : eg_aL M (fun p k => eg_gl M p k) = M := rfl
theorem aL_sl (M : eg_M) (F : Nat → Nat → Int64) (p k : Nat) (v : Int64) : eg_sl (eg_aL M F) p k v = eg_aL M (eg_up F p k v) := rfl
theorem up_g {α : Type} (F : Nat → Nat → α) (p k q j : Nat) (v : α) : eg_up F p k v q j = if q = p ∧ j = k then v else F q j := by
  unfold eg_up
  by_cases h : q = p
  · subst h
    rw [if_pos rfl]
    by_cases h2 : j = k
    · rw [if_pos h2, if_pos ⟨rfl, h2⟩]
    · rw [if_neg h2, if_neg (fun z => h2 z.2)]
  · rw [if_neg h, if_neg (fun z => h z.1)]
/-- the class: what it costs to give guest g home h, with the digit d -/
def k_cs (M : eg_M) (d : Int64) (g h : Nat) : Int64 := if k_lk M g h = -nI 1 then lN 172944030000 else (nI h).toInt64 * d - (k_lk M g h).toInt64 * lN 5764801 - lN 1729440300
def k_X4_setCosts : eg_C := ([(0, .lconst 1, 1), (1, .lstore_n 1, 1), (2, .aload_n 0, 1), (3, .getfield 29, 3), (6, .iconst 1, 1), (7, .isub, 1), (8, .istore_n 3, 1), (9, .iload_n 3, 1), (10, .ifCond .lt 100, 3), (13, .iconst 0, 1), (14, .istore 4, 2), (16, .iload 4, 2), (18, .aload_n 0, 1), (19, .getfield 11, 3), (22, .if_icmp .ge 59, 3), (25, .aload_n 0, 1), (26, .iload_n 3, 1), (27, .iload 4, 2), (29, .invokevirtual 85, 3), (32, .istore 5, 2), (34, .aload_n 0, 1), (35, .getfield 53, 3), (38, .getfield 88, 3), (41, .iload_n 3, 1), (42, .aaload, 1), (43, .iload 4, 2), (45, .iload 5, 2), (47, .iconst (-1), 1), (48, .if_icmp .ne 9, 3), (51, .ldc2_w 92, 3), (54, .goto 20, 3), (57, .iload 4, 2), (59, .i2l, 1), (60, .lload_n 1, 1), (61, .lmul, 1), (62, .iload 5, 2), (64, .i2l, 1), (65, .ldc2_w 94, 3), (68, .lmul, 1), (69, .lsub, 1), (70, .ldc2_w 96, 3), (73, .lsub, 1), (74, .lastore, 1), (75, .iinc 4 1, 3), (78, .goto (-62), 3), (81, .aload_n 0, 1), (82, .getfield 53, 3), (85, .getfield 88, 3), (88, .iload_n 3, 1), (89, .aaload, 1), (90, .bipush 6, 2), (92, .ldc2_w 98, 3), (95, .lload_n 1, 1), (96, .lmul, 1), (97, .lastore, 1), (98, .lload_n 1, 1), (99, .ldc2_w 100, 3), (102, .lmul, 1), (103, .lstore_n 1, 1), (104, .iinc 3 (-1), 3), (107, .goto (-98), 3), (110, .return_, 1)], [(11, 4, 0, false), (29, 4, 5, false), (53, 4, 12, false), (88, 5, 0, false)], [(92, .long (lN 172944030000)), (94, .long (lN 5764801)), (96, .long (lN 1729440300)), (98, .long (lN 6)), (100, .long (lN 7))], [(85, 2 + 1, 0, 0, s_X4_likingOf_v)], [], 0, 0, 0)
theorem mk_X4_setCosts : ∀ q ∈ k_X4_setCosts.2.2.2.1, eg_mono q.2.2.2.2 := (fc (mo_X4_likingOf_v) (fn))
set_option maxRecDepth 100000 in
theorem st_X4_setCosts_0 {Qp : eg_P} {M : eg_M} 
  (l0 : eg_T wd k_X4_setCosts Qp 9 0 0 [some (.ref 46), some (.long (lN 1)), none, some (.int ((eg_gi M 46 5) - (nI 1))), none, none] [] M) :
  eg_T wd k_X4_setCosts Qp 0 0 0 [some (.ref 46), none, none, none, none, none] [] M := by
  refine eg_T_run mk_X4_setCosts (cut := [9, 16]) 65 ?_
  show eg_T wd k_X4_setCosts Qp 9 0 0 [some (.ref 46), some (.long (lN 1)), none, some (.int ((eg_gi M 46 5) - (nI 1))), none, none] [] M
  exact l0

set_option maxRecDepth 100000 in
theorem st_X4_setCosts_9 {Qp : eg_P} {M : eg_M} (x1 : Int64) (x3 : Int32) (o4 : Option Value) (o5 : Option Value)
  (l0 : (x3 < 0) → Qp (.inl none) M)
  (l1 : (¬ x3 < 0) → eg_T wd k_X4_setCosts Qp 16 0 0 [some (.ref 46), some (.long x1), none, some (.int x3), some (.int (nI 0)), o5] [] M) :
  eg_T wd k_X4_setCosts Qp 9 0 0 [some (.ref 46), some (.long x1), none, some (.int x3), o4, o5] [] M := by
  refine eg_T_run mk_X4_setCosts (cut := [9, 16]) 65 ?_
  refine And.intro (fun (c1 : x3 < 0) => ?_) (fun (c1 : ¬ x3 < 0) => ?_)
  · skip
    show Qp (.inl none) M
    exact l0 c1
  · skip
    show eg_T wd k_X4_setCosts Qp 16 0 0 [some (.ref 46), some (.long x1), none, some (.int x3), some (.int (nI 0)), o5] [] M
    exact l1 c1

set_option maxRecDepth 100000 in
theorem st_X4_setCosts_16 {Qp : eg_P} {M : eg_M} (x1 : Int64) (x3 : Int32) (x4 : Int32) (o5 : Option Value)
  (g0 : (vp_in x3 8))
  (g1 : (eg_is wd M (56 + 1 + x3.toNatClampNeg) 2 = true))
  (g2 : ((eg_gi M 46 0) ≤ x4) → (vp_in (nI 6) (eg_len wd M (56 + 1 + x3.toNatClampNeg))))
  (g3 : (¬ ((eg_gi M 46 0) ≤ x4)) → (vp_in x3 8 ∧ vp_in x4 6))
  (g4 : (¬ ((eg_gi M 46 0) ≤ x4)) → (vp_in x4 (eg_len wd M (56 + 1 + x3.toNatClampNeg))))
  (l0 : ((eg_gi M 46 0) ≤ x4) → eg_T wd k_X4_setCosts Qp 9 0 0 [some (.ref 46), some (.long (x1 * (lN 7))), none, some (.int (x3 + (-nI 1))), some (.int x4), o5] [] (eg_sl M (56 + 1 + x3.toNatClampNeg) (nI 6).toNatClampNeg ((lN 6) * x1)))
  (l1 : (¬ (eg_gi M 46 0) ≤ x4 ∧ (k_lk M x3.toNatClampNeg x4.toNatClampNeg) = (-nI 1)) → eg_T wd k_X4_setCosts Qp 16 0 0 [some (.ref 46), some (.long x1), none, some (.int x3), some (.int (x4 + (nI 1))), some (.int (k_lk M x3.toNatClampNeg x4.toNatClampNeg))] [] (eg_sl M (56 + 1 + x3.toNatClampNeg) x4.toNatClampNeg (lN 172944030000)))
  (l2 : (¬ (eg_gi M 46 0) ≤ x4 ∧ ¬ (k_lk M x3.toNatClampNeg x4.toNatClampNeg) = (-nI 1)) → eg_T wd k_X4_setCosts Qp 16 0 0 [some (.ref 46), some (.long x1), none, some (.int x3), some (.int (x4 + (nI 1))), some (.int (k_lk M x3.toNatClampNeg x4.toNatClampNeg))] [] (eg_sl M (56 + 1 + x3.toNatClampNeg) x4.toNatClampNeg (((x4.toInt64 * x1) - (((k_lk M x3.toNatClampNeg x4.toNatClampNeg).toInt64) * (lN 5764801))) - (lN 1729440300)))) :
  eg_T wd k_X4_setCosts Qp 16 0 0 [some (.ref 46), some (.long x1), none, some (.int x3), some (.int x4), o5] [] M := by
  refine eg_T_run mk_X4_setCosts (cut := [9, 16]) 65 ?_
  refine And.intro (fun (c1 : (eg_gi M 46 0) ≤ x4) => ?_) (fun (c1 : ¬ (eg_gi M 46 0) ≤ x4) => ?_)
  · skip
    refine And.intro (show vp_in x3 8 from ?_) ?_
    · exact g0
    refine eg_need_of (show eg_is wd M (56 + 1 + x3.toNatClampNeg) 2 = true from ?_) ?_
    · exact g1
    refine And.intro (show vp_in (nI 6) (eg_len wd M (56 + 1 + x3.toNatClampNeg)) from ?_) ?_
    · exact g2 c1
    show eg_T wd k_X4_setCosts Qp 9 0 0 [some (.ref 46), some (.long (x1 * (lN 7))), none, some (.int (x3 + (-nI 1))), some (.int x4), o5] [] (eg_sl M (56 + 1 + x3.toNatClampNeg) (nI 6).toNatClampNeg ((lN 6) * x1))
    exact l0 c1
  · skip
    refine And.intro (show (vp_in x3 8 ∧ vp_in x4 6) from ?_) ?_
    · exact g3 c1
    refine And.intro (show vp_in x3 8 from ?_) ?_
    · exact g0
    refine And.intro (fun (c2 : (k_lk M x3.toNatClampNeg x4.toNatClampNeg) = (-nI 1)) => ?_) (fun (c2 : ¬ (k_lk M x3.toNatClampNeg x4.toNatClampNeg) = (-nI 1)) => ?_)
    · skip
      refine eg_need_of (show eg_is wd M (56 + 1 + x3.toNatClampNeg) 2 = true from ?_) ?_
      · exact g1
      refine And.intro (show vp_in x4 (eg_len wd M (56 + 1 + x3.toNatClampNeg)) from ?_) ?_
      · exact g4 c1
      show eg_T wd k_X4_setCosts Qp 16 0 0 [some (.ref 46), some (.long x1), none, some (.int x3), some (.int (x4 + (nI 1))), some (.int (k_lk M x3.toNatClampNeg x4.toNatClampNeg))] [] (eg_sl M (56 + 1 + x3.toNatClampNeg) x4.toNatClampNeg (lN 172944030000))
      exact l1 ⟨c1, c2⟩
    · skip
      refine eg_need_of (show eg_is wd M (56 + 1 + x3.toNatClampNeg) 2 = true from ?_) ?_
      · exact g1
      refine And.intro (show vp_in x4 (eg_len wd M (56 + 1 + x3.toNatClampNeg)) from ?_) ?_
      · exact g4 c1
      show eg_T wd k_X4_setCosts Qp 16 0 0 [some (.ref 46), some (.long x1), none, some (.int x3), some (.int (x4 + (nI 1))), some (.int (k_lk M x3.toNatClampNeg x4.toNatClampNeg))] [] (eg_sl M (56 + 1 + x3.toNatClampNeg) x4.toNatClampNeg (((x4.toInt64 * x1) - (((k_lk M x3.toNatClampNeg x4.toNatClampNeg).toInt64) * (lN 5764801))) - (lN 1729440300)))
      exact l2 ⟨c1, c2⟩

def s_X4_setCosts : eg_S := fun argv M Qp => match argv with
  | [.ref 46] => (eg_cn (eg_gi M 46 0) 6 ∧ eg_cn (eg_gi M 46 5) 8) ∧ ∀ (F : Nat → Nat → Int64), ((∀ g, g < (eg_gi M 46 5).toNatClampNeg → F (56 + 1 + g) 6 = lN 6 * lN (7 ^ ((eg_gi M 46 5).toNatClampNeg - (g + 1))) ∧ ∀ h, h < (eg_gi M 46 0).toNatClampNeg → F (56 + 1 + g) h = k_cs M (lN (7 ^ ((eg_gi M 46 5).toNatClampNeg - (g + 1)))) g h) ∧ ∀ p j, (p < 57 ∨ 64 < p) → F p j = eg_gl M p j) → Qp (.inl none) (eg_aL M F)
  | _ => False
theorem mo_X4_setCosts : eg_mono s_X4_setCosts := by
  intro argv M Q Q' h
  unfold s_X4_setCosts
  split
  · exact fun z => ⟨z.1, fun F y => h _ _ (z.2 F y)⟩
  · exact id
theorem sz_X4_setCosts : ∀ argv M Qp, s_X4_setCosts argv M Qp → (eg_ls0 argv).length ≤ 6 := by
  intro argv M Qp h
  unfold s_X4_setCosts at h
  split at h
  · exact Nat.le_of_ble_eq_true rfl
  · exact h.elim
theorem sr_X4_setCosts : ∀ argv M Qp, s_X4_setCosts argv M Qp → ∃ p0 As, argv = .ref p0 :: As ∧ eg_isO wd M p0 4 = true := by
  intro argv M Qp h
  unfold s_X4_setCosts at h
  split at h
  · exact ⟨_, _, rfl, rfl⟩
  · exact h.elim
set_option maxRecDepth 100000 in
set_option maxHeartbeats 1000000 in
theorem T_X4_setCosts {argv : List Value} {M : eg_M} {Qp : eg_P} (h : s_X4_setCosts argv M Qp) : eg_T wd k_X4_setCosts Qp 0 0 0 (eg_lsN 6 argv) [] M := by
  unfold s_X4_setCosts at h
  split at h
  · obtain ⟨hp, hq⟩ := h
    obtain ⟨⟨H, hH, eH⟩, G, hG, eG⟩ := hp
    rw [eH, eG, n_c (by omega), n_c (by omega)] at hq
    have lp : ∀ k, k ≤ G → ∀ (F : Nat → Nat → Int64) (o4 o5 : Option Value), ((∀ g, k ≤ g → g < G → F (56 + 1 + g) 6 = lN 6 * lN (7 ^ (G - (g + 1))) ∧ ∀ h, h < H → F (56 + 1 + g) h = k_cs M (lN (7 ^ (G - (g + 1)))) g h) ∧ ∀ p j, (p < 57 ∨ 64 < p) → F p j = eg_gl M p j) → eg_T wd k_X4_setCosts Qp 9 0 0 [some (.ref 46), some (.long (lN (7 ^ (G - k)))), none, some (.int (nI k - nI 1)), o4, o5] [] (eg_aL M F) := by
      intro k
      induction k with
      | zero =>
        intro _ F o4 o5 hI
        refine st_X4_setCosts_9 _ _ _ _ (fun _ => hq F ⟨fun g hg => hI.1 g (Nat.zero_le _) hg, hI.2⟩) (fun z => absurd (by decide) z)
      | succ k ih =>
        intro hk F o4 o5 hI
        rw [n_p]
        refine st_X4_setCosts_9 _ _ _ _ (fun z => absurd z (fun y => ?_)) (fun _ => ?_)
        · rw [show (0 : Int32) = nI 0 from rfl, n_lt (by omega) (by decide)] at y
          exact absurd y (Nat.not_lt_zero _)
        have li : ∀ h (x : (Nat → Nat → Int64) × Option Value), h ≤ H → ((∀ g, k + 1 ≤ g → g < G → x.1 (56 + 1 + g) 6 = lN 6 * lN (7 ^ (G - (g + 1))) ∧ ∀ h, h < H → x.1 (56 + 1 + g) h = k_cs M (lN (7 ^ (G - (g + 1)))) g h) ∧ (∀ p j, (p < 57 ∨ 64 < p) → x.1 p j = eg_gl M p j) ∧ ∀ h', h' < h → x.1 (56 + 1 + k) h' = k_cs M (lN (7 ^ (G - (k + 1)))) k h') → eg_T wd k_X4_setCosts Qp 16 0 0 [some (.ref 46), some (.long (lN (7 ^ (G - (k + 1))))), none, some (.int (nI k)), some (.int (nI h)), x.2] [] (eg_aL M x.1) := by
          refine eg_for ?_
          intro h ⟨F, o5⟩ hh ⟨h1, h2, h3⟩ kk
          dsimp only at h1 h2 h3
          have st := st_X4_setCosts_16 (Qp := Qp) (M := eg_aL M F) (lN (7 ^ (G - (k + 1)))) (nI k) (nI h) o5
          have r46 : eg_gi (eg_aL M F) 46 0 = nI H := eH
          have rlk : k_lk (eg_aL M F) k h = k_lk M k h := rfl
          rw [n_c (show k < 2 ^ 31 by omega), n_c (show h < 2 ^ 31 by omega), n_c (show 6 < 2 ^ 31 by omega), r46, rlk, n_le (by omega) (by omega), Nat.not_le, n_s, (co_is _ (show k < 8 by omega)).2, n_in (by omega) (by decide), n_in (by omega) (by decide), n_in (by omega) (by decide), n_in (by omega) (by decide), aL_sl, aL_sl, aL_sl, lN_mul] at st
          refine st (by omega) (co_is _ (by omega)).1 (fun _ => by decide) (fun z => ⟨by omega, by omega⟩) (fun z => by omega) (fun z => ?_) (fun z => ?_) (fun z => ?_)
          · have hh : h = H := by omega
            subst hh
            have := ih (by omega) (eg_up F (56 + 1 + k) 6 (lN 6 * lN (7 ^ (G - (k + 1))))) (some (.int (nI h))) o5 ⟨fun g hg hgG => ?_, fun p j hp => ?_⟩
            · rw [show 7 ^ (G - k) = 7 ^ (G - (k + 1)) * 7 by rw [← Nat.pow_succ]; congr 1; omega, Int32.sub_eq_add_neg] at this
              exact this
            · by_cases e : g = k
              · subst e
                rw [up_g, if_pos ⟨rfl, rfl⟩]
                refine ⟨rfl, fun h' hh' => ?_⟩
                rw [up_g, if_neg (by omega)]
                exact h3 h' hh'
              · try dsimp only
                rw [up_g, if_neg (by omega)]
                refine ⟨(h1 g (by omega) hgG).1, fun h' hh' => ?_⟩
                rw [up_g, if_neg (by omega)]
                exact (h1 g (by omega) hgG).2 h' hh'
            · try dsimp only
              rw [up_g, if_neg (by omega)]
              exact h2 p j hp
          · have hv : k_cs M (lN (7 ^ (G - (k + 1)))) k h = lN 172944030000 := by
              unfold k_cs
              rw [if_pos z.2]
            rw [← hv]
            refine kk (eg_up F (56 + 1 + k) h (k_cs M (lN (7 ^ (G - (k + 1)))) k h), _) z.1 ⟨fun g hg hgG => ?_, fun p j hp => ?_, fun h' hh' => ?_⟩
            · try dsimp only
              rw [up_g, if_neg (by omega)]
              refine ⟨(h1 g (by omega) hgG).1, fun h' hh' => ?_⟩
              rw [up_g, if_neg (by omega)]
              exact (h1 g (by omega) hgG).2 h' hh'
            · try dsimp only
              rw [up_g, if_neg (by omega)]
              exact h2 p j hp
            · by_cases e : h' = h
              · try dsimp only
                rw [up_g, if_pos ⟨rfl, e⟩, e]
              · try dsimp only
                rw [up_g, if_neg (by omega)]
                exact h3 h' (by omega)
          · have hv : k_cs M (lN (7 ^ (G - (k + 1)))) k h = (nI h).toInt64 * lN (7 ^ (G - (k + 1))) - (k_lk M k h).toInt64 * lN 5764801 - lN 1729440300 := by
              unfold k_cs
              rw [if_neg z.2]
            rw [← hv]
            refine kk (eg_up F (56 + 1 + k) h (k_cs M (lN (7 ^ (G - (k + 1)))) k h), _) z.1 ⟨fun g hg hgG => ?_, fun p j hp => ?_, fun h' hh' => ?_⟩
            · try dsimp only
              rw [up_g, if_neg (by omega)]
              refine ⟨(h1 g (by omega) hgG).1, fun h' hh' => ?_⟩
              rw [up_g, if_neg (by omega)]
              exact (h1 g (by omega) hgG).2 h' hh'
            · try dsimp only
              rw [up_g, if_neg (by omega)]
              exact h2 p j hp
            · by_cases e : h' = h
              · try dsimp only
                rw [up_g, if_pos ⟨rfl, e⟩, e]
              · try dsimp only
                rw [up_g, if_neg (by omega)]
                exact h3 h' (by omega)
        exact li 0 (F, o5) (Nat.zero_le _) ⟨fun g hg hgG => hI.1 g hg hgG, hI.2, fun h' hh' => absurd hh' (Nat.not_lt_zero _)⟩
    have st := st_X4_setCosts_0 (Qp := Qp) (M := M)
    rw [eG] at st
    refine st ?_
    have := lp G (Nat.le_refl _) (fun p k => eg_gl M p k) none none ⟨fun g h1 h2 => by omega, fun _ _ _ => rfl⟩
    rw [Nat.sub_self, aL_id] at this
    exact this
  · exact h.elim
theorem de_X4_setCosts : ∀ q ∈ k_X4_setCosts.1, decode cX4_setCosts q.1 = .ok q.2 := by decide +kernel
theorem me_X4_setCosts (g : gl_T) : MT g yX4_setCosts cX4_setCosts 6 none ⟨2, 0, 0, 47⟩ 0 0 s_X4_setCosts := by
  intro hl
  exact eg_met_of (k := k_X4_setCosts) (by decide) rfl ⟨Nat.le_refl _, Nat.le_refl _⟩ rfl sz_X4_setCosts de_X4_setCosts (fun meth hn => (fc (eg_FL_of wd_c4 (by decide) lf_RX4_11 (fun h => absurd h (by decide))) (fc (eg_FL_of wd_c4 (by decide) lf_RX4_29 (fun h => absurd h (by decide))) (fc (eg_FL_of wd_c4 (by decide) lf_RX4_53 (fun h => absurd h (by decide))) (fc (eg_FL_of wd_c5 (by decide) lf_RX4_88 (fun h => absurd h (by decide))) (fn)))))) (fun A s H hE => (fc (List.mem_cons_of_mem _ ll_RX4_92) (fc (List.mem_cons_of_mem _ ll_RX4_94) (fc (List.mem_cons_of_mem _ ll_RX4_96) (fc (List.mem_cons_of_mem _ ll_RX4_98) (fc (List.mem_cons_of_mem _ ll_RX4_100) (fn))))))) (fun p e s m args below meth c Q A ad0 N0 S0 hK hEx hA => (fc (mt_V hl S0 hK hEx hA (me_X4_likingOf_v g) lm_RX4_85 li_X4_likingOf lx_X4_likingOf ln_RX4 lc_X4_likingOf ⟨rfl, by decide, by decide, by decide +kernel⟩ ⟨rfl, rfl⟩ ⟨by decide, by decide⟩ (ci := 4) rfl rfl sr_X4_likingOf_v (by decide)) (fn))) (fun p e s m args below meth c Qc XC A ad0 N0 P S0 hK hEx hA hlk hout hPX => (fn)) (fun argv M Qp h => T_X4_setCosts h)

/-- the class: beds ahead of home h -/
def k_sb (M : eg_M) : Nat → Nat
  | 0 => 0
  | h + 1 => k_sb M h + (eg_gi M 47 h).toNatClampNeg
theorem k_sb_le {M : eg_M} {H : Nat} (h : ∀ i, i < H → eg_cn (eg_gi M 47 i) 4) : ∀ n, n ≤ H → k_sb M n ≤ 4 * n
  | 0, _ => Nat.le_refl _
  | n + 1, hn => by
    obtain ⟨b, hb, e⟩ := h n (by omega)
    have := k_sb_le h n (by omega)
    rw [k_sb, e, n_c (by omega)]
    omega
theorem k_ac_ac {M : eg_M} {a : Int32} {t k : Nat} {f : Nat → Int32} {v : Int32} : k_ac (eg_ri (eg_si M 55 2 v) 65 f) a t k = eg_ri (eg_si M 55 2 (nI (t + k))) 65 (fun j => if t < j ∧ j ≤ t + k then a else f j) := by
  unfold k_ac
  rw [si_ri_n (by decide), si_si, ri_ri]
  rfl
def k_X4_setColumns : eg_C := ([(0, .aload_n 0, 1), (1, .getfield 53, 3), (4, .iconst 0, 1), (5, .putfield 102, 3), (8, .iconst 0, 1), (9, .istore_n 1, 1), (10, .iload_n 1, 1), (11, .aload_n 0, 1), (12, .getfield 11, 3), (15, .if_icmp .ge 23, 3), (18, .aload_n 0, 1), (19, .getfield 53, 3), (22, .iload_n 1, 1), (23, .aload_n 0, 1), (24, .getfield 15, 3), (27, .iload_n 1, 1), (28, .iaload, 1), (29, .invokevirtual 105, 3), (32, .iinc 1 1, 3), (35, .goto (-25), 3), (38, .aload_n 0, 1), (39, .getfield 53, 3), (42, .bipush 6, 2), (44, .aload_n 0, 1), (45, .getfield 29, 3), (48, .invokevirtual 105, 3), (51, .return_, 1)], [(11, 4, 0, false), (15, 4, 1, false), (29, 4, 5, false), (53, 4, 12, false), (102, 5, 2, true)], [], [(105, 2 + 1, 0, 0, s_X5_addColumns)], [], 0, 0, 0)
theorem mk_X4_setColumns : ∀ q ∈ k_X4_setColumns.2.2.2.1, eg_mono q.2.2.2.2 := (fc (mo_X5_addColumns) (fn))
set_option maxRecDepth 100000 in
theorem st_X4_setColumns_0 {Qp : eg_P} {M : eg_M} 
  (l0 : eg_T wd k_X4_setColumns Qp 10 0 0 [some (.ref 46), some (.int (nI 0))] [] (eg_si M 55 2 (nI 0))) :
  eg_T wd k_X4_setColumns Qp 0 0 0 [some (.ref 46), none] [] M := by
  refine eg_T_run mk_X4_setColumns (cut := [10]) 30 ?_
  show eg_T wd k_X4_setColumns Qp 10 0 0 [some (.ref 46), some (.int (nI 0))] [] (eg_si M 55 2 (nI 0))
  exact l0

set_option maxRecDepth 100000 in
theorem st_X4_setColumns_10 {Qp : eg_P} {M : eg_M} (x1 : Int32)
  (g0 : ((eg_gi M 46 0) ≤ x1) → (∃ t m, t + m ≤ 32 ∧ eg_gi M 55 2 = nI t ∧ (eg_gi M 46 5) = nI m))
  (g1 : (¬ ((eg_gi M 46 0) ≤ x1)) → (vp_in x1 6))
  (g2 : (¬ ((eg_gi M 46 0) ≤ x1)) → (∃ t m, t + m ≤ 32 ∧ eg_gi M 55 2 = nI t ∧ (eg_gi M 47 x1.toNatClampNeg) = nI m))
  (l0 : ((eg_gi M 46 0) ≤ x1) → Qp (.inl none) (k_ac M (nI 6) (eg_gi M 55 2).toNatClampNeg (eg_gi M 46 5).toNatClampNeg))
  (l1 : (¬ (eg_gi M 46 0) ≤ x1) → eg_T wd k_X4_setColumns Qp 10 0 0 [some (.ref 46), some (.int (x1 + (nI 1)))] [] (k_ac M x1 (eg_gi M 55 2).toNatClampNeg (eg_gi M 47 x1.toNatClampNeg).toNatClampNeg)) :
  eg_T wd k_X4_setColumns Qp 10 0 0 [some (.ref 46), some (.int x1)] [] M := by
  refine eg_T_run mk_X4_setColumns (cut := [10]) 30 ?_
  refine And.intro (fun (c1 : (eg_gi M 46 0) ≤ x1) => ?_) (fun (c1 : ¬ (eg_gi M 46 0) ≤ x1) => ?_)
  · skip
    refine And.intro (show (∃ t m, t + m ≤ 32 ∧ eg_gi M 55 2 = nI t ∧ (eg_gi M 46 5) = nI m) from ?_) ?_
    · exact g0 c1
    show Qp (.inl none) (k_ac M (nI 6) (eg_gi M 55 2).toNatClampNeg (eg_gi M 46 5).toNatClampNeg)
    exact l0 c1
  · skip
    refine And.intro (show vp_in x1 6 from ?_) ?_
    · exact g1 c1
    refine And.intro (show (∃ t m, t + m ≤ 32 ∧ eg_gi M 55 2 = nI t ∧ (eg_gi M 47 x1.toNatClampNeg) = nI m) from ?_) ?_
    · exact g2 c1
    show eg_T wd k_X4_setColumns Qp 10 0 0 [some (.ref 46), some (.int (x1 + (nI 1)))] [] (k_ac M x1 (eg_gi M 55 2).toNatClampNeg (eg_gi M 47 x1.toNatClampNeg).toNatClampNeg)
    exact l1 c1

def s_X4_setColumns : eg_S := fun argv M Qp => match argv with
  | [.ref 46] => (eg_cn (eg_gi M 46 0) 6 ∧ eg_cn (eg_gi M 46 5) 8 ∧ ∀ h, h < (eg_gi M 46 0).toNatClampNeg → eg_cn (eg_gi M 47 h) 4) ∧ ∀ (f : Nat → Int32), ((∀ h j, h < (eg_gi M 46 0).toNatClampNeg → k_sb M h < j → j ≤ k_sb M (h + 1) → f j = nI h) ∧ ∀ j, k_sb M (eg_gi M 46 0).toNatClampNeg < j → j ≤ k_sb M (eg_gi M 46 0).toNatClampNeg + (eg_gi M 46 5).toNatClampNeg → f j = nI 6) → Qp (.inl none) (eg_ri (eg_si M 55 2 (nI (k_sb M (eg_gi M 46 0).toNatClampNeg + (eg_gi M 46 5).toNatClampNeg))) 65 f)
  | _ => False
theorem mo_X4_setColumns : eg_mono s_X4_setColumns := by
  intro argv M Q Q' h
  unfold s_X4_setColumns
  split
  · exact fun z => ⟨z.1, fun f y => h _ _ (z.2 f y)⟩
  · exact id
theorem sz_X4_setColumns : ∀ argv M Qp, s_X4_setColumns argv M Qp → (eg_ls0 argv).length ≤ 2 := by
  intro argv M Qp h
  unfold s_X4_setColumns at h
  split at h
  · exact Nat.le_of_ble_eq_true rfl
  · exact h.elim
theorem sr_X4_setColumns : ∀ argv M Qp, s_X4_setColumns argv M Qp → ∃ p0 As, argv = .ref p0 :: As ∧ eg_isO wd M p0 4 = true := by
  intro argv M Qp h
  unfold s_X4_setColumns at h
  split at h
  · exact ⟨_, _, rfl, rfl⟩
  · exact h.elim
set_option maxRecDepth 100000 in
set_option maxHeartbeats 1000000 in
theorem T_X4_setColumns {argv : List Value} {M : eg_M} {Qp : eg_P} (h : s_X4_setColumns argv M Qp) : eg_T wd k_X4_setColumns Qp 0 0 0 (eg_lsN 2 argv) [] M := by
  unfold s_X4_setColumns at h
  split at h
  · obtain ⟨hp, hq⟩ := h
    obtain ⟨⟨H, hH, eH⟩, ⟨G, hG, eG⟩, hB⟩ := hp
    rw [eH, n_c (by omega)] at hB hq
    rw [eG, n_c (by omega)] at hq
    have lp : ∀ i (f : Nat → Int32), i ≤ H → (∀ h j, h < i → k_sb M h < j → j ≤ k_sb M (h + 1) → f j = nI h) → eg_T wd k_X4_setColumns Qp 10 0 0 [some (.ref 46), some (.int (nI i))] [] (eg_ri (eg_si M 55 2 (nI (k_sb M i))) 65 f) := by
      refine eg_for ?_
      intro i f hi hf kk
      have hle := k_sb_le hB i hi
      have st := st_X4_setColumns_10 (Qp := Qp) (M := eg_ri (eg_si M 55 2 (nI (k_sb M i))) 65 f) (nI i)
      have r46 : eg_gi (eg_ri (eg_si M 55 2 (nI (k_sb M i))) 65 f) 46 0 = nI H := eH
      have r465 : eg_gi (eg_ri (eg_si M 55 2 (nI (k_sb M i))) 65 f) 46 5 = nI G := eG
      have r55 : eg_gi (eg_ri (eg_si M 55 2 (nI (k_sb M i))) 65 f) 55 2 = nI (k_sb M i) := rfl
      have r47 : ∀ j, eg_gi (eg_ri (eg_si M 55 2 (nI (k_sb M i))) 65 f) 47 j = eg_gi M 47 j := fun _ => rfl
      rw [r46, r465, r55, n_c (show i < 2 ^ 31 by omega), r47, n_le (by omega) (by omega), Nat.not_le, n_c (show k_sb M i < 2 ^ 31 by omega), n_c (show G < 2 ^ 31 by omega), n_in (by omega) (by decide), k_ac_ac, k_ac_ac, n_s] at st
      have mono : ∀ a b, a ≤ b → k_sb M a ≤ k_sb M b := fun a b hab => by
        induction hab with
        | refl => exact Nat.le_refl _
        | step _ ih => rw [k_sb]; omega
      refine st (fun z => ⟨_, _, ?_, rfl, rfl⟩) (fun _ => by omega) (fun z => ?_) (fun z => ?_) (fun z => ?_)
      · omega
      · obtain ⟨b, hb, e⟩ := hB i z
        exact ⟨_, b, by omega, rfl, e⟩
      · have : i = H := by omega
        subst this
        refine hq _ ⟨fun h j hh h1 h2 => ?_, fun j h1 h2 => if_pos ⟨h1, h2⟩⟩
        have := mono (h + 1) i (by omega)
        try dsimp only
        rw [if_neg (by omega)]
        exact hf h j hh h1 h2
      · refine kk _ z (fun h j hh h1 h2 => ?_)
        by_cases e : h = i
        · subst e
          exact if_pos ⟨h1, h2⟩
        · have := mono (h + 1) i (by omega)
          show (if _ then _ else f j) = _
          rw [if_neg (by omega)]
          exact hf h j (by omega) h1 h2
    refine st_X4_setColumns_0 ?_
    have := lp 0 (eg_gi M 65) (Nat.zero_le _) (fun h j hh => absurd hh (Nat.not_lt_zero _))
    rw [ri_id' (Y := eg_si M 55 2 (nI (k_sb M 0))) (p := 65) (f := eg_gi M 65) rfl] at this
    exact this
    
  · exact h.elim
theorem de_X4_setColumns : ∀ q ∈ k_X4_setColumns.1, decode cX4_setColumns q.1 = .ok q.2 := by decide +kernel
theorem me_X4_setColumns (g : gl_T) : MT g yX4_setColumns cX4_setColumns 2 none ⟨1, 0, 0, 23⟩ 0 0 s_X4_setColumns := by
  intro hl
  exact eg_met_of (k := k_X4_setColumns) (by decide) rfl ⟨Nat.le_refl _, Nat.le_refl _⟩ rfl sz_X4_setColumns de_X4_setColumns (fun meth hn => (fc (eg_FL_of wd_c4 (by decide) lf_RX4_11 (fun h => absurd h (by decide))) (fc (eg_FL_of wd_c4 (by decide) lf_RX4_15 (fun h => absurd h (by decide))) (fc (eg_FL_of wd_c4 (by decide) lf_RX4_29 (fun h => absurd h (by decide))) (fc (eg_FL_of wd_c4 (by decide) lf_RX4_53 (fun h => absurd h (by decide))) (fc (eg_FL_of wd_c5 (by decide) lf_RX4_102 (fun _ => Or.inl rfl)) (fn))))))) (fun A s H hE => (fn)) (fun p e s m args below meth c Q A ad0 N0 S0 hK hEx hA => (fc (mt_V hl S0 hK hEx hA (me_X5_addColumns g) lm_RX4_105 li_X5_addColumns lx_X5_addColumns ln_RX5 lc_X5_addColumns ⟨rfl, by decide, by decide, by decide +kernel⟩ ⟨rfl, rfl⟩ ⟨by decide, by decide⟩ (ci := 5) rfl rfl sr_X5_addColumns (by decide)) (fn))) (fun p e s m args below meth c Qc XC A ad0 N0 P S0 hK hEx hA hlk hout hPX => (fn)) (fun argv M Qp h => T_X4_setColumns h)

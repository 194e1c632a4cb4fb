/-- the class: firsts and seconds listed, none paired -/
def k_cM (M : eg_M) (a b : Int32) (f g : Nat → Int32) : eg_M := eg_fi (eg_si (eg_ri (eg_si (eg_ri M 119 f) 80 8 (nI (ones a 16).length)) 120 g) 80 9 (nI (ones b 16).length)) 118 16 (-nI 1)
theorem ones_nd (x : Int32) (n : Nat) : (ones x n).Nodup := by
  unfold ones
  exact fl_nd _ _
def k_X2_countStable : eg_C := ([(0, .aload_n 0, 1), (1, .iload_n 1, 1), (2, .aload_n 0, 1), (3, .getfield 32, 3), (6, .invokestatic 51, 3), (9, .putfield 38, 3), (12, .aload_n 0, 1), (13, .iload_n 2, 1), (14, .aload_n 0, 1), (15, .getfield 35, 3), (18, .invokestatic 51, 3), (21, .putfield 42, 3), (24, .aload_n 0, 1), (25, .getfield 29, 3), (28, .iconst (-1), 1), (29, .invokestatic 45, 3), (32, .aload_n 0, 1), (33, .iconst 0, 1), (34, .invokevirtual 59, 3), (37, .ireturn, 1)], [(29, 2, 5, false), (32, 2, 6, false), (35, 2, 7, false), (38, 2, 8, true), (42, 2, 9, true)], [], [(45 + 100000, 2, 0, 0, s_J7_fill_53178), (51 + 100000, 2, 0, 0, s_X2_listTowns), (59, 1 + 1, 0, 0, s_X2_countFrom)], [], 1, 0, 0)
theorem mk_X2_countStable : ∀ q ∈ k_X2_countStable.2.2.2.1, eg_mono q.2.2.2.2 := (fc (mo_J7_fill_53178) (fc (mo_X2_listTowns) (fc (mo_X2_countFrom) (fn))))
set_option maxRecDepth 100000 in
theorem st_X2_countStable_0 {Qp : eg_P} {M : eg_M} (a : Int32) (b : Int32)
  (g0 : (119 = 119 ∨ 119 = 120))
  (l0 : ∀ (f_1 : Nat → Int32), (isL f_1 ((ones a 16).take 6)) → eg_T wd k_X2_countStable Qp 9 0 0 [some (.ref 80), some (.int a), some (.int b)] [.int (nI ((ones a 16).take 6).length), .ref 80] (eg_ri M 119 f_1)) :
  eg_T wd k_X2_countStable Qp 0 0 0 [some (.ref 80), some (.int a), some (.int b)] [] M := by
  refine eg_T_run mk_X2_countStable (cut := [9, 21]) 23 ?_
  refine And.intro (show ((119 = 119 ∨ 119 = 120)) from ?_) ?_
  · exact g0
  intro f_1 ha_1
  show eg_T wd k_X2_countStable Qp 9 0 0 [some (.ref 80), some (.int a), some (.int b)] [.int (nI ((ones a 16).take 6).length), .ref 80] (eg_ri M 119 f_1)
  exact l0 f_1 ha_1

set_option maxRecDepth 100000 in
theorem st_X2_countStable_9 {Qp : eg_P} {M : eg_M} (o1 : Option Value) (b : Int32) (s0 : Int32)
  (g0 : (120 = 119 ∨ 120 = 120))
  (l0 : ∀ (f_1 : Nat → Int32), (isL f_1 ((ones b 16).take 6)) → eg_T wd k_X2_countStable Qp 21 0 0 [some (.ref 80), o1, some (.int b)] [.int (nI ((ones b 16).take 6).length), .ref 80] (eg_ri (eg_si M 80 8 s0) 120 f_1)) :
  eg_T wd k_X2_countStable Qp 9 0 0 [some (.ref 80), o1, some (.int b)] [.int s0, .ref 80] M := by
  refine eg_T_run mk_X2_countStable (cut := [9, 21]) 23 ?_
  refine And.intro (show ((120 = 119 ∨ 120 = 120)) from ?_) ?_
  · exact g0
  intro f_1 ha_1
  show eg_T wd k_X2_countStable Qp 21 0 0 [some (.ref 80), o1, some (.int b)] [.int (nI ((ones b 16).take 6).length), .ref 80] (eg_ri (eg_si M 80 8 s0) 120 f_1)
  exact l0 f_1 ha_1

set_option maxRecDepth 100000 in
theorem st_X2_countStable_21 {Qp : eg_P} {M : eg_M} (o1 : Option Value) (o2 : Option Value) (s0 : Int32)
  (g0 : (0 < 7 ∧ k_mt (eg_fi (eg_si M 80 9 s0) 118 16 (-nI 1)) ∧ k_fs (eg_fi (eg_si M 80 9 s0) 118 16 (-nI 1)) ∧ k_ds (eg_fi (eg_si M 80 9 s0) 118 16 (-nI 1)) (eg_gi (eg_fi (eg_si M 80 9 s0) 118 16 (-nI 1)) 80 8).toNatClampNeg (eg_gi (eg_fi (eg_si M 80 9 s0) 118 16 (-nI 1)) 80 9).toNatClampNeg ∧ k_un (eg_fi (eg_si M 80 9 s0) 118 16 (-nI 1)) (nI 0).toNatClampNeg (eg_gi (eg_fi (eg_si M 80 9 s0) 118 16 (-nI 1)) 80 8).toNatClampNeg ∧ eg_cn (nI 0) (eg_gi (eg_fi (eg_si M 80 9 s0) 118 16 (-nI 1)) 80 8).toNatClampNeg ∧ (eg_gi (eg_fi (eg_si M 80 9 s0) 118 16 (-nI 1)) 80 8).toNatClampNeg < (nI 0).toNatClampNeg + 7))
  (l0 : Qp (.inl (some (.int (nI (k_cf (eg_fi (eg_si M 80 9 s0) 118 16 (-nI 1)) (eg_gi (eg_fi (eg_si M 80 9 s0) 118 16 (-nI 1)) 80 8).toNatClampNeg (eg_gi (eg_fi (eg_si M 80 9 s0) 118 16 (-nI 1)) 80 9).toNatClampNeg 7 (nI 0).toNatClampNeg (eg_gi (eg_fi (eg_si M 80 9 s0) 118 16 (-nI 1)) 118)))))) (eg_fi (eg_si M 80 9 s0) 118 16 (-nI 1))) :
  eg_T wd k_X2_countStable Qp 21 0 0 [some (.ref 80), o1, o2] [.int s0, .ref 80] M := by
  refine eg_T_run mk_X2_countStable (cut := [9, 21]) 23 ?_
  refine And.intro (show 16 < 2 ^ 31 by decide) ?_
  refine And.intro (show (0 < 7 ∧ k_mt (eg_fi (eg_si M 80 9 s0) 118 16 (-nI 1)) ∧ k_fs (eg_fi (eg_si M 80 9 s0) 118 16 (-nI 1)) ∧ k_ds (eg_fi (eg_si M 80 9 s0) 118 16 (-nI 1)) (eg_gi (eg_fi (eg_si M 80 9 s0) 118 16 (-nI 1)) 80 8).toNatClampNeg (eg_gi (eg_fi (eg_si M 80 9 s0) 118 16 (-nI 1)) 80 9).toNatClampNeg ∧ k_un (eg_fi (eg_si M 80 9 s0) 118 16 (-nI 1)) (nI 0).toNatClampNeg (eg_gi (eg_fi (eg_si M 80 9 s0) 118 16 (-nI 1)) 80 8).toNatClampNeg ∧ eg_cn (nI 0) (eg_gi (eg_fi (eg_si M 80 9 s0) 118 16 (-nI 1)) 80 8).toNatClampNeg ∧ (eg_gi (eg_fi (eg_si M 80 9 s0) 118 16 (-nI 1)) 80 8).toNatClampNeg < (nI 0).toNatClampNeg + 7) from ?_) ?_
  · exact g0
  refine And.intro (fun z => absurd z (by decide)) ?_
  show Qp (.inl (some (.int (nI (k_cf (eg_fi (eg_si M 80 9 s0) 118 16 (-nI 1)) (eg_gi (eg_fi (eg_si M 80 9 s0) 118 16 (-nI 1)) 80 8).toNatClampNeg (eg_gi (eg_fi (eg_si M 80 9 s0) 118 16 (-nI 1)) 80 9).toNatClampNeg 7 (nI 0).toNatClampNeg (eg_gi (eg_fi (eg_si M 80 9 s0) 118 16 (-nI 1)) 118)))))) (eg_fi (eg_si M 80 9 s0) 118 16 (-nI 1))
  exact l0

def s_X2_countStable : eg_S := fun argv M Qp => match argv with
  | [.ref 80, .int a, .int b] => ((ones a 16).length ≤ 6 ∧ (ones b 16).length ≤ 6 ∧ ∀ t, t ∈ ones a 16 → ¬ t ∈ ones b 16) ∧ ∀ (f : Nat → Int32) (g : Nat → Int32), (isL f (ones a 16) ∧ isL g (ones b 16)) → Qp (.inl (some (.int (nI (k_cf (k_cM M a b f g) (ones a 16).length (ones b 16).length 7 0 (eg_gi (k_cM M a b f g) 118)))))) (k_cM M a b f g)
  | _ => False
theorem mo_X2_countStable : eg_mono s_X2_countStable := by
  intro argv M Q Q' h
  unfold s_X2_countStable
  split
  · exact fun z => ⟨z.1, fun f g y => h _ _ (z.2 f g y)⟩
  · exact id
theorem sz_X2_countStable : ∀ argv M Qp, s_X2_countStable argv M Qp → (eg_ls0 argv).length ≤ 3 := by
  intro argv M Qp h
  unfold s_X2_countStable at h
  split at h
  · exact Nat.le_of_ble_eq_true rfl
  · exact h.elim
theorem sr_X2_countStable : ∀ argv M Qp, s_X2_countStable argv M Qp → ∃ p0 As, argv = .ref p0 :: As ∧ eg_isO wd M p0 2 = true := by
  intro argv M Qp h
  unfold s_X2_countStable at h
  split at h
  · exact ⟨_, _, rfl, rfl⟩
  · exact h.elim
set_option maxRecDepth 100000 in
set_option maxHeartbeats 1000000 in
theorem T_X2_countStable {argv : List Value} {M : eg_M} {Qp : eg_P} (h : s_X2_countStable argv M Qp) : eg_T wd k_X2_countStable Qp 0 0 0 (eg_lsN 3 argv) [] M := by
  unfold s_X2_countStable at h
  split at h
  · rename_i a b
    obtain ⟨hp, hq⟩ := h
    obtain ⟨ha, hb, hd⟩ := hp
    refine st_X2_countStable_0 a b (Or.inl rfl) (fun f hf => ?_)
    rw [List.take_of_length_le ha] at hf ⊢
    refine st_X2_countStable_9 _ b _ (Or.inr rfl) (fun g hg => ?_)
    rw [List.take_of_length_le hb] at hg ⊢
    have s2 := st_X2_countStable_21 (Qp := Qp) (M := eg_ri (eg_si (eg_ri M 119 f) 80 8 (nI (ones a 16).length)) 120 g) (some (.int a)) (some (.int b)) (nI (ones b 16).length)
    rw [show eg_fi (eg_si (eg_ri (eg_si (eg_ri M 119 f) 80 8 (nI (ones a 16).length)) 120 g) 80 9 (nI (ones b 16).length)) 118 16 (-nI 1) = k_cM M a b f g from rfl] at s2
    have e8 : eg_gi (k_cM M a b f g) 80 8 = nI (ones a 16).length := rfl
    have e9 : eg_gi (k_cM M a b f g) 80 9 = nI (ones b 16).length := rfl
    have e0 : ∀ j, eg_gi (k_cM M a b f g) 119 j = f j := fun _ => rfl
    have e1 : ∀ j, eg_gi (k_cM M a b f g) 120 j = g j := fun _ => rfl
    have em : ∀ j, j < 16 → eg_gi (k_cM M a b f g) 118 j = -nI 1 := fun j hj => by
      show (if j < 16 then -nI 1 else _) = _
      rw [if_pos hj]
    rw [e8, e9, n_c (show (ones a 16).length < 2 ^ 31 by omega), n_c (show (ones b 16).length < 2 ^ 31 by omega), n_c (show 0 < 2 ^ 31 by omega)] at s2
    have va : ∀ i (h : i < (ones a 16).length), (ones a 16)[i] < 16 := fun i h => (ones_lt (List.getElem_mem h)).1
    have vb : ∀ i (h : i < (ones b 16).length), (ones b 16)[i] < 16 := fun i h => (ones_lt (List.getElem_mem h)).1
    refine s2 ⟨by omega, fun t ht => Or.inl (em t ht), ⟨⟨⟨_, ha, e8⟩, fun i hi => ?_⟩, ⟨_, hb, e9⟩, fun i hi => ?_⟩, ⟨fun i j hi hj => ?_, fun i j hij hj => ?_⟩, fun j _ hj => ?_, ⟨0, by omega, rfl⟩, by omega⟩ (hq f g ⟨hf, hg⟩)
    · rw [e8, n_c (by omega)] at hi
      exact ⟨_, va i hi, hf i hi⟩
    · rw [e9, n_c (by omega)] at hi
      exact ⟨_, vb i hi, hg i hi⟩
    · have := va i hi
      have := vb j hj
      rw [e0, e1, hf i hi, hg j hj, n_eq (by omega) (by omega)]
      intro e
      exact hd _ (List.getElem_mem hi) (e ▸ List.getElem_mem hj)
    · have := va i (by omega)
      have := va j hj
      rw [e0, e0, hf i (by omega), hf j hj, n_eq (by omega) (by omega)]
      exact List.pairwise_iff_getElem.mp (ones_nd a 16) i j (by omega) hj hij
    · have := va j hj
      rw [e0, hf j hj, n_c (by omega)]
      exact em _ (va j hj)
    
  · exact h.elim
theorem de_X2_countStable : ∀ q ∈ k_X2_countStable.1, decode cX2_countStable q.1 = .ok q.2 := by decide +kernel
theorem me_X2_countStable (g : gl_T) : MT g yX2_countStable cX2_countStable 3 (some .int) ⟨11, 0, 0, 268⟩ 0 0 s_X2_countStable := by
  intro hl
  exact eg_met_of (k := k_X2_countStable) (by decide) rfl ⟨Nat.le_refl _, Nat.le_refl _⟩ rfl sz_X2_countStable de_X2_countStable (fun meth hn => (fc (eg_FL_of wd_c2 (by decide) lf_RX2_29 (fun h => absurd h (by decide))) (fc (eg_FL_of wd_c2 (by decide) lf_RX2_32 (fun h => absurd h (by decide))) (fc (eg_FL_of wd_c2 (by decide) lf_RX2_35 (fun h => absurd h (by decide))) (fc (eg_FL_of wd_c2 (by decide) lf_RX2_38 (fun _ => Or.inl rfl)) (fc (eg_FL_of wd_c2 (by decide) lf_RX2_42 (fun _ => Or.inl rfl)) (fn))))))) (fun A s H hE => (fn)) (fun p e s m args below meth c Q A ad0 N0 S0 hK hEx hA => (fc (mt_S hl S0 hK hEx hA (me_J7_fill_53178 g) lm_RX2_45 ls_J7_fill_53178 ln_RJ7 lc_J7_fill_53178 ⟨rfl, by decide, by decide, by decide +kernel⟩ ⟨rfl, rfl⟩ ⟨by decide, by decide⟩ (by decide)) (fc (mt_S hl S0 hK hEx hA (me_X2_listTowns g) lm_RX2_51 ls_X2_listTowns ln_RX2 lc_X2_listTowns ⟨rfl, by decide, by decide, by decide +kernel⟩ ⟨rfl, rfl⟩ ⟨by decide, by decide⟩ (by decide)) (fc (mt_V hl S0 hK hEx hA (me_X2_countFrom g) lm_RX2_59 li_X2_countFrom lx_X2_countFrom ln_RX2 lc_X2_countFrom ⟨rfl, by decide, by decide, by decide +kernel⟩ ⟨rfl, rfl⟩ ⟨by decide, by decide⟩ (ci := 2) rfl rfl sr_X2_countFrom (by decide)) (fn))))) (fun p e s m args below meth c Qc XC A ad0 N0 P S0 hK hEx hA hlk hout hPX => (fn)) (fun argv M Qp h => T_X2_countStable h)

/-- the class: what is kept when t asks o of the set s -/
def k_ak (M : eg_M) (t o : Nat) (s : Int32) (K : Nat → Int32) : Nat → Int32 :=
  if s &&& (nI 1 <<< (nI o &&& 31)) = 0 ∨ eg_gi M (99 + 1 + o) t = -nI 1 ∨ (¬ K o = -nI 1 ∧ ¬ eg_gi M (99 + 1 + o) t ≤ eg_gi M (99 + 1 + o) (K o).toNatClampNeg) then K
  else if K o = -nI 1 then (fun j => if j = t then nI o else if j = o then nI t else K j)
  else fun j => if j = t then nI o else if j = o then nI t else if j = (K o).toNatClampNeg then -nI 1 else K j
/-- the kept are towns or none -/
def k_kt (K : Nat → Int32) : Prop := ∀ a, a < 16 → k_tw (K a)
theorem k_ak_kt {M : eg_M} {t o : Nat} {s : Int32} {K : Nat → Int32} (ht : t < 16) (ho : o < 16) (h : k_kt K) : k_kt (k_ak M t o s K) := by
  intro a ha
  unfold k_ak
  split
  · exact h a ha
  · split
    · dsimp only
      split
      · exact Or.inr ⟨o, ho, rfl⟩
      · split
        · exact Or.inr ⟨t, ht, rfl⟩
        · exact h a ha
    · dsimp only
      split
      · exact Or.inr ⟨o, ho, rfl⟩
      · split
        · exact Or.inr ⟨t, ht, rfl⟩
        · split
          · exact Or.inl rfl
          · exact h a ha
def k_X2_ask_v : eg_C := ([(0, .iload_n 3, 1), (1, .iconst 1, 1), (2, .iload_n 2, 1), (3, .ishl, 1), (4, .iand, 1), (5, .ifCond .eq 15, 3), (8, .aload_n 0, 1), (9, .getfield 20, 3), (12, .iload_n 2, 1), (13, .aaload, 1), (14, .iload_n 1, 1), (15, .iaload, 1), (16, .iconst (-1), 1), (17, .if_icmp .ne 4, 3), (20, .return_, 1), (21, .aload_n 0, 1), (22, .getfield 23, 3), (25, .iload_n 2, 1), (26, .iaload, 1), (27, .istore 4, 2), (29, .iload 4, 2), (31, .iconst (-1), 1), (32, .if_icmp .eq 32, 3), (35, .aload_n 0, 1), (36, .getfield 20, 3), (39, .iload_n 2, 1), (40, .aaload, 1), (41, .iload 4, 2), (43, .iaload, 1), (44, .aload_n 0, 1), (45, .getfield 20, 3), (48, .iload_n 2, 1), (49, .aaload, 1), (50, .iload_n 1, 1), (51, .iaload, 1), (52, .if_icmp .ge 4, 3), (55, .return_, 1), (56, .aload_n 0, 1), (57, .getfield 23, 3), (60, .iload 4, 2), (62, .iconst (-1), 1), (63, .iastore, 1), (64, .aload_n 0, 1), (65, .getfield 23, 3), (68, .iload_n 2, 1), (69, .iload_n 1, 1), (70, .iastore, 1), (71, .aload_n 0, 1), (72, .getfield 23, 3), (75, .iload_n 1, 1), (76, .iload_n 2, 1), (77, .iastore, 1), (78, .return_, 1)], [(20, 2, 2, false), (23, 2, 3, false)], [], [], [], 0, 0, 0)
theorem mk_X2_ask_v : ∀ q ∈ k_X2_ask_v.2.2.2.1, eg_mono q.2.2.2.2 := (fn)
set_option maxRecDepth 100000 in
theorem st_X2_ask_v_0 {Qp : eg_P} {M : eg_M} (t : Int32) (o : Int32) (s : Int32)
  (g0 : (¬ ((s &&& ((nI 1) <<< (o &&& 31))) = 0)) → (vp_in o 16))
  (g1 : (¬ ((s &&& ((nI 1) <<< (o &&& 31))) = 0)) → (eg_is wd M (99 + 1 + o.toNatClampNeg) 1 = true))
  (g2 : (¬ ((s &&& ((nI 1) <<< (o &&& 31))) = 0)) → (vp_in t (eg_len wd M (99 + 1 + o.toNatClampNeg))))
  (g3 : (¬ ((s &&& ((nI 1) <<< (o &&& 31))) = 0)) → (¬ ((eg_gi M (99 + 1 + o.toNatClampNeg) t.toNatClampNeg) = (-nI 1))) → (((eg_gi M 116 o.toNatClampNeg) = (-nI 1)) ∨ (¬ ((eg_gi M 116 o.toNatClampNeg) = (-nI 1)) ∧ ((eg_gi M (99 + 1 + o.toNatClampNeg) t.toNatClampNeg) ≤ (eg_gi M (99 + 1 + o.toNatClampNeg) (eg_gi M 116 o.toNatClampNeg).toNatClampNeg)))) → (vp_in t 16))
  (g4 : (¬ ((s &&& ((nI 1) <<< (o &&& 31))) = 0)) → (¬ ((eg_gi M (99 + 1 + o.toNatClampNeg) t.toNatClampNeg) = (-nI 1))) → (¬ ((eg_gi M 116 o.toNatClampNeg) = (-nI 1))) → (vp_in (eg_gi M 116 o.toNatClampNeg) (eg_len wd M (99 + 1 + o.toNatClampNeg))))
  (g5 : (¬ ((s &&& ((nI 1) <<< (o &&& 31))) = 0)) → (¬ ((eg_gi M (99 + 1 + o.toNatClampNeg) t.toNatClampNeg) = (-nI 1))) → (¬ ((eg_gi M 116 o.toNatClampNeg) = (-nI 1))) → ((eg_gi M (99 + 1 + o.toNatClampNeg) t.toNatClampNeg) ≤ (eg_gi M (99 + 1 + o.toNatClampNeg) (eg_gi M 116 o.toNatClampNeg).toNatClampNeg)) → (vp_in (eg_gi M 116 o.toNatClampNeg) 16))
  (l0 : ((s &&& ((nI 1) <<< (o &&& 31))) = 0 ∨ ((eg_gi M (99 + 1 + o.toNatClampNeg) t.toNatClampNeg) = (-nI 1) ∨ (¬ (eg_gi M 116 o.toNatClampNeg) = (-nI 1) ∧ ¬ (eg_gi M (99 + 1 + o.toNatClampNeg) t.toNatClampNeg) ≤ (eg_gi M (99 + 1 + o.toNatClampNeg) (eg_gi M 116 o.toNatClampNeg).toNatClampNeg)))) → Qp (.inl none) M)
  (l1 : (¬ (s &&& ((nI 1) <<< (o &&& 31))) = 0 ∧ (¬ (eg_gi M (99 + 1 + o.toNatClampNeg) t.toNatClampNeg) = (-nI 1) ∧ (eg_gi M 116 o.toNatClampNeg) = (-nI 1))) → Qp (.inl none) (eg_si (eg_si M 116 o.toNatClampNeg t) 116 t.toNatClampNeg o))
  (l2 : (¬ (s &&& ((nI 1) <<< (o &&& 31))) = 0 ∧ (¬ (eg_gi M (99 + 1 + o.toNatClampNeg) t.toNatClampNeg) = (-nI 1) ∧ (¬ (eg_gi M 116 o.toNatClampNeg) = (-nI 1) ∧ (eg_gi M (99 + 1 + o.toNatClampNeg) t.toNatClampNeg) ≤ (eg_gi M (99 + 1 + o.toNatClampNeg) (eg_gi M 116 o.toNatClampNeg).toNatClampNeg)))) → Qp (.inl none) (eg_si (eg_si (eg_si M 116 (eg_gi M 116 o.toNatClampNeg).toNatClampNeg (-nI 1)) 116 o.toNatClampNeg t) 116 t.toNatClampNeg o)) :
  eg_T wd k_X2_ask_v Qp 0 0 0 [some (.ref 80), some (.int t), some (.int o), some (.int s), none] [] M := by
  refine eg_T_run mk_X2_ask_v (cut := []) 56 ?_
  refine And.intro (fun (c1 : (s &&& ((nI 1) <<< (o &&& 31))) = 0) => ?_) (fun (c1 : ¬ (s &&& ((nI 1) <<< (o &&& 31))) = 0) => ?_)
  · skip
    show Qp (.inl none) M
    exact l0 (Or.inl c1)
  · skip
    refine And.intro (show vp_in o 16 from ?_) ?_
    · exact g0 c1
    refine eg_need_of (show eg_is wd M (99 + 1 + o.toNatClampNeg) 1 = true from ?_) ?_
    · exact g1 c1
    refine And.intro (show vp_in t (eg_len wd M (99 + 1 + o.toNatClampNeg)) from ?_) ?_
    · exact g2 c1
    refine And.intro (fun (c2 : (eg_gi M (99 + 1 + o.toNatClampNeg) t.toNatClampNeg) = (-nI 1)) => ?_) (fun (c2 : ¬ (eg_gi M (99 + 1 + o.toNatClampNeg) t.toNatClampNeg) = (-nI 1)) => ?_)
    · skip
      show Qp (.inl none) M
      exact l0 (Or.inr (Or.inl c2))
    · skip
      refine And.intro (show vp_in o 16 from ?_) ?_
      · exact g0 c1
      refine And.intro (fun (c3 : (eg_gi M 116 o.toNatClampNeg) = (-nI 1)) => ?_) (fun (c3 : ¬ (eg_gi M 116 o.toNatClampNeg) = (-nI 1)) => ?_)
      · skip
        refine And.intro (show vp_in o 16 from ?_) ?_
        · exact g0 c1
        refine And.intro (show vp_in t 16 from ?_) ?_
        · exact g3 c1 c2 (by clear g0 g1 g2 g3 g4 g5 l0 l1 l2; grind)
        show Qp (.inl none) (eg_si (eg_si M 116 o.toNatClampNeg t) 116 t.toNatClampNeg o)
        exact l1 ⟨c1, ⟨c2, c3⟩⟩
      · skip
        refine And.intro (show vp_in o 16 from ?_) ?_
        · exact g0 c1
        refine eg_need_of (show eg_is wd M (99 + 1 + o.toNatClampNeg) 1 = true from ?_) ?_
        · exact g1 c1
        refine And.intro (show vp_in (eg_gi M 116 o.toNatClampNeg) (eg_len wd M (99 + 1 + o.toNatClampNeg)) from ?_) ?_
        · exact g4 c1 c2 c3
        refine And.intro (show vp_in o 16 from ?_) ?_
        · exact g0 c1
        refine eg_need_of (show eg_is wd M (99 + 1 + o.toNatClampNeg) 1 = true from ?_) ?_
        · exact g1 c1
        refine And.intro (show vp_in t (eg_len wd M (99 + 1 + o.toNatClampNeg)) from ?_) ?_
        · exact g2 c1
        refine And.intro (fun (c4 : (eg_gi M (99 + 1 + o.toNatClampNeg) t.toNatClampNeg) ≤ (eg_gi M (99 + 1 + o.toNatClampNeg) (eg_gi M 116 o.toNatClampNeg).toNatClampNeg)) => ?_) (fun (c4 : ¬ (eg_gi M (99 + 1 + o.toNatClampNeg) t.toNatClampNeg) ≤ (eg_gi M (99 + 1 + o.toNatClampNeg) (eg_gi M 116 o.toNatClampNeg).toNatClampNeg)) => ?_)
        · skip
          refine And.intro (show vp_in (eg_gi M 116 o.toNatClampNeg) 16 from ?_) ?_
          · exact g5 c1 c2 c3 c4
          refine And.intro (show vp_in o 16 from ?_) ?_
          · exact g0 c1
          refine And.intro (show vp_in t 16 from ?_) ?_
          · exact g3 c1 c2 (by clear g0 g1 g2 g3 g4 g5 l0 l1 l2; grind)
          show Qp (.inl none) (eg_si (eg_si (eg_si M 116 (eg_gi M 116 o.toNatClampNeg).toNatClampNeg (-nI 1)) 116 o.toNatClampNeg t) 116 t.toNatClampNeg o)
          exact l2 ⟨c1, ⟨c2, ⟨c3, c4⟩⟩⟩
        · skip
          show Qp (.inl none) M
          exact l0 (Or.inr (Or.inr ⟨c3, c4⟩))

def s_X2_ask_v : eg_S := fun argv M Qp => match argv with
  | [.ref 80, .int t, .int o, .int s] => (k_t1 t ∧ k_t1 o ∧ k_kt (eg_gi M 116)) ∧ Qp (.inl none) (eg_ri M 116 (k_ak M t.toNatClampNeg o.toNatClampNeg s (eg_gi M 116)))
  | _ => False
theorem mo_X2_ask_v : eg_mono s_X2_ask_v := by
  intro argv M Q Q' h
  unfold s_X2_ask_v
  split
  · exact fun z => ⟨z.1, h _ _ z.2⟩
  · exact id
theorem sz_X2_ask_v : ∀ argv M Qp, s_X2_ask_v argv M Qp → (eg_ls0 argv).length ≤ 5 := by
  intro argv M Qp h
  unfold s_X2_ask_v at h
  split at h
  · exact Nat.le_of_ble_eq_true rfl
  · exact h.elim
theorem sr_X2_ask_v : ∀ argv M Qp, s_X2_ask_v argv M Qp → ∃ p0 As, argv = .ref p0 :: As ∧ eg_isO wd M p0 2 = true := by
  intro argv M Qp h
  unfold s_X2_ask_v at h
  split at h
  · exact ⟨_, _, rfl, rfl⟩
  · exact h.elim
set_option maxRecDepth 100000 in
set_option maxHeartbeats 1000000 in
theorem T_X2_ask_v {argv : List Value} {M : eg_M} {Qp : eg_P} (h : s_X2_ask_v argv M Qp) : eg_T wd k_X2_ask_v Qp 0 0 0 (eg_lsN 5 argv) [] M := by
  unfold s_X2_ask_v at h
  split at h
  · rename_i t o s
    obtain ⟨hp, hq⟩ := h
    obtain ⟨⟨a, ha, rfl⟩, ⟨b, hb, rfl⟩, hK⟩ := hp
    have st := st_X2_ask_v_0 (Qp := Qp) (M := M) (nI a) (nI b) s
    rw [n_c (show a < 2 ^ 31 by omega), n_c (show b < 2 ^ 31 by omega), (rk_is _ hb).2.1, n_in (by omega) (by decide), n_in (by omega) (by decide)] at st
    rw [n_c (show a < 2 ^ 31 by omega), n_c (show b < 2 ^ 31 by omega)] at hq
    have hkb : ¬ eg_gi M 116 b = -nI 1 → vp_in (eg_gi M 116 b) 16 := fun z => by
      obtain ⟨c, hc, ec⟩ := (hK b hb).resolve_left z
      rw [ec]
      exact (n_in (by omega) (by decide)).mpr hc
    refine st (fun _ => hb) (fun _ => (rk_is _ hb).1) (fun _ => ha) (fun _ _ _ => ha) (fun _ _ z => hkb z) (fun _ _ z _ => hkb z) (fun z => ?_) (fun z => ?_) (fun z => ?_)
    · unfold k_ak at hq
      rw [if_pos z, ri_id] at hq
      exact hq
    · unfold k_ak at hq
      rw [if_neg, if_pos z.2.2] at hq
      · have : eg_si (eg_si M 116 b (nI a)) 116 a (nI b) = eg_ri M 116 (fun j => if j = a then nI b else if j = b then nI a else eg_gi M 116 j) := by
          conv => lhs; rw [← ri_id M 116]
          rw [si_ri, si_ri]
        rw [this]
        exact hq
      · rintro (w | w | w)
        · exact z.1 w
        · exact z.2.1 w
        · exact w.1 z.2.2
    · unfold k_ak at hq
      rw [if_neg, if_neg z.2.2.1] at hq
      · have : eg_si (eg_si (eg_si M 116 (eg_gi M 116 b).toNatClampNeg (-nI 1)) 116 b (nI a)) 116 a (nI b) = eg_ri M 116 (fun j => if j = a then nI b else if j = b then nI a else if j = (eg_gi M 116 b).toNatClampNeg then -nI 1 else eg_gi M 116 j) := by
          generalize (eg_gi M 116 b).toNatClampNeg = c
          conv => lhs; rw [← ri_id M 116]
          rw [si_ri, si_ri, si_ri]
        rw [this]
        exact hq
      · rintro (w | w | w)
        · exact z.1 w
        · exact z.2.1 w
        · exact w.2 z.2.2.2
    
  · exact h.elim
theorem de_X2_ask_v : ∀ q ∈ k_X2_ask_v.1, decode cX2_ask q.1 = .ok q.2 := by decide +kernel
theorem me_X2_ask_v (g : gl_T) : MT g yX2_ask cX2_ask 5 none ⟨0, 0, 0, 0⟩ 0 0 s_X2_ask_v := by
  intro hl
  exact eg_met_of (k := k_X2_ask_v) (by decide) rfl ⟨Nat.le_refl _, Nat.le_refl _⟩ rfl sz_X2_ask_v de_X2_ask_v (fun meth hn => (fc (eg_FL_of wd_c2 (by decide) lf_RX2_20 (fun h => absurd h (by decide))) (fc (eg_FL_of wd_c2 (by decide) lf_RX2_23 (fun h => absurd h (by decide))) (fn)))) (fun A s H hE => (fn)) (fun p e s m args below meth c Q A ad0 N0 S0 hK hEx hA => (fn)) (fun p e s m args below meth c Qc XC A ad0 N0 P S0 hK hEx hA hlk hout hPX => (fn)) (fun argv M Qp h => T_X2_ask_v h)

/-- back along a chain to day d -/
def k_by (M : eg_M) (d : Int32) (R : List Nat) : List Nat := R.dropWhile (fun e => decide (¬ eg_gi M 19 e ≤ d))
theorem k_lb_chn {M : eg_M} {d : Int32} : ∀ (R : List Nat) (n : Nat) (x : Int32), R.length ≤ n → k_chn (eg_gi M 36) (eg_gi M 37) x R → k_chn (eg_gi M 36) (eg_gi M 37) (k_lb M d n x) (k_by M d R)
  | [], 0, x, _, h => h
  | [], n + 1, x, _, h => by
    rw [k_lb, if_pos (Or.inl (show x = -nI 1 from h))]
    exact h
  | e :: R, 0, x, hl, _ => absurd hl (by simp)
  | e :: R, n + 1, x, hl, h => by
    obtain ⟨rfl, h2, h3, h4⟩ := id h
    rw [k_lb, n_c (by omega)]
    unfold k_by
    by_cases z : eg_gi M 19 e ≤ d
    · rw [if_pos (Or.inr z), List.dropWhile_cons_of_neg (by simp [z])]
      exact h
    · rw [if_neg, List.dropWhile_cons_of_pos (by simp [z])]
      · exact k_lb_chn R n _ (by rw [List.length_cons] at hl; omega) h3
      · rintro (y | y)
        · exact nI_m1 (by omega) y
        · exact z y
theorem chn_inj {fp fa : Nat → Int32} : ∀ {R S : List Nat} {x : Int32}, k_chn fp fa x R → k_chn fp fa x S → R = S
  | [], [], _, _, _ => rfl
  | [], e :: S, x, h, k => absurd (h ▸ k.1 : -nI 1 = nI e) (fun z => nI_m1 (by have := k.2.1; omega) z.symm)
  | e :: R, [], x, h, k => absurd (k ▸ h.1 : -nI 1 = nI e) (fun z => nI_m1 (by have := h.2.1; omega) z.symm)
  | e :: R, f :: S, x, h, k => by
    have he := h.2.1
    have hf := k.2.1
    have : e = f := (n_eq (by omega) (by omega)).mp (h.1.symm.trans k.1)
    subst this
    rw [chn_inj h.2.2.1 k.2.2.1]
/-- what the class knows of charter c's chain -/
def k_cp (M : eg_M) (l : Nat) (c : Int32) (R : List Nat) : Prop := R.length ≤ 200 ∧ k_chn (eg_gi M 36) (eg_gi M 37) (eg_gi M l c.toNatClampNeg) R
theorem chn_ev {fp fa : Nat → Int32} {x : Int32} {R : List Nat} (h : k_chn fp fa x R) : k_ev x := (chn_hd h).imp And.left And.left
def k_X3_visitsBy : eg_C := ([(0, .aload_n 0, 1), (1, .aload_n 0, 1), (2, .iload_n 2, 1), (3, .aload_n 0, 1), (4, .getfield 64, 3), (7, .iload_n 1, 1), (8, .invokevirtual 149, 3), (11, .invokevirtual 153, 3), (14, .ireturn, 1)], [(64, 3, 10, false)], [], [(149, 3 + 1, 0, 0, s_X3_lastBy), (153, 1 + 1, 0, 0, s_X3_upTo)], [], 1, 0, 0)
theorem mk_X3_visitsBy : ∀ q ∈ k_X3_visitsBy.2.2.2.1, eg_mono q.2.2.2.2 := (fc (mo_X3_lastBy) (fc (mo_X3_upTo) (fn)))
set_option maxRecDepth 100000 in
theorem st_X3_visitsBy_0 {Qp : eg_P} {M : eg_M} (c : Int32) (d : Int32)
  (g0 : ((38 = 38 ∨ 38 = 39) ∧ vp_in c 24 ∧ k_ev (eg_gi M 38 c.toNatClampNeg) ∧ ∀ j, j < 200 → k_ev (eg_gi M 36 j)))
  (g1 : ((¬ (k_lb M d 200 (eg_gi M 38 c.toNatClampNeg)) = (-nI 1)) → vp_in (k_lb M d 200 (eg_gi M 38 c.toNatClampNeg)) 200))
  (l0 : Qp (.inl (some (.int (if (k_lb M d 200 (eg_gi M 38 c.toNatClampNeg)) = (-nI 1) then (nI 0) else ((eg_gi M 37 (k_lb M d 200 (eg_gi M 38 c.toNatClampNeg)).toNatClampNeg) + (nI 1)))))) M) :
  eg_T wd k_X3_visitsBy Qp 0 0 0 [some (.ref 1), some (.int c), some (.int d)] [] M := by
  refine eg_T_run mk_X3_visitsBy (cut := []) 12 ?_
  refine And.intro (show ((38 = 38 ∨ 38 = 39) ∧ vp_in c 24 ∧ k_ev (eg_gi M 38 c.toNatClampNeg) ∧ ∀ j, j < 200 → k_ev (eg_gi M 36 j)) from ?_) ?_
  · exact g0
  refine And.intro (show (((¬ (k_lb M d 200 (eg_gi M 38 c.toNatClampNeg)) = (-nI 1)) → vp_in (k_lb M d 200 (eg_gi M 38 c.toNatClampNeg)) 200)) from ?_) ?_
  · exact g1
  refine And.intro (fun z => absurd z (by decide)) ?_
  show Qp (.inl (some (.int (if (k_lb M d 200 (eg_gi M 38 c.toNatClampNeg)) = (-nI 1) then (nI 0) else ((eg_gi M 37 (k_lb M d 200 (eg_gi M 38 c.toNatClampNeg)).toNatClampNeg) + (nI 1)))))) M
  exact l0

def s_X3_visitsBy : eg_S := fun argv M Qp => match argv with
  | [.ref 1, .int c, .int d] => (vp_in c 24 ∧ (∀ j, j < 200 → k_ev (eg_gi M 36 j)) ∧ ∃ R, k_cp M 38 c R) ∧ ∀ (r : Int32), (∀ R, k_cp M 38 c R → r = nI (k_by M d R).length) → Qp (.inl (some (.int (r)))) M
  | _ => False
theorem mo_X3_visitsBy : eg_mono s_X3_visitsBy := by
  intro argv M Q Q' h
  unfold s_X3_visitsBy
  split
  · exact fun z => ⟨z.1, fun r y => h _ _ (z.2 r y)⟩
  · exact id
theorem sz_X3_visitsBy : ∀ argv M Qp, s_X3_visitsBy argv M Qp → (eg_ls0 argv).length ≤ 3 := by
  intro argv M Qp h
  unfold s_X3_visitsBy at h
  split at h
  · exact Nat.le_of_ble_eq_true rfl
  · exact h.elim
theorem sr_X3_visitsBy : ∀ argv M Qp, s_X3_visitsBy argv M Qp → ∃ p0 As, argv = .ref p0 :: As ∧ eg_isO wd M p0 3 = true := by
  intro argv M Qp h
  unfold s_X3_visitsBy at h
  split at h
  · exact ⟨_, _, rfl, rfl⟩
  · exact h.elim
set_option maxRecDepth 100000 in
set_option maxHeartbeats 1000000 in
theorem T_X3_visitsBy {argv : List Value} {M : eg_M} {Qp : eg_P} (h : s_X3_visitsBy argv M Qp) : eg_T wd k_X3_visitsBy Qp 0 0 0 (eg_lsN 3 argv) [] M := by
  unfold s_X3_visitsBy at h
  split at h
  · rename_i c d
    obtain ⟨hp, hq⟩ := h
    obtain ⟨hc, h36, R, hR⟩ := hp
    have hx := k_lb_chn (d := d) R 200 _ hR.1 hR.2
    refine st_X3_visitsBy_0 c d ⟨Or.inl rfl, hc, chn_ev hR.2, h36⟩ (fun z => (chn_ev hx).resolve_left z) (hq _ (fun S hS => ?_))
    rw [chn_inj hS.2 hR.2]
    rcases chn_hd hx with y | y
    · rw [if_pos y.1, y.2]
      rfl
    · by_cases z : k_lb M d 200 (eg_gi M 38 c.toNatClampNeg) = -nI 1
      · rw [z] at y
        exact absurd (vp_in_of y.1 (by decide)) (fun ⟨j, hj, ej⟩ => nI_m1 (by omega) ej.symm)
      · rw [if_neg z]
        exact y.2
  · exact h.elim
theorem de_X3_visitsBy : ∀ q ∈ k_X3_visitsBy.1, decode cX3_visitsBy q.1 = .ok q.2 := by decide +kernel
theorem me_X3_visitsBy (g : gl_T) : MT g yX3_visitsBy cX3_visitsBy 3 (some .int) ⟨1, 0, 0, 25⟩ 0 0 s_X3_visitsBy := by
  intro hl
  exact eg_met_of (k := k_X3_visitsBy) (by decide) rfl ⟨Nat.le_refl _, Nat.le_refl _⟩ rfl sz_X3_visitsBy de_X3_visitsBy (fun meth hn => (fc (eg_FL_of wd_c3 (by decide) lf_RX3_64 (fun h => absurd h (by decide))) (fn))) (fun A s H hE => (fn)) (fun p e s m args below meth c Q A ad0 N0 S0 hK hEx hA => (fc (mt_V hl S0 hK hEx hA (me_X3_lastBy g) lm_RX3_149 li_X3_lastBy lx_X3_lastBy ln_RX3 lc_X3_lastBy ⟨rfl, by decide, by decide, by decide +kernel⟩ ⟨rfl, rfl⟩ ⟨by decide, by decide⟩ (ci := 3) rfl rfl sr_X3_lastBy (by decide)) (fc (mt_V hl S0 hK hEx hA (me_X3_upTo g) lm_RX3_153 li_X3_upTo lx_X3_upTo ln_RX3 lc_X3_upTo ⟨rfl, by decide, by decide, by decide +kernel⟩ ⟨rfl, rfl⟩ ⟨by decide, by decide⟩ (ci := 3) rfl rfl sr_X3_upTo (by decide)) (fn)))) (fun p e s m args below meth c Qc XC A ad0 N0 P S0 hK hEx hA hlk hout hPX => (fn)) (fun argv M Qp h => T_X3_visitsBy h)

/-- whose turn after a chain -/
def k_tn (M : eg_M) : List Nat → Int32
  | [] => nI 0
  | e :: _ => nI 1 - eg_gi M 16 e
/-- the side that gave three times -/
def k_gs (M : eg_M) : List Nat → Int32
  | e :: f :: g :: _ => if eg_gi M 16 f = eg_gi M 16 e ∧ eg_gi M 16 g = eg_gi M 16 e then eg_gi M 16 e else -nI 1
  | _ => -nI 1
theorem k_tn_x {M : eg_M} {x : Int32} {R : List Nat} (h : k_chn (eg_gi M 36) (eg_gi M 37) x R) : (if x = -nI 1 then nI 0 else nI 1 - eg_gi M 16 x.toNatClampNeg) = k_tn M R := by
  cases R with
  | nil =>
    rw [if_pos (show x = -nI 1 from h)]
    rfl
  | cons e R =>
    obtain ⟨rfl, h2, _, _⟩ := h
    rw [if_neg (nI_m1 (by omega)), n_c (by omega)]
    rfl
def k_X3_turnOn : eg_C := ([(0, .aload_n 0, 1), (1, .aload_n 0, 1), (2, .iload_n 2, 1), (3, .aload_n 0, 1), (4, .getfield 64, 3), (7, .iload_n 1, 1), (8, .invokevirtual 149, 3), (11, .invokevirtual 157, 3), (14, .ireturn, 1)], [(64, 3, 10, false)], [], [(149, 3 + 1, 0, 0, s_X3_lastBy), (157, 1 + 1, 0, 0, s_X3_turnAfter)], [], 1, 0, 0)
theorem mk_X3_turnOn : ∀ q ∈ k_X3_turnOn.2.2.2.1, eg_mono q.2.2.2.2 := (fc (mo_X3_lastBy) (fc (mo_X3_turnAfter) (fn)))
set_option maxRecDepth 100000 in
theorem st_X3_turnOn_0 {Qp : eg_P} {M : eg_M} (c : Int32) (d : Int32)
  (g0 : ((38 = 38 ∨ 38 = 39) ∧ vp_in c 24 ∧ k_ev (eg_gi M 38 c.toNatClampNeg) ∧ ∀ j, j < 200 → k_ev (eg_gi M 36 j)))
  (g1 : ((¬ (k_lb M d 200 (eg_gi M 38 c.toNatClampNeg)) = (-nI 1)) → vp_in (k_lb M d 200 (eg_gi M 38 c.toNatClampNeg)) 200))
  (l0 : Qp (.inl (some (.int (if (k_lb M d 200 (eg_gi M 38 c.toNatClampNeg)) = (-nI 1) then (nI 0) else ((nI 1) - (eg_gi M 16 (k_lb M d 200 (eg_gi M 38 c.toNatClampNeg)).toNatClampNeg)))))) M) :
  eg_T wd k_X3_turnOn Qp 0 0 0 [some (.ref 1), some (.int c), some (.int d)] [] M := by
  refine eg_T_run mk_X3_turnOn (cut := []) 12 ?_
  refine And.intro (show ((38 = 38 ∨ 38 = 39) ∧ vp_in c 24 ∧ k_ev (eg_gi M 38 c.toNatClampNeg) ∧ ∀ j, j < 200 → k_ev (eg_gi M 36 j)) from ?_) ?_
  · exact g0
  refine And.intro (show (((¬ (k_lb M d 200 (eg_gi M 38 c.toNatClampNeg)) = (-nI 1)) → vp_in (k_lb M d 200 (eg_gi M 38 c.toNatClampNeg)) 200)) from ?_) ?_
  · exact g1
  refine And.intro (fun z => absurd z (by decide)) ?_
  show Qp (.inl (some (.int (if (k_lb M d 200 (eg_gi M 38 c.toNatClampNeg)) = (-nI 1) then (nI 0) else ((nI 1) - (eg_gi M 16 (k_lb M d 200 (eg_gi M 38 c.toNatClampNeg)).toNatClampNeg)))))) M
  exact l0

def s_X3_turnOn : eg_S := fun argv M Qp => match argv with
  | [.ref 1, .int c, .int d] => (vp_in c 24 ∧ (∀ j, j < 200 → k_ev (eg_gi M 36 j)) ∧ ∃ R, k_cp M 38 c R) ∧ ∀ (r : Int32), (∀ R, k_cp M 38 c R → r = k_tn M (k_by M d R)) → Qp (.inl (some (.int (r)))) M
  | _ => False
theorem mo_X3_turnOn : eg_mono s_X3_turnOn := by
  intro argv M Q Q' h
  unfold s_X3_turnOn
  split
  · exact fun z => ⟨z.1, fun r y => h _ _ (z.2 r y)⟩
  · exact id
theorem sz_X3_turnOn : ∀ argv M Qp, s_X3_turnOn argv M Qp → (eg_ls0 argv).length ≤ 3 := by
  intro argv M Qp h
  unfold s_X3_turnOn at h
  split at h
  · exact Nat.le_of_ble_eq_true rfl
  · exact h.elim
theorem sr_X3_turnOn : ∀ argv M Qp, s_X3_turnOn argv M Qp → ∃ p0 As, argv = .ref p0 :: As ∧ eg_isO wd M p0 3 = true := by
  intro argv M Qp h
  unfold s_X3_turnOn at h
  split at h
  · exact ⟨_, _, rfl, rfl⟩
  · exact h.elim
set_option maxRecDepth 100000 in
set_option maxHeartbeats 1000000 in
theorem T_X3_turnOn {argv : List Value} {M : eg_M} {Qp : eg_P} (h : s_X3_turnOn argv M Qp) : eg_T wd k_X3_turnOn Qp 0 0 0 (eg_lsN 3 argv) [] M := by
  unfold s_X3_turnOn at h
  split at h
  · rename_i c d
    obtain ⟨hp, hq⟩ := h
    obtain ⟨hc, h36, R, hR⟩ := hp
    have hx := k_lb_chn (d := d) R 200 _ hR.1 hR.2
    refine st_X3_turnOn_0 c d ⟨Or.inl rfl, hc, chn_ev hR.2, h36⟩ (fun z => (chn_ev hx).resolve_left z) (hq _ (fun S hS => ?_))
    rw [chn_inj hS.2 hR.2]
    exact k_tn_x hx
  · exact h.elim
theorem de_X3_turnOn : ∀ q ∈ k_X3_turnOn.1, decode cX3_turnOn q.1 = .ok q.2 := by decide +kernel
theorem me_X3_turnOn (g : gl_T) : MT g yX3_turnOn cX3_turnOn 3 (some .int) ⟨1, 0, 0, 25⟩ 0 0 s_X3_turnOn := by
  intro hl
  exact eg_met_of (k := k_X3_turnOn) (by decide) rfl ⟨Nat.le_refl _, Nat.le_refl _⟩ rfl sz_X3_turnOn de_X3_turnOn (fun meth hn => (fc (eg_FL_of wd_c3 (by decide) lf_RX3_64 (fun h => absurd h (by decide))) (fn))) (fun A s H hE => (fn)) (fun p e s m args below meth c Q A ad0 N0 S0 hK hEx hA => (fc (mt_V hl S0 hK hEx hA (me_X3_lastBy g) lm_RX3_149 li_X3_lastBy lx_X3_lastBy ln_RX3 lc_X3_lastBy ⟨rfl, by decide, by decide, by decide +kernel⟩ ⟨rfl, rfl⟩ ⟨by decide, by decide⟩ (ci := 3) rfl rfl sr_X3_lastBy (by decide)) (fc (mt_V hl S0 hK hEx hA (me_X3_turnAfter g) lm_RX3_157 li_X3_turnAfter lx_X3_turnAfter ln_RX3 lc_X3_turnAfter ⟨rfl, by decide, by decide, by decide +kernel⟩ ⟨rfl, rfl⟩ ⟨by decide, by decide⟩ (ci := 3) rfl rfl sr_X3_turnAfter (by decide)) (fn)))) (fun p e s m args below meth c Qc XC A ad0 N0 P S0 hK hEx hA hlk hout hPX => (fn)) (fun argv M Qp h => T_X3_turnOn h)

def k_X3_generousSide : eg_C := ([(0, .aload_n 0, 1), (1, .iload_n 2, 1), (2, .aload_n 0, 1), (3, .getfield 67, 3), (6, .iload_n 1, 1), (7, .invokevirtual 149, 3), (10, .istore_n 3, 1), (11, .aload_n 0, 1), (12, .iload_n 3, 1), (13, .invokevirtual 153, 3), (16, .iconst 3, 1), (17, .if_icmp .ge 5, 3), (20, .iconst (-1), 1), (21, .ireturn, 1), (22, .aload_n 0, 1), (23, .getfield 58, 3), (26, .iload_n 3, 1), (27, .iaload, 1), (28, .istore 4, 2), (30, .aload_n 0, 1), (31, .getfield 58, 3), (34, .iload 4, 2), (36, .iaload, 1), (37, .istore 5, 2), (39, .aload_n 0, 1), (40, .getfield 28, 3), (43, .getfield 160, 3), (46, .iload_n 3, 1), (47, .iaload, 1), (48, .istore 6, 2), (50, .aload_n 0, 1), (51, .getfield 28, 3), (54, .getfield 160, 3), (57, .iload 4, 2), (59, .iaload, 1), (60, .iload 6, 2), (62, .if_icmp .ne 23, 3), (65, .aload_n 0, 1), (66, .getfield 28, 3), (69, .getfield 160, 3), (72, .iload 5, 2), (74, .iaload, 1), (75, .iload 6, 2), (77, .if_icmp .ne 8, 3), (80, .iload 6, 2), (82, .goto 4, 3), (85, .iconst (-1), 1), (86, .ireturn, 1)], [(28, 3, 2, false), (58, 3, 8, false), (67, 3, 11, false), (160, 1, 3, false)], [], [(149, 3 + 1, 0, 0, s_X3_lastBy), (153, 1 + 1, 0, 0, s_X3_upTo)], [], 1, 0, 0)
theorem mk_X3_generousSide : ∀ q ∈ k_X3_generousSide.2.2.2.1, eg_mono q.2.2.2.2 := (fc (mo_X3_lastBy) (fc (mo_X3_upTo) (fn)))
set_option maxRecDepth 100000 in
theorem st_X3_generousSide_0 {Qp : eg_P} {M : eg_M} (c : Int32) (d : Int32)
  (g0 : ((39 = 38 ∨ 39 = 39) ∧ vp_in c 24 ∧ k_ev (eg_gi M 39 c.toNatClampNeg) ∧ ∀ j, j < 200 → k_ev (eg_gi M 36 j)))
  (g1 : ((¬ (k_lb M d 200 (eg_gi M 39 c.toNatClampNeg)) = (-nI 1)) → vp_in (k_lb M d 200 (eg_gi M 39 c.toNatClampNeg)) 200))
  (g2 : ((nI 3) ≤ (if (k_lb M d 200 (eg_gi M 39 c.toNatClampNeg)) = (-nI 1) then (nI 0) else ((eg_gi M 37 (k_lb M d 200 (eg_gi M 39 c.toNatClampNeg)).toNatClampNeg) + (nI 1)))) → (vp_in (k_lb M d 200 (eg_gi M 39 c.toNatClampNeg)) 200))
  (g3 : ((nI 3) ≤ (if (k_lb M d 200 (eg_gi M 39 c.toNatClampNeg)) = (-nI 1) then (nI 0) else ((eg_gi M 37 (k_lb M d 200 (eg_gi M 39 c.toNatClampNeg)).toNatClampNeg) + (nI 1)))) → (vp_in (eg_gi M 36 (k_lb M d 200 (eg_gi M 39 c.toNatClampNeg)).toNatClampNeg) 200))
  (g4 : ((nI 3) ≤ (if (k_lb M d 200 (eg_gi M 39 c.toNatClampNeg)) = (-nI 1) then (nI 0) else ((eg_gi M 37 (k_lb M d 200 (eg_gi M 39 c.toNatClampNeg)).toNatClampNeg) + (nI 1)))) → ((eg_gi M 16 (eg_gi M 36 (k_lb M d 200 (eg_gi M 39 c.toNatClampNeg)).toNatClampNeg).toNatClampNeg) = (eg_gi M 16 (k_lb M d 200 (eg_gi M 39 c.toNatClampNeg)).toNatClampNeg)) → (vp_in (eg_gi M 36 (eg_gi M 36 (k_lb M d 200 (eg_gi M 39 c.toNatClampNeg)).toNatClampNeg).toNatClampNeg) 200))
  (l0 : ((nI 3) ≤ (if (k_lb M d 200 (eg_gi M 39 c.toNatClampNeg)) = (-nI 1) then (nI 0) else ((eg_gi M 37 (k_lb M d 200 (eg_gi M 39 c.toNatClampNeg)).toNatClampNeg) + (nI 1))) ∧ ((eg_gi M 16 (eg_gi M 36 (k_lb M d 200 (eg_gi M 39 c.toNatClampNeg)).toNatClampNeg).toNatClampNeg) = (eg_gi M 16 (k_lb M d 200 (eg_gi M 39 c.toNatClampNeg)).toNatClampNeg) ∧ (eg_gi M 16 (eg_gi M 36 (eg_gi M 36 (k_lb M d 200 (eg_gi M 39 c.toNatClampNeg)).toNatClampNeg).toNatClampNeg).toNatClampNeg) = (eg_gi M 16 (k_lb M d 200 (eg_gi M 39 c.toNatClampNeg)).toNatClampNeg))) → Qp (.inl (some (.int (eg_gi M 16 (k_lb M d 200 (eg_gi M 39 c.toNatClampNeg)).toNatClampNeg)))) M)
  (l1 : (¬ (nI 3) ≤ (if (k_lb M d 200 (eg_gi M 39 c.toNatClampNeg)) = (-nI 1) then (nI 0) else ((eg_gi M 37 (k_lb M d 200 (eg_gi M 39 c.toNatClampNeg)).toNatClampNeg) + (nI 1))) ∨ (¬ (eg_gi M 16 (eg_gi M 36 (k_lb M d 200 (eg_gi M 39 c.toNatClampNeg)).toNatClampNeg).toNatClampNeg) = (eg_gi M 16 (k_lb M d 200 (eg_gi M 39 c.toNatClampNeg)).toNatClampNeg) ∨ ¬ (eg_gi M 16 (eg_gi M 36 (eg_gi M 36 (k_lb M d 200 (eg_gi M 39 c.toNatClampNeg)).toNatClampNeg).toNatClampNeg).toNatClampNeg) = (eg_gi M 16 (k_lb M d 200 (eg_gi M 39 c.toNatClampNeg)).toNatClampNeg))) → Qp (.inl (some (.int (-nI 1)))) M) :
  eg_T wd k_X3_generousSide Qp 0 0 0 [some (.ref 1), some (.int c), some (.int d), none, none, none, none] [] M := by
  refine eg_T_run mk_X3_generousSide (cut := []) 51 ?_
  refine And.intro (show ((39 = 38 ∨ 39 = 39) ∧ vp_in c 24 ∧ k_ev (eg_gi M 39 c.toNatClampNeg) ∧ ∀ j, j < 200 → k_ev (eg_gi M 36 j)) from ?_) ?_
  · exact g0
  refine And.intro (show (((¬ (k_lb M d 200 (eg_gi M 39 c.toNatClampNeg)) = (-nI 1)) → vp_in (k_lb M d 200 (eg_gi M 39 c.toNatClampNeg)) 200)) from ?_) ?_
  · exact g1
  refine And.intro (fun (c1 : (nI 3) ≤ (if (k_lb M d 200 (eg_gi M 39 c.toNatClampNeg)) = (-nI 1) then (nI 0) else ((eg_gi M 37 (k_lb M d 200 (eg_gi M 39 c.toNatClampNeg)).toNatClampNeg) + (nI 1)))) => ?_) (fun (c1 : ¬ (nI 3) ≤ (if (k_lb M d 200 (eg_gi M 39 c.toNatClampNeg)) = (-nI 1) then (nI 0) else ((eg_gi M 37 (k_lb M d 200 (eg_gi M 39 c.toNatClampNeg)).toNatClampNeg) + (nI 1)))) => ?_)
  · skip
    refine And.intro (show vp_in (k_lb M d 200 (eg_gi M 39 c.toNatClampNeg)) 200 from ?_) ?_
    · exact g2 c1
    refine And.intro (show vp_in (eg_gi M 36 (k_lb M d 200 (eg_gi M 39 c.toNatClampNeg)).toNatClampNeg) 200 from ?_) ?_
    · exact g3 c1
    refine And.intro (show vp_in (k_lb M d 200 (eg_gi M 39 c.toNatClampNeg)) 200 from ?_) ?_
    · exact g2 c1
    refine And.intro (show vp_in (eg_gi M 36 (k_lb M d 200 (eg_gi M 39 c.toNatClampNeg)).toNatClampNeg) 200 from ?_) ?_
    · exact g3 c1
    refine And.intro (fun (c2 : (eg_gi M 16 (eg_gi M 36 (k_lb M d 200 (eg_gi M 39 c.toNatClampNeg)).toNatClampNeg).toNatClampNeg) = (eg_gi M 16 (k_lb M d 200 (eg_gi M 39 c.toNatClampNeg)).toNatClampNeg)) => ?_) (fun (c2 : ¬ (eg_gi M 16 (eg_gi M 36 (k_lb M d 200 (eg_gi M 39 c.toNatClampNeg)).toNatClampNeg).toNatClampNeg) = (eg_gi M 16 (k_lb M d 200 (eg_gi M 39 c.toNatClampNeg)).toNatClampNeg)) => ?_)
    · skip
      refine And.intro (show vp_in (eg_gi M 36 (eg_gi M 36 (k_lb M d 200 (eg_gi M 39 c.toNatClampNeg)).toNatClampNeg).toNatClampNeg) 200 from ?_) ?_
      · exact g4 c1 c2
      refine And.intro (fun (c3 : (eg_gi M 16 (eg_gi M 36 (eg_gi M 36 (k_lb M d 200 (eg_gi M 39 c.toNatClampNeg)).toNatClampNeg).toNatClampNeg).toNatClampNeg) = (eg_gi M 16 (k_lb M d 200 (eg_gi M 39 c.toNatClampNeg)).toNatClampNeg)) => ?_) (fun (c3 : ¬ (eg_gi M 16 (eg_gi M 36 (eg_gi M 36 (k_lb M d 200 (eg_gi M 39 c.toNatClampNeg)).toNatClampNeg).toNatClampNeg).toNatClampNeg) = (eg_gi M 16 (k_lb M d 200 (eg_gi M 39 c.toNatClampNeg)).toNatClampNeg)) => ?_)
      · skip
        refine And.intro (fun z => absurd z (by decide)) ?_
        show Qp (.inl (some (.int (eg_gi M 16 (k_lb M d 200 (eg_gi M 39 c.toNatClampNeg)).toNatClampNeg)))) M
        exact l0 ⟨c1, ⟨c2, c3⟩⟩
      · skip
        refine And.intro (fun z => absurd z (by decide)) ?_
        show Qp (.inl (some (.int (-nI 1)))) M
        exact l1 (Or.inr (Or.inr c3))
    · skip
      refine And.intro (fun z => absurd z (by decide)) ?_
      show Qp (.inl (some (.int (-nI 1)))) M
      exact l1 (Or.inr (Or.inl c2))
  · skip
    refine And.intro (fun z => absurd z (by decide)) ?_
    show Qp (.inl (some (.int (-nI 1)))) M
    exact l1 (Or.inl c1)

def s_X3_generousSide : eg_S := fun argv M Qp => match argv with
  | [.ref 1, .int c, .int d] => (vp_in c 24 ∧ (∀ j, j < 200 → k_ev (eg_gi M 36 j)) ∧ ∃ R, k_cp M 39 c R) ∧ ∀ (r : Int32), (∀ R, k_cp M 39 c R → r = k_gs M (k_by M d R)) → Qp (.inl (some (.int (r)))) M
  | _ => False
theorem mo_X3_generousSide : eg_mono s_X3_generousSide := by
  intro argv M Q Q' h
  unfold s_X3_generousSide
  split
  · exact fun z => ⟨z.1, fun r y => h _ _ (z.2 r y)⟩
  · exact id
theorem sz_X3_generousSide : ∀ argv M Qp, s_X3_generousSide argv M Qp → (eg_ls0 argv).length ≤ 7 := by
  intro argv M Qp h
  unfold s_X3_generousSide at h
  split at h
  · exact Nat.le_of_ble_eq_true rfl
  · exact h.elim
theorem sr_X3_generousSide : ∀ argv M Qp, s_X3_generousSide argv M Qp → ∃ p0 As, argv = .ref p0 :: As ∧ eg_isO wd M p0 3 = true := by
  intro argv M Qp h
  unfold s_X3_generousSide at h
  split at h
  · exact ⟨_, _, rfl, rfl⟩
  · exact h.elim
set_option maxRecDepth 100000 in
set_option maxHeartbeats 1000000 in
theorem T_X3_generousSide {argv : List Value} {M : eg_M} {Qp : eg_P} (h : s_X3_generousSide argv M Qp) : eg_T wd k_X3_generousSide Qp 0 0 0 (eg_lsN 7 argv) [] M := by
  unfold s_X3_generousSide at h
  split at h
  · rename_i c d
    obtain ⟨hp, hq⟩ := h
    obtain ⟨hc, h36, R, hR⟩ := hp
    have hx := k_lb_chn (d := d) R 200 _ hR.1 hR.2
    have hq : ∀ r, r = k_gs M (k_by M d R) → Qp (.inl (some (.int r))) M := fun r e => hq r (fun S hS => by rw [chn_inj hS.2 hR.2]; exact e)
    have hl : (k_by M d R).length ≤ 200 := Nat.le_trans (List.dropWhile_suffix _).length_le hR.1
    have st := st_X3_generousSide_0 (Qp := Qp) (M := M) c d ⟨Or.inr rfl, hc, chn_ev hR.2, h36⟩ (fun z => (chn_ev hx).resolve_left z)
    generalize k_lb M d 200 (eg_gi M 39 c.toNatClampNeg) = x at hx st
    generalize k_by M d R = K at hx hq hl
    have hn : (if x = -nI 1 then nI 0 else eg_gi M 37 x.toNatClampNeg + nI 1) = nI K.length := by
      rcases chn_hd hx with y | y
      · rw [if_pos y.1, y.2]
        rfl
      · by_cases z : x = -nI 1
        · rw [z] at y
          exact absurd (vp_in_of y.1 (by decide)) (fun ⟨j, hj, ej⟩ => nI_m1 (by omega) ej.symm)
        · rw [if_neg z]
          exact y.2
    rw [hn, n_le (by decide) (by omega)] at st
    match K, hx, hq, hl, st with
    | [], hx, hq, hl, st => exact st (fun z => absurd z (by simp)) (fun z => absurd z (by simp)) (fun z => absurd z (by simp)) (fun z => absurd z.1 (by simp)) (fun _ => hq _ rfl)
    | [e], hx, hq, hl, st => exact st (fun z => absurd z (by simp)) (fun z => absurd z (by simp)) (fun z => absurd z (by simp)) (fun z => absurd z.1 (by simp)) (fun _ => hq _ rfl)
    | [e, f], hx, hq, hl, st => exact st (fun z => absurd z (by simp)) (fun z => absurd z (by simp)) (fun z => absurd z (by simp)) (fun z => absurd z.1 (by simp)) (fun _ => hq _ rfl)
    | e :: f :: g :: K, hx, hq, hl, st =>
      obtain ⟨rfl, h1, ⟨e2, h2, ⟨e3, h3, _⟩, _⟩, _⟩ := hx
      rw [n_c (by omega), e2, n_c (by omega), e3, n_c (by omega)] at st
      refine st (fun _ => (n_in (by omega) (by decide)).mpr h1) (fun _ => (n_in (by omega) (by decide)).mpr h2) (fun _ _ => (n_in (by omega) (by decide)).mpr h3) (fun z => hq _ ?_) (fun z => hq _ ?_)
      · rw [k_gs, if_pos z.2]
      · rw [k_gs, if_neg]
        intro y
        rcases z with z | z | z
        · exact z (by simp)
        · exact z y.1
        · exact z y.2
    
  · exact h.elim
theorem de_X3_generousSide : ∀ q ∈ k_X3_generousSide.1, decode cX3_generousSide q.1 = .ok q.2 := by decide +kernel
theorem me_X3_generousSide (g : gl_T) : MT g yX3_generousSide cX3_generousSide 7 (some .int) ⟨1, 0, 0, 25⟩ 0 0 s_X3_generousSide := by
  intro hl
  exact eg_met_of (k := k_X3_generousSide) (by decide) rfl ⟨Nat.le_refl _, Nat.le_refl _⟩ rfl sz_X3_generousSide de_X3_generousSide (fun meth hn => (fc (eg_FL_of wd_c3 (by decide) lf_RX3_28 (fun h => absurd h (by decide))) (fc (eg_FL_of wd_c3 (by decide) lf_RX3_58 (fun h => absurd h (by decide))) (fc (eg_FL_of wd_c3 (by decide) lf_RX3_67 (fun h => absurd h (by decide))) (fc (eg_FL_of wd_c1 (by decide) lf_RX3_160 (fun h => absurd h (by decide))) (fn)))))) (fun A s H hE => (fn)) (fun p e s m args below meth c Q A ad0 N0 S0 hK hEx hA => (fc (mt_V hl S0 hK hEx hA (me_X3_lastBy g) lm_RX3_149 li_X3_lastBy lx_X3_lastBy ln_RX3 lc_X3_lastBy ⟨rfl, by decide, by decide, by decide +kernel⟩ ⟨rfl, rfl⟩ ⟨by decide, by decide⟩ (ci := 3) rfl rfl sr_X3_lastBy (by decide)) (fc (mt_V hl S0 hK hEx hA (me_X3_upTo g) lm_RX3_153 li_X3_upTo lx_X3_upTo ln_RX3 lc_X3_upTo ⟨rfl, by decide, by decide, by decide +kernel⟩ ⟨rfl, rfl⟩ ⟨by decide, by decide⟩ (ci := 3) rfl rfl sr_X3_upTo (by decide)) (fn)))) (fun p e s m args below meth c Qc XC A ad0 N0 P S0 hK hEx hA hlk hout hPX => (fn)) (fun argv M Qp h => T_X3_generousSide h)

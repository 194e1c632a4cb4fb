/-- back along a chain to day d -/
def k_by (M : eg_M) (d : Int32) (R : List Nat) : List Nat := R.dropWhile (fun e => decide (¬ eg_gi M 19 e ≤ d))
theorem k_lb_chn {M : eg_M} {d : Int32} : ∀ (R : List Nat) (n : Nat) (x : Int32), R.length ≤ n → k_chn (eg_gi M 36) (eg_gi M 37) x R → k_chn (eg_gi M 36) (eg_gi M 37) (k_lb M d n x) (k_by M d R)
  | [], 0, x, _, h => h
  | [], n + 1, x, _, h => by
    rw [k_lb, if_pos (Or.inl (show x = -nI 1 from h))]
    exact h
  | e :: R, 0, x, hl, _ => absurd hl (by simp)
  | e :: R, n + 1, x, hl, h => by
    obtain ⟨rfl, h2, h3, h4⟩ := id h
    rw [k_lb, n_c (by omega)]
    unfold k_by
    by_cases z : eg_gi M 19 e ≤ d
    · rw [if_pos (Or.inr z), List.dropWhile_cons_of_neg (by simp [z])]
      exact h
    · rw [if_neg, List.dropWhile_cons_of_pos (by simp [z])]
      · exact k_lb_chn R n _ (by rw [List.length_cons] at hl; omega) h3
      · rintro (y | y)
        · exact nI_m1 (by omega) y
        · exact z y
theorem chn_inj {fp fa : Nat → Int32} : ∀ {R S : List Nat} {x : Int32}, k_chn fp fa x R → k_chn fp fa x S → R = S
  | [], [], _, _, _ => rfl
  | [], e :: S, x, h, k => absurd (h ▸ k.1 : -nI 1 = nI e) (fun z => nI_m1 (by have := k.2.1; omega) z.symm)
  | e :: R, [], x, h, k => absurd (k ▸ h.1 : -nI 1 = nI e) (fun z => nI_m1 (by have := h.2.1; omega) z.symm)
  | e :: R, f :: S, x, h, k => by
    have he := h.2.1
    have hf := k.2.1
    have : e = f := (n_eq (by omega) (by omega)).mp (h.1.symm.trans k.1)
    subst this
    rw [chn_inj h.2.2.1 k.2.2.1]
/-- what the class knows of charter c's chain -/
def k_cp (M : eg_M) (l : Nat) (c : Int32) (R : List Nat) : Prop := R.length ≤ 200 ∧ k_chn (eg_gi M 36) (eg_gi M 37) (eg_gi M l c.toNatClampNeg) R
theorem chn_ev {fp fa : Nat → Int32} {x : Int32} {R : List Nat} (h : k_chn fp fa x R) : k_ev x := (chn_hd h).imp And.left And.left
def k_X3_visitsBy : eg_C := ([(0, .aload_n 0, 1), (1, .aload_n 0, 1), (2, .iload_n 2, 1), (3, .aload_n 0, 1), (4, .getfield 64, 3), (7, .iload_n 1, 1), (8, .invokevirtual 149, 3), (11, .invokevirtual 153, 3), (14, .ireturn, 1)], [(64, 3, 10, false)], [], [(149, 3 + 1, 0, 0, s_X3_lastBy), (153, 1 + 1, 0, 0, s_X3_upTo)], [], 1, 0, 0)
theorem mk_X3_visitsBy : ∀ q ∈ k_X3_visitsBy.2.2.2.1, eg_mono q.2.2.2.2 := (fc (mo_X3_lastBy) (fc (mo_X3_upTo) (fn)))
set_option maxRecDepth 100000 in
theorem st_X3_visitsBy_0 {Qp : eg_P} {M : eg_M} (c : Int32) (d : Int32)
  (g0 : ((38 = 38 ∨ 38 = 39) ∧ vp_in c 24 ∧ k_ev (eg_gi M 38 c.toNatClampNeg) ∧ ∀ j, j < 200 → k_ev (eg_gi M 36 j)))
  (g1 : ((¬ (k_lb M d 200 (eg_gi M 38 c.toNatClampNeg)) = (-nI 1)) → vp_in (k_lb M d 200 (eg_gi M 38 c.toNatClampNeg)) 200))
  (l0 : Qp (.inl (some (.int (if (k_lb M d 200 (eg_gi M 38 c.toNatClampNeg)) = (-nI 1) then (nI 0) else ((eg_gi M 37 (k_lb M d 200 (eg_gi M 38 c.toNatClampNeg)).toNatClampNeg) + (nI 1)))))) M) :
  eg_T wd k_X3_visitsBy Qp 0 0 0 [some (.ref 1), some (.int c), some (.int d)] [] M := by
  refine eg_T_run mk_X3_visitsBy (cut := []) 12 ?_
  refine And.intro (show ((38 = 38 ∨ 38 = 39) ∧ vp_in c 24 ∧ k_ev (eg_gi M 38 c.toNatClampNeg) ∧ ∀ j, j < 200 → k_ev (eg_gi M 36 j)) from ?_) ?_
  · exact g0
  refine And.intro (show (((¬ (k_lb M d 200 (eg_gi M 38 c.toNatClampNeg)) = (-nI 1)) → vp_in (k_lb M d 200 (eg_gi M 38 c.toNatClampNeg)) 200)) from ?_) ?_
  · exact g1
  refine And.intro (fun z => absurd z (by decide)) ?_
  show Qp (.inl (some (.int (if (k_lb M d 200 (eg_gi M 38 c.toNatClampNeg)) = (-nI 1) then (nI 0) else ((eg_gi M 37 (k_lb M d 200 (eg_gi M 38 c.toNatClampNeg)).toNatClampNeg) + (nI 1)))))) M
  exact l0

def s_X3_visitsBy : eg_S := fun argv M Qp => match argv with
  | [.ref 1, .int c, .int d] => (vp_in c 24 ∧ (∀ j, j < 200 → k_ev (eg_gi M 36 j)) ∧ ∃ R, k_cp M 38 c R) ∧ ∀ (r : Int32), (∀ R, k_cp M 38 c R → r = nI (k_by M d R).length) → Qp (.inl (some (.int (r)))) M
  | _ => False
theorem mo_X3_visitsBy : eg_mono s_X3_visitsBy := by
  intro argv M Q Q' h
  unfold s_X3_visitsBy
  split
  · exact fun z => ⟨z.1, fun r y => h _ _ (z.2 r y)⟩
  · exact id
theorem sz_X3_visitsBy : ∀ argv M Qp, s_X3_visitsBy argv M Qp → (eg_ls0 argv).length ≤ 3 := by
  intro argv M Qp h
  unfold s_X3_visitsBy at h
  split at h
  · exact Nat.le_of_ble_eq_true rfl
  · exact h.elim
theorem sr_X3_visitsBy : ∀ argv M Qp, s_X3_visitsBy argv M Qp → ∃ p0 As, argv = .ref p0 :: As ∧ eg_isO wd M p0 3 = true := by
  intro argv M Qp h
  unfold s_X3_visitsBy at h
  split at h
  · exact ⟨_, _, rfl, rfl⟩
  · exact h.elim
set_option maxRecDepth 100000 in
set_option maxHeartbeats 1000000 in
theorem T_X3_visitsBy {argv : List Value} {M : eg_M} {Qp : eg_P} (h : s_X3_visitsBy argv M Qp) : eg_T wd k_X3_visitsBy Qp 0 0 0 (eg_lsN 3 argv) [] M := by
  unfold s_X3_visitsBy at h
  split at h
  · rename_i c d
    obtain ⟨hp, hq⟩ := h
    obtain ⟨hc, h36, R, hR⟩ := hp
    have hx := k_lb_chn (d := d) R 200 _ hR.1 hR.2
    refine st_X3_visitsBy_0 c d ⟨Or.inl rfl, hc, chn_ev hR.2, h36⟩ (fun z => (chn_ev hx).resolve_left z) (hq _ (fun S hS => ?_))
    rw [chn_inj hS.2 hR.2]
    rcases chn_hd hx with y | y
    · rw [if_pos y.1, y.2]
      rfl
    · by_cases z : k_lb M d 200 (eg_gi M 38 c.toNatClampNeg) = -nI 1
      · rw [z] at y
        exact absurd (vp_in_of y.1 (by decide)) (fun ⟨j, hj, ej⟩ => nI_m1 (by omega) ej.symm)
      · rw [if_neg z]
        exact y.2
  · exact h.elim
theorem de_X3_visitsBy : ∀ q ∈ k_X3_visitsBy.1, decode cX3_visitsBy q.1 = .ok q.2 := by decide +kernel
theorem me_X3_visitsBy (g : gl_T) : MT g yX3_visitsBy cX3_visitsBy 3 (some .int) ⟨1, 0, 0, 25⟩ 0 0 s_X3_visitsBy := by
  intro hl
  exact eg_met_of (k := k_X3_visitsBy) (by decide) rfl ⟨Nat.le_refl _, Nat.le_refl _⟩ rfl sz_X3_visitsBy de_X3_visitsBy (fun meth hn => (fc (eg_FL_of wd_c3 (by decide) lf_RX3_64 (fun h => absurd h (by decide))) (fn))) (fun A s H hE => (fn)) (fun p e s m args below meth c Q A ad0 N0 S0 hK hEx hA => (fc (mt_V hl S0 hK hEx hA (me_X3_lastBy g) lm_RX3_149 li_X3_lastBy lx_X3_lastBy ln_RX3 lc_X3_lastBy ⟨rfl, by decide, by decide, by decide +kernel⟩ ⟨rfl, rfl⟩ ⟨by decide, by decide⟩ (ci := 3) rfl rfl sr_X3_lastBy (by decide)) (fc (mt_V hl S0 hK hEx hA (me_X3_upTo g) lm_RX3_153 li_X3_upTo lx_X3_upTo ln_RX3 lc_X3_upTo ⟨rfl, by decide, by decide, by decide +kernel⟩ ⟨rfl, rfl⟩ ⟨by decide, by decide⟩ (ci := 3) rfl rfl sr_X3_upTo (by decide)) (fn)))) (fun p e s m args below meth c Qc XC A ad0 N0 P S0 hK hEx hA hlk hout hPX => (fn)) (fun argv M Qp h => T_X3_visitsBy h)

/-- whose turn after a chain -/
def k_tn (M : eg_M) : List Nat → Int32
  | [] => nI 0
  | e :: _ => nI 1 - eg_gi M 16 e
/-- the side that gave three times -/
def k_gs (M : eg_M) : List Nat → Int32
  | e :: f :: g :: _ => if eg_gi M 16 f = eg_gi M 16 e ∧ eg_gi M 16 g = eg_gi M 16 e then eg_gi M 16 e else -nI 1
  | _ => -nI 1
theorem k_tn_x {M : eg_M} {x : Int32} {R : List Nat} (h : k_chn (eg_gi M 36) (eg_gi M 37) x R) : (if x = -nI 1 then nI 0 else nI 1 - eg_gi M 16 x.toNatClampNeg) = k_tn M R := by
  cases R with
  | nil =>
    rw [if_pos (show x = -nI 1 from h)]
    rfl
  | cons e R =>
    obtain ⟨rfl, h2, _, _⟩ := h
    rw [if_neg (nI_m1 (by omega)), n_c (by omega)]
    rfl
def k_X3_turnOn : eg_C := ([(0, .aload_n 0, 1), (1, .aload_n 0, 1), (2, .iload_n 2, 1), (3, .aload_n 0, 1), (4, .getfield 64, 3), (7, .iload_n 1, 1), (8, .invokevirtual 149, 3), (11, .invokevirtual 157, 3), (14, .ireturn, 1)], [(64, 3, 10, false)], [], [(149, 3 + 1, 0, 0, s_X3_lastBy), (157, 1 + 1, 0, 0, s_X3_turnAfter)], [], 1, 0, 0)
theorem mk_X3_turnOn : ∀ q ∈ k_X3_turnOn.2.2.2.1, eg_mono q.2.2.2.2 := (fc (mo_X3_lastBy) (fc (mo_X3_turnAfter) (fn)))
set_option maxRecDepth 100000 in
theorem st_X3_turnOn_0 {Qp : eg_P} {M : eg_M} (c : Int32) (d : Int32)
  (g0 : ((38 = 38 ∨ 38 = 39) ∧ vp_in c 24 ∧ k_ev (eg_gi M 38 c.toNatClampNeg) ∧ ∀ j, j < 200 → k_ev (eg_gi M 36 j)))
  (g1 : ((¬ (k_lb M d 200 (eg_gi M 38 c.toNatClampNeg)) = (-nI 1)) → vp_in (k_lb M d 200 (eg_gi M 38 c.toNatClampNeg)) 200))
  (l0 : Qp (.inl (some (.int (if (k_lb M d 200 (eg_gi M 38 c.toNatClampNeg)) = (-nI 1) then (nI 0) else ((nI 1) - (eg_gi M 16 (k_lb M d 200 (eg_gi M 38 c.toNatClampNeg)).toNatClampNeg)))))) M) :
  eg_T wd k_X3_turnOn Qp 0 0 0 [some (.ref 1), some (.int c), some (.int d)] [] M := by
  refine eg_T_run mk_X3_turnOn (cut := []) 12 ?_
  refine And.intro (show ((38 = 38 ∨ 38 = 39) ∧ vp_in c 24 ∧ k_ev (eg_gi M 38 c.toNatClampNeg) ∧ ∀ j, j < 200 → k_ev (eg_gi M 36 j)) from ?_) ?_
  · exact g0
  refine And.intro (show (((¬ (k_lb M d 200 (eg_gi M 38 c.toNatClampNeg)) = (-nI 1)) → vp_in (k_lb M d 200 (eg_gi M 38 c.toNatClampNeg)) 200)) from ?_) ?_
  · exact g1
  refine And.intro (fun z => absurd z (by decide)) ?_
  show Qp (.inl (some (.int (if (k_lb M d 200 (eg_gi M 38 c.toNatClampNeg)) = (-nI 1) then (nI 0) else ((nI 1) - (eg_gi M 16 (k_lb M d 200 (eg_gi M 38 c.toNatClampNeg)).toNatClampNeg)))))) M
  exact l0

def s_X3_turnOn : eg_S := fun argv M Qp => match argv with
  | [.ref 1, .int c, .int d] => (vp_in c 24 ∧ (∀ j, j < 200 → k_ev (eg_gi M 36 j)) ∧ ∃ R, k_cp M 38 c R) ∧ ∀ (r : Int32), (∀ R, k_cp M 38 c R → r = k_tn M (k_by M d R)) → Qp (.inl (some (.int (r)))) M
  | _ => False
theorem mo_X3_turnOn : eg_mono s_X3_turnOn := by
  intro argv M Q Q' h
  unfold s_X3_turnOn
  split
  · exact fun z => ⟨z.1, fun r y => h _ _ (z.2 r y)⟩
  · exact id
theorem sz_X3_turnOn : ∀ argv M Qp, s_X3_turnOn argv M Qp → (eg_ls0 argv).length ≤ 3 := by
  intro argv M Qp h
  unfold s_X3_turnOn at h
  split at h
  · exact Nat.le_of_ble_eq_true rfl
  · exact h.elim
theorem sr_X3_turnOn : ∀ argv M Qp, s_X3_turnOn argv M Qp → ∃ p0 As, argv = .ref p0 :: As ∧ eg_isO wd M p0 3 = true := by
  intro argv M Qp h
  unfold s_X3_turnOn at h
  split at h
  · exact ⟨_, _, rfl, rfl⟩
  · exact h.elim
set_option maxRecDepth 100000 in
set_option maxHeartbeats 1000000 in
theorem T_X3_turnOn {argv : List Value} {M : eg_M} {Qp : eg_P} (h : s_X3_turnOn argv M Qp) : eg_T wd k_X3_turnOn Qp 0 0 0 (eg_lsN 3 argv) [] M := by
  unfold s_X3_turnOn at h
  split at h
  · rename_i c d
    obtain ⟨hp, hq⟩ := h
    obtain ⟨hc, h36, R, hR⟩ := hp
    have hx := k_lb_chn (d := d) R 200 _ hR.1 hR.2
    refine st_X3_turnOn_0 c d ⟨Or.inl rfl, hc, chn_ev hR.2, h36⟩ (fun z => (chn_ev hx).resolve_left z) (hq _ (fun S hS => ?_))
    rw [chn_inj hS.2 hR.2]
    exact k_tn_x hx
  · exact h.elim
theorem de_X3_turnOn : ∀ q ∈ k_X3_turnOn.1, decode cX3_turnOn q.1 = .ok q.2 := by decide +kernel
theorem me_X3_turnOn (g : gl_T) : MT g yX3_turnOn cX3_turnOn 3 (some .int) ⟨1, 0, 0, 25⟩ 0 0 s_X3_turnOn := by
  intro hl
  exact eg_met_of (k := k_X3_turnOn) (by decide) rfl ⟨Nat.le_refl _, Nat.le_refl _⟩ rfl sz_X3_turnOn de_X3_turnOn (fun meth hn => (fc (eg_FL_of wd_c3 (by decide) lf_RX3_64 (fun h => absurd h (by decide))) (fn))) (fun A s H hE => (fn)) (fun p e s m args below meth c Q A ad0 N0 S0 hK hEx hA => (fc (mt_V hl S0 hK hEx hA (me_X3_lastBy g) lm_RX3_149 li_X3_lastBy lx_X3_lastBy ln_RX3 lc_X3_lastBy ⟨rfl, by decide, by decide, by decide +kernel⟩ ⟨rfl, rfl⟩ ⟨by decide, by decide⟩ (ci := 3) rfl rfl sr_X3_lastBy (by decide)) (fc (mt_V hl S0 hK hEx hA (me_X3_turnAfter g) lm_RX3_157 li_X3_turnAfter lx_X3_turnAfter ln_RX3 lc_X3_turnAfter ⟨rfl, by decide, by decide, by decide +kernel⟩ ⟨rfl, rfl⟩ ⟨by decide, by decide⟩ (ci := 3) rfl rfl sr_X3_turnAfter (by decide)) (fn)))) (fun p e s m args below meth c Qc XC A ad0 N0 P S0 hK hEx hA hlk hout hPX => (fn)) (fun argv M Qp h => T_X3_turnOn h)

/-- n more gifts of side s wanted, behind the one at hand -/
def k_gj (M : eg_M) (s : Int32) : Nat → List Nat → Int32
  | 0, _ => s
  | _ + 1, [] => -nI 1
  | n + 1, f :: K => if eg_gi M 16 f = s then k_gj M s n K else -nI 1
theorem k_gj_gs (M : eg_M) (e : Nat) : ∀ K, k_gj M (eg_gi M 16 e) 2 K = k_gs M (e :: K)
  | [] => rfl
  | [f] => by simp [k_gj, k_gs]
  | f :: g :: K => by
    by_cases z : eg_gi M 16 f = eg_gi M 16 e <;> by_cases w : eg_gi M 16 g = eg_gi M 16 e <;> simp [k_gj, k_gs, z, w]
def k_X3_generousSide : eg_C := ([(0, .aload_n 0, 1), (1, .iload_n 2, 1), (2, .aload_n 0, 1), (3, .getfield 67, 3), (6, .iload_n 1, 1), (7, .invokevirtual 149, 3), (10, .istore_n 3, 1), (11, .iload_n 3, 1), (12, .iconst (-1), 1), (13, .if_icmp .ne 7, 3), (16, .iconst (-1), 1), (17, .goto 12, 3), (20, .aload_n 0, 1), (21, .getfield 28, 3), (24, .getfield 160, 3), (27, .iload_n 3, 1), (28, .iaload, 1), (29, .istore 4, 2), (31, .iconst 1, 1), (32, .istore 5, 2), (34, .iload 5, 2), (36, .iconst 3, 1), (37, .if_icmp .ge 42, 3), (40, .iload_n 3, 1), (41, .iconst (-1), 1), (42, .if_icmp .eq 37, 3), (45, .aload_n 0, 1), (46, .getfield 58, 3), (49, .iload_n 3, 1), (50, .iaload, 1), (51, .istore_n 3, 1), (52, .iload_n 3, 1), (53, .iconst (-1), 1), (54, .if_icmp .eq 17, 3), (57, .aload_n 0, 1), (58, .getfield 28, 3), (61, .getfield 160, 3), (64, .iload_n 3, 1), (65, .iaload, 1), (66, .iload 4, 2), (68, .if_icmp .eq 5, 3), (71, .iconst (-1), 1), (72, .ireturn, 1), (73, .iinc 5 1, 3), (76, .goto (-42), 3), (79, .iload 4, 2), (81, .ireturn, 1)], [(28, 3, 2, false), (58, 3, 8, false), (67, 3, 11, false), (160, 1, 3, false)], [], [(149, 3 + 1, 0, 0, s_X3_lastBy)], [], 1, 0, 0)
theorem mk_X3_generousSide : ∀ q ∈ k_X3_generousSide.2.2.2.1, eg_mono q.2.2.2.2 := (fc (mo_X3_lastBy) (fn))
set_option maxRecDepth 100000 in
theorem st_X3_generousSide_0 {Qp : eg_P} {M : eg_M} (c : Int32) (d : Int32)
  (g0 : ((39 = 38 ∨ 39 = 39) ∧ vp_in c 24 ∧ k_ev (eg_gi M 39 c.toNatClampNeg) ∧ ∀ j, j < 200 → k_ev (eg_gi M 36 j)))
  (g1 : (¬ ((k_lb M d 200 (eg_gi M 39 c.toNatClampNeg)) = (-nI 1))) → (vp_in (k_lb M d 200 (eg_gi M 39 c.toNatClampNeg)) 200))
  (l0 : ((k_lb M d 200 (eg_gi M 39 c.toNatClampNeg)) = (-nI 1)) → eg_T wd k_X3_generousSide Qp 34 0 0 [some (.ref 1), some (.int c), some (.int d), some (.int (k_lb M d 200 (eg_gi M 39 c.toNatClampNeg))), some (.int (-nI 1)), some (.int (nI 1))] [] M)
  (l1 : (¬ (k_lb M d 200 (eg_gi M 39 c.toNatClampNeg)) = (-nI 1)) → eg_T wd k_X3_generousSide Qp 34 0 0 [some (.ref 1), some (.int c), some (.int d), some (.int (k_lb M d 200 (eg_gi M 39 c.toNatClampNeg))), some (.int (eg_gi M 16 (k_lb M d 200 (eg_gi M 39 c.toNatClampNeg)).toNatClampNeg)), some (.int (nI 1))] [] M) :
  eg_T wd k_X3_generousSide Qp 0 0 0 [some (.ref 1), some (.int c), some (.int d), none, none, none] [] M := by
  refine eg_T_run mk_X3_generousSide (cut := [34]) 50 ?_
  refine And.intro (show ((39 = 38 ∨ 39 = 39) ∧ vp_in c 24 ∧ k_ev (eg_gi M 39 c.toNatClampNeg) ∧ ∀ j, j < 200 → k_ev (eg_gi M 36 j)) from ?_) ?_
  · exact g0
  refine And.intro (fun (c1 : (k_lb M d 200 (eg_gi M 39 c.toNatClampNeg)) = (-nI 1)) => ?_) (fun (c1 : ¬ (k_lb M d 200 (eg_gi M 39 c.toNatClampNeg)) = (-nI 1)) => ?_)
  · skip
    show eg_T wd k_X3_generousSide Qp 34 0 0 [some (.ref 1), some (.int c), some (.int d), some (.int (k_lb M d 200 (eg_gi M 39 c.toNatClampNeg))), some (.int (-nI 1)), some (.int (nI 1))] [] M
    exact l0 c1
  · skip
    refine And.intro (show vp_in (k_lb M d 200 (eg_gi M 39 c.toNatClampNeg)) 200 from ?_) ?_
    · exact g1 c1
    show eg_T wd k_X3_generousSide Qp 34 0 0 [some (.ref 1), some (.int c), some (.int d), some (.int (k_lb M d 200 (eg_gi M 39 c.toNatClampNeg))), some (.int (eg_gi M 16 (k_lb M d 200 (eg_gi M 39 c.toNatClampNeg)).toNatClampNeg)), some (.int (nI 1))] [] M
    exact l1 c1

set_option maxRecDepth 100000 in
theorem st_X3_generousSide_34 {Qp : eg_P} {M : eg_M} (o1 : Option Value) (d : Int32) (x3 : Int32) (x4 : Int32) (x5 : Int32)
  (g0 : (¬ ((nI 3) ≤ x5)) → (¬ (x3 = (-nI 1))) → (vp_in x3 200))
  (g1 : (¬ ((nI 3) ≤ x5)) → (¬ (x3 = (-nI 1))) → (¬ ((eg_gi M 36 x3.toNatClampNeg) = (-nI 1))) → (vp_in (eg_gi M 36 x3.toNatClampNeg) 200))
  (l0 : ((nI 3) ≤ x5 ∨ x3 = (-nI 1)) → Qp (.inl (some (.int x4))) M)
  (l1 : (¬ (nI 3) ≤ x5 ∧ (¬ x3 = (-nI 1) ∧ ((eg_gi M 36 x3.toNatClampNeg) = (-nI 1) ∨ ¬ (eg_gi M 16 (eg_gi M 36 x3.toNatClampNeg).toNatClampNeg) = x4))) → Qp (.inl (some (.int (-nI 1)))) M)
  (l2 : (¬ (nI 3) ≤ x5 ∧ (¬ x3 = (-nI 1) ∧ (¬ (eg_gi M 36 x3.toNatClampNeg) = (-nI 1) ∧ (eg_gi M 16 (eg_gi M 36 x3.toNatClampNeg).toNatClampNeg) = x4))) → eg_T wd k_X3_generousSide Qp 34 0 0 [some (.ref 1), o1, some (.int d), some (.int (eg_gi M 36 x3.toNatClampNeg)), some (.int x4), some (.int (x5 + (nI 1)))] [] M) :
  eg_T wd k_X3_generousSide Qp 34 0 0 [some (.ref 1), o1, some (.int d), some (.int x3), some (.int x4), some (.int x5)] [] M := by
  refine eg_T_run mk_X3_generousSide (cut := [34]) 50 ?_
  refine And.intro (fun (c1 : (nI 3) ≤ x5) => ?_) (fun (c1 : ¬ (nI 3) ≤ x5) => ?_)
  · skip
    refine And.intro (fun z => absurd z (by decide)) ?_
    show Qp (.inl (some (.int x4))) M
    exact l0 (Or.inl c1)
  · skip
    refine And.intro (fun (c2 : x3 = (-nI 1)) => ?_) (fun (c2 : ¬ x3 = (-nI 1)) => ?_)
    · skip
      refine And.intro (fun z => absurd z (by decide)) ?_
      show Qp (.inl (some (.int x4))) M
      exact l0 (Or.inr c2)
    · skip
      refine And.intro (show vp_in x3 200 from ?_) ?_
      · exact g0 c1 c2
      refine And.intro (fun (c3 : (eg_gi M 36 x3.toNatClampNeg) = (-nI 1)) => ?_) (fun (c3 : ¬ (eg_gi M 36 x3.toNatClampNeg) = (-nI 1)) => ?_)
      · skip
        refine And.intro (fun z => absurd z (by decide)) ?_
        show Qp (.inl (some (.int (-nI 1)))) M
        exact l1 ⟨c1, ⟨c2, (Or.inl c3)⟩⟩
      · skip
        refine And.intro (show vp_in (eg_gi M 36 x3.toNatClampNeg) 200 from ?_) ?_
        · exact g1 c1 c2 c3
        refine And.intro (fun (c4 : (eg_gi M 16 (eg_gi M 36 x3.toNatClampNeg).toNatClampNeg) = x4) => ?_) (fun (c4 : ¬ (eg_gi M 16 (eg_gi M 36 x3.toNatClampNeg).toNatClampNeg) = x4) => ?_)
        · skip
          show eg_T wd k_X3_generousSide Qp 34 0 0 [some (.ref 1), o1, some (.int d), some (.int (eg_gi M 36 x3.toNatClampNeg)), some (.int x4), some (.int (x5 + (nI 1)))] [] M
          exact l2 ⟨c1, ⟨c2, ⟨c3, c4⟩⟩⟩
        · skip
          refine And.intro (fun z => absurd z (by decide)) ?_
          show Qp (.inl (some (.int (-nI 1)))) M
          exact l1 ⟨c1, ⟨c2, (Or.inr c4)⟩⟩

def s_X3_generousSide : eg_S := fun argv M Qp => match argv with
  | [.ref 1, .int c, .int d] => (vp_in c 24 ∧ (∀ j, j < 200 → k_ev (eg_gi M 36 j)) ∧ ∃ R, k_cp M 39 c R) ∧ ∀ (r : Int32), (∀ R, k_cp M 39 c R → r = k_gs M (k_by M d R)) → Qp (.inl (some (.int (r)))) M
  | _ => False
theorem mo_X3_generousSide : eg_mono s_X3_generousSide := by
  intro argv M Q Q' h
  unfold s_X3_generousSide
  split
  · exact fun z => ⟨z.1, fun r y => h _ _ (z.2 r y)⟩
  · exact id
theorem sz_X3_generousSide : ∀ argv M Qp, s_X3_generousSide argv M Qp → (eg_ls0 argv).length ≤ 6 := by
  intro argv M Qp h
  unfold s_X3_generousSide at h
  split at h
  · exact Nat.le_of_ble_eq_true rfl
  · exact h.elim
theorem sr_X3_generousSide : ∀ argv M Qp, s_X3_generousSide argv M Qp → ∃ p0 As, argv = .ref p0 :: As ∧ eg_isO wd M p0 3 = true := by
  intro argv M Qp h
  unfold s_X3_generousSide at h
  split at h
  · exact ⟨_, _, rfl, rfl⟩
  · exact h.elim
set_option maxRecDepth 100000 in
set_option maxHeartbeats 1000000 in
theorem T_X3_generousSide {argv : List Value} {M : eg_M} {Qp : eg_P} (h : s_X3_generousSide argv M Qp) : eg_T wd k_X3_generousSide Qp 0 0 0 (eg_lsN 6 argv) [] M := by
  unfold s_X3_generousSide at h
  split at h
  · rename_i c d
    obtain ⟨hp, hq⟩ := h
    obtain ⟨hc, h36, R, hR⟩ := hp
    have hx := k_lb_chn (d := d) R 200 _ hR.1 hR.2
    have hq : ∀ r, r = k_gs M (k_by M d R) → Qp (.inl (some (.int r))) M := fun r e => hq r (fun S hS => by rw [chn_inj hS.2 hR.2]; exact e)
    have lp : ∀ (n i : Nat) (K : List Nat) (e : Nat) (s : Int32), i + n = 3 → e < 200 → k_chn (eg_gi M 36) (eg_gi M 37) (eg_gi M 36 e) K → Qp (.inl (some (.int (k_gj M s n K)))) M → eg_T wd k_X3_generousSide Qp 34 0 0 [some (.ref 1), some (.int c), some (.int d), some (.int (nI e)), some (.int s), some (.int (nI i))] [] M := by
      intro n
      induction n with
      | zero =>
        intro i K e s hi he hK hQ
        have h3 : nI 3 ≤ nI i := (n_le (by decide) (by omega)).mpr (by omega)
        exact st_X3_generousSide_34 (Qp := Qp) (M := M) (some (.int c)) d (nI e) s (nI i) (fun z => absurd h3 z) (fun z => absurd h3 z) (fun _ => hQ) (fun z => absurd h3 z.1) (fun z => absurd h3 z.1)
      | succ n ih =>
        intro i K e s hi he hK hQ
        have h3 : ¬ nI 3 ≤ nI i := fun z => absurd ((n_le (by decide) (by omega)).mp z) (by omega)
        have st := st_X3_generousSide_34 (Qp := Qp) (M := M) (some (.int c)) d (nI e) s (nI i)
        have ee : (nI e).toNatClampNeg = e := n_c (by omega)
        rw [ee] at st
        refine st (fun _ _ => (n_in (by omega) (by decide)).mpr he) (fun _ _ z => (chn_ev hK).resolve_left z) (fun z => absurd z (fun y => y.elim h3 (nI_m1 (by omega)))) (fun z => ?_) (fun z => ?_)
        · cases K with
          | nil => exact hQ
          | cons f K =>
            obtain ⟨e2, h2, _, _⟩ := hK
            have hf : (nI f).toNatClampNeg = f := n_c (by omega)
            rw [e2, hf] at z
            rw [k_gj, if_neg (z.2.2.resolve_left (nI_m1 (by omega)))] at hQ
            exact hQ
        · cases K with
          | nil => exact absurd hK z.2.2.1
          | cons f K =>
            obtain ⟨e2, h2, h4, _⟩ := hK
            have hf : (nI f).toNatClampNeg = f := n_c (by omega)
            rw [e2, hf] at z
            rw [k_gj, if_pos z.2.2.2] at hQ
            rw [e2, n_s]
            exact ih (i + 1) K f s (by omega) h2 h4 hQ
    have st := st_X3_generousSide_0 (Qp := Qp) (M := M) c d ⟨Or.inr rfl, hc, chn_ev hR.2, h36⟩ (fun z => (chn_ev hx).resolve_left z)
    generalize k_lb M d 200 (eg_gi M 39 c.toNatClampNeg) = x at hx st
    generalize k_by M d R = K at hx hq
    cases K with
    | nil =>
      have hx : x = -nI 1 := hx
      exact st (fun _ => st_X3_generousSide_34 (Qp := Qp) (M := M) (some (.int c)) d x (-nI 1) (nI 1) (fun _ z => absurd hx z) (fun _ z => absurd hx z) (fun _ => hq _ rfl) (fun z => absurd hx z.2.1) (fun z => absurd hx z.2.1)) (fun z => absurd hx z)
    | cons e K =>
      obtain ⟨rfl, h1, h2, _⟩ := hx
      have ee : (nI e).toNatClampNeg = e := n_c (by omega)
      rw [ee] at st
      exact st (fun z => absurd z (nI_m1 (by omega))) (fun _ => lp 2 1 K e _ rfl h1 h2 (hq _ (k_gj_gs M e K)))
    
  · exact h.elim
theorem de_X3_generousSide : ∀ q ∈ k_X3_generousSide.1, decode cX3_generousSide q.1 = .ok q.2 := by decide +kernel
theorem me_X3_generousSide (g : gl_T) : MT g yX3_generousSide cX3_generousSide 6 (some .int) ⟨1, 0, 0, 25⟩ 0 0 s_X3_generousSide := by
  intro hl
  exact eg_met_of (k := k_X3_generousSide) (by decide) rfl ⟨Nat.le_refl _, Nat.le_refl _⟩ rfl sz_X3_generousSide de_X3_generousSide (fun meth hn => (fc (eg_FL_of wd_c3 (by decide) lf_RX3_28 (fun h => absurd h (by decide))) (fc (eg_FL_of wd_c3 (by decide) lf_RX3_58 (fun h => absurd h (by decide))) (fc (eg_FL_of wd_c3 (by decide) lf_RX3_67 (fun h => absurd h (by decide))) (fc (eg_FL_of wd_c1 (by decide) lf_RX3_160 (fun h => absurd h (by decide))) (fn)))))) (fun A s H hE => (fn)) (fun p e s m args below meth c Q A ad0 N0 S0 hK hEx hA => (fc (mt_V hl S0 hK hEx hA (me_X3_lastBy g) lm_RX3_149 li_X3_lastBy lx_X3_lastBy ln_RX3 lc_X3_lastBy ⟨rfl, by decide, by decide, by decide +kernel⟩ ⟨rfl, rfl⟩ ⟨by decide, by decide⟩ (ci := 3) rfl rfl sr_X3_lastBy (by decide)) (fn))) (fun p e s m args below meth c Qc XC A ad0 N0 P S0 hK hEx hA hlk hout hPX => (fn)) (fun argv M Qp h => T_X3_generousSide h)

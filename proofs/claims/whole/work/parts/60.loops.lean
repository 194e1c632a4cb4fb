theorem sm_lkd {M : eg_M} {s : Int32} {f : Nat → Int32} {t : k_T5} (hS : k_sf M) {L : List Nat} (h : k_lkd M L) : k_lkd (k_sm M s f t) L := by
  obtain ⟨h1, h2, h3, h4⟩ := h
  refine ⟨?_, fun c hc => ?_, h3, h4⟩
  · refine Eq.trans h1 (congrArg some ?_)
    refine (k_to_of (M := M) (N := k_sm M s f t) (fun _ => rfl) (eg_gi M 23 2).toNatClampNeg (fun j hj q hq => ?_)).symm
    obtain ⟨q', e', ho⟩ := hS.2 j hj
    have : q = q' := Option.some.inj (hq.symm.trans e')
    subst this
    exact sm_gi (k_8n ho) (Or.inr (by decide))
  · rw [show eg_gi (k_sm M s f t) 34 c = eg_gi M 34 c from rfl, h2 c hc]
    exact (k_bf_of (M := M) (N := k_sm M s f t) (fun _ => rfl) (fun _ => rfl) (fun _ => rfl) (fun _ => rfl) (fun _ => rfl) rfl _).symm
theorem sm_tq {M : eg_M} {s : Int32} {f : Nat → Int32} {t : k_T5} {q : Nat} (h : k_tq M q) : k_tq (k_sm M s f t) q := by
  obtain ⟨h1, ⟨CL, h2⟩, P, h3, h4⟩ := h
  refine ⟨h1, ⟨CL, k_rt_of (M := M) (N := k_sm M s f t) rfl rfl (fun a ha j => sm_gi ?_ (Or.inl ?_)) h2⟩, P, h3, ?_⟩
  · unfold k_tp at ha; omega
  · unfold k_tp at ha; omega
  · rw [sm_gi (k_8n h1) (Or.inr (by decide))]
    exact h4
theorem sm_xt {M : eg_M} {s : Int32} {f : Nat → Int32} {t : k_T5} {q : Nat} {L : List (Int32 × List Int32)} (h : k_tx (k_sm M s f t) q L) : k_tx M q L := by
  refine k_tx_of (M := k_sm M s f t) (N := M) rfl rfl (fun a ha j => (sm_gi ?_ (Or.inl ?_)).symm) h
  · rintro rfl; unfold k_tp at ha; omega
  · rintro rfl; unfold k_tp at ha; omega
/-- settling keeps all -/
theorem sm_I {M : eg_M} {s : Int32} {f : Nat → Int32} {t : k_T5} (h : k_I M) (hl : ∃ L, k_W M L ∧ k_lkd M L) (hp : k_pq M) (hs : ∀ q CL, k_tx M q CL → k_set (k_sm M s f t) (k_pt M) CL) : k_I (k_sm M s f t) := by
  obtain ⟨hES, hTS, _, hc, ht⟩ := h
  obtain ⟨L, hW, hl⟩ := hl
  refine ⟨hES, ⟨hTS.1, sm_tq hTS.2.1, fun i hi q hq => sm_tq (hTS.2.2 i hi q hq)⟩, Or.inr ⟨⟨L, hW, sm_lkd hTS.1 hl⟩, fun q CL hq => ?_⟩, hc, ht⟩
  rw [(sm_pq hp).2]
  exact hs q CL (sm_xt hq)
theorem k_day {M : eg_M} (h : vp_in (eg_gi M 0 8) 3600) {k : Int32} (h1 : ¬ k < nI 0) (h2 : ¬ eg_gi M 0 8 < k) : ∃ n, n < 3600 ∧ k = nI n := by
  obtain ⟨t, ht, e⟩ := vp_in_of h (by decide)
  obtain ⟨n, hn, rfl⟩ := nI_of h1
  rw [e, n_lt (by omega) (by omega)] at h2
  exact ⟨n, by omega, rfl⟩
def k_X11_balance : eg_C := ([(0, .aload_n 0, 1), (1, .iload_n 1, 1), (2, .invokevirtual 94, 3), (5, .aload_n 0, 1), (6, .iload_n 2, 1), (7, .iconst 1, 1), (8, .invokevirtual 141, 3), (11, .aload_n 0, 1), (12, .iload_n 3, 1), (13, .invokevirtual 144, 3), (16, .aload_n 0, 1), (17, .iload 4, 2), (19, .invokevirtual 147, 3), (22, .aload_n 0, 1), (23, .getfield 12, 3), (26, .iload 4, 2), (28, .invokevirtual 154, 3), (31, .aload_n 0, 1), (32, .getfield 12, 3), (35, .iload_n 1, 1), (36, .iload_n 2, 1), (37, .iload_n 3, 1), (38, .invokevirtual 196, 3), (41, .lreturn, 1)], [(12, 11, 0, false)], [], [(94, 1 + 1, 1, 6, s_X11_needCharter), (141, 2 + 1, 1, 6, s_X11_needKind), (144, 1 + 1, 1, 6, s_X11_needDay), (147, 1 + 1, 1, 6, s_X11_needPast), (154, 1 + 1, 0, 0, s_X3_look), (196, 3 + 1, 0, 0, s_X3_balanceOf)], [], 3, 4, 24)
theorem mk_X11_balance : ∀ q ∈ k_X11_balance.2.2.2.1, eg_mono q.2.2.2.2 := (fc (mo_X11_needCharter) (fc (mo_X11_needKind) (fc (mo_X11_needDay) (fc (mo_X11_needPast) (fc (mo_X3_look) (fc (mo_X3_balanceOf) (fn)))))))
set_option maxRecDepth 100000 in
theorem st_X11_balance_0 {Qp : eg_P} {M : eg_M} (c : Int32) (s : Int32) (d : Int32) (k : Int32)
  (g0 : (¬ (¬ (¬ c < (nI 0) ∧ ¬ ((eg_gi M 7 4) - (nI 1)) < c))) → (¬ (¬ (¬ s < (nI 0) ∧ ¬ (nI 1) < s))) → (¬ (¬ (¬ d < (nI 0) ∧ ¬ (nI 3599) < d))) → (¬ (¬ (¬ k < (nI 0) ∧ ¬ (eg_gi M 0 8) < k))) → (k_sf M ∧ ∃ L, k_W M L))
  (l0 : ((¬ (¬ c < (nI 0) ∧ ¬ ((eg_gi M 7 4) - (nI 1)) < c)) ∨ ((¬ (¬ s < (nI 0) ∧ ¬ (nI 1) < s)) ∨ (¬ (¬ d < (nI 0) ∧ ¬ (nI 3599) < d)))) → Qp (.inr "java/util/NoSuchElementException") M)
  (l1 : ((¬ c < (nI 0) ∧ ¬ ((eg_gi M 7 4) - (nI 1)) < c) ∧ ((¬ s < (nI 0) ∧ ¬ (nI 1) < s) ∧ ((¬ d < (nI 0) ∧ ¬ (nI 3599) < d) ∧ (¬ (¬ k < (nI 0) ∧ ¬ (eg_gi M 0 8) < k))))) → Qp (.inr "java/lang/IllegalArgumentException") M)
  (l2 : ((¬ c < (nI 0) ∧ ¬ ((eg_gi M 7 4) - (nI 1)) < c) ∧ ((¬ s < (nI 0) ∧ ¬ (nI 1) < s) ∧ ((¬ d < (nI 0) ∧ ¬ (nI 3599) < d) ∧ ((¬ k < (nI 0) ∧ ¬ (eg_gi M 0 8) < k))))) → ∀ (u_1 : k_U), (((k_nw M k u_1 = M ∧ eg_gi M 1 4 = k) ∨ (u_1.1 = nI 0 ∧ ∃ L, k_W M L ∧ k_lkd (k_nw M k u_1) L)) ∧ ((∀ j, j < 200 → k_ev (eg_gi M 36 j)) → ∀ j, j < 200 → k_ev (u_1.2.2.2.2.1 j))) → eg_T wd k_X11_balance Qp 31 4 24 [some (.ref 0), some (.int c), some (.int s), some (.int d), some (.int k)] [] (k_nw M k u_1)) :
  eg_T wd k_X11_balance Qp 0 0 0 [some (.ref 0), some (.int c), some (.int s), some (.int d), some (.int k)] [] M := by
  refine eg_T_run mk_X11_balance (cut := [31, 41]) 27 ?_
  refine And.intro (show (True) from ?_) ?_
  · exact trivial
  refine And.intro (fun (c1 : (b2i (decide (¬ c < (nI 0) ∧ ¬ ((eg_gi M 7 4) - (nI 1)) < c))) = 0) => ?_) (fun (c1 : ¬ (b2i (decide (¬ c < (nI 0) ∧ ¬ ((eg_gi M 7 4) - (nI 1)) < c))) = 0) => ?_)
  · replace c1 := b2i_d0.mp c1
    show Qp (.inr "java/util/NoSuchElementException") M
    exact l0 (Or.inl c1)
  · replace c1 := b2i_dn.mp c1
    refine And.intro (show (True) from ?_) ?_
    · exact trivial
    refine And.intro (fun (c2 : (b2i (decide (¬ s < (nI 0) ∧ ¬ (nI 1) < s))) = 0) => ?_) (fun (c2 : ¬ (b2i (decide (¬ s < (nI 0) ∧ ¬ (nI 1) < s))) = 0) => ?_)
    · replace c2 := b2i_d0.mp c2
      show Qp (.inr "java/util/NoSuchElementException") M
      exact l0 (Or.inr (Or.inl c2))
    · replace c2 := b2i_dn.mp c2
      refine And.intro (show (True) from ?_) ?_
      · exact trivial
      refine And.intro (fun (c3 : (b2i (decide (¬ d < (nI 0) ∧ ¬ (nI 3599) < d))) = 0) => ?_) (fun (c3 : ¬ (b2i (decide (¬ d < (nI 0) ∧ ¬ (nI 3599) < d))) = 0) => ?_)
      · replace c3 := b2i_d0.mp c3
        show Qp (.inr "java/util/NoSuchElementException") M
        exact l0 (Or.inr (Or.inr c3))
      · replace c3 := b2i_dn.mp c3
        refine And.intro (show (True) from ?_) ?_
        · exact trivial
        refine And.intro (fun (c4 : (b2i (decide (¬ k < (nI 0) ∧ ¬ (eg_gi M 0 8) < k))) = 0) => ?_) (fun (c4 : ¬ (b2i (decide (¬ k < (nI 0) ∧ ¬ (eg_gi M 0 8) < k))) = 0) => ?_)
        · replace c4 := b2i_d0.mp c4
          show Qp (.inr "java/lang/IllegalArgumentException") M
          exact l1 ⟨(Classical.byContradiction c1), ⟨(Classical.byContradiction c2), ⟨(Classical.byContradiction c3), c4⟩⟩⟩
        · replace c4 := b2i_dn.mp c4
          refine And.intro (show (k_sf M ∧ ∃ L, k_W M L) from ?_) ?_
          · exact g0 c1 c2 c3 c4
          intro u_1 ha_1
          show eg_T wd k_X11_balance Qp 31 4 24 [some (.ref 0), some (.int c), some (.int s), some (.int d), some (.int k)] [] (k_nw M k u_1)
          exact l2 ⟨(Classical.byContradiction c1), ⟨(Classical.byContradiction c2), ⟨(Classical.byContradiction c3), (Classical.byContradiction c4)⟩⟩⟩ u_1 ha_1

set_option maxRecDepth 100000 in
theorem st_X11_balance_31 {Qp : eg_P} {M : eg_M} (c : Int32) (s : Int32) (d : Int32) (o4 : Option Value)
  (g0 : (k_es M ∧ k_pq M ∧ ∃ q CL, k_tx M q CL ∧ k_set M (k_pt M) CL))
  (l0 : ∀ (r_1 : Int64) (w_1 : Int32) (f_1 : Nat → Int32) (t_1 : k_T5), (∀ q CL, k_tx M q CL → k_set (k_sm M w_1 f_1 t_1) (k_pt M) CL ∧ r_1 = k_bl M (k_pt M) CL c s d (eg_gi M 12 10).toNatClampNeg) → eg_T wd k_X11_balance Qp 41 4 24 [some (.ref 0), some (.int c), some (.int s), some (.int d), o4] [.long r_1] (k_sm M w_1 f_1 t_1)) :
  eg_T wd k_X11_balance Qp 31 4 24 [some (.ref 0), some (.int c), some (.int s), some (.int d), o4] [] M := by
  refine eg_T_run mk_X11_balance (cut := [31, 41]) 27 ?_
  refine And.intro (show (k_es M ∧ k_pq M ∧ ∃ q CL, k_tx M q CL ∧ k_set M (k_pt M) CL) from ?_) ?_
  · exact g0
  intro r_1 w_1 f_1 t_1 ha_1
  show eg_T wd k_X11_balance Qp 41 4 24 [some (.ref 0), some (.int c), some (.int s), some (.int d), o4] [.long r_1] (k_sm M w_1 f_1 t_1)
  exact l0 r_1 w_1 f_1 t_1 ha_1

set_option maxRecDepth 100000 in
theorem st_X11_balance_41 {Qp : eg_P} {M : eg_M} (o0 : Option Value) (o1 : Option Value) (o2 : Option Value) (o3 : Option Value) (o4 : Option Value) (s0 : Int64)
  (l0 : Qp (.inl (some (.long s0))) M) :
  eg_T wd k_X11_balance Qp 41 4 24 [o0, o1, o2, o3, o4] [.long s0] M := by
  refine eg_T_run mk_X11_balance (cut := [31, 41]) 27 ?_
  show Qp (.inl (some (.long s0))) M
  exact l0

def s_X11_balance : eg_S := fun argv M Qp => match argv with
  | [.ref 0, .int c, .int s, .int d, .int k] => (k_I M) ∧ ∀ (oo : Option Value ⊕ String) (M2 : eg_M), ((¬ ((¬ c < nI 0 ∧ ¬ (eg_gi M 7 4 - nI 1) < c) ∧ (¬ s < nI 0 ∧ ¬ nI 1 < s) ∧ (¬ d < nI 0 ∧ ¬ nI 3599 < d)) ∧ oo = .inr "java/util/NoSuchElementException" ∧ M2 = M) ∨ (((¬ c < nI 0 ∧ ¬ (eg_gi M 7 4 - nI 1) < c) ∧ (¬ s < nI 0 ∧ ¬ nI 1 < s) ∧ (¬ d < nI 0 ∧ ¬ nI 3599 < d)) ∧ ¬ (¬ k < nI 0 ∧ ¬ eg_gi M 0 8 < k) ∧ oo = .inr "java/lang/IllegalArgumentException" ∧ M2 = M) ∨ (((¬ c < nI 0 ∧ ¬ (eg_gi M 7 4 - nI 1) < c) ∧ (¬ s < nI 0 ∧ ¬ nI 1 < s) ∧ (¬ d < nI 0 ∧ ¬ nI 3599 < d)) ∧ (¬ k < nI 0 ∧ ¬ eg_gi M 0 8 < k) ∧ ∃ u w f t q CL r, (∃ L, k_W (k_nw M k u) L ∧ k_lkd (k_nw M k u) L) ∧ k_tx (k_nw M k u) q CL ∧ r = k_bl (k_nw M k u) (k_pt (k_nw M k u)) CL c s d (eg_gi M 12 10).toNatClampNeg ∧ oo = .inl (some (.long r)) ∧ M2 = k_sm (k_nw M k u) w f t ∧ k_I M2)) → Qp oo M2
  | _ => False
theorem mo_X11_balance : eg_mono s_X11_balance := by
  intro argv M Q Q' h
  unfold s_X11_balance
  split
  · exact fun z => ⟨z.1, fun oo M2 y => h _ _ (z.2 oo M2 y)⟩
  · exact id
theorem sz_X11_balance : ∀ argv M Qp, s_X11_balance argv M Qp → (eg_ls0 argv).length ≤ 5 := by
  intro argv M Qp h
  unfold s_X11_balance at h
  split at h
  · exact Nat.le_of_ble_eq_true rfl
  · exact h.elim
theorem sr_X11_balance : ∀ argv M Qp, s_X11_balance argv M Qp → ∃ p0 As, argv = .ref p0 :: As ∧ eg_isO wd M p0 11 = true := by
  intro argv M Qp h
  unfold s_X11_balance at h
  split at h
  · exact ⟨_, _, rfl, rfl⟩
  · exact h.elim
set_option maxRecDepth 100000 in
set_option maxHeartbeats 1000000 in
theorem T_X11_balance {argv : List Value} {M : eg_M} {Qp : eg_P} (h : s_X11_balance argv M Qp) : eg_T wd k_X11_balance Qp 0 0 0 (eg_lsN 5 argv) [] M := by
  unfold s_X11_balance at h
  split at h
  · rename_i c s d k
    obtain ⟨hp, hq⟩ := h
    have hI := hp
    refine st_X11_balance_0 c s d k (fun _ _ _ _ => ⟨hI.2.1.1, hI.1.1⟩) (fun z => ?_) (fun z => ?_) (fun z u hu => ?_)
    · refine hq _ _ (Or.inl ⟨fun y => ?_, rfl, rfl⟩)
      rcases z with w | w | w
      · exact w y.1
      · exact w y.2.1
      · exact w y.2.2
    · exact hq _ _ (Or.inr (Or.inl ⟨⟨z.1, z.2.1, z.2.2.1⟩, z.2.2.2, rfl, rfl⟩))
    · obtain ⟨n, hn, rfl⟩ := k_day hI.2.2.2.2 z.2.2.2.1 z.2.2.2.2
      obtain ⟨hI', hd, hL, hPQ, q, CL, hT, hS⟩ := k_look hn hI hu
      refine st_X11_balance_31 c s d _ ⟨hI'.1, hPQ, q, CL, hT, hS⟩ (fun r w f t hr => ?_)
      refine st_X11_balance_41 _ _ _ _ _ _ (hq _ _ (Or.inr (Or.inr ⟨⟨z.1, z.2.1, z.2.2.1⟩, z.2.2.2, u, w, f, t, q, CL, r, hL, hT, (hr q CL hT).2, rfl, rfl, ?_⟩)))
      exact sm_I hI' hL hPQ (fun q' CL' h' => (hr q' CL' h').1)
    
  · exact h.elim
theorem de_X11_balance : ∀ q ∈ k_X11_balance.1, decode cX11_balance q.1 = .ok q.2 := by decide +kernel
theorem me_X11_balance (g : gl_T) : MT g yX11_balance cX11_balance 5 (some .long) ⟨7, 4, 24, 152⟩ 4 24 s_X11_balance := by
  intro hl
  exact eg_met_of (k := k_X11_balance) (by decide) rfl ⟨Nat.le_refl _, Nat.le_refl _⟩ rfl sz_X11_balance de_X11_balance (fun meth hn => (fc (eg_FL_of wd_c11 (by decide) lf_RX11_12 (fun h => absurd h (by decide))) (fn))) (fun A s H hE => (fn)) (fun p e s m args below meth c Q A ad0 N0 S0 hK hEx hA => (fc (mt_V hl S0 hK hEx hA (me_X11_needCharter g) lm_RX11_94 li_X11_needCharter lx_X11_needCharter ln_RX11 lc_X11_needCharter ⟨rfl, by decide, by decide, by decide +kernel⟩ ⟨rfl, rfl⟩ ⟨by decide, by decide⟩ (ci := 11) rfl rfl eg_auto_rec (by decide)) (fc (mt_V hl S0 hK hEx hA (me_X11_needKind g) lm_RX11_141 li_X11_needKind lx_X11_needKind ln_RX11 lc_X11_needKind ⟨rfl, by decide, by decide, by decide +kernel⟩ ⟨rfl, rfl⟩ ⟨by decide, by decide⟩ (ci := 11) rfl rfl eg_auto_rec (by decide)) (fc (mt_V hl S0 hK hEx hA (me_X11_needDay g) lm_RX11_144 li_X11_needDay lx_X11_needDay ln_RX11 lc_X11_needDay ⟨rfl, by decide, by decide, by decide +kernel⟩ ⟨rfl, rfl⟩ ⟨by decide, by decide⟩ (ci := 11) rfl rfl eg_auto_rec (by decide)) (fc (mt_V hl S0 hK hEx hA (me_X11_needPast g) lm_RX11_147 li_X11_needPast lx_X11_needPast ln_RX11 lc_X11_needPast ⟨rfl, by decide, by decide, by decide +kernel⟩ ⟨rfl, rfl⟩ ⟨by decide, by decide⟩ (ci := 11) rfl rfl eg_auto_rec (by decide)) (fc (mt_V hl S0 hK hEx hA (me_X3_look g) lm_RX11_154 li_X3_look lx_X3_look ln_RX3 lc_X3_look ⟨rfl, by decide, by decide, by decide +kernel⟩ ⟨rfl, rfl⟩ ⟨by decide, by decide⟩ (ci := 3) rfl rfl sr_X3_look (by decide)) (fc (mt_V hl S0 hK hEx hA (me_X3_balanceOf g) lm_RX11_196 li_X3_balanceOf lx_X3_balanceOf ln_RX3 lc_X3_balanceOf ⟨rfl, by decide, by decide, by decide +kernel⟩ ⟨rfl, rfl⟩ ⟨by decide, by decide⟩ (ci := 3) rfl rfl sr_X3_balanceOf (by decide)) (fn)))))))) (fun p e s m args below meth c Qc XC A ad0 N0 P S0 hK hEx hA hlk hout hPX => (fn)) (fun argv M Qp h => T_X11_balance h)

/-! PAIRS: rules -/
theorem vf_ky {K N : eg_M} (h : k_fy K N) : vf [(25, none), (27, none), (28, none), (29, none)] K N := by
  obtain ⟨h1, h2, h3⟩ := h
  refine ⟨h1, fun p k hp => ⟨?_, by unfold eg_gl; rw [h2], by unfold eg_gr; rw [h2]⟩⟩
  refine h3 p k (fun z => ?_) (fun z => ?_)
  · rcases (show p = 27 ∨ p = 28 ∨ p = 29 by omega) with rfl | rfl | rfl <;> exact Bool.noConfusion hp
  · subst z
    exact Bool.noConfusion hp
abbrev ps_md : vf_K := [(121, some 24), (121, some 25), (121, some 26), (121, some 27), (121, some 28), (121, some 29), (121, some 30), (121, some 31), (121, some 32), (121, some 34), (141, none), (142, none), (143, none), (144, none), (145, none), (146, none), (147, none), (148, none)]
theorem vf_md {r : Nat} {K N : eg_M} (h : m_fd r K N) : vf ps_md K N := by
  obtain ⟨h1, h2, h3⟩ := h
  refine ⟨h1, fun p k hp => ⟨?_, by unfold eg_gl; rw [h2], by unfold eg_gr; rw [h2]⟩⟩
  refine h3 p k (fun z => ?_) (fun z => ?_) (fun z => ?_) (fun z => ?_)
  · obtain ⟨rfl, z1, z2, z3⟩ := z
    rcases (show k = 24 ∨ k = 25 ∨ k = 26 ∨ k = 27 ∨ k = 28 ∨ k = 29 ∨ k = 30 ∨ k = 31 ∨ k = 32 ∨ k = 34 by omega) with rfl | rfl | rfl | rfl | rfl | rfl | rfl | rfl | rfl | rfl <;> exact Bool.noConfusion hp
  · obtain ⟨rfl, _⟩ := z
    exact Bool.noConfusion hp
  · rcases (show p = 141 ∨ p = 142 ∨ p = 143 by omega) with rfl | rfl | rfl <;> exact Bool.noConfusion hp
  · rcases (show p = 144 ∨ p = 145 ∨ p = 146 ∨ p = 147 by omega) with rfl | rfl | rfl | rfl <;> exact Bool.noConfusion hp
theorem vf_mono {ps qs : vf_K} {M N : eg_M} (h : vf ps M N) (hs : ∀ p k, vf_t qs p k = false → vf_t ps p k = false) : vf qs M N := ⟨h.1, fun p k hp => h.2 p k (hs p k hp)⟩
theorem vf_app {ps qs : vf_K} {p k : Nat} : vf_t (ps ++ qs) p k = (vf_t ps p k || vf_t qs p k) := by
  induction ps with
  | nil => rfl
  | cons a t ih =>
    show ((Nat.beq a.1 (vf_c p) && vf_o a.2 k) || vf_t (t ++ qs) p k) = (((Nat.beq a.1 (vf_c p) && vf_o a.2 k) || vf_t t p k) || vf_t qs p k)
    rw [ih, Bool.or_assoc]
theorem vf_cat {ps qs : vf_K} {M N X : eg_M} (h : vf ps M N) (h2 : vf qs N X) : vf (ps ++ qs) M X := by
  have a : vf (ps ++ qs) M N := vf_mono h (fun p k hp => by rw [vf_app, Bool.or_eq_false_iff] at hp; exact hp.1)
  have b : vf (ps ++ qs) N X := vf_mono h2 (fun p k hp => by rw [vf_app, Bool.or_eq_false_iff] at hp; exact hp.2)
  exact vf_tr a b
/-- a text that was there before is there still -/
theorem k_rt_up {M N : eg_M} {q : Nat} (hs : ∀ z, z < eg_N wd M → eg_sh wd N z = eg_sh wd M z) (hi : ∀ z, k_tp z → z < eg_N wd M → ∀ j, eg_gi N z j = eg_gi M z j) (hq : q < eg_N wd M) (hr : ∀ j, eg_gr N q j = eg_gr M q j) {L : List (Int32 × List Int32)} (h : k_rt M q L) : k_rt N q L := by
  have hr' : ∀ j, eg_ref (eg_sh wd N q) N q j = eg_ref (eg_sh wd M q) M q j := fun j => by
    rw [hs q hq]
    unfold eg_ref
    rw [hr]
  have hlt : ∀ p, eg_is wd M p 1 = true → p < eg_N wd M := fun p hp => eg_sh_lt (fun e => by
    unfold eg_is at hp
    rw [e] at hp
    exact Bool.noConfusion hp)
  have his : ∀ p k, p < eg_N wd M → eg_is wd N p k = eg_is wd M p k := fun p k hp => by
    unfold eg_is
    rw [hs p hp]
  have hl : ∀ p, p < eg_N wd M → eg_len wd N p = eg_len wd M p := fun p hp => by
    unfold eg_len
    rw [hs p hp]
  obtain ⟨a3, e1, e2, e3, e4, e5, e6⟩ := h
  have l3 := hlt a3 e2
  refine ⟨a3, by rw [hr']; exact e1, by rw [his a3 1 l3]; exact e2, e3, by rw [hl a3 l3]; exact e4, e5, fun i hi' => ?_⟩
  obtain ⟨f1, ⟨a4, a5, u, s1, s2, s3, s4, s5, s6, s7, s8, s9, t1, t2, t3, t4⟩, f3⟩ := e6 i hi'
  have l4 := hlt a4 s3
  have l5 := hlt a5 s4
  refine ⟨(hi a3 e3 l3 i).trans f1, ⟨a4, a5, u, by rw [hr']; exact s1, by rw [hr']; exact s2, by rw [his _ _ l4]; exact s3, by rw [his _ _ l5]; exact s4, s5, s6, by rw [hl _ l4]; exact s7, by rw [hl _ l4]; exact s8, ?_, (hi a4 s5 l4 i).trans t1, by rw [hl _ l5]; exact t2, by rw [hl _ l5]; exact t3, fun j hj => (hi a5 s6 l5 _).trans (t4 j hj)⟩, f3⟩
  rcases s9 with z | z
  · exact Or.inl z
  · exact Or.inr ⟨z.1, (hi a4 s5 l4 _).trans z.2⟩
abbrev ps_r0 : vf_K := [(1, some 4), (23, some 0), (23, some 3), (25, none), (27, none), (28, none), (29, none), (177, none), (121, some 1), (121, some 23), (121, some 33), (121, some 24), (121, some 25), (121, some 26), (121, some 27), (121, some 28), (121, some 29), (121, some 30), (121, some 31), (121, some 32), (121, some 34)]
/-- the model's table of a text that is not the one being read -/
theorem md_ru {r i : Nat} {K N : eg_M} {CL : List (Int32 × List Int32 × List Int32)} (h : m_fd r K N) (hir : ¬ i = r) (hu : m_ru K i CL) : m_ru N i CL := by
  obtain ⟨_, _, h3⟩ := h
  refine cg_ru (h3 141 i (by omega) (by omega) (by omega) (by omega)) (fun x hx => ⟨h3 144 _ (by omega) (by omega) (by omega) (by omega), h3 145 _ (by omega) (by omega) (by omega) (by omega), h3 146 _ (by omega) (by omega) (by omega) (by omega), h3 147 _ (by omega) (by omega) (by omega) (by omega)⟩) (fun a b P hb ha z => ?_) hu
  refine m_sl_of (fun j h1 h2 => h3 148 j (by omega) (by omega) (by omega) (by omega)) z
theorem r_tx_md {r : Nat} {K N : eg_M} (h : m_fd r K N) (hr : (eg_gi K 23 2).toNatClampNeg ≤ r) (a : r_tx K) : r_tx N := by
  have hf := vf_md h
  obtain ⟨a1, ⟨a2, a3, a4⟩, a5⟩ := a
  have s := vf_sm (rs := [(121, some 35), (23, some 2), (24, none), (30, none), (31, none), (32, none), (33, none), (140, none), (178, none)]) hf rfl
  have hm : ∀ p, 178 ≤ p → ∀ j, vf_t [(121, some 35), (23, some 2), (24, none), (30, none), (31, none), (32, none), (33, none), (140, none), (178, none)] p j = true := fun p hp j => (vf_178 hp j).trans rfl
  have htp : ∀ b, k_tp b → ∀ j, eg_gi N b j = eg_gi K b j := fun b hb j => by
    unfold k_tp at hb
    rcases (show b = 31 ∨ b = 32 ∨ b = 33 ∨ 178 ≤ b by omega) with rfl | rfl | rfl | z
    · exact sm_i s rfl
    · exact sm_i s rfl
    · exact sm_i s rfl
    · exact sm_i s (hm b z j)
  refine ⟨(sm_i s rfl).trans (a1.trans (sm_i s rfl).symm), ⟨k_rt_ofR hf.1 (fun j => sm_r s rfl) htp a2, (sm_i s rfl).trans a3, (sm_i s rfl).trans a4⟩, fun i hi => ?_⟩
  rw [show eg_gi N 23 2 = eg_gi K 23 2 from sm_i s rfl] at hi
  obtain ⟨q, CL, b1, b2, b3, b4, b5, b6, b7, b8, b9, b0⟩ := a5 i hi
  have e : ∀ j, eg_gi N q j = eg_gi K q j := fun j => sm_i s (hm q b2 j)
  have hir : ¬ i = r := by omega
  have h3 := h.2.2
  refine ⟨q, CL, (show eg_gr N 24 i = eg_gr K 24 i from sm_r s rfl).trans b1, b2, by unfold eg_N at b3 ⊢; rw [hf.1]; exact b3, ?_, ?_, ?_, by rw [e]; exact b7, k_rt_ofR hf.1 (fun j => sm_r s (hm q b2 j)) htp b8, md_ru h hir b9, b0⟩
  · rw [e, show eg_gi N 140 i = eg_gi K 140 i from sm_i s rfl]
    exact b4
  · rw [e, h3 142 i (by omega) (by omega) (by omega) (by omega)]
    exact b5
  · rw [e, h3 143 i (by omega) (by omega) (by omega) (by omega)]
    exact b6
theorem es_of {M N : eg_M} (h : sm [(12, some 10), (22, none), (19, none), (14, none), (8, none), (9, none), (36, none)] M N) (a : k_es M) : k_es N := by
  obtain ⟨⟨L, b1⟩, b2, b3, b4⟩ := a
  have e0 : eg_gi N 12 10 = eg_gi M 12 10 := sm_i h rfl
  refine ⟨⟨L, cg_W e0 (fun j => sm_i h rfl) (fun j => sm_i h rfl) (fun j => sm_i h rfl) b1⟩, fun c hc => ?_, fun j hj => ?_, fun e he => ?_⟩
  · rw [show eg_gi N 8 c = eg_gi M 8 c from sm_i h rfl, show eg_gi N 9 c = eg_gi M 9 c from sm_i h rfl]
    exact b2 c hc
  · rw [show eg_gi N 36 j = eg_gi M 36 j from sm_i h rfl]
    exact b3 j hj
  · rw [e0] at he
    rw [show eg_gi N 19 e = eg_gi M 19 e from sm_i h rfl]
    exact b4 e he
abbrev ps_c1 : vf_K := [(23, some 0), (23, some 3), (25, none), (27, none), (28, none), (29, none)]
abbrev ps_m0 : vf_K := [(177, none), (121, some 1), (121, some 23), (121, some 33)]
/-- nothing new is told: the tape is empty, the fault known to both -/
theorem ru_same {M N : eg_M} {x : Int32} (hA : r_A M) (hf : vf (ps_c1 ++ (ps_m0 ++ ps_md)) (eg_si M 1 4 (-nI 1)) N) (hx : r_tx N) (c1 : eg_gi N 23 0 = nI 0) (c2 : eg_gi N 121 23 = nI 0) (c3 : eg_gi N 23 3 = x) (c4 : eg_gi N 121 33 = x) : r_A N := by
  have h0 : vf [(1, some 4)] M (eg_si M 1 4 (-nI 1)) := vf_si vf_0 rfl
  have hf2 := vf_cat h0 hf
  refine rA_k hf2 hA (Or.inr (kp_I (vf_sm hf rfl) (fg_I hA.1))) (Or.inl rfl) (Or.inl rfl) (Or.inl rfl) (Or.inr ?_) (Or.inr hx) (Or.inl rfl) (Or.inl rfl) (Or.inl rfl) (Or.inl rfl) (Or.inl rfl) (Or.inl rfl)
  obtain ⟨t1, t2, t3, t4, t5⟩ := hA.2.2.2.2.1
  have s := vf_sm (rs := [(139, none), (26, none)]) hf2 rfl
  refine ⟨c2.trans c1.symm, c4.trans c3.symm, ⟨0, by decide, c1⟩, fun j => ?_, fun j hj => ?_⟩
  · rw [show eg_gi N 139 j = eg_gi M 139 j from sm_i s rfl, show eg_gi N 26 j = eg_gi M 26 j from sm_i s rfl]
    exact t4 j
  · rw [show eg_gi N 26 j = eg_gi M 26 j from sm_i s rfl]
    exact t5 j hj
theorem vf_nil {ps qs : vf_K} {M N : eg_M} (h : vf ps M N) : vf (ps ++ qs) M N := vf_mono h (fun p k hp => by rw [vf_app, Bool.or_eq_false_iff] at hp; exact hp.1)
theorem vf_nil2 {ps qs : vf_K} {M N : eg_M} (h : vf qs M N) : vf (ps ++ qs) M N := vf_mono h (fun p k hp => by rw [vf_app, Bool.or_eq_false_iff] at hp; exact hp.2)
/-- a text more, for both -/
theorem ru_new {M Y N X1 N1 M2 : eg_M} {t : Nat} {CL : List px_K} {p r : Int32} (hA : r_A M) (ht : t < 8) (et : eg_gi M 23 2 = nI t) (hY : vf ([(1, some 4)] ++ (ps_c1 ++ [(23, some 2)])) M Y) (cY : eg_gi Y 1 4 = -nI 1) (y0 : eg_gi Y 23 0 = nI 0) (y2 : eg_gi Y 23 2 = nI (t + 1)) (y3 : eg_gi Y 23 3 = -nI 1) (hN : k_tnw Y N t (eg_gi M 0 8) CL p r) (hko : ∀ c ∈ CL, px_ko c) (hp : px_pr p) (hX : vf ps_m0 N X1) (x23 : eg_gi X1 121 23 = nI 0) (x33 : eg_gi X1 121 33 = -nI 1) (hD : m_fd t X1 N1) (hu : m_ru N1 t CL) (u2 : eg_gi N1 142 t = p) (u3 : eg_gi N1 143 t = r) (hM2 : M2 = eg_si (eg_si N1 140 t (eg_gi M 121 2)) 121 35 (nI (t + 1))) : r_A M2 := by
  obtain ⟨n1, n2, n3, n4, n5, n6, n7⟩ := hN
  have eY : eg_N wd Y = eg_N wd M := by unfold eg_N; rw [hY.1]
  rw [eY] at n1 n2 n3 n4 n5 n6 n7
  have h178 : 178 ≤ eg_N wd M := Nat.le_add_right 178 _
  have hD' := vf_md hD
  have hXM : vf (ps_m0 ++ (ps_md ++ [(140, none), (121, some 35)])) N M2 := vf_cat hX (vf_cat hD' (by rw [hM2]; exact vf_si (vf_si vf_0 rfl) rfl))
  have e1 : M2.1 = N.1 := hXM.1
  have hsh : ∀ z, z < eg_N wd M → eg_sh wd M2 z = eg_sh wd M z := fun z hz => by
    rw [eg_sh_of e1, (n2 z hz).1, eg_sh_of hY.1]
  have hNM : eg_N wd M2 = eg_N wd M + 4 := by
    rw [← n1]
    unfold eg_N
    rw [e1]
  have ge : ∀ z j, z < eg_N wd M → vf_t ([(1, some 4)] ++ (ps_c1 ++ [(23, some 2)])) z j = false → vf_t (ps_m0 ++ (ps_md ++ [(140, none), (121, some 35)])) z j = false → eg_gi M2 z j = eg_gi M z j ∧ eg_gl M2 z j = eg_gl M z j ∧ (¬ z = 24 → eg_gr M2 z j = eg_gr M z j) := fun z j hz v1 v2 => by
    obtain ⟨a1, a2, a3⟩ := hXM.2 z j v2
    obtain ⟨b1, b2, b3⟩ := hY.2 z j v1
    obtain ⟨_, c2, c3, c4⟩ := n2 z hz
    refine ⟨a1.trans ((congrFun c2 j).trans b1), a2.trans ((congrFun c3 j).trans b2), fun hz24 => a3.trans ((c4 j).trans ?_)⟩
    rw [if_neg (fun y => hz24 y.1)]
    exact b3
  have hF : vf ([(1, some 4)] ++ (ps_c1 ++ ([(23, some 2)] ++ (ps_m0 ++ (ps_md ++ [(140, none), (121, some 35), (24, none), (178, none)]))))) M (M.1, M2.2) := by
    refine ⟨rfl, fun z j hz => ?_⟩
    have q : z < 178 := by
      refine Nat.lt_of_not_le (fun y => ?_)
      rw [vf_178 y j] at hz
      exact Bool.noConfusion hz
    simp only [vf_app, Bool.or_eq_false_iff] at hz
    obtain ⟨w1, w2, w3, w4, w5, w6⟩ := hz
    have w7 : vf_t [(140, none), (121, some 35)] z j = false ∧ ¬ z = 24 := by
      rw [show ([(140, none), (121, some 35), (24, none), (178, none)] : vf_K) = [(140, none), (121, some 35)] ++ [(24, none), (178, none)] from rfl, vf_app, Bool.or_eq_false_iff] at w6
      refine ⟨w6.1, ?_⟩
      rintro rfl
      exact Bool.noConfusion w6.2
    obtain ⟨g1, g2, g3⟩ := ge z j (by omega) (by rw [vf_app, vf_app, w1, w2, w3]; rfl) (by rw [vf_app, vf_app, w4, w5, w7.1]; rfl)
    exact ⟨g1, g2, g3 w7.2⟩
  have hall : ∀ z j, z < eg_N wd M → (k_tp z ∨ z = 30) → eg_gi M2 z j = eg_gi M z j ∧ eg_gr M2 z j = eg_gr M z j := fun z j hz hk => by
    have v1 : ∀ ps : vf_K, vf_t ps 31 j = false → vf_t ps 32 j = false → vf_t ps 33 j = false → vf_t ps 30 j = false → vf_t ps 178 j = false → vf_t ps z j = false := fun ps a1 a2 a3 a4 a5 => by
      unfold k_tp at hk
      rcases (show z = 31 ∨ z = 32 ∨ z = 33 ∨ z = 30 ∨ 178 ≤ z by omega) with rfl | rfl | rfl | rfl | y
      · exact a1
      · exact a2
      · exact a3
      · exact a4
      · rw [vf_178 y]; exact a5
    obtain ⟨g1, _, g3⟩ := ge z j hz (v1 _ rfl rfl rfl rfl rfl) (v1 _ rfl rfl rfl rfl rfl)
    exact ⟨g1, g3 (by unfold k_tp at hk; omega)⟩
  have hrt : ∀ q CL, q < eg_N wd M → (k_tp q ∨ q = 30) → k_rt M q CL → k_rt M2 q CL := fun q CL hq hk h => k_rt_up hsh (fun z hz hz2 j => (hall z j hz2 (Or.inl hz)).1) hq (fun j => (hall q j hq hk).2) h
  have hisO : ∀ q, q < eg_N wd M → eg_isO wd M2 q 8 = eg_isO wd M q 8 := fun q hq => by
    unfold eg_isO
    rw [hsh q hq]
  have g24 : ∀ i, eg_gr M2 24 i = if i = t then some (eg_N wd M) else eg_gr M 24 i := fun i => by
    have a1 := (hXM.2 24 i rfl).2.2
    have a2 := (n2 24 (by omega)).2.2.2 i
    have a3 := (hY.2 24 i rfl).2.2
    rw [a1, a2, a3]
    by_cases q : i = t
    · rw [if_pos ⟨rfl, q⟩, if_pos q]
    · rw [if_neg (fun y => q y.2), if_neg q]
  have g23 : eg_gi M2 23 2 = nI (t + 1) := (hXM.2 23 2 rfl).1.trans ((congrFun (n2 23 (by omega)).2.1 2).trans y2)
  have g230 : eg_gi M2 23 0 = nI 0 := (hXM.2 23 0 rfl).1.trans ((congrFun (n2 23 (by omega)).2.1 0).trans y0)
  have g233 : eg_gi M2 23 3 = -nI 1 := (hXM.2 23 3 rfl).1.trans ((congrFun (n2 23 (by omega)).2.1 3).trans y3)
  have g14 : eg_gi M2 1 4 = -nI 1 := (hXM.2 1 4 rfl).1.trans ((congrFun (n2 1 (by omega)).2.1 4).trans cY)
  have gq : ∀ j, eg_gi M2 (eg_N wd M) j = eg_gi N (eg_N wd M) j := fun j => (hXM.2 _ j ((vf_178 h178 j).trans rfl)).1
  have gq2 : ∀ j, eg_gr M2 (eg_N wd M) j = eg_gr N (eg_N wd M) j := fun j => (hXM.2 _ j ((vf_178 h178 j).trans rfl)).2.2
  have krt : k_rt M2 (eg_N wd M) (px_tx CL) := k_rt_ofR e1 gq2 (fun a ha j => (hXM.2 a j (by
    unfold k_tp at ha
    rcases (show a = 31 ∨ a = 32 ∨ a = 33 ∨ 178 ≤ a by omega) with rfl | rfl | rfl | y
    · rfl
    · rfl
    · rfl
    · exact (vf_178 y j).trans rfl)).1) n7
  have isq : eg_isO wd M2 (eg_N wd M) 8 = true := by
    unfold eg_isO at n3 ⊢
    rw [eg_sh_of e1]
    exact n3
  obtain ⟨P, hP, eP⟩ := hp
  have tqn : k_tq M2 (eg_N wd M) := ⟨isq, ⟨_, krt⟩, P, hP, by rw [gq, n5, eP, nI_l (by omega)]⟩
  obtain ⟨a1, a2, a3, a4, a5, a6, a7, a8, a9, a10, a11, a12⟩ := hA
  have tqo : ∀ q, q < eg_N wd M → (k_tp q ∨ q = 30) → k_tq M q → k_tq M2 q := fun q hq hk ⟨b1, ⟨CL, b2⟩, P, b3, b4⟩ => ⟨by rw [hisO q hq]; exact b1, ⟨CL, hrt q CL hq hk b2⟩, P, b3, by rw [(hall q 1 hq hk).1]; exact b4⟩
  have hlt : ∀ i, i < (eg_gi M2 23 2).toNatClampNeg ↔ i < t + 1 := fun i => by rw [g23, n_c (by omega)]
  have hltM : ∀ i, i < (eg_gi M 23 2).toNatClampNeg ↔ i < t := fun i => by rw [et, n_c (by omega)]
  refine ⟨⟨(es_of (vf_sm hF rfl) a1.1 : k_es (M.1, M2.2)), ⟨⟨⟨t + 1, by omega, g23⟩, fun i hi => ?_⟩, tqo 30 (by omega) (Or.inr rfl) a1.2.1.2.1, fun i hi q hq => ?_⟩, Or.inl g14, ?_, ?_⟩, (kp_tw (vf_sm hF rfl) a2 : r_tw (M.1, M2.2)), (kp_ch (vf_sm hF rfl) a3 : r_ch (M.1, M2.2)), (kp_ev (vf_sm hF rfl) a4 : r_ev (M.1, M2.2)), ?_, ?_, (kp_ho (vf_sm hF rfl) a7 : r_ho (M.1, M2.2)), (kp_lo (vf_sm hF rfl) a8 : r_lo (M.1, M2.2)), (kp_pl (vf_sm hF rfl) a9 : r_pl (M.1, M2.2)), (kp_pn (vf_sm hF rfl) a10 : r_pn (M.1, M2.2)), (kp_wi (vf_sm hF rfl) a11 : r_wi (M.1, M2.2)), (kp_fr (vf_sm hF rfl) a12 : r_fr (M.1, M2.2))⟩
  · rw [hlt] at hi
    rw [g24]
    by_cases q : i = t
    · rw [if_pos q]
      exact ⟨_, rfl, isq⟩
    · rw [if_neg q]
      obtain ⟨q', CL', b1, b2, b3, _⟩ := a6.2.2 i ((hltM i).mpr (by omega))
      obtain ⟨q2, c1, c2⟩ := a1.2.1.1.2 i ((hltM i).mpr (by omega))
      rw [b1] at c1
      cases c1
      exact ⟨q', b1, by rw [hisO q' b3]; exact c2⟩
  · rw [hlt] at hi
    rw [g24] at hq
    by_cases z : i = t
    · rw [if_pos z] at hq
      cases hq
      exact tqn
    · rw [if_neg z] at hq
      obtain ⟨q', CL', b1, b2, b3, _⟩ := a6.2.2 i ((hltM i).mpr (by omega))
      rw [b1] at hq
      have hqq : q' = q := Option.some.inj hq
      rw [← hqq]
      exact tqo q' b3 (Or.inl (Or.inr b2)) (a1.2.1.2.2 i ((hltM i).mpr (by omega)) q' b1)
  · have : eg_gi M2 7 4 = eg_gi M 7 4 := (hF.2 7 4 rfl).1
    rw [this]
    exact a1.2.2.2.1
  · have : eg_gi M2 0 8 = eg_gi M 0 8 := (hF.2 0 8 rfl).1
    rw [this]
    exact a1.2.2.2.2
  · have m23 : eg_gi M2 121 23 = nI 0 := by
      rw [hM2, si_g, if_neg (by omega), si_g, if_neg (by omega)]
      exact (hD'.2 121 23 rfl).1.trans x23
    have m33 : eg_gi M2 121 33 = -nI 1 := by
      rw [hM2, si_g, if_neg (by omega), si_g, if_neg (by omega)]
      exact (hD'.2 121 33 rfl).1.trans x33
    refine ⟨m23.trans g230.symm, m33.trans g233.symm, ⟨0, by decide, g230⟩, fun j => ?_, fun j hj => ?_⟩
    · rw [show eg_gi M2 139 j = eg_gi M 139 j from (hF.2 139 j rfl).1, show eg_gi M2 26 j = eg_gi M 26 j from (hF.2 26 j rfl).1]
      exact a5.2.2.2.1 j
    · rw [show eg_gi M2 26 j = eg_gi M 26 j from (hF.2 26 j rfl).1]
      exact a5.2.2.2.2 j hj
  · have c35 : eg_gi M2 121 35 = nI (t + 1) := by rw [hM2, si_g, if_pos ⟨rfl, rfl⟩]
    have h140 : ∀ i, eg_gi M2 140 i = if i = t then eg_gi M 121 2 else eg_gi M 140 i := fun i => by
      rw [hM2, si_g, if_neg (by omega), si_g]
      by_cases q : i = t
      · rw [if_pos ⟨rfl, q⟩, if_pos q]
      · rw [if_neg (fun y => q y.2), if_neg q, (hD'.2 140 i rfl).1, (hX.2 140 i rfl).1]
        exact (congrFun (n2 140 (by omega)).2.1 i).trans (hY.2 140 i rfl).1
    have m2N : ∀ p j, 141 ≤ p → p ≤ 148 → eg_gi M2 p j = eg_gi N1 p j := fun p j h1 h2 => by
      rw [hM2, si_g, if_neg (by omega), si_g, if_neg (by omega)]
    have x1M : ∀ p j, 141 ≤ p → p ≤ 148 → eg_gi X1 p j = eg_gi M p j := fun p j h1 h2 => by
      have v1 : vf_t ps_m0 p j = false ∧ vf_t ([(1, some 4)] ++ (ps_c1 ++ [(23, some 2)])) p j = false := by
        rcases (show p = 141 ∨ p = 142 ∨ p = 143 ∨ p = 144 ∨ p = 145 ∨ p = 146 ∨ p = 147 ∨ p = 148 by omega) with rfl | rfl | rfl | rfl | rfl | rfl | rfl | rfl <;> exact ⟨rfl, rfl⟩
      exact (hX.2 p j v1.1).1.trans ((congrFun (n2 p (by omega)).2.1 j).trans (hY.2 p j v1.2).1)
    have ruM2 : ∀ i CL, m_ru N1 i CL → m_ru M2 i CL := fun i CL h => cg_ru (m2N _ _ (by omega) (by omega)) (fun x _ => ⟨m2N _ _ (by omega) (by omega), m2N _ _ (by omega) (by omega), m2N _ _ (by omega) (by omega), m2N _ _ (by omega) (by omega)⟩) (fun a b P _ _ z => m_sl_of (fun j _ _ => m2N _ _ (by omega) (by omega)) z) h
    have ruX : ∀ i CL, m_ru M i CL → m_ru X1 i CL := fun i CL h => cg_ru (x1M _ _ (by omega) (by omega)) (fun x _ => ⟨x1M _ _ (by omega) (by omega), x1M _ _ (by omega) (by omega), x1M _ _ (by omega) (by omega), x1M _ _ (by omega) (by omega)⟩) (fun a b P _ _ z => m_sl_of (fun j _ _ => x1M _ _ (by omega) (by omega)) z) h
    refine ⟨c35.trans g23.symm, ⟨hrt 30 [] (by omega) (Or.inr rfl) a6.2.1.1, (hall 30 1 (by omega) (Or.inr rfl)).1.trans a6.2.1.2.1, (hall 30 2 (by omega) (Or.inr rfl)).1.trans a6.2.1.2.2⟩, fun i hi => ?_⟩
    rw [hlt] at hi
    by_cases z : i = t
    · subst z
      refine ⟨eg_N wd M, CL, by rw [g24, if_pos rfl], h178, by omega, ?_, ?_, ?_, ?_, krt, ruM2 _ _ hu, hko⟩
      · rw [h140, if_pos rfl, gq, n4]
        exact a3.1
      · rw [m2N _ _ (by omega) (by omega), u2, gq, n5]
      · rw [m2N _ _ (by omega) (by omega), u3, gq, n6]
      · rw [gq, n5]
        exact ⟨P, hP, eP⟩
    · obtain ⟨q', CL', b1, b2, b3, b4, b5, b6, b7, b8, b9, b0⟩ := a6.2.2 i ((hltM i).mpr (by omega))
      have h3 := hD.2.2
      have eq' : ∀ j, eg_gi M2 q' j = eg_gi M q' j := fun j => (hall q' j b3 (Or.inl (Or.inr b2))).1
      refine ⟨q', CL', by rw [g24, if_neg z]; exact b1, b2, by omega, ?_, ?_, ?_, by rw [eq']; exact b7, hrt q' _ b3 (Or.inl (Or.inr b2)) b8, ruM2 _ _ (md_ru hD z (ruX _ _ b9)), b0⟩
      · rw [h140, if_neg z, eq']
        exact b4
      · rw [m2N _ _ (by omega) (by omega), h3 142 i (by omega) (by omega) (by omega) (by omega), x1M _ _ (by omega) (by omega), eq']
        exact b5
      · rw [m2N _ _ (by omega) (by omega), h3 143 i (by omega) (by omega) (by omega) (by omega), x1M _ _ (by omega) (by omega), eq']
        exact b6
theorem pr_rules (a : Int32) : pr ag_i hI1 s_X11_rules s_X12_rules [.int a] := by
  intro M hA
  obtain ⟨t1, t2, t3, t4, t5⟩ := hA.2.2.2.2.1
  obtain ⟨x1, x2, x3⟩ := hA.2.2.2.2.2.1
  have h8 := hA.1.2.1.1.1
  have ktb : k_tb M := fun j hj => by
    obtain ⟨m, hm, em⟩ := t5 j hj
    rw [em]
    exact (n_le (i := 0) (by decide) (by omega)).mpr (Nat.zero_le _)
  have h139 : eg_gi M 139 = eg_gi M 26 := funext t4
  have mtb : ∀ j, j < 400 → ∃ m, m < 256 ∧ eg_gi M 139 j = nI m := fun j hj => by rw [t4]; exact t5 j hj
  obtain ⟨t, ht, et⟩ := h8
  have r_z : ∀ x y : Nat, x < 2 ^ 31 → y < 2 ^ 31 → nI x = nI y → x = y := fun x y hx hy h => (n_eq hx hy).mp h
  refine ⟨⟨t3, ktb, ⟨t, ht, et⟩⟩, fun oo N hN w => ?_⟩
  rcases hN with ⟨z, rfl, rfl⟩ | ⟨z, v, rfl, hN⟩
  · refine ⟨⟨by rw [show eg_gi (eg_sl N 177 0 w) 121 23 = eg_gi N 23 0 from t1]; exact t3, mtb, by rw [show eg_gi (eg_sl N 177 0 w) 121 35 = eg_gi N 23 2 from x1]; exact ⟨t, ht, et⟩⟩, fun v M2 h => ?_⟩
    rcases h with ⟨y, rfl, rfl⟩ | ⟨y, _⟩
    · exact ⟨rA_c hA, rfl, ag_I1 rfl⟩
    · rw [show eg_gi (eg_sl N 177 0 w) 121 23 = eg_gi N 23 0 from t1] at y
      exact absurd y z
  · have eK : eg_gi (eg_si M 1 4 (-nI 1)) 23 2 = nI t := et
    have kz : vf [(23, some 0), (23, some 3)] (eg_si M 1 4 (-nI 1)) (k_z0 (eg_si M 1 4 (-nI 1))) := vf_si (vf_si vf_0 rfl) rfl
    have h0 : vf [(1, some 4)] M (eg_si M 1 4 (-nI 1)) := vf_si vf_0 rfl
    unfold k_hr at hN
    rw [eK, n_c (by omega)] at hN
    rcases hN with ⟨h8, rfl, rfl⟩ | ⟨h8, hN⟩
    · have t8 : t = 8 := by omega
      subst t8
      have X23 : eg_gi (eg_sl (k_z0 (eg_si M 1 4 (-nI 1))) 177 0 w) 121 23 = eg_gi M 23 0 := t1
      have X35 : eg_gi (eg_sl (k_z0 (eg_si M 1 4 (-nI 1))) 177 0 w) 121 35 = nI 8 := x1.trans et
      refine ⟨⟨by rw [X23]; exact t3, mtb, by rw [X35]; exact ⟨8, by decide, rfl⟩⟩, fun v M2 h => ?_⟩
      unfold m_hr at h
      rw [X23, X35] at h
      rcases h with ⟨y, _⟩ | ⟨_, ⟨_, rfl, rfl⟩ | ⟨r, n, hr, _, _, er, _⟩⟩
      · exact absurd z y
      · have hf : vf (ps_c1 ++ (ps_m0 ++ ps_md)) (eg_si M 1 4 (-nI 1)) (m_z0 (eg_sl (k_z0 (eg_si M 1 4 (-nI 1))) 177 0 w)) := vf_si (vf_si (vf_si (vf_sl (vf_si (vf_si vf_0 rfl) rfl) rfl) rfl) rfl) rfl
        have hf3 : vf [(1, some 4), (23, some 0), (23, some 3), (177, none), (121, some 1), (121, some 23), (121, some 33)] M (m_z0 (eg_sl (k_z0 (eg_si M 1 4 (-nI 1))) 177 0 w)) := vf_si (vf_si (vf_si (vf_sl (vf_si (vf_si (vf_si vf_0 rfl) rfl) rfl) rfl) rfl) rfl) rfl
        exact ⟨ru_same (x := -nI 1) hA hf (kp_tx (vf_sm hf3 rfl) hA.2.2.2.2.2.1) (by simp [m_z0, k_z0, si_g, sl_gi]) (by simp [m_z0, k_z0, si_g, sl_gi]) (by simp [m_z0, k_z0, si_g, sl_gi]) (by simp [m_z0, k_z0, si_g, sl_gi]), rfl, ag_ok rfl (by simp [m_z0, k_z0, si_g, sl_gi])⟩
      · have := r_z 8 r (by decide) (by omega) er
        omega
    · rcases hN with ⟨e, he, rfl, N0, hN0, rfl⟩ | ⟨tk, CL, p, r, he, hko, hl, hp, hr, rfl, N0, hN0, hT⟩
      · have hy := vf_ky hN0
        have hY : vf ([(23, some 0), (23, some 3)] ++ ([(25, none), (27, none), (28, none), (29, none)] ++ [(23, some 3)])) (eg_si M 1 4 (-nI 1)) (eg_si N0 23 3 (nI e.2)) := vf_cat kz (vf_cat hy (vf_si vf_0 rfl))
        have hYM := vf_cat h0 hY
        have X23 : eg_gi (eg_sl (eg_si N0 23 3 (nI e.2)) 177 0 w) 121 23 = eg_gi M 23 0 := (hYM.2 121 23 rfl).1.trans t1
        have X35 : eg_gi (eg_sl (eg_si N0 23 3 (nI e.2)) 177 0 w) 121 35 = nI t := (hYM.2 121 35 rfl).1.trans (x1.trans et)
        have X139 : eg_gi (eg_sl (eg_si N0 23 3 (nI e.2)) 177 0 w) 139 = eg_gi M 26 := (funext fun j => (hYM.2 139 j rfl).1).trans h139
        refine ⟨⟨by rw [X23]; exact t3, fun j hj => by rw [X139]; exact t5 j hj, by rw [X35]; exact ⟨t, ht, rfl⟩⟩, fun v M2 h => ?_⟩
        unfold m_hr at h
        rw [X23, X35, X139] at h
        rcases h with ⟨y, _⟩ | ⟨_, ⟨y, _⟩ | ⟨r, n, hr, hn, rfl, er, N1, hD, _, _, _, hm⟩⟩
        · exact absurd z y
        · have := r_z t 8 (by omega) (by decide) y
          omega
        · have hrt : r = t := (r_z t r (by omega) (by omega) er).symm
          subst hrt
          rw [n_c (by omega)] at he
          rw [show px_all (eg_gi M 26) n = .inl e from he] at hm
          obtain ⟨rfl, rfl⟩ := hm
          have hx : vf ps_m0 (eg_si N0 23 3 (nI e.2)) (m_z0 (eg_sl (eg_si N0 23 3 (nI e.2)) 177 0 w)) := vf_si (vf_si (vf_si (vf_sl vf_0 rfl) rfl) rfl) rfl
          have hD' := vf_md hD
          have hend : vf [(121, some 33)] N1 (eg_si N1 121 33 (nI e.2)) := vf_si vf_0 rfl
          have hf1 := vf_cat hY (vf_cat hx (vf_cat hD' hend))
          have hf : vf (ps_c1 ++ (ps_m0 ++ ps_md)) (eg_si M 1 4 (-nI 1)) (eg_si N1 121 33 (nI e.2)) := vf_mono hf1 (fun p k hp => by
            simp only [vf_app, Bool.or_eq_false_iff] at hp ⊢
            obtain ⟨q1, q2, q3⟩ := hp
            have q4 : vf_t [(23, some 0), (23, some 3)] p k = false ∧ vf_t [(25, none), (27, none), (28, none), (29, none)] p k = false := by
              rw [show ps_c1 = [(23, some 0), (23, some 3)] ++ [(25, none), (27, none), (28, none), (29, none)] from rfl, vf_app, Bool.or_eq_false_iff] at q1
              exact q1
            have q5 : vf_t [(23, some 3)] p k = false := by
              have := q4.1
              rw [show ([(23, some 0), (23, some 3)] : vf_K) = [(23, some 0)] ++ [(23, some 3)] from rfl, vf_app, Bool.or_eq_false_iff] at this
              exact this.2
            have q6 : vf_t [(121, some 33)] p k = false := by
              have := q2
              rw [show ps_m0 = [(177, none), (121, some 1), (121, some 23)] ++ [(121, some 33)] from rfl, vf_app, Bool.or_eq_false_iff] at this
              exact this.2
            exact ⟨⟨q4.1, q4.2, q5⟩, q2, q3, q6⟩)
          have hxm : r_tx (m_z0 (eg_sl (eg_si N0 23 3 (nI e.2)) 177 0 w)) := kp_tx (vf_sm (vf_cat hYM hx) rfl) hA.2.2.2.2.2.1
          have hx1 : r_tx N1 := r_tx_md hD (by
            rw [show eg_gi (m_z0 (eg_sl (eg_si N0 23 3 (nI e.2)) 177 0 w)) 23 2 = nI r from ((vf_cat hYM hx).2 23 2 rfl).1.trans et, n_c (by omega)]
            exact Nat.le_refl _) hxm
          have hx2 : r_tx (eg_si N1 121 33 (nI e.2)) := kp_tx (vf_sm hend rfl) hx1
          have cc0 : eg_gi N1 23 0 = nI 0 := (hD'.2 23 0 rfl).1.trans ((hx.2 23 0 rfl).1.trans ((si_nj (by decide)).trans ((hy.2 23 0 rfl).1.trans (by simp [k_z0, si_g]))))
          have cc3 : eg_gi N1 23 3 = nI e.2 := (hD'.2 23 3 rfl).1.trans ((hx.2 23 3 rfl).1.trans si_eq)
          have cc1 : eg_gi N1 121 23 = nI 0 := (hD'.2 121 23 rfl).1.trans (by simp [m_z0, si_g])
          have cc2 : eg_gi N1 121 1 = nI 0 := (hD'.2 121 1 rfl).1.trans (by simp [m_z0, si_g])
          have cg : eg_gl N1 177 0 = w := (hD'.2 177 0 rfl).2.1.trans rfl
          exact ⟨ru_same (x := nI e.2) hA hf hx2 ((si_nj (by decide)).trans cc0) ((si_nj (by decide)).trans cc1) (by rw [si_g, if_neg (by decide)]; exact cc3) si_eq, cg, ag_ok rfl ((si_nj (by decide)).trans cc2)⟩
      · have hy := vf_ky hN0
        have hY : vf ([(23, some 0), (23, some 3)] ++ ([(25, none), (27, none), (28, none), (29, none)] ++ [(23, some 2)])) (eg_si M 1 4 (-nI 1)) (eg_si N0 23 2 (nI t + nI 1)) := vf_cat kz (vf_cat hy (vf_si vf_0 rfl))
        have hYM : vf ([(1, some 4)] ++ (ps_c1 ++ [(23, some 2)])) M (eg_si N0 23 2 (nI t + nI 1)) := vf_cat h0 hY
        have eYN : eg_N wd (eg_si N0 23 2 (nI t + nI 1)) = eg_N wd M := by
          unfold eg_N
          rw [hYM.1]
        have h178 : 178 ≤ eg_N wd M := Nat.le_add_right 178 _
        have cN : ∀ p, p < 178 → N.2.1 p = (eg_si N0 23 2 (nI t + nI 1)).2.1 p := fun p hp => (hT.2.1 p (by rw [eYN]; omega)).2.1
        have X23 : eg_gi (eg_sl N 177 0 w) 121 23 = eg_gi M 23 0 := (congrFun (cN 121 (by decide)) 23).trans ((hYM.2 121 23 rfl).1.trans t1)
        have X35 : eg_gi (eg_sl N 177 0 w) 121 35 = nI t := (congrFun (cN 121 (by decide)) 35).trans ((hYM.2 121 35 rfl).1.trans (x1.trans et))
        have X2 : eg_gi (eg_sl N 177 0 w) 121 2 = eg_gi M 121 2 := (congrFun (cN 121 (by decide)) 2).trans (hYM.2 121 2 rfl).1
        have X139 : eg_gi (eg_sl N 177 0 w) 139 = eg_gi M 26 := (funext fun j => (congrFun (cN 139 (by decide)) j).trans (hYM.2 139 j rfl).1).trans h139
        refine ⟨⟨by rw [X23]; exact t3, fun j hj => by rw [X139]; exact t5 j hj, by rw [X35]; exact ⟨t, ht, rfl⟩⟩, fun v M2 h => ?_⟩
        unfold m_hr at h
        rw [X23, X35, X139, X2] at h
        rcases h with ⟨y, _⟩ | ⟨_, ⟨y, _⟩ | ⟨r', n, hr', hn, rfl, er, N1, hD, hrc, _, hok, hm⟩⟩
        · exact absurd z y
        · have := r_z t 8 (by omega) (by decide) y
          omega
        · have hrt : r' = t := (r_z t r' (by omega) (by omega) er).symm
          subst hrt
          rw [n_c (by omega)] at he
          have he' : px_all (eg_gi M 26) n = .inr (tk, CL, p, r) := he
          rw [he'] at hm hrc hok
          obtain ⟨rfl, rfl⟩ := hm
          have hu := m_ru_of hn hrc hok
          have htb := hrc.2
          have hx : vf ps_m0 N (m_z0 (eg_sl N 177 0 w)) := vf_si (vf_si (vf_si (vf_sl vf_0 rfl) rfl) rfl) rfl
          have hD' := vf_md hD
          refine ⟨ru_new (Y := eg_si N0 23 2 (nI r' + nI 1)) (N := N) (X1 := m_z0 (eg_sl N 177 0 w)) (N1 := N1) (t := r') (CL := CL) (p := p) (r := r) hA h8 et hYM ?_ ?_ (by rw [si_g, if_pos ⟨rfl, rfl⟩, n_s]) ?_ hT hko hp hx (by simp [m_z0, si_g]) (by simp [m_z0, si_g]) hD hu htb.2.2.2.1 htb.2.2.2.2 rfl, ?_, ag_ok rfl ?_⟩
          · rw [si_nj (by decide), (hy.2 1 4 rfl).1]
            simp [k_z0, si_g]
          · rw [si_nj (by decide), (hy.2 23 0 rfl).1]
            simp [k_z0, si_g]
          · rw [si_nj (by decide), (hy.2 23 3 rfl).1]
            simp [k_z0, si_g]
          · exact (hD'.2 177 0 rfl).2.1.trans rfl
          · rw [si_nj (by decide), si_g, if_neg (by omega), (hD'.2 121 1 rfl).1]
            simp [m_z0, si_g]

/-! PAIRS: told, balance -/
theorem co_eq {N X : eg_M} {n nC e : Nat} {k : Int32} (h : ly N X n nC k) (he : e < n) {q : Nat} {CL : List (Int32 × List Int32)} (ht : k_tx N q CL) (hr : eg_gi N q 2 = if m_ra X k (eg_gi X 121 35).toNatClampNeg = -nI 1 then nI 20 else eg_gi X 143 (m_ra X k (eg_gi X 121 35).toNatClampNeg).toNatClampNeg) : k_co N e = m_co X (nI e) k := by
  have hn200 := h.1.2.1
  obtain ⟨⟨_, _, e3, _, e5, _⟩, _⟩ := h.2.2.2.1 e he
  unfold k_co m_co
  rw [n_c (by omega), e3, e5, ht.1, ← hr]
  rfl
theorem td_core {N X : eg_M} {n nC e : Nat} {k w : Int32} {v v' : Int64} {L : List Nat} (h : ly N X n nC k) (hty : ty N X) (hW : k_W N L) (hl : k_lkd N L) {q : Nat} {CL : List (Int32 × List Int32)} (ht : k_tx N q CL) (he : e < n) (hw : ¬ w < 0 ∧ w ≤ nI 3)
    (hk : (w = nI 0 ∧ v = if (if eg_gi N 13 e = 0 then k_kn N e else k_ct N e) = true then lN 1 else lN 0) ∨ (¬ w = nI 0 ∧ ¬ k_vc N e ∧ v = lN 0) ∨ (w = nI 3 ∧ k_vc N e ∧ v = k_co N e) ∨ (w = nI 1 ∧ k_vc N e ∧ v = lN (k_cl N CL e)) ∨ (w = nI 2 ∧ k_vc N e ∧ v = lN (k_ge N (k_pt N) CL e)))
    (hm : m_tv X (nI e) w k v') : v = v' := by
  obtain ⟨hn1, hn2⟩ := ly_n h
  have hn200 := h.1.2.1
  have ie : (nI e).toNatClampNeg = e := n_c (by omega)
  obtain ⟨⟨e1, _⟩, _⟩ := h.2.2.2.1 e he
  have e34 : ∀ c, c < 24 → eg_gi N 34 c = k_bf N (nI c) n := fun c hc => by rw [← hn1]; exact hl.2.1 c hc
  obtain ⟨CM, P, r1, r2, r3, r4, r5, r6, r7⟩ := tx_on hty (k := k) (by rw [← h.2.2.1.1]; exact hl.1) ht
  have hLo : k_ord (eg_gi N 19) n L := by rw [← hn1]; exact hW.2.2.1
  unfold m_tv at hm
  rw [ie, e1] at hm
  by_cases z0 : eg_gi N 13 e = 0
  · rw [if_pos z0] at hm
    have nvc : ¬ k_vc N e := fun y => by
      have := y.1
      rw [z0] at this
      exact absurd this (by decide)
    have w0 : nI 0 = (0 : Int32) := rfl
    rcases hk with ⟨rfl, y⟩ | ⟨y1, _, y3⟩ | ⟨_, y2, _⟩ | ⟨_, y2, _⟩ | ⟨_, y2, _⟩
    · rw [y, hm, if_pos z0, kn_eq h he]
      by_cases z : m_kn X e k = true
      · rw [if_pos z, if_pos ⟨rfl, z⟩]
      · rw [if_neg z, if_neg (fun y => z y.2)]
    · rw [y3, hm, if_neg (fun y => y1 y.1)]
    · exact absurd y2 nvc
    · exact absurd y2 nvc
    · exact absurd y2 nvc
  · rw [if_neg z0] at hm
    obtain ⟨A, f, cl, g, ⟨t1, t2, t3, t4⟩, hm⟩ := hm
    rw [hn2] at t1
    have eA := lay_eq h e34 hLo t1
    have hAn : ∀ e ∈ A, e < n := fun e he => ((t1.2.2 e).mp he).1
    have hmem : e ∈ A ↔ k_ct N e = true := by
      rw [eA, List.mem_filter, hLo.2.2]
      exact ⟨fun y => y.2, fun y => ⟨he, y⟩⟩
    have hcl := t3 CM r1
    rcases hm with ⟨y1, y2⟩ | ⟨i, hi, y1, y2⟩
    · have nct : ¬ k_ct N e = true := fun y => y1 (hmem.mpr y)
      have nvc : ¬ k_vc N e := fun y => nct y.2
      rcases hk with ⟨rfl, y⟩ | ⟨_, _, y3⟩ | ⟨_, y2, _⟩ | ⟨_, y2, _⟩ | ⟨_, y2, _⟩
      · rw [y, y2, if_neg z0, if_neg nct]
      · rw [y3, y2]
      · exact absurd y2 nvc
      · exact absurd y2 nvc
      · exact absurd y2 nvc
    · have hct : k_ct N e = true := hmem.mp (by rw [← y1]; exact List.getElem_mem hi)
      rcases hk with ⟨rfl, y⟩ | ⟨y, y3, y4⟩ | ⟨rfl, y, y3⟩ | ⟨rfl, y, y3⟩ | ⟨rfl, y, y3⟩
      · rw [y, y2, if_neg z0, if_pos hct, if_pos (show nI 0 = (0 : Int32) from rfl)]
      · have nk : ¬ eg_gi N 13 e = nI 1 := fun x => y3 ⟨x, hct⟩
        rw [y4, y2, if_neg (show ¬ w = 0 from y), if_pos nk]
      · rw [y3, y2, if_neg (by decide), if_neg (fun x => x y.1), if_neg (by decide), if_neg (by decide)]
        exact co_eq h he ht r7
      · rw [y3, y2, if_neg (by decide), if_neg (fun x => x y.1), if_pos rfl, hcl i hi, r2]
        have hk1 := y.1
        rw [← y1] at hk1 ⊢
        obtain ⟨x, hx, x1, x2⟩ := cl_eq h hty hW hl r3 r1 t1 eA t2 hi hk1
        rw [x1, x2]
      · rw [y3, y2, if_neg (by decide), if_neg (fun x => x y.1), if_neg (by decide), if_pos rfl]
        have hk1 := y.1
        rw [← y1] at hk1 ⊢
        rw [t4 i hi (by rw [(h.2.2.2.1 _ (hAn _ (List.getElem_mem hi))).1.1]; exact hk1), r5, lnat_lN (by omega), r2, r6]
        exact congrArg lN (gr_eq h hty hW hl r3 r1 t1 eA t2 hcl P hi hk1).symm
abbrev ps_ls : vf_K := [(1, some 4), (1, some 12), (1, some 5), (34, none), (35, none), (36, none), (37, none), (38, none), (39, none), (40, none), (41, none), (42, none), (43, none), (44, none), (45, none), (177, none)]
theorem ls_A {M N : eg_M} {w : Int64} (hA : r_A M) (hI : k_I N) (hf : vf ps_ls M N) : r_A (eg_sl N 177 0 w) := by
  have hf2 : vf ps_ls M (eg_sl N 177 0 w) := vf_sl hf rfl
  exact rA_k hf2 hA (Or.inr (kp_I (vf_sm (ps := [(177, none)]) (vf_sl vf_0 rfl) rfl) hI)) (Or.inl rfl) (Or.inl rfl) (Or.inl rfl) (Or.inl rfl) (Or.inl rfl) (Or.inl rfl) (Or.inl rfl) (Or.inl rfl) (Or.inl rfl) (Or.inl rfl) (Or.inl rfl)
theorem vf_nws {M : eg_M} {k : Int32} {u : k_U} : vf ps_ls M (k_nw M k u) := vf_ri (vf_ri (vf_ri (vf_ri (vf_ri (vf_ri (vf_sr (vf_si (vf_si vf_0 rfl) rfl) rfl) rfl) rfl) rfl) rfl) rfl) rfl
theorem vf_sms {M : eg_M} {k s : Int32} {u : k_U} {f : Nat → Int32} {t : k_T5} : vf ps_ls M (k_sm (k_nw M k u) s f t) := vf_rl (vf_rl (vf_rl (vf_rl (vf_rl (vf_ri (vf_si vf_nws rfl) rfl) rfl) rfl) rfl) rfl) rfl
theorem pr_told (a b c : Int32) : pr ag_l hNI s_X11_told s_X12_told [.int a, .int b, .int c] := by
  intro M hA
  have h200 : eg_cn (eg_gi M 12 10) 200 := hA.1.1.1.choose_spec.1
  have e5 : eg_gi M 121 5 = eg_gi M 12 10 := hA.2.2.2.1.1
  have e2 : eg_gi M 121 2 = eg_gi M 0 8 := hA.2.2.1.1
  have ha := ix_cm (c := a) (by decide) h200
  have z1 : ((¬ a < nI 0 ∧ ¬ (eg_gi M 12 10 - nI 1) < a) ∧ (¬ b < nI 0 ∧ ¬ nI 3 < b)) ↔ ((¬ a < 0 ∧ ¬ eg_gi M 12 10 ≤ a) ∧ ¬ b < 0 ∧ b ≤ nI 3) := and_congr ha (and_congr Iff.rfl Int32.not_lt)
  have z2 : (¬ c < nI 0 ∧ ¬ eg_gi M 0 8 < c) ↔ (¬ c < 0 ∧ c ≤ eg_gi M 0 8) := and_congr Iff.rfl Int32.not_lt
  have mdl : ∀ X : eg_M, r_A X → eg_gi X 121 5 = eg_gi M 12 10 → eg_gi X 121 2 = eg_gi M 0 8 → ∀ Qp : eg_P, ((¬ ((¬ a < nI 0 ∧ ¬ (eg_gi M 12 10 - nI 1) < a) ∧ (¬ b < nI 0 ∧ ¬ nI 3 < b)) → Qp (.inl (some (.long (lN 0)))) (eg_si X 121 1 (nI 1))) ∧ (((¬ a < nI 0 ∧ ¬ (eg_gi M 12 10 - nI 1) < a) ∧ (¬ b < nI 0 ∧ ¬ nI 3 < b)) → ¬ (¬ c < nI 0 ∧ ¬ eg_gi M 0 8 < c) → Qp (.inl (some (.long (lN 0)))) (eg_si X 121 1 (nI 2))) ∧ (((¬ a < nI 0 ∧ ¬ (eg_gi M 12 10 - nI 1) < a) ∧ (¬ b < nI 0 ∧ ¬ nI 3 < b)) → (¬ c < nI 0 ∧ ¬ eg_gi M 0 8 < c) → ∀ v Y, m_sc (eg_si X 121 1 (nI 0)) Y → m_tv X a b c v → Qp (.inl (some (.long v))) Y)) → s_X12_told [.ref 121, .int a, .int b, .int c] X Qp := by
    intro X rX x4 x2 Qp ⟨q1, q2, q3⟩
    refine ⟨⟨(m_EV_of rX).1, fun _ => m_RK_of rX c⟩, fun v Y hY => ?_⟩
    rw [x4, x2, ← z1, ← z2] at hY
    rcases hY with ⟨y, rfl, rfl⟩ | ⟨y, y2, rfl, rfl⟩ | ⟨y, y2, y3, y4⟩
    · exact q1 y
    · exact q2 y y2
    · exact q3 y y2 v Y y3 y4
  refine ⟨hA.1, fun oo N hN w => ?_⟩
  rcases hN with ⟨y, rfl, rfl⟩ | ⟨y, y2, rfl, rfl⟩ | ⟨y, y2, u, v, rfl, htd, hN2, hI⟩
  · exact mdl _ (rA_w hA) e5 e2 _ ⟨fun _ => ⟨rA_c hA, rfl, ag_lNI1 rfl⟩, fun z => absurd z y, fun z => absurd z y⟩
  · exact mdl _ (rA_w hA) e5 e2 _ ⟨fun z => absurd y z, fun _ _ => ⟨rA_c hA, rfl, ag_lNI2 rfl⟩, fun _ z => absurd z y2⟩
  · obtain ⟨ci, hci, hci2, rfl⟩ := k_idx (by decide) h200 y.1.1 y.1.2
    have hd : vp_in c 3600 := by
      obtain ⟨x, hx, rfl⟩ := k_day hA.1.2.2.2.2 y2.1 y2.2
      exact vp_in_nI hx (by decide)
    have ic : (nI ci).toNatClampNeg = ci := n_c (by omega)
    rw [ic] at htd
    have hf : vf ps_ls M N := by
      rcases hN2 with rfl | ⟨s, f, t, rfl⟩
      · exact vf_nws
      · exact vf_sms
    have rX : r_A (eg_sl N 177 0 w) := ls_A hA hI hf
    have hint : ∀ p j, ¬ p = 42 → ¬ (p = 1 ∧ j = 12) → eg_gi (k_nw M c u) p j = eg_gi (eg_sl N 177 0 w) p j := fun p j h1 h2 => by
      rcases hN2 with rfl | ⟨s, f, t, rfl⟩
      · rfl
      · rw [sl_gi, sm_gi h1 (by omega)]
    have hgr : ∀ p j, eg_gr (k_nw M c u) p j = eg_gr (eg_sl N 177 0 w) p j := fun p j => by
      rcases hN2 with rfl | ⟨s, f, t, rfl⟩
      · rfl
      · rfl
    have h1 : (k_nw M c u).1 = (eg_sl N 177 0 w).1 := by
      rcases hN2 with rfl | ⟨s, f, t, rfl⟩
      · rfl
      · rfl
    obtain ⟨lyh, tyh⟩ := ly_of (N := k_nw M c u) (k := c) rX hint hgr h1 rfl hd
    refine mdl _ rX ((hf.2 121 5 rfl).1.trans e5) ((hf.2 121 2 rfl).1.trans e2) _ ⟨fun z => absurd y z, fun _ z => absurd y2 z, fun _ _ v' Y hY hv => ?_⟩
    obtain ⟨s1, s2, s3⟩ := sc_A rX hY
    refine ⟨s1, s2, ag_lok ?_ s3⟩
    obtain ⟨L, q, CL, k1, k2, k3, k4⟩ := htd
    refine td_core lyh tyh k1 k2 k3 ?_ (z1.mp y).2 k4 hv
    rw [nw_gi (by omega) (Or.inl (by decide))]
    exact hci2
/-! sums in any order -/
def lsum (h : Nat → Int64) : List Nat → Int64
  | [] => lN 0
  | e :: L => h e + lsum h L
theorem lsum_a (h : Nat → Int64) : ∀ (A B : List Nat), lsum h (A ++ B) = lsum h A + lsum h B
  | [], B => by
    show lsum h B = lN 0 + lsum h B
    rw [show lN 0 = (0 : Int64) from rfl, Int64.zero_add]
  | a :: A, B => by
    show h a + lsum h (A ++ B) = h a + lsum h A + lsum h B
    rw [lsum_a h A B, Int64.add_assoc]
theorem lsum_s (h : Nat → Int64) (A : List Nat) (e : Nat) : lsum h (A ++ [e]) = lsum h A + h e := by
  rw [lsum_a]
  show _ = _
  congr 1
  show h e + lN 0 = h e
  rw [show lN 0 = (0 : Int64) from rfl, Int64.add_zero]
theorem lsum_p (h : Nat → Int64) : ∀ {A B : List Nat}, A.Nodup → B.Nodup → (∀ x, x ∈ A ↔ x ∈ B) → lsum h A = lsum h B
  | [], [], _, _, _ => rfl
  | [], b :: B, _, _, hm => absurd ((hm b).mpr List.mem_cons_self) List.not_mem_nil
  | a :: A, B, hA, hB, hm => by
    obtain ⟨B1, B2, rfl⟩ := List.append_of_mem ((hm a).mp List.mem_cons_self)
    obtain ⟨a1, a2⟩ := List.nodup_cons.mp hA
    have hB' : (a :: (B1 ++ B2)).Nodup := (List.perm_middle.nodup_iff).mp hB
    obtain ⟨b1, b2⟩ := List.nodup_cons.mp hB'
    have ih := lsum_p h a2 b2 (fun x => by
      have hx := hm x
      rw [List.mem_cons, List.mem_append, List.mem_cons] at hx
      rw [List.mem_append]
      constructor
      · intro z
        rcases hx.mp (Or.inr z) with y | y | y
        · exact Or.inl y
        · rw [y] at z
          exact absurd z a1
        · exact Or.inr y
      · intro z
        have y := hx.mpr (z.imp id Or.inr)
        rcases y with y | y
        · rw [y] at z
          exact absurd (List.mem_append.mpr z) b1
        · exact y)
    show h a + lsum h A = lsum h (B1 ++ a :: B2)
    rw [ih, lsum_a, lsum_a]
    show h a + (lsum h B1 + lsum h B2) = lsum h B1 + (h a + lsum h B2)
    rw [← Int64.add_assoc, ← Int64.add_assoc, Int64.add_comm (h a)]
theorem lsum_f (h : Nat → Int64) (P : Nat → Bool) : ∀ {A : List Nat}, (∀ e ∈ A, P e = false → h e = lN 0) → lsum h (A.filter P) = lsum h A
  | [], _ => rfl
  | a :: A, hz => by
    have ih := lsum_f h P (A := A) (fun e he => hz e (List.mem_cons_of_mem _ he))
    cases hp : P a with
    | true =>
      rw [List.filter_cons_of_pos hp]
      show h a + _ = h a + _
      rw [ih]
    | false =>
      rw [List.filter_cons_of_neg (by rw [hp]; exact Bool.false_ne_true), ih]
      show lsum h A = h a + lsum h A
      rw [hz a List.mem_cons_self hp, show lN 0 = (0 : Int64) from rfl, Int64.zero_add]
theorem kbl_s (N : eg_M) (P : Nat) (CL : List (Int32 × List Int32)) (c s d : Int32) : ∀ i, k_bl N P CL c s d i = lsum (k_bc N P CL c s d) (List.range i)
  | 0 => rfl
  | i + 1 => by
    show k_bl N P CL c s d i + k_bc N P CL c s d i = _
    rw [List.range_succ, lsum_s, kbl_s N P CL c s d i]
theorem bl_core {N X : eg_M} {n nC c : Nat} {k s d : Int32} {v v' : Int64} {L : List Nat} (h : ly N X n nC k) (hty : ty N X) (hW : k_W N L) (hl : k_lkd N L) {q : Nat} {CL : List (Int32 × List Int32)} (ht : k_tx N q CL) (hc : c < nC) (hv : v = k_bl N (k_pt N) CL (nI c) s d n) (hm : ∃ A f cl g, m_TG X k A f cl g ∧ v' = m_bl (m_L X A f) g (nI c) s k (m_up X A f d)) : v = v' := by
  obtain ⟨hn1, hn2⟩ := ly_n h
  have hn200 := h.1.2.1
  have e34 : ∀ c, c < 24 → eg_gi N 34 c = k_bf N (nI c) n := fun c hc => by rw [← hn1]; exact hl.2.1 c hc
  obtain ⟨CM, P, r1, r2, r3, r4, r5, r6, r7⟩ := tx_on hty (k := k) (by rw [← h.2.2.1.1]; exact hl.1) ht
  have hLo : k_ord (eg_gi N 19) n L := by rw [← hn1]; exact hW.2.2.1
  obtain ⟨A, f, cl, g, ⟨t1, t2, t3, t4⟩, hm⟩ := hm
  rw [hn2] at t1
  have eA := lay_eq h e34 hLo t1
  have hAn : ∀ e ∈ A, e < n := fun e he => ((t1.2.2 e).mp he).1
  have h200 : ∀ e ∈ A, e < 200 := fun e he => by have := hAn e he; omega
  have hs : A.Pairwise (dlt (eg_gi N 19)) := by rw [eA]; exact List.Pairwise.filter _ hLo.2.1
  obtain ⟨u1, u2⟩ := up_eq h t1.1 t2 hAn hs d
  have hcl := t3 CM r1
  have hct : ∀ e ∈ A, k_ct N e = true := fun e he => by rw [eA] at he; exact (List.mem_filter.mp he).2
  have hLnd : L.Nodup := List.Pairwise.imp (fun {a b} z e => by rw [e] at z; exact dlt_as z z) hLo.2.1
  -- the class's sum, over those that count by the day
  have c1 : v = lsum (k_bc N (k_pt N) CL (nI c) s d) (A.take (m_up X A f d)) := by
    rw [hv, kbl_s, u2, eA, List.filter_filter, lsum_f, lsum_p _ List.nodup_range hLnd (fun x => by rw [List.mem_range, hLo.2.2])]
    intro e he hp
    have hen := (hLo.2.2 e).mp he
    unfold k_bc
    rw [if_neg]
    rintro ⟨y1, y2, y3⟩
    rw [hl.2.2.1 e (by rw [hn1]; exact hen)] at y1
    have y4 := b2i_n0.mp y1
    rw [y4, Bool.and_true, decide_eq_false_iff_not] at hp
    exact hp (Int32.not_lt.mp y3)
  -- the model's, place by place
  have c2 : ∀ i, i ≤ m_up X A f d → m_bl (m_L X A f) g (nI c) s k i = lsum (k_bc N (k_pt N) CL (nI c) s d) (A.take i) := by
    intro i
    induction i with
    | zero => intro _; rfl
    | succ i ih =>
      intro hi
      have hi' : i < A.length := by omega
      have hin := hAn _ (List.getElem_mem hi')
      obtain ⟨m1, m2⟩ := mL_i (X := X) t2 hi' h200
      obtain ⟨⟨e1, e2, e3, e4, e5, e6, e7, e8⟩, _, k3, _⟩ := h.2.2.2.1 A[i] hin
      show m_bl (m_L X A f) g (nI c) s k i + m_bt (m_L X A f) g (nI c) s k i = _
      rw [ih (by omega), List.take_succ_eq_append_getElem hi', lsum_s]
      congr 1
      have hle : eg_gi N 19 A[i] ≤ d := by
        have : A[i] ∈ A.take (m_up X A f d) := List.mem_iff_getElem.mpr ⟨i, by rw [List.length_take]; omega, List.getElem_take⟩
        rw [u2] at this
        exact decide_eq_true_iff.mp (List.mem_filter.mp this).2
      have kct := hct _ (List.getElem_mem hi')
      have k0 : ¬ eg_gi N 13 A[i] = 0 := by
        unfold k_ct at kct
        exact (decide_eq_true_iff.mp kct).1
      have kd : eg_gi N 13 A[i] = nI 2 ↔ ¬ eg_gi N 13 A[i] = nI 1 := by
        obtain ⟨z, hz, ez⟩ := vp_in_of k3 (by decide)
        rw [ez] at k0 ⊢
        rcases (show z = 0 ∨ z = 1 ∨ z = 2 by omega) with rfl | rfl | rfl
        · exact absurd rfl k0
        · exact ⟨fun y => absurd y (by decide), fun y => absurd rfl y⟩
        · exact ⟨fun _ => by decide, fun _ => rfl⟩
      have hco : m_co (m_L X A f) (nI A[i]) k = k_co N A[i] := by
        rw [co_eq h hin ht r7]
        refine m_co_g (fun p j z1 z2 => ?_) _ _
        exact mL_o z1 z2
      unfold m_bt k_bc
      rw [m1, hco, n_c (by have := h200 _ (List.getElem_mem hi'); omega), mL_o (by decide) (by omega), mL_o (by decide) (by omega), mL_o (by decide) (by omega), mL_o (by decide) (by omega), e1, e2, e3, e4]
      by_cases y : eg_gi N 14 A[i] = nI c
      · rw [if_pos y, if_pos (⟨by rw [hl.2.2.1 A[i] (by rw [hn1]; exact hin), kct]; decide, y, fun z => Int32.lt_irrefl (Int32.lt_of_lt_of_le z hle)⟩ : ¬ eg_gi N 35 A[i] = 0 ∧ eg_gi N 14 A[i] = nI c ∧ ¬ d < eg_gi N 19 A[i])]
        by_cases y2 : eg_gi N 13 A[i] = nI 1
        · rw [if_pos y2, if_neg (fun z => kd.mp z y2)]
          by_cases y3 : eg_gi N 16 A[i] = s
          · rw [if_pos y3, if_pos y3, t4 i hi' (e1.trans y2), r5, lnat_lN (by omega), r2, r6, gr_eq h hty hW hl r3 r1 t1 eA t2 hcl P hi' y2]
          · rw [if_neg y3, if_neg y3]
        · rw [if_neg y2, if_pos (kd.mpr y2)]
      · rw [if_neg y, if_neg (fun z => y z.2.1)]
  rw [c1, hm, c2 _ (Nat.le_refl _)]
theorem pr_balance (a b c d : Int32) : pr ag_l hNI s_X11_balance s_X12_balance [.int a, .int b, .int c, .int d] := by
  intro M hA
  have h24 := hA.1.2.2.2.1
  have e4 : eg_gi M 121 4 = eg_gi M 7 4 := hA.2.2.1.2.1
  have e2 : eg_gi M 121 2 = eg_gi M 0 8 := hA.2.2.1.1
  have ha := ix_cm (c := a) (by decide) h24
  have z1 : ((¬ a < nI 0 ∧ ¬ (eg_gi M 7 4 - nI 1) < a) ∧ (¬ b < nI 0 ∧ ¬ nI 1 < b) ∧ (¬ c < nI 0 ∧ ¬ nI 3599 < c)) ↔ ((¬ a < 0 ∧ ¬ eg_gi M 7 4 ≤ a) ∧ (¬ b < 0 ∧ ¬ nI 1 < b) ∧ ¬ c < nI 0 ∧ ¬ nI 3599 < c) := and_congr ha Iff.rfl
  have z2 : (¬ d < nI 0 ∧ ¬ eg_gi M 0 8 < d) ↔ (¬ d < 0 ∧ d ≤ eg_gi M 0 8) := and_congr Iff.rfl Int32.not_lt
  have mdl : ∀ X : eg_M, r_A X → eg_gi X 121 4 = eg_gi M 7 4 → eg_gi X 121 2 = eg_gi M 0 8 → ∀ Qp : eg_P, ((¬ ((¬ a < nI 0 ∧ ¬ (eg_gi M 7 4 - nI 1) < a) ∧ (¬ b < nI 0 ∧ ¬ nI 1 < b) ∧ (¬ c < nI 0 ∧ ¬ nI 3599 < c)) → Qp (.inl (some (.long (lN 0)))) (eg_si X 121 1 (nI 1))) ∧ (((¬ a < nI 0 ∧ ¬ (eg_gi M 7 4 - nI 1) < a) ∧ (¬ b < nI 0 ∧ ¬ nI 1 < b) ∧ (¬ c < nI 0 ∧ ¬ nI 3599 < c)) → ¬ (¬ d < nI 0 ∧ ¬ eg_gi M 0 8 < d) → Qp (.inl (some (.long (lN 0)))) (eg_si X 121 1 (nI 2))) ∧ (((¬ a < nI 0 ∧ ¬ (eg_gi M 7 4 - nI 1) < a) ∧ (¬ b < nI 0 ∧ ¬ nI 1 < b) ∧ (¬ c < nI 0 ∧ ¬ nI 3599 < c)) → (¬ d < nI 0 ∧ ¬ eg_gi M 0 8 < d) → ∀ v Y, m_sc (eg_si X 121 1 (nI 0)) Y → (∃ L f cl g, m_TG X d L f cl g ∧ v = m_bl (m_L X L f) g a b d (m_up X L f c)) → Qp (.inl (some (.long v))) Y)) → s_X12_balance [.ref 121, .int a, .int b, .int c, .int d] X Qp := by
    intro X rX x4 x2 Qp ⟨q1, q2, q3⟩
    refine ⟨⟨(m_EV_of rX).1, fun _ => m_RK_of rX d⟩, fun v Y hY => ?_⟩
    rw [x4, x2, ← z1, ← z2] at hY
    rcases hY with ⟨y, rfl, rfl⟩ | ⟨y, y2, rfl, rfl⟩ | ⟨y, y2, y3, y4⟩
    · exact q1 y
    · exact q2 y y2
    · exact q3 y y2 v Y y3 y4
  refine ⟨hA.1, fun oo N hN w => ?_⟩
  rcases hN with ⟨y, rfl, rfl⟩ | ⟨y, y2, rfl, rfl⟩ | ⟨y, y2, u, w', f, t, q, CL, r, ⟨L, k1, k2⟩, k3, hr, rfl, rfl, hI⟩
  · exact mdl _ (rA_w hA) e4 e2 _ ⟨fun _ => ⟨rA_c hA, rfl, ag_lNI1 rfl⟩, fun z => absurd z y, fun z => absurd z y⟩
  · exact mdl _ (rA_w hA) e4 e2 _ ⟨fun z => absurd y z, fun _ _ => ⟨rA_c hA, rfl, ag_lNI2 rfl⟩, fun _ z => absurd z y2⟩
  · obtain ⟨ci, hci, hci2, rfl⟩ := k_idx (by decide) h24 y.1.1 y.1.2
    have hd : vp_in d 3600 := by
      obtain ⟨x, hx, rfl⟩ := k_day hA.1.2.2.2.2 y2.1 y2.2
      exact vp_in_nI hx (by decide)
    have hf : vf ps_ls M (k_sm (k_nw M d u) w' f t) := vf_sms
    have rX : r_A (eg_sl (k_sm (k_nw M d u) w' f t) 177 0 w) := ls_A hA hI hf
    have hint : ∀ p j, ¬ p = 42 → ¬ (p = 1 ∧ j = 12) → eg_gi (k_nw M d u) p j = eg_gi (eg_sl (k_sm (k_nw M d u) w' f t) 177 0 w) p j := fun p j h1 h2 => by rw [sl_gi, sm_gi h1 (by omega)]
    obtain ⟨lyh, tyh⟩ := ly_of (N := k_nw M d u) (k := d) rX hint (fun _ _ => rfl) rfl rfl hd
    refine mdl _ rX ((hf.2 121 4 rfl).1.trans e4) ((hf.2 121 2 rfl).1.trans e2) _ ⟨fun z => absurd y z, fun _ z => absurd y2 z, fun _ _ v' Y hY hv => ?_⟩
    obtain ⟨s1, s2, s3⟩ := sc_A rX hY
    refine ⟨s1, s2, ag_lok ?_ s3⟩
    refine bl_core lyh tyh k1 k2 k3 ?_ ?_ hv
    · rw [nw_gi (by omega) (Or.inl (by decide))]
      exact hci2
    · rw [hr, nw_gi (by omega) (Or.inl (by decide))]

/-- the model: an event counts on day k -/
def m_ct (M : eg_M) (k : Int32) (e : Nat) : Bool := decide (¬ eg_gi M 130 e = 0 ∧ m_kn M e k = true ∧ m_al M (eg_gi M 131 e) (eg_gi M 136 e) k = true)
/-- by day, then by number -/
def dlt (D : Nat → Int32) (a b : Nat) : Prop := D a < D b ∨ (D a = D b ∧ a < b)
/-- L holds, in order, what counts among the first n -/
def m_lay (M : eg_M) (k : Int32) (n : Nat) (L : List Nat) : Prop := L.length ≤ n ∧ L.Pairwise (dlt (eg_gi M 136)) ∧ ∀ e, e ∈ L ↔ e < n ∧ m_ct M k e = true
/-- one more, put behind all whose day is no later -/
theorem dlt_ins {D : Nat → Int32} {A B : List Nat} {e : Nat} (h : (A ++ B).Pairwise (dlt D)) (hA : ∀ a ∈ A, D a ≤ D e ∧ a < e) (hB : ∀ b ∈ B, D e < D b) : (A ++ e :: B).Pairwise (dlt D) := by
  rw [List.pairwise_append] at h ⊢
  refine ⟨h.1, List.pairwise_cons.mpr ⟨fun b hb => Or.inl (hB b hb), h.2.1⟩, fun a ha b hb => ?_⟩
  rcases List.mem_cons.mp hb with rfl | hb
  · have := hA a ha
    unfold dlt
    grind
  · exact h.2.2 a ha b hb
def k_X12_lay : eg_C := ([(0, .aload_n 0, 1), (1, .iconst 0, 1), (2, .putfield 388, 3), (5, .iconst 0, 1), (6, .istore_n 2, 1), (7, .iload_n 2, 1), (8, .aload_n 0, 1), (9, .getfield 241, 3), (12, .if_icmp .ge 118, 3), (15, .aload_n 0, 1), (16, .getfield 59, 3), (19, .iload_n 2, 1), (20, .iaload, 1), (21, .ifCond .eq 103, 3), (24, .aload_n 0, 1), (25, .iload_n 2, 1), (26, .iload_n 1, 1), (27, .invokevirtual 384, 3), (30, .ifCond .eq 94, 3), (33, .aload_n 0, 1), (34, .aload_n 0, 1), (35, .getfield 62, 3), (38, .iload_n 2, 1), (39, .iaload, 1), (40, .aload_n 0, 1), (41, .getfield 77, 3), (44, .iload_n 2, 1), (45, .iaload, 1), (46, .iload_n 1, 1), (47, .invokevirtual 391, 3), (50, .ifCond .ne 6, 3), (53, .goto 71, 3), (56, .aload_n 0, 1), (57, .getfield 388, 3), (60, .istore_n 3, 1), (61, .iload_n 3, 1), (62, .ifCond .le 45, 3), (65, .aload_n 0, 1), (66, .getfield 77, 3), (69, .aload_n 0, 1), (70, .getfield 127, 3), (73, .iload_n 3, 1), (74, .iconst 1, 1), (75, .isub, 1), (76, .iaload, 1), (77, .iaload, 1), (78, .aload_n 0, 1), (79, .getfield 77, 3), (82, .iload_n 2, 1), (83, .iaload, 1), (84, .if_icmp .le 23, 3), (87, .aload_n 0, 1), (88, .getfield 127, 3), (91, .iload_n 3, 1), (92, .aload_n 0, 1), (93, .getfield 127, 3), (96, .iload_n 3, 1), (97, .iconst 1, 1), (98, .isub, 1), (99, .iaload, 1), (100, .iastore, 1), (101, .iinc 3 (-1), 3), (104, .goto (-43), 3), (107, .aload_n 0, 1), (108, .getfield 127, 3), (111, .iload_n 3, 1), (112, .iload_n 2, 1), (113, .iastore, 1), (114, .aload_n 0, 1), (115, .dup, 1), (116, .getfield 388, 3), (119, .iconst 1, 1), (120, .iadd, 1), (121, .putfield 388, 3), (124, .iinc 2 1, 3), (127, .goto (-120), 3), (130, .return_, 1)], [(59, 12, 13, false), (62, 12, 14, false), (77, 12, 19, false), (127, 12, 48, false), (241, 12, 5, false), (388, 12, 47, true)], [], [(384, 2 + 1, 0, 0, s_X12_isKnown), (391, 3 + 1, 0, 0, s_X12_isAlive)], [], 0, 0, 0)
theorem mk_X12_lay : ∀ q ∈ k_X12_lay.2.2.2.1, eg_mono q.2.2.2.2 := (fc (mo_X12_isKnown) (fc (mo_X12_isAlive) (fn)))
set_option maxRecDepth 100000 in
theorem st_X12_lay_0 {Qp : eg_P} {M : eg_M} (k : Int32)
  (l0 : eg_T wd k_X12_lay Qp 7 0 0 [some (.ref 121), some (.int k), some (.int (nI 0)), none] [] (eg_si M 121 47 (nI 0))) :
  eg_T wd k_X12_lay Qp 0 0 0 [some (.ref 121), some (.int k), none, none] [] M := by
  refine eg_T_run mk_X12_lay (cut := [7, 61]) 80 ?_
  show eg_T wd k_X12_lay Qp 7 0 0 [some (.ref 121), some (.int k), some (.int (nI 0)), none] [] (eg_si M 121 47 (nI 0))
  exact l0

set_option maxRecDepth 100000 in
theorem st_X12_lay_7 {Qp : eg_P} {M : eg_M} (k : Int32) (x2 : Int32) (o3 : Option Value)
  (g0 : (¬ ((eg_gi M 121 5) ≤ x2)) → (vp_in x2 200))
  (g1 : (¬ ((eg_gi M 121 5) ≤ x2)) → (¬ ((eg_gi M 130 x2.toNatClampNeg) = 0)) → (¬ (¬ (¬ k < (eg_gi M 137 x2.toNatClampNeg) ∧ ((eg_gi M 138 x2.toNatClampNeg) = (-nI 1) ∨ ¬ (eg_gi M 138 x2.toNatClampNeg) ≤ k)))) → (vp_in (eg_gi M 131 x2.toNatClampNeg) 24 ∧ eg_cn (eg_gi M 121 5) 200))
  (l0 : ((eg_gi M 121 5) ≤ x2) → Qp (.inl none) M)
  (l1 : (¬ (eg_gi M 121 5) ≤ x2 ∧ ((eg_gi M 130 x2.toNatClampNeg) = 0 ∨ ((¬ (¬ k < (eg_gi M 137 x2.toNatClampNeg) ∧ ((eg_gi M 138 x2.toNatClampNeg) = (-nI 1) ∨ ¬ (eg_gi M 138 x2.toNatClampNeg) ≤ k))) ∨ (m_al M (eg_gi M 131 x2.toNatClampNeg) (eg_gi M 136 x2.toNatClampNeg) k) = false))) → eg_T wd k_X12_lay Qp 7 0 0 [some (.ref 121), some (.int k), some (.int (x2 + (nI 1))), o3] [] M)
  (l2 : (¬ (eg_gi M 121 5) ≤ x2 ∧ (¬ (eg_gi M 130 x2.toNatClampNeg) = 0 ∧ ((¬ k < (eg_gi M 137 x2.toNatClampNeg) ∧ ((eg_gi M 138 x2.toNatClampNeg) = (-nI 1) ∨ ¬ (eg_gi M 138 x2.toNatClampNeg) ≤ k)) ∧ ¬ (m_al M (eg_gi M 131 x2.toNatClampNeg) (eg_gi M 136 x2.toNatClampNeg) k) = false))) → eg_T wd k_X12_lay Qp 61 0 0 [some (.ref 121), some (.int k), some (.int x2), some (.int (eg_gi M 121 47))] [] M) :
  eg_T wd k_X12_lay Qp 7 0 0 [some (.ref 121), some (.int k), some (.int x2), o3] [] M := by
  refine eg_T_run mk_X12_lay (cut := [7, 61]) 80 ?_
  refine And.intro (fun (c1 : (eg_gi M 121 5) ≤ x2) => ?_) (fun (c1 : ¬ (eg_gi M 121 5) ≤ x2) => ?_)
  · skip
    show Qp (.inl none) M
    exact l0 c1
  · skip
    refine And.intro (show vp_in x2 200 from ?_) ?_
    · exact g0 c1
    refine And.intro (fun (c2 : (eg_gi M 130 x2.toNatClampNeg) = 0) => ?_) (fun (c2 : ¬ (eg_gi M 130 x2.toNatClampNeg) = 0) => ?_)
    · skip
      show eg_T wd k_X12_lay Qp 7 0 0 [some (.ref 121), some (.int k), some (.int (x2 + (nI 1))), o3] [] M
      exact l1 ⟨c1, (Or.inl c2)⟩
    · skip
      refine And.intro (show ((vp_in x2 200)) from ?_) ?_
      · exact g0 c1
      refine And.intro (fun (c3 : (b2i (decide (¬ k < (eg_gi M 137 x2.toNatClampNeg) ∧ ((eg_gi M 138 x2.toNatClampNeg) = (-nI 1) ∨ ¬ (eg_gi M 138 x2.toNatClampNeg) ≤ k)))) = 0) => ?_) (fun (c3 : ¬ (b2i (decide (¬ k < (eg_gi M 137 x2.toNatClampNeg) ∧ ((eg_gi M 138 x2.toNatClampNeg) = (-nI 1) ∨ ¬ (eg_gi M 138 x2.toNatClampNeg) ≤ k)))) = 0) => ?_)
      · replace c3 := b2i_d0.mp c3
        show eg_T wd k_X12_lay Qp 7 0 0 [some (.ref 121), some (.int k), some (.int (x2 + (nI 1))), o3] [] M
        exact l1 ⟨c1, (Or.inr (Or.inl c3))⟩
      · replace c3 := b2i_dn.mp c3
        refine And.intro (show vp_in x2 200 from ?_) ?_
        · exact g0 c1
        refine And.intro (show vp_in x2 200 from ?_) ?_
        · exact g0 c1
        refine And.intro (show (vp_in (eg_gi M 131 x2.toNatClampNeg) 24 ∧ eg_cn (eg_gi M 121 5) 200) from ?_) ?_
        · exact g1 c1 c2 c3
        refine And.intro (fun (c4 : (b2i (m_al M (eg_gi M 131 x2.toNatClampNeg) (eg_gi M 136 x2.toNatClampNeg) k)) = 0) => ?_) (fun (c4 : ¬ (b2i (m_al M (eg_gi M 131 x2.toNatClampNeg) (eg_gi M 136 x2.toNatClampNeg) k)) = 0) => ?_)
        · replace c4 := b2i_0.mp c4
          show eg_T wd k_X12_lay Qp 7 0 0 [some (.ref 121), some (.int k), some (.int (x2 + (nI 1))), o3] [] M
          exact l1 ⟨c1, (Or.inr (Or.inr c4))⟩
        · replace c4 := b2i_ff c4
          show eg_T wd k_X12_lay Qp 61 0 0 [some (.ref 121), some (.int k), some (.int x2), some (.int (eg_gi M 121 47))] [] M
          exact l2 ⟨c1, ⟨c2, ⟨(Classical.byContradiction c3), c4⟩⟩⟩

set_option maxRecDepth 100000 in
theorem st_X12_lay_61 {Qp : eg_P} {M : eg_M} (k : Int32) (x2 : Int32) (x3 : Int32)
  (g0 : (vp_in x3 200))
  (g1 : (¬ (x3 ≤ 0)) → (vp_in (x3 - (nI 1)) 200))
  (g2 : (¬ (x3 ≤ 0)) → (vp_in (eg_gi M 151 (x3 - (nI 1)).toNatClampNeg) 200))
  (g3 : (¬ (x3 ≤ 0)) → (vp_in x2 200))
  (l0 : (x3 ≤ 0 ∨ (eg_gi M 136 (eg_gi M 151 (x3 - (nI 1)).toNatClampNeg).toNatClampNeg) ≤ (eg_gi M 136 x2.toNatClampNeg)) → eg_T wd k_X12_lay Qp 7 0 0 [some (.ref 121), some (.int k), some (.int (x2 + (nI 1))), some (.int x3)] [] (eg_si (eg_si M 151 x3.toNatClampNeg x2) 121 47 ((eg_gi M 121 47) + (nI 1))))
  (l1 : (¬ x3 ≤ 0 ∧ ¬ (eg_gi M 136 (eg_gi M 151 (x3 - (nI 1)).toNatClampNeg).toNatClampNeg) ≤ (eg_gi M 136 x2.toNatClampNeg)) → eg_T wd k_X12_lay Qp 61 0 0 [some (.ref 121), some (.int k), some (.int x2), some (.int (x3 + (-nI 1)))] [] (eg_si M 151 x3.toNatClampNeg (eg_gi M 151 (x3 - (nI 1)).toNatClampNeg))) :
  eg_T wd k_X12_lay Qp 61 0 0 [some (.ref 121), some (.int k), some (.int x2), some (.int x3)] [] M := by
  refine eg_T_run mk_X12_lay (cut := [7, 61]) 80 ?_
  refine And.intro (fun (c1 : x3 ≤ 0) => ?_) (fun (c1 : ¬ x3 ≤ 0) => ?_)
  · skip
    refine And.intro (show vp_in x3 200 from ?_) ?_
    · exact g0
    show eg_T wd k_X12_lay Qp 7 0 0 [some (.ref 121), some (.int k), some (.int (x2 + (nI 1))), some (.int x3)] [] (eg_si (eg_si M 151 x3.toNatClampNeg x2) 121 47 ((eg_gi M 121 47) + (nI 1)))
    exact l0 (Or.inl c1)
  · skip
    refine And.intro (show vp_in (x3 - (nI 1)) 200 from ?_) ?_
    · exact g1 c1
    refine And.intro (show vp_in (eg_gi M 151 (x3 - (nI 1)).toNatClampNeg) 200 from ?_) ?_
    · exact g2 c1
    refine And.intro (show vp_in x2 200 from ?_) ?_
    · exact g3 c1
    refine And.intro (fun (c2 : (eg_gi M 136 (eg_gi M 151 (x3 - (nI 1)).toNatClampNeg).toNatClampNeg) ≤ (eg_gi M 136 x2.toNatClampNeg)) => ?_) (fun (c2 : ¬ (eg_gi M 136 (eg_gi M 151 (x3 - (nI 1)).toNatClampNeg).toNatClampNeg) ≤ (eg_gi M 136 x2.toNatClampNeg)) => ?_)
    · skip
      refine And.intro (show vp_in x3 200 from ?_) ?_
      · exact g0
      show eg_T wd k_X12_lay Qp 7 0 0 [some (.ref 121), some (.int k), some (.int (x2 + (nI 1))), some (.int x3)] [] (eg_si (eg_si M 151 x3.toNatClampNeg x2) 121 47 ((eg_gi M 121 47) + (nI 1)))
      exact l0 (Or.inr c2)
    · skip
      refine And.intro (show vp_in (x3 - (nI 1)) 200 from ?_) ?_
      · exact g1 c1
      refine And.intro (show vp_in x3 200 from ?_) ?_
      · exact g0
      show eg_T wd k_X12_lay Qp 61 0 0 [some (.ref 121), some (.int k), some (.int x2), some (.int (x3 + (-nI 1)))] [] (eg_si M 151 x3.toNatClampNeg (eg_gi M 151 (x3 - (nI 1)).toNatClampNeg))
      exact l1 ⟨c1, c2⟩

def s_X12_lay : eg_S := fun argv M Qp => match argv with
  | [.ref 121, .int k] => (eg_cn (eg_gi M 121 5) 200 ∧ ∀ e, e < (eg_gi M 121 5).toNatClampNeg → ¬ eg_gi M 130 e = 0 → vp_in (eg_gi M 131 e) 24) ∧ ∀ (L : List Nat) (f : Nat → Int32), (m_lay M k (eg_gi M 121 5).toNatClampNeg L ∧ ∀ i (h : i < L.length), f i = nI L[i]) → Qp (.inl none) (eg_ri (eg_si M 121 47 (nI L.length)) 151 f)
  | _ => False
theorem mo_X12_lay : eg_mono s_X12_lay := by
  intro argv M Q Q' h
  unfold s_X12_lay
  split
  · exact fun z => ⟨z.1, fun L f y => h _ _ (z.2 L f y)⟩
  · exact id
theorem sz_X12_lay : ∀ argv M Qp, s_X12_lay argv M Qp → (eg_ls0 argv).length ≤ 4 := by
  intro argv M Qp h
  unfold s_X12_lay at h
  split at h
  · exact Nat.le_of_ble_eq_true rfl
  · exact h.elim
theorem sr_X12_lay : ∀ argv M Qp, s_X12_lay argv M Qp → ∃ p0 As, argv = .ref p0 :: As ∧ eg_isO wd M p0 12 = true := by
  intro argv M Qp h
  unfold s_X12_lay at h
  split at h
  · exact ⟨_, _, rfl, rfl⟩
  · exact h.elim
set_option maxRecDepth 100000 in
set_option maxHeartbeats 4000000 in
theorem T_X12_lay {argv : List Value} {M : eg_M} {Qp : eg_P} (h : s_X12_lay argv M Qp) : eg_T wd k_X12_lay Qp 0 0 0 (eg_lsN 4 argv) [] M := by
  unfold s_X12_lay at h
  split at h
  · rename_i k
    obtain ⟨hp, hq⟩ := h
    obtain ⟨⟨n, hn, hN⟩, hc⟩ := hp
    rw [hN, n_c (by omega)] at hq hc
    have inn : ∀ (e : Nat) (L : List Nat), e < n → m_lay M k e L → m_ct M k e = true → (∀ (L' : List Nat) (f : Nat → Int32) (o : Option Value), m_lay M k (e + 1) L' → (∀ i (h : i < L'.length), f i = nI L'[i]) → eg_T wd k_X12_lay Qp 7 0 0 [some (.ref 121), some (.int k), some (.int (nI (e + 1))), o] [] (eg_ri (eg_si M 121 47 (nI L'.length)) 151 f)) → ∀ i (f : Nat → Int32), i ≤ L.length → (∀ j (h : j < L.length), j < i → f j = nI L[j]) → (∀ j (h : j < L.length), i ≤ j → f (j + 1) = nI L[j] ∧ eg_gi M 136 e < eg_gi M 136 L[j]) → eg_T wd k_X12_lay Qp 61 0 0 [some (.ref 121), some (.int k), some (.int (nI e)), some (.int (nI i))] [] (eg_ri (eg_si M 121 47 (nI L.length)) 151 f) := by
      intro e L he hL hct kk i
      have hlen := hL.1
      have fin : ∀ i (f : Nat → Int32), i ≤ L.length → (∀ j (h : j < L.length), j < i → f j = nI L[j]) → (∀ j (h : j < L.length), i ≤ j → f (j + 1) = nI L[j] ∧ eg_gi M 136 e < eg_gi M 136 L[j]) → (∀ j (h : j < L.length), j < i → eg_gi M 136 L[j] ≤ eg_gi M 136 e) → eg_T wd k_X12_lay Qp 7 0 0 [some (.ref 121), some (.int k), some (.int (nI e + nI 1)), some (.int (nI i))] [] (eg_si (eg_si (eg_ri (eg_si M 121 47 (nI L.length)) 151 f) 151 i (nI e)) 121 47 (nI L.length + nI 1)) := by
        intro i f hi h1 h2 h3
        rw [si_ri, si_ri_n (by decide), si_si, n_s, n_s]
        have hl : (L.take i ++ e :: L.drop i).length = L.length + 1 := by
          rw [List.length_append, List.length_cons, List.length_take, List.length_drop]
          omega
        have := kk (L.take i ++ e :: L.drop i) (fun j => if j = i then nI e else f j) (some (.int (nI i))) ⟨by omega, dlt_ins (by rw [List.take_append_drop]; exact hL.2.1) (fun a ha => ?_) (fun b hb => ?_), fun x => ?_⟩ (fun j hj => ?_)
        · rw [hl] at this
          exact this
        · obtain ⟨j, hj, rfl⟩ := List.mem_iff_getElem.mp ha
          rw [List.length_take] at hj
          rw [List.getElem_take]
          exact ⟨h3 j (by omega) (by omega), ((hL.2.2 _).mp (List.getElem_mem _)).1⟩
        · obtain ⟨j, hj, rfl⟩ := List.mem_iff_getElem.mp hb
          rw [List.length_drop] at hj
          rw [List.getElem_drop]
          exact (h2 (i + j) (by omega) (by omega)).2
        · have : x ∈ L.take i ++ e :: L.drop i ↔ x = e ∨ x ∈ L := by
            conv => rhs; rw [← List.take_append_drop i L]
            simp only [List.mem_append, List.mem_cons]
            grind
          rw [this, hL.2.2]
          constructor
          · rintro (rfl | z)
            · exact ⟨by omega, hct⟩
            · exact ⟨by omega, z.2⟩
          · rintro ⟨z, z2⟩
            rcases Nat.lt_or_ge x e with y | y
            · exact Or.inr ⟨y, z2⟩
            · exact Or.inl (by omega)
        · grind
      induction i with
      | zero =>
        intro f hi h1 h2
        have st := st_X12_lay_61 (Qp := Qp) (M := eg_ri (eg_si M 121 47 (nI L.length)) 151 f) k (nI e) (nI 0) (vp_in_nI (by decide) (by decide)) (fun z => absurd (by decide) z) (fun z => absurd (by decide) z) (fun z => absurd (by decide) z)
        refine st (fun _ => fin 0 f hi h1 h2 (fun j _ z => absurd z (Nat.not_lt_zero _))) (fun z => absurd (by decide) z.1)
      | succ i ih =>
        intro f hi h1 h2
        have st := st_X12_lay_61 (Qp := Qp) (M := eg_ri (eg_si M 121 47 (nI L.length)) 151 f) k (nI e) (nI (i + 1))
        simp (disch := omega) only [n_p, n_d, n_c, ri_g, si_g, if_true, n_in, Nat.reduceEqDiff, if_false, false_and] at st
        have h1i := h1 i (by omega) (by omega)
        have hei : L[i] < e := ((hL.2.2 _).mp (List.getElem_mem (by omega))).1
        rw [h1i] at st
        simp (disch := omega) only [n_p, n_d, n_c, ri_g, si_g, if_true, n_in, Nat.reduceEqDiff, if_false, false_and] at st
        refine st (by omega) (fun _ => by omega) (fun _ => by omega) (fun _ => by omega) (fun z => ?_) (fun z => ?_)
        · refine fin (i + 1) f hi h1 h2 (fun j hj hji => ?_)
          have z1 : eg_gi M 136 L[i] ≤ eg_gi M 136 e := by
            rcases z with z | z
            · exact absurd z (nI_nle (by omega) (by omega))
            · exact z
          rcases Nat.lt_or_ge j i with y | y
          · have := List.pairwise_iff_getElem.mp hL.2.1 j i hj (by omega) y
            unfold dlt at this
            grind
          · have : j = i := by omega
            subst this
            exact z1
        · rw [si_ri]
          refine ih _ (by omega) (fun j hj hji => ?_) (fun j hj hji => ?_)
          · rw [if_neg (by omega)]
            exact h1 j hj (by omega)
          · by_cases y : j = i
            · subst y
              rw [if_pos rfl]
              exact ⟨rfl, by grind⟩
            · rw [if_neg (by omega)]
              exact h2 j hj (by omega)
    have lp : ∀ e (x : List Nat × (Nat → Int32) × Option Value), e ≤ n → (m_lay M k e x.1 ∧ ∀ i (h : i < x.1.length), x.2.1 i = nI x.1[i]) → eg_T wd k_X12_lay Qp 7 0 0 [some (.ref 121), some (.int k), some (.int (nI e)), x.2.2] [] (eg_ri (eg_si M 121 47 (nI x.1.length)) 151 x.2.1) := by
      refine eg_for ?_
      intro e ⟨L, f, o⟩ he ⟨hL, hf⟩ kk
      have st := st_X12_lay_7 (Qp := Qp) (M := eg_ri (eg_si M 121 47 (nI L.length)) 151 f) k (nI e) o
      have hal : ∀ c d, m_al (eg_ri (eg_si M 121 47 (nI L.length)) 151 f) c d k = m_al M c d k := fun _ _ => rfl
      simp (disch := omega) only [hal, n_s, n_le, hN, n_c, ri_g, si_g, if_true, n_in, Nat.reduceEqDiff, if_false, false_and, and_false, Nat.not_le] at st
      refine st (fun z => by omega) (fun z y _ => ⟨hc e z y, n, hn, rfl⟩) (fun z => ?_) (fun ⟨z1, z⟩ => ?_) (fun ⟨z1, z⟩ => ?_)
      · have : e = n := by omega
        subst this
        exact hq L f ⟨hL, hf⟩
      · refine kk (L, f, o) z1 ⟨⟨by have := hL.1; omega, hL.2.1, fun x => ?_⟩, hf⟩
        rw [hL.2.2]
        constructor
        · exact fun y => ⟨by omega, y.2⟩
        · rintro ⟨y, y2⟩
          refine ⟨?_, y2⟩
          rcases Nat.lt_or_ge x e with w | w
          · exact w
          · have : x = e := by omega
            subst this
            unfold m_ct m_kn at y2
            grind
      · refine inn e L z1 hL ?_ (fun L' f' o' hL' hf' => kk (L', f', o') z1 ⟨hL', hf'⟩) L.length f (Nat.le_refl _) (fun j hj _ => hf j hj) (fun j hj y => absurd hj (by omega))
        unfold m_ct m_kn
        grind
    have st := st_X12_lay_0 (Qp := Qp) (M := M) k
    have := lp 0 ([], eg_gi M 151, none) (Nat.zero_le _) ⟨⟨Nat.le_refl _, List.Pairwise.nil, fun e => by simp⟩, fun i h => absurd h (Nat.not_lt_zero _)⟩
    rw [show eg_gi M 151 = eg_gi (eg_si M 121 47 (nI 0)) 151 from rfl] at this
    exact st (by rw [← ri_id (eg_si M 121 47 (nI 0)) 151]; exact this)
    
  · exact h.elim
theorem de_X12_lay : ∀ q ∈ k_X12_lay.1, decode cX12_lay q.1 = .ok q.2 := by decide +kernel
theorem me_X12_lay (g : gl_T) : MT g yX12_lay cX12_lay 4 none ⟨2, 0, 0, 46⟩ 0 0 s_X12_lay := by
  intro hl
  exact eg_met_of (k := k_X12_lay) (by decide) rfl ⟨Nat.le_refl _, Nat.le_refl _⟩ rfl sz_X12_lay de_X12_lay (fun meth hn => (fc (eg_FL_of wd_c12 (by decide) lf_RX12_59 (fun h => absurd h (by decide))) (fc (eg_FL_of wd_c12 (by decide) lf_RX12_62 (fun h => absurd h (by decide))) (fc (eg_FL_of wd_c12 (by decide) lf_RX12_77 (fun h => absurd h (by decide))) (fc (eg_FL_of wd_c12 (by decide) lf_RX12_127 (fun h => absurd h (by decide))) (fc (eg_FL_of wd_c12 (by decide) lf_RX12_241 (fun h => absurd h (by decide))) (fc (eg_FL_of wd_c12 (by decide) lf_RX12_388 (fun _ => Or.inl rfl)) (fn)))))))) (fun A s H hE => (fn)) (fun p e s m args below meth c Q A ad0 N0 S0 hK hEx hA => (fc (mt_V hl S0 hK hEx hA (me_X12_isKnown g) lm_RX12_384 li_X12_isKnown lx_X12_isKnown ln_RX12 lc_X12_isKnown ⟨rfl, by decide, by decide, by decide +kernel⟩ ⟨rfl, rfl⟩ ⟨by decide, by decide⟩ (ci := 12) rfl rfl sr_X12_isKnown (by decide)) (fc (mt_V hl S0 hK hEx hA (me_X12_isAlive g) lm_RX12_391 li_X12_isAlive lx_X12_isAlive ln_RX12 lc_X12_isAlive ⟨rfl, by decide, by decide, by decide +kernel⟩ ⟨rfl, rfl⟩ ⟨by decide, by decide⟩ (ci := 12) rfl rfl sr_X12_isAlive (by decide)) (fn)))) (fun p e s m args below meth c Qc XC A ad0 N0 P S0 hK hEx hA hlk hout hPX => (fn)) (fun argv M Qp h => T_X12_lay h)

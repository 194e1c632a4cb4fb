/-- the class: event e counts on the day looked at -/
def k_ct (M : eg_M) (e : Nat) : Bool := decide (¬ eg_gi M 13 e = 0 ∧ k_kn M e = true ∧ ¬ eg_gi M 19 e < eg_gi M 10 (eg_gi M 14 e).toNatClampNeg ∧ ¬ eg_gi M 34 (eg_gi M 14 e).toNatClampNeg ≤ eg_gi M 19 e)
/-- a chain back from x -/
def k_chn (fp fa : Nat → Int32) : Int32 → List Nat → Prop
  | x, [] => x = -nI 1
  | x, e :: R => x = nI e ∧ e < 200 ∧ k_chn fp fa (fp e) R ∧ fa e = nI R.length
/-- what counts of charter c, visits or gifts, the last first -/
def k_cq (M : eg_M) (v : Bool) (c e : Nat) : Bool := k_ct M e && (decide (eg_gi M 14 e = nI c) && (decide (eg_gi M 13 e = nI 1) == v))
def k_cL (M : eg_M) (v : Bool) (c : Nat) (L : List Nat) : List Nat := (L.filter (k_cq M v c)).reverse
abbrev k_R := (Nat → Int32) × (Nat → Int32) × (Nat → Int32) × (Nat → Int32) × (Nat → Int32)
abbrev k_U := Int32 × Option Nat × (Nat → Int32) × k_R
/-- what look leaves behind -/
def k_nw (M : eg_M) (a : Int32) (u : k_U) : eg_M := eg_ri (eg_ri (eg_ri (eg_ri (eg_ri (eg_ri (eg_sr (eg_si (eg_si M 1 4 a) 1 12 u.1) 1 5 u.2.1) 34 u.2.2.1) 35 u.2.2.2.1) 36 u.2.2.2.2.1) 37 u.2.2.2.2.2.1) 38 u.2.2.2.2.2.2.1) 39 u.2.2.2.2.2.2.2
theorem nw_35 {M : eg_M} {a s : Int32} {t : Option Nat} {fb fc fp fa fv fg : Nat → Int32} {e : Nat} {v : Int32} : eg_si (k_nw M a (s, t, fb, fc, fp, fa, fv, fg)) 35 e v = k_nw M a (s, t, fb, (fun j => if j = e then v else fc j), fp, fa, fv, fg) := by
  unfold k_nw
  rw [si_ri_n (by decide), si_ri_n (by decide), si_ri_n (by decide), si_ri_n (by decide), si_ri]
theorem nw_36 {M : eg_M} {a s : Int32} {t : Option Nat} {fb fc fp fa fv fg : Nat → Int32} {e : Nat} {v : Int32} : eg_si (k_nw M a (s, t, fb, fc, fp, fa, fv, fg)) 36 e v = k_nw M a (s, t, fb, fc, (fun j => if j = e then v else fp j), fa, fv, fg) := by
  unfold k_nw
  rw [si_ri_n (by decide), si_ri_n (by decide), si_ri_n (by decide), si_ri]
theorem nw_37 {M : eg_M} {a s : Int32} {t : Option Nat} {fb fc fp fa fv fg : Nat → Int32} {e : Nat} {v : Int32} : eg_si (k_nw M a (s, t, fb, fc, fp, fa, fv, fg)) 37 e v = k_nw M a (s, t, fb, fc, fp, (fun j => if j = e then v else fa j), fv, fg) := by
  unfold k_nw
  rw [si_ri_n (by decide), si_ri_n (by decide), si_ri]
theorem nw_38 {M : eg_M} {a s : Int32} {t : Option Nat} {fb fc fp fa fv fg : Nat → Int32} {e : Nat} {v : Int32} : eg_si (k_nw M a (s, t, fb, fc, fp, fa, fv, fg)) 38 e v = k_nw M a (s, t, fb, fc, fp, fa, (fun j => if j = e then v else fv j), fg) := by
  unfold k_nw
  rw [si_ri_n (by decide), si_ri]
theorem nw_39 {M : eg_M} {a s : Int32} {t : Option Nat} {fb fc fp fa fv fg : Nat → Int32} {e : Nat} {v : Int32} : eg_si (k_nw M a (s, t, fb, fc, fp, fa, fv, fg)) 39 e v = k_nw M a (s, t, fb, fc, fp, fa, fv, (fun j => if j = e then v else fg j)) := by
  unfold k_nw
  rw [si_ri]
theorem nw_ct {M : eg_M} {a s : Int32} {t : Option Nat} {fb : Nat → Int32} (x r : k_R) (j : Nat) : k_ct (k_nw M a (s, t, fb, x)) j = k_ct (k_nw M a (s, t, fb, r)) j := rfl
theorem nw_cL {M : eg_M} {a s : Int32} {t : Option Nat} {fb : Nat → Int32} (x r : k_R) (v : Bool) (c : Nat) (A : List Nat) : k_cL (k_nw M a (s, t, fb, x)) v c A = k_cL (k_nw M a (s, t, fb, r)) v c A := rfl
/-- the events stand in order -/
def k_W (M : eg_M) (L : List Nat) : Prop := eg_cn (eg_gi M 12 10) 200 ∧ isL (eg_gi M 22) L ∧ k_ord (eg_gi M 19) (eg_gi M 12 10).toNatClampNeg L ∧ ∀ e, e < (eg_gi M 12 10).toNatClampNeg → vp_in (eg_gi M 14 e) 24
/-- looked at: all that is known of the day -/
def k_lkd (M : eg_M) (L : List Nat) : Prop := eg_gr M 1 5 = some (k_to M (eg_gi M 1 4) (eg_gi M 23 2).toNatClampNeg) ∧ (∀ c, c < 24 → eg_gi M 34 c = k_bf M (nI c) (eg_gi M 12 10).toNatClampNeg) ∧ (∀ e, e < (eg_gi M 12 10).toNatClampNeg → eg_gi M 35 e = b2i (k_ct M e)) ∧ ∀ c, c < 24 → k_chn (eg_gi M 36) (eg_gi M 37) (eg_gi M 38 c) (k_cL M true c L) ∧ k_chn (eg_gi M 36) (eg_gi M 37) (eg_gi M 39 c) (k_cL M false c L)
theorem chn_hd {fp fa : Nat → Int32} {x : Int32} {R : List Nat} (h : k_chn fp fa x R) : (x = -nI 1 ∧ R = []) ∨ (vp_in x 200 ∧ fa x.toNatClampNeg + nI 1 = nI R.length) := by
  cases R with
  | nil => exact Or.inl ⟨h, rfl⟩
  | cons e R =>
    obtain ⟨rfl, h2, h3, h4⟩ := h
    refine Or.inr ⟨(n_in (by omega) (by decide)).mpr h2, ?_⟩
    rw [n_c (by omega), h4, n_s, List.length_cons]
theorem chn_up {fp fa : Nat → Int32} {e : Nat} {v w : Int32} : ∀ {R : List Nat} {x : Int32}, k_chn fp fa x R → e ∉ R → k_chn (fun j => if j = e then v else fp j) (fun j => if j = e then w else fa j) x R
  | [], _, h, _ => h
  | f :: R, _, h, ne => by
    obtain ⟨h1, h2, h3, h4⟩ := h
    have hf : ¬ f = e := fun z => ne (z ▸ List.mem_cons_self)
    refine ⟨h1, h2, ?_, ?_⟩
    · rw [show (fun j => if j = e then v else fp j) f = fp f from if_neg hf]
      exact chn_up h3 (fun z => ne (List.mem_cons_of_mem _ z))
    · exact (if_neg hf).trans h4
theorem chn_add {fp fa : Nat → Int32} {e : Nat} {x w : Int32} {R : List Nat} (h : k_chn fp fa x R) (ne : e ∉ R) (he : e < 200) (hw : w = nI R.length) : k_chn (fun j => if j = e then x else fp j) (fun j => if j = e then w else fa j) (nI e) (e :: R) := by
  refine ⟨rfl, he, ?_, ?_⟩
  · rw [show (fun j => if j = e then x else fp j) e = x from if_pos rfl]
    exact chn_up h ne
  · exact (if_pos rfl).trans hw
theorem k_ev_up {fp : Nat → Int32} {e : Nat} {v : Int32} (hv : k_ev v) (h : ∀ j, j < 200 → k_ev (fp j)) : ∀ j, j < 200 → k_ev ((fun j => if j = e then v else fp j) j) := by
  intro j hj
  dsimp only
  by_cases w : j = e
  · rw [if_pos w]
    exact hv
  · rw [if_neg w]
    exact h j hj
theorem k_bf_of {M N : eg_M} {c : Int32} (h13 : ∀ e, eg_gi N 13 e = eg_gi M 13 e) (h14 : ∀ e, eg_gi N 14 e = eg_gi M 14 e) (h19 : ∀ e, eg_gi N 19 e = eg_gi M 19 e) (h20 : ∀ e, eg_gi N 20 e = eg_gi M 20 e) (h21 : ∀ e, eg_gi N 21 e = eg_gi M 21 e) (h1 : eg_gi N 1 4 = eg_gi M 1 4) : ∀ n, k_bf N c n = k_bf M c n
  | 0 => rfl
  | n + 1 => by
    rw [k_bf, k_bf, k_bf_of h13 h14 h19 h20 h21 h1 n, h13, h14, h19]
    have : k_kn N n = k_kn M n := by
      unfold k_kn
      rw [h20, h21, h1]
    rw [this]
theorem k_to_of {M N : eg_M} {k : Int32} (h24 : ∀ i, eg_gr N 24 i = eg_gr M 24 i) (n : Nat) (h : ∀ i, i < n → ∀ q, eg_gr M 24 i = some q → eg_gi N q 0 = eg_gi M q 0) : k_to N k n = k_to M k n := by
  induction n with
  | zero => rfl
  | succ n ih =>
    rw [k_to, k_to, h24, ih (fun i hi => h i (by omega))]
    cases e : eg_gr M 24 n with
    | none => rfl
    | some q =>
      dsimp only
      rw [h n (by omega) q e]
theorem k_cL_s {M : eg_M} {v : Bool} {c : Nat} {A : List Nat} {e : Nat} : k_cL M v c (A ++ [e]) = if k_cq M v c e = true then e :: k_cL M v c A else k_cL M v c A := by
  unfold k_cL
  rw [List.filter_append, List.reverse_append]
  by_cases h : k_cq M v c e = true
  · rw [if_pos h, List.filter_cons_of_pos h]
    rfl
  · rw [if_neg h, List.filter_cons_of_neg h]
    rfl
theorem k_cL_m {M : eg_M} {v : Bool} {c : Nat} {A : List Nat} {e : Nat} (h : e ∈ k_cL M v c A) : e ∈ A := by
  unfold k_cL at h
  rw [List.mem_reverse] at h
  exact (List.mem_filter.mp h).1
theorem dlt_new {D : Nat → Int32} {L : List Nat} (h : L.Pairwise (dlt D)) {i : Nat} (hi : i < L.length) : L[i] ∉ L.take i := by
  intro z
  obtain ⟨j, hj, e⟩ := List.mem_iff_getElem.mp z
  rw [List.length_take] at hj
  rw [List.getElem_take] at e
  have := List.pairwise_iff_getElem.mp h j i (by omega) hi (by omega)
  unfold dlt at this
  rw [e] at this
  rcases this with y | y
  · exact Int32.lt_irrefl y
  · omega
def k_X3_look : eg_C := ([(0, .aload_n 0, 1), (1, .getfield 39, 3), (4, .iload_n 1, 1), (5, .if_icmp .ne 4, 3), (8, .return_, 1), (9, .aload_n 0, 1), (10, .iload_n 1, 1), (11, .putfield 39, 3), (14, .aload_n 0, 1), (15, .iconst 0, 1), (16, .putfield 70, 3), (19, .aload_n 0, 1), (20, .aload_n 0, 1), (21, .getfield 35, 3), (24, .iload_n 1, 1), (25, .invokevirtual 94, 3), (28, .putfield 47, 3), (31, .aload_n 0, 1), (32, .invokevirtual 98, 3), (35, .aload_n 0, 1), (36, .getfield 64, 3), (39, .iconst (-1), 1), (40, .invokestatic 101, 3), (43, .aload_n 0, 1), (44, .getfield 67, 3), (47, .iconst (-1), 1), (48, .invokestatic 101, 3), (51, .iconst 0, 1), (52, .istore_n 2, 1), (53, .iload_n 2, 1), (54, .aload_n 0, 1), (55, .getfield 28, 3), (58, .getfield 107, 3), (61, .if_icmp .ge 113, 3), (64, .aload_n 0, 1), (65, .getfield 28, 3), (68, .getfield 110, 3), (71, .iload_n 2, 1), (72, .iaload, 1), (73, .istore_n 3, 1), (74, .aload_n 0, 1), (75, .getfield 54, 3), (78, .iload_n 3, 1), (79, .aload_n 0, 1), (80, .getfield 28, 3), (83, .getfield 113, 3), (86, .iload_n 3, 1), (87, .iaload, 1), (88, .ifCond .eq 40, 3), (91, .aload_n 0, 1), (92, .iload_n 3, 1), (93, .invokevirtual 116, 3), (96, .ifCond .eq 32, 3), (99, .aload_n 0, 1), (100, .aload_n 0, 1), (101, .getfield 28, 3), (104, .getfield 120, 3), (107, .iload_n 3, 1), (108, .iaload, 1), (109, .aload_n 0, 1), (110, .getfield 28, 3), (113, .getfield 123, 3), (116, .iload_n 3, 1), (117, .iaload, 1), (118, .invokevirtual 126, 3), (121, .ifCond .eq 7, 3), (124, .iconst 1, 1), (125, .goto 4, 3), (128, .iconst 0, 1), (129, .bastore, 1), (130, .aload_n 0, 1), (131, .getfield 54, 3), (134, .iload_n 3, 1), (135, .baload, 1), (136, .ifCond .eq 32, 3), (139, .aload_n 0, 1), (140, .iload_n 3, 1), (141, .aload_n 0, 1), (142, .getfield 28, 3), (145, .getfield 113, 3), (148, .iload_n 3, 1), (149, .iaload, 1), (150, .iconst 1, 1), (151, .if_icmp .ne 10, 3), (154, .aload_n 0, 1), (155, .getfield 64, 3), (158, .goto 7, 3), (161, .aload_n 0, 1), (162, .getfield 67, 3), (165, .invokevirtual 130, 3), (168, .iinc 2 1, 3), (171, .goto (-118), 3), (174, .return_, 1)], [(28, 3, 2, false), (35, 3, 3, false), (39, 3, 4, true), (47, 3, 5, true), (54, 3, 7, false), (64, 3, 10, false), (67, 3, 11, false), (70, 3, 12, true), (107, 1, 10, false), (110, 1, 9, false), (113, 1, 0, false), (120, 1, 1, false), (123, 1, 6, false)], [], [(101 + 100000, 2, 0, 0, s_J7_fill_53178), (94, 1 + 1, 0, 0, s_X10_textOn), (98, 0 + 1, 0, 0, s_X3_findBreaks), (116, 1 + 1, 0, 0, s_X3_isKnown), (126, 2 + 1, 0, 0, s_X3_isAlive), (130, 2 + 1, 0, 0, s_X3_chain)], [], 0, 0, 0)
theorem mk_X3_look : ∀ q ∈ k_X3_look.2.2.2.1, eg_mono q.2.2.2.2 := (fc (mo_J7_fill_53178) (fc (mo_X10_textOn) (fc (mo_X3_findBreaks) (fc (mo_X3_isKnown) (fc (mo_X3_isAlive) (fc (mo_X3_chain) (fn)))))))
set_option maxRecDepth 100000 in
theorem st_X3_look_0 {Qp : eg_P} {M : eg_M} (a : Int32)
  (g0 : (¬ ((eg_gi M 1 4) = a)) → (k_sf (eg_si (eg_si M 1 4 a) 1 12 (nI 0))))
  (g1 : (¬ ((eg_gi M 1 4) = a)) → (eg_cn (eg_gi (eg_sr (eg_si (eg_si M 1 4 a) 1 12 (nI 0)) 1 5 (some (k_to (eg_si (eg_si M 1 4 a) 1 12 (nI 0)) a (eg_gi (eg_si (eg_si M 1 4 a) 1 12 (nI 0)) 23 2).toNatClampNeg))) 12 10) 200 ∧ ∀ e, e < (eg_gi (eg_sr (eg_si (eg_si M 1 4 a) 1 12 (nI 0)) 1 5 (some (k_to (eg_si (eg_si M 1 4 a) 1 12 (nI 0)) a (eg_gi (eg_si (eg_si M 1 4 a) 1 12 (nI 0)) 23 2).toNatClampNeg))) 12 10).toNatClampNeg → vp_in (eg_gi (eg_sr (eg_si (eg_si M 1 4 a) 1 12 (nI 0)) 1 5 (some (k_to (eg_si (eg_si M 1 4 a) 1 12 (nI 0)) a (eg_gi (eg_si (eg_si M 1 4 a) 1 12 (nI 0)) 23 2).toNatClampNeg))) 14 e) 24))
  (l0 : ((eg_gi M 1 4) = a) → Qp (.inl none) M)
  (l1 : (¬ (eg_gi M 1 4) = a) → eg_T wd k_X3_look Qp 53 0 0 [some (.ref 1), some (.int a), some (.int (nI 0)), none] [] (eg_fi (eg_fi (eg_ri (eg_sr (eg_si (eg_si M 1 4 a) 1 12 (nI 0)) 1 5 (some (k_to (eg_si (eg_si M 1 4 a) 1 12 (nI 0)) a (eg_gi (eg_si (eg_si M 1 4 a) 1 12 (nI 0)) 23 2).toNatClampNeg))) 34 (fun c => if c < 24 then k_bf (eg_sr (eg_si (eg_si M 1 4 a) 1 12 (nI 0)) 1 5 (some (k_to (eg_si (eg_si M 1 4 a) 1 12 (nI 0)) a (eg_gi (eg_si (eg_si M 1 4 a) 1 12 (nI 0)) 23 2).toNatClampNeg))) (nI c) (eg_gi (eg_sr (eg_si (eg_si M 1 4 a) 1 12 (nI 0)) 1 5 (some (k_to (eg_si (eg_si M 1 4 a) 1 12 (nI 0)) a (eg_gi (eg_si (eg_si M 1 4 a) 1 12 (nI 0)) 23 2).toNatClampNeg))) 12 10).toNatClampNeg else eg_gi (eg_sr (eg_si (eg_si M 1 4 a) 1 12 (nI 0)) 1 5 (some (k_to (eg_si (eg_si M 1 4 a) 1 12 (nI 0)) a (eg_gi (eg_si (eg_si M 1 4 a) 1 12 (nI 0)) 23 2).toNatClampNeg))) 34 c)) 38 24 (-nI 1)) 39 24 (-nI 1))) :
  eg_T wd k_X3_look Qp 0 0 0 [some (.ref 1), some (.int a), none, none] [] M := by
  refine eg_T_run mk_X3_look (cut := [53, 99, 129]) 96 ?_
  refine And.intro (fun (c1 : (eg_gi M 1 4) = a) => ?_) (fun (c1 : ¬ (eg_gi M 1 4) = a) => ?_)
  · skip
    show Qp (.inl none) M
    exact l0 c1
  · skip
    refine And.intro (show (k_sf (eg_si (eg_si M 1 4 a) 1 12 (nI 0))) from ?_) ?_
    · exact g0 c1
    refine And.intro (show (eg_cn (eg_gi (eg_sr (eg_si (eg_si M 1 4 a) 1 12 (nI 0)) 1 5 (some (k_to (eg_si (eg_si M 1 4 a) 1 12 (nI 0)) a (eg_gi (eg_si (eg_si M 1 4 a) 1 12 (nI 0)) 23 2).toNatClampNeg))) 12 10) 200 ∧ ∀ e, e < (eg_gi (eg_sr (eg_si (eg_si M 1 4 a) 1 12 (nI 0)) 1 5 (some (k_to (eg_si (eg_si M 1 4 a) 1 12 (nI 0)) a (eg_gi (eg_si (eg_si M 1 4 a) 1 12 (nI 0)) 23 2).toNatClampNeg))) 12 10).toNatClampNeg → vp_in (eg_gi (eg_sr (eg_si (eg_si M 1 4 a) 1 12 (nI 0)) 1 5 (some (k_to (eg_si (eg_si M 1 4 a) 1 12 (nI 0)) a (eg_gi (eg_si (eg_si M 1 4 a) 1 12 (nI 0)) 23 2).toNatClampNeg))) 14 e) 24) from ?_) ?_
    · exact g1 c1
    refine And.intro (show 24 < 2 ^ 31 by decide) ?_
    refine And.intro (show 24 < 2 ^ 31 by decide) ?_
    show eg_T wd k_X3_look Qp 53 0 0 [some (.ref 1), some (.int a), some (.int (nI 0)), none] [] (eg_fi (eg_fi (eg_ri (eg_sr (eg_si (eg_si M 1 4 a) 1 12 (nI 0)) 1 5 (some (k_to (eg_si (eg_si M 1 4 a) 1 12 (nI 0)) a (eg_gi (eg_si (eg_si M 1 4 a) 1 12 (nI 0)) 23 2).toNatClampNeg))) 34 (fun c => if c < 24 then k_bf (eg_sr (eg_si (eg_si M 1 4 a) 1 12 (nI 0)) 1 5 (some (k_to (eg_si (eg_si M 1 4 a) 1 12 (nI 0)) a (eg_gi (eg_si (eg_si M 1 4 a) 1 12 (nI 0)) 23 2).toNatClampNeg))) (nI c) (eg_gi (eg_sr (eg_si (eg_si M 1 4 a) 1 12 (nI 0)) 1 5 (some (k_to (eg_si (eg_si M 1 4 a) 1 12 (nI 0)) a (eg_gi (eg_si (eg_si M 1 4 a) 1 12 (nI 0)) 23 2).toNatClampNeg))) 12 10).toNatClampNeg else eg_gi (eg_sr (eg_si (eg_si M 1 4 a) 1 12 (nI 0)) 1 5 (some (k_to (eg_si (eg_si M 1 4 a) 1 12 (nI 0)) a (eg_gi (eg_si (eg_si M 1 4 a) 1 12 (nI 0)) 23 2).toNatClampNeg))) 34 c)) 38 24 (-nI 1)) 39 24 (-nI 1))
    exact l1 c1

set_option maxRecDepth 100000 in
theorem st_X3_look_53 {Qp : eg_P} {M : eg_M} (a : Int32) (x2 : Int32) (o3 : Option Value)
  (g0 : (¬ ((eg_gi M 12 10) ≤ x2)) → (vp_in x2 200))
  (g1 : (¬ ((eg_gi M 12 10) ≤ x2)) → (vp_in (eg_gi M 22 x2.toNatClampNeg) 200))
  (l0 : ((eg_gi M 12 10) ≤ x2) → Qp (.inl none) M)
  (l1 : (¬ (eg_gi M 12 10) ≤ x2 ∧ ((eg_gi M 13 (eg_gi M 22 x2.toNatClampNeg).toNatClampNeg) = 0 ∨ (¬ (¬ (eg_gi M 1 4) < (eg_gi M 20 (eg_gi M 22 x2.toNatClampNeg).toNatClampNeg) ∧ ¬ (eg_gi M 21 (eg_gi M 22 x2.toNatClampNeg).toNatClampNeg) ≤ (eg_gi M 1 4))))) → eg_T wd k_X3_look Qp 129 0 0 [some (.ref 1), some (.int a), some (.int x2), some (.int (eg_gi M 22 x2.toNatClampNeg))] [.int (nI 0), .int (eg_gi M 22 x2.toNatClampNeg), .ref 35] M)
  (l2 : (¬ (eg_gi M 12 10) ≤ x2 ∧ (¬ (eg_gi M 13 (eg_gi M 22 x2.toNatClampNeg).toNatClampNeg) = 0 ∧ ((¬ (eg_gi M 1 4) < (eg_gi M 20 (eg_gi M 22 x2.toNatClampNeg).toNatClampNeg) ∧ ¬ (eg_gi M 21 (eg_gi M 22 x2.toNatClampNeg).toNatClampNeg) ≤ (eg_gi M 1 4))))) → eg_T wd k_X3_look Qp 99 0 0 [some (.ref 1), some (.int a), some (.int x2), some (.int (eg_gi M 22 x2.toNatClampNeg))] [.int (eg_gi M 22 x2.toNatClampNeg), .ref 35] M) :
  eg_T wd k_X3_look Qp 53 0 0 [some (.ref 1), some (.int a), some (.int x2), o3] [] M := by
  refine eg_T_run mk_X3_look (cut := [53, 99, 129]) 96 ?_
  refine And.intro (fun (c1 : (eg_gi M 12 10) ≤ x2) => ?_) (fun (c1 : ¬ (eg_gi M 12 10) ≤ x2) => ?_)
  · skip
    show Qp (.inl none) M
    exact l0 c1
  · skip
    refine And.intro (show vp_in x2 200 from ?_) ?_
    · exact g0 c1
    refine And.intro (show vp_in (eg_gi M 22 x2.toNatClampNeg) 200 from ?_) ?_
    · exact g1 c1
    refine And.intro (fun (c2 : (eg_gi M 13 (eg_gi M 22 x2.toNatClampNeg).toNatClampNeg) = 0) => ?_) (fun (c2 : ¬ (eg_gi M 13 (eg_gi M 22 x2.toNatClampNeg).toNatClampNeg) = 0) => ?_)
    · skip
      show eg_T wd k_X3_look Qp 129 0 0 [some (.ref 1), some (.int a), some (.int x2), some (.int (eg_gi M 22 x2.toNatClampNeg))] [.int (nI 0), .int (eg_gi M 22 x2.toNatClampNeg), .ref 35] M
      exact l1 ⟨c1, (Or.inl c2)⟩
    · skip
      refine And.intro (show ((vp_in (eg_gi M 22 x2.toNatClampNeg) 200)) from ?_) ?_
      · exact g1 c1
      refine And.intro (fun (c3 : (b2i (decide (¬ (eg_gi M 1 4) < (eg_gi M 20 (eg_gi M 22 x2.toNatClampNeg).toNatClampNeg) ∧ ¬ (eg_gi M 21 (eg_gi M 22 x2.toNatClampNeg).toNatClampNeg) ≤ (eg_gi M 1 4)))) = 0) => ?_) (fun (c3 : ¬ (b2i (decide (¬ (eg_gi M 1 4) < (eg_gi M 20 (eg_gi M 22 x2.toNatClampNeg).toNatClampNeg) ∧ ¬ (eg_gi M 21 (eg_gi M 22 x2.toNatClampNeg).toNatClampNeg) ≤ (eg_gi M 1 4)))) = 0) => ?_)
      · replace c3 := b2i_d0.mp c3
        show eg_T wd k_X3_look Qp 129 0 0 [some (.ref 1), some (.int a), some (.int x2), some (.int (eg_gi M 22 x2.toNatClampNeg))] [.int (nI 0), .int (eg_gi M 22 x2.toNatClampNeg), .ref 35] M
        exact l1 ⟨c1, (Or.inr c3)⟩
      · replace c3 := b2i_dn.mp c3
        show eg_T wd k_X3_look Qp 99 0 0 [some (.ref 1), some (.int a), some (.int x2), some (.int (eg_gi M 22 x2.toNatClampNeg))] [.int (eg_gi M 22 x2.toNatClampNeg), .ref 35] M
        exact l2 ⟨c1, ⟨c2, (Classical.byContradiction c3)⟩⟩

set_option maxRecDepth 100000 in
theorem st_X3_look_99 {Qp : eg_P} {M : eg_M} (a : Int32) (x2 : Int32) (x3 : Int32) (s0 : Int32)
  (g0 : (vp_in x3 200))
  (g1 : (vp_in (eg_gi M 14 x3.toNatClampNeg) 24))
  (l0 : (¬ (¬ (eg_gi M 19 x3.toNatClampNeg) < (eg_gi M 10 (eg_gi M 14 x3.toNatClampNeg).toNatClampNeg) ∧ ¬ (eg_gi M 34 (eg_gi M 14 x3.toNatClampNeg).toNatClampNeg) ≤ (eg_gi M 19 x3.toNatClampNeg))) → eg_T wd k_X3_look Qp 129 0 0 [some (.ref 1), some (.int a), some (.int x2), some (.int x3)] [.int (nI 0), .int s0, .ref 35] M)
  (l1 : (¬ (eg_gi M 19 x3.toNatClampNeg) < (eg_gi M 10 (eg_gi M 14 x3.toNatClampNeg).toNatClampNeg) ∧ ¬ (eg_gi M 34 (eg_gi M 14 x3.toNatClampNeg).toNatClampNeg) ≤ (eg_gi M 19 x3.toNatClampNeg)) → eg_T wd k_X3_look Qp 129 0 0 [some (.ref 1), some (.int a), some (.int x2), some (.int x3)] [.int (nI 1), .int s0, .ref 35] M) :
  eg_T wd k_X3_look Qp 99 0 0 [some (.ref 1), some (.int a), some (.int x2), some (.int x3)] [.int s0, .ref 35] M := by
  refine eg_T_run mk_X3_look (cut := [53, 99, 129]) 96 ?_
  refine And.intro (show vp_in x3 200 from ?_) ?_
  · exact g0
  refine And.intro (show vp_in x3 200 from ?_) ?_
  · exact g0
  refine And.intro (show ((vp_in (eg_gi M 14 x3.toNatClampNeg) 24)) from ?_) ?_
  · exact g1
  refine And.intro (fun (c1 : (b2i (decide (¬ (eg_gi M 19 x3.toNatClampNeg) < (eg_gi M 10 (eg_gi M 14 x3.toNatClampNeg).toNatClampNeg) ∧ ¬ (eg_gi M 34 (eg_gi M 14 x3.toNatClampNeg).toNatClampNeg) ≤ (eg_gi M 19 x3.toNatClampNeg)))) = 0) => ?_) (fun (c1 : ¬ (b2i (decide (¬ (eg_gi M 19 x3.toNatClampNeg) < (eg_gi M 10 (eg_gi M 14 x3.toNatClampNeg).toNatClampNeg) ∧ ¬ (eg_gi M 34 (eg_gi M 14 x3.toNatClampNeg).toNatClampNeg) ≤ (eg_gi M 19 x3.toNatClampNeg)))) = 0) => ?_)
  · replace c1 := b2i_d0.mp c1
    show eg_T wd k_X3_look Qp 129 0 0 [some (.ref 1), some (.int a), some (.int x2), some (.int x3)] [.int (nI 0), .int s0, .ref 35] M
    exact l0 c1
  · replace c1 := b2i_dn.mp c1
    show eg_T wd k_X3_look Qp 129 0 0 [some (.ref 1), some (.int a), some (.int x2), some (.int x3)] [.int (nI 1), .int s0, .ref 35] M
    exact l1 (Classical.byContradiction c1)

set_option maxRecDepth 100000 in
theorem st_X3_look_129 {Qp : eg_P} {M : eg_M} (a : Int32) (x2 : Int32) (x3 : Int32) (s0 : Int32) (s1 : Int32)
  (g0 : (vp_in s1 200))
  (g1 : (s0 = 0 ∨ s0 = 1))
  (g2 : (vp_in x3 200))
  (g3 : (¬ ((eg_gi (eg_si M 35 s1.toNatClampNeg s0) 35 x3.toNatClampNeg) = 0)) → (vp_in (eg_gi M 14 x3.toNatClampNeg) 24))
  (g4 : (¬ ((eg_gi (eg_si M 35 s1.toNatClampNeg s0) 35 x3.toNatClampNeg) = 0)) → ((eg_gi M 13 x3.toNatClampNeg) = (nI 1)) → (¬ ((eg_gi M 38 (eg_gi M 14 x3.toNatClampNeg).toNatClampNeg) = (-nI 1))) → (vp_in (eg_gi M 38 (eg_gi M 14 x3.toNatClampNeg).toNatClampNeg) 200))
  (g5 : (¬ ((eg_gi (eg_si M 35 s1.toNatClampNeg s0) 35 x3.toNatClampNeg) = 0)) → (¬ ((eg_gi M 13 x3.toNatClampNeg) = (nI 1))) → (¬ ((eg_gi M 39 (eg_gi M 14 x3.toNatClampNeg).toNatClampNeg) = (-nI 1))) → (vp_in (eg_gi M 39 (eg_gi M 14 x3.toNatClampNeg).toNatClampNeg) 200))
  (l0 : ((eg_gi (eg_si M 35 s1.toNatClampNeg s0) 35 x3.toNatClampNeg) = 0) → eg_T wd k_X3_look Qp 53 0 0 [some (.ref 1), some (.int a), some (.int (x2 + (nI 1))), some (.int x3)] [] (eg_si M 35 s1.toNatClampNeg s0))
  (l1 : (¬ (eg_gi (eg_si M 35 s1.toNatClampNeg s0) 35 x3.toNatClampNeg) = 0 ∧ ((eg_gi M 13 x3.toNatClampNeg) = (nI 1) ∧ (eg_gi M 38 (eg_gi M 14 x3.toNatClampNeg).toNatClampNeg) = (-nI 1))) → eg_T wd k_X3_look Qp 53 0 0 [some (.ref 1), some (.int a), some (.int (x2 + (nI 1))), some (.int x3)] [] (eg_si (eg_si (eg_si (eg_si M 35 s1.toNatClampNeg s0) 36 x3.toNatClampNeg (eg_gi M 38 (eg_gi M 14 x3.toNatClampNeg).toNatClampNeg)) 37 x3.toNatClampNeg (nI 0)) 38 (eg_gi M 14 x3.toNatClampNeg).toNatClampNeg x3))
  (l2 : (¬ (eg_gi (eg_si M 35 s1.toNatClampNeg s0) 35 x3.toNatClampNeg) = 0 ∧ ((eg_gi M 13 x3.toNatClampNeg) = (nI 1) ∧ ¬ (eg_gi M 38 (eg_gi M 14 x3.toNatClampNeg).toNatClampNeg) = (-nI 1))) → eg_T wd k_X3_look Qp 53 0 0 [some (.ref 1), some (.int a), some (.int (x2 + (nI 1))), some (.int x3)] [] (eg_si (eg_si (eg_si (eg_si M 35 s1.toNatClampNeg s0) 36 x3.toNatClampNeg (eg_gi M 38 (eg_gi M 14 x3.toNatClampNeg).toNatClampNeg)) 37 x3.toNatClampNeg ((eg_gi M 37 (eg_gi M 38 (eg_gi M 14 x3.toNatClampNeg).toNatClampNeg).toNatClampNeg) + (nI 1))) 38 (eg_gi M 14 x3.toNatClampNeg).toNatClampNeg x3))
  (l3 : (¬ (eg_gi (eg_si M 35 s1.toNatClampNeg s0) 35 x3.toNatClampNeg) = 0 ∧ (¬ (eg_gi M 13 x3.toNatClampNeg) = (nI 1) ∧ (eg_gi M 39 (eg_gi M 14 x3.toNatClampNeg).toNatClampNeg) = (-nI 1))) → eg_T wd k_X3_look Qp 53 0 0 [some (.ref 1), some (.int a), some (.int (x2 + (nI 1))), some (.int x3)] [] (eg_si (eg_si (eg_si (eg_si M 35 s1.toNatClampNeg s0) 36 x3.toNatClampNeg (eg_gi M 39 (eg_gi M 14 x3.toNatClampNeg).toNatClampNeg)) 37 x3.toNatClampNeg (nI 0)) 39 (eg_gi M 14 x3.toNatClampNeg).toNatClampNeg x3))
  (l4 : (¬ (eg_gi (eg_si M 35 s1.toNatClampNeg s0) 35 x3.toNatClampNeg) = 0 ∧ (¬ (eg_gi M 13 x3.toNatClampNeg) = (nI 1) ∧ ¬ (eg_gi M 39 (eg_gi M 14 x3.toNatClampNeg).toNatClampNeg) = (-nI 1))) → eg_T wd k_X3_look Qp 53 0 0 [some (.ref 1), some (.int a), some (.int (x2 + (nI 1))), some (.int x3)] [] (eg_si (eg_si (eg_si (eg_si M 35 s1.toNatClampNeg s0) 36 x3.toNatClampNeg (eg_gi M 39 (eg_gi M 14 x3.toNatClampNeg).toNatClampNeg)) 37 x3.toNatClampNeg ((eg_gi M 37 (eg_gi M 39 (eg_gi M 14 x3.toNatClampNeg).toNatClampNeg).toNatClampNeg) + (nI 1))) 39 (eg_gi M 14 x3.toNatClampNeg).toNatClampNeg x3)) :
  eg_T wd k_X3_look Qp 129 0 0 [some (.ref 1), some (.int a), some (.int x2), some (.int x3)] [.int s0, .int s1, .ref 35] M := by
  refine eg_T_run mk_X3_look (cut := [53, 99, 129]) 96 ?_
  refine And.intro (show vp_in s1 200 from ?_) ?_
  · exact g0
  refine And.intro (show s0 = 0 ∨ s0 = 1 from ?_) ?_
  · exact g1
  refine And.intro (show vp_in x3 200 from ?_) ?_
  · exact g2
  refine And.intro (fun (c1 : (eg_gi (eg_si M 35 s1.toNatClampNeg s0) 35 x3.toNatClampNeg) = 0) => ?_) (fun (c1 : ¬ (eg_gi (eg_si M 35 s1.toNatClampNeg s0) 35 x3.toNatClampNeg) = 0) => ?_)
  · skip
    show eg_T wd k_X3_look Qp 53 0 0 [some (.ref 1), some (.int a), some (.int (x2 + (nI 1))), some (.int x3)] [] (eg_si M 35 s1.toNatClampNeg s0)
    exact l0 c1
  · skip
    refine And.intro (show vp_in x3 200 from ?_) ?_
    · exact g2
    refine And.intro (fun (c2 : (eg_gi M 13 x3.toNatClampNeg) = (nI 1)) => ?_) (fun (c2 : ¬ (eg_gi M 13 x3.toNatClampNeg) = (nI 1)) => ?_)
    · skip
      refine And.intro (show vp_in x3 200 from ?_) ?_
      · exact g2
      refine And.intro (show vp_in (eg_gi M 14 x3.toNatClampNeg) 24 from ?_) ?_
      · exact g3 c1
      refine And.intro (show vp_in x3 200 from ?_) ?_
      · exact g2
      refine And.intro (show vp_in (eg_gi M 14 x3.toNatClampNeg) 24 from ?_) ?_
      · exact g3 c1
      refine And.intro (fun (c3 : (eg_gi M 38 (eg_gi M 14 x3.toNatClampNeg).toNatClampNeg) = (-nI 1)) => ?_) (fun (c3 : ¬ (eg_gi M 38 (eg_gi M 14 x3.toNatClampNeg).toNatClampNeg) = (-nI 1)) => ?_)
      · skip
        refine And.intro (show vp_in x3 200 from ?_) ?_
        · exact g2
        refine And.intro (show vp_in (eg_gi M 14 x3.toNatClampNeg) 24 from ?_) ?_
        · exact g3 c1
        show eg_T wd k_X3_look Qp 53 0 0 [some (.ref 1), some (.int a), some (.int (x2 + (nI 1))), some (.int x3)] [] (eg_si (eg_si (eg_si (eg_si M 35 s1.toNatClampNeg s0) 36 x3.toNatClampNeg (eg_gi M 38 (eg_gi M 14 x3.toNatClampNeg).toNatClampNeg)) 37 x3.toNatClampNeg (nI 0)) 38 (eg_gi M 14 x3.toNatClampNeg).toNatClampNeg x3)
        exact l1 ⟨c1, ⟨c2, c3⟩⟩
      · skip
        refine And.intro (show vp_in (eg_gi M 14 x3.toNatClampNeg) 24 from ?_) ?_
        · exact g3 c1
        refine And.intro (show vp_in (eg_gi M 38 (eg_gi M 14 x3.toNatClampNeg).toNatClampNeg) 200 from ?_) ?_
        · exact g4 c1 c2 c3
        refine And.intro (show vp_in x3 200 from ?_) ?_
        · exact g2
        refine And.intro (show vp_in (eg_gi M 14 x3.toNatClampNeg) 24 from ?_) ?_
        · exact g3 c1
        show eg_T wd k_X3_look Qp 53 0 0 [some (.ref 1), some (.int a), some (.int (x2 + (nI 1))), some (.int x3)] [] (eg_si (eg_si (eg_si (eg_si M 35 s1.toNatClampNeg s0) 36 x3.toNatClampNeg (eg_gi M 38 (eg_gi M 14 x3.toNatClampNeg).toNatClampNeg)) 37 x3.toNatClampNeg ((eg_gi M 37 (eg_gi M 38 (eg_gi M 14 x3.toNatClampNeg).toNatClampNeg).toNatClampNeg) + (nI 1))) 38 (eg_gi M 14 x3.toNatClampNeg).toNatClampNeg x3)
        exact l2 ⟨c1, ⟨c2, c3⟩⟩
    · skip
      refine And.intro (show vp_in x3 200 from ?_) ?_
      · exact g2
      refine And.intro (show vp_in (eg_gi M 14 x3.toNatClampNeg) 24 from ?_) ?_
      · exact g3 c1
      refine And.intro (show vp_in x3 200 from ?_) ?_
      · exact g2
      refine And.intro (show vp_in (eg_gi M 14 x3.toNatClampNeg) 24 from ?_) ?_
      · exact g3 c1
      refine And.intro (fun (c4 : (eg_gi M 39 (eg_gi M 14 x3.toNatClampNeg).toNatClampNeg) = (-nI 1)) => ?_) (fun (c4 : ¬ (eg_gi M 39 (eg_gi M 14 x3.toNatClampNeg).toNatClampNeg) = (-nI 1)) => ?_)
      · skip
        refine And.intro (show vp_in x3 200 from ?_) ?_
        · exact g2
        refine And.intro (show vp_in (eg_gi M 14 x3.toNatClampNeg) 24 from ?_) ?_
        · exact g3 c1
        show eg_T wd k_X3_look Qp 53 0 0 [some (.ref 1), some (.int a), some (.int (x2 + (nI 1))), some (.int x3)] [] (eg_si (eg_si (eg_si (eg_si M 35 s1.toNatClampNeg s0) 36 x3.toNatClampNeg (eg_gi M 39 (eg_gi M 14 x3.toNatClampNeg).toNatClampNeg)) 37 x3.toNatClampNeg (nI 0)) 39 (eg_gi M 14 x3.toNatClampNeg).toNatClampNeg x3)
        exact l3 ⟨c1, ⟨c2, c4⟩⟩
      · skip
        refine And.intro (show vp_in (eg_gi M 14 x3.toNatClampNeg) 24 from ?_) ?_
        · exact g3 c1
        refine And.intro (show vp_in (eg_gi M 39 (eg_gi M 14 x3.toNatClampNeg).toNatClampNeg) 200 from ?_) ?_
        · exact g5 c1 c2 c4
        refine And.intro (show vp_in x3 200 from ?_) ?_
        · exact g2
        refine And.intro (show vp_in (eg_gi M 14 x3.toNatClampNeg) 24 from ?_) ?_
        · exact g3 c1
        show eg_T wd k_X3_look Qp 53 0 0 [some (.ref 1), some (.int a), some (.int (x2 + (nI 1))), some (.int x3)] [] (eg_si (eg_si (eg_si (eg_si M 35 s1.toNatClampNeg s0) 36 x3.toNatClampNeg (eg_gi M 39 (eg_gi M 14 x3.toNatClampNeg).toNatClampNeg)) 37 x3.toNatClampNeg ((eg_gi M 37 (eg_gi M 39 (eg_gi M 14 x3.toNatClampNeg).toNatClampNeg).toNatClampNeg) + (nI 1))) 39 (eg_gi M 14 x3.toNatClampNeg).toNatClampNeg x3)
        exact l4 ⟨c1, ⟨c2, c4⟩⟩

def s_X3_look : eg_S := fun argv M Qp => match argv with
  | [.ref 1, .int a] => (k_sf M ∧ ∃ L, k_W M L) ∧ ∀ (u : k_U), (((k_nw M a u = M ∧ eg_gi M 1 4 = a) ∨ (u.1 = nI 0 ∧ ∃ L, k_W M L ∧ k_lkd (k_nw M a u) L)) ∧ ((∀ j, j < 200 → k_ev (eg_gi M 36 j)) → ∀ j, j < 200 → k_ev (u.2.2.2.2.1 j))) → Qp (.inl none) (k_nw M a u)
  | _ => False
theorem mo_X3_look : eg_mono s_X3_look := by
  intro argv M Q Q' h
  unfold s_X3_look
  split
  · exact fun z => ⟨z.1, fun u y => h _ _ (z.2 u y)⟩
  · exact id
theorem sz_X3_look : ∀ argv M Qp, s_X3_look argv M Qp → (eg_ls0 argv).length ≤ 4 := by
  intro argv M Qp h
  unfold s_X3_look at h
  split at h
  · exact Nat.le_of_ble_eq_true rfl
  · exact h.elim
theorem sr_X3_look : ∀ argv M Qp, s_X3_look argv M Qp → ∃ p0 As, argv = .ref p0 :: As ∧ eg_isO wd M p0 3 = true := by
  intro argv M Qp h
  unfold s_X3_look at h
  split at h
  · exact ⟨_, _, rfl, rfl⟩
  · exact h.elim
set_option maxRecDepth 100000 in
set_option maxHeartbeats 1000000 in
theorem T_X3_look {argv : List Value} {M : eg_M} {Qp : eg_P} (h : s_X3_look argv M Qp) : eg_T wd k_X3_look Qp 0 0 0 (eg_lsN 4 argv) [] M := by
  unfold s_X3_look at h
  split at h
  · rename_i a
    obtain ⟨hp, hq⟩ := h
    obtain ⟨hS, L, hW⟩ := hp
    obtain ⟨⟨n, hn, hN⟩, hL, hO, hC⟩ := id hW
    rw [hN, n_c (by omega)] at hO hC
    refine st_X3_look_0 a (fun _ => hS) (fun _ => ⟨⟨n, hn, hN⟩, ?_⟩) (fun z => ?_) (fun z => ?_)
    · intro e he
      refine hC e ?_
      have he : e < (eg_gi M 12 10).toNatClampNeg := he
      rw [hN, n_c (by omega)] at he
      exact he
    · have hid : k_nw M a (eg_gi M 1 12, eg_gr M 1 5, eg_gi M 34, eg_gi M 35, eg_gi M 36, eg_gi M 37, eg_gi M 38, eg_gi M 39) = M := by
        subst z
        unfold k_nw
        rw [si_id, si_id]
        have : eg_sr M 1 5 (eg_gr M 1 5) = M := by
          unfold eg_sr eg_gr eg_up
          obtain ⟨a, b, c, d⟩ := M
          congr 3
          funext q
          by_cases h : q = 1
          · subst h
            rw [if_pos rfl]
            funext j
            by_cases h2 : j = 5
            · subst h2
              rw [if_pos rfl]
            · rw [if_neg h2]
          · rw [if_neg h]
        dsimp only
        rw [this, ri_id, ri_id, ri_id, ri_id, ri_id, ri_id]
      have := hq (eg_gi M 1 12, eg_gr M 1 5, eg_gi M 34, eg_gi M 35, eg_gi M 36, eg_gi M 37, eg_gi M 38, eg_gi M 39) ⟨Or.inl ⟨hid, z⟩, fun y => y⟩
      rw [hid] at this
      exact this
    · rw [fi_ri, fi_ri]
      have key : ∀ (t : Option Nat) (fb : Nat → Int32), t = some (k_to (eg_si (eg_si M 1 4 a) 1 12 (nI 0)) a (eg_gi M 23 2).toNatClampNeg) → (∀ c, c < 24 → fb c = k_bf (eg_sr (eg_si (eg_si M 1 4 a) 1 12 (nI 0)) 1 5 t) (nI c) n) → eg_T wd k_X3_look Qp 53 0 0 [some (.ref 1), some (.int a), some (.int (nI 0)), none] [] (k_nw M a (nI 0, t, fb, eg_gi M 35, eg_gi M 36, eg_gi M 37, fun j => if j < 24 then -nI 1 else eg_gi M 38 j, fun j => if j < 24 then -nI 1 else eg_gi M 39 j)) := by
        intro t fb ht hfb
        have lp : ∀ i (x : k_R × Option Value), i ≤ n → ((∀ e, e ∈ L.take i → x.1.1 e = b2i (k_ct (k_nw M a (nI 0, t, fb, x.1)) e)) ∧ (∀ c, c < 24 → k_chn x.1.2.1 x.1.2.2.1 (x.1.2.2.2.1 c) (k_cL (k_nw M a (nI 0, t, fb, x.1)) true c (L.take i)) ∧ k_chn x.1.2.1 x.1.2.2.1 (x.1.2.2.2.2 c) (k_cL (k_nw M a (nI 0, t, fb, x.1)) false c (L.take i))) ∧ ((∀ j, j < 200 → k_ev (eg_gi M 36 j)) → ∀ j, j < 200 → k_ev (x.1.2.1 j))) → eg_T wd k_X3_look Qp 53 0 0 [some (.ref 1), some (.int a), some (.int (nI i)), x.2] [] (k_nw M a (nI 0, t, fb, x.1)) := by
          refine eg_for ?_
          intro i ⟨⟨fc, fp, fa, fv, fg⟩, o⟩ hi hI kk
          obtain ⟨hI1, hI2, hI3⟩ := hI
          dsimp only at hI1 hI2 hI3
          have st := st_X3_look_53 (Qp := Qp) (M := k_nw M a (nI 0, t, fb, fc, fp, fa, fv, fg)) a (nI i) o
          have r12 : eg_gi (k_nw M a (nI 0, t, fb, fc, fp, fa, fv, fg)) 12 10 = nI n := hN
          have r22 : ∀ j, eg_gi (k_nw M a (nI 0, t, fb, fc, fp, fa, fv, fg)) 22 j = eg_gi M 22 j := fun _ => rfl
          simp (disch := omega) only [r12, r22, n_c, n_le, Nat.not_le] at st
          obtain ⟨hlen, hpw, hmem⟩ := id hO
          rcases Nat.lt_or_ge i n with hin | hin
          · have hLi : i < L.length := by omega
            have he22 : eg_gi M 22 i = nI L[i] := hL i hLi
            have hen : L[i] < n := (hmem _).mp (List.getElem_mem hLi)
            have hnew : L[i] ∉ L.take i := dlt_new hpw hLi
            have hT : L.take (i + 1) = L.take i ++ [L[i]] := (List.take_append_getElem hLi).symm
            generalize L[i] = e at he22 hen hnew hT
            rw [he22] at st
            simp (disch := omega) only [n_c, n_in] at st
            obtain ⟨c, hc24, hc14⟩ := vp_in_of (hC e hen) (by decide)
            rw [hT] at kk
            have hcl : ∀ v d, d < 24 → k_cL (k_nw M a (nI 0, t, fb, fc, fp, fa, fv, fg)) v d (L.take i ++ [e]) = if k_ct (k_nw M a (nI 0, t, fb, fc, fp, fa, fv, fg)) e = true ∧ d = c ∧ decide (eg_gi M 13 e = nI 1) = v then e :: k_cL (k_nw M a (nI 0, t, fb, fc, fp, fa, fv, fg)) v d (L.take i) else k_cL (k_nw M a (nI 0, t, fb, fc, fp, fa, fv, fg)) v d (L.take i) := by
              intro v d hd
              rw [k_cL_s]
              have : k_cq (k_nw M a (nI 0, t, fb, fc, fp, fa, fv, fg)) v d e = true ↔ (k_ct (k_nw M a (nI 0, t, fb, fc, fp, fa, fv, fg)) e = true ∧ d = c ∧ decide (eg_gi M 13 e = nI 1) = v) := by
                unfold k_cq
                rw [show eg_gi (k_nw M a (nI 0, t, fb, fc, fp, fa, fv, fg)) 14 e = nI c from hc14, show eg_gi (k_nw M a (nI 0, t, fb, fc, fp, fa, fv, fg)) 13 e = eg_gi M 13 e from rfl]
                rw [Bool.and_eq_true, Bool.and_eq_true, decide_eq_true_eq, n_eq (by omega) (by omega), beq_iff_eq]
                constructor
                · rintro ⟨h1, h2, h3⟩
                  exact ⟨h1, h2.symm, h3⟩
                · rintro ⟨h1, h2, h3⟩
                  exact ⟨h1, h2.symm, h3⟩
              by_cases z : k_cq (k_nw M a (nI 0, t, fb, fc, fp, fa, fv, fg)) v d e = true
              · rw [if_pos z, if_pos (this.mp z)]
              · rw [if_neg z, if_neg (fun w => z (this.mpr w))]
            have hfc : ∀ j, j ∈ L.take i ++ [e] → (if j = e then b2i (k_ct (k_nw M a (nI 0, t, fb, fc, fp, fa, fv, fg)) e) else fc j) = b2i (k_ct (k_nw M a (nI 0, t, fb, fc, fp, fa, fv, fg)) j) := by
              intro j hj
              by_cases z : j = e
              · rw [if_pos z, z]
              · rw [if_neg z]
                rw [List.mem_append, List.mem_singleton] at hj
                exact hI1 j (hj.resolve_right z)
            have hnR : ∀ v d, e ∉ k_cL (k_nw M a (nI 0, t, fb, fc, fp, fa, fv, fg)) v d (L.take i) := fun v d z => hnew (k_cL_m z)
            have main : eg_T wd k_X3_look Qp 129 0 0 [some (.ref 1), some (.int a), some (.int (nI i)), some (.int (nI e))] [.int (b2i (k_ct (k_nw M a (nI 0, t, fb, fc, fp, fa, fv, fg)) e)), .int (nI e), .ref 35] (k_nw M a (nI 0, t, fb, fc, fp, fa, fv, fg)) := by
              have st2 := st_X3_look_129 (Qp := Qp) (M := k_nw M a (nI 0, t, fb, fc, fp, fa, fv, fg)) a (nI i) (nI e) (b2i (k_ct (k_nw M a (nI 0, t, fb, fc, fp, fa, fv, fg)) e)) (nI e)
              rw [n_c (show e < 2 ^ 31 by omega), show eg_gi (eg_si (k_nw M a (nI 0, t, fb, fc, fp, fa, fv, fg)) 35 e (b2i (k_ct (k_nw M a (nI 0, t, fb, fc, fp, fa, fv, fg)) e))) 35 e = b2i (k_ct (k_nw M a (nI 0, t, fb, fc, fp, fa, fv, fg)) e) by rw [si_g, if_pos ⟨rfl, rfl⟩], show eg_gi (k_nw M a (nI 0, t, fb, fc, fp, fa, fv, fg)) 14 e = nI c from hc14, n_c (show c < 2 ^ 31 by omega), show eg_gi (k_nw M a (nI 0, t, fb, fc, fp, fa, fv, fg)) 13 e = eg_gi M 13 e from rfl, show eg_gi (k_nw M a (nI 0, t, fb, fc, fp, fa, fv, fg)) 38 c = fv c from rfl, show eg_gi (k_nw M a (nI 0, t, fb, fc, fp, fa, fv, fg)) 39 c = fg c from rfl, show eg_gi (k_nw M a (nI 0, t, fb, fc, fp, fa, fv, fg)) 37 (fv c).toNatClampNeg = fa (fv c).toNatClampNeg from rfl, show eg_gi (k_nw M a (nI 0, t, fb, fc, fp, fa, fv, fg)) 37 (fg c).toNatClampNeg = fa (fg c).toNatClampNeg from rfl, n_s, b2i_0] at st2
              simp only [nw_35, nw_36, nw_37, nw_38, nw_39] at st2
              have hV := hI2 c hc24
              have c0 : k_ct (k_nw M a (nI 0, t, fb, fc, fp, fa, fv, fg)) e = true → eg_gi M 13 e = nI 1 → ∀ w, w = nI (k_cL (k_nw M a (nI 0, t, fb, fc, fp, fa, fv, fg)) true c (L.take i)).length → eg_T wd k_X3_look Qp 53 0 0 [some (.ref 1), some (.int a), some (.int (nI (i + 1))), some (.int (nI e))] [] (k_nw M a (nI 0, t, fb, (fun j => if j = e then b2i (k_ct (k_nw M a (nI 0, t, fb, fc, fp, fa, fv, fg)) e) else fc j), (fun j => if j = e then fv c else fp j), (fun j => if j = e then w else fa j), (fun j => if j = c then nI e else fv j), fg)) := by
                intro h1 h2 w hw
                refine kk ((_, _, _, _, _), some (.int (nI e))) hin ⟨hfc, fun d hd => ⟨?_, ?_⟩, fun y j hj => k_ev_up ((chn_hd hV.1).imp And.left And.left) (hI3 y) j hj⟩
                · show k_chn _ _ (if d = c then nI e else fv d) (k_cL (k_nw M a (nI 0, t, fb, fc, fp, fa, fv, fg)) true d (L.take i ++ [e]))
                  rw [hcl true d hd]
                  by_cases z : d = c
                  · subst z
                    rw [if_pos rfl, if_pos ⟨h1, rfl, decide_eq_true h2⟩]
                    exact chn_add hV.1 (hnR _ _) (by omega) hw
                  · rw [if_neg z, if_neg (fun y => z y.2.1)]
                    exact chn_up (hI2 d hd).1 (hnR _ _)
                · show k_chn _ _ (fg d) (k_cL (k_nw M a (nI 0, t, fb, fc, fp, fa, fv, fg)) false d (L.take i ++ [e]))
                  rw [hcl false d hd, if_neg (fun y => by rw [decide_eq_true h2] at y; exact Bool.noConfusion y.2.2)]
                  exact chn_up (hI2 d hd).2 (hnR _ _)
              have c1 : k_ct (k_nw M a (nI 0, t, fb, fc, fp, fa, fv, fg)) e = true → ¬ eg_gi M 13 e = nI 1 → ∀ w, w = nI (k_cL (k_nw M a (nI 0, t, fb, fc, fp, fa, fv, fg)) false c (L.take i)).length → eg_T wd k_X3_look Qp 53 0 0 [some (.ref 1), some (.int a), some (.int (nI (i + 1))), some (.int (nI e))] [] (k_nw M a (nI 0, t, fb, (fun j => if j = e then b2i (k_ct (k_nw M a (nI 0, t, fb, fc, fp, fa, fv, fg)) e) else fc j), (fun j => if j = e then fg c else fp j), (fun j => if j = e then w else fa j), fv, (fun j => if j = c then nI e else fg j))) := by
                intro h1 h2 w hw
                refine kk ((_, _, _, _, _), some (.int (nI e))) hin ⟨hfc, fun d hd => ⟨?_, ?_⟩, fun y j hj => k_ev_up ((chn_hd hV.2).imp And.left And.left) (hI3 y) j hj⟩
                · show k_chn _ _ (fv d) (k_cL (k_nw M a (nI 0, t, fb, fc, fp, fa, fv, fg)) true d (L.take i ++ [e]))
                  rw [hcl true d hd, if_neg (fun y => by rw [decide_eq_false h2] at y; exact Bool.noConfusion y.2.2)]
                  exact chn_up (hI2 d hd).1 (hnR _ _)
                · show k_chn _ _ (if d = c then nI e else fg d) (k_cL (k_nw M a (nI 0, t, fb, fc, fp, fa, fv, fg)) false d (L.take i ++ [e]))
                  rw [hcl false d hd]
                  by_cases z : d = c
                  · subst z
                    rw [if_pos rfl, if_pos ⟨h1, rfl, decide_eq_false h2⟩]
                    exact chn_add hV.2 (hnR _ _) (by omega) hw
                  · rw [if_neg z, if_neg (fun y => z y.2.1)]
                    exact chn_up (hI2 d hd).2 (hnR _ _)
              have bt : ∀ {b : Bool}, ¬ b = false → b = true := fun {b} z => by cases b <;> first | rfl | exact absurd rfl z
              refine st2 ((n_in (by omega) (by decide)).mpr (by omega)) (show k_ct (k_nw M a (nI 0, t, fb, fc, fp, fa, fv, fg)) e = false ∨ _ from (b2i_01 _).imp b2i_0.mp id) ((n_in (by omega) (by decide)).mpr (by omega)) (fun _ => (n_in (by omega) (by decide)).mpr hc24) (fun _ _ z => ?_) (fun _ _ z => ?_) (fun z => ?_) (fun z => ?_) (fun z => ?_) (fun z => ?_) (fun z => ?_)
              · rcases chn_hd hV.1 with y | y
                · exact absurd y.1 z
                · exact y.1
              · rcases chn_hd hV.2 with y | y
                · exact absurd y.1 z
                · exact y.1
              · refine kk ((_, _, _, _, _), some (.int (nI e))) hin ⟨hfc, fun d hd => ⟨?_, ?_⟩, hI3⟩
                · show k_chn _ _ (fv d) (k_cL (k_nw M a (nI 0, t, fb, fc, fp, fa, fv, fg)) true d (L.take i ++ [e]))
                  rw [hcl true d hd, if_neg (fun y => by rw [z] at y; exact Bool.noConfusion y.1)]
                  exact (hI2 d hd).1
                · show k_chn _ _ (fg d) (k_cL (k_nw M a (nI 0, t, fb, fc, fp, fa, fv, fg)) false d (L.take i ++ [e]))
                  rw [hcl false d hd, if_neg (fun y => by rw [z] at y; exact Bool.noConfusion y.1)]
                  exact (hI2 d hd).2
              · refine c0 (bt z.1) z.2.1 (nI 0) ?_
                rcases chn_hd hV.1 with y | y
                · rw [y.2]; rfl
                · rw [z.2.2] at y
                  exact absurd (vp_in_of y.1 (by decide)) (fun ⟨j, hj, ej⟩ => nI_m1 (by omega) ej.symm)
              · refine c0 (bt z.1) z.2.1 _ ?_
                rcases chn_hd hV.1 with y | y
                · exact absurd y.1 z.2.2
                · exact y.2
              · refine c1 (bt z.1) z.2.1 (nI 0) ?_
                rcases chn_hd hV.2 with y | y
                · rw [y.2]; rfl
                · rw [z.2.2] at y
                  exact absurd (vp_in_of y.1 (by decide)) (fun ⟨j, hj, ej⟩ => nI_m1 (by omega) ej.symm)
              · refine c1 (bt z.1) z.2.1 _ ?_
                rcases chn_hd hV.2 with y | y
                · exact absurd y.1 z.2.2
                · exact y.2
            have hct : k_ct (k_nw M a (nI 0, t, fb, fc, fp, fa, fv, fg)) e = true ↔ (¬ eg_gi (k_nw M a (nI 0, t, fb, fc, fp, fa, fv, fg)) 13 e = 0 ∧ (¬ eg_gi (k_nw M a (nI 0, t, fb, fc, fp, fa, fv, fg)) 1 4 < eg_gi (k_nw M a (nI 0, t, fb, fc, fp, fa, fv, fg)) 20 e ∧ ¬ eg_gi (k_nw M a (nI 0, t, fb, fc, fp, fa, fv, fg)) 21 e ≤ eg_gi (k_nw M a (nI 0, t, fb, fc, fp, fa, fv, fg)) 1 4) ∧ ¬ eg_gi (k_nw M a (nI 0, t, fb, fc, fp, fa, fv, fg)) 19 e < eg_gi (k_nw M a (nI 0, t, fb, fc, fp, fa, fv, fg)) 10 (eg_gi (k_nw M a (nI 0, t, fb, fc, fp, fa, fv, fg)) 14 e).toNatClampNeg ∧ ¬ eg_gi (k_nw M a (nI 0, t, fb, fc, fp, fa, fv, fg)) 34 (eg_gi (k_nw M a (nI 0, t, fb, fc, fp, fa, fv, fg)) 14 e).toNatClampNeg ≤ eg_gi (k_nw M a (nI 0, t, fb, fc, fp, fa, fv, fg)) 19 e) := by
              unfold k_ct k_kn
              rw [decide_eq_true_eq, decide_eq_true_eq]
            have bf : ∀ {b : Bool}, ¬ b = true → b = false := fun {b} z => by cases b <;> first | rfl | exact absurd rfl z
            refine st (fun _ => by omega) (fun _ => by omega) (fun z => absurd hin (by omega)) (fun z => ?_) (fun z => ?_)
            · rw [bf (b := k_ct (k_nw M a (nI 0, t, fb, fc, fp, fa, fv, fg)) e) (fun y => ?_)] at main
              · exact main
              · rw [hct] at y
                rcases z.2 with w | w
                · exact y.1 w
                · exact w y.2.1
            · have s9 := st_X3_look_99 (Qp := Qp) (M := k_nw M a (nI 0, t, fb, fc, fp, fa, fv, fg)) a (nI i) (nI e) (nI e)
              rw [n_c (show e < 2 ^ 31 by omega)] at s9
              refine s9 ((n_in (by omega) (by decide)).mpr (by omega)) (hC e hen) (fun y => ?_) (fun y => ?_)
              · rw [bf (b := k_ct (k_nw M a (nI 0, t, fb, fc, fp, fa, fv, fg)) e) (fun w => ?_)] at main
                · exact main
                · rw [hct] at w
                  exact y w.2.2
              · rw [hct.mpr ⟨z.2.1, z.2.2, y⟩] at main
                exact main
          · have hin : i = n := by omega
            subst hin
            have hta : L.take i = L := List.take_of_length_le (by omega)
            rw [hta] at hI1 hI2
            refine st (fun z => absurd z (by omega)) (fun z => absurd z (by omega)) (fun _ => ?_) (fun z => absurd z.1 (by omega)) (fun z => absurd z.1 (by omega))
            have hnn : (eg_gi M 12 10).toNatClampNeg = i := by rw [hN, n_c (by omega)]
            refine hq _ ⟨Or.inr ⟨rfl, L, hW, ?_, ?_, ?_, hI2⟩, hI3⟩
            · refine ht.trans (congrArg some ?_)
              refine (k_to_of (M := eg_si (eg_si M 1 4 a) 1 12 (nI 0)) (N := k_nw M a (nI 0, t, fb, fc, fp, fa, fv, fg)) (fun _ => rfl) (eg_gi M 23 2).toNatClampNeg (fun j hj q hqq => ?_)).symm
              obtain ⟨q', e', ho⟩ := hS.2 j hj
              have : q = q' := by
                rw [show eg_gr (eg_si (eg_si M 1 4 a) 1 12 (nI 0)) 24 j = eg_gr M 24 j from rfl, e'] at hqq
                exact (Option.some.inj hqq).symm
              subst this
              unfold k_nw
              rw [ri_g, if_neg (fun z => by subst z; exact Bool.noConfusion (ho.symm.trans (show eg_isO wd M 39 8 = false from rfl))), ri_g, if_neg (fun z => by subst z; exact Bool.noConfusion (ho.symm.trans (show eg_isO wd M 38 8 = false from rfl))), ri_g, if_neg (fun z => by subst z; exact Bool.noConfusion (ho.symm.trans (show eg_isO wd M 37 8 = false from rfl))), ri_g, if_neg (fun z => by subst z; exact Bool.noConfusion (ho.symm.trans (show eg_isO wd M 36 8 = false from rfl))), ri_g, if_neg (fun z => by subst z; exact Bool.noConfusion (ho.symm.trans (show eg_isO wd M 35 8 = false from rfl))), ri_g, if_neg (fun z => by subst z; exact Bool.noConfusion (ho.symm.trans (show eg_isO wd M 34 8 = false from rfl)))]
              rfl
            · intro c hc
              show fb c = _
              rw [hfb c hc, show (eg_gi (k_nw M a (nI 0, t, fb, fc, fp, fa, fv, fg)) 12 10).toNatClampNeg = i from hnn]
              exact (k_bf_of (M := eg_sr (eg_si (eg_si M 1 4 a) 1 12 (nI 0)) 1 5 t) (N := k_nw M a (nI 0, t, fb, fc, fp, fa, fv, fg)) (fun _ => rfl) (fun _ => rfl) (fun _ => rfl) (fun _ => rfl) (fun _ => rfl) rfl i).symm
            · intro e he
              rw [show (eg_gi (k_nw M a (nI 0, t, fb, fc, fp, fa, fv, fg)) 12 10).toNatClampNeg = i from hnn] at he
              exact hI1 e ((hmem e).mpr he)
        refine lp 0 ((eg_gi M 35, eg_gi M 36, eg_gi M 37, fun j => if j < 24 then -nI 1 else eg_gi M 38 j, fun j => if j < 24 then -nI 1 else eg_gi M 39 j), none) (Nat.zero_le _) ⟨fun e he => ?_, fun c hc => ⟨?_, ?_⟩, fun y => y⟩
        · rw [List.take_zero] at he
          cases he
        · exact if_pos hc
        · exact if_pos hc
      have := key (some (k_to (eg_si (eg_si M 1 4 a) 1 12 (nI 0)) a (eg_gi M 23 2).toNatClampNeg)) (fun c => if c < 24 then k_bf (eg_sr (eg_si (eg_si M 1 4 a) 1 12 (nI 0)) 1 5 (some (k_to (eg_si (eg_si M 1 4 a) 1 12 (nI 0)) a (eg_gi M 23 2).toNatClampNeg))) (nI c) n else eg_gi M 34 c) rfl (fun c hc => if_pos hc)
      have hnn : (eg_gi M 12 10).toNatClampNeg = n := by rw [hN, n_c (by omega)]
      rw [← hnn] at this
      have e35 : k_nw M a (nI 0, some (k_to (eg_si (eg_si M 1 4 a) 1 12 (nI 0)) a (eg_gi M 23 2).toNatClampNeg), (fun c => if c < 24 then k_bf (eg_sr (eg_si (eg_si M 1 4 a) 1 12 (nI 0)) 1 5 (some (k_to (eg_si (eg_si M 1 4 a) 1 12 (nI 0)) a (eg_gi M 23 2).toNatClampNeg))) (nI c) (eg_gi M 12 10).toNatClampNeg else eg_gi M 34 c), eg_gi M 35, eg_gi M 36, eg_gi M 37, (fun j => if j < 24 then -nI 1 else eg_gi M 38 j), fun j => if j < 24 then -nI 1 else eg_gi M 39 j) = eg_ri (eg_ri (eg_ri (eg_sr (eg_si (eg_si M 1 4 a) 1 12 (nI 0)) 1 5 (some (k_to (eg_si (eg_si M 1 4 a) 1 12 (nI 0)) a (eg_gi M 23 2).toNatClampNeg))) 34 (fun c => if c < 24 then k_bf (eg_sr (eg_si (eg_si M 1 4 a) 1 12 (nI 0)) 1 5 (some (k_to (eg_si (eg_si M 1 4 a) 1 12 (nI 0)) a (eg_gi M 23 2).toNatClampNeg))) (nI c) (eg_gi M 12 10).toNatClampNeg else eg_gi M 34 c)) 38 (fun j => if j < 24 then -nI 1 else eg_gi M 38 j)) 39 (fun j => if j < 24 then -nI 1 else eg_gi M 39 j) := by
        generalize (some (k_to (eg_si (eg_si M 1 4 a) 1 12 (nI 0)) a (eg_gi M 23 2).toNatClampNeg)) = tt
        generalize (fun c => if c < 24 then k_bf (eg_sr (eg_si (eg_si M 1 4 a) 1 12 (nI 0)) 1 5 tt) (nI c) (eg_gi M 12 10).toNatClampNeg else eg_gi M 34 c) = ff
        unfold k_nw
        dsimp only
        rw [ri_id' (Y := eg_ri (eg_sr (eg_si (eg_si M 1 4 a) 1 12 (nI 0)) 1 5 tt) 34 ff) (p := 35) (f := eg_gi M 35) rfl, ri_id' (Y := eg_ri (eg_sr (eg_si (eg_si M 1 4 a) 1 12 (nI 0)) 1 5 tt) 34 ff) (p := 36) (f := eg_gi M 36) rfl, ri_id' (Y := eg_ri (eg_sr (eg_si (eg_si M 1 4 a) 1 12 (nI 0)) 1 5 tt) 34 ff) (p := 37) (f := eg_gi M 37) rfl]
      rw [e35] at this
      exact this
    
  · exact h.elim
theorem de_X3_look : ∀ q ∈ k_X3_look.1, decode cX3_look q.1 = .ok q.2 := by decide +kernel
theorem me_X3_look (g : gl_T) : MT g yX3_look cX3_look 4 none ⟨2, 0, 0, 46⟩ 0 0 s_X3_look := by
  intro hl
  exact eg_met_of (k := k_X3_look) (by decide) rfl ⟨Nat.le_refl _, Nat.le_refl _⟩ rfl sz_X3_look de_X3_look (fun meth hn => (fc (eg_FL_of wd_c3 (by decide) lf_RX3_28 (fun h => absurd h (by decide))) (fc (eg_FL_of wd_c3 (by decide) lf_RX3_35 (fun h => absurd h (by decide))) (fc (eg_FL_of wd_c3 (by decide) lf_RX3_39 (fun _ => Or.inl rfl)) (fc (eg_FL_of wd_c3 (by decide) lf_RX3_47 (fun _ => Or.inl rfl)) (fc (eg_FL_of wd_c3 (by decide) lf_RX3_54 (fun h => absurd h (by decide))) (fc (eg_FL_of wd_c3 (by decide) lf_RX3_64 (fun h => absurd h (by decide))) (fc (eg_FL_of wd_c3 (by decide) lf_RX3_67 (fun h => absurd h (by decide))) (fc (eg_FL_of wd_c3 (by decide) lf_RX3_70 (fun _ => Or.inl rfl)) (fc (eg_FL_of wd_c1 (by decide) lf_RX3_107 (fun h => absurd h (by decide))) (fc (eg_FL_of wd_c1 (by decide) lf_RX3_110 (fun h => absurd h (by decide))) (fc (eg_FL_of wd_c1 (by decide) lf_RX3_113 (fun h => absurd h (by decide))) (fc (eg_FL_of wd_c1 (by decide) lf_RX3_120 (fun h => absurd h (by decide))) (fc (eg_FL_of wd_c1 (by decide) lf_RX3_123 (fun h => absurd h (by decide))) (fn))))))))))))))) (fun A s H hE => (fn)) (fun p e s m args below meth c Q A ad0 N0 S0 hK hEx hA => (fc (mt_S hl S0 hK hEx hA (me_J7_fill_53178 g) lm_RX3_101 ls_J7_fill_53178 ln_RJ7 lc_J7_fill_53178 ⟨rfl, by decide, by decide, by decide +kernel⟩ ⟨rfl, rfl⟩ ⟨by decide, by decide⟩ (by decide)) (fc (mt_V hl S0 hK hEx hA (me_X10_textOn g) lm_RX3_94 li_X10_textOn lx_X10_textOn ln_RX10 lc_X10_textOn ⟨rfl, by decide, by decide, by decide +kernel⟩ ⟨rfl, rfl⟩ ⟨by decide, by decide⟩ (ci := 10) rfl rfl sr_X10_textOn (by decide)) (fc (mt_V hl S0 hK hEx hA (me_X3_findBreaks g) lm_RX3_98 li_X3_findBreaks lx_X3_findBreaks ln_RX3 lc_X3_findBreaks ⟨rfl, by decide, by decide, by decide +kernel⟩ ⟨rfl, rfl⟩ ⟨by decide, by decide⟩ (ci := 3) rfl rfl sr_X3_findBreaks (by decide)) (fc (mt_V hl S0 hK hEx hA (me_X3_isKnown g) lm_RX3_116 li_X3_isKnown lx_X3_isKnown ln_RX3 lc_X3_isKnown ⟨rfl, by decide, by decide, by decide +kernel⟩ ⟨rfl, rfl⟩ ⟨by decide, by decide⟩ (ci := 3) rfl rfl sr_X3_isKnown (by decide)) (fc (mt_V hl S0 hK hEx hA (me_X3_isAlive g) lm_RX3_126 li_X3_isAlive lx_X3_isAlive ln_RX3 lc_X3_isAlive ⟨rfl, by decide, by decide, by decide +kernel⟩ ⟨rfl, rfl⟩ ⟨by decide, by decide⟩ (ci := 3) rfl rfl sr_X3_isAlive (by decide)) (fc (mt_V hl S0 hK hEx hA (me_X3_chain g) lm_RX3_130 li_X3_chain lx_X3_chain ln_RX3 lc_X3_chain ⟨rfl, by decide, by decide, by decide +kernel⟩ ⟨rfl, rfl⟩ ⟨by decide, by decide⟩ (ci := 3) rfl rfl eg_auto_rec (by decide)) (fn)))))))) (fun p e s m args below meth c Qc XC A ad0 N0 P S0 hK hEx hA hlk hout hPX => (fn)) (fun argv M Qp h => T_X3_look h)

/-! what a year's visits are granted: F the places of the year's visits, c the claims -/
def g_sum (c : Nat → Nat) (F : List Nat) : Nat := (F.map c).sum
def g_rk (o : Nat → Nat) (F : List Nat) (i : Nat) : Nat := F.countP (fun j => decide (o i < o j ∨ (o j = o i ∧ j < i)))
def g_bs (P S : Nat) (c : Nat → Nat) (i : Nat) : Nat := P * c i / S
def g_ov (P S : Nat) (c : Nat → Nat) (i : Nat) : Nat := P * c i % S
def g_lf (P S : Nat) (c : Nat → Nat) (F : List Nat) : Nat := P - g_sum (g_bs P S c) F
def g_gr (P : Nat) (c : Nat → Nat) (F : List Nat) (i : Nat) : Nat := if g_sum c F ≤ P then c i else g_bs P (g_sum c F) c i + if g_rk (g_ov P (g_sum c F) c) F i < g_lf P (g_sum c F) c F then 1 else 0
theorem g_sum_c (c : Nat → Nat) (a : Nat) (F : List Nat) : g_sum c (a :: F) = c a + g_sum c F := by
  unfold g_sum
  rw [List.map_cons, List.sum_cons]
theorem g_sum_a (c : Nat → Nat) (F G : List Nat) : g_sum c (F ++ G) = g_sum c F + g_sum c G := by
  unfold g_sum
  rw [List.map_append, List.sum_append]
theorem g_split (P S : Nat) (c : Nat → Nat) (F : List Nat) : P * g_sum c F = S * g_sum (g_bs P S c) F + g_sum (g_ov P S c) F := by
  induction F with
  | nil => rfl
  | cons a F ih =>
    rw [g_sum_c, g_sum_c, g_sum_c, Nat.mul_add, Nat.mul_add, ih]
    have : P * c a = S * g_bs P S c a + g_ov P S c a := (Nat.div_add_mod (P * c a) S).symm
    omega
theorem g_sum_lt {c : Nat → Nat} {S : Nat} {F : List Nat} (h : ∀ i ∈ F, c i < S) (hF : F ≠ []) : g_sum c F < F.length * S := by
  induction F with
  | nil => exact absurd rfl hF
  | cons a F ih =>
    rw [g_sum_c, List.length_cons, Nat.add_mul]
    have h1 := h a List.mem_cons_self
    by_cases e : F = []
    · subst e
      have : g_sum c [] = 0 := rfl
      simp only [List.length_nil]
      omega
    · have := ih (fun i hi => h i (List.mem_cons_of_mem _ hi)) e
      omega
theorem g_sum_le {c : Nat → Nat} {S : Nat} {F : List Nat} (h : ∀ i ∈ F, c i ≤ S) : g_sum c F ≤ F.length * S := by
  induction F with
  | nil => exact Nat.zero_le _
  | cons a F ih =>
    rw [g_sum_c, List.length_cons, Nat.add_mul]
    have h1 := h a List.mem_cons_self
    have := ih (fun i hi => h i (List.mem_cons_of_mem _ hi))
    omega
/-- the pot reaches for what is cut down, and what is left is less than a penny each -/
theorem g_lf_lt {P : Nat} {c : Nat → Nat} {F : List Nat} (h : P < g_sum c F) : g_sum (g_bs P (g_sum c F) c) F ≤ P ∧ g_lf P (g_sum c F) c F < F.length := by
  unfold g_lf
  have hs := g_split P (g_sum c F) c F
  have hF : F ≠ [] := by
    rintro rfl
    exact absurd h (Nat.not_lt_zero _)
  have ho := g_sum_lt (c := g_ov P (g_sum c F) c) (S := g_sum c F) (fun i _ => Nat.mod_lt _ (by omega)) hF
  generalize g_sum (g_bs P (g_sum c F) c) F = B at *
  generalize g_sum (g_ov P (g_sum c F) c) F = O at *
  generalize g_sum c F = S at *
  have h0 : 0 < S := by omega
  have hB : B ≤ P := by
    have h9 : S * B ≤ S * P := by
      rw [Nat.mul_comm S P]
      omega
    exact Nat.le_of_mul_le_mul_left h9 h0
  refine ⟨hB, Nat.lt_of_mul_lt_mul_left (a := S) ?_⟩
  rw [Nat.mul_sub, Nat.mul_comm S P, hs, Nat.mul_comm S F.length]
  omega
theorem cP_lt {p q : Nat → Bool} {F : List Nat} (h : ∀ x, p x = true → q x = true) {a : Nat} (ha : a ∈ F) (hp : p a = false) (hq : q a = true) : F.countP p < F.countP q := by
  induction F with
  | nil => cases ha
  | cons x F ih =>
    rw [List.countP_cons, List.countP_cons]
    have hle : F.countP p ≤ F.countP q := List.countP_mono_left (fun x _ => h x)
    rcases List.mem_cons.mp ha with e | e
    · subst e
      rw [hp, hq]
      simp only [Bool.false_eq_true, if_false, if_true]
      omega
    · have := ih e
      by_cases hx : p x = true
      · rw [hx, h x hx]
        omega
      · rw [if_neg hx]
        split <;> omega
theorem cP_add {p q r : Nat → Bool} {F : List Nat} (h : ∀ x ∈ F, (r x = true ↔ p x = true ∨ q x = true) ∧ ¬ (p x = true ∧ q x = true)) : F.countP r = F.countP p + F.countP q := by
  induction F with
  | nil => rfl
  | cons x F ih =>
    rw [List.countP_cons, List.countP_cons, List.countP_cons, ih (fun y hy => h y (List.mem_cons_of_mem _ hy))]
    have := h x List.mem_cons_self
    by_cases h1 : p x = true
    · by_cases h2 : q x = true
      · exact absurd ⟨h1, h2⟩ this.2
      · rw [if_pos h1, if_neg h2, if_pos (this.1.mpr (Or.inl h1))]; omega
    · by_cases h2 : q x = true
      · rw [if_neg h1, if_pos h2, if_pos (this.1.mpr (Or.inr h2))]; omega
      · rw [if_neg h1, if_neg h2, if_neg (fun z => (this.1.mp z).elim h1 h2)]; omega
theorem cP_one {F : List Nat} (h : F.Nodup) {b : Nat} (hb : b ∈ F) : F.countP (fun x => decide (x = b)) = 1 := by
  induction F with
  | nil => cases hb
  | cons x F ih =>
    rw [List.nodup_cons] at h
    rw [List.countP_cons]
    rcases List.mem_cons.mp hb with e | e
    · subst e
      rw [List.countP_eq_zero.mpr (fun a ha => by simp only [decide_eq_true_eq]; rintro rfl; exact h.1 ha)]
      simp
    · rw [ih h.2 e, if_neg (by simp only [decide_eq_true_eq]; rintro rfl; exact h.1 e)]
theorem g_rk_lt {o : Nat → Nat} {F : List Nat} {j i : Nat} (hj : j ∈ F) (h : o i < o j ∨ (o j = o i ∧ j < i)) : g_rk o F j < g_rk o F i := by
  unfold g_rk
  refine cP_lt (a := j) (fun x hx => ?_) hj ?_ ?_
  · simp only [decide_eq_true_eq] at hx ⊢
    omega
  · simp only [decide_eq_false_iff_not]
    omega
  · simp only [decide_eq_true_eq]
    exact h
theorem g_rk_inj {o : Nat → Nat} {F : List Nat} {j i : Nat} (hj : j ∈ F) (hi : i ∈ F) (h : g_rk o F j = g_rk o F i) : j = i := by
  rcases Nat.lt_trichotomy j i with y | y | y
  · rcases Nat.lt_or_ge (o j) (o i) with z | z
    · have := g_rk_lt (F := F) hi (Or.inl z)
      omega
    · have := g_rk_lt (F := F) (j := j) (i := i) (o := o) hj (by omega)
      omega
  · exact y
  · rcases Nat.lt_or_ge (o i) (o j) with z | z
    · have := g_rk_lt (F := F) hj (Or.inl z)
      omega
    · have := g_rk_lt (F := F) (j := i) (i := j) (o := o) hi (by omega)
      omega
/-- the greatest of those that wait, the first of like ones, is the next -/
theorem g_next {o : Nat → Nat} {F : List Nat} {t b : Nat} (hc : F.countP (fun j => decide (g_rk o F j < t)) = t) (hb : b ∈ F) (hw : t ≤ g_rk o F b) (h1 : ∀ j ∈ F, t ≤ g_rk o F j → o j ≤ o b) (h2 : ∀ j ∈ F, t ≤ g_rk o F j → j < b → o j < o b) : g_rk o F b = t := by
  rw [← hc]
  conv => lhs; unfold g_rk
  refine List.countP_congr (fun j hj => ?_)
  simp only [decide_eq_true_eq]
  constructor
  · intro h
    rcases Nat.lt_or_ge (g_rk o F j) t with z | z
    · exact z
    · have a1 := h1 j hj z
      have a2 := h2 j hj z
      omega
  · intro h
    rcases Nat.lt_or_ge (o b) (o j) with z | z
    · exact Or.inl z
    · rcases Nat.lt_or_ge (o j) (o b) with y | y
      · have := g_rk_lt (F := F) hb (Or.inl y)
        omega
      · rcases Nat.lt_trichotomy j b with x | x | x
        · exact Or.inr ⟨by omega, x⟩
        · subst x; omega
        · have := g_rk_lt (F := F) (j := b) (i := j) (o := o) hb (by omega)
          omega
theorem g_cnt_s {o : Nat → Nat} {F : List Nat} (hF : F.Nodup) {t b : Nat} (hc : F.countP (fun j => decide (g_rk o F j < t)) = t) (hb : b ∈ F) (hr : g_rk o F b = t) : F.countP (fun j => decide (g_rk o F j < t + 1)) = t + 1 := by
  rw [cP_add (p := fun j => decide (g_rk o F j < t)) (q := fun j => decide (j = b)), hc, cP_one hF hb]
  intro x hx
  simp only [decide_eq_true_eq]
  have : g_rk o F x = t → x = b := fun z => g_rk_inj hx hb (z.trans hr.symm)
  constructor
  · constructor
    · intro z
      rcases Nat.lt_or_ge (g_rk o F x) t with y | y
      · exact Or.inl y
      · exact Or.inr (this (by omega))
    · rintro (z | rfl) <;> omega
  · rintro ⟨z, rfl⟩
    omega
/-- a prefix of the places -/
theorem fl_s (Y : Nat → Bool) (i : Nat) : (List.range (i + 1)).filter Y = if Y i = true then (List.range i).filter Y ++ [i] else (List.range i).filter Y := by
  rw [List.range_succ, List.filter_append]
  by_cases h : Y i = true
  · simp [h]
  · simp [h]
theorem fl_sum (c : Nat → Nat) (Y : Nat → Bool) (i : Nat) : g_sum c ((List.range (i + 1)).filter Y) = g_sum c ((List.range i).filter Y) + if Y i = true then c i else 0 := by
  rw [fl_s]
  split
  · rw [g_sum_a, g_sum_c]
    rfl
  · rfl
theorem fl_mono (c : Nat → Nat) (Y : Nat → Bool) {i n : Nat} (h : i ≤ n) : g_sum c ((List.range i).filter Y) ≤ g_sum c ((List.range n).filter Y) := by
  induction h with
  | refl => exact Nat.le_refl _
  | step _ ih => rw [fl_sum]; omega
theorem fl_len (Y : Nat → Bool) (n : Nat) : ((List.range n).filter Y).length ≤ n := Nat.le_trans (List.length_filter_le _ _) (by rw [List.length_range]; exact Nat.le_refl _)
theorem fl_mem {Y : Nat → Bool} {n j : Nat} : j ∈ (List.range n).filter Y ↔ j < n ∧ Y j = true := by rw [List.mem_filter, List.mem_range]
theorem fl_nd (Y : Nat → Bool) (n : Nat) : ((List.range n).filter Y).Nodup := List.Pairwise.filter _ List.nodup_range
theorem sl_rl_n {M : eg_M} {p q k : Nat} {v : Int64} {f : Nat → Int64} (h : ¬ q = p) : eg_sl (eg_rl M p f) q k v = eg_rl (eg_sl M q k v) p f := by
  unfold eg_sl eg_rl eg_up
  refine Prod.ext rfl (Prod.ext rfl (Prod.ext ?_ rfl))
  funext x
  by_cases h1 : x = q
  · subst h1; simp [h]
  · have h' : ¬ p = q := fun z => h z.symm
    by_cases h2 : x = p <;> simp [h1, h2, h']
/-- a long that is a count -/
def lnat (x : Int64) : Nat := x.toInt.toNat
theorem lnat_lN {n : Nat} (h : n < 2 ^ 63) : lnat (lN n) = n := by
  unfold lnat
  rw [pk_lT h]
  rfl
theorem l_le {a b : Nat} (ha : a < 2 ^ 63) (hb : b < 2 ^ 63) : lN a ≤ lN b ↔ a ≤ b := pk_lLE ha hb
theorem l_lt {a b : Nat} (ha : a < 2 ^ 63) (hb : b < 2 ^ 63) : lN a < lN b ↔ a < b := pk_lLT ha hb
/-- the model: the i-th of what counts is a visit of the year -/
def m_of (M : eg_M) (y : Int32) (i : Nat) : Bool := decide (eg_gi M 130 (eg_gi M 151 i).toNatClampNeg = nI 1 ∧ eg_gi M 136 (eg_gi M 151 i).toNatClampNeg / nI 360 = y)
def m_yr (M : eg_M) (y : Int32) : List Nat := (List.range (eg_gi M 121 47).toNatClampNeg).filter (m_of M y)
/-- the model: the claim of the i-th of what counts -/
def m_cn (M : eg_M) (i : Nat) : Nat := lnat (eg_gl M 152 i)
def k_X12_share : eg_C := ([(0, .lconst 0, 1), (1, .lstore 4, 2), (3, .iconst 0, 1), (4, .istore 6, 2), (6, .iload 6, 2), (8, .aload_n 0, 1), (9, .getfield 388, 3), (12, .if_icmp .ge 35, 3), (15, .lload 4, 2), (17, .aload_n 0, 1), (18, .iload 6, 2), (20, .iload_n 1, 1), (21, .invokevirtual 441, 3), (24, .ifCond .eq 13, 3), (27, .aload_n 0, 1), (28, .getfield 130, 3), (31, .iload 6, 2), (33, .laload, 1), (34, .goto 4, 3), (37, .lconst 0, 1), (38, .ladd, 1), (39, .lstore 4, 2), (41, .iinc 6 1, 3), (44, .goto (-38), 3), (47, .lload_n 2, 1), (48, .lstore 6, 2), (50, .iconst 0, 1), (51, .istore 8, 2), (53, .iload 8, 2), (55, .aload_n 0, 1), (56, .getfield 388, 3), (59, .if_icmp .ge 100, 3), (62, .aload_n 0, 1), (63, .iload 8, 2), (65, .iload_n 1, 1), (66, .invokevirtual 441, 3), (69, .ifCond .ne 6, 3), (72, .goto 81, 3), (75, .aload_n 0, 1), (76, .getfield 133, 3), (79, .iload 8, 2), (81, .lload 4, 2), (83, .lload_n 2, 1), (84, .lcmp, 1), (85, .ifCond .gt 13, 3), (88, .aload_n 0, 1), (89, .getfield 130, 3), (92, .iload 8, 2), (94, .laload, 1), (95, .goto 15, 3), (98, .lload_n 2, 1), (99, .aload_n 0, 1), (100, .getfield 130, 3), (103, .iload 8, 2), (105, .laload, 1), (106, .lmul, 1), (107, .lload 4, 2), (109, .ldiv, 1), (110, .lastore, 1), (111, .aload_n 0, 1), (112, .getfield 136, 3), (115, .iload 8, 2), (117, .lload 4, 2), (119, .lload_n 2, 1), (120, .lcmp, 1), (121, .ifCond .gt 7, 3), (124, .lconst 0, 1), (125, .goto 15, 3), (128, .lload_n 2, 1), (129, .aload_n 0, 1), (130, .getfield 130, 3), (133, .iload 8, 2), (135, .laload, 1), (136, .lmul, 1), (137, .lload 4, 2), (139, .lrem, 1), (140, .lastore, 1), (141, .lload 6, 2), (143, .aload_n 0, 1), (144, .getfield 133, 3), (147, .iload 8, 2), (149, .laload, 1), (150, .lsub, 1), (151, .lstore 6, 2), (153, .iinc 8 1, 3), (156, .goto (-103), 3), (159, .lload 4, 2), (161, .lload_n 2, 1), (162, .lcmp, 1), (163, .ifCond .le 99, 3), (166, .lload 6, 2), (168, .lconst 0, 1), (169, .lcmp, 1), (170, .ifCond .le 92, 3), (173, .iconst (-1), 1), (174, .istore 8, 2), (176, .iconst 0, 1), (177, .istore 9, 2), (179, .iload 9, 2), (181, .aload_n 0, 1), (182, .getfield 388, 3), (185, .if_icmp .ge 47, 3), (188, .aload_n 0, 1), (189, .iload 9, 2), (191, .iload_n 1, 1), (192, .invokevirtual 441, 3), (195, .ifCond .eq 31, 3), (198, .iload 8, 2), (200, .iconst (-1), 1), (201, .if_icmp .eq 21, 3), (204, .aload_n 0, 1), (205, .getfield 136, 3), (208, .iload 9, 2), (210, .laload, 1), (211, .aload_n 0, 1), (212, .getfield 136, 3), (215, .iload 8, 2), (217, .laload, 1), (218, .lcmp, 1), (219, .ifCond .le 7, 3), (222, .iload 9, 2), (224, .istore 8, 2), (226, .iinc 9 1, 3), (229, .goto (-50), 3), (232, .aload_n 0, 1), (233, .getfield 133, 3), (236, .iload 8, 2), (238, .dup2, 1), (239, .laload, 1), (240, .lconst 1, 1), (241, .ladd, 1), (242, .lastore, 1), (243, .aload_n 0, 1), (244, .getfield 136, 3), (247, .iload 8, 2), (249, .ldc2_w 444, 3), (252, .lastore, 1), (253, .lload 6, 2), (255, .lconst 1, 1), (256, .lsub, 1), (257, .lstore 6, 2), (259, .goto (-100), 3), (262, .return_, 1)], [(130, 12, 49, false), (133, 12, 50, false), (136, 12, 51, false), (388, 12, 47, false)], [(444, .long (-lN 1))], [(441, 2 + 1, 0, 0, s_X12_isOf)], [], 0, 0, 0)
theorem mk_X12_share : ∀ q ∈ k_X12_share.2.2.2.1, eg_mono q.2.2.2.2 := (fc (mo_X12_isOf) (fn))
set_option maxRecDepth 100000 in
theorem st_X12_share_0 {Qp : eg_P} {M : eg_M} (y : Int32) (p : Int64)
  (l0 : eg_T wd k_X12_share Qp 6 0 0 [some (.ref 121), some (.int y), some (.long p), none, some (.long (lN 0)), none, some (.int (nI 0)), none, none, none] [] M) :
  eg_T wd k_X12_share Qp 0 0 0 [some (.ref 121), some (.int y), some (.long p), none, none, none, none, none, none, none] [] M := by
  refine eg_T_run mk_X12_share (cut := [6, 53, 159, 179]) 146 ?_
  show eg_T wd k_X12_share Qp 6 0 0 [some (.ref 121), some (.int y), some (.long p), none, some (.long (lN 0)), none, some (.int (nI 0)), none, none, none] [] M
  exact l0

set_option maxRecDepth 100000 in
theorem st_X12_share_6 {Qp : eg_P} {M : eg_M} (y : Int32) (p : Int64) (x4 : Int64) (x6 : Int32) (o7 : Option Value) (o8 : Option Value) (o9 : Option Value)
  (g0 : (¬ ((eg_gi M 121 47) ≤ x6)) → ((vp_in x6 200) ∧ (vp_in (eg_gi M 151 x6.toNatClampNeg) 200)))
  (g1 : (¬ ((eg_gi M 121 47) ≤ x6)) → (¬ (¬ ((eg_gi M 130 (eg_gi M 151 x6.toNatClampNeg).toNatClampNeg) = (nI 1) ∧ ((eg_gi M 136 (eg_gi M 151 x6.toNatClampNeg).toNatClampNeg) / (nI 360)) = y))) → (vp_in x6 200))
  (l0 : ((eg_gi M 121 47) ≤ x6) → eg_T wd k_X12_share Qp 53 0 0 [some (.ref 121), some (.int y), some (.long p), none, some (.long x4), none, some (.long p), none, some (.int (nI 0)), o9] [] M)
  (l1 : (¬ (eg_gi M 121 47) ≤ x6 ∧ (¬ ((eg_gi M 130 (eg_gi M 151 x6.toNatClampNeg).toNatClampNeg) = (nI 1) ∧ ((eg_gi M 136 (eg_gi M 151 x6.toNatClampNeg).toNatClampNeg) / (nI 360)) = y))) → eg_T wd k_X12_share Qp 6 0 0 [some (.ref 121), some (.int y), some (.long p), none, some (.long (x4 + (lN 0))), none, some (.int (x6 + (nI 1))), o7, o8, o9] [] M)
  (l2 : (¬ (eg_gi M 121 47) ≤ x6 ∧ (((eg_gi M 130 (eg_gi M 151 x6.toNatClampNeg).toNatClampNeg) = (nI 1) ∧ ((eg_gi M 136 (eg_gi M 151 x6.toNatClampNeg).toNatClampNeg) / (nI 360)) = y))) → eg_T wd k_X12_share Qp 6 0 0 [some (.ref 121), some (.int y), some (.long p), none, some (.long (x4 + (eg_gl M 152 x6.toNatClampNeg))), none, some (.int (x6 + (nI 1))), o7, o8, o9] [] M) :
  eg_T wd k_X12_share Qp 6 0 0 [some (.ref 121), some (.int y), some (.long p), none, some (.long x4), none, some (.int x6), o7, o8, o9] [] M := by
  refine eg_T_run mk_X12_share (cut := [6, 53, 159, 179]) 146 ?_
  refine And.intro (fun (c1 : (eg_gi M 121 47) ≤ x6) => ?_) (fun (c1 : ¬ (eg_gi M 121 47) ≤ x6) => ?_)
  · skip
    show eg_T wd k_X12_share Qp 53 0 0 [some (.ref 121), some (.int y), some (.long p), none, some (.long x4), none, some (.long p), none, some (.int (nI 0)), o9] [] M
    exact l0 c1
  · skip
    refine And.intro (show ((vp_in x6 200) ∧ (vp_in (eg_gi M 151 x6.toNatClampNeg) 200)) from ?_) ?_
    · exact g0 c1
    refine And.intro (fun (c2 : (b2i (decide ((eg_gi M 130 (eg_gi M 151 x6.toNatClampNeg).toNatClampNeg) = (nI 1) ∧ ((eg_gi M 136 (eg_gi M 151 x6.toNatClampNeg).toNatClampNeg) / (nI 360)) = y))) = 0) => ?_) (fun (c2 : ¬ (b2i (decide ((eg_gi M 130 (eg_gi M 151 x6.toNatClampNeg).toNatClampNeg) = (nI 1) ∧ ((eg_gi M 136 (eg_gi M 151 x6.toNatClampNeg).toNatClampNeg) / (nI 360)) = y))) = 0) => ?_)
    · replace c2 := b2i_d0.mp c2
      show eg_T wd k_X12_share Qp 6 0 0 [some (.ref 121), some (.int y), some (.long p), none, some (.long (x4 + (lN 0))), none, some (.int (x6 + (nI 1))), o7, o8, o9] [] M
      exact l1 ⟨c1, c2⟩
    · replace c2 := b2i_dn.mp c2
      refine And.intro (show vp_in x6 200 from ?_) ?_
      · exact g1 c1 c2
      show eg_T wd k_X12_share Qp 6 0 0 [some (.ref 121), some (.int y), some (.long p), none, some (.long (x4 + (eg_gl M 152 x6.toNatClampNeg))), none, some (.int (x6 + (nI 1))), o7, o8, o9] [] M
      exact l2 ⟨c1, (Classical.byContradiction c2)⟩

set_option maxRecDepth 100000 in
theorem st_X12_share_53 {Qp : eg_P} {M : eg_M} (y : Int32) (p : Int64) (x4 : Int64) (x6 : Int64) (x8 : Int32) (o9 : Option Value)
  (g0 : (¬ ((eg_gi M 121 47) ≤ x8)) → ((vp_in x8 200) ∧ (vp_in (eg_gi M 151 x8.toNatClampNeg) 200)))
  (g1 : (¬ ((eg_gi M 121 47) ≤ x8)) → (¬ (¬ ((eg_gi M 130 (eg_gi M 151 x8.toNatClampNeg).toNatClampNeg) = (nI 1) ∧ ((eg_gi M 136 (eg_gi M 151 x8.toNatClampNeg).toNatClampNeg) / (nI 360)) = y))) → (vp_in x8 200))
  (g2 : (¬ ((eg_gi M 121 47) ≤ x8)) → (¬ (¬ ((eg_gi M 130 (eg_gi M 151 x8.toNatClampNeg).toNatClampNeg) = (nI 1) ∧ ((eg_gi M 136 (eg_gi M 151 x8.toNatClampNeg).toNatClampNeg) / (nI 360)) = y))) → (p < x4) → (¬ x4 = 0))
  (l0 : ((eg_gi M 121 47) ≤ x8) → eg_T wd k_X12_share Qp 159 0 0 [some (.ref 121), some (.int y), some (.long p), none, some (.long x4), none, some (.long x6), none, some (.int x8), o9] [] M)
  (l1 : (¬ (eg_gi M 121 47) ≤ x8 ∧ (¬ ((eg_gi M 130 (eg_gi M 151 x8.toNatClampNeg).toNatClampNeg) = (nI 1) ∧ ((eg_gi M 136 (eg_gi M 151 x8.toNatClampNeg).toNatClampNeg) / (nI 360)) = y))) → eg_T wd k_X12_share Qp 53 0 0 [some (.ref 121), some (.int y), some (.long p), none, some (.long x4), none, some (.long x6), none, some (.int (x8 + (nI 1))), o9] [] M)
  (l2 : (¬ (eg_gi M 121 47) ≤ x8 ∧ (((eg_gi M 130 (eg_gi M 151 x8.toNatClampNeg).toNatClampNeg) = (nI 1) ∧ ((eg_gi M 136 (eg_gi M 151 x8.toNatClampNeg).toNatClampNeg) / (nI 360)) = y) ∧ p < x4)) → eg_T wd k_X12_share Qp 53 0 0 [some (.ref 121), some (.int y), some (.long p), none, some (.long x4), none, some (.long (x6 - (eg_gl (eg_sl M 153 x8.toNatClampNeg ((p * (eg_gl M 152 x8.toNatClampNeg)) / x4)) 153 x8.toNatClampNeg))), none, some (.int (x8 + (nI 1))), o9] [] (eg_sl (eg_sl M 153 x8.toNatClampNeg ((p * (eg_gl M 152 x8.toNatClampNeg)) / x4)) 154 x8.toNatClampNeg ((p * (eg_gl M 152 x8.toNatClampNeg)) - (p * (eg_gl M 152 x8.toNatClampNeg)) / x4 * x4)))
  (l3 : (¬ (eg_gi M 121 47) ≤ x8 ∧ (((eg_gi M 130 (eg_gi M 151 x8.toNatClampNeg).toNatClampNeg) = (nI 1) ∧ ((eg_gi M 136 (eg_gi M 151 x8.toNatClampNeg).toNatClampNeg) / (nI 360)) = y) ∧ ¬ p < x4)) → eg_T wd k_X12_share Qp 53 0 0 [some (.ref 121), some (.int y), some (.long p), none, some (.long x4), none, some (.long (x6 - (eg_gl (eg_sl M 153 x8.toNatClampNeg (eg_gl M 152 x8.toNatClampNeg)) 153 x8.toNatClampNeg))), none, some (.int (x8 + (nI 1))), o9] [] (eg_sl (eg_sl M 153 x8.toNatClampNeg (eg_gl M 152 x8.toNatClampNeg)) 154 x8.toNatClampNeg (lN 0))) :
  eg_T wd k_X12_share Qp 53 0 0 [some (.ref 121), some (.int y), some (.long p), none, some (.long x4), none, some (.long x6), none, some (.int x8), o9] [] M := by
  refine eg_T_run mk_X12_share (cut := [6, 53, 159, 179]) 146 ?_
  refine And.intro (fun (c1 : (eg_gi M 121 47) ≤ x8) => ?_) (fun (c1 : ¬ (eg_gi M 121 47) ≤ x8) => ?_)
  · skip
    show eg_T wd k_X12_share Qp 159 0 0 [some (.ref 121), some (.int y), some (.long p), none, some (.long x4), none, some (.long x6), none, some (.int x8), o9] [] M
    exact l0 c1
  · skip
    refine And.intro (show ((vp_in x8 200) ∧ (vp_in (eg_gi M 151 x8.toNatClampNeg) 200)) from ?_) ?_
    · exact g0 c1
    refine And.intro (fun (c2 : (b2i (decide ((eg_gi M 130 (eg_gi M 151 x8.toNatClampNeg).toNatClampNeg) = (nI 1) ∧ ((eg_gi M 136 (eg_gi M 151 x8.toNatClampNeg).toNatClampNeg) / (nI 360)) = y))) = 0) => ?_) (fun (c2 : ¬ (b2i (decide ((eg_gi M 130 (eg_gi M 151 x8.toNatClampNeg).toNatClampNeg) = (nI 1) ∧ ((eg_gi M 136 (eg_gi M 151 x8.toNatClampNeg).toNatClampNeg) / (nI 360)) = y))) = 0) => ?_)
    · replace c2 := b2i_d0.mp c2
      show eg_T wd k_X12_share Qp 53 0 0 [some (.ref 121), some (.int y), some (.long p), none, some (.long x4), none, some (.long x6), none, some (.int (x8 + (nI 1))), o9] [] M
      exact l1 ⟨c1, c2⟩
    · replace c2 := b2i_dn.mp c2
      refine And.intro (fun (c3 : 0 < (lg_cmp x4 p)) => ?_) (fun (c3 : ¬ 0 < (lg_cmp x4 p)) => ?_)
      · replace c3 := lgc_gt.mp c3
        refine And.intro (show vp_in x8 200 from ?_) ?_
        · exact g1 c1 c2
        refine And.intro (show ¬ x4 = 0 from ?_) ?_
        · exact g2 c1 c2 c3
        refine And.intro (show vp_in x8 200 from ?_) ?_
        · exact g1 c1 c2
        refine And.intro (fun (c4 : 0 < (lg_cmp x4 p)) => ?_) (fun (c4 : ¬ 0 < (lg_cmp x4 p)) => ?_)
        · clear c4
          refine And.intro (show vp_in x8 200 from ?_) ?_
          · exact g1 c1 c2
          refine And.intro (show ¬ x4 = 0 from ?_) ?_
          · exact g2 c1 c2 c3
          refine And.intro (show vp_in x8 200 from ?_) ?_
          · exact g1 c1 c2
          refine And.intro (show vp_in x8 200 from ?_) ?_
          · exact g1 c1 c2
          show eg_T wd k_X12_share Qp 53 0 0 [some (.ref 121), some (.int y), some (.long p), none, some (.long x4), none, some (.long (x6 - (eg_gl (eg_sl M 153 x8.toNatClampNeg ((p * (eg_gl M 152 x8.toNatClampNeg)) / x4)) 153 x8.toNatClampNeg))), none, some (.int (x8 + (nI 1))), o9] [] (eg_sl (eg_sl M 153 x8.toNatClampNeg ((p * (eg_gl M 152 x8.toNatClampNeg)) / x4)) 154 x8.toNatClampNeg ((p * (eg_gl M 152 x8.toNatClampNeg)) - (p * (eg_gl M 152 x8.toNatClampNeg)) / x4 * x4))
          exact l2 ⟨c1, ⟨(Classical.byContradiction c2), c3⟩⟩
        · exact absurd c3 (mt lgc_gt.mpr c4)
      · replace c3 := mt lgc_gt.mpr c3
        refine And.intro (show vp_in x8 200 from ?_) ?_
        · exact g1 c1 c2
        refine And.intro (show vp_in x8 200 from ?_) ?_
        · exact g1 c1 c2
        refine And.intro (fun (c5 : 0 < (lg_cmp x4 p)) => ?_) (fun (c5 : ¬ 0 < (lg_cmp x4 p)) => ?_)
        · exact absurd (lgc_gt.mp c5) c3
        · clear c5
          refine And.intro (show vp_in x8 200 from ?_) ?_
          · exact g1 c1 c2
          refine And.intro (show vp_in x8 200 from ?_) ?_
          · exact g1 c1 c2
          show eg_T wd k_X12_share Qp 53 0 0 [some (.ref 121), some (.int y), some (.long p), none, some (.long x4), none, some (.long (x6 - (eg_gl (eg_sl M 153 x8.toNatClampNeg (eg_gl M 152 x8.toNatClampNeg)) 153 x8.toNatClampNeg))), none, some (.int (x8 + (nI 1))), o9] [] (eg_sl (eg_sl M 153 x8.toNatClampNeg (eg_gl M 152 x8.toNatClampNeg)) 154 x8.toNatClampNeg (lN 0))
          exact l3 ⟨c1, ⟨(Classical.byContradiction c2), c3⟩⟩

set_option maxRecDepth 100000 in
theorem st_X12_share_159 {Qp : eg_P} {M : eg_M} (y : Int32) (p : Int64) (x4 : Int64) (x6 : Int64) (x8 : Int32) (o9 : Option Value)
  (l0 : (x4 ≤ p ∨ x6 ≤ (lN 0)) → Qp (.inl none) M)
  (l1 : (¬ x4 ≤ p ∧ ¬ x6 ≤ (lN 0)) → eg_T wd k_X12_share Qp 179 0 0 [some (.ref 121), some (.int y), some (.long p), none, some (.long x4), none, some (.long x6), none, some (.int (-nI 1)), some (.int (nI 0))] [] M) :
  eg_T wd k_X12_share Qp 159 0 0 [some (.ref 121), some (.int y), some (.long p), none, some (.long x4), none, some (.long x6), none, some (.int x8), o9] [] M := by
  refine eg_T_run mk_X12_share (cut := [6, 53, 159, 179]) 146 ?_
  refine And.intro (fun (c1 : (lg_cmp x4 p) ≤ 0) => ?_) (fun (c1 : ¬ (lg_cmp x4 p) ≤ 0) => ?_)
  · replace c1 := lgc_le.mp c1
    show Qp (.inl none) M
    exact l0 (Or.inl c1)
  · replace c1 := mt lgc_le.mpr c1
    refine And.intro (fun (c2 : (lg_cmp x6 (lN 0)) ≤ 0) => ?_) (fun (c2 : ¬ (lg_cmp x6 (lN 0)) ≤ 0) => ?_)
    · replace c2 := lgc_le.mp c2
      show Qp (.inl none) M
      exact l0 (Or.inr c2)
    · replace c2 := mt lgc_le.mpr c2
      show eg_T wd k_X12_share Qp 179 0 0 [some (.ref 121), some (.int y), some (.long p), none, some (.long x4), none, some (.long x6), none, some (.int (-nI 1)), some (.int (nI 0))] [] M
      exact l1 ⟨c1, c2⟩

set_option maxRecDepth 100000 in
theorem st_X12_share_179 {Qp : eg_P} {M : eg_M} (y : Int32) (p : Int64) (x4 : Int64) (x6 : Int64) (x8 : Int32) (x9 : Int32)
  (g0 : (((eg_gi M 121 47) ≤ x9) ∨ (¬ ((eg_gi M 121 47) ≤ x9) ∧ (¬ (¬ ((eg_gi M 130 (eg_gi M 151 x9.toNatClampNeg).toNatClampNeg) = (nI 1) ∧ ((eg_gi M 136 (eg_gi M 151 x9.toNatClampNeg).toNatClampNeg) / (nI 360)) = y)) ∧ ¬ (x8 = (-nI 1))))) → (vp_in x8 200))
  (g1 : (¬ ((eg_gi M 121 47) ≤ x9)) → ((vp_in x9 200) ∧ (vp_in (eg_gi M 151 x9.toNatClampNeg) 200)))
  (g2 : (¬ ((eg_gi M 121 47) ≤ x9)) → (¬ (¬ ((eg_gi M 130 (eg_gi M 151 x9.toNatClampNeg).toNatClampNeg) = (nI 1) ∧ ((eg_gi M 136 (eg_gi M 151 x9.toNatClampNeg).toNatClampNeg) / (nI 360)) = y))) → (¬ (x8 = (-nI 1))) → (vp_in x9 200))
  (l0 : ((eg_gi M 121 47) ≤ x9) → eg_T wd k_X12_share Qp 159 0 0 [some (.ref 121), some (.int y), some (.long p), none, some (.long x4), none, some (.long (x6 - (lN 1))), none, some (.int x8), some (.int x9)] [] (eg_sl (eg_sl M 153 x8.toNatClampNeg ((eg_gl M 153 x8.toNatClampNeg) + (lN 1))) 154 x8.toNatClampNeg (-lN 1)))
  (l1 : (¬ (eg_gi M 121 47) ≤ x9 ∧ ((¬ ((eg_gi M 130 (eg_gi M 151 x9.toNatClampNeg).toNatClampNeg) = (nI 1) ∧ ((eg_gi M 136 (eg_gi M 151 x9.toNatClampNeg).toNatClampNeg) / (nI 360)) = y)) ∨ (¬ x8 = (-nI 1) ∧ (eg_gl M 154 x9.toNatClampNeg) ≤ (eg_gl M 154 x8.toNatClampNeg)))) → eg_T wd k_X12_share Qp 179 0 0 [some (.ref 121), some (.int y), some (.long p), none, some (.long x4), none, some (.long x6), none, some (.int x8), some (.int (x9 + (nI 1)))] [] M)
  (l2 : (¬ (eg_gi M 121 47) ≤ x9 ∧ (((eg_gi M 130 (eg_gi M 151 x9.toNatClampNeg).toNatClampNeg) = (nI 1) ∧ ((eg_gi M 136 (eg_gi M 151 x9.toNatClampNeg).toNatClampNeg) / (nI 360)) = y) ∧ (x8 = (-nI 1) ∨ ¬ (eg_gl M 154 x9.toNatClampNeg) ≤ (eg_gl M 154 x8.toNatClampNeg)))) → eg_T wd k_X12_share Qp 179 0 0 [some (.ref 121), some (.int y), some (.long p), none, some (.long x4), none, some (.long x6), none, some (.int x9), some (.int (x9 + (nI 1)))] [] M) :
  eg_T wd k_X12_share Qp 179 0 0 [some (.ref 121), some (.int y), some (.long p), none, some (.long x4), none, some (.long x6), none, some (.int x8), some (.int x9)] [] M := by
  refine eg_T_run mk_X12_share (cut := [6, 53, 159, 179]) 146 ?_
  refine And.intro (fun (c1 : (eg_gi M 121 47) ≤ x9) => ?_) (fun (c1 : ¬ (eg_gi M 121 47) ≤ x9) => ?_)
  · skip
    refine And.intro (show vp_in x8 200 from ?_) ?_
    · exact g0 (by clear g0 g1 g2 l0 l1 l2; grind)
    refine And.intro (show vp_in x8 200 from ?_) ?_
    · exact g0 (by clear g0 g1 g2 l0 l1 l2; grind)
    refine And.intro (show vp_in x8 200 from ?_) ?_
    · exact g0 (by clear g0 g1 g2 l0 l1 l2; grind)
    show eg_T wd k_X12_share Qp 159 0 0 [some (.ref 121), some (.int y), some (.long p), none, some (.long x4), none, some (.long (x6 - (lN 1))), none, some (.int x8), some (.int x9)] [] (eg_sl (eg_sl M 153 x8.toNatClampNeg ((eg_gl M 153 x8.toNatClampNeg) + (lN 1))) 154 x8.toNatClampNeg (-lN 1))
    exact l0 c1
  · skip
    refine And.intro (show ((vp_in x9 200) ∧ (vp_in (eg_gi M 151 x9.toNatClampNeg) 200)) from ?_) ?_
    · exact g1 c1
    refine And.intro (fun (c2 : (b2i (decide ((eg_gi M 130 (eg_gi M 151 x9.toNatClampNeg).toNatClampNeg) = (nI 1) ∧ ((eg_gi M 136 (eg_gi M 151 x9.toNatClampNeg).toNatClampNeg) / (nI 360)) = y))) = 0) => ?_) (fun (c2 : ¬ (b2i (decide ((eg_gi M 130 (eg_gi M 151 x9.toNatClampNeg).toNatClampNeg) = (nI 1) ∧ ((eg_gi M 136 (eg_gi M 151 x9.toNatClampNeg).toNatClampNeg) / (nI 360)) = y))) = 0) => ?_)
    · replace c2 := b2i_d0.mp c2
      show eg_T wd k_X12_share Qp 179 0 0 [some (.ref 121), some (.int y), some (.long p), none, some (.long x4), none, some (.long x6), none, some (.int x8), some (.int (x9 + (nI 1)))] [] M
      exact l1 ⟨c1, (Or.inl c2)⟩
    · replace c2 := b2i_dn.mp c2
      refine And.intro (fun (c3 : x8 = (-nI 1)) => ?_) (fun (c3 : ¬ x8 = (-nI 1)) => ?_)
      · skip
        show eg_T wd k_X12_share Qp 179 0 0 [some (.ref 121), some (.int y), some (.long p), none, some (.long x4), none, some (.long x6), none, some (.int x9), some (.int (x9 + (nI 1)))] [] M
        exact l2 ⟨c1, ⟨(Classical.byContradiction c2), (Or.inl c3)⟩⟩
      · skip
        refine And.intro (show vp_in x9 200 from ?_) ?_
        · exact g2 c1 c2 c3
        refine And.intro (show vp_in x8 200 from ?_) ?_
        · exact g0 (by clear g0 g1 g2 l0 l1 l2; grind)
        refine And.intro (fun (c4 : (lg_cmp (eg_gl M 154 x9.toNatClampNeg) (eg_gl M 154 x8.toNatClampNeg)) ≤ 0) => ?_) (fun (c4 : ¬ (lg_cmp (eg_gl M 154 x9.toNatClampNeg) (eg_gl M 154 x8.toNatClampNeg)) ≤ 0) => ?_)
        · replace c4 := lgc_le.mp c4
          show eg_T wd k_X12_share Qp 179 0 0 [some (.ref 121), some (.int y), some (.long p), none, some (.long x4), none, some (.long x6), none, some (.int x8), some (.int (x9 + (nI 1)))] [] M
          exact l1 ⟨c1, (Or.inr ⟨c3, c4⟩)⟩
        · replace c4 := mt lgc_le.mpr c4
          show eg_T wd k_X12_share Qp 179 0 0 [some (.ref 121), some (.int y), some (.long p), none, some (.long x4), none, some (.long x6), none, some (.int x9), some (.int (x9 + (nI 1)))] [] M
          exact l2 ⟨c1, ⟨(Classical.byContradiction c2), (Or.inr c4)⟩⟩

def s_X12_share : eg_S := fun argv M Qp => match argv with
  | [.ref 121, .int y, .long p] => (eg_cn (eg_gi M 121 47) 200 ∧ (∀ i, i < (eg_gi M 121 47).toNatClampNeg → vp_in (eg_gi M 151 i) 200) ∧ (∃ P, P < 2 ^ 20 ∧ p = lN P) ∧ ∀ i, i < (eg_gi M 121 47).toNatClampNeg → ∃ v, v < 2 ^ 24 ∧ eg_gl M 152 i = lN v) ∧ ∀ (g : Nat → Int64) (o : Nat → Int64), ((∀ i, i ∈ m_yr M y → g i = lN (g_gr (lnat p) (m_cn M) (m_yr M y) i)) ∧ ∀ i, ¬ i ∈ m_yr M y → g i = eg_gl M 153 i) → Qp (.inl none) (eg_rl (eg_rl M 153 g) 154 o)
  | _ => False
theorem mo_X12_share : eg_mono s_X12_share := by
  intro argv M Q Q' h
  unfold s_X12_share
  split
  · exact fun z => ⟨z.1, fun g o y => h _ _ (z.2 g o y)⟩
  · exact id
theorem sz_X12_share : ∀ argv M Qp, s_X12_share argv M Qp → (eg_ls0 argv).length ≤ 10 := by
  intro argv M Qp h
  unfold s_X12_share at h
  split at h
  · exact Nat.le_of_ble_eq_true rfl
  · exact h.elim
theorem sr_X12_share : ∀ argv M Qp, s_X12_share argv M Qp → ∃ p0 As, argv = .ref p0 :: As ∧ eg_isO wd M p0 12 = true := by
  intro argv M Qp h
  unfold s_X12_share at h
  split at h
  · exact ⟨_, _, rfl, rfl⟩
  · exact h.elim
set_option maxRecDepth 100000 in
set_option maxHeartbeats 4000000 in
theorem T_X12_share {argv : List Value} {M : eg_M} {Qp : eg_P} (h : s_X12_share argv M Qp) : eg_T wd k_X12_share Qp 0 0 0 (eg_lsN 10 argv) [] M := by
  unfold s_X12_share at h
  split at h
  · rename_i y p
    obtain ⟨hp, hq⟩ := h
    obtain ⟨⟨n, hn, hN⟩, hO, ⟨P, hP, rfl⟩, hC⟩ := hp
    rw [hN, n_c (by omega)] at hO hC
    have hY : m_yr M y = (List.range n).filter (m_of M y) := by rw [m_yr, hN, n_c (by omega)]
    have hcv : ∀ i, i < n → eg_gl M 152 i = lN (m_cn M i) ∧ m_cn M i < 2 ^ 24 := fun i hi => by
      obtain ⟨v, hv, e⟩ := hC i hi
      unfold m_cn
      rw [e, lnat_lN (by omega)]
      exact ⟨rfl, hv⟩
    rw [lnat_lN (by omega), hY] at hq
    have yo : ∀ i, (eg_gi M 130 (eg_gi M 151 i).toNatClampNeg = nI 1 ∧ eg_gi M 136 (eg_gi M 151 i).toNatClampNeg / nI 360 = y) ↔ m_of M y i = true := fun i => by
      unfold m_of
      rw [decide_eq_true_eq]
    generalize m_of M y = Y at *
    generalize m_cn M = c at *
    clear hC hY
    generalize hF : (List.range n).filter Y = F at *
    have mF : ∀ j, j ∈ F ↔ j < n ∧ Y j = true := fun j => by rw [← hF]; exact fl_mem
    have hlen : F.length ≤ 200 := by rw [← hF]; exact Nat.le_trans (fl_len _ _) hn
    have hS : g_sum c F ≤ 200 * 2 ^ 24 := Nat.le_trans (g_sum_le (S := 2 ^ 24) (fun i hi => by have := (hcv i ((mF i).mp hi).1).2; omega)) (Nat.mul_le_mul_right _ hlen)
    have nd : F.Nodup := by rw [← hF]; exact fl_nd _ _
    generalize hSd : g_sum c F = S at *
    have lp3 : P < S → ∀ d t, t + d = g_lf P S c F → ∀ (g o : Nat → Int64) (x8 : Int32) (o9 : Option Value), (∀ i ∈ F, g i = lN (g_bs P S c i + if g_rk (g_ov P S c) F i < t then 1 else 0)) → (∀ i, ¬ i ∈ F → g i = eg_gl M 153 i) → (∀ i ∈ F, (o i).toInt = if g_rk (g_ov P S c) F i < t then -1 else (g_ov P S c i : Int)) → F.countP (fun j => decide (g_rk (g_ov P S c) F j < t)) = t → eg_T wd k_X12_share Qp 159 0 0 [some (.ref 121), some (.int y), some (.long (lN P)), none, some (.long (lN S)), none, some (.long (lN d)), none, some (.int x8), o9] [] (eg_rl (eg_rl M 153 g) 154 o) := by
      intro hPS d
      have hL := g_lf_lt (P := P) (c := c) (F := F) (by rw [hSd]; exact hPS)
      rw [hSd] at hL
      induction d with
      | zero =>
        intro t ht g o x8 o9 hg hg2 ho hc
        refine st_X12_share_159 _ _ _ _ _ _ (fun _ => hq g o ⟨fun i hi => ?_, hg2⟩) (fun z => absurd (by decide) z.2)
        rw [hg i hi]
        unfold g_gr
        rw [hSd, if_neg (show ¬ S ≤ P by omega), show g_lf P S c F = t from ht.symm]
      | succ d ih =>
        intro t ht g o x8 o9 hg hg2 ho hc
        have st := st_X12_share_159 (Qp := Qp) (M := eg_rl (eg_rl M 153 g) 154 o) y (lN P) (lN S) (lN (d + 1)) x8 o9
        simp (disch := omega) only [l_le] at st
        refine st (fun z => absurd z (by omega)) (fun _ => ?_)
        have ex : ∃ j ∈ F, t ≤ g_rk (g_ov P S c) F j := by
          refine Classical.byContradiction (fun z => ?_)
          have : F.countP (fun j => decide (g_rk (g_ov P S c) F j < t)) = F.length := List.countP_eq_length.mpr (fun j hj => by
            simp only [decide_eq_true_eq]
            exact Nat.lt_of_not_le (fun w => z ⟨j, hj, w⟩))
          omega
        have lp : ∀ i (x : Int32), i ≤ n → ((x = -nI 1 ∧ ∀ j, j < i → ¬ Y j = true) ∨ ∃ b, x = nI b ∧ b < i ∧ Y b = true ∧ (∀ j, j < i → Y j = true → (o j).toInt ≤ (o b).toInt) ∧ ∀ j, j < b → Y j = true → (o j).toInt < (o b).toInt) → eg_T wd k_X12_share Qp 179 0 0 [some (.ref 121), some (.int y), some (.long (lN P)), none, some (.long (lN S)), none, some (.long (lN (d + 1))), none, some (.int x), some (.int (nI i))] [] (eg_rl (eg_rl M 153 g) 154 o) := by
          refine eg_for ?_
          intro i x hi hI kk
          have s2 := st_X12_share_179 (Qp := Qp) (M := eg_rl (eg_rl M 153 g) 154 o) y (lN P) (lN S) (lN (d + 1)) x (nI i)
          simp (disch := omega) only [rl_gi, rl_g, if_true, if_false, Nat.reduceEqDiff, hN, n_c, n_le, n_in, n_s, Nat.not_le, yo, Classical.not_not] at s2
          rcases hI with ⟨rfl, h0⟩ | ⟨b, rfl, hb, yb, h1, h2⟩
          · refine s2 (fun z => ?_) (fun z => ⟨by omega, hO i z⟩) (fun z _ _ => by omega) (fun z => ?_) (fun z => ?_) (fun z => ?_)
            · rcases z with z | z
              · obtain ⟨j, hj, _⟩ := ex
                exact absurd ((mF j).mp hj).2 (h0 j (by have := ((mF j).mp hj).1; omega))
              · exact absurd rfl z.2.2
            · obtain ⟨j, hj, _⟩ := ex
              exact absurd ((mF j).mp hj).2 (h0 j (by have := ((mF j).mp hj).1; omega))
            · refine kk _ z.1 (Or.inl ⟨rfl, fun j hj => ?_⟩)
              rcases Nat.lt_or_ge j i with w | w
              · exact h0 j w
              · have : j = i := by omega
                subst this
                rcases z.2 with v | v
                · exact v
                · exact absurd rfl v.1
            · refine kk _ z.1 (Or.inr ⟨i, rfl, by omega, z.2.1, fun j hj yj => ?_, fun j hj yj => absurd yj (h0 j hj)⟩)
              rcases Nat.lt_or_ge j i with w | w
              · exact absurd yj (h0 j w)
              · have : j = i := by omega
                subst this
                exact Int.le_refl _
          · have nb : ¬ nI b = -nI 1 := nI_m1 (by omega)
            simp (disch := omega) only [n_c, nb, not_false_iff, true_and, false_or] at s2
            refine s2 (fun z => vp_in_nI (by omega) (by decide)) (fun z => ⟨by omega, hO i z⟩) (fun z _ _ => by omega) (fun z => ?_) (fun z => ?_) (fun z => ?_)
            · have : i = n := by omega
              subst this
              have bF : b ∈ F := (mF b).mpr ⟨hb, yb⟩
              have key : ∀ j ∈ F, t ≤ g_rk (g_ov P S c) F j → (o j).toInt = (g_ov P S c j : Int) := fun j hj w => by rw [ho j hj, if_neg (by omega)]
              have hw : t ≤ g_rk (g_ov P S c) F b := by
                refine Nat.le_of_not_lt (fun w => ?_)
                obtain ⟨j, hj, w2⟩ := ex
                have a1 := h1 j ((mF j).mp hj).1 ((mF j).mp hj).2
                rw [key j hj w2, ho b bF, if_pos w] at a1
                omega
              have rb : g_rk (g_ov P S c) F b = t := by
                refine g_next hc bF hw (fun j hj w => ?_) (fun j hj w l => ?_)
                · have a1 := h1 j ((mF j).mp hj).1 ((mF j).mp hj).2
                  rw [key j hj w, key b bF hw] at a1
                  omega
                · have a1 := h2 j l ((mF j).mp hj).2
                  rw [key j hj w, key b bF hw] at a1
                  omega
              have ih2 := ih (t + 1) (by omega) (fun j => if j = b then g b + lN 1 else g j) (fun j => if j = b then -lN 1 else o j) (nI b) (some (.int (nI i))) ?_ ?_ ?_ (g_cnt_s nd hc bF rb)
              · rw [sl_rl_n (by decide), sl_rl, sl_rl, lN_sub (by omega)]
                exact ih2
              · intro j hj
                by_cases e : j = b
                · subst e
                  rw [if_pos rfl, hg j hj, rb, if_neg (by omega), if_pos (by omega), lN_add]
                · rw [if_neg e, hg j hj]
                  have : g_rk (g_ov P S c) F j ≠ t := fun w => e (g_rk_inj hj bF (w.trans rb.symm))
                  congr 2
                  by_cases w : g_rk (g_ov P S c) F j < t
                  · rw [if_pos w, if_pos (by omega)]
                  · rw [if_neg w, if_neg (by omega)]
              · intro j hj
                have e9 : ¬ j = b := fun e => hj (e ▸ bF)
                show (if j = b then _ else g j) = _
                rw [if_neg e9]
                exact hg2 j hj
              · intro j hj
                by_cases e : j = b
                · subst e
                  rw [if_pos rfl, if_pos (by omega)]
                  decide
                · rw [if_neg e, ho j hj]
                  have : g_rk (g_ov P S c) F j ≠ t := fun w => e (g_rk_inj hj bF (w.trans rb.symm))
                  by_cases w : g_rk (g_ov P S c) F j < t
                  · rw [if_pos w, if_pos (by omega)]
                  · rw [if_neg w, if_neg (by omega)]
            · refine kk _ z.1 (Or.inr ⟨b, rfl, by omega, yb, fun j hj yj => ?_, h2⟩)
              rcases Nat.lt_or_ge j i with w | w
              · exact h1 j w yj
              · have : j = i := by omega
                subst this
                rcases z.2 with v | v
                · exact absurd yj v
                · exact Int64.le_iff_toInt_le.mp v
            · have lt : (o b).toInt < (o i).toInt := Int64.lt_iff_toInt_lt.mp (Int64.not_le.mp z.2.2)
              refine kk _ z.1 (Or.inr ⟨i, rfl, by omega, z.2.1, fun j hj yj => ?_, fun j hj yj => ?_⟩)
              · rcases Nat.lt_or_ge j i with w | w
                · have := h1 j w yj
                  omega
                · have : j = i := by omega
                  subst this
                  exact Int.le_refl _
              · have := h1 j hj yj
                omega
        exact lp 0 _ (Nat.zero_le _) (Or.inl ⟨rfl, fun j hj => absurd hj (Nat.not_lt_zero _)⟩)
    have hgb : ∃ gb ob : Nat → Nat, (S ≤ P → ∀ i, gb i = c i) ∧ (P < S → gb = g_bs P S c ∧ ob = g_ov P S c) ∧ g_sum gb F ≤ P := by
      rcases Nat.lt_or_ge P S with h | h
      · have hL := g_lf_lt (P := P) (c := c) (F := F) (by rw [hSd]; exact h)
        rw [hSd] at hL
        exact ⟨g_bs P S c, g_ov P S c, fun z => absurd h (by omega), fun _ => ⟨rfl, rfl⟩, hL.1⟩
      · exact ⟨c, c, fun _ _ => rfl, fun z => absurd z (by omega), by rw [hSd]; exact h⟩
    obtain ⟨gb, ob, hgb1, hgb2, hgb3⟩ := hgb
    have lp2 : ∀ i (x : (Nat → Int64) × (Nat → Int64)), i ≤ n → ((∀ j, x.1 j = if j < i ∧ Y j = true then lN (gb j) else eg_gl M 153 j) ∧ (P < S → ∀ j, j < i → Y j = true → x.2 j = lN (ob j))) → ∀ o9 : Option Value, eg_T wd k_X12_share Qp 53 0 0 [some (.ref 121), some (.int y), some (.long (lN P)), none, some (.long (lN S)), none, some (.long (lN (P - g_sum gb ((List.range i).filter Y)))), none, some (.int (nI i)), o9] [] (eg_rl (eg_rl M 153 x.1) 154 x.2) := by
      refine eg_for ?_
      intro i ⟨g, o⟩ hi ⟨h1, h2⟩ kk o9
      have h1 : ∀ j, g j = if j < i ∧ Y j = true then lN (gb j) else eg_gl M 153 j := h1
      have h2 : P < S → ∀ j, j < i → Y j = true → o j = lN (ob j) := h2
      have st := st_X12_share_53 (Qp := Qp) (M := eg_rl (eg_rl M 153 g) 154 o) y (lN P) (lN S) (lN (P - g_sum gb ((List.range i).filter Y))) (nI i) o9
      simp (disch := omega) only [sl_g, rl_gi, rl_g, if_true, if_false, Nat.reduceEqDiff, false_and, true_and, hN, n_c, n_le, n_in, n_s, Nat.not_le, yo, Classical.not_not, l_lt] at st
      have hle : g_sum gb ((List.range i).filter Y) ≤ P := Nat.le_trans (fl_mono gb Y hi) (by rw [hF]; exact hgb3)
      have nx : ∀ v w : Int64, i < n → Y i = true → v = lN (gb i) → (P < S → w = lN (ob i)) → eg_T wd k_X12_share Qp 53 0 0 [some (.ref 121), some (.int y), some (.long (lN P)), none, some (.long (lN S)), none, some (.long (lN (P - g_sum gb ((List.range i).filter Y)) - v)), none, some (.int (nI (i + 1))), o9] [] (eg_sl (eg_sl (eg_rl (eg_rl M 153 g) 154 o) 153 i v) 154 i w) := by
        intro v w hl hy hv hw
        have := kk (fun j => if j = i then v else g j, fun j => if j = i then w else o j) hl ⟨fun j => ?_, fun hps j hj yj => ?_⟩ o9
        · have hs := fl_sum gb Y i
          rw [if_pos hy] at hs
          have hle2 : g_sum gb ((List.range (i + 1)).filter Y) ≤ P := Nat.le_trans (fl_mono gb Y hl) (by rw [hF]; exact hgb3)
          rw [sl_rl_n (by decide), sl_rl, sl_rl, hv, lN_sub (by omega), show P - g_sum gb ((List.range i).filter Y) - gb i = P - g_sum gb ((List.range (i + 1)).filter Y) by omega, ← hv]
          exact this
        · show (if j = i then v else g j) = _
          by_cases e : j = i
          · subst e
            rw [if_pos rfl, if_pos ⟨by omega, hy⟩, hv]
          · rw [if_neg e, h1 j]
            by_cases e2 : j < i ∧ Y j = true
            · rw [if_pos e2, if_pos ⟨by omega, e2.2⟩]
            · rw [if_neg e2, if_neg (fun z => e2 ⟨by omega, z.2⟩)]
        · show (if j = i then w else o j) = _
          by_cases e : j = i
          · subst e
            rw [if_pos rfl]
            exact hw hps
          · rw [if_neg e]
            exact h2 hps j (by omega) yj
      refine st (fun z => ⟨by omega, hO i z⟩) (fun z _ => by omega) (fun z _ w => ?_) (fun z => ?_) (fun z => ?_) (fun z => ?_) (fun z => ?_)
      · exact fun e => absurd ((pk_lEQ (a := S) (b := 0) (by omega) (by decide)).mp e) (by omega)
      · have : i = n := by omega
        subst this
        rw [hF]
        rcases Nat.lt_or_ge P S with w | w
        · obtain ⟨e1, e2⟩ := hgb2 w
          have := lp3 w (P - g_sum gb F) 0 (by rw [e1, Nat.zero_add]; rfl) g o (nI i) o9 (fun j hj => ?_) (fun j hj => ?_) (fun j hj => ?_) ?_
          · exact this
          · rw [h1 j, if_pos ((mF j).mp hj), e1, if_neg (Nat.not_lt_zero _)]
            rfl
          · rw [h1 j, if_neg (fun z => hj ((mF j).mpr z))]
          · rw [if_neg (Nat.not_lt_zero _), h2 w j ((mF j).mp hj).1 ((mF j).mp hj).2, e2, pk_lT]
            exact Nat.lt_trans (Nat.mod_lt _ (by omega)) (by omega)
          · exact List.countP_eq_zero.mpr (fun j _ => by simp)
        · have s9 := st_X12_share_159 (Qp := Qp) (M := eg_rl (eg_rl M 153 g) 154 o) y (lN P) (lN S) (lN (P - g_sum gb F)) (nI i) o9
          simp (disch := omega) only [l_le] at s9
          refine s9 (fun _ => hq g o ⟨fun j hj => ?_, fun j hj => ?_⟩) (fun z => absurd w (by omega))
          · rw [h1 j, if_pos ((mF j).mp hj)]
            unfold g_gr
            rw [hSd, if_pos w, hgb1 w]
          · rw [h1 j, if_neg (fun z => hj ((mF j).mpr z))]
      · have hs := fl_sum gb Y i
        rw [if_neg z.2, Nat.add_zero] at hs
        have := kk (g, o) z.1 ⟨fun j => ?_, fun hps j hj yj => h2 hps j ?_ yj⟩ o9
        · rw [hs] at this
          exact this
        · show g j = _
          rw [h1 j]
          by_cases e2 : j < i ∧ Y j = true
          · rw [if_pos e2, if_pos ⟨by omega, e2.2⟩]
          · rw [if_neg e2, if_neg (fun w => e2 ⟨?_, w.2⟩)]
            have : j ≠ i := fun e => z.2 (e ▸ w.2)
            omega
        · have : j ≠ i := fun e => z.2 (e ▸ yj)
          omega
      · obtain ⟨e1, e2⟩ := hgb2 z.2.2
        have hc := hcv i z.1
        refine nx _ _ z.1 z.2.1 ?_ (fun _ => ?_)
        · rw [hc.1, lN_mul, pk_lDiv (Nat.lt_of_lt_of_le (Nat.mul_lt_mul'' hP hc.2) (by decide)) (by omega) (by omega), e1]
          rfl
        · rw [hc.1, lN_mul, pk_lRem (Nat.lt_of_lt_of_le (Nat.mul_lt_mul'' hP hc.2) (by decide)) (by omega) (by omega), e2]
          rfl
      · refine nx _ _ z.1 z.2.1 ?_ (fun w => absurd w z.2.2)
        rw [(hcv i z.1).1, hgb1 (by omega)]
    have lp1 : ∀ i (_ : Unit), i ≤ n → True → ∀ o7 o8 o9 : Option Value, eg_T wd k_X12_share Qp 6 0 0 [some (.ref 121), some (.int y), some (.long (lN P)), none, some (.long (lN (g_sum c ((List.range i).filter Y)))), none, some (.int (nI i)), o7, o8, o9] [] M := by
      refine eg_for ?_
      intro i _ hi _ kk o7 o8 o9
      have st := st_X12_share_6 (Qp := Qp) (M := M) y (lN P) (lN (g_sum c ((List.range i).filter Y))) (nI i) o7 o8 o9
      simp (disch := omega) only [hN, n_c, n_le, n_in, n_s, Nat.not_le, yo, Classical.not_not, lN_add] at st
      have hs := fl_sum c Y i
      refine st (fun z => ⟨by omega, hO i z⟩) (fun z _ => by omega) (fun z => ?_) (fun z => ?_) (fun z => ?_)
      · have : i = n := by omega
        subst this
        rw [hF, hSd]
        have := lp2 0 (eg_gl M 153, eg_gl M 154) (Nat.zero_le _) ⟨fun j => by rw [if_neg (fun z => absurd z.1 (Nat.not_lt_zero _))], fun _ j hj => absurd hj (Nat.not_lt_zero _)⟩ o9
        have e : eg_rl (eg_rl M 153 (eg_gl M 153)) 154 (eg_gl M 154) = M := by rw [rl_id, rl_id]
        rw [e] at this
        exact this
      · have := kk () z.1 trivial o7 o8 o9
        rw [hs, if_neg z.2] at this
        exact this
      · have := kk () z.1 trivial o7 o8 o9
        rw [hs, if_pos z.2] at this
        rw [(hcv i z.1).1, lN_add]
        exact this
    exact st_X12_share_0 _ _ (lp1 0 () (Nat.zero_le _) trivial none none none)
    
  · exact h.elim
theorem de_X12_share : ∀ q ∈ k_X12_share.1, decode cX12_share q.1 = .ok q.2 := by decide +kernel
theorem me_X12_share (g : gl_T) : MT g yX12_share cX12_share 10 none ⟨1, 0, 0, 22⟩ 0 0 s_X12_share := by
  intro hl
  exact eg_met_of (k := k_X12_share) (by decide) rfl ⟨Nat.le_refl _, Nat.le_refl _⟩ rfl sz_X12_share de_X12_share (fun meth hn => (fc (eg_FL_of wd_c12 (by decide) lf_RX12_130 (fun h => absurd h (by decide))) (fc (eg_FL_of wd_c12 (by decide) lf_RX12_133 (fun h => absurd h (by decide))) (fc (eg_FL_of wd_c12 (by decide) lf_RX12_136 (fun h => absurd h (by decide))) (fc (eg_FL_of wd_c12 (by decide) lf_RX12_388 (fun h => absurd h (by decide))) (fn)))))) (fun A s H hE => (fc (List.mem_cons_of_mem _ ll_RX12_444) (fn))) (fun p e s m args below meth c Q A ad0 N0 S0 hK hEx hA => (fc (mt_V hl S0 hK hEx hA (me_X12_isOf g) lm_RX12_441 li_X12_isOf lx_X12_isOf ln_RX12 lc_X12_isOf ⟨rfl, by decide, by decide, by decide +kernel⟩ ⟨rfl, rfl⟩ ⟨by decide, by decide⟩ (ci := 12) rfl rfl sr_X12_isOf (by decide)) (fn))) (fun p e s m args below meth c Qc XC A ad0 N0 P S0 hK hEx hA hlk hout hPX => (fn)) (fun argv M Qp h => T_X12_share h)

theorem or_sh (x : Int32) {s t : Nat} (hs : s < 16) (ht : t < 16) : ((x ||| (nI 1 <<< (nI s &&& 31))) &&& (nI 1 <<< (nI t &&& 31)) = 0) ↔ (¬ t = s ∧ x &&& (nI 1 <<< (nI t &&& 31)) = 0) := by
  have hb : ∀ t, t < 16 → (nI 1 <<< (nI t &&& 31)) = nI (2 ^ t) := by decide
  rw [hb s hs, hb t ht]
  have e : (x ||| nI (2 ^ s)) &&& nI (2 ^ t) = (x &&& nI (2 ^ t)) ||| (nI (2 ^ s) &&& nI (2 ^ t)) := by
    apply Int32.toBitVec_inj.mp
    apply BitVec.eq_of_getLsbD_eq
    intro i _
    simp only [Int32.toBitVec_and, Int32.toBitVec_or, BitVec.getLsbD_and, BitVec.getLsbD_or]
    exact Bool.and_or_distrib_right _ _ _
  rw [e]
  by_cases h : t = s
  · subst h
    constructor
    · intro z
      exfalso
      have z := congrArg (fun v => v.toBitVec.getLsbD t) z
      simp only [Int32.toBitVec_and, Int32.toBitVec_or, BitVec.getLsbD_and, BitVec.getLsbD_or] at z
      have e : ∀ t, t < 16 → (nI (2 ^ t)).toBitVec.getLsbD t = true := by decide
      rw [e t ht] at z
      have z0 : (0 : Int32).toBitVec.getLsbD t = false := BitVec.getLsbD_zero
      rw [z0] at z
      simp at z
    · intro z
      exact absurd rfl z.1
  · have e2 : ∀ s, s < 16 → ∀ t, t < 16 → ¬ t = s → nI (2 ^ s) &&& nI (2 ^ t) = 0 := by decide
    rw [e2 s hs t ht h]
    have e3 : (x &&& nI (2 ^ t)) ||| 0 = x &&& nI (2 ^ t) := by
      apply Int32.toBitVec_inj.mp
      simp
    rw [e3]
    exact ⟨fun z => ⟨h, z⟩, fun z => z.2⟩
theorem p_oneS_v (V : Nat → Int64) (c : Int32 × List Int32) : ∃ v, v ≤ 999999 ∧ p_oneS V c = lN v := by
  unfold p_oneS
  split
  · generalize p_v V c.2 = x
    have hm : (if x < lN 999999 then x else lN 999999) ≤ lN 999999 := by
      split
      · rename_i h
        exact Int64.le_of_lt h
      · exact Int64.le_refl _
    generalize (if x < lN 999999 then x else lN 999999) = y at hm
    split
    · exact ⟨0, by omega, rfl⟩
    · rename_i h
      obtain ⟨k, hk, rfl⟩ := pk_lOf h
      exact ⟨k, (l_le hk (by decide)).mp hm, rfl⟩
  · exact ⟨0, by omega, rfl⟩
theorem p_claS_v (V : Nat → Int64) (CL : List (Int32 × List Int32)) : ∃ v, v ≤ CL.length * 999999 ∧ p_claS V CL = lN v := by
  unfold p_claS
  have : ∀ (l : List (Int32 × List Int32)) (x : Nat), ∃ v, v ≤ x + l.length * 999999 ∧ l.foldl (fun s c => s + p_oneS V c) (lN x) = lN v := by
    intro l
    induction l with
    | nil => intro x; exact ⟨x, by simp, rfl⟩
    | cons c l ih =>
      intro x
      obtain ⟨w, hw, e⟩ := p_oneS_v V c
      obtain ⟨v, hv, e2⟩ := ih (x + w)
      refine ⟨v, ?_, ?_⟩
      · rw [List.length_cons]; omega
      · rw [List.foldl_cons, e, lN_add]; exact e2
  obtain ⟨v, hv, e⟩ := this CL 0
  exact ⟨v, by omega, e⟩
/-- a text reads its own rows alone -/
theorem k_rt_of {M N : eg_M} (h1 : N.1 = M.1) (h2 : N.2.2.2 = M.2.2.2) (h3 : ∀ a, k_tp a → ∀ j, eg_gi N a j = eg_gi M a j) {q : Nat} {L : List (Int32 × List Int32)} (h : k_rt M q L) : k_rt N q L := by
  obtain ⟨a, b, c, d⟩ := M
  obtain ⟨a', b', c', d'⟩ := N
  have h1 : a' = a := h1
  have h2 : d' = d := h2
  subst h1 h2
  obtain ⟨a3, e1, e2, e3, e4, e5, e6⟩ := h
  refine ⟨a3, e1, e2, e3, e4, e5, fun i hi => ?_⟩
  obtain ⟨f1, ⟨a4, a5, u, s1, s2, s3, s4, s5, s6, s7, s8, s9, t1, t2, t3, t4⟩, f3⟩ := e6 i hi
  refine ⟨(h3 a3 e3 i).trans f1, ⟨a4, a5, u, s1, s2, s3, s4, s5, s6, s7, s8, ?_, (h3 a4 s5 i).trans t1, t2, t3, fun j hj => (h3 a5 s6 _).trans (t4 j hj)⟩, f3⟩
  rcases s9 with z | z
  · exact Or.inl z
  · exact Or.inr ⟨z.1, (h3 a4 s5 _).trans z.2⟩
theorem k_tx_of {M N : eg_M} (h1 : N.1 = M.1) (h2 : N.2.2.2 = M.2.2.2) (h3 : ∀ a, k_tp a → ∀ j, eg_gi N a j = eg_gi M a j) {q : Nat} {L : List (Int32 × List Int32)} (h : k_tx M q L) : k_tx N q L := by
  refine ⟨?_, ?_, k_rt_of h1 h2 h3 h.2.2⟩
  · have := h.1
    obtain ⟨a, b, c, d⟩ := M
    obtain ⟨a', b', c', d'⟩ := N
    have h1 : a' = a := h1
    have h2 : d' = d := h2
    subst h1 h2
    exact this
  · have := h.2.1
    obtain ⟨a, b, c, d⟩ := M
    obtain ⟨a', b', c', d'⟩ := N
    have h1 : a' = a := h1
    subst h1
    exact this
theorem k_tx_inj {M : eg_M} {q r : Nat} {K L : List (Int32 × List Int32)} (h : k_tx M q K) (k : k_tx M r L) : q = r ∧ K = L := by
  have e : q = r := Option.some.inj (h.1.symm.trans k.1)
  subst e
  exact ⟨rfl, k_rt_inj h.2.2 k.2.2⟩
/-- the class: the visits of the year, in order; their claims; their grants -/
def k_vl (M : eg_M) (y : Int32) : List Nat := ((List.range (eg_gi M 12 10).toNatClampNeg).filter (k_vy M y)).map (fun i => (eg_gi M 22 i).toNatClampNeg)
def k_cl (M : eg_M) (CL : List (Int32 × List Int32)) (e : Nat) : Nat := lnat (p_claS (k_cw M e) CL)
def k_gv (M : eg_M) (P : Nat) (CL : List (Int32 × List Int32)) (y : Int32) (i : Nat) : Nat := g_gr P (fun i => k_cl M CL ((k_vl M y).getD i 0)) (List.range (k_vl M y).length) i
/-- the class: what is settled stands -/
def k_set (M : eg_M) (P : Nat) (CL : List (Int32 × List Int32)) : Prop := ∀ y, y < 10 → ¬ (eg_gi M 1 12 &&& (nI 1 <<< (nI y &&& 31)) = 0) → ∀ i, i < (k_vl M (nI y)).length → eg_gl M 41 ((k_vl M (nI y)).getD i 0) = lN (k_gv M P CL (nI y) i) ∧ eg_gl M 40 ((k_vl M (nI y)).getD i 0) = lN (k_cl M CL ((k_vl M (nI y)).getD i 0))
/-- the class: what it knows of events and charters -/
def k_es (M : eg_M) : Prop := (∃ L, k_W M L) ∧ (∀ c, c < 24 → vp_in (eg_gi M 8 c) 16 ∧ vp_in (eg_gi M 9 c) 16) ∧ (∀ j, j < 200 → k_ev (eg_gi M 36 j)) ∧ ∀ e, e < (eg_gi M 12 10).toNatClampNeg → vp_in (eg_gi M 19 e) 3600
/-- what settling leaves behind -/
abbrev k_T5 := (Nat → Int64) × (Nat → Int64) × (Nat → Int64) × (Nat → Int64) × (Nat → Int64)
def k_sm (M : eg_M) (s : Int32) (f : Nat → Int32) (t : k_T5) : eg_M := eg_rl (eg_rl (eg_rl (eg_rl (eg_rl (eg_ri (eg_si M 1 12 s) 42 f) 40 t.1) 41 t.2.1) 43 t.2.2.1) 44 t.2.2.2.1) 45 t.2.2.2.2
theorem sm_eq {X : eg_M} {c g v w g1 o1 : Nat → Int64} : eg_rl (eg_rl (eg_rl (eg_rl (eg_rl (eg_rl X 40 c) 41 g) 44 v) 45 w) 41 g1) 43 o1 = eg_rl (eg_rl (eg_rl (eg_rl (eg_rl X 40 c) 41 g1) 43 o1) 44 v) 45 w := by
  unfold eg_rl
  refine congrArg (fun z => (X.1, X.2.1, z, X.2.2.2)) ?_
  funext p
  by_cases h1 : p = 45
  · subst h1; rfl
  · by_cases h2 : p = 44
    · subst h2; rfl
    · by_cases h3 : p = 43
      · subst h3; rfl
      · by_cases h4 : p = 41
        · subst h4; rfl
        · simp only [h1, h2, h3, h4, if_false]
theorem rl_4 {X : eg_M} {a b v w : Nat → Int64} : eg_rl (eg_rl (eg_rl (eg_rl X 44 a) 45 b) 44 v) 45 w = eg_rl (eg_rl X 44 v) 45 w := by
  unfold eg_rl
  refine congrArg (fun z => (X.1, X.2.1, z, X.2.2.2)) ?_
  funext p
  by_cases h1 : p = 45
  · subst h1; rfl
  · by_cases h2 : p = 44
    · subst h2; rfl
    · simp only [h1, h2, if_false]
theorem g_sum_of {c d : Nat → Nat} {F : List Nat} (h : ∀ i ∈ F, c i = d i) : g_sum c F = g_sum d F := by
  unfold g_sum
  rw [List.map_congr_left h]
theorem k_sm_id (M : eg_M) : k_sm M (eg_gi M 1 12) (eg_gi M 42) (eg_gl M 40, eg_gl M 41, eg_gl M 43, eg_gl M 44, eg_gl M 45) = M := by
  unfold k_sm
  rw [si_id, ri_id]
  dsimp only
  rw [rl_id, rl_id, rl_id, rl_id, rl_id]
theorem g_gr_of {P : Nat} {c d : Nat → Nat} {F : List Nat} (h : ∀ i ∈ F, c i = d i) {i : Nat} (hi : i ∈ F) : g_gr P c F i = g_gr P d F i := by
  unfold g_gr
  rw [g_sum_of h, h i hi]
  have e1 : ∀ S, ∀ j ∈ F, g_bs P S c j = g_bs P S d j := fun S j hj => by unfold g_bs; rw [h j hj]
  have e2 : ∀ S, ∀ j ∈ F, g_ov P S c j = g_ov P S d j := fun S j hj => by unfold g_ov; rw [h j hj]
  have e3 : ∀ S, g_lf P S c F = g_lf P S d F := fun S => by unfold g_lf; rw [g_sum_of (e1 S)]
  have e4 : ∀ S, g_rk (g_ov P S c) F i = g_rk (g_ov P S d) F i := fun S => by
    unfold g_rk
    refine List.countP_congr (fun j hj => ?_)
    rw [e2 S i hi, e2 S j hj]
  rw [e1 _ i hi, e3, e4]
theorem k_vl_of {M : eg_M} (h : k_es M) (y : Int32) : (k_vl M y).Nodup ∧ ∀ e ∈ k_vl M y, e < (eg_gi M 12 10).toNatClampNeg ∧ eg_gi M 19 e / nI 360 = y := by
  obtain ⟨⟨L, ⟨n, hn, hN⟩, hL, ⟨h1, h2, h3⟩, _⟩, _⟩ := h
  rw [hN, n_c (by omega)] at h1 h3
  have hx : ∀ i, i < n → ∃ hi : i < L.length, (eg_gi M 22 i).toNatClampNeg = L[i] ∧ L[i] < n := fun i hi => by
    have hi' : i < L.length := by omega
    have := (h3 L[i]).mp (List.getElem_mem hi')
    exact ⟨hi', by rw [hL i hi', n_c (by omega)], this⟩
  unfold k_vl
  rw [hN, n_c (by omega)]
  constructor
  · unfold List.Nodup
    rw [List.pairwise_map]
    refine List.Pairwise.imp_of_mem ?_ (fl_nd (k_vy M y) n)
    intro a b ha hb hab
    have ha := (fl_mem.mp ha).1
    have hb := (fl_mem.mp hb).1
    obtain ⟨pa, ea, _⟩ := hx a ha
    obtain ⟨pb, eb, _⟩ := hx b hb
    rw [ea, eb]
    intro e
    rcases Nat.lt_or_gt_of_ne hab with w | w
    · exact absurd (List.mem_take_iff_getElem.mpr ⟨a, by omega, e⟩) (dlt_new h2 pb)
    · exact absurd (List.mem_take_iff_getElem.mpr ⟨b, by omega, e.symm⟩) (dlt_new h2 pa)
  · intro e he
    obtain ⟨i, hi, rfl⟩ := List.mem_map.mp he
    have hi := fl_mem.mp hi
    obtain ⟨p, e1, e2⟩ := hx i hi.1
    refine ⟨by rw [e1]; exact e2, ?_⟩
    have := hi.2
    unfold k_vy at this
    rw [decide_eq_true_eq] at this
    exact this.2.2
theorem gD {l : List Nat} {i : Nat} (h : i < l.length) : l.getD i 0 = l[i] := by
  rw [List.getD_eq_getElem?_getD, List.getElem?_eq_getElem h]
  rfl
theorem sm_gi {M : eg_M} {s : Int32} {f : Nat → Int32} {t : k_T5} {a j : Nat} (h42 : ¬ a = 42) (h1 : ¬ a = 1 ∨ ¬ j = 12) : eg_gi (k_sm M s f t) a j = eg_gi M a j := by
  show eg_gi (eg_ri (eg_si M 1 12 s) 42 f) a j = _
  rw [ri_g, if_neg h42, si_g, if_neg (fun z => h1.elim (fun w => w z.1) (fun w => w z.2))]
theorem k_8n {M : eg_M} {q : Nat} (h : eg_isO wd M q 8 = true) : ¬ q = 42 := by
  rintro rfl
  exact Bool.noConfusion (h.symm.trans (show eg_isO wd M 42 8 = false from rfl))
theorem sm_tx {M : eg_M} {s : Int32} {f : Nat → Int32} {t : k_T5} {q : Nat} {L : List (Int32 × List Int32)} (h : k_tx M q L) : k_tx (k_sm M s f t) q L := by
  refine k_tx_of (M := M) (N := k_sm M s f t) rfl rfl (fun a ha j => sm_gi ?_ (Or.inl ?_)) h
  · rintro rfl; unfold k_tp at ha; omega
  · rintro rfl; unfold k_tp at ha; omega
theorem sm_pq {M : eg_M} {s : Int32} {f : Nat → Int32} {t : k_T5} (h : k_pq M) : k_pq (k_sm M s f t) ∧ k_pt (k_sm M s f t) = k_pt M := by
  obtain ⟨q, P, h1, h2, h3, h4⟩ := h
  have h1' : eg_ref (eg_sh wd (k_sm M s f t) 1) (k_sm M s f t) 1 5 = some q := h1
  have e : eg_gi (k_sm M s f t) q 1 = eg_gi M q 1 := sm_gi (k_8n h2) (Or.inr (by decide))
  refine ⟨⟨q, P, h1', h2, h3, by rw [e]; exact h4⟩, ?_⟩
  unfold k_pt
  rw [h1', h1]
  show lnat (eg_gi (k_sm M s f t) q 1).toInt64 = lnat (eg_gi M q 1).toInt64
  rw [e]
def k_X3_settleYearOf : eg_C := ([(0, .aload_n 0, 1), (1, .getfield 28, 3), (4, .getfield 123, 3), (7, .iload_n 1, 1), (8, .iaload, 1), (9, .sipush 360, 3), (12, .idiv, 1), (13, .istore_n 2, 1), (14, .aload_n 0, 1), (15, .getfield 70, 3), (18, .iconst 1, 1), (19, .iload_n 2, 1), (20, .ishl, 1), (21, .iand, 1), (22, .ifCond .eq 4, 3), (25, .return_, 1), (26, .aload_n 0, 1), (27, .dup, 1), (28, .getfield 70, 3), (31, .iconst 1, 1), (32, .iload_n 2, 1), (33, .ishl, 1), (34, .ior, 1), (35, .putfield 70, 3), (38, .aload_n 0, 1), (39, .iload_n 2, 1), (40, .invokevirtual 202, 3), (43, .istore_n 3, 1), (44, .lconst 0, 1), (45, .lstore 4, 2), (47, .iconst 0, 1), (48, .istore 6, 2), (50, .iload 6, 2), (52, .iload_n 3, 1), (53, .if_icmp .ge 57, 3), (56, .aload_n 0, 1), (57, .getfield 80, 3), (60, .iload 6, 2), (62, .iaload, 1), (63, .istore 7, 2), (65, .aload_n 0, 1), (66, .getfield 73, 3), (69, .iload 7, 2), (71, .aload_n 0, 1), (72, .iload 7, 2), (74, .invokevirtual 205, 3), (77, .lastore, 1), (78, .aload_n 0, 1), (79, .getfield 77, 3), (82, .iload 7, 2), (84, .aload_n 0, 1), (85, .getfield 73, 3), (88, .iload 7, 2), (90, .laload, 1), (91, .lastore, 1), (92, .lload 4, 2), (94, .aload_n 0, 1), (95, .getfield 73, 3), (98, .iload 7, 2), (100, .laload, 1), (101, .ladd, 1), (102, .lstore 4, 2), (104, .iinc 6 1, 3), (107, .goto (-57), 3), (110, .lload 4, 2), (112, .aload_n 0, 1), (113, .getfield 47, 3), (116, .getfield 209, 3), (119, .i2l, 1), (120, .lcmp, 1), (121, .ifCond .le 10, 3), (124, .aload_n 0, 1), (125, .iload_n 3, 1), (126, .lload 4, 2), (128, .invokevirtual 212, 3), (131, .return_, 1)], [(28, 3, 2, false), (47, 3, 5, false), (70, 3, 12, true), (73, 3, 13, false), (77, 3, 14, false), (80, 3, 15, false), (123, 1, 6, false), (209, 8, 1, false)], [], [(202, 1 + 1, 0, 0, s_X3_listVisits), (205, 1 + 1, 0, 0, s_X3_claimOf), (212, 2 + 1, 0, 0, s_X3_sharePot)], [], 0, 0, 0)
theorem mk_X3_settleYearOf : ∀ q ∈ k_X3_settleYearOf.2.2.2.1, eg_mono q.2.2.2.2 := (fc (mo_X3_listVisits) (fc (mo_X3_claimOf) (fc (mo_X3_sharePot) (fn))))
set_option maxRecDepth 100000 in
theorem st_X3_settleYearOf_0 {Qp : eg_P} {M : eg_M} (e : Int32)
  (g0 : (vp_in e 200))
  (g1 : (((eg_gi M 1 12) &&& ((nI 1) <<< (((eg_gi M 19 e.toNatClampNeg) / (nI 360)) &&& 31))) = 0) → (eg_cn (eg_gi (eg_si M 1 12 ((eg_gi M 1 12) ||| ((nI 1) <<< (((eg_gi M 19 e.toNatClampNeg) / (nI 360)) &&& 31)))) 12 10) 200 ∧ ∀ i, i < (eg_gi (eg_si M 1 12 ((eg_gi M 1 12) ||| ((nI 1) <<< (((eg_gi M 19 e.toNatClampNeg) / (nI 360)) &&& 31)))) 12 10).toNatClampNeg → vp_in (eg_gi (eg_si M 1 12 ((eg_gi M 1 12) ||| ((nI 1) <<< (((eg_gi M 19 e.toNatClampNeg) / (nI 360)) &&& 31)))) 22 i) 200))
  (l0 : (((eg_gi M 1 12) &&& ((nI 1) <<< (((eg_gi M 19 e.toNatClampNeg) / (nI 360)) &&& 31))) = 0) → ∀ (f_1 : Nat → Int32), (∀ i (h : i < ((List.range (eg_gi (eg_si M 1 12 ((eg_gi M 1 12) ||| ((nI 1) <<< (((eg_gi M 19 e.toNatClampNeg) / (nI 360)) &&& 31)))) 12 10).toNatClampNeg).filter (k_vy (eg_si M 1 12 ((eg_gi M 1 12) ||| ((nI 1) <<< (((eg_gi M 19 e.toNatClampNeg) / (nI 360)) &&& 31)))) ((eg_gi M 19 e.toNatClampNeg) / (nI 360)))).length), f_1 i = eg_gi (eg_si M 1 12 ((eg_gi M 1 12) ||| ((nI 1) <<< (((eg_gi M 19 e.toNatClampNeg) / (nI 360)) &&& 31)))) 22 ((List.range (eg_gi (eg_si M 1 12 ((eg_gi M 1 12) ||| ((nI 1) <<< (((eg_gi M 19 e.toNatClampNeg) / (nI 360)) &&& 31)))) 12 10).toNatClampNeg).filter (k_vy (eg_si M 1 12 ((eg_gi M 1 12) ||| ((nI 1) <<< (((eg_gi M 19 e.toNatClampNeg) / (nI 360)) &&& 31)))) ((eg_gi M 19 e.toNatClampNeg) / (nI 360))))[i]) → eg_T wd k_X3_settleYearOf Qp 43 0 0 [some (.ref 1), some (.int e), some (.int ((eg_gi M 19 e.toNatClampNeg) / (nI 360))), none, none, none, none, none] [.int (nI ((List.range (eg_gi (eg_si M 1 12 ((eg_gi M 1 12) ||| ((nI 1) <<< (((eg_gi M 19 e.toNatClampNeg) / (nI 360)) &&& 31)))) 12 10).toNatClampNeg).filter (k_vy (eg_si M 1 12 ((eg_gi M 1 12) ||| ((nI 1) <<< (((eg_gi M 19 e.toNatClampNeg) / (nI 360)) &&& 31)))) ((eg_gi M 19 e.toNatClampNeg) / (nI 360)))).length)] (eg_ri (eg_si M 1 12 ((eg_gi M 1 12) ||| ((nI 1) <<< (((eg_gi M 19 e.toNatClampNeg) / (nI 360)) &&& 31)))) 42 f_1))
  (l1 : (¬ ((eg_gi M 1 12) &&& ((nI 1) <<< (((eg_gi M 19 e.toNatClampNeg) / (nI 360)) &&& 31))) = 0) → Qp (.inl none) M) :
  eg_T wd k_X3_settleYearOf Qp 0 0 0 [some (.ref 1), some (.int e), none, none, none, none, none, none] [] M := by
  refine eg_T_run mk_X3_settleYearOf (cut := [43, 50, 77, 116, 131]) 79 ?_
  refine And.intro (show vp_in e 200 from ?_) ?_
  · exact g0
  refine And.intro (show ¬ (nI 360) = 0 from ?_) ?_
  · decide
  refine And.intro (fun (c1 : ((eg_gi M 1 12) &&& ((nI 1) <<< (((eg_gi M 19 e.toNatClampNeg) / (nI 360)) &&& 31))) = 0) => ?_) (fun (c1 : ¬ ((eg_gi M 1 12) &&& ((nI 1) <<< (((eg_gi M 19 e.toNatClampNeg) / (nI 360)) &&& 31))) = 0) => ?_)
  · skip
    refine And.intro (show (eg_cn (eg_gi (eg_si M 1 12 ((eg_gi M 1 12) ||| ((nI 1) <<< (((eg_gi M 19 e.toNatClampNeg) / (nI 360)) &&& 31)))) 12 10) 200 ∧ ∀ i, i < (eg_gi (eg_si M 1 12 ((eg_gi M 1 12) ||| ((nI 1) <<< (((eg_gi M 19 e.toNatClampNeg) / (nI 360)) &&& 31)))) 12 10).toNatClampNeg → vp_in (eg_gi (eg_si M 1 12 ((eg_gi M 1 12) ||| ((nI 1) <<< (((eg_gi M 19 e.toNatClampNeg) / (nI 360)) &&& 31)))) 22 i) 200) from ?_) ?_
    · exact g1 c1
    intro f_1 ha_1
    show eg_T wd k_X3_settleYearOf Qp 43 0 0 [some (.ref 1), some (.int e), some (.int ((eg_gi M 19 e.toNatClampNeg) / (nI 360))), none, none, none, none, none] [.int (nI ((List.range (eg_gi (eg_si M 1 12 ((eg_gi M 1 12) ||| ((nI 1) <<< (((eg_gi M 19 e.toNatClampNeg) / (nI 360)) &&& 31)))) 12 10).toNatClampNeg).filter (k_vy (eg_si M 1 12 ((eg_gi M 1 12) ||| ((nI 1) <<< (((eg_gi M 19 e.toNatClampNeg) / (nI 360)) &&& 31)))) ((eg_gi M 19 e.toNatClampNeg) / (nI 360)))).length)] (eg_ri (eg_si M 1 12 ((eg_gi M 1 12) ||| ((nI 1) <<< (((eg_gi M 19 e.toNatClampNeg) / (nI 360)) &&& 31)))) 42 f_1)
    exact l0 c1 f_1 ha_1
  · skip
    show Qp (.inl none) M
    exact l1 c1

set_option maxRecDepth 100000 in
theorem st_X3_settleYearOf_43 {Qp : eg_P} {M : eg_M} (o1 : Option Value) (x2 : Int32) (o3 : Option Value) (o4 : Option Value) (o5 : Option Value) (o6 : Option Value) (o7 : Option Value) (s0 : Int32)
  (l0 : eg_T wd k_X3_settleYearOf Qp 50 0 0 [some (.ref 1), o1, some (.int x2), some (.int s0), some (.long (lN 0)), none, some (.int (nI 0)), o7] [] M) :
  eg_T wd k_X3_settleYearOf Qp 43 0 0 [some (.ref 1), o1, some (.int x2), o3, o4, o5, o6, o7] [.int s0] M := by
  refine eg_T_run mk_X3_settleYearOf (cut := [43, 50, 77, 116, 131]) 79 ?_
  show eg_T wd k_X3_settleYearOf Qp 50 0 0 [some (.ref 1), o1, some (.int x2), some (.int s0), some (.long (lN 0)), none, some (.int (nI 0)), o7] [] M
  exact l0

set_option maxRecDepth 100000 in
theorem st_X3_settleYearOf_50 {Qp : eg_P} {M : eg_M} (o1 : Option Value) (o2 : Option Value) (x3 : Int32) (x4 : Int64) (x6 : Int32) (o7 : Option Value)
  (g0 : (¬ (x3 ≤ x6)) → (vp_in x6 200))
  (g1 : (¬ (x3 ≤ x6)) → (vp_in (eg_gi M 42 x6.toNatClampNeg) 200 ∧ vp_in (eg_gi M 14 (eg_gi M 42 x6.toNatClampNeg).toNatClampNeg) 24 ∧ vp_in (eg_gi M 8 (eg_gi M 14 (eg_gi M 42 x6.toNatClampNeg).toNatClampNeg).toNatClampNeg) 16 ∧ vp_in (eg_gi M 9 (eg_gi M 14 (eg_gi M 42 x6.toNatClampNeg).toNatClampNeg).toNatClampNeg) 16 ∧ k_ev (eg_gi M 36 (eg_gi M 42 x6.toNatClampNeg).toNatClampNeg) ∧ ∃ q L, k_tx M q L))
  (l0 : (x3 ≤ x6) → eg_T wd k_X3_settleYearOf Qp 116 0 0 [some (.ref 1), o1, o2, some (.int x3), some (.long x4), none, some (.int x6), o7] [eg_rv (eg_ref (eg_sh wd M 1) M 1 5), .long x4] M)
  (l1 : (¬ x3 ≤ x6) → ∀ (v_1 : Nat → Int64) (g_1 : Nat → Int64) (r_1 : Int64), (∀ q L, k_tx M q L → r_1 = p_claS (k_cw M (eg_gi M 42 x6.toNatClampNeg).toNatClampNeg) L) → eg_T wd k_X3_settleYearOf Qp 77 0 0 [some (.ref 1), o1, o2, some (.int x3), some (.long x4), none, some (.int x6), some (.int (eg_gi M 42 x6.toNatClampNeg))] [.long r_1, .int (eg_gi M 42 x6.toNatClampNeg), .ref 40] (eg_rl (eg_rl M 44 v_1) 45 g_1)) :
  eg_T wd k_X3_settleYearOf Qp 50 0 0 [some (.ref 1), o1, o2, some (.int x3), some (.long x4), none, some (.int x6), o7] [] M := by
  refine eg_T_run mk_X3_settleYearOf (cut := [43, 50, 77, 116, 131]) 79 ?_
  refine And.intro (fun (c1 : x3 ≤ x6) => ?_) (fun (c1 : ¬ x3 ≤ x6) => ?_)
  · skip
    show eg_T wd k_X3_settleYearOf Qp 116 0 0 [some (.ref 1), o1, o2, some (.int x3), some (.long x4), none, some (.int x6), o7] [eg_rv (eg_ref (eg_sh wd M 1) M 1 5), .long x4] M
    exact l0 c1
  · skip
    refine And.intro (show vp_in x6 200 from ?_) ?_
    · exact g0 c1
    refine And.intro (show (vp_in (eg_gi M 42 x6.toNatClampNeg) 200 ∧ vp_in (eg_gi M 14 (eg_gi M 42 x6.toNatClampNeg).toNatClampNeg) 24 ∧ vp_in (eg_gi M 8 (eg_gi M 14 (eg_gi M 42 x6.toNatClampNeg).toNatClampNeg).toNatClampNeg) 16 ∧ vp_in (eg_gi M 9 (eg_gi M 14 (eg_gi M 42 x6.toNatClampNeg).toNatClampNeg).toNatClampNeg) 16 ∧ k_ev (eg_gi M 36 (eg_gi M 42 x6.toNatClampNeg).toNatClampNeg) ∧ ∃ q L, k_tx M q L) from ?_) ?_
    · exact g1 c1
    intro v_1 g_1 r_1 ha_1
    show eg_T wd k_X3_settleYearOf Qp 77 0 0 [some (.ref 1), o1, o2, some (.int x3), some (.long x4), none, some (.int x6), some (.int (eg_gi M 42 x6.toNatClampNeg))] [.long r_1, .int (eg_gi M 42 x6.toNatClampNeg), .ref 40] (eg_rl (eg_rl M 44 v_1) 45 g_1)
    exact l1 c1 v_1 g_1 r_1 ha_1

set_option maxRecDepth 100000 in
theorem st_X3_settleYearOf_77 {Qp : eg_P} {M : eg_M} (o1 : Option Value) (o2 : Option Value) (x3 : Int32) (x4 : Int64) (x6 : Int32) (x7 : Int32) (s0 : Int64) (s1 : Int32)
  (g0 : (vp_in s1 200))
  (g1 : (vp_in x7 200))
  (l0 : eg_T wd k_X3_settleYearOf Qp 50 0 0 [some (.ref 1), o1, o2, some (.int x3), some (.long (x4 + (eg_gl (eg_sl M 40 s1.toNatClampNeg s0) 40 x7.toNatClampNeg))), none, some (.int (x6 + (nI 1))), some (.int x7)] [] (eg_sl (eg_sl M 40 s1.toNatClampNeg s0) 41 x7.toNatClampNeg (eg_gl (eg_sl M 40 s1.toNatClampNeg s0) 40 x7.toNatClampNeg))) :
  eg_T wd k_X3_settleYearOf Qp 77 0 0 [some (.ref 1), o1, o2, some (.int x3), some (.long x4), none, some (.int x6), some (.int x7)] [.long s0, .int s1, .ref 40] M := by
  refine eg_T_run mk_X3_settleYearOf (cut := [43, 50, 77, 116, 131]) 79 ?_
  refine And.intro (show vp_in s1 200 from ?_) ?_
  · exact g0
  refine And.intro (show vp_in x7 200 from ?_) ?_
  · exact g1
  refine And.intro (show vp_in x7 200 from ?_) ?_
  · exact g1
  refine And.intro (show vp_in x7 200 from ?_) ?_
  · exact g1
  show eg_T wd k_X3_settleYearOf Qp 50 0 0 [some (.ref 1), o1, o2, some (.int x3), some (.long (x4 + (eg_gl (eg_sl M 40 s1.toNatClampNeg s0) 40 x7.toNatClampNeg))), none, some (.int (x6 + (nI 1))), some (.int x7)] [] (eg_sl (eg_sl M 40 s1.toNatClampNeg s0) 41 x7.toNatClampNeg (eg_gl (eg_sl M 40 s1.toNatClampNeg s0) 40 x7.toNatClampNeg))
  exact l0

set_option maxRecDepth 100000 in
theorem st_X3_settleYearOf_116 {Qp : eg_P} {M : eg_M} (o1 : Option Value) (o2 : Option Value) (x3 : Int32) (x4 : Int64) (o6 : Option Value) (o7 : Option Value) (s0 : Nat) (s1 : Int64)
  (g0 : (eg_isO wd M s0 8 = true))
  (g1 : (¬ (s1 ≤ ((eg_gi M s0 1).toInt64))) → ((∃ m, k_ms M m ∧ x3 = nI m) ∧ k_pq M ∧ (∀ i, i < x3.toNatClampNeg → ∃ v, v < 2 ^ 24 ∧ eg_gl M 40 (eg_gi M 42 i).toNatClampNeg = lN v) ∧ x4 = lN (g_sum (k_cn M) (List.range x3.toNatClampNeg)) ∧ k_pt M < g_sum (k_cn M) (List.range x3.toNatClampNeg)))
  (l0 : (s1 ≤ ((eg_gi M s0 1).toInt64)) → eg_T wd k_X3_settleYearOf Qp 131 0 0 [some (.ref 1), o1, o2, some (.int x3), some (.long x4), none, o6, o7] [] M)
  (l1 : (¬ s1 ≤ ((eg_gi M s0 1).toInt64)) → ∀ (g_1 : Nat → Int64) (o_1 : Nat → Int64), ((∀ i, i < x3.toNatClampNeg → g_1 (eg_gi M 42 i).toNatClampNeg = lN (g_gr (k_pt M) (k_cn M) (List.range x3.toNatClampNeg) i)) ∧ ∀ e, (∀ i, i < x3.toNatClampNeg → ¬ (eg_gi M 42 i).toNatClampNeg = e) → g_1 e = eg_gl M 41 e) → eg_T wd k_X3_settleYearOf Qp 131 0 0 [some (.ref 1), o1, o2, some (.int x3), some (.long x4), none, o6, o7] [] (eg_rl (eg_rl M 41 g_1) 43 o_1)) :
  eg_T wd k_X3_settleYearOf Qp 116 0 0 [some (.ref 1), o1, o2, some (.int x3), some (.long x4), none, o6, o7] [.ref s0, .long s1] M := by
  refine eg_T_run mk_X3_settleYearOf (cut := [43, 50, 77, 116, 131]) 79 ?_
  refine eg_need_of (show eg_isO wd M s0 8 = true from ?_) ?_
  · exact g0
  refine And.intro (fun (c1 : (lg_cmp s1 ((eg_gi M s0 1).toInt64)) ≤ 0) => ?_) (fun (c1 : ¬ (lg_cmp s1 ((eg_gi M s0 1).toInt64)) ≤ 0) => ?_)
  · replace c1 := lgc_le.mp c1
    show eg_T wd k_X3_settleYearOf Qp 131 0 0 [some (.ref 1), o1, o2, some (.int x3), some (.long x4), none, o6, o7] [] M
    exact l0 c1
  · replace c1 := mt lgc_le.mpr c1
    refine And.intro (show ((∃ m, k_ms M m ∧ x3 = nI m) ∧ k_pq M ∧ (∀ i, i < x3.toNatClampNeg → ∃ v, v < 2 ^ 24 ∧ eg_gl M 40 (eg_gi M 42 i).toNatClampNeg = lN v) ∧ x4 = lN (g_sum (k_cn M) (List.range x3.toNatClampNeg)) ∧ k_pt M < g_sum (k_cn M) (List.range x3.toNatClampNeg)) from ?_) ?_
    · exact g1 c1
    intro g_1 o_1 ha_1
    show eg_T wd k_X3_settleYearOf Qp 131 0 0 [some (.ref 1), o1, o2, some (.int x3), some (.long x4), none, o6, o7] [] (eg_rl (eg_rl M 41 g_1) 43 o_1)
    exact l1 c1 g_1 o_1 ha_1

set_option maxRecDepth 100000 in
theorem st_X3_settleYearOf_131 {Qp : eg_P} {M : eg_M} (o0 : Option Value) (o1 : Option Value) (o2 : Option Value) (o3 : Option Value) (o4 : Option Value) (o5 : Option Value) (o6 : Option Value) (o7 : Option Value)
  (l0 : Qp (.inl none) M) :
  eg_T wd k_X3_settleYearOf Qp 131 0 0 [o0, o1, o2, o3, o4, o5, o6, o7] [] M := by
  refine eg_T_run mk_X3_settleYearOf (cut := [43, 50, 77, 116, 131]) 79 ?_
  show Qp (.inl none) M
  exact l0

def s_X3_settleYearOf : eg_S := fun argv M Qp => match argv with
  | [.ref 1, .int e] => (vp_in e 200 ∧ vp_in (eg_gi M 19 e.toNatClampNeg) 3600 ∧ k_es M ∧ k_pq M ∧ ∃ q CL, k_tx M q CL ∧ k_set M (k_pt M) CL) ∧ ∀ (s : Int32) (f : Nat → Int32) (t : k_T5), ((∀ q CL, k_tx M q CL → k_set (k_sm M s f t) (k_pt M) CL) ∧ ¬ (s &&& (nI 1 <<< ((eg_gi M 19 e.toNatClampNeg / nI 360) &&& 31)) = 0)) → Qp (.inl none) (k_sm M s f t)
  | _ => False
theorem mo_X3_settleYearOf : eg_mono s_X3_settleYearOf := by
  intro argv M Q Q' h
  unfold s_X3_settleYearOf
  split
  · exact fun z => ⟨z.1, fun s f t y => h _ _ (z.2 s f t y)⟩
  · exact id
theorem sz_X3_settleYearOf : ∀ argv M Qp, s_X3_settleYearOf argv M Qp → (eg_ls0 argv).length ≤ 8 := by
  intro argv M Qp h
  unfold s_X3_settleYearOf at h
  split at h
  · exact Nat.le_of_ble_eq_true rfl
  · exact h.elim
theorem sr_X3_settleYearOf : ∀ argv M Qp, s_X3_settleYearOf argv M Qp → ∃ p0 As, argv = .ref p0 :: As ∧ eg_isO wd M p0 3 = true := by
  intro argv M Qp h
  unfold s_X3_settleYearOf at h
  split at h
  · exact ⟨_, _, rfl, rfl⟩
  · exact h.elim
set_option maxRecDepth 100000 in
set_option maxHeartbeats 1000000 in
theorem T_X3_settleYearOf {argv : List Value} {M : eg_M} {Qp : eg_P} (h : s_X3_settleYearOf argv M Qp) : eg_T wd k_X3_settleYearOf Qp 0 0 0 (eg_lsN 8 argv) [] M := by
  unfold s_X3_settleYearOf at h
  split at h
  · rename_i e
    obtain ⟨hp, hq⟩ := h
    obtain ⟨he, hd, hES, hPQ, q, CL, hT, hSet⟩ := hp
    obtain ⟨d, hd, hde⟩ := vp_in_of hd (by decide)
    have hy : eg_gi M 19 e.toNatClampNeg / nI 360 = nI (d / 360) := by
      rw [hde]
      exact pk_div (by omega) (by decide) (by decide)
    have hy10 : d / 360 < 10 := by omega
    rw [hy] at hq
    have st0 := st_X3_settleYearOf_0 (Qp := Qp) (M := M) e he
    rw [hy] at st0
    generalize d / 360 = y at hy hy10 hq st0
    have hq : ∀ s f t, k_set (k_sm M s f t) (k_pt M) CL → ¬ (s &&& (nI 1 <<< (nI y &&& 31)) = 0) → Qp (.inl none) (k_sm M s f t) := fun s f t h1 h2 => hq s f t ⟨fun q' CL' hT' => by rw [← (k_tx_inj hT hT').2]; exact h1, h2⟩
    obtain ⟨⟨L, ⟨n, hn, hN⟩, hL, ⟨hl1, hl2, hl3⟩, hC⟩, hch, h36, h19⟩ := id hES
    rw [hN, n_c (by omega)] at hl1 hl3 hC h19
    have hx : ∀ i, i < n → vp_in (eg_gi M 22 i) 200 := fun i hi => by
      have hi' : i < L.length := by omega
      have := (hl3 L[i]).mp (List.getElem_mem hi')
      rw [hL i hi', n_in (by omega) (by decide)]
      omega
    refine st0 (fun _ => ⟨⟨n, hn, hN⟩, fun i hi => ?_⟩) (fun z f hf => ?_) (fun z => ?_)
    · have hi : i < (eg_gi M 12 10).toNatClampNeg := hi
      rw [hN, n_c (by omega)] at hi
      exact hx i hi
    · have hs : ∃ s', s' = eg_gi M 1 12 ||| (nI 1 <<< (nI y &&& 31)) := ⟨_, rfl⟩
      obtain ⟨s', hs⟩ := hs
      rw [← hs] at hf ⊢
      have hlen : (k_vl M (nI y)).length = ((List.range (eg_gi (eg_si M 1 12 s') 12 10).toNatClampNeg).filter (k_vy (eg_si M 1 12 s') (nI y))).length := by
        unfold k_vl
        rw [List.length_map]
        rfl
      have hf' : ∀ i, i < (k_vl M (nI y)).length → f i = nI ((k_vl M (nI y)).getD i 0) := by
        intro i hi
        have hi2 : i < ((List.range (eg_gi M 12 10).toNatClampNeg).filter (k_vy M (nI y))).length := by
          have := hi
          unfold k_vl at this
          rw [List.length_map] at this
          exact this
        have e1 : (k_vl M (nI y)).getD i 0 = (eg_gi M 22 (((List.range (eg_gi M 12 10).toNatClampNeg).filter (k_vy M (nI y)))[i]'hi2)).toNatClampNeg := by
          rw [gD hi]
          exact List.getElem_map _
        have e2 : f i = eg_gi M 22 (((List.range (eg_gi M 12 10).toNatClampNeg).filter (k_vy M (nI y)))[i]'hi2) := hf i hi2
        have hm := (fl_mem.mp (List.getElem_mem hi2)).1
        rw [e1, e2]
        generalize (((List.range (eg_gi M 12 10).toNatClampNeg).filter (k_vy M (nI y)))[i]'hi2) = zz at hm
        rw [hN, n_c (by omega)] at hm
        obtain ⟨k, hk, ek⟩ := vp_in_of (hx _ hm) (by decide)
        rw [ek, n_c (by omega)]
      rw [← hlen]
      clear hf
      obtain ⟨hnd, hyr⟩ := k_vl_of hES (nI y)
      rw [hN, n_c (by omega)] at hyr
      have hm200 : (k_vl M (nI y)).length ≤ 200 := by
        unfold k_vl
        rw [List.length_map, hN, n_c (by omega)]
        exact Nat.le_trans (fl_len _ _) hn
      have fin : ∀ c g o v w : Nat → Int64, (∀ j, j < (k_vl M (nI y)).length → g ((k_vl M (nI y)).getD j 0) = lN (k_gv M (k_pt M) CL (nI y) j)) → (∀ a, (∀ j, j < (k_vl M (nI y)).length → ¬ (k_vl M (nI y)).getD j 0 = a) → g a = eg_gl M 41 a) → (∀ j, j < (k_vl M (nI y)).length → c ((k_vl M (nI y)).getD j 0) = lN (k_cl M CL ((k_vl M (nI y)).getD j 0))) → (∀ a, (∀ j, j < (k_vl M (nI y)).length → ¬ (k_vl M (nI y)).getD j 0 = a) → c a = eg_gl M 40 a) → Qp (.inl none) (k_sm M s' f (c, g, o, v, w)) := by
        intro c g o v w h1 h2 h3 h4
        refine hq s' f _ ?_ ?_
        · intro y' hy' hb i hi
          have hvl : k_vl (k_sm M s' f (c, g, o, v, w)) (nI y') = k_vl M (nI y') := rfl
          have hgv : k_gv (k_sm M s' f (c, g, o, v, w)) (k_pt M) CL (nI y') i = k_gv M (k_pt M) CL (nI y') i := rfl
          have hck : k_cl (k_sm M s' f (c, g, o, v, w)) CL ((k_vl M (nI y')).getD i 0) = k_cl M CL ((k_vl M (nI y')).getD i 0) := rfl
          rw [hvl] at hi ⊢
          rw [hgv, hck]
          show g _ = _ ∧ c _ = _
          by_cases w1 : y' = y
          · subst w1
            exact ⟨h1 i hi, h3 i hi⟩
          · have hb : ¬ (s' &&& (nI 1 <<< (nI y' &&& 31)) = 0) := hb
            rw [hs, or_sh _ (by omega) (by omega)] at hb
            have hb' : ¬ (eg_gi M 1 12 &&& (nI 1 <<< (nI y' &&& 31)) = 0) := fun w2 => hb ⟨w1, w2⟩
            have hne : ∀ j, j < (k_vl M (nI y)).length → ¬ (k_vl M (nI y)).getD j 0 = (k_vl M (nI y')).getD i 0 := by
              intro j hj e1
              have a1 := (hyr ((k_vl M (nI y)).getD j 0) (by rw [gD hj]; exact List.getElem_mem hj)).2
              have a2 := ((k_vl_of hES (nI y')).2 ((k_vl M (nI y')).getD i 0) (by rw [gD hi]; exact List.getElem_mem hi)).2
              rw [e1, a2] at a1
              exact w1 ((n_eq (by omega) (by omega)).mp a1)
            rw [h2 _ hne, h4 _ hne]
            exact hSet y' hy' hb' i hi
        · rw [hs, or_sh _ (by omega) (by omega)]
          exact fun w1 => w1.1 rfl
      have hCL : CL.length ≤ 12 := by
        obtain ⟨_, _, _, _, _, h5, _⟩ := hT.2.2
        exact h5
      have hcl : ∀ a, p_claS (k_cw M a) CL = lN (k_cl M CL a) ∧ k_cl M CL a < 2 ^ 24 := by
        intro a
        obtain ⟨v, hv, ev⟩ := p_claS_v (k_cw M a) CL
        have : v ≤ 12 * 999999 := Nat.le_trans hv (Nat.mul_le_mul_right _ hCL)
        unfold k_cl
        rw [ev, lnat_lN (by omega)]
        exact ⟨rfl, by omega⟩
      have hgv : ∀ j, k_gv M (k_pt M) CL (nI y) j = g_gr (k_pt M) (fun i => k_cl M CL ((k_vl M (nI y)).getD i 0)) (List.range (k_vl M (nI y)).length) j := fun _ => rfl
      simp only [hgv] at fin
      have hidx : ∀ j, j < (k_vl M (nI y)).length → (k_vl M (nI y)).getD j 0 < n := fun j hj => by
        rw [gD hj]
        exact (hyr _ (List.getElem_mem hj)).1
      have hinj : ∀ i j, i < j → j < (k_vl M (nI y)).length → ¬ (k_vl M (nI y)).getD i 0 = (k_vl M (nI y)).getD j 0 := by
        intro i j hij hj
        rw [gD hj, gD (show i < _ by omega)]
        exact List.pairwise_iff_getElem.mp hnd i j (by omega) hj hij
      clear hgv hyr hlen hnd
      generalize (k_vl M (nI y)).length = m at *
      generalize hVd : (k_vl M (nI y)).getD = V at *
      obtain ⟨qq, P, hq1, hq2, hP, hPq⟩ := id hPQ
      have eqq : qq = q := Option.some.inj (hq1.symm.trans hT.1)
      subst eqq
      have hPt : k_pt M = P := by
        unfold k_pt
        rw [hq1]
        show lnat (eg_gi M qq 1).toInt64 = P
        rw [hPq, lnat_lN (by omega)]
      have lp : ∀ i (x : ((Nat → Int64) × (Nat → Int64) × (Nat → Int64) × (Nat → Int64)) × Option Value), i ≤ m → ((∀ j, j < i → x.1.1 (V j 0) = lN (k_cl M CL (V j 0)) ∧ x.1.2.1 (V j 0) = lN (k_cl M CL (V j 0))) ∧ (∀ a, (∀ j, j < i → ¬ V j 0 = a) → x.1.2.1 a = eg_gl M 41 a) ∧ ∀ a, (∀ j, j < i → ¬ V j 0 = a) → x.1.1 a = eg_gl M 40 a) → eg_T wd k_X3_settleYearOf Qp 50 0 0 [some (.ref 1), some (.int e), some (.int (nI y)), some (.int (nI m)), some (.long (lN (g_sum (fun i => k_cl M CL (V i 0)) (List.range i)))), none, some (.int (nI i)), x.2] [] (eg_rl (eg_rl (eg_rl (eg_rl (eg_ri (eg_si M 1 12 s') 42 f) 40 x.1.1) 41 x.1.2.1) 44 x.1.2.2.1) 45 x.1.2.2.2) := by
        refine eg_for ?_
        intro i ⟨⟨c, g, v, w⟩, o7⟩ hi ⟨hI1, hI2, hI3⟩ kk
        dsimp only at hI1 hI2 hI3
        have hsum : g_sum (fun i => k_cl M CL (V i 0)) (List.range i) ≤ 200 * 2 ^ 24 := Nat.le_trans (g_sum_le (S := 2 ^ 24) (fun i _ => by have := (hcl (V i 0)).2; omega)) (by rw [List.length_range]; exact Nat.mul_le_mul_right _ (by omega))
        have hsm : eg_rl (eg_rl (eg_rl (eg_rl (eg_ri (eg_si M 1 12 s') 42 f) 40 c) 41 g) 44 v) 45 w = k_sm M s' f (c, g, eg_gl M 43, v, w) := by
          unfold k_sm
          dsimp only
          rw [rl_id' (Y := eg_rl (eg_rl (eg_ri (eg_si M 1 12 s') 42 f) 40 c) 41 g) (p := 43) (f := eg_gl M 43) rfl]
        have st := st_X3_settleYearOf_50 (Qp := Qp) (M := eg_rl (eg_rl (eg_rl (eg_rl (eg_ri (eg_si M 1 12 s') 42 f) 40 c) 41 g) 44 v) 45 w) (some (.int e)) (some (.int (nI y))) (nI m) (lN (g_sum (fun i => k_cl M CL (V i 0)) (List.range i))) (nI i) o7
        have r42 : ∀ j, eg_gi (eg_rl (eg_rl (eg_rl (eg_rl (eg_ri (eg_si M 1 12 s') 42 f) 40 c) 41 g) 44 v) 45 w) 42 j = f j := fun _ => rfl
        rw [n_c (show i < 2 ^ 31 by omega), r42, n_le (by omega) (by omega), Nat.not_le] at st
        refine st (fun _ => vp_in_nI (by omega) (by decide)) (fun z => ?_) (fun z => ?_) (fun z v1 g1 r1 hr1 => ?_)
        · have hv := hidx i z
          rw [hf' i z]
          refine ⟨vp_in_nI (by omega) (by decide), ?_⟩
          rw [n_c (by omega)]
          obtain ⟨cc, hcc, ec⟩ := vp_in_of (hC _ hv) (by decide)
          have e14 : eg_gi (eg_rl (eg_rl (eg_rl (eg_rl (eg_ri (eg_si M 1 12 s') 42 f) 40 c) 41 g) 44 v) 45 w) 14 (V i 0) = nI cc := ec
          rw [e14, n_c (by omega)]
          refine ⟨vp_in_nI hcc (by decide), (hch cc hcc).1, (hch cc hcc).2, h36 _ (by omega), qq, CL, ?_⟩
          rw [hsm]
          exact sm_tx hT
        · have him : i = m := by omega
          subst him
          have hr' : eg_ref (eg_sh wd (eg_rl (eg_rl (eg_rl (eg_rl (eg_ri (eg_si M 1 12 s') 42 f) 40 c) 41 g) 44 v) 45 w) 1) (eg_rl (eg_rl (eg_rl (eg_rl (eg_ri (eg_si M 1 12 s') 42 f) 40 c) 41 g) 44 v) 45 w) 1 5 = some qq := hq1
          rw [hr']
          have hq0 : eg_gi (eg_rl (eg_rl (eg_rl (eg_rl (eg_ri (eg_si M 1 12 s') 42 f) 40 c) 41 g) 44 v) 45 w) qq 1 = eg_gi M qq 1 := by
            rw [hsm]
            exact sm_gi (k_8n hq2) (Or.inr (by decide))
          have kcn : ∀ j, j < i → k_cn (eg_rl (eg_rl (eg_rl (eg_rl (eg_ri (eg_si M 1 12 s') 42 f) 40 c) 41 g) 44 v) 45 w) j = k_cl M CL (V j 0) := by
            intro j hj
            have : k_cn (eg_rl (eg_rl (eg_rl (eg_rl (eg_ri (eg_si M 1 12 s') 42 f) 40 c) 41 g) 44 v) 45 w) j = lnat (c (f j).toNatClampNeg) := rfl
            have a1 := hidx j hj
            have a2 := (hcl (V j 0)).2
            rw [this, hf' j hj, n_c (by omega), (hI1 j hj).1, lnat_lN (by omega)]
          have ksum : g_sum (k_cn (eg_rl (eg_rl (eg_rl (eg_rl (eg_ri (eg_si M 1 12 s') 42 f) 40 c) 41 g) 44 v) 45 w)) (List.range i) = g_sum (fun i => k_cl M CL (V i 0)) (List.range i) := g_sum_of (fun j hj => kcn j (List.mem_range.mp hj))
          have kpq := sm_pq (s := s') (f := f) (t := (c, g, eg_gl M 43, v, w)) hPQ
          rw [← hsm] at kpq
          have s6 := st_X3_settleYearOf_116 (Qp := Qp) (M := eg_rl (eg_rl (eg_rl (eg_rl (eg_ri (eg_si M 1 12 s') 42 f) 40 c) 41 g) 44 v) 45 w) (some (.int e)) (some (.int (nI y))) (nI i) (lN (g_sum (fun i => k_cl M CL (V i 0)) (List.range i))) (some (.int (nI i))) o7 qq (lN (g_sum (fun i => k_cl M CL (V i 0)) (List.range i))) hq2
          rw [hq0, hPq, l_le (by omega) (by omega), n_c (by omega), kpq.2, hPt, ksum] at s6
          refine s6 (fun y1 => ⟨⟨i, ⟨hm200, fun j hj => ?_, fun j k hjk hk => ?_⟩, rfl⟩, kpq.1, fun j hj => ⟨k_cl M CL (V j 0), (hcl _).2, ?_⟩, rfl, by omega⟩) (fun y1 => ?_) (fun y1 g1 o1 hg1 => ?_)
          · show vp_in (f j) 200
            have a1 := hidx j hj
            rw [hf' j hj]
            exact vp_in_nI (by omega) (by decide)
          · show ¬ (f j).toNatClampNeg = (f k).toNatClampNeg
            have a1 := hidx j (by omega)
            have a2 := hidx k hk
            rw [hf' j (by omega), hf' k hk, n_c (by omega), n_c (by omega)]
            exact hinj j k hjk hk
          · show c (f j).toNatClampNeg = _
            have a1 := hidx j hj
            rw [hf' j hj, n_c (by omega)]
            exact (hI1 j hj).1
          · refine st_X3_settleYearOf_131 _ _ _ _ _ _ _ _ ?_
            rw [hsm]
            refine fin _ _ _ _ _ (fun j hj => ?_) hI2 (fun j hj => (hI1 j hj).1) hI3
            rw [(hI1 j hj).2]
            unfold g_gr
            rw [if_pos (by omega)]
          · refine st_X3_settleYearOf_131 _ _ _ _ _ _ _ _ ?_
            rw [sm_eq]
            refine fin c g1 o1 v w (fun j hj => ?_) (fun a ha => ?_) (fun j hj => (hI1 j hj).1) hI3
            · have a1 := hidx j hj
              have := hg1.1 j hj
              have e1 : (eg_gi (eg_rl (eg_rl (eg_rl (eg_rl (eg_ri (eg_si M 1 12 s') 42 f) 40 c) 41 g) 44 v) 45 w) 42 j).toNatClampNeg = V j 0 := by
                rw [r42, hf' j hj, n_c (by omega)]
              rw [e1] at this
              rw [this, hPt, g_gr_of (fun k hk => kcn k (List.mem_range.mp hk)) (List.mem_range.mpr hj)]
            · rw [hg1.2 a (fun j hj => ?_)]
              · exact hI2 a ha
              · have a1 := hidx j hj
                rw [r42, hf' j hj, n_c (by omega)]
                exact ha j hj
        · have hv := hidx i z
          have hcv := hcl (V i 0)
          have er1 : r1 = lN (k_cl M CL (V i 0)) := by
            have := hr1 qq CL (by rw [hsm]; exact sm_tx hT)
            rw [hf' i z, n_c (by omega)] at this
            rw [this, ← hcv.1]
            rfl
          rw [rl_4, hf' i z, er1]
          have s7 := st_X3_settleYearOf_77 (Qp := Qp) (M := eg_rl (eg_rl (eg_rl (eg_rl (eg_ri (eg_si M 1 12 s') 42 f) 40 c) 41 g) 44 v1) 45 g1) (some (.int e)) (some (.int (nI y))) (nI m) (lN (g_sum (fun i => k_cl M CL (V i 0)) (List.range i))) (nI i) (nI (V i 0)) (lN (k_cl M CL (V i 0))) (nI (V i 0)) (vp_in_nI (by omega) (by decide)) (vp_in_nI (by omega) (by decide))
          rw [n_c (show V i 0 < 2 ^ 31 by omega), sl_g, if_pos ⟨rfl, rfl⟩, lN_add, n_s] at s7
          refine s7 ?_
          simp (disch := decide) only [sl_rl_n, sl_rl]
          have := kk (((fun j => if j = V i 0 then lN (k_cl M CL (V i 0)) else c j), (fun j => if j = V i 0 then lN (k_cl M CL (V i 0)) else g j), v1, g1), some (.int (nI (V i 0)))) z ⟨fun j hj => ?_, fun a ha => ?_, fun a ha => ?_⟩
          · rw [rg_s] at this
            exact this
          · dsimp only
            by_cases w1 : j = i
            · subst w1
              rw [if_pos rfl, if_pos rfl]
              exact ⟨rfl, rfl⟩
            · rw [if_neg (hinj j i (by omega) z), if_neg (hinj j i (by omega) z)]
              exact hI1 j (by omega)
          · dsimp only
            rw [if_neg (fun w1 => ha i (by omega) w1.symm)]
            exact hI2 a (fun j hj => ha j (by omega))
          · dsimp only
            rw [if_neg (fun w1 => ha i (by omega) w1.symm)]
            exact hI3 a (fun j hj => ha j (by omega))
      refine st_X3_settleYearOf_43 _ _ _ _ _ _ _ _ ?_
      have := lp 0 ((eg_gl M 40, eg_gl M 41, eg_gl M 44, eg_gl M 45), none) (Nat.zero_le _) ⟨fun j hj => absurd hj (Nat.not_lt_zero _), fun a _ => rfl, fun a _ => rfl⟩
      dsimp only at this
      rw [rl_id' (Y := eg_ri (eg_si M 1 12 s') 42 f) (p := 40) (f := eg_gl M 40) rfl, rl_id' (Y := eg_ri (eg_si M 1 12 s') 42 f) (p := 41) (f := eg_gl M 41) rfl, rl_id' (Y := eg_ri (eg_si M 1 12 s') 42 f) (p := 44) (f := eg_gl M 44) rfl, rl_id' (Y := eg_ri (eg_si M 1 12 s') 42 f) (p := 45) (f := eg_gl M 45) rfl] at this
      exact this
    · have := hq (eg_gi M 1 12) (eg_gi M 42) (eg_gl M 40, eg_gl M 41, eg_gl M 43, eg_gl M 44, eg_gl M 45) (by rw [k_sm_id]; exact hSet) z
      rw [k_sm_id] at this
      exact this
    
  · exact h.elim
theorem de_X3_settleYearOf : ∀ q ∈ k_X3_settleYearOf.1, decode cX3_settleYearOf q.1 = .ok q.2 := by decide +kernel
theorem me_X3_settleYearOf (g : gl_T) : MT g yX3_settleYearOf cX3_settleYearOf 8 none ⟨4, 0, 0, 99⟩ 0 0 s_X3_settleYearOf := by
  intro hl
  exact eg_met_of (k := k_X3_settleYearOf) (by decide) rfl ⟨Nat.le_refl _, Nat.le_refl _⟩ rfl sz_X3_settleYearOf de_X3_settleYearOf (fun meth hn => (fc (eg_FL_of wd_c3 (by decide) lf_RX3_28 (fun h => absurd h (by decide))) (fc (eg_FL_of wd_c3 (by decide) lf_RX3_47 (fun h => absurd h (by decide))) (fc (eg_FL_of wd_c3 (by decide) lf_RX3_70 (fun _ => Or.inl rfl)) (fc (eg_FL_of wd_c3 (by decide) lf_RX3_73 (fun h => absurd h (by decide))) (fc (eg_FL_of wd_c3 (by decide) lf_RX3_77 (fun h => absurd h (by decide))) (fc (eg_FL_of wd_c3 (by decide) lf_RX3_80 (fun h => absurd h (by decide))) (fc (eg_FL_of wd_c1 (by decide) lf_RX3_123 (fun h => absurd h (by decide))) (fc (eg_FL_of wd_c8 (by decide) lf_RX3_209 (fun h => absurd h (by decide))) (fn)))))))))) (fun A s H hE => (fn)) (fun p e s m args below meth c Q A ad0 N0 S0 hK hEx hA => (fc (mt_V hl S0 hK hEx hA (me_X3_listVisits g) lm_RX3_202 li_X3_listVisits lx_X3_listVisits ln_RX3 lc_X3_listVisits ⟨rfl, by decide, by decide, by decide +kernel⟩ ⟨rfl, rfl⟩ ⟨by decide, by decide⟩ (ci := 3) rfl rfl sr_X3_listVisits (by decide)) (fc (mt_V hl S0 hK hEx hA (me_X3_claimOf g) lm_RX3_205 li_X3_claimOf lx_X3_claimOf ln_RX3 lc_X3_claimOf ⟨rfl, by decide, by decide, by decide +kernel⟩ ⟨rfl, rfl⟩ ⟨by decide, by decide⟩ (ci := 3) rfl rfl sr_X3_claimOf (by decide)) (fc (mt_V hl S0 hK hEx hA (me_X3_sharePot g) lm_RX3_212 li_X3_sharePot lx_X3_sharePot ln_RX3 lc_X3_sharePot ⟨rfl, by decide, by decide, by decide +kernel⟩ ⟨rfl, rfl⟩ ⟨by decide, by decide⟩ (ci := 3) rfl rfl sr_X3_sharePot (by decide)) (fn))))) (fun p e s m args below meth c Qc XC A ad0 N0 P S0 hK hEx hA hlk hout hPX => (fn)) (fun argv M Qp h => T_X3_settleYearOf h)

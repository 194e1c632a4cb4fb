theorem or_sh (x : Int32) {s t : Nat} (hs : s < 16) (ht : t < 16) : ((x ||| (nI 1 <<< (nI s &&& 31))) &&& (nI 1 <<< (nI t &&& 31)) = 0) ↔ (¬ t = s ∧ x &&& (nI 1 <<< (nI t &&& 31)) = 0) := by
  have hb : ∀ t, t < 16 → (nI 1 <<< (nI t &&& 31)) = nI (2 ^ t) := by decide
  rw [hb s hs, hb t ht]
  have e : (x ||| nI (2 ^ s)) &&& nI (2 ^ t) = (x &&& nI (2 ^ t)) ||| (nI (2 ^ s) &&& nI (2 ^ t)) := by
    apply Int32.toBitVec_inj.mp
    apply BitVec.eq_of_getLsbD_eq
    intro i _
    simp only [Int32.toBitVec_and, Int32.toBitVec_or, BitVec.getLsbD_and, BitVec.getLsbD_or]
    exact Bool.and_or_distrib_right _ _ _
  rw [e]
  by_cases h : t = s
  · subst h
    constructor
    · intro z
      exfalso
      have z := congrArg (fun v => v.toBitVec.getLsbD t) z
      simp only [Int32.toBitVec_and, Int32.toBitVec_or, BitVec.getLsbD_and, BitVec.getLsbD_or] at z
      have e : ∀ t, t < 16 → (nI (2 ^ t)).toBitVec.getLsbD t = true := by decide
      rw [e t ht] at z
      have z0 : (0 : Int32).toBitVec.getLsbD t = false := BitVec.getLsbD_zero
      rw [z0] at z
      simp at z
    · intro z
      exact absurd rfl z.1
  · have e2 : ∀ s, s < 16 → ∀ t, t < 16 → ¬ t = s → nI (2 ^ s) &&& nI (2 ^ t) = 0 := by decide
    rw [e2 s hs t ht h]
    have e3 : (x &&& nI (2 ^ t)) ||| 0 = x &&& nI (2 ^ t) := by
      apply Int32.toBitVec_inj.mp
      simp
    rw [e3]
    exact ⟨fun z => ⟨h, z⟩, fun z => z.2⟩
theorem p_oneS_v (V : Nat → Int64) (c : Int32 × List Int32) : ∃ v, v ≤ 999999 ∧ p_oneS V c = lN v := by
  unfold p_oneS
  split
  · generalize p_v V c.2 = x
    have hm : (if x < lN 999999 then x else lN 999999) ≤ lN 999999 := by
      split
      · rename_i h
        exact Int64.le_of_lt h
      · exact Int64.le_refl _
    generalize (if x < lN 999999 then x else lN 999999) = y at hm
    split
    · exact ⟨0, by omega, rfl⟩
    · rename_i h
      obtain ⟨k, hk, rfl⟩ := pk_lOf h
      exact ⟨k, (l_le hk (by decide)).mp hm, rfl⟩
  · exact ⟨0, by omega, rfl⟩
theorem p_claS_v (V : Nat → Int64) (CL : List (Int32 × List Int32)) : ∃ v, v ≤ CL.length * 999999 ∧ p_claS V CL = lN v := by
  unfold p_claS
  have : ∀ (l : List (Int32 × List Int32)) (x : Nat), ∃ v, v ≤ x + l.length * 999999 ∧ l.foldl (fun s c => s + p_oneS V c) (lN x) = lN v := by
    intro l
    induction l with
    | nil => intro x; exact ⟨x, by simp, rfl⟩
    | cons c l ih =>
      intro x
      obtain ⟨w, hw, e⟩ := p_oneS_v V c
      obtain ⟨v, hv, e2⟩ := ih (x + w)
      refine ⟨v, ?_, ?_⟩
      · rw [List.length_cons]; omega
      · rw [List.foldl_cons, e, lN_add]; exact e2
  obtain ⟨v, hv, e⟩ := this CL 0
  exact ⟨v, by omega, e⟩
/-- a text reads its own rows alone -/
theorem k_rt_of {M N : eg_M} (h1 : N.1 = M.1) (h2 : N.2.2.2 = M.2.2.2) (h3 : ∀ a, k_tp a → ∀ j, eg_gi N a j = eg_gi M a j) {q : Nat} {L : List (Int32 × List Int32)} (h : k_rt M q L) : k_rt N q L := by
  obtain ⟨a, b, c, d⟩ := M
  obtain ⟨a', b', c', d'⟩ := N
  have h1 : a' = a := h1
  have h2 : d' = d := h2
  subst h1 h2
  obtain ⟨a3, e1, e2, e3, e4, e5, e6⟩ := h
  refine ⟨a3, e1, e2, e3, e4, e5, fun i hi => ?_⟩
  obtain ⟨f1, ⟨a4, a5, u, s1, s2, s3, s4, s5, s6, s7, s8, s9, t1, t2, t3, t4⟩, f3⟩ := e6 i hi
  refine ⟨(h3 a3 e3 i).trans f1, ⟨a4, a5, u, s1, s2, s3, s4, s5, s6, s7, s8, ?_, (h3 a4 s5 i).trans t1, t2, t3, fun j hj => (h3 a5 s6 _).trans (t4 j hj)⟩, f3⟩
  rcases s9 with z | z
  · exact Or.inl z
  · exact Or.inr ⟨z.1, (h3 a4 s5 _).trans z.2⟩
theorem k_tx_of {M N : eg_M} (h1 : N.1 = M.1) (h2 : N.2.2.2 = M.2.2.2) (h3 : ∀ a, k_tp a → ∀ j, eg_gi N a j = eg_gi M a j) {q : Nat} {L : List (Int32 × List Int32)} (h : k_tx M q L) : k_tx N q L := by
  refine ⟨?_, ?_, k_rt_of h1 h2 h3 h.2.2⟩
  · have := h.1
    obtain ⟨a, b, c, d⟩ := M
    obtain ⟨a', b', c', d'⟩ := N
    have h1 : a' = a := h1
    have h2 : d' = d := h2
    subst h1 h2
    exact this
  · have := h.2.1
    obtain ⟨a, b, c, d⟩ := M
    obtain ⟨a', b', c', d'⟩ := N
    have h1 : a' = a := h1
    subst h1
    exact this
theorem k_tx_inj {M : eg_M} {q r : Nat} {K L : List (Int32 × List Int32)} (h : k_tx M q K) (k : k_tx M r L) : q = r ∧ K = L := by
  have e : q = r := Option.some.inj (h.1.symm.trans k.1)
  subst e
  exact ⟨rfl, k_rt_inj h.2.2 k.2.2⟩
/-- the class: the visits of the year, in order; their claims; their grants -/
def k_vl (M : eg_M) (y : Int32) : List Nat := ((List.range (eg_gi M 12 10).toNatClampNeg).filter (k_vy M y)).map (fun i => (eg_gi M 22 i).toNatClampNeg)
def k_cl (M : eg_M) (CL : List (Int32 × List Int32)) (e : Nat) : Nat := lnat (p_claS (k_cw M e) CL)
def k_gv (M : eg_M) (P : Nat) (CL : List (Int32 × List Int32)) (y : Int32) (i : Nat) : Nat := g_gr P (fun i => k_cl M CL ((k_vl M y).getD i 0)) (List.range (k_vl M y).length) i
/-- the class: what is settled stands -/
def k_set (M : eg_M) (P : Nat) (CL : List (Int32 × List Int32)) : Prop := ∀ y, y < 10 → ¬ (eg_gi M 1 12 &&& (nI 1 <<< (nI y &&& 31)) = 0) → ∀ i, i < (k_vl M (nI y)).length → eg_gl M 41 ((k_vl M (nI y)).getD i 0) = lN (k_gv M P CL (nI y) i)
/-- the class: what it knows of events and charters -/
def k_es (M : eg_M) : Prop := (∃ L, k_W M L) ∧ (∀ c, c < 24 → vp_in (eg_gi M 8 c) 16 ∧ vp_in (eg_gi M 9 c) 16) ∧ (∀ j, j < 200 → k_ev (eg_gi M 36 j)) ∧ ∀ e, e < (eg_gi M 12 10).toNatClampNeg → vp_in (eg_gi M 19 e) 3600
/-- what settling leaves behind -/
abbrev k_T5 := (Nat → Int64) × (Nat → Int64) × (Nat → Int64) × (Nat → Int64) × (Nat → Int64)
def k_sm (M : eg_M) (s : Int32) (f : Nat → Int32) (t : k_T5) : eg_M := eg_rl (eg_rl (eg_rl (eg_rl (eg_rl (eg_ri (eg_si M 1 12 s) 42 f) 40 t.1) 41 t.2.1) 43 t.2.2.1) 44 t.2.2.2.1) 45 t.2.2.2.2
theorem sm_eq {X : eg_M} {c g v w g1 o1 : Nat → Int64} : eg_rl (eg_rl (eg_rl (eg_rl (eg_rl (eg_rl X 40 c) 41 g) 44 v) 45 w) 41 g1) 43 o1 = eg_rl (eg_rl (eg_rl (eg_rl (eg_rl X 40 c) 41 g1) 43 o1) 44 v) 45 w := by
  unfold eg_rl
  refine congrArg (fun z => (X.1, X.2.1, z, X.2.2.2)) ?_
  funext p
  by_cases h1 : p = 45
  · subst h1; rfl
  · by_cases h2 : p = 44
    · subst h2; rfl
    · by_cases h3 : p = 43
      · subst h3; rfl
      · by_cases h4 : p = 41
        · subst h4; rfl
        · simp only [h1, h2, h3, h4, if_false]
theorem rl_4 {X : eg_M} {a b v w : Nat → Int64} : eg_rl (eg_rl (eg_rl (eg_rl X 44 a) 45 b) 44 v) 45 w = eg_rl (eg_rl X 44 v) 45 w := by
  unfold eg_rl
  refine congrArg (fun z => (X.1, X.2.1, z, X.2.2.2)) ?_
  funext p
  by_cases h1 : p = 45
  · subst h1; rfl
  · by_cases h2 : p = 44
    · subst h2; rfl
    · simp only [h1, h2, if_false]
theorem g_sum_of {c d : Nat → Nat} {F : List Nat} (h : ∀ i ∈ F, c i = d i) : g_sum c F = g_sum d F := by
  unfold g_sum
  rw [List.map_congr_left h]
theorem k_sm_id (M : eg_M) : k_sm M (eg_gi M 1 12) (eg_gi M 42) (eg_gl M 40, eg_gl M 41, eg_gl M 43, eg_gl M 44, eg_gl M 45) = M := by
  unfold k_sm
  rw [si_id, ri_id]
  dsimp only
  rw [rl_id, rl_id, rl_id, rl_id, rl_id]
theorem g_gr_of {P : Nat} {c d : Nat → Nat} {F : List Nat} (h : ∀ i ∈ F, c i = d i) {i : Nat} (hi : i ∈ F) : g_gr P c F i = g_gr P d F i := by
  unfold g_gr
  rw [g_sum_of h, h i hi]
  have e1 : ∀ S, ∀ j ∈ F, g_bs P S c j = g_bs P S d j := fun S j hj => by unfold g_bs; rw [h j hj]
  have e2 : ∀ S, ∀ j ∈ F, g_ov P S c j = g_ov P S d j := fun S j hj => by unfold g_ov; rw [h j hj]
  have e3 : ∀ S, g_lf P S c F = g_lf P S d F := fun S => by unfold g_lf; rw [g_sum_of (e1 S)]
  have e4 : ∀ S, g_rk (g_ov P S c) F i = g_rk (g_ov P S d) F i := fun S => by
    unfold g_rk
    refine List.countP_congr (fun j hj => ?_)
    rw [e2 S i hi, e2 S j hj]
  rw [e1 _ i hi, e3, e4]
theorem k_vl_of {M : eg_M} (h : k_es M) (y : Int32) : (k_vl M y).Nodup ∧ ∀ e ∈ k_vl M y, e < (eg_gi M 12 10).toNatClampNeg ∧ eg_gi M 19 e / nI 360 = y := by
  obtain ⟨⟨L, ⟨n, hn, hN⟩, hL, ⟨h1, h2, h3⟩, _⟩, _⟩ := h
  rw [hN, n_c (by omega)] at h1 h3
  have hx : ∀ i, i < n → ∃ hi : i < L.length, (eg_gi M 22 i).toNatClampNeg = L[i] ∧ L[i] < n := fun i hi => by
    have hi' : i < L.length := by omega
    have := (h3 L[i]).mp (List.getElem_mem hi')
    exact ⟨hi', by rw [hL i hi', n_c (by omega)], this⟩
  unfold k_vl
  rw [hN, n_c (by omega)]
  constructor
  · unfold List.Nodup
    rw [List.pairwise_map]
    refine List.Pairwise.imp_of_mem ?_ (fl_nd (k_vy M y) n)
    intro a b ha hb hab
    have ha := (fl_mem.mp ha).1
    have hb := (fl_mem.mp hb).1
    obtain ⟨pa, ea, _⟩ := hx a ha
    obtain ⟨pb, eb, _⟩ := hx b hb
    rw [ea, eb]
    intro e
    rcases Nat.lt_or_gt_of_ne hab with w | w
    · exact absurd (List.mem_take_iff_getElem.mpr ⟨a, by omega, e⟩) (dlt_new h2 pb)
    · exact absurd (List.mem_take_iff_getElem.mpr ⟨b, by omega, e.symm⟩) (dlt_new h2 pa)
  · intro e he
    obtain ⟨i, hi, rfl⟩ := List.mem_map.mp he
    have hi := fl_mem.mp hi
    obtain ⟨p, e1, e2⟩ := hx i hi.1
    refine ⟨by rw [e1]; exact e2, ?_⟩
    have := hi.2
    unfold k_vy at this
    rw [decide_eq_true_eq] at this
    exact this.2.2

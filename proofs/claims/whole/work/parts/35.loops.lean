/-! whom the pairings give to the first -/
/-- each of the first has nobody, or one of the second -/
def vok (M : eg_M) (u w : Nat) (p : Nat → Int32) : Prop := ∀ i, i < u → p (eg_gi M 172 i).toNatClampNeg = -nI 1 ∨ ∃ j, j < w ∧ p (eg_gi M 172 i).toNatClampNeg = eg_gi M 173 j
/-- the two lists are towns, none twice -/
def m_ds (M : eg_M) (u w : Nat) : Prop := (∀ i, i < u → vp_in (eg_gi M 172 i) 16) ∧ (∀ j, j < w → vp_in (eg_gi M 173 j) 16) ∧ (∀ i j, i < u → j < w → ¬ eg_gi M 172 i = eg_gi M 173 j) ∧ ∀ i j, i < j → j < u → ¬ eg_gi M 172 i = eg_gi M 172 j
theorem m_ds_n {M : eg_M} {u w : Nat} (h : m_ds M u w) {i j : Nat} (hi : i < u) (hj : j < w) : ¬ (eg_gi M 172 i).toNatClampNeg = (eg_gi M 173 j).toNatClampNeg := fun z => h.2.2.1 i j hi hj (vp_nn (by decide) (h.1 i hi) (h.2.1 j hj) z)
theorem m_ds_i {M : eg_M} {u w : Nat} (h : m_ds M u w) {i j : Nat} (hi : i < u) (hj : j < u) (z : (eg_gi M 172 i).toNatClampNeg = (eg_gi M 172 j).toNatClampNeg) : i = j := by
  have := vp_nn (by decide) (h.1 i hi) (h.1 j hj) z
  rcases Nat.lt_trichotomy i j with y | y | y
  · exact absurd this (h.2.2.2 i j y hj)
  · exact y
  · exact absurd this.symm (h.2.2.2 j i y hi)
theorem up2_F {M : eg_M} {u w : Nat} (h : m_ds M u w) {p : Nat → Int32} {n j i : Nat} (hn : n < u) (hj : j < w) (hi : i < u) : up2 p (eg_gi M 172 n) (eg_gi M 173 j) (eg_gi M 172 i).toNatClampNeg = if i = n then eg_gi M 173 j else p (eg_gi M 172 i).toNatClampNeg := by
  unfold up2
  rw [if_neg (m_ds_n h hi hj)]
  by_cases e : i = n
  · subst e
    rw [if_pos rfl, if_pos rfl]
  · rw [if_neg e, if_neg (fun z => e (m_ds_i h hi hn z))]
theorem gp_v {M : eg_M} {u w : Nat} (h : m_ds M u w) : ∀ (d n : Nat) (p : Nat → Int32), n ≤ u → vok M u w p → ∀ q ∈ gp M u w d n p, vok M u w q := by
  intro d
  induction d with
  | zero => intro n p _ _ q hq; cases hq
  | succ d ih =>
    intro n p hn hp q hq
    rw [gp] at hq
    split at hq
    · cases List.mem_singleton.mp hq
      exact hp
    · rename_i hne
      rcases List.mem_append.mp hq with z | z
      · exact ih (n + 1) p (by omega) hp q z
      · obtain ⟨j, hj, z⟩ := List.mem_flatMap.mp z
        rw [List.mem_range] at hj
        split at z
        · refine ih (n + 1) _ (by omega) (fun i hi => ?_) q z
          rw [up2_F h (by omega) hj hi]
          by_cases e : i = n
          · rw [if_pos e]
            exact Or.inr ⟨j, hj, rfl⟩
          · rw [if_neg e]
            exact hp i hi
        · cases z
theorem fu_F {M : eg_M} {u w : Nat} (h : m_ds M u w) (q g : Nat → Int32) : ∀ (k : Nat), k ≤ u → ∀ i, i < u → m_fu M q g k (eg_gi M 172 i).toNatClampNeg = if i < k ∧ ¬ q (eg_gi M 172 i).toNatClampNeg = -nI 1 ∧ (g (eg_gi M 172 i).toNatClampNeg = -nI 1 ∨ m_de M (eg_gi M 172 i) (q (eg_gi M 172 i).toNatClampNeg) < m_de M (eg_gi M 172 i) (g (eg_gi M 172 i).toNatClampNeg)) then q (eg_gi M 172 i).toNatClampNeg else g (eg_gi M 172 i).toNatClampNeg := by
  intro k
  induction k with
  | zero => intro _ i _; rw [if_neg (fun z => absurd z.1 (Nat.not_lt_zero _))]; rfl
  | succ k ih =>
    intro hk i hi
    rw [m_fu]
    have ihk := ih (by omega) k (by omega)
    rw [if_neg (fun z => absurd z.1 (Nat.lt_irrefl _))] at ihk
    rw [ihk]
    by_cases e : i = k
    · subst e
      by_cases c : ¬ q (eg_gi M 172 i).toNatClampNeg = -nI 1 ∧ (g (eg_gi M 172 i).toNatClampNeg = -nI 1 ∨ m_de M (eg_gi M 172 i) (q (eg_gi M 172 i).toNatClampNeg) < m_de M (eg_gi M 172 i) (g (eg_gi M 172 i).toNatClampNeg))
      · rw [if_pos c, if_pos rfl, if_pos ⟨Nat.lt_succ_self _, c⟩]
      · rw [if_neg c, if_neg (fun z => c z.2)]
        exact ihk
    · have ihi := ih (by omega) i hi
      have e2 : ¬ (eg_gi M 172 i).toNatClampNeg = (eg_gi M 172 k).toNatClampNeg := fun z => e (m_ds_i h hi (by omega) z)
      split
      · show (if (eg_gi M 172 i).toNatClampNeg = (eg_gi M 172 k).toNatClampNeg then _ else m_fu M q g k (eg_gi M 172 i).toNatClampNeg) = _
        rw [if_neg e2, ihi]
        have : (i < k + 1) ↔ i < k := by omega
        simp only [this]
      · rw [ihi]
        have : (i < k + 1) ↔ i < k := by omega
        simp only [this]
theorem fold_v {M : eg_M} {u w : Nat} (h : m_ds M u w) : ∀ (l : List (Nat → Int32)) (x : Int32 × (Nat → Int32)), (∀ q ∈ l, vok M u w q) → vok M u w x.2 → vok M u w (l.foldl (m_g1 M u w) x).2 := by
  intro l
  induction l with
  | nil => intro x _ h2; exact h2
  | cons q l ih =>
    intro x h1 h2
    rw [List.foldl_cons]
    refine ih _ (fun q hq => h1 q (List.mem_cons_of_mem _ hq)) ?_
    unfold m_g1
    split
    · intro i hi
      show m_fu M q x.2 u _ = _ ∨ ∃ j, j < w ∧ m_fu M q x.2 u _ = _
      rw [fu_F h q x.2 u (Nat.le_refl _) i hi]
      split
      · exact h1 q List.mem_cons_self i hi
      · exact h2 i hi
    · exact h2
/-- the friends of the second, told by those of the first -/
def m_pw (M : eg_M) (g : Nat → Int32) : Nat → Nat × (Nat → Int32)
  | 0 => (0, g)
  | k + 1 => if (m_pw M g k).2 (eg_gi M 172 k).toNatClampNeg = -nI 1 then m_pw M g k else ((m_pw M g k).1 + 1, fun y => if y = ((m_pw M g k).2 (eg_gi M 172 k).toNatClampNeg).toNatClampNeg then eg_gi M 172 k else (m_pw M g k).2 y)
theorem pw_F {M : eg_M} {u w : Nat} (h : m_ds M u w) {g : Nat → Int32} (hg : vok M u w g) : ∀ k, k ≤ u → (∀ i, i < u → (m_pw M g k).2 (eg_gi M 172 i).toNatClampNeg = g (eg_gi M 172 i).toNatClampNeg) ∧ (m_pw M g k).1 ≤ k := by
  intro k
  induction k with
  | zero => exact fun _ => ⟨fun _ _ => rfl, Nat.le_refl _⟩
  | succ k ih =>
    intro hk
    obtain ⟨ih1, ih2⟩ := ih (by omega)
    rw [m_pw]
    split
    · exact ⟨ih1, by omega⟩
    · rename_i hne
      refine ⟨fun i hi => ?_, by dsimp only; omega⟩
      dsimp only
      rw [ih1 k (by omega)] at hne ⊢
      obtain ⟨j, hj, e⟩ := (hg k (by omega)).resolve_left hne
      rw [e, if_neg (m_ds_n h hi hj), ih1 i hi]
/-! bits -/
theorem bit_and (x y : Int32) (t : Nat) : bit (x &&& y) t = true ↔ bit x t = true ∧ bit y t = true := by
  have hd : (x &&& y) >>> (nI t &&& 31) = (x >>> (nI t &&& 31)) &&& (y >>> (nI t &&& 31)) := by
    apply Int32.toBitVec_inj.mp
    simp only [Int32.toBitVec_shiftRight, Int32.toBitVec_and]
    exact BitVec.sshiftRight_and_distrib _ _ _
  unfold bit
  simp only [decide_eq_true_eq, hd]
  have h1 := and1 (x >>> (nI t &&& 31))
  have h2 := and1 (y >>> (nI t &&& 31))
  generalize x >>> (nI t &&& 31) = a at *
  generalize y >>> (nI t &&& 31) = b at *
  have e : a &&& b &&& nI 1 = (a &&& nI 1) &&& (b &&& nI 1) := by
    apply Int32.toBitVec_inj.mp
    simp only [Int32.toBitVec_and]
    apply BitVec.eq_of_getElem_eq
    intro i hi
    simp only [BitVec.getElem_and]
    cases (a.toBitVec[i]) <;> cases (b.toBitVec[i]) <;> cases ((nI 1).toBitVec[i]) <;> rfl
  rw [e]
  rcases h1 with h1 | h1 <;> rcases h2 with h2 | h2 <;> rw [h1, h2] <;> decide
theorem bit_0 (t : Nat) : bit 0 t = false := by
  unfold bit
  rw [decide_eq_false_iff_not]
  have : (0 : Int32) >>> (nI t &&& 31) = 0 := by
    apply Int32.toBitVec_inj.mp
    simp only [Int32.toBitVec_shiftRight]
    exact BitVec.zero_sshiftRight
  rw [this]
  decide
theorem ones_lt {x : Int32} {n t : Nat} (h : t ∈ ones x n) : t < n ∧ bit x t = true := by
  unfold ones at h
  rw [List.mem_filter, List.mem_range] at h
  exact h
theorem ones_pw (x : Int32) (n : Nat) : (ones x n).Pairwise (· < ·) := by
  unfold ones
  exact List.Pairwise.filter _ List.pairwise_lt_range
/-- the model: the two sets are such as may be paired -/
def m_ok2 (M : eg_M) (x y : Int32) : Prop := m_msk M x y ∧ (ones x (eg_gi M 121 3).toNatClampNeg).length ≤ 6 ∧ (ones y (eg_gi M 121 3).toNatClampNeg).length ≤ 6
theorem m_ls_ds {M : eg_M} {x y : Int32} {n : Nat} {f g : Nat → Int32} (hn : n ≤ 16) (hxy : x &&& y = 0) (hf : isL f (ones x n)) (hg : isL g (ones y n)) : m_ds (m_ls M (ones x n).length (ones y n).length f g) (ones x n).length (ones y n).length := by
  have rf : ∀ i (h : i < (ones x n).length), eg_gi (m_ls M (ones x n).length (ones y n).length f g) 172 i = nI (ones x n)[i] := fun i h => hf i h
  have rg : ∀ i (h : i < (ones y n).length), eg_gi (m_ls M (ones x n).length (ones y n).length f g) 173 i = nI (ones y n)[i] := fun i h => hg i h
  have lf : ∀ i (h : i < (ones x n).length), (ones x n)[i] < 16 := fun i h => by have := (ones_lt (List.getElem_mem h)).1; omega
  have lg : ∀ i (h : i < (ones y n).length), (ones y n)[i] < 16 := fun i h => by have := (ones_lt (List.getElem_mem h)).1; omega
  refine ⟨fun i hi => ?_, fun j hj => ?_, fun i j hi hj => ?_, fun i j hij hj => ?_⟩
  · rw [rf i hi]
    exact vp_in_nI (lf i hi) (by decide)
  · rw [rg j hj]
    exact vp_in_nI (lg j hj) (by decide)
  · rw [rf i hi, rg j hj]
    intro z
    have z := (n_eq (by have := lf i hi; omega) (by have := lg j hj; omega)).mp z
    have h1 := (ones_lt (List.getElem_mem hi)).2
    have h2 := (ones_lt (List.getElem_mem hj)).2
    rw [← z] at h2
    have := (bit_and x y _).mpr ⟨h1, h2⟩
    rw [hxy, bit_0] at this
    cases this
  · rw [rf i (by omega), rf j hj]
    intro z
    have z := (n_eq (by have := lf i (by omega); omega) (by have := lf j hj; omega)).mp z
    have := List.pairwise_iff_getElem.mp (ones_pw x n) i j (by omega) hj hij
    omega
/-- the model: what a pairing of two sets leaves -/
def m_pm (M : eg_M) (x y c z : Int32) (f g r p : Nat → Int32) : eg_M := eg_ri (eg_ri (eg_ri (eg_ri (eg_si (eg_si (eg_si (eg_si (eg_si M 121 1 (nI 0)) 121 80 x) 121 81 y) 121 83 z) 121 82 c) 172 f) 173 g) 174 r) 175 p
/-- nobody has a friend -/
def nob (g : Nat → Int32) : Nat → Int32 := fun t => if t < 16 then -nI 1 else g t
/-- the model: what all pairings make of the number and of the friends that were -/
noncomputable def m_all (M : eg_M) (u w : Nat) (x : Int32 × (Nat → Int32)) : Int32 × (Nat → Int32) := (gp M u w 7 0 (nob (eg_gi M 175))).foldl (m_g1 M u w) x
theorem ri_sw {M : eg_M} {p q : Nat} {f g : Nat → Int32} (h : ¬ p = q) : eg_ri (eg_ri M p f) q g = eg_ri (eg_ri M q g) p f := by
  unfold eg_ri
  refine Prod.ext rfl (Prod.ext ?_ rfl)
  funext x
  by_cases h1 : x = p
  · subst h1; simp [h]
  · have h' : ¬ q = p := fun z => h z.symm
    by_cases h2 : x = q <;> simp [h1, h2, h']
def k_X12_pair : eg_C := ([(0, .aload_n 0, 1), (1, .iconst 0, 1), (2, .putfield 213, 3), (5, .aload_n 0, 1), (6, .iload_n 1, 1), (7, .iload_n 2, 1), (8, .invokevirtual 517, 3), (11, .ifCond .ne 5, 3), (14, .iconst (-1), 1), (15, .ireturn, 1), (16, .iconst 0, 1), (17, .istore_n 3, 1), (18, .iload_n 3, 1), (19, .bipush 16, 2), (21, .if_icmp .ge 23, 3), (24, .aload_n 0, 1), (25, .getfield 204, 3), (28, .iload_n 3, 1), (29, .iconst (-1), 1), (30, .iastore, 1), (31, .aload_n 0, 1), (32, .getfield 207, 3), (35, .iload_n 3, 1), (36, .iconst (-1), 1), (37, .iastore, 1), (38, .iinc 3 1, 3), (41, .goto (-23), 3), (44, .aload_n 0, 1), (45, .iconst 1, 1), (46, .putfield 520, 3), (49, .aload_n 0, 1), (50, .iconst 0, 1), (51, .invokevirtual 514, 3), (54, .iconst 0, 1), (55, .istore_n 3, 1), (56, .iconst 0, 1), (57, .istore 4, 2), (59, .iload 4, 2), (61, .aload_n 0, 1), (62, .getfield 495, 3), (65, .if_icmp .ge 49, 3), (68, .aload_n 0, 1), (69, .getfield 204, 3), (72, .aload_n 0, 1), (73, .getfield 198, 3), (76, .iload 4, 2), (78, .iaload, 1), (79, .iaload, 1), (80, .istore 5, 2), (82, .iload 5, 2), (84, .iconst (-1), 1), (85, .if_icmp .ne 6, 3), (88, .goto 20, 3), (91, .aload_n 0, 1), (92, .getfield 204, 3), (95, .iload 5, 2), (97, .aload_n 0, 1), (98, .getfield 198, 3), (101, .iload 4, 2), (103, .iaload, 1), (104, .iastore, 1), (105, .iinc 3 1, 3), (108, .iinc 4 1, 3), (111, .goto (-52), 3), (114, .iload_n 3, 1), (115, .ireturn, 1)], [(198, 12, 76, false), (204, 12, 78, false), (207, 12, 79, false), (213, 12, 1, true), (495, 12, 80, false), (520, 12, 83, true)], [], [(514, 1 + 1, 0, 0, s_X12_go), (517, 2 + 1, 0, 0, s_X12_laySets)], [], 1, 0, 0)
theorem mk_X12_pair : ∀ q ∈ k_X12_pair.2.2.2.1, eg_mono q.2.2.2.2 := (fc (mo_X12_go) (fc (mo_X12_laySets) (fn)))
set_option maxRecDepth 100000 in
theorem st_X12_pair_0 {Qp : eg_P} {M : eg_M} (a : Int32) (b : Int32)
  (g0 : (eg_cn (eg_gi (eg_si M 121 1 (nI 0)) 121 3) 16))
  (l0 : ∀ (v_1 : Bool) (M2_1 : eg_M), ((¬ m_msk (eg_si M 121 1 (nI 0)) a b ∧ v_1 = false ∧ M2_1 = (eg_si M 121 1 (nI 0))) ∨ (m_msk (eg_si M 121 1 (nI 0)) a b ∧ (6 < (ones a (eg_gi (eg_si M 121 1 (nI 0)) 121 3).toNatClampNeg).length ∨ 6 < (ones b (eg_gi (eg_si M 121 1 (nI 0)) 121 3).toNatClampNeg).length) ∧ v_1 = false ∧ M2_1 = eg_si (eg_si (eg_si M 121 1 (nI 0)) 121 80 (nI 0)) 121 81 (nI 0)) ∨ (m_msk (eg_si M 121 1 (nI 0)) a b ∧ (ones a (eg_gi (eg_si M 121 1 (nI 0)) 121 3).toNatClampNeg).length ≤ 6 ∧ (ones b (eg_gi (eg_si M 121 1 (nI 0)) 121 3).toNatClampNeg).length ≤ 6 ∧ v_1 = true ∧ ∃ f g, isL f (ones a (eg_gi (eg_si M 121 1 (nI 0)) 121 3).toNatClampNeg) ∧ isL g (ones b (eg_gi (eg_si M 121 1 (nI 0)) 121 3).toNatClampNeg) ∧ M2_1 = m_ls (eg_si M 121 1 (nI 0)) (ones a (eg_gi (eg_si M 121 1 (nI 0)) 121 3).toNatClampNeg).length (ones b (eg_gi (eg_si M 121 1 (nI 0)) 121 3).toNatClampNeg).length f g)) → eg_T wd k_X12_pair Qp 11 0 0 [some (.ref 121), some (.int a), some (.int b), none, none, none] [.int (b2i v_1)] M2_1) :
  eg_T wd k_X12_pair Qp 0 0 0 [some (.ref 121), some (.int a), some (.int b), none, none, none] [] M := by
  refine eg_T_run mk_X12_pair (cut := [11, 18, 54, 59]) 69 ?_
  refine And.intro (show (eg_cn (eg_gi (eg_si M 121 1 (nI 0)) 121 3) 16) from ?_) ?_
  · exact g0
  intro v_1 M2_1 ha_1
  show eg_T wd k_X12_pair Qp 11 0 0 [some (.ref 121), some (.int a), some (.int b), none, none, none] [.int (b2i v_1)] M2_1
  exact l0 v_1 M2_1 ha_1

set_option maxRecDepth 100000 in
theorem st_X12_pair_11 {Qp : eg_P} {M : eg_M} (o1 : Option Value) (b : Int32) (o3 : Option Value) (o4 : Option Value) (o5 : Option Value) (s0 : Int32)
  (l0 : (s0 = 0) → Qp (.inl (some (.int (-nI 1)))) M)
  (l1 : (¬ s0 = 0) → eg_T wd k_X12_pair Qp 18 0 0 [some (.ref 121), o1, some (.int b), some (.int (nI 0)), o4, o5] [] M) :
  eg_T wd k_X12_pair Qp 11 0 0 [some (.ref 121), o1, some (.int b), o3, o4, o5] [.int s0] M := by
  refine eg_T_run mk_X12_pair (cut := [11, 18, 54, 59]) 69 ?_
  refine And.intro (fun (c1 : s0 = 0) => ?_) (fun (c1 : ¬ s0 = 0) => ?_)
  · skip
    refine And.intro (fun z => absurd z (by decide)) ?_
    show Qp (.inl (some (.int (-nI 1)))) M
    exact l0 c1
  · skip
    show eg_T wd k_X12_pair Qp 18 0 0 [some (.ref 121), o1, some (.int b), some (.int (nI 0)), o4, o5] [] M
    exact l1 c1

set_option maxRecDepth 100000 in
theorem st_X12_pair_18 {Qp : eg_P} {M : eg_M} (o1 : Option Value) (b : Int32) (x3 : Int32) (o4 : Option Value) (o5 : Option Value)
  (g0 : ((nI 16) ≤ x3) → (0 < 7 ∧ ∃ n u w, (nI 0) = nI n ∧ n ≤ u ∧ u < n + 7 ∧ m_ps (eg_si M 121 83 (nI 1)) u w ∧ (∀ j, n ≤ j → j < u → eg_gi (eg_si M 121 83 (nI 1)) 175 (eg_gi (eg_si M 121 83 (nI 1)) 172 j).toNatClampNeg = -nI 1) ∧ (∀ i j, i < u → j < w → ¬ eg_gi (eg_si M 121 83 (nI 1)) 172 i = eg_gi (eg_si M 121 83 (nI 1)) 173 j) ∧ (∀ i j, i < j → j < u → ¬ eg_gi (eg_si M 121 83 (nI 1)) 172 i = eg_gi (eg_si M 121 83 (nI 1)) 172 j)))
  (g1 : (¬ ((nI 16) ≤ x3)) → (vp_in x3 16))
  (l0 : ((nI 16) ≤ x3) → ∀ (c_1 : Int32) (g_1 : Nat → Int32), (∀ u w, m_ps (eg_si M 121 83 (nI 1)) u w → (c_1, g_1) = (gp (eg_si M 121 83 (nI 1)) u w 7 (nI 0).toNatClampNeg (eg_gi (eg_si M 121 83 (nI 1)) 175)).foldl (m_g1 (eg_si M 121 83 (nI 1)) u w) (eg_gi (eg_si M 121 83 (nI 1)) 121 82, eg_gi (eg_si M 121 83 (nI 1)) 174)) → eg_T wd k_X12_pair Qp 54 0 0 [some (.ref 121), o1, some (.int b), some (.int x3), o4, o5] [] (eg_ri (eg_si (eg_si M 121 83 (nI 1)) 121 82 c_1) 174 g_1))
  (l1 : (¬ (nI 16) ≤ x3) → eg_T wd k_X12_pair Qp 18 0 0 [some (.ref 121), o1, some (.int b), some (.int (x3 + (nI 1))), o4, o5] [] (eg_si (eg_si M 174 x3.toNatClampNeg (-nI 1)) 175 x3.toNatClampNeg (-nI 1))) :
  eg_T wd k_X12_pair Qp 18 0 0 [some (.ref 121), o1, some (.int b), some (.int x3), o4, o5] [] M := by
  refine eg_T_run mk_X12_pair (cut := [11, 18, 54, 59]) 69 ?_
  refine And.intro (fun (c1 : (nI 16) ≤ x3) => ?_) (fun (c1 : ¬ (nI 16) ≤ x3) => ?_)
  · skip
    refine And.intro (show (nI 1) = 0 ∨ (nI 1) = 1 from ?_) ?_
    · exact Or.inr rfl
    refine And.intro (show (0 < 7 ∧ ∃ n u w, (nI 0) = nI n ∧ n ≤ u ∧ u < n + 7 ∧ m_ps (eg_si M 121 83 (nI 1)) u w ∧ (∀ j, n ≤ j → j < u → eg_gi (eg_si M 121 83 (nI 1)) 175 (eg_gi (eg_si M 121 83 (nI 1)) 172 j).toNatClampNeg = -nI 1) ∧ (∀ i j, i < u → j < w → ¬ eg_gi (eg_si M 121 83 (nI 1)) 172 i = eg_gi (eg_si M 121 83 (nI 1)) 173 j) ∧ (∀ i j, i < j → j < u → ¬ eg_gi (eg_si M 121 83 (nI 1)) 172 i = eg_gi (eg_si M 121 83 (nI 1)) 172 j)) from ?_) ?_
    · exact g0 c1
    intro c_1 g_1 ha_1
    show eg_T wd k_X12_pair Qp 54 0 0 [some (.ref 121), o1, some (.int b), some (.int x3), o4, o5] [] (eg_ri (eg_si (eg_si M 121 83 (nI 1)) 121 82 c_1) 174 g_1)
    exact l0 c1 c_1 g_1 ha_1
  · skip
    refine And.intro (show vp_in x3 16 from ?_) ?_
    · exact g1 c1
    refine And.intro (show vp_in x3 16 from ?_) ?_
    · exact g1 c1
    show eg_T wd k_X12_pair Qp 18 0 0 [some (.ref 121), o1, some (.int b), some (.int (x3 + (nI 1))), o4, o5] [] (eg_si (eg_si M 174 x3.toNatClampNeg (-nI 1)) 175 x3.toNatClampNeg (-nI 1))
    exact l1 c1

set_option maxRecDepth 100000 in
theorem st_X12_pair_54 {Qp : eg_P} {M : eg_M} (o1 : Option Value) (b : Int32) (x3 : Int32) (o4 : Option Value) (o5 : Option Value)
  (l0 : eg_T wd k_X12_pair Qp 59 0 0 [some (.ref 121), o1, some (.int b), some (.int (nI 0)), some (.int (nI 0)), o5] [] M) :
  eg_T wd k_X12_pair Qp 54 0 0 [some (.ref 121), o1, some (.int b), some (.int x3), o4, o5] [] M := by
  refine eg_T_run mk_X12_pair (cut := [11, 18, 54, 59]) 69 ?_
  show eg_T wd k_X12_pair Qp 59 0 0 [some (.ref 121), o1, some (.int b), some (.int (nI 0)), some (.int (nI 0)), o5] [] M
  exact l0

set_option maxRecDepth 100000 in
theorem st_X12_pair_59 {Qp : eg_P} {M : eg_M} (o1 : Option Value) (b : Int32) (x3 : Int32) (x4 : Int32) (o5 : Option Value)
  (g0 : (¬ ((eg_gi M 121 80) ≤ x4)) → (vp_in x4 6))
  (g1 : (¬ ((eg_gi M 121 80) ≤ x4)) → (vp_in (eg_gi M 172 x4.toNatClampNeg) 16))
  (g2 : (¬ ((eg_gi M 121 80) ≤ x4)) → (¬ ((eg_gi M 174 (eg_gi M 172 x4.toNatClampNeg).toNatClampNeg) = (-nI 1))) → (vp_in (eg_gi M 174 (eg_gi M 172 x4.toNatClampNeg).toNatClampNeg) 16))
  (l0 : ((eg_gi M 121 80) ≤ x4) → Qp (.inl (some (.int x3))) M)
  (l1 : (¬ (eg_gi M 121 80) ≤ x4 ∧ (eg_gi M 174 (eg_gi M 172 x4.toNatClampNeg).toNatClampNeg) = (-nI 1)) → eg_T wd k_X12_pair Qp 59 0 0 [some (.ref 121), o1, some (.int b), some (.int x3), some (.int (x4 + (nI 1))), some (.int (eg_gi M 174 (eg_gi M 172 x4.toNatClampNeg).toNatClampNeg))] [] M)
  (l2 : (¬ (eg_gi M 121 80) ≤ x4 ∧ ¬ (eg_gi M 174 (eg_gi M 172 x4.toNatClampNeg).toNatClampNeg) = (-nI 1)) → eg_T wd k_X12_pair Qp 59 0 0 [some (.ref 121), o1, some (.int b), some (.int (x3 + (nI 1))), some (.int (x4 + (nI 1))), some (.int (eg_gi M 174 (eg_gi M 172 x4.toNatClampNeg).toNatClampNeg))] [] (eg_si M 174 (eg_gi M 174 (eg_gi M 172 x4.toNatClampNeg).toNatClampNeg).toNatClampNeg (eg_gi M 172 x4.toNatClampNeg))) :
  eg_T wd k_X12_pair Qp 59 0 0 [some (.ref 121), o1, some (.int b), some (.int x3), some (.int x4), o5] [] M := by
  refine eg_T_run mk_X12_pair (cut := [11, 18, 54, 59]) 69 ?_
  refine And.intro (fun (c1 : (eg_gi M 121 80) ≤ x4) => ?_) (fun (c1 : ¬ (eg_gi M 121 80) ≤ x4) => ?_)
  · skip
    refine And.intro (fun z => absurd z (by decide)) ?_
    show Qp (.inl (some (.int x3))) M
    exact l0 c1
  · skip
    refine And.intro (show vp_in x4 6 from ?_) ?_
    · exact g0 c1
    refine And.intro (show vp_in (eg_gi M 172 x4.toNatClampNeg) 16 from ?_) ?_
    · exact g1 c1
    refine And.intro (fun (c2 : (eg_gi M 174 (eg_gi M 172 x4.toNatClampNeg).toNatClampNeg) = (-nI 1)) => ?_) (fun (c2 : ¬ (eg_gi M 174 (eg_gi M 172 x4.toNatClampNeg).toNatClampNeg) = (-nI 1)) => ?_)
    · skip
      show eg_T wd k_X12_pair Qp 59 0 0 [some (.ref 121), o1, some (.int b), some (.int x3), some (.int (x4 + (nI 1))), some (.int (eg_gi M 174 (eg_gi M 172 x4.toNatClampNeg).toNatClampNeg))] [] M
      exact l1 ⟨c1, c2⟩
    · skip
      refine And.intro (show vp_in x4 6 from ?_) ?_
      · exact g0 c1
      refine And.intro (show vp_in (eg_gi M 174 (eg_gi M 172 x4.toNatClampNeg).toNatClampNeg) 16 from ?_) ?_
      · exact g2 c1 c2
      show eg_T wd k_X12_pair Qp 59 0 0 [some (.ref 121), o1, some (.int b), some (.int (x3 + (nI 1))), some (.int (x4 + (nI 1))), some (.int (eg_gi M 174 (eg_gi M 172 x4.toNatClampNeg).toNatClampNeg))] [] (eg_si M 174 (eg_gi M 174 (eg_gi M 172 x4.toNatClampNeg).toNatClampNeg).toNatClampNeg (eg_gi M 172 x4.toNatClampNeg))
      exact l2 ⟨c1, c2⟩

def s_X12_pair : eg_S := fun argv M Qp => match argv with
  | [.ref 121, .int a, .int b] => (eg_cn (eg_gi M 121 3) 16 ∧ ∀ t, t < 16 → eg_cn (eg_gi M 170 t) 6) ∧ ∀ (v : Int32) (M2 : eg_M), ((¬ m_ok2 M a b ∧ v = -nI 1 ∧ ∃ x y, M2 = eg_si (eg_si (eg_si M 121 1 (nI 0)) 121 80 x) 121 81 y) ∨ (m_ok2 M a b ∧ ∃ f g c r, isL f (ones a (eg_gi M 121 3).toNatClampNeg) ∧ isL g (ones b (eg_gi M 121 3).toNatClampNeg) ∧ (c, r) = m_all (m_ls (eg_si M 121 1 (nI 0)) (ones a (eg_gi M 121 3).toNatClampNeg).length (ones b (eg_gi M 121 3).toNatClampNeg).length f g) (ones a (eg_gi M 121 3).toNatClampNeg).length (ones b (eg_gi M 121 3).toNatClampNeg).length (eg_gi M 121 82, nob (eg_gi M 174)) ∧ v = nI (m_pw (m_ls (eg_si M 121 1 (nI 0)) (ones a (eg_gi M 121 3).toNatClampNeg).length (ones b (eg_gi M 121 3).toNatClampNeg).length f g) r (ones a (eg_gi M 121 3).toNatClampNeg).length).1 ∧ M2 = m_pm M (nI (ones a (eg_gi M 121 3).toNatClampNeg).length) (nI (ones b (eg_gi M 121 3).toNatClampNeg).length) c (nI 1) f g (m_pw (m_ls (eg_si M 121 1 (nI 0)) (ones a (eg_gi M 121 3).toNatClampNeg).length (ones b (eg_gi M 121 3).toNatClampNeg).length f g) r (ones a (eg_gi M 121 3).toNatClampNeg).length).2 (nob (eg_gi M 175)))) → Qp (.inl (some (.int (v)))) M2
  | _ => False
theorem mo_X12_pair : eg_mono s_X12_pair := by
  intro argv M Q Q' h
  unfold s_X12_pair
  split
  · exact fun z => ⟨z.1, fun v M2 y => h _ _ (z.2 v M2 y)⟩
  · exact id
theorem sz_X12_pair : ∀ argv M Qp, s_X12_pair argv M Qp → (eg_ls0 argv).length ≤ 6 := by
  intro argv M Qp h
  unfold s_X12_pair at h
  split at h
  · exact Nat.le_of_ble_eq_true rfl
  · exact h.elim
theorem sr_X12_pair : ∀ argv M Qp, s_X12_pair argv M Qp → ∃ p0 As, argv = .ref p0 :: As ∧ eg_isO wd M p0 12 = true := by
  intro argv M Qp h
  unfold s_X12_pair at h
  split at h
  · exact ⟨_, _, rfl, rfl⟩
  · exact h.elim
set_option maxRecDepth 100000 in
set_option maxHeartbeats 1000000 in
theorem T_X12_pair {argv : List Value} {M : eg_M} {Qp : eg_P} (h : s_X12_pair argv M Qp) : eg_T wd k_X12_pair Qp 0 0 0 (eg_lsN 6 argv) [] M := by
  unfold s_X12_pair at h
  split at h
  · rename_i a b
    obtain ⟨hp, hq⟩ := h
    obtain ⟨⟨n, hn, hN⟩, hW⟩ := hp
    have r3 : eg_gi (eg_si M 121 1 (nI 0)) 121 3 = eg_gi M 121 3 := rfl
    have okd : m_ok2 M a b ↔ m_msk M a b ∧ (ones a n).length ≤ 6 ∧ (ones b n).length ≤ 6 := by unfold m_ok2; rw [hN, n_c (by omega)]
    rw [hN, n_c (by omega)] at hq
    refine st_X12_pair_0 a b ⟨n, hn, hN⟩ (fun v M2 hc => ?_)
    rw [r3, hN, n_c (by omega)] at hc
    rcases hc with ⟨h1, rfl, rfl⟩ | ⟨h1, h2, rfl, rfl⟩ | ⟨h1, h2, h3, rfl, f, g, hf, hg, rfl⟩
    · refine st_X12_pair_11 _ _ _ _ _ _ (fun _ => hq _ _ (Or.inl ⟨fun z => h1 (okd.mp z).1, rfl, eg_gi M 121 80, eg_gi M 121 81, ?_⟩)) (fun z => absurd rfl z)
      have e1 := si_id (eg_si M 121 1 (nI 0)) 121 80
      have e2 := si_id (eg_si M 121 1 (nI 0)) 121 81
      rw [show eg_si (eg_si M 121 1 (nI 0)) 121 80 (eg_gi M 121 80) = eg_si M 121 1 (nI 0) from e1]
      exact e2.symm
    · refine st_X12_pair_11 _ _ _ _ _ _ (fun _ => hq _ _ (Or.inl ⟨fun z => ?_, rfl, _, _, rfl⟩)) (fun z => absurd rfl z)
      have := (okd.mp z).2
      omega
    refine st_X12_pair_11 _ _ _ _ _ _ (fun z => absurd z (by decide)) (fun _ => ?_)
    have hds := m_ls_ds (M := eg_si M 121 1 (nI 0)) hn h1.2.2 hf hg
    have hlow : ∀ i, i < (ones a n).length → (f i).toNatClampNeg < 16 := fun i hi => by
      obtain ⟨t, ht, e⟩ := vp_in_of (hds.1 i hi) (by decide)
      have e : f i = nI t := e
      rw [e, n_c (by omega)]
      exact ht
    generalize hu : (ones a n).length = u at *
    generalize hw : (ones b n).length = w at *
    generalize hX : m_ls (eg_si M 121 1 (nI 0)) u w f g = X at *
    have x172 : ∀ i, eg_gi X 172 i = f i := fun i => by rw [← hX]; rfl
    have x173 : ∀ i, eg_gi X 173 i = g i := fun i => by rw [← hX]; rfl
    have x174 : eg_gi X 174 = eg_gi M 174 := by rw [← hX]; rfl
    have x175 : eg_gi X 175 = eg_gi M 175 := by rw [← hX]; rfl
    have x82 : eg_gi X 121 82 = eg_gi M 121 82 := by rw [← hX]; rfl
    have x80 : eg_gi X 121 80 = nI u := by rw [← hX]; rfl
    have x81 : eg_gi X 121 81 = nI w := by rw [← hX]; rfl
    have x170 : ∀ i, eg_gi X 170 i = eg_gi M 170 i := fun i => by rw [← hX]; rfl
    have fin : ∀ (c : Int32) (r : Nat → Int32), (c, r) = m_all X u w (eg_gi M 121 82, nob (eg_gi M 174)) → ∀ o1 o5 k, k ≤ u → True → eg_T wd k_X12_pair Qp 59 0 0 [some (.ref 121), o1, some (.int b), some (.int (nI (m_pw X r k).1)), some (.int (nI k)), o5] [] (eg_ri (eg_ri (eg_si (eg_si X 121 83 (nI 1)) 121 82 c) 174 (m_pw X r k).2) 175 (nob (eg_gi M 175))) := by
      intro c r hcr o1 o5
      have hv : vok X u w r := by
        have := fold_v hds (gp X u w 7 0 (nob (eg_gi X 175))) (eg_gi M 121 82, nob (eg_gi M 174)) (gp_v hds 7 0 _ (Nat.zero_le _) (fun i hi => Or.inl ?_)) (fun i hi => Or.inl ?_)
        · rw [show r = (m_all X u w (eg_gi M 121 82, nob (eg_gi M 174))).2 by rw [← hcr]]
          exact this
        · rw [x172]
          exact if_pos (hlow i hi)
        · rw [x172]
          exact if_pos (hlow i hi)
      intro k hk
      revert o5
      have := eg_for (σ := Option Value) (n := u) (Inv := fun _ _ => True) (T := fun k o5 => eg_T wd k_X12_pair Qp 59 0 0 [some (.ref 121), o1, some (.int b), some (.int (nI (m_pw X r k).1)), some (.int (nI k)), o5] [] (eg_ri (eg_ri (eg_si (eg_si X 121 83 (nI 1)) 121 82 c) 174 (m_pw X r k).2) 175 (nob (eg_gi M 175)))) ?_
      · exact fun o5 h => this k o5 hk h
      intro k o5 hk _ kk
      have hpF := pw_F hds hv k hk
      have s5 := st_X12_pair_59 (Qp := Qp) (M := eg_ri (eg_ri (eg_si (eg_si X 121 83 (nI 1)) 121 82 c) 174 (m_pw X r k).2) 175 (nob (eg_gi M 175))) o1 b (nI (m_pw X r k).1) (nI k) o5
      have y80 : eg_gi (eg_ri (eg_ri (eg_si (eg_si X 121 83 (nI 1)) 121 82 c) 174 (m_pw X r k).2) 175 (nob (eg_gi M 175))) 121 80 = nI u := x80
      have y172 : ∀ i, eg_gi (eg_ri (eg_ri (eg_si (eg_si X 121 83 (nI 1)) 121 82 c) 174 (m_pw X r k).2) 175 (nob (eg_gi M 175))) 172 i = eg_gi X 172 i := fun _ => rfl
      have y174 : ∀ i, eg_gi (eg_ri (eg_ri (eg_si (eg_si X 121 83 (nI 1)) 121 82 c) 174 (m_pw X r k).2) 175 (nob (eg_gi M 175))) 174 i = (m_pw X r k).2 i := fun _ => rfl
      have u6 : u ≤ 6 := h2
      simp (disch := omega) only [y80, y172, y174, n_c, n_le, n_in, n_s, Nat.not_le] at s5
      refine s5 (fun y => by omega) (fun y => hds.1 k y) (fun y y2 => ?_) (fun y => ?_) (fun y => ?_) (fun y => ?_)
      · rw [hpF.1 k y] at y2 ⊢
        obtain ⟨j, hj, e⟩ := (hv k y).resolve_left y2
        rw [e]
        exact hds.2.1 j hj
      · have : k = u := by omega
        subst this
        refine hq _ _ (Or.inr ⟨okd.mpr ⟨h1, h2, h3⟩, f, g, c, r, hf, hg, by rw [hX]; exact hcr, by rw [hX], ?_⟩)
        unfold m_pm
        rw [hX]
        congr 2
        rw [← hX]
        unfold m_ls
        rw [si_ri_n (by decide), si_ri_n (by decide), si_ri_n (by decide), si_ri_n (by decide)]
      · have := kk (some (.int ((m_pw X r k).2 (eg_gi X 172 k).toNatClampNeg))) y.1 trivial
        rw [m_pw, if_pos y.2] at this
        exact this
      · have := kk (some (.int ((m_pw X r k).2 (eg_gi X 172 k).toNatClampNeg))) y.1 trivial
        rw [m_pw, if_neg y.2] at this
        rw [si_ri_n (by decide), si_ri]
        exact this
    have lp : ∀ i (o : Option Value × Option Value), i ≤ 16 → True → eg_T wd k_X12_pair Qp 18 0 0 [some (.ref 121), some (.int a), some (.int b), some (.int (nI i)), o.1, o.2] [] (eg_ri (eg_ri X 174 (fun t => if t < i then -nI 1 else eg_gi M 174 t)) 175 (fun t => if t < i then -nI 1 else eg_gi M 175 t)) := by
      refine eg_for ?_
      intro i ⟨o4, o5⟩ hi _ kk
      have s1 := st_X12_pair_18 (Qp := Qp) (M := eg_ri (eg_ri X 174 (fun t => if t < i then -nI 1 else eg_gi M 174 t)) 175 (fun t => if t < i then -nI 1 else eg_gi M 175 t)) (some (.int a)) b (nI i) o4 o5
      simp (disch := omega) only [n_c, n_le, n_in, n_s, Nat.not_le] at s1
      have hps : ∀ P Q : Nat → Int32, m_ps (eg_si (eg_ri (eg_ri X 174 P) 175 Q) 121 83 (nI 1)) u w := fun P Q => ⟨h2, h3, x80, x81, hds.1, hds.2.1, fun t ht => by
        show eg_cn (eg_gi X 170 t) 6
        rw [x170]
        exact hW t ht⟩
      refine s1 (fun y => ⟨by decide, 0, u, w, rfl, Nat.zero_le _, by omega, hps _ _, fun j _ hj => ?_, hds.2.2.1, hds.2.2.2⟩) (fun y => by omega) (fun y c r hcr => ?_) (fun y => ?_)
      · show (if (eg_gi X 172 j).toNatClampNeg < i then -nI 1 else eg_gi M 175 _) = -nI 1
        rw [x172, if_pos (by have := hlow j hj; omega)]
      · have : i = 16 := by omega
        subst this
        have hcr := hcr u w (hps _ _)
        have ag : ∀ p j, 170 ≤ p → p ≤ 173 → eg_gi (eg_si (eg_ri (eg_ri X 174 (fun t => if t < 16 then -nI 1 else eg_gi M 174 t)) 175 (fun t => if t < 16 then -nI 1 else eg_gi M 175 t)) 121 83 (nI 1)) p j = eg_gi X p j := by
          intro p j h1 h2
          rw [si_ne (by omega), ri_g, if_neg (by omega), ri_g, if_neg (by omega)]
        rw [gp_g ag, m_g1_g ag] at hcr
        have hcr : (c, r) = m_all X u w (eg_gi M 121 82, nob (eg_gi M 174)) := by
          rw [hcr]
          unfold m_all
          rw [x175]
          refine congrArg (fun z => List.foldl (m_g1 X u w) z _) ?_
          exact Prod.ext x82 rfl
        refine st_X12_pair_54 _ _ _ _ _ ?_
        have := fin c r hcr (some (.int a)) o5 0 (Nat.zero_le _) trivial
        have e : eg_ri (eg_si (eg_si (eg_ri (eg_ri X 174 (fun t => if t < 16 then -nI 1 else eg_gi M 174 t)) 175 (fun t => if t < 16 then -nI 1 else eg_gi M 175 t)) 121 83 (nI 1)) 121 82 c) 174 r = eg_ri (eg_ri (eg_si (eg_si X 121 83 (nI 1)) 121 82 c) 174 (m_pw X r 0).2) 175 (nob (eg_gi M 175)) := by
          rw [si_ri_n (by decide), si_ri_n (by decide), si_ri_n (by decide), si_ri_n (by decide), ri_sw (p := 175) (q := 174) (by decide), ri_ri]
          rfl
        rw [e]
        exact this
      · have := kk (o4, o5) y trivial
        rw [si_ri_n (by decide), si_ri, si_ri]
        have ex : ∀ P : Nat → Int32, (fun j => if j = i then -nI 1 else if j < i then -nI 1 else P j) = fun t => if t < i + 1 then -nI 1 else P t := by
          intro P
          funext t
          by_cases e : t = i
          · rw [if_pos e, if_pos (by omega)]
          · rw [if_neg e]
            by_cases e2 : t < i
            · rw [if_pos e2, if_pos (by omega)]
            · rw [if_neg e2, if_neg (by omega)]
        rw [ex, ex]
        exact this
    have := lp 0 (none, none) (by decide) trivial
    have e : eg_ri (eg_ri X 174 (fun t => if t < 0 then -nI 1 else eg_gi M 174 t)) 175 (fun t => if t < 0 then -nI 1 else eg_gi M 175 t) = X := by
      have e1 : eg_ri X 174 (fun t => if t < 0 then -nI 1 else eg_gi M 174 t) = X := ri_id' (by rw [x174]; funext t; rw [if_neg (Nat.not_lt_zero _)])
      rw [e1]
      exact ri_id' (by rw [x175]; funext t; rw [if_neg (Nat.not_lt_zero _)])
    rw [e] at this
    exact this
    
  · exact h.elim
theorem de_X12_pair : ∀ q ∈ k_X12_pair.1, decode cX12_pair q.1 = .ok q.2 := by decide +kernel
theorem me_X12_pair (g : gl_T) : MT g yX12_pair cX12_pair 6 (some .int) ⟨11, 0, 0, 259⟩ 0 0 s_X12_pair := by
  intro hl
  exact eg_met_of (k := k_X12_pair) (by decide) rfl ⟨Nat.le_refl _, Nat.le_refl _⟩ rfl sz_X12_pair de_X12_pair (fun meth hn => (fc (eg_FL_of wd_c12 (by decide) lf_RX12_198 (fun h => absurd h (by decide))) (fc (eg_FL_of wd_c12 (by decide) lf_RX12_204 (fun h => absurd h (by decide))) (fc (eg_FL_of wd_c12 (by decide) lf_RX12_207 (fun h => absurd h (by decide))) (fc (eg_FL_of wd_c12 (by decide) lf_RX12_213 (fun _ => Or.inl rfl)) (fc (eg_FL_of wd_c12 (by decide) lf_RX12_495 (fun h => absurd h (by decide))) (fc (eg_FL_of wd_c12 (by decide) lf_RX12_520 (fun _ => Or.inl rfl)) (fn)))))))) (fun A s H hE => (fn)) (fun p e s m args below meth c Q A ad0 N0 S0 hK hEx hA => (fc (mt_V hl S0 hK hEx hA (me_X12_go g) lm_RX12_514 li_X12_go lx_X12_go ln_RX12 lc_X12_go ⟨rfl, by decide, by decide, by decide +kernel⟩ ⟨rfl, rfl⟩ ⟨by decide, by decide⟩ (ci := 12) rfl rfl sr_X12_go (by decide)) (fc (mt_V hl S0 hK hEx hA (me_X12_laySets g) lm_RX12_517 li_X12_laySets lx_X12_laySets ln_RX12 lc_X12_laySets ⟨rfl, by decide, by decide, by decide +kernel⟩ ⟨rfl, rfl⟩ ⟨by decide, by decide⟩ (ci := 12) rfl rfl sr_X12_laySets (by decide)) (fn)))) (fun p e s m args below meth c Qc XC A ad0 N0 P S0 hK hEx hA hlk hout hPX => (fn)) (fun argv M Qp h => T_X12_pair h)

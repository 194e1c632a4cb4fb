theorem or_s2 (x : Int32) {s t : Nat} (hs : s < 24) (ht : t < 24) : ((x ||| (nI 1 <<< (nI s &&& 31))) &&& (nI 1 <<< (nI t &&& 31)) = 0) ↔ (¬ t = s ∧ x &&& (nI 1 <<< (nI t &&& 31)) = 0) := by
  have hb : ∀ t, t < 24 → (nI 1 <<< (nI t &&& 31)) = nI (2 ^ t) := by decide
  rw [hb s hs, hb t ht]
  have e : (x ||| nI (2 ^ s)) &&& nI (2 ^ t) = (x &&& nI (2 ^ t)) ||| (nI (2 ^ s) &&& nI (2 ^ t)) := by
    apply Int32.toBitVec_inj.mp
    apply BitVec.eq_of_getLsbD_eq
    intro i _
    simp only [Int32.toBitVec_and, Int32.toBitVec_or, BitVec.getLsbD_and, BitVec.getLsbD_or]
    exact Bool.and_or_distrib_right _ _ _
  rw [e]
  by_cases h : t = s
  · subst h
    constructor
    · intro z
      exfalso
      have z := congrArg (fun v => v.toBitVec.getLsbD t) z
      simp only [Int32.toBitVec_and, Int32.toBitVec_or, BitVec.getLsbD_and, BitVec.getLsbD_or] at z
      have e : ∀ t, t < 24 → (nI (2 ^ t)).toBitVec.getLsbD t = true := by decide
      rw [e t ht] at z
      have z0 : (0 : Int32).toBitVec.getLsbD t = false := BitVec.getLsbD_zero
      rw [z0] at z
      simp at z
    · intro z
      exact absurd rfl z.1
  · have e2 : ∀ s, s < 24 → ∀ t, t < 24 → ¬ t = s → nI (2 ^ s) &&& nI (2 ^ t) = 0 := by decide
    rw [e2 s hs t ht h]
    have e3 : (x &&& nI (2 ^ t)) ||| 0 = x &&& nI (2 ^ t) := by
      apply Int32.toBitVec_inj.mp
      simp
    rw [e3]
    exact ⟨fun z => ⟨h, z⟩, fun z => z.2⟩
/-- the class: date d of plan p clashes with plan k on day b -/
def k_cc (M : eg_M) (k : Nat) (b : Int32) (p d : Nat) : Prop := ¬ (eg_gi M 73 p &&& eg_gi M 73 k) = 0 ∧ ¬ (eg_gi M 76 (p * 4 + d) + eg_gi M 74 p) < b ∧ ¬ (b + eg_gi M 74 k) < eg_gi M 76 (p * 4 + d)
/-- the bits r say which dates clash -/
def k_cb (M : eg_M) (k : Nat) (b r : Int32) (D : Nat → Nat → Prop) : Prop := ∀ p d, p < 6 → d < 4 → ((r &&& (nI 1 <<< (nI (p * 4 + d) &&& 31)) = 0) ↔ ¬ (D p d ∧ k_cc M k b p d))
def k_X6_clashesAhead : eg_C := ([(0, .iconst 0, 1), (1, .istore_n 3, 1), (2, .iconst 0, 1), (3, .istore 4, 2), (5, .iload 4, 2), (7, .iload_n 1, 1), (8, .if_icmp .ge 100, 3), (11, .iconst 0, 1), (12, .istore 5, 2), (14, .iload 5, 2), (16, .aload_n 0, 1), (17, .getfield 22, 3), (20, .iload 4, 2), (22, .iaload, 1), (23, .if_icmp .ge 79, 3), (26, .aload_n 0, 1), (27, .getfield 25, 3), (30, .iload 4, 2), (32, .iconst 4, 1), (33, .imul, 1), (34, .iload 5, 2), (36, .iadd, 1), (37, .iaload, 1), (38, .istore 6, 2), (40, .aload_n 0, 1), (41, .getfield 15, 3), (44, .iload 4, 2), (46, .iaload, 1), (47, .aload_n 0, 1), (48, .getfield 15, 3), (51, .iload_n 1, 1), (52, .iaload, 1), (53, .iand, 1), (54, .ifCond .eq 42, 3), (57, .iload_n 2, 1), (58, .iload 6, 2), (60, .aload_n 0, 1), (61, .getfield 19, 3), (64, .iload 4, 2), (66, .iaload, 1), (67, .iadd, 1), (68, .if_icmp .gt 28, 3), (71, .iload 6, 2), (73, .iload_n 2, 1), (74, .aload_n 0, 1), (75, .getfield 19, 3), (78, .iload_n 1, 1), (79, .iaload, 1), (80, .iadd, 1), (81, .if_icmp .gt 15, 3), (84, .iload_n 3, 1), (85, .iconst 1, 1), (86, .iload 4, 2), (88, .iconst 4, 1), (89, .imul, 1), (90, .iload 5, 2), (92, .iadd, 1), (93, .ishl, 1), (94, .ior, 1), (95, .istore_n 3, 1), (96, .iinc 5 1, 3), (99, .goto (-85), 3), (102, .iinc 4 1, 3), (105, .goto (-100), 3), (108, .iload_n 3, 1), (109, .ireturn, 1)], [(15, 6, 1, false), (19, 6, 2, false), (22, 6, 3, false), (25, 6, 4, false)], [], [], [], 1, 0, 0)
theorem mk_X6_clashesAhead : ∀ q ∈ k_X6_clashesAhead.2.2.2.1, eg_mono q.2.2.2.2 := (fn)
set_option maxRecDepth 100000 in
theorem st_X6_clashesAhead_0 {Qp : eg_P} {M : eg_M} (a : Int32) (b : Int32)
  (l0 : eg_T wd k_X6_clashesAhead Qp 5 0 0 [some (.ref 72), some (.int a), some (.int b), some (.int (nI 0)), some (.int (nI 0)), none, none] [] M) :
  eg_T wd k_X6_clashesAhead Qp 0 0 0 [some (.ref 72), some (.int a), some (.int b), none, none, none, none] [] M := by
  refine eg_T_run mk_X6_clashesAhead (cut := [5, 14]) 69 ?_
  show eg_T wd k_X6_clashesAhead Qp 5 0 0 [some (.ref 72), some (.int a), some (.int b), some (.int (nI 0)), some (.int (nI 0)), none, none] [] M
  exact l0

set_option maxRecDepth 100000 in
theorem st_X6_clashesAhead_5 {Qp : eg_P} {M : eg_M} (a : Int32) (b : Int32) (x3 : Int32) (x4 : Int32) (o5 : Option Value) (o6 : Option Value)
  (l0 : (a ≤ x4) → Qp (.inl (some (.int x3))) M)
  (l1 : (¬ a ≤ x4) → eg_T wd k_X6_clashesAhead Qp 14 0 0 [some (.ref 72), some (.int a), some (.int b), some (.int x3), some (.int x4), some (.int (nI 0)), o6] [] M) :
  eg_T wd k_X6_clashesAhead Qp 5 0 0 [some (.ref 72), some (.int a), some (.int b), some (.int x3), some (.int x4), o5, o6] [] M := by
  refine eg_T_run mk_X6_clashesAhead (cut := [5, 14]) 69 ?_
  refine And.intro (fun (c1 : a ≤ x4) => ?_) (fun (c1 : ¬ a ≤ x4) => ?_)
  · skip
    refine And.intro (fun z => absurd z (by decide)) ?_
    show Qp (.inl (some (.int x3))) M
    exact l0 c1
  · skip
    show eg_T wd k_X6_clashesAhead Qp 14 0 0 [some (.ref 72), some (.int a), some (.int b), some (.int x3), some (.int x4), some (.int (nI 0)), o6] [] M
    exact l1 c1

set_option maxRecDepth 100000 in
theorem st_X6_clashesAhead_14 {Qp : eg_P} {M : eg_M} (a : Int32) (b : Int32) (x3 : Int32) (x4 : Int32) (x5 : Int32) (o6 : Option Value)
  (g0 : (vp_in x4 6))
  (g1 : (¬ ((eg_gi M 75 x4.toNatClampNeg) ≤ x5)) → (vp_in ((x4 * (nI 4)) + x5) 24))
  (g2 : (¬ ((eg_gi M 75 x4.toNatClampNeg) ≤ x5)) → (vp_in a 6))
  (l0 : ((eg_gi M 75 x4.toNatClampNeg) ≤ x5) → eg_T wd k_X6_clashesAhead Qp 5 0 0 [some (.ref 72), some (.int a), some (.int b), some (.int x3), some (.int (x4 + (nI 1))), some (.int x5), o6] [] M)
  (l1 : (¬ (eg_gi M 75 x4.toNatClampNeg) ≤ x5 ∧ (((eg_gi M 73 x4.toNatClampNeg) &&& (eg_gi M 73 a.toNatClampNeg)) = 0 ∨ (((eg_gi M 76 ((x4 * (nI 4)) + x5).toNatClampNeg) + (eg_gi M 74 x4.toNatClampNeg)) < b ∨ (b + (eg_gi M 74 a.toNatClampNeg)) < (eg_gi M 76 ((x4 * (nI 4)) + x5).toNatClampNeg)))) → eg_T wd k_X6_clashesAhead Qp 14 0 0 [some (.ref 72), some (.int a), some (.int b), some (.int x3), some (.int x4), some (.int (x5 + (nI 1))), some (.int (eg_gi M 76 ((x4 * (nI 4)) + x5).toNatClampNeg))] [] M)
  (l2 : (¬ (eg_gi M 75 x4.toNatClampNeg) ≤ x5 ∧ (¬ ((eg_gi M 73 x4.toNatClampNeg) &&& (eg_gi M 73 a.toNatClampNeg)) = 0 ∧ (¬ ((eg_gi M 76 ((x4 * (nI 4)) + x5).toNatClampNeg) + (eg_gi M 74 x4.toNatClampNeg)) < b ∧ ¬ (b + (eg_gi M 74 a.toNatClampNeg)) < (eg_gi M 76 ((x4 * (nI 4)) + x5).toNatClampNeg)))) → eg_T wd k_X6_clashesAhead Qp 14 0 0 [some (.ref 72), some (.int a), some (.int b), some (.int (x3 ||| ((nI 1) <<< (((x4 * (nI 4)) + x5) &&& 31)))), some (.int x4), some (.int (x5 + (nI 1))), some (.int (eg_gi M 76 ((x4 * (nI 4)) + x5).toNatClampNeg))] [] M) :
  eg_T wd k_X6_clashesAhead Qp 14 0 0 [some (.ref 72), some (.int a), some (.int b), some (.int x3), some (.int x4), some (.int x5), o6] [] M := by
  refine eg_T_run mk_X6_clashesAhead (cut := [5, 14]) 69 ?_
  refine And.intro (show vp_in x4 6 from ?_) ?_
  · exact g0
  refine And.intro (fun (c1 : (eg_gi M 75 x4.toNatClampNeg) ≤ x5) => ?_) (fun (c1 : ¬ (eg_gi M 75 x4.toNatClampNeg) ≤ x5) => ?_)
  · skip
    show eg_T wd k_X6_clashesAhead Qp 5 0 0 [some (.ref 72), some (.int a), some (.int b), some (.int x3), some (.int (x4 + (nI 1))), some (.int x5), o6] [] M
    exact l0 c1
  · skip
    refine And.intro (show vp_in ((x4 * (nI 4)) + x5) 24 from ?_) ?_
    · exact g1 c1
    refine And.intro (show vp_in x4 6 from ?_) ?_
    · exact g0
    refine And.intro (show vp_in a 6 from ?_) ?_
    · exact g2 c1
    refine And.intro (fun (c2 : ((eg_gi M 73 x4.toNatClampNeg) &&& (eg_gi M 73 a.toNatClampNeg)) = 0) => ?_) (fun (c2 : ¬ ((eg_gi M 73 x4.toNatClampNeg) &&& (eg_gi M 73 a.toNatClampNeg)) = 0) => ?_)
    · skip
      show eg_T wd k_X6_clashesAhead Qp 14 0 0 [some (.ref 72), some (.int a), some (.int b), some (.int x3), some (.int x4), some (.int (x5 + (nI 1))), some (.int (eg_gi M 76 ((x4 * (nI 4)) + x5).toNatClampNeg))] [] M
      exact l1 ⟨c1, (Or.inl c2)⟩
    · skip
      refine And.intro (show vp_in x4 6 from ?_) ?_
      · exact g0
      refine And.intro (fun (c3 : ((eg_gi M 76 ((x4 * (nI 4)) + x5).toNatClampNeg) + (eg_gi M 74 x4.toNatClampNeg)) < b) => ?_) (fun (c3 : ¬ ((eg_gi M 76 ((x4 * (nI 4)) + x5).toNatClampNeg) + (eg_gi M 74 x4.toNatClampNeg)) < b) => ?_)
      · skip
        show eg_T wd k_X6_clashesAhead Qp 14 0 0 [some (.ref 72), some (.int a), some (.int b), some (.int x3), some (.int x4), some (.int (x5 + (nI 1))), some (.int (eg_gi M 76 ((x4 * (nI 4)) + x5).toNatClampNeg))] [] M
        exact l1 ⟨c1, (Or.inr (Or.inl c3))⟩
      · skip
        refine And.intro (show vp_in a 6 from ?_) ?_
        · exact g2 c1
        refine And.intro (fun (c4 : (b + (eg_gi M 74 a.toNatClampNeg)) < (eg_gi M 76 ((x4 * (nI 4)) + x5).toNatClampNeg)) => ?_) (fun (c4 : ¬ (b + (eg_gi M 74 a.toNatClampNeg)) < (eg_gi M 76 ((x4 * (nI 4)) + x5).toNatClampNeg)) => ?_)
        · skip
          show eg_T wd k_X6_clashesAhead Qp 14 0 0 [some (.ref 72), some (.int a), some (.int b), some (.int x3), some (.int x4), some (.int (x5 + (nI 1))), some (.int (eg_gi M 76 ((x4 * (nI 4)) + x5).toNatClampNeg))] [] M
          exact l1 ⟨c1, (Or.inr (Or.inr c4))⟩
        · skip
          show eg_T wd k_X6_clashesAhead Qp 14 0 0 [some (.ref 72), some (.int a), some (.int b), some (.int (x3 ||| ((nI 1) <<< (((x4 * (nI 4)) + x5) &&& 31)))), some (.int x4), some (.int (x5 + (nI 1))), some (.int (eg_gi M 76 ((x4 * (nI 4)) + x5).toNatClampNeg))] [] M
          exact l2 ⟨c1, ⟨c2, ⟨c3, c4⟩⟩⟩

def s_X6_clashesAhead : eg_S := fun argv M Qp => match argv with
  | [.ref 72, .int a, .int b] => (∃ k, k < 6 ∧ a = nI k ∧ ∀ p, p < k → eg_cn (eg_gi M 75 p) 4) ∧ ∀ (r : Int32), (k_cb M a.toNatClampNeg b r (fun p d => p < a.toNatClampNeg ∧ d < (eg_gi M 75 p).toNatClampNeg)) → Qp (.inl (some (.int (r)))) M
  | _ => False
theorem mo_X6_clashesAhead : eg_mono s_X6_clashesAhead := by
  intro argv M Q Q' h
  unfold s_X6_clashesAhead
  split
  · exact fun z => ⟨z.1, fun r y => h _ _ (z.2 r y)⟩
  · exact id
theorem sz_X6_clashesAhead : ∀ argv M Qp, s_X6_clashesAhead argv M Qp → (eg_ls0 argv).length ≤ 7 := by
  intro argv M Qp h
  unfold s_X6_clashesAhead at h
  split at h
  · exact Nat.le_of_ble_eq_true rfl
  · exact h.elim
theorem sr_X6_clashesAhead : ∀ argv M Qp, s_X6_clashesAhead argv M Qp → ∃ p0 As, argv = .ref p0 :: As ∧ eg_isO wd M p0 6 = true := by
  intro argv M Qp h
  unfold s_X6_clashesAhead at h
  split at h
  · exact ⟨_, _, rfl, rfl⟩
  · exact h.elim
set_option maxRecDepth 100000 in
set_option maxHeartbeats 1000000 in
theorem T_X6_clashesAhead {argv : List Value} {M : eg_M} {Qp : eg_P} (h : s_X6_clashesAhead argv M Qp) : eg_T wd k_X6_clashesAhead Qp 0 0 0 (eg_lsN 7 argv) [] M := by
  unfold s_X6_clashesAhead at h
  split at h
  · rename_i a b
    obtain ⟨hp, hq⟩ := h
    obtain ⟨k, hk, rfl, hm⟩ := hp
    rw [n_c (by omega)] at hq
    have lp : ∀ i (x : Int32 × Option Value × Option Value), i ≤ k → k_cb M k b x.1 (fun p d => p < i ∧ d < (eg_gi M 75 p).toNatClampNeg) → eg_T wd k_X6_clashesAhead Qp 5 0 0 [some (.ref 72), some (.int (nI k)), some (.int b), some (.int x.1), some (.int (nI i)), x.2.1, x.2.2] [] M := by
      refine eg_for ?_
      intro i ⟨x, o5, o6⟩ hi hx kk
      have hx : k_cb M k b x (fun p d => p < i ∧ d < (eg_gi M 75 p).toNatClampNeg) := hx
      have st := st_X6_clashesAhead_5 (Qp := Qp) (M := M) (nI k) b x (nI i) o5 o6
      rw [n_le (by omega) (by omega), Nat.not_le] at st
      refine st (fun z => ?_) (fun z => ?_)
      · have : i = k := by omega
        subst this
        exact hq x hx
      · obtain ⟨m, hm4, em⟩ := hm i z
        have li : ∀ j (y : Int32 × Option Value), j ≤ m → k_cb M k b y.1 (fun p d => (p < i ∧ d < (eg_gi M 75 p).toNatClampNeg) ∨ (p = i ∧ d < j)) → eg_T wd k_X6_clashesAhead Qp 14 0 0 [some (.ref 72), some (.int (nI k)), some (.int b), some (.int y.1), some (.int (nI i)), some (.int (nI j)), y.2] [] M := by
          refine eg_for ?_
          intro j ⟨y, o6⟩ hj hy kj
          have hy : k_cb M k b y (fun p d => (p < i ∧ d < (eg_gi M 75 p).toNatClampNeg) ∨ (p = i ∧ d < j)) := hy
          have s2 := st_X6_clashesAhead_14 (Qp := Qp) (M := M) (nI k) b y (nI i) (nI j) o6
          rw [n_m, n_s, n_c (show i < 2 ^ 31 by omega), n_c (show k < 2 ^ 31 by omega), n_c (show i * 4 + j < 2 ^ 31 by omega), em, n_le (by omega) (by omega), Nat.not_le, n_in (by omega) (by decide), n_in (by omega) (by decide), n_in (by omega) (by decide), n_s, n_s] at s2
          refine s2 (by omega) (fun _ => by omega) (fun _ => by omega) (fun w => ?_) (fun w => ?_) (fun w => ?_)
          · have : j = m := by omega
            subst this
            refine kk (y, _, _) z (fun p d hp hd => ?_)
            rw [hy p d hp hd]
            refine not_congr (and_congr ?_ Iff.rfl)
            constructor
            · rintro (h | h)
              · exact ⟨by omega, h.2⟩
              · refine ⟨by omega, ?_⟩
                rw [h.1, em, n_c (by omega)]
                exact h.2
            · rintro ⟨h1, h2⟩
              by_cases e : p = i
              · subst e
                rw [em, n_c (by omega)] at h2
                exact Or.inr ⟨rfl, h2⟩
              · exact Or.inl ⟨by omega, h2⟩
          · refine kj (y, _) w.1 (fun p d hp hd => ?_)
            show (y &&& _ = 0) ↔ _
            rw [hy p d hp hd]
            refine not_congr ⟨fun h => ⟨?_, h.2⟩, fun h => ⟨?_, h.2⟩⟩
            · rcases h.1 with h1 | h1
              · exact Or.inl h1
              · exact Or.inr ⟨h1.1, by omega⟩
            · rcases h.1 with h1 | h1
              · exact Or.inl h1
              · refine Or.inr ⟨h1.1, ?_⟩
                by_cases e : d = j
                · exfalso
                  have h2 := h.2
                  unfold k_cc at h2
                  rw [h1.1, e] at h2
                  rcases w.2 with w2 | w2 | w2
                  · exact h2.1 w2
                  · exact h2.2.1 w2
                  · exact h2.2.2 w2
                · omega
          · refine kj (_, _) w.1 (fun p d hp hd => ?_)
            show ((y ||| _) &&& _ = 0) ↔ _
            rw [or_s2 y (by omega) (by omega), hy p d hp hd]
            constructor
            · rintro ⟨h1, h2⟩ h3
              refine h2 ⟨?_, h3.2⟩
              rcases h3.1 with h4 | h4
              · exact Or.inl h4
              · exact Or.inr ⟨h4.1, by omega⟩
            · intro h1
              refine ⟨fun e => h1 ⟨Or.inr ⟨by omega, by omega⟩, ?_⟩, fun h2 => h1 ⟨?_, h2.2⟩⟩
              · have ep : p = i := by omega
                have ed : d = j := by omega
                rw [ep, ed]
                exact w.2
              · rcases h2.1 with h4 | h4
                · exact Or.inl h4
                · exact Or.inr ⟨h4.1, by omega⟩
        refine li 0 (x, o6) (Nat.zero_le _) (fun p d hp hd => ?_)
        rw [hx p d hp hd]
        refine not_congr (and_congr ⟨fun h => Or.inl h, fun h => ?_⟩ Iff.rfl)
        rcases h with h | h
        · exact h
        · omega
    refine st_X6_clashesAhead_0 _ _ (lp 0 (nI 0, none, none) (Nat.zero_le _) (fun p d hp hd => ?_))
    constructor
    · rintro - ⟨h, -⟩
      omega
    · intro _
      have : ∀ t, t < 24 → nI 0 &&& (nI 1 <<< (nI t &&& 31)) = 0 := by decide
      exact this _ (by omega)
    
  · exact h.elim
theorem de_X6_clashesAhead : ∀ q ∈ k_X6_clashesAhead.1, decode cX6_clashesAhead q.1 = .ok q.2 := by decide +kernel
theorem me_X6_clashesAhead (g : gl_T) : MT g yX6_clashesAhead cX6_clashesAhead 7 (some .int) ⟨0, 0, 0, 0⟩ 0 0 s_X6_clashesAhead := by
  intro hl
  exact eg_met_of (k := k_X6_clashesAhead) (by decide) rfl ⟨Nat.le_refl _, Nat.le_refl _⟩ rfl sz_X6_clashesAhead de_X6_clashesAhead (fun meth hn => (fc (eg_FL_of wd_c6 (by decide) lf_RX6_15 (fun h => absurd h (by decide))) (fc (eg_FL_of wd_c6 (by decide) lf_RX6_19 (fun h => absurd h (by decide))) (fc (eg_FL_of wd_c6 (by decide) lf_RX6_22 (fun h => absurd h (by decide))) (fc (eg_FL_of wd_c6 (by decide) lf_RX6_25 (fun h => absurd h (by decide))) (fn)))))) (fun A s H hE => (fn)) (fun p e s m args below meth c Q A ad0 N0 S0 hK hEx hA => (fn)) (fun p e s m args below meth c Qc XC A ad0 N0 P S0 hK hEx hA hlk hout hPX => (fn)) (fun argv M Qp h => T_X6_clashesAhead h)

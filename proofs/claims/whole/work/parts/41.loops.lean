/-- the class: the text told last by day k, among the first i; the empty one without -/
def k_to (M : eg_M) (k : Int32) : Nat → Nat
  | 0 => 30
  | i + 1 => match eg_gr M 24 i with
    | some q => if k < eg_gi M q 0 then k_to M k i else q
    | none => k_to M k i
/-- the class: the shelf holds texts -/
def k_sf (M : eg_M) : Prop := eg_cn (eg_gi M 23 2) 8 ∧ ∀ i, i < (eg_gi M 23 2).toNatClampNeg → ∃ q, eg_gr M 24 i = some q ∧ eg_isO wd M q 8 = true
def k_X10_textOn : eg_C := ([(0, .aload_n 0, 1), (1, .getfield 38, 3), (4, .astore_n 2, 1), (5, .iconst 0, 1), (6, .istore_n 3, 1), (7, .iload_n 3, 1), (8, .aload_n 0, 1), (9, .getfield 21, 3), (12, .if_icmp .ge 34, 3), (15, .aload_n 0, 1), (16, .getfield 17, 3), (19, .iload_n 3, 1), (20, .aaload, 1), (21, .astore 4, 2), (23, .aload 4, 2), (25, .ifnull 15, 3), (28, .aload 4, 2), (30, .getfield 67, 3), (33, .iload_n 1, 1), (34, .if_icmp .gt 6, 3), (37, .aload 4, 2), (39, .astore_n 2, 1), (40, .iinc 3 1, 3), (43, .goto (-36), 3), (46, .aload_n 2, 1), (47, .areturn, 1)], [(17, 10, 1, false), (21, 10, 2, false), (38, 10, 5, false), (67, 8, 0, false)], [], [], [], 4, 0, 0)
theorem mk_X10_textOn : ∀ q ∈ k_X10_textOn.2.2.2.1, eg_mono q.2.2.2.2 := (fn)
set_option maxRecDepth 100000 in
theorem st_X10_textOn_0 {Qp : eg_P} {M : eg_M} (k : Int32)
  (l0 : eg_T wd k_X10_textOn Qp 7 0 0 [some (.ref 23), some (.int k), some (.ref 30), some (.int (nI 0)), none] [] M) :
  eg_T wd k_X10_textOn Qp 0 0 0 [some (.ref 23), some (.int k), none, none, none] [] M := by
  refine eg_T_run mk_X10_textOn (cut := [7, 21]) 29 ?_
  show eg_T wd k_X10_textOn Qp 7 0 0 [some (.ref 23), some (.int k), some (.ref 30), some (.int (nI 0)), none] [] M
  exact l0

set_option maxRecDepth 100000 in
theorem st_X10_textOn_7 {Qp : eg_P} {M : eg_M} (k : Int32) (x2 : Nat) (x3 : Int32) (o4 : Option Value)
  (g0 : (¬ ((eg_gi M 23 2) ≤ x3)) → (vp_in x3 8))
  (l0 : ((eg_gi M 23 2) ≤ x3) → Qp (.inl (some (.ref x2))) M)
  (l1 : (¬ (eg_gi M 23 2) ≤ x3) → eg_T wd k_X10_textOn Qp 21 0 0 [some (.ref 23), some (.int k), some (.ref x2), some (.int x3), o4] [eg_rv (eg_gr M 24 x3.toNatClampNeg)] M) :
  eg_T wd k_X10_textOn Qp 7 0 0 [some (.ref 23), some (.int k), some (.ref x2), some (.int x3), o4] [] M := by
  refine eg_T_run mk_X10_textOn (cut := [7, 21]) 29 ?_
  refine And.intro (fun (c1 : (eg_gi M 23 2) ≤ x3) => ?_) (fun (c1 : ¬ (eg_gi M 23 2) ≤ x3) => ?_)
  · skip
    show Qp (.inl (some (.ref x2))) M
    exact l0 c1
  · skip
    refine And.intro (show vp_in x3 8 from ?_) ?_
    · exact g0 c1
    show eg_T wd k_X10_textOn Qp 21 0 0 [some (.ref 23), some (.int k), some (.ref x2), some (.int x3), o4] [eg_rv (eg_gr M 24 x3.toNatClampNeg)] M
    exact l1 c1

set_option maxRecDepth 100000 in
theorem st_X10_textOn_21 {Qp : eg_P} {M : eg_M} (k : Int32) (x2 : Nat) (x3 : Int32) (o4 : Option Value) (s0 : Nat)
  (g0 : (eg_isO wd M s0 8 = true))
  (l0 : (k < (eg_gi M s0 0)) → eg_T wd k_X10_textOn Qp 7 0 0 [some (.ref 23), some (.int k), some (.ref x2), some (.int (x3 + (nI 1))), some (.ref s0)] [] M)
  (l1 : (¬ k < (eg_gi M s0 0)) → eg_T wd k_X10_textOn Qp 7 0 0 [some (.ref 23), some (.int k), some (.ref s0), some (.int (x3 + (nI 1))), some (.ref s0)] [] M) :
  eg_T wd k_X10_textOn Qp 21 0 0 [some (.ref 23), some (.int k), some (.ref x2), some (.int x3), o4] [.ref s0] M := by
  refine eg_T_run mk_X10_textOn (cut := [7, 21]) 29 ?_
  refine eg_need_of (show eg_isO wd M s0 8 = true from ?_) ?_
  · exact g0
  refine And.intro (fun (c1 : k < (eg_gi M s0 0)) => ?_) (fun (c1 : ¬ k < (eg_gi M s0 0)) => ?_)
  · skip
    show eg_T wd k_X10_textOn Qp 7 0 0 [some (.ref 23), some (.int k), some (.ref x2), some (.int (x3 + (nI 1))), some (.ref s0)] [] M
    exact l0 c1
  · skip
    show eg_T wd k_X10_textOn Qp 7 0 0 [some (.ref 23), some (.int k), some (.ref s0), some (.int (x3 + (nI 1))), some (.ref s0)] [] M
    exact l1 c1

def s_X10_textOn : eg_S := fun argv M Qp => match argv with
  | [.ref 23, .int k] => (k_sf M) ∧ Qp (.inl (some (.ref (k_to M k (eg_gi M 23 2).toNatClampNeg)))) M
  | _ => False
theorem mo_X10_textOn : eg_mono s_X10_textOn := by
  intro argv M Q Q' h
  unfold s_X10_textOn
  split
  · exact fun z => ⟨z.1, h _ _ z.2⟩
  · exact id
theorem sz_X10_textOn : ∀ argv M Qp, s_X10_textOn argv M Qp → (eg_ls0 argv).length ≤ 5 := by
  intro argv M Qp h
  unfold s_X10_textOn at h
  split at h
  · exact Nat.le_of_ble_eq_true rfl
  · exact h.elim
theorem sr_X10_textOn : ∀ argv M Qp, s_X10_textOn argv M Qp → ∃ p0 As, argv = .ref p0 :: As ∧ eg_isO wd M p0 10 = true := by
  intro argv M Qp h
  unfold s_X10_textOn at h
  split at h
  · exact ⟨_, _, rfl, rfl⟩
  · exact h.elim
set_option maxRecDepth 100000 in
set_option maxHeartbeats 1000000 in
theorem T_X10_textOn {argv : List Value} {M : eg_M} {Qp : eg_P} (h : s_X10_textOn argv M Qp) : eg_T wd k_X10_textOn Qp 0 0 0 (eg_lsN 5 argv) [] M := by
  unfold s_X10_textOn at h
  split at h
  · rename_i k
    obtain ⟨hp, hq⟩ := h
    obtain ⟨⟨n, hn, hN⟩, hS⟩ := hp
    rw [hN, n_c (by omega)] at hq hS
    have lp : ∀ i (x : Nat × Option Value), i ≤ n → x.1 = k_to M k i → eg_T wd k_X10_textOn Qp 7 0 0 [some (.ref 23), some (.int k), some (.ref x.1), some (.int (nI i)), x.2] [] M := by
      refine eg_for ?_
      intro i ⟨x, o⟩ hi hx kk
      have hx : x = k_to M k i := hx
      have st := st_X10_textOn_7 (Qp := Qp) (M := M) k x (nI i) o
      simp (disch := omega) only [hN, n_c, n_le, n_in, Nat.not_le] at st
      refine st (fun _ => by omega) (fun z => ?_) (fun z => ?_)
      · have : i = n := by omega
        subst this
        rw [hx]
        exact hq
      · obtain ⟨q, e, ho⟩ := hS i z
        rw [e]
        refine st_X10_textOn_21 k x (nI i) o q ho (fun y => ?_) (fun y => ?_)
        · rw [n_s]
          refine kk (x, some (.ref q)) z ?_
          rw [k_to, e]
          dsimp only
          rw [if_pos y, hx]
        · rw [n_s]
          refine kk (q, some (.ref q)) z ?_
          rw [k_to, e]
          dsimp only
          rw [if_neg y]
    exact st_X10_textOn_0 _ (lp 0 (30, none) (Nat.zero_le _) rfl)
    
  · exact h.elim
theorem de_X10_textOn : ∀ q ∈ k_X10_textOn.1, decode cX10_textOn q.1 = .ok q.2 := by decide +kernel
theorem me_X10_textOn (g : gl_T) : MT g yX10_textOn cX10_textOn 5 (some (.object "TownTwins$RuleText")) ⟨0, 0, 0, 0⟩ 0 0 s_X10_textOn := by
  intro hl
  exact eg_met_of (k := k_X10_textOn) (by decide) rfl ⟨Nat.le_refl _, Nat.le_refl _⟩ ⟨_, rfl, Or.inl ⟨_, rfl⟩⟩ sz_X10_textOn de_X10_textOn (fun meth hn => (fc (eg_FL_of wd_c10 (by decide) lf_RX10_17 (fun h => absurd h (by decide))) (fc (eg_FL_of wd_c10 (by decide) lf_RX10_21 (fun h => absurd h (by decide))) (fc (eg_FL_of wd_c10 (by decide) lf_RX10_38 (fun h => absurd h (by decide))) (fc (eg_FL_of wd_c8 (by decide) lf_RX10_67 (fun h => absurd h (by decide))) (fn)))))) (fun A s H hE => (fn)) (fun p e s m args below meth c Q A ad0 N0 S0 hK hEx hA => (fn)) (fun p e s m args below meth c Qc XC A ad0 N0 P S0 hK hEx hA hlk hout hPX => (fn)) (fun argv M Qp h => T_X10_textOn h)

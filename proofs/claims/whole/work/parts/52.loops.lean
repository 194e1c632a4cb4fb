/-- a town; none, or a town; the mates are such -/
def k_t1 (x : Int32) : Prop := ∃ b, b < 16 ∧ x = nI b
def k_tw (x : Int32) : Prop := x = -nI 1 ∨ k_t1 x
def k_mt (M : eg_M) : Prop := ∀ a, a < 16 → k_tw (eg_gi M 118 a)
/-- the class: t and o wish each other; t would rather have o; both would leave -/
def k_aw (M : eg_M) (t o : Nat) : Bool := decide (¬ eg_gi M (99 + 1 + t) o = -nI 1 ∧ ¬ eg_gi M (99 + 1 + o) t = -nI 1)
def k_pf (M : eg_M) (t o : Nat) : Bool := decide (eg_gi M 118 t = -nI 1 ∨ ¬ eg_gi M (99 + 1 + t) (eg_gi M 118 t).toNatClampNeg ≤ eg_gi M (99 + 1 + t) o)
def k_wl (M : eg_M) (t o : Int32) : Bool := decide (¬ o = -nI 1) && (k_aw M t.toNatClampNeg o.toNatClampNeg && (k_pf M t.toNatClampNeg o.toNatClampNeg && k_pf M o.toNatClampNeg t.toNatClampNeg))
theorem bq_f {b : Bool} (h : ¬ b = true) : b = false := by cases b <;> first | rfl | exact absurd rfl h
theorem bq_t {b : Bool} (h : ¬ b = false) : b = true := by cases b <;> first | rfl | exact absurd rfl h
def k_X2_prefers_v : eg_C := ([(0, .aload_n 0, 1), (1, .getfield 29, 3), (4, .iload_n 1, 1), (5, .iaload, 1), (6, .iconst (-1), 1), (7, .if_icmp .eq 27, 3), (10, .aload_n 0, 1), (11, .getfield 20, 3), (14, .iload_n 1, 1), (15, .aaload, 1), (16, .iload_n 2, 1), (17, .iaload, 1), (18, .aload_n 0, 1), (19, .getfield 20, 3), (22, .iload_n 1, 1), (23, .aaload, 1), (24, .aload_n 0, 1), (25, .getfield 29, 3), (28, .iload_n 1, 1), (29, .iaload, 1), (30, .iaload, 1), (31, .if_icmp .ge 7, 3), (34, .iconst 1, 1), (35, .goto 4, 3), (38, .iconst 0, 1), (39, .ireturn, 1)], [(20, 2, 2, false), (29, 2, 5, false)], [], [], [], 2, 0, 0)
theorem mk_X2_prefers_v : ∀ q ∈ k_X2_prefers_v.2.2.2.1, eg_mono q.2.2.2.2 := (fn)
set_option maxRecDepth 100000 in
theorem st_X2_prefers_v_0 {Qp : eg_P} {M : eg_M} (t : Int32) (o : Int32)
  (g0 : (vp_in t 16))
  (g1 : (¬ ((eg_gi M 118 t.toNatClampNeg) = (-nI 1))) → (eg_is wd M (99 + 1 + t.toNatClampNeg) 1 = true))
  (g2 : (¬ ((eg_gi M 118 t.toNatClampNeg) = (-nI 1))) → (vp_in o (eg_len wd M (99 + 1 + t.toNatClampNeg))))
  (g3 : (¬ ((eg_gi M 118 t.toNatClampNeg) = (-nI 1))) → (vp_in (eg_gi M 118 t.toNatClampNeg) (eg_len wd M (99 + 1 + t.toNatClampNeg))))
  (l0 : ((eg_gi M 118 t.toNatClampNeg) = (-nI 1) ∨ ¬ (eg_gi M (99 + 1 + t.toNatClampNeg) (eg_gi M 118 t.toNatClampNeg).toNatClampNeg) ≤ (eg_gi M (99 + 1 + t.toNatClampNeg) o.toNatClampNeg)) → Qp (.inl (some (.int (nI 1)))) M)
  (l1 : (¬ (eg_gi M 118 t.toNatClampNeg) = (-nI 1) ∧ (eg_gi M (99 + 1 + t.toNatClampNeg) (eg_gi M 118 t.toNatClampNeg).toNatClampNeg) ≤ (eg_gi M (99 + 1 + t.toNatClampNeg) o.toNatClampNeg)) → Qp (.inl (some (.int (nI 0)))) M) :
  eg_T wd k_X2_prefers_v Qp 0 0 0 [some (.ref 80), some (.int t), some (.int o)] [] M := by
  refine eg_T_run mk_X2_prefers_v (cut := []) 29 ?_
  refine And.intro (show vp_in t 16 from ?_) ?_
  · exact g0
  refine And.intro (fun (c1 : (eg_gi M 118 t.toNatClampNeg) = (-nI 1)) => ?_) (fun (c1 : ¬ (eg_gi M 118 t.toNatClampNeg) = (-nI 1)) => ?_)
  · skip
    refine And.intro (fun _ => (show (nI 1) = 0 ∨ (nI 1) = 1 from ?_)) ?_
    · exact Or.inr rfl
    show Qp (.inl (some (.int (nI 1)))) M
    exact l0 (Or.inl c1)
  · skip
    refine And.intro (show vp_in t 16 from ?_) ?_
    · exact g0
    refine eg_need_of (show eg_is wd M (99 + 1 + t.toNatClampNeg) 1 = true from ?_) ?_
    · exact g1 c1
    refine And.intro (show vp_in o (eg_len wd M (99 + 1 + t.toNatClampNeg)) from ?_) ?_
    · exact g2 c1
    refine And.intro (show vp_in t 16 from ?_) ?_
    · exact g0
    refine And.intro (show vp_in t 16 from ?_) ?_
    · exact g0
    refine eg_need_of (show eg_is wd M (99 + 1 + t.toNatClampNeg) 1 = true from ?_) ?_
    · exact g1 c1
    refine And.intro (show vp_in (eg_gi M 118 t.toNatClampNeg) (eg_len wd M (99 + 1 + t.toNatClampNeg)) from ?_) ?_
    · exact g3 c1
    refine And.intro (fun (c2 : (eg_gi M (99 + 1 + t.toNatClampNeg) (eg_gi M 118 t.toNatClampNeg).toNatClampNeg) ≤ (eg_gi M (99 + 1 + t.toNatClampNeg) o.toNatClampNeg)) => ?_) (fun (c2 : ¬ (eg_gi M (99 + 1 + t.toNatClampNeg) (eg_gi M 118 t.toNatClampNeg).toNatClampNeg) ≤ (eg_gi M (99 + 1 + t.toNatClampNeg) o.toNatClampNeg)) => ?_)
    · skip
      refine And.intro (fun _ => (show (nI 0) = 0 ∨ (nI 0) = 1 from ?_)) ?_
      · exact Or.inl rfl
      show Qp (.inl (some (.int (nI 0)))) M
      exact l1 ⟨c1, c2⟩
    · skip
      refine And.intro (fun _ => (show (nI 1) = 0 ∨ (nI 1) = 1 from ?_)) ?_
      · exact Or.inr rfl
      show Qp (.inl (some (.int (nI 1)))) M
      exact l0 (Or.inr c2)

def s_X2_prefers_v : eg_S := fun argv M Qp => match argv with
  | [.ref 80, .int t, .int o] => (k_t1 t ∧ k_t1 o ∧ k_mt M) ∧ Qp (.inl (some (.int (b2i (k_pf M t.toNatClampNeg o.toNatClampNeg))))) M
  | _ => False
theorem mo_X2_prefers_v : eg_mono s_X2_prefers_v := by
  intro argv M Q Q' h
  unfold s_X2_prefers_v
  split
  · exact fun z => ⟨z.1, h _ _ z.2⟩
  · exact id
theorem sz_X2_prefers_v : ∀ argv M Qp, s_X2_prefers_v argv M Qp → (eg_ls0 argv).length ≤ 3 := by
  intro argv M Qp h
  unfold s_X2_prefers_v at h
  split at h
  · exact Nat.le_of_ble_eq_true rfl
  · exact h.elim
theorem sr_X2_prefers_v : ∀ argv M Qp, s_X2_prefers_v argv M Qp → ∃ p0 As, argv = .ref p0 :: As ∧ eg_isO wd M p0 2 = true := by
  intro argv M Qp h
  unfold s_X2_prefers_v at h
  split at h
  · exact ⟨_, _, rfl, rfl⟩
  · exact h.elim
set_option maxRecDepth 100000 in
set_option maxHeartbeats 1000000 in
theorem T_X2_prefers_v {argv : List Value} {M : eg_M} {Qp : eg_P} (h : s_X2_prefers_v argv M Qp) : eg_T wd k_X2_prefers_v Qp 0 0 0 (eg_lsN 3 argv) [] M := by
  unfold s_X2_prefers_v at h
  split at h
  · rename_i t o
    obtain ⟨hp, hq⟩ := h
    obtain ⟨⟨a, ha, rfl⟩, ⟨b, hb, rfl⟩, hM⟩ := hp
    have st := st_X2_prefers_v_0 (Qp := Qp) (M := M) (nI a) (nI b)
    rw [n_c (show a < 2 ^ 31 by omega), n_c (show b < 2 ^ 31 by omega), (rk_is _ ha).2.1, n_in (by omega) (by decide), n_in (by omega) (by decide)] at st
    rw [n_c (show a < 2 ^ 31 by omega), n_c (show b < 2 ^ 31 by omega)] at hq
    refine st ha (fun _ => (rk_is _ ha).1) (fun _ => hb) (fun z => ?_) (fun z => ?_) (fun z => ?_)
    · obtain ⟨c, hc, ec⟩ := (hM a ha).resolve_left z
      rw [ec]
      exact (n_in (by omega) (by decide)).mpr hc
    · rw [show k_pf M a b = true from decide_eq_true z] at hq
      exact hq
    · rw [show k_pf M a b = false from decide_eq_false (fun w => w.elim z.1 (fun y => y z.2))] at hq
      exact hq
  · exact h.elim
theorem de_X2_prefers_v : ∀ q ∈ k_X2_prefers_v.1, decode cX2_prefers q.1 = .ok q.2 := by decide +kernel
theorem me_X2_prefers_v (g : gl_T) : MT g yX2_prefers cX2_prefers 3 (some .boolean) ⟨0, 0, 0, 0⟩ 0 0 s_X2_prefers_v := by
  intro hl
  exact eg_met_of (k := k_X2_prefers_v) (by decide) rfl ⟨Nat.le_refl _, Nat.le_refl _⟩ rfl sz_X2_prefers_v de_X2_prefers_v (fun meth hn => (fc (eg_FL_of wd_c2 (by decide) lf_RX2_20 (fun h => absurd h (by decide))) (fc (eg_FL_of wd_c2 (by decide) lf_RX2_29 (fun h => absurd h (by decide))) (fn)))) (fun A s H hE => (fn)) (fun p e s m args below meth c Q A ad0 N0 S0 hK hEx hA => (fn)) (fun p e s m args below meth c Qc XC A ad0 N0 P S0 hK hEx hA hlk hout hPX => (fn)) (fun argv M Qp h => T_X2_prefers_v h)

def k_X2_areWished_v : eg_C := ([(0, .aload_n 0, 1), (1, .getfield 20, 3), (4, .iload_n 1, 1), (5, .aaload, 1), (6, .iload_n 2, 1), (7, .iaload, 1), (8, .iconst (-1), 1), (9, .if_icmp .eq 19, 3), (12, .aload_n 0, 1), (13, .getfield 20, 3), (16, .iload_n 2, 1), (17, .aaload, 1), (18, .iload_n 1, 1), (19, .iaload, 1), (20, .iconst (-1), 1), (21, .if_icmp .eq 7, 3), (24, .iconst 1, 1), (25, .goto 4, 3), (28, .iconst 0, 1), (29, .ireturn, 1)], [(20, 2, 2, false)], [], [], [], 2, 0, 0)
theorem mk_X2_areWished_v : ∀ q ∈ k_X2_areWished_v.2.2.2.1, eg_mono q.2.2.2.2 := (fn)
set_option maxRecDepth 100000 in
theorem st_X2_areWished_v_0 {Qp : eg_P} {M : eg_M} (t : Int32) (o : Int32)
  (g0 : (vp_in t 16))
  (g1 : (eg_is wd M (99 + 1 + t.toNatClampNeg) 1 = true))
  (g2 : (vp_in o (eg_len wd M (99 + 1 + t.toNatClampNeg))))
  (g3 : (¬ ((eg_gi M (99 + 1 + t.toNatClampNeg) o.toNatClampNeg) = (-nI 1))) → (vp_in o 16))
  (g4 : (¬ ((eg_gi M (99 + 1 + t.toNatClampNeg) o.toNatClampNeg) = (-nI 1))) → (eg_is wd M (99 + 1 + o.toNatClampNeg) 1 = true))
  (g5 : (¬ ((eg_gi M (99 + 1 + t.toNatClampNeg) o.toNatClampNeg) = (-nI 1))) → (vp_in t (eg_len wd M (99 + 1 + o.toNatClampNeg))))
  (l0 : ((eg_gi M (99 + 1 + t.toNatClampNeg) o.toNatClampNeg) = (-nI 1) ∨ (eg_gi M (99 + 1 + o.toNatClampNeg) t.toNatClampNeg) = (-nI 1)) → Qp (.inl (some (.int (nI 0)))) M)
  (l1 : (¬ (eg_gi M (99 + 1 + t.toNatClampNeg) o.toNatClampNeg) = (-nI 1) ∧ ¬ (eg_gi M (99 + 1 + o.toNatClampNeg) t.toNatClampNeg) = (-nI 1)) → Qp (.inl (some (.int (nI 1)))) M) :
  eg_T wd k_X2_areWished_v Qp 0 0 0 [some (.ref 80), some (.int t), some (.int o)] [] M := by
  refine eg_T_run mk_X2_areWished_v (cut := []) 23 ?_
  refine And.intro (show vp_in t 16 from ?_) ?_
  · exact g0
  refine eg_need_of (show eg_is wd M (99 + 1 + t.toNatClampNeg) 1 = true from ?_) ?_
  · exact g1
  refine And.intro (show vp_in o (eg_len wd M (99 + 1 + t.toNatClampNeg)) from ?_) ?_
  · exact g2
  refine And.intro (fun (c1 : (eg_gi M (99 + 1 + t.toNatClampNeg) o.toNatClampNeg) = (-nI 1)) => ?_) (fun (c1 : ¬ (eg_gi M (99 + 1 + t.toNatClampNeg) o.toNatClampNeg) = (-nI 1)) => ?_)
  · skip
    refine And.intro (fun _ => (show (nI 0) = 0 ∨ (nI 0) = 1 from ?_)) ?_
    · exact Or.inl rfl
    show Qp (.inl (some (.int (nI 0)))) M
    exact l0 (Or.inl c1)
  · skip
    refine And.intro (show vp_in o 16 from ?_) ?_
    · exact g3 c1
    refine eg_need_of (show eg_is wd M (99 + 1 + o.toNatClampNeg) 1 = true from ?_) ?_
    · exact g4 c1
    refine And.intro (show vp_in t (eg_len wd M (99 + 1 + o.toNatClampNeg)) from ?_) ?_
    · exact g5 c1
    refine And.intro (fun (c2 : (eg_gi M (99 + 1 + o.toNatClampNeg) t.toNatClampNeg) = (-nI 1)) => ?_) (fun (c2 : ¬ (eg_gi M (99 + 1 + o.toNatClampNeg) t.toNatClampNeg) = (-nI 1)) => ?_)
    · skip
      refine And.intro (fun _ => (show (nI 0) = 0 ∨ (nI 0) = 1 from ?_)) ?_
      · exact Or.inl rfl
      show Qp (.inl (some (.int (nI 0)))) M
      exact l0 (Or.inr c2)
    · skip
      refine And.intro (fun _ => (show (nI 1) = 0 ∨ (nI 1) = 1 from ?_)) ?_
      · exact Or.inr rfl
      show Qp (.inl (some (.int (nI 1)))) M
      exact l1 ⟨c1, c2⟩

def s_X2_areWished_v : eg_S := fun argv M Qp => match argv with
  | [.ref 80, .int t, .int o] => (k_t1 t ∧ k_t1 o) ∧ Qp (.inl (some (.int (b2i (k_aw M t.toNatClampNeg o.toNatClampNeg))))) M
  | _ => False
theorem mo_X2_areWished_v : eg_mono s_X2_areWished_v := by
  intro argv M Q Q' h
  unfold s_X2_areWished_v
  split
  · exact fun z => ⟨z.1, h _ _ z.2⟩
  · exact id
theorem sz_X2_areWished_v : ∀ argv M Qp, s_X2_areWished_v argv M Qp → (eg_ls0 argv).length ≤ 3 := by
  intro argv M Qp h
  unfold s_X2_areWished_v at h
  split at h
  · exact Nat.le_of_ble_eq_true rfl
  · exact h.elim
theorem sr_X2_areWished_v : ∀ argv M Qp, s_X2_areWished_v argv M Qp → ∃ p0 As, argv = .ref p0 :: As ∧ eg_isO wd M p0 2 = true := by
  intro argv M Qp h
  unfold s_X2_areWished_v at h
  split at h
  · exact ⟨_, _, rfl, rfl⟩
  · exact h.elim
set_option maxRecDepth 100000 in
set_option maxHeartbeats 1000000 in
theorem T_X2_areWished_v {argv : List Value} {M : eg_M} {Qp : eg_P} (h : s_X2_areWished_v argv M Qp) : eg_T wd k_X2_areWished_v Qp 0 0 0 (eg_lsN 3 argv) [] M := by
  unfold s_X2_areWished_v at h
  split at h
  · rename_i t o
    obtain ⟨hp, hq⟩ := h
    obtain ⟨⟨a, ha, rfl⟩, ⟨b, hb, rfl⟩⟩ := hp
    have st := st_X2_areWished_v_0 (Qp := Qp) (M := M) (nI a) (nI b)
    rw [n_c (show a < 2 ^ 31 by omega), n_c (show b < 2 ^ 31 by omega), (rk_is _ ha).2.1, (rk_is _ hb).2.1, n_in (by omega) (by decide), n_in (by omega) (by decide)] at st
    rw [n_c (show a < 2 ^ 31 by omega), n_c (show b < 2 ^ 31 by omega)] at hq
    refine st ha (rk_is _ ha).1 hb (fun _ => hb) (fun _ => (rk_is _ hb).1) (fun _ => ha) (fun z => ?_) (fun z => ?_)
    · rw [show k_aw M a b = false from decide_eq_false (fun w => z.elim w.1 w.2)] at hq
      exact hq
    · rw [show k_aw M a b = true from decide_eq_true z] at hq
      exact hq
  · exact h.elim
theorem de_X2_areWished_v : ∀ q ∈ k_X2_areWished_v.1, decode cX2_areWished q.1 = .ok q.2 := by decide +kernel
theorem me_X2_areWished_v (g : gl_T) : MT g yX2_areWished cX2_areWished 3 (some .boolean) ⟨0, 0, 0, 0⟩ 0 0 s_X2_areWished_v := by
  intro hl
  exact eg_met_of (k := k_X2_areWished_v) (by decide) rfl ⟨Nat.le_refl _, Nat.le_refl _⟩ rfl sz_X2_areWished_v de_X2_areWished_v (fun meth hn => (fc (eg_FL_of wd_c2 (by decide) lf_RX2_20 (fun h => absurd h (by decide))) (fn))) (fun A s H hE => (fn)) (fun p e s m args below meth c Q A ad0 N0 S0 hK hEx hA => (fn)) (fun p e s m args below meth c Qc XC A ad0 N0 P S0 hK hEx hA hlk hout hPX => (fn)) (fun argv M Qp h => T_X2_areWished_v h)

def k_X2_wouldLeave_v : eg_C := ([(0, .iload_n 2, 1), (1, .iconst (-1), 1), (2, .if_icmp .eq 34, 3), (5, .aload_n 0, 1), (6, .iload_n 1, 1), (7, .iload_n 2, 1), (8, .invokevirtual 71, 3), (11, .ifCond .eq 25, 3), (14, .aload_n 0, 1), (15, .iload_n 1, 1), (16, .iload_n 2, 1), (17, .invokevirtual 78, 3), (20, .ifCond .eq 16, 3), (23, .aload_n 0, 1), (24, .iload_n 2, 1), (25, .iload_n 1, 1), (26, .invokevirtual 78, 3), (29, .ifCond .eq 7, 3), (32, .iconst 1, 1), (33, .goto 4, 3), (36, .iconst 0, 1), (37, .ireturn, 1)], [], [], [(71, 2 + 1, 0, 0, s_X2_areWished_v), (78, 2 + 1, 0, 0, s_X2_prefers_v)], [], 2, 0, 0)
theorem mk_X2_wouldLeave_v : ∀ q ∈ k_X2_wouldLeave_v.2.2.2.1, eg_mono q.2.2.2.2 := (fc (mo_X2_areWished_v) (fc (mo_X2_prefers_v) (fn)))
set_option maxRecDepth 100000 in
theorem st_X2_wouldLeave_v_0 {Qp : eg_P} {M : eg_M} (t : Int32) (o : Int32)
  (g0 : (¬ (o = (-nI 1))) → (k_t1 t ∧ k_t1 o))
  (g1 : (¬ (o = (-nI 1))) → (¬ ((k_aw M t.toNatClampNeg o.toNatClampNeg) = false)) → (k_t1 t ∧ k_t1 o ∧ k_mt M))
  (g2 : (¬ (o = (-nI 1))) → (¬ ((k_aw M t.toNatClampNeg o.toNatClampNeg) = false)) → (¬ ((k_pf M t.toNatClampNeg o.toNatClampNeg) = false)) → (k_t1 o ∧ k_t1 t ∧ k_mt M))
  (l0 : (o = (-nI 1) ∨ ((k_aw M t.toNatClampNeg o.toNatClampNeg) = false ∨ ((k_pf M t.toNatClampNeg o.toNatClampNeg) = false ∨ (k_pf M o.toNatClampNeg t.toNatClampNeg) = false))) → Qp (.inl (some (.int (nI 0)))) M)
  (l1 : (¬ o = (-nI 1) ∧ (¬ (k_aw M t.toNatClampNeg o.toNatClampNeg) = false ∧ (¬ (k_pf M t.toNatClampNeg o.toNatClampNeg) = false ∧ ¬ (k_pf M o.toNatClampNeg t.toNatClampNeg) = false))) → Qp (.inl (some (.int (nI 1)))) M) :
  eg_T wd k_X2_wouldLeave_v Qp 0 0 0 [some (.ref 80), some (.int t), some (.int o)] [] M := by
  refine eg_T_run mk_X2_wouldLeave_v (cut := []) 25 ?_
  refine And.intro (fun (c1 : o = (-nI 1)) => ?_) (fun (c1 : ¬ o = (-nI 1)) => ?_)
  · skip
    refine And.intro (fun _ => (show (nI 0) = 0 ∨ (nI 0) = 1 from ?_)) ?_
    · exact Or.inl rfl
    show Qp (.inl (some (.int (nI 0)))) M
    exact l0 (Or.inl c1)
  · skip
    refine And.intro (show (k_t1 t ∧ k_t1 o) from ?_) ?_
    · exact g0 c1
    refine And.intro (fun (c2 : (b2i (k_aw M t.toNatClampNeg o.toNatClampNeg)) = 0) => ?_) (fun (c2 : ¬ (b2i (k_aw M t.toNatClampNeg o.toNatClampNeg)) = 0) => ?_)
    · replace c2 := b2i_0.mp c2
      refine And.intro (fun _ => (show (nI 0) = 0 ∨ (nI 0) = 1 from ?_)) ?_
      · exact Or.inl rfl
      show Qp (.inl (some (.int (nI 0)))) M
      exact l0 (Or.inr (Or.inl c2))
    · replace c2 := b2i_ff c2
      refine And.intro (show (k_t1 t ∧ k_t1 o ∧ k_mt M) from ?_) ?_
      · exact g1 c1 c2
      refine And.intro (fun (c3 : (b2i (k_pf M t.toNatClampNeg o.toNatClampNeg)) = 0) => ?_) (fun (c3 : ¬ (b2i (k_pf M t.toNatClampNeg o.toNatClampNeg)) = 0) => ?_)
      · replace c3 := b2i_0.mp c3
        refine And.intro (fun _ => (show (nI 0) = 0 ∨ (nI 0) = 1 from ?_)) ?_
        · exact Or.inl rfl
        show Qp (.inl (some (.int (nI 0)))) M
        exact l0 (Or.inr (Or.inr (Or.inl c3)))
      · replace c3 := b2i_ff c3
        refine And.intro (show (k_t1 o ∧ k_t1 t ∧ k_mt M) from ?_) ?_
        · exact g2 c1 c2 c3
        refine And.intro (fun (c4 : (b2i (k_pf M o.toNatClampNeg t.toNatClampNeg)) = 0) => ?_) (fun (c4 : ¬ (b2i (k_pf M o.toNatClampNeg t.toNatClampNeg)) = 0) => ?_)
        · replace c4 := b2i_0.mp c4
          refine And.intro (fun _ => (show (nI 0) = 0 ∨ (nI 0) = 1 from ?_)) ?_
          · exact Or.inl rfl
          show Qp (.inl (some (.int (nI 0)))) M
          exact l0 (Or.inr (Or.inr (Or.inr c4)))
        · replace c4 := b2i_ff c4
          refine And.intro (fun _ => (show (nI 1) = 0 ∨ (nI 1) = 1 from ?_)) ?_
          · exact Or.inr rfl
          show Qp (.inl (some (.int (nI 1)))) M
          exact l1 ⟨c1, ⟨c2, ⟨c3, c4⟩⟩⟩

def s_X2_wouldLeave_v : eg_S := fun argv M Qp => match argv with
  | [.ref 80, .int t, .int o] => (k_t1 t ∧ k_tw o ∧ k_mt M) ∧ Qp (.inl (some (.int (b2i (k_wl M t o))))) M
  | _ => False
theorem mo_X2_wouldLeave_v : eg_mono s_X2_wouldLeave_v := by
  intro argv M Q Q' h
  unfold s_X2_wouldLeave_v
  split
  · exact fun z => ⟨z.1, h _ _ z.2⟩
  · exact id
theorem sz_X2_wouldLeave_v : ∀ argv M Qp, s_X2_wouldLeave_v argv M Qp → (eg_ls0 argv).length ≤ 3 := by
  intro argv M Qp h
  unfold s_X2_wouldLeave_v at h
  split at h
  · exact Nat.le_of_ble_eq_true rfl
  · exact h.elim
theorem sr_X2_wouldLeave_v : ∀ argv M Qp, s_X2_wouldLeave_v argv M Qp → ∃ p0 As, argv = .ref p0 :: As ∧ eg_isO wd M p0 2 = true := by
  intro argv M Qp h
  unfold s_X2_wouldLeave_v at h
  split at h
  · exact ⟨_, _, rfl, rfl⟩
  · exact h.elim
set_option maxRecDepth 100000 in
set_option maxHeartbeats 1000000 in
theorem T_X2_wouldLeave_v {argv : List Value} {M : eg_M} {Qp : eg_P} (h : s_X2_wouldLeave_v argv M Qp) : eg_T wd k_X2_wouldLeave_v Qp 0 0 0 (eg_lsN 3 argv) [] M := by
  unfold s_X2_wouldLeave_v at h
  split at h
  · rename_i t o
    obtain ⟨hp, hq⟩ := h
    obtain ⟨ht, ho, hM⟩ := hp
    refine st_X2_wouldLeave_v_0 t o (fun z => ⟨ht, ho.resolve_left z⟩) (fun z _ => ⟨ht, ho.resolve_left z, hM⟩) (fun z _ _ => ⟨ho.resolve_left z, ht, hM⟩) (fun z => ?_) (fun z => ?_)
    · rw [show k_wl M t o = false from by
        unfold k_wl
        rcases z with z | z | z | z
        · rw [decide_eq_false (fun w => w z), Bool.false_and]
        · rw [z, Bool.false_and, Bool.and_false]
        · rw [z, Bool.false_and, Bool.and_false, Bool.and_false]
        · rw [z, Bool.and_false, Bool.and_false, Bool.and_false]] at hq
      exact hq
    · rw [show k_wl M t o = true from by
        unfold k_wl
        rw [decide_eq_true z.1, bq_t z.2.1, bq_t z.2.2.1, bq_t z.2.2.2]
        rfl] at hq
      exact hq
  · exact h.elim
theorem de_X2_wouldLeave_v : ∀ q ∈ k_X2_wouldLeave_v.1, decode cX2_wouldLeave q.1 = .ok q.2 := by decide +kernel
theorem me_X2_wouldLeave_v (g : gl_T) : MT g yX2_wouldLeave cX2_wouldLeave 3 (some .boolean) ⟨1, 0, 0, 22⟩ 0 0 s_X2_wouldLeave_v := by
  intro hl
  exact eg_met_of (k := k_X2_wouldLeave_v) (by decide) rfl ⟨Nat.le_refl _, Nat.le_refl _⟩ rfl sz_X2_wouldLeave_v de_X2_wouldLeave_v (fun meth hn => (fn)) (fun A s H hE => (fn)) (fun p e s m args below meth c Q A ad0 N0 S0 hK hEx hA => (fc (mt_V hl S0 hK hEx hA (me_X2_areWished_v g) lm_RX2_71 li_X2_areWished lx_X2_areWished ln_RX2 lc_X2_areWished ⟨rfl, by decide, by decide, by decide +kernel⟩ ⟨rfl, rfl⟩ ⟨by decide, by decide⟩ (ci := 2) rfl rfl sr_X2_areWished_v (by decide)) (fc (mt_V hl S0 hK hEx hA (me_X2_prefers_v g) lm_RX2_78 li_X2_prefers lx_X2_prefers ln_RX2 lc_X2_prefers ⟨rfl, by decide, by decide, by decide +kernel⟩ ⟨rfl, rfl⟩ ⟨by decide, by decide⟩ (ci := 2) rfl rfl sr_X2_prefers_v (by decide)) (fn)))) (fun p e s m args below meth c Qc XC A ad0 N0 P S0 hK hEx hA hlk hout hPX => (fn)) (fun argv M Qp h => T_X2_wouldLeave_v h)

/-- the class: the one at place k and one ahead would leave -/
def k_qr (M : eg_M) (k i : Nat) : Bool := k_wl M (eg_gi M 119 k) (eg_gi M 118 (eg_gi M 119 i).toNatClampNeg) || k_wl M (eg_gi M 119 i) (eg_gi M 118 (eg_gi M 119 k).toNatClampNeg)
def k_X2_isQuarrel : eg_C := ([(0, .aload_n 0, 1), (1, .getfield 32, 3), (4, .iload_n 1, 1), (5, .iaload, 1), (6, .istore_n 2, 1), (7, .iconst 0, 1), (8, .istore_n 3, 1), (9, .iload_n 3, 1), (10, .iload_n 1, 1), (11, .if_icmp .ge 49, 3), (14, .aload_n 0, 1), (15, .getfield 32, 3), (18, .iload_n 3, 1), (19, .iaload, 1), (20, .istore 4, 2), (22, .aload_n 0, 1), (23, .iload_n 2, 1), (24, .aload_n 0, 1), (25, .getfield 29, 3), (28, .iload 4, 2), (30, .iaload, 1), (31, .invokevirtual 75, 3), (34, .ifCond .ne 18, 3), (37, .aload_n 0, 1), (38, .iload 4, 2), (40, .aload_n 0, 1), (41, .getfield 29, 3), (44, .iload_n 2, 1), (45, .iaload, 1), (46, .invokevirtual 75, 3), (49, .ifCond .eq 5, 3), (52, .iconst 1, 1), (53, .ireturn, 1), (54, .iinc 3 1, 3), (57, .goto (-48), 3), (60, .iconst 0, 1), (61, .ireturn, 1)], [(29, 2, 5, false), (32, 2, 6, false)], [], [(75, 2 + 1, 0, 0, s_X2_wouldLeave_v)], [], 2, 0, 0)
theorem mk_X2_isQuarrel : ∀ q ∈ k_X2_isQuarrel.2.2.2.1, eg_mono q.2.2.2.2 := (fc (mo_X2_wouldLeave_v) (fn))
set_option maxRecDepth 100000 in
theorem st_X2_isQuarrel_0 {Qp : eg_P} {M : eg_M} (u : Int32)
  (g0 : (vp_in u 6))
  (l0 : eg_T wd k_X2_isQuarrel Qp 9 0 0 [some (.ref 80), some (.int u), some (.int (eg_gi M 119 u.toNatClampNeg)), some (.int (nI 0)), none] [] M) :
  eg_T wd k_X2_isQuarrel Qp 0 0 0 [some (.ref 80), some (.int u), none, none, none] [] M := by
  refine eg_T_run mk_X2_isQuarrel (cut := [9, 22, 37]) 40 ?_
  refine And.intro (show vp_in u 6 from ?_) ?_
  · exact g0
  show eg_T wd k_X2_isQuarrel Qp 9 0 0 [some (.ref 80), some (.int u), some (.int (eg_gi M 119 u.toNatClampNeg)), some (.int (nI 0)), none] [] M
  exact l0

set_option maxRecDepth 100000 in
theorem st_X2_isQuarrel_9 {Qp : eg_P} {M : eg_M} (u : Int32) (x2 : Int32) (x3 : Int32) (o4 : Option Value)
  (g0 : (¬ (u ≤ x3)) → (vp_in x3 6))
  (l0 : (u ≤ x3) → Qp (.inl (some (.int (nI 0)))) M)
  (l1 : (¬ u ≤ x3) → eg_T wd k_X2_isQuarrel Qp 22 0 0 [some (.ref 80), some (.int u), some (.int x2), some (.int x3), some (.int (eg_gi M 119 x3.toNatClampNeg))] [] M) :
  eg_T wd k_X2_isQuarrel Qp 9 0 0 [some (.ref 80), some (.int u), some (.int x2), some (.int x3), o4] [] M := by
  refine eg_T_run mk_X2_isQuarrel (cut := [9, 22, 37]) 40 ?_
  refine And.intro (fun (c1 : u ≤ x3) => ?_) (fun (c1 : ¬ u ≤ x3) => ?_)
  · skip
    refine And.intro (fun _ => (show (nI 0) = 0 ∨ (nI 0) = 1 from ?_)) ?_
    · exact Or.inl rfl
    show Qp (.inl (some (.int (nI 0)))) M
    exact l0 c1
  · skip
    refine And.intro (show vp_in x3 6 from ?_) ?_
    · exact g0 c1
    show eg_T wd k_X2_isQuarrel Qp 22 0 0 [some (.ref 80), some (.int u), some (.int x2), some (.int x3), some (.int (eg_gi M 119 x3.toNatClampNeg))] [] M
    exact l1 c1

set_option maxRecDepth 100000 in
theorem st_X2_isQuarrel_22 {Qp : eg_P} {M : eg_M} (u : Int32) (x2 : Int32) (x3 : Int32) (x4 : Int32)
  (g0 : (vp_in x4 16))
  (g1 : (k_t1 x2 ∧ k_tw (eg_gi M 118 x4.toNatClampNeg) ∧ k_mt M))
  (l0 : ((k_wl M x2 (eg_gi M 118 x4.toNatClampNeg)) = false) → eg_T wd k_X2_isQuarrel Qp 37 0 0 [some (.ref 80), some (.int u), some (.int x2), some (.int x3), some (.int x4)] [] M)
  (l1 : (¬ (k_wl M x2 (eg_gi M 118 x4.toNatClampNeg)) = false) → Qp (.inl (some (.int (nI 1)))) M) :
  eg_T wd k_X2_isQuarrel Qp 22 0 0 [some (.ref 80), some (.int u), some (.int x2), some (.int x3), some (.int x4)] [] M := by
  refine eg_T_run mk_X2_isQuarrel (cut := [9, 22, 37]) 40 ?_
  refine And.intro (show vp_in x4 16 from ?_) ?_
  · exact g0
  refine And.intro (show (k_t1 x2 ∧ k_tw (eg_gi M 118 x4.toNatClampNeg) ∧ k_mt M) from ?_) ?_
  · exact g1
  refine And.intro (fun (c1 : (b2i (k_wl M x2 (eg_gi M 118 x4.toNatClampNeg))) = 0) => ?_) (fun (c1 : ¬ (b2i (k_wl M x2 (eg_gi M 118 x4.toNatClampNeg))) = 0) => ?_)
  · replace c1 := b2i_0.mp c1
    show eg_T wd k_X2_isQuarrel Qp 37 0 0 [some (.ref 80), some (.int u), some (.int x2), some (.int x3), some (.int x4)] [] M
    exact l0 c1
  · replace c1 := b2i_ff c1
    refine And.intro (fun _ => (show (nI 1) = 0 ∨ (nI 1) = 1 from ?_)) ?_
    · exact Or.inr rfl
    show Qp (.inl (some (.int (nI 1)))) M
    exact l1 c1

set_option maxRecDepth 100000 in
theorem st_X2_isQuarrel_37 {Qp : eg_P} {M : eg_M} (u : Int32) (x2 : Int32) (x3 : Int32) (x4 : Int32)
  (g0 : (vp_in x2 16))
  (g1 : (k_t1 x4 ∧ k_tw (eg_gi M 118 x2.toNatClampNeg) ∧ k_mt M))
  (l0 : ((k_wl M x4 (eg_gi M 118 x2.toNatClampNeg)) = false) → eg_T wd k_X2_isQuarrel Qp 9 0 0 [some (.ref 80), some (.int u), some (.int x2), some (.int (x3 + (nI 1))), some (.int x4)] [] M)
  (l1 : (¬ (k_wl M x4 (eg_gi M 118 x2.toNatClampNeg)) = false) → Qp (.inl (some (.int (nI 1)))) M) :
  eg_T wd k_X2_isQuarrel Qp 37 0 0 [some (.ref 80), some (.int u), some (.int x2), some (.int x3), some (.int x4)] [] M := by
  refine eg_T_run mk_X2_isQuarrel (cut := [9, 22, 37]) 40 ?_
  refine And.intro (show vp_in x2 16 from ?_) ?_
  · exact g0
  refine And.intro (show (k_t1 x4 ∧ k_tw (eg_gi M 118 x2.toNatClampNeg) ∧ k_mt M) from ?_) ?_
  · exact g1
  refine And.intro (fun (c1 : (b2i (k_wl M x4 (eg_gi M 118 x2.toNatClampNeg))) = 0) => ?_) (fun (c1 : ¬ (b2i (k_wl M x4 (eg_gi M 118 x2.toNatClampNeg))) = 0) => ?_)
  · replace c1 := b2i_0.mp c1
    show eg_T wd k_X2_isQuarrel Qp 9 0 0 [some (.ref 80), some (.int u), some (.int x2), some (.int (x3 + (nI 1))), some (.int x4)] [] M
    exact l0 c1
  · replace c1 := b2i_ff c1
    refine And.intro (fun _ => (show (nI 1) = 0 ∨ (nI 1) = 1 from ?_)) ?_
    · exact Or.inr rfl
    show Qp (.inl (some (.int (nI 1)))) M
    exact l1 c1

def s_X2_isQuarrel : eg_S := fun argv M Qp => match argv with
  | [.ref 80, .int u] => (k_mt M ∧ ∃ k, k < 6 ∧ u = nI k ∧ ∀ i, i ≤ k → k_t1 (eg_gi M 119 i)) ∧ Qp (.inl (some (.int (b2i ((List.range u.toNatClampNeg).any (k_qr M u.toNatClampNeg)))))) M
  | _ => False
theorem mo_X2_isQuarrel : eg_mono s_X2_isQuarrel := by
  intro argv M Q Q' h
  unfold s_X2_isQuarrel
  split
  · exact fun z => ⟨z.1, h _ _ z.2⟩
  · exact id
theorem sz_X2_isQuarrel : ∀ argv M Qp, s_X2_isQuarrel argv M Qp → (eg_ls0 argv).length ≤ 5 := by
  intro argv M Qp h
  unfold s_X2_isQuarrel at h
  split at h
  · exact Nat.le_of_ble_eq_true rfl
  · exact h.elim
theorem sr_X2_isQuarrel : ∀ argv M Qp, s_X2_isQuarrel argv M Qp → ∃ p0 As, argv = .ref p0 :: As ∧ eg_isO wd M p0 2 = true := by
  intro argv M Qp h
  unfold s_X2_isQuarrel at h
  split at h
  · exact ⟨_, _, rfl, rfl⟩
  · exact h.elim
set_option maxRecDepth 100000 in
set_option maxHeartbeats 1000000 in
theorem T_X2_isQuarrel {argv : List Value} {M : eg_M} {Qp : eg_P} (h : s_X2_isQuarrel argv M Qp) : eg_T wd k_X2_isQuarrel Qp 0 0 0 (eg_lsN 5 argv) [] M := by
  unfold s_X2_isQuarrel at h
  split at h
  · rename_i u
    obtain ⟨hp, hq⟩ := h
    obtain ⟨hM, k, hk, rfl, hF⟩ := hp
    rw [n_c (by omega)] at hq
    have lp : ∀ i (o : Option Value), i ≤ k → (List.range i).any (k_qr M k) = false → eg_T wd k_X2_isQuarrel Qp 9 0 0 [some (.ref 80), some (.int (nI k)), some (.int (eg_gi M 119 k)), some (.int (nI i)), o] [] M := by
      refine eg_for ?_
      intro i o hi hI kk
      have st := st_X2_isQuarrel_9 (Qp := Qp) (M := M) (nI k) (eg_gi M 119 k) (nI i) o
      rw [n_c (show i < 2 ^ 31 by omega), n_le (by omega) (by omega), Nat.not_le, n_in (by omega) (by decide)] at st
      obtain ⟨a, ha, ea⟩ := hF i hi
      obtain ⟨b, hb, eb⟩ := hF k (Nat.le_refl _)
      have hqt : i < k → k_qr M k i = true → Qp (.inl (some (.int (nI 1)))) M := by
        intro z1 z2
        rw [show (List.range k).any (k_qr M k) = true from List.any_eq_true.mpr ⟨i, List.mem_range.mpr z1, z2⟩] at hq
        exact hq
      have hta : k_tw (eg_gi M 118 (eg_gi M 119 i).toNatClampNeg) := by rw [ea, n_c (by omega)]; exact hM a ha
      have htb : k_tw (eg_gi M 118 (eg_gi M 119 k).toNatClampNeg) := by rw [eb, n_c (by omega)]; exact hM b hb
      have va : vp_in (eg_gi M 119 i) 16 := by rw [ea]; exact (n_in (by omega) (by decide)).mpr ha
      have vb : vp_in (eg_gi M 119 k) 16 := by rw [eb]; exact (n_in (by omega) (by decide)).mpr hb
      refine st (fun _ => by omega) (fun z => ?_) (fun z => ?_)
      · have : i = k := by omega
        subst this
        rw [hI] at hq
        exact hq
      · refine st_X2_isQuarrel_22 _ _ _ _ va ⟨⟨b, hb, eb⟩, hta, hM⟩ (fun z2 => ?_) (fun z2 => ?_)
        · refine st_X2_isQuarrel_37 _ _ _ _ vb ⟨⟨a, ha, ea⟩, htb, hM⟩ (fun z3 => ?_) (fun z3 => ?_)
          · rw [n_s]
            refine kk _ z ?_
            rw [List.range_succ, List.any_append, hI, Bool.false_or, List.any_cons, List.any_nil, Bool.or_false]
            unfold k_qr
            rw [z2, z3]
            rfl
          · refine hqt z ?_
            unfold k_qr
            rw [bq_t z3, Bool.or_true]
        · refine hqt z ?_
          unfold k_qr
          rw [bq_t z2, Bool.true_or]
    have st := st_X2_isQuarrel_0 (Qp := Qp) (M := M) (nI k)
    rw [n_c (by omega)] at st
    exact st ((n_in (by omega) (by decide)).mpr hk) (lp 0 none (Nat.zero_le _) rfl)
  · exact h.elim
theorem de_X2_isQuarrel : ∀ q ∈ k_X2_isQuarrel.1, decode cX2_isQuarrel q.1 = .ok q.2 := by decide +kernel
theorem me_X2_isQuarrel (g : gl_T) : MT g yX2_isQuarrel cX2_isQuarrel 5 (some .boolean) ⟨2, 0, 0, 44⟩ 0 0 s_X2_isQuarrel := by
  intro hl
  exact eg_met_of (k := k_X2_isQuarrel) (by decide) rfl ⟨Nat.le_refl _, Nat.le_refl _⟩ rfl sz_X2_isQuarrel de_X2_isQuarrel (fun meth hn => (fc (eg_FL_of wd_c2 (by decide) lf_RX2_29 (fun h => absurd h (by decide))) (fc (eg_FL_of wd_c2 (by decide) lf_RX2_32 (fun h => absurd h (by decide))) (fn)))) (fun A s H hE => (fn)) (fun p e s m args below meth c Q A ad0 N0 S0 hK hEx hA => (fc (mt_V hl S0 hK hEx hA (me_X2_wouldLeave_v g) lm_RX2_75 li_X2_wouldLeave lx_X2_wouldLeave ln_RX2 lc_X2_wouldLeave ⟨rfl, by decide, by decide, by decide +kernel⟩ ⟨rfl, rfl⟩ ⟨by decide, by decide⟩ (ci := 2) rfl rfl sr_X2_wouldLeave_v (by decide)) (fn))) (fun p e s m args below meth c Qc XC A ad0 N0 P S0 hK hEx hA hlk hout hPX => (fn)) (fun argv M Qp h => T_X2_isQuarrel h)

/-- the class: a second without a mate would leave with a first -/
def k_sl (M : eg_M) (i j : Nat) : Bool := decide (eg_gi M 118 (eg_gi M 120 i).toNatClampNeg = -nI 1) && k_wl M (eg_gi M 119 j) (eg_gi M 120 i)
/-- firsts and seconds are towns -/
def k_fs (M : eg_M) : Prop := (eg_cn (eg_gi M 80 8) 6 ∧ ∀ i, i < (eg_gi M 80 8).toNatClampNeg → k_t1 (eg_gi M 119 i)) ∧ eg_cn (eg_gi M 80 9) 6 ∧ ∀ i, i < (eg_gi M 80 9).toNatClampNeg → k_t1 (eg_gi M 120 i)
def k_sA (M : eg_M) : Bool := (List.range (eg_gi M 80 9).toNatClampNeg).any (fun i => (List.range (eg_gi M 80 8).toNatClampNeg).any (k_sl M i))
def k_X2_isAnySecondLeft : eg_C := ([(0, .iconst 0, 1), (1, .istore_n 1, 1), (2, .iload_n 1, 1), (3, .aload_n 0, 1), (4, .getfield 42, 3), (7, .if_icmp .ge 61, 3), (10, .iconst 0, 1), (11, .istore_n 2, 1), (12, .iload_n 2, 1), (13, .aload_n 0, 1), (14, .getfield 38, 3), (17, .if_icmp .ge 45, 3), (20, .aload_n 0, 1), (21, .getfield 29, 3), (24, .aload_n 0, 1), (25, .getfield 35, 3), (28, .iload_n 1, 1), (29, .iaload, 1), (30, .iaload, 1), (31, .iconst (-1), 1), (32, .if_icmp .ne 24, 3), (35, .aload_n 0, 1), (36, .aload_n 0, 1), (37, .getfield 32, 3), (40, .iload_n 2, 1), (41, .iaload, 1), (42, .aload_n 0, 1), (43, .getfield 35, 3), (46, .iload_n 1, 1), (47, .iaload, 1), (48, .invokevirtual 75, 3), (51, .ifCond .eq 5, 3), (54, .iconst 1, 1), (55, .ireturn, 1), (56, .iinc 2 1, 3), (59, .goto (-47), 3), (62, .iinc 1 1, 3), (65, .goto (-63), 3), (68, .iconst 0, 1), (69, .ireturn, 1)], [(29, 2, 5, false), (32, 2, 6, false), (35, 2, 7, false), (38, 2, 8, false), (42, 2, 9, false)], [], [(75, 2 + 1, 0, 0, s_X2_wouldLeave_v)], [], 2, 0, 0)
theorem mk_X2_isAnySecondLeft : ∀ q ∈ k_X2_isAnySecondLeft.2.2.2.1, eg_mono q.2.2.2.2 := (fc (mo_X2_wouldLeave_v) (fn))
set_option maxRecDepth 100000 in
theorem st_X2_isAnySecondLeft_0 {Qp : eg_P} {M : eg_M} 
  (l0 : eg_T wd k_X2_isAnySecondLeft Qp 2 0 0 [some (.ref 80), some (.int (nI 0)), none] [] M) :
  eg_T wd k_X2_isAnySecondLeft Qp 0 0 0 [some (.ref 80), none, none] [] M := by
  refine eg_T_run mk_X2_isAnySecondLeft (cut := [2, 12]) 43 ?_
  show eg_T wd k_X2_isAnySecondLeft Qp 2 0 0 [some (.ref 80), some (.int (nI 0)), none] [] M
  exact l0

set_option maxRecDepth 100000 in
theorem st_X2_isAnySecondLeft_2 {Qp : eg_P} {M : eg_M} (x1 : Int32) (o2 : Option Value)
  (l0 : ((eg_gi M 80 9) ≤ x1) → Qp (.inl (some (.int (nI 0)))) M)
  (l1 : (¬ (eg_gi M 80 9) ≤ x1) → eg_T wd k_X2_isAnySecondLeft Qp 12 0 0 [some (.ref 80), some (.int x1), some (.int (nI 0))] [] M) :
  eg_T wd k_X2_isAnySecondLeft Qp 2 0 0 [some (.ref 80), some (.int x1), o2] [] M := by
  refine eg_T_run mk_X2_isAnySecondLeft (cut := [2, 12]) 43 ?_
  refine And.intro (fun (c1 : (eg_gi M 80 9) ≤ x1) => ?_) (fun (c1 : ¬ (eg_gi M 80 9) ≤ x1) => ?_)
  · skip
    refine And.intro (fun _ => (show (nI 0) = 0 ∨ (nI 0) = 1 from ?_)) ?_
    · exact Or.inl rfl
    show Qp (.inl (some (.int (nI 0)))) M
    exact l0 c1
  · skip
    show eg_T wd k_X2_isAnySecondLeft Qp 12 0 0 [some (.ref 80), some (.int x1), some (.int (nI 0))] [] M
    exact l1 c1

set_option maxRecDepth 100000 in
theorem st_X2_isAnySecondLeft_12 {Qp : eg_P} {M : eg_M} (x1 : Int32) (x2 : Int32)
  (g0 : (¬ ((eg_gi M 80 8) ≤ x2)) → (vp_in x1 6))
  (g1 : (¬ ((eg_gi M 80 8) ≤ x2)) → (vp_in (eg_gi M 120 x1.toNatClampNeg) 16))
  (g2 : (¬ ((eg_gi M 80 8) ≤ x2)) → ((eg_gi M 118 (eg_gi M 120 x1.toNatClampNeg).toNatClampNeg) = (-nI 1)) → (vp_in x2 6))
  (g3 : (¬ ((eg_gi M 80 8) ≤ x2)) → ((eg_gi M 118 (eg_gi M 120 x1.toNatClampNeg).toNatClampNeg) = (-nI 1)) → (k_t1 (eg_gi M 119 x2.toNatClampNeg) ∧ k_tw (eg_gi M 120 x1.toNatClampNeg) ∧ k_mt M))
  (l0 : ((eg_gi M 80 8) ≤ x2) → eg_T wd k_X2_isAnySecondLeft Qp 2 0 0 [some (.ref 80), some (.int (x1 + (nI 1))), some (.int x2)] [] M)
  (l1 : (¬ (eg_gi M 80 8) ≤ x2 ∧ (¬ (eg_gi M 118 (eg_gi M 120 x1.toNatClampNeg).toNatClampNeg) = (-nI 1) ∨ (k_wl M (eg_gi M 119 x2.toNatClampNeg) (eg_gi M 120 x1.toNatClampNeg)) = false)) → eg_T wd k_X2_isAnySecondLeft Qp 12 0 0 [some (.ref 80), some (.int x1), some (.int (x2 + (nI 1)))] [] M)
  (l2 : (¬ (eg_gi M 80 8) ≤ x2 ∧ ((eg_gi M 118 (eg_gi M 120 x1.toNatClampNeg).toNatClampNeg) = (-nI 1) ∧ ¬ (k_wl M (eg_gi M 119 x2.toNatClampNeg) (eg_gi M 120 x1.toNatClampNeg)) = false)) → Qp (.inl (some (.int (nI 1)))) M) :
  eg_T wd k_X2_isAnySecondLeft Qp 12 0 0 [some (.ref 80), some (.int x1), some (.int x2)] [] M := by
  refine eg_T_run mk_X2_isAnySecondLeft (cut := [2, 12]) 43 ?_
  refine And.intro (fun (c1 : (eg_gi M 80 8) ≤ x2) => ?_) (fun (c1 : ¬ (eg_gi M 80 8) ≤ x2) => ?_)
  · skip
    show eg_T wd k_X2_isAnySecondLeft Qp 2 0 0 [some (.ref 80), some (.int (x1 + (nI 1))), some (.int x2)] [] M
    exact l0 c1
  · skip
    refine And.intro (show vp_in x1 6 from ?_) ?_
    · exact g0 c1
    refine And.intro (show vp_in (eg_gi M 120 x1.toNatClampNeg) 16 from ?_) ?_
    · exact g1 c1
    refine And.intro (fun (c2 : (eg_gi M 118 (eg_gi M 120 x1.toNatClampNeg).toNatClampNeg) = (-nI 1)) => ?_) (fun (c2 : ¬ (eg_gi M 118 (eg_gi M 120 x1.toNatClampNeg).toNatClampNeg) = (-nI 1)) => ?_)
    · skip
      refine And.intro (show vp_in x2 6 from ?_) ?_
      · exact g2 c1 c2
      refine And.intro (show vp_in x1 6 from ?_) ?_
      · exact g0 c1
      refine And.intro (show (k_t1 (eg_gi M 119 x2.toNatClampNeg) ∧ k_tw (eg_gi M 120 x1.toNatClampNeg) ∧ k_mt M) from ?_) ?_
      · exact g3 c1 c2
      refine And.intro (fun (c3 : (b2i (k_wl M (eg_gi M 119 x2.toNatClampNeg) (eg_gi M 120 x1.toNatClampNeg))) = 0) => ?_) (fun (c3 : ¬ (b2i (k_wl M (eg_gi M 119 x2.toNatClampNeg) (eg_gi M 120 x1.toNatClampNeg))) = 0) => ?_)
      · replace c3 := b2i_0.mp c3
        show eg_T wd k_X2_isAnySecondLeft Qp 12 0 0 [some (.ref 80), some (.int x1), some (.int (x2 + (nI 1)))] [] M
        exact l1 ⟨c1, (Or.inr c3)⟩
      · replace c3 := b2i_ff c3
        refine And.intro (fun _ => (show (nI 1) = 0 ∨ (nI 1) = 1 from ?_)) ?_
        · exact Or.inr rfl
        show Qp (.inl (some (.int (nI 1)))) M
        exact l2 ⟨c1, ⟨c2, c3⟩⟩
    · skip
      show eg_T wd k_X2_isAnySecondLeft Qp 12 0 0 [some (.ref 80), some (.int x1), some (.int (x2 + (nI 1)))] [] M
      exact l1 ⟨c1, (Or.inl c2)⟩

def s_X2_isAnySecondLeft : eg_S := fun argv M Qp => match argv with
  | [.ref 80] => (k_mt M ∧ k_fs M) ∧ Qp (.inl (some (.int (b2i (k_sA M))))) M
  | _ => False
theorem mo_X2_isAnySecondLeft : eg_mono s_X2_isAnySecondLeft := by
  intro argv M Q Q' h
  unfold s_X2_isAnySecondLeft
  split
  · exact fun z => ⟨z.1, h _ _ z.2⟩
  · exact id
theorem sz_X2_isAnySecondLeft : ∀ argv M Qp, s_X2_isAnySecondLeft argv M Qp → (eg_ls0 argv).length ≤ 3 := by
  intro argv M Qp h
  unfold s_X2_isAnySecondLeft at h
  split at h
  · exact Nat.le_of_ble_eq_true rfl
  · exact h.elim
theorem sr_X2_isAnySecondLeft : ∀ argv M Qp, s_X2_isAnySecondLeft argv M Qp → ∃ p0 As, argv = .ref p0 :: As ∧ eg_isO wd M p0 2 = true := by
  intro argv M Qp h
  unfold s_X2_isAnySecondLeft at h
  split at h
  · exact ⟨_, _, rfl, rfl⟩
  · exact h.elim
set_option maxRecDepth 100000 in
set_option maxHeartbeats 1000000 in
theorem T_X2_isAnySecondLeft {argv : List Value} {M : eg_M} {Qp : eg_P} (h : s_X2_isAnySecondLeft argv M Qp) : eg_T wd k_X2_isAnySecondLeft Qp 0 0 0 (eg_lsN 3 argv) [] M := by
  unfold s_X2_isAnySecondLeft at h
  split at h
  · obtain ⟨hp, hq⟩ := h
    obtain ⟨hM, ⟨⟨n, hn, hN⟩, hF⟩, ⟨m, hm, hE⟩, hS⟩ := hp
    unfold k_sA at hq
    rw [hN, n_c (by omega)] at hF hq
    rw [hE, n_c (by omega)] at hS hq
    have lp : ∀ i (o : Option Value), i ≤ m → (List.range i).any (fun i => (List.range n).any (k_sl M i)) = false → eg_T wd k_X2_isAnySecondLeft Qp 2 0 0 [some (.ref 80), some (.int (nI i)), o] [] M := by
      refine eg_for ?_
      intro i o hi hI kk
      have st := st_X2_isAnySecondLeft_2 (Qp := Qp) (M := M) (nI i) o
      rw [hE, n_le (by omega) (by omega), Nat.not_le] at st
      refine st (fun z => ?_) (fun z => ?_)
      · have : i = m := by omega
        subst this
        rw [hI] at hq
        exact hq
      · obtain ⟨a, ha, ea⟩ := hS i z
        have li : ∀ j (_ : Unit), j ≤ n → (List.range j).any (k_sl M i) = false → eg_T wd k_X2_isAnySecondLeft Qp 12 0 0 [some (.ref 80), some (.int (nI i)), some (.int (nI j))] [] M := by
          refine eg_for ?_
          intro j _ hj hJ kj
          have s2 := st_X2_isAnySecondLeft_12 (Qp := Qp) (M := M) (nI i) (nI j)
          rw [n_c (show i < 2 ^ 31 by omega), n_c (show j < 2 ^ 31 by omega), hN, n_le (by omega) (by omega), Nat.not_le, n_s, n_s, n_in (by omega) (by decide), n_in (by omega) (by decide)] at s2
          refine s2 (fun _ => by omega) (fun _ => ?_) (fun _ _ => by omega) (fun w _ => ⟨hF j w, Or.inr ⟨a, ha, ea⟩, hM⟩) (fun w => ?_) (fun w => ?_) (fun w => ?_)
          · rw [ea]; exact (n_in (by omega) (by decide)).mpr ha
          · have : j = n := by omega
            subst this
            refine kk _ z ?_
            rw [List.range_succ, List.any_append, hI, Bool.false_or, List.any_cons, List.any_nil, Bool.or_false]
            exact hJ
          · refine kj () w.1 ?_
            rw [List.range_succ, List.any_append, hJ, Bool.false_or, List.any_cons, List.any_nil, Bool.or_false]
            unfold k_sl
            rcases w.2 with y | y
            · rw [decide_eq_false y, Bool.false_and]
            · rw [y, Bool.and_false]
          · rw [show (List.range m).any (fun i => (List.range n).any (k_sl M i)) = true from ?_] at hq
            · exact hq
            · rw [List.any_eq_true]
              refine ⟨i, List.mem_range.mpr z, List.any_eq_true.mpr ⟨j, List.mem_range.mpr w.1, ?_⟩⟩
              unfold k_sl
              rw [decide_eq_true w.2.1, bq_t w.2.2]
              rfl
        exact li 0 () (Nat.zero_le _) rfl
    exact st_X2_isAnySecondLeft_0 (lp 0 none (Nat.zero_le _) rfl)
    
  · exact h.elim
theorem de_X2_isAnySecondLeft : ∀ q ∈ k_X2_isAnySecondLeft.1, decode cX2_isAnySecondLeft q.1 = .ok q.2 := by decide +kernel
theorem me_X2_isAnySecondLeft (g : gl_T) : MT g yX2_isAnySecondLeft cX2_isAnySecondLeft 3 (some .boolean) ⟨2, 0, 0, 44⟩ 0 0 s_X2_isAnySecondLeft := by
  intro hl
  exact eg_met_of (k := k_X2_isAnySecondLeft) (by decide) rfl ⟨Nat.le_refl _, Nat.le_refl _⟩ rfl sz_X2_isAnySecondLeft de_X2_isAnySecondLeft (fun meth hn => (fc (eg_FL_of wd_c2 (by decide) lf_RX2_29 (fun h => absurd h (by decide))) (fc (eg_FL_of wd_c2 (by decide) lf_RX2_32 (fun h => absurd h (by decide))) (fc (eg_FL_of wd_c2 (by decide) lf_RX2_35 (fun h => absurd h (by decide))) (fc (eg_FL_of wd_c2 (by decide) lf_RX2_38 (fun h => absurd h (by decide))) (fc (eg_FL_of wd_c2 (by decide) lf_RX2_42 (fun h => absurd h (by decide))) (fn))))))) (fun A s H hE => (fn)) (fun p e s m args below meth c Q A ad0 N0 S0 hK hEx hA => (fc (mt_V hl S0 hK hEx hA (me_X2_wouldLeave_v g) lm_RX2_75 li_X2_wouldLeave lx_X2_wouldLeave ln_RX2 lc_X2_wouldLeave ⟨rfl, by decide, by decide, by decide +kernel⟩ ⟨rfl, rfl⟩ ⟨by decide, by decide⟩ (ci := 2) rfl rfl sr_X2_wouldLeave_v (by decide)) (fn))) (fun p e s m args below meth c Qc XC A ad0 N0 P S0 hK hEx hA hlk hout hPX => (fn)) (fun argv M Qp h => T_X2_isAnySecondLeft h)

theorem n_sb {a b : Nat} : nI (a + b) - nI b = nI a := by rw [← n_s, Int32.add_sub_cancel]
theorem rl_rl (M : eg_M) (p : Nat) (f g : Nat → Int64) : eg_rl (eg_rl M p f) p g = eg_rl M p g := by
  unfold eg_rl
  refine Prod.ext rfl (Prod.ext rfl (Prod.ext ?_ rfl))
  funext q
  by_cases h : q = p <;> simp [h]
theorem ri_ri (M : eg_M) (p : Nat) (f g : Nat → Int32) : eg_ri (eg_ri M p f) p g = eg_ri M p g := by
  unfold eg_ri
  refine Prod.ext rfl (Prod.ext ?_ rfl)
  funext q
  by_cases h : q = p <;> simp [h]
theorem rl_gi (M : eg_M) (p q j : Nat) (f : Nat → Int64) : eg_gi (eg_rl M p f) q j = eg_gi M q j := rfl
theorem ri_gl (M : eg_M) (p q j : Nat) (f : Nat → Int32) : eg_gl (eg_ri M p f) q j = eg_gl M q j := rfl
/-- one step of a rule on a stack, its top first: 0 and above a number, -11 and below a value -/
def p_st (V : Nat → Int64) (s : Int32) (k : List Int64) : List Int64 :=
  if 0 ≤ s.toInt then s.toInt64 :: k
  else if s.toInt ≤ -11 then V (-11 - s.toInt).toNat :: k
  else if s.toInt = -3 then (match k with
    | x :: r => (if x = lN 0 then lN 1 else lN 0) :: r
    | [] => [])
  else (match k with
    | y :: x :: r => p_op s x y :: r
    | k => k)
def p_run (V : Nat → Int64) : List Int32 → List Int64 → List Int64
  | [], k => k
  | s :: P, k => p_run V P (p_st V s k)
/-- the steps lead from height h to height e, never above m, never short of what they join; none is UNLESS -/
def p_ok (m e : Nat) : List Int32 → Nat → Prop
  | [], h => h = e
  | s :: P, h =>
    if 0 ≤ s.toInt then h < m ∧ p_ok m e P (h + 1)
    else if s.toInt ≤ -11 then -21 ≤ s.toInt ∧ h < m ∧ p_ok m e P (h + 1)
    else if s.toInt = -3 then 1 ≤ h ∧ p_ok m e P h
    else ¬ s.toInt = -10 ∧ 2 ≤ h ∧ p_ok m e P (h - 1)
/-- the model's word for a step below 0 -/
def m_c (s : Int32) : Int32 :=
  if s.toInt = -1 then nI 8 else if s.toInt = -2 then nI 7 else if s.toInt = -3 then nI 9 else if s.toInt = -4 then nI 5 else if s.toInt = -5 then nI 6 else
  if s.toInt = -6 then nI 1 else if s.toInt = -7 then nI 2 else if s.toInt = -8 then nI 3 else if s.toInt = -9 then nI 4 else nI (9 - s.toInt).toNat
/-- the model's row holds the steps from a on, up to b -/
def m_sl (C : Nat → Int32) (b : Nat) : List Int32 → Nat → Prop
  | [], a => a = b
  | s :: P, a => if 0 ≤ s.toInt then C a = 0 ∧ C (a + 1) = s ∧ m_sl C b P (a + 2) else C a = m_c s ∧ m_sl C b P (a + 1)
theorem m_sl_le {C : Nat → Int32} {b : Nat} : ∀ {P : List Int32} {a : Nat}, m_sl C b P a → a ≤ b
  | [], a, h => Nat.le_of_eq h
  | s :: P, a, h => by
    unfold m_sl at h
    split at h
    · have := m_sl_le h.2.2; omega
    · have := m_sl_le h.2; omega
theorem m_sl_lt {C : Nat → Int32} {b : Nat} {s : Int32} {P : List Int32} {a : Nat} (h : m_sl C b (s :: P) a) : a < b ∧ (0 ≤ s.toInt → a + 1 < b) := by
  unfold m_sl at h
  split at h
  · have := m_sl_le h.2.2; omega
  · have := m_sl_le h.2; omega
/-- the words for what joins two -/
theorem m_c_op {s : Int32} (h0 : ¬ 0 ≤ s.toInt) (h1 : ¬ s.toInt ≤ -11) (h2 : ¬ s.toInt = -3) (h3 : ¬ s.toInt = -10) : ¬ m_c s = 0 ∧ m_c s < nI 20 ∧ ¬ m_c s = nI 9 ∧ ∀ x y, m_two (m_c s) x y = p_op s x y := by
  rcases (show s.toInt = -1 ∨ s.toInt = -2 ∨ s.toInt = -4 ∨ s.toInt = -5 ∨ s.toInt = -6 ∨ s.toInt = -7 ∨ s.toInt = -8 ∨ s.toInt = -9 by omega) with h | h | h | h | h | h | h | h
  all_goals
    have e : m_c s = m_c (Int32.ofInt s.toInt) := by rw [Int32.ofInt_toInt]
    have e2 : ∀ x y, p_op s x y = p_op (Int32.ofInt s.toInt) x y := by rw [Int32.ofInt_toInt]; exact fun _ _ => rfl
    rw [e]
    simp only [e2, h]
    refine ⟨by decide, by decide, by decide, fun x y => ?_⟩
    first
    | rfl
    | (simp [m_two, p_op, m_c]; done)
theorem m_c_val {s : Int32} (h1 : s.toInt ≤ -11) (h2 : -21 ≤ s.toInt) : m_c s = nI ((-11 - s.toInt).toNat + 20) := by
  unfold m_c
  simp (disch := omega) only [if_neg]
  congr 1
  omega
/-- back from the model's word -/
def m_di (c : Int32) : Int :=
  if c = nI 8 then -1 else if c = nI 7 then -2 else if c = nI 9 then -3 else if c = nI 5 then -4 else if c = nI 6 then -5 else
  if c = nI 1 then -6 else if c = nI 2 then -7 else if c = nI 3 then -8 else if c = nI 4 then -9 else 9 - c.toInt
theorem m_di_c {s : Int32} (h0 : ¬ 0 ≤ s.toInt) (h1 : -21 ≤ s.toInt) (h3 : ¬ s.toInt = -10) : m_di (m_c s) = s.toInt := by
  by_cases c : s.toInt ≤ -11
  · rw [m_c_val c h1]
    unfold m_di
    simp (disch := omega) only [n_eq, if_neg]
    rw [nI_toInt (by omega)]
    omega
  · rcases (show s.toInt = -1 ∨ s.toInt = -2 ∨ s.toInt = -3 ∨ s.toInt = -4 ∨ s.toInt = -5 ∨ s.toInt = -6 ∨ s.toInt = -7 ∨ s.toInt = -8 ∨ s.toInt = -9 by omega) with h | h | h | h | h | h | h | h | h
    all_goals
      have e : m_c s = m_c (Int32.ofInt s.toInt) := by rw [Int32.ofInt_toInt]
      rw [e, h]
      decide
theorem m_c_ne0 {s : Int32} (h0 : ¬ 0 ≤ s.toInt) (h1 : -21 ≤ s.toInt) (h3 : ¬ s.toInt = -10) : ¬ m_c s = 0 := by
  intro h
  have := m_di_c h0 h1 h3
  rw [h] at this
  have e : m_di 0 = 9 := by decide
  omega
/-- what the steps themselves must be -/
theorem p_ok_hd {m e : Nat} {s : Int32} {P : List Int32} {h : Nat} (hk : p_ok m e (s :: P) h) : (0 ≤ s.toInt ∨ (-21 ≤ s.toInt ∧ ¬ s.toInt = -10)) ∧ ∃ h', p_ok m e P h' := by
  unfold p_ok at hk
  split at hk
  · exact ⟨Or.inl ‹_›, _, hk.2⟩
  · split at hk
    · exact ⟨Or.inr ⟨hk.1, by omega⟩, _, hk.2.2⟩
    · split at hk
      · exact ⟨Or.inr ⟨by omega, by omega⟩, _, hk.2⟩
      · exact ⟨Or.inr ⟨by omega, hk.1⟩, _, hk.2.2⟩
theorem m_sl_inj {C : Nat → Int32} {b m e : Nat} : ∀ {P Q : List Int32} {a h h' : Nat}, m_sl C b P a → m_sl C b Q a → p_ok m e P h → p_ok m e Q h' → P = Q
  | [], [], _, _, _, _, _, _, _ => rfl
  | [], s :: Q, a, _, _, h1, h2, _, _ => by
    have := m_sl_lt h2
    have h1 : a = b := h1
    omega
  | s :: P, [], a, _, _, h1, h2, _, _ => by
    have := m_sl_lt h1
    have h2 : a = b := h2
    omega
  | s :: P, t :: Q, a, _, _, h1, h2, h3, h4 => by
    obtain ⟨hs, _, hP⟩ := p_ok_hd h3
    obtain ⟨ht, _, hQ⟩ := p_ok_hd h4
    unfold m_sl at h1 h2
    by_cases c : 0 ≤ s.toInt
    · rw [if_pos c] at h1
      by_cases d : 0 ≤ t.toInt
      · rw [if_pos d] at h2
        rw [m_sl_inj h1.2.2 h2.2.2 hP hQ, ← h1.2.1, ← h2.2.1]
      · rw [if_neg d] at h2
        have ht := ht.resolve_left d
        exact absurd (h2.1.symm.trans h1.1) (m_c_ne0 d ht.1 ht.2)
    · rw [if_neg c] at h1
      have hs := hs.resolve_left c
      by_cases d : 0 ≤ t.toInt
      · rw [if_pos d] at h2
        exact absurd (h1.1.symm.trans h2.1) (m_c_ne0 c hs.1 hs.2)
      · rw [if_neg d] at h2
        have ht := ht.resolve_left d
        have e1 := m_di_c c hs.1 hs.2
        have e2 := m_di_c d ht.1 ht.2
        rw [← h1.1, h2.1, e2] at e1
        rw [m_sl_inj h1.2 h2.2 hP hQ, Int32.toInt_inj.mp e1.symm]
/-- the row's first places are the stack -/
def rep (f : Nat → Int64) (k : List Int64) : Prop := ∀ j (h : j < k.length), f (k.length - 1 - j) = k[j]
theorem rep_push {f : Nat → Int64} {k : List Int64} {v : Int64} (h : rep f k) : rep (fun j => if j = k.length then v else f j) (v :: k) := by
  intro j hj
  cases j with
  | zero => simp
  | succ j =>
    simp only [List.length_cons] at hj ⊢
    rw [if_neg (by omega), List.getElem_cons_succ, ← h j (by omega)]
    congr 1
    omega
theorem rep_top {f : Nat → Int64} {k : List Int64} {x : Int64} (h : rep f (x :: k)) : f k.length = x := by
  have := h 0 (by simp)
  simpa using this
theorem rep_tl {f : Nat → Int64} {k : List Int64} {x : Int64} (h : rep f (x :: k)) : rep f k := by
  intro j hj
  have := h (j + 1) (by simp; omega)
  simp only [List.length_cons, List.getElem_cons_succ] at this
  rw [← this]
  congr 1
  omega
def k_X12_worked : eg_C := ([(0, .iconst 0, 1), (1, .istore_n 3, 1), (2, .iload_n 1, 1), (3, .istore 4, 2), (5, .iload 4, 2), (7, .iload_n 2, 1), (8, .if_icmp .ge 141, 3), (11, .aload_n 0, 1), (12, .getfield 117, 3), (15, .iload 4, 2), (17, .iaload, 1), (18, .istore 5, 2), (20, .iload 5, 2), (22, .ifCond .ne 26, 3), (25, .iinc 4 1, 3), (28, .aload_n 0, 1), (29, .getfield 124, 3), (32, .iload_n 3, 1), (33, .aload_n 0, 1), (34, .getfield 117, 3), (37, .iload 4, 2), (39, .iaload, 1), (40, .i2l, 1), (41, .lastore, 1), (42, .iinc 3 1, 3), (45, .goto 98, 3), (48, .iload 5, 2), (50, .bipush 20, 2), (52, .if_icmp .lt 25, 3), (55, .aload_n 0, 1), (56, .getfield 124, 3), (59, .iload_n 3, 1), (60, .aload_n 0, 1), (61, .getfield 120, 3), (64, .iload 5, 2), (66, .bipush 20, 2), (68, .isub, 1), (69, .laload, 1), (70, .lastore, 1), (71, .iinc 3 1, 3), (74, .goto 69, 3), (77, .iload 5, 2), (79, .bipush 9, 2), (81, .if_icmp .ne 32, 3), (84, .aload_n 0, 1), (85, .getfield 124, 3), (88, .iload_n 3, 1), (89, .iconst 1, 1), (90, .isub, 1), (91, .aload_n 0, 1), (92, .getfield 124, 3), (95, .iload_n 3, 1), (96, .iconst 1, 1), (97, .isub, 1), (98, .laload, 1), (99, .lconst 0, 1), (100, .lcmp, 1), (101, .ifCond .ne 7, 3), (104, .lconst 1, 1), (105, .goto 4, 3), (108, .lconst 0, 1), (109, .lastore, 1), (110, .goto 33, 3), (113, .iinc 3 (-1), 3), (116, .aload_n 0, 1), (117, .getfield 124, 3), (120, .iload_n 3, 1), (121, .iconst 1, 1), (122, .isub, 1), (123, .iload 5, 2), (125, .aload_n 0, 1), (126, .getfield 124, 3), (129, .iload_n 3, 1), (130, .iconst 1, 1), (131, .isub, 1), (132, .laload, 1), (133, .aload_n 0, 1), (134, .getfield 124, 3), (137, .iload_n 3, 1), (138, .laload, 1), (139, .invokestatic 376, 3), (142, .lastore, 1), (143, .iinc 4 1, 3), (146, .goto (-141), 3), (149, .aload_n 0, 1), (150, .getfield 124, 3), (153, .iconst 0, 1), (154, .laload, 1), (155, .lreturn, 1)], [(117, 12, 44, false), (120, 12, 45, false), (124, 12, 46, false)], [], [(376 + 100000, 3, 0, 0, s_X12_two)], [], 3, 0, 0)
theorem mk_X12_worked : ∀ q ∈ k_X12_worked.2.2.2.1, eg_mono q.2.2.2.2 := (fc (mo_X12_two) (fn))
set_option maxRecDepth 100000 in
theorem st_X12_worked_0 {Qp : eg_P} {M : eg_M} (a : Int32) (b : Int32)
  (l0 : eg_T wd k_X12_worked Qp 5 0 0 [some (.ref 121), some (.int a), some (.int b), some (.int (nI 0)), some (.int a), none] [] M) :
  eg_T wd k_X12_worked Qp 0 0 0 [some (.ref 121), some (.int a), some (.int b), none, none, none] [] M := by
  refine eg_T_run mk_X12_worked (cut := [5]) 92 ?_
  show eg_T wd k_X12_worked Qp 5 0 0 [some (.ref 121), some (.int a), some (.int b), some (.int (nI 0)), some (.int a), none] [] M
  exact l0

set_option maxRecDepth 100000 in
theorem st_X12_worked_5 {Qp : eg_P} {M : eg_M} (o1 : Option Value) (b : Int32) (x3 : Int32) (x4 : Int32) (o5 : Option Value)
  (g0 : (¬ (b ≤ x4)) → (vp_in x4 5120))
  (g1 : (¬ (b ≤ x4)) → ((eg_gi M 148 x4.toNatClampNeg) = 0) → (vp_in (x4 + (nI 1)) 5120))
  (g2 : (¬ (b ≤ x4)) → (((eg_gi M 148 x4.toNatClampNeg) = 0) ∨ (¬ ((eg_gi M 148 x4.toNatClampNeg) = 0) ∧ ¬ ((eg_gi M 148 x4.toNatClampNeg) < (nI 20)))) → (vp_in x3 200))
  (g3 : (¬ (b ≤ x4)) → (¬ ((eg_gi M 148 x4.toNatClampNeg) = 0)) → ((eg_gi M 148 x4.toNatClampNeg) < (nI 20)) → ((eg_gi M 148 x4.toNatClampNeg) = (nI 9)) → (vp_in (x3 - (nI 1)) 200))
  (g4 : (¬ (b ≤ x4)) → (¬ ((eg_gi M 148 x4.toNatClampNeg) = 0)) → ((eg_gi M 148 x4.toNatClampNeg) < (nI 20)) → (¬ ((eg_gi M 148 x4.toNatClampNeg) = (nI 9))) → (vp_in ((x3 + (-nI 1)) - (nI 1)) 200))
  (g5 : (¬ (b ≤ x4)) → (¬ ((eg_gi M 148 x4.toNatClampNeg) = 0)) → ((eg_gi M 148 x4.toNatClampNeg) < (nI 20)) → (¬ ((eg_gi M 148 x4.toNatClampNeg) = (nI 9))) → (vp_in (x3 + (-nI 1)) 200))
  (g6 : (¬ (b ≤ x4)) → (¬ ((eg_gi M 148 x4.toNatClampNeg) = 0)) → (¬ ((eg_gi M 148 x4.toNatClampNeg) < (nI 20))) → (vp_in ((eg_gi M 148 x4.toNatClampNeg) - (nI 20)) 11))
  (l0 : (b ≤ x4) → Qp (.inl (some (.long (eg_gl M 150 0)))) M)
  (l1 : (¬ b ≤ x4 ∧ (eg_gi M 148 x4.toNatClampNeg) = 0) → eg_T wd k_X12_worked Qp 5 0 0 [some (.ref 121), o1, some (.int b), some (.int (x3 + (nI 1))), some (.int ((x4 + (nI 1)) + (nI 1))), some (.int (eg_gi M 148 x4.toNatClampNeg))] [] (eg_sl M 150 x3.toNatClampNeg ((eg_gi M 148 (x4 + (nI 1)).toNatClampNeg).toInt64)))
  (l2 : (¬ b ≤ x4 ∧ (¬ (eg_gi M 148 x4.toNatClampNeg) = 0 ∧ ((eg_gi M 148 x4.toNatClampNeg) < (nI 20) ∧ ((eg_gi M 148 x4.toNatClampNeg) = (nI 9) ∧ (eg_gl M 150 (x3 - (nI 1)).toNatClampNeg) = (lN 0))))) → eg_T wd k_X12_worked Qp 5 0 0 [some (.ref 121), o1, some (.int b), some (.int x3), some (.int (x4 + (nI 1))), some (.int (eg_gi M 148 x4.toNatClampNeg))] [] (eg_sl M 150 (x3 - (nI 1)).toNatClampNeg (lN 1)))
  (l3 : (¬ b ≤ x4 ∧ (¬ (eg_gi M 148 x4.toNatClampNeg) = 0 ∧ ((eg_gi M 148 x4.toNatClampNeg) < (nI 20) ∧ ((eg_gi M 148 x4.toNatClampNeg) = (nI 9) ∧ ¬ (eg_gl M 150 (x3 - (nI 1)).toNatClampNeg) = (lN 0))))) → eg_T wd k_X12_worked Qp 5 0 0 [some (.ref 121), o1, some (.int b), some (.int x3), some (.int (x4 + (nI 1))), some (.int (eg_gi M 148 x4.toNatClampNeg))] [] (eg_sl M 150 (x3 - (nI 1)).toNatClampNeg (lN 0)))
  (l4 : (¬ b ≤ x4 ∧ (¬ (eg_gi M 148 x4.toNatClampNeg) = 0 ∧ ((eg_gi M 148 x4.toNatClampNeg) < (nI 20) ∧ ¬ (eg_gi M 148 x4.toNatClampNeg) = (nI 9)))) → eg_T wd k_X12_worked Qp 5 0 0 [some (.ref 121), o1, some (.int b), some (.int (x3 + (-nI 1))), some (.int (x4 + (nI 1))), some (.int (eg_gi M 148 x4.toNatClampNeg))] [] (eg_sl M 150 ((x3 + (-nI 1)) - (nI 1)).toNatClampNeg (m_two (eg_gi M 148 x4.toNatClampNeg) (eg_gl M 150 ((x3 + (-nI 1)) - (nI 1)).toNatClampNeg) (eg_gl M 150 (x3 + (-nI 1)).toNatClampNeg))))
  (l5 : (¬ b ≤ x4 ∧ (¬ (eg_gi M 148 x4.toNatClampNeg) = 0 ∧ ¬ (eg_gi M 148 x4.toNatClampNeg) < (nI 20))) → eg_T wd k_X12_worked Qp 5 0 0 [some (.ref 121), o1, some (.int b), some (.int (x3 + (nI 1))), some (.int (x4 + (nI 1))), some (.int (eg_gi M 148 x4.toNatClampNeg))] [] (eg_sl M 150 x3.toNatClampNeg (eg_gl M 149 ((eg_gi M 148 x4.toNatClampNeg) - (nI 20)).toNatClampNeg))) :
  eg_T wd k_X12_worked Qp 5 0 0 [some (.ref 121), o1, some (.int b), some (.int x3), some (.int x4), o5] [] M := by
  refine eg_T_run mk_X12_worked (cut := [5]) 92 ?_
  refine And.intro (fun (c1 : b ≤ x4) => ?_) (fun (c1 : ¬ b ≤ x4) => ?_)
  · skip
    refine And.intro (show vp_in (nI 0) 200 from ?_) ?_
    · exact vp_in_nI (by decide) (by decide)
    show Qp (.inl (some (.long (eg_gl M 150 0)))) M
    exact l0 c1
  · skip
    refine And.intro (show vp_in x4 5120 from ?_) ?_
    · exact g0 c1
    refine And.intro (fun (c2 : (eg_gi M 148 x4.toNatClampNeg) = 0) => ?_) (fun (c2 : ¬ (eg_gi M 148 x4.toNatClampNeg) = 0) => ?_)
    · skip
      refine And.intro (show vp_in (x4 + (nI 1)) 5120 from ?_) ?_
      · exact g1 c1 c2
      refine And.intro (show vp_in x3 200 from ?_) ?_
      · exact g2 c1 (by clear g0 g1 g2 g3 g4 g5 g6 l0 l1 l2 l3 l4 l5; grind)
      show eg_T wd k_X12_worked Qp 5 0 0 [some (.ref 121), o1, some (.int b), some (.int (x3 + (nI 1))), some (.int ((x4 + (nI 1)) + (nI 1))), some (.int (eg_gi M 148 x4.toNatClampNeg))] [] (eg_sl M 150 x3.toNatClampNeg ((eg_gi M 148 (x4 + (nI 1)).toNatClampNeg).toInt64))
      exact l1 ⟨c1, c2⟩
    · skip
      refine And.intro (fun (c3 : (eg_gi M 148 x4.toNatClampNeg) < (nI 20)) => ?_) (fun (c3 : ¬ (eg_gi M 148 x4.toNatClampNeg) < (nI 20)) => ?_)
      · skip
        refine And.intro (fun (c4 : (eg_gi M 148 x4.toNatClampNeg) = (nI 9)) => ?_) (fun (c4 : ¬ (eg_gi M 148 x4.toNatClampNeg) = (nI 9)) => ?_)
        · skip
          refine And.intro (show vp_in (x3 - (nI 1)) 200 from ?_) ?_
          · exact g3 c1 c2 c3 c4
          refine And.intro (fun (c5 : (lg_cmp (eg_gl M 150 (x3 - (nI 1)).toNatClampNeg) (lN 0)) = 0) => ?_) (fun (c5 : ¬ (lg_cmp (eg_gl M 150 (x3 - (nI 1)).toNatClampNeg) (lN 0)) = 0) => ?_)
          · replace c5 := lgc_eq.mp c5
            refine And.intro (show vp_in (x3 - (nI 1)) 200 from ?_) ?_
            · exact g3 c1 c2 c3 c4
            show eg_T wd k_X12_worked Qp 5 0 0 [some (.ref 121), o1, some (.int b), some (.int x3), some (.int (x4 + (nI 1))), some (.int (eg_gi M 148 x4.toNatClampNeg))] [] (eg_sl M 150 (x3 - (nI 1)).toNatClampNeg (lN 1))
            exact l2 ⟨c1, ⟨c2, ⟨c3, ⟨c4, c5⟩⟩⟩⟩
          · replace c5 := mt lgc_eq.mpr c5
            refine And.intro (show vp_in (x3 - (nI 1)) 200 from ?_) ?_
            · exact g3 c1 c2 c3 c4
            show eg_T wd k_X12_worked Qp 5 0 0 [some (.ref 121), o1, some (.int b), some (.int x3), some (.int (x4 + (nI 1))), some (.int (eg_gi M 148 x4.toNatClampNeg))] [] (eg_sl M 150 (x3 - (nI 1)).toNatClampNeg (lN 0))
            exact l3 ⟨c1, ⟨c2, ⟨c3, ⟨c4, c5⟩⟩⟩⟩
        · skip
          refine And.intro (show vp_in ((x3 + (-nI 1)) - (nI 1)) 200 from ?_) ?_
          · exact g4 c1 c2 c3 c4
          refine And.intro (show vp_in (x3 + (-nI 1)) 200 from ?_) ?_
          · exact g5 c1 c2 c3 c4
          refine And.intro (show (True) from ?_) ?_
          · exact trivial
          refine And.intro (show vp_in ((x3 + (-nI 1)) - (nI 1)) 200 from ?_) ?_
          · exact g4 c1 c2 c3 c4
          show eg_T wd k_X12_worked Qp 5 0 0 [some (.ref 121), o1, some (.int b), some (.int (x3 + (-nI 1))), some (.int (x4 + (nI 1))), some (.int (eg_gi M 148 x4.toNatClampNeg))] [] (eg_sl M 150 ((x3 + (-nI 1)) - (nI 1)).toNatClampNeg (m_two (eg_gi M 148 x4.toNatClampNeg) (eg_gl M 150 ((x3 + (-nI 1)) - (nI 1)).toNatClampNeg) (eg_gl M 150 (x3 + (-nI 1)).toNatClampNeg)))
          exact l4 ⟨c1, ⟨c2, ⟨c3, c4⟩⟩⟩
      · skip
        refine And.intro (show vp_in ((eg_gi M 148 x4.toNatClampNeg) - (nI 20)) 11 from ?_) ?_
        · exact g6 c1 c2 c3
        refine And.intro (show vp_in x3 200 from ?_) ?_
        · exact g2 c1 (by clear g0 g1 g2 g3 g4 g5 g6 l0 l1 l2 l3 l4 l5; grind)
        show eg_T wd k_X12_worked Qp 5 0 0 [some (.ref 121), o1, some (.int b), some (.int (x3 + (nI 1))), some (.int (x4 + (nI 1))), some (.int (eg_gi M 148 x4.toNatClampNeg))] [] (eg_sl M 150 x3.toNatClampNeg (eg_gl M 149 ((eg_gi M 148 x4.toNatClampNeg) - (nI 20)).toNatClampNeg))
        exact l5 ⟨c1, ⟨c2, c3⟩⟩

def s_X12_worked : eg_S := fun argv M Qp => match argv with
  | [.ref 121, .int a, .int b] => (∃ u v P, a = nI u ∧ b = nI v ∧ v ≤ 5120 ∧ m_sl (eg_gi M 148) v P u ∧ p_ok 200 1 P 0) ∧ ∀ (f : Nat → Int64) (r : Int64), (∀ P, m_sl (eg_gi M 148) b.toNatClampNeg P a.toNatClampNeg → p_ok 200 1 P 0 → p_run (eg_gl M 149) P [] = [r]) → Qp (.inl (some (.long (r)))) (eg_rl M 150 f)
  | _ => False
theorem mo_X12_worked : eg_mono s_X12_worked := by
  intro argv M Q Q' h
  unfold s_X12_worked
  split
  · exact fun z => ⟨z.1, fun f r y => h _ _ (z.2 f r y)⟩
  · exact id
theorem sz_X12_worked : ∀ argv M Qp, s_X12_worked argv M Qp → (eg_ls0 argv).length ≤ 6 := by
  intro argv M Qp h
  unfold s_X12_worked at h
  split at h
  · exact Nat.le_of_ble_eq_true rfl
  · exact h.elim
theorem sr_X12_worked : ∀ argv M Qp, s_X12_worked argv M Qp → ∃ p0 As, argv = .ref p0 :: As ∧ eg_isO wd M p0 12 = true := by
  intro argv M Qp h
  unfold s_X12_worked at h
  split at h
  · exact ⟨_, _, rfl, rfl⟩
  · exact h.elim
set_option maxRecDepth 100000 in
set_option maxHeartbeats 4000000 in
theorem T_X12_worked {argv : List Value} {M : eg_M} {Qp : eg_P} (h : s_X12_worked argv M Qp) : eg_T wd k_X12_worked Qp 0 0 0 (eg_lsN 6 argv) [] M := by
  unfold s_X12_worked at h
  split at h
  · rename_i a b
    obtain ⟨hp, hq⟩ := h
    obtain ⟨u, v, P, rfl, rfl, hv, hs, hk⟩ := hp
    have huv := m_sl_le hs
    rw [n_c (by omega), n_c (by omega)] at hq
    have lp : ∀ (P' : List Int32) (w : Nat) (k : List Int64) (f : Nat → Int64) (o5 : Option Value), m_sl (eg_gi M 148) v P' w → p_ok 200 1 P' k.length → k.length ≤ 200 → rep f k → p_run (eg_gl M 149) P [] = p_run (eg_gl M 149) P' k → eg_T wd k_X12_worked Qp 5 0 0 [some (.ref 121), some (.int (nI u)), some (.int (nI v)), some (.int (nI k.length)), some (.int (nI w)), o5] [] (eg_rl M 150 f) := by
      intro P'
      induction P' with
      | nil =>
        intro w k f o5 h1 h2 h3 h4 h5
        have h1' : w = v := h1
        have h2' : k.length = 1 := h2
        have st := st_X12_worked_5 (Qp := Qp) (M := eg_rl M 150 f) (some (.int (nI u))) (nI v) (nI k.length) (nI w) o5
        simp (disch := omega) only [rl_gi, rl_g, if_true, n_le, n_c, n_in, n_s] at st
        match k, h2' with
        | [x], _ =>
          refine st (fun z => absurd z (by omega)) (fun z => absurd z (by omega)) (fun z => absurd z (by omega)) (fun z => absurd z (by omega)) (fun z => absurd z (by omega)) (fun z => absurd z (by omega)) (fun z => absurd z (by omega)) (fun _ => ?_) (fun z => absurd z.1 (by omega)) (fun z => absurd z.1 (by omega)) (fun z => absurd z.1 (by omega)) (fun z => absurd z.1 (by omega)) (fun z => absurd z.1 (by omega))
          have := rep_top h4
          rw [show f 0 = x from this]
          exact hq f x (fun P1 g1 g2 => by rw [m_sl_inj g1 hs g2 hk]; exact h5)
      | cons s P' ih =>
        intro w k f o5 h1 h2 h3 h4 h5
        have hlt := m_sl_lt h1
        have st := st_X12_worked_5 (Qp := Qp) (M := eg_rl M 150 f) (some (.int (nI u))) (nI v) (nI k.length) (nI w) o5
        simp (disch := omega) only [rl_gi, rl_g, if_true, if_false, n_le, n_c, n_in, n_s, Nat.reduceEqDiff] at st
        have hnv : ¬ v ≤ w := by omega
        unfold m_sl at h1
        unfold p_ok at h2
        rw [show p_run (eg_gl M 149) (s :: P') k = p_run (eg_gl M 149) P' (p_st (eg_gl M 149) s k) from rfl] at h5
        unfold p_st at h5
        by_cases c0 : 0 ≤ s.toInt
        · rw [if_pos c0] at h1 h2 h5
          rw [h1.1, h1.2.1] at st
          refine st (fun _ => by omega) (fun _ _ => by have := hlt.2 c0; omega) (fun _ _ => by omega) (fun _ z => absurd rfl z) (fun _ z => absurd rfl z) (fun _ z => absurd rfl z) (fun _ z => absurd rfl z) (fun z => absurd z hnv) (fun _ => ?_) (fun z => absurd rfl z.2.1) (fun z => absurd rfl z.2.1) (fun z => absurd rfl z.2.1) (fun z => absurd rfl z.2.1)
          rw [sl_rl]
          exact ih (w + 2) (s.toInt64 :: k) _ _ h1.2.2 h2.2 (by simp; omega) (rep_push h4) h5
        · rw [if_neg c0] at h1 h2 h5
          by_cases c1 : s.toInt ≤ -11
          · rw [if_pos c1] at h2 h5
            have hm := m_c_val c1 h2.1
            rw [h1.1, hm] at st
            have m0 : ¬ nI ((-11 - s.toInt).toNat + 20) = 0 := nI_ne0 (by omega) (by omega)
            have m20 : ¬ nI ((-11 - s.toInt).toNat + 20) < nI 20 := nI_nlt (by omega) (by omega)
            rw [n_sb, n_c (by omega), n_in (by omega) (by omega)] at st
            refine st (fun _ => by omega) (fun _ z => absurd z m0) (fun _ _ => by omega) (fun _ _ z => absurd z m20) (fun _ _ z => absurd z m20) (fun _ _ z => absurd z m20) (fun _ _ _ => by omega) (fun z => absurd z hnv) (fun z => absurd z.2 m0) (fun z => absurd z.2.2.1 m20) (fun z => absurd z.2.2.1 m20) (fun z => absurd z.2.2.1 m20) (fun _ => ?_)
            rw [sl_rl]
            exact ih (w + 1) (_ :: k) _ _ h1.2 h2.2.2 (by simp; omega) (rep_push h4) h5
          · rw [if_neg c1] at h2 h5
            by_cases c2 : s.toInt = -3
            · rw [if_pos c2] at h2 h5
              have hm : m_c s = nI 9 := by unfold m_c; simp (disch := omega) only [if_neg, if_pos]
              rw [h1.1, hm] at st
              match k, h2, h3, h4, h5, st with
              | x :: r, h2, h3, h4, h5, st =>
                simp only [List.length_cons, n_p] at st h3 h2
                have tx := rep_top h4
                simp (disch := omega) only [n_c, n_in, tx] at st
                refine st (fun _ => by omega) (fun _ z => absurd z (by decide)) (fun _ z => absurd z (by decide)) (fun _ _ _ _ => by omega) (fun _ _ _ z => absurd trivial z) (fun _ _ _ z => absurd trivial z) (fun _ _ z => absurd (by decide) z) (fun z => absurd z hnv) (fun z => absurd z.2 (by decide)) (fun z => ?_) (fun z => ?_) (fun z => absurd trivial z.2.2.2) (fun z => absurd (by decide) z.2.2)
                · rw [sl_rl]
                  have h5' : p_run (eg_gl M 149) P [] = p_run (eg_gl M 149) P' (lN 1 :: r) := by rw [h5]; simp only [z.2.2.2.2, if_true]
                  exact ih (w + 1) (lN 1 :: r) _ _ h1.2 h2.2 (by simp; omega) (rep_push (rep_tl h4)) h5'
                · rw [sl_rl]
                  have h5' : p_run (eg_gl M 149) P [] = p_run (eg_gl M 149) P' (lN 0 :: r) := by rw [h5]; simp only [z.2.2.2.2, if_false]
                  exact ih (w + 1) (lN 0 :: r) _ _ h1.2 h2.2 (by simp; omega) (rep_push (rep_tl h4)) h5'
            · rw [if_neg c2] at h2 h5
              obtain ⟨n0, n20, n9, hop⟩ := m_c_op c0 c1 c2 h2.1
              rw [h1.1] at st
              match k, h2, h3, h4, h5, st with
              | y :: x :: r, h2, h3, h4, h5, st =>
                simp only [List.length_cons, n_p, n_d] at st h3 h2
                have ty := rep_top h4
                have tx := rep_top (rep_tl h4)
                simp only [List.length_cons] at ty
                simp (disch := omega) only [n_c, n_in, hop, ty, tx] at st
                refine st (fun _ => by omega) (fun _ z => absurd z n0) (fun _ z => absurd z (by grind)) (fun _ _ _ z => absurd z n9) (fun _ _ _ _ => by omega) (fun _ _ _ _ => by omega) (fun _ _ z => absurd n20 z) (fun z => absurd z hnv) (fun z => absurd z.2 n0) (fun z => absurd z.2.2.2.1 n9) (fun z => absurd z.2.2.2.1 n9) (fun _ => ?_) (fun z => absurd n20 z.2.2)
                rw [sl_rl]
                exact ih (w + 1) (p_op s x y :: r) _ _ h1.2 h2.2.2 (by simp; omega) (rep_push (rep_tl (rep_tl h4))) h5
    refine st_X12_worked_0 _ _ ?_
    have := lp P u [] (eg_gl M 150) none hs hk (by decide) (fun j h => absurd h (Nat.not_lt_zero _)) rfl
    rw [rl_id] at this
    exact this
  · exact h.elim
theorem de_X12_worked : ∀ q ∈ k_X12_worked.1, decode cX12_worked q.1 = .ok q.2 := by decide +kernel
theorem me_X12_worked (g : gl_T) : MT g yX12_worked cX12_worked 6 (some .long) ⟨1, 0, 0, 24⟩ 0 0 s_X12_worked := by
  intro hl
  exact eg_met_of (k := k_X12_worked) (by decide) rfl ⟨Nat.le_refl _, Nat.le_refl _⟩ rfl sz_X12_worked de_X12_worked (fun meth hn => (fc (eg_FL_of wd_c12 (by decide) lf_RX12_117 (fun h => absurd h (by decide))) (fc (eg_FL_of wd_c12 (by decide) lf_RX12_120 (fun h => absurd h (by decide))) (fc (eg_FL_of wd_c12 (by decide) lf_RX12_124 (fun h => absurd h (by decide))) (fn))))) (fun A s H hE => (fn)) (fun p e s m args below meth c Q A ad0 N0 S0 hK hEx hA => (fc (mt_S hl S0 hK hEx hA (me_X12_two g) lm_RX12_376 ls_X12_two ln_RX12 lc_X12_two ⟨rfl, by decide, by decide, by decide +kernel⟩ ⟨rfl, rfl⟩ ⟨by decide, by decide⟩ (by decide)) (fn))) (fun p e s m args below meth c Qc XC A ad0 N0 P S0 hK hEx hA hlk hout hPX => (fn)) (fun argv M Qp h => T_X12_worked h)

/-- the worth of a clause: P, unless Q -/
def p_v (V : Nat → Int64) (P : List Int32) : Int64 := (p_run V P []).headD 0
def p_cv (V : Nat → Int64) (P Q : List Int32) : Int64 := if ¬ Q = [] ∧ ¬ p_v V Q = lN 0 then lN 0 else p_v V P
/-- the model: clause c of the rules r is P, unless Q -/
def m_cl (M : eg_M) (r c : Nat) (P Q : List Int32) : Prop := ∃ u v w, eg_gi M 145 c = nI u ∧ eg_gi M 146 c = nI v ∧ eg_gi M 147 c = nI w ∧ w ≤ 640 ∧ m_sl (eg_gi M 148) (640 * r + v) P (640 * r + u) ∧ p_ok 200 1 P 0 ∧ ((w = v ∧ Q = []) ∨ (v < w ∧ m_sl (eg_gi M 148) (640 * r + w) Q (640 * r + v) ∧ p_ok 200 1 Q 0))
theorem p_ok_ne {m : Nat} {Q : List Int32} (h : p_ok m 1 Q 0) : ¬ Q = [] := by
  rintro rfl
  have h : (0 : Nat) = 1 := h
  omega
def k_X12_clauseOf : eg_C := ([(0, .sipush 640, 3), (3, .iload_n 1, 1), (4, .imul, 1), (5, .istore_n 3, 1), (6, .aload_n 0, 1), (7, .getfield 114, 3), (10, .iload_n 2, 1), (11, .iaload, 1), (12, .aload_n 0, 1), (13, .getfield 111, 3), (16, .iload_n 2, 1), (17, .iaload, 1), (18, .if_icmp .le 30, 3), (21, .aload_n 0, 1), (22, .iload_n 3, 1), (23, .aload_n 0, 1), (24, .getfield 111, 3), (27, .iload_n 2, 1), (28, .iaload, 1), (29, .iadd, 1), (30, .iload_n 3, 1), (31, .aload_n 0, 1), (32, .getfield 114, 3), (35, .iload_n 2, 1), (36, .iaload, 1), (37, .iadd, 1), (38, .invokevirtual 380, 3), (41, .lconst 0, 1), (42, .lcmp, 1), (43, .ifCond .eq 5, 3), (46, .lconst 0, 1), (47, .lreturn, 1), (48, .aload_n 0, 1), (49, .iload_n 3, 1), (50, .aload_n 0, 1), (51, .getfield 108, 3), (54, .iload_n 2, 1), (55, .iaload, 1), (56, .iadd, 1), (57, .iload_n 3, 1), (58, .aload_n 0, 1), (59, .getfield 111, 3), (62, .iload_n 2, 1), (63, .iaload, 1), (64, .iadd, 1), (65, .invokevirtual 380, 3), (68, .lreturn, 1)], [(108, 12, 41, false), (111, 12, 42, false), (114, 12, 43, false)], [], [(380, 2 + 1, 0, 0, s_X12_worked)], [], 3, 0, 0)
theorem mk_X12_clauseOf : ∀ q ∈ k_X12_clauseOf.2.2.2.1, eg_mono q.2.2.2.2 := (fc (mo_X12_worked) (fn))
set_option maxRecDepth 100000 in
theorem st_X12_clauseOf_0 {Qp : eg_P} {M : eg_M} (a : Int32) (b : Int32)
  (g0 : (vp_in b 96))
  (g1 : ((eg_gi M 147 b.toNatClampNeg) ≤ (eg_gi M 146 b.toNatClampNeg)) → (∃ u v P, (((nI 640) * a) + (eg_gi M 145 b.toNatClampNeg)) = nI u ∧ (((nI 640) * a) + (eg_gi M 146 b.toNatClampNeg)) = nI v ∧ v ≤ 5120 ∧ m_sl (eg_gi M 148) v P u ∧ p_ok 200 1 P 0))
  (g2 : (¬ ((eg_gi M 147 b.toNatClampNeg) ≤ (eg_gi M 146 b.toNatClampNeg))) → (∃ u v P, (((nI 640) * a) + (eg_gi M 146 b.toNatClampNeg)) = nI u ∧ (((nI 640) * a) + (eg_gi M 147 b.toNatClampNeg)) = nI v ∧ v ≤ 5120 ∧ m_sl (eg_gi M 148) v P u ∧ p_ok 200 1 P 0))
  (l0 : ((eg_gi M 147 b.toNatClampNeg) ≤ (eg_gi M 146 b.toNatClampNeg)) → ∀ (f_1 : Nat → Int64) (r_1 : Int64), (∀ P, m_sl (eg_gi M 148) (((nI 640) * a) + (eg_gi M 146 b.toNatClampNeg)).toNatClampNeg P (((nI 640) * a) + (eg_gi M 145 b.toNatClampNeg)).toNatClampNeg → p_ok 200 1 P 0 → p_run (eg_gl M 149) P [] = [r_1]) → eg_T wd k_X12_clauseOf Qp 68 0 0 [some (.ref 121), some (.int a), some (.int b), some (.int ((nI 640) * a))] [.long r_1] (eg_rl M 150 f_1))
  (l1 : (¬ (eg_gi M 147 b.toNatClampNeg) ≤ (eg_gi M 146 b.toNatClampNeg)) → ∀ (f_2 : Nat → Int64) (r_2 : Int64), (∀ P, m_sl (eg_gi M 148) (((nI 640) * a) + (eg_gi M 147 b.toNatClampNeg)).toNatClampNeg P (((nI 640) * a) + (eg_gi M 146 b.toNatClampNeg)).toNatClampNeg → p_ok 200 1 P 0 → p_run (eg_gl M 149) P [] = [r_2]) → eg_T wd k_X12_clauseOf Qp 41 0 0 [some (.ref 121), some (.int a), some (.int b), some (.int ((nI 640) * a))] [.long r_2] (eg_rl M 150 f_2)) :
  eg_T wd k_X12_clauseOf Qp 0 0 0 [some (.ref 121), some (.int a), some (.int b), none] [] M := by
  refine eg_T_run mk_X12_clauseOf (cut := [41, 68]) 50 ?_
  refine And.intro (show vp_in b 96 from ?_) ?_
  · exact g0
  refine And.intro (show vp_in b 96 from ?_) ?_
  · exact g0
  refine And.intro (fun (c1 : (eg_gi M 147 b.toNatClampNeg) ≤ (eg_gi M 146 b.toNatClampNeg)) => ?_) (fun (c1 : ¬ (eg_gi M 147 b.toNatClampNeg) ≤ (eg_gi M 146 b.toNatClampNeg)) => ?_)
  · skip
    refine And.intro (show vp_in b 96 from ?_) ?_
    · exact g0
    refine And.intro (show vp_in b 96 from ?_) ?_
    · exact g0
    refine And.intro (show (∃ u v P, (((nI 640) * a) + (eg_gi M 145 b.toNatClampNeg)) = nI u ∧ (((nI 640) * a) + (eg_gi M 146 b.toNatClampNeg)) = nI v ∧ v ≤ 5120 ∧ m_sl (eg_gi M 148) v P u ∧ p_ok 200 1 P 0) from ?_) ?_
    · exact g1 c1
    intro f_1 r_1 ha_1
    show eg_T wd k_X12_clauseOf Qp 68 0 0 [some (.ref 121), some (.int a), some (.int b), some (.int ((nI 640) * a))] [.long r_1] (eg_rl M 150 f_1)
    exact l0 c1 f_1 r_1 ha_1
  · skip
    refine And.intro (show vp_in b 96 from ?_) ?_
    · exact g0
    refine And.intro (show vp_in b 96 from ?_) ?_
    · exact g0
    refine And.intro (show (∃ u v P, (((nI 640) * a) + (eg_gi M 146 b.toNatClampNeg)) = nI u ∧ (((nI 640) * a) + (eg_gi M 147 b.toNatClampNeg)) = nI v ∧ v ≤ 5120 ∧ m_sl (eg_gi M 148) v P u ∧ p_ok 200 1 P 0) from ?_) ?_
    · exact g2 c1
    intro f_2 r_2 ha_2
    show eg_T wd k_X12_clauseOf Qp 41 0 0 [some (.ref 121), some (.int a), some (.int b), some (.int ((nI 640) * a))] [.long r_2] (eg_rl M 150 f_2)
    exact l1 c1 f_2 r_2 ha_2

set_option maxRecDepth 100000 in
theorem st_X12_clauseOf_41 {Qp : eg_P} {M : eg_M} (o1 : Option Value) (b : Int32) (x3 : Int32) (s0 : Int64)
  (g0 : (s0 = (lN 0)) → (vp_in b 96))
  (g1 : (s0 = (lN 0)) → (∃ u v P, (x3 + (eg_gi M 145 b.toNatClampNeg)) = nI u ∧ (x3 + (eg_gi M 146 b.toNatClampNeg)) = nI v ∧ v ≤ 5120 ∧ m_sl (eg_gi M 148) v P u ∧ p_ok 200 1 P 0))
  (l0 : (s0 = (lN 0)) → ∀ (f_1 : Nat → Int64) (r_1 : Int64), (∀ P, m_sl (eg_gi M 148) (x3 + (eg_gi M 146 b.toNatClampNeg)).toNatClampNeg P (x3 + (eg_gi M 145 b.toNatClampNeg)).toNatClampNeg → p_ok 200 1 P 0 → p_run (eg_gl M 149) P [] = [r_1]) → eg_T wd k_X12_clauseOf Qp 68 0 0 [some (.ref 121), o1, some (.int b), some (.int x3)] [.long r_1] (eg_rl M 150 f_1))
  (l1 : (¬ s0 = (lN 0)) → Qp (.inl (some (.long (lN 0)))) M) :
  eg_T wd k_X12_clauseOf Qp 41 0 0 [some (.ref 121), o1, some (.int b), some (.int x3)] [.long s0] M := by
  refine eg_T_run mk_X12_clauseOf (cut := [41, 68]) 50 ?_
  refine And.intro (fun (c1 : (lg_cmp s0 (lN 0)) = 0) => ?_) (fun (c1 : ¬ (lg_cmp s0 (lN 0)) = 0) => ?_)
  · replace c1 := lgc_eq.mp c1
    refine And.intro (show vp_in b 96 from ?_) ?_
    · exact g0 c1
    refine And.intro (show vp_in b 96 from ?_) ?_
    · exact g0 c1
    refine And.intro (show (∃ u v P, (x3 + (eg_gi M 145 b.toNatClampNeg)) = nI u ∧ (x3 + (eg_gi M 146 b.toNatClampNeg)) = nI v ∧ v ≤ 5120 ∧ m_sl (eg_gi M 148) v P u ∧ p_ok 200 1 P 0) from ?_) ?_
    · exact g1 c1
    intro f_1 r_1 ha_1
    show eg_T wd k_X12_clauseOf Qp 68 0 0 [some (.ref 121), o1, some (.int b), some (.int x3)] [.long r_1] (eg_rl M 150 f_1)
    exact l0 c1 f_1 r_1 ha_1
  · replace c1 := mt lgc_eq.mpr c1
    show Qp (.inl (some (.long (lN 0)))) M
    exact l1 c1

set_option maxRecDepth 100000 in
theorem st_X12_clauseOf_68 {Qp : eg_P} {M : eg_M} (o0 : Option Value) (o1 : Option Value) (o2 : Option Value) (o3 : Option Value) (s0 : Int64)
  (l0 : Qp (.inl (some (.long s0))) M) :
  eg_T wd k_X12_clauseOf Qp 68 0 0 [o0, o1, o2, o3] [.long s0] M := by
  refine eg_T_run mk_X12_clauseOf (cut := [41, 68]) 50 ?_
  show Qp (.inl (some (.long s0))) M
  exact l0

def s_X12_clauseOf : eg_S := fun argv M Qp => match argv with
  | [.ref 121, .int a, .int b] => (∃ r c P Q, a = nI r ∧ r < 8 ∧ b = nI c ∧ c < 96 ∧ m_cl M r c P Q) ∧ ∀ (f : Nat → Int64) (v : Int64), (∀ P Q, m_cl M a.toNatClampNeg b.toNatClampNeg P Q → v = p_cv (eg_gl M 149) P Q) → Qp (.inl (some (.long (v)))) (eg_rl M 150 f)
  | _ => False
theorem mo_X12_clauseOf : eg_mono s_X12_clauseOf := by
  intro argv M Q Q' h
  unfold s_X12_clauseOf
  split
  · exact fun z => ⟨z.1, fun f v y => h _ _ (z.2 f v y)⟩
  · exact id
theorem sz_X12_clauseOf : ∀ argv M Qp, s_X12_clauseOf argv M Qp → (eg_ls0 argv).length ≤ 4 := by
  intro argv M Qp h
  unfold s_X12_clauseOf at h
  split at h
  · exact Nat.le_of_ble_eq_true rfl
  · exact h.elim
theorem sr_X12_clauseOf : ∀ argv M Qp, s_X12_clauseOf argv M Qp → ∃ p0 As, argv = .ref p0 :: As ∧ eg_isO wd M p0 12 = true := by
  intro argv M Qp h
  unfold s_X12_clauseOf at h
  split at h
  · exact ⟨_, _, rfl, rfl⟩
  · exact h.elim
set_option maxRecDepth 100000 in
set_option maxHeartbeats 4000000 in
theorem T_X12_clauseOf {argv : List Value} {M : eg_M} {Qp : eg_P} (h : s_X12_clauseOf argv M Qp) : eg_T wd k_X12_clauseOf Qp 0 0 0 (eg_lsN 4 argv) [] M := by
  unfold s_X12_clauseOf at h
  split at h
  · rename_i a b
    obtain ⟨hp, hq⟩ := h
    obtain ⟨r, c, P, Q, rfl, hr, rfl, hc, u, v, w, hu, hv, hw, hw6, hP, kP, hQ⟩ := hp
    rw [n_c (by omega), n_c (by omega)] at hq
    have hvw : v ≤ w := by rcases hQ with z | z <;> omega
    have huv := m_sl_le hP
    have hq2 : ∀ f x, x = p_cv (eg_gl M 149) P Q → Qp (.inl (some (.long x))) (eg_rl M 150 f) := by
      intro f x hx
      refine hq f x (fun P1 Q1 h1 => ?_)
      obtain ⟨u1, v1, w1, hu1, hv1, hw1, hw61, hP1, kP1, hQ1⟩ := h1
      have huv1 := m_sl_le hP1
      have hvw1 : v1 ≤ w1 := by rcases hQ1 with z | z <;> omega
      have e1 : u1 = u := (n_eq (by omega) (by omega)).mp (hu1.symm.trans hu)
      have e2 : v1 = v := (n_eq (by omega) (by omega)).mp (hv1.symm.trans hv)
      have e3 : w1 = w := (n_eq (by omega) (by omega)).mp (hw1.symm.trans hw)
      subst e1 e2 e3
      rw [hx, m_sl_inj hP1 hP kP1 kP]
      congr 1
      rcases hQ with z | z
      · rcases hQ1 with y | y
        · rw [z.2, y.2]
        · omega
      · rcases hQ1 with y | y
        · omega
        · exact m_sl_inj z.2.1 y.2.1 z.2.2 y.2.2
    have s68 : ∀ o0 o1 o2 o3 f x, x = p_cv (eg_gl M 149) P Q → eg_T wd k_X12_clauseOf Qp 68 0 0 [o0, o1, o2, o3] [.long x] (eg_rl M 150 f) := fun o0 o1 o2 o3 f x hx => st_X12_clauseOf_68 o0 o1 o2 o3 x (hq2 f x hx)
    have st := st_X12_clauseOf_0 (Qp := Qp) (M := M) (nI r) (nI c)
    simp (disch := omega) only [n_c, n_in, hu, hv, hw, n_le, n_m, n_s] at st
    refine st hc (fun z => ⟨_, _, P, rfl, rfl, by omega, hP, kP⟩) (fun z => ?_) (fun z f x hx => ?_) (fun z f x hx => ?_)
    · rcases hQ with y | y
      · omega
      · exact ⟨_, _, Q, rfl, rfl, by omega, y.2.1, y.2.2⟩
    · refine s68 _ _ _ _ f x ?_
      have := hx P hP kP
      rcases hQ with y | y
      · rw [p_cv, if_neg (by grind), p_v, this]
        rfl
      · omega
    · rcases hQ with y | y
      · omega
      have hxQ := hx Q y.2.1 y.2.2
      have nQ := p_ok_ne y.2.2
      have s2 := st_X12_clauseOf_41 (Qp := Qp) (M := eg_rl M 150 f) (some (.int (nI r))) (nI c) (nI (640 * r)) x
      simp (disch := omega) only [rl_gi, rl_g, if_false, Nat.reduceEqDiff, n_c, n_in, hu, hv, hw, n_le, n_m, n_s] at s2
      refine s2 (fun _ => hc) (fun _ => ⟨_, _, P, rfl, rfl, by omega, hP, kP⟩) (fun z0 f2 x2 hx2 => ?_) (fun z0 => ?_)
      · have h2 : p_run (eg_gl M 149) P [] = [x2] := hx2 P hP kP
        have := s68 (some (.ref 121)) (some (.int (nI r))) (some (.int (nI c))) (some (.int (nI (640 * r)))) f2 x2 (by rw [p_cv, p_v, hxQ, if_neg (fun z => z.2 z0), p_v, h2]; rfl)
        rw [show eg_rl (eg_rl M 150 f) 150 f2 = eg_rl M 150 f2 from rl_rl _ _ _ _]
        exact this
      · have := hq2 f (lN 0) (by rw [p_cv, p_v, hxQ, if_pos ⟨nQ, z0⟩])
        exact this
    
  · exact h.elim
theorem de_X12_clauseOf : ∀ q ∈ k_X12_clauseOf.1, decode cX12_clauseOf q.1 = .ok q.2 := by decide +kernel
theorem me_X12_clauseOf (g : gl_T) : MT g yX12_clauseOf cX12_clauseOf 4 (some .long) ⟨2, 0, 0, 49⟩ 0 0 s_X12_clauseOf := by
  intro hl
  exact eg_met_of (k := k_X12_clauseOf) (by decide) rfl ⟨Nat.le_refl _, Nat.le_refl _⟩ rfl sz_X12_clauseOf de_X12_clauseOf (fun meth hn => (fc (eg_FL_of wd_c12 (by decide) lf_RX12_108 (fun h => absurd h (by decide))) (fc (eg_FL_of wd_c12 (by decide) lf_RX12_111 (fun h => absurd h (by decide))) (fc (eg_FL_of wd_c12 (by decide) lf_RX12_114 (fun h => absurd h (by decide))) (fn))))) (fun A s H hE => (fn)) (fun p e s m args below meth c Q A ad0 N0 S0 hK hEx hA => (fc (mt_V hl S0 hK hEx hA (me_X12_worked g) lm_RX12_380 li_X12_worked lx_X12_worked ln_RX12 lc_X12_worked ⟨rfl, by decide, by decide, by decide +kernel⟩ ⟨rfl, rfl⟩ ⟨by decide, by decide⟩ (ci := 12) rfl rfl sr_X12_worked (by decide)) (fn))) (fun p e s m args below meth c Qc XC A ad0 N0 P S0 hK hEx hA hlk hout hPX => (fn)) (fun argv M Qp h => T_X12_clauseOf h)

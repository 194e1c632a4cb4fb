/-- the model: whether the token is the word number w -/
def m_iw (M : eg_M) (w : Nat) : Bool := decide (eg_gi M 121 31 = 0 ∧ eg_gi M 121 26 = nI 1 ∧ (eg_gi M 121 30).toNatClampNeg = (eg_gi M 121 29).toNatClampNeg + tx_len.getD w 0) && (List.range (tx_len.getD w 0)).all (fun i => decide (eg_gi M 139 ((eg_gi M 121 29).toNatClampNeg + i) = (tx_byt.getD w []).getD i 0))
def k_X12_is : eg_C := ([(0, .aload_n 0, 1), (1, .getfield 294, 3), (4, .ifCond .ne 31, 3), (7, .aload_n 0, 1), (8, .getfield 272, 3), (11, .iconst 1, 1), (12, .if_icmp .ne 23, 3), (15, .aload_n 1, 1), (16, .invokevirtual 300, 3), (19, .aload_n 0, 1), (20, .getfield 291, 3), (23, .aload_n 0, 1), (24, .getfield 266, 3), (27, .isub, 1), (28, .if_icmp .ne 7, 3), (31, .iconst 1, 1), (32, .goto 4, 3), (35, .iconst 0, 1), (36, .istore_n 2, 1), (37, .iconst 0, 1), (38, .istore_n 3, 1), (39, .iload_n 2, 1), (40, .ifCond .eq 42, 3), (43, .iload_n 3, 1), (44, .aload_n 1, 1), (45, .invokevirtual 300, 3), (48, .if_icmp .ge 34, 3), (51, .aload_n 1, 1), (52, .iload_n 3, 1), (53, .invokevirtual 304, 3), (56, .aload_n 0, 1), (57, .getfield 86, 3), (60, .aload_n 0, 1), (61, .getfield 266, 3), (64, .iload_n 3, 1), (65, .iadd, 1), (66, .iaload, 1), (67, .if_icmp .ne 7, 3), (70, .iconst 1, 1), (71, .goto 4, 3), (74, .iconst 0, 1), (75, .istore_n 2, 1), (76, .iinc 3 1, 3), (79, .goto (-40), 3), (82, .iload_n 2, 1), (83, .ireturn, 1)], [(86, 12, 22, false), (266, 12, 29, false), (272, 12, 26, false), (291, 12, 30, false), (294, 12, 31, false)], [], [(300, 1, 0, 0, s_len), (304, 2, 0, 0, s_chr)], [], 2, 0, 0)
theorem mk_X12_is : ∀ q ∈ k_X12_is.2.2.2.1, eg_mono q.2.2.2.2 := (fc (mo_len) (fc (mo_chr) (fn)))
set_option maxRecDepth 100000 in
theorem st_X12_is_0 {Qp : eg_P} {M : eg_M} (w : Nat)
  (g0 : ((eg_gi M 121 31) = 0) → ((eg_gi M 121 26) = (nI 1)) → (w < 32))
  (l0 : ((eg_gi M 121 31) = 0 ∧ ((eg_gi M 121 26) = (nI 1) ∧ (nI (tx_len.getD w 0)) = ((eg_gi M 121 30) - (eg_gi M 121 29)))) → eg_T wd k_X12_is Qp 39 0 0 [some (.ref 121), some (.retAddr w), some (.int (nI 1)), some (.int (nI 0))] [] M)
  (l1 : (¬ (eg_gi M 121 31) = 0 ∨ (¬ (eg_gi M 121 26) = (nI 1) ∨ ¬ (nI (tx_len.getD w 0)) = ((eg_gi M 121 30) - (eg_gi M 121 29)))) → eg_T wd k_X12_is Qp 39 0 0 [some (.ref 121), some (.retAddr w), some (.int (nI 0)), some (.int (nI 0))] [] M) :
  eg_T wd k_X12_is Qp 0 0 0 [some (.ref 121), some (.retAddr w), none, none] [] M := by
  refine eg_T_run mk_X12_is (cut := [39]) 49 ?_
  refine And.intro (fun (c1 : (eg_gi M 121 31) = 0) => ?_) (fun (c1 : ¬ (eg_gi M 121 31) = 0) => ?_)
  · skip
    refine And.intro (fun (c2 : (eg_gi M 121 26) = (nI 1)) => ?_) (fun (c2 : ¬ (eg_gi M 121 26) = (nI 1)) => ?_)
    · skip
      refine And.intro (show w < 32 from ?_) ?_
      · exact g0 c1 c2
      refine And.intro (fun (c3 : (nI (tx_len.getD w 0)) = ((eg_gi M 121 30) - (eg_gi M 121 29))) => ?_) (fun (c3 : ¬ (nI (tx_len.getD w 0)) = ((eg_gi M 121 30) - (eg_gi M 121 29))) => ?_)
      · skip
        show eg_T wd k_X12_is Qp 39 0 0 [some (.ref 121), some (.retAddr w), some (.int (nI 1)), some (.int (nI 0))] [] M
        exact l0 ⟨c1, ⟨c2, c3⟩⟩
      · skip
        show eg_T wd k_X12_is Qp 39 0 0 [some (.ref 121), some (.retAddr w), some (.int (nI 0)), some (.int (nI 0))] [] M
        exact l1 (Or.inr (Or.inr c3))
    · skip
      show eg_T wd k_X12_is Qp 39 0 0 [some (.ref 121), some (.retAddr w), some (.int (nI 0)), some (.int (nI 0))] [] M
      exact l1 (Or.inr (Or.inl c2))
  · skip
    show eg_T wd k_X12_is Qp 39 0 0 [some (.ref 121), some (.retAddr w), some (.int (nI 0)), some (.int (nI 0))] [] M
    exact l1 (Or.inl c1)

set_option maxRecDepth 100000 in
theorem st_X12_is_39 {Qp : eg_P} {M : eg_M} (w : Nat) (x2 : Int32) (x3 : Int32)
  (g0 : ((x2 = 0) ∨ (¬ (x2 = 0) ∧ ((nI (tx_len.getD w 0)) ≤ x3))) → (x2 = 0 ∨ x2 = 1))
  (g1 : (¬ (x2 = 0)) → (w < 32))
  (g2 : (¬ (x2 = 0)) → (¬ ((nI (tx_len.getD w 0)) ≤ x3)) → (vp_in x3 (tx_len.getD w 0)))
  (g3 : (¬ (x2 = 0)) → (¬ ((nI (tx_len.getD w 0)) ≤ x3)) → (vp_in ((eg_gi M 121 29) + x3) 400))
  (l0 : (x2 = 0 ∨ (nI (tx_len.getD w 0)) ≤ x3) → Qp (.inl (some (.int x2))) M)
  (l1 : (¬ x2 = 0 ∧ (¬ (nI (tx_len.getD w 0)) ≤ x3 ∧ ((tx_byt.getD w []).getD x3.toNatClampNeg 0) = (eg_gi M 139 ((eg_gi M 121 29) + x3).toNatClampNeg))) → eg_T wd k_X12_is Qp 39 0 0 [some (.ref 121), some (.retAddr w), some (.int (nI 1)), some (.int (x3 + (nI 1)))] [] M)
  (l2 : (¬ x2 = 0 ∧ (¬ (nI (tx_len.getD w 0)) ≤ x3 ∧ ¬ ((tx_byt.getD w []).getD x3.toNatClampNeg 0) = (eg_gi M 139 ((eg_gi M 121 29) + x3).toNatClampNeg))) → eg_T wd k_X12_is Qp 39 0 0 [some (.ref 121), some (.retAddr w), some (.int (nI 0)), some (.int (x3 + (nI 1)))] [] M) :
  eg_T wd k_X12_is Qp 39 0 0 [some (.ref 121), some (.retAddr w), some (.int x2), some (.int x3)] [] M := by
  refine eg_T_run mk_X12_is (cut := [39]) 49 ?_
  refine And.intro (fun (c1 : x2 = 0) => ?_) (fun (c1 : ¬ x2 = 0) => ?_)
  · skip
    refine And.intro (fun _ => (show x2 = 0 ∨ x2 = 1 from ?_)) ?_
    · exact g0 (by clear g0 g1 g2 g3 l0 l1 l2; grind)
    show Qp (.inl (some (.int x2))) M
    exact l0 (Or.inl c1)
  · skip
    refine And.intro (show w < 32 from ?_) ?_
    · exact g1 c1
    refine And.intro (fun (c2 : (nI (tx_len.getD w 0)) ≤ x3) => ?_) (fun (c2 : ¬ (nI (tx_len.getD w 0)) ≤ x3) => ?_)
    · skip
      refine And.intro (fun _ => (show x2 = 0 ∨ x2 = 1 from ?_)) ?_
      · exact g0 (by clear g0 g1 g2 g3 l0 l1 l2; grind)
      show Qp (.inl (some (.int x2))) M
      exact l0 (Or.inr c2)
    · skip
      refine And.intro (And.intro (show w < 32 from ?_) (show vp_in x3 (tx_len.getD w 0) from ?_)) ?_
      · exact g1 c1
      · exact g2 c1 c2
      refine And.intro (show vp_in ((eg_gi M 121 29) + x3) 400 from ?_) ?_
      · exact g3 c1 c2
      refine And.intro (fun (c3 : ((tx_byt.getD w []).getD x3.toNatClampNeg 0) = (eg_gi M 139 ((eg_gi M 121 29) + x3).toNatClampNeg)) => ?_) (fun (c3 : ¬ ((tx_byt.getD w []).getD x3.toNatClampNeg 0) = (eg_gi M 139 ((eg_gi M 121 29) + x3).toNatClampNeg)) => ?_)
      · skip
        show eg_T wd k_X12_is Qp 39 0 0 [some (.ref 121), some (.retAddr w), some (.int (nI 1)), some (.int (x3 + (nI 1)))] [] M
        exact l1 ⟨c1, ⟨c2, c3⟩⟩
      · skip
        show eg_T wd k_X12_is Qp 39 0 0 [some (.ref 121), some (.retAddr w), some (.int (nI 0)), some (.int (x3 + (nI 1)))] [] M
        exact l2 ⟨c1, ⟨c2, c3⟩⟩

def s_X12_is : eg_S := fun argv M Qp => match argv with
  | [.ref 121, .retAddr w] => (w < 32 ∧ (eg_gi M 121 31 = 0 → eg_gi M 121 26 = nI 1 → ∃ b e, b ≤ e ∧ e ≤ 400 ∧ eg_gi M 121 29 = nI b ∧ eg_gi M 121 30 = nI e)) ∧ Qp (.inl (some (.int (b2i (m_iw M w))))) M
  | _ => False
theorem mo_X12_is : eg_mono s_X12_is := by
  intro argv M Q Q' h
  unfold s_X12_is
  split
  · exact fun z => ⟨z.1, h _ _ z.2⟩
  · exact id
theorem sz_X12_is : ∀ argv M Qp, s_X12_is argv M Qp → (eg_ls0 argv).length ≤ 4 := by
  intro argv M Qp h
  unfold s_X12_is at h
  split at h
  · exact Nat.le_of_ble_eq_true rfl
  · exact h.elim
theorem sr_X12_is : ∀ argv M Qp, s_X12_is argv M Qp → ∃ p0 As, argv = .ref p0 :: As ∧ eg_isO wd M p0 12 = true := by
  intro argv M Qp h
  unfold s_X12_is at h
  split at h
  · exact ⟨_, _, rfl, rfl⟩
  · exact h.elim
set_option maxRecDepth 100000 in
set_option maxHeartbeats 1000000 in
theorem T_X12_is {argv : List Value} {M : eg_M} {Qp : eg_P} (h : s_X12_is argv M Qp) : eg_T wd k_X12_is Qp 0 0 0 (eg_lsN 4 argv) [] M := by
  unfold s_X12_is at h
  split at h
  · rename_i w
    obtain ⟨hp, hq⟩ := h
    obtain ⟨hw, hb⟩ := hp
    have hl := tx_l w hw
    have s0 := st_X12_is_0 (Qp := Qp) (M := M) w
    have no : ∀ i, m_iw M w = false → eg_T wd k_X12_is Qp 39 0 0 [some (.ref 121), some (.retAddr w), some (.int (nI 0)), some (.int i)] [] M := fun i h => by
      rw [h] at hq
      exact st_X12_is_39 w (nI 0) i (fun _ => Or.inl rfl) (fun z => absurd rfl z) (fun z => absurd rfl z) (fun z => absurd rfl z) (fun _ => hq) (fun z => absurd rfl z.1) (fun z => absurd rfl z.1)
    have nb : ¬ (eg_gi M 121 31 = 0 ∧ eg_gi M 121 26 = nI 1 ∧ (eg_gi M 121 30).toNatClampNeg = (eg_gi M 121 29).toNatClampNeg + tx_len.getD w 0) → m_iw M w = false := fun h => by
      unfold m_iw
      rw [decide_eq_false h, Bool.false_and]
    by_cases h1 : eg_gi M 121 31 = 0 ∧ eg_gi M 121 26 = nI 1
    · obtain ⟨b, e, hbe, he, eb, ee⟩ := hb h1.1 h1.2
      rw [eb, ee, u_sub hbe, n_eq (by omega) (by omega)] at s0
      rw [eb, ee, n_c (by omega), n_c (by omega)] at nb
      refine s0 (fun _ _ => hw) (fun z => ?_) (fun z => no _ (nb (fun y => ?_)))
      · have hlen : e = b + tx_len.getD w 0 := by omega
        have lp : ∀ f i, i + f = tx_len.getD w 0 → (∀ j, j < i → eg_gi M 139 (b + j) = (tx_byt.getD w []).getD j 0) → eg_T wd k_X12_is Qp 39 0 0 [some (.ref 121), some (.retAddr w), some (.int (nI 1)), some (.int (nI i))] [] M := by
          intro f
          induction f with
          | zero =>
            intro i hi hj
            have hm : m_iw M w = true := by
              unfold m_iw
              rw [eb, ee, n_c (by omega), n_c (by omega), decide_eq_true ⟨h1.1, h1.2, hlen⟩, Bool.true_and, List.all_eq_true]
              intro j hj2
              exact decide_eq_true (hj j (by have := List.mem_range.mp hj2; omega))
            rw [hm] at hq
            have : nI (tx_len.getD w 0) ≤ nI i := (n_le (by omega) (by omega)).mpr (by omega)
            exact st_X12_is_39 w (nI 1) (nI i) (fun _ => Or.inr rfl) (fun _ => hw) (fun _ z => absurd this z) (fun _ z => absurd this z) (fun _ => hq) (fun z => absurd this z.2.1) (fun z => absurd this z.2.1)
          | succ f ih =>
            intro i hi hj
            have hni : ¬ nI (tx_len.getD w 0) ≤ nI i := by
              rw [n_le (by omega) (by omega)]
              omega
            have st := st_X12_is_39 (Qp := Qp) (M := M) w (nI 1) (nI i)
            rw [eb, n_s, n_s, n_c (show i < 2 ^ 31 by omega), n_c (show b + i < 2 ^ 31 by omega)] at st
            refine st (fun _ => Or.inr rfl) (fun _ => hw) (fun _ _ => (n_in (by omega) (by omega)).mpr (by omega)) (fun _ _ => (n_in (by omega) (by decide)).mpr (by omega)) (fun z => z.elim (fun y => absurd y (by decide)) (fun y => absurd y hni)) (fun z => ?_) (fun z => no _ ?_)
            · refine ih (i + 1) (by omega) (fun j hj2 => ?_)
              by_cases hji : j < i
              · exact hj j hji
              · rw [show j = i by omega]
                exact z.2.2.symm
            · unfold m_iw
              rw [Bool.and_eq_false_iff]
              refine Or.inr ?_
              rw [← Bool.not_eq_true, List.all_eq_true]
              intro y
              have := of_decide_eq_true (y i (List.mem_range.mpr (by omega)))
              rw [eb, n_c (by omega)] at this
              exact z.2.2 this.symm
        exact lp (tx_len.getD w 0) 0 (Nat.zero_add _) (fun j hj => absurd hj (Nat.not_lt_zero _))
      · rcases z with z | z | z
        · exact z h1.1
        · exact z h1.2
        · exact z (by have := y.2.2; omega)
    · refine s0 (fun y1 y2 => absurd ⟨y1, y2⟩ h1) (fun z => absurd ⟨z.1, z.2.1⟩ h1) (fun z => no _ (nb (fun y => h1 ⟨y.1, y.2.1⟩)))
  · exact h.elim
theorem de_X12_is : ∀ q ∈ k_X12_is.1, decode cX12_is q.1 = .ok q.2 := by decide +kernel
theorem me_X12_is (g : gl_T) : MT g yX12_is cX12_is 4 (some .boolean) ⟨4, 0, 0, 85⟩ 0 0 s_X12_is := by
  intro hl
  exact eg_met_of (k := k_X12_is) (by decide) rfl ⟨Nat.le_refl _, Nat.le_refl _⟩ rfl sz_X12_is de_X12_is (fun meth hn => (fc (eg_FL_of wd_c12 (by decide) lf_RX12_86 (fun h => absurd h (by decide))) (fc (eg_FL_of wd_c12 (by decide) lf_RX12_266 (fun h => absurd h (by decide))) (fc (eg_FL_of wd_c12 (by decide) lf_RX12_272 (fun h => absurd h (by decide))) (fc (eg_FL_of wd_c12 (by decide) lf_RX12_291 (fun h => absurd h (by decide))) (fc (eg_FL_of wd_c12 (by decide) lf_RX12_294 (fun h => absurd h (by decide))) (fn))))))) (fun A s H hE => (fn)) (fun p e s m args below meth c Q A ad0 N0 S0 hK hEx hA => (fc (mt_len S0 hEx hA lm_RX12_300 ⟨by decide, by decide⟩ (by decide)) (fc (mt_chr S0 hEx hA lm_RX12_304 ⟨by decide, by decide⟩ (by decide)) (fn)))) (fun p e s m args below meth c Qc XC A ad0 N0 P S0 hK hEx hA hlk hout hPX => (fn)) (fun argv M Qp h => T_X12_is h)

def m_v (M : eg_M) : Nat → Option Nat
  | 0 => none
  | i + 1 => if m_iw M (px_vn.getD (11 - (i + 1)) 0) = true then some (11 - (i + 1)) else m_v M i
theorem vn_tx {M : eg_M} : ∀ i, i < 11 → eg_tv (eg_ref (eg_sh wd M 122) M 122 i) = .retAddr (px_vn.getD i 0) ∧ px_vn.getD i 0 < 32 := by
  intro i hi
  rcases (show i = 0 ∨ i = 1 ∨ i = 2 ∨ i = 3 ∨ i = 4 ∨ i = 5 ∨ i = 6 ∨ i = 7 ∨ i = 8 ∨ i = 9 ∨ i = 10 by omega) with rfl | rfl | rfl | rfl | rfl | rfl | rfl | rfl | rfl | rfl | rfl <;> exact ⟨rfl, by decide⟩
def k_X12_valueNow : eg_C := ([(0, .iconst 0, 1), (1, .istore_n 1, 1), (2, .iload_n 1, 1), (3, .aload_n 0, 1), (4, .getfield 31, 3), (7, .arraylength, 1), (8, .if_icmp .ge 24, 3), (11, .aload_n 0, 1), (12, .aload_n 0, 1), (13, .getfield 31, 3), (16, .iload_n 1, 1), (17, .aaload, 1), (18, .invokevirtual 321, 3), (21, .ifCond .eq 5, 3), (24, .iload_n 1, 1), (25, .ireturn, 1), (26, .iinc 1 1, 3), (29, .goto (-27), 3), (32, .iconst (-1), 1), (33, .ireturn, 1)], [(31, 12, 0, false)], [], [(321, 1 + 1, 0, 0, s_X12_is)], [], 1, 0, 0)
theorem mk_X12_valueNow : ∀ q ∈ k_X12_valueNow.2.2.2.1, eg_mono q.2.2.2.2 := (fc (mo_X12_is) (fn))
set_option maxRecDepth 100000 in
theorem st_X12_valueNow_0 {Qp : eg_P} {M : eg_M} 
  (l0 : eg_T wd k_X12_valueNow Qp 2 0 0 [some (.ref 121), some (.int (nI 0))] [] M) :
  eg_T wd k_X12_valueNow Qp 0 0 0 [some (.ref 121), none] [] M := by
  refine eg_T_run mk_X12_valueNow (cut := [2, 18]) 23 ?_
  show eg_T wd k_X12_valueNow Qp 2 0 0 [some (.ref 121), some (.int (nI 0))] [] M
  exact l0

set_option maxRecDepth 100000 in
theorem st_X12_valueNow_2 {Qp : eg_P} {M : eg_M} (x1 : Int32)
  (g0 : (¬ ((nI 11) ≤ x1)) → (vp_in x1 11))
  (l0 : ((nI 11) ≤ x1) → Qp (.inl (some (.int (-nI 1)))) M)
  (l1 : (¬ (nI 11) ≤ x1) → eg_T wd k_X12_valueNow Qp 18 0 0 [some (.ref 121), some (.int x1)] [eg_tv (eg_ref (eg_sh wd M 122) M 122 x1.toNatClampNeg), .ref 121] M) :
  eg_T wd k_X12_valueNow Qp 2 0 0 [some (.ref 121), some (.int x1)] [] M := by
  refine eg_T_run mk_X12_valueNow (cut := [2, 18]) 23 ?_
  refine And.intro (fun (c1 : (nI 11) ≤ x1) => ?_) (fun (c1 : ¬ (nI 11) ≤ x1) => ?_)
  · skip
    refine And.intro (fun z => absurd z (by decide)) ?_
    show Qp (.inl (some (.int (-nI 1)))) M
    exact l0 c1
  · skip
    refine And.intro (show vp_in x1 11 from ?_) ?_
    · exact g0 c1
    show eg_T wd k_X12_valueNow Qp 18 0 0 [some (.ref 121), some (.int x1)] [eg_tv (eg_ref (eg_sh wd M 122) M 122 x1.toNatClampNeg), .ref 121] M
    exact l1 c1

set_option maxRecDepth 100000 in
theorem st_X12_valueNow_18 {Qp : eg_P} {M : eg_M} (x1 : Int32) (s0 : Nat)
  (g0 : (s0 < 32 ∧ (eg_gi M 121 31 = 0 → eg_gi M 121 26 = nI 1 → ∃ b e, b ≤ e ∧ e ≤ 400 ∧ eg_gi M 121 29 = nI b ∧ eg_gi M 121 30 = nI e)))
  (l0 : ((m_iw M s0) = false) → eg_T wd k_X12_valueNow Qp 2 0 0 [some (.ref 121), some (.int (x1 + (nI 1)))] [] M)
  (l1 : (¬ (m_iw M s0) = false) → Qp (.inl (some (.int x1))) M) :
  eg_T wd k_X12_valueNow Qp 18 0 0 [some (.ref 121), some (.int x1)] [.retAddr s0, .ref 121] M := by
  refine eg_T_run mk_X12_valueNow (cut := [2, 18]) 23 ?_
  refine And.intro (show (s0 < 32 ∧ (eg_gi M 121 31 = 0 → eg_gi M 121 26 = nI 1 → ∃ b e, b ≤ e ∧ e ≤ 400 ∧ eg_gi M 121 29 = nI b ∧ eg_gi M 121 30 = nI e)) from ?_) ?_
  · exact g0
  refine And.intro (fun (c1 : (b2i (m_iw M s0)) = 0) => ?_) (fun (c1 : ¬ (b2i (m_iw M s0)) = 0) => ?_)
  · replace c1 := b2i_0.mp c1
    show eg_T wd k_X12_valueNow Qp 2 0 0 [some (.ref 121), some (.int (x1 + (nI 1)))] [] M
    exact l0 c1
  · replace c1 := b2i_ff c1
    refine And.intro (fun z => absurd z (by decide)) ?_
    show Qp (.inl (some (.int x1))) M
    exact l1 c1

def s_X12_valueNow : eg_S := fun argv M Qp => match argv with
  | [.ref 121] => (eg_gi M 121 31 = 0 → eg_gi M 121 26 = nI 1 → ∃ b e, b ≤ e ∧ e ≤ 400 ∧ eg_gi M 121 29 = nI b ∧ eg_gi M 121 30 = nI e) ∧ Qp (.inl (some (.int (k_ov (m_v M 11))))) M
  | _ => False
theorem mo_X12_valueNow : eg_mono s_X12_valueNow := by
  intro argv M Q Q' h
  unfold s_X12_valueNow
  split
  · exact fun z => ⟨z.1, h _ _ z.2⟩
  · exact id
theorem sz_X12_valueNow : ∀ argv M Qp, s_X12_valueNow argv M Qp → (eg_ls0 argv).length ≤ 2 := by
  intro argv M Qp h
  unfold s_X12_valueNow at h
  split at h
  · exact Nat.le_of_ble_eq_true rfl
  · exact h.elim
theorem sr_X12_valueNow : ∀ argv M Qp, s_X12_valueNow argv M Qp → ∃ p0 As, argv = .ref p0 :: As ∧ eg_isO wd M p0 12 = true := by
  intro argv M Qp h
  unfold s_X12_valueNow at h
  split at h
  · exact ⟨_, _, rfl, rfl⟩
  · exact h.elim
set_option maxRecDepth 100000 in
set_option maxHeartbeats 1000000 in
theorem T_X12_valueNow {argv : List Value} {M : eg_M} {Qp : eg_P} (h : s_X12_valueNow argv M Qp) : eg_T wd k_X12_valueNow Qp 0 0 0 (eg_lsN 2 argv) [] M := by
  unfold s_X12_valueNow at h
  split at h
  · obtain ⟨hp, hq⟩ := h
    have lp : ∀ f i, i + f = 11 → m_v M f = m_v M 11 → eg_T wd k_X12_valueNow Qp 2 0 0 [some (.ref 121), some (.int (nI i))] [] M := by
      intro f
      induction f with
      | zero =>
        intro i hi he
        rw [← he] at hq
        have : nI 11 ≤ nI i := (n_le (by decide) (by omega)).mpr (by omega)
        exact st_X12_valueNow_2 (nI i) (fun z => absurd this z) (fun _ => hq) (fun z => absurd this z)
      | succ f ih =>
        intro i hi he
        have hn : ¬ nI 11 ≤ nI i := by
          rw [n_le (by decide) (by omega)]
          omega
        have st := st_X12_valueNow_2 (Qp := Qp) (M := M) (nI i)
        obtain ⟨v1, v2⟩ := vn_tx (M := M) i (by omega)
        rw [n_c (show i < 2 ^ 31 by omega), v1] at st
        rw [m_v, show 11 - (f + 1) = i by omega] at he
        refine st (fun _ => (n_in (by omega) (by decide)).mpr (by omega)) (fun z => absurd z hn) (fun _ => ?_)
        refine st_X12_valueNow_18 (nI i) _ ⟨v2, hp⟩ (fun z => ?_) (fun z => ?_)
        · rw [n_s]
          refine ih (i + 1) (by omega) ?_
          rw [z, if_neg Bool.noConfusion] at he
          exact he
        · rw [bq_t z, if_pos rfl] at he
          rw [← he] at hq
          exact hq
    exact st_X12_valueNow_0 (lp 11 0 rfl rfl)
  · exact h.elim
theorem de_X12_valueNow : ∀ q ∈ k_X12_valueNow.1, decode cX12_valueNow q.1 = .ok q.2 := by decide +kernel
theorem me_X12_valueNow (g : gl_T) : MT g yX12_valueNow cX12_valueNow 2 (some .int) ⟨5, 0, 0, 108⟩ 0 0 s_X12_valueNow := by
  intro hl
  exact eg_met_of (k := k_X12_valueNow) (by decide) rfl ⟨Nat.le_refl _, Nat.le_refl _⟩ rfl sz_X12_valueNow de_X12_valueNow (fun meth hn => (fc (eg_FL_of wd_c12 (by decide) lf_RX12_31 (fun h => absurd h (by decide))) (fn))) (fun A s H hE => (fn)) (fun p e s m args below meth c Q A ad0 N0 S0 hK hEx hA => (fc (mt_V hl S0 hK hEx hA (me_X12_is g) lm_RX12_321 li_X12_is lx_X12_is ln_RX12 lc_X12_is ⟨rfl, by decide, by decide, by decide +kernel⟩ ⟨rfl, rfl⟩ ⟨by decide, by decide⟩ (ci := 12) rfl rfl sr_X12_is (by decide)) (fn))) (fun p e s m args below meth c Qc XC A ad0 N0 P S0 hK hEx hA hlk hout hPX => (fn)) (fun argv M Qp h => T_X12_valueNow h)

def m_sb (M : eg_M) (a : Int32) : Bool := decide (eg_gi M 121 31 = 0 ∧ eg_gi M 121 26 = nI 3 ∧ eg_gi M 121 27 = a)
def k_X12_isSign_v : eg_C := ([(0, .aload_n 0, 1), (1, .getfield 294, 3), (4, .ifCond .ne 23, 3), (7, .aload_n 0, 1), (8, .getfield 272, 3), (11, .iconst 3, 1), (12, .if_icmp .ne 15, 3), (15, .aload_n 0, 1), (16, .getfield 269, 3), (19, .iload_n 1, 1), (20, .if_icmp .ne 7, 3), (23, .iconst 1, 1), (24, .goto 4, 3), (27, .iconst 0, 1), (28, .ireturn, 1)], [(269, 12, 27, false), (272, 12, 26, false), (294, 12, 31, false)], [], [], [], 2, 0, 0)
theorem mk_X12_isSign_v : ∀ q ∈ k_X12_isSign_v.2.2.2.1, eg_mono q.2.2.2.2 := (fn)
set_option maxRecDepth 100000 in
theorem st_X12_isSign_v_0 {Qp : eg_P} {M : eg_M} (a : Int32)
  (l0 : ((eg_gi M 121 31) = 0 ∧ ((eg_gi M 121 26) = (nI 3) ∧ (eg_gi M 121 27) = a)) → Qp (.inl (some (.int (nI 1)))) M)
  (l1 : (¬ (eg_gi M 121 31) = 0 ∨ (¬ (eg_gi M 121 26) = (nI 3) ∨ ¬ (eg_gi M 121 27) = a)) → Qp (.inl (some (.int (nI 0)))) M) :
  eg_T wd k_X12_isSign_v Qp 0 0 0 [some (.ref 121), some (.int a)] [] M := by
  refine eg_T_run mk_X12_isSign_v (cut := []) 18 ?_
  refine And.intro (fun (c1 : (eg_gi M 121 31) = 0) => ?_) (fun (c1 : ¬ (eg_gi M 121 31) = 0) => ?_)
  · skip
    refine And.intro (fun (c2 : (eg_gi M 121 26) = (nI 3)) => ?_) (fun (c2 : ¬ (eg_gi M 121 26) = (nI 3)) => ?_)
    · skip
      refine And.intro (fun (c3 : (eg_gi M 121 27) = a) => ?_) (fun (c3 : ¬ (eg_gi M 121 27) = a) => ?_)
      · skip
        refine And.intro (fun _ => (show (nI 1) = 0 ∨ (nI 1) = 1 from ?_)) ?_
        · exact Or.inr rfl
        show Qp (.inl (some (.int (nI 1)))) M
        exact l0 ⟨c1, ⟨c2, c3⟩⟩
      · skip
        refine And.intro (fun _ => (show (nI 0) = 0 ∨ (nI 0) = 1 from ?_)) ?_
        · exact Or.inl rfl
        show Qp (.inl (some (.int (nI 0)))) M
        exact l1 (Or.inr (Or.inr c3))
    · skip
      refine And.intro (fun _ => (show (nI 0) = 0 ∨ (nI 0) = 1 from ?_)) ?_
      · exact Or.inl rfl
      show Qp (.inl (some (.int (nI 0)))) M
      exact l1 (Or.inr (Or.inl c2))
  · skip
    refine And.intro (fun _ => (show (nI 0) = 0 ∨ (nI 0) = 1 from ?_)) ?_
    · exact Or.inl rfl
    show Qp (.inl (some (.int (nI 0)))) M
    exact l1 (Or.inl c1)

def s_X12_isSign_v : eg_S := fun argv M Qp => match argv with
  | [.ref 121, .int a] => (True) ∧ Qp (.inl (some (.int (b2i (m_sb M a))))) M
  | _ => False
theorem mo_X12_isSign_v : eg_mono s_X12_isSign_v := by
  intro argv M Q Q' h
  unfold s_X12_isSign_v
  split
  · exact fun z => ⟨z.1, h _ _ z.2⟩
  · exact id
theorem sz_X12_isSign_v : ∀ argv M Qp, s_X12_isSign_v argv M Qp → (eg_ls0 argv).length ≤ 2 := by
  intro argv M Qp h
  unfold s_X12_isSign_v at h
  split at h
  · exact Nat.le_of_ble_eq_true rfl
  · exact h.elim
theorem sr_X12_isSign_v : ∀ argv M Qp, s_X12_isSign_v argv M Qp → ∃ p0 As, argv = .ref p0 :: As ∧ eg_isO wd M p0 12 = true := by
  intro argv M Qp h
  unfold s_X12_isSign_v at h
  split at h
  · exact ⟨_, _, rfl, rfl⟩
  · exact h.elim
set_option maxRecDepth 100000 in
set_option maxHeartbeats 1000000 in
theorem T_X12_isSign_v {argv : List Value} {M : eg_M} {Qp : eg_P} (h : s_X12_isSign_v argv M Qp) : eg_T wd k_X12_isSign_v Qp 0 0 0 (eg_lsN 2 argv) [] M := by
  unfold s_X12_isSign_v at h
  split at h
  · rename_i a
    obtain ⟨hp, hq⟩ := h
    refine st_X12_isSign_v_0 a (fun z => ?_) (fun z => ?_)
    · rw [show m_sb M a = true from decide_eq_true ⟨z.1, z.2.1, z.2.2⟩] at hq
      exact hq
    · rw [show m_sb M a = false from decide_eq_false (fun y => by rcases z with z | z | z; exact z y.1; exact z y.2.1; exact z y.2.2)] at hq
      exact hq
  · exact h.elim
theorem de_X12_isSign_v : ∀ q ∈ k_X12_isSign_v.1, decode cX12_isSign q.1 = .ok q.2 := by decide +kernel
theorem me_X12_isSign_v (g : gl_T) : MT g yX12_isSign cX12_isSign 2 (some .boolean) ⟨0, 0, 0, 0⟩ 0 0 s_X12_isSign_v := by
  intro hl
  exact eg_met_of (k := k_X12_isSign_v) (by decide) rfl ⟨Nat.le_refl _, Nat.le_refl _⟩ rfl sz_X12_isSign_v de_X12_isSign_v (fun meth hn => (fc (eg_FL_of wd_c12 (by decide) lf_RX12_269 (fun h => absurd h (by decide))) (fc (eg_FL_of wd_c12 (by decide) lf_RX12_272 (fun h => absurd h (by decide))) (fc (eg_FL_of wd_c12 (by decide) lf_RX12_294 (fun h => absurd h (by decide))) (fn))))) (fun A s H hE => (fn)) (fun p e s m args below meth c Q A ad0 N0 S0 hK hEx hA => (fn)) (fun p e s m args below meth c Qc XC A ad0 N0 P S0 hK hEx hA hlk hout hPX => (fn)) (fun argv M Qp h => T_X12_isSign_v h)

def m_wr (M : eg_M) (a : Int32) : eg_M := if eg_gi M 121 31 = 0 then eg_si (eg_si M 121 31 a) 121 32 (eg_gi M 121 29) else M
def k_X12_wrong_v : eg_C := ([(0, .aload_n 0, 1), (1, .getfield 294, 3), (4, .ifCond .eq 4, 3), (7, .return_, 1), (8, .aload_n 0, 1), (9, .iload_n 1, 1), (10, .putfield 294, 3), (13, .aload_n 0, 1), (14, .aload_n 0, 1), (15, .getfield 266, 3), (18, .putfield 297, 3), (21, .return_, 1)], [(266, 12, 29, false), (294, 12, 31, true), (297, 12, 32, true)], [], [], [], 0, 0, 0)
theorem mk_X12_wrong_v : ∀ q ∈ k_X12_wrong_v.2.2.2.1, eg_mono q.2.2.2.2 := (fn)
set_option maxRecDepth 100000 in
theorem st_X12_wrong_v_0 {Qp : eg_P} {M : eg_M} (a : Int32)
  (l0 : ((eg_gi M 121 31) = 0) → Qp (.inl none) (eg_si (eg_si M 121 31 a) 121 32 (eg_gi M 121 29)))
  (l1 : (¬ (eg_gi M 121 31) = 0) → Qp (.inl none) M) :
  eg_T wd k_X12_wrong_v Qp 0 0 0 [some (.ref 121), some (.int a)] [] M := by
  refine eg_T_run mk_X12_wrong_v (cut := []) 15 ?_
  refine And.intro (fun (c1 : (eg_gi M 121 31) = 0) => ?_) (fun (c1 : ¬ (eg_gi M 121 31) = 0) => ?_)
  · skip
    show Qp (.inl none) (eg_si (eg_si M 121 31 a) 121 32 (eg_gi M 121 29))
    exact l0 c1
  · skip
    show Qp (.inl none) M
    exact l1 c1

def s_X12_wrong_v : eg_S := fun argv M Qp => match argv with
  | [.ref 121, .int a] => (True) ∧ Qp (.inl none) (m_wr M a)
  | _ => False
theorem mo_X12_wrong_v : eg_mono s_X12_wrong_v := by
  intro argv M Q Q' h
  unfold s_X12_wrong_v
  split
  · exact fun z => ⟨z.1, h _ _ z.2⟩
  · exact id
theorem sz_X12_wrong_v : ∀ argv M Qp, s_X12_wrong_v argv M Qp → (eg_ls0 argv).length ≤ 2 := by
  intro argv M Qp h
  unfold s_X12_wrong_v at h
  split at h
  · exact Nat.le_of_ble_eq_true rfl
  · exact h.elim
theorem sr_X12_wrong_v : ∀ argv M Qp, s_X12_wrong_v argv M Qp → ∃ p0 As, argv = .ref p0 :: As ∧ eg_isO wd M p0 12 = true := by
  intro argv M Qp h
  unfold s_X12_wrong_v at h
  split at h
  · exact ⟨_, _, rfl, rfl⟩
  · exact h.elim
set_option maxRecDepth 100000 in
set_option maxHeartbeats 1000000 in
theorem T_X12_wrong_v {argv : List Value} {M : eg_M} {Qp : eg_P} (h : s_X12_wrong_v argv M Qp) : eg_T wd k_X12_wrong_v Qp 0 0 0 (eg_lsN 2 argv) [] M := by
  unfold s_X12_wrong_v at h
  split at h
  · rename_i a
    obtain ⟨hp, hq⟩ := h
    unfold m_wr at hq
    exact st_X12_wrong_v_0 a (fun z => by rw [if_pos z] at hq; exact hq) (fun z => by rw [if_neg z] at hq; exact hq)
  · exact h.elim
theorem de_X12_wrong_v : ∀ q ∈ k_X12_wrong_v.1, decode cX12_wrong q.1 = .ok q.2 := by decide +kernel
theorem me_X12_wrong_v (g : gl_T) : MT g yX12_wrong cX12_wrong 2 none ⟨0, 0, 0, 0⟩ 0 0 s_X12_wrong_v := by
  intro hl
  exact eg_met_of (k := k_X12_wrong_v) (by decide) rfl ⟨Nat.le_refl _, Nat.le_refl _⟩ rfl sz_X12_wrong_v de_X12_wrong_v (fun meth hn => (fc (eg_FL_of wd_c12 (by decide) lf_RX12_266 (fun h => absurd h (by decide))) (fc (eg_FL_of wd_c12 (by decide) lf_RX12_294 (fun _ => Or.inl rfl)) (fc (eg_FL_of wd_c12 (by decide) lf_RX12_297 (fun _ => Or.inl rfl)) (fn))))) (fun A s H hE => (fn)) (fun p e s m args below meth c Q A ad0 N0 S0 hK hEx hA => (fn)) (fun p e s m args below meth c Qc XC A ad0 N0 P S0 hK hEx hA hlk hout hPX => (fn)) (fun argv M Qp h => T_X12_wrong_v h)

def m_em (M : eg_M) (a b : Int32) : eg_M := if eg_gi M 121 31 = 0 then eg_si (eg_si M 148 (nI 640 * a + eg_gi M 121 34).toNatClampNeg b) 121 34 (eg_gi M 121 34 + nI 1) else M
def k_X12_emit_v : eg_C := ([(0, .aload_n 0, 1), (1, .getfield 294, 3), (4, .ifCond .eq 4, 3), (7, .return_, 1), (8, .aload_n 0, 1), (9, .getfield 117, 3), (12, .sipush 640, 3), (15, .iload_n 1, 1), (16, .imul, 1), (17, .aload_n 0, 1), (18, .getfield 318, 3), (21, .iadd, 1), (22, .iload_n 2, 1), (23, .iastore, 1), (24, .aload_n 0, 1), (25, .dup, 1), (26, .getfield 318, 3), (29, .iconst 1, 1), (30, .iadd, 1), (31, .putfield 318, 3), (34, .return_, 1)], [(117, 12, 44, false), (294, 12, 31, false), (318, 12, 34, true)], [], [], [], 0, 0, 0)
theorem mk_X12_emit_v : ∀ q ∈ k_X12_emit_v.2.2.2.1, eg_mono q.2.2.2.2 := (fn)
set_option maxRecDepth 100000 in
theorem st_X12_emit_v_0 {Qp : eg_P} {M : eg_M} (a : Int32) (b : Int32)
  (g0 : ((eg_gi M 121 31) = 0) → (vp_in (((nI 640) * a) + (eg_gi M 121 34)) 5120))
  (l0 : ((eg_gi M 121 31) = 0) → Qp (.inl none) (eg_si (eg_si M 148 (((nI 640) * a) + (eg_gi M 121 34)).toNatClampNeg b) 121 34 ((eg_gi M 121 34) + (nI 1))))
  (l1 : (¬ (eg_gi M 121 31) = 0) → Qp (.inl none) M) :
  eg_T wd k_X12_emit_v Qp 0 0 0 [some (.ref 121), some (.int a), some (.int b)] [] M := by
  refine eg_T_run mk_X12_emit_v (cut := []) 24 ?_
  refine And.intro (fun (c1 : (eg_gi M 121 31) = 0) => ?_) (fun (c1 : ¬ (eg_gi M 121 31) = 0) => ?_)
  · skip
    refine And.intro (show vp_in (((nI 640) * a) + (eg_gi M 121 34)) 5120 from ?_) ?_
    · exact g0 c1
    show Qp (.inl none) (eg_si (eg_si M 148 (((nI 640) * a) + (eg_gi M 121 34)).toNatClampNeg b) 121 34 ((eg_gi M 121 34) + (nI 1)))
    exact l0 c1
  · skip
    show Qp (.inl none) M
    exact l1 c1

def s_X12_emit_v : eg_S := fun argv M Qp => match argv with
  | [.ref 121, .int a, .int b] => (eg_gi M 121 31 = 0 → vp_in (nI 640 * a + eg_gi M 121 34) 5120) ∧ Qp (.inl none) (m_em M a b)
  | _ => False
theorem mo_X12_emit_v : eg_mono s_X12_emit_v := by
  intro argv M Q Q' h
  unfold s_X12_emit_v
  split
  · exact fun z => ⟨z.1, h _ _ z.2⟩
  · exact id
theorem sz_X12_emit_v : ∀ argv M Qp, s_X12_emit_v argv M Qp → (eg_ls0 argv).length ≤ 3 := by
  intro argv M Qp h
  unfold s_X12_emit_v at h
  split at h
  · exact Nat.le_of_ble_eq_true rfl
  · exact h.elim
theorem sr_X12_emit_v : ∀ argv M Qp, s_X12_emit_v argv M Qp → ∃ p0 As, argv = .ref p0 :: As ∧ eg_isO wd M p0 12 = true := by
  intro argv M Qp h
  unfold s_X12_emit_v at h
  split at h
  · exact ⟨_, _, rfl, rfl⟩
  · exact h.elim
set_option maxRecDepth 100000 in
set_option maxHeartbeats 1000000 in
theorem T_X12_emit_v {argv : List Value} {M : eg_M} {Qp : eg_P} (h : s_X12_emit_v argv M Qp) : eg_T wd k_X12_emit_v Qp 0 0 0 (eg_lsN 3 argv) [] M := by
  unfold s_X12_emit_v at h
  split at h
  · rename_i a b
    obtain ⟨hp, hq⟩ := h
    unfold m_em at hq
    exact st_X12_emit_v_0 a b hp (fun z => by rw [if_pos z] at hq; exact hq) (fun z => by rw [if_neg z] at hq; exact hq)
  · exact h.elim
theorem de_X12_emit_v : ∀ q ∈ k_X12_emit_v.1, decode cX12_emit q.1 = .ok q.2 := by decide +kernel
theorem me_X12_emit_v (g : gl_T) : MT g yX12_emit cX12_emit 3 none ⟨0, 0, 0, 0⟩ 0 0 s_X12_emit_v := by
  intro hl
  exact eg_met_of (k := k_X12_emit_v) (by decide) rfl ⟨Nat.le_refl _, Nat.le_refl _⟩ rfl sz_X12_emit_v de_X12_emit_v (fun meth hn => (fc (eg_FL_of wd_c12 (by decide) lf_RX12_117 (fun h => absurd h (by decide))) (fc (eg_FL_of wd_c12 (by decide) lf_RX12_294 (fun h => absurd h (by decide))) (fc (eg_FL_of wd_c12 (by decide) lf_RX12_318 (fun _ => Or.inl rfl)) (fn))))) (fun A s H hE => (fn)) (fun p e s m args below meth c Q A ad0 N0 S0 hK hEx hA => (fn)) (fun p e s m args below meth c Qc XC A ad0 N0 P S0 hK hEx hA hlk hout hPX => (fn)) (fun argv M Qp h => T_X12_emit_v h)

/-- the model: only the reader's fields have changed -/
def m_fq (M N : eg_M) : Prop := N.1 = M.1 ∧ N.2.2 = M.2.2 ∧ ∀ q j, ¬ (q = 121 ∧ 24 ≤ j ∧ j ≤ 34 ∧ ¬ j = 25 ∧ ¬ j = 33) → eg_gi N q j = eg_gi M q j
def m_fr (r : Nat) (M N : eg_M) : Prop := N.1 = M.1 ∧ N.2.2 = M.2.2 ∧ ∀ q j, ¬ (q = 121 ∧ 24 ≤ j ∧ j ≤ 34 ∧ ¬ j = 25 ∧ ¬ j = 33) → ¬ (q = 148 ∧ 640 * r ≤ j ∧ j < 640 * r + 640) → eg_gi N q j = eg_gi M q j
theorem fq_rf (M : eg_M) : m_fq M M := ⟨rfl, rfl, fun _ _ _ => rfl⟩
theorem fq_fs {M N : eg_M} (h : m_fs M N) : m_fq M N := ⟨h.1, h.2.1, fun q j a => h.2.2 q j (by omega)⟩
theorem mr_fq {r : Nat} {M N : eg_M} (h : m_fq M N) : m_fr r M N := ⟨h.1, h.2.1, fun q j a _ => h.2.2 q j a⟩
theorem mr_rf (r : Nat) (M : eg_M) : m_fr r M M := ⟨rfl, rfl, fun _ _ _ _ => rfl⟩
theorem mr_tr {r : Nat} {M N O : eg_M} (h1 : m_fr r M N) (h2 : m_fr r N O) : m_fr r M O := ⟨h2.1.trans h1.1, h2.2.1.trans h1.2.1, fun q j a b => (h2.2.2 q j a b).trans (h1.2.2 q j a b)⟩
theorem mr_139 {r : Nat} {M N : eg_M} (h : m_fr r M N) : eg_gi N 139 = eg_gi M 139 := funext (fun j => h.2.2 139 j (by omega) (by omega))
theorem mr_25 {r : Nat} {M N : eg_M} (h : m_fr r M N) : eg_gi N 121 25 = eg_gi M 121 25 := h.2.2 121 25 (by omega) (by omega)
theorem mr_tb {r : Nat} {M N : eg_M} (h : m_fr r M N) (hT : m_tb M) : m_tb N := fun j hj => by
  rw [mr_139 h]
  exact hT j hj
theorem fq_wr (M : eg_M) (a : Int32) : m_fq M (m_wr M a) := by
  unfold m_wr
  split
  · exact ⟨rfl, rfl, fun q j z => by rw [si_g, if_neg (by omega), si_g, if_neg (by omega)]⟩
  · exact fq_rf M
/-- the model: the reader of text r stands at s, with d steps owed -/
def m_rs (r d e : Nat) (M : eg_M) (s : px_S) : Prop := ∃ n, n ≤ 400 ∧ eg_gi M 121 25 = nI n ∧ (match s with
  | .inl (c, p) => 1 ≤ c ∧ c ≤ 3 ∧ p ≤ 400 ∧ eg_gi M 121 31 = nI c ∧ eg_gi M 121 32 = nI p
  | .inr (t, S) => eg_gi M 121 31 = nI 0 ∧ px_tok (eg_gi M 139) n t ∧ m_at (eg_gi M 139) M t ∧ S.length + d ≤ t.1 ∧ 2 * px_W S + 2 * d ≤ 3 * t.1 + e ∧ eg_gi M 121 34 = nI (px_W S) ∧ m_sl (eg_gi M 148) (640 * r + px_W S) S (640 * r))
theorem mtk_1 {k : Int32} : m_tk k = nI 1 ↔ k = -nI 2 := by
  unfold m_tk
  constructor
  · intro h
    split at h
    · exact absurd h (by decide)
    · split at h
      · assumption
      · split at h
        · exact absurd h (by decide)
        · split at h <;> exact absurd h (by decide)
  · rintro rfl
    decide
theorem mtk_2 {k : Int32} : m_tk k = nI 2 ↔ k = -nI 3 := by
  unfold m_tk
  constructor
  · intro h
    split at h
    · exact absurd h (by decide)
    · split at h
      · exact absurd h (by decide)
      · split at h
        · assumption
        · split at h <;> exact absurd h (by decide)
  · rintro rfl
    decide
theorem mtk_0 {k : Int32} : m_tk k = nI 0 ↔ k = -nI 1 := by
  unfold m_tk
  constructor
  · intro h
    split at h
    · assumption
    · split at h
      · exact absurd h (by decide)
      · split at h
        · exact absurd h (by decide)
        · split at h <;> exact absurd h (by decide)
  · rintro rfl
    decide
theorem mtk_3 {k a : Int32} (ha : m_is a) : (m_tk k = nI 3 ∧ m_sg k = a) ↔ k = a := by
  constructor
  · rintro ⟨h1, h2⟩
    unfold m_tk at h1
    unfold m_sg at h2
    split at h1
    · exact absurd h1 (by decide)
    · rename_i c1
      split at h1
      · exact absurd h1 (by decide)
      · rename_i c2
        split at h1
        · exact absurd h1 (by decide)
        · rename_i c3
          rw [if_neg (by rintro (y | y | y); exact c1 y; exact c2 y; exact c3 y)] at h2
          exact h2
  · rintro rfl
    rcases ha with rfl | rfl | rfl | rfl | rfl | rfl | rfl | rfl | rfl <;> decide
section MRS
variable {r d e : Nat} {M N : eg_M} {s : px_S} {t : px_T} {S : List Int32}
theorem ms_0 (h : m_rs r d e M s) : eg_gi M 121 31 = 0 ↔ ∃ t S, s = .inr (t, S) := by
  obtain ⟨n, hn, eN, h⟩ := h
  match s, h with
  | .inl (c, p), h =>
    constructor
    · intro z
      rw [h.2.2.2.1] at z
      exact absurd z (nI_ne0 (by omega) (by omega))
    · rintro ⟨t, S, e⟩
      cases e
  | .inr (t, S), h => exact ⟨fun _ => ⟨t, S, rfl⟩, fun _ => h.1⟩
theorem ms_sb (h : m_rs r d e M s) {a : Int32} (ha : m_is a) : m_sb M a = decide (px_k s = a) := by
  have h0 := ms_0 h
  obtain ⟨n, hn, eN, h⟩ := h
  unfold m_sb
  rw [decide_eq_decide]
  match s, h, h0 with
  | .inl (c, p), h, h0 =>
    constructor
    · intro z
      obtain ⟨t, S, e⟩ := h0.mp z.1
      cases e
    · intro z
      have z : -nI 4 = a := z
      rcases ha with rfl | rfl | rfl | rfl | rfl | rfl | rfl | rfl | rfl <;> exact absurd z (by decide)
  | .inr (t, S), h, h0 =>
    obtain ⟨h1, h2, ⟨a1, a2, a3, a4, a5, a6⟩, _⟩ := h
    show _ ↔ t.2.2 = a
    rw [a2, a3, mtk_3 ha]
    exact ⟨fun z => z.2, fun z => ⟨h1, z⟩⟩
theorem ms_wp (h : m_rs r d e M s) : eg_gi M 121 31 = 0 → eg_gi M 121 26 = nI 1 → ∃ b e, b ≤ e ∧ e ≤ 400 ∧ eg_gi M 121 29 = nI b ∧ eg_gi M 121 30 = nI e := by
  intro h0 _
  obtain ⟨t, S, rfl⟩ := (ms_0 h).mp h0
  obtain ⟨n, hn, eN, h1, h2, ⟨a1, a2, a3, a4, a5, a6⟩, _⟩ := h
  have hb := px_tok_b h2
  exact ⟨t.1, t.2.1, hb.1, by omega, a4, a5⟩
theorem ms_iw (h : m_rs r d e M s) (w : Nat) : m_iw M w = px_is (eg_gi M 139) w s := by
  have h0 := ms_0 h
  obtain ⟨n, hn, eN, h⟩ := h
  unfold m_iw px_is
  match s, h, h0 with
  | .inl (c, p), h, h0 =>
    dsimp only
    rw [decide_eq_false (fun z => by obtain ⟨t, S, e⟩ := h0.mp z.1; cases e), Bool.false_and]
  | .inr (t, S), h, h0 =>
    obtain ⟨h1, h2, ⟨a1, a2, a3, a4, a5, a6⟩, _⟩ := h
    have hb := px_tok_b h2
    dsimp only
    unfold px_w
    rw [a4, a5, n_c (by omega), n_c (by omega)]
    congr 1
    rw [decide_eq_decide, a2, mtk_1]
    exact ⟨fun z => z.2, fun z => ⟨h1, z⟩⟩
theorem ms_v (h : m_rs r d e M (.inr (t, S))) : ∀ i, m_v M i = px_v (eg_gi M 139) t i
  | 0 => rfl
  | i + 1 => by
    rw [m_v, px_v, ms_iw h, ms_v h i]
    rfl
theorem ms_24 (h : m_rs r d e M (.inr (t, S))) : ∃ n, n ≤ 400 ∧ eg_gi M 121 25 = nI n ∧ t.2.1 ≤ n ∧ eg_gi M 121 24 = nI t.2.1 := by
  obtain ⟨n, hn, eN, h1, h2, a, _⟩ := h
  exact ⟨n, hn, eN, (px_tok_b h2).2.1, a.1⟩
theorem ms_st (h : m_rs r d e M s) (h0 : eg_gi M 121 31 = 0) : ∃ p n, p ≤ n ∧ n ≤ 400 ∧ eg_gi M 121 24 = nI p ∧ eg_gi M 121 25 = nI n := by
  obtain ⟨t, S, rfl⟩ := (ms_0 h).mp h0
  obtain ⟨n, hn, eN, h1, h2⟩ := ms_24 h
  exact ⟨t.2.1, n, h1, hn, h2, eN⟩
/-- one token on: what is owed may grow -/
theorem ms_step {d' e' : Nat} (h : m_rs r d e M (.inr (t, S))) (hk : ¬ t.2.2 = -nI 1) (hN : m_fs M N ∧ m_at (eg_gi M 139) N (lx (eg_gi M 139) (eg_gi M 121 25).toNatClampNeg (eg_gi M 121 24).toNatClampNeg)) (h1 : S.length + d' ≤ t.1 + 1) (h2 : 2 * px_W S + 2 * d' ≤ 3 * (t.1 + 1) + e') : m_rs r d' e' N (px_adv (eg_gi M 139) (eg_gi M 121 25).toNatClampNeg (.inr (t, S))) := by
  obtain ⟨n, hn, eN, g1, g2, ⟨a1, a2, a3, a4, a5, a6⟩, g4, g5, g6, g7⟩ := h
  obtain ⟨f1, f2⟩ := hN
  have hb := px_tok_b g2
  obtain ⟨x1, x2⟩ := px_nx g2 hk
  rw [eN, a1, n_c (by omega), n_c (by omega)] at f2
  show m_rs r d' e' N (.inr (lx (eg_gi M 139) (eg_gi M 121 25).toNatClampNeg t.2.1, S))
  rw [eN, n_c (show n < 2 ^ 31 by omega)]
  have e148 : eg_gi N 148 = eg_gi M 148 := funext (fun j => f1.2.2 148 j (by omega))
  refine ⟨n, hn, (fs_25 f1).trans eN, (f1.2.2 121 31 (by omega)).trans g1, ?_, ?_, by omega, by omega, (f1.2.2 121 34 (by omega)).trans g6, ?_⟩
  · rw [fs_139 f1]
    exact x1
  · rw [fs_139 f1]
    exact f2
  · rw [e148]
    exact g7
theorem ms_ref {d' e' c : Nat} (h1 : 1 ≤ c) (h3 : c ≤ 3) (h : m_rs r d e M s) (hl : ∀ x, s = .inl x → True) : m_rs r d' e' (m_wr M (nI c)) (px_ref c s) := by
  obtain ⟨n, hn, eN, h⟩ := h
  match s, h with
  | .inl (k, p), h =>
    have h5 : ¬ eg_gi M 121 31 = 0 := by
      rw [h.2.2.2.1]
      exact nI_ne0 (by omega) (by omega)
    unfold m_wr
    rw [if_neg h5]
    exact ⟨n, hn, eN, h⟩
  | .inr (t, S), h =>
    obtain ⟨g1, g2, ⟨a1, a2, a3, a4, a5, a6⟩, _⟩ := h
    have hb := px_tok_b g2
    unfold m_wr
    rw [if_pos (show eg_gi M 121 31 = 0 from g1)]
    exact ⟨n, hn, eN, h1, h3, by show t.1 ≤ 400; omega, rfl, a4⟩
theorem ms_in {d' e' : Nat} {x : Nat × Nat} (h : m_rs r d e M (.inl x)) : m_rs r d' e' M (.inl x) := h
theorem ms_le {d' e' : Nat} (h : m_rs r d e M s) (hd : d' ≤ d) (he : e ≤ e') : m_rs r d' e' M s := by
  obtain ⟨n, hn, eN, h⟩ := h
  match s, h with
  | .inl (k, p), h => exact ⟨n, hn, eN, h⟩
  | .inr (t, S), h =>
    obtain ⟨g1, g2, g3, g4, g5, g6⟩ := h
    exact ⟨n, hn, eN, g1, g2, g3, by omega, by omega, g6⟩
end MRS
theorem m_sl_of {C C' : Nat → Int32} {b : Nat} : ∀ {P : List Int32} {a : Nat}, (∀ j, a ≤ j → j < b → C' j = C j) → m_sl C b P a → m_sl C' b P a
  | [], a, _, h => h
  | s :: P, a, hc, h => by
    have hle := m_sl_le (P := s :: P) h
    unfold m_sl at h ⊢
    split at h
    · rename_i c
      rw [if_pos c]
      have := m_sl_le h.2.2
      exact ⟨by rw [hc a (Nat.le_refl _) (by omega)]; exact h.1, by rw [hc (a + 1) (by omega) (by omega)]; exact h.2.1, m_sl_of (fun j h1 h2 => hc j (by omega) h2) h.2.2⟩
    · rename_i c
      rw [if_neg c]
      have := m_sl_le h.2
      exact ⟨by rw [hc a (Nat.le_refl _) (by omega)]; exact h.1, m_sl_of (fun j h1 h2 => hc j (by omega) h2) h.2⟩
theorem m_sl_a {C : Nat → Int32} {b c : Nat} {B : List Int32} : ∀ {A : List Int32} {a : Nat}, m_sl C b A a → m_sl C c B b → m_sl C c (A ++ B) a
  | [], a, h, h2 => by
    have h : a = b := h
    rw [h]
    exact h2
  | s :: A, a, h, h2 => by
    show m_sl C c (s :: (A ++ B)) a
    unfold m_sl at h ⊢
    split at h
    · rename_i q
      rw [if_pos q]
      exact ⟨h.1, h.2.1, m_sl_a h.2.2 h2⟩
    · rename_i q
      rw [if_neg q]
      exact ⟨h.1, m_sl_a h.2 h2⟩
theorem px_W_le (S : List Int32) : px_W S ≤ 2 * S.length := by
  induction S with
  | nil => exact Nat.le_refl _
  | cons s S ih =>
    show (if 0 ≤ s.toInt then 2 else 1) + px_W S ≤ 2 * (S.length + 1)
    split <;> omega
section MEM
variable {r d e : Nat} {M N : eg_M} {s : px_S} {t : px_T} {S : List Int32} {x c v : Int32}
theorem em_ix (hr : r < 8) {k : Nat} (hk : k ≤ 640) : nI 640 * nI r + nI k = nI (640 * r + k) ∧ (nI (640 * r + k)).toNatClampNeg = 640 * r + k := ⟨by rw [n_m, n_s], n_c (by omega)⟩
theorem ms_W (h : m_rs r d e M (.inr (t, S))) (he : e ≤ 1) : px_W S ≤ 600 ∧ S.length + d ≤ 400 ∧ eg_gi M 121 34 = nI (px_W S) := by
  obtain ⟨n, hn, eN, g1, g2, g3, g4, g5, g6, g7⟩ := h
  have hb := px_tok_b g2
  exact ⟨by omega, by omega, g6⟩
theorem ms_eb (hr : r < 8) (h : m_rs r d e M s) (he : e ≤ 1) : eg_gi M 121 31 = 0 → vp_in (nI 640 * nI r + eg_gi M 121 34) 5120 := by
  intro h0
  obtain ⟨t, S, rfl⟩ := (ms_0 h).mp h0
  obtain ⟨h1, h2, h3⟩ := ms_W h he
  rw [h3, (em_ix hr (by omega)).1]
  exact (n_in (by omega) (by decide)).mpr (by omega)
theorem em_fr (hr : r < 8) (h : m_rs r d e M s) (he : e ≤ 1) : m_fr r M (m_em M (nI r) c) := by
  unfold m_em
  split
  · rename_i h0
    obtain ⟨t, S, rfl⟩ := (ms_0 h).mp h0
    obtain ⟨h1, h2, h3⟩ := ms_W h he
    rw [h3, (em_ix hr (show px_W S ≤ 640 by omega)).1, (em_ix hr (show px_W S ≤ 640 by omega)).2]
    exact ⟨rfl, rfl, fun q j a b => by rw [si_g, if_neg (by omega), si_g, if_neg (by omega)]⟩
  · exact mr_rf r M
/-- a step that is no number -/
theorem ms_em (hr : r < 8) (h : m_rs r (d + 1) e M s) (he : e ≤ 1) (hx : x.toInt < 0) (hc : m_c x = c) : m_rs r d e (m_em M (nI r) c) (px_put x s) := by
  match s, h with
  | .inl y, h =>
    have h0 : ¬ eg_gi M 121 31 = 0 := fun z => by
      obtain ⟨t, S, e⟩ := (ms_0 h).mp z
      cases e
    unfold m_em
    rw [if_neg h0]
    exact h
  | .inr (t, S), h =>
    obtain ⟨w1, w2, w3⟩ := ms_W h he
    obtain ⟨n, hn, eN, g1, g2, g3, g4, g5, g6, g7⟩ := h
    rw [px_put_S (by omega)]
    unfold m_em
    rw [if_pos (show eg_gi M 121 31 = 0 from g1), w3, (em_ix hr (show px_W S ≤ 640 by omega)).1, (em_ix hr (show px_W S ≤ 640 by omega)).2, n_s]
    have hW : px_W (S ++ [x]) = px_W S + 1 := by
      rw [px_W_a]
      show px_W S + ((if 0 ≤ x.toInt then 2 else 1) + 0) = _
      rw [if_neg (by omega)]
    refine ⟨n, hn, eN, g1, g2, g3, by rw [List.length_append, List.length_singleton]; omega, by rw [hW]; omega, by rw [hW]; rfl, ?_⟩
    rw [hW]
    show m_sl (eg_gi (eg_si M 148 (640 * r + px_W S) c) 148) (640 * r + (px_W S + 1)) (S ++ [x]) (640 * r)
    refine m_sl_a (b := 640 * r + px_W S) (m_sl_of (fun j h1 h2 => ?_) g7) ?_
    · rw [si_g, if_neg (fun z => by have := z.2; omega)]
    · unfold m_sl
      rw [if_neg (by omega)]
      refine ⟨?_, rfl⟩
      rw [si_g, if_pos ⟨rfl, rfl⟩, hc]
/-- a number -/
theorem ms_pn (hr : r < 8) (h : m_rs r d 0 M (.inr (t, S))) (hb1 : S.length + d + 1 ≤ t.1) (hb2 : 2 * px_W S + 2 * d + 3 ≤ 3 * t.1) (hv : 0 ≤ v.toInt) : m_rs r d 1 (m_em (m_em M (nI r) (nI 0)) (nI r) v) (px_put v (.inr (t, S))) := by
  obtain ⟨w1, w2, w3⟩ := ms_W h (by decide)
  obtain ⟨n, hn, eN, g1, g2, g3, g4, g5, g6, g7⟩ := h
  have hbn := px_tok_b g2
  rw [px_put_S (by omega)]
  have e1 : m_em M (nI r) (nI 0) = eg_si (eg_si M 148 (640 * r + px_W S) (nI 0)) 121 34 (nI (px_W S + 1)) := by
    unfold m_em
    rw [if_pos (show eg_gi M 121 31 = 0 from g1), w3, (em_ix hr (show px_W S ≤ 640 by omega)).1, (em_ix hr (show px_W S ≤ 640 by omega)).2, n_s]
  have e2 : m_em (m_em M (nI r) (nI 0)) (nI r) v = eg_si (eg_si (eg_si (eg_si M 148 (640 * r + px_W S) (nI 0)) 121 34 (nI (px_W S + 1))) 148 (640 * r + (px_W S + 1)) v) 121 34 (nI (px_W S + 1 + 1)) := by
    rw [e1]
    unfold m_em
    rw [if_pos (show eg_gi (eg_si (eg_si M 148 (640 * r + px_W S) (nI 0)) 121 34 (nI (px_W S + 1))) 121 31 = 0 from g1), show eg_gi (eg_si (eg_si M 148 (640 * r + px_W S) (nI 0)) 121 34 (nI (px_W S + 1))) 121 34 = nI (px_W S + 1) from rfl, (em_ix hr (show px_W S + 1 ≤ 640 by omega)).1, (em_ix hr (show px_W S + 1 ≤ 640 by omega)).2, n_s]
  rw [e2]
  have hW : px_W (S ++ [v]) = px_W S + 2 := by
    rw [px_W_a]
    show px_W S + ((if 0 ≤ v.toInt then 2 else 1) + 0) = _
    rw [if_pos hv]
  refine ⟨n, hn, eN, g1, g2, g3, by rw [List.length_append, List.length_singleton]; omega, by rw [hW]; omega, by rw [hW]; rfl, ?_⟩
  rw [hW]
  show m_sl (eg_gi (eg_si (eg_si M 148 (640 * r + px_W S) (nI 0)) 148 (640 * r + (px_W S + 1)) v) 148) (640 * r + (px_W S + 2)) (S ++ [v]) (640 * r)
  refine m_sl_a (b := 640 * r + px_W S) (m_sl_of (fun j h1 h2 => ?_) g7) ?_
  · rw [si_g, if_neg (fun z => by have := z.2; omega), si_g, if_neg (fun z => by have := z.2; omega)]
  · unfold m_sl
    rw [if_pos hv]
    refine ⟨?_, ?_, rfl⟩
    · rw [si_g, if_neg (fun z => by have := z.2; omega), si_g, if_pos ⟨rfl, rfl⟩]
      rfl
    · rw [si_g, if_pos ⟨rfl, rfl⟩]
end MEM
def k_X12_need : eg_C := ([(0, .aload_n 0, 1), (1, .getfield 294, 3), (4, .ifCond .ne 16, 3), (7, .aload_n 0, 1), (8, .iload_n 1, 1), (9, .invokevirtual 308, 3), (12, .ifCond .ne 8, 3), (15, .aload_n 0, 1), (16, .iconst 1, 1), (17, .invokevirtual 311, 3), (20, .aload_n 0, 1), (21, .getfield 294, 3), (24, .ifCond .ne 7, 3), (27, .aload_n 0, 1), (28, .invokevirtual 315, 3), (31, .return_, 1)], [(294, 12, 31, false)], [], [(308, 1 + 1, 0, 0, s_X12_isSign_v), (311, 1 + 1, 0, 0, s_X12_wrong_v), (315, 0 + 1, 0, 0, s_X12_step)], [], 0, 0, 0)
theorem mk_X12_need : ∀ q ∈ k_X12_need.2.2.2.1, eg_mono q.2.2.2.2 := (fc (mo_X12_isSign_v) (fc (mo_X12_wrong_v) (fc (mo_X12_step) (fn))))
set_option maxRecDepth 100000 in
theorem st_X12_need_0 {Qp : eg_P} {M : eg_M} (a : Int32)
  (g0 : ((eg_gi M 121 31) = 0) → ((m_sb M a) = false) → ((eg_gi (m_wr M (nI 1)) 121 31) = 0) → ((∃ p n, p ≤ n ∧ n ≤ 400 ∧ eg_gi (m_wr M (nI 1)) 121 24 = nI p ∧ eg_gi (m_wr M (nI 1)) 121 25 = nI n) ∧ m_tb (m_wr M (nI 1))))
  (g1 : ((eg_gi M 121 31) = 0) → (¬ ((m_sb M a) = false)) → ((∃ p n, p ≤ n ∧ n ≤ 400 ∧ eg_gi M 121 24 = nI p ∧ eg_gi M 121 25 = nI n) ∧ m_tb M))
  (l0 : ((eg_gi M 121 31) = 0 ∧ ((m_sb M a) = false ∧ (eg_gi (m_wr M (nI 1)) 121 31) = 0)) → ∀ (M2_1 : eg_M), (m_fs (m_wr M (nI 1)) M2_1 ∧ m_at (eg_gi (m_wr M (nI 1)) 139) M2_1 (lx (eg_gi (m_wr M (nI 1)) 139) (eg_gi (m_wr M (nI 1)) 121 25).toNatClampNeg (eg_gi (m_wr M (nI 1)) 121 24).toNatClampNeg)) → eg_T wd k_X12_need Qp 31 0 0 [some (.ref 121), some (.int a)] [] M2_1)
  (l1 : ((eg_gi M 121 31) = 0 ∧ ((m_sb M a) = false ∧ ¬ (eg_gi (m_wr M (nI 1)) 121 31) = 0)) → eg_T wd k_X12_need Qp 31 0 0 [some (.ref 121), some (.int a)] [] (m_wr M (nI 1)))
  (l2 : ((eg_gi M 121 31) = 0 ∧ ¬ (m_sb M a) = false) → ∀ (M2_2 : eg_M), (m_fs M M2_2 ∧ m_at (eg_gi M 139) M2_2 (lx (eg_gi M 139) (eg_gi M 121 25).toNatClampNeg (eg_gi M 121 24).toNatClampNeg)) → eg_T wd k_X12_need Qp 31 0 0 [some (.ref 121), some (.int a)] [] M2_2)
  (l3 : (¬ (eg_gi M 121 31) = 0) → eg_T wd k_X12_need Qp 31 0 0 [some (.ref 121), some (.int a)] [] M) :
  eg_T wd k_X12_need Qp 0 0 0 [some (.ref 121), some (.int a)] [] M := by
  refine eg_T_run mk_X12_need (cut := [31]) 19 ?_
  refine And.intro (fun (c1 : (eg_gi M 121 31) = 0) => ?_) (fun (c1 : ¬ (eg_gi M 121 31) = 0) => ?_)
  · skip
    refine And.intro (show (True) from ?_) ?_
    · exact trivial
    refine And.intro (fun (c2 : (b2i (m_sb M a)) = 0) => ?_) (fun (c2 : ¬ (b2i (m_sb M a)) = 0) => ?_)
    · replace c2 := b2i_0.mp c2
      refine And.intro (show (True) from ?_) ?_
      · exact trivial
      refine And.intro (fun (c3 : (eg_gi (m_wr M (nI 1)) 121 31) = 0) => ?_) (fun (c3 : ¬ (eg_gi (m_wr M (nI 1)) 121 31) = 0) => ?_)
      · skip
        refine And.intro (show ((∃ p n, p ≤ n ∧ n ≤ 400 ∧ eg_gi (m_wr M (nI 1)) 121 24 = nI p ∧ eg_gi (m_wr M (nI 1)) 121 25 = nI n) ∧ m_tb (m_wr M (nI 1))) from ?_) ?_
        · exact g0 c1 c2 c3
        intro M2_1 ha_1
        show eg_T wd k_X12_need Qp 31 0 0 [some (.ref 121), some (.int a)] [] M2_1
        exact l0 ⟨c1, ⟨c2, c3⟩⟩ M2_1 ha_1
      · skip
        show eg_T wd k_X12_need Qp 31 0 0 [some (.ref 121), some (.int a)] [] (m_wr M (nI 1))
        exact l1 ⟨c1, ⟨c2, c3⟩⟩
    · replace c2 := b2i_ff c2
      refine And.intro (fun (c4 : (eg_gi M 121 31) = 0) => ?_) (fun (c4 : ¬ (eg_gi M 121 31) = 0) => ?_)
      · clear c4
        refine And.intro (show ((∃ p n, p ≤ n ∧ n ≤ 400 ∧ eg_gi M 121 24 = nI p ∧ eg_gi M 121 25 = nI n) ∧ m_tb M) from ?_) ?_
        · exact g1 c1 c2
        intro M2_2 ha_2
        show eg_T wd k_X12_need Qp 31 0 0 [some (.ref 121), some (.int a)] [] M2_2
        exact l2 ⟨c1, c2⟩ M2_2 ha_2
      · exact absurd c1 c4
  · skip
    refine And.intro (fun (c5 : (eg_gi M 121 31) = 0) => ?_) (fun (c5 : ¬ (eg_gi M 121 31) = 0) => ?_)
    · exact absurd c5 c1
    · clear c5
      show eg_T wd k_X12_need Qp 31 0 0 [some (.ref 121), some (.int a)] [] M
      exact l3 c1

set_option maxRecDepth 100000 in
theorem st_X12_need_31 {Qp : eg_P} {M : eg_M} (o0 : Option Value) (o1 : Option Value)
  (l0 : Qp (.inl none) M) :
  eg_T wd k_X12_need Qp 31 0 0 [o0, o1] [] M := by
  refine eg_T_run mk_X12_need (cut := [31]) 19 ?_
  show Qp (.inl none) M
  exact l0

def s_X12_need : eg_S := fun argv M Qp => match argv with
  | [.ref 121, .int a] => ((∃ r d e s, m_rs r d e M s) ∧ m_tb M ∧ m_is a) ∧ ∀ (M2 : eg_M), (m_fq M M2 ∧ ∀ r d e s, m_rs r d e M s → m_rs r d e M2 (px_sgn (eg_gi M 139) (eg_gi M 121 25).toNatClampNeg a s)) → Qp (.inl none) M2
  | _ => False
theorem mo_X12_need : eg_mono s_X12_need := by
  intro argv M Q Q' h
  unfold s_X12_need
  split
  · exact fun z => ⟨z.1, fun M2 y => h _ _ (z.2 M2 y)⟩
  · exact id
theorem sz_X12_need : ∀ argv M Qp, s_X12_need argv M Qp → (eg_ls0 argv).length ≤ 2 := by
  intro argv M Qp h
  unfold s_X12_need at h
  split at h
  · exact Nat.le_of_ble_eq_true rfl
  · exact h.elim
theorem sr_X12_need : ∀ argv M Qp, s_X12_need argv M Qp → ∃ p0 As, argv = .ref p0 :: As ∧ eg_isO wd M p0 12 = true := by
  intro argv M Qp h
  unfold s_X12_need at h
  split at h
  · exact ⟨_, _, rfl, rfl⟩
  · exact h.elim
set_option maxRecDepth 100000 in
set_option maxHeartbeats 1000000 in
theorem T_X12_need {argv : List Value} {M : eg_M} {Qp : eg_P} (h : s_X12_need argv M Qp) : eg_T wd k_X12_need Qp 0 0 0 (eg_lsN 2 argv) [] M := by
  unfold s_X12_need at h
  split at h
  · rename_i a
    obtain ⟨hp, hq⟩ := h
    obtain ⟨⟨r, d, e, s, hs⟩, hT, ha⟩ := hp
    have s31 : ∀ N (o0 o1 : Option Value), (m_fq M N ∧ ∀ r d e s, m_rs r d e M s → m_rs r d e N (px_sgn (eg_gi M 139) (eg_gi M 121 25).toNatClampNeg a s)) → eg_T wd k_X12_need Qp 31 0 0 [o0, o1] [] N := fun N o0 o1 h => st_X12_need_31 o0 o1 (hq N h)
    have sb : ∀ r d e s, m_rs r d e M s → (m_sb M a = true ↔ px_k s = a) := fun r d e s h => by
      rw [ms_sb h ha, decide_eq_true_eq]
    have wr := fq_wr M (nI 1)
    have wn : eg_gi M 121 31 = 0 → ¬ eg_gi (m_wr M (nI 1)) 121 31 = 0 := fun z => by
      unfold m_wr
      rw [if_pos z]
      exact (show ¬ nI 1 = 0 by decide)
    refine st_X12_need_0 a (fun z _ y => absurd y (wn z)) (fun z _ => ⟨ms_st hs z, hT⟩) (fun z => absurd z.2.2 (wn z.1)) (fun z => s31 _ _ _ ?_) (fun z N h => s31 _ _ _ ?_) (fun z => s31 _ _ _ ?_)
    · have hn : ¬ m_sb M a = true := by
        rw [z.2.1]
        exact Bool.noConfusion
      refine ⟨wr, fun r d e s h => ?_⟩
      have hk : ¬ px_k s = a := fun y => hn ((sb r d e s h).mpr y)
      unfold px_sgn
      rw [if_neg hk]
      exact ms_ref (by decide) (by decide) h (fun _ _ => trivial)
    · have hy : m_sb M a = true := bq_t z.2
      refine ⟨fq_fs h.1, fun r d e s hs' => ?_⟩
      have hk := (sb r d e s hs').mp hy
      obtain ⟨t, S, rfl⟩ := (ms_0 hs').mp z.1
      unfold px_sgn
      rw [if_pos hk]
      have hk : t.2.2 = a := hk
      have h1 : S.length + d ≤ t.1 ∧ 2 * px_W S + 2 * d ≤ 3 * t.1 + e := by
        obtain ⟨n, hn, eN, g1, g2, g3, g4, g5, g6, g7⟩ := hs'
        exact ⟨g4, g5⟩
      exact ms_step hs' (by rw [hk]; rcases ha with rfl | rfl | rfl | rfl | rfl | rfl | rfl | rfl | rfl <;> decide) h (by omega) (by omega)
    · refine ⟨fq_rf M, fun r d e s h => ?_⟩
      match s, h with
      | .inr (t, S), h => exact absurd ((ms_0 h).mpr ⟨t, S, rfl⟩) z
      | .inl x, h =>
        unfold px_sgn
        split <;> exact h
  · exact h.elim
theorem de_X12_need : ∀ q ∈ k_X12_need.1, decode cX12_need q.1 = .ok q.2 := by decide +kernel
theorem me_X12_need (g : gl_T) : MT g yX12_need cX12_need 2 none ⟨2, 0, 0, 46⟩ 0 0 s_X12_need := by
  intro hl
  exact eg_met_of (k := k_X12_need) (by decide) rfl ⟨Nat.le_refl _, Nat.le_refl _⟩ rfl sz_X12_need de_X12_need (fun meth hn => (fc (eg_FL_of wd_c12 (by decide) lf_RX12_294 (fun h => absurd h (by decide))) (fn))) (fun A s H hE => (fn)) (fun p e s m args below meth c Q A ad0 N0 S0 hK hEx hA => (fc (mt_V hl S0 hK hEx hA (me_X12_isSign_v g) lm_RX12_308 li_X12_isSign lx_X12_isSign ln_RX12 lc_X12_isSign ⟨rfl, by decide, by decide, by decide +kernel⟩ ⟨rfl, rfl⟩ ⟨by decide, by decide⟩ (ci := 12) rfl rfl sr_X12_isSign_v (by decide)) (fc (mt_V hl S0 hK hEx hA (me_X12_wrong_v g) lm_RX12_311 li_X12_wrong lx_X12_wrong ln_RX12 lc_X12_wrong ⟨rfl, by decide, by decide, by decide +kernel⟩ ⟨rfl, rfl⟩ ⟨by decide, by decide⟩ (ci := 12) rfl rfl sr_X12_wrong_v (by decide)) (fc (mt_V hl S0 hK hEx hA (me_X12_step g) lm_RX12_315 li_X12_step lx_X12_step ln_RX12 lc_X12_step ⟨rfl, by decide, by decide, by decide +kernel⟩ ⟨rfl, rfl⟩ ⟨by decide, by decide⟩ (ci := 12) rfl rfl sr_X12_step (by decide)) (fn))))) (fun p e s m args below meth c Qc XC A ad0 N0 P S0 hK hEx hA hlk hout hPX => (fn)) (fun argv M Qp h => T_X12_need h)

def k_X12_readNumber : eg_C := ([(0, .aload_n 0, 1), (1, .getfield 294, 3), (4, .ifCond .eq 5, 3), (7, .iconst 0, 1), (8, .ireturn, 1), (9, .aload_n 0, 1), (10, .getfield 272, 3), (13, .iconst 2, 1), (14, .if_icmp .eq 11, 3), (17, .aload_n 0, 1), (18, .iconst 1, 1), (19, .invokevirtual 311, 3), (22, .goto 22, 3), (25, .aload_n 0, 1), (26, .getfield 291, 3), (29, .aload_n 0, 1), (30, .getfield 266, 3), (33, .isub, 1), (34, .bipush 6, 2), (36, .if_icmp .le 8, 3), (39, .aload_n 0, 1), (40, .iconst 2, 1), (41, .invokevirtual 311, 3), (44, .aload_n 0, 1), (45, .getfield 281, 3), (48, .istore_n 1, 1), (49, .aload_n 0, 1), (50, .getfield 294, 3), (53, .ifCond .ne 7, 3), (56, .aload_n 0, 1), (57, .invokevirtual 315, 3), (60, .iload_n 1, 1), (61, .ireturn, 1)], [(266, 12, 29, false), (272, 12, 26, false), (281, 12, 28, false), (291, 12, 30, false), (294, 12, 31, false)], [], [(311, 1 + 1, 0, 0, s_X12_wrong_v), (315, 0 + 1, 0, 0, s_X12_step)], [], 1, 0, 0)
theorem mk_X12_readNumber : ∀ q ∈ k_X12_readNumber.2.2.2.1, eg_mono q.2.2.2.2 := (fc (mo_X12_wrong_v) (fc (mo_X12_step) (fn)))
set_option maxRecDepth 100000 in
theorem st_X12_readNumber_0 {Qp : eg_P} {M : eg_M} 
  (g0 : ((eg_gi M 121 31) = 0) → ((eg_gi M 121 26) = (nI 2)) → (((eg_gi M 121 30) - (eg_gi M 121 29)) ≤ (nI 6)) → ((∃ p n, p ≤ n ∧ n ≤ 400 ∧ eg_gi M 121 24 = nI p ∧ eg_gi M 121 25 = nI n) ∧ m_tb M))
  (g1 : ((eg_gi M 121 31) = 0) → ((eg_gi M 121 26) = (nI 2)) → (¬ (((eg_gi M 121 30) - (eg_gi M 121 29)) ≤ (nI 6))) → ((eg_gi (m_wr M (nI 2)) 121 31) = 0) → ((∃ p n, p ≤ n ∧ n ≤ 400 ∧ eg_gi (m_wr M (nI 2)) 121 24 = nI p ∧ eg_gi (m_wr M (nI 2)) 121 25 = nI n) ∧ m_tb (m_wr M (nI 2))))
  (g2 : ((eg_gi M 121 31) = 0) → (¬ ((eg_gi M 121 26) = (nI 2))) → ((eg_gi (m_wr M (nI 1)) 121 31) = 0) → ((∃ p n, p ≤ n ∧ n ≤ 400 ∧ eg_gi (m_wr M (nI 1)) 121 24 = nI p ∧ eg_gi (m_wr M (nI 1)) 121 25 = nI n) ∧ m_tb (m_wr M (nI 1))))
  (l0 : ((eg_gi M 121 31) = 0 ∧ ((eg_gi M 121 26) = (nI 2) ∧ ((eg_gi M 121 30) - (eg_gi M 121 29)) ≤ (nI 6))) → ∀ (M2_1 : eg_M), (m_fs M M2_1 ∧ m_at (eg_gi M 139) M2_1 (lx (eg_gi M 139) (eg_gi M 121 25).toNatClampNeg (eg_gi M 121 24).toNatClampNeg)) → eg_T wd k_X12_readNumber Qp 60 0 0 [some (.ref 121), some (.int (eg_gi M 121 28))] [] M2_1)
  (l1 : ((eg_gi M 121 31) = 0 ∧ ((eg_gi M 121 26) = (nI 2) ∧ (¬ ((eg_gi M 121 30) - (eg_gi M 121 29)) ≤ (nI 6) ∧ (eg_gi (m_wr M (nI 2)) 121 31) = 0))) → ∀ (M2_2 : eg_M), (m_fs (m_wr M (nI 2)) M2_2 ∧ m_at (eg_gi (m_wr M (nI 2)) 139) M2_2 (lx (eg_gi (m_wr M (nI 2)) 139) (eg_gi (m_wr M (nI 2)) 121 25).toNatClampNeg (eg_gi (m_wr M (nI 2)) 121 24).toNatClampNeg)) → eg_T wd k_X12_readNumber Qp 60 0 0 [some (.ref 121), some (.int (eg_gi (m_wr M (nI 2)) 121 28))] [] M2_2)
  (l2 : ((eg_gi M 121 31) = 0 ∧ ((eg_gi M 121 26) = (nI 2) ∧ (¬ ((eg_gi M 121 30) - (eg_gi M 121 29)) ≤ (nI 6) ∧ ¬ (eg_gi (m_wr M (nI 2)) 121 31) = 0))) → eg_T wd k_X12_readNumber Qp 60 0 0 [some (.ref 121), some (.int (eg_gi (m_wr M (nI 2)) 121 28))] [] (m_wr M (nI 2)))
  (l3 : ((eg_gi M 121 31) = 0 ∧ (¬ (eg_gi M 121 26) = (nI 2) ∧ (eg_gi (m_wr M (nI 1)) 121 31) = 0)) → ∀ (M2_3 : eg_M), (m_fs (m_wr M (nI 1)) M2_3 ∧ m_at (eg_gi (m_wr M (nI 1)) 139) M2_3 (lx (eg_gi (m_wr M (nI 1)) 139) (eg_gi (m_wr M (nI 1)) 121 25).toNatClampNeg (eg_gi (m_wr M (nI 1)) 121 24).toNatClampNeg)) → eg_T wd k_X12_readNumber Qp 60 0 0 [some (.ref 121), some (.int (eg_gi (m_wr M (nI 1)) 121 28))] [] M2_3)
  (l4 : ((eg_gi M 121 31) = 0 ∧ (¬ (eg_gi M 121 26) = (nI 2) ∧ ¬ (eg_gi (m_wr M (nI 1)) 121 31) = 0)) → eg_T wd k_X12_readNumber Qp 60 0 0 [some (.ref 121), some (.int (eg_gi (m_wr M (nI 1)) 121 28))] [] (m_wr M (nI 1)))
  (l5 : (¬ (eg_gi M 121 31) = 0) → Qp (.inl (some (.int (nI 0)))) M) :
  eg_T wd k_X12_readNumber Qp 0 0 0 [some (.ref 121), none] [] M := by
  refine eg_T_run mk_X12_readNumber (cut := [60]) 36 ?_
  refine And.intro (fun (c1 : (eg_gi M 121 31) = 0) => ?_) (fun (c1 : ¬ (eg_gi M 121 31) = 0) => ?_)
  · skip
    refine And.intro (fun (c2 : (eg_gi M 121 26) = (nI 2)) => ?_) (fun (c2 : ¬ (eg_gi M 121 26) = (nI 2)) => ?_)
    · skip
      refine And.intro (fun (c3 : ((eg_gi M 121 30) - (eg_gi M 121 29)) ≤ (nI 6)) => ?_) (fun (c3 : ¬ ((eg_gi M 121 30) - (eg_gi M 121 29)) ≤ (nI 6)) => ?_)
      · skip
        refine And.intro (fun (c4 : (eg_gi M 121 31) = 0) => ?_) (fun (c4 : ¬ (eg_gi M 121 31) = 0) => ?_)
        · clear c4
          refine And.intro (show ((∃ p n, p ≤ n ∧ n ≤ 400 ∧ eg_gi M 121 24 = nI p ∧ eg_gi M 121 25 = nI n) ∧ m_tb M) from ?_) ?_
          · exact g0 c1 c2 c3
          intro M2_1 ha_1
          show eg_T wd k_X12_readNumber Qp 60 0 0 [some (.ref 121), some (.int (eg_gi M 121 28))] [] M2_1
          exact l0 ⟨c1, ⟨c2, c3⟩⟩ M2_1 ha_1
        · exact absurd c1 c4
      · skip
        refine And.intro (show (True) from ?_) ?_
        · exact trivial
        refine And.intro (fun (c5 : (eg_gi (m_wr M (nI 2)) 121 31) = 0) => ?_) (fun (c5 : ¬ (eg_gi (m_wr M (nI 2)) 121 31) = 0) => ?_)
        · skip
          refine And.intro (show ((∃ p n, p ≤ n ∧ n ≤ 400 ∧ eg_gi (m_wr M (nI 2)) 121 24 = nI p ∧ eg_gi (m_wr M (nI 2)) 121 25 = nI n) ∧ m_tb (m_wr M (nI 2))) from ?_) ?_
          · exact g1 c1 c2 c3 c5
          intro M2_2 ha_2
          show eg_T wd k_X12_readNumber Qp 60 0 0 [some (.ref 121), some (.int (eg_gi (m_wr M (nI 2)) 121 28))] [] M2_2
          exact l1 ⟨c1, ⟨c2, ⟨c3, c5⟩⟩⟩ M2_2 ha_2
        · skip
          show eg_T wd k_X12_readNumber Qp 60 0 0 [some (.ref 121), some (.int (eg_gi (m_wr M (nI 2)) 121 28))] [] (m_wr M (nI 2))
          exact l2 ⟨c1, ⟨c2, ⟨c3, c5⟩⟩⟩
    · skip
      refine And.intro (show (True) from ?_) ?_
      · exact trivial
      refine And.intro (fun (c6 : (eg_gi (m_wr M (nI 1)) 121 31) = 0) => ?_) (fun (c6 : ¬ (eg_gi (m_wr M (nI 1)) 121 31) = 0) => ?_)
      · skip
        refine And.intro (show ((∃ p n, p ≤ n ∧ n ≤ 400 ∧ eg_gi (m_wr M (nI 1)) 121 24 = nI p ∧ eg_gi (m_wr M (nI 1)) 121 25 = nI n) ∧ m_tb (m_wr M (nI 1))) from ?_) ?_
        · exact g2 c1 c2 c6
        intro M2_3 ha_3
        show eg_T wd k_X12_readNumber Qp 60 0 0 [some (.ref 121), some (.int (eg_gi (m_wr M (nI 1)) 121 28))] [] M2_3
        exact l3 ⟨c1, ⟨c2, c6⟩⟩ M2_3 ha_3
      · skip
        show eg_T wd k_X12_readNumber Qp 60 0 0 [some (.ref 121), some (.int (eg_gi (m_wr M (nI 1)) 121 28))] [] (m_wr M (nI 1))
        exact l4 ⟨c1, ⟨c2, c6⟩⟩
  · skip
    refine And.intro (fun z => absurd z (by decide)) ?_
    show Qp (.inl (some (.int (nI 0)))) M
    exact l5 c1

set_option maxRecDepth 100000 in
theorem st_X12_readNumber_60 {Qp : eg_P} {M : eg_M} (o0 : Option Value) (x1 : Int32)
  (l0 : Qp (.inl (some (.int x1))) M) :
  eg_T wd k_X12_readNumber Qp 60 0 0 [o0, some (.int x1)] [] M := by
  refine eg_T_run mk_X12_readNumber (cut := [60]) 36 ?_
  refine And.intro (fun z => absurd z (by decide)) ?_
  show Qp (.inl (some (.int x1))) M
  exact l0

def s_X12_readNumber : eg_S := fun argv M Qp => match argv with
  | [.ref 121] => ((∃ r d e s, m_rs r d e M s) ∧ m_tb M) ∧ ∀ (v : Int32) (M2 : eg_M), (m_fq M M2 ∧ (∀ r d e s, m_rs r d e M s → m_rs r d e M2 (px_num (eg_gi M 139) (eg_gi M 121 25).toNatClampNeg s)) ∧ ∀ r d e t S, m_rs r d e M (.inr (t, S)) → t.2.2 = -nI 3 → t.2.1 ≤ t.1 + 6 → v = px_n (eg_gi M 139) t.1 (t.2.1 - t.1)) → Qp (.inl (some (.int (v)))) M2
  | _ => False
theorem mo_X12_readNumber : eg_mono s_X12_readNumber := by
  intro argv M Q Q' h
  unfold s_X12_readNumber
  split
  · exact fun z => ⟨z.1, fun v M2 y => h _ _ (z.2 v M2 y)⟩
  · exact id
theorem sz_X12_readNumber : ∀ argv M Qp, s_X12_readNumber argv M Qp → (eg_ls0 argv).length ≤ 2 := by
  intro argv M Qp h
  unfold s_X12_readNumber at h
  split at h
  · exact Nat.le_of_ble_eq_true rfl
  · exact h.elim
theorem sr_X12_readNumber : ∀ argv M Qp, s_X12_readNumber argv M Qp → ∃ p0 As, argv = .ref p0 :: As ∧ eg_isO wd M p0 12 = true := by
  intro argv M Qp h
  unfold s_X12_readNumber at h
  split at h
  · exact ⟨_, _, rfl, rfl⟩
  · exact h.elim
set_option maxRecDepth 100000 in
set_option maxHeartbeats 1000000 in
theorem T_X12_readNumber {argv : List Value} {M : eg_M} {Qp : eg_P} (h : s_X12_readNumber argv M Qp) : eg_T wd k_X12_readNumber Qp 0 0 0 (eg_lsN 2 argv) [] M := by
  unfold s_X12_readNumber at h
  split at h
  · obtain ⟨hp, hq⟩ := h
    obtain ⟨⟨r, d, e, s, hs⟩, hT⟩ := hp
    have s60 : ∀ N (o0 : Option Value) (v : Int32), (m_fq M N ∧ (∀ r d e s, m_rs r d e M s → m_rs r d e N (px_num (eg_gi M 139) (eg_gi M 121 25).toNatClampNeg s)) ∧ ∀ r d e t S, m_rs r d e M (.inr (t, S)) → t.2.2 = -nI 3 → t.2.1 ≤ t.1 + 6 → v = px_n (eg_gi M 139) t.1 (t.2.1 - t.1)) → eg_T wd k_X12_readNumber Qp 60 0 0 [o0, some (.int v)] [] N := fun N o0 v h => st_X12_readNumber_60 o0 v (hq v N h)
    have inf : ∀ r d e t S, m_rs r d e M (.inr (t, S)) → t.1 ≤ t.2.1 ∧ t.2.1 ≤ 400 ∧ eg_gi M 121 26 = m_tk t.2.2 ∧ eg_gi M 121 29 = nI t.1 ∧ eg_gi M 121 30 = nI t.2.1 ∧ (t.2.2 = -nI 3 → t.2.1 ≤ t.1 + 6 → eg_gi M 121 28 = px_n (eg_gi M 139) t.1 (t.2.1 - t.1)) ∧ S.length + d ≤ t.1 ∧ 2 * px_W S + 2 * d ≤ 3 * t.1 + e := by
      intro r d e t S h
      obtain ⟨n, hn, eN, g1, g2, ⟨a1, a2, a3, a4, a5, a6⟩, g4, g5, g6, g7⟩ := h
      have hb := px_tok_b g2
      exact ⟨hb.1, by omega, a2, a4, a5, a6, g4, g5⟩
    have sub6 : ∀ r d e t S, m_rs r d e M (.inr (t, S)) → (eg_gi M 121 30 - eg_gi M 121 29 ≤ nI 6 ↔ t.2.1 ≤ t.1 + 6) := by
      intro r d e t S h
      obtain ⟨i1, i2, i3, i4, i5, _⟩ := inf r d e t S h
      rw [i4, i5, u_sub i1, n_le (by omega) (by decide)]
      omega
    have wr : ∀ c, m_fq M (m_wr M c) := fq_wr M
    have wn : eg_gi M 121 31 = 0 → ¬ eg_gi (m_wr M (nI 1)) 121 31 = 0 ∧ ¬ eg_gi (m_wr M (nI 2)) 121 31 = 0 := fun z => by
      unfold m_wr
      rw [if_pos z, if_pos z]
      exact (show ¬ nI 1 = 0 ∧ ¬ nI 2 = 0 by decide)
    refine st_X12_readNumber_0 (fun z _ _ => ⟨ms_st hs z, hT⟩) (fun z _ _ y => absurd y (wn z).2) (fun z _ y => absurd y (wn z).1) (fun z N h => s60 _ _ _ ⟨fq_fs h.1, fun r d e s hs' => ?_, fun r d e t S hs' h3 h6 => (inf r d e t S hs').2.2.2.2.2.1 h3 h6⟩) (fun z => absurd z.2.2.2 (wn z.1).2) (fun z => s60 _ _ _ ?_) (fun z => absurd z.2.2 (wn z.1).1) (fun z => s60 _ _ _ ?_) (fun z => hq _ _ ⟨fq_rf M, fun r d e s hs' => ?_, fun r d e t S hs' _ _ => absurd ((ms_0 hs').mpr ⟨t, S, rfl⟩) z⟩)
    · obtain ⟨t, S, rfl⟩ := (ms_0 hs').mp z.1
      obtain ⟨i1, i2, i3, i4, i5, i6, i7, i8⟩ := inf r d e t S hs'
      have hk : t.2.2 = -nI 3 := mtk_2.mp (i3.symm.trans z.2.1)
      have h6 := (sub6 r d e t S hs').mp z.2.2
      rw [px_num_r, if_pos hk, if_neg (by omega)]
      exact ms_step hs' (by rw [hk]; decide) h (by omega) (by omega)
    · refine ⟨wr _, fun r d e s hs' => ?_, fun r d e t S hs' _ h6 => absurd ((sub6 r d e t S hs').mpr h6) z.2.2.1⟩
      obtain ⟨t, S, rfl⟩ := (ms_0 hs').mp z.1
      obtain ⟨i1, i2, i3, i4, i5, i6, i7, i8⟩ := inf r d e t S hs'
      have hk : t.2.2 = -nI 3 := mtk_2.mp (i3.symm.trans z.2.1)
      have h6 : ¬ t.2.1 ≤ t.1 + 6 := fun y => z.2.2.1 ((sub6 r d e t S hs').mpr y)
      rw [px_num_r, if_pos hk, if_pos (by omega)]
      exact ms_ref (by decide) (by decide) hs' (fun _ _ => trivial)
    · refine ⟨wr _, fun r d e s hs' => ?_, fun r d e t S hs' h3 _ => absurd ((inf r d e t S hs').2.2.1.trans (mtk_2.mpr h3)) z.2.1⟩
      obtain ⟨t, S, rfl⟩ := (ms_0 hs').mp z.1
      have hk : ¬ t.2.2 = -nI 3 := fun y => z.2.1 ((inf r d e t S hs').2.2.1.trans (mtk_2.mpr y))
      rw [px_num_r, if_neg hk]
      exact ms_ref (by decide) (by decide) hs' (fun _ _ => trivial)
    · match s, hs' with
      | .inr (t, S), hs' => exact absurd ((ms_0 hs').mpr ⟨t, S, rfl⟩) z
      | .inl x, hs' => exact hs'
    
  · exact h.elim
theorem de_X12_readNumber : ∀ q ∈ k_X12_readNumber.1, decode cX12_readNumber q.1 = .ok q.2 := by decide +kernel
theorem me_X12_readNumber (g : gl_T) : MT g yX12_readNumber cX12_readNumber 2 (some .int) ⟨2, 0, 0, 46⟩ 0 0 s_X12_readNumber := by
  intro hl
  exact eg_met_of (k := k_X12_readNumber) (by decide) rfl ⟨Nat.le_refl _, Nat.le_refl _⟩ rfl sz_X12_readNumber de_X12_readNumber (fun meth hn => (fc (eg_FL_of wd_c12 (by decide) lf_RX12_266 (fun h => absurd h (by decide))) (fc (eg_FL_of wd_c12 (by decide) lf_RX12_272 (fun h => absurd h (by decide))) (fc (eg_FL_of wd_c12 (by decide) lf_RX12_281 (fun h => absurd h (by decide))) (fc (eg_FL_of wd_c12 (by decide) lf_RX12_291 (fun h => absurd h (by decide))) (fc (eg_FL_of wd_c12 (by decide) lf_RX12_294 (fun h => absurd h (by decide))) (fn))))))) (fun A s H hE => (fn)) (fun p e s m args below meth c Q A ad0 N0 S0 hK hEx hA => (fc (mt_V hl S0 hK hEx hA (me_X12_wrong_v g) lm_RX12_311 li_X12_wrong lx_X12_wrong ln_RX12 lc_X12_wrong ⟨rfl, by decide, by decide, by decide +kernel⟩ ⟨rfl, rfl⟩ ⟨by decide, by decide⟩ (ci := 12) rfl rfl sr_X12_wrong_v (by decide)) (fc (mt_V hl S0 hK hEx hA (me_X12_step g) lm_RX12_315 li_X12_step lx_X12_step ln_RX12 lc_X12_step ⟨rfl, by decide, by decide, by decide +kernel⟩ ⟨rfl, rfl⟩ ⟨by decide, by decide⟩ (ci := 12) rfl rfl sr_X12_step (by decide)) (fn)))) (fun p e s m args below meth c Qc XC A ad0 N0 P S0 hK hEx hA hlk hout hPX => (fn)) (fun argv M Qp h => T_X12_readNumber h)

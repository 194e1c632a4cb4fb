def m_rR (r : Nat) (M N : eg_M) (f : px_S → px_S) : Prop := m_fr r M N ∧ ∀ d s, m_rs r d 0 M s → m_rs r d 1 N (f s)
theorem px_G_lt {T : Nat → Int32} {n m : Nat} {f : px_S → px_S} (G : px_G T n m f) {t u : px_T} {S X : List Int32} (ht : px_tok T n t) (hS : S.length ≤ t.1) (h : f (.inr (t, S)) = .inr (u, X)) : t.1 < u.1 := by
  obtain ⟨g1, g2⟩ := G.2 t ht
  rw [g1 S hS] at h
  cases hf : f (.inr (t, [])) with
  | inl e =>
    rw [hf] at h
    cases h
  | inr y =>
    obtain ⟨v, D⟩ := y
    rw [hf] at h g2
    cases h
    exact g2.2.1
theorem mb_T {M : eg_M} (hT : m_tb M) {n : Nat} (hn : n ≤ 400) : ∀ j, j < n → 0 ≤ eg_gi M 139 j := fun j hj => by
  obtain ⟨m, hm, em⟩ := hT j (by omega)
  rw [em]
  exact (n_le (i := 0) (by decide) (by omega)).mpr (Nat.zero_le _)
/-- a loop of the model that reads one thing more as long as q says so -/
theorem m_wll {r n d0 mm : Nat} {M : eg_M} {s0 : px_S} {q : px_S → Option Int32} {f P : px_S → px_S} {L Ex : eg_M → Prop} {S2 : Int32 → eg_M → Prop}
    (hr : r < 8) (hn : n ≤ 400) (eN : eg_gi M 121 25 = nI n) (hs0 : m_rs r d0 0 M s0) (G : px_G (eg_gi M 139) n mm f)
    (q0 : ∀ e, q (.inl e) = none) (qk : ∀ t S x, q (.inr (t, S)) = some x → ¬ t.2.2 = -nI 1 ∧ x.toInt < 0)
    (hd : ∀ N, m_fr r M N → (∃ d s, m_rs r d 1 N s) → ((∀ d e s, m_rs r d e N s → q s = none) → Ex N) → (∀ x c, m_c x = c → (∀ d e s, m_rs r d e N s → q s = some x) → ∀ N2, (m_fs N N2 ∧ m_at (eg_gi N 139) N2 (lx (eg_gi N 139) (eg_gi N 121 25).toNatClampNeg (eg_gi N 121 24).toNatClampNeg)) → S2 c N2) → L N)
    (s2 : ∀ c N2, m_fr r M N2 → (∃ d s, m_rs r d 0 N2 s) → eg_gi N2 121 31 = 0 → eg_gi M 121 31 = 0 → (∀ N3, m_rR r N2 N3 f → (eg_gi N3 121 31 = 0 → vp_in (nI 640 * nI r + eg_gi N3 121 34) 5120) ∧ L (m_em N3 (nI r) c)) → S2 c N2)
    (ex : ∀ N, m_rR r M N P → Ex N) : ∀ fu N (g : px_S → px_S), m_fr r M N → (∀ d s, m_rs r d 0 M s → m_rs r d 1 N (g s)) → (∀ e, g (.inl e) = .inl e) → (∀ d s, m_rs r d 0 M s → P s = px_lp (eg_gi M 139) n q f fu (g s)) → (∀ t S, g s0 = .inr (t, S) → n ≤ t.1 + fu) → L N := by
  intro fu
  induction fu with
  | zero =>
    intro N g hf hg gl he hb
    refine hd N hf ⟨d0, _, hg d0 s0 hs0⟩ (fun h => ex N ⟨hf, fun d s hs => ?_⟩) (fun x c hc hx N2 h2 => ?_)
    · rw [he d s hs]
      exact hg d s hs
    · have hs := hg d0 s0 hs0
      have hq := hx _ _ _ hs
      cases hgs : g s0 with
      | inl e =>
        rw [hgs, q0] at hq
        cases hq
      | inr y =>
        obtain ⟨t, S⟩ := y
        rw [hgs] at hq hs
        have k := (qk t S x hq).1
        have hb' := hb t S hgs
        obtain ⟨n', hn', eN', g1, g2, _⟩ := hs
        rw [mr_25 hf, eN, n_eq (by omega) (by omega)] at eN'
        subst eN'
        have hk := px_tok_b g2
        rcases hk.2.2 with z | z
        · exact absurd z k
        · omega
  | succ fu ih =>
    intro N g hf hg gl he hb
    refine hd N hf ⟨d0, _, hg d0 s0 hs0⟩ (fun h => ex N ⟨hf, fun d s hs => ?_⟩) (fun x c hc hx N2 h2 => ?_)
    · have hs' := hg d s hs
      rw [he d s hs, px_lp, h _ _ _ hs']
      exact hs'
    · have hs := hg d0 s0 hs0
      have hq := hx _ _ _ hs
      obtain ⟨t, S, hgs⟩ : ∃ t S, g s0 = .inr (t, S) := by
        cases hgs : g s0 with
        | inl e =>
          rw [hgs, q0] at hq
          cases hq
        | inr y => exact ⟨y.1, y.2, rfl⟩
      have hM0 : eg_gi M 121 31 = 0 := by
        refine (ms_0 hs0).mpr ?_
        cases hs' : s0 with
        | inl e =>
          rw [hs', gl] at hgs
          cases hgs
        | inr y => exact ⟨y.1, y.2, rfl⟩
      have hf2 := mr_tr hf (mr_fq (r := r) (fq_fs h2.1))
      have e139 := mr_139 hf
      have e25 := mr_25 hf
      have adv : ∀ d s, m_rs r d 0 M s → m_rs r (d + 1) 0 N2 (px_adv (eg_gi M 139) n (g s)) := by
        intro d s hs
        have hs' := hg d s hs
        have hq := hx _ _ _ hs'
        cases hgs : g s with
        | inl e =>
          rw [hgs, q0] at hq
          cases hq
        | inr y =>
          obtain ⟨t, S⟩ := y
          rw [hgs] at hs' hq
          have k := (qk t S x hq).1
          have b : S.length + d ≤ t.1 ∧ 2 * px_W S + 2 * d ≤ 3 * t.1 + 1 := by
            obtain ⟨_, _, _, _, _, _, g4, g5, _⟩ := hs'
            exact ⟨g4, g5⟩
          have := ms_step (d' := d + 1) (e' := 0) hs' k h2 (by omega) (by omega)
          rw [e139, e25, eN, n_c (by omega)] at this
          exact this
      have hs2 := adv d0 s0 hs0
      have bad2 : eg_gi N2 121 31 = 0 := (ms_0 hs2).mpr ⟨lx (eg_gi M 139) n t.2.1, S, by rw [hgs]; rfl⟩
      have hx0 := qk t S x (by rw [← hgs]; exact hq)
      refine s2 c N2 hf2 ⟨_, _, hs2⟩ bad2 hM0 (fun N3 h3 => ⟨ms_eb hr (h3.2 _ _ hs2) (by decide), ?_⟩)
      refine ih _ (fun s => px_put x (f (px_adv (eg_gi M 139) n (g s)))) (mr_tr (mr_tr hf2 h3.1) (em_fr hr (h3.2 _ _ hs2) (by decide))) (fun d s hs => ms_em hr (h3.2 _ _ (adv d s hs)) (by decide) hx0.2 hc) (fun e => ?_) (fun d s hs => ?_) (fun t' S' ht' => ?_)
      · show px_put x (f (px_adv _ _ (g (.inl e)))) = .inl e
        rw [gl]
        show px_put x (f (.inl e)) = .inl e
        rw [G.1]
        rfl
      · rw [he d s hs, px_lp, hx _ _ _ (hg d s hs)]
      · have ht' : px_put x (f (px_adv (eg_gi M 139) n (g s0))) = .inr (t', S') := ht'
        have hb' := hb t S hgs
        rw [hgs] at hs ht'
        obtain ⟨n', hn', eN', g1, g2, g3, g4, g5, _⟩ := hs
        rw [mr_25 hf, eN, n_eq (by omega) (by omega)] at eN'
        subst eN'
        rw [e139] at g2
        obtain ⟨x1, x2⟩ := px_nx g2 hx0.1
        cases hfu : f (.inr (lx (eg_gi M 139) n t.2.1, S)) with
        | inl e =>
          have ht' : px_put x (f (.inr (lx (eg_gi M 139) n t.2.1, S))) = .inr (t', S') := ht'
          rw [hfu] at ht'
          cases ht'
        | inr y =>
          obtain ⟨u, X⟩ := y
          have hlt := px_G_lt G x1 (show S.length ≤ (lx (eg_gi M 139) n t.2.1).1 by omega) hfu
          have ht' : px_put x (f (.inr (lx (eg_gi M 139) n t.2.1, S))) = .inr (t', S') := ht'
          rw [hfu] at ht'
          have hu : u = t' := by
            have ht' : (Sum.inr (u, if X.length < 400 then X ++ [x] else X) : px_S) = .inr (t', S') := ht'
            cases ht'
            rfl
          subst hu
          omega
theorem q2_k {a b : Nat} {x y : Int32} (ha : m_is (nI a)) (hb : m_is (nI b)) (hx : x.toInt < 0) (hy : y.toInt < 0) : (∀ e, px_q2 a b x y (.inl e) = none) ∧ ∀ t S z, px_q2 a b x y (.inr (t, S)) = some z → ¬ t.2.2 = -nI 1 ∧ z.toInt < 0 := by
  have n4 : ∀ k, m_is k → ¬ -nI 4 = k ∧ ¬ k = -nI 1 := by
    intro k hk
    rcases hk with rfl | rfl | rfl | rfl | rfl | rfl | rfl | rfl | rfl <;> decide
  constructor
  · intro e
    unfold px_q2
    rw [if_neg (show ¬ px_k (.inl e) = nI a from (n4 _ ha).1), if_neg (show ¬ px_k (.inl e) = nI b from (n4 _ hb).1)]
  · intro t S z h
    unfold px_q2 at h
    split at h
    · rename_i k
      have k : t.2.2 = nI a := k
      cases h
      exact ⟨by rw [k]; exact (n4 _ ha).2, hx⟩
    · split at h
      · rename_i k
        have k : t.2.2 = nI b := k
        cases h
        exact ⟨by rw [k]; exact (n4 _ hb).2, hy⟩
      · cases h
theorem qw_k {T : Nat → Int32} {w : Nat} {x : Int32} (hx : x.toInt < 0) : (∀ e, px_qw T w x (.inl e) = none) ∧ ∀ t S z, px_qw T w x (.inr (t, S)) = some z → ¬ t.2.2 = -nI 1 ∧ z.toInt < 0 := by
  constructor
  · intro e
    rfl
  · intro t S z h
    unfold px_qw at h
    split at h
    · rename_i k
      have k : px_w T w t = true := k
      cases h
      exact ⟨by rw [px_w_k k]; decide, hx⟩
    · cases h
theorem sb_0 {N : eg_M} {a : Int32} (h : ¬ m_sb N a = false) : eg_gi N 121 31 = 0 := (of_decide_eq_true (bq_t h)).1
theorem iw_0 {N : eg_M} {w : Nat} (h : ¬ m_iw N w = false) : eg_gi N 121 31 = 0 := by
  have h := bq_t h
  unfold m_iw at h
  rw [Bool.and_eq_true, decide_eq_true_eq] at h
  exact h.1.1
theorem sb_f {r d e : Nat} {N : eg_M} {s : px_S} {a : Int32} (hs : m_rs r d e N s) (ha : m_is a) : (m_sb N a = false → ¬ px_k s = a) ∧ (¬ m_sb N a = false → px_k s = a) := by
  have h := ms_sb hs ha
  constructor
  · intro z
    rw [z] at h
    exact of_decide_eq_false h.symm
  · intro z
    rw [bq_t z] at h
    exact of_decide_eq_true h.symm
theorem px_E_l {T : Nat → Int32} {n : Nat} (hn : n ≤ 400) (hT : ∀ j, j < n → 0 ≤ T j) (d : Nat) (e : Nat × Nat) : px_E T n d (.inl e) = .inl e := (px_E_G hn hT d).1 e
theorem px_m1 : 1 ≤ 5 * 0 + 1 := by decide
theorem px_pG {T : Nat → Int32} {n : Nat} (hn : n ≤ 400) (hT : ∀ j, j < n → 0 ≤ T j) (d : Nat) : px_G T n (5 * d + 1) (px_part T n (px_E T n d)) := px_part_G hn hT (by omega) (Nat.le_refl _) (px_E_G hn hT d)
theorem px_rG {T : Nat → Int32} {n : Nat} (hn : n ≤ 400) (hT : ∀ j, j < n → 0 ≤ T j) (d : Nat) : px_G T n (5 * d + 1 + 1) (px_prod T n (px_E T n d)) := px_prod_G hn (px_pG hn hT d)
theorem px_sG {T : Nat → Int32} {n : Nat} (hn : n ≤ 400) (hT : ∀ j, j < n → 0 ≤ T j) (d : Nat) : px_G T n (5 * d + 1 + 1 + 1) (px_sum T n (px_E T n d)) := px_sum_G hn (px_rG hn hT d)
theorem px_nG {T : Nat → Int32} {n : Nat} (hn : n ≤ 400) (hT : ∀ j, j < n → 0 ≤ T j) (d : Nat) : px_G T n (5 * d + 1 + 1 + 1 + 1) (px_not T n (px_E T n d)) := px_not_G hn (px_sG hn hT d)
theorem px_aG {T : Nat → Int32} {n : Nat} (hn : n ≤ 400) (hT : ∀ j, j < n → 0 ≤ T j) (d : Nat) : px_G T n (5 * d + 1 + 1 + 1 + 1 + 1) (px_and T n (px_E T n d)) := px_and_G hn (px_nG hn hT d)
/-- what begins no expression -/
theorem px_E_no {T : Nat → Int32} {n d : Nat} (hn : n ≤ 400) (hT : ∀ j, j < n → 0 ≤ T j) {t : px_T} {S : List Int32} (h2 : ¬ t.2.2 = -nI 2) (h3 : ¬ t.2.2 = -nI 3) (h4 : ¬ t.2.2 = nI 40) : px_E T n d (.inr (t, S)) = .inl (1, t.1) := by
  cases d with
  | zero =>
    show px_ref (if px_k (.inr (t, S)) = -nI 3 ∨ px_k (.inr (t, S)) = -nI 2 ∨ px_k (.inr (t, S)) = nI 40 then 2 else 1) (.inr (t, S)) = _
    rw [if_neg (by rintro (y | y | y); exact h3 y; exact h2 y; exact h4 y)]
    rfl
  | succ d =>
    have p1 : px_part T n (px_E T n d) (.inr (t, S)) = .inl (1, t.1) := by
      rw [px_part_r, if_neg h2, if_neg h4, px_num_r, if_neg h3]
      rfl
    have l0 : ∀ (q : px_S → Option Int32) (f : px_S → px_S) (e : Nat × Nat) fu, q (.inl e) = none → px_lp T n q f fu (.inl e) = .inl e := by
      intro q f e fu hq
      cases fu with
      | zero => rfl
      | succ fu => rw [px_lp, hq]
    have p2 : px_prod T n (px_E T n d) (.inr (t, S)) = .inl (1, t.1) := by
      unfold px_prod
      rw [p1]
      exact l0 _ _ _ _ rfl
    have p3 : px_sum T n (px_E T n d) (.inr (t, S)) = .inl (1, t.1) := by
      unfold px_sum
      rw [p2]
      exact l0 _ _ _ _ rfl
    have w15 : px_is T 15 (.inr (t, S)) = false := by
      cases hw : px_is T 15 (.inr (t, S)) with
      | false => rfl
      | true => exact absurd (px_w_k hw) h2
    have p4 : px_not T n (px_E T n d) (.inr (t, S)) = .inl (1, t.1) := by
      unfold px_not
      rw [show px_nt T n 6 0 (.inr (t, S)) = (0, .inr (t, S)) by rw [px_nt, w15, if_neg Bool.noConfusion]]
      dsimp only
      rw [w15, if_neg Bool.noConfusion, p3]
      rfl
    have p5 : px_and T n (px_E T n d) (.inr (t, S)) = .inl (1, t.1) := by
      unfold px_and
      rw [p4]
      exact l0 _ _ _ _ rfl
    show px_or T n (px_E T n d) (.inr (t, S)) = _
    unfold px_or
    rw [p5]
    exact l0 _ _ _ _ rfl
def s_X12_readExpression_r (dd : Nat) : eg_S := fun argv M Qp => match argv with
  | [.ref 121, .int rr, .int ar] => (0 < dd ∧ dd ≤ 7 ∧ vp_in rr 8 ∧ (∃ d s, m_rs rr.toNatClampNeg d 0 M s) ∧ m_tb M ∧ ar = nI (7 - dd)) ∧ ∀ (M2 : eg_M), (m_rR rr.toNatClampNeg M M2 (px_E (eg_gi M 139) (eg_gi M 121 25).toNatClampNeg (dd - 1))) → Qp (.inl none) M2
  | _ => False
theorem mo_X12_readExpression_r (dd : Nat) : eg_mono (s_X12_readExpression_r dd) := by
  intro argv M Q Q' h
  unfold s_X12_readExpression_r
  split
  · exact fun z => ⟨z.1, fun M2 y => h _ _ (z.2 M2 y)⟩
  · exact id
theorem sz_X12_readExpression_r (dd : Nat) : ∀ argv M Qp, s_X12_readExpression_r dd argv M Qp → (eg_ls0 argv).length ≤ 4 := by
  intro argv M Qp h
  unfold s_X12_readExpression_r at h
  split at h
  · exact Nat.le_of_ble_eq_true rfl
  · exact h.elim
theorem sr_X12_readExpression_r (dd : Nat) : ∀ argv M Qp, s_X12_readExpression_r dd argv M Qp → ∃ p0 As, argv = .ref p0 :: As ∧ eg_isO wd M p0 12 = true := by
  intro argv M Qp h
  unfold s_X12_readExpression_r at h
  split at h
  · exact ⟨_, _, rfl, rfl⟩
  · exact h.elim
theorem sF_X12_readExpression_r : ∀ argv M Qp, s_X12_readExpression_r 0 argv M Qp → False := by
  intro argv M Qp h
  unfold s_X12_readExpression_r at h
  split at h
  · exact absurd h.1.1 (Nat.lt_irrefl 0)
  · exact h

def s_X12_readPart_r (dd : Nat) : eg_S := fun argv M Qp => match argv with
  | [.ref 121, .int rr, .int ar] => ((0 < dd ∨ ¬ eg_gi M 121 31 = 0) ∧ dd ≤ 6 ∧ vp_in rr 8 ∧ (∃ d s, m_rs rr.toNatClampNeg d 0 M s) ∧ m_tb M ∧ ar = nI (6 - dd)) ∧ ∀ (M2 : eg_M), (m_rR rr.toNatClampNeg M M2 (px_part (eg_gi M 139) (eg_gi M 121 25).toNatClampNeg (px_E (eg_gi M 139) (eg_gi M 121 25).toNatClampNeg (dd - 1)))) → Qp (.inl none) M2
  | _ => False
theorem mo_X12_readPart_r (dd : Nat) : eg_mono (s_X12_readPart_r dd) := by
  intro argv M Q Q' h
  unfold s_X12_readPart_r
  split
  · exact fun z => ⟨z.1, fun M2 y => h _ _ (z.2 M2 y)⟩
  · exact id
theorem sz_X12_readPart_r (dd : Nat) : ∀ argv M Qp, s_X12_readPart_r dd argv M Qp → (eg_ls0 argv).length ≤ 4 := by
  intro argv M Qp h
  unfold s_X12_readPart_r at h
  split at h
  · exact Nat.le_of_ble_eq_true rfl
  · exact h.elim
theorem sr_X12_readPart_r (dd : Nat) : ∀ argv M Qp, s_X12_readPart_r dd argv M Qp → ∃ p0 As, argv = .ref p0 :: As ∧ eg_isO wd M p0 12 = true := by
  intro argv M Qp h
  unfold s_X12_readPart_r at h
  split at h
  · exact ⟨_, _, rfl, rfl⟩
  · exact h.elim

def k_X12_readPart (dd : Nat) : eg_C := ([(0, .aload_n 0, 1), (1, .getfield 294, 3), (4, .ifCond .eq 4, 3), (7, .return_, 1), (8, .aload_n 0, 1), (9, .getfield 272, 3), (12, .iconst 2, 1), (13, .if_icmp .ne 23, 3), (16, .aload_n 0, 1), (17, .invokevirtual 325, 3), (20, .istore_n 3, 1), (21, .aload_n 0, 1), (22, .iload_n 1, 1), (23, .iconst 0, 1), (24, .invokevirtual 328, 3), (27, .aload_n 0, 1), (28, .iload_n 1, 1), (29, .iload_n 3, 1), (30, .invokevirtual 328, 3), (33, .goto 84, 3), (36, .aload_n 0, 1), (37, .getfield 272, 3), (40, .iconst 1, 1), (41, .if_icmp .ne 41, 3), (44, .aload_n 0, 1), (45, .invokevirtual 332, 3), (48, .istore_n 3, 1), (49, .iload_n 3, 1), (50, .iconst (-1), 1), (51, .if_icmp .ne 8, 3), (54, .aload_n 0, 1), (55, .iconst 3, 1), (56, .invokevirtual 311, 3), (59, .aload_n 0, 1), (60, .iload_n 1, 1), (61, .bipush 20, 2), (63, .iload_n 3, 1), (64, .iadd, 1), (65, .invokevirtual 328, 3), (68, .aload_n 0, 1), (69, .getfield 294, 3), (72, .ifCond .ne 7, 3), (75, .aload_n 0, 1), (76, .invokevirtual 315, 3), (79, .goto 38, 3), (82, .aload_n 0, 1), (83, .bipush 40, 2), (85, .invokevirtual 308, 3), (88, .ifCond .eq 24, 3), (91, .aload_n 0, 1), (92, .invokevirtual 315, 3), (95, .aload_n 0, 1), (96, .iload_n 1, 1), (97, .iload_n 2, 1), (98, .iconst 1, 1), (99, .iadd, 1), (100, .invokevirtual 335, 3), (103, .aload_n 0, 1), (104, .bipush 41, 2), (106, .invokevirtual 338, 3), (109, .goto 8, 3), (112, .aload_n 0, 1), (113, .iconst 1, 1), (114, .invokevirtual 311, 3), (117, .return_, 1)], [(272, 12, 26, false), (294, 12, 31, false)], [], [(308, 1 + 1, 0, 0, s_X12_isSign_v), (311, 1 + 1, 0, 0, s_X12_wrong_v), (315, 0 + 1, 0, 0, s_X12_step), (325, 0 + 1, 0, 0, s_X12_readNumber), (328, 2 + 1, 0, 0, s_X12_emit_v), (332, 0 + 1, 0, 0, s_X12_valueNow), (335, 2 + 1, 0, 0, s_X12_readExpression_r dd), (338, 1 + 1, 0, 0, s_X12_need)], [], 0, 0, 0)
theorem mk_X12_readPart (dd : Nat) : ∀ q ∈ (k_X12_readPart dd).2.2.2.1, eg_mono q.2.2.2.2 := (fc (mo_X12_isSign_v) (fc (mo_X12_wrong_v) (fc (mo_X12_step) (fc (mo_X12_readNumber) (fc (mo_X12_emit_v) (fc (mo_X12_valueNow) (fc (mo_X12_readExpression_r dd) (fc (mo_X12_need) (fn)))))))))

set_option maxRecDepth 100000 in
theorem st_X12_readPart_0 {dd : Nat} {Qp : eg_P} {M : eg_M} (rr : Int32) (ar : Int32)
  (g0 : ((eg_gi M 121 31) = 0) → ((eg_gi M 121 26) = (nI 2)) → ((∃ r d e s, m_rs r d e M s) ∧ m_tb M))
  (g1 : ((eg_gi M 121 31) = 0) → (¬ ((eg_gi M 121 26) = (nI 2))) → ((eg_gi M 121 26) = (nI 1)) → (eg_gi M 121 31 = 0 → eg_gi M 121 26 = nI 1 → ∃ b e, b ≤ e ∧ e ≤ 400 ∧ eg_gi M 121 29 = nI b ∧ eg_gi M 121 30 = nI e))
  (g2 : ((eg_gi M 121 31) = 0) → (¬ ((eg_gi M 121 26) = (nI 2))) → (¬ ((eg_gi M 121 26) = (nI 1))) → (¬ ((m_sb M (nI 40)) = false)) → ((∃ p n, p ≤ n ∧ n ≤ 400 ∧ eg_gi M 121 24 = nI p ∧ eg_gi M 121 25 = nI n) ∧ m_tb M))
  (l0 : ((eg_gi M 121 31) = 0 ∧ (eg_gi M 121 26) = (nI 2)) → ∀ (v_1 : Int32) (M2_1 : eg_M), (m_fq M M2_1 ∧ (∀ r d e s, m_rs r d e M s → m_rs r d e M2_1 (px_num (eg_gi M 139) (eg_gi M 121 25).toNatClampNeg s)) ∧ ∀ r d e t S, m_rs r d e M (.inr (t, S)) → t.2.2 = -nI 3 → t.2.1 ≤ t.1 + 6 → v_1 = px_n (eg_gi M 139) t.1 (t.2.1 - t.1)) → eg_T wd (k_X12_readPart dd) Qp 20 0 0 [some (.ref 121), some (.int rr), some (.int ar), none] [.int v_1] M2_1)
  (l1 : ((eg_gi M 121 31) = 0 ∧ (¬ (eg_gi M 121 26) = (nI 2) ∧ ((eg_gi M 121 26) = (nI 1) ∧ (k_ov (m_v M 11)) = (-nI 1)))) → eg_T wd (k_X12_readPart dd) Qp 59 0 0 [some (.ref 121), some (.int rr), some (.int ar), some (.int (k_ov (m_v M 11)))] [] (m_wr M (nI 3)))
  (l2 : ((eg_gi M 121 31) = 0 ∧ (¬ (eg_gi M 121 26) = (nI 2) ∧ ((eg_gi M 121 26) = (nI 1) ∧ ¬ (k_ov (m_v M 11)) = (-nI 1)))) → eg_T wd (k_X12_readPart dd) Qp 59 0 0 [some (.ref 121), some (.int rr), some (.int ar), some (.int (k_ov (m_v M 11)))] [] M)
  (l3 : ((eg_gi M 121 31) = 0 ∧ (¬ (eg_gi M 121 26) = (nI 2) ∧ (¬ (eg_gi M 121 26) = (nI 1) ∧ (m_sb M (nI 40)) = false))) → Qp (.inl none) (m_wr M (nI 1)))
  (l4 : ((eg_gi M 121 31) = 0 ∧ (¬ (eg_gi M 121 26) = (nI 2) ∧ (¬ (eg_gi M 121 26) = (nI 1) ∧ ¬ (m_sb M (nI 40)) = false))) → ∀ (M2_2 : eg_M), (m_fs M M2_2 ∧ m_at (eg_gi M 139) M2_2 (lx (eg_gi M 139) (eg_gi M 121 25).toNatClampNeg (eg_gi M 121 24).toNatClampNeg)) → eg_T wd (k_X12_readPart dd) Qp 95 0 0 [some (.ref 121), some (.int rr), some (.int ar), none] [] M2_2)
  (l5 : (¬ (eg_gi M 121 31) = 0) → Qp (.inl none) M) :
  eg_T wd (k_X12_readPart dd) Qp 0 0 0 [some (.ref 121), some (.int rr), some (.int ar), none] [] M := by
  refine eg_T_run (mk_X12_readPart dd) (cut := [20, 59, 79, 95, 103, 109]) 68 ?_
  refine And.intro (fun (c1 : (eg_gi M 121 31) = 0) => ?_) (fun (c1 : ¬ (eg_gi M 121 31) = 0) => ?_)
  · skip
    refine And.intro (fun (c2 : (eg_gi M 121 26) = (nI 2)) => ?_) (fun (c2 : ¬ (eg_gi M 121 26) = (nI 2)) => ?_)
    · skip
      refine And.intro (show ((∃ r d e s, m_rs r d e M s) ∧ m_tb M) from ?_) ?_
      · exact g0 c1 c2
      intro v_1 M2_1 ha_1
      show eg_T wd (k_X12_readPart dd) Qp 20 0 0 [some (.ref 121), some (.int rr), some (.int ar), none] [.int v_1] M2_1
      exact l0 ⟨c1, c2⟩ v_1 M2_1 ha_1
    · skip
      refine And.intro (fun (c3 : (eg_gi M 121 26) = (nI 1)) => ?_) (fun (c3 : ¬ (eg_gi M 121 26) = (nI 1)) => ?_)
      · skip
        refine And.intro (show (eg_gi M 121 31 = 0 → eg_gi M 121 26 = nI 1 → ∃ b e, b ≤ e ∧ e ≤ 400 ∧ eg_gi M 121 29 = nI b ∧ eg_gi M 121 30 = nI e) from ?_) ?_
        · exact g1 c1 c2 c3
        refine And.intro (fun (c4 : (k_ov (m_v M 11)) = (-nI 1)) => ?_) (fun (c4 : ¬ (k_ov (m_v M 11)) = (-nI 1)) => ?_)
        · skip
          refine And.intro (show (True) from ?_) ?_
          · exact trivial
          show eg_T wd (k_X12_readPart dd) Qp 59 0 0 [some (.ref 121), some (.int rr), some (.int ar), some (.int (k_ov (m_v M 11)))] [] (m_wr M (nI 3))
          exact l1 ⟨c1, ⟨c2, ⟨c3, c4⟩⟩⟩
        · skip
          show eg_T wd (k_X12_readPart dd) Qp 59 0 0 [some (.ref 121), some (.int rr), some (.int ar), some (.int (k_ov (m_v M 11)))] [] M
          exact l2 ⟨c1, ⟨c2, ⟨c3, c4⟩⟩⟩
      · skip
        refine And.intro (show (True) from ?_) ?_
        · exact trivial
        refine And.intro (fun (c5 : (b2i (m_sb M (nI 40))) = 0) => ?_) (fun (c5 : ¬ (b2i (m_sb M (nI 40))) = 0) => ?_)
        · replace c5 := b2i_0.mp c5
          refine And.intro (show (True) from ?_) ?_
          · exact trivial
          show Qp (.inl none) (m_wr M (nI 1))
          exact l3 ⟨c1, ⟨c2, ⟨c3, c5⟩⟩⟩
        · replace c5 := b2i_ff c5
          refine And.intro (show ((∃ p n, p ≤ n ∧ n ≤ 400 ∧ eg_gi M 121 24 = nI p ∧ eg_gi M 121 25 = nI n) ∧ m_tb M) from ?_) ?_
          · exact g2 c1 c2 c3 c5
          intro M2_2 ha_2
          show eg_T wd (k_X12_readPart dd) Qp 95 0 0 [some (.ref 121), some (.int rr), some (.int ar), none] [] M2_2
          exact l4 ⟨c1, ⟨c2, ⟨c3, c5⟩⟩⟩ M2_2 ha_2
  · skip
    show Qp (.inl none) M
    exact l5 c1

set_option maxRecDepth 100000 in
theorem st_X12_readPart_20 {dd : Nat} {Qp : eg_P} {M : eg_M} (rr : Int32) (ar : Int32) (o3 : Option Value) (s0 : Int32)
  (g0 : (eg_gi M 121 31 = 0 → vp_in (nI 640 * rr + eg_gi M 121 34) 5120))
  (g1 : (eg_gi (m_em M rr (nI 0)) 121 31 = 0 → vp_in (nI 640 * rr + eg_gi (m_em M rr (nI 0)) 121 34) 5120))
  (l0 : Qp (.inl none) (m_em (m_em M rr (nI 0)) rr s0)) :
  eg_T wd (k_X12_readPart dd) Qp 20 0 0 [some (.ref 121), some (.int rr), some (.int ar), o3] [.int s0] M := by
  refine eg_T_run (mk_X12_readPart dd) (cut := [20, 59, 79, 95, 103, 109]) 68 ?_
  refine And.intro (show (eg_gi M 121 31 = 0 → vp_in (nI 640 * rr + eg_gi M 121 34) 5120) from ?_) ?_
  · exact g0
  refine And.intro (show (eg_gi (m_em M rr (nI 0)) 121 31 = 0 → vp_in (nI 640 * rr + eg_gi (m_em M rr (nI 0)) 121 34) 5120) from ?_) ?_
  · exact g1
  show Qp (.inl none) (m_em (m_em M rr (nI 0)) rr s0)
  exact l0

set_option maxRecDepth 100000 in
theorem st_X12_readPart_59 {dd : Nat} {Qp : eg_P} {M : eg_M} (rr : Int32) (o2 : Option Value) (x3 : Int32)
  (g0 : (eg_gi M 121 31 = 0 → vp_in (nI 640 * rr + eg_gi M 121 34) 5120))
  (g1 : ((eg_gi (m_em M rr ((nI 20) + x3)) 121 31) = 0) → ((∃ p n, p ≤ n ∧ n ≤ 400 ∧ eg_gi (m_em M rr ((nI 20) + x3)) 121 24 = nI p ∧ eg_gi (m_em M rr ((nI 20) + x3)) 121 25 = nI n) ∧ m_tb (m_em M rr ((nI 20) + x3))))
  (l0 : ((eg_gi (m_em M rr ((nI 20) + x3)) 121 31) = 0) → ∀ (M2_1 : eg_M), (m_fs (m_em M rr ((nI 20) + x3)) M2_1 ∧ m_at (eg_gi (m_em M rr ((nI 20) + x3)) 139) M2_1 (lx (eg_gi (m_em M rr ((nI 20) + x3)) 139) (eg_gi (m_em M rr ((nI 20) + x3)) 121 25).toNatClampNeg (eg_gi (m_em M rr ((nI 20) + x3)) 121 24).toNatClampNeg)) → eg_T wd (k_X12_readPart dd) Qp 79 0 0 [some (.ref 121), some (.int rr), o2, some (.int x3)] [] M2_1)
  (l1 : (¬ (eg_gi (m_em M rr ((nI 20) + x3)) 121 31) = 0) → eg_T wd (k_X12_readPart dd) Qp 79 0 0 [some (.ref 121), some (.int rr), o2, some (.int x3)] [] (m_em M rr ((nI 20) + x3))) :
  eg_T wd (k_X12_readPart dd) Qp 59 0 0 [some (.ref 121), some (.int rr), o2, some (.int x3)] [] M := by
  refine eg_T_run (mk_X12_readPart dd) (cut := [20, 59, 79, 95, 103, 109]) 68 ?_
  refine And.intro (show (eg_gi M 121 31 = 0 → vp_in (nI 640 * rr + eg_gi M 121 34) 5120) from ?_) ?_
  · exact g0
  refine And.intro (fun (c1 : (eg_gi (m_em M rr ((nI 20) + x3)) 121 31) = 0) => ?_) (fun (c1 : ¬ (eg_gi (m_em M rr ((nI 20) + x3)) 121 31) = 0) => ?_)
  · skip
    refine And.intro (show ((∃ p n, p ≤ n ∧ n ≤ 400 ∧ eg_gi (m_em M rr ((nI 20) + x3)) 121 24 = nI p ∧ eg_gi (m_em M rr ((nI 20) + x3)) 121 25 = nI n) ∧ m_tb (m_em M rr ((nI 20) + x3))) from ?_) ?_
    · exact g1 c1
    intro M2_1 ha_1
    show eg_T wd (k_X12_readPart dd) Qp 79 0 0 [some (.ref 121), some (.int rr), o2, some (.int x3)] [] M2_1
    exact l0 c1 M2_1 ha_1
  · skip
    show eg_T wd (k_X12_readPart dd) Qp 79 0 0 [some (.ref 121), some (.int rr), o2, some (.int x3)] [] (m_em M rr ((nI 20) + x3))
    exact l1 c1

set_option maxRecDepth 100000 in
theorem st_X12_readPart_79 {dd : Nat} {Qp : eg_P} {M : eg_M} (o0 : Option Value) (o1 : Option Value) (o2 : Option Value) (o3 : Option Value)
  (l0 : Qp (.inl none) M) :
  eg_T wd (k_X12_readPart dd) Qp 79 0 0 [o0, o1, o2, o3] [] M := by
  refine eg_T_run (mk_X12_readPart dd) (cut := [20, 59, 79, 95, 103, 109]) 68 ?_
  show Qp (.inl none) M
  exact l0

set_option maxRecDepth 100000 in
theorem st_X12_readPart_95 {dd : Nat} {Qp : eg_P} {M : eg_M} (rr : Int32) (ar : Int32) (o3 : Option Value)
  (g0 : (0 < dd ∧ dd ≤ 7 ∧ vp_in rr 8 ∧ (∃ d s, m_rs rr.toNatClampNeg d 0 M s) ∧ m_tb M ∧ (ar + (nI 1)) = nI (7 - dd)))
  (l0 : ∀ (M2_1 : eg_M), (m_rR rr.toNatClampNeg M M2_1 (px_E (eg_gi M 139) (eg_gi M 121 25).toNatClampNeg (dd - 1))) → eg_T wd (k_X12_readPart dd) Qp 103 0 0 [some (.ref 121), some (.int rr), some (.int ar), o3] [] M2_1) :
  eg_T wd (k_X12_readPart dd) Qp 95 0 0 [some (.ref 121), some (.int rr), some (.int ar), o3] [] M := by
  refine eg_T_run (mk_X12_readPart dd) (cut := [20, 59, 79, 95, 103, 109]) 68 ?_
  refine And.intro (show (0 < dd ∧ dd ≤ 7 ∧ vp_in rr 8 ∧ (∃ d s, m_rs rr.toNatClampNeg d 0 M s) ∧ m_tb M ∧ (ar + (nI 1)) = nI (7 - dd)) from ?_) ?_
  · exact g0
  intro M2_1 ha_1
  show eg_T wd (k_X12_readPart dd) Qp 103 0 0 [some (.ref 121), some (.int rr), some (.int ar), o3] [] M2_1
  exact l0 M2_1 ha_1

set_option maxRecDepth 100000 in
theorem st_X12_readPart_103 {dd : Nat} {Qp : eg_P} {M : eg_M} (o1 : Option Value) (o2 : Option Value) (o3 : Option Value)
  (g0 : ((∃ r d e s, m_rs r d e M s) ∧ m_tb M ∧ m_is (nI 41)))
  (l0 : ∀ (M2_1 : eg_M), (m_fq M M2_1 ∧ ∀ r d e s, m_rs r d e M s → m_rs r d e M2_1 (px_sgn (eg_gi M 139) (eg_gi M 121 25).toNatClampNeg (nI 41) s)) → eg_T wd (k_X12_readPart dd) Qp 109 0 0 [some (.ref 121), o1, o2, o3] [] M2_1) :
  eg_T wd (k_X12_readPart dd) Qp 103 0 0 [some (.ref 121), o1, o2, o3] [] M := by
  refine eg_T_run (mk_X12_readPart dd) (cut := [20, 59, 79, 95, 103, 109]) 68 ?_
  refine And.intro (show ((∃ r d e s, m_rs r d e M s) ∧ m_tb M ∧ m_is (nI 41)) from ?_) ?_
  · exact g0
  intro M2_1 ha_1
  show eg_T wd (k_X12_readPart dd) Qp 109 0 0 [some (.ref 121), o1, o2, o3] [] M2_1
  exact l0 M2_1 ha_1

set_option maxRecDepth 100000 in
theorem st_X12_readPart_109 {dd : Nat} {Qp : eg_P} {M : eg_M} (o0 : Option Value) (o1 : Option Value) (o2 : Option Value) (o3 : Option Value)
  (l0 : Qp (.inl none) M) :
  eg_T wd (k_X12_readPart dd) Qp 109 0 0 [o0, o1, o2, o3] [] M := by
  refine eg_T_run (mk_X12_readPart dd) (cut := [20, 59, 79, 95, 103, 109]) 68 ?_
  show Qp (.inl none) M
  exact l0

set_option maxRecDepth 100000 in
set_option maxHeartbeats 1000000 in
theorem T_X12_readPart_r (dd : Nat) {argv : List Value} {M : eg_M} {Qp : eg_P} (h : s_X12_readPart_r dd argv M Qp) : eg_T wd (k_X12_readPart dd) Qp 0 0 0 (eg_lsN 4 argv) [] M := by
  unfold s_X12_readPart_r at h
  split at h
  · rename_i rr ar
    obtain ⟨hp, hq⟩ := h
    obtain ⟨hd0, hd6, hrv, ⟨d0, s0, hs0⟩, hT, rfl⟩ := hp
    obtain ⟨r, hr, rfl⟩ := vp_in_of hrv (by decide)
    have hrc : (nI r).toNatClampNeg = r := n_c (by omega)
    rw [hrc] at hs0 hq
    obtain ⟨n, hn, eN, _⟩ := id hs0
    have hnc : (nI n).toNatClampNeg = n := n_c (by omega)
    rw [eN, hnc] at hq
    have hTT := mb_T hT hn
    have inf : ∀ d t S, m_rs r d 0 M (.inr (t, S)) → eg_gi M 121 26 = m_tk t.2.2 ∧ S.length + d ≤ t.1 ∧ 2 * px_W S + 2 * d ≤ 3 * t.1 ∧ px_tok (eg_gi M 139) n t := by
      intro d t S h
      obtain ⟨n', hn', eN', g1, g2, ⟨a1, a2, a3, a4, a5, a6⟩, g4, g5, g6, g7⟩ := h
      rw [eN, n_eq (by omega) (by omega)] at eN'
      subst eN'
      exact ⟨a2, g4, g5, g2⟩
    have z1 : eg_gi M 121 31 = 0 → ∀ d s, m_rs r d 0 M s → ∃ t S, s = .inr (t, S) := fun z d s h => (ms_0 h).mp z
    have f59 : ∀ v, v < 11 → eg_gi M 121 31 = 0 → (∀ d t S, m_rs r d 0 M (.inr (t, S)) → t.2.2 = -nI 2 ∧ px_v (eg_gi M 139) t 11 = some v) → eg_T wd (k_X12_readPart dd) Qp 59 0 0 [some (.ref 121), some (.int (nI r)), some (.int (nI (6 - dd))), some (.int (nI v))] [] M := by
      intro v hv hz ht
      have hneg : ∀ v, v < 11 → (-nI (11 + v)).toInt < 0 ∧ m_c (-nI (11 + v)) = nI 20 + nI v := by decide
      obtain ⟨y1, y2⟩ := hneg v hv
      have st := st_X12_readPart_59 (dd := dd) (Qp := Qp) (M := M) (nI r) (some (.int (nI (6 - dd)))) (nI v)
      have hfe : m_fr r M (m_em M (nI r) (nI 20 + nI v)) := em_fr hr hs0 (by decide)
      have hz0 : eg_gi (m_em M (nI r) (nI 20 + nI v)) 121 31 = 0 := by
        unfold m_em
        rw [if_pos hz]
        exact hz
      have e24 : eg_gi (m_em M (nI r) (nI 20 + nI v)) 121 24 = eg_gi M 121 24 := by
        unfold m_em
        rw [if_pos hz]
        rfl
      have hst0 := ms_st hs0 hz
      rw [mr_139 hfe, mr_25 hfe, e24] at st
      refine st (ms_eb hr hs0 (by decide)) (fun _ => ⟨hst0, mr_tb hfe hT⟩) (fun _ N h => ?_) (fun z => absurd hz0 z)
      refine st_X12_readPart_79 _ _ _ _ (hq N ⟨mr_tr hfe (mr_fq (fq_fs h.1)), fun d s hs => ?_⟩)
      obtain ⟨t, S, rfl⟩ := z1 hz d s hs
      obtain ⟨i1, i2, i3, i4⟩ := inf d t S hs
      obtain ⟨k1, k2⟩ := ht d t S hs
      have hb := px_tok_b i4
      obtain ⟨x1, x2⟩ := px_nx i4 (by rw [k1]; decide)
      rw [px_part_r, if_pos k1, k2]
      show m_rs r d 1 N (px_adv (eg_gi M 139) n (px_put (-nI (11 + v)) (.inr (t, S))))
      obtain ⟨w1, w2, w3⟩ := ms_W hs (by decide)
      obtain ⟨n', hn', eN', g1, g2, ⟨a1, a2, a3, a4, a5, a6⟩, g4, g5, g6, g7⟩ := id hs
      have hlt : t.1 < n := by
        rcases hb.2.2 with z | z
        · rw [k1] at z
          exact absurd z (by decide)
        · omega
      rw [px_put_S (by omega)]
      have hW : px_W (S ++ [-nI (11 + v)]) = px_W S + 1 := by
        rw [px_W_a]
        show px_W S + ((if 0 ≤ (-nI (11 + v)).toInt then 2 else 1) + 0) = _
        rw [if_neg (by omega)]
      have hem : m_em M (nI r) (nI 20 + nI v) = eg_si (eg_si M 148 (640 * r + px_W S) (nI 20 + nI v)) 121 34 (nI (px_W S + 1)) := by
        unfold m_em
        rw [if_pos hz, w3, (em_ix hr (show px_W S ≤ 640 by omega)).1, (em_ix hr (show px_W S ≤ 640 by omega)).2, n_s (i := px_W S) (j := 1)]
      have h148 : eg_gi N 148 = eg_gi (eg_si M 148 (640 * r + px_W S) (nI 20 + nI v)) 148 := by
        rw [show eg_gi N 148 = eg_gi (m_em M (nI r) (nI 20 + nI v)) 148 from funext (fun j => h.1.2.2 148 j (by omega)), hem]
        rfl
      have h34 : eg_gi N 121 34 = nI (px_W S + 1) := by
        rw [h.1.2.2 121 34 (by omega), hem]
        rfl
      have h2 := h.2
      rw [eN, hnc, a1, n_c (by omega)] at h2
      have e139 : eg_gi N 139 = eg_gi M 139 := (fs_139 h.1).trans (mr_139 hfe)
      refine ⟨n, hn, ((fs_25 h.1).trans (mr_25 hfe)).trans eN, (h.1.2.2 121 31 (by omega)).trans hz0, ?_, ?_, ?_, ?_, ?_, ?_⟩
      · rw [e139]
        exact x1
      · rw [e139]
        exact h2
      · rw [List.length_append, List.length_singleton]
        show S.length + 1 + d ≤ (lx (eg_gi M 139) n t.2.1).1
        omega
      · rw [hW]
        show 2 * (px_W S + 1) + 2 * d ≤ 3 * (lx (eg_gi M 139) n t.2.1).1 + 1
        omega
      · rw [hW]
        exact h34
      · rw [hW, h148]
        refine m_sl_a (b := 640 * r + px_W S) (m_sl_of (fun j h1 h2 => ?_) g7) ?_
        · rw [si_g, if_neg (fun z => by have := z.2; omega)]
        · unfold m_sl
          rw [if_neg (by omega)]
          refine ⟨?_, rfl⟩
          rw [si_g, if_pos ⟨rfl, rfl⟩, y2]
    have f59w : eg_T wd (k_X12_readPart dd) Qp 59 0 0 [some (.ref 121), some (.int (nI r)), some (.int (nI (6 - dd))), some (.int (-nI 1))] [] (m_wr M (nI 3)) ∨ ¬ (eg_gi M 121 31 = 0 ∧ eg_gi M 121 26 = nI 1 ∧ k_ov (m_v M 11) = -nI 1) := by
      by_cases hc : eg_gi M 121 31 = 0 ∧ eg_gi M 121 26 = nI 1 ∧ k_ov (m_v M 11) = -nI 1
      · refine Or.inl ?_
        have wz : ¬ eg_gi (m_wr M (nI 3)) 121 31 = 0 := by
          unfold m_wr
          rw [if_pos hc.1]
          exact (show ¬ nI 3 = 0 by decide)
        have hme : m_em (m_wr M (nI 3)) (nI r) (nI 20 + -nI 1) = m_wr M (nI 3) := by
          unfold m_em
          rw [if_neg wz]
        have st := st_X12_readPart_59 (dd := dd) (Qp := Qp) (M := m_wr M (nI 3)) (nI r) (some (.int (nI (6 - dd)))) (-nI 1)
        rw [hme] at st
        refine st (fun z => absurd z wz) (fun z => absurd z wz) (fun z => absurd z wz) (fun _ => ?_)
        refine st_X12_readPart_79 _ _ _ _ (hq _ ⟨mr_fq (fq_wr M _), fun d s hs => ?_⟩)
        obtain ⟨t, S, rfl⟩ := z1 hc.1 d s hs
        obtain ⟨i1, i2, i3, i4⟩ := inf d t S hs
        have k1 : t.2.2 = -nI 2 := mtk_1.mp (i1.symm.trans hc.2.1)
        have k2 : px_v (eg_gi M 139) t 11 = none := by
          have := hc.2.2
          rw [ms_v hs 11] at this
          cases hv : px_v (eg_gi M 139) t 11 with
          | none => rfl
          | some v =>
            rw [hv] at this
            exact absurd this (nI_m1 (by have := px_v_lt 11 v (Nat.le_refl _) hv; omega))
        rw [px_part_r, if_pos k1, k2]
        exact ms_ref (by decide) (by decide) hs (fun _ _ => trivial)
      · exact Or.inr hc
    refine st_X12_readPart_0 (nI r) (nI (6 - dd)) (fun _ _ => ⟨⟨r, d0, 0, s0, hs0⟩, hT⟩) (fun _ _ _ => ms_wp hs0) (fun z _ _ _ => ⟨ms_st hs0 z, hT⟩) (fun z v N h => ?_) (fun z => ?_) (fun z => ?_) (fun z => ?_) (fun z N h => ?_) (fun z => ?_)
    · obtain ⟨h1, h2, h3⟩ := h
      rw [eN, hnc] at h2
      have hN := h2 r d0 0 s0 hs0
      have em1 := em_fr (c := nI 0) hr hN (by decide)
      by_cases hbad : eg_gi N 121 31 = 0
      · have key : ∀ d s, m_rs r d 0 M s → ∃ t S, s = .inr (t, S) ∧ t.2.2 = -nI 3 ∧ ¬ t.1 + 6 < t.2.1 ∧ px_num (eg_gi M 139) n (.inr (t, S)) = .inr (lx (eg_gi M 139) n t.2.1, S) := by
          intro d s hs
          obtain ⟨t, S, rfl⟩ := z1 z.1 d s hs
          obtain ⟨i1, i2, i3, i4⟩ := inf d t S hs
          have k3 : t.2.2 = -nI 3 := mtk_2.mp (i1.symm.trans z.2)
          have hN' := h2 r d 0 _ hs
          rw [px_num_r, if_pos k3] at hN'
          by_cases h6 : t.1 + 6 < t.2.1
          · rw [if_pos h6] at hN'
            obtain ⟨t', S', e⟩ := (ms_0 hN').mp hbad
            cases e
          · exact ⟨t, S, rfl, k3, h6, by rw [px_num_r, if_pos k3, if_neg h6]; rfl⟩
        have fin : ∀ d s, m_rs r d 0 M s → m_rs r d 1 (m_em (m_em N (nI r) (nI 0)) (nI r) v) (px_part (eg_gi M 139) n (px_E (eg_gi M 139) n (dd - 1)) s) := by
          intro d s hs
          obtain ⟨t, S, rfl, k3, h6, hnum⟩ := key d s hs
          obtain ⟨i1, i2, i3, i4⟩ := inf d t S hs
          obtain ⟨x1, x2⟩ := px_nx i4 (by rw [k3]; decide)
          have hN' := h2 r d 0 _ hs
          rw [hnum] at hN'
          have hv := h3 r d 0 t S hs k3 (by omega)
          obtain ⟨P, hP, eP⟩ := px_num_v hTT i4 k3 h6
          rw [px_part_r, if_neg (by rw [k3]; decide), if_neg (by rw [k3]; decide), hnum, ← hv]
          refine ms_pn hr hN' (by omega) (by omega) ?_
          rw [hv, eP, nI_toInt (by omega)]
          omega
        obtain ⟨t, S, e0, k3, h6, hnum⟩ := key d0 s0 hs0
        have i3 : 2 * px_W S + 2 * d0 ≤ 3 * t.1 ∧ px_tok (eg_gi M 139) n t := by
          have hs := hs0
          rw [e0] at hs
          exact ⟨(inf d0 t S hs).2.2.1, (inf d0 t S hs).2.2.2⟩
        have e1 : eg_gi (m_em N (nI r) (nI 0)) 121 34 = nI (px_W S + 1) ∧ px_W S + 1 ≤ 640 := by
          have hN' := hN
          rw [e0, hnum] at hN'
          obtain ⟨w1, w2, w3⟩ := ms_W hN' (by decide)
          unfold m_em
          rw [if_pos hbad, w3, n_s]
          exact ⟨rfl, by omega⟩
        refine st_X12_readPart_20 (nI r) (nI (6 - dd)) _ v (ms_eb hr hN (by decide)) (fun _ => ?_) (hq _ ⟨mr_tr (mr_tr (mr_fq h1) em1) ?_, fin⟩)
        · rw [e1.1, (em_ix hr e1.2).1]
          have hN' := hN
          rw [e0, hnum] at hN'
          obtain ⟨w1, w2, w3⟩ := ms_W hN' (by decide)
          exact (n_in (by omega) (by decide)).mpr (by omega)
        · unfold m_em
          split
          · split
            · have e34 : eg_gi (m_em N (nI r) (nI 0)) 121 34 = nI (px_W S + 1) := e1.1
              have hN' := hN
              rw [e0, hnum] at hN'
              obtain ⟨w1, w2, w3⟩ := ms_W hN' (by decide)
              unfold m_em at e34
              rw [if_pos hbad] at e34
              rw [e34, (em_ix hr e1.2).1, (em_ix hr e1.2).2]
              exact ⟨rfl, rfl, fun q j a b => by rw [si_g, if_neg (by omega), si_g, if_neg (by omega)]⟩
            · exact mr_rf r _
          · rename_i hx
            exact absurd hbad hx
      · have hm1 : ∀ c, m_em N (nI r) c = N := fun c => by
          unfold m_em
          rw [if_neg hbad]
        have st := st_X12_readPart_20 (dd := dd) (Qp := Qp) (M := N) (nI r) (nI (6 - dd)) none v
        rw [hm1, hm1] at st
        refine st (fun y => absurd y hbad) (fun y => absurd y hbad) (hq _ ⟨mr_fq h1, fun d s hs => ?_⟩)
        obtain ⟨t, S, rfl⟩ := z1 z.1 d s hs
        obtain ⟨i1, i2, i3, i4⟩ := inf d t S hs
        have k3 : t.2.2 = -nI 3 := mtk_2.mp (i1.symm.trans z.2)
        have hN' := h2 r d 0 _ hs
        rw [px_part_r, if_neg (by rw [k3]; decide), if_neg (by rw [k3]; decide)]
        rw [px_num_r, if_pos k3] at hN' ⊢
        by_cases h6 : t.1 + 6 < t.2.1
        · rw [if_pos h6] at hN' ⊢
          exact hN'
        · rw [if_neg h6] at hN'
          exact absurd ((ms_0 hN').mpr ⟨lx (eg_gi M 139) n t.2.1, S, rfl⟩) hbad
    · rcases f59w with y | y
      · rw [z.2.2.2]
        exact y
      · exact absurd ⟨z.1, z.2.2.1, z.2.2.2⟩ y
    · obtain ⟨t0, S0, e0⟩ := z1 z.1 d0 s0 hs0
      have hs0' := hs0
      rw [e0] at hs0'
      have hv := z.2.2.2
      have ev := ms_v hs0' 11
      rw [ev] at hv ⊢
      cases hvx : px_v (eg_gi M 139) t0 11 with
      | none =>
        rw [hvx] at hv
        exact absurd rfl hv
      | some v =>
        refine f59 v (px_v_lt 11 v (Nat.le_refl _) hvx) z.1 (fun d t S hs => ⟨mtk_1.mp ((inf d t S hs).1.symm.trans z.2.2.1), ?_⟩)
        rw [← ms_v hs 11, ev]
        exact hvx
    · refine hq _ ⟨mr_fq (fq_wr M _), fun d s hs => ?_⟩
      obtain ⟨t, S, rfl⟩ := z1 z.1 d s hs
      obtain ⟨i1, i2, i3, i4⟩ := inf d t S hs
      have k2 : ¬ t.2.2 = -nI 2 := fun y => z.2.2.1 (i1.trans (mtk_1.mpr y))
      have k3 : ¬ t.2.2 = -nI 3 := fun y => z.2.1 (i1.trans (mtk_2.mpr y))
      have k4 : ¬ t.2.2 = nI 40 := (sb_f hs (by unfold m_is; decide)).1 z.2.2.2
      rw [px_part_r, if_neg k2, if_neg k4, px_num_r, if_neg k3]
      exact ms_ref (by decide) (by decide) hs (fun _ _ => trivial)
    · have hz := z.1
      have key : ∀ d s, m_rs r d 0 M s → ∃ t S, s = .inr (t, S) ∧ t.2.2 = nI 40 ∧ m_rs r d 0 N (px_adv (eg_gi M 139) n (.inr (t, S))) := by
        intro d s hs
        obtain ⟨t, S, rfl⟩ := z1 hz d s hs
        obtain ⟨i1, i2, i3, i4⟩ := inf d t S hs
        have k4 : t.2.2 = nI 40 := (sb_f hs (by unfold m_is; decide)).2 z.2.2.2
        have := ms_step (d' := d) (e' := 0) hs (by rw [k4]; decide) h (by omega) (by omega)
        rw [eN, hnc] at this
        exact ⟨t, S, rfl, k4, this⟩
      have hfN : m_fr r M N := mr_fq (fq_fs h.1)
      obtain ⟨t0, S0, e0, k4, hN0⟩ := key d0 s0 hs0
      have hdd : 0 < dd := hd0.elim id (fun y => absurd hz y)
      refine st_X12_readPart_95 (nI r) (nI (6 - dd)) _ ⟨hdd, by omega, hrv, ⟨d0, _, by rw [hrc]; exact hN0⟩, mr_tb hfN hT, by rw [n_s, show 6 - dd + 1 = 7 - dd by omega]⟩ (fun N2 h2 => ?_)
      rw [hrc, mr_139 hfN, mr_25 hfN, eN, hnc] at h2
      have hf2 := mr_tr hfN h2.1
      refine st_X12_readPart_103 _ _ _ ⟨⟨r, d0, 1, _, h2.2 _ _ hN0⟩, mr_tb hf2 hT, by unfold m_is; decide⟩ (fun N3 h3 => st_X12_readPart_109 _ _ _ _ (hq N3 ⟨mr_tr hf2 (mr_fq h3.1), fun d s hs => ?_⟩))
      obtain ⟨t, S, rfl, k4', hN'⟩ := key d s hs
      have := h3.2 r d 1 _ (h2.2 _ _ hN')
      rw [mr_139 hf2, mr_25 hf2, eN, hnc] at this
      rw [px_part_r, if_neg (by rw [k4']; decide), if_pos k4']
      exact this
    · refine hq _ ⟨mr_rf r M, fun d s hs => ?_⟩
      match s, hs with
      | .inr (t, S), hs => exact absurd ((ms_0 hs).mpr ⟨t, S, rfl⟩) z
      | .inl x, hs => exact hs
  · exact h.elim
theorem de_X12_readPart (dd : Nat) : ∀ q ∈ (k_X12_readPart dd).1, decode cX12_readPart q.1 = .ok q.2 := by show ∀ q ∈ (k_X12_readPart 0).1, decode cX12_readPart q.1 = .ok q.2; decide +kernel
theorem me_X12_readPart_r (g : gl_T) (dd : Nat) (ih_X12_readExpression : MT g yX12_readExpression cX12_readExpression 4 none ⟨6 + 6 * dd, 0, 0, 129 + 138 * dd⟩ 0 0 (s_X12_readExpression_r dd)) : MT g yX12_readPart cX12_readPart 4 none ⟨7 + 6 * dd, 0, 0, 152 + 138 * dd⟩ 0 0 (s_X12_readPart_r dd) := by
  intro hl
  exact eg_met_of (k := k_X12_readPart dd) (by decide) rfl ⟨Nat.le_refl _, Nat.le_refl _⟩ rfl (sz_X12_readPart_r dd) (de_X12_readPart dd) (fun meth hn => (fc (eg_FL_of wd_c12 (by decide) lf_RX12_272 (fun h => absurd h (by decide))) (fc (eg_FL_of wd_c12 (by decide) lf_RX12_294 (fun h => absurd h (by decide))) (fn)))) (fun A s H hE => (fn)) (fun p e s m args below meth c Q A ad0 N0 S0 hK hEx hA => (fc (mt_V hl S0 hK hEx hA (me_X12_isSign_v g) lm_RX12_308 li_X12_isSign lx_X12_isSign ln_RX12 lc_X12_isSign ⟨rfl, by decide, by decide, by decide +kernel⟩ ⟨rfl, rfl⟩ ⟨by dsimp only; omega, by dsimp only; omega⟩ (ci := 12) rfl rfl sr_X12_isSign_v (by decide)) (fc (mt_V hl S0 hK hEx hA (me_X12_wrong_v g) lm_RX12_311 li_X12_wrong lx_X12_wrong ln_RX12 lc_X12_wrong ⟨rfl, by decide, by decide, by decide +kernel⟩ ⟨rfl, rfl⟩ ⟨by dsimp only; omega, by dsimp only; omega⟩ (ci := 12) rfl rfl sr_X12_wrong_v (by decide)) (fc (mt_V hl S0 hK hEx hA (me_X12_step g) lm_RX12_315 li_X12_step lx_X12_step ln_RX12 lc_X12_step ⟨rfl, by decide, by decide, by decide +kernel⟩ ⟨rfl, rfl⟩ ⟨by dsimp only; omega, by dsimp only; omega⟩ (ci := 12) rfl rfl sr_X12_step (by decide)) (fc (mt_V hl S0 hK hEx hA (me_X12_readNumber g) lm_RX12_325 li_X12_readNumber lx_X12_readNumber ln_RX12 lc_X12_readNumber ⟨rfl, by decide, by decide, by decide +kernel⟩ ⟨rfl, rfl⟩ ⟨by dsimp only; omega, by dsimp only; omega⟩ (ci := 12) rfl rfl sr_X12_readNumber (by decide)) (fc (mt_V hl S0 hK hEx hA (me_X12_emit_v g) lm_RX12_328 li_X12_emit lx_X12_emit ln_RX12 lc_X12_emit ⟨rfl, by decide, by decide, by decide +kernel⟩ ⟨rfl, rfl⟩ ⟨by dsimp only; omega, by dsimp only; omega⟩ (ci := 12) rfl rfl sr_X12_emit_v (by decide)) (fc (mt_V hl S0 hK hEx hA (me_X12_valueNow g) lm_RX12_332 li_X12_valueNow lx_X12_valueNow ln_RX12 lc_X12_valueNow ⟨rfl, by decide, by decide, by decide +kernel⟩ ⟨rfl, rfl⟩ ⟨by dsimp only; omega, by dsimp only; omega⟩ (ci := 12) rfl rfl sr_X12_valueNow (by decide)) (fc (mt_V hl S0 hK hEx hA (ih_X12_readExpression) lm_RX12_335 li_X12_readExpression lx_X12_readExpression ln_RX12 lc_X12_readExpression ⟨rfl, by decide, by decide, by decide +kernel⟩ ⟨rfl, rfl⟩ ⟨(show 6 + 6 * dd + 1 ≤ 7 + 6 * dd by omega), (show 8 + (4 + 11) + (129 + 138 * dd) ≤ 152 + 138 * dd by omega)⟩ (ci := 12) rfl rfl (sr_X12_readExpression_r dd) (by decide)) (fc (mt_V hl S0 hK hEx hA (me_X12_need g) lm_RX12_338 li_X12_need lx_X12_need ln_RX12 lc_X12_need ⟨rfl, by decide, by decide, by decide +kernel⟩ ⟨rfl, rfl⟩ ⟨by dsimp only; omega, by dsimp only; omega⟩ (ci := 12) rfl rfl sr_X12_need (by decide)) (fn)))))))))) (fun p e s m args below meth c Qc XC A ad0 N0 P S0 hK hEx hA hlk hout hPX => (fn)) (fun argv M Qp h => T_X12_readPart_r dd h)

def s_X12_readProduct_r (dd : Nat) : eg_S := fun argv M Qp => match argv with
  | [.ref 121, .int rr, .int ar] => ((0 < dd ∨ ¬ eg_gi M 121 31 = 0) ∧ dd ≤ 6 ∧ vp_in rr 8 ∧ (∃ d s, m_rs rr.toNatClampNeg d 0 M s) ∧ m_tb M ∧ ar = nI (6 - dd)) ∧ ∀ (M2 : eg_M), (m_rR rr.toNatClampNeg M M2 (px_prod (eg_gi M 139) (eg_gi M 121 25).toNatClampNeg (px_E (eg_gi M 139) (eg_gi M 121 25).toNatClampNeg (dd - 1)))) → Qp (.inl none) M2
  | _ => False
theorem mo_X12_readProduct_r (dd : Nat) : eg_mono (s_X12_readProduct_r dd) := by
  intro argv M Q Q' h
  unfold s_X12_readProduct_r
  split
  · exact fun z => ⟨z.1, fun M2 y => h _ _ (z.2 M2 y)⟩
  · exact id
theorem sz_X12_readProduct_r (dd : Nat) : ∀ argv M Qp, s_X12_readProduct_r dd argv M Qp → (eg_ls0 argv).length ≤ 4 := by
  intro argv M Qp h
  unfold s_X12_readProduct_r at h
  split at h
  · exact Nat.le_of_ble_eq_true rfl
  · exact h.elim
theorem sr_X12_readProduct_r (dd : Nat) : ∀ argv M Qp, s_X12_readProduct_r dd argv M Qp → ∃ p0 As, argv = .ref p0 :: As ∧ eg_isO wd M p0 12 = true := by
  intro argv M Qp h
  unfold s_X12_readProduct_r at h
  split at h
  · exact ⟨_, _, rfl, rfl⟩
  · exact h.elim

def k_X12_readProduct (dd : Nat) : eg_C := ([(0, .aload_n 0, 1), (1, .iload_n 1, 1), (2, .iload_n 2, 1), (3, .invokevirtual 341, 3), (6, .aload_n 0, 1), (7, .bipush 42, 2), (9, .invokevirtual 308, 3), (12, .ifCond .ne 12, 3), (15, .aload_n 0, 1), (16, .bipush 47, 2), (18, .invokevirtual 308, 3), (21, .ifCond .eq 37, 3), (24, .aload_n 0, 1), (25, .bipush 42, 2), (27, .invokevirtual 308, 3), (30, .ifCond .eq 7, 3), (33, .iconst 3, 1), (34, .goto 4, 3), (37, .iconst 4, 1), (38, .istore_n 3, 1), (39, .aload_n 0, 1), (40, .invokevirtual 315, 3), (43, .aload_n 0, 1), (44, .iload_n 1, 1), (45, .iload_n 2, 1), (46, .invokevirtual 341, 3), (49, .aload_n 0, 1), (50, .iload_n 1, 1), (51, .iload_n 3, 1), (52, .invokevirtual 328, 3), (55, .goto (-49), 3), (58, .return_, 1)], [], [], [(308, 1 + 1, 0, 0, s_X12_isSign_v), (315, 0 + 1, 0, 0, s_X12_step), (328, 2 + 1, 0, 0, s_X12_emit_v), (341, 2 + 1, 0, 0, s_X12_readPart_r dd)], [], 0, 0, 0)
theorem mk_X12_readProduct (dd : Nat) : ∀ q ∈ (k_X12_readProduct dd).2.2.2.1, eg_mono q.2.2.2.2 := (fc (mo_X12_isSign_v) (fc (mo_X12_step) (fc (mo_X12_emit_v) (fc (mo_X12_readPart_r dd) (fn)))))

set_option maxRecDepth 100000 in
theorem st_X12_readProduct_0 {dd : Nat} {Qp : eg_P} {M : eg_M} (rr : Int32) (ar : Int32)
  (g0 : ((0 < dd ∨ ¬ eg_gi M 121 31 = 0) ∧ dd ≤ 6 ∧ vp_in rr 8 ∧ (∃ d s, m_rs rr.toNatClampNeg d 0 M s) ∧ m_tb M ∧ ar = nI (6 - dd)))
  (l0 : ∀ (M2_1 : eg_M), (m_rR rr.toNatClampNeg M M2_1 (px_part (eg_gi M 139) (eg_gi M 121 25).toNatClampNeg (px_E (eg_gi M 139) (eg_gi M 121 25).toNatClampNeg (dd - 1)))) → eg_T wd (k_X12_readProduct dd) Qp 6 0 0 [some (.ref 121), some (.int rr), some (.int ar), none] [] M2_1) :
  eg_T wd (k_X12_readProduct dd) Qp 0 0 0 [some (.ref 121), some (.int rr), some (.int ar), none] [] M := by
  refine eg_T_run (mk_X12_readProduct dd) (cut := [6, 43, 49]) 35 ?_
  refine And.intro (show ((0 < dd ∨ ¬ eg_gi M 121 31 = 0) ∧ dd ≤ 6 ∧ vp_in rr 8 ∧ (∃ d s, m_rs rr.toNatClampNeg d 0 M s) ∧ m_tb M ∧ ar = nI (6 - dd)) from ?_) ?_
  · exact g0
  intro M2_1 ha_1
  show eg_T wd (k_X12_readProduct dd) Qp 6 0 0 [some (.ref 121), some (.int rr), some (.int ar), none] [] M2_1
  exact l0 M2_1 ha_1

set_option maxRecDepth 100000 in
theorem st_X12_readProduct_6 {dd : Nat} {Qp : eg_P} {M : eg_M} (rr : Int32) (ar : Int32) (o3 : Option Value)
  (g0 : ((((m_sb M (nI 42)) = false) ∧ ¬ ((m_sb M (nI 47)) = false)) ∨ ¬ ((m_sb M (nI 42)) = false)) → ((∃ p n, p ≤ n ∧ n ≤ 400 ∧ eg_gi M 121 24 = nI p ∧ eg_gi M 121 25 = nI n) ∧ m_tb M))
  (l0 : ((m_sb M (nI 42)) = false ∧ (m_sb M (nI 47)) = false) → Qp (.inl none) M)
  (l1 : ((m_sb M (nI 42)) = false ∧ ¬ (m_sb M (nI 47)) = false) → ∀ (M2_1 : eg_M), (m_fs M M2_1 ∧ m_at (eg_gi M 139) M2_1 (lx (eg_gi M 139) (eg_gi M 121 25).toNatClampNeg (eg_gi M 121 24).toNatClampNeg)) → eg_T wd (k_X12_readProduct dd) Qp 43 0 0 [some (.ref 121), some (.int rr), some (.int ar), some (.int (nI 4))] [] M2_1)
  (l2 : (¬ (m_sb M (nI 42)) = false) → ∀ (M2_2 : eg_M), (m_fs M M2_2 ∧ m_at (eg_gi M 139) M2_2 (lx (eg_gi M 139) (eg_gi M 121 25).toNatClampNeg (eg_gi M 121 24).toNatClampNeg)) → eg_T wd (k_X12_readProduct dd) Qp 43 0 0 [some (.ref 121), some (.int rr), some (.int ar), some (.int (nI 3))] [] M2_2) :
  eg_T wd (k_X12_readProduct dd) Qp 6 0 0 [some (.ref 121), some (.int rr), some (.int ar), o3] [] M := by
  refine eg_T_run (mk_X12_readProduct dd) (cut := [6, 43, 49]) 35 ?_
  refine And.intro (show (True) from ?_) ?_
  · exact trivial
  refine And.intro (fun (c1 : (b2i (m_sb M (nI 42))) = 0) => ?_) (fun (c1 : ¬ (b2i (m_sb M (nI 42))) = 0) => ?_)
  · replace c1 := b2i_0.mp c1
    refine And.intro (show (True) from ?_) ?_
    · exact trivial
    refine And.intro (fun (c2 : (b2i (m_sb M (nI 47))) = 0) => ?_) (fun (c2 : ¬ (b2i (m_sb M (nI 47))) = 0) => ?_)
    · replace c2 := b2i_0.mp c2
      show Qp (.inl none) M
      exact l0 ⟨c1, c2⟩
    · replace c2 := b2i_ff c2
      refine And.intro (show (True) from ?_) ?_
      · exact trivial
      refine And.intro (fun (c3 : (b2i (m_sb M (nI 42))) = 0) => ?_) (fun (c3 : ¬ (b2i (m_sb M (nI 42))) = 0) => ?_)
      · clear c3
        refine And.intro (show ((∃ p n, p ≤ n ∧ n ≤ 400 ∧ eg_gi M 121 24 = nI p ∧ eg_gi M 121 25 = nI n) ∧ m_tb M) from ?_) ?_
        · exact g0 (by clear g0 l0 l1 l2; grind)
        intro M2_1 ha_1
        show eg_T wd (k_X12_readProduct dd) Qp 43 0 0 [some (.ref 121), some (.int rr), some (.int ar), some (.int (nI 4))] [] M2_1
        exact l1 ⟨c1, c2⟩ M2_1 ha_1
      · exact absurd c1 (b2i_ff c3)
  · replace c1 := b2i_ff c1
    refine And.intro (show (True) from ?_) ?_
    · exact trivial
    refine And.intro (fun (c4 : (b2i (m_sb M (nI 42))) = 0) => ?_) (fun (c4 : ¬ (b2i (m_sb M (nI 42))) = 0) => ?_)
    · exact absurd (b2i_0.mp c4) c1
    · clear c4
      refine And.intro (show ((∃ p n, p ≤ n ∧ n ≤ 400 ∧ eg_gi M 121 24 = nI p ∧ eg_gi M 121 25 = nI n) ∧ m_tb M) from ?_) ?_
      · exact g0 (by clear g0 l0 l1 l2; grind)
      intro M2_2 ha_2
      show eg_T wd (k_X12_readProduct dd) Qp 43 0 0 [some (.ref 121), some (.int rr), some (.int ar), some (.int (nI 3))] [] M2_2
      exact l2 c1 M2_2 ha_2

set_option maxRecDepth 100000 in
theorem st_X12_readProduct_43 {dd : Nat} {Qp : eg_P} {M : eg_M} (rr : Int32) (ar : Int32) (x3 : Int32)
  (g0 : ((0 < dd ∨ ¬ eg_gi M 121 31 = 0) ∧ dd ≤ 6 ∧ vp_in rr 8 ∧ (∃ d s, m_rs rr.toNatClampNeg d 0 M s) ∧ m_tb M ∧ ar = nI (6 - dd)))
  (l0 : ∀ (M2_1 : eg_M), (m_rR rr.toNatClampNeg M M2_1 (px_part (eg_gi M 139) (eg_gi M 121 25).toNatClampNeg (px_E (eg_gi M 139) (eg_gi M 121 25).toNatClampNeg (dd - 1)))) → eg_T wd (k_X12_readProduct dd) Qp 49 0 0 [some (.ref 121), some (.int rr), some (.int ar), some (.int x3)] [] M2_1) :
  eg_T wd (k_X12_readProduct dd) Qp 43 0 0 [some (.ref 121), some (.int rr), some (.int ar), some (.int x3)] [] M := by
  refine eg_T_run (mk_X12_readProduct dd) (cut := [6, 43, 49]) 35 ?_
  refine And.intro (show ((0 < dd ∨ ¬ eg_gi M 121 31 = 0) ∧ dd ≤ 6 ∧ vp_in rr 8 ∧ (∃ d s, m_rs rr.toNatClampNeg d 0 M s) ∧ m_tb M ∧ ar = nI (6 - dd)) from ?_) ?_
  · exact g0
  intro M2_1 ha_1
  show eg_T wd (k_X12_readProduct dd) Qp 49 0 0 [some (.ref 121), some (.int rr), some (.int ar), some (.int x3)] [] M2_1
  exact l0 M2_1 ha_1

set_option maxRecDepth 100000 in
theorem st_X12_readProduct_49 {dd : Nat} {Qp : eg_P} {M : eg_M} (rr : Int32) (ar : Int32) (x3 : Int32)
  (g0 : (eg_gi M 121 31 = 0 → vp_in (nI 640 * rr + eg_gi M 121 34) 5120))
  (l0 : eg_T wd (k_X12_readProduct dd) Qp 6 0 0 [some (.ref 121), some (.int rr), some (.int ar), some (.int x3)] [] (m_em M rr x3)) :
  eg_T wd (k_X12_readProduct dd) Qp 49 0 0 [some (.ref 121), some (.int rr), some (.int ar), some (.int x3)] [] M := by
  refine eg_T_run (mk_X12_readProduct dd) (cut := [6, 43, 49]) 35 ?_
  refine And.intro (show (eg_gi M 121 31 = 0 → vp_in (nI 640 * rr + eg_gi M 121 34) 5120) from ?_) ?_
  · exact g0
  show eg_T wd (k_X12_readProduct dd) Qp 6 0 0 [some (.ref 121), some (.int rr), some (.int ar), some (.int x3)] [] (m_em M rr x3)
  exact l0

set_option maxRecDepth 100000 in
set_option maxHeartbeats 1000000 in
theorem T_X12_readProduct_r (dd : Nat) {argv : List Value} {M : eg_M} {Qp : eg_P} (h : s_X12_readProduct_r dd argv M Qp) : eg_T wd (k_X12_readProduct dd) Qp 0 0 0 (eg_lsN 4 argv) [] M := by
  unfold s_X12_readProduct_r at h
  split at h
  · rename_i rr ar
    obtain ⟨hp, hq⟩ := h
    obtain ⟨hd0, hd6, hrv, ⟨d0, s0, hs0⟩, hT, rfl⟩ := hp
    obtain ⟨r, hr, rfl⟩ := vp_in_of hrv (by decide)
    have hrc : (nI r).toNatClampNeg = r := n_c (by omega)
    rw [hrc] at hs0 hq
    obtain ⟨n, hn, eN, _⟩ := id hs0
    have hnc : (nI n).toNatClampNeg = n := n_c (by omega)
    rw [eN, hnc] at hq
    have hTT := mb_T hT hn
    have prc : ∀ N, m_fr r M N → (∃ d s, m_rs r d 0 N s) → eg_gi M 121 31 = 0 → ((0 < dd ∨ ¬ eg_gi N 121 31 = 0) ∧ dd ≤ 6 ∧ vp_in (nI r) 8 ∧ (∃ d s, m_rs (nI r).toNatClampNeg d 0 N s) ∧ m_tb N ∧ nI (6 - dd) = nI (6 - dd)) := fun N hf hs hz => ⟨Or.inl (hd0.elim id (fun y => absurd hz y)), hd6, hrv, by rw [hrc]; exact hs, mr_tb hf hT, rfl⟩
    obtain ⟨q0, qk⟩ := q2_k (a := 42) (b := 47) (x := (-nI 8)) (y := (-nI 9)) (by unfold m_is; decide) (by unfold m_is; decide) (by decide) (by decide)
    have isa : m_is (nI 42) := by unfold m_is; decide
    have isb : m_is (nI 47) := by unfold m_is; decide
    refine st_X12_readProduct_0 (nI r) (nI (6 - dd)) ⟨hd0, hd6, hrv, ⟨d0, s0, by rw [hrc]; exact hs0⟩, hT, rfl⟩ (fun N h => ?_)
    rw [hrc, eN, hnc] at h
    refine m_wll (L := fun N => ∀ o3 : Option Value, eg_T wd (k_X12_readProduct dd) Qp 6 0 0 [some (.ref 121), some (.int (nI r)), some (.int (nI (6 - dd))), o3] [] N) (Ex := fun N => Qp (.inl none) N) (S2 := fun c N => eg_T wd (k_X12_readProduct dd) Qp 43 0 0 [some (.ref 121), some (.int (nI r)), some (.int (nI (6 - dd))), some (.int c)] [] N) (P := px_prod (eg_gi M 139) n (px_E (eg_gi M 139) n (dd - 1))) hr hn eN hs0 (px_pG hn hTT (dd - 1)) q0 qk (fun N hf hx X1 X2 o3 => ?_) (fun c N2 hf hs2 hb2 hz X => ?_) (fun N h => hq N h) 400 N _ h.1 h.2 (px_pG hn hTT (dd - 1)).1 (fun _ _ _ => rfl) (fun t S _ => by omega) _
    · obtain ⟨d1, s1, hs1⟩ := hx
      refine st_X12_readProduct_6 (nI r) (nI (6 - dd)) o3 (fun z => ⟨ms_st hs1 (z.elim (fun y => sb_0 y.2) (fun y => sb_0 y)), mr_tb hf hT⟩) (fun z => X1 (fun d e s hs => ?_)) (fun z N2 h2 => X2 (-nI 9) (nI 4) (by decide) (fun d e s hs => ?_) N2 h2) (fun z N2 h2 => X2 (-nI 8) (nI 3) (by decide) (fun d e s hs => ?_) N2 h2)
      · unfold px_q2
        rw [if_neg ((sb_f hs isa).1 z.1), if_neg ((sb_f hs isb).1 z.2)]
      · unfold px_q2
        rw [if_neg ((sb_f hs isa).1 z.1), if_pos ((sb_f hs isb).2 z.2)]
      · unfold px_q2
        rw [if_pos ((sb_f hs isa).2 z)]
    · refine st_X12_readProduct_43 (nI r) (nI (6 - dd)) c (prc N2 hf hs2 hz) (fun N3 h3 => ?_)
      rw [hrc, mr_139 hf, mr_25 hf, eN, hnc] at h3
      obtain ⟨x1, x2⟩ := X N3 h3
      exact st_X12_readProduct_49 (nI r) (nI (6 - dd)) c x1 (x2 _)
  · exact h.elim
theorem de_X12_readProduct (dd : Nat) : ∀ q ∈ (k_X12_readProduct dd).1, decode cX12_readProduct q.1 = .ok q.2 := by show ∀ q ∈ (k_X12_readProduct 0).1, decode cX12_readProduct q.1 = .ok q.2; decide +kernel
theorem me_X12_readProduct_r (g : gl_T) (dd : Nat) (ih_X12_readExpression : MT g yX12_readExpression cX12_readExpression 4 none ⟨6 + 6 * dd, 0, 0, 129 + 138 * dd⟩ 0 0 (s_X12_readExpression_r dd)) : MT g yX12_readProduct cX12_readProduct 4 none ⟨8 + 6 * dd, 0, 0, 175 + 138 * dd⟩ 0 0 (s_X12_readProduct_r dd) := by
  intro hl
  exact eg_met_of (k := k_X12_readProduct dd) (by decide) rfl ⟨Nat.le_refl _, Nat.le_refl _⟩ rfl (sz_X12_readProduct_r dd) (de_X12_readProduct dd) (fun meth hn => (fn)) (fun A s H hE => (fn)) (fun p e s m args below meth c Q A ad0 N0 S0 hK hEx hA => (fc (mt_V hl S0 hK hEx hA (me_X12_isSign_v g) lm_RX12_308 li_X12_isSign lx_X12_isSign ln_RX12 lc_X12_isSign ⟨rfl, by decide, by decide, by decide +kernel⟩ ⟨rfl, rfl⟩ ⟨by dsimp only; omega, by dsimp only; omega⟩ (ci := 12) rfl rfl sr_X12_isSign_v (by decide)) (fc (mt_V hl S0 hK hEx hA (me_X12_step g) lm_RX12_315 li_X12_step lx_X12_step ln_RX12 lc_X12_step ⟨rfl, by decide, by decide, by decide +kernel⟩ ⟨rfl, rfl⟩ ⟨by dsimp only; omega, by dsimp only; omega⟩ (ci := 12) rfl rfl sr_X12_step (by decide)) (fc (mt_V hl S0 hK hEx hA (me_X12_emit_v g) lm_RX12_328 li_X12_emit lx_X12_emit ln_RX12 lc_X12_emit ⟨rfl, by decide, by decide, by decide +kernel⟩ ⟨rfl, rfl⟩ ⟨by dsimp only; omega, by dsimp only; omega⟩ (ci := 12) rfl rfl sr_X12_emit_v (by decide)) (fc (mt_V hl S0 hK hEx hA (me_X12_readPart_r g dd ih_X12_readExpression) lm_RX12_341 li_X12_readPart lx_X12_readPart ln_RX12 lc_X12_readPart ⟨rfl, by decide, by decide, by decide +kernel⟩ ⟨rfl, rfl⟩ ⟨(show 7 + 6 * dd + 1 ≤ 8 + 6 * dd by omega), (show 8 + (4 + 11) + (152 + 138 * dd) ≤ 175 + 138 * dd by omega)⟩ (ci := 12) rfl rfl (sr_X12_readPart_r dd) (by decide)) (fn)))))) (fun p e s m args below meth c Qc XC A ad0 N0 P S0 hK hEx hA hlk hout hPX => (fn)) (fun argv M Qp h => T_X12_readProduct_r dd h)

def s_X12_readSum_r (dd : Nat) : eg_S := fun argv M Qp => match argv with
  | [.ref 121, .int rr, .int ar] => ((0 < dd ∨ ¬ eg_gi M 121 31 = 0) ∧ dd ≤ 6 ∧ vp_in rr 8 ∧ (∃ d s, m_rs rr.toNatClampNeg d 0 M s) ∧ m_tb M ∧ ar = nI (6 - dd)) ∧ ∀ (M2 : eg_M), (m_rR rr.toNatClampNeg M M2 (px_sum (eg_gi M 139) (eg_gi M 121 25).toNatClampNeg (px_E (eg_gi M 139) (eg_gi M 121 25).toNatClampNeg (dd - 1)))) → Qp (.inl none) M2
  | _ => False
theorem mo_X12_readSum_r (dd : Nat) : eg_mono (s_X12_readSum_r dd) := by
  intro argv M Q Q' h
  unfold s_X12_readSum_r
  split
  · exact fun z => ⟨z.1, fun M2 y => h _ _ (z.2 M2 y)⟩
  · exact id
theorem sz_X12_readSum_r (dd : Nat) : ∀ argv M Qp, s_X12_readSum_r dd argv M Qp → (eg_ls0 argv).length ≤ 4 := by
  intro argv M Qp h
  unfold s_X12_readSum_r at h
  split at h
  · exact Nat.le_of_ble_eq_true rfl
  · exact h.elim
theorem sr_X12_readSum_r (dd : Nat) : ∀ argv M Qp, s_X12_readSum_r dd argv M Qp → ∃ p0 As, argv = .ref p0 :: As ∧ eg_isO wd M p0 12 = true := by
  intro argv M Qp h
  unfold s_X12_readSum_r at h
  split at h
  · exact ⟨_, _, rfl, rfl⟩
  · exact h.elim

def k_X12_readSum (dd : Nat) : eg_C := ([(0, .aload_n 0, 1), (1, .iload_n 1, 1), (2, .iload_n 2, 1), (3, .invokevirtual 344, 3), (6, .aload_n 0, 1), (7, .bipush 43, 2), (9, .invokevirtual 308, 3), (12, .ifCond .ne 12, 3), (15, .aload_n 0, 1), (16, .bipush 45, 2), (18, .invokevirtual 308, 3), (21, .ifCond .eq 37, 3), (24, .aload_n 0, 1), (25, .bipush 43, 2), (27, .invokevirtual 308, 3), (30, .ifCond .eq 7, 3), (33, .iconst 1, 1), (34, .goto 4, 3), (37, .iconst 2, 1), (38, .istore_n 3, 1), (39, .aload_n 0, 1), (40, .invokevirtual 315, 3), (43, .aload_n 0, 1), (44, .iload_n 1, 1), (45, .iload_n 2, 1), (46, .invokevirtual 344, 3), (49, .aload_n 0, 1), (50, .iload_n 1, 1), (51, .iload_n 3, 1), (52, .invokevirtual 328, 3), (55, .goto (-49), 3), (58, .return_, 1)], [], [], [(308, 1 + 1, 0, 0, s_X12_isSign_v), (315, 0 + 1, 0, 0, s_X12_step), (328, 2 + 1, 0, 0, s_X12_emit_v), (344, 2 + 1, 0, 0, s_X12_readProduct_r dd)], [], 0, 0, 0)
theorem mk_X12_readSum (dd : Nat) : ∀ q ∈ (k_X12_readSum dd).2.2.2.1, eg_mono q.2.2.2.2 := (fc (mo_X12_isSign_v) (fc (mo_X12_step) (fc (mo_X12_emit_v) (fc (mo_X12_readProduct_r dd) (fn)))))

set_option maxRecDepth 100000 in
theorem st_X12_readSum_0 {dd : Nat} {Qp : eg_P} {M : eg_M} (rr : Int32) (ar : Int32)
  (g0 : ((0 < dd ∨ ¬ eg_gi M 121 31 = 0) ∧ dd ≤ 6 ∧ vp_in rr 8 ∧ (∃ d s, m_rs rr.toNatClampNeg d 0 M s) ∧ m_tb M ∧ ar = nI (6 - dd)))
  (l0 : ∀ (M2_1 : eg_M), (m_rR rr.toNatClampNeg M M2_1 (px_prod (eg_gi M 139) (eg_gi M 121 25).toNatClampNeg (px_E (eg_gi M 139) (eg_gi M 121 25).toNatClampNeg (dd - 1)))) → eg_T wd (k_X12_readSum dd) Qp 6 0 0 [some (.ref 121), some (.int rr), some (.int ar), none] [] M2_1) :
  eg_T wd (k_X12_readSum dd) Qp 0 0 0 [some (.ref 121), some (.int rr), some (.int ar), none] [] M := by
  refine eg_T_run (mk_X12_readSum dd) (cut := [6, 43, 49]) 35 ?_
  refine And.intro (show ((0 < dd ∨ ¬ eg_gi M 121 31 = 0) ∧ dd ≤ 6 ∧ vp_in rr 8 ∧ (∃ d s, m_rs rr.toNatClampNeg d 0 M s) ∧ m_tb M ∧ ar = nI (6 - dd)) from ?_) ?_
  · exact g0
  intro M2_1 ha_1
  show eg_T wd (k_X12_readSum dd) Qp 6 0 0 [some (.ref 121), some (.int rr), some (.int ar), none] [] M2_1
  exact l0 M2_1 ha_1

set_option maxRecDepth 100000 in
theorem st_X12_readSum_6 {dd : Nat} {Qp : eg_P} {M : eg_M} (rr : Int32) (ar : Int32) (o3 : Option Value)
  (g0 : ((((m_sb M (nI 43)) = false) ∧ ¬ ((m_sb M (nI 45)) = false)) ∨ ¬ ((m_sb M (nI 43)) = false)) → ((∃ p n, p ≤ n ∧ n ≤ 400 ∧ eg_gi M 121 24 = nI p ∧ eg_gi M 121 25 = nI n) ∧ m_tb M))
  (l0 : ((m_sb M (nI 43)) = false ∧ (m_sb M (nI 45)) = false) → Qp (.inl none) M)
  (l1 : ((m_sb M (nI 43)) = false ∧ ¬ (m_sb M (nI 45)) = false) → ∀ (M2_1 : eg_M), (m_fs M M2_1 ∧ m_at (eg_gi M 139) M2_1 (lx (eg_gi M 139) (eg_gi M 121 25).toNatClampNeg (eg_gi M 121 24).toNatClampNeg)) → eg_T wd (k_X12_readSum dd) Qp 43 0 0 [some (.ref 121), some (.int rr), some (.int ar), some (.int (nI 2))] [] M2_1)
  (l2 : (¬ (m_sb M (nI 43)) = false) → ∀ (M2_2 : eg_M), (m_fs M M2_2 ∧ m_at (eg_gi M 139) M2_2 (lx (eg_gi M 139) (eg_gi M 121 25).toNatClampNeg (eg_gi M 121 24).toNatClampNeg)) → eg_T wd (k_X12_readSum dd) Qp 43 0 0 [some (.ref 121), some (.int rr), some (.int ar), some (.int (nI 1))] [] M2_2) :
  eg_T wd (k_X12_readSum dd) Qp 6 0 0 [some (.ref 121), some (.int rr), some (.int ar), o3] [] M := by
  refine eg_T_run (mk_X12_readSum dd) (cut := [6, 43, 49]) 35 ?_
  refine And.intro (show (True) from ?_) ?_
  · exact trivial
  refine And.intro (fun (c1 : (b2i (m_sb M (nI 43))) = 0) => ?_) (fun (c1 : ¬ (b2i (m_sb M (nI 43))) = 0) => ?_)
  · replace c1 := b2i_0.mp c1
    refine And.intro (show (True) from ?_) ?_
    · exact trivial
    refine And.intro (fun (c2 : (b2i (m_sb M (nI 45))) = 0) => ?_) (fun (c2 : ¬ (b2i (m_sb M (nI 45))) = 0) => ?_)
    · replace c2 := b2i_0.mp c2
      show Qp (.inl none) M
      exact l0 ⟨c1, c2⟩
    · replace c2 := b2i_ff c2
      refine And.intro (show (True) from ?_) ?_
      · exact trivial
      refine And.intro (fun (c3 : (b2i (m_sb M (nI 43))) = 0) => ?_) (fun (c3 : ¬ (b2i (m_sb M (nI 43))) = 0) => ?_)
      · clear c3
        refine And.intro (show ((∃ p n, p ≤ n ∧ n ≤ 400 ∧ eg_gi M 121 24 = nI p ∧ eg_gi M 121 25 = nI n) ∧ m_tb M) from ?_) ?_
        · exact g0 (by clear g0 l0 l1 l2; grind)
        intro M2_1 ha_1
        show eg_T wd (k_X12_readSum dd) Qp 43 0 0 [some (.ref 121), some (.int rr), some (.int ar), some (.int (nI 2))] [] M2_1
        exact l1 ⟨c1, c2⟩ M2_1 ha_1
      · exact absurd c1 (b2i_ff c3)
  · replace c1 := b2i_ff c1
    refine And.intro (show (True) from ?_) ?_
    · exact trivial
    refine And.intro (fun (c4 : (b2i (m_sb M (nI 43))) = 0) => ?_) (fun (c4 : ¬ (b2i (m_sb M (nI 43))) = 0) => ?_)
    · exact absurd (b2i_0.mp c4) c1
    · clear c4
      refine And.intro (show ((∃ p n, p ≤ n ∧ n ≤ 400 ∧ eg_gi M 121 24 = nI p ∧ eg_gi M 121 25 = nI n) ∧ m_tb M) from ?_) ?_
      · exact g0 (by clear g0 l0 l1 l2; grind)
      intro M2_2 ha_2
      show eg_T wd (k_X12_readSum dd) Qp 43 0 0 [some (.ref 121), some (.int rr), some (.int ar), some (.int (nI 1))] [] M2_2
      exact l2 c1 M2_2 ha_2

set_option maxRecDepth 100000 in
theorem st_X12_readSum_43 {dd : Nat} {Qp : eg_P} {M : eg_M} (rr : Int32) (ar : Int32) (x3 : Int32)
  (g0 : ((0 < dd ∨ ¬ eg_gi M 121 31 = 0) ∧ dd ≤ 6 ∧ vp_in rr 8 ∧ (∃ d s, m_rs rr.toNatClampNeg d 0 M s) ∧ m_tb M ∧ ar = nI (6 - dd)))
  (l0 : ∀ (M2_1 : eg_M), (m_rR rr.toNatClampNeg M M2_1 (px_prod (eg_gi M 139) (eg_gi M 121 25).toNatClampNeg (px_E (eg_gi M 139) (eg_gi M 121 25).toNatClampNeg (dd - 1)))) → eg_T wd (k_X12_readSum dd) Qp 49 0 0 [some (.ref 121), some (.int rr), some (.int ar), some (.int x3)] [] M2_1) :
  eg_T wd (k_X12_readSum dd) Qp 43 0 0 [some (.ref 121), some (.int rr), some (.int ar), some (.int x3)] [] M := by
  refine eg_T_run (mk_X12_readSum dd) (cut := [6, 43, 49]) 35 ?_
  refine And.intro (show ((0 < dd ∨ ¬ eg_gi M 121 31 = 0) ∧ dd ≤ 6 ∧ vp_in rr 8 ∧ (∃ d s, m_rs rr.toNatClampNeg d 0 M s) ∧ m_tb M ∧ ar = nI (6 - dd)) from ?_) ?_
  · exact g0
  intro M2_1 ha_1
  show eg_T wd (k_X12_readSum dd) Qp 49 0 0 [some (.ref 121), some (.int rr), some (.int ar), some (.int x3)] [] M2_1
  exact l0 M2_1 ha_1

set_option maxRecDepth 100000 in
theorem st_X12_readSum_49 {dd : Nat} {Qp : eg_P} {M : eg_M} (rr : Int32) (ar : Int32) (x3 : Int32)
  (g0 : (eg_gi M 121 31 = 0 → vp_in (nI 640 * rr + eg_gi M 121 34) 5120))
  (l0 : eg_T wd (k_X12_readSum dd) Qp 6 0 0 [some (.ref 121), some (.int rr), some (.int ar), some (.int x3)] [] (m_em M rr x3)) :
  eg_T wd (k_X12_readSum dd) Qp 49 0 0 [some (.ref 121), some (.int rr), some (.int ar), some (.int x3)] [] M := by
  refine eg_T_run (mk_X12_readSum dd) (cut := [6, 43, 49]) 35 ?_
  refine And.intro (show (eg_gi M 121 31 = 0 → vp_in (nI 640 * rr + eg_gi M 121 34) 5120) from ?_) ?_
  · exact g0
  show eg_T wd (k_X12_readSum dd) Qp 6 0 0 [some (.ref 121), some (.int rr), some (.int ar), some (.int x3)] [] (m_em M rr x3)
  exact l0

set_option maxRecDepth 100000 in
set_option maxHeartbeats 1000000 in
theorem T_X12_readSum_r (dd : Nat) {argv : List Value} {M : eg_M} {Qp : eg_P} (h : s_X12_readSum_r dd argv M Qp) : eg_T wd (k_X12_readSum dd) Qp 0 0 0 (eg_lsN 4 argv) [] M := by
  unfold s_X12_readSum_r at h
  split at h
  · rename_i rr ar
    obtain ⟨hp, hq⟩ := h
    obtain ⟨hd0, hd6, hrv, ⟨d0, s0, hs0⟩, hT, rfl⟩ := hp
    obtain ⟨r, hr, rfl⟩ := vp_in_of hrv (by decide)
    have hrc : (nI r).toNatClampNeg = r := n_c (by omega)
    rw [hrc] at hs0 hq
    obtain ⟨n, hn, eN, _⟩ := id hs0
    have hnc : (nI n).toNatClampNeg = n := n_c (by omega)
    rw [eN, hnc] at hq
    have hTT := mb_T hT hn
    have prc : ∀ N, m_fr r M N → (∃ d s, m_rs r d 0 N s) → eg_gi M 121 31 = 0 → ((0 < dd ∨ ¬ eg_gi N 121 31 = 0) ∧ dd ≤ 6 ∧ vp_in (nI r) 8 ∧ (∃ d s, m_rs (nI r).toNatClampNeg d 0 N s) ∧ m_tb N ∧ nI (6 - dd) = nI (6 - dd)) := fun N hf hs hz => ⟨Or.inl (hd0.elim id (fun y => absurd hz y)), hd6, hrv, by rw [hrc]; exact hs, mr_tb hf hT, rfl⟩
    obtain ⟨q0, qk⟩ := q2_k (a := 43) (b := 45) (x := (-nI 6)) (y := (-nI 7)) (by unfold m_is; decide) (by unfold m_is; decide) (by decide) (by decide)
    have isa : m_is (nI 43) := by unfold m_is; decide
    have isb : m_is (nI 45) := by unfold m_is; decide
    refine st_X12_readSum_0 (nI r) (nI (6 - dd)) ⟨hd0, hd6, hrv, ⟨d0, s0, by rw [hrc]; exact hs0⟩, hT, rfl⟩ (fun N h => ?_)
    rw [hrc, eN, hnc] at h
    refine m_wll (L := fun N => ∀ o3 : Option Value, eg_T wd (k_X12_readSum dd) Qp 6 0 0 [some (.ref 121), some (.int (nI r)), some (.int (nI (6 - dd))), o3] [] N) (Ex := fun N => Qp (.inl none) N) (S2 := fun c N => eg_T wd (k_X12_readSum dd) Qp 43 0 0 [some (.ref 121), some (.int (nI r)), some (.int (nI (6 - dd))), some (.int c)] [] N) (P := px_sum (eg_gi M 139) n (px_E (eg_gi M 139) n (dd - 1))) hr hn eN hs0 (px_rG hn hTT (dd - 1)) q0 qk (fun N hf hx X1 X2 o3 => ?_) (fun c N2 hf hs2 hb2 hz X => ?_) (fun N h => hq N h) 400 N _ h.1 h.2 (px_rG hn hTT (dd - 1)).1 (fun _ _ _ => rfl) (fun t S _ => by omega) _
    · obtain ⟨d1, s1, hs1⟩ := hx
      refine st_X12_readSum_6 (nI r) (nI (6 - dd)) o3 (fun z => ⟨ms_st hs1 (z.elim (fun y => sb_0 y.2) (fun y => sb_0 y)), mr_tb hf hT⟩) (fun z => X1 (fun d e s hs => ?_)) (fun z N2 h2 => X2 (-nI 7) (nI 2) (by decide) (fun d e s hs => ?_) N2 h2) (fun z N2 h2 => X2 (-nI 6) (nI 1) (by decide) (fun d e s hs => ?_) N2 h2)
      · unfold px_q2
        rw [if_neg ((sb_f hs isa).1 z.1), if_neg ((sb_f hs isb).1 z.2)]
      · unfold px_q2
        rw [if_neg ((sb_f hs isa).1 z.1), if_pos ((sb_f hs isb).2 z.2)]
      · unfold px_q2
        rw [if_pos ((sb_f hs isa).2 z)]
    · refine st_X12_readSum_43 (nI r) (nI (6 - dd)) c (prc N2 hf hs2 hz) (fun N3 h3 => ?_)
      rw [hrc, mr_139 hf, mr_25 hf, eN, hnc] at h3
      obtain ⟨x1, x2⟩ := X N3 h3
      exact st_X12_readSum_49 (nI r) (nI (6 - dd)) c x1 (x2 _)
  · exact h.elim
theorem de_X12_readSum (dd : Nat) : ∀ q ∈ (k_X12_readSum dd).1, decode cX12_readSum q.1 = .ok q.2 := by show ∀ q ∈ (k_X12_readSum 0).1, decode cX12_readSum q.1 = .ok q.2; decide +kernel
theorem me_X12_readSum_r (g : gl_T) (dd : Nat) (ih_X12_readExpression : MT g yX12_readExpression cX12_readExpression 4 none ⟨6 + 6 * dd, 0, 0, 129 + 138 * dd⟩ 0 0 (s_X12_readExpression_r dd)) : MT g yX12_readSum cX12_readSum 4 none ⟨9 + 6 * dd, 0, 0, 198 + 138 * dd⟩ 0 0 (s_X12_readSum_r dd) := by
  intro hl
  exact eg_met_of (k := k_X12_readSum dd) (by decide) rfl ⟨Nat.le_refl _, Nat.le_refl _⟩ rfl (sz_X12_readSum_r dd) (de_X12_readSum dd) (fun meth hn => (fn)) (fun A s H hE => (fn)) (fun p e s m args below meth c Q A ad0 N0 S0 hK hEx hA => (fc (mt_V hl S0 hK hEx hA (me_X12_isSign_v g) lm_RX12_308 li_X12_isSign lx_X12_isSign ln_RX12 lc_X12_isSign ⟨rfl, by decide, by decide, by decide +kernel⟩ ⟨rfl, rfl⟩ ⟨by dsimp only; omega, by dsimp only; omega⟩ (ci := 12) rfl rfl sr_X12_isSign_v (by decide)) (fc (mt_V hl S0 hK hEx hA (me_X12_step g) lm_RX12_315 li_X12_step lx_X12_step ln_RX12 lc_X12_step ⟨rfl, by decide, by decide, by decide +kernel⟩ ⟨rfl, rfl⟩ ⟨by dsimp only; omega, by dsimp only; omega⟩ (ci := 12) rfl rfl sr_X12_step (by decide)) (fc (mt_V hl S0 hK hEx hA (me_X12_emit_v g) lm_RX12_328 li_X12_emit lx_X12_emit ln_RX12 lc_X12_emit ⟨rfl, by decide, by decide, by decide +kernel⟩ ⟨rfl, rfl⟩ ⟨by dsimp only; omega, by dsimp only; omega⟩ (ci := 12) rfl rfl sr_X12_emit_v (by decide)) (fc (mt_V hl S0 hK hEx hA (me_X12_readProduct_r g dd ih_X12_readExpression) lm_RX12_344 li_X12_readProduct lx_X12_readProduct ln_RX12 lc_X12_readProduct ⟨rfl, by decide, by decide, by decide +kernel⟩ ⟨rfl, rfl⟩ ⟨(show 8 + 6 * dd + 1 ≤ 9 + 6 * dd by omega), (show 8 + (4 + 11) + (175 + 138 * dd) ≤ 198 + 138 * dd by omega)⟩ (ci := 12) rfl rfl (sr_X12_readProduct_r dd) (by decide)) (fn)))))) (fun p e s m args below meth c Qc XC A ad0 N0 P S0 hK hEx hA hlk hout hPX => (fn)) (fun argv M Qp h => T_X12_readSum_r dd h)

def s_X12_readNot_r (dd : Nat) : eg_S := fun argv M Qp => match argv with
  | [.ref 121, .int rr, .int ar] => ((0 < dd ∨ ¬ eg_gi M 121 31 = 0) ∧ dd ≤ 6 ∧ vp_in rr 8 ∧ (∃ d s, m_rs rr.toNatClampNeg d 0 M s) ∧ m_tb M ∧ ar = nI (6 - dd)) ∧ ∀ (M2 : eg_M), (m_rR rr.toNatClampNeg M M2 (px_not (eg_gi M 139) (eg_gi M 121 25).toNatClampNeg (px_E (eg_gi M 139) (eg_gi M 121 25).toNatClampNeg (dd - 1)))) → Qp (.inl none) M2
  | _ => False
theorem mo_X12_readNot_r (dd : Nat) : eg_mono (s_X12_readNot_r dd) := by
  intro argv M Q Q' h
  unfold s_X12_readNot_r
  split
  · exact fun z => ⟨z.1, fun M2 y => h _ _ (z.2 M2 y)⟩
  · exact id
theorem sz_X12_readNot_r (dd : Nat) : ∀ argv M Qp, s_X12_readNot_r dd argv M Qp → (eg_ls0 argv).length ≤ 5 := by
  intro argv M Qp h
  unfold s_X12_readNot_r at h
  split at h
  · exact Nat.le_of_ble_eq_true rfl
  · exact h.elim
theorem sr_X12_readNot_r (dd : Nat) : ∀ argv M Qp, s_X12_readNot_r dd argv M Qp → ∃ p0 As, argv = .ref p0 :: As ∧ eg_isO wd M p0 12 = true := by
  intro argv M Qp h
  unfold s_X12_readNot_r at h
  split at h
  · exact ⟨_, _, rfl, rfl⟩
  · exact h.elim

def k_X12_readNot (dd : Nat) : eg_C := ([(0, .iconst 0, 1), (1, .istore_n 3, 1), (2, .aload_n 0, 1), (3, .ldc_w 347, 3), (6, .invokevirtual 321, 3), (9, .ifCond .eq 25, 3), (12, .iload_n 3, 1), (13, .bipush 6, 2), (15, .if_icmp .ne 9, 3), (18, .aload_n 0, 1), (19, .iconst 2, 1), (20, .invokevirtual 311, 3), (23, .return_, 1), (24, .iinc 3 1, 3), (27, .aload_n 0, 1), (28, .invokevirtual 315, 3), (31, .goto (-29), 3), (34, .aload_n 0, 1), (35, .iload_n 1, 1), (36, .iload_n 2, 1), (37, .invokevirtual 349, 3), (40, .aload_n 0, 1), (41, .bipush 60, 2), (43, .invokevirtual 308, 3), (46, .ifCond .ne 12, 3), (49, .aload_n 0, 1), (50, .bipush 61, 2), (52, .invokevirtual 308, 3), (55, .ifCond .eq 37, 3), (58, .aload_n 0, 1), (59, .bipush 60, 2), (61, .invokevirtual 308, 3), (64, .ifCond .eq 7, 3), (67, .iconst 5, 1), (68, .goto 5, 3), (71, .bipush 6, 2), (73, .istore 4, 2), (75, .aload_n 0, 1), (76, .invokevirtual 315, 3), (79, .aload_n 0, 1), (80, .iload_n 1, 1), (81, .iload_n 2, 1), (82, .invokevirtual 349, 3), (85, .aload_n 0, 1), (86, .iload_n 1, 1), (87, .iload 4, 2), (89, .invokevirtual 328, 3), (92, .iconst 0, 1), (93, .istore 4, 2), (95, .iload 4, 2), (97, .iload_n 3, 1), (98, .if_icmp .ge 16, 3), (101, .aload_n 0, 1), (102, .iload_n 1, 1), (103, .bipush 9, 2), (105, .invokevirtual 328, 3), (108, .iinc 4 1, 3), (111, .goto (-16), 3), (114, .return_, 1)], [], [(347, .retAddr 15)], [(308, 1 + 1, 0, 0, s_X12_isSign_v), (311, 1 + 1, 0, 0, s_X12_wrong_v), (315, 0 + 1, 0, 0, s_X12_step), (321, 1 + 1, 0, 0, s_X12_is), (328, 2 + 1, 0, 0, s_X12_emit_v), (349, 2 + 1, 0, 0, s_X12_readSum_r dd)], [], 0, 0, 0)
theorem mk_X12_readNot (dd : Nat) : ∀ q ∈ (k_X12_readNot dd).2.2.2.1, eg_mono q.2.2.2.2 := (fc (mo_X12_isSign_v) (fc (mo_X12_wrong_v) (fc (mo_X12_step) (fc (mo_X12_is) (fc (mo_X12_emit_v) (fc (mo_X12_readSum_r dd) (fn)))))))

set_option maxRecDepth 100000 in
theorem st_X12_readNot_0 {dd : Nat} {Qp : eg_P} {M : eg_M} (rr : Int32) (ar : Int32)
  (l0 : eg_T wd (k_X12_readNot dd) Qp 2 0 0 [some (.ref 121), some (.int rr), some (.int ar), some (.int (nI 0)), none] [] M) :
  eg_T wd (k_X12_readNot dd) Qp 0 0 0 [some (.ref 121), some (.int rr), some (.int ar), none, none] [] M := by
  refine eg_T_run (mk_X12_readNot dd) (cut := [2, 31, 40, 79, 85, 95]) 62 ?_
  show eg_T wd (k_X12_readNot dd) Qp 2 0 0 [some (.ref 121), some (.int rr), some (.int ar), some (.int (nI 0)), none] [] M
  exact l0

set_option maxRecDepth 100000 in
theorem st_X12_readNot_2 {dd : Nat} {Qp : eg_P} {M : eg_M} (rr : Int32) (ar : Int32) (x3 : Int32) (o4 : Option Value)
  (g0 : (15 < 32 ∧ (eg_gi M 121 31 = 0 → eg_gi M 121 26 = nI 1 → ∃ b e, b ≤ e ∧ e ≤ 400 ∧ eg_gi M 121 29 = nI b ∧ eg_gi M 121 30 = nI e)))
  (g1 : ((m_iw M 15) = false) → ((0 < dd ∨ ¬ eg_gi M 121 31 = 0) ∧ dd ≤ 6 ∧ vp_in rr 8 ∧ (∃ d s, m_rs rr.toNatClampNeg d 0 M s) ∧ m_tb M ∧ ar = nI (6 - dd)))
  (g2 : (¬ ((m_iw M 15) = false)) → (¬ (x3 = (nI 6))) → ((∃ p n, p ≤ n ∧ n ≤ 400 ∧ eg_gi M 121 24 = nI p ∧ eg_gi M 121 25 = nI n) ∧ m_tb M))
  (l0 : ((m_iw M 15) = false) → ∀ (M2_1 : eg_M), (m_rR rr.toNatClampNeg M M2_1 (px_sum (eg_gi M 139) (eg_gi M 121 25).toNatClampNeg (px_E (eg_gi M 139) (eg_gi M 121 25).toNatClampNeg (dd - 1)))) → eg_T wd (k_X12_readNot dd) Qp 40 0 0 [some (.ref 121), some (.int rr), some (.int ar), some (.int x3), o4] [] M2_1)
  (l1 : (¬ (m_iw M 15) = false ∧ x3 = (nI 6)) → Qp (.inl none) (m_wr M (nI 2)))
  (l2 : (¬ (m_iw M 15) = false ∧ ¬ x3 = (nI 6)) → ∀ (M2_2 : eg_M), (m_fs M M2_2 ∧ m_at (eg_gi M 139) M2_2 (lx (eg_gi M 139) (eg_gi M 121 25).toNatClampNeg (eg_gi M 121 24).toNatClampNeg)) → eg_T wd (k_X12_readNot dd) Qp 31 0 0 [some (.ref 121), some (.int rr), some (.int ar), some (.int (x3 + (nI 1))), o4] [] M2_2) :
  eg_T wd (k_X12_readNot dd) Qp 2 0 0 [some (.ref 121), some (.int rr), some (.int ar), some (.int x3), o4] [] M := by
  refine eg_T_run (mk_X12_readNot dd) (cut := [2, 31, 40, 79, 85, 95]) 62 ?_
  refine And.intro (show (15 < 32 ∧ (eg_gi M 121 31 = 0 → eg_gi M 121 26 = nI 1 → ∃ b e, b ≤ e ∧ e ≤ 400 ∧ eg_gi M 121 29 = nI b ∧ eg_gi M 121 30 = nI e)) from ?_) ?_
  · exact g0
  refine And.intro (fun (c1 : (b2i (m_iw M 15)) = 0) => ?_) (fun (c1 : ¬ (b2i (m_iw M 15)) = 0) => ?_)
  · replace c1 := b2i_0.mp c1
    refine And.intro (show ((0 < dd ∨ ¬ eg_gi M 121 31 = 0) ∧ dd ≤ 6 ∧ vp_in rr 8 ∧ (∃ d s, m_rs rr.toNatClampNeg d 0 M s) ∧ m_tb M ∧ ar = nI (6 - dd)) from ?_) ?_
    · exact g1 c1
    intro M2_1 ha_1
    show eg_T wd (k_X12_readNot dd) Qp 40 0 0 [some (.ref 121), some (.int rr), some (.int ar), some (.int x3), o4] [] M2_1
    exact l0 c1 M2_1 ha_1
  · replace c1 := b2i_ff c1
    refine And.intro (fun (c2 : x3 = (nI 6)) => ?_) (fun (c2 : ¬ x3 = (nI 6)) => ?_)
    · skip
      refine And.intro (show (True) from ?_) ?_
      · exact trivial
      show Qp (.inl none) (m_wr M (nI 2))
      exact l1 ⟨c1, c2⟩
    · skip
      refine And.intro (show ((∃ p n, p ≤ n ∧ n ≤ 400 ∧ eg_gi M 121 24 = nI p ∧ eg_gi M 121 25 = nI n) ∧ m_tb M) from ?_) ?_
      · exact g2 c1 c2
      intro M2_2 ha_2
      show eg_T wd (k_X12_readNot dd) Qp 31 0 0 [some (.ref 121), some (.int rr), some (.int ar), some (.int (x3 + (nI 1))), o4] [] M2_2
      exact l2 ⟨c1, c2⟩ M2_2 ha_2

set_option maxRecDepth 100000 in
theorem st_X12_readNot_31 {dd : Nat} {Qp : eg_P} {M : eg_M} (rr : Int32) (ar : Int32) (x3 : Int32) (o4 : Option Value)
  (l0 : eg_T wd (k_X12_readNot dd) Qp 2 0 0 [some (.ref 121), some (.int rr), some (.int ar), some (.int x3), o4] [] M) :
  eg_T wd (k_X12_readNot dd) Qp 31 0 0 [some (.ref 121), some (.int rr), some (.int ar), some (.int x3), o4] [] M := by
  refine eg_T_run (mk_X12_readNot dd) (cut := [2, 31, 40, 79, 85, 95]) 62 ?_
  show eg_T wd (k_X12_readNot dd) Qp 2 0 0 [some (.ref 121), some (.int rr), some (.int ar), some (.int x3), o4] [] M
  exact l0

set_option maxRecDepth 100000 in
theorem st_X12_readNot_40 {dd : Nat} {Qp : eg_P} {M : eg_M} (rr : Int32) (ar : Int32) (x3 : Int32) (o4 : Option Value)
  (g0 : ((((m_sb M (nI 60)) = false) ∧ ¬ ((m_sb M (nI 61)) = false)) ∨ ¬ ((m_sb M (nI 60)) = false)) → ((∃ p n, p ≤ n ∧ n ≤ 400 ∧ eg_gi M 121 24 = nI p ∧ eg_gi M 121 25 = nI n) ∧ m_tb M))
  (l0 : ((m_sb M (nI 60)) = false ∧ (m_sb M (nI 61)) = false) → eg_T wd (k_X12_readNot dd) Qp 95 0 0 [some (.ref 121), some (.int rr), some (.int ar), some (.int x3), some (.int (nI 0))] [] M)
  (l1 : ((m_sb M (nI 60)) = false ∧ ¬ (m_sb M (nI 61)) = false) → ∀ (M2_1 : eg_M), (m_fs M M2_1 ∧ m_at (eg_gi M 139) M2_1 (lx (eg_gi M 139) (eg_gi M 121 25).toNatClampNeg (eg_gi M 121 24).toNatClampNeg)) → eg_T wd (k_X12_readNot dd) Qp 79 0 0 [some (.ref 121), some (.int rr), some (.int ar), some (.int x3), some (.int (nI 6))] [] M2_1)
  (l2 : (¬ (m_sb M (nI 60)) = false) → ∀ (M2_2 : eg_M), (m_fs M M2_2 ∧ m_at (eg_gi M 139) M2_2 (lx (eg_gi M 139) (eg_gi M 121 25).toNatClampNeg (eg_gi M 121 24).toNatClampNeg)) → eg_T wd (k_X12_readNot dd) Qp 79 0 0 [some (.ref 121), some (.int rr), some (.int ar), some (.int x3), some (.int (nI 5))] [] M2_2) :
  eg_T wd (k_X12_readNot dd) Qp 40 0 0 [some (.ref 121), some (.int rr), some (.int ar), some (.int x3), o4] [] M := by
  refine eg_T_run (mk_X12_readNot dd) (cut := [2, 31, 40, 79, 85, 95]) 62 ?_
  refine And.intro (show (True) from ?_) ?_
  · exact trivial
  refine And.intro (fun (c1 : (b2i (m_sb M (nI 60))) = 0) => ?_) (fun (c1 : ¬ (b2i (m_sb M (nI 60))) = 0) => ?_)
  · replace c1 := b2i_0.mp c1
    refine And.intro (show (True) from ?_) ?_
    · exact trivial
    refine And.intro (fun (c2 : (b2i (m_sb M (nI 61))) = 0) => ?_) (fun (c2 : ¬ (b2i (m_sb M (nI 61))) = 0) => ?_)
    · replace c2 := b2i_0.mp c2
      show eg_T wd (k_X12_readNot dd) Qp 95 0 0 [some (.ref 121), some (.int rr), some (.int ar), some (.int x3), some (.int (nI 0))] [] M
      exact l0 ⟨c1, c2⟩
    · replace c2 := b2i_ff c2
      refine And.intro (show (True) from ?_) ?_
      · exact trivial
      refine And.intro (fun (c3 : (b2i (m_sb M (nI 60))) = 0) => ?_) (fun (c3 : ¬ (b2i (m_sb M (nI 60))) = 0) => ?_)
      · clear c3
        refine And.intro (show ((∃ p n, p ≤ n ∧ n ≤ 400 ∧ eg_gi M 121 24 = nI p ∧ eg_gi M 121 25 = nI n) ∧ m_tb M) from ?_) ?_
        · exact g0 (by clear g0 l0 l1 l2; grind)
        intro M2_1 ha_1
        show eg_T wd (k_X12_readNot dd) Qp 79 0 0 [some (.ref 121), some (.int rr), some (.int ar), some (.int x3), some (.int (nI 6))] [] M2_1
        exact l1 ⟨c1, c2⟩ M2_1 ha_1
      · exact absurd c1 (b2i_ff c3)
  · replace c1 := b2i_ff c1
    refine And.intro (show (True) from ?_) ?_
    · exact trivial
    refine And.intro (fun (c4 : (b2i (m_sb M (nI 60))) = 0) => ?_) (fun (c4 : ¬ (b2i (m_sb M (nI 60))) = 0) => ?_)
    · exact absurd (b2i_0.mp c4) c1
    · clear c4
      refine And.intro (show ((∃ p n, p ≤ n ∧ n ≤ 400 ∧ eg_gi M 121 24 = nI p ∧ eg_gi M 121 25 = nI n) ∧ m_tb M) from ?_) ?_
      · exact g0 (by clear g0 l0 l1 l2; grind)
      intro M2_2 ha_2
      show eg_T wd (k_X12_readNot dd) Qp 79 0 0 [some (.ref 121), some (.int rr), some (.int ar), some (.int x3), some (.int (nI 5))] [] M2_2
      exact l2 c1 M2_2 ha_2

set_option maxRecDepth 100000 in
theorem st_X12_readNot_79 {dd : Nat} {Qp : eg_P} {M : eg_M} (rr : Int32) (ar : Int32) (x3 : Int32) (x4 : Int32)
  (g0 : ((0 < dd ∨ ¬ eg_gi M 121 31 = 0) ∧ dd ≤ 6 ∧ vp_in rr 8 ∧ (∃ d s, m_rs rr.toNatClampNeg d 0 M s) ∧ m_tb M ∧ ar = nI (6 - dd)))
  (l0 : ∀ (M2_1 : eg_M), (m_rR rr.toNatClampNeg M M2_1 (px_sum (eg_gi M 139) (eg_gi M 121 25).toNatClampNeg (px_E (eg_gi M 139) (eg_gi M 121 25).toNatClampNeg (dd - 1)))) → eg_T wd (k_X12_readNot dd) Qp 85 0 0 [some (.ref 121), some (.int rr), some (.int ar), some (.int x3), some (.int x4)] [] M2_1) :
  eg_T wd (k_X12_readNot dd) Qp 79 0 0 [some (.ref 121), some (.int rr), some (.int ar), some (.int x3), some (.int x4)] [] M := by
  refine eg_T_run (mk_X12_readNot dd) (cut := [2, 31, 40, 79, 85, 95]) 62 ?_
  refine And.intro (show ((0 < dd ∨ ¬ eg_gi M 121 31 = 0) ∧ dd ≤ 6 ∧ vp_in rr 8 ∧ (∃ d s, m_rs rr.toNatClampNeg d 0 M s) ∧ m_tb M ∧ ar = nI (6 - dd)) from ?_) ?_
  · exact g0
  intro M2_1 ha_1
  show eg_T wd (k_X12_readNot dd) Qp 85 0 0 [some (.ref 121), some (.int rr), some (.int ar), some (.int x3), some (.int x4)] [] M2_1
  exact l0 M2_1 ha_1

set_option maxRecDepth 100000 in
theorem st_X12_readNot_85 {dd : Nat} {Qp : eg_P} {M : eg_M} (rr : Int32) (o2 : Option Value) (x3 : Int32) (x4 : Int32)
  (g0 : (eg_gi M 121 31 = 0 → vp_in (nI 640 * rr + eg_gi M 121 34) 5120))
  (l0 : eg_T wd (k_X12_readNot dd) Qp 95 0 0 [some (.ref 121), some (.int rr), o2, some (.int x3), some (.int (nI 0))] [] (m_em M rr x4)) :
  eg_T wd (k_X12_readNot dd) Qp 85 0 0 [some (.ref 121), some (.int rr), o2, some (.int x3), some (.int x4)] [] M := by
  refine eg_T_run (mk_X12_readNot dd) (cut := [2, 31, 40, 79, 85, 95]) 62 ?_
  refine And.intro (show (eg_gi M 121 31 = 0 → vp_in (nI 640 * rr + eg_gi M 121 34) 5120) from ?_) ?_
  · exact g0
  show eg_T wd (k_X12_readNot dd) Qp 95 0 0 [some (.ref 121), some (.int rr), o2, some (.int x3), some (.int (nI 0))] [] (m_em M rr x4)
  exact l0

set_option maxRecDepth 100000 in
theorem st_X12_readNot_95 {dd : Nat} {Qp : eg_P} {M : eg_M} (rr : Int32) (o2 : Option Value) (x3 : Int32) (x4 : Int32)
  (g0 : (¬ (x3 ≤ x4)) → (eg_gi M 121 31 = 0 → vp_in (nI 640 * rr + eg_gi M 121 34) 5120))
  (l0 : (x3 ≤ x4) → Qp (.inl none) M)
  (l1 : (¬ x3 ≤ x4) → eg_T wd (k_X12_readNot dd) Qp 95 0 0 [some (.ref 121), some (.int rr), o2, some (.int x3), some (.int (x4 + (nI 1)))] [] (m_em M rr (nI 9))) :
  eg_T wd (k_X12_readNot dd) Qp 95 0 0 [some (.ref 121), some (.int rr), o2, some (.int x3), some (.int x4)] [] M := by
  refine eg_T_run (mk_X12_readNot dd) (cut := [2, 31, 40, 79, 85, 95]) 62 ?_
  refine And.intro (fun (c1 : x3 ≤ x4) => ?_) (fun (c1 : ¬ x3 ≤ x4) => ?_)
  · skip
    show Qp (.inl none) M
    exact l0 c1
  · skip
    refine And.intro (show (eg_gi M 121 31 = 0 → vp_in (nI 640 * rr + eg_gi M 121 34) 5120) from ?_) ?_
    · exact g0 c1
    show eg_T wd (k_X12_readNot dd) Qp 95 0 0 [some (.ref 121), some (.int rr), o2, some (.int x3), some (.int (x4 + (nI 1)))] [] (m_em M rr (nI 9))
    exact l1 c1

set_option maxRecDepth 100000 in
set_option maxHeartbeats 1000000 in
theorem T_X12_readNot_r (dd : Nat) {argv : List Value} {M : eg_M} {Qp : eg_P} (h : s_X12_readNot_r dd argv M Qp) : eg_T wd (k_X12_readNot dd) Qp 0 0 0 (eg_lsN 5 argv) [] M := by
  unfold s_X12_readNot_r at h
  split at h
  · rename_i rr ar
    obtain ⟨hp, hq⟩ := h
    obtain ⟨hd0, hd6, hrv, ⟨d0, s0, hs0⟩, hT, rfl⟩ := hp
    obtain ⟨r, hr, rfl⟩ := vp_in_of hrv (by decide)
    have hrc : (nI r).toNatClampNeg = r := n_c (by omega)
    rw [hrc] at hs0 hq
    obtain ⟨n, hn, eN, _⟩ := id hs0
    have hnc : (nI n).toNatClampNeg = n := n_c (by omega)
    rw [eN, hnc] at hq
    have hTT := mb_T hT hn
    have hG := px_sG hn hTT (dd - 1)
    have cl : ∀ e, px_cmp (eg_gi M 139) n (px_E (eg_gi M 139) n (dd - 1)) (.inl e) = .inl e := fun e => rfl
    have is60 : m_is (nI 60) := by unfold m_is; decide
    have is61 : m_is (nI 61) := by unfold m_is; decide
    obtain ⟨q0, qk⟩ := q2_k (a := 60) (b := 61) (x := -nI 4) (y := -nI 5) is60 is61 (by decide) (by decide)
    have bad : ∀ N (x : px_S) d e, m_rs r d e N x → (∀ y, s0 = .inl y → x = .inl y) → (0 < dd ∨ ¬ eg_gi N 121 31 = 0) := by
      intro N x d e hx hl
      rcases hd0 with y | y
      · exact Or.inl y
      · refine Or.inr (fun z => ?_)
        cases hs : s0 with
        | inl w =>
          rw [hl w hs] at hx
          obtain ⟨t, S, e9⟩ := (ms_0 hx).mp z
          cases e9
        | inr w => exact y ((ms_0 hs0).mpr ⟨w.1, w.2, hs⟩)
    have f95 : ∀ f j i N (k : px_S → px_S) (o2 : Option Value), j + f = i → i ≤ 6 → m_fr r M N → (∀ d s, m_rs r d 0 M s → m_rs r (d + f) 1 N (k s)) → (∀ d s, m_rs r d 0 M s → px_not (eg_gi M 139) n (px_E (eg_gi M 139) n (dd - 1)) s = px_puts (-nI 3) f (k s)) → eg_T wd (k_X12_readNot dd) Qp 95 0 0 [some (.ref 121), some (.int (nI r)), o2, some (.int (nI i)), some (.int (nI j))] [] N := by
      intro f
      induction f with
      | zero =>
        intro j i N k o2 hj hi hf hk he
        have : nI i ≤ nI j := (n_le (by omega) (by omega)).mpr (by omega)
        exact st_X12_readNot_95 (nI r) o2 (nI i) (nI j) (fun z => absurd this z) (fun _ => hq N ⟨hf, fun d s hs => by rw [he d s hs]; exact hk d s hs⟩) (fun z => absurd this z)
      | succ f ih =>
        intro j i N k o2 hj hi hf hk he
        have hn6 : ¬ nI i ≤ nI j := by
          rw [n_le (by omega) (by omega)]
          omega
        refine st_X12_readNot_95 (nI r) o2 (nI i) (nI j) (fun _ => ms_eb hr (hk d0 s0 hs0) (by decide)) (fun z => absurd z hn6) (fun _ => ?_)
        rw [n_s]
        exact ih (j + 1) i _ (fun s => px_put (-nI 3) (k s)) o2 (by omega) hi (mr_tr hf (em_fr hr (hk d0 s0 hs0) (by decide))) (fun d s hs => ms_em hr (hk d s hs) (by decide) (by decide) (by decide)) (fun d s hs => he d s hs)
    have f40 : ∀ i N (h : px_S → px_S) (o4 : Option Value), i ≤ 6 → m_fr r M N → (∀ d s, m_rs r d 0 M s → m_rs r (d + i) 1 N (h s)) → (∀ e, h (.inl e) = .inl e) → (∀ d s, m_rs r d 0 M s → px_not (eg_gi M 139) n (px_E (eg_gi M 139) n (dd - 1)) s = px_puts (-nI 3) i (px_cmp (eg_gi M 139) n (px_E (eg_gi M 139) n (dd - 1)) (h s))) → eg_T wd (k_X12_readNot dd) Qp 40 0 0 [some (.ref 121), some (.int (nI r)), some (.int (nI (6 - dd))), some (.int (nI i)), o4] [] N := by
      intro i N h o4 hi hf hh hl he
      have e139 := mr_139 hf
      have e25 := mr_25 hf
      have nx : ∀ x c, m_c x = c → x.toInt < 0 → (∀ d s, m_rs r d 0 M s → px_q2 60 61 (-nI 4) (-nI 5) (h s) = some x) → ∀ N2, (m_fs N N2 ∧ m_at (eg_gi N 139) N2 (lx (eg_gi N 139) (eg_gi N 121 25).toNatClampNeg (eg_gi N 121 24).toNatClampNeg)) → eg_T wd (k_X12_readNot dd) Qp 79 0 0 [some (.ref 121), some (.int (nI r)), some (.int (nI (6 - dd))), some (.int (nI i)), some (.int c)] [] N2 := by
        intro x c hc hx hqx N2 h2
        have hf2 := mr_tr hf (mr_fq (r := r) (fq_fs h2.1))
        have adv : ∀ d s, m_rs r d 0 M s → m_rs r (d + i + 1) 0 N2 (px_adv (eg_gi M 139) n (h s)) := by
          intro d s hs
          have hs' := hh d s hs
          have hq' := hqx d s hs
          cases hgs : h s with
          | inl e =>
            rw [hgs, q0] at hq'
            cases hq'
          | inr y =>
            obtain ⟨t, S⟩ := y
            rw [hgs] at hs' hq'
            have k := (qk t S x hq').1
            have b : S.length + (d + i) ≤ t.1 ∧ 2 * px_W S + 2 * (d + i) ≤ 3 * t.1 + 1 := by
              obtain ⟨_, _, _, _, _, _, g4, g5, _⟩ := hs'
              exact ⟨g4, g5⟩
            have := ms_step (d' := d + i + 1) (e' := 0) hs' k h2 (by omega) (by omega)
            rw [e139, e25, eN, hnc] at this
            exact this
        have hb2 := bad N2 _ _ _ (adv d0 s0 hs0) (fun y hy => by rw [hy, hl]; rfl)
        refine st_X12_readNot_79 (nI r) (nI (6 - dd)) (nI i) c ⟨hb2, hd6, hrv, ⟨_, _, by rw [hrc]; exact adv d0 s0 hs0⟩, mr_tb hf2 hT, rfl⟩ (fun N3 h3 => ?_)
        rw [hrc, mr_139 hf2, mr_25 hf2, eN, hnc] at h3
        refine st_X12_readNot_85 (nI r) _ (nI i) c (ms_eb hr (h3.2 _ _ (adv d0 s0 hs0)) (by decide)) ?_
        refine f95 i 0 i _ (fun s => px_put x (px_sum (eg_gi M 139) n (px_E (eg_gi M 139) n (dd - 1)) (px_adv (eg_gi M 139) n (h s)))) _ (Nat.zero_add _) hi (mr_tr (mr_tr hf2 h3.1) (em_fr hr (h3.2 _ _ (adv d0 s0 hs0)) (by decide))) (fun d s hs => ms_em hr (h3.2 _ _ (adv d s hs)) (by decide) hx hc) (fun d s hs => ?_)
        rw [he d s hs]
        unfold px_cmp
        rw [hqx d s hs]
      refine st_X12_readNot_40 (nI r) (nI (6 - dd)) (nI i) o4 (fun z => ⟨ms_st (hh d0 s0 hs0) (z.elim (fun y => sb_0 y.2) (fun y => sb_0 y)), mr_tb hf hT⟩) (fun z => ?_) (fun z N2 h2 => nx (-nI 5) (nI 6) (by decide) (by decide) (fun d s hs => ?_) N2 h2) (fun z N2 h2 => nx (-nI 4) (nI 5) (by decide) (by decide) (fun d s hs => ?_) N2 h2)
      · refine f95 i 0 i N h _ (Nat.zero_add _) hi hf hh (fun d s hs => ?_)
        rw [he d s hs]
        unfold px_cmp px_q2
        rw [if_neg ((sb_f (hh d s hs) is60).1 z.1), if_neg ((sb_f (hh d s hs) is61).1 z.2)]
      · unfold px_q2
        rw [if_neg ((sb_f (hh d s hs) is60).1 z.1), if_pos ((sb_f (hh d s hs) is61).2 z.2)]
      · unfold px_q2
        rw [if_pos ((sb_f (hh d s hs) is60).2 z)]
    have pn : ∀ i s (x : px_S), px_nt (eg_gi M 139) n 6 0 s = (i, x) → px_is (eg_gi M 139) 15 x = false → px_not (eg_gi M 139) n (px_E (eg_gi M 139) n (dd - 1)) s = px_puts (-nI 3) i (px_cmp (eg_gi M 139) n (px_E (eg_gi M 139) n (dd - 1)) (px_sum (eg_gi M 139) n (px_E (eg_gi M 139) n (dd - 1)) x)) := by
      intro i s x h1 h2
      unfold px_not
      rw [h1]
      dsimp only
      rw [h2, if_neg Bool.noConfusion]
    have l2 : ∀ f i N (g : px_S → px_S) (o4 : Option Value), i + f = 6 → m_fr r M N → (∀ d s, m_rs r d 0 M s → m_rs r (d + i) 0 N (g s)) → (∀ e, g (.inl e) = .inl e) → (∀ d s, m_rs r d 0 M s → px_nt (eg_gi M 139) n 6 0 s = px_nt (eg_gi M 139) n f i (g s)) → eg_T wd (k_X12_readNot dd) Qp 2 0 0 [some (.ref 121), some (.int (nI r)), some (.int (nI (6 - dd))), some (.int (nI i)), o4] [] N := by
      intro f
      induction f with
      | zero =>
        intro i N g o4 hi hf hg hl he
        have hi6 : i = 6 := by omega
        subst hi6
        have hs1 := hg d0 s0 hs0
        have hw : ∀ d s, m_rs r d 0 M s → m_iw N 15 = px_is (eg_gi M 139) 15 (g s) := fun d s hs => by
          rw [ms_iw (hg d s hs), mr_139 hf]
        have hb := bad N _ _ _ hs1 (fun y hy => by rw [hy, hl])
        refine st_X12_readNot_2 (nI r) (nI (6 - dd)) (nI 6) o4 ⟨by decide, ms_wp hs1⟩ (fun _ => ⟨hb, hd6, hrv, ⟨_, _, by rw [hrc]; exact hs1⟩, mr_tb hf hT, rfl⟩) (fun _ z => absurd rfl z) (fun z N2 h2 => ?_) (fun z => ?_) (fun z => absurd rfl z.2)
        · rw [hrc, mr_139 hf, mr_25 hf, eN, hnc] at h2
          refine f40 6 N2 (fun s => px_sum (eg_gi M 139) n (px_E (eg_gi M 139) n (dd - 1)) (g s)) o4 (by decide) (mr_tr hf h2.1) (fun d s hs => h2.2 _ _ (hg d s hs)) (fun e => by rw [hl]; exact hG.1 e) (fun d s hs => ?_)
          exact pn 6 s (g s) (he d s hs) (by rw [← hw d s hs]; exact z)
        · refine hq _ ⟨mr_tr hf (mr_fq (fq_wr N _)), fun d s hs => ?_⟩
          have hs' := hg d s hs
          have h15 : px_is (eg_gi M 139) 15 (g s) = true := by
            rw [← hw d s hs]
            exact bq_t z.1
          have e1 : px_not (eg_gi M 139) n (px_E (eg_gi M 139) n (dd - 1)) s = px_ref 2 (g s) := by
            unfold px_not
            rw [he d s hs]
            show px_puts (-nI 3) 6 (px_cmp _ _ _ (px_sum _ _ _ (if px_is (eg_gi M 139) 15 (g s) = true then px_ref 2 (g s) else g s))) = _
            rw [h15, if_pos rfl]
            have : ∃ e, px_ref 2 (g s) = .inl e := by
              cases g s with
              | inl e => exact ⟨e, rfl⟩
              | inr y => exact ⟨(2, y.1.1), rfl⟩
            obtain ⟨e, e9⟩ := this
            rw [e9, hG.1, cl, px_puts_e]
          rw [e1]
          exact ms_ref (by decide) (by decide) hs' (fun _ _ => trivial)
      | succ f ih =>
        intro i N g o4 hi hf hg hl he
        have hs1 := hg d0 s0 hs0
        have hw : ∀ d s, m_rs r d 0 M s → m_iw N 15 = px_is (eg_gi M 139) 15 (g s) := fun d s hs => by
          rw [ms_iw (hg d s hs), mr_139 hf]
        have hb := bad N _ _ _ hs1 (fun y hy => by rw [hy, hl])
        have ni6 : ¬ nI i = nI 6 := by
          rw [n_eq (by omega) (by decide)]
          omega
        refine st_X12_readNot_2 (nI r) (nI (6 - dd)) (nI i) o4 ⟨by decide, ms_wp hs1⟩ (fun _ => ⟨hb, hd6, hrv, ⟨_, _, by rw [hrc]; exact hs1⟩, mr_tb hf hT, rfl⟩) (fun z _ => ⟨ms_st hs1 (iw_0 z), mr_tb hf hT⟩) (fun z N2 h2 => ?_) (fun z => absurd z.2 ni6) (fun z N2 h2 => ?_)
        · rw [hrc, mr_139 hf, mr_25 hf, eN, hnc] at h2
          refine f40 i N2 (fun s => px_sum (eg_gi M 139) n (px_E (eg_gi M 139) n (dd - 1)) (g s)) o4 (by omega) (mr_tr hf h2.1) (fun d s hs => h2.2 _ _ (hg d s hs)) (fun e => by rw [hl]; exact hG.1 e) (fun d s hs => ?_)
          refine pn i s (g s) ?_ (by rw [← hw d s hs]; exact z)
          rw [he d s hs, px_nt, ← hw d s hs, z, if_neg Bool.noConfusion]
        · have hf2 := mr_tr hf (mr_fq (r := r) (fq_fs h2.1))
          have e139 := mr_139 hf
          have e25 := mr_25 hf
          have h15 : ∀ d s, m_rs r d 0 M s → px_is (eg_gi M 139) 15 (g s) = true := fun d s hs => by
            rw [← hw d s hs]
            exact bq_t z.1
          refine st_X12_readNot_31 (nI r) (nI (6 - dd)) _ o4 ?_
          rw [n_s]
          refine ih (i + 1) N2 (fun s => px_adv (eg_gi M 139) n (g s)) o4 (by omega) hf2 (fun d s hs => ?_) (fun e => by rw [hl]; rfl) (fun d s hs => ?_)
          · have hs' := hg d s hs
            have h1 := h15 d s hs
            cases hgs : g s with
            | inl e =>
              rw [hgs] at h1
              exact Bool.noConfusion h1
            | inr y =>
              obtain ⟨t, S⟩ := y
              rw [hgs] at hs' h1
              have k : t.2.2 = -nI 2 := px_w_k h1
              have b : S.length + (d + i) ≤ t.1 ∧ 2 * px_W S + 2 * (d + i) ≤ 3 * t.1 + 0 := by
                obtain ⟨_, _, _, _, _, _, g4, g5, _⟩ := hs'
                exact ⟨g4, g5⟩
              have := ms_step (d' := d + (i + 1)) (e' := 0) hs' (by rw [k]; decide) h2 (by omega) (by omega)
              rw [e139, e25, eN, hnc] at this
              exact this
          · rw [he d s hs, px_nt, h15 d s hs, if_pos rfl]
    exact st_X12_readNot_0 (nI r) (nI (6 - dd)) (l2 6 0 M (fun s => s) _ rfl (mr_rf r M) (fun d s hs => hs) (fun _ => rfl) (fun _ _ _ => rfl))
  · exact h.elim
theorem de_X12_readNot (dd : Nat) : ∀ q ∈ (k_X12_readNot dd).1, decode cX12_readNot q.1 = .ok q.2 := by show ∀ q ∈ (k_X12_readNot 0).1, decode cX12_readNot q.1 = .ok q.2; decide +kernel
theorem me_X12_readNot_r (g : gl_T) (dd : Nat) (ih_X12_readExpression : MT g yX12_readExpression cX12_readExpression 4 none ⟨6 + 6 * dd, 0, 0, 129 + 138 * dd⟩ 0 0 (s_X12_readExpression_r dd)) : MT g yX12_readNot cX12_readNot 5 none ⟨10 + 6 * dd, 0, 0, 221 + 138 * dd⟩ 0 0 (s_X12_readNot_r dd) := by
  intro hl
  exact eg_met_of (k := k_X12_readNot dd) (by decide) rfl ⟨Nat.le_refl _, Nat.le_refl _⟩ rfl (sz_X12_readNot_r dd) (de_X12_readNot dd) (fun meth hn => (fn)) (fun A s H hE => (fc (⟨"not", hE.2.2.2.1 (RX12, 347, "not", 15) (List.mem_of_getElem? (i := 43) rfl)⟩) (fn))) (fun p e s m args below meth c Q A ad0 N0 S0 hK hEx hA => (fc (mt_V hl S0 hK hEx hA (me_X12_isSign_v g) lm_RX12_308 li_X12_isSign lx_X12_isSign ln_RX12 lc_X12_isSign ⟨rfl, by decide, by decide, by decide +kernel⟩ ⟨rfl, rfl⟩ ⟨by dsimp only; omega, by dsimp only; omega⟩ (ci := 12) rfl rfl sr_X12_isSign_v (by decide)) (fc (mt_V hl S0 hK hEx hA (me_X12_wrong_v g) lm_RX12_311 li_X12_wrong lx_X12_wrong ln_RX12 lc_X12_wrong ⟨rfl, by decide, by decide, by decide +kernel⟩ ⟨rfl, rfl⟩ ⟨by dsimp only; omega, by dsimp only; omega⟩ (ci := 12) rfl rfl sr_X12_wrong_v (by decide)) (fc (mt_V hl S0 hK hEx hA (me_X12_step g) lm_RX12_315 li_X12_step lx_X12_step ln_RX12 lc_X12_step ⟨rfl, by decide, by decide, by decide +kernel⟩ ⟨rfl, rfl⟩ ⟨by dsimp only; omega, by dsimp only; omega⟩ (ci := 12) rfl rfl sr_X12_step (by decide)) (fc (mt_V hl S0 hK hEx hA (me_X12_is g) lm_RX12_321 li_X12_is lx_X12_is ln_RX12 lc_X12_is ⟨rfl, by decide, by decide, by decide +kernel⟩ ⟨rfl, rfl⟩ ⟨by dsimp only; omega, by dsimp only; omega⟩ (ci := 12) rfl rfl sr_X12_is (by decide)) (fc (mt_V hl S0 hK hEx hA (me_X12_emit_v g) lm_RX12_328 li_X12_emit lx_X12_emit ln_RX12 lc_X12_emit ⟨rfl, by decide, by decide, by decide +kernel⟩ ⟨rfl, rfl⟩ ⟨by dsimp only; omega, by dsimp only; omega⟩ (ci := 12) rfl rfl sr_X12_emit_v (by decide)) (fc (mt_V hl S0 hK hEx hA (me_X12_readSum_r g dd ih_X12_readExpression) lm_RX12_349 li_X12_readSum lx_X12_readSum ln_RX12 lc_X12_readSum ⟨rfl, by decide, by decide, by decide +kernel⟩ ⟨rfl, rfl⟩ ⟨(show 9 + 6 * dd + 1 ≤ 10 + 6 * dd by omega), (show 8 + (4 + 11) + (198 + 138 * dd) ≤ 221 + 138 * dd by omega)⟩ (ci := 12) rfl rfl (sr_X12_readSum_r dd) (by decide)) (fn)))))))) (fun p e s m args below meth c Qc XC A ad0 N0 P S0 hK hEx hA hlk hout hPX => (fn)) (fun argv M Qp h => T_X12_readNot_r dd h)

def s_X12_readAnd_r (dd : Nat) : eg_S := fun argv M Qp => match argv with
  | [.ref 121, .int rr, .int ar] => ((0 < dd ∨ ¬ eg_gi M 121 31 = 0) ∧ dd ≤ 6 ∧ vp_in rr 8 ∧ (∃ d s, m_rs rr.toNatClampNeg d 0 M s) ∧ m_tb M ∧ ar = nI (6 - dd)) ∧ ∀ (M2 : eg_M), (m_rR rr.toNatClampNeg M M2 (px_and (eg_gi M 139) (eg_gi M 121 25).toNatClampNeg (px_E (eg_gi M 139) (eg_gi M 121 25).toNatClampNeg (dd - 1)))) → Qp (.inl none) M2
  | _ => False
theorem mo_X12_readAnd_r (dd : Nat) : eg_mono (s_X12_readAnd_r dd) := by
  intro argv M Q Q' h
  unfold s_X12_readAnd_r
  split
  · exact fun z => ⟨z.1, fun M2 y => h _ _ (z.2 M2 y)⟩
  · exact id
theorem sz_X12_readAnd_r (dd : Nat) : ∀ argv M Qp, s_X12_readAnd_r dd argv M Qp → (eg_ls0 argv).length ≤ 3 := by
  intro argv M Qp h
  unfold s_X12_readAnd_r at h
  split at h
  · exact Nat.le_of_ble_eq_true rfl
  · exact h.elim
theorem sr_X12_readAnd_r (dd : Nat) : ∀ argv M Qp, s_X12_readAnd_r dd argv M Qp → ∃ p0 As, argv = .ref p0 :: As ∧ eg_isO wd M p0 12 = true := by
  intro argv M Qp h
  unfold s_X12_readAnd_r at h
  split at h
  · exact ⟨_, _, rfl, rfl⟩
  · exact h.elim

def k_X12_readAnd (dd : Nat) : eg_C := ([(0, .aload_n 0, 1), (1, .iload_n 1, 1), (2, .iload_n 2, 1), (3, .invokevirtual 352, 3), (6, .aload_n 0, 1), (7, .ldc_w 355, 3), (10, .invokevirtual 321, 3), (13, .ifCond .eq 23, 3), (16, .aload_n 0, 1), (17, .invokevirtual 315, 3), (20, .aload_n 0, 1), (21, .iload_n 1, 1), (22, .iload_n 2, 1), (23, .invokevirtual 352, 3), (26, .aload_n 0, 1), (27, .iload_n 1, 1), (28, .bipush 7, 2), (30, .invokevirtual 328, 3), (33, .goto (-27), 3), (36, .return_, 1)], [], [(355, .retAddr 1)], [(315, 0 + 1, 0, 0, s_X12_step), (321, 1 + 1, 0, 0, s_X12_is), (328, 2 + 1, 0, 0, s_X12_emit_v), (352, 2 + 1, 0, 0, s_X12_readNot_r dd)], [], 0, 0, 0)
theorem mk_X12_readAnd (dd : Nat) : ∀ q ∈ (k_X12_readAnd dd).2.2.2.1, eg_mono q.2.2.2.2 := (fc (mo_X12_step) (fc (mo_X12_is) (fc (mo_X12_emit_v) (fc (mo_X12_readNot_r dd) (fn)))))

set_option maxRecDepth 100000 in
theorem st_X12_readAnd_0 {dd : Nat} {Qp : eg_P} {M : eg_M} (rr : Int32) (ar : Int32)
  (g0 : ((0 < dd ∨ ¬ eg_gi M 121 31 = 0) ∧ dd ≤ 6 ∧ vp_in rr 8 ∧ (∃ d s, m_rs rr.toNatClampNeg d 0 M s) ∧ m_tb M ∧ ar = nI (6 - dd)))
  (l0 : ∀ (M2_1 : eg_M), (m_rR rr.toNatClampNeg M M2_1 (px_not (eg_gi M 139) (eg_gi M 121 25).toNatClampNeg (px_E (eg_gi M 139) (eg_gi M 121 25).toNatClampNeg (dd - 1)))) → eg_T wd (k_X12_readAnd dd) Qp 6 0 0 [some (.ref 121), some (.int rr), some (.int ar)] [] M2_1) :
  eg_T wd (k_X12_readAnd dd) Qp 0 0 0 [some (.ref 121), some (.int rr), some (.int ar)] [] M := by
  refine eg_T_run (mk_X12_readAnd dd) (cut := [6, 20, 26]) 23 ?_
  refine And.intro (show ((0 < dd ∨ ¬ eg_gi M 121 31 = 0) ∧ dd ≤ 6 ∧ vp_in rr 8 ∧ (∃ d s, m_rs rr.toNatClampNeg d 0 M s) ∧ m_tb M ∧ ar = nI (6 - dd)) from ?_) ?_
  · exact g0
  intro M2_1 ha_1
  show eg_T wd (k_X12_readAnd dd) Qp 6 0 0 [some (.ref 121), some (.int rr), some (.int ar)] [] M2_1
  exact l0 M2_1 ha_1

set_option maxRecDepth 100000 in
theorem st_X12_readAnd_6 {dd : Nat} {Qp : eg_P} {M : eg_M} (rr : Int32) (ar : Int32)
  (g0 : (1 < 32 ∧ (eg_gi M 121 31 = 0 → eg_gi M 121 26 = nI 1 → ∃ b e, b ≤ e ∧ e ≤ 400 ∧ eg_gi M 121 29 = nI b ∧ eg_gi M 121 30 = nI e)))
  (g1 : (¬ ((m_iw M 1) = false)) → ((∃ p n, p ≤ n ∧ n ≤ 400 ∧ eg_gi M 121 24 = nI p ∧ eg_gi M 121 25 = nI n) ∧ m_tb M))
  (l0 : ((m_iw M 1) = false) → Qp (.inl none) M)
  (l1 : (¬ (m_iw M 1) = false) → ∀ (M2_1 : eg_M), (m_fs M M2_1 ∧ m_at (eg_gi M 139) M2_1 (lx (eg_gi M 139) (eg_gi M 121 25).toNatClampNeg (eg_gi M 121 24).toNatClampNeg)) → eg_T wd (k_X12_readAnd dd) Qp 20 0 0 [some (.ref 121), some (.int rr), some (.int ar)] [] M2_1) :
  eg_T wd (k_X12_readAnd dd) Qp 6 0 0 [some (.ref 121), some (.int rr), some (.int ar)] [] M := by
  refine eg_T_run (mk_X12_readAnd dd) (cut := [6, 20, 26]) 23 ?_
  refine And.intro (show (1 < 32 ∧ (eg_gi M 121 31 = 0 → eg_gi M 121 26 = nI 1 → ∃ b e, b ≤ e ∧ e ≤ 400 ∧ eg_gi M 121 29 = nI b ∧ eg_gi M 121 30 = nI e)) from ?_) ?_
  · exact g0
  refine And.intro (fun (c1 : (b2i (m_iw M 1)) = 0) => ?_) (fun (c1 : ¬ (b2i (m_iw M 1)) = 0) => ?_)
  · replace c1 := b2i_0.mp c1
    show Qp (.inl none) M
    exact l0 c1
  · replace c1 := b2i_ff c1
    refine And.intro (show ((∃ p n, p ≤ n ∧ n ≤ 400 ∧ eg_gi M 121 24 = nI p ∧ eg_gi M 121 25 = nI n) ∧ m_tb M) from ?_) ?_
    · exact g1 c1
    intro M2_1 ha_1
    show eg_T wd (k_X12_readAnd dd) Qp 20 0 0 [some (.ref 121), some (.int rr), some (.int ar)] [] M2_1
    exact l1 c1 M2_1 ha_1

set_option maxRecDepth 100000 in
theorem st_X12_readAnd_20 {dd : Nat} {Qp : eg_P} {M : eg_M} (rr : Int32) (ar : Int32)
  (g0 : ((0 < dd ∨ ¬ eg_gi M 121 31 = 0) ∧ dd ≤ 6 ∧ vp_in rr 8 ∧ (∃ d s, m_rs rr.toNatClampNeg d 0 M s) ∧ m_tb M ∧ ar = nI (6 - dd)))
  (l0 : ∀ (M2_1 : eg_M), (m_rR rr.toNatClampNeg M M2_1 (px_not (eg_gi M 139) (eg_gi M 121 25).toNatClampNeg (px_E (eg_gi M 139) (eg_gi M 121 25).toNatClampNeg (dd - 1)))) → eg_T wd (k_X12_readAnd dd) Qp 26 0 0 [some (.ref 121), some (.int rr), some (.int ar)] [] M2_1) :
  eg_T wd (k_X12_readAnd dd) Qp 20 0 0 [some (.ref 121), some (.int rr), some (.int ar)] [] M := by
  refine eg_T_run (mk_X12_readAnd dd) (cut := [6, 20, 26]) 23 ?_
  refine And.intro (show ((0 < dd ∨ ¬ eg_gi M 121 31 = 0) ∧ dd ≤ 6 ∧ vp_in rr 8 ∧ (∃ d s, m_rs rr.toNatClampNeg d 0 M s) ∧ m_tb M ∧ ar = nI (6 - dd)) from ?_) ?_
  · exact g0
  intro M2_1 ha_1
  show eg_T wd (k_X12_readAnd dd) Qp 26 0 0 [some (.ref 121), some (.int rr), some (.int ar)] [] M2_1
  exact l0 M2_1 ha_1

set_option maxRecDepth 100000 in
theorem st_X12_readAnd_26 {dd : Nat} {Qp : eg_P} {M : eg_M} (rr : Int32) (ar : Int32)
  (g0 : (eg_gi M 121 31 = 0 → vp_in (nI 640 * rr + eg_gi M 121 34) 5120))
  (l0 : eg_T wd (k_X12_readAnd dd) Qp 6 0 0 [some (.ref 121), some (.int rr), some (.int ar)] [] (m_em M rr (nI 7))) :
  eg_T wd (k_X12_readAnd dd) Qp 26 0 0 [some (.ref 121), some (.int rr), some (.int ar)] [] M := by
  refine eg_T_run (mk_X12_readAnd dd) (cut := [6, 20, 26]) 23 ?_
  refine And.intro (show (eg_gi M 121 31 = 0 → vp_in (nI 640 * rr + eg_gi M 121 34) 5120) from ?_) ?_
  · exact g0
  show eg_T wd (k_X12_readAnd dd) Qp 6 0 0 [some (.ref 121), some (.int rr), some (.int ar)] [] (m_em M rr (nI 7))
  exact l0

set_option maxRecDepth 100000 in
set_option maxHeartbeats 1000000 in
theorem T_X12_readAnd_r (dd : Nat) {argv : List Value} {M : eg_M} {Qp : eg_P} (h : s_X12_readAnd_r dd argv M Qp) : eg_T wd (k_X12_readAnd dd) Qp 0 0 0 (eg_lsN 3 argv) [] M := by
  unfold s_X12_readAnd_r at h
  split at h
  · rename_i rr ar
    obtain ⟨hp, hq⟩ := h
    obtain ⟨hd0, hd6, hrv, ⟨d0, s0, hs0⟩, hT, rfl⟩ := hp
    obtain ⟨r, hr, rfl⟩ := vp_in_of hrv (by decide)
    have hrc : (nI r).toNatClampNeg = r := n_c (by omega)
    rw [hrc] at hs0 hq
    obtain ⟨n, hn, eN, _⟩ := id hs0
    have hnc : (nI n).toNatClampNeg = n := n_c (by omega)
    rw [eN, hnc] at hq
    have hTT := mb_T hT hn
    have prc : ∀ N, m_fr r M N → (∃ d s, m_rs r d 0 N s) → eg_gi M 121 31 = 0 → ((0 < dd ∨ ¬ eg_gi N 121 31 = 0) ∧ dd ≤ 6 ∧ vp_in (nI r) 8 ∧ (∃ d s, m_rs (nI r).toNatClampNeg d 0 N s) ∧ m_tb N ∧ nI (6 - dd) = nI (6 - dd)) := fun N hf hs hz => ⟨Or.inl (hd0.elim id (fun y => absurd hz y)), hd6, hrv, by rw [hrc]; exact hs, mr_tb hf hT, rfl⟩
    obtain ⟨q0, qk⟩ := qw_k (T := eg_gi M 139) (w := 1) (x := (-nI 2)) (by decide)
    refine st_X12_readAnd_0 (nI r) (nI (6 - dd)) ⟨hd0, hd6, hrv, ⟨d0, s0, by rw [hrc]; exact hs0⟩, hT, rfl⟩ (fun N h => ?_)
    rw [hrc, eN, hnc] at h
    refine m_wll (L := fun N => eg_T wd (k_X12_readAnd dd) Qp 6 0 0 [some (.ref 121), some (.int (nI r)), some (.int (nI (6 - dd)))] [] N) (Ex := fun N => Qp (.inl none) N) (S2 := fun c N => c = nI 7 → eg_T wd (k_X12_readAnd dd) Qp 20 0 0 [some (.ref 121), some (.int (nI r)), some (.int (nI (6 - dd)))] [] N) (P := px_and (eg_gi M 139) n (px_E (eg_gi M 139) n (dd - 1))) hr hn eN hs0 (px_nG hn hTT (dd - 1)) q0 qk (fun N hf hx X1 X2 => ?_) (fun c N2 hf hs2 hb2 hz X hc => ?_) (fun N h => hq N h) 400 N _ h.1 h.2 (px_nG hn hTT (dd - 1)).1 (fun _ _ _ => rfl) (fun t S _ => by omega)
    · obtain ⟨d1, s1, hs1⟩ := hx
      have hw : ∀ d e s, m_rs r d e N s → m_iw N 1 = px_is (eg_gi M 139) 1 s := fun d e s hs => by
        rw [ms_iw hs, mr_139 hf]
      refine st_X12_readAnd_6 (nI r) (nI (6 - dd)) ⟨by decide, ms_wp hs1⟩ (fun z => ⟨ms_st hs1 (iw_0 z), mr_tb hf hT⟩) (fun z => X1 (fun d e s hs => ?_)) (fun z N2 h2 => X2 (-nI 2) (nI 7) (by decide) (fun d e s hs => ?_) N2 h2 rfl)
      · unfold px_qw
        rw [← hw d e s hs, z, if_neg Bool.noConfusion]
      · unfold px_qw
        rw [← hw d e s hs, bq_t z, if_pos rfl]
    · subst hc
      refine st_X12_readAnd_20 (nI r) (nI (6 - dd)) (prc N2 hf hs2 hz) (fun N3 h3 => ?_)
      rw [hrc, mr_139 hf, mr_25 hf, eN, hnc] at h3
      obtain ⟨x1, x2⟩ := X N3 h3
      exact st_X12_readAnd_26 (nI r) (nI (6 - dd)) x1 x2
  · exact h.elim
theorem de_X12_readAnd (dd : Nat) : ∀ q ∈ (k_X12_readAnd dd).1, decode cX12_readAnd q.1 = .ok q.2 := by show ∀ q ∈ (k_X12_readAnd 0).1, decode cX12_readAnd q.1 = .ok q.2; decide +kernel
theorem me_X12_readAnd_r (g : gl_T) (dd : Nat) (ih_X12_readExpression : MT g yX12_readExpression cX12_readExpression 4 none ⟨6 + 6 * dd, 0, 0, 129 + 138 * dd⟩ 0 0 (s_X12_readExpression_r dd)) : MT g yX12_readAnd cX12_readAnd 3 none ⟨11 + 6 * dd, 0, 0, 245 + 138 * dd⟩ 0 0 (s_X12_readAnd_r dd) := by
  intro hl
  exact eg_met_of (k := k_X12_readAnd dd) (by decide) rfl ⟨Nat.le_refl _, Nat.le_refl _⟩ rfl (sz_X12_readAnd_r dd) (de_X12_readAnd dd) (fun meth hn => (fn)) (fun A s H hE => (fc (⟨"and", hE.2.2.2.1 (RX12, 355, "and", 1) (List.mem_of_getElem? (i := 44) rfl)⟩) (fn))) (fun p e s m args below meth c Q A ad0 N0 S0 hK hEx hA => (fc (mt_V hl S0 hK hEx hA (me_X12_step g) lm_RX12_315 li_X12_step lx_X12_step ln_RX12 lc_X12_step ⟨rfl, by decide, by decide, by decide +kernel⟩ ⟨rfl, rfl⟩ ⟨by dsimp only; omega, by dsimp only; omega⟩ (ci := 12) rfl rfl sr_X12_step (by decide)) (fc (mt_V hl S0 hK hEx hA (me_X12_is g) lm_RX12_321 li_X12_is lx_X12_is ln_RX12 lc_X12_is ⟨rfl, by decide, by decide, by decide +kernel⟩ ⟨rfl, rfl⟩ ⟨by dsimp only; omega, by dsimp only; omega⟩ (ci := 12) rfl rfl sr_X12_is (by decide)) (fc (mt_V hl S0 hK hEx hA (me_X12_emit_v g) lm_RX12_328 li_X12_emit lx_X12_emit ln_RX12 lc_X12_emit ⟨rfl, by decide, by decide, by decide +kernel⟩ ⟨rfl, rfl⟩ ⟨by dsimp only; omega, by dsimp only; omega⟩ (ci := 12) rfl rfl sr_X12_emit_v (by decide)) (fc (mt_V hl S0 hK hEx hA (me_X12_readNot_r g dd ih_X12_readExpression) lm_RX12_352 li_X12_readNot lx_X12_readNot ln_RX12 lc_X12_readNot ⟨rfl, by decide, by decide, by decide +kernel⟩ ⟨rfl, rfl⟩ ⟨(show 10 + 6 * dd + 1 ≤ 11 + 6 * dd by omega), (show 8 + (5 + 11) + (221 + 138 * dd) ≤ 245 + 138 * dd by omega)⟩ (ci := 12) rfl rfl (sr_X12_readNot_r dd) (by decide)) (fn)))))) (fun p e s m args below meth c Qc XC A ad0 N0 P S0 hK hEx hA hlk hout hPX => (fn)) (fun argv M Qp h => T_X12_readAnd_r dd h)

def k_X12_readExpression (dd : Nat) : eg_C := ([(0, .aload_n 0, 1), (1, .getfield 294, 3), (4, .ifCond .eq 4, 3), (7, .return_, 1), (8, .aload_n 0, 1), (9, .getfield 272, 3), (12, .iconst 2, 1), (13, .if_icmp .eq 20, 3), (16, .aload_n 0, 1), (17, .getfield 272, 3), (20, .iconst 1, 1), (21, .if_icmp .eq 12, 3), (24, .aload_n 0, 1), (25, .bipush 40, 2), (27, .invokevirtual 308, 3), (30, .ifCond .eq 7, 3), (33, .iconst 1, 1), (34, .goto 4, 3), (37, .iconst 0, 1), (38, .istore_n 3, 1), (39, .iload_n 3, 1), (40, .ifCond .ne 11, 3), (43, .aload_n 0, 1), (44, .iconst 1, 1), (45, .invokevirtual 311, 3), (48, .goto 14, 3), (51, .iload_n 2, 1), (52, .bipush 6, 2), (54, .if_icmp .ne 8, 3), (57, .aload_n 0, 1), (58, .iconst 2, 1), (59, .invokevirtual 311, 3), (62, .aload_n 0, 1), (63, .iload_n 1, 1), (64, .iload_n 2, 1), (65, .invokevirtual 357, 3), (68, .aload_n 0, 1), (69, .ldc_w 360, 3), (72, .invokevirtual 321, 3), (75, .ifCond .eq 23, 3), (78, .aload_n 0, 1), (79, .invokevirtual 315, 3), (82, .aload_n 0, 1), (83, .iload_n 1, 1), (84, .iload_n 2, 1), (85, .invokevirtual 357, 3), (88, .aload_n 0, 1), (89, .iload_n 1, 1), (90, .bipush 8, 2), (92, .invokevirtual 328, 3), (95, .goto (-27), 3), (98, .return_, 1)], [(272, 12, 26, false), (294, 12, 31, false)], [(360, .retAddr 20)], [(308, 1 + 1, 0, 0, s_X12_isSign_v), (311, 1 + 1, 0, 0, s_X12_wrong_v), (315, 0 + 1, 0, 0, s_X12_step), (321, 1 + 1, 0, 0, s_X12_is), (328, 2 + 1, 0, 0, s_X12_emit_v), (357, 2 + 1, 0, 0, s_X12_readAnd_r dd)], [], 0, 0, 0)
theorem mk_X12_readExpression (dd : Nat) : ∀ q ∈ (k_X12_readExpression dd).2.2.2.1, eg_mono q.2.2.2.2 := (fc (mo_X12_isSign_v) (fc (mo_X12_wrong_v) (fc (mo_X12_step) (fc (mo_X12_is) (fc (mo_X12_emit_v) (fc (mo_X12_readAnd_r dd) (fn)))))))

set_option maxRecDepth 100000 in
theorem st_X12_readExpression_0 {dd : Nat} {Qp : eg_P} {M : eg_M} (rr : Int32) (ar : Int32)
  (l0 : ((eg_gi M 121 31) = 0 ∧ (((eg_gi M 121 26) = (nI 2) ∧ ar = (nI 6)) ∨ (¬ (eg_gi M 121 26) = (nI 2) ∧ (((eg_gi M 121 26) = (nI 1) ∧ ar = (nI 6)) ∨ (¬ (eg_gi M 121 26) = (nI 1) ∧ (¬ (m_sb M (nI 40)) = false ∧ ar = (nI 6))))))) → eg_T wd (k_X12_readExpression dd) Qp 62 0 0 [some (.ref 121), some (.int rr), some (.int ar), some (.int (nI 1))] [] (m_wr M (nI 2)))
  (l1 : ((eg_gi M 121 31) = 0 ∧ (((eg_gi M 121 26) = (nI 2) ∧ ¬ ar = (nI 6)) ∨ (¬ (eg_gi M 121 26) = (nI 2) ∧ (((eg_gi M 121 26) = (nI 1) ∧ ¬ ar = (nI 6)) ∨ (¬ (eg_gi M 121 26) = (nI 1) ∧ (¬ (m_sb M (nI 40)) = false ∧ ¬ ar = (nI 6))))))) → eg_T wd (k_X12_readExpression dd) Qp 62 0 0 [some (.ref 121), some (.int rr), some (.int ar), some (.int (nI 1))] [] M)
  (l2 : ((eg_gi M 121 31) = 0 ∧ (¬ (eg_gi M 121 26) = (nI 2) ∧ (¬ (eg_gi M 121 26) = (nI 1) ∧ (m_sb M (nI 40)) = false))) → eg_T wd (k_X12_readExpression dd) Qp 62 0 0 [some (.ref 121), some (.int rr), some (.int ar), some (.int (nI 0))] [] (m_wr M (nI 1)))
  (l3 : (¬ (eg_gi M 121 31) = 0) → Qp (.inl none) M) :
  eg_T wd (k_X12_readExpression dd) Qp 0 0 0 [some (.ref 121), some (.int rr), some (.int ar), none] [] M := by
  refine eg_T_run (mk_X12_readExpression dd) (cut := [62, 68, 82, 88]) 55 ?_
  refine And.intro (fun (c1 : (eg_gi M 121 31) = 0) => ?_) (fun (c1 : ¬ (eg_gi M 121 31) = 0) => ?_)
  · skip
    refine And.intro (fun (c2 : (eg_gi M 121 26) = (nI 2)) => ?_) (fun (c2 : ¬ (eg_gi M 121 26) = (nI 2)) => ?_)
    · skip
      refine And.intro (fun (c3 : (nI 1) = 0) => ?_) (fun (c3 : ¬ (nI 1) = 0) => ?_)
      · exact absurd c3 (show ¬ (nI 1) = 0 by decide)
      · skip
        refine And.intro (fun (c4 : ar = (nI 6)) => ?_) (fun (c4 : ¬ ar = (nI 6)) => ?_)
        · skip
          refine And.intro (show (True) from ?_) ?_
          · exact trivial
          show eg_T wd (k_X12_readExpression dd) Qp 62 0 0 [some (.ref 121), some (.int rr), some (.int ar), some (.int (nI 1))] [] (m_wr M (nI 2))
          exact l0 ⟨c1, (Or.inl ⟨c2, c4⟩)⟩
        · skip
          show eg_T wd (k_X12_readExpression dd) Qp 62 0 0 [some (.ref 121), some (.int rr), some (.int ar), some (.int (nI 1))] [] M
          exact l1 ⟨c1, (Or.inl ⟨c2, c4⟩)⟩
    · skip
      refine And.intro (fun (c5 : (eg_gi M 121 26) = (nI 1)) => ?_) (fun (c5 : ¬ (eg_gi M 121 26) = (nI 1)) => ?_)
      · skip
        refine And.intro (fun (c6 : (nI 1) = 0) => ?_) (fun (c6 : ¬ (nI 1) = 0) => ?_)
        · exact absurd c6 (show ¬ (nI 1) = 0 by decide)
        · skip
          refine And.intro (fun (c7 : ar = (nI 6)) => ?_) (fun (c7 : ¬ ar = (nI 6)) => ?_)
          · skip
            refine And.intro (show (True) from ?_) ?_
            · exact trivial
            show eg_T wd (k_X12_readExpression dd) Qp 62 0 0 [some (.ref 121), some (.int rr), some (.int ar), some (.int (nI 1))] [] (m_wr M (nI 2))
            exact l0 ⟨c1, (Or.inr ⟨c2, (Or.inl ⟨c5, c7⟩)⟩)⟩
          · skip
            show eg_T wd (k_X12_readExpression dd) Qp 62 0 0 [some (.ref 121), some (.int rr), some (.int ar), some (.int (nI 1))] [] M
            exact l1 ⟨c1, (Or.inr ⟨c2, (Or.inl ⟨c5, c7⟩)⟩)⟩
      · skip
        refine And.intro (show (True) from ?_) ?_
        · exact trivial
        refine And.intro (fun (c8 : (b2i (m_sb M (nI 40))) = 0) => ?_) (fun (c8 : ¬ (b2i (m_sb M (nI 40))) = 0) => ?_)
        · replace c8 := b2i_0.mp c8
          refine And.intro (fun (c9 : (nI 0) = 0) => ?_) (fun (c9 : ¬ (nI 0) = 0) => ?_)
          · skip
            refine And.intro (show (True) from ?_) ?_
            · exact trivial
            show eg_T wd (k_X12_readExpression dd) Qp 62 0 0 [some (.ref 121), some (.int rr), some (.int ar), some (.int (nI 0))] [] (m_wr M (nI 1))
            exact l2 ⟨c1, ⟨c2, ⟨c5, c8⟩⟩⟩
          · exact absurd (show (nI 0) = 0 by decide) c9
        · replace c8 := b2i_ff c8
          refine And.intro (fun (c10 : (nI 1) = 0) => ?_) (fun (c10 : ¬ (nI 1) = 0) => ?_)
          · exact absurd c10 (show ¬ (nI 1) = 0 by decide)
          · skip
            refine And.intro (fun (c11 : ar = (nI 6)) => ?_) (fun (c11 : ¬ ar = (nI 6)) => ?_)
            · skip
              refine And.intro (show (True) from ?_) ?_
              · exact trivial
              show eg_T wd (k_X12_readExpression dd) Qp 62 0 0 [some (.ref 121), some (.int rr), some (.int ar), some (.int (nI 1))] [] (m_wr M (nI 2))
              exact l0 ⟨c1, (Or.inr ⟨c2, (Or.inr ⟨c5, ⟨c8, c11⟩⟩)⟩)⟩
            · skip
              show eg_T wd (k_X12_readExpression dd) Qp 62 0 0 [some (.ref 121), some (.int rr), some (.int ar), some (.int (nI 1))] [] M
              exact l1 ⟨c1, (Or.inr ⟨c2, (Or.inr ⟨c5, ⟨c8, c11⟩⟩)⟩)⟩
  · skip
    show Qp (.inl none) M
    exact l3 c1

set_option maxRecDepth 100000 in
theorem st_X12_readExpression_62 {dd : Nat} {Qp : eg_P} {M : eg_M} (rr : Int32) (ar : Int32) (o3 : Option Value)
  (g0 : ((0 < dd ∨ ¬ eg_gi M 121 31 = 0) ∧ dd ≤ 6 ∧ vp_in rr 8 ∧ (∃ d s, m_rs rr.toNatClampNeg d 0 M s) ∧ m_tb M ∧ ar = nI (6 - dd)))
  (l0 : ∀ (M2_1 : eg_M), (m_rR rr.toNatClampNeg M M2_1 (px_and (eg_gi M 139) (eg_gi M 121 25).toNatClampNeg (px_E (eg_gi M 139) (eg_gi M 121 25).toNatClampNeg (dd - 1)))) → eg_T wd (k_X12_readExpression dd) Qp 68 0 0 [some (.ref 121), some (.int rr), some (.int ar), o3] [] M2_1) :
  eg_T wd (k_X12_readExpression dd) Qp 62 0 0 [some (.ref 121), some (.int rr), some (.int ar), o3] [] M := by
  refine eg_T_run (mk_X12_readExpression dd) (cut := [62, 68, 82, 88]) 55 ?_
  refine And.intro (show ((0 < dd ∨ ¬ eg_gi M 121 31 = 0) ∧ dd ≤ 6 ∧ vp_in rr 8 ∧ (∃ d s, m_rs rr.toNatClampNeg d 0 M s) ∧ m_tb M ∧ ar = nI (6 - dd)) from ?_) ?_
  · exact g0
  intro M2_1 ha_1
  show eg_T wd (k_X12_readExpression dd) Qp 68 0 0 [some (.ref 121), some (.int rr), some (.int ar), o3] [] M2_1
  exact l0 M2_1 ha_1

set_option maxRecDepth 100000 in
theorem st_X12_readExpression_68 {dd : Nat} {Qp : eg_P} {M : eg_M} (rr : Int32) (ar : Int32) (o3 : Option Value)
  (g0 : (20 < 32 ∧ (eg_gi M 121 31 = 0 → eg_gi M 121 26 = nI 1 → ∃ b e, b ≤ e ∧ e ≤ 400 ∧ eg_gi M 121 29 = nI b ∧ eg_gi M 121 30 = nI e)))
  (g1 : (¬ ((m_iw M 20) = false)) → ((∃ p n, p ≤ n ∧ n ≤ 400 ∧ eg_gi M 121 24 = nI p ∧ eg_gi M 121 25 = nI n) ∧ m_tb M))
  (l0 : ((m_iw M 20) = false) → Qp (.inl none) M)
  (l1 : (¬ (m_iw M 20) = false) → ∀ (M2_1 : eg_M), (m_fs M M2_1 ∧ m_at (eg_gi M 139) M2_1 (lx (eg_gi M 139) (eg_gi M 121 25).toNatClampNeg (eg_gi M 121 24).toNatClampNeg)) → eg_T wd (k_X12_readExpression dd) Qp 82 0 0 [some (.ref 121), some (.int rr), some (.int ar), o3] [] M2_1) :
  eg_T wd (k_X12_readExpression dd) Qp 68 0 0 [some (.ref 121), some (.int rr), some (.int ar), o3] [] M := by
  refine eg_T_run (mk_X12_readExpression dd) (cut := [62, 68, 82, 88]) 55 ?_
  refine And.intro (show (20 < 32 ∧ (eg_gi M 121 31 = 0 → eg_gi M 121 26 = nI 1 → ∃ b e, b ≤ e ∧ e ≤ 400 ∧ eg_gi M 121 29 = nI b ∧ eg_gi M 121 30 = nI e)) from ?_) ?_
  · exact g0
  refine And.intro (fun (c1 : (b2i (m_iw M 20)) = 0) => ?_) (fun (c1 : ¬ (b2i (m_iw M 20)) = 0) => ?_)
  · replace c1 := b2i_0.mp c1
    show Qp (.inl none) M
    exact l0 c1
  · replace c1 := b2i_ff c1
    refine And.intro (show ((∃ p n, p ≤ n ∧ n ≤ 400 ∧ eg_gi M 121 24 = nI p ∧ eg_gi M 121 25 = nI n) ∧ m_tb M) from ?_) ?_
    · exact g1 c1
    intro M2_1 ha_1
    show eg_T wd (k_X12_readExpression dd) Qp 82 0 0 [some (.ref 121), some (.int rr), some (.int ar), o3] [] M2_1
    exact l1 c1 M2_1 ha_1

set_option maxRecDepth 100000 in
theorem st_X12_readExpression_82 {dd : Nat} {Qp : eg_P} {M : eg_M} (rr : Int32) (ar : Int32) (o3 : Option Value)
  (g0 : ((0 < dd ∨ ¬ eg_gi M 121 31 = 0) ∧ dd ≤ 6 ∧ vp_in rr 8 ∧ (∃ d s, m_rs rr.toNatClampNeg d 0 M s) ∧ m_tb M ∧ ar = nI (6 - dd)))
  (l0 : ∀ (M2_1 : eg_M), (m_rR rr.toNatClampNeg M M2_1 (px_and (eg_gi M 139) (eg_gi M 121 25).toNatClampNeg (px_E (eg_gi M 139) (eg_gi M 121 25).toNatClampNeg (dd - 1)))) → eg_T wd (k_X12_readExpression dd) Qp 88 0 0 [some (.ref 121), some (.int rr), some (.int ar), o3] [] M2_1) :
  eg_T wd (k_X12_readExpression dd) Qp 82 0 0 [some (.ref 121), some (.int rr), some (.int ar), o3] [] M := by
  refine eg_T_run (mk_X12_readExpression dd) (cut := [62, 68, 82, 88]) 55 ?_
  refine And.intro (show ((0 < dd ∨ ¬ eg_gi M 121 31 = 0) ∧ dd ≤ 6 ∧ vp_in rr 8 ∧ (∃ d s, m_rs rr.toNatClampNeg d 0 M s) ∧ m_tb M ∧ ar = nI (6 - dd)) from ?_) ?_
  · exact g0
  intro M2_1 ha_1
  show eg_T wd (k_X12_readExpression dd) Qp 88 0 0 [some (.ref 121), some (.int rr), some (.int ar), o3] [] M2_1
  exact l0 M2_1 ha_1

set_option maxRecDepth 100000 in
theorem st_X12_readExpression_88 {dd : Nat} {Qp : eg_P} {M : eg_M} (rr : Int32) (ar : Int32) (o3 : Option Value)
  (g0 : (eg_gi M 121 31 = 0 → vp_in (nI 640 * rr + eg_gi M 121 34) 5120))
  (l0 : eg_T wd (k_X12_readExpression dd) Qp 68 0 0 [some (.ref 121), some (.int rr), some (.int ar), o3] [] (m_em M rr (nI 8))) :
  eg_T wd (k_X12_readExpression dd) Qp 88 0 0 [some (.ref 121), some (.int rr), some (.int ar), o3] [] M := by
  refine eg_T_run (mk_X12_readExpression dd) (cut := [62, 68, 82, 88]) 55 ?_
  refine And.intro (show (eg_gi M 121 31 = 0 → vp_in (nI 640 * rr + eg_gi M 121 34) 5120) from ?_) ?_
  · exact g0
  show eg_T wd (k_X12_readExpression dd) Qp 68 0 0 [some (.ref 121), some (.int rr), some (.int ar), o3] [] (m_em M rr (nI 8))
  exact l0

set_option maxRecDepth 100000 in
set_option maxHeartbeats 1000000 in
theorem T_X12_readExpression_r (dd : Nat) {argv : List Value} {M : eg_M} {Qp : eg_P} (h : s_X12_readExpression_r (dd + 1) argv M Qp) : eg_T wd (k_X12_readExpression dd) Qp 0 0 0 (eg_lsN 4 argv) [] M := by
  unfold s_X12_readExpression_r at h
  split at h
  · rename_i rr ar
    obtain ⟨hp, hq⟩ := h
    obtain ⟨_, hd7, hrv, ⟨d0, s0, hs0⟩, hT, rfl⟩ := hp
    rw [show 7 - (dd + 1) = 6 - dd by omega] at *
    rw [Nat.add_sub_cancel] at hq
    obtain ⟨r, hr, rfl⟩ := vp_in_of hrv (by decide)
    have hrc : (nI r).toNatClampNeg = r := n_c (by omega)
    rw [hrc] at hs0 hq
    obtain ⟨n, hn, eN, _⟩ := id hs0
    have hnc : (nI n).toNatClampNeg = n := n_c (by omega)
    rw [eN, hnc] at hq
    have hTT := mb_T hT hn
    obtain ⟨q0, qk⟩ := qw_k (T := eg_gi M 139) (w := 20) (x := -nI 1) (by decide)
    have is40 : m_is (nI 40) := by unfold m_is; decide
    have tk : ∀ d t S, m_rs r d 0 M (.inr (t, S)) → eg_gi M 121 26 = m_tk t.2.2 := fun d t S h => by
      obtain ⟨n', hn', eN', g1, g2, ⟨a1, a2, a3, a4, a5, a6⟩, _⟩ := h
      exact a2
    have f62w : ∀ c (o3 : Option Value), 1 ≤ c → c ≤ 3 → eg_gi M 121 31 = 0 → (∀ d s, m_rs r d 0 M s → px_E (eg_gi M 139) n dd s = px_ref c s) → eg_T wd (k_X12_readExpression dd) Qp 62 0 0 [some (.ref 121), some (.int (nI r)), some (.int (nI (6 - dd))), o3] [] (m_wr M (nI c)) := by
      intro c o3 h1 h3 hz he
      have hW : m_fr r M (m_wr M (nI c)) := mr_fq (fq_wr M _)
      have wz : ¬ eg_gi (m_wr M (nI c)) 121 31 = 0 := by
        unfold m_wr
        rw [if_pos hz]
        exact nI_ne0 h1 (show c < 2 ^ 31 by omega)
      have hs1 : ∀ d s, m_rs r d 0 M s → m_rs r d 0 (m_wr M (nI c)) (px_ref c s) := fun d s hs => ms_ref h1 h3 hs (fun _ _ => trivial)
      refine st_X12_readExpression_62 (nI r) (nI (6 - dd)) o3 ⟨Or.inr wz, by omega, hrv, ⟨d0, _, by rw [hrc]; exact hs1 d0 s0 hs0⟩, mr_tb hW hT, rfl⟩ (fun N h => ?_)
      rw [hrc, mr_139 hW, mr_25 hW, eN, hnc] at h
      have hf := mr_tr hW h.1
      have hsN : ∀ d s, m_rs r d 0 M s → m_rs r d 1 N (px_ref c s) := by
        intro d s hs
        have := h.2 _ _ (hs1 d s hs)
        obtain ⟨t, S, rfl⟩ := (ms_0 hs).mp hz
        have e : px_and (eg_gi M 139) n (px_E (eg_gi M 139) n (dd - 1)) (px_ref c (.inr (t, S))) = px_ref c (.inr (t, S)) := (px_aG hn hTT (dd - 1)).1 (c, t.1)
        rw [e] at this
        exact this
      have hb : ¬ eg_gi N 121 31 = 0 := fun y => by
        obtain ⟨t, S, e0⟩ := (ms_0 hs0).mp hz
        have := hsN d0 s0 hs0
        rw [e0] at this
        obtain ⟨t', S', e⟩ := (ms_0 this).mp y
        cases e
      have hi : m_iw N 20 = false := by
        cases hx : m_iw N 20 with
        | false => rfl
        | true => exact absurd (iw_0 (by rw [hx]; exact Bool.noConfusion)) hb
      exact st_X12_readExpression_68 (nI r) (nI (6 - dd)) o3 ⟨by decide, fun y => absurd y hb⟩ (fun y => absurd hi y) (fun _ => hq N ⟨hf, fun d s hs => by rw [he d s hs]; exact hsN d s hs⟩) (fun y => absurd hi y)
    have no : eg_gi M 121 31 = 0 → ¬ eg_gi M 121 26 = nI 2 → ¬ eg_gi M 121 26 = nI 1 → m_sb M (nI 40) = false → ∀ d s, m_rs r d 0 M s → px_E (eg_gi M 139) n dd s = px_ref 1 s := by
      intro hz h2 h1 h4 d s hs
      obtain ⟨t, S, rfl⟩ := (ms_0 hs).mp hz
      rw [px_E_no hn hTT (fun y => h1 ((tk d t S hs).trans (mtk_1.mpr y))) (fun y => h2 ((tk d t S hs).trans (mtk_2.mpr y))) ((sb_f hs is40).1 h4)]
      rfl
    have bd : ¬ eg_gi M 121 31 = 0 → Qp (.inl none) M := fun z => by
      refine hq M ⟨mr_rf r M, fun d s hs => ?_⟩
      match s, hs with
      | .inr (t, S), hs => exact absurd ((ms_0 hs).mpr ⟨t, S, rfl⟩) z
      | .inl x, hs =>
        rw [px_E_l hn hTT]
        exact hs
    by_cases hd : dd = 0
    · subst hd
      have c2 : eg_gi M 121 31 = 0 → (∀ d t S, m_rs r d 0 M (.inr (t, S)) → t.2.2 = -nI 3 ∨ t.2.2 = -nI 2 ∨ t.2.2 = nI 40) → ∀ d s, m_rs r d 0 M s → px_E (eg_gi M 139) n 0 s = px_ref 2 s := by
        intro hz hc d s hs
        obtain ⟨t, S, rfl⟩ := (ms_0 hs).mp hz
        show px_ref (if px_k (.inr (t, S)) = -nI 3 ∨ px_k (.inr (t, S)) = -nI 2 ∨ px_k (.inr (t, S)) = nI 40 then 2 else 1) (.inr (t, S)) = _
        rw [if_pos (show px_k (.inr (t, S)) = -nI 3 ∨ px_k (.inr (t, S)) = -nI 2 ∨ px_k (.inr (t, S)) = nI 40 from hc d t S hs)]
      have h66 : nI (6 - 0) = nI 6 := rfl
      refine st_X12_readExpression_0 (nI r) (nI (6 - 0)) (fun z => f62w 2 _ (by decide) (by decide) z.1 (c2 z.1 (fun d t S hs => ?_))) (fun z => ?_) (fun z => f62w 1 _ (by decide) (by decide) z.1 (no z.1 z.2.1 z.2.2.1 z.2.2.2)) bd
      · rcases z.2 with y | y
        · exact Or.inl (mtk_2.mp ((tk d t S hs).symm.trans y.1))
        · rcases y.2 with w | w
          · exact Or.inr (Or.inl (mtk_1.mp ((tk d t S hs).symm.trans w.1)))
          · exact Or.inr (Or.inr ((sb_f hs is40).2 w.2.1))
      · rcases z.2 with y | y
        · exact absurd h66 y.2
        · rcases y.2 with w | w
          · exact absurd h66 w.2
          · exact absurd h66 w.2.2
    · have n66 : ¬ nI (6 - dd) = nI 6 := by
        rw [n_eq (by omega) (by decide)]
        omega
      refine st_X12_readExpression_0 (nI r) (nI (6 - dd)) (fun z => ?_) (fun z => ?_) (fun z => f62w 1 _ (by decide) (by decide) z.1 (no z.1 z.2.1 z.2.2.1 z.2.2.2)) bd
      · rcases z.2 with y | y
        · exact absurd y.2 n66
        · rcases y.2 with w | w
          · exact absurd w.2 n66
          · exact absurd w.2.2 n66
      · have prc : ∀ N, m_fr r M N → (∃ d s, m_rs r d 0 N s) → ((0 < dd ∨ ¬ eg_gi N 121 31 = 0) ∧ dd ≤ 6 ∧ vp_in (nI r) 8 ∧ (∃ d s, m_rs (nI r).toNatClampNeg d 0 N s) ∧ m_tb N ∧ nI (6 - dd) = nI (6 - dd)) := fun N hf hs => ⟨Or.inl (by omega), by omega, hrv, by rw [hrc]; exact hs, mr_tb hf hT, rfl⟩
        have hP : px_E (eg_gi M 139) n dd = px_or (eg_gi M 139) n (px_E (eg_gi M 139) n (dd - 1)) := by
          obtain ⟨k, rfl⟩ := Nat.exists_eq_add_of_le (show 1 ≤ dd by omega)
          rw [Nat.add_comm]
          rfl
        refine st_X12_readExpression_62 (nI r) (nI (6 - dd)) _ (prc M (mr_rf r M) ⟨d0, s0, hs0⟩) (fun N h => ?_)
        rw [hrc, eN, hnc] at h
        refine m_wll (L := fun N => ∀ o3 : Option Value, eg_T wd (k_X12_readExpression dd) Qp 68 0 0 [some (.ref 121), some (.int (nI r)), some (.int (nI (6 - dd))), o3] [] N) (Ex := fun N => Qp (.inl none) N) (S2 := fun c N => c = nI 8 → ∀ o3 : Option Value, eg_T wd (k_X12_readExpression dd) Qp 82 0 0 [some (.ref 121), some (.int (nI r)), some (.int (nI (6 - dd))), o3] [] N) (P := px_E (eg_gi M 139) n dd) hr hn eN hs0 (px_aG hn hTT (dd - 1)) q0 qk (fun N hf hx X1 X2 o3 => ?_) (fun c N2 hf hs2 hb2 hz X hc o3 => ?_) (fun N h => hq N h) 400 N _ h.1 h.2 (px_aG hn hTT (dd - 1)).1 (fun _ _ _ => by rw [hP]; rfl) (fun t S _ => by omega) _
        · obtain ⟨d1, s1, hs1⟩ := hx
          have hw : ∀ d e s, m_rs r d e N s → m_iw N 20 = px_is (eg_gi M 139) 20 s := fun d e s hs => by
            rw [ms_iw hs, mr_139 hf]
          refine st_X12_readExpression_68 (nI r) (nI (6 - dd)) o3 ⟨by decide, ms_wp hs1⟩ (fun z => ⟨ms_st hs1 (iw_0 z), mr_tb hf hT⟩) (fun z => X1 (fun d e s hs => ?_)) (fun z N2 h2 => X2 (-nI 1) (nI 8) (by decide) (fun d e s hs => ?_) N2 h2 rfl o3)
          · unfold px_qw
            rw [← hw d e s hs, z, if_neg Bool.noConfusion]
          · unfold px_qw
            rw [← hw d e s hs, bq_t z, if_pos rfl]
        · subst hc
          refine st_X12_readExpression_82 (nI r) (nI (6 - dd)) o3 (prc N2 hf hs2) (fun N3 h3 => ?_)
          rw [hrc, mr_139 hf, mr_25 hf, eN, hnc] at h3
          obtain ⟨x1, x2⟩ := X N3 h3
          exact st_X12_readExpression_88 (nI r) (nI (6 - dd)) o3 x1 (x2 o3)
    
  · exact h.elim
theorem de_X12_readExpression (dd : Nat) : ∀ q ∈ (k_X12_readExpression dd).1, decode cX12_readExpression q.1 = .ok q.2 := by show ∀ q ∈ (k_X12_readExpression 0).1, decode cX12_readExpression q.1 = .ok q.2; decide +kernel
theorem me_X12_readExpression_r (g : gl_T) : ∀ dd : Nat, MT g yX12_readExpression cX12_readExpression 4 none ⟨6 + 6 * dd, 0, 0, 129 + 138 * dd⟩ 0 0 (s_X12_readExpression_r dd)
  | 0 => fun _ _ argv M Qp _ hS => (sF_X12_readExpression_r argv M Qp hS).elim
  | dd + 1 => by
    have ih_X12_readExpression := me_X12_readExpression_r g dd
    intro hl
    exact eg_met_of (k := k_X12_readExpression dd) (by decide) rfl ⟨Nat.le_refl _, Nat.le_refl _⟩ rfl (sz_X12_readExpression_r (dd + 1)) (de_X12_readExpression dd) (fun meth hn => (fc (eg_FL_of wd_c12 (by decide) lf_RX12_272 (fun h => absurd h (by decide))) (fc (eg_FL_of wd_c12 (by decide) lf_RX12_294 (fun h => absurd h (by decide))) (fn)))) (fun A s H hE => (fc (⟨"or", hE.2.2.2.1 (RX12, 360, "or", 20) (List.mem_of_getElem? (i := 45) rfl)⟩) (fn))) (fun p e s m args below meth c Q A ad0 N0 S0 hK hEx hA => (fc (mt_V hl S0 hK hEx hA (me_X12_isSign_v g) lm_RX12_308 li_X12_isSign lx_X12_isSign ln_RX12 lc_X12_isSign ⟨rfl, by decide, by decide, by decide +kernel⟩ ⟨rfl, rfl⟩ ⟨by dsimp only; omega, by dsimp only; omega⟩ (ci := 12) rfl rfl sr_X12_isSign_v (by decide)) (fc (mt_V hl S0 hK hEx hA (me_X12_wrong_v g) lm_RX12_311 li_X12_wrong lx_X12_wrong ln_RX12 lc_X12_wrong ⟨rfl, by decide, by decide, by decide +kernel⟩ ⟨rfl, rfl⟩ ⟨by dsimp only; omega, by dsimp only; omega⟩ (ci := 12) rfl rfl sr_X12_wrong_v (by decide)) (fc (mt_V hl S0 hK hEx hA (me_X12_step g) lm_RX12_315 li_X12_step lx_X12_step ln_RX12 lc_X12_step ⟨rfl, by decide, by decide, by decide +kernel⟩ ⟨rfl, rfl⟩ ⟨by dsimp only; omega, by dsimp only; omega⟩ (ci := 12) rfl rfl sr_X12_step (by decide)) (fc (mt_V hl S0 hK hEx hA (me_X12_is g) lm_RX12_321 li_X12_is lx_X12_is ln_RX12 lc_X12_is ⟨rfl, by decide, by decide, by decide +kernel⟩ ⟨rfl, rfl⟩ ⟨by dsimp only; omega, by dsimp only; omega⟩ (ci := 12) rfl rfl sr_X12_is (by decide)) (fc (mt_V hl S0 hK hEx hA (me_X12_emit_v g) lm_RX12_328 li_X12_emit lx_X12_emit ln_RX12 lc_X12_emit ⟨rfl, by decide, by decide, by decide +kernel⟩ ⟨rfl, rfl⟩ ⟨by dsimp only; omega, by dsimp only; omega⟩ (ci := 12) rfl rfl sr_X12_emit_v (by decide)) (fc (mt_V hl S0 hK hEx hA (me_X12_readAnd_r g dd ih_X12_readExpression) lm_RX12_357 li_X12_readAnd lx_X12_readAnd ln_RX12 lc_X12_readAnd ⟨rfl, by decide, by decide, by decide +kernel⟩ ⟨rfl, rfl⟩ ⟨(show 11 + 6 * dd + 1 ≤ 6 + 6 * (dd + 1) by omega), (show 8 + (3 + 11) + (245 + 138 * dd) ≤ 129 + 138 * (dd + 1) by omega)⟩ (ci := 12) rfl rfl (sr_X12_readAnd_r dd) (by decide)) (fn)))))))) (fun p e s m args below meth c Qc XC A ad0 N0 P S0 hK hEx hA hlk hout hPX => (fn)) (fun argv M Qp h => T_X12_readExpression_r dd h)
def s_X12_readExpression : eg_S := s_X12_readExpression_r 7
theorem mo_X12_readExpression : eg_mono s_X12_readExpression := mo_X12_readExpression_r 7
theorem sr_X12_readExpression : ∀ argv M Qp, s_X12_readExpression argv M Qp → ∃ p0 As, argv = .ref p0 :: As ∧ eg_isO wd M p0 12 = true := sr_X12_readExpression_r 7
theorem me_X12_readExpression (g : gl_T) : MT g yX12_readExpression cX12_readExpression 4 none ⟨48, 0, 0, 1095⟩ 0 0 s_X12_readExpression := me_X12_readExpression_r g 7

/-! clauses, in plain words -/
/-- behind a formula's first expression -/
def px_ul (T : Nat → Int32) (n : Nat) (s : px_S) : px_S := if px_is T 28 s = true then px_put (-nI 10) (px_E T n 6 (px_adv T n s)) else s
def px_cl2 (T : Nat → Int32) (n : Nat) (b : Bool) (s : px_S) : px_S := px_sgn T n (nI 59) (if b = true then px_ul T n (px_E T n 6 (px_adv T n s)) else px_num T n (px_adv T n s))
def px_h1 (T : Nat → Int32) (ok : Bool) (s : px_S) : px_S := if px_is T 4 s = false ∧ px_is T 25 s = false ∧ px_is T 22 s = false ∧ px_is T 23 s = false then px_ref 1 s else if ok = true then s else px_ref 2 s
/-- one clause, its steps -/
def px_clS (T : Nat → Int32) (n : Nat) (ok : Bool) (s : px_S) : px_S := px_cl2 T n (px_is T 4 s || px_is T 25 s) (px_h1 T ok s)
/-- the class: all but the reader is as it was -/
def k_fz (M N : eg_M) : Prop := N.1 = M.1 ∧ N.2.2 = M.2.2 ∧ ∀ q j, ¬ (27 ≤ q ∧ q ≤ 29) → ¬ (q = 25 ∧ ¬ j = 1) → eg_gi N q j = eg_gi M q j
theorem fz_fr {M N : eg_M} (h : k_fr M N) : k_fz M N := ⟨h.1, h.2.1, fun q j a b => h.2.2 q j (by omega) (by omega)⟩
theorem fz_rf (M : eg_M) : k_fz M M := ⟨rfl, rfl, fun _ _ _ _ => rfl⟩
theorem fz_tr {M N O : eg_M} (h1 : k_fz M N) (h2 : k_fz N O) : k_fz M O := ⟨h2.1.trans h1.1, h2.2.1.trans h1.2.1, fun q j a b => (h2.2.2 q j a b).trans (h1.2.2 q j a b)⟩
theorem fz_25 {M : eg_M} {j : Nat} {v : Int32} (h : ¬ j = 1) : k_fz M (eg_si M 25 j v) := ⟨rfl, rfl, fun q i _ b => by
  rw [si_g, if_neg (fun z => b ⟨z.1, by rw [z.2]; exact h⟩)]⟩
theorem fz_28 {M : eg_M} {p j : Nat} {v : Int32} (h : 27 ≤ p ∧ p ≤ 29) : k_fz M (eg_si M p j v) := ⟨rfl, rfl, fun q i a _ => by
  rw [si_g, if_neg (fun z => a (by rw [z.1]; exact h))]⟩
theorem fz_26 {M N : eg_M} (h : k_fz M N) : eg_gi N 26 = eg_gi M 26 := funext (fun j => h.2.2 26 j (by omega) (by omega))
theorem fz_1 {M N : eg_M} (h : k_fz M N) : eg_gi N 25 1 = eg_gi M 25 1 := h.2.2 25 1 (by omega) (by omega)
theorem tb_fz {M N : eg_M} (h : k_fz M N) (hT : k_tb M) : k_tb N := fun j hj => by
  rw [fz_26 h]
  exact hT j hj
theorem rs_0 {M : eg_M} {s : px_S} (h : k_rs M s) (h0 : eg_gi M 25 5 = 0) : ∃ t S, s = .inr (t, S) := by
  match s, h with
  | .inl (c, p), ⟨n, hn, eN, h⟩ =>
    rw [h.2.2.2.1] at h0
    exact absurd h0 (nI_ne0 (by omega) (by omega))
  | .inr (t, S), h => exact ⟨t, S, rfl⟩
theorem rs_l5 {M : eg_M} {e : Nat × Nat} (h : k_rs M (.inl e)) : ¬ eg_gi M 25 5 = 0 := fun h0 => by
  obtain ⟨t, S, e⟩ := rs_0 h h0
  cases e
theorem rs_r5 {M : eg_M} {t : px_T} {S : List Int32} (h : k_rs M (.inr (t, S))) : eg_gi M 25 5 = 0 := by
  obtain ⟨n, hn, eN, h1, _⟩ := h
  exact h1
theorem rs_sz {M : eg_M} {t : px_T} {S : List Int32} (h : k_rs M (.inr (t, S))) : eg_gi M 25 8 = nI S.length ∧ S.length ≤ 400 := by
  obtain ⟨n, hn, eN, h1, h2, h3, h4, h5, h6, h7, h8, h9, _⟩ := h
  exact ⟨h8, h9⟩
/-- keeping a formula -/
def k_kf (M : eg_M) (kd : Int32) : eg_M := if nI 12 ≤ eg_gi M 25 11 then M else eg_si (eg_si (eg_si M 28 (eg_gi M 25 11).toNatClampNeg kd) 29 (eg_gi M 25 11).toNatClampNeg (eg_gi M 25 8)) 25 11 (eg_gi M 25 11 + nI 1)
theorem fz_kf (M : eg_M) (kd : Int32) : k_fz M (k_kf M kd) := by
  unfold k_kf
  split
  · exact fz_rf M
  · exact fz_tr (fz_28 (by omega)) (fz_tr (fz_28 (by omega)) (fz_25 (by omega)))
theorem rs_kf {M : eg_M} {kd : Int32} {s : px_S} (h : k_rs M s) : k_rs (k_kf M kd) s := by
  unfold k_kf
  split
  · exact h
  · obtain ⟨n, hn, eN, h⟩ := h
    exact ⟨n, hn, eN, h⟩
theorem rs_pr {M : eg_M} {a b : Int32} {s : px_S} (h : k_rs M s) : k_rs (eg_si (eg_si M 25 12 a) 25 13 b) s := by
  obtain ⟨n, hn, eN, h⟩ := h
  exact ⟨n, hn, eN, h⟩
/-- the class: what a clause leaves beside its steps -/
def k_kz (M M2 : eg_M) : Prop := if k_iw M 4 = true ∨ k_iw M 25 = true then (¬ nI 12 ≤ eg_gi M 25 11 → eg_gi M2 25 11 = eg_gi M 25 11 + nI 1 ∧ (∀ j, eg_gi M2 28 j = if j = (eg_gi M 25 11).toNatClampNeg then (if k_iw M 4 = true then nI 0 else nI 1) else eg_gi M 28 j) ∧ (∀ j, eg_gi M2 29 j = if j = (eg_gi M 25 11).toNatClampNeg then eg_gi M2 25 8 else eg_gi M 29 j)) ∧ eg_gi M2 25 12 = eg_gi M 25 12 ∧ eg_gi M2 25 13 = eg_gi M 25 13
  else eg_gi M2 25 11 = eg_gi M 25 11 ∧ (∀ j, eg_gi M2 28 j = eg_gi M 28 j) ∧ (∀ j, eg_gi M2 29 j = eg_gi M 29 j) ∧ ∃ v, (∀ t S, k_rs (k_ad M) (.inr (t, S)) → t.2.2 = -nI 3 → t.2.1 ≤ t.1 + 6 → v = px_n (eg_gi M 26) t.1 (t.2.1 - t.1)) ∧ eg_gi M2 25 12 = (if k_iw M 22 = true then v else eg_gi M 25 12) ∧ eg_gi M2 25 13 = (if k_iw M 22 = true then eg_gi M 25 13 else v)
/-- what the reader's own steps leave of that -/
def k_sk (M N : eg_M) : Prop := (∀ j, ¬ j = 2 → ¬ j = 3 → ¬ j = 4 → ¬ j = 5 → ¬ j = 6 → ¬ j = 8 → eg_gi N 25 j = eg_gi M 25 j) ∧ (∀ j, eg_gi N 28 j = eg_gi M 28 j) ∧ ∀ j, eg_gi N 29 j = eg_gi M 29 j
theorem sk_fr {M N : eg_M} (h : k_fr M N) : k_sk M N := ⟨fun j a b c d e f => h.2.2 25 j (by decide) (by omega), fun j => h.2.2 28 j (by decide) (by omega), fun j => h.2.2 29 j (by decide) (by omega)⟩
theorem sk_11 {M N : eg_M} (h : k_sk M N) : eg_gi N 25 11 = eg_gi M 25 11 ∧ eg_gi N 25 12 = eg_gi M 25 12 ∧ eg_gi N 25 13 = eg_gi M 25 13 := ⟨h.1 11 (by decide) (by decide) (by decide) (by decide) (by decide) (by decide), h.1 12 (by decide) (by decide) (by decide) (by decide) (by decide) (by decide), h.1 13 (by decide) (by decide) (by decide) (by decide) (by decide) (by decide)⟩
theorem kz_sk {M N N2 : eg_M} (h : k_sk N N2) (e8 : eg_gi N2 25 8 = eg_gi N 25 8) (hk : k_kz M N) : k_kz M N2 := by
  obtain ⟨e11, e12, e13⟩ := sk_11 h
  unfold k_kz at hk ⊢
  rw [e11, e12, e13, e8]
  simp only [h.2.1, h.2.2]
  exact hk
theorem kz_kf {M N : eg_M} {kd : Int32} (h : k_sk M N) (hG : k_iw M 4 = true ∨ k_iw M 25 = true) (hkd : kd = if k_iw M 4 = true then nI 0 else nI 1) : k_kz M (k_kf N kd) := by
  obtain ⟨e11, e12, e13⟩ := sk_11 h
  unfold k_kz k_kf
  rw [if_pos hG, e11]
  by_cases hl : nI 12 ≤ eg_gi M 25 11
  · rw [if_pos hl]
    exact ⟨fun z => absurd hl z, e12, e13⟩
  · rw [if_neg hl]
    refine ⟨fun _ => ⟨rfl, fun j => ?_, fun j => ?_⟩, e12, e13⟩
    · show eg_gi (eg_si N 28 (eg_gi M 25 11).toNatClampNeg kd) 28 j = _
      rw [si_g, h.2.1, hkd]
      by_cases hj : j = (eg_gi M 25 11).toNatClampNeg
      · rw [if_pos ⟨rfl, hj⟩, if_pos hj]
      · rw [if_neg (fun z => hj z.2), if_neg hj]
    · show eg_gi (eg_si N 29 (eg_gi M 25 11).toNatClampNeg (eg_gi N 25 8)) 29 j = (if j = (eg_gi M 25 11).toNatClampNeg then eg_gi N 25 8 else eg_gi M 29 j)
      rw [si_g, h.2.2]
      by_cases hj : j = (eg_gi M 25 11).toNatClampNeg
      · rw [if_pos ⟨rfl, hj⟩, if_pos hj]
      · rw [if_neg (fun z => hj z.2), if_neg hj]
theorem cn_kf {N : eg_M} {kd : Int32} (h : eg_cn (eg_gi N 25 11) 12) : eg_cn (eg_gi (k_kf N kd) 25 11) 12 := by
  obtain ⟨m, hm, em⟩ := h
  unfold k_kf
  rw [em]
  by_cases hl : 12 ≤ m
  · rw [if_pos ((n_le (by decide) (by omega)).mpr hl)]
    exact ⟨m, hm, em⟩
  · rw [if_neg (fun z => hl ((n_le (by decide) (by omega)).mp z))]
    exact ⟨m + 1, by omega, by rw [← n_s]; rfl⟩
def k_X7_readClause : eg_C := ([(0, .aload_n 0, 1), (1, .ldc 76, 2), (3, .invokevirtual 78, 3), (6, .istore_n 2, 1), (7, .aload_n 0, 1), (8, .ldc 82, 2), (10, .invokevirtual 78, 3), (13, .istore_n 3, 1), (14, .iload_n 2, 1), (15, .ifCond .ne 12, 3), (18, .aload_n 0, 1), (19, .ldc 83, 2), (21, .invokevirtual 78, 3), (24, .ifCond .eq 7, 3), (27, .iconst 1, 1), (28, .goto 4, 3), (31, .iconst 0, 1), (32, .istore 4, 2), (34, .iload 4, 2), (36, .ifCond .ne 24, 3), (39, .iload_n 3, 1), (40, .ifCond .ne 20, 3), (43, .aload_n 0, 1), (44, .ldc 85, 2), (46, .invokevirtual 78, 3), (49, .ifCond .ne 11, 3), (52, .aload_n 0, 1), (53, .iconst 1, 1), (54, .invokevirtual 86, 3), (57, .goto 14, 3), (60, .iload_n 1, 1), (61, .bipush 12, 2), (63, .if_icmp .lt 8, 3), (66, .aload_n 0, 1), (67, .iconst 2, 1), (68, .invokevirtual 86, 3), (71, .aload_n 0, 1), (72, .invokevirtual 64, 3), (75, .iload 4, 2), (77, .ifCond .eq 48, 3), (80, .aload_n 0, 1), (81, .iconst 0, 1), (82, .invokevirtual 90, 3), (85, .aload_n 0, 1), (86, .ldc 93, 2), (88, .invokevirtual 78, 3), (91, .ifCond .eq 18, 3), (94, .aload_n 0, 1), (95, .invokevirtual 64, 3), (98, .aload_n 0, 1), (99, .iconst 0, 1), (100, .invokevirtual 90, 3), (103, .aload_n 0, 1), (104, .bipush (-10), 2), (106, .invokevirtual 95, 3), (109, .aload_n 0, 1), (110, .iload_n 2, 1), (111, .ifCond .eq 7, 3), (114, .iconst 0, 1), (115, .goto 4, 3), (118, .iconst 1, 1), (119, .invokevirtual 98, 3), (122, .goto 43, 3), (125, .aload_n 0, 1), (126, .invokevirtual 101, 3), (129, .istore 5, 2), (131, .aload_n 0, 1), (132, .iload_n 3, 1), (133, .ifCond .eq 8, 3), (136, .iload 5, 2), (138, .goto 7, 3), (141, .aload_n 0, 1), (142, .getfield 51, 3), (145, .putfield 51, 3), (148, .aload_n 0, 1), (149, .iload_n 3, 1), (150, .ifCond .eq 10, 3), (153, .aload_n 0, 1), (154, .getfield 54, 3), (157, .goto 5, 3), (160, .iload 5, 2), (162, .putfield 54, 3), (165, .aload_n 0, 1), (166, .bipush 59, 2), (168, .invokevirtual 105, 3), (171, .return_, 1)], [(51, 7, 12, true), (54, 7, 13, true)], [(76, .retAddr 4), (82, .retAddr 22), (83, .retAddr 25), (85, .retAddr 23), (93, .retAddr 28)], [(64, 0 + 1, 0, 0, s_X7_advance), (78, 1 + 1, 0, 0, s_X7_isWord), (86, 1 + 1, 0, 0, s_X7_refuse_v), (90, 1 + 1, 0, 0, s_X7_readExpr), (95, 1 + 1, 0, 0, s_X7_put_v), (98, 1 + 1, 0, 0, s_X7_keepFormula), (101, 0 + 1, 0, 0, s_X7_readNumber), (105, 1 + 1, 0, 0, s_X7_readSign)], [], 0, 0, 0)
theorem mk_X7_readClause : ∀ q ∈ k_X7_readClause.2.2.2.1, eg_mono q.2.2.2.2 := (fc (mo_X7_advance) (fc (mo_X7_isWord) (fc (mo_X7_refuse_v) (fc (mo_X7_readExpr) (fc (mo_X7_put_v) (fc (mo_X7_keepFormula) (fc (mo_X7_readNumber) (fc (mo_X7_readSign) (fn)))))))))
set_option maxRecDepth 100000 in
theorem st_X7_readClause_0 {Qp : eg_P} {M : eg_M} (a : Int32)
  (g0 : (4 < 32 ∧ (eg_gi M 25 2 = -nI 2 → ∃ b e, b ≤ e ∧ e ≤ 400 ∧ eg_gi M 25 3 = nI b ∧ eg_gi M 25 4 = nI e)))
  (g1 : (22 < 32 ∧ (eg_gi M 25 2 = -nI 2 → ∃ b e, b ≤ e ∧ e ≤ 400 ∧ eg_gi M 25 3 = nI b ∧ eg_gi M 25 4 = nI e)))
  (g2 : ((k_iw M 4) = false) → (25 < 32 ∧ (eg_gi M 25 2 = -nI 2 → ∃ b e, b ≤ e ∧ e ≤ 400 ∧ eg_gi M 25 3 = nI b ∧ eg_gi M 25 4 = nI e)))
  (g3 : ((k_iw M 4) = false) → ((k_iw M 25) = false) → ((k_iw M 22) = false) → (23 < 32 ∧ (eg_gi M 25 2 = -nI 2 → ∃ b e, b ≤ e ∧ e ≤ 400 ∧ eg_gi M 25 3 = nI b ∧ eg_gi M 25 4 = nI e)))
  (l0 : ((k_iw M 4) = false ∧ ((k_iw M 25) = false ∧ ((k_iw M 22) = false ∧ (k_iw M 23) = false))) → eg_T wd k_X7_readClause Qp 71 0 0 [some (.ref 25), some (.int a), some (.int (b2i (k_iw M 4))), some (.int (b2i (k_iw M 22))), some (.int (nI 0)), none] [] (k_rf1 M (nI 1)))
  (l1 : ((k_iw M 4) = false ∧ ((k_iw M 25) = false ∧ (((k_iw M 22) = false ∧ (¬ (k_iw M 23) = false ∧ a < (nI 12))) ∨ (¬ (k_iw M 22) = false ∧ a < (nI 12))))) → eg_T wd k_X7_readClause Qp 71 0 0 [some (.ref 25), some (.int a), some (.int (b2i (k_iw M 4))), some (.int (b2i (k_iw M 22))), some (.int (nI 0)), none] [] M)
  (l2 : ((k_iw M 4) = false ∧ ((k_iw M 25) = false ∧ (((k_iw M 22) = false ∧ (¬ (k_iw M 23) = false ∧ ¬ a < (nI 12))) ∨ (¬ (k_iw M 22) = false ∧ ¬ a < (nI 12))))) → eg_T wd k_X7_readClause Qp 71 0 0 [some (.ref 25), some (.int a), some (.int (b2i (k_iw M 4))), some (.int (b2i (k_iw M 22))), some (.int (nI 0)), none] [] (k_rf1 M (nI 2)))
  (l3 : (((k_iw M 4) = false ∧ (¬ (k_iw M 25) = false ∧ a < (nI 12))) ∨ (¬ (k_iw M 4) = false ∧ a < (nI 12))) → eg_T wd k_X7_readClause Qp 71 0 0 [some (.ref 25), some (.int a), some (.int (b2i (k_iw M 4))), some (.int (b2i (k_iw M 22))), some (.int (nI 1)), none] [] M)
  (l4 : (((k_iw M 4) = false ∧ (¬ (k_iw M 25) = false ∧ ¬ a < (nI 12))) ∨ (¬ (k_iw M 4) = false ∧ ¬ a < (nI 12))) → eg_T wd k_X7_readClause Qp 71 0 0 [some (.ref 25), some (.int a), some (.int (b2i (k_iw M 4))), some (.int (b2i (k_iw M 22))), some (.int (nI 1)), none] [] (k_rf1 M (nI 2))) :
  eg_T wd k_X7_readClause Qp 0 0 0 [some (.ref 25), some (.int a), none, none, none, none] [] M := by
  refine eg_T_run mk_X7_readClause (cut := [71, 85, 103, 109, 129, 165, 171]) 89 ?_
  refine And.intro (show (4 < 32 ∧ (eg_gi M 25 2 = -nI 2 → ∃ b e, b ≤ e ∧ e ≤ 400 ∧ eg_gi M 25 3 = nI b ∧ eg_gi M 25 4 = nI e)) from ?_) ?_
  · exact g0
  refine And.intro (show (22 < 32 ∧ (eg_gi M 25 2 = -nI 2 → ∃ b e, b ≤ e ∧ e ≤ 400 ∧ eg_gi M 25 3 = nI b ∧ eg_gi M 25 4 = nI e)) from ?_) ?_
  · exact g1
  refine And.intro (fun (c1 : (b2i (k_iw M 4)) = 0) => ?_) (fun (c1 : ¬ (b2i (k_iw M 4)) = 0) => ?_)
  · replace c1 := b2i_0.mp c1
    refine And.intro (show (25 < 32 ∧ (eg_gi M 25 2 = -nI 2 → ∃ b e, b ≤ e ∧ e ≤ 400 ∧ eg_gi M 25 3 = nI b ∧ eg_gi M 25 4 = nI e)) from ?_) ?_
    · exact g2 c1
    refine And.intro (fun (c2 : (b2i (k_iw M 25)) = 0) => ?_) (fun (c2 : ¬ (b2i (k_iw M 25)) = 0) => ?_)
    · replace c2 := b2i_0.mp c2
      refine And.intro (fun (c3 : (nI 0) = 0) => ?_) (fun (c3 : ¬ (nI 0) = 0) => ?_)
      · skip
        refine And.intro (fun (c4 : (b2i (k_iw M 22)) = 0) => ?_) (fun (c4 : ¬ (b2i (k_iw M 22)) = 0) => ?_)
        · replace c4 := b2i_0.mp c4
          refine And.intro (show (23 < 32 ∧ (eg_gi M 25 2 = -nI 2 → ∃ b e, b ≤ e ∧ e ≤ 400 ∧ eg_gi M 25 3 = nI b ∧ eg_gi M 25 4 = nI e)) from ?_) ?_
          · exact g3 c1 c2 c4
          refine And.intro (fun (c5 : (b2i (k_iw M 23)) = 0) => ?_) (fun (c5 : ¬ (b2i (k_iw M 23)) = 0) => ?_)
          · replace c5 := b2i_0.mp c5
            refine And.intro (show (True) from ?_) ?_
            · exact trivial
            show eg_T wd k_X7_readClause Qp 71 0 0 [some (.ref 25), some (.int a), some (.int (b2i (k_iw M 4))), some (.int (b2i (k_iw M 22))), some (.int (nI 0)), none] [] (k_rf1 M (nI 1))
            exact l0 ⟨c1, ⟨c2, ⟨c4, c5⟩⟩⟩
          · replace c5 := b2i_ff c5
            refine And.intro (fun (c6 : a < (nI 12)) => ?_) (fun (c6 : ¬ a < (nI 12)) => ?_)
            · skip
              show eg_T wd k_X7_readClause Qp 71 0 0 [some (.ref 25), some (.int a), some (.int (b2i (k_iw M 4))), some (.int (b2i (k_iw M 22))), some (.int (nI 0)), none] [] M
              exact l1 ⟨c1, ⟨c2, (Or.inl ⟨c4, ⟨c5, c6⟩⟩)⟩⟩
            · skip
              refine And.intro (show (True) from ?_) ?_
              · exact trivial
              show eg_T wd k_X7_readClause Qp 71 0 0 [some (.ref 25), some (.int a), some (.int (b2i (k_iw M 4))), some (.int (b2i (k_iw M 22))), some (.int (nI 0)), none] [] (k_rf1 M (nI 2))
              exact l2 ⟨c1, ⟨c2, (Or.inl ⟨c4, ⟨c5, c6⟩⟩)⟩⟩
        · replace c4 := b2i_ff c4
          refine And.intro (fun (c7 : a < (nI 12)) => ?_) (fun (c7 : ¬ a < (nI 12)) => ?_)
          · skip
            show eg_T wd k_X7_readClause Qp 71 0 0 [some (.ref 25), some (.int a), some (.int (b2i (k_iw M 4))), some (.int (b2i (k_iw M 22))), some (.int (nI 0)), none] [] M
            exact l1 ⟨c1, ⟨c2, (Or.inr ⟨c4, c7⟩)⟩⟩
          · skip
            refine And.intro (show (True) from ?_) ?_
            · exact trivial
            show eg_T wd k_X7_readClause Qp 71 0 0 [some (.ref 25), some (.int a), some (.int (b2i (k_iw M 4))), some (.int (b2i (k_iw M 22))), some (.int (nI 0)), none] [] (k_rf1 M (nI 2))
            exact l2 ⟨c1, ⟨c2, (Or.inr ⟨c4, c7⟩)⟩⟩
      · exact absurd (show (nI 0) = 0 by decide) c3
    · replace c2 := b2i_ff c2
      refine And.intro (fun (c8 : (nI 1) = 0) => ?_) (fun (c8 : ¬ (nI 1) = 0) => ?_)
      · exact absurd c8 (show ¬ (nI 1) = 0 by decide)
      · skip
        refine And.intro (fun (c9 : a < (nI 12)) => ?_) (fun (c9 : ¬ a < (nI 12)) => ?_)
        · skip
          show eg_T wd k_X7_readClause Qp 71 0 0 [some (.ref 25), some (.int a), some (.int (b2i (k_iw M 4))), some (.int (b2i (k_iw M 22))), some (.int (nI 1)), none] [] M
          exact l3 (Or.inl ⟨c1, ⟨c2, c9⟩⟩)
        · skip
          refine And.intro (show (True) from ?_) ?_
          · exact trivial
          show eg_T wd k_X7_readClause Qp 71 0 0 [some (.ref 25), some (.int a), some (.int (b2i (k_iw M 4))), some (.int (b2i (k_iw M 22))), some (.int (nI 1)), none] [] (k_rf1 M (nI 2))
          exact l4 (Or.inl ⟨c1, ⟨c2, c9⟩⟩)
  · replace c1 := b2i_ff c1
    refine And.intro (fun (c10 : (nI 1) = 0) => ?_) (fun (c10 : ¬ (nI 1) = 0) => ?_)
    · exact absurd c10 (show ¬ (nI 1) = 0 by decide)
    · skip
      refine And.intro (fun (c11 : a < (nI 12)) => ?_) (fun (c11 : ¬ a < (nI 12)) => ?_)
      · skip
        show eg_T wd k_X7_readClause Qp 71 0 0 [some (.ref 25), some (.int a), some (.int (b2i (k_iw M 4))), some (.int (b2i (k_iw M 22))), some (.int (nI 1)), none] [] M
        exact l3 (Or.inr ⟨c1, c11⟩)
      · skip
        refine And.intro (show (True) from ?_) ?_
        · exact trivial
        show eg_T wd k_X7_readClause Qp 71 0 0 [some (.ref 25), some (.int a), some (.int (b2i (k_iw M 4))), some (.int (b2i (k_iw M 22))), some (.int (nI 1)), none] [] (k_rf1 M (nI 2))
        exact l4 (Or.inr ⟨c1, c11⟩)

set_option maxRecDepth 100000 in
theorem st_X7_readClause_71 {Qp : eg_P} {M : eg_M} (o1 : Option Value) (x2 : Int32) (x3 : Int32) (x4 : Int32) (o5 : Option Value)
  (g0 : (eg_gi M 25 5 = 0 → ∃ p n, p ≤ n ∧ n ≤ 400 ∧ eg_gi M 25 4 = nI p ∧ eg_gi M 25 1 = nI n))
  (g1 : (x4 = 0) → ((∃ s, k_rs (k_ad M) s) ∧ k_tb (k_ad M)))
  (g2 : (¬ (x4 = 0)) → (0 < 7 ∧ 7 ≤ 7 ∧ (∃ s, k_rs (k_ad M) s) ∧ k_tb (k_ad M) ∧ (nI 0) = nI (7 - 7)))
  (l0 : (x4 = 0) → ∀ (v_1 : Int32) (M2_1 : eg_M), (k_rr (k_ad M) M2_1 (px_num (eg_gi (k_ad M) 26) (eg_gi (k_ad M) 25 1).toNatClampNeg) ∧ ∀ t S, k_rs (k_ad M) (.inr (t, S)) → t.2.2 = -nI 3 → t.2.1 ≤ t.1 + 6 → v_1 = px_n (eg_gi (k_ad M) 26) t.1 (t.2.1 - t.1)) → eg_T wd k_X7_readClause Qp 129 0 0 [some (.ref 25), o1, some (.int x2), some (.int x3), some (.int x4), o5] [.int v_1] M2_1)
  (l1 : (¬ x4 = 0) → ∀ (M2_2 : eg_M), (k_rr (k_ad M) M2_2 (px_E (eg_gi (k_ad M) 26) (eg_gi (k_ad M) 25 1).toNatClampNeg (7 - 1))) → eg_T wd k_X7_readClause Qp 85 0 0 [some (.ref 25), o1, some (.int x2), some (.int x3), some (.int x4), o5] [] M2_2) :
  eg_T wd k_X7_readClause Qp 71 0 0 [some (.ref 25), o1, some (.int x2), some (.int x3), some (.int x4), o5] [] M := by
  refine eg_T_run mk_X7_readClause (cut := [71, 85, 103, 109, 129, 165, 171]) 89 ?_
  refine And.intro (show (eg_gi M 25 5 = 0 → ∃ p n, p ≤ n ∧ n ≤ 400 ∧ eg_gi M 25 4 = nI p ∧ eg_gi M 25 1 = nI n) from ?_) ?_
  · exact g0
  refine And.intro (fun (c1 : x4 = 0) => ?_) (fun (c1 : ¬ x4 = 0) => ?_)
  · skip
    refine And.intro (show ((∃ s, k_rs (k_ad M) s) ∧ k_tb (k_ad M)) from ?_) ?_
    · exact g1 c1
    intro v_1 M2_1 ha_1
    show eg_T wd k_X7_readClause Qp 129 0 0 [some (.ref 25), o1, some (.int x2), some (.int x3), some (.int x4), o5] [.int v_1] M2_1
    exact l0 c1 v_1 M2_1 ha_1
  · skip
    refine And.intro (show (0 < 7 ∧ 7 ≤ 7 ∧ (∃ s, k_rs (k_ad M) s) ∧ k_tb (k_ad M) ∧ (nI 0) = nI (7 - 7)) from ?_) ?_
    · exact g2 c1
    intro M2_2 ha_2
    show eg_T wd k_X7_readClause Qp 85 0 0 [some (.ref 25), o1, some (.int x2), some (.int x3), some (.int x4), o5] [] M2_2
    exact l1 c1 M2_2 ha_2

set_option maxRecDepth 100000 in
theorem st_X7_readClause_85 {Qp : eg_P} {M : eg_M} (o1 : Option Value) (x2 : Int32) (o3 : Option Value) (x4 : Int32) (o5 : Option Value)
  (g0 : (28 < 32 ∧ (eg_gi M 25 2 = -nI 2 → ∃ b e, b ≤ e ∧ e ≤ 400 ∧ eg_gi M 25 3 = nI b ∧ eg_gi M 25 4 = nI e)))
  (g1 : (¬ ((k_iw M 28) = false)) → (eg_gi M 25 5 = 0 → ∃ p n, p ≤ n ∧ n ≤ 400 ∧ eg_gi M 25 4 = nI p ∧ eg_gi M 25 1 = nI n))
  (g2 : (¬ ((k_iw M 28) = false)) → (0 < 7 ∧ 7 ≤ 7 ∧ (∃ s, k_rs (k_ad M) s) ∧ k_tb (k_ad M) ∧ (nI 0) = nI (7 - 7)))
  (l0 : ((k_iw M 28) = false) → eg_T wd k_X7_readClause Qp 109 0 0 [some (.ref 25), o1, some (.int x2), o3, some (.int x4), o5] [] M)
  (l1 : (¬ (k_iw M 28) = false) → ∀ (M2_1 : eg_M), (k_rr (k_ad M) M2_1 (px_E (eg_gi (k_ad M) 26) (eg_gi (k_ad M) 25 1).toNatClampNeg (7 - 1))) → eg_T wd k_X7_readClause Qp 103 0 0 [some (.ref 25), o1, some (.int x2), o3, some (.int x4), o5] [] M2_1) :
  eg_T wd k_X7_readClause Qp 85 0 0 [some (.ref 25), o1, some (.int x2), o3, some (.int x4), o5] [] M := by
  refine eg_T_run mk_X7_readClause (cut := [71, 85, 103, 109, 129, 165, 171]) 89 ?_
  refine And.intro (show (28 < 32 ∧ (eg_gi M 25 2 = -nI 2 → ∃ b e, b ≤ e ∧ e ≤ 400 ∧ eg_gi M 25 3 = nI b ∧ eg_gi M 25 4 = nI e)) from ?_) ?_
  · exact g0
  refine And.intro (fun (c1 : (b2i (k_iw M 28)) = 0) => ?_) (fun (c1 : ¬ (b2i (k_iw M 28)) = 0) => ?_)
  · replace c1 := b2i_0.mp c1
    show eg_T wd k_X7_readClause Qp 109 0 0 [some (.ref 25), o1, some (.int x2), o3, some (.int x4), o5] [] M
    exact l0 c1
  · replace c1 := b2i_ff c1
    refine And.intro (show (eg_gi M 25 5 = 0 → ∃ p n, p ≤ n ∧ n ≤ 400 ∧ eg_gi M 25 4 = nI p ∧ eg_gi M 25 1 = nI n) from ?_) ?_
    · exact g1 c1
    refine And.intro (show (0 < 7 ∧ 7 ≤ 7 ∧ (∃ s, k_rs (k_ad M) s) ∧ k_tb (k_ad M) ∧ (nI 0) = nI (7 - 7)) from ?_) ?_
    · exact g2 c1
    intro M2_1 ha_1
    show eg_T wd k_X7_readClause Qp 103 0 0 [some (.ref 25), o1, some (.int x2), o3, some (.int x4), o5] [] M2_1
    exact l1 c1 M2_1 ha_1

set_option maxRecDepth 100000 in
theorem st_X7_readClause_103 {Qp : eg_P} {M : eg_M} (o1 : Option Value) (x2 : Int32) (o3 : Option Value) (x4 : Int32) (o5 : Option Value)
  (g0 : (eg_cn (eg_gi M 25 8) 400))
  (l0 : eg_T wd k_X7_readClause Qp 109 0 0 [some (.ref 25), o1, some (.int x2), o3, some (.int x4), o5] [] (k_pu M (-nI 10))) :
  eg_T wd k_X7_readClause Qp 103 0 0 [some (.ref 25), o1, some (.int x2), o3, some (.int x4), o5] [] M := by
  refine eg_T_run mk_X7_readClause (cut := [71, 85, 103, 109, 129, 165, 171]) 89 ?_
  refine And.intro (show (eg_cn (eg_gi M 25 8) 400) from ?_) ?_
  · exact g0
  show eg_T wd k_X7_readClause Qp 109 0 0 [some (.ref 25), o1, some (.int x2), o3, some (.int x4), o5] [] (k_pu M (-nI 10))
  exact l0

set_option maxRecDepth 100000 in
theorem st_X7_readClause_109 {Qp : eg_P} {M : eg_M} (o1 : Option Value) (x2 : Int32) (o3 : Option Value) (x4 : Int32) (o5 : Option Value)
  (g0 : (¬ ((nI 12) ≤ (eg_gi M 25 11))) → (vp_in (eg_gi M 25 11) 12))
  (l0 : ((nI 12) ≤ (eg_gi M 25 11)) → eg_T wd k_X7_readClause Qp 165 0 0 [some (.ref 25), o1, some (.int x2), o3, some (.int x4), o5] [] M)
  (l1 : (x2 = 0 ∧ ¬ (nI 12) ≤ (eg_gi M 25 11)) → eg_T wd k_X7_readClause Qp 165 0 0 [some (.ref 25), o1, some (.int x2), o3, some (.int x4), o5] [] (eg_si (eg_si (eg_si M 28 (eg_gi M 25 11).toNatClampNeg (nI 1)) 29 (eg_gi M 25 11).toNatClampNeg (eg_gi M 25 8)) 25 11 ((eg_gi M 25 11) + (nI 1))))
  (l2 : (¬ x2 = 0 ∧ ¬ (nI 12) ≤ (eg_gi M 25 11)) → eg_T wd k_X7_readClause Qp 165 0 0 [some (.ref 25), o1, some (.int x2), o3, some (.int x4), o5] [] (eg_si (eg_si (eg_si M 28 (eg_gi M 25 11).toNatClampNeg (nI 0)) 29 (eg_gi M 25 11).toNatClampNeg (eg_gi M 25 8)) 25 11 ((eg_gi M 25 11) + (nI 1)))) :
  eg_T wd k_X7_readClause Qp 109 0 0 [some (.ref 25), o1, some (.int x2), o3, some (.int x4), o5] [] M := by
  refine eg_T_run mk_X7_readClause (cut := [71, 85, 103, 109, 129, 165, 171]) 89 ?_
  refine And.intro (fun (c1 : x2 = 0) => ?_) (fun (c1 : ¬ x2 = 0) => ?_)
  · skip
    refine And.intro (fun (c2 : (nI 12) ≤ (eg_gi M 25 11)) => ?_) (fun (c2 : ¬ (nI 12) ≤ (eg_gi M 25 11)) => ?_)
    · skip
      show eg_T wd k_X7_readClause Qp 165 0 0 [some (.ref 25), o1, some (.int x2), o3, some (.int x4), o5] [] M
      exact l0 c2
    · skip
      refine And.intro (show vp_in (eg_gi M 25 11) 12 from ?_) ?_
      · exact g0 (by clear g0 l0 l1 l2; grind)
      refine And.intro (show vp_in (eg_gi M 25 11) 12 from ?_) ?_
      · exact g0 (by clear g0 l0 l1 l2; grind)
      show eg_T wd k_X7_readClause Qp 165 0 0 [some (.ref 25), o1, some (.int x2), o3, some (.int x4), o5] [] (eg_si (eg_si (eg_si M 28 (eg_gi M 25 11).toNatClampNeg (nI 1)) 29 (eg_gi M 25 11).toNatClampNeg (eg_gi M 25 8)) 25 11 ((eg_gi M 25 11) + (nI 1)))
      exact l1 ⟨c1, c2⟩
  · skip
    refine And.intro (fun (c3 : (nI 12) ≤ (eg_gi M 25 11)) => ?_) (fun (c3 : ¬ (nI 12) ≤ (eg_gi M 25 11)) => ?_)
    · skip
      show eg_T wd k_X7_readClause Qp 165 0 0 [some (.ref 25), o1, some (.int x2), o3, some (.int x4), o5] [] M
      exact l0 c3
    · skip
      refine And.intro (show vp_in (eg_gi M 25 11) 12 from ?_) ?_
      · exact g0 (by clear g0 l0 l1 l2; grind)
      refine And.intro (show vp_in (eg_gi M 25 11) 12 from ?_) ?_
      · exact g0 (by clear g0 l0 l1 l2; grind)
      show eg_T wd k_X7_readClause Qp 165 0 0 [some (.ref 25), o1, some (.int x2), o3, some (.int x4), o5] [] (eg_si (eg_si (eg_si M 28 (eg_gi M 25 11).toNatClampNeg (nI 0)) 29 (eg_gi M 25 11).toNatClampNeg (eg_gi M 25 8)) 25 11 ((eg_gi M 25 11) + (nI 1)))
      exact l2 ⟨c1, c3⟩

set_option maxRecDepth 100000 in
theorem st_X7_readClause_129 {Qp : eg_P} {M : eg_M} (o1 : Option Value) (o2 : Option Value) (x3 : Int32) (x4 : Int32) (o5 : Option Value) (s0 : Int32)
  (l0 : (x3 = 0) → eg_T wd k_X7_readClause Qp 165 0 0 [some (.ref 25), o1, o2, some (.int x3), some (.int x4), some (.int s0)] [] (eg_si (eg_si M 25 12 (eg_gi M 25 12)) 25 13 s0))
  (l1 : (¬ x3 = 0) → eg_T wd k_X7_readClause Qp 165 0 0 [some (.ref 25), o1, o2, some (.int x3), some (.int x4), some (.int s0)] [] (eg_si (eg_si M 25 12 s0) 25 13 (eg_gi M 25 13))) :
  eg_T wd k_X7_readClause Qp 129 0 0 [some (.ref 25), o1, o2, some (.int x3), some (.int x4), o5] [.int s0] M := by
  refine eg_T_run mk_X7_readClause (cut := [71, 85, 103, 109, 129, 165, 171]) 89 ?_
  refine And.intro (fun (c1 : x3 = 0) => ?_) (fun (c1 : ¬ x3 = 0) => ?_)
  · skip
    refine And.intro (fun (c2 : x3 = 0) => ?_) (fun (c2 : ¬ x3 = 0) => ?_)
    · clear c2
      show eg_T wd k_X7_readClause Qp 165 0 0 [some (.ref 25), o1, o2, some (.int x3), some (.int x4), some (.int s0)] [] (eg_si (eg_si M 25 12 (eg_gi M 25 12)) 25 13 s0)
      exact l0 c1
    · exact absurd c1 c2
  · skip
    refine And.intro (fun (c3 : x3 = 0) => ?_) (fun (c3 : ¬ x3 = 0) => ?_)
    · exact absurd c3 c1
    · clear c3
      show eg_T wd k_X7_readClause Qp 165 0 0 [some (.ref 25), o1, o2, some (.int x3), some (.int x4), some (.int s0)] [] (eg_si (eg_si M 25 12 s0) 25 13 (eg_gi M 25 13))
      exact l1 c1

set_option maxRecDepth 100000 in
theorem st_X7_readClause_165 {Qp : eg_P} {M : eg_M} (o1 : Option Value) (o2 : Option Value) (o3 : Option Value) (o4 : Option Value) (o5 : Option Value)
  (g0 : ((∃ s, k_rs M s) ∧ k_tb M))
  (l0 : ∀ (M2_1 : eg_M), (k_rr M M2_1 (px_sgn (eg_gi M 26) (eg_gi M 25 1).toNatClampNeg (nI 59))) → eg_T wd k_X7_readClause Qp 171 0 0 [some (.ref 25), o1, o2, o3, o4, o5] [] M2_1) :
  eg_T wd k_X7_readClause Qp 165 0 0 [some (.ref 25), o1, o2, o3, o4, o5] [] M := by
  refine eg_T_run mk_X7_readClause (cut := [71, 85, 103, 109, 129, 165, 171]) 89 ?_
  refine And.intro (show ((∃ s, k_rs M s) ∧ k_tb M) from ?_) ?_
  · exact g0
  intro M2_1 ha_1
  show eg_T wd k_X7_readClause Qp 171 0 0 [some (.ref 25), o1, o2, o3, o4, o5] [] M2_1
  exact l0 M2_1 ha_1

set_option maxRecDepth 100000 in
theorem st_X7_readClause_171 {Qp : eg_P} {M : eg_M} (o0 : Option Value) (o1 : Option Value) (o2 : Option Value) (o3 : Option Value) (o4 : Option Value) (o5 : Option Value)
  (l0 : Qp (.inl none) M) :
  eg_T wd k_X7_readClause Qp 171 0 0 [o0, o1, o2, o3, o4, o5] [] M := by
  refine eg_T_run mk_X7_readClause (cut := [71, 85, 103, 109, 129, 165, 171]) 89 ?_
  show Qp (.inl none) M
  exact l0

def s_X7_readClause : eg_S := fun argv M Qp => match argv with
  | [.ref 25, .int a] => ((∃ t S, k_rs M (.inr (t, S))) ∧ k_tb M ∧ eg_cn (eg_gi M 25 11) 12) ∧ ∀ (M2 : eg_M), (k_fz M M2 ∧ (∀ s, k_rs M s → k_rs M2 (px_clS (eg_gi M 26) (eg_gi M 25 1).toNatClampNeg (decide (a < nI 12)) s)) ∧ eg_cn (eg_gi M2 25 11) 12 ∧ (eg_gi M2 25 5 = 0 → k_kz M M2)) → Qp (.inl none) M2
  | _ => False
theorem mo_X7_readClause : eg_mono s_X7_readClause := by
  intro argv M Q Q' h
  unfold s_X7_readClause
  split
  · exact fun z => ⟨z.1, fun M2 y => h _ _ (z.2 M2 y)⟩
  · exact id
theorem sz_X7_readClause : ∀ argv M Qp, s_X7_readClause argv M Qp → (eg_ls0 argv).length ≤ 6 := by
  intro argv M Qp h
  unfold s_X7_readClause at h
  split at h
  · exact Nat.le_of_ble_eq_true rfl
  · exact h.elim
theorem sr_X7_readClause : ∀ argv M Qp, s_X7_readClause argv M Qp → ∃ p0 As, argv = .ref p0 :: As ∧ eg_isO wd M p0 7 = true := by
  intro argv M Qp h
  unfold s_X7_readClause at h
  split at h
  · exact ⟨_, _, rfl, rfl⟩
  · exact h.elim
set_option maxRecDepth 100000 in
set_option maxHeartbeats 1000000 in
theorem T_X7_readClause {argv : List Value} {M : eg_M} {Qp : eg_P} (h : s_X7_readClause argv M Qp) : eg_T wd k_X7_readClause Qp 0 0 0 (eg_lsN 6 argv) [] M := by
  unfold s_X7_readClause at h
  split at h
  · rename_i a
    obtain ⟨hp, hq⟩ := h
    obtain ⟨⟨t0, S0, hs0⟩, hT, hF⟩ := hp
    have f165 : ∀ N (f : px_S → px_S) (o1 o2 o3 o4 o5 : Option Value), k_fz M N → (∀ s, k_rs M s → k_rs N (f s)) → (∀ s, k_rs M s → px_clS (eg_gi M 26) (eg_gi M 25 1).toNatClampNeg (decide (a < nI 12)) s = px_sgn (eg_gi M 26) (eg_gi M 25 1).toNatClampNeg (nI 59) (f s)) → eg_cn (eg_gi N 25 11) 12 → (eg_gi N 25 5 = 0 → k_kz M N) → eg_T wd k_X7_readClause Qp 165 0 0 [some (.ref 25), o1, o2, o3, o4, o5] [] N := by
      intro N f o1 o2 o3 o4 o5 hz hr he hc hk
      refine st_X7_readClause_165 o1 o2 o3 o4 o5 ⟨⟨_, hr _ hs0⟩, tb_fz hz hT⟩ (fun N2 h2 => st_X7_readClause_171 _ _ _ _ _ _ (hq N2 ?_))
      rw [fz_26 hz, fz_1 hz] at h2
      refine ⟨fz_tr hz (fz_fr h2.1), fun s hs => by rw [he s hs]; exact h2.2 _ (hr s hs), by rw [(sk_11 (sk_fr h2.1)).1]; exact hc, fun h0 => ?_⟩
      have hN2 := h2.2 _ (hr _ hs0)
      have hN := hr _ hs0
      cases hfs : f (.inr (t0, S0)) with
      | inl e =>
        rw [hfs] at hN2
        have hN2 : k_rs N2 (.inl e) := hN2
        exact absurd h0 (rs_l5 hN2)
      | inr u =>
        obtain ⟨t1, S1⟩ := u
        rw [hfs] at hN2 hN
        unfold px_sgn at hN2
        split at hN2
        · exact kz_sk (sk_fr h2.1) ((rs_sz hN2).1.trans (rs_sz hN).1.symm) (hk (rs_r5 hN))
        · exact absurd h0 (rs_l5 hN2)
    have f109 : ∀ N (f : px_S → px_S) (x2 x4 : Int32) (o1 o3 o5 : Option Value), k_fr M N → (∀ s, k_rs M s → k_rs N (f s)) → (∀ s, k_rs M s → px_clS (eg_gi M 26) (eg_gi M 25 1).toNatClampNeg (decide (a < nI 12)) s = px_sgn (eg_gi M 26) (eg_gi M 25 1).toNatClampNeg (nI 59) (f s)) → (k_iw M 4 = true ∨ k_iw M 25 = true) → x2 = b2i (k_iw M 4) → eg_T wd k_X7_readClause Qp 109 0 0 [some (.ref 25), o1, some (.int x2), o3, some (.int x4), o5] [] N := by
      intro N f x2 x4 o1 o3 o5 hz hr he hG hx
      obtain ⟨e11, e12, e13⟩ := sk_11 (sk_fr hz)
      have hc : eg_cn (eg_gi N 25 11) 12 := by
        rw [e11]
        exact hF
      have key : ∀ kd, (kd = if k_iw M 4 = true then nI 0 else nI 1) → eg_T wd k_X7_readClause Qp 165 0 0 [some (.ref 25), o1, some (.int x2), o3, some (.int x4), o5] [] (k_kf N kd) := fun kd hkd => f165 _ f _ _ _ _ _ (fz_tr (fz_fr hz) (fz_kf N kd)) (fun s hs => rs_kf (hr s hs)) he (cn_kf hc) (fun _ => kz_kf (sk_fr hz) hG hkd)
      refine st_X7_readClause_109 o1 x2 o3 x4 o5 (fun z => ?_) (fun z => ?_) (fun z => ?_) (fun z => ?_)
      · obtain ⟨m, hm, em⟩ := hc
        rw [em, n_le (by decide) (by omega)] at z
        rw [em]
        exact (n_in (by omega) (by decide)).mpr (by omega)
      · have := key _ rfl
        unfold k_kf at this
        rw [if_pos z] at this
        exact this
      · have := key (nI 1) (by
          rw [if_neg]
          intro y
          rw [hx, y] at z
          exact absurd z.1 (by decide))
        unfold k_kf at this
        rw [if_neg z.2] at this
        exact this
      · have := key (nI 0) (by
          rw [if_pos]
          cases y : k_iw M 4 with
          | true => rfl
          | false =>
            rw [hx, y] at z
            exact absurd rfl z.1)
        unfold k_kf at this
        rw [if_neg z.2] at this
        exact this
    have f85 : ∀ N (f : px_S → px_S) (x2 x4 : Int32) (o1 o3 o5 : Option Value), k_rr M N f → (∀ s, k_rs M s → px_clS (eg_gi M 26) (eg_gi M 25 1).toNatClampNeg (decide (a < nI 12)) s = px_sgn (eg_gi M 26) (eg_gi M 25 1).toNatClampNeg (nI 59) (px_ul (eg_gi M 26) (eg_gi M 25 1).toNatClampNeg (f s))) → (k_iw M 4 = true ∨ k_iw M 25 = true) → x2 = b2i (k_iw M 4) → eg_T wd k_X7_readClause Qp 85 0 0 [some (.ref 25), o1, some (.int x2), o3, some (.int x4), o5] [] N := by
      intro N f x2 x4 o1 o3 o5 hN he hG hx
      have hTN := tb_fr hN.1 hT
      have hA := rr_adv hTN
      have hNs := hN.2 _ hs0
      rw [fr_26 hN.1, fr_1 hN.1] at hA
      have hw : ∀ s', k_rs M s' → k_iw N 28 = px_is (eg_gi M 26) 28 (f s') := fun s' hs' => by
        rw [rs_iw (hN.2 s' hs'), fr_26 hN.1]
      refine st_X7_readClause_85 o1 x2 o3 x4 o5 ⟨by decide, rs_wp hNs⟩ (fun _ => rs_ad hNs) (fun _ => ⟨by decide, by decide, ⟨_, hA.2 _ hNs⟩, tb_fr (fr_ad N) hTN, rfl⟩) (fun z => ?_) (fun z N2 h2 => ?_)
      · refine f109 N f x2 x4 o1 o3 o5 hN.1 hN.2 (fun s hs => ?_) hG hx
        rw [he s hs]
        unfold px_ul
        rw [← hw s hs, z, if_neg Bool.noConfusion]
      · rw [fr_26 (fr_tr hN.1 (fr_ad N)), fr_1 (fr_tr hN.1 (fr_ad N))] at h2
        have hB := rr_tr (rr_tr (rr_tr hN hA) h2) (rr_put (M := N2) (x := -nI 10))
        refine st_X7_readClause_103 o1 x2 o3 x4 o5 (rs_8 (h2.2 _ (hA.2 _ hNs))) (f109 _ _ x2 x4 o1 o3 o5 hB.1 hB.2 (fun s hs => ?_) hG hx)
        rw [he s hs]
        unfold px_ul
        rw [← hw s hs, bq_t z, if_pos rfl]
    have f71 : ∀ N (g : px_S → px_S) (b : Bool) (x4 : Int32) (o1 o5 : Option Value), k_rr M N g → (∀ s, k_rs M s → px_clS (eg_gi M 26) (eg_gi M 25 1).toNatClampNeg (decide (a < nI 12)) s = px_cl2 (eg_gi M 26) (eg_gi M 25 1).toNatClampNeg b (g s)) → (b = true ↔ (k_iw M 4 = true ∨ k_iw M 25 = true)) → x4 = b2i b → ((∃ t S, g (.inr (t0, S0)) = .inr (t, S)) → N = M) → eg_T wd k_X7_readClause Qp 71 0 0 [some (.ref 25), o1, some (.int (b2i (k_iw M 4))), some (.int (b2i (k_iw M 22))), some (.int x4), o5] [] N := by
      intro N g b x4 o1 o5 hN he hG hx hM
      have hTN := tb_fr hN.1 hT
      have hA := rr_adv hTN
      have hNs := hN.2 _ hs0
      rw [fr_26 hN.1, fr_1 hN.1] at hA
      refine st_X7_readClause_71 o1 _ _ x4 o5 (rs_ad hNs) (fun _ => ⟨⟨_, hA.2 _ hNs⟩, tb_fr (fr_ad N) hTN⟩) (fun _ => ⟨by decide, by decide, ⟨_, hA.2 _ hNs⟩, tb_fr (fr_ad N) hTN, rfl⟩) (fun z v N2 h2 => ?_) (fun z N2 h2 => ?_)
      · have hb : b = false := by
          cases y : b with
          | false => rfl
          | true =>
            rw [hx, y] at z
            exact absurd z (by decide)
        have hG2 : ¬ (k_iw M 4 = true ∨ k_iw M 25 = true) := fun y => by
          rw [hG.mpr y] at hb
          exact Bool.noConfusion hb
        obtain ⟨h2, hv⟩ := h2
        rw [fr_26 (fr_tr hN.1 (fr_ad N)), fr_1 (fr_tr hN.1 (fr_ad N))] at h2
        have hB := rr_tr (rr_tr hN hA) h2
        have fin : ∀ p r, (p = if k_iw M 22 = true then v else eg_gi N2 25 12) → (r = if k_iw M 22 = true then eg_gi N2 25 13 else v) → ∀ o2 o3 o4 o5 : Option Value, eg_T wd k_X7_readClause Qp 165 0 0 [some (.ref 25), o1, o2, o3, o4, o5] [] (eg_si (eg_si N2 25 12 p) 25 13 r) := by
          intro p r hp hr o2 o3 o4 o5
          obtain ⟨e11, e12, e13⟩ := sk_11 (sk_fr hB.1)
          refine f165 _ (fun s => px_num (eg_gi M 26) (eg_gi M 25 1).toNatClampNeg (px_adv (eg_gi M 26) (eg_gi M 25 1).toNatClampNeg (g s))) _ _ _ _ _ (fz_tr (fz_fr hB.1) (fz_tr (fz_25 (by omega)) (fz_25 (by omega)))) (fun s hs => rs_pr (hB.2 s hs)) (fun s hs => ?_) ?_ (fun h0 => ?_)
          · rw [he s hs, hb]
            unfold px_cl2
            rw [if_neg Bool.noConfusion]
          · show eg_cn (eg_gi N2 25 11) 12
            rw [e11]
            exact hF
          · have h0 : eg_gi N2 25 5 = 0 := h0
            have hMN : N = M := by
              refine hM ?_
              have := hB.2 _ hs0
              dsimp only at this
              cases hg : g (.inr (t0, S0)) with
              | inl e =>
                rw [hg] at this
                exact absurd h0 (rs_l5 (e := e) this)
              | inr u => exact ⟨u.1, u.2, rfl⟩
            rw [hMN] at hv
            unfold k_kz
            rw [if_neg hG2]
            refine ⟨e11, fun j => (sk_fr hB.1).2.1 j, fun j => (sk_fr hB.1).2.2 j, v, fun t S hs h3 h6 => ?_, ?_, ?_⟩
            · have := hv t S hs h3 h6
              rw [fr_26 (fr_ad M)] at this
              exact this
            · show p = _
              rw [hp, e12]
            · show r = _
              rw [hr, e13]
        refine st_X7_readClause_129 o1 _ _ x4 o5 v (fun y => ?_) (fun y => ?_)
        · have hn : ¬ k_iw M 22 = true := fun y2 => by
            rw [y2] at y
            exact absurd y (by decide)
          exact fin _ _ (by rw [if_neg hn]) (by rw [if_neg hn]) _ _ _ _
        · have hn : k_iw M 22 = true := by
            cases y2 : k_iw M 22 with
            | true => rfl
            | false =>
              rw [y2] at y
              exact absurd rfl y
          exact fin _ _ (by rw [if_pos hn]) (by rw [if_pos hn]) _ _ _ _
      · have hb : b = true := by
          cases y : b with
          | true => rfl
          | false =>
            rw [hx, y] at z
            exact absurd rfl z
        rw [fr_26 (fr_tr hN.1 (fr_ad N)), fr_1 (fr_tr hN.1 (fr_ad N))] at h2
        refine f85 N2 _ _ _ _ _ _ (rr_tr (rr_tr hN hA) h2) (fun s hs => ?_) (hG.mp hb) rfl
        rw [he s hs, hb]
        unfold px_cl2
        rw [if_pos rfl]
    have hw : ∀ w s, k_rs M s → k_iw M w = px_is (eg_gi M 26) w s := fun w s hs => rs_iw hs w
    have hb : ∀ s, k_rs M s → (px_is (eg_gi M 26) 4 s || px_is (eg_gi M 26) 25 s) = (k_iw M 4 || k_iw M 25) := fun s hs => by
      rw [hw 4 s hs, hw 25 s hs]
    have hi : ((k_iw M 4 || k_iw M 25) = true) ↔ (k_iw M 4 = true ∨ k_iw M 25 = true) := by
      rw [Bool.or_eq_true]
    have go1 : ∀ x4, x4 = b2i (k_iw M 4 || k_iw M 25) → (k_iw M 4 = false ∧ k_iw M 25 = false ∧ k_iw M 22 = false ∧ k_iw M 23 = false) → ∀ o1 o5 : Option Value, eg_T wd k_X7_readClause Qp 71 0 0 [some (.ref 25), o1, some (.int (b2i (k_iw M 4))), some (.int (b2i (k_iw M 22))), some (.int x4), o5] [] (k_rf1 M (nI 1)) := by
      intro x4 hx z o1 o5
      refine f71 _ (px_ref 1) _ x4 _ _ (rr_ref (by decide) (by decide)) (fun s hs => ?_) hi hx (fun ⟨t, S, e⟩ => by cases e)
      unfold px_clS px_h1
      rw [hb s hs, if_pos (by rw [← hw 4 s hs, ← hw 25 s hs, ← hw 22 s hs, ← hw 23 s hs]; exact z)]
    have go2 : ∀ x4, x4 = b2i (k_iw M 4 || k_iw M 25) → ¬ (k_iw M 4 = false ∧ k_iw M 25 = false ∧ k_iw M 22 = false ∧ k_iw M 23 = false) → ¬ a < nI 12 → ∀ o1 o5 : Option Value, eg_T wd k_X7_readClause Qp 71 0 0 [some (.ref 25), o1, some (.int (b2i (k_iw M 4))), some (.int (b2i (k_iw M 22))), some (.int x4), o5] [] (k_rf1 M (nI 2)) := by
      intro x4 hx z hl o1 o5
      refine f71 _ (px_ref 2) _ x4 _ _ (rr_ref (by decide) (by decide)) (fun s hs => ?_) hi hx (fun ⟨t, S, e⟩ => by cases e)
      unfold px_clS px_h1
      rw [hb s hs, if_neg (by rw [← hw 4 s hs, ← hw 25 s hs, ← hw 22 s hs, ← hw 23 s hs]; exact z), decide_eq_false hl, if_neg Bool.noConfusion]
    have go3 : ∀ x4, x4 = b2i (k_iw M 4 || k_iw M 25) → ¬ (k_iw M 4 = false ∧ k_iw M 25 = false ∧ k_iw M 22 = false ∧ k_iw M 23 = false) → a < nI 12 → ∀ o1 o5 : Option Value, eg_T wd k_X7_readClause Qp 71 0 0 [some (.ref 25), o1, some (.int (b2i (k_iw M 4))), some (.int (b2i (k_iw M 22))), some (.int x4), o5] [] M := by
      intro x4 hx z hl o1 o5
      refine f71 _ (fun s => s) _ x4 _ _ (rr_id M) (fun s hs => ?_) hi hx (fun _ => rfl)
      unfold px_clS px_h1
      rw [hb s hs, if_neg (by rw [← hw 4 s hs, ← hw 25 s hs, ← hw 22 s hs, ← hw 23 s hs]; exact z), decide_eq_true hl, if_pos rfl]
    have wp := rs_wp hs0
    refine st_X7_readClause_0 a ⟨by decide, wp⟩ ⟨by decide, wp⟩ (fun _ => ⟨by decide, wp⟩) (fun _ _ _ => ⟨by decide, wp⟩) (fun z => go1 _ ?_ z _ _) (fun z => go3 _ ?_ ?_ ?_ _ _) (fun z => go2 _ ?_ ?_ ?_ _ _) (fun z => go3 _ ?_ ?_ ?_ _ _) (fun z => go2 _ ?_ ?_ ?_ _ _)
    · rw [z.1, z.2.1]
      rfl
    · rw [z.1, z.2.1]
      rfl
    · rintro ⟨_, _, y1, y2⟩
      rcases z.2.2 with y | y
      · exact y.2.1 y2
      · exact y.1 y1
    · rcases z.2.2 with y | y
      · exact y.2.2
      · exact y.2
    · rw [z.1, z.2.1]
      rfl
    · rintro ⟨_, _, y1, y2⟩
      rcases z.2.2 with y | y
      · exact y.2.1 y2
      · exact y.1 y1
    · rcases z.2.2 with y | y
      · exact y.2.2
      · exact y.2
    · rcases z with y | y
      · rw [bq_t y.2.1, Bool.or_true]
        rfl
      · rw [bq_t y.1, Bool.true_or]
        rfl
    · rintro ⟨y1, y2, _⟩
      rcases z with y | y
      · exact y.2.1 y2
      · exact y.1 y1
    · rcases z with y | y
      · exact y.2.2
      · exact y.2
    · rcases z with y | y
      · rw [bq_t y.2.1, Bool.or_true]
        rfl
      · rw [bq_t y.1, Bool.true_or]
        rfl
    · rintro ⟨y1, y2, _⟩
      rcases z with y | y
      · exact y.2.1 y2
      · exact y.1 y1
    · rcases z with y | y
      · exact y.2.2
      · exact y.2
    
  · exact h.elim
theorem de_X7_readClause : ∀ q ∈ k_X7_readClause.1, decode cX7_readClause q.1 = .ok q.2 := by decide +kernel
theorem me_X7_readClause (g : gl_T) : MT g yX7_readClause cX7_readClause 6 none ⟨49, 0, 0, 1095⟩ 0 0 s_X7_readClause := by
  intro hl
  exact eg_met_of (k := k_X7_readClause) (by decide) rfl ⟨Nat.le_refl _, Nat.le_refl _⟩ rfl sz_X7_readClause de_X7_readClause (fun meth hn => (fc (eg_FL_of wd_c7 (by decide) lf_RX7_51 (fun _ => Or.inl rfl)) (fc (eg_FL_of wd_c7 (by decide) lf_RX7_54 (fun _ => Or.inl rfl)) (fn)))) (fun A s H hE => (fc (⟨"grant", hE.2.2.2.1 (RX7, 76, "grant", 4) (List.mem_of_getElem? (i := 13) rfl)⟩) (fc (⟨"pot", hE.2.2.2.1 (RX7, 82, "pot", 22) (List.mem_of_getElem? (i := 14) rfl)⟩) (fc (⟨"sleep", hE.2.2.2.1 (RX7, 83, "sleep", 25) (List.mem_of_getElem? (i := 15) rfl)⟩) (fc (⟨"rate", hE.2.2.2.1 (RX7, 85, "rate", 23) (List.mem_of_getElem? (i := 16) rfl)⟩) (fc (⟨"unless", hE.2.2.2.1 (RX7, 93, "unless", 28) (List.mem_of_getElem? (i := 17) rfl)⟩) (fn))))))) (fun p e s m args below meth c Q A ad0 N0 S0 hK hEx hA => (fc (mt_V hl S0 hK hEx hA (me_X7_advance g) lm_RX7_64 li_X7_advance lx_X7_advance ln_RX7 lc_X7_advance ⟨rfl, by decide, by decide, by decide +kernel⟩ ⟨rfl, rfl⟩ ⟨by decide, by decide⟩ (ci := 7) rfl rfl sr_X7_advance (by decide)) (fc (mt_V hl S0 hK hEx hA (me_X7_isWord g) lm_RX7_78 li_X7_isWord lx_X7_isWord ln_RX7 lc_X7_isWord ⟨rfl, by decide, by decide, by decide +kernel⟩ ⟨rfl, rfl⟩ ⟨by decide, by decide⟩ (ci := 7) rfl rfl sr_X7_isWord (by decide)) (fc (mt_V hl S0 hK hEx hA (me_X7_refuse_v g) lm_RX7_86 li_X7_refuse lx_X7_refuse ln_RX7 lc_X7_refuse ⟨rfl, by decide, by decide, by decide +kernel⟩ ⟨rfl, rfl⟩ ⟨by decide, by decide⟩ (ci := 7) rfl rfl sr_X7_refuse_v (by decide)) (fc (mt_V hl S0 hK hEx hA (me_X7_readExpr g) lm_RX7_90 li_X7_readExpr lx_X7_readExpr ln_RX7 lc_X7_readExpr ⟨rfl, by decide, by decide, by decide +kernel⟩ ⟨rfl, rfl⟩ ⟨by decide, by decide⟩ (ci := 7) rfl rfl sr_X7_readExpr (by decide)) (fc (mt_V hl S0 hK hEx hA (me_X7_put_v g) lm_RX7_95 li_X7_put lx_X7_put ln_RX7 lc_X7_put ⟨rfl, by decide, by decide, by decide +kernel⟩ ⟨rfl, rfl⟩ ⟨by decide, by decide⟩ (ci := 7) rfl rfl sr_X7_put_v (by decide)) (fc (mt_V hl S0 hK hEx hA (me_X7_keepFormula g) lm_RX7_98 li_X7_keepFormula lx_X7_keepFormula ln_RX7 lc_X7_keepFormula ⟨rfl, by decide, by decide, by decide +kernel⟩ ⟨rfl, rfl⟩ ⟨by decide, by decide⟩ (ci := 7) rfl rfl eg_auto_rec (by decide)) (fc (mt_V hl S0 hK hEx hA (me_X7_readNumber g) lm_RX7_101 li_X7_readNumber lx_X7_readNumber ln_RX7 lc_X7_readNumber ⟨rfl, by decide, by decide, by decide +kernel⟩ ⟨rfl, rfl⟩ ⟨by decide, by decide⟩ (ci := 7) rfl rfl sr_X7_readNumber (by decide)) (fc (mt_V hl S0 hK hEx hA (me_X7_readSign g) lm_RX7_105 li_X7_readSign lx_X7_readSign ln_RX7 lc_X7_readSign ⟨rfl, by decide, by decide, by decide +kernel⟩ ⟨rfl, rfl⟩ ⟨by decide, by decide⟩ (ci := 7) rfl rfl sr_X7_readSign (by decide)) (fn)))))))))) (fun p e s m args below meth c Qc XC A ad0 N0 P S0 hK hEx hA hlk hout hPX => (fn)) (fun argv M Qp h => T_X7_readClause h)

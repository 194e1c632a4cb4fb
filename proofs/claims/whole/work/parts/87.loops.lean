/-! the model's clauses -/
def px_fm (CL : List px_K) : List Int32 := CL.flatMap (fun c => c.2.1 ++ c.2.2)
theorem px_fm_a (A : List px_K) (c : px_K) : px_fm (A ++ [c]) = px_fm A ++ (c.2.1 ++ c.2.2) := by
  unfold px_fm
  rw [List.flatMap_append]
  simp
theorem px_W_fm : ∀ CL, px_W (px_fm CL) = px_WW CL
  | [] => rfl
  | c :: CL => by
    show px_W ((c.2.1 ++ c.2.2) ++ px_fm CL) = px_W c.2.1 + px_W c.2.2 + px_WW CL
    rw [px_W_a, px_W_a, px_W_fm CL]
theorem px_fm_le : ∀ CL, (px_fm CL).length ≤ (px_fl CL).length
  | [] => Nat.le_refl _
  | c :: CL => by
    have := px_fm_le CL
    show ((c.2.1 ++ c.2.2) ++ px_fm CL).length ≤ (px_cs c ++ px_fl CL).length
    have h : (c.2.1 ++ c.2.2).length ≤ (px_cs c).length := by
      unfold px_cs
      split
      · rename_i z
        rw [z, List.append_nil]
        exact Nat.le_refl _
      · rw [List.length_append (as := c.2.1 ++ c.2.2)]
        omega
    rw [List.length_append, List.length_append (as := px_cs c)]
    omega
def px_ulM (T : Nat → Int32) (n : Nat) (s : px_S) : px_S := if px_is T 28 s = true then px_E T n 6 (px_adv T n s) else s
def px_vm (c : px_C) : px_S := match c with
  | .inl e => .inl e
  | .inr (t, CL, _, _) => .inr (t, px_fm CL)
/-- reading a formula, the model's steps -/
theorem px_foM_eq {T : Nat → Int32} {n : Nat} (hn : n ≤ 400) (hT : ∀ j, j < n → 0 ≤ T j) {t : px_T} {CL : List px_K} {p r k : Int32} (ht : ¬ t.2.2 = -nI 1) (h : px_ok T n (.inr (t, CL, p, r))) : px_sgn T n (nI 59) (px_ulM T n (px_E T n 6 (px_adv T n (.inr (t, px_fm CL))))) = px_vm (px_fo T n t k CL p r) := by
  obtain ⟨o1, o2, o3, o4, o5, o6⟩ := h
  have hle := px_fm_le CL
  have G := px_E_G hn hT 6
  obtain ⟨a1, a2⟩ := px_nx o1 ht
  obtain ⟨g1, g2⟩ := G.2 _ a1
  have e0 : px_adv T n (.inr (t, px_fm CL)) = .inr (lx T n t.2.1, px_fm CL) := rfl
  rw [e0, g1 (px_fm CL) (by omega)]
  unfold px_fo
  cases hf : px_E T n 6 (.inr (lx T n t.2.1, [])) with
  | inl e => rfl
  | inr x =>
    obtain ⟨u, P⟩ := x
    rw [hf] at g2
    obtain ⟨d1, d2, d3, d4, d5⟩ := g2
    have e1 : px_ap (px_fm CL) (.inr (u, P)) = .inr (u, px_fm CL ++ P) := rfl
    rw [e1]
    dsimp only
    unfold px_ulM
    have e2 : px_is T 28 (.inr (u, px_fm CL ++ P)) = px_w T 28 u := rfl
    rw [e2]
    by_cases hw : px_w T 28 u = true
    · rw [if_pos hw, if_pos hw]
      obtain ⟨c1, c2⟩ := px_nx d1 (by rw [px_w_k hw]; decide)
      obtain ⟨g3, g4⟩ := G.2 _ c1
      have e3 : px_adv T n (.inr (u, px_fm CL ++ P)) = .inr (lx T n u.2.1, px_fm CL ++ P) := rfl
      rw [e3, g3 (px_fm CL ++ P) (by rw [List.length_append]; omega)]
      cases hq : px_E T n 6 (.inr (lx T n u.2.1, [])) with
      | inl e => rfl
      | inr x =>
        obtain ⟨v, Q⟩ := x
        have e4 : px_ap (px_fm CL ++ P) (.inr (v, Q)) = .inr (v, px_fm CL ++ P ++ Q) := rfl
        have e5 : px_fm (CL ++ [(k, P, Q)]) = px_fm CL ++ P ++ Q := by
          rw [px_fm_a, List.append_assoc]
        rw [e4, ← e5, px_sgn_r]
        dsimp only
        unfold px_sc
        split <;> rfl
    · rw [if_neg hw, if_neg hw]
      have e5 : px_fm (CL ++ [(k, P, [])]) = px_fm CL ++ P := by
        rw [px_fm_a, List.append_nil]
      rw [← e5, px_sgn_r]
      unfold px_sc
      split <;> rfl
theorem px_nuM_eq {T : Nat → Int32} {n : Nat} {t : px_T} {CL : List px_K} {p r : Int32} (b : Bool) : px_sgn T n (nI 59) (px_num T n (px_adv T n (.inr (t, px_fm CL)))) = px_vm (px_nu T n t b CL p r) := by
  have e0 : px_adv T n (.inr (t, px_fm CL)) = .inr (lx T n t.2.1, px_fm CL) := rfl
  rw [e0, px_num_r]
  unfold px_nu
  generalize lx T n t.2.1 = t1
  by_cases h3 : t1.2.2 = -nI 3
  · rw [if_pos h3, if_pos h3]
    by_cases h6 : t1.1 + 6 < t1.2.1
    · rw [if_pos h6, if_pos h6]
      rfl
    · rw [if_neg h6, if_neg h6]
      have e1 : px_adv T n (.inr (t1, px_fm CL)) = .inr (lx T n t1.2.1, px_fm CL) := rfl
      rw [e1, px_sgn_r]
      unfold px_sc
      split <;> rfl
  · rw [if_neg h3, if_neg h3]
    rfl
/-- the model: the tables of text r -/
def m_tbl (r : Nat) (M : eg_M) (CL : List px_K) (p q : Int32) : Prop := eg_gi M 141 r = nI CL.length ∧ CL.length ≤ 12 ∧ (∀ i (h : i < CL.length), eg_gi M 144 (12 * r + i) = CL[i].1 ∧ eg_gi M 145 (12 * r + i) = nI (px_W (px_fm (CL.take i))) ∧ eg_gi M 146 (12 * r + i) = nI (px_W (px_fm (CL.take i)) + px_W CL[i].2.1) ∧ eg_gi M 147 (12 * r + i) = nI (px_W (px_fm (CL.take (i + 1))))) ∧ eg_gi M 142 r = p ∧ eg_gi M 143 r = q
/-- the model: the reader of text r has read c -/
def m_rc (r : Nat) (M : eg_M) (c : px_C) : Prop := m_rs r 0 0 M (px_vm c) ∧ (match c with
  | .inl _ => True
  | .inr (_, CL, p, q) => m_tbl r M CL p q)
def m_fc (r : Nat) (M N : eg_M) : Prop := N.1 = M.1 ∧ N.2.2 = M.2.2 ∧ ∀ q j, ¬ (q = 121 ∧ 24 ≤ j ∧ j ≤ 34 ∧ ¬ j = 25 ∧ ¬ j = 33) → ¬ (q = 148 ∧ 640 * r ≤ j ∧ j < 640 * r + 640) → ¬ (141 ≤ q ∧ q ≤ 143 ∧ j = r) → ¬ (144 ≤ q ∧ q ≤ 147 ∧ 12 * r ≤ j ∧ j < 12 * r + 12) → eg_gi N q j = eg_gi M q j
theorem fc_mr {r : Nat} {M N : eg_M} (h : m_fr r M N) : m_fc r M N := ⟨h.1, h.2.1, fun q j a b _ _ => h.2.2 q j a b⟩
theorem fc_rf (r : Nat) (M : eg_M) : m_fc r M M := ⟨rfl, rfl, fun _ _ _ _ _ _ => rfl⟩
theorem fc_tr {r : Nat} {M N O : eg_M} (h1 : m_fc r M N) (h2 : m_fc r N O) : m_fc r M O := ⟨h2.1.trans h1.1, h2.2.1.trans h1.2.1, fun q j a b c d => (h2.2.2 q j a b c d).trans (h1.2.2 q j a b c d)⟩
theorem fc_si {r : Nat} {M : eg_M} {q j : Nat} {v : Int32} (h : (141 ≤ q ∧ q ≤ 143 ∧ j = r) ∨ (144 ≤ q ∧ q ≤ 147 ∧ 12 * r ≤ j ∧ j < 12 * r + 12)) : m_fc r M (eg_si M q j v) := ⟨rfl, rfl, fun z i _ _ c d => by
  rw [si_g, if_neg (by omega)]⟩
theorem fc_139 {r : Nat} {M N : eg_M} (h : m_fc r M N) : eg_gi N 139 = eg_gi M 139 := funext (fun j => h.2.2 139 j (by omega) (by omega) (by omega) (by omega))
theorem fc_25 {r : Nat} {M N : eg_M} (h : m_fc r M N) : eg_gi N 121 25 = eg_gi M 121 25 := h.2.2 121 25 (by omega) (by omega) (by omega) (by omega)
theorem fc_tb {r : Nat} {M N : eg_M} (h : m_fc r M N) (hT : m_tb M) : m_tb N := fun j hj => by
  rw [fc_139 h]
  exact hT j hj
theorem ms_of {r d e : Nat} {M N : eg_M} {s : px_S} (h1 : ∀ j, eg_gi N 121 j = eg_gi M 121 j) (h2 : eg_gi N 139 = eg_gi M 139) (h3 : eg_gi N 148 = eg_gi M 148) (h : m_rs r d e M s) : m_rs r d e N s := by
  obtain ⟨n, hn, eN, h⟩ := h
  match s, h with
  | .inl (k, p), h => exact ⟨n, hn, (h1 25).trans eN, h.1, h.2.1, h.2.2.1, (h1 31).trans h.2.2.2.1, (h1 32).trans h.2.2.2.2⟩
  | .inr (t, S), h =>
    obtain ⟨g1, g2, ⟨a1, a2, a3, a4, a5, a6⟩, g4, g5, g6, g7⟩ := h
    refine ⟨n, hn, (h1 25).trans eN, (h1 31).trans g1, by rw [h2]; exact g2, ⟨(h1 24).trans a1, (h1 26).trans a2, (h1 27).trans a3, (h1 29).trans a4, (h1 30).trans a5, fun y1 y2 => ?_⟩, g4, g5, (h1 34).trans g6, by rw [h3]; exact g7⟩
    rw [h2]
    exact (h1 28).trans (a6 y1 y2)
theorem ms_si {r d e : Nat} {M : eg_M} {s : px_S} {q j : Nat} {v : Int32} (hq : 140 ≤ q ∧ q ≤ 147) (h : m_rs r d e M s) : m_rs r d e (eg_si M q j v) s := ms_of (fun i => by rw [si_g, if_neg (by omega)]) (funext (fun i => by rw [si_g, if_neg (by omega)])) (funext (fun i => by rw [si_g, if_neg (by omega)])) h
theorem ms_t {r d e d' e' : Nat} {M : eg_M} {t : px_T} {S : List Int32} (h : m_rs r d e M (.inr (t, S))) (h1 : S.length + d' ≤ t.1) (h2 : 2 * px_W S + 2 * d' ≤ 3 * t.1 + e') : m_rs r d' e' M (.inr (t, S)) := by
  obtain ⟨n, hn, eN, g1, g2, g3, g4, g5, g6, g7⟩ := h
  exact ⟨n, hn, eN, g1, g2, g3, h1, h2, g6, g7⟩
/-- tables read only their own rows -/
theorem tbl_of {r : Nat} {M N : eg_M} {CL : List px_K} {p q : Int32} (h : ∀ z j, 141 ≤ z → z ≤ 147 → eg_gi N z j = eg_gi M z j) (hb : m_tbl r M CL p q) : m_tbl r N CL p q := by
  obtain ⟨h1, h2, h3, h4, h5⟩ := hb
  refine ⟨(h 141 r (by decide) (by decide)).trans h1, h2, fun i hi => ?_, (h 142 r (by decide) (by decide)).trans h4, (h 143 r (by decide) (by decide)).trans h5⟩
  obtain ⟨a1, a2, a3, a4⟩ := h3 i hi
  exact ⟨(h 144 _ (by decide) (by decide)).trans a1, (h 145 _ (by decide) (by decide)).trans a2, (h 146 _ (by decide) (by decide)).trans a3, (h 147 _ (by decide) (by decide)).trans a4⟩
theorem mr_tab {r : Nat} {M N : eg_M} (h : m_fr r M N) : ∀ z j, 141 ≤ z → z ≤ 147 → eg_gi N z j = eg_gi M z j := fun z j a b => h.2.2 z j (by omega) (by omega)
theorem fq_tab {M N : eg_M} (h : m_fq M N) : ∀ z j, 141 ≤ z → z ≤ 147 → eg_gi N z j = eg_gi M z j := fun z j a b => h.2.2 z j (by omega)
theorem px_ok_ref {T : Nat → Int32} {n : Nat} {t : px_T} {CL : List px_K} {p q : Int32} (h : px_ok T n (.inr (t, CL, p, q))) : (px_fm CL).length + 0 ≤ t.1 ∧ 2 * px_W (px_fm CL) + 2 * 0 ≤ 3 * t.1 + 0 := by
  obtain ⟨_, h2, h3, _⟩ := h
  have := px_fm_le CL
  rw [px_W_fm]
  omega
/-- a formula more in the tables -/
theorem tbl_add {r : Nat} {M N : eg_M} {CL : List px_K} {p q k : Int32} {P Q : List Int32} (hr : r < 8) (hb : m_tbl r M CL p q) (hl : CL.length < 12)
    (h141 : eg_gi N 141 r = nI (CL.length + 1)) (h144 : ∀ j, eg_gi N 144 j = if j = 12 * r + CL.length then k else eg_gi M 144 j) (h145 : ∀ j, eg_gi N 145 j = if j = 12 * r + CL.length then nI (px_W (px_fm CL)) else eg_gi M 145 j) (h146 : ∀ j, eg_gi N 146 j = if j = 12 * r + CL.length then nI (px_W (px_fm CL) + px_W P) else eg_gi M 146 j) (h147 : ∀ j, eg_gi N 147 j = if j = 12 * r + CL.length then nI (px_W (px_fm CL) + px_W P + px_W Q) else eg_gi M 147 j)
    (h142 : eg_gi N 142 r = eg_gi M 142 r) (h143 : eg_gi N 143 r = eg_gi M 143 r) : m_tbl r N (CL ++ [(k, P, Q)]) p q := by
  obtain ⟨b1, b2, b3, b4, b5⟩ := hb
  have hl1 : (CL ++ [(k, P, Q)]).length = CL.length + 1 := by simp
  refine ⟨by rw [h141, hl1], by omega, fun i hi => ?_, h142.trans b4, h143.trans b5⟩
  rw [hl1] at hi
  rw [h144, h145, h146, h147]
  by_cases e : i = CL.length
  · subst e
    rw [if_pos rfl, if_pos rfl, if_pos rfl, if_pos rfl, List.getElem_append_right (Nat.le_refl _), List.take_of_length_le (i := CL.length + 1) (l := CL ++ [(k, P, Q)]) (Nat.le_of_eq hl1), List.take_append_of_le_length (Nat.le_refl _), List.take_length]
    refine ⟨by simp, rfl, by simp, ?_⟩
    rw [px_fm_a, px_W_a, px_W_a, Nat.add_assoc]
  · have e2 : ¬ 12 * r + i = 12 * r + CL.length := by omega
    rw [if_neg e2, if_neg e2, if_neg e2, if_neg e2, List.getElem_append_left (by omega), List.take_append_of_le_length (by omega), List.take_append_of_le_length (by omega)]
    exact b3 i (by omega)
def m_vd (r : Nat) (M : eg_M) (i : Nat) (t : px_T) (CL : List px_K) (p q : Int32) : Prop := m_rc r M (.inr (t, CL, p, q)) ∧ px_ok (eg_gi M 139) (eg_gi M 121 25).toNatClampNeg (.inr (t, CL, p, q)) ∧ CL.length ≤ i
def k_X12_readClause : eg_C := ([(0, .aload_n 0, 1), (1, .ldc_w 362, 3), (4, .invokevirtual 321, 3), (7, .istore_n 3, 1), (8, .aload_n 0, 1), (9, .ldc_w 363, 3), (12, .invokevirtual 321, 3), (15, .istore 4, 2), (17, .aload_n 0, 1), (18, .ldc_w 365, 3), (21, .invokevirtual 321, 3), (24, .istore 5, 2), (26, .iload_n 3, 1), (27, .ifCond .ne 31, 3), (30, .iload 4, 2), (32, .ifCond .ne 26, 3), (35, .iload 5, 2), (37, .ifCond .ne 21, 3), (40, .aload_n 0, 1), (41, .ldc_w 366, 3), (44, .invokevirtual 321, 3), (47, .ifCond .ne 11, 3), (50, .aload_n 0, 1), (51, .iconst 1, 1), (52, .invokevirtual 311, 3), (55, .goto 14, 3), (58, .iload_n 2, 1), (59, .bipush 12, 2), (61, .if_icmp .ne 8, 3), (64, .aload_n 0, 1), (65, .iconst 2, 1), (66, .invokevirtual 311, 3), (69, .aload_n 0, 1), (70, .getfield 294, 3), (73, .ifCond .eq 4, 3), (76, .return_, 1), (77, .aload_n 0, 1), (78, .invokevirtual 315, 3), (81, .iload_n 3, 1), (82, .ifCond .ne 8, 3), (85, .iload 4, 2), (87, .ifCond .eq 104, 3), (90, .bipush 12, 2), (92, .iload_n 1, 1), (93, .imul, 1), (94, .aload_n 0, 1), (95, .getfield 96, 3), (98, .iload_n 1, 1), (99, .iaload, 1), (100, .iadd, 1), (101, .istore 6, 2), (103, .aload_n 0, 1), (104, .getfield 96, 3), (107, .iload_n 1, 1), (108, .dup2, 1), (109, .iaload, 1), (110, .iconst 1, 1), (111, .iadd, 1), (112, .iastore, 1), (113, .aload_n 0, 1), (114, .getfield 105, 3), (117, .iload 6, 2), (119, .iload_n 3, 1), (120, .ifCond .eq 7, 3), (123, .iconst 0, 1), (124, .goto 4, 3), (127, .iconst 1, 1), (128, .iastore, 1), (129, .aload_n 0, 1), (130, .getfield 108, 3), (133, .iload 6, 2), (135, .aload_n 0, 1), (136, .getfield 318, 3), (139, .iastore, 1), (140, .aload_n 0, 1), (141, .iload_n 1, 1), (142, .iconst 0, 1), (143, .invokevirtual 335, 3), (146, .aload_n 0, 1), (147, .getfield 111, 3), (150, .iload 6, 2), (152, .aload_n 0, 1), (153, .getfield 318, 3), (156, .iastore, 1), (157, .aload_n 0, 1), (158, .ldc_w 367, 3), (161, .invokevirtual 321, 3), (164, .ifCond .eq 13, 3), (167, .aload_n 0, 1), (168, .invokevirtual 315, 3), (171, .aload_n 0, 1), (172, .iload_n 1, 1), (173, .iconst 0, 1), (174, .invokevirtual 335, 3), (177, .aload_n 0, 1), (178, .getfield 114, 3), (181, .iload 6, 2), (183, .aload_n 0, 1), (184, .getfield 318, 3), (187, .iastore, 1), (188, .goto 33, 3), (191, .aload_n 0, 1), (192, .invokevirtual 325, 3), (195, .istore 6, 2), (197, .iload 5, 2), (199, .ifCond .eq 14, 3), (202, .aload_n 0, 1), (203, .getfield 99, 3), (206, .iload_n 1, 1), (207, .iload 6, 2), (209, .iastore, 1), (210, .goto 11, 3), (213, .aload_n 0, 1), (214, .getfield 102, 3), (217, .iload_n 1, 1), (218, .iload 6, 2), (220, .iastore, 1), (221, .aload_n 0, 1), (222, .bipush 59, 2), (224, .invokevirtual 338, 3), (227, .return_, 1)], [(96, 12, 37, false), (99, 12, 38, false), (102, 12, 39, false), (105, 12, 40, false), (108, 12, 41, false), (111, 12, 42, false), (114, 12, 43, false), (294, 12, 31, false), (318, 12, 34, false)], [(362, .retAddr 4), (363, .retAddr 25), (365, .retAddr 22), (366, .retAddr 23), (367, .retAddr 28)], [(311, 1 + 1, 0, 0, s_X12_wrong_v), (315, 0 + 1, 0, 0, s_X12_step), (321, 1 + 1, 0, 0, s_X12_is), (325, 0 + 1, 0, 0, s_X12_readNumber), (335, 2 + 1, 0, 0, s_X12_readExpression), (338, 1 + 1, 0, 0, s_X12_need)], [], 0, 0, 0)
theorem mk_X12_readClause : ∀ q ∈ k_X12_readClause.2.2.2.1, eg_mono q.2.2.2.2 := (fc (mo_X12_wrong_v) (fc (mo_X12_step) (fc (mo_X12_is) (fc (mo_X12_readNumber) (fc (mo_X12_readExpression) (fc (mo_X12_need) (fn)))))))
set_option maxRecDepth 100000 in
theorem st_X12_readClause_0 {Qp : eg_P} {M : eg_M} (a : Int32) (b : Int32)
  (g0 : (4 < 32 ∧ (eg_gi M 121 31 = 0 → eg_gi M 121 26 = nI 1 → ∃ b e, b ≤ e ∧ e ≤ 400 ∧ eg_gi M 121 29 = nI b ∧ eg_gi M 121 30 = nI e)))
  (g1 : (25 < 32 ∧ (eg_gi M 121 31 = 0 → eg_gi M 121 26 = nI 1 → ∃ b e, b ≤ e ∧ e ≤ 400 ∧ eg_gi M 121 29 = nI b ∧ eg_gi M 121 30 = nI e)))
  (g2 : (22 < 32 ∧ (eg_gi M 121 31 = 0 → eg_gi M 121 26 = nI 1 → ∃ b e, b ≤ e ∧ e ≤ 400 ∧ eg_gi M 121 29 = nI b ∧ eg_gi M 121 30 = nI e)))
  (g3 : ((m_iw M 4) = false) → ((m_iw M 25) = false) → ((m_iw M 22) = false) → (23 < 32 ∧ (eg_gi M 121 31 = 0 → eg_gi M 121 26 = nI 1 → ∃ b e, b ≤ e ∧ e ≤ 400 ∧ eg_gi M 121 29 = nI b ∧ eg_gi M 121 30 = nI e)))
  (l0 : ((m_iw M 4) = false ∧ ((m_iw M 25) = false ∧ ((m_iw M 22) = false ∧ (m_iw M 23) = false))) → eg_T wd k_X12_readClause Qp 69 0 0 [some (.ref 121), some (.int a), some (.int b), some (.int (b2i (m_iw M 4))), some (.int (b2i (m_iw M 25))), some (.int (b2i (m_iw M 22))), none] [] (m_wr M (nI 1)))
  (l1 : (((m_iw M 4) = false ∧ (((m_iw M 25) = false ∧ (((m_iw M 22) = false ∧ (¬ (m_iw M 23) = false ∧ b = (nI 12))) ∨ (¬ (m_iw M 22) = false ∧ b = (nI 12)))) ∨ (¬ (m_iw M 25) = false ∧ b = (nI 12)))) ∨ (¬ (m_iw M 4) = false ∧ b = (nI 12))) → eg_T wd k_X12_readClause Qp 69 0 0 [some (.ref 121), some (.int a), some (.int b), some (.int (b2i (m_iw M 4))), some (.int (b2i (m_iw M 25))), some (.int (b2i (m_iw M 22))), none] [] (m_wr M (nI 2)))
  (l2 : (((m_iw M 4) = false ∧ (((m_iw M 25) = false ∧ (((m_iw M 22) = false ∧ (¬ (m_iw M 23) = false ∧ ¬ b = (nI 12))) ∨ (¬ (m_iw M 22) = false ∧ ¬ b = (nI 12)))) ∨ (¬ (m_iw M 25) = false ∧ ¬ b = (nI 12)))) ∨ (¬ (m_iw M 4) = false ∧ ¬ b = (nI 12))) → eg_T wd k_X12_readClause Qp 69 0 0 [some (.ref 121), some (.int a), some (.int b), some (.int (b2i (m_iw M 4))), some (.int (b2i (m_iw M 25))), some (.int (b2i (m_iw M 22))), none] [] M) :
  eg_T wd k_X12_readClause Qp 0 0 0 [some (.ref 121), some (.int a), some (.int b), none, none, none, none] [] M := by
  refine eg_T_run mk_X12_readClause (cut := [69, 81, 146, 171, 177, 195, 221, 227]) 124 ?_
  refine And.intro (show (4 < 32 ∧ (eg_gi M 121 31 = 0 → eg_gi M 121 26 = nI 1 → ∃ b e, b ≤ e ∧ e ≤ 400 ∧ eg_gi M 121 29 = nI b ∧ eg_gi M 121 30 = nI e)) from ?_) ?_
  · exact g0
  refine And.intro (show (25 < 32 ∧ (eg_gi M 121 31 = 0 → eg_gi M 121 26 = nI 1 → ∃ b e, b ≤ e ∧ e ≤ 400 ∧ eg_gi M 121 29 = nI b ∧ eg_gi M 121 30 = nI e)) from ?_) ?_
  · exact g1
  refine And.intro (show (22 < 32 ∧ (eg_gi M 121 31 = 0 → eg_gi M 121 26 = nI 1 → ∃ b e, b ≤ e ∧ e ≤ 400 ∧ eg_gi M 121 29 = nI b ∧ eg_gi M 121 30 = nI e)) from ?_) ?_
  · exact g2
  refine And.intro (fun (c1 : (b2i (m_iw M 4)) = 0) => ?_) (fun (c1 : ¬ (b2i (m_iw M 4)) = 0) => ?_)
  · replace c1 := b2i_0.mp c1
    refine And.intro (fun (c2 : (b2i (m_iw M 25)) = 0) => ?_) (fun (c2 : ¬ (b2i (m_iw M 25)) = 0) => ?_)
    · replace c2 := b2i_0.mp c2
      refine And.intro (fun (c3 : (b2i (m_iw M 22)) = 0) => ?_) (fun (c3 : ¬ (b2i (m_iw M 22)) = 0) => ?_)
      · replace c3 := b2i_0.mp c3
        refine And.intro (show (23 < 32 ∧ (eg_gi M 121 31 = 0 → eg_gi M 121 26 = nI 1 → ∃ b e, b ≤ e ∧ e ≤ 400 ∧ eg_gi M 121 29 = nI b ∧ eg_gi M 121 30 = nI e)) from ?_) ?_
        · exact g3 c1 c2 c3
        refine And.intro (fun (c4 : (b2i (m_iw M 23)) = 0) => ?_) (fun (c4 : ¬ (b2i (m_iw M 23)) = 0) => ?_)
        · replace c4 := b2i_0.mp c4
          refine And.intro (show (True) from ?_) ?_
          · exact trivial
          show eg_T wd k_X12_readClause Qp 69 0 0 [some (.ref 121), some (.int a), some (.int b), some (.int (b2i (m_iw M 4))), some (.int (b2i (m_iw M 25))), some (.int (b2i (m_iw M 22))), none] [] (m_wr M (nI 1))
          exact l0 ⟨c1, ⟨c2, ⟨c3, c4⟩⟩⟩
        · replace c4 := b2i_ff c4
          refine And.intro (fun (c5 : b = (nI 12)) => ?_) (fun (c5 : ¬ b = (nI 12)) => ?_)
          · skip
            refine And.intro (show (True) from ?_) ?_
            · exact trivial
            show eg_T wd k_X12_readClause Qp 69 0 0 [some (.ref 121), some (.int a), some (.int b), some (.int (b2i (m_iw M 4))), some (.int (b2i (m_iw M 25))), some (.int (b2i (m_iw M 22))), none] [] (m_wr M (nI 2))
            exact l1 (Or.inl ⟨c1, (Or.inl ⟨c2, (Or.inl ⟨c3, ⟨c4, c5⟩⟩)⟩)⟩)
          · skip
            show eg_T wd k_X12_readClause Qp 69 0 0 [some (.ref 121), some (.int a), some (.int b), some (.int (b2i (m_iw M 4))), some (.int (b2i (m_iw M 25))), some (.int (b2i (m_iw M 22))), none] [] M
            exact l2 (Or.inl ⟨c1, (Or.inl ⟨c2, (Or.inl ⟨c3, ⟨c4, c5⟩⟩)⟩)⟩)
      · replace c3 := b2i_ff c3
        refine And.intro (fun (c6 : b = (nI 12)) => ?_) (fun (c6 : ¬ b = (nI 12)) => ?_)
        · skip
          refine And.intro (show (True) from ?_) ?_
          · exact trivial
          show eg_T wd k_X12_readClause Qp 69 0 0 [some (.ref 121), some (.int a), some (.int b), some (.int (b2i (m_iw M 4))), some (.int (b2i (m_iw M 25))), some (.int (b2i (m_iw M 22))), none] [] (m_wr M (nI 2))
          exact l1 (Or.inl ⟨c1, (Or.inl ⟨c2, (Or.inr ⟨c3, c6⟩)⟩)⟩)
        · skip
          show eg_T wd k_X12_readClause Qp 69 0 0 [some (.ref 121), some (.int a), some (.int b), some (.int (b2i (m_iw M 4))), some (.int (b2i (m_iw M 25))), some (.int (b2i (m_iw M 22))), none] [] M
          exact l2 (Or.inl ⟨c1, (Or.inl ⟨c2, (Or.inr ⟨c3, c6⟩)⟩)⟩)
    · replace c2 := b2i_ff c2
      refine And.intro (fun (c7 : b = (nI 12)) => ?_) (fun (c7 : ¬ b = (nI 12)) => ?_)
      · skip
        refine And.intro (show (True) from ?_) ?_
        · exact trivial
        show eg_T wd k_X12_readClause Qp 69 0 0 [some (.ref 121), some (.int a), some (.int b), some (.int (b2i (m_iw M 4))), some (.int (b2i (m_iw M 25))), some (.int (b2i (m_iw M 22))), none] [] (m_wr M (nI 2))
        exact l1 (Or.inl ⟨c1, (Or.inr ⟨c2, c7⟩)⟩)
      · skip
        show eg_T wd k_X12_readClause Qp 69 0 0 [some (.ref 121), some (.int a), some (.int b), some (.int (b2i (m_iw M 4))), some (.int (b2i (m_iw M 25))), some (.int (b2i (m_iw M 22))), none] [] M
        exact l2 (Or.inl ⟨c1, (Or.inr ⟨c2, c7⟩)⟩)
  · replace c1 := b2i_ff c1
    refine And.intro (fun (c8 : b = (nI 12)) => ?_) (fun (c8 : ¬ b = (nI 12)) => ?_)
    · skip
      refine And.intro (show (True) from ?_) ?_
      · exact trivial
      show eg_T wd k_X12_readClause Qp 69 0 0 [some (.ref 121), some (.int a), some (.int b), some (.int (b2i (m_iw M 4))), some (.int (b2i (m_iw M 25))), some (.int (b2i (m_iw M 22))), none] [] (m_wr M (nI 2))
      exact l1 (Or.inr ⟨c1, c8⟩)
    · skip
      show eg_T wd k_X12_readClause Qp 69 0 0 [some (.ref 121), some (.int a), some (.int b), some (.int (b2i (m_iw M 4))), some (.int (b2i (m_iw M 25))), some (.int (b2i (m_iw M 22))), none] [] M
      exact l2 (Or.inr ⟨c1, c8⟩)

set_option maxRecDepth 100000 in
theorem st_X12_readClause_69 {Qp : eg_P} {M : eg_M} (a : Int32) (o2 : Option Value) (x3 : Int32) (x4 : Int32) (x5 : Int32) (o6 : Option Value)
  (g0 : ((eg_gi M 121 31) = 0) → ((∃ p n, p ≤ n ∧ n ≤ 400 ∧ eg_gi M 121 24 = nI p ∧ eg_gi M 121 25 = nI n) ∧ m_tb M))
  (l0 : ((eg_gi M 121 31) = 0) → ∀ (M2_1 : eg_M), (m_fs M M2_1 ∧ m_at (eg_gi M 139) M2_1 (lx (eg_gi M 139) (eg_gi M 121 25).toNatClampNeg (eg_gi M 121 24).toNatClampNeg)) → eg_T wd k_X12_readClause Qp 81 0 0 [some (.ref 121), some (.int a), o2, some (.int x3), some (.int x4), some (.int x5), o6] [] M2_1)
  (l1 : (¬ (eg_gi M 121 31) = 0) → Qp (.inl none) M) :
  eg_T wd k_X12_readClause Qp 69 0 0 [some (.ref 121), some (.int a), o2, some (.int x3), some (.int x4), some (.int x5), o6] [] M := by
  refine eg_T_run mk_X12_readClause (cut := [69, 81, 146, 171, 177, 195, 221, 227]) 124 ?_
  refine And.intro (fun (c1 : (eg_gi M 121 31) = 0) => ?_) (fun (c1 : ¬ (eg_gi M 121 31) = 0) => ?_)
  · skip
    refine And.intro (show ((∃ p n, p ≤ n ∧ n ≤ 400 ∧ eg_gi M 121 24 = nI p ∧ eg_gi M 121 25 = nI n) ∧ m_tb M) from ?_) ?_
    · exact g0 c1
    intro M2_1 ha_1
    show eg_T wd k_X12_readClause Qp 81 0 0 [some (.ref 121), some (.int a), o2, some (.int x3), some (.int x4), some (.int x5), o6] [] M2_1
    exact l0 c1 M2_1 ha_1
  · skip
    show Qp (.inl none) M
    exact l1 c1

set_option maxRecDepth 100000 in
theorem st_X12_readClause_81 {Qp : eg_P} {M : eg_M} (a : Int32) (o2 : Option Value) (x3 : Int32) (x4 : Int32) (x5 : Int32) (o6 : Option Value)
  (g0 : (x3 = 0) → (x4 = 0) → ((∃ r d e s, m_rs r d e M s) ∧ m_tb M))
  (g1 : (((x3 = 0) ∧ ¬ (x4 = 0)) ∨ ¬ (x3 = 0)) → (vp_in a 8))
  (g2 : (((x3 = 0) ∧ ¬ (x4 = 0)) ∨ ¬ (x3 = 0)) → (vp_in (((nI 12) * a) + (eg_gi M 141 a.toNatClampNeg)) 96))
  (g3 : (x3 = 0) → (¬ (x4 = 0)) → (0 < 7 ∧ 7 ≤ 7 ∧ vp_in a 8 ∧ (∃ d s, m_rs a.toNatClampNeg d 0 (eg_si (eg_si (eg_si M 141 a.toNatClampNeg ((eg_gi M 141 a.toNatClampNeg) + (nI 1))) 144 (((nI 12) * a) + (eg_gi M 141 a.toNatClampNeg)).toNatClampNeg (nI 1)) 145 (((nI 12) * a) + (eg_gi M 141 a.toNatClampNeg)).toNatClampNeg (eg_gi M 121 34)) s) ∧ m_tb (eg_si (eg_si (eg_si M 141 a.toNatClampNeg ((eg_gi M 141 a.toNatClampNeg) + (nI 1))) 144 (((nI 12) * a) + (eg_gi M 141 a.toNatClampNeg)).toNatClampNeg (nI 1)) 145 (((nI 12) * a) + (eg_gi M 141 a.toNatClampNeg)).toNatClampNeg (eg_gi M 121 34)) ∧ (nI 0) = nI (7 - 7)))
  (g4 : (¬ (x3 = 0)) → (0 < 7 ∧ 7 ≤ 7 ∧ vp_in a 8 ∧ (∃ d s, m_rs a.toNatClampNeg d 0 (eg_si (eg_si (eg_si M 141 a.toNatClampNeg ((eg_gi M 141 a.toNatClampNeg) + (nI 1))) 144 (((nI 12) * a) + (eg_gi M 141 a.toNatClampNeg)).toNatClampNeg (nI 0)) 145 (((nI 12) * a) + (eg_gi M 141 a.toNatClampNeg)).toNatClampNeg (eg_gi M 121 34)) s) ∧ m_tb (eg_si (eg_si (eg_si M 141 a.toNatClampNeg ((eg_gi M 141 a.toNatClampNeg) + (nI 1))) 144 (((nI 12) * a) + (eg_gi M 141 a.toNatClampNeg)).toNatClampNeg (nI 0)) 145 (((nI 12) * a) + (eg_gi M 141 a.toNatClampNeg)).toNatClampNeg (eg_gi M 121 34)) ∧ (nI 0) = nI (7 - 7)))
  (l0 : (x3 = 0 ∧ x4 = 0) → ∀ (v_1 : Int32) (M2_1 : eg_M), (m_fq M M2_1 ∧ (∀ r d e s, m_rs r d e M s → m_rs r d e M2_1 (px_num (eg_gi M 139) (eg_gi M 121 25).toNatClampNeg s)) ∧ ∀ r d e t S, m_rs r d e M (.inr (t, S)) → t.2.2 = -nI 3 → t.2.1 ≤ t.1 + 6 → v_1 = px_n (eg_gi M 139) t.1 (t.2.1 - t.1)) → eg_T wd k_X12_readClause Qp 195 0 0 [some (.ref 121), some (.int a), o2, some (.int x3), some (.int x4), some (.int x5), o6] [.int v_1] M2_1)
  (l1 : (x3 = 0 ∧ ¬ x4 = 0) → ∀ (M2_2 : eg_M), (m_rR a.toNatClampNeg (eg_si (eg_si (eg_si M 141 a.toNatClampNeg ((eg_gi M 141 a.toNatClampNeg) + (nI 1))) 144 (((nI 12) * a) + (eg_gi M 141 a.toNatClampNeg)).toNatClampNeg (nI 1)) 145 (((nI 12) * a) + (eg_gi M 141 a.toNatClampNeg)).toNatClampNeg (eg_gi M 121 34)) M2_2 (px_E (eg_gi (eg_si (eg_si (eg_si M 141 a.toNatClampNeg ((eg_gi M 141 a.toNatClampNeg) + (nI 1))) 144 (((nI 12) * a) + (eg_gi M 141 a.toNatClampNeg)).toNatClampNeg (nI 1)) 145 (((nI 12) * a) + (eg_gi M 141 a.toNatClampNeg)).toNatClampNeg (eg_gi M 121 34)) 139) (eg_gi (eg_si (eg_si (eg_si M 141 a.toNatClampNeg ((eg_gi M 141 a.toNatClampNeg) + (nI 1))) 144 (((nI 12) * a) + (eg_gi M 141 a.toNatClampNeg)).toNatClampNeg (nI 1)) 145 (((nI 12) * a) + (eg_gi M 141 a.toNatClampNeg)).toNatClampNeg (eg_gi M 121 34)) 121 25).toNatClampNeg (7 - 1))) → eg_T wd k_X12_readClause Qp 146 0 0 [some (.ref 121), some (.int a), o2, some (.int x3), some (.int x4), some (.int x5), some (.int (((nI 12) * a) + (eg_gi M 141 a.toNatClampNeg)))] [] M2_2)
  (l2 : (¬ x3 = 0) → ∀ (M2_3 : eg_M), (m_rR a.toNatClampNeg (eg_si (eg_si (eg_si M 141 a.toNatClampNeg ((eg_gi M 141 a.toNatClampNeg) + (nI 1))) 144 (((nI 12) * a) + (eg_gi M 141 a.toNatClampNeg)).toNatClampNeg (nI 0)) 145 (((nI 12) * a) + (eg_gi M 141 a.toNatClampNeg)).toNatClampNeg (eg_gi M 121 34)) M2_3 (px_E (eg_gi (eg_si (eg_si (eg_si M 141 a.toNatClampNeg ((eg_gi M 141 a.toNatClampNeg) + (nI 1))) 144 (((nI 12) * a) + (eg_gi M 141 a.toNatClampNeg)).toNatClampNeg (nI 0)) 145 (((nI 12) * a) + (eg_gi M 141 a.toNatClampNeg)).toNatClampNeg (eg_gi M 121 34)) 139) (eg_gi (eg_si (eg_si (eg_si M 141 a.toNatClampNeg ((eg_gi M 141 a.toNatClampNeg) + (nI 1))) 144 (((nI 12) * a) + (eg_gi M 141 a.toNatClampNeg)).toNatClampNeg (nI 0)) 145 (((nI 12) * a) + (eg_gi M 141 a.toNatClampNeg)).toNatClampNeg (eg_gi M 121 34)) 121 25).toNatClampNeg (7 - 1))) → eg_T wd k_X12_readClause Qp 146 0 0 [some (.ref 121), some (.int a), o2, some (.int x3), some (.int x4), some (.int x5), some (.int (((nI 12) * a) + (eg_gi M 141 a.toNatClampNeg)))] [] M2_3) :
  eg_T wd k_X12_readClause Qp 81 0 0 [some (.ref 121), some (.int a), o2, some (.int x3), some (.int x4), some (.int x5), o6] [] M := by
  refine eg_T_run mk_X12_readClause (cut := [69, 81, 146, 171, 177, 195, 221, 227]) 124 ?_
  refine And.intro (fun (c1 : x3 = 0) => ?_) (fun (c1 : ¬ x3 = 0) => ?_)
  · skip
    refine And.intro (fun (c2 : x4 = 0) => ?_) (fun (c2 : ¬ x4 = 0) => ?_)
    · skip
      refine And.intro (show ((∃ r d e s, m_rs r d e M s) ∧ m_tb M) from ?_) ?_
      · exact g0 c1 c2
      intro v_1 M2_1 ha_1
      show eg_T wd k_X12_readClause Qp 195 0 0 [some (.ref 121), some (.int a), o2, some (.int x3), some (.int x4), some (.int x5), o6] [.int v_1] M2_1
      exact l0 ⟨c1, c2⟩ v_1 M2_1 ha_1
    · skip
      refine And.intro (show vp_in a 8 from ?_) ?_
      · exact g1 (by clear g0 g1 g2 g3 g4 l0 l1 l2; grind)
      refine And.intro (show vp_in a 8 from ?_) ?_
      · exact g1 (by clear g0 g1 g2 g3 g4 l0 l1 l2; grind)
      refine And.intro (show vp_in a 8 from ?_) ?_
      · exact g1 (by clear g0 g1 g2 g3 g4 l0 l1 l2; grind)
      refine And.intro (fun (c3 : x3 = 0) => ?_) (fun (c3 : ¬ x3 = 0) => ?_)
      · clear c3
        refine And.intro (show vp_in (((nI 12) * a) + (eg_gi M 141 a.toNatClampNeg)) 96 from ?_) ?_
        · exact g2 (by clear g0 g1 g2 g3 g4 l0 l1 l2; grind)
        refine And.intro (show vp_in (((nI 12) * a) + (eg_gi M 141 a.toNatClampNeg)) 96 from ?_) ?_
        · exact g2 (by clear g0 g1 g2 g3 g4 l0 l1 l2; grind)
        refine And.intro (show (0 < 7 ∧ 7 ≤ 7 ∧ vp_in a 8 ∧ (∃ d s, m_rs a.toNatClampNeg d 0 (eg_si (eg_si (eg_si M 141 a.toNatClampNeg ((eg_gi M 141 a.toNatClampNeg) + (nI 1))) 144 (((nI 12) * a) + (eg_gi M 141 a.toNatClampNeg)).toNatClampNeg (nI 1)) 145 (((nI 12) * a) + (eg_gi M 141 a.toNatClampNeg)).toNatClampNeg (eg_gi M 121 34)) s) ∧ m_tb (eg_si (eg_si (eg_si M 141 a.toNatClampNeg ((eg_gi M 141 a.toNatClampNeg) + (nI 1))) 144 (((nI 12) * a) + (eg_gi M 141 a.toNatClampNeg)).toNatClampNeg (nI 1)) 145 (((nI 12) * a) + (eg_gi M 141 a.toNatClampNeg)).toNatClampNeg (eg_gi M 121 34)) ∧ (nI 0) = nI (7 - 7)) from ?_) ?_
        · exact g3 c1 c2
        intro M2_2 ha_2
        show eg_T wd k_X12_readClause Qp 146 0 0 [some (.ref 121), some (.int a), o2, some (.int x3), some (.int x4), some (.int x5), some (.int (((nI 12) * a) + (eg_gi M 141 a.toNatClampNeg)))] [] M2_2
        exact l1 ⟨c1, c2⟩ M2_2 ha_2
      · exact absurd c1 c3
  · skip
    refine And.intro (show vp_in a 8 from ?_) ?_
    · exact g1 (by clear g0 g1 g2 g3 g4 l0 l1 l2; grind)
    refine And.intro (show vp_in a 8 from ?_) ?_
    · exact g1 (by clear g0 g1 g2 g3 g4 l0 l1 l2; grind)
    refine And.intro (show vp_in a 8 from ?_) ?_
    · exact g1 (by clear g0 g1 g2 g3 g4 l0 l1 l2; grind)
    refine And.intro (fun (c4 : x3 = 0) => ?_) (fun (c4 : ¬ x3 = 0) => ?_)
    · exact absurd c4 c1
    · clear c4
      refine And.intro (show vp_in (((nI 12) * a) + (eg_gi M 141 a.toNatClampNeg)) 96 from ?_) ?_
      · exact g2 (by clear g0 g1 g2 g3 g4 l0 l1 l2; grind)
      refine And.intro (show vp_in (((nI 12) * a) + (eg_gi M 141 a.toNatClampNeg)) 96 from ?_) ?_
      · exact g2 (by clear g0 g1 g2 g3 g4 l0 l1 l2; grind)
      refine And.intro (show (0 < 7 ∧ 7 ≤ 7 ∧ vp_in a 8 ∧ (∃ d s, m_rs a.toNatClampNeg d 0 (eg_si (eg_si (eg_si M 141 a.toNatClampNeg ((eg_gi M 141 a.toNatClampNeg) + (nI 1))) 144 (((nI 12) * a) + (eg_gi M 141 a.toNatClampNeg)).toNatClampNeg (nI 0)) 145 (((nI 12) * a) + (eg_gi M 141 a.toNatClampNeg)).toNatClampNeg (eg_gi M 121 34)) s) ∧ m_tb (eg_si (eg_si (eg_si M 141 a.toNatClampNeg ((eg_gi M 141 a.toNatClampNeg) + (nI 1))) 144 (((nI 12) * a) + (eg_gi M 141 a.toNatClampNeg)).toNatClampNeg (nI 0)) 145 (((nI 12) * a) + (eg_gi M 141 a.toNatClampNeg)).toNatClampNeg (eg_gi M 121 34)) ∧ (nI 0) = nI (7 - 7)) from ?_) ?_
      · exact g4 c1
      intro M2_3 ha_3
      show eg_T wd k_X12_readClause Qp 146 0 0 [some (.ref 121), some (.int a), o2, some (.int x3), some (.int x4), some (.int x5), some (.int (((nI 12) * a) + (eg_gi M 141 a.toNatClampNeg)))] [] M2_3
      exact l2 c1 M2_3 ha_3

set_option maxRecDepth 100000 in
theorem st_X12_readClause_146 {Qp : eg_P} {M : eg_M} (a : Int32) (o2 : Option Value) (o3 : Option Value) (o4 : Option Value) (x5 : Int32) (x6 : Int32)
  (g0 : (vp_in x6 96))
  (g1 : (28 < 32 ∧ (eg_gi (eg_si M 146 x6.toNatClampNeg (eg_gi M 121 34)) 121 31 = 0 → eg_gi (eg_si M 146 x6.toNatClampNeg (eg_gi M 121 34)) 121 26 = nI 1 → ∃ b e, b ≤ e ∧ e ≤ 400 ∧ eg_gi (eg_si M 146 x6.toNatClampNeg (eg_gi M 121 34)) 121 29 = nI b ∧ eg_gi (eg_si M 146 x6.toNatClampNeg (eg_gi M 121 34)) 121 30 = nI e)))
  (g2 : (¬ ((m_iw (eg_si M 146 x6.toNatClampNeg (eg_gi M 121 34)) 28) = false)) → ((∃ p n, p ≤ n ∧ n ≤ 400 ∧ eg_gi (eg_si M 146 x6.toNatClampNeg (eg_gi M 121 34)) 121 24 = nI p ∧ eg_gi (eg_si M 146 x6.toNatClampNeg (eg_gi M 121 34)) 121 25 = nI n) ∧ m_tb (eg_si M 146 x6.toNatClampNeg (eg_gi M 121 34))))
  (l0 : ((m_iw (eg_si M 146 x6.toNatClampNeg (eg_gi M 121 34)) 28) = false) → eg_T wd k_X12_readClause Qp 177 0 0 [some (.ref 121), some (.int a), o2, o3, o4, some (.int x5), some (.int x6)] [] (eg_si M 146 x6.toNatClampNeg (eg_gi M 121 34)))
  (l1 : (¬ (m_iw (eg_si M 146 x6.toNatClampNeg (eg_gi M 121 34)) 28) = false) → ∀ (M2_1 : eg_M), (m_fs (eg_si M 146 x6.toNatClampNeg (eg_gi M 121 34)) M2_1 ∧ m_at (eg_gi (eg_si M 146 x6.toNatClampNeg (eg_gi M 121 34)) 139) M2_1 (lx (eg_gi (eg_si M 146 x6.toNatClampNeg (eg_gi M 121 34)) 139) (eg_gi (eg_si M 146 x6.toNatClampNeg (eg_gi M 121 34)) 121 25).toNatClampNeg (eg_gi (eg_si M 146 x6.toNatClampNeg (eg_gi M 121 34)) 121 24).toNatClampNeg)) → eg_T wd k_X12_readClause Qp 171 0 0 [some (.ref 121), some (.int a), o2, o3, o4, some (.int x5), some (.int x6)] [] M2_1) :
  eg_T wd k_X12_readClause Qp 146 0 0 [some (.ref 121), some (.int a), o2, o3, o4, some (.int x5), some (.int x6)] [] M := by
  refine eg_T_run mk_X12_readClause (cut := [69, 81, 146, 171, 177, 195, 221, 227]) 124 ?_
  refine And.intro (show vp_in x6 96 from ?_) ?_
  · exact g0
  refine And.intro (show (28 < 32 ∧ (eg_gi (eg_si M 146 x6.toNatClampNeg (eg_gi M 121 34)) 121 31 = 0 → eg_gi (eg_si M 146 x6.toNatClampNeg (eg_gi M 121 34)) 121 26 = nI 1 → ∃ b e, b ≤ e ∧ e ≤ 400 ∧ eg_gi (eg_si M 146 x6.toNatClampNeg (eg_gi M 121 34)) 121 29 = nI b ∧ eg_gi (eg_si M 146 x6.toNatClampNeg (eg_gi M 121 34)) 121 30 = nI e)) from ?_) ?_
  · exact g1
  refine And.intro (fun (c1 : (b2i (m_iw (eg_si M 146 x6.toNatClampNeg (eg_gi M 121 34)) 28)) = 0) => ?_) (fun (c1 : ¬ (b2i (m_iw (eg_si M 146 x6.toNatClampNeg (eg_gi M 121 34)) 28)) = 0) => ?_)
  · replace c1 := b2i_0.mp c1
    show eg_T wd k_X12_readClause Qp 177 0 0 [some (.ref 121), some (.int a), o2, o3, o4, some (.int x5), some (.int x6)] [] (eg_si M 146 x6.toNatClampNeg (eg_gi M 121 34))
    exact l0 c1
  · replace c1 := b2i_ff c1
    refine And.intro (show ((∃ p n, p ≤ n ∧ n ≤ 400 ∧ eg_gi (eg_si M 146 x6.toNatClampNeg (eg_gi M 121 34)) 121 24 = nI p ∧ eg_gi (eg_si M 146 x6.toNatClampNeg (eg_gi M 121 34)) 121 25 = nI n) ∧ m_tb (eg_si M 146 x6.toNatClampNeg (eg_gi M 121 34))) from ?_) ?_
    · exact g2 c1
    intro M2_1 ha_1
    show eg_T wd k_X12_readClause Qp 171 0 0 [some (.ref 121), some (.int a), o2, o3, o4, some (.int x5), some (.int x6)] [] M2_1
    exact l1 c1 M2_1 ha_1

set_option maxRecDepth 100000 in
theorem st_X12_readClause_171 {Qp : eg_P} {M : eg_M} (a : Int32) (o2 : Option Value) (o3 : Option Value) (o4 : Option Value) (x5 : Int32) (x6 : Int32)
  (g0 : (0 < 7 ∧ 7 ≤ 7 ∧ vp_in a 8 ∧ (∃ d s, m_rs a.toNatClampNeg d 0 M s) ∧ m_tb M ∧ (nI 0) = nI (7 - 7)))
  (l0 : ∀ (M2_1 : eg_M), (m_rR a.toNatClampNeg M M2_1 (px_E (eg_gi M 139) (eg_gi M 121 25).toNatClampNeg (7 - 1))) → eg_T wd k_X12_readClause Qp 177 0 0 [some (.ref 121), some (.int a), o2, o3, o4, some (.int x5), some (.int x6)] [] M2_1) :
  eg_T wd k_X12_readClause Qp 171 0 0 [some (.ref 121), some (.int a), o2, o3, o4, some (.int x5), some (.int x6)] [] M := by
  refine eg_T_run mk_X12_readClause (cut := [69, 81, 146, 171, 177, 195, 221, 227]) 124 ?_
  refine And.intro (show (0 < 7 ∧ 7 ≤ 7 ∧ vp_in a 8 ∧ (∃ d s, m_rs a.toNatClampNeg d 0 M s) ∧ m_tb M ∧ (nI 0) = nI (7 - 7)) from ?_) ?_
  · exact g0
  intro M2_1 ha_1
  show eg_T wd k_X12_readClause Qp 177 0 0 [some (.ref 121), some (.int a), o2, o3, o4, some (.int x5), some (.int x6)] [] M2_1
  exact l0 M2_1 ha_1

set_option maxRecDepth 100000 in
theorem st_X12_readClause_177 {Qp : eg_P} {M : eg_M} (o1 : Option Value) (o2 : Option Value) (o3 : Option Value) (o4 : Option Value) (x5 : Int32) (x6 : Int32)
  (g0 : (vp_in x6 96))
  (l0 : eg_T wd k_X12_readClause Qp 221 0 0 [some (.ref 121), o1, o2, o3, o4, some (.int x5), some (.int x6)] [] (eg_si M 147 x6.toNatClampNeg (eg_gi M 121 34))) :
  eg_T wd k_X12_readClause Qp 177 0 0 [some (.ref 121), o1, o2, o3, o4, some (.int x5), some (.int x6)] [] M := by
  refine eg_T_run mk_X12_readClause (cut := [69, 81, 146, 171, 177, 195, 221, 227]) 124 ?_
  refine And.intro (show vp_in x6 96 from ?_) ?_
  · exact g0
  show eg_T wd k_X12_readClause Qp 221 0 0 [some (.ref 121), o1, o2, o3, o4, some (.int x5), some (.int x6)] [] (eg_si M 147 x6.toNatClampNeg (eg_gi M 121 34))
  exact l0

set_option maxRecDepth 100000 in
theorem st_X12_readClause_195 {Qp : eg_P} {M : eg_M} (a : Int32) (o2 : Option Value) (o3 : Option Value) (o4 : Option Value) (x5 : Int32) (o6 : Option Value) (s0 : Int32)
  (g0 : (vp_in a 8))
  (l0 : (x5 = 0) → eg_T wd k_X12_readClause Qp 221 0 0 [some (.ref 121), some (.int a), o2, o3, o4, some (.int x5), some (.int s0)] [] (eg_si M 143 a.toNatClampNeg s0))
  (l1 : (¬ x5 = 0) → eg_T wd k_X12_readClause Qp 221 0 0 [some (.ref 121), some (.int a), o2, o3, o4, some (.int x5), some (.int s0)] [] (eg_si M 142 a.toNatClampNeg s0)) :
  eg_T wd k_X12_readClause Qp 195 0 0 [some (.ref 121), some (.int a), o2, o3, o4, some (.int x5), o6] [.int s0] M := by
  refine eg_T_run mk_X12_readClause (cut := [69, 81, 146, 171, 177, 195, 221, 227]) 124 ?_
  refine And.intro (fun (c1 : x5 = 0) => ?_) (fun (c1 : ¬ x5 = 0) => ?_)
  · skip
    refine And.intro (show vp_in a 8 from ?_) ?_
    · exact g0
    show eg_T wd k_X12_readClause Qp 221 0 0 [some (.ref 121), some (.int a), o2, o3, o4, some (.int x5), some (.int s0)] [] (eg_si M 143 a.toNatClampNeg s0)
    exact l0 c1
  · skip
    refine And.intro (show vp_in a 8 from ?_) ?_
    · exact g0
    show eg_T wd k_X12_readClause Qp 221 0 0 [some (.ref 121), some (.int a), o2, o3, o4, some (.int x5), some (.int s0)] [] (eg_si M 142 a.toNatClampNeg s0)
    exact l1 c1

set_option maxRecDepth 100000 in
theorem st_X12_readClause_221 {Qp : eg_P} {M : eg_M} (o1 : Option Value) (o2 : Option Value) (o3 : Option Value) (o4 : Option Value) (o5 : Option Value) (o6 : Option Value)
  (g0 : ((∃ r d e s, m_rs r d e M s) ∧ m_tb M ∧ m_is (nI 59)))
  (l0 : ∀ (M2_1 : eg_M), (m_fq M M2_1 ∧ ∀ r d e s, m_rs r d e M s → m_rs r d e M2_1 (px_sgn (eg_gi M 139) (eg_gi M 121 25).toNatClampNeg (nI 59) s)) → eg_T wd k_X12_readClause Qp 227 0 0 [some (.ref 121), o1, o2, o3, o4, o5, o6] [] M2_1) :
  eg_T wd k_X12_readClause Qp 221 0 0 [some (.ref 121), o1, o2, o3, o4, o5, o6] [] M := by
  refine eg_T_run mk_X12_readClause (cut := [69, 81, 146, 171, 177, 195, 221, 227]) 124 ?_
  refine And.intro (show ((∃ r d e s, m_rs r d e M s) ∧ m_tb M ∧ m_is (nI 59)) from ?_) ?_
  · exact g0
  intro M2_1 ha_1
  show eg_T wd k_X12_readClause Qp 227 0 0 [some (.ref 121), o1, o2, o3, o4, o5, o6] [] M2_1
  exact l0 M2_1 ha_1

set_option maxRecDepth 100000 in
theorem st_X12_readClause_227 {Qp : eg_P} {M : eg_M} (o0 : Option Value) (o1 : Option Value) (o2 : Option Value) (o3 : Option Value) (o4 : Option Value) (o5 : Option Value) (o6 : Option Value)
  (l0 : Qp (.inl none) M) :
  eg_T wd k_X12_readClause Qp 227 0 0 [o0, o1, o2, o3, o4, o5, o6] [] M := by
  refine eg_T_run mk_X12_readClause (cut := [69, 81, 146, 171, 177, 195, 221, 227]) 124 ?_
  show Qp (.inl none) M
  exact l0

def s_X12_readClause : eg_S := fun argv M Qp => match argv with
  | [.ref 121, .int a, .int b] => (∃ r i, a = nI r ∧ r < 8 ∧ b = nI i ∧ i ≤ 12 ∧ (∃ t CL p q, m_vd r M i t CL p q) ∧ m_tb M) ∧ ∀ (M2 : eg_M), (∀ r i, a = nI r → r < 8 → b = nI i → i ≤ 12 → m_fc r M M2 ∧ ∀ t CL p q, m_vd r M i t CL p q → m_rc r M2 (px_cl (eg_gi M 139) (eg_gi M 121 25).toNatClampNeg (decide (i < 12)) (.inr (t, CL, p, q)))) → Qp (.inl none) M2
  | _ => False
theorem mo_X12_readClause : eg_mono s_X12_readClause := by
  intro argv M Q Q' h
  unfold s_X12_readClause
  split
  · exact fun z => ⟨z.1, fun M2 y => h _ _ (z.2 M2 y)⟩
  · exact id
theorem sz_X12_readClause : ∀ argv M Qp, s_X12_readClause argv M Qp → (eg_ls0 argv).length ≤ 7 := by
  intro argv M Qp h
  unfold s_X12_readClause at h
  split at h
  · exact Nat.le_of_ble_eq_true rfl
  · exact h.elim
theorem sr_X12_readClause : ∀ argv M Qp, s_X12_readClause argv M Qp → ∃ p0 As, argv = .ref p0 :: As ∧ eg_isO wd M p0 12 = true := by
  intro argv M Qp h
  unfold s_X12_readClause at h
  split at h
  · exact ⟨_, _, rfl, rfl⟩
  · exact h.elim
set_option maxRecDepth 100000 in
set_option maxHeartbeats 1000000 in
theorem T_X12_readClause {argv : List Value} {M : eg_M} {Qp : eg_P} (h : s_X12_readClause argv M Qp) : eg_T wd k_X12_readClause Qp 0 0 0 (eg_lsN 7 argv) [] M := by
  unfold s_X12_readClause at h
  split at h
  · rename_i a b
    obtain ⟨hp, hq⟩ := h
    obtain ⟨r, i, rfl, hr, rfl, hi, ⟨t0, CL0, p0, q0, hv0⟩, hT⟩ := hp
    obtain ⟨⟨hs0, hb0⟩, ho0, hl0⟩ := id hv0
    have hs0 : m_rs r 0 0 M (.inr (t0, px_fm CL0)) := hs0
    have hrc : (nI r).toNatClampNeg = r := n_c (by omega)
    obtain ⟨n, hn, eN, hz, _⟩ := id hs0
    have hz : eg_gi M 121 31 = 0 := hz
    have hnc : (nI n).toNatClampNeg = n := n_c (by omega)
    rw [eN, hnc] at hq
    have hTT := mb_T hT hn
    have hq : ∀ M2, m_fc r M M2 → (∀ t CL p q, m_vd r M i t CL p q → m_rc r M2 (px_cl (eg_gi M 139) n (decide (i < 12)) (.inr (t, CL, p, q)))) → Qp (.inl none) M2 := fun M2 h1 h2 => hq M2 (fun r' i' e1 h8 e2 h12 => by
      rw [n_eq (by omega) (by omega)] at e1 e2
      subst e1 e2
      exact ⟨h1, h2⟩)
    have vd : ∀ t CL p q, m_vd r M i t CL p q → m_rs r 0 0 M (.inr (t, px_fm CL)) ∧ m_tbl r M CL p q ∧ px_ok (eg_gi M 139) n (.inr (t, CL, p, q)) ∧ CL.length ≤ i := by
      intro t CL p q h
      obtain ⟨⟨h1, h2⟩, h3, h4⟩ := h
      rw [eN, hnc] at h3
      exact ⟨h1, h2, h3, h4⟩
    have hw : ∀ w t S, m_rs r 0 0 M (.inr (t, S)) → m_iw M w = px_w (eg_gi M 139) w t := fun w t S hs => ms_iw hs w
    have hhd : ∀ t S, m_rs r 0 0 M (.inr (t, S)) → px_hd (eg_gi M 139) t = if m_iw M 4 = true then some 0 else if m_iw M 25 = true then some 1 else if m_iw M 22 = true then some 2 else if m_iw M 23 = true then some 3 else none := fun t S hs => by
      unfold px_hd
      rw [hw 4 t S hs, hw 25 t S hs, hw 22 t S hs, hw 23 t S hs]
    have f221 : ∀ N (f : px_S → px_S) (o1 o2 o3 o4 o5 o6 : Option Value), m_fc r M N → (∀ s, m_rs r 0 0 M s → m_rs r 0 1 N (f s)) → (∀ t CL p q, m_vd r M i t CL p q → px_sgn (eg_gi M 139) n (nI 59) (f (.inr (t, px_fm CL))) = px_vm (px_cl (eg_gi M 139) n (decide (i < 12)) (.inr (t, CL, p, q))) ∧ ∀ u CL' p' q', px_cl (eg_gi M 139) n (decide (i < 12)) (.inr (t, CL, p, q)) = .inr (u, CL', p', q') → m_tbl r N CL' p' q') → eg_T wd k_X12_readClause Qp 221 0 0 [some (.ref 121), o1, o2, o3, o4, o5, o6] [] N := by
      intro N f o1 o2 o3 o4 o5 o6 hf hg hc
      refine st_X12_readClause_221 o1 o2 o3 o4 o5 o6 ⟨⟨r, 0, 1, _, hg _ hs0⟩, fc_tb hf hT, by unfold m_is; decide⟩ (fun N2 h2 => st_X12_readClause_227 _ _ _ _ _ _ _ (hq N2 (fc_tr hf (fc_mr (mr_fq h2.1))) (fun t CL p q hv => ?_)))
      obtain ⟨v1, v2, v3, v4⟩ := vd t CL p q hv
      obtain ⟨c1, c2⟩ := hc t CL p q hv
      have hs := h2.2 r 0 1 _ (hg _ v1)
      rw [fc_139 hf, fc_25 hf, eN, hnc, c1] at hs
      have hok := (px_cl_eq hn hTT (decide (i < 12)) v3).2.1
      cases hx : px_cl (eg_gi M 139) n (decide (i < 12)) (.inr (t, CL, p, q)) with
      | inl e =>
        rw [hx] at hs
        exact ⟨hs, trivial⟩
      | inr y =>
        obtain ⟨u, CL', p', q'⟩ := y
        rw [hx] at hs hok
        have hb := px_ok_ref hok
        exact ⟨ms_t (t := u) (S := px_fm CL') hs hb.1 hb.2, tbl_of (fq_tab h2.1) (c2 u CL' p' q' hx)⟩
    have fw : ∀ c (o2 o6 : Option Value), 1 ≤ c → c ≤ 3 → (∀ t CL p q, m_vd r M i t CL p q → px_cl (eg_gi M 139) n (decide (i < 12)) (.inr (t, CL, p, q)) = .inl (c, t.1)) → eg_T wd k_X12_readClause Qp 69 0 0 [some (.ref 121), some (.int (nI r)), o2, some (.int (b2i (m_iw M 4))), some (.int (b2i (m_iw M 25))), some (.int (b2i (m_iw M 22))), o6] [] (m_wr M (nI c)) := by
      intro c o2 o6 h1 h3 he
      have wz : ¬ eg_gi (m_wr M (nI c)) 121 31 = 0 := by
        unfold m_wr
        rw [if_pos hz]
        exact nI_ne0 h1 (show c < 2 ^ 31 by omega)
      refine st_X12_readClause_69 (nI r) o2 _ _ _ o6 (fun z => absurd z wz) (fun z => absurd z wz) (fun _ => hq _ (fc_mr (mr_fq (fq_wr M _))) (fun t CL p q hv => ?_))
      rw [he t CL p q hv]
      exact ⟨ms_ref h1 h3 (vd t CL p q hv).1 (fun _ _ => trivial), trivial⟩
    have f81 : (m_iw M 4 = true ∨ m_iw M 25 = true ∨ m_iw M 22 = true ∨ m_iw M 23 = true) → i < 12 → ∀ (o2 o6 : Option Value), eg_T wd k_X12_readClause Qp 69 0 0 [some (.ref 121), some (.int (nI r)), o2, some (.int (b2i (m_iw M 4))), some (.int (b2i (m_iw M 25))), some (.int (b2i (m_iw M 22))), o6] [] M := by
      intro hh hi12 o2 o6
      have kw : ∀ t S, m_rs r 0 0 M (.inr (t, S)) → t.2.2 = -nI 2 := by
        intro t S hs
        rcases hh with y | y | y | y
        · exact px_w_k (by rw [← hw 4 t S hs]; exact y)
        · exact px_w_k (by rw [← hw 25 t S hs]; exact y)
        · exact px_w_k (by rw [← hw 22 t S hs]; exact y)
        · exact px_w_k (by rw [← hw 23 t S hs]; exact y)
      refine st_X12_readClause_69 (nI r) o2 _ _ _ o6 (fun _ => ⟨ms_st hs0 hz, hT⟩) (fun _ N h => ?_) (fun z => absurd hz z)
      have hfN : m_fr r M N := mr_fq (fq_fs h.1)
      have adv : ∀ s, m_rs r 0 0 M s → m_rs r 0 0 N (px_adv (eg_gi M 139) n s) := by
        intro s hs
        obtain ⟨t, S, rfl⟩ := (ms_0 hs).mp hz
        have b : S.length + 0 ≤ t.1 ∧ 2 * px_W S + 2 * 0 ≤ 3 * t.1 + 0 := by
          obtain ⟨_, _, _, _, _, _, g4, g5, _⟩ := hs
          exact ⟨g4, g5⟩
        have := ms_step (d' := 0) (e' := 0) hs (by rw [kw t S hs]; decide) h (by omega) (by omega)
        rw [eN, hnc] at this
        exact this
      have hsN := adv _ hs0
      have L0 : eg_gi N 141 r = nI CL0.length := (mr_tab hfN 141 r (by decide) (by decide)).trans hb0.1
      have L1 : ∀ t CL p q, m_vd r M i t CL p q → CL.length = CL0.length := by
        intro t CL p q hv
        have h1 := (vd t CL p q hv).2.1
        have := h1.1.symm.trans hb0.1
        rw [n_eq (by have := h1.2.1; omega) (by have := hb0.2.1; omega)] at this
        exact this
      have ix : nI 12 * nI r + nI CL0.length = nI (12 * r + CL0.length) := by rw [n_m, n_s]
      have ixc : (nI (12 * r + CL0.length)).toNatClampNeg = 12 * r + CL0.length := n_c (by omega)
      have okt : decide (i < 12) = true := decide_eq_true hi12
      have fform : ∀ kd : Int32, (kd = if m_iw M 4 = true then nI 0 else nI 1) → (m_iw M 4 = true ∨ m_iw M 25 = true) → ∀ N2 (o2 o3 o4 : Option Value) (x5 : Int32), m_rR r (eg_si (eg_si (eg_si N 141 r (nI (CL0.length + 1))) 144 (12 * r + CL0.length) kd) 145 (12 * r + CL0.length) (eg_gi N 121 34)) N2 (px_E (eg_gi M 139) n 6) → eg_T wd k_X12_readClause Qp 146 0 0 [some (.ref 121), some (.int (nI r)), o2, o3, o4, some (.int x5), some (.int (nI (12 * r + CL0.length)))] [] N2 := by
        intro kd hkd hgr N2 o2 o3 o4 x5 h2
        have clE : ∀ t CL p q, m_vd r M i t CL p q → px_cl (eg_gi M 139) n (decide (i < 12)) (.inr (t, CL, p, q)) = px_fo (eg_gi M 139) n t kd CL p q := by
          intro t CL p q hv
          have hs := (vd t CL p q hv).1
          unfold px_cl
          dsimp only
          rw [hhd t _ hs, okt, hkd]
          cases w4 : m_iw M 4 with
          | true =>
            rw [if_pos rfl, if_pos rfl]
            rfl
          | false =>
            rw [w4] at hgr
            rcases hgr with y | y
            · exact absurd y Bool.noConfusion
            · rw [if_neg (fun z => Bool.noConfusion z), if_pos y, if_neg (fun z => Bool.noConfusion z)]
              rfl
        have fN1 : m_fc r N (eg_si (eg_si (eg_si N 141 r (nI (CL0.length + 1))) 144 (12 * r + CL0.length) kd) 145 (12 * r + CL0.length) (eg_gi N 121 34)) := fc_tr (fc_si (by omega)) (fc_tr (fc_si (by omega)) (fc_si (by omega)))
        have f02 : m_fc r M N2 := fc_tr (fc_tr (fc_mr hfN) fN1) (fc_mr h2.1)
        have st1 : ∀ s, m_rs r 0 0 M s → m_rs r 0 1 N2 (px_E (eg_gi M 139) n 6 (px_adv (eg_gi M 139) n s)) := fun s hs => h2.2 0 _ (ms_si (by omega) (ms_si (by omega) (ms_si (by omega) (adv s hs))))
        have tab2 := mr_tab h2.1
        have c34 : ∀ t CL p q, m_vd r M i t CL p q → eg_gi N 121 34 = nI (px_W (px_fm CL)) := by
          intro t CL p q hv
          have hs := adv _ (vd t CL p q hv).1
          obtain ⟨_, _, _, _, _, _, _, _, g6, _⟩ := hs
          exact g6
        -- what stands when both expressions are read
        have fend : ∀ N3 (f : px_S → px_S) (o1 o2 o3 o4 : Option Value) (x5 : Int32), m_fr r (eg_si N2 146 (12 * r + CL0.length) (eg_gi N2 121 34)) N3 → (∀ s, m_rs r 0 0 M s → m_rs r 0 1 N3 (px_ulM (eg_gi M 139) n (px_E (eg_gi M 139) n 6 (px_adv (eg_gi M 139) n s)))) → eg_T wd k_X12_readClause Qp 177 0 0 [some (.ref 121), o1, o2, o3, o4, some (.int x5), some (.int (nI (12 * r + CL0.length)))] [] N3 := by
          intro N3 _ o1 o2 o3 o4 x5 hf3 st3
          refine st_X12_readClause_177 o1 o2 o3 o4 x5 _ ((n_in (by omega) (by decide)).mpr (by omega)) ?_
          rw [ixc]
          have f03 : m_fc r M (eg_si N3 147 (12 * r + CL0.length) (eg_gi N3 121 34)) := fc_tr (fc_tr (fc_tr f02 (fc_si (by omega))) (fc_mr hf3)) (fc_si (by omega))
          refine f221 _ (fun s => px_ulM (eg_gi M 139) n (px_E (eg_gi M 139) n 6 (px_adv (eg_gi M 139) n s))) _ _ _ _ _ _ f03 (fun s hs => ms_si (by omega) (st3 s hs)) (fun t CL p q hv => ?_)
          obtain ⟨v1, v2, v3, v4⟩ := vd t CL p q hv
          have eL := L1 t CL p q hv
          refine ⟨?_, fun u CL' p' q' hx => ?_⟩
          · rw [clE t CL p q hv]
            exact px_foM_eq hn hTT (by rw [kw t _ v1]; decide) v3
          · rw [clE t CL p q hv] at hx
            -- the two expressions
            have S2 := st1 _ v1
            have S3 := st3 _ v1
            obtain ⟨o1', o2', o3', o4', o5', o6'⟩ := v3
            have G := px_E_G hn hTT 6
            obtain ⟨a1, a2⟩ := px_nx o1' (by rw [kw t _ v1]; decide)
            obtain ⟨g1, g2⟩ := G.2 _ a1
            have hle := px_fm_le CL
            have e0 : px_adv (eg_gi M 139) n (.inr (t, px_fm CL)) = .inr (lx (eg_gi M 139) n t.2.1, px_fm CL) := rfl
            rw [e0, g1 (px_fm CL) (by omega)] at S2 S3
            unfold px_fo at hx
            cases hE : px_E (eg_gi M 139) n 6 (.inr (lx (eg_gi M 139) n t.2.1, [])) with
            | inl e =>
              rw [hE] at hx
              cases hx
            | inr x =>
              obtain ⟨u1, P⟩ := x
              rw [hE] at hx S2 S3 g2
              obtain ⟨d1, d2, d3, d4, d5⟩ := g2
              have e1 : px_ap (px_fm CL) (.inr (u1, P)) = .inr (u1, px_fm CL ++ P) := rfl
              rw [e1] at S2 S3
              have W2 : eg_gi N2 121 34 = nI (px_W (px_fm CL) + px_W P) := by
                obtain ⟨_, _, _, _, _, _, _, _, g6, _⟩ := S2
                rw [g6, px_W_a]
              have fin : ∀ Q, eg_gi N3 121 34 = nI (px_W (px_fm CL) + px_W P + px_W Q) → m_tbl r (eg_si N3 147 (12 * r + CL0.length) (eg_gi N3 121 34)) (CL ++ [(kd, P, Q)]) p q := by
                intro Q W3
                have t3 := mr_tab hf3
                have tN := mr_tab hfN
                refine tbl_add (M := M) hr v2 (by omega) ?_ (fun j => ?_) (fun j => ?_) (fun j => ?_) (fun j => ?_) ?_ ?_
                · rw [eL, si_g, if_neg (by omega), t3 141 _ (by decide) (by decide), si_g, if_neg (by omega), tab2 141 _ (by decide) (by decide), si_g, if_neg (by omega), si_g, if_neg (by omega), si_g, if_pos ⟨rfl, rfl⟩]
                · rw [eL, si_g, if_neg (by omega), t3 144 _ (by decide) (by decide), si_g, if_neg (by omega), tab2 144 _ (by decide) (by decide), si_g, if_neg (by omega), si_g]
                  by_cases hj : j = 12 * r + CL0.length
                  · rw [if_pos ⟨rfl, hj⟩, if_pos hj]
                  · rw [if_neg (fun z => hj z.2), if_neg hj, si_g, if_neg (by omega), tN 144 _ (by decide) (by decide)]
                · rw [eL, si_g, if_neg (by omega), t3 145 _ (by decide) (by decide), si_g, if_neg (by omega), tab2 145 _ (by decide) (by decide), si_g, c34 t CL p q hv]
                  by_cases hj : j = 12 * r + CL0.length
                  · rw [if_pos ⟨rfl, hj⟩, if_pos hj]
                  · rw [if_neg (fun z => hj z.2), if_neg hj, si_g, if_neg (by omega), si_g, if_neg (by omega), tN 145 _ (by decide) (by decide)]
                · rw [eL, si_g, if_neg (by omega), t3 146 _ (by decide) (by decide), si_g, W2]
                  by_cases hj : j = 12 * r + CL0.length
                  · rw [if_pos ⟨rfl, hj⟩, if_pos hj]
                  · rw [if_neg (fun z => hj z.2), if_neg hj, tab2 146 _ (by decide) (by decide), si_g, if_neg (by omega), si_g, if_neg (by omega), si_g, if_neg (by omega), tN 146 _ (by decide) (by decide)]
                · rw [eL, si_g, W3]
                  by_cases hj : j = 12 * r + CL0.length
                  · rw [if_pos ⟨rfl, hj⟩, if_pos hj]
                  · rw [if_neg (fun z => hj z.2), if_neg hj, t3 147 _ (by decide) (by decide), si_g, if_neg (by omega), tab2 147 _ (by decide) (by decide), si_g, if_neg (by omega), si_g, if_neg (by omega), si_g, if_neg (by omega), tN 147 _ (by decide) (by decide)]
                · rw [si_g, if_neg (by omega), t3 142 _ (by decide) (by decide), si_g, if_neg (by omega), tab2 142 _ (by decide) (by decide), si_g, if_neg (by omega), si_g, if_neg (by omega), si_g, if_neg (by omega), tN 142 _ (by decide) (by decide)]
                · rw [si_g, if_neg (by omega), t3 143 _ (by decide) (by decide), si_g, if_neg (by omega), tab2 143 _ (by decide) (by decide), si_g, if_neg (by omega), si_g, if_neg (by omega), si_g, if_neg (by omega), tN 143 _ (by decide) (by decide)]
              have hx : (if px_w (eg_gi M 139) 28 u1 = true then (match px_E (eg_gi M 139) n 6 (.inr (lx (eg_gi M 139) n u1.2.1, [])) with
                  | .inl e => (.inl e : px_C)
                  | .inr (v, Q) => px_sc (eg_gi M 139) n v (CL ++ [(kd, P, Q)], p, q)) else px_sc (eg_gi M 139) n u1 (CL ++ [(kd, P, [])], p, q)) = .inr (u, CL', p', q') := hx
              unfold px_ulM at S3
              have e2 : px_is (eg_gi M 139) 28 (.inr (u1, px_fm CL ++ P)) = px_w (eg_gi M 139) 28 u1 := rfl
              rw [e2] at S3
              by_cases hw9 : px_w (eg_gi M 139) 28 u1 = true
              · rw [if_pos hw9] at hx S3
                obtain ⟨c1, c2⟩ := px_nx d1 (by rw [px_w_k hw9]; decide)
                obtain ⟨g3, g4⟩ := G.2 _ c1
                have e3 : px_adv (eg_gi M 139) n (.inr (u1, px_fm CL ++ P)) = .inr (lx (eg_gi M 139) n u1.2.1, px_fm CL ++ P) := rfl
                rw [e3, g3 (px_fm CL ++ P) (by rw [List.length_append]; omega)] at S3
                cases hE2 : px_E (eg_gi M 139) n 6 (.inr (lx (eg_gi M 139) n u1.2.1, [])) with
                | inl e =>
                  rw [hE2] at hx
                  cases hx
                | inr x =>
                  obtain ⟨v, Q⟩ := x
                  rw [hE2] at hx S3
                  have hx : px_sc (eg_gi M 139) n v (CL ++ [(kd, P, Q)], p, q) = .inr (u, CL', p', q') := hx
                  cases px_sc_in hx
                  refine fin Q ?_
                  have e4 : px_ap (px_fm CL ++ P) (.inr (v, Q)) = .inr (v, px_fm CL ++ P ++ Q) := rfl
                  rw [e4] at S3
                  obtain ⟨_, _, _, _, _, _, _, _, g6, _⟩ := S3
                  rw [g6, px_W_a, px_W_a]
              · rw [if_neg hw9] at hx S3
                cases px_sc_in hx
                refine fin [] ?_
                obtain ⟨_, _, _, _, _, _, _, _, g6, _⟩ := S3
                rw [g6, px_W_a]
                rfl
        have stA : ∀ s, m_rs r 0 0 M s → m_rs r 0 1 (eg_si N2 146 (12 * r + CL0.length) (eg_gi N2 121 34)) (px_E (eg_gi M 139) n 6 (px_adv (eg_gi M 139) n s)) := fun s hs => ms_si (by omega) (st1 s hs)
        have f0A : m_fc r M (eg_si N2 146 (12 * r + CL0.length) (eg_gi N2 121 34)) := fc_tr f02 (fc_si (by omega))
        have hwA : ∀ s, m_rs r 0 0 M s → m_iw (eg_si N2 146 (12 * r + CL0.length) (eg_gi N2 121 34)) 28 = px_is (eg_gi M 139) 28 (px_E (eg_gi M 139) n 6 (px_adv (eg_gi M 139) n s)) := fun s hs => by
          rw [ms_iw (stA s hs), fc_139 f0A]
        have st := st_X12_readClause_146 (Qp := Qp) (M := N2) (nI r) o2 o3 o4 x5 (nI (12 * r + CL0.length))
        rw [ixc] at st
        refine st ((n_in (by omega) (by decide)).mpr (by omega)) ⟨by decide, ms_wp (stA _ hs0)⟩ (fun z => ⟨ms_st (stA _ hs0) (iw_0 z), fc_tb f0A hT⟩) (fun z => ?_) (fun z N4 h4 => ?_)
        · refine fend _ id _ _ _ _ _ (mr_rf r _) (fun s hs => ?_)
          unfold px_ulM
          rw [← hwA s hs, z, if_neg Bool.noConfusion]
          exact stA s hs
        · have fA4 : m_fr r (eg_si N2 146 (12 * r + CL0.length) (eg_gi N2 121 34)) N4 := mr_fq (fq_fs h4.1)
          have adv4 : ∀ s, m_rs r 0 0 M s → m_rs r 0 0 N4 (px_adv (eg_gi M 139) n (px_E (eg_gi M 139) n 6 (px_adv (eg_gi M 139) n s))) := by
            intro s hs
            have hs' := stA s hs
            have h1 : px_is (eg_gi M 139) 28 (px_E (eg_gi M 139) n 6 (px_adv (eg_gi M 139) n s)) = true := by
              rw [← hwA s hs]
              exact bq_t z
            cases hgs : px_E (eg_gi M 139) n 6 (px_adv (eg_gi M 139) n s) with
            | inl e =>
              rw [hgs] at h1
              exact Bool.noConfusion h1
            | inr y =>
              obtain ⟨t, S⟩ := y
              rw [hgs] at hs' h1
              have k : t.2.2 = -nI 2 := px_w_k h1
              have b : S.length + 0 ≤ t.1 ∧ 2 * px_W S + 2 * 0 ≤ 3 * t.1 + 1 := by
                obtain ⟨_, _, _, _, _, _, g4, g5, _⟩ := hs'
                exact ⟨g4, g5⟩
              have := ms_step (d' := 0) (e' := 0) hs' (by rw [k]; decide) h4 (by omega) (by omega)
              rw [fc_139 f0A, fc_25 f0A, eN, hnc] at this
              exact this
          have f04 : m_fc r M N4 := fc_tr f0A (fc_mr fA4)
          refine st_X12_readClause_171 (nI r) o2 o3 o4 x5 _ ⟨by decide, by decide, (n_in (by omega) (by decide)).mpr hr, ⟨0, _, by rw [hrc]; exact adv4 _ hs0⟩, fc_tb f04 hT, rfl⟩ (fun N5 h5 => ?_)
          rw [hrc, fc_139 f04, fc_25 f04, eN, hnc] at h5
          refine fend N5 id _ _ _ _ _ (mr_tr fA4 h5.1) (fun s hs => ?_)
          unfold px_ulM
          rw [← hwA s hs, bq_t z, if_pos rfl]
          exact h5.2 0 _ (adv4 s hs)
      -- after the first word
      have st := st_X12_readClause_81 (Qp := Qp) (M := N) (nI r) o2 (b2i (m_iw M 4)) (b2i (m_iw M 25)) (b2i (m_iw M 22)) o6
      have ixN : nI 12 * nI r + eg_gi N 141 (nI r).toNatClampNeg = nI (12 * r + CL0.length) := by rw [hrc, L0, ix]
      have l12 : m_iw M 4 = true ∨ m_iw M 25 = true → CL0.length < 12 := fun _ => by omega
      rw [ixN, ixc, hrc, L0, n_s] at st
      have fN1 : ∀ kd, m_fc r N (eg_si (eg_si (eg_si N 141 r (nI (CL0.length + 1))) 144 (12 * r + CL0.length) kd) 145 (12 * r + CL0.length) (eg_gi N 121 34)) := fun kd => fc_tr (fc_si (by omega)) (fc_tr (fc_si (by omega)) (fc_si (by omega)))
      have hN1 : ∀ kd, m_rs r 0 0 (eg_si (eg_si (eg_si N 141 r (nI (CL0.length + 1))) 144 (12 * r + CL0.length) kd) 145 (12 * r + CL0.length) (eg_gi N 121 34)) (px_adv (eg_gi M 139) n (.inr (t0, px_fm CL0))) := fun kd => ms_si (by omega) (ms_si (by omega) (ms_si (by omega) hsN))
      have vr : vp_in (nI r) 8 := (n_in (by omega) (by decide)).mpr hr
      have f1N : ∀ kd, m_fc r M (eg_si (eg_si (eg_si N 141 r (nI (CL0.length + 1))) 144 (12 * r + CL0.length) kd) 145 (12 * r + CL0.length) (eg_gi N 121 34)) := fun kd => fc_tr (fc_mr hfN) (fN1 kd)
      have g5 : ∀ kd, (0 < 7 ∧ 7 ≤ 7 ∧ vp_in (nI r) 8 ∧ (∃ d s, m_rs r d 0 (eg_si (eg_si (eg_si N 141 r (nI (CL0.length + 1))) 144 (12 * r + CL0.length) kd) 145 (12 * r + CL0.length) (eg_gi N 121 34)) s) ∧ m_tb (eg_si (eg_si (eg_si N 141 r (nI (CL0.length + 1))) 144 (12 * r + CL0.length) kd) 145 (12 * r + CL0.length) (eg_gi N 121 34)) ∧ nI 0 = nI (7 - 7)) := fun kd => ⟨by decide, by decide, vr, ⟨0, _, hN1 kd⟩, fc_tb (f1N kd) hT, rfl⟩
      refine st (fun _ _ => ⟨⟨r, 0, 0, _, hsN⟩, mr_tb hfN hT⟩) (fun _ => vr) (fun _ => (n_in (by omega) (by decide)).mpr (by omega)) (fun _ _ => g5 _) (fun _ => g5 _) (fun z v N2 h2 => ?_) (fun z N2 h2 => ?_) (fun z N2 h2 => ?_)
      · have w4 : m_iw M 4 = false := b2i_0.mp z.1
        have w25 : m_iw M 25 = false := b2i_0.mp z.2
        obtain ⟨k1, k2, k3⟩ := h2
        rw [mr_139 hfN, mr_25 hfN, eN, hnc] at k2
        rw [mr_139 hfN] at k3
        have clN : ∀ t CL p q, m_vd r M i t CL p q → px_cl (eg_gi M 139) n (decide (i < 12)) (.inr (t, CL, p, q)) = px_nu (eg_gi M 139) n t (m_iw M 22) CL p q := by
          intro t CL p q hv
          have hs := (vd t CL p q hv).1
          unfold px_cl
          dsimp only
          rw [hhd t _ hs, okt, w4, w25, if_neg Bool.noConfusion, if_neg Bool.noConfusion]
          cases w22 : m_iw M 22 with
          | true =>
            rw [if_pos rfl]
            rfl
          | false =>
            rw [w4, w25, w22] at hh
            rcases hh with y | y | y | y
            · exact absurd y Bool.noConfusion
            · exact absurd y Bool.noConfusion
            · exact absurd y Bool.noConfusion
            · rw [if_neg Bool.noConfusion, y, if_pos rfl]
              rfl
        have fN2 : m_fc r M N2 := fc_tr (fc_mr hfN) (fc_mr (mr_fq k1))
        have fin : ∀ (o1 o2 o3 o4 o5 o6 : Option Value) (P Q : Int32), eg_T wd k_X12_readClause Qp 221 0 0 [some (.ref 121), o1, o2, o3, o4, o5, o6] [] (if m_iw M 22 = true then eg_si N2 142 r v else eg_si N2 143 r v) := by
          intro o1 o2 o3 o4 o5 o6 _ _
          refine f221 _ (fun s => px_num (eg_gi M 139) n (px_adv (eg_gi M 139) n s)) _ _ _ _ _ _ ?_ (fun s hs => ?_) (fun t CL p q hv => ?_)
          · split
            · exact fc_tr fN2 (fc_si (by omega))
            · exact fc_tr fN2 (fc_si (by omega))
          · have := ms_le (e' := 1) (k2 r 0 0 _ (adv s hs)) (Nat.le_refl _) (by decide)
            split
            · exact ms_si (by omega) this
            · exact ms_si (by omega) this
          · obtain ⟨v1, v2, v3, v4⟩ := vd t CL p q hv
            refine ⟨by rw [clN t CL p q hv]; exact px_nuM_eq _, fun u CL' p' q' hx => ?_⟩
            rw [clN t CL p q hv] at hx
            obtain ⟨n3, n6, hY⟩ := px_nu_in hx
            have hs1 := adv _ v1
            have e0 : px_adv (eg_gi M 139) n (.inr (t, px_fm CL)) = .inr (lx (eg_gi M 139) n t.2.1, px_fm CL) := rfl
            rw [e0] at hs1
            have ev := k3 r 0 0 _ _ hs1 n3 n6
            cases hY
            have tb2 : m_tbl r N2 CL p q := tbl_of (fq_tab k1) (tbl_of (mr_tab hfN) v2)
            obtain ⟨b1, b2, b3, b4, b5⟩ := tb2
            rw [← ev]
            cases w22 : m_iw M 22 with
            | true =>
              rw [if_pos rfl, if_pos rfl, if_pos rfl]
              refine ⟨by rw [si_g, if_neg (by omega)]; exact b1, b2, fun j hj => ?_, by rw [si_g, if_pos ⟨rfl, rfl⟩], by rw [si_g, if_neg (by omega)]; exact b5⟩
              rw [si_g, if_neg (by omega), si_g, if_neg (by omega), si_g, if_neg (by omega), si_g, if_neg (by omega)]
              exact b3 j hj
            | false =>
              rw [if_neg Bool.noConfusion, if_neg Bool.noConfusion, if_neg Bool.noConfusion]
              refine ⟨by rw [si_g, if_neg (by omega)]; exact b1, b2, fun j hj => ?_, by rw [si_g, if_neg (by omega)]; exact b4, by rw [si_g, if_pos ⟨rfl, rfl⟩]⟩
              rw [si_g, if_neg (by omega), si_g, if_neg (by omega), si_g, if_neg (by omega), si_g, if_neg (by omega)]
              exact b3 j hj
        refine st_X12_readClause_195 (nI r) _ _ _ _ _ v vr (fun y => ?_) (fun y => ?_)
        · have w22 : m_iw M 22 = false := b2i_0.mp y
          have := fin (some (.int (nI r))) o2 (some (.int (b2i (m_iw M 4)))) (some (.int (b2i (m_iw M 25)))) (some (.int (b2i (m_iw M 22)))) (some (.int v)) 0 0
          rw [hrc]
          rw [if_neg (by rw [w22]; exact Bool.noConfusion)] at this
          exact this
        · have w22 : m_iw M 22 = true := bq_t (b2i_ff y)
          have := fin (some (.int (nI r))) o2 (some (.int (b2i (m_iw M 4)))) (some (.int (b2i (m_iw M 25)))) (some (.int (b2i (m_iw M 22)))) (some (.int v)) 0 0
          rw [hrc]
          rw [if_pos w22] at this
          exact this
      · have w4 : m_iw M 4 = false := b2i_0.mp z.1
        have w25 : m_iw M 25 = true := bq_t (b2i_ff z.2)
        rw [fc_139 (f1N _), fc_25 (f1N _), eN, hnc] at h2
        exact fform (nI 1) (by rw [w4, if_neg Bool.noConfusion]) (Or.inr w25) N2 _ _ _ _ h2
      · have w4 : m_iw M 4 = true := bq_t (b2i_ff z)
        rw [fc_139 (f1N _), fc_25 (f1N _), eN, hnc] at h2
        exact fform (nI 0) (by rw [w4, if_pos rfl]) (Or.inl w4) N2 _ _ _ _ h2
    have wp := ms_wp hs0
    have n12 : nI i = nI 12 ↔ i = 12 := n_eq (by omega) (by decide)
    refine st_X12_readClause_0 (nI r) (nI i) ⟨by decide, wp⟩ ⟨by decide, wp⟩ ⟨by decide, wp⟩ (fun _ _ _ => ⟨by decide, wp⟩) (fun z => fw 1 _ _ (by decide) (by decide) (fun t CL p q hv => ?_)) (fun z => fw 2 _ _ (by decide) (by decide) (fun t CL p q hv => ?_)) (fun z => f81 ?_ ?_ _ _)
    · have hs := (vd t CL p q hv).1
      unfold px_cl
      dsimp only
      rw [hhd t _ hs, z.1, z.2.1, z.2.2.1, z.2.2.2, if_neg Bool.noConfusion, if_neg Bool.noConfusion, if_neg Bool.noConfusion, if_neg Bool.noConfusion]
    · have hs := (vd t CL p q hv).1
      have hi12 : i = 12 := by
        rcases z with y | y
        · rcases y.2 with w | w
          · rcases w.2 with x | x
            · exact n12.mp x.2.2
            · exact n12.mp x.2
          · exact n12.mp w.2
        · exact n12.mp y.2
      have hsome : ∃ k, px_hd (eg_gi M 139) t = some k := by
        rw [hhd t _ hs]
        rcases z with y | y
        · rw [y.1, if_neg Bool.noConfusion]
          rcases y.2 with w | w
          · rw [w.1, if_neg Bool.noConfusion]
            rcases w.2 with x | x
            · rw [x.1, if_neg Bool.noConfusion, bq_t x.2.1, if_pos rfl]
              exact ⟨_, rfl⟩
            · rw [bq_t x.1, if_pos rfl]
              exact ⟨_, rfl⟩
          · rw [bq_t w.1, if_pos rfl]
            exact ⟨_, rfl⟩
        · rw [bq_t y.1, if_pos rfl]
          exact ⟨_, rfl⟩
      obtain ⟨k, hk⟩ := hsome
      unfold px_cl
      dsimp only
      rw [hk, decide_eq_false (show ¬ i < 12 by omega)]
      rfl
    · rcases z with y | y
      · rcases y.2 with w | w
        · rcases w.2 with x | x
          · exact Or.inr (Or.inr (Or.inr (bq_t x.2.1)))
          · exact Or.inr (Or.inr (Or.inl (bq_t x.1)))
        · exact Or.inr (Or.inl (bq_t w.1))
      · exact Or.inl (bq_t y.1)
    · have : ¬ i = 12 := by
        rcases z with y | y
        · rcases y.2 with w | w
          · rcases w.2 with x | x
            · exact fun e => x.2.2 (n12.mpr e)
            · exact fun e => x.2 (n12.mpr e)
          · exact fun e => w.2 (n12.mpr e)
        · exact fun e => y.2 (n12.mpr e)
      omega
    
  · exact h.elim
theorem de_X12_readClause : ∀ q ∈ k_X12_readClause.1, decode cX12_readClause q.1 = .ok q.2 := by decide +kernel
theorem me_X12_readClause (g : gl_T) : MT g yX12_readClause cX12_readClause 7 none ⟨49, 0, 0, 1118⟩ 0 0 s_X12_readClause := by
  intro hl
  exact eg_met_of (k := k_X12_readClause) (by decide) rfl ⟨Nat.le_refl _, Nat.le_refl _⟩ rfl sz_X12_readClause de_X12_readClause (fun meth hn => (fc (eg_FL_of wd_c12 (by decide) lf_RX12_96 (fun h => absurd h (by decide))) (fc (eg_FL_of wd_c12 (by decide) lf_RX12_99 (fun h => absurd h (by decide))) (fc (eg_FL_of wd_c12 (by decide) lf_RX12_102 (fun h => absurd h (by decide))) (fc (eg_FL_of wd_c12 (by decide) lf_RX12_105 (fun h => absurd h (by decide))) (fc (eg_FL_of wd_c12 (by decide) lf_RX12_108 (fun h => absurd h (by decide))) (fc (eg_FL_of wd_c12 (by decide) lf_RX12_111 (fun h => absurd h (by decide))) (fc (eg_FL_of wd_c12 (by decide) lf_RX12_114 (fun h => absurd h (by decide))) (fc (eg_FL_of wd_c12 (by decide) lf_RX12_294 (fun h => absurd h (by decide))) (fc (eg_FL_of wd_c12 (by decide) lf_RX12_318 (fun h => absurd h (by decide))) (fn))))))))))) (fun A s H hE => (fc (⟨"grant", hE.2.2.2.1 (RX12, 362, "grant", 4) (List.mem_of_getElem? (i := 46) rfl)⟩) (fc (⟨"sleep", hE.2.2.2.1 (RX12, 363, "sleep", 25) (List.mem_of_getElem? (i := 47) rfl)⟩) (fc (⟨"pot", hE.2.2.2.1 (RX12, 365, "pot", 22) (List.mem_of_getElem? (i := 48) rfl)⟩) (fc (⟨"rate", hE.2.2.2.1 (RX12, 366, "rate", 23) (List.mem_of_getElem? (i := 49) rfl)⟩) (fc (⟨"unless", hE.2.2.2.1 (RX12, 367, "unless", 28) (List.mem_of_getElem? (i := 50) rfl)⟩) (fn))))))) (fun p e s m args below meth c Q A ad0 N0 S0 hK hEx hA => (fc (mt_V hl S0 hK hEx hA (me_X12_wrong_v g) lm_RX12_311 li_X12_wrong lx_X12_wrong ln_RX12 lc_X12_wrong ⟨rfl, by decide, by decide, by decide +kernel⟩ ⟨rfl, rfl⟩ ⟨by decide, by decide⟩ (ci := 12) rfl rfl sr_X12_wrong_v (by decide)) (fc (mt_V hl S0 hK hEx hA (me_X12_step g) lm_RX12_315 li_X12_step lx_X12_step ln_RX12 lc_X12_step ⟨rfl, by decide, by decide, by decide +kernel⟩ ⟨rfl, rfl⟩ ⟨by decide, by decide⟩ (ci := 12) rfl rfl sr_X12_step (by decide)) (fc (mt_V hl S0 hK hEx hA (me_X12_is g) lm_RX12_321 li_X12_is lx_X12_is ln_RX12 lc_X12_is ⟨rfl, by decide, by decide, by decide +kernel⟩ ⟨rfl, rfl⟩ ⟨by decide, by decide⟩ (ci := 12) rfl rfl sr_X12_is (by decide)) (fc (mt_V hl S0 hK hEx hA (me_X12_readNumber g) lm_RX12_325 li_X12_readNumber lx_X12_readNumber ln_RX12 lc_X12_readNumber ⟨rfl, by decide, by decide, by decide +kernel⟩ ⟨rfl, rfl⟩ ⟨by decide, by decide⟩ (ci := 12) rfl rfl sr_X12_readNumber (by decide)) (fc (mt_V hl S0 hK hEx hA (me_X12_readExpression g) lm_RX12_335 li_X12_readExpression lx_X12_readExpression ln_RX12 lc_X12_readExpression ⟨rfl, by decide, by decide, by decide +kernel⟩ ⟨rfl, rfl⟩ ⟨by decide, by decide⟩ (ci := 12) rfl rfl sr_X12_readExpression (by decide)) (fc (mt_V hl S0 hK hEx hA (me_X12_need g) lm_RX12_338 li_X12_need lx_X12_need ln_RX12 lc_X12_need ⟨rfl, by decide, by decide, by decide +kernel⟩ ⟨rfl, rfl⟩ ⟨by decide, by decide⟩ (ci := 12) rfl rfl sr_X12_need (by decide)) (fn)))))))) (fun p e s m args below meth c Qc XC A ad0 N0 P S0 hK hEx hA hlk hout hPX => (fn)) (fun argv M Qp h => T_X12_readClause h)

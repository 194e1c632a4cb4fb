theorem rr_c {M N : eg_M} {f g : px_S → px_S} (h : k_rr M N f) (e : ∀ s, k_rs M s → f s = g s) : k_rr M N g := ⟨h.1, fun s hs => by rw [← e s hs]; exact h.2 s hs⟩
theorem px_part_r (T : Nat → Int32) (n : Nat) (E : px_S → px_S) (t : px_T) (S : List Int32) : px_part T n E (.inr (t, S)) = if t.2.2 = -nI 2 then (match px_v T t 11 with
      | none => px_ref 3 (.inr (t, S))
      | some v => px_adv T n (px_put (-nI (11 + v)) (.inr (t, S))))
    else if t.2.2 = nI 40 then px_sgn T n (nI 41) (E (px_adv T n (.inr (t, S))))
    else px_put (px_n T t.1 (t.2.1 - t.1)) (px_num T n (.inr (t, S))) := rfl
theorem rs_tk {M : eg_M} {t : px_T} {S : List Int32} (h : k_rs M (.inr (t, S))) : k_tk M = t := by
  obtain ⟨n, hn, eN, h1, h2, h3, h4, h5, h6, _⟩ := h
  unfold k_tk
  rw [h2, h3, h4, n_c (by omega), n_c (by omega)]
theorem px_v_lt {T : Nat → Int32} {t : px_T} : ∀ i v, i ≤ 11 → px_v T t i = some v → v < 11
  | 0, v, _, h => by cases h
  | i + 1, v, hi, h => by
    rw [px_v] at h
    split at h
    · cases h
      omega
    · exact px_v_lt i v (by omega) h
theorem px_11 : ∀ v, v < 11 → -nI 11 - nI v = -nI (11 + v) := by decide
def s_X7_readExpr_r (dd : Nat) : eg_S := fun argv M Qp => match argv with
  | [.ref 25, .int dp] => (0 < dd ∧ dd ≤ 7 ∧ (∃ s, k_rs M s) ∧ k_tb M ∧ dp = nI (7 - dd)) ∧ ∀ (M2 : eg_M), (k_rr M M2 (px_E (eg_gi M 26) (eg_gi M 25 1).toNatClampNeg (dd - 1))) → Qp (.inl none) M2
  | _ => False
theorem mo_X7_readExpr_r (dd : Nat) : eg_mono (s_X7_readExpr_r dd) := by
  intro argv M Q Q' h
  unfold s_X7_readExpr_r
  split
  · exact fun z => ⟨z.1, fun M2 y => h _ _ (z.2 M2 y)⟩
  · exact id
theorem sz_X7_readExpr_r (dd : Nat) : ∀ argv M Qp, s_X7_readExpr_r dd argv M Qp → (eg_ls0 argv).length ≤ 3 := by
  intro argv M Qp h
  unfold s_X7_readExpr_r at h
  split at h
  · exact Nat.le_of_ble_eq_true rfl
  · exact h.elim
theorem sr_X7_readExpr_r (dd : Nat) : ∀ argv M Qp, s_X7_readExpr_r dd argv M Qp → ∃ p0 As, argv = .ref p0 :: As ∧ eg_isO wd M p0 7 = true := by
  intro argv M Qp h
  unfold s_X7_readExpr_r at h
  split at h
  · exact ⟨_, _, rfl, rfl⟩
  · exact h.elim
theorem sF_X7_readExpr_r : ∀ argv M Qp, s_X7_readExpr_r 0 argv M Qp → False := by
  intro argv M Qp h
  unfold s_X7_readExpr_r at h
  split at h
  · exact absurd h.1.1 (Nat.lt_irrefl 0)
  · exact h

def s_X7_readPart_r (dd : Nat) : eg_S := fun argv M Qp => match argv with
  | [.ref 25, .int dp] => (0 < dd ∧ dd ≤ 6 ∧ (∃ s, k_rs M s) ∧ k_tb M ∧ dp = nI (6 - dd)) ∧ ∀ (M2 : eg_M), (k_rr M M2 (px_part (eg_gi M 26) (eg_gi M 25 1).toNatClampNeg (px_E (eg_gi M 26) (eg_gi M 25 1).toNatClampNeg (dd - 1)))) → Qp (.inl none) M2
  | _ => False
theorem mo_X7_readPart_r (dd : Nat) : eg_mono (s_X7_readPart_r dd) := by
  intro argv M Q Q' h
  unfold s_X7_readPart_r
  split
  · exact fun z => ⟨z.1, fun M2 y => h _ _ (z.2 M2 y)⟩
  · exact id
theorem sz_X7_readPart_r (dd : Nat) : ∀ argv M Qp, s_X7_readPart_r dd argv M Qp → (eg_ls0 argv).length ≤ 3 := by
  intro argv M Qp h
  unfold s_X7_readPart_r at h
  split at h
  · exact Nat.le_of_ble_eq_true rfl
  · exact h.elim
theorem sr_X7_readPart_r (dd : Nat) : ∀ argv M Qp, s_X7_readPart_r dd argv M Qp → ∃ p0 As, argv = .ref p0 :: As ∧ eg_isO wd M p0 7 = true := by
  intro argv M Qp h
  unfold s_X7_readPart_r at h
  split at h
  · exact ⟨_, _, rfl, rfl⟩
  · exact h.elim
theorem sF_X7_readPart_r : ∀ argv M Qp, s_X7_readPart_r 0 argv M Qp → False := by
  intro argv M Qp h
  unfold s_X7_readPart_r at h
  split at h
  · exact absurd h.1.1 (Nat.lt_irrefl 0)
  · exact h

def k_X7_readPart (dd : Nat) : eg_C := ([(0, .aload_n 0, 1), (1, .getfield 19, 3), (4, .bipush (-2), 2), (6, .if_icmp .ne 36, 3), (9, .aload_n 0, 1), (10, .invokevirtual 130, 3), (13, .istore_n 2, 1), (14, .iload_n 2, 1), (15, .iconst (-1), 1), (16, .if_icmp .ne 11, 3), (19, .aload_n 0, 1), (20, .iconst 3, 1), (21, .invokevirtual 86, 3), (24, .goto 15, 3), (27, .aload_n 0, 1), (28, .bipush (-11), 2), (30, .iload_n 2, 1), (31, .isub, 1), (32, .invokevirtual 95, 3), (35, .aload_n 0, 1), (36, .invokevirtual 64, 3), (39, .goto 40, 3), (42, .aload_n 0, 1), (43, .getfield 19, 3), (46, .bipush 40, 2), (48, .if_icmp .ne 23, 3), (51, .aload_n 0, 1), (52, .invokevirtual 64, 3), (55, .aload_n 0, 1), (56, .iload_n 1, 1), (57, .iconst 1, 1), (58, .iadd, 1), (59, .invokevirtual 90, 3), (62, .aload_n 0, 1), (63, .bipush 41, 2), (65, .invokevirtual 105, 3), (68, .goto 11, 3), (71, .aload_n 0, 1), (72, .aload_n 0, 1), (73, .invokevirtual 101, 3), (76, .invokevirtual 95, 3), (79, .return_, 1)], [(19, 7, 2, false)], [], [(64, 0 + 1, 0, 0, s_X7_advance), (86, 1 + 1, 0, 0, s_X7_refuse_v), (90, 1 + 1, 0, 0, s_X7_readExpr_r dd), (95, 1 + 1, 0, 0, s_X7_put_v), (101, 0 + 1, 0, 0, s_X7_readNumber), (105, 1 + 1, 0, 0, s_X7_readSign), (130, 0 + 1, 0, 0, s_X7_valueNamed)], [], 0, 0, 0)
theorem mk_X7_readPart (dd : Nat) : ∀ q ∈ (k_X7_readPart dd).2.2.2.1, eg_mono q.2.2.2.2 := (fc (mo_X7_advance) (fc (mo_X7_refuse_v) (fc (mo_X7_readExpr_r dd) (fc (mo_X7_put_v) (fc (mo_X7_readNumber) (fc (mo_X7_readSign) (fc (mo_X7_valueNamed) (fn))))))))

set_option maxRecDepth 100000 in
theorem st_X7_readPart_0 {dd : Nat} {Qp : eg_P} {M : eg_M} (dp : Int32)
  (g0 : ((eg_gi M 25 2) = (-nI 2)) → (∃ s, k_rs M s))
  (g1 : ((eg_gi M 25 2) = (-nI 2)) → (¬ ((k_ov (px_v (eg_gi M 26) (k_tk M) 11)) = (-nI 1))) → (eg_cn (eg_gi M 25 8) 400))
  (g2 : ((eg_gi M 25 2) = (-nI 2)) → (¬ ((k_ov (px_v (eg_gi M 26) (k_tk M) 11)) = (-nI 1))) → (eg_gi (k_pu M ((-nI 11) - (k_ov (px_v (eg_gi M 26) (k_tk M) 11)))) 25 5 = 0 → ∃ p n, p ≤ n ∧ n ≤ 400 ∧ eg_gi (k_pu M ((-nI 11) - (k_ov (px_v (eg_gi M 26) (k_tk M) 11)))) 25 4 = nI p ∧ eg_gi (k_pu M ((-nI 11) - (k_ov (px_v (eg_gi M 26) (k_tk M) 11)))) 25 1 = nI n))
  (g3 : (¬ ((eg_gi M 25 2) = (-nI 2))) → ((eg_gi M 25 2) = (nI 40)) → (eg_gi M 25 5 = 0 → ∃ p n, p ≤ n ∧ n ≤ 400 ∧ eg_gi M 25 4 = nI p ∧ eg_gi M 25 1 = nI n))
  (g4 : (¬ ((eg_gi M 25 2) = (-nI 2))) → ((eg_gi M 25 2) = (nI 40)) → (0 < dd ∧ dd ≤ 7 ∧ (∃ s, k_rs (k_ad M) s) ∧ k_tb (k_ad M) ∧ (dp + (nI 1)) = nI (7 - dd)))
  (g5 : (¬ ((eg_gi M 25 2) = (-nI 2))) → (¬ ((eg_gi M 25 2) = (nI 40))) → ((∃ s, k_rs M s) ∧ k_tb M))
  (l0 : ((eg_gi M 25 2) = (-nI 2) ∧ (k_ov (px_v (eg_gi M 26) (k_tk M) 11)) = (-nI 1)) → Qp (.inl none) (k_rf1 M (nI 3)))
  (l1 : ((eg_gi M 25 2) = (-nI 2) ∧ ¬ (k_ov (px_v (eg_gi M 26) (k_tk M) 11)) = (-nI 1)) → Qp (.inl none) (k_ad (k_pu M ((-nI 11) - (k_ov (px_v (eg_gi M 26) (k_tk M) 11))))))
  (l2 : (¬ (eg_gi M 25 2) = (-nI 2) ∧ (eg_gi M 25 2) = (nI 40)) → ∀ (M2_1 : eg_M), (k_rr (k_ad M) M2_1 (px_E (eg_gi (k_ad M) 26) (eg_gi (k_ad M) 25 1).toNatClampNeg (dd - 1))) → eg_T wd (k_X7_readPart dd) Qp 62 0 0 [some (.ref 25), some (.int dp), none] [] M2_1)
  (l3 : (¬ (eg_gi M 25 2) = (-nI 2) ∧ ¬ (eg_gi M 25 2) = (nI 40)) → ∀ (v_2 : Int32) (M2_2 : eg_M), (k_rr M M2_2 (px_num (eg_gi M 26) (eg_gi M 25 1).toNatClampNeg) ∧ ∀ t S, k_rs M (.inr (t, S)) → t.2.2 = -nI 3 → t.2.1 ≤ t.1 + 6 → v_2 = px_n (eg_gi M 26) t.1 (t.2.1 - t.1)) → eg_T wd (k_X7_readPart dd) Qp 76 0 0 [some (.ref 25), some (.int dp), none] [.int v_2, .ref 25] M2_2) :
  eg_T wd (k_X7_readPart dd) Qp 0 0 0 [some (.ref 25), some (.int dp), none] [] M := by
  refine eg_T_run (mk_X7_readPart dd) (cut := [62, 68, 76]) 45 ?_
  refine And.intro (fun (c1 : (eg_gi M 25 2) = (-nI 2)) => ?_) (fun (c1 : ¬ (eg_gi M 25 2) = (-nI 2)) => ?_)
  · skip
    refine And.intro (show (∃ s, k_rs M s) from ?_) ?_
    · exact g0 c1
    refine And.intro (fun (c2 : (k_ov (px_v (eg_gi M 26) (k_tk M) 11)) = (-nI 1)) => ?_) (fun (c2 : ¬ (k_ov (px_v (eg_gi M 26) (k_tk M) 11)) = (-nI 1)) => ?_)
    · skip
      refine And.intro (show (True) from ?_) ?_
      · exact trivial
      show Qp (.inl none) (k_rf1 M (nI 3))
      exact l0 ⟨c1, c2⟩
    · skip
      refine And.intro (show (eg_cn (eg_gi M 25 8) 400) from ?_) ?_
      · exact g1 c1 c2
      refine And.intro (show (eg_gi (k_pu M ((-nI 11) - (k_ov (px_v (eg_gi M 26) (k_tk M) 11)))) 25 5 = 0 → ∃ p n, p ≤ n ∧ n ≤ 400 ∧ eg_gi (k_pu M ((-nI 11) - (k_ov (px_v (eg_gi M 26) (k_tk M) 11)))) 25 4 = nI p ∧ eg_gi (k_pu M ((-nI 11) - (k_ov (px_v (eg_gi M 26) (k_tk M) 11)))) 25 1 = nI n) from ?_) ?_
      · exact g2 c1 c2
      show Qp (.inl none) (k_ad (k_pu M ((-nI 11) - (k_ov (px_v (eg_gi M 26) (k_tk M) 11)))))
      exact l1 ⟨c1, c2⟩
  · skip
    refine And.intro (fun (c3 : (eg_gi M 25 2) = (nI 40)) => ?_) (fun (c3 : ¬ (eg_gi M 25 2) = (nI 40)) => ?_)
    · skip
      refine And.intro (show (eg_gi M 25 5 = 0 → ∃ p n, p ≤ n ∧ n ≤ 400 ∧ eg_gi M 25 4 = nI p ∧ eg_gi M 25 1 = nI n) from ?_) ?_
      · exact g3 c1 c3
      refine And.intro (show (0 < dd ∧ dd ≤ 7 ∧ (∃ s, k_rs (k_ad M) s) ∧ k_tb (k_ad M) ∧ (dp + (nI 1)) = nI (7 - dd)) from ?_) ?_
      · exact g4 c1 c3
      intro M2_1 ha_1
      show eg_T wd (k_X7_readPart dd) Qp 62 0 0 [some (.ref 25), some (.int dp), none] [] M2_1
      exact l2 ⟨c1, c3⟩ M2_1 ha_1
    · skip
      refine And.intro (show ((∃ s, k_rs M s) ∧ k_tb M) from ?_) ?_
      · exact g5 c1 c3
      intro v_2 M2_2 ha_2
      show eg_T wd (k_X7_readPart dd) Qp 76 0 0 [some (.ref 25), some (.int dp), none] [.int v_2, .ref 25] M2_2
      exact l3 ⟨c1, c3⟩ v_2 M2_2 ha_2

set_option maxRecDepth 100000 in
theorem st_X7_readPart_62 {dd : Nat} {Qp : eg_P} {M : eg_M} (o1 : Option Value) (o2 : Option Value)
  (g0 : ((∃ s, k_rs M s) ∧ k_tb M))
  (l0 : ∀ (M2_1 : eg_M), (k_rr M M2_1 (px_sgn (eg_gi M 26) (eg_gi M 25 1).toNatClampNeg (nI 41))) → eg_T wd (k_X7_readPart dd) Qp 68 0 0 [some (.ref 25), o1, o2] [] M2_1) :
  eg_T wd (k_X7_readPart dd) Qp 62 0 0 [some (.ref 25), o1, o2] [] M := by
  refine eg_T_run (mk_X7_readPart dd) (cut := [62, 68, 76]) 45 ?_
  refine And.intro (show ((∃ s, k_rs M s) ∧ k_tb M) from ?_) ?_
  · exact g0
  intro M2_1 ha_1
  show eg_T wd (k_X7_readPart dd) Qp 68 0 0 [some (.ref 25), o1, o2] [] M2_1
  exact l0 M2_1 ha_1

set_option maxRecDepth 100000 in
theorem st_X7_readPart_68 {dd : Nat} {Qp : eg_P} {M : eg_M} (o0 : Option Value) (o1 : Option Value) (o2 : Option Value)
  (l0 : Qp (.inl none) M) :
  eg_T wd (k_X7_readPart dd) Qp 68 0 0 [o0, o1, o2] [] M := by
  refine eg_T_run (mk_X7_readPart dd) (cut := [62, 68, 76]) 45 ?_
  show Qp (.inl none) M
  exact l0

set_option maxRecDepth 100000 in
theorem st_X7_readPart_76 {dd : Nat} {Qp : eg_P} {M : eg_M} (o0 : Option Value) (o1 : Option Value) (o2 : Option Value) (s0 : Int32)
  (g0 : (eg_cn (eg_gi M 25 8) 400))
  (l0 : Qp (.inl none) (k_pu M s0)) :
  eg_T wd (k_X7_readPart dd) Qp 76 0 0 [o0, o1, o2] [.int s0, .ref 25] M := by
  refine eg_T_run (mk_X7_readPart dd) (cut := [62, 68, 76]) 45 ?_
  refine And.intro (show (eg_cn (eg_gi M 25 8) 400) from ?_) ?_
  · exact g0
  show Qp (.inl none) (k_pu M s0)
  exact l0

set_option maxRecDepth 100000 in
set_option maxHeartbeats 1000000 in
theorem T_X7_readPart_r (dd : Nat) {argv : List Value} {M : eg_M} {Qp : eg_P} (h : s_X7_readPart_r dd argv M Qp) : eg_T wd (k_X7_readPart dd) Qp 0 0 0 (eg_lsN 3 argv) [] M := by
  unfold s_X7_readPart_r at h
  split at h
  · rename_i dp
    obtain ⟨hp, hq⟩ := h
    obtain ⟨hd0, hd6, ⟨s, hs⟩, hT, rfl⟩ := hp
    have s0 := st_X7_readPart_0 (dd := dd) (Qp := Qp) (M := M) (nI (6 - dd))
    have hA := rr_adv hT
    have e26 := fr_26 (fr_ad M)
    have e1 := fr_1 (fr_ad M)
    rw [e26, e1] at s0
    have hpu : ∀ x, k_rr M (k_pu M x) (px_put x) := fun x => rr_put
    have hl1 : nI (6 - dd) + nI 1 = nI (7 - dd) := by
      rw [n_s, show 6 - dd + 1 = 7 - dd by omega]
    refine s0 (fun _ => ⟨s, hs⟩) (fun _ _ => rs_8 hs) (fun _ _ => rs_ad ((hpu _).2 s hs)) (fun _ _ => rs_ad hs) (fun _ _ => ⟨hd0, by omega, ⟨_, hA.2 s hs⟩, tb_fr (fr_ad M) hT, hl1⟩) (fun _ _ => ⟨⟨s, hs⟩, hT⟩) (fun z => ?_) (fun z => ?_) (fun z N h => ?_) (fun z v N h => ?_)
    · refine hq _ (rr_c (rr_ref (c := 3) (by decide) (by decide)) (fun s' hs' => ?_))
      match s', hs' with
      | .inl x, _ => rfl
      | .inr (t, S), hs' =>
        rw [px_part_r, if_pos (by rw [← z.1]; exact (rs_k hs').symm)]
        have z2 := z.2
        rw [rs_tk hs'] at z2
        cases hv : px_v (eg_gi M 26) t 11 with
        | none => rfl
        | some v =>
          rw [hv] at z2
          exact absurd z2 (nI_m1 (by have := px_v_lt 11 v (Nat.le_refl _) hv; omega))
    · have hB := rr_tr (hpu (-nI 11 - k_ov (px_v (eg_gi M 26) (k_tk M) 11))) (rr_adv (tb_fr (hpu (-nI 11 - k_ov (px_v (eg_gi M 26) (k_tk M) 11))).1 hT))
      refine hq _ (rr_c hB (fun s' hs' => ?_))
      rw [fr_26 (hpu _).1, fr_1 (hpu _).1]
      match s', hs' with
      | .inl x, _ => rfl
      | .inr (t, S), hs' =>
        rw [px_part_r, if_pos (by rw [← z.1]; exact (rs_k hs').symm), rs_tk hs']
        have z2 := z.2
        rw [rs_tk hs'] at z2
        cases hv : px_v (eg_gi M 26) t 11 with
        | none =>
          rw [hv] at z2
          exact absurd rfl z2
        | some v =>
          show px_adv _ _ (px_put (-nI 11 - nI v) _) = _
          rw [px_11 v (px_v_lt 11 v (Nat.le_refl _) hv)]
    · have hB := rr_tr hA h
      refine st_X7_readPart_62 _ _ ⟨⟨_, hB.2 s hs⟩, tb_fr hB.1 hT⟩ (fun N2 h2 => st_X7_readPart_68 _ _ _ (hq _ ?_))
      rw [fr_26 hB.1, fr_1 hB.1] at h2
      refine rr_c (rr_tr hB h2) (fun s' hs' => ?_)
      match s', hs' with
      | .inl x, hs' => exact absurd ((rs_k hs').symm.trans z.2) (show ¬ -nI 4 = nI 40 by decide)
      | .inr (t, S), hs' => rw [px_part_r, if_neg (by rw [show t.2.2 = eg_gi M 25 2 from (rs_k hs').symm]; exact z.1), if_pos (by rw [← z.2]; exact (rs_k hs').symm)]
    · obtain ⟨h1, h2⟩ := h
      refine st_X7_readPart_76 _ _ _ _ (rs_8 (h1.2 s hs)) (hq _ (rr_c (rr_tr h1 rr_put) (fun s' hs' => ?_)))
      match s', hs' with
      | .inl x, _ => rfl
      | .inr (t, S), hs' =>
        rw [px_part_r, if_neg (by rw [show t.2.2 = eg_gi M 25 2 from (rs_k hs').symm]; exact z.1), if_neg (by rw [show t.2.2 = eg_gi M 25 2 from (rs_k hs').symm]; exact z.2)]
        by_cases c1 : t.2.2 = -nI 3
        · by_cases c2 : t.1 + 6 < t.2.1
          · rw [px_num_r, if_pos c1, if_pos c2]
            rfl
          · rw [h2 t S hs' c1 (by omega)]
        · rw [px_num_r, if_neg c1]
          rfl
  · exact h.elim
theorem de_X7_readPart (dd : Nat) : ∀ q ∈ (k_X7_readPart dd).1, decode cX7_readPart q.1 = .ok q.2 := by show ∀ q ∈ (k_X7_readPart 0).1, decode cX7_readPart q.1 = .ok q.2; decide +kernel
theorem me_X7_readPart_r (g : gl_T) (dd : Nat) (ih_X7_readExpr : MT g yX7_readExpr cX7_readExpr 3 none ⟨6 + 6 * dd, 0, 0, 128 + 135 * dd⟩ 0 0 (s_X7_readExpr_r dd)) : MT g yX7_readPart cX7_readPart 3 none ⟨7 + 6 * dd, 0, 0, 150 + 135 * dd⟩ 0 0 (s_X7_readPart_r dd) := by
  intro hl
  exact eg_met_of (k := k_X7_readPart dd) (by decide) rfl ⟨Nat.le_refl _, Nat.le_refl _⟩ rfl (sz_X7_readPart_r dd) (de_X7_readPart dd) (fun meth hn => (fc (eg_FL_of wd_c7 (by decide) lf_RX7_19 (fun h => absurd h (by decide))) (fn))) (fun A s H hE => (fn)) (fun p e s m args below meth c Q A ad0 N0 S0 hK hEx hA => (fc (mt_V hl S0 hK hEx hA (me_X7_advance g) lm_RX7_64 li_X7_advance lx_X7_advance ln_RX7 lc_X7_advance ⟨rfl, by decide, by decide, by decide +kernel⟩ ⟨rfl, rfl⟩ ⟨by dsimp only; omega, by dsimp only; omega⟩ (ci := 7) rfl rfl sr_X7_advance (by decide)) (fc (mt_V hl S0 hK hEx hA (me_X7_refuse_v g) lm_RX7_86 li_X7_refuse lx_X7_refuse ln_RX7 lc_X7_refuse ⟨rfl, by decide, by decide, by decide +kernel⟩ ⟨rfl, rfl⟩ ⟨by dsimp only; omega, by dsimp only; omega⟩ (ci := 7) rfl rfl sr_X7_refuse_v (by decide)) (fc (mt_V hl S0 hK hEx hA (ih_X7_readExpr) lm_RX7_90 li_X7_readExpr lx_X7_readExpr ln_RX7 lc_X7_readExpr ⟨rfl, by decide, by decide, by decide +kernel⟩ ⟨rfl, rfl⟩ ⟨(show 6 + 6 * dd + 1 ≤ 7 + 6 * dd by omega), (show 8 + (3 + 11) + (128 + 135 * dd) ≤ 150 + 135 * dd by omega)⟩ (ci := 7) rfl rfl (sr_X7_readExpr_r dd) (by decide)) (fc (mt_V hl S0 hK hEx hA (me_X7_put_v g) lm_RX7_95 li_X7_put lx_X7_put ln_RX7 lc_X7_put ⟨rfl, by decide, by decide, by decide +kernel⟩ ⟨rfl, rfl⟩ ⟨by dsimp only; omega, by dsimp only; omega⟩ (ci := 7) rfl rfl sr_X7_put_v (by decide)) (fc (mt_V hl S0 hK hEx hA (me_X7_readNumber g) lm_RX7_101 li_X7_readNumber lx_X7_readNumber ln_RX7 lc_X7_readNumber ⟨rfl, by decide, by decide, by decide +kernel⟩ ⟨rfl, rfl⟩ ⟨by dsimp only; omega, by dsimp only; omega⟩ (ci := 7) rfl rfl sr_X7_readNumber (by decide)) (fc (mt_V hl S0 hK hEx hA (me_X7_readSign g) lm_RX7_105 li_X7_readSign lx_X7_readSign ln_RX7 lc_X7_readSign ⟨rfl, by decide, by decide, by decide +kernel⟩ ⟨rfl, rfl⟩ ⟨by dsimp only; omega, by dsimp only; omega⟩ (ci := 7) rfl rfl sr_X7_readSign (by decide)) (fc (mt_V hl S0 hK hEx hA (me_X7_valueNamed g) lm_RX7_130 li_X7_valueNamed lx_X7_valueNamed ln_RX7 lc_X7_valueNamed ⟨rfl, by decide, by decide, by decide +kernel⟩ ⟨rfl, rfl⟩ ⟨by dsimp only; omega, by dsimp only; omega⟩ (ci := 7) rfl rfl sr_X7_valueNamed (by decide)) (fn))))))))) (fun p e s m args below meth c Qc XC A ad0 N0 P S0 hK hEx hA hlk hout hPX => (fn)) (fun argv M Qp h => T_X7_readPart_r dd h)

def s_X7_readProduct_r (dd : Nat) : eg_S := fun argv M Qp => match argv with
  | [.ref 25, .int dp] => (0 < dd ∧ dd ≤ 6 ∧ (∃ s, k_rs M s) ∧ k_tb M ∧ dp = nI (6 - dd)) ∧ ∀ (M2 : eg_M), (k_rr M M2 (px_prod (eg_gi M 26) (eg_gi M 25 1).toNatClampNeg (px_E (eg_gi M 26) (eg_gi M 25 1).toNatClampNeg (dd - 1)))) → Qp (.inl none) M2
  | _ => False
theorem mo_X7_readProduct_r (dd : Nat) : eg_mono (s_X7_readProduct_r dd) := by
  intro argv M Q Q' h
  unfold s_X7_readProduct_r
  split
  · exact fun z => ⟨z.1, fun M2 y => h _ _ (z.2 M2 y)⟩
  · exact id
theorem sz_X7_readProduct_r (dd : Nat) : ∀ argv M Qp, s_X7_readProduct_r dd argv M Qp → (eg_ls0 argv).length ≤ 4 := by
  intro argv M Qp h
  unfold s_X7_readProduct_r at h
  split at h
  · exact Nat.le_of_ble_eq_true rfl
  · exact h.elim
theorem sr_X7_readProduct_r (dd : Nat) : ∀ argv M Qp, s_X7_readProduct_r dd argv M Qp → ∃ p0 As, argv = .ref p0 :: As ∧ eg_isO wd M p0 7 = true := by
  intro argv M Qp h
  unfold s_X7_readProduct_r at h
  split at h
  · exact ⟨_, _, rfl, rfl⟩
  · exact h.elim
theorem sF_X7_readProduct_r : ∀ argv M Qp, s_X7_readProduct_r 0 argv M Qp → False := by
  intro argv M Qp h
  unfold s_X7_readProduct_r at h
  split at h
  · exact absurd h.1.1 (Nat.lt_irrefl 0)
  · exact h

def k_X7_readProduct (dd : Nat) : eg_C := ([(0, .aload_n 0, 1), (1, .iload_n 1, 1), (2, .invokevirtual 127, 3), (5, .iconst 0, 1), (6, .istore_n 2, 1), (7, .iload_n 2, 1), (8, .sipush 400, 3), (11, .if_icmp .ge 58, 3), (14, .aload_n 0, 1), (15, .getfield 19, 3), (18, .bipush 42, 2), (20, .if_icmp .eq 12, 3), (23, .aload_n 0, 1), (24, .getfield 19, 3), (27, .bipush 47, 2), (29, .if_icmp .ne 40, 3), (32, .aload_n 0, 1), (33, .getfield 19, 3), (36, .bipush 42, 2), (38, .if_icmp .ne 8, 3), (41, .bipush (-8), 2), (43, .goto 5, 3), (46, .bipush (-9), 2), (48, .istore_n 3, 1), (49, .aload_n 0, 1), (50, .invokevirtual 64, 3), (53, .aload_n 0, 1), (54, .iload_n 1, 1), (55, .invokevirtual 127, 3), (58, .aload_n 0, 1), (59, .iload_n 3, 1), (60, .invokevirtual 95, 3), (63, .iinc 2 1, 3), (66, .goto (-59), 3), (69, .return_, 1)], [(19, 7, 2, false)], [], [(64, 0 + 1, 0, 0, s_X7_advance), (95, 1 + 1, 0, 0, s_X7_put_v), (127, 1 + 1, 0, 0, s_X7_readPart_r dd)], [], 0, 0, 0)
theorem mk_X7_readProduct (dd : Nat) : ∀ q ∈ (k_X7_readProduct dd).2.2.2.1, eg_mono q.2.2.2.2 := (fc (mo_X7_advance) (fc (mo_X7_put_v) (fc (mo_X7_readPart_r dd) (fn))))

set_option maxRecDepth 100000 in
theorem st_X7_readProduct_0 {dd : Nat} {Qp : eg_P} {M : eg_M} (dp : Int32)
  (g0 : (0 < dd ∧ dd ≤ 6 ∧ (∃ s, k_rs M s) ∧ k_tb M ∧ dp = nI (6 - dd)))
  (l0 : ∀ (M2_1 : eg_M), (k_rr M M2_1 (px_part (eg_gi M 26) (eg_gi M 25 1).toNatClampNeg (px_E (eg_gi M 26) (eg_gi M 25 1).toNatClampNeg (dd - 1)))) → eg_T wd (k_X7_readProduct dd) Qp 5 0 0 [some (.ref 25), some (.int dp), none, none] [] M2_1) :
  eg_T wd (k_X7_readProduct dd) Qp 0 0 0 [some (.ref 25), some (.int dp), none, none] [] M := by
  refine eg_T_run (mk_X7_readProduct dd) (cut := [5, 7, 58]) 38 ?_
  refine And.intro (show (0 < dd ∧ dd ≤ 6 ∧ (∃ s, k_rs M s) ∧ k_tb M ∧ dp = nI (6 - dd)) from ?_) ?_
  · exact g0
  intro M2_1 ha_1
  show eg_T wd (k_X7_readProduct dd) Qp 5 0 0 [some (.ref 25), some (.int dp), none, none] [] M2_1
  exact l0 M2_1 ha_1

set_option maxRecDepth 100000 in
theorem st_X7_readProduct_5 {dd : Nat} {Qp : eg_P} {M : eg_M} (dp : Int32) (o2 : Option Value) (o3 : Option Value)
  (l0 : eg_T wd (k_X7_readProduct dd) Qp 7 0 0 [some (.ref 25), some (.int dp), some (.int (nI 0)), o3] [] M) :
  eg_T wd (k_X7_readProduct dd) Qp 5 0 0 [some (.ref 25), some (.int dp), o2, o3] [] M := by
  refine eg_T_run (mk_X7_readProduct dd) (cut := [5, 7, 58]) 38 ?_
  show eg_T wd (k_X7_readProduct dd) Qp 7 0 0 [some (.ref 25), some (.int dp), some (.int (nI 0)), o3] [] M
  exact l0

set_option maxRecDepth 100000 in
theorem st_X7_readProduct_7 {dd : Nat} {Qp : eg_P} {M : eg_M} (dp : Int32) (x2 : Int32) (o3 : Option Value)
  (g0 : (¬ ((nI 400) ≤ x2)) → (((eg_gi M 25 2) = (nI 42)) ∨ (¬ ((eg_gi M 25 2) = (nI 42)) ∧ ((eg_gi M 25 2) = (nI 47)))) → (eg_gi M 25 5 = 0 → ∃ p n, p ≤ n ∧ n ≤ 400 ∧ eg_gi M 25 4 = nI p ∧ eg_gi M 25 1 = nI n))
  (g1 : (¬ ((nI 400) ≤ x2)) → (((eg_gi M 25 2) = (nI 42)) ∨ (¬ ((eg_gi M 25 2) = (nI 42)) ∧ ((eg_gi M 25 2) = (nI 47)))) → (0 < dd ∧ dd ≤ 6 ∧ (∃ s, k_rs (k_ad M) s) ∧ k_tb (k_ad M) ∧ dp = nI (6 - dd)))
  (l0 : ((nI 400) ≤ x2 ∨ (¬ (eg_gi M 25 2) = (nI 42) ∧ ¬ (eg_gi M 25 2) = (nI 47))) → Qp (.inl none) M)
  (l1 : (¬ (nI 400) ≤ x2 ∧ (eg_gi M 25 2) = (nI 42)) → ∀ (M2_1 : eg_M), (k_rr (k_ad M) M2_1 (px_part (eg_gi (k_ad M) 26) (eg_gi (k_ad M) 25 1).toNatClampNeg (px_E (eg_gi (k_ad M) 26) (eg_gi (k_ad M) 25 1).toNatClampNeg (dd - 1)))) → eg_T wd (k_X7_readProduct dd) Qp 58 0 0 [some (.ref 25), some (.int dp), some (.int x2), some (.int (-nI 8))] [] M2_1)
  (l2 : (¬ (nI 400) ≤ x2 ∧ (¬ (eg_gi M 25 2) = (nI 42) ∧ (eg_gi M 25 2) = (nI 47))) → ∀ (M2_2 : eg_M), (k_rr (k_ad M) M2_2 (px_part (eg_gi (k_ad M) 26) (eg_gi (k_ad M) 25 1).toNatClampNeg (px_E (eg_gi (k_ad M) 26) (eg_gi (k_ad M) 25 1).toNatClampNeg (dd - 1)))) → eg_T wd (k_X7_readProduct dd) Qp 58 0 0 [some (.ref 25), some (.int dp), some (.int x2), some (.int (-nI 9))] [] M2_2) :
  eg_T wd (k_X7_readProduct dd) Qp 7 0 0 [some (.ref 25), some (.int dp), some (.int x2), o3] [] M := by
  refine eg_T_run (mk_X7_readProduct dd) (cut := [5, 7, 58]) 38 ?_
  refine And.intro (fun (c1 : (nI 400) ≤ x2) => ?_) (fun (c1 : ¬ (nI 400) ≤ x2) => ?_)
  · skip
    show Qp (.inl none) M
    exact l0 (Or.inl c1)
  · skip
    refine And.intro (fun (c2 : (eg_gi M 25 2) = (nI 42)) => ?_) (fun (c2 : ¬ (eg_gi M 25 2) = (nI 42)) => ?_)
    · skip
      refine And.intro (fun (c3 : (eg_gi M 25 2) = (nI 42)) => ?_) (fun (c3 : ¬ (eg_gi M 25 2) = (nI 42)) => ?_)
      · clear c3
        refine And.intro (show (eg_gi M 25 5 = 0 → ∃ p n, p ≤ n ∧ n ≤ 400 ∧ eg_gi M 25 4 = nI p ∧ eg_gi M 25 1 = nI n) from ?_) ?_
        · exact g0 c1 (by clear g0 g1 l0 l1 l2; grind)
        refine And.intro (show (0 < dd ∧ dd ≤ 6 ∧ (∃ s, k_rs (k_ad M) s) ∧ k_tb (k_ad M) ∧ dp = nI (6 - dd)) from ?_) ?_
        · exact g1 c1 (by clear g0 g1 l0 l1 l2; grind)
        intro M2_1 ha_1
        show eg_T wd (k_X7_readProduct dd) Qp 58 0 0 [some (.ref 25), some (.int dp), some (.int x2), some (.int (-nI 8))] [] M2_1
        exact l1 ⟨c1, c2⟩ M2_1 ha_1
      · exact absurd c2 c3
    · skip
      refine And.intro (fun (c4 : (eg_gi M 25 2) = (nI 47)) => ?_) (fun (c4 : ¬ (eg_gi M 25 2) = (nI 47)) => ?_)
      · skip
        refine And.intro (fun (c5 : (eg_gi M 25 2) = (nI 42)) => ?_) (fun (c5 : ¬ (eg_gi M 25 2) = (nI 42)) => ?_)
        · exact absurd c5 c2
        · clear c5
          refine And.intro (show (eg_gi M 25 5 = 0 → ∃ p n, p ≤ n ∧ n ≤ 400 ∧ eg_gi M 25 4 = nI p ∧ eg_gi M 25 1 = nI n) from ?_) ?_
          · exact g0 c1 (by clear g0 g1 l0 l1 l2; grind)
          refine And.intro (show (0 < dd ∧ dd ≤ 6 ∧ (∃ s, k_rs (k_ad M) s) ∧ k_tb (k_ad M) ∧ dp = nI (6 - dd)) from ?_) ?_
          · exact g1 c1 (by clear g0 g1 l0 l1 l2; grind)
          intro M2_2 ha_2
          show eg_T wd (k_X7_readProduct dd) Qp 58 0 0 [some (.ref 25), some (.int dp), some (.int x2), some (.int (-nI 9))] [] M2_2
          exact l2 ⟨c1, ⟨c2, c4⟩⟩ M2_2 ha_2
      · skip
        show Qp (.inl none) M
        exact l0 (Or.inr ⟨c2, c4⟩)

set_option maxRecDepth 100000 in
theorem st_X7_readProduct_58 {dd : Nat} {Qp : eg_P} {M : eg_M} (dp : Int32) (x2 : Int32) (x3 : Int32)
  (g0 : (eg_cn (eg_gi M 25 8) 400))
  (l0 : eg_T wd (k_X7_readProduct dd) Qp 7 0 0 [some (.ref 25), some (.int dp), some (.int (x2 + (nI 1))), some (.int x3)] [] (k_pu M x3)) :
  eg_T wd (k_X7_readProduct dd) Qp 58 0 0 [some (.ref 25), some (.int dp), some (.int x2), some (.int x3)] [] M := by
  refine eg_T_run (mk_X7_readProduct dd) (cut := [5, 7, 58]) 38 ?_
  refine And.intro (show (eg_cn (eg_gi M 25 8) 400) from ?_) ?_
  · exact g0
  show eg_T wd (k_X7_readProduct dd) Qp 7 0 0 [some (.ref 25), some (.int dp), some (.int (x2 + (nI 1))), some (.int x3)] [] (k_pu M x3)
  exact l0

set_option maxRecDepth 100000 in
set_option maxHeartbeats 1000000 in
theorem T_X7_readProduct_r (dd : Nat) {argv : List Value} {M : eg_M} {Qp : eg_P} (h : s_X7_readProduct_r dd argv M Qp) : eg_T wd (k_X7_readProduct dd) Qp 0 0 0 (eg_lsN 4 argv) [] M := by
  unfold s_X7_readProduct_r at h
  split at h
  · rename_i dp
    obtain ⟨hp, hq⟩ := h
    obtain ⟨hd0, hd6, ⟨s, hs⟩, hT, rfl⟩ := hp
    have lp : ∀ r i (N : eg_M) (g : px_S → px_S) (o : Option Value), i + r = 400 → k_rr M N g → (∀ s, k_rs M s → px_prod (eg_gi M 26) (eg_gi M 25 1).toNatClampNeg (px_E (eg_gi M 26) (eg_gi M 25 1).toNatClampNeg (dd - 1)) s = px_lp (eg_gi M 26) (eg_gi M 25 1).toNatClampNeg (px_q2 42 47 (-nI 8) (-nI 9)) (px_part (eg_gi M 26) (eg_gi M 25 1).toNatClampNeg (px_E (eg_gi M 26) (eg_gi M 25 1).toNatClampNeg (dd - 1))) r (g s)) → eg_T wd (k_X7_readProduct dd) Qp 7 0 0 [some (.ref 25), some (.int (nI (6 - dd))), some (.int (nI i)), o] [] N := by
      intro r
      induction r with
      | zero =>
        intro i N g o hi hN he
        have st := st_X7_readProduct_7 (dd := dd) (Qp := Qp) (M := N) (nI (6 - dd)) (nI i) o
        have : nI 400 ≤ nI i := (n_le (by decide) (by omega)).mpr (by omega)
        refine st (fun z => absurd this z) (fun z => absurd this z) (fun _ => ?_) (fun z => absurd this z.1) (fun z => absurd this z.1)
        exact hq N (rr_c hN (fun s hs => (he s hs).symm))
      | succ r ih =>
        intro i N g o hi hN he
        have st := st_X7_readProduct_7 (dd := dd) (Qp := Qp) (M := N) (nI (6 - dd)) (nI i) o
        have h4 : ¬ nI 400 ≤ nI i := fun z => by
          rw [n_le (by decide) (by omega)] at z
          omega
        have hNs := hN.2 s hs
        have hTN := tb_fr hN.1 hT
        have hA := rr_adv hTN
        have e26 := fr_26 (fr_tr hN.1 (fr_ad N))
        have e1 := fr_1 (fr_tr hN.1 (fr_ad N))
        rw [fr_26 hN.1, fr_1 hN.1] at hA
        rw [e26, e1] at st
        have nx : ∀ x N2, k_rr (k_ad N) N2 (px_part (eg_gi M 26) (eg_gi M 25 1).toNatClampNeg (px_E (eg_gi M 26) (eg_gi M 25 1).toNatClampNeg (dd - 1))) → (∀ s, k_rs M s → px_q2 42 47 (-nI 8) (-nI 9) (g s) = some x) → eg_T wd (k_X7_readProduct dd) Qp 58 0 0 [some (.ref 25), some (.int (nI (6 - dd))), some (.int (nI i)), some (.int x)] [] N2 := by
          intro x N2 h2 hx
          have hB := rr_tr (rr_tr (rr_tr hN hA) h2) (rr_put (M := N2) (x := x))
          refine st_X7_readProduct_58 _ _ _ (rs_8 (h2.2 _ (hA.2 _ hNs))) ?_
          rw [n_s]
          refine ih (i + 1) _ _ _ (by omega) hB (fun s' hs' => ?_)
          rw [he s' hs', px_lp, hx s' hs']
        have pc : 0 < dd ∧ dd ≤ 6 ∧ (∃ s, k_rs (k_ad N) s) ∧ k_tb (k_ad N) ∧ nI (6 - dd) = nI (6 - dd) := ⟨hd0, hd6, ⟨_, hA.2 _ hNs⟩, tb_fr (fr_ad N) hTN, rfl⟩
        refine st (fun _ _ => rs_ad hNs) (fun _ _ => pc) (fun z => ?_) (fun z N2 h2 => nx _ N2 h2 (fun s' hs' => ?_)) (fun z N2 h2 => nx _ N2 h2 (fun s' hs' => ?_))
        · refine hq N (rr_c hN (fun s' hs' => ?_))
          rcases z with z | z
          · exact absurd z h4
          · have hk := rs_k (hN.2 s' hs')
            rw [he s' hs', px_lp, show px_q2 42 47 (-nI 8) (-nI 9) (g s') = none by
              unfold px_q2
              rw [if_neg (by rw [← hk]; exact z.1), if_neg (by rw [← hk]; exact z.2)]]
        · have hk := rs_k (hN.2 s' hs')
          unfold px_q2
          rw [if_pos (by rw [← hk]; exact z.2)]
        · have hk := rs_k (hN.2 s' hs')
          unfold px_q2
          rw [if_neg (by rw [← hk]; exact z.2.1), if_pos (by rw [← hk]; exact z.2.2)]
    refine st_X7_readProduct_0 _ ⟨hd0, hd6, ⟨s, hs⟩, hT, rfl⟩ (fun N h => ?_)
    exact st_X7_readProduct_5 _ _ _ (lp 400 0 N _ _ rfl h (fun _ _ => rfl))
  · exact h.elim
theorem de_X7_readProduct (dd : Nat) : ∀ q ∈ (k_X7_readProduct dd).1, decode cX7_readProduct q.1 = .ok q.2 := by show ∀ q ∈ (k_X7_readProduct 0).1, decode cX7_readProduct q.1 = .ok q.2; decide +kernel
theorem me_X7_readProduct_r (g : gl_T) (dd : Nat) (ih_X7_readExpr : MT g yX7_readExpr cX7_readExpr 3 none ⟨6 + 6 * dd, 0, 0, 128 + 135 * dd⟩ 0 0 (s_X7_readExpr_r dd)) : MT g yX7_readProduct cX7_readProduct 4 none ⟨8 + 6 * dd, 0, 0, 172 + 135 * dd⟩ 0 0 (s_X7_readProduct_r dd) := by
  intro hl
  exact eg_met_of (k := k_X7_readProduct dd) (by decide) rfl ⟨Nat.le_refl _, Nat.le_refl _⟩ rfl (sz_X7_readProduct_r dd) (de_X7_readProduct dd) (fun meth hn => (fc (eg_FL_of wd_c7 (by decide) lf_RX7_19 (fun h => absurd h (by decide))) (fn))) (fun A s H hE => (fn)) (fun p e s m args below meth c Q A ad0 N0 S0 hK hEx hA => (fc (mt_V hl S0 hK hEx hA (me_X7_advance g) lm_RX7_64 li_X7_advance lx_X7_advance ln_RX7 lc_X7_advance ⟨rfl, by decide, by decide, by decide +kernel⟩ ⟨rfl, rfl⟩ ⟨by dsimp only; omega, by dsimp only; omega⟩ (ci := 7) rfl rfl sr_X7_advance (by decide)) (fc (mt_V hl S0 hK hEx hA (me_X7_put_v g) lm_RX7_95 li_X7_put lx_X7_put ln_RX7 lc_X7_put ⟨rfl, by decide, by decide, by decide +kernel⟩ ⟨rfl, rfl⟩ ⟨by dsimp only; omega, by dsimp only; omega⟩ (ci := 7) rfl rfl sr_X7_put_v (by decide)) (fc (mt_V hl S0 hK hEx hA (me_X7_readPart_r g dd ih_X7_readExpr) lm_RX7_127 li_X7_readPart lx_X7_readPart ln_RX7 lc_X7_readPart ⟨rfl, by decide, by decide, by decide +kernel⟩ ⟨rfl, rfl⟩ ⟨(show 7 + 6 * dd + 1 ≤ 8 + 6 * dd by omega), (show 8 + (3 + 11) + (150 + 135 * dd) ≤ 172 + 135 * dd by omega)⟩ (ci := 7) rfl rfl (sr_X7_readPart_r dd) (by decide)) (fn))))) (fun p e s m args below meth c Qc XC A ad0 N0 P S0 hK hEx hA hlk hout hPX => (fn)) (fun argv M Qp h => T_X7_readProduct_r dd h)

def s_X7_readSum_r (dd : Nat) : eg_S := fun argv M Qp => match argv with
  | [.ref 25, .int dp] => (0 < dd ∧ dd ≤ 6 ∧ (∃ s, k_rs M s) ∧ k_tb M ∧ dp = nI (6 - dd)) ∧ ∀ (M2 : eg_M), (k_rr M M2 (px_sum (eg_gi M 26) (eg_gi M 25 1).toNatClampNeg (px_E (eg_gi M 26) (eg_gi M 25 1).toNatClampNeg (dd - 1)))) → Qp (.inl none) M2
  | _ => False
theorem mo_X7_readSum_r (dd : Nat) : eg_mono (s_X7_readSum_r dd) := by
  intro argv M Q Q' h
  unfold s_X7_readSum_r
  split
  · exact fun z => ⟨z.1, fun M2 y => h _ _ (z.2 M2 y)⟩
  · exact id
theorem sz_X7_readSum_r (dd : Nat) : ∀ argv M Qp, s_X7_readSum_r dd argv M Qp → (eg_ls0 argv).length ≤ 4 := by
  intro argv M Qp h
  unfold s_X7_readSum_r at h
  split at h
  · exact Nat.le_of_ble_eq_true rfl
  · exact h.elim
theorem sr_X7_readSum_r (dd : Nat) : ∀ argv M Qp, s_X7_readSum_r dd argv M Qp → ∃ p0 As, argv = .ref p0 :: As ∧ eg_isO wd M p0 7 = true := by
  intro argv M Qp h
  unfold s_X7_readSum_r at h
  split at h
  · exact ⟨_, _, rfl, rfl⟩
  · exact h.elim
theorem sF_X7_readSum_r : ∀ argv M Qp, s_X7_readSum_r 0 argv M Qp → False := by
  intro argv M Qp h
  unfold s_X7_readSum_r at h
  split at h
  · exact absurd h.1.1 (Nat.lt_irrefl 0)
  · exact h

def k_X7_readSum (dd : Nat) : eg_C := ([(0, .aload_n 0, 1), (1, .iload_n 1, 1), (2, .invokevirtual 124, 3), (5, .iconst 0, 1), (6, .istore_n 2, 1), (7, .iload_n 2, 1), (8, .sipush 400, 3), (11, .if_icmp .ge 58, 3), (14, .aload_n 0, 1), (15, .getfield 19, 3), (18, .bipush 43, 2), (20, .if_icmp .eq 12, 3), (23, .aload_n 0, 1), (24, .getfield 19, 3), (27, .bipush 45, 2), (29, .if_icmp .ne 40, 3), (32, .aload_n 0, 1), (33, .getfield 19, 3), (36, .bipush 43, 2), (38, .if_icmp .ne 8, 3), (41, .bipush (-6), 2), (43, .goto 5, 3), (46, .bipush (-7), 2), (48, .istore_n 3, 1), (49, .aload_n 0, 1), (50, .invokevirtual 64, 3), (53, .aload_n 0, 1), (54, .iload_n 1, 1), (55, .invokevirtual 124, 3), (58, .aload_n 0, 1), (59, .iload_n 3, 1), (60, .invokevirtual 95, 3), (63, .iinc 2 1, 3), (66, .goto (-59), 3), (69, .return_, 1)], [(19, 7, 2, false)], [], [(64, 0 + 1, 0, 0, s_X7_advance), (95, 1 + 1, 0, 0, s_X7_put_v), (124, 1 + 1, 0, 0, s_X7_readProduct_r dd)], [], 0, 0, 0)
theorem mk_X7_readSum (dd : Nat) : ∀ q ∈ (k_X7_readSum dd).2.2.2.1, eg_mono q.2.2.2.2 := (fc (mo_X7_advance) (fc (mo_X7_put_v) (fc (mo_X7_readProduct_r dd) (fn))))

set_option maxRecDepth 100000 in
theorem st_X7_readSum_0 {dd : Nat} {Qp : eg_P} {M : eg_M} (dp : Int32)
  (g0 : (0 < dd ∧ dd ≤ 6 ∧ (∃ s, k_rs M s) ∧ k_tb M ∧ dp = nI (6 - dd)))
  (l0 : ∀ (M2_1 : eg_M), (k_rr M M2_1 (px_prod (eg_gi M 26) (eg_gi M 25 1).toNatClampNeg (px_E (eg_gi M 26) (eg_gi M 25 1).toNatClampNeg (dd - 1)))) → eg_T wd (k_X7_readSum dd) Qp 5 0 0 [some (.ref 25), some (.int dp), none, none] [] M2_1) :
  eg_T wd (k_X7_readSum dd) Qp 0 0 0 [some (.ref 25), some (.int dp), none, none] [] M := by
  refine eg_T_run (mk_X7_readSum dd) (cut := [5, 7, 58]) 38 ?_
  refine And.intro (show (0 < dd ∧ dd ≤ 6 ∧ (∃ s, k_rs M s) ∧ k_tb M ∧ dp = nI (6 - dd)) from ?_) ?_
  · exact g0
  intro M2_1 ha_1
  show eg_T wd (k_X7_readSum dd) Qp 5 0 0 [some (.ref 25), some (.int dp), none, none] [] M2_1
  exact l0 M2_1 ha_1

set_option maxRecDepth 100000 in
theorem st_X7_readSum_5 {dd : Nat} {Qp : eg_P} {M : eg_M} (dp : Int32) (o2 : Option Value) (o3 : Option Value)
  (l0 : eg_T wd (k_X7_readSum dd) Qp 7 0 0 [some (.ref 25), some (.int dp), some (.int (nI 0)), o3] [] M) :
  eg_T wd (k_X7_readSum dd) Qp 5 0 0 [some (.ref 25), some (.int dp), o2, o3] [] M := by
  refine eg_T_run (mk_X7_readSum dd) (cut := [5, 7, 58]) 38 ?_
  show eg_T wd (k_X7_readSum dd) Qp 7 0 0 [some (.ref 25), some (.int dp), some (.int (nI 0)), o3] [] M
  exact l0

set_option maxRecDepth 100000 in
theorem st_X7_readSum_7 {dd : Nat} {Qp : eg_P} {M : eg_M} (dp : Int32) (x2 : Int32) (o3 : Option Value)
  (g0 : (¬ ((nI 400) ≤ x2)) → (((eg_gi M 25 2) = (nI 43)) ∨ (¬ ((eg_gi M 25 2) = (nI 43)) ∧ ((eg_gi M 25 2) = (nI 45)))) → (eg_gi M 25 5 = 0 → ∃ p n, p ≤ n ∧ n ≤ 400 ∧ eg_gi M 25 4 = nI p ∧ eg_gi M 25 1 = nI n))
  (g1 : (¬ ((nI 400) ≤ x2)) → (((eg_gi M 25 2) = (nI 43)) ∨ (¬ ((eg_gi M 25 2) = (nI 43)) ∧ ((eg_gi M 25 2) = (nI 45)))) → (0 < dd ∧ dd ≤ 6 ∧ (∃ s, k_rs (k_ad M) s) ∧ k_tb (k_ad M) ∧ dp = nI (6 - dd)))
  (l0 : ((nI 400) ≤ x2 ∨ (¬ (eg_gi M 25 2) = (nI 43) ∧ ¬ (eg_gi M 25 2) = (nI 45))) → Qp (.inl none) M)
  (l1 : (¬ (nI 400) ≤ x2 ∧ (eg_gi M 25 2) = (nI 43)) → ∀ (M2_1 : eg_M), (k_rr (k_ad M) M2_1 (px_prod (eg_gi (k_ad M) 26) (eg_gi (k_ad M) 25 1).toNatClampNeg (px_E (eg_gi (k_ad M) 26) (eg_gi (k_ad M) 25 1).toNatClampNeg (dd - 1)))) → eg_T wd (k_X7_readSum dd) Qp 58 0 0 [some (.ref 25), some (.int dp), some (.int x2), some (.int (-nI 6))] [] M2_1)
  (l2 : (¬ (nI 400) ≤ x2 ∧ (¬ (eg_gi M 25 2) = (nI 43) ∧ (eg_gi M 25 2) = (nI 45))) → ∀ (M2_2 : eg_M), (k_rr (k_ad M) M2_2 (px_prod (eg_gi (k_ad M) 26) (eg_gi (k_ad M) 25 1).toNatClampNeg (px_E (eg_gi (k_ad M) 26) (eg_gi (k_ad M) 25 1).toNatClampNeg (dd - 1)))) → eg_T wd (k_X7_readSum dd) Qp 58 0 0 [some (.ref 25), some (.int dp), some (.int x2), some (.int (-nI 7))] [] M2_2) :
  eg_T wd (k_X7_readSum dd) Qp 7 0 0 [some (.ref 25), some (.int dp), some (.int x2), o3] [] M := by
  refine eg_T_run (mk_X7_readSum dd) (cut := [5, 7, 58]) 38 ?_
  refine And.intro (fun (c1 : (nI 400) ≤ x2) => ?_) (fun (c1 : ¬ (nI 400) ≤ x2) => ?_)
  · skip
    show Qp (.inl none) M
    exact l0 (Or.inl c1)
  · skip
    refine And.intro (fun (c2 : (eg_gi M 25 2) = (nI 43)) => ?_) (fun (c2 : ¬ (eg_gi M 25 2) = (nI 43)) => ?_)
    · skip
      refine And.intro (fun (c3 : (eg_gi M 25 2) = (nI 43)) => ?_) (fun (c3 : ¬ (eg_gi M 25 2) = (nI 43)) => ?_)
      · clear c3
        refine And.intro (show (eg_gi M 25 5 = 0 → ∃ p n, p ≤ n ∧ n ≤ 400 ∧ eg_gi M 25 4 = nI p ∧ eg_gi M 25 1 = nI n) from ?_) ?_
        · exact g0 c1 (by clear g0 g1 l0 l1 l2; grind)
        refine And.intro (show (0 < dd ∧ dd ≤ 6 ∧ (∃ s, k_rs (k_ad M) s) ∧ k_tb (k_ad M) ∧ dp = nI (6 - dd)) from ?_) ?_
        · exact g1 c1 (by clear g0 g1 l0 l1 l2; grind)
        intro M2_1 ha_1
        show eg_T wd (k_X7_readSum dd) Qp 58 0 0 [some (.ref 25), some (.int dp), some (.int x2), some (.int (-nI 6))] [] M2_1
        exact l1 ⟨c1, c2⟩ M2_1 ha_1
      · exact absurd c2 c3
    · skip
      refine And.intro (fun (c4 : (eg_gi M 25 2) = (nI 45)) => ?_) (fun (c4 : ¬ (eg_gi M 25 2) = (nI 45)) => ?_)
      · skip
        refine And.intro (fun (c5 : (eg_gi M 25 2) = (nI 43)) => ?_) (fun (c5 : ¬ (eg_gi M 25 2) = (nI 43)) => ?_)
        · exact absurd c5 c2
        · clear c5
          refine And.intro (show (eg_gi M 25 5 = 0 → ∃ p n, p ≤ n ∧ n ≤ 400 ∧ eg_gi M 25 4 = nI p ∧ eg_gi M 25 1 = nI n) from ?_) ?_
          · exact g0 c1 (by clear g0 g1 l0 l1 l2; grind)
          refine And.intro (show (0 < dd ∧ dd ≤ 6 ∧ (∃ s, k_rs (k_ad M) s) ∧ k_tb (k_ad M) ∧ dp = nI (6 - dd)) from ?_) ?_
          · exact g1 c1 (by clear g0 g1 l0 l1 l2; grind)
          intro M2_2 ha_2
          show eg_T wd (k_X7_readSum dd) Qp 58 0 0 [some (.ref 25), some (.int dp), some (.int x2), some (.int (-nI 7))] [] M2_2
          exact l2 ⟨c1, ⟨c2, c4⟩⟩ M2_2 ha_2
      · skip
        show Qp (.inl none) M
        exact l0 (Or.inr ⟨c2, c4⟩)

set_option maxRecDepth 100000 in
theorem st_X7_readSum_58 {dd : Nat} {Qp : eg_P} {M : eg_M} (dp : Int32) (x2 : Int32) (x3 : Int32)
  (g0 : (eg_cn (eg_gi M 25 8) 400))
  (l0 : eg_T wd (k_X7_readSum dd) Qp 7 0 0 [some (.ref 25), some (.int dp), some (.int (x2 + (nI 1))), some (.int x3)] [] (k_pu M x3)) :
  eg_T wd (k_X7_readSum dd) Qp 58 0 0 [some (.ref 25), some (.int dp), some (.int x2), some (.int x3)] [] M := by
  refine eg_T_run (mk_X7_readSum dd) (cut := [5, 7, 58]) 38 ?_
  refine And.intro (show (eg_cn (eg_gi M 25 8) 400) from ?_) ?_
  · exact g0
  show eg_T wd (k_X7_readSum dd) Qp 7 0 0 [some (.ref 25), some (.int dp), some (.int (x2 + (nI 1))), some (.int x3)] [] (k_pu M x3)
  exact l0

set_option maxRecDepth 100000 in
set_option maxHeartbeats 1000000 in
theorem T_X7_readSum_r (dd : Nat) {argv : List Value} {M : eg_M} {Qp : eg_P} (h : s_X7_readSum_r dd argv M Qp) : eg_T wd (k_X7_readSum dd) Qp 0 0 0 (eg_lsN 4 argv) [] M := by
  unfold s_X7_readSum_r at h
  split at h
  · rename_i dp
    obtain ⟨hp, hq⟩ := h
    obtain ⟨hd0, hd6, ⟨s, hs⟩, hT, rfl⟩ := hp
    have lp : ∀ r i (N : eg_M) (g : px_S → px_S) (o : Option Value), i + r = 400 → k_rr M N g → (∀ s, k_rs M s → px_sum (eg_gi M 26) (eg_gi M 25 1).toNatClampNeg (px_E (eg_gi M 26) (eg_gi M 25 1).toNatClampNeg (dd - 1)) s = px_lp (eg_gi M 26) (eg_gi M 25 1).toNatClampNeg (px_q2 43 45 (-nI 6) (-nI 7)) (px_prod (eg_gi M 26) (eg_gi M 25 1).toNatClampNeg (px_E (eg_gi M 26) (eg_gi M 25 1).toNatClampNeg (dd - 1))) r (g s)) → eg_T wd (k_X7_readSum dd) Qp 7 0 0 [some (.ref 25), some (.int (nI (6 - dd))), some (.int (nI i)), o] [] N := by
      intro r
      induction r with
      | zero =>
        intro i N g o hi hN he
        have st := st_X7_readSum_7 (dd := dd) (Qp := Qp) (M := N) (nI (6 - dd)) (nI i) o
        have : nI 400 ≤ nI i := (n_le (by decide) (by omega)).mpr (by omega)
        refine st (fun z => absurd this z) (fun z => absurd this z) (fun _ => ?_) (fun z => absurd this z.1) (fun z => absurd this z.1)
        exact hq N (rr_c hN (fun s hs => (he s hs).symm))
      | succ r ih =>
        intro i N g o hi hN he
        have st := st_X7_readSum_7 (dd := dd) (Qp := Qp) (M := N) (nI (6 - dd)) (nI i) o
        have h4 : ¬ nI 400 ≤ nI i := fun z => by
          rw [n_le (by decide) (by omega)] at z
          omega
        have hNs := hN.2 s hs
        have hTN := tb_fr hN.1 hT
        have hA := rr_adv hTN
        have e26 := fr_26 (fr_tr hN.1 (fr_ad N))
        have e1 := fr_1 (fr_tr hN.1 (fr_ad N))
        rw [fr_26 hN.1, fr_1 hN.1] at hA
        rw [e26, e1] at st
        have nx : ∀ x N2, k_rr (k_ad N) N2 (px_prod (eg_gi M 26) (eg_gi M 25 1).toNatClampNeg (px_E (eg_gi M 26) (eg_gi M 25 1).toNatClampNeg (dd - 1))) → (∀ s, k_rs M s → px_q2 43 45 (-nI 6) (-nI 7) (g s) = some x) → eg_T wd (k_X7_readSum dd) Qp 58 0 0 [some (.ref 25), some (.int (nI (6 - dd))), some (.int (nI i)), some (.int x)] [] N2 := by
          intro x N2 h2 hx
          have hB := rr_tr (rr_tr (rr_tr hN hA) h2) (rr_put (M := N2) (x := x))
          refine st_X7_readSum_58 _ _ _ (rs_8 (h2.2 _ (hA.2 _ hNs))) ?_
          rw [n_s]
          refine ih (i + 1) _ _ _ (by omega) hB (fun s' hs' => ?_)
          rw [he s' hs', px_lp, hx s' hs']
        have pc : 0 < dd ∧ dd ≤ 6 ∧ (∃ s, k_rs (k_ad N) s) ∧ k_tb (k_ad N) ∧ nI (6 - dd) = nI (6 - dd) := ⟨hd0, hd6, ⟨_, hA.2 _ hNs⟩, tb_fr (fr_ad N) hTN, rfl⟩
        refine st (fun _ _ => rs_ad hNs) (fun _ _ => pc) (fun z => ?_) (fun z N2 h2 => nx _ N2 h2 (fun s' hs' => ?_)) (fun z N2 h2 => nx _ N2 h2 (fun s' hs' => ?_))
        · refine hq N (rr_c hN (fun s' hs' => ?_))
          rcases z with z | z
          · exact absurd z h4
          · have hk := rs_k (hN.2 s' hs')
            rw [he s' hs', px_lp, show px_q2 43 45 (-nI 6) (-nI 7) (g s') = none by
              unfold px_q2
              rw [if_neg (by rw [← hk]; exact z.1), if_neg (by rw [← hk]; exact z.2)]]
        · have hk := rs_k (hN.2 s' hs')
          unfold px_q2
          rw [if_pos (by rw [← hk]; exact z.2)]
        · have hk := rs_k (hN.2 s' hs')
          unfold px_q2
          rw [if_neg (by rw [← hk]; exact z.2.1), if_pos (by rw [← hk]; exact z.2.2)]
    refine st_X7_readSum_0 _ ⟨hd0, hd6, ⟨s, hs⟩, hT, rfl⟩ (fun N h => ?_)
    exact st_X7_readSum_5 _ _ _ (lp 400 0 N _ _ rfl h (fun _ _ => rfl))
  · exact h.elim
theorem de_X7_readSum (dd : Nat) : ∀ q ∈ (k_X7_readSum dd).1, decode cX7_readSum q.1 = .ok q.2 := by show ∀ q ∈ (k_X7_readSum 0).1, decode cX7_readSum q.1 = .ok q.2; decide +kernel
theorem me_X7_readSum_r (g : gl_T) (dd : Nat) (ih_X7_readExpr : MT g yX7_readExpr cX7_readExpr 3 none ⟨6 + 6 * dd, 0, 0, 128 + 135 * dd⟩ 0 0 (s_X7_readExpr_r dd)) : MT g yX7_readSum cX7_readSum 4 none ⟨9 + 6 * dd, 0, 0, 195 + 135 * dd⟩ 0 0 (s_X7_readSum_r dd) := by
  intro hl
  exact eg_met_of (k := k_X7_readSum dd) (by decide) rfl ⟨Nat.le_refl _, Nat.le_refl _⟩ rfl (sz_X7_readSum_r dd) (de_X7_readSum dd) (fun meth hn => (fc (eg_FL_of wd_c7 (by decide) lf_RX7_19 (fun h => absurd h (by decide))) (fn))) (fun A s H hE => (fn)) (fun p e s m args below meth c Q A ad0 N0 S0 hK hEx hA => (fc (mt_V hl S0 hK hEx hA (me_X7_advance g) lm_RX7_64 li_X7_advance lx_X7_advance ln_RX7 lc_X7_advance ⟨rfl, by decide, by decide, by decide +kernel⟩ ⟨rfl, rfl⟩ ⟨by dsimp only; omega, by dsimp only; omega⟩ (ci := 7) rfl rfl sr_X7_advance (by decide)) (fc (mt_V hl S0 hK hEx hA (me_X7_put_v g) lm_RX7_95 li_X7_put lx_X7_put ln_RX7 lc_X7_put ⟨rfl, by decide, by decide, by decide +kernel⟩ ⟨rfl, rfl⟩ ⟨by dsimp only; omega, by dsimp only; omega⟩ (ci := 7) rfl rfl sr_X7_put_v (by decide)) (fc (mt_V hl S0 hK hEx hA (me_X7_readProduct_r g dd ih_X7_readExpr) lm_RX7_124 li_X7_readProduct lx_X7_readProduct ln_RX7 lc_X7_readProduct ⟨rfl, by decide, by decide, by decide +kernel⟩ ⟨rfl, rfl⟩ ⟨(show 8 + 6 * dd + 1 ≤ 9 + 6 * dd by omega), (show 8 + (4 + 11) + (172 + 135 * dd) ≤ 195 + 135 * dd by omega)⟩ (ci := 7) rfl rfl (sr_X7_readProduct_r dd) (by decide)) (fn))))) (fun p e s m args below meth c Qc XC A ad0 N0 P S0 hK hEx hA hlk hout hPX => (fn)) (fun argv M Qp h => T_X7_readSum_r dd h)

def s_X7_readNot_r (dd : Nat) : eg_S := fun argv M Qp => match argv with
  | [.ref 25, .int dp] => (0 < dd ∧ dd ≤ 6 ∧ (∃ s, k_rs M s) ∧ k_tb M ∧ dp = nI (6 - dd)) ∧ ∀ (M2 : eg_M), (k_rr M M2 (px_not (eg_gi M 26) (eg_gi M 25 1).toNatClampNeg (px_E (eg_gi M 26) (eg_gi M 25 1).toNatClampNeg (dd - 1)))) → Qp (.inl none) M2
  | _ => False
theorem mo_X7_readNot_r (dd : Nat) : eg_mono (s_X7_readNot_r dd) := by
  intro argv M Q Q' h
  unfold s_X7_readNot_r
  split
  · exact fun z => ⟨z.1, fun M2 y => h _ _ (z.2 M2 y)⟩
  · exact id
theorem sz_X7_readNot_r (dd : Nat) : ∀ argv M Qp, s_X7_readNot_r dd argv M Qp → (eg_ls0 argv).length ≤ 4 := by
  intro argv M Qp h
  unfold s_X7_readNot_r at h
  split at h
  · exact Nat.le_of_ble_eq_true rfl
  · exact h.elim
theorem sr_X7_readNot_r (dd : Nat) : ∀ argv M Qp, s_X7_readNot_r dd argv M Qp → ∃ p0 As, argv = .ref p0 :: As ∧ eg_isO wd M p0 7 = true := by
  intro argv M Qp h
  unfold s_X7_readNot_r at h
  split at h
  · exact ⟨_, _, rfl, rfl⟩
  · exact h.elim
theorem sF_X7_readNot_r : ∀ argv M Qp, s_X7_readNot_r 0 argv M Qp → False := by
  intro argv M Qp h
  unfold s_X7_readNot_r at h
  split at h
  · exact absurd h.1.1 (Nat.lt_irrefl 0)
  · exact h

def k_X7_readNot (dd : Nat) : eg_C := ([(0, .iconst 0, 1), (1, .istore_n 2, 1), (2, .iload_n 2, 1), (3, .bipush 6, 2), (5, .if_icmp .ge 22, 3), (8, .aload_n 0, 1), (9, .ldc 119, 2), (11, .invokevirtual 78, 3), (14, .ifCond .eq 13, 3), (17, .iinc 2 1, 3), (20, .aload_n 0, 1), (21, .invokevirtual 64, 3), (24, .goto (-22), 3), (27, .aload_n 0, 1), (28, .ldc 119, 2), (30, .invokevirtual 78, 3), (33, .ifCond .eq 8, 3), (36, .aload_n 0, 1), (37, .iconst 2, 1), (38, .invokevirtual 86, 3), (41, .aload_n 0, 1), (42, .iload_n 1, 1), (43, .invokevirtual 121, 3), (46, .aload_n 0, 1), (47, .getfield 19, 3), (50, .bipush 60, 2), (52, .if_icmp .eq 12, 3), (55, .aload_n 0, 1), (56, .getfield 19, 3), (59, .bipush 61, 2), (61, .if_icmp .ne 34, 3), (64, .aload_n 0, 1), (65, .getfield 19, 3), (68, .bipush 60, 2), (70, .if_icmp .ne 8, 3), (73, .bipush (-4), 2), (75, .goto 5, 3), (78, .bipush (-5), 2), (80, .istore_n 3, 1), (81, .aload_n 0, 1), (82, .invokevirtual 64, 3), (85, .aload_n 0, 1), (86, .iload_n 1, 1), (87, .invokevirtual 121, 3), (90, .aload_n 0, 1), (91, .iload_n 3, 1), (92, .invokevirtual 95, 3), (95, .iconst 0, 1), (96, .istore_n 3, 1), (97, .iload_n 3, 1), (98, .iload_n 2, 1), (99, .if_icmp .ge 15, 3), (102, .aload_n 0, 1), (103, .bipush (-3), 2), (105, .invokevirtual 95, 3), (108, .iinc 3 1, 3), (111, .goto (-14), 3), (114, .return_, 1)], [(19, 7, 2, false)], [(119, .retAddr 15)], [(64, 0 + 1, 0, 0, s_X7_advance), (78, 1 + 1, 0, 0, s_X7_isWord), (86, 1 + 1, 0, 0, s_X7_refuse_v), (95, 1 + 1, 0, 0, s_X7_put_v), (121, 1 + 1, 0, 0, s_X7_readSum_r dd)], [], 0, 0, 0)
theorem mk_X7_readNot (dd : Nat) : ∀ q ∈ (k_X7_readNot dd).2.2.2.1, eg_mono q.2.2.2.2 := (fc (mo_X7_advance) (fc (mo_X7_isWord) (fc (mo_X7_refuse_v) (fc (mo_X7_put_v) (fc (mo_X7_readSum_r dd) (fn))))))

set_option maxRecDepth 100000 in
theorem st_X7_readNot_0 {dd : Nat} {Qp : eg_P} {M : eg_M} (dp : Int32)
  (l0 : eg_T wd (k_X7_readNot dd) Qp 2 0 0 [some (.ref 25), some (.int dp), some (.int (nI 0)), none] [] M) :
  eg_T wd (k_X7_readNot dd) Qp 0 0 0 [some (.ref 25), some (.int dp), none, none] [] M := by
  refine eg_T_run (mk_X7_readNot dd) (cut := [2, 46, 90, 97]) 61 ?_
  show eg_T wd (k_X7_readNot dd) Qp 2 0 0 [some (.ref 25), some (.int dp), some (.int (nI 0)), none] [] M
  exact l0

set_option maxRecDepth 100000 in
theorem st_X7_readNot_2 {dd : Nat} {Qp : eg_P} {M : eg_M} (dp : Int32) (x2 : Int32) (o3 : Option Value)
  (g0 : (15 < 32 ∧ (eg_gi M 25 2 = -nI 2 → ∃ b e, b ≤ e ∧ e ≤ 400 ∧ eg_gi M 25 3 = nI b ∧ eg_gi M 25 4 = nI e)))
  (g1 : ((k_iw M 15) = false) → (0 < dd ∧ dd ≤ 6 ∧ (∃ s, k_rs M s) ∧ k_tb M ∧ dp = nI (6 - dd)))
  (g2 : ((nI 6) ≤ x2) → (¬ ((k_iw M 15) = false)) → (0 < dd ∧ dd ≤ 6 ∧ (∃ s, k_rs (k_rf1 M (nI 2)) s) ∧ k_tb (k_rf1 M (nI 2)) ∧ dp = nI (6 - dd)))
  (g3 : (¬ ((nI 6) ≤ x2)) → (¬ ((k_iw M 15) = false)) → (eg_gi M 25 5 = 0 → ∃ p n, p ≤ n ∧ n ≤ 400 ∧ eg_gi M 25 4 = nI p ∧ eg_gi M 25 1 = nI n))
  (l0 : ((nI 6) ≤ x2 ∧ (k_iw M 15) = false) → ∀ (M2_1 : eg_M), (k_rr M M2_1 (px_sum (eg_gi M 26) (eg_gi M 25 1).toNatClampNeg (px_E (eg_gi M 26) (eg_gi M 25 1).toNatClampNeg (dd - 1)))) → eg_T wd (k_X7_readNot dd) Qp 46 0 0 [some (.ref 25), some (.int dp), some (.int x2), o3] [] M2_1)
  (l1 : ((nI 6) ≤ x2 ∧ ¬ (k_iw M 15) = false) → ∀ (M2_2 : eg_M), (k_rr (k_rf1 M (nI 2)) M2_2 (px_sum (eg_gi (k_rf1 M (nI 2)) 26) (eg_gi (k_rf1 M (nI 2)) 25 1).toNatClampNeg (px_E (eg_gi (k_rf1 M (nI 2)) 26) (eg_gi (k_rf1 M (nI 2)) 25 1).toNatClampNeg (dd - 1)))) → eg_T wd (k_X7_readNot dd) Qp 46 0 0 [some (.ref 25), some (.int dp), some (.int x2), o3] [] M2_2)
  (l2 : (¬ (nI 6) ≤ x2 ∧ (k_iw M 15) = false) → ∀ (M2_3 : eg_M), (k_rr M M2_3 (px_sum (eg_gi M 26) (eg_gi M 25 1).toNatClampNeg (px_E (eg_gi M 26) (eg_gi M 25 1).toNatClampNeg (dd - 1)))) → eg_T wd (k_X7_readNot dd) Qp 46 0 0 [some (.ref 25), some (.int dp), some (.int x2), o3] [] M2_3)
  (l3 : (¬ (nI 6) ≤ x2 ∧ ¬ (k_iw M 15) = false) → eg_T wd (k_X7_readNot dd) Qp 2 0 0 [some (.ref 25), some (.int dp), some (.int (x2 + (nI 1))), o3] [] (k_ad M)) :
  eg_T wd (k_X7_readNot dd) Qp 2 0 0 [some (.ref 25), some (.int dp), some (.int x2), o3] [] M := by
  refine eg_T_run (mk_X7_readNot dd) (cut := [2, 46, 90, 97]) 61 ?_
  refine And.intro (fun (c1 : (nI 6) ≤ x2) => ?_) (fun (c1 : ¬ (nI 6) ≤ x2) => ?_)
  · skip
    refine And.intro (show (15 < 32 ∧ (eg_gi M 25 2 = -nI 2 → ∃ b e, b ≤ e ∧ e ≤ 400 ∧ eg_gi M 25 3 = nI b ∧ eg_gi M 25 4 = nI e)) from ?_) ?_
    · exact g0
    refine And.intro (fun (c2 : (b2i (k_iw M 15)) = 0) => ?_) (fun (c2 : ¬ (b2i (k_iw M 15)) = 0) => ?_)
    · replace c2 := b2i_0.mp c2
      refine And.intro (show (0 < dd ∧ dd ≤ 6 ∧ (∃ s, k_rs M s) ∧ k_tb M ∧ dp = nI (6 - dd)) from ?_) ?_
      · exact g1 (by clear g0 g1 g2 g3 l0 l1 l2 l3; grind)
      intro M2_1 ha_1
      show eg_T wd (k_X7_readNot dd) Qp 46 0 0 [some (.ref 25), some (.int dp), some (.int x2), o3] [] M2_1
      exact l0 ⟨c1, c2⟩ M2_1 ha_1
    · replace c2 := b2i_ff c2
      refine And.intro (show (True) from ?_) ?_
      · exact trivial
      refine And.intro (show (0 < dd ∧ dd ≤ 6 ∧ (∃ s, k_rs (k_rf1 M (nI 2)) s) ∧ k_tb (k_rf1 M (nI 2)) ∧ dp = nI (6 - dd)) from ?_) ?_
      · exact g2 c1 c2
      intro M2_2 ha_2
      show eg_T wd (k_X7_readNot dd) Qp 46 0 0 [some (.ref 25), some (.int dp), some (.int x2), o3] [] M2_2
      exact l1 ⟨c1, c2⟩ M2_2 ha_2
  · skip
    refine And.intro (show (15 < 32 ∧ (eg_gi M 25 2 = -nI 2 → ∃ b e, b ≤ e ∧ e ≤ 400 ∧ eg_gi M 25 3 = nI b ∧ eg_gi M 25 4 = nI e)) from ?_) ?_
    · exact g0
    refine And.intro (fun (c3 : (b2i (k_iw M 15)) = 0) => ?_) (fun (c3 : ¬ (b2i (k_iw M 15)) = 0) => ?_)
    · replace c3 := b2i_0.mp c3
      refine And.intro (show (15 < 32 ∧ (eg_gi M 25 2 = -nI 2 → ∃ b e, b ≤ e ∧ e ≤ 400 ∧ eg_gi M 25 3 = nI b ∧ eg_gi M 25 4 = nI e)) from ?_) ?_
      · exact g0
      refine And.intro (fun (c4 : (b2i (k_iw M 15)) = 0) => ?_) (fun (c4 : ¬ (b2i (k_iw M 15)) = 0) => ?_)
      · clear c4
        refine And.intro (show (0 < dd ∧ dd ≤ 6 ∧ (∃ s, k_rs M s) ∧ k_tb M ∧ dp = nI (6 - dd)) from ?_) ?_
        · exact g1 (by clear g0 g1 g2 g3 l0 l1 l2 l3; grind)
        intro M2_3 ha_3
        show eg_T wd (k_X7_readNot dd) Qp 46 0 0 [some (.ref 25), some (.int dp), some (.int x2), o3] [] M2_3
        exact l2 ⟨c1, c3⟩ M2_3 ha_3
      · exact absurd c3 (b2i_ff c4)
    · replace c3 := b2i_ff c3
      refine And.intro (show (eg_gi M 25 5 = 0 → ∃ p n, p ≤ n ∧ n ≤ 400 ∧ eg_gi M 25 4 = nI p ∧ eg_gi M 25 1 = nI n) from ?_) ?_
      · exact g3 c1 c3
      show eg_T wd (k_X7_readNot dd) Qp 2 0 0 [some (.ref 25), some (.int dp), some (.int (x2 + (nI 1))), o3] [] (k_ad M)
      exact l3 ⟨c1, c3⟩

set_option maxRecDepth 100000 in
theorem st_X7_readNot_46 {dd : Nat} {Qp : eg_P} {M : eg_M} (dp : Int32) (x2 : Int32) (o3 : Option Value)
  (g0 : (((eg_gi M 25 2) = (nI 60)) ∨ (¬ ((eg_gi M 25 2) = (nI 60)) ∧ ((eg_gi M 25 2) = (nI 61)))) → (eg_gi M 25 5 = 0 → ∃ p n, p ≤ n ∧ n ≤ 400 ∧ eg_gi M 25 4 = nI p ∧ eg_gi M 25 1 = nI n))
  (g1 : (((eg_gi M 25 2) = (nI 60)) ∨ (¬ ((eg_gi M 25 2) = (nI 60)) ∧ ((eg_gi M 25 2) = (nI 61)))) → (0 < dd ∧ dd ≤ 6 ∧ (∃ s, k_rs (k_ad M) s) ∧ k_tb (k_ad M) ∧ dp = nI (6 - dd)))
  (l0 : ((eg_gi M 25 2) = (nI 60)) → ∀ (M2_1 : eg_M), (k_rr (k_ad M) M2_1 (px_sum (eg_gi (k_ad M) 26) (eg_gi (k_ad M) 25 1).toNatClampNeg (px_E (eg_gi (k_ad M) 26) (eg_gi (k_ad M) 25 1).toNatClampNeg (dd - 1)))) → eg_T wd (k_X7_readNot dd) Qp 90 0 0 [some (.ref 25), some (.int dp), some (.int x2), some (.int (-nI 4))] [] M2_1)
  (l1 : (¬ (eg_gi M 25 2) = (nI 60) ∧ (eg_gi M 25 2) = (nI 61)) → ∀ (M2_2 : eg_M), (k_rr (k_ad M) M2_2 (px_sum (eg_gi (k_ad M) 26) (eg_gi (k_ad M) 25 1).toNatClampNeg (px_E (eg_gi (k_ad M) 26) (eg_gi (k_ad M) 25 1).toNatClampNeg (dd - 1)))) → eg_T wd (k_X7_readNot dd) Qp 90 0 0 [some (.ref 25), some (.int dp), some (.int x2), some (.int (-nI 5))] [] M2_2)
  (l2 : (¬ (eg_gi M 25 2) = (nI 60) ∧ ¬ (eg_gi M 25 2) = (nI 61)) → eg_T wd (k_X7_readNot dd) Qp 97 0 0 [some (.ref 25), some (.int dp), some (.int x2), some (.int (nI 0))] [] M) :
  eg_T wd (k_X7_readNot dd) Qp 46 0 0 [some (.ref 25), some (.int dp), some (.int x2), o3] [] M := by
  refine eg_T_run (mk_X7_readNot dd) (cut := [2, 46, 90, 97]) 61 ?_
  refine And.intro (fun (c1 : (eg_gi M 25 2) = (nI 60)) => ?_) (fun (c1 : ¬ (eg_gi M 25 2) = (nI 60)) => ?_)
  · skip
    refine And.intro (fun (c2 : (eg_gi M 25 2) = (nI 60)) => ?_) (fun (c2 : ¬ (eg_gi M 25 2) = (nI 60)) => ?_)
    · clear c2
      refine And.intro (show (eg_gi M 25 5 = 0 → ∃ p n, p ≤ n ∧ n ≤ 400 ∧ eg_gi M 25 4 = nI p ∧ eg_gi M 25 1 = nI n) from ?_) ?_
      · exact g0 (by clear g0 g1 l0 l1 l2; grind)
      refine And.intro (show (0 < dd ∧ dd ≤ 6 ∧ (∃ s, k_rs (k_ad M) s) ∧ k_tb (k_ad M) ∧ dp = nI (6 - dd)) from ?_) ?_
      · exact g1 (by clear g0 g1 l0 l1 l2; grind)
      intro M2_1 ha_1
      show eg_T wd (k_X7_readNot dd) Qp 90 0 0 [some (.ref 25), some (.int dp), some (.int x2), some (.int (-nI 4))] [] M2_1
      exact l0 c1 M2_1 ha_1
    · exact absurd c1 c2
  · skip
    refine And.intro (fun (c3 : (eg_gi M 25 2) = (nI 61)) => ?_) (fun (c3 : ¬ (eg_gi M 25 2) = (nI 61)) => ?_)
    · skip
      refine And.intro (fun (c4 : (eg_gi M 25 2) = (nI 60)) => ?_) (fun (c4 : ¬ (eg_gi M 25 2) = (nI 60)) => ?_)
      · exact absurd c4 c1
      · clear c4
        refine And.intro (show (eg_gi M 25 5 = 0 → ∃ p n, p ≤ n ∧ n ≤ 400 ∧ eg_gi M 25 4 = nI p ∧ eg_gi M 25 1 = nI n) from ?_) ?_
        · exact g0 (by clear g0 g1 l0 l1 l2; grind)
        refine And.intro (show (0 < dd ∧ dd ≤ 6 ∧ (∃ s, k_rs (k_ad M) s) ∧ k_tb (k_ad M) ∧ dp = nI (6 - dd)) from ?_) ?_
        · exact g1 (by clear g0 g1 l0 l1 l2; grind)
        intro M2_2 ha_2
        show eg_T wd (k_X7_readNot dd) Qp 90 0 0 [some (.ref 25), some (.int dp), some (.int x2), some (.int (-nI 5))] [] M2_2
        exact l1 ⟨c1, c3⟩ M2_2 ha_2
    · skip
      show eg_T wd (k_X7_readNot dd) Qp 97 0 0 [some (.ref 25), some (.int dp), some (.int x2), some (.int (nI 0))] [] M
      exact l2 ⟨c1, c3⟩

set_option maxRecDepth 100000 in
theorem st_X7_readNot_90 {dd : Nat} {Qp : eg_P} {M : eg_M} (o1 : Option Value) (x2 : Int32) (x3 : Int32)
  (g0 : (eg_cn (eg_gi M 25 8) 400))
  (l0 : eg_T wd (k_X7_readNot dd) Qp 97 0 0 [some (.ref 25), o1, some (.int x2), some (.int (nI 0))] [] (k_pu M x3)) :
  eg_T wd (k_X7_readNot dd) Qp 90 0 0 [some (.ref 25), o1, some (.int x2), some (.int x3)] [] M := by
  refine eg_T_run (mk_X7_readNot dd) (cut := [2, 46, 90, 97]) 61 ?_
  refine And.intro (show (eg_cn (eg_gi M 25 8) 400) from ?_) ?_
  · exact g0
  show eg_T wd (k_X7_readNot dd) Qp 97 0 0 [some (.ref 25), o1, some (.int x2), some (.int (nI 0))] [] (k_pu M x3)
  exact l0

set_option maxRecDepth 100000 in
theorem st_X7_readNot_97 {dd : Nat} {Qp : eg_P} {M : eg_M} (o1 : Option Value) (x2 : Int32) (x3 : Int32)
  (g0 : (¬ (x2 ≤ x3)) → (eg_cn (eg_gi M 25 8) 400))
  (l0 : (x2 ≤ x3) → Qp (.inl none) M)
  (l1 : (¬ x2 ≤ x3) → eg_T wd (k_X7_readNot dd) Qp 97 0 0 [some (.ref 25), o1, some (.int x2), some (.int (x3 + (nI 1)))] [] (k_pu M (-nI 3))) :
  eg_T wd (k_X7_readNot dd) Qp 97 0 0 [some (.ref 25), o1, some (.int x2), some (.int x3)] [] M := by
  refine eg_T_run (mk_X7_readNot dd) (cut := [2, 46, 90, 97]) 61 ?_
  refine And.intro (fun (c1 : x2 ≤ x3) => ?_) (fun (c1 : ¬ x2 ≤ x3) => ?_)
  · skip
    show Qp (.inl none) M
    exact l0 c1
  · skip
    refine And.intro (show (eg_cn (eg_gi M 25 8) 400) from ?_) ?_
    · exact g0 c1
    show eg_T wd (k_X7_readNot dd) Qp 97 0 0 [some (.ref 25), o1, some (.int x2), some (.int (x3 + (nI 1)))] [] (k_pu M (-nI 3))
    exact l1 c1

set_option maxRecDepth 100000 in
set_option maxHeartbeats 1000000 in
theorem T_X7_readNot_r (dd : Nat) {argv : List Value} {M : eg_M} {Qp : eg_P} (h : s_X7_readNot_r dd argv M Qp) : eg_T wd (k_X7_readNot dd) Qp 0 0 0 (eg_lsN 4 argv) [] M := by
  unfold s_X7_readNot_r at h
  split at h
  · rename_i dp
    obtain ⟨hp, hq⟩ := h
    obtain ⟨hd0, hd6, ⟨s, hs⟩, hT, rfl⟩ := hp
    have f97 : ∀ r j i N (g : px_S → px_S) (o : Option Value), j + r = i → i ≤ 6 → k_rr M N g → (∀ s', k_rs M s' → px_not (eg_gi M 26) (eg_gi M 25 1).toNatClampNeg (px_E (eg_gi M 26) (eg_gi M 25 1).toNatClampNeg (dd - 1)) s' = px_puts (-nI 3) r (g s')) → eg_T wd (k_X7_readNot dd) Qp 97 0 0 [some (.ref 25), o, some (.int (nI i)), some (.int (nI j))] [] N := by
      intro r
      induction r with
      | zero =>
        intro j i N g o hj hi hN he
        have st := st_X7_readNot_97 (dd := dd) (Qp := Qp) (M := N) o (nI i) (nI j)
        have : nI i ≤ nI j := (n_le (by omega) (by omega)).mpr (by omega)
        exact st (fun z => absurd this z) (fun _ => hq N (rr_c hN (fun s' hs' => (he s' hs').symm))) (fun z => absurd this z)
      | succ r ih =>
        intro j i N g o hj hi hN he
        have st := st_X7_readNot_97 (dd := dd) (Qp := Qp) (M := N) o (nI i) (nI j)
        have hn : ¬ nI i ≤ nI j := fun z => by
          rw [n_le (by omega) (by omega)] at z
          omega
        rw [n_s] at st
        exact st (fun _ => rs_8 (hN.2 s hs)) (fun z => absurd z hn) (fun _ => ih (j + 1) i _ _ o (by omega) hi (rr_tr hN rr_put) (fun s' hs' => he s' hs'))
    have f46 : ∀ i N (o : Option Value), i ≤ 6 → (∀ s', k_rs M s' → (px_nt (eg_gi M 26) (eg_gi M 25 1).toNatClampNeg 6 0 s').1 = i) → k_rr M N (fun s' => px_sum (eg_gi M 26) (eg_gi M 25 1).toNatClampNeg (px_E (eg_gi M 26) (eg_gi M 25 1).toNatClampNeg (dd - 1)) (if px_is (eg_gi M 26) 15 (px_nt (eg_gi M 26) (eg_gi M 25 1).toNatClampNeg 6 0 s').2 = true then px_ref 2 (px_nt (eg_gi M 26) (eg_gi M 25 1).toNatClampNeg 6 0 s').2 else (px_nt (eg_gi M 26) (eg_gi M 25 1).toNatClampNeg 6 0 s').2)) → eg_T wd (k_X7_readNot dd) Qp 46 0 0 [some (.ref 25), some (.int (nI (6 - dd))), some (.int (nI i)), o] [] N := by
      intro i N o hi hc hN
      have st := st_X7_readNot_46 (dd := dd) (Qp := Qp) (M := N) (nI (6 - dd)) (nI i) o
      have hNs := hN.2 s hs
      have hTN := tb_fr hN.1 hT
      have hA := rr_adv hTN
      have e26 := fr_26 (fr_tr hN.1 (fr_ad N))
      have e1 := fr_1 (fr_tr hN.1 (fr_ad N))
      rw [fr_26 hN.1, fr_1 hN.1] at hA
      rw [e26, e1] at st
      have pc : 0 < dd ∧ dd ≤ 6 ∧ (∃ s, k_rs (k_ad N) s) ∧ k_tb (k_ad N) ∧ nI (6 - dd) = nI (6 - dd) := ⟨hd0, hd6, ⟨_, hA.2 _ hNs⟩, tb_fr (fr_ad N) hTN, rfl⟩
      have nx : ∀ x N2 (o : Option Value), k_rr (k_ad N) N2 (px_sum (eg_gi M 26) (eg_gi M 25 1).toNatClampNeg (px_E (eg_gi M 26) (eg_gi M 25 1).toNatClampNeg (dd - 1))) → (∀ s', k_rs M s' → px_q2 60 61 (-nI 4) (-nI 5) (px_sum (eg_gi M 26) (eg_gi M 25 1).toNatClampNeg (px_E (eg_gi M 26) (eg_gi M 25 1).toNatClampNeg (dd - 1)) (if px_is (eg_gi M 26) 15 (px_nt (eg_gi M 26) (eg_gi M 25 1).toNatClampNeg 6 0 s').2 = true then px_ref 2 (px_nt (eg_gi M 26) (eg_gi M 25 1).toNatClampNeg 6 0 s').2 else (px_nt (eg_gi M 26) (eg_gi M 25 1).toNatClampNeg 6 0 s').2)) = some x) → eg_T wd (k_X7_readNot dd) Qp 90 0 0 [some (.ref 25), o, some (.int (nI i)), some (.int x)] [] N2 := by
        intro x N2 o h2 hx
        have hB := rr_tr (rr_tr (rr_tr hN hA) h2) (rr_put (M := N2) (x := x))
        refine st_X7_readNot_90 _ _ _ (rs_8 (h2.2 _ (hA.2 _ hNs))) (f97 i 0 i _ _ _ (Nat.zero_add _) hi hB (fun s' hs' => ?_))
        unfold px_not px_cmp
        rw [hx s' hs', hc s' hs']
      refine st (fun _ => rs_ad hNs) (fun _ => pc) (fun z N2 h2 => nx _ N2 _ h2 (fun s' hs' => ?_)) (fun z N2 h2 => nx _ N2 _ h2 (fun s' hs' => ?_)) (fun z => ?_)
      · have hk := rs_k (hN.2 s' hs')
        unfold px_q2
        rw [if_pos (by rw [← hk]; exact z)]
      · have hk := rs_k (hN.2 s' hs')
        unfold px_q2
        rw [if_neg (by rw [← hk]; exact z.1), if_pos (by rw [← hk]; exact z.2)]
      · refine f97 i 0 i _ _ _ (Nat.zero_add _) hi hN (fun s' hs' => ?_)
        have hk := rs_k (hN.2 s' hs')
        unfold px_not px_cmp
        rw [hc s' hs', show px_q2 60 61 (-nI 4) (-nI 5) (px_sum (eg_gi M 26) (eg_gi M 25 1).toNatClampNeg (px_E (eg_gi M 26) (eg_gi M 25 1).toNatClampNeg (dd - 1)) (if px_is (eg_gi M 26) 15 (px_nt (eg_gi M 26) (eg_gi M 25 1).toNatClampNeg 6 0 s').2 = true then px_ref 2 (px_nt (eg_gi M 26) (eg_gi M 25 1).toNatClampNeg 6 0 s').2 else (px_nt (eg_gi M 26) (eg_gi M 25 1).toNatClampNeg 6 0 s').2)) = none by
          unfold px_q2
          rw [if_neg (by rw [← hk]; exact z.1), if_neg (by rw [← hk]; exact z.2)]]
    have lp : ∀ r i N (g : px_S → px_S) (o : Option Value), i + r = 6 → k_rr M N g → (∀ s', k_rs M s' → px_nt (eg_gi M 26) (eg_gi M 25 1).toNatClampNeg 6 0 s' = px_nt (eg_gi M 26) (eg_gi M 25 1).toNatClampNeg r i (g s')) → eg_T wd (k_X7_readNot dd) Qp 2 0 0 [some (.ref 25), some (.int (nI (6 - dd))), some (.int (nI i)), o] [] N := by
      intro r
      induction r with
      | zero =>
        intro i N g o hi hN he
        have st := st_X7_readNot_2 (dd := dd) (Qp := Qp) (M := N) (nI (6 - dd)) (nI i) o
        have hNs := hN.2 s hs
        have hTN := tb_fr hN.1 hT
        have h6 : nI 6 ≤ nI i := (n_le (by decide) (by omega)).mpr (by omega)
        have hR := rr_tr hN (rr_ref (M := N) (c := 2) (by decide) (by decide))
        have hw : ∀ s', k_rs M s' → k_iw N 15 = px_is (eg_gi M 26) 15 (g s') := fun s' hs' => by
          rw [rs_iw (hN.2 s' hs'), fr_26 hN.1]
        rw [fr_26 hN.1, fr_1 hN.1, fr_26 hR.1, fr_1 hR.1] at st
        refine st ⟨by decide, rs_wp hNs⟩ (fun _ => ⟨hd0, hd6, ⟨_, hNs⟩, hTN, rfl⟩) (fun _ _ => ⟨hd0, hd6, ⟨_, hR.2 s hs⟩, tb_fr hR.1 hT, rfl⟩) (fun z => absurd h6 z) (fun z N2 h2 => ?_) (fun z N2 h2 => ?_) (fun z => absurd h6 z.1) (fun z => absurd h6 z.1)
        · refine f46 i N2 _ (by omega) (fun s' hs' => by rw [he s' hs']; rfl) (rr_c (rr_tr hN h2) (fun s' hs' => ?_))
          rw [he s' hs', px_nt]
          dsimp only
          rw [← hw s' hs', z.2, if_neg Bool.noConfusion]
        · refine f46 i N2 _ (by omega) (fun s' hs' => by rw [he s' hs']; rfl) (rr_c (rr_tr hR h2) (fun s' hs' => ?_))
          rw [he s' hs', px_nt]
          dsimp only
          rw [← hw s' hs', bq_t z.2, if_pos rfl]
      | succ r ih =>
        intro i N g o hi hN he
        have st := st_X7_readNot_2 (dd := dd) (Qp := Qp) (M := N) (nI (6 - dd)) (nI i) o
        have hNs := hN.2 s hs
        have hTN := tb_fr hN.1 hT
        have h6 : ¬ nI 6 ≤ nI i := fun z => by
          rw [n_le (by decide) (by omega)] at z
          omega
        have hA := rr_adv hTN
        rw [fr_26 hN.1, fr_1 hN.1] at hA
        have hw : ∀ s', k_rs M s' → k_iw N 15 = px_is (eg_gi M 26) 15 (g s') := fun s' hs' => by
          rw [rs_iw (hN.2 s' hs'), fr_26 hN.1]
        rw [fr_26 hN.1, fr_1 hN.1, n_s] at st
        refine st ⟨by decide, rs_wp hNs⟩ (fun _ => ⟨hd0, hd6, ⟨_, hNs⟩, hTN, rfl⟩) (fun z => absurd z h6) (fun _ _ => by have q := rs_ad hNs; rw [fr_1 hN.1] at q; exact q) (fun z => absurd z.1 h6) (fun z => absurd z.1 h6) (fun z N2 h2 => ?_) (fun z => ?_)
        · have hnt : ∀ s', k_rs M s' → px_nt (eg_gi M 26) (eg_gi M 25 1).toNatClampNeg (r + 1) i (g s') = (i, g s') := fun s' hs' => by
            rw [px_nt, ← hw s' hs', z.2, if_neg Bool.noConfusion]
          refine f46 i N2 _ (by omega) (fun s' hs' => by rw [he s' hs', hnt s' hs']) (rr_c (rr_tr hN h2) (fun s' hs' => ?_))
          rw [he s' hs', hnt s' hs']
          dsimp only
          rw [← hw s' hs', z.2, if_neg Bool.noConfusion]
        · refine ih (i + 1) _ _ _ (by omega) (rr_tr hN hA) (fun s' hs' => ?_)
          rw [he s' hs', px_nt, ← hw s' hs', bq_t z.2, if_pos rfl]
    exact st_X7_readNot_0 _ (lp 6 0 M _ _ rfl (rr_id M) (fun _ _ => rfl))
  · exact h.elim
theorem de_X7_readNot (dd : Nat) : ∀ q ∈ (k_X7_readNot dd).1, decode cX7_readNot q.1 = .ok q.2 := by show ∀ q ∈ (k_X7_readNot 0).1, decode cX7_readNot q.1 = .ok q.2; decide +kernel
theorem me_X7_readNot_r (g : gl_T) (dd : Nat) (ih_X7_readExpr : MT g yX7_readExpr cX7_readExpr 3 none ⟨6 + 6 * dd, 0, 0, 128 + 135 * dd⟩ 0 0 (s_X7_readExpr_r dd)) : MT g yX7_readNot cX7_readNot 4 none ⟨10 + 6 * dd, 0, 0, 218 + 135 * dd⟩ 0 0 (s_X7_readNot_r dd) := by
  intro hl
  exact eg_met_of (k := k_X7_readNot dd) (by decide) rfl ⟨Nat.le_refl _, Nat.le_refl _⟩ rfl (sz_X7_readNot_r dd) (de_X7_readNot dd) (fun meth hn => (fc (eg_FL_of wd_c7 (by decide) lf_RX7_19 (fun h => absurd h (by decide))) (fn))) (fun A s H hE => (fc (⟨"not", hE.2.2.2.1 (RX7, 119, "not", 15) (List.mem_of_getElem? (i := 20) rfl)⟩) (fn))) (fun p e s m args below meth c Q A ad0 N0 S0 hK hEx hA => (fc (mt_V hl S0 hK hEx hA (me_X7_advance g) lm_RX7_64 li_X7_advance lx_X7_advance ln_RX7 lc_X7_advance ⟨rfl, by decide, by decide, by decide +kernel⟩ ⟨rfl, rfl⟩ ⟨by dsimp only; omega, by dsimp only; omega⟩ (ci := 7) rfl rfl sr_X7_advance (by decide)) (fc (mt_V hl S0 hK hEx hA (me_X7_isWord g) lm_RX7_78 li_X7_isWord lx_X7_isWord ln_RX7 lc_X7_isWord ⟨rfl, by decide, by decide, by decide +kernel⟩ ⟨rfl, rfl⟩ ⟨by dsimp only; omega, by dsimp only; omega⟩ (ci := 7) rfl rfl sr_X7_isWord (by decide)) (fc (mt_V hl S0 hK hEx hA (me_X7_refuse_v g) lm_RX7_86 li_X7_refuse lx_X7_refuse ln_RX7 lc_X7_refuse ⟨rfl, by decide, by decide, by decide +kernel⟩ ⟨rfl, rfl⟩ ⟨by dsimp only; omega, by dsimp only; omega⟩ (ci := 7) rfl rfl sr_X7_refuse_v (by decide)) (fc (mt_V hl S0 hK hEx hA (me_X7_put_v g) lm_RX7_95 li_X7_put lx_X7_put ln_RX7 lc_X7_put ⟨rfl, by decide, by decide, by decide +kernel⟩ ⟨rfl, rfl⟩ ⟨by dsimp only; omega, by dsimp only; omega⟩ (ci := 7) rfl rfl sr_X7_put_v (by decide)) (fc (mt_V hl S0 hK hEx hA (me_X7_readSum_r g dd ih_X7_readExpr) lm_RX7_121 li_X7_readSum lx_X7_readSum ln_RX7 lc_X7_readSum ⟨rfl, by decide, by decide, by decide +kernel⟩ ⟨rfl, rfl⟩ ⟨(show 9 + 6 * dd + 1 ≤ 10 + 6 * dd by omega), (show 8 + (4 + 11) + (195 + 135 * dd) ≤ 218 + 135 * dd by omega)⟩ (ci := 7) rfl rfl (sr_X7_readSum_r dd) (by decide)) (fn))))))) (fun p e s m args below meth c Qc XC A ad0 N0 P S0 hK hEx hA hlk hout hPX => (fn)) (fun argv M Qp h => T_X7_readNot_r dd h)

def s_X7_readAnd_r (dd : Nat) : eg_S := fun argv M Qp => match argv with
  | [.ref 25, .int dp] => (0 < dd ∧ dd ≤ 6 ∧ (∃ s, k_rs M s) ∧ k_tb M ∧ dp = nI (6 - dd)) ∧ ∀ (M2 : eg_M), (k_rr M M2 (px_and (eg_gi M 26) (eg_gi M 25 1).toNatClampNeg (px_E (eg_gi M 26) (eg_gi M 25 1).toNatClampNeg (dd - 1)))) → Qp (.inl none) M2
  | _ => False
theorem mo_X7_readAnd_r (dd : Nat) : eg_mono (s_X7_readAnd_r dd) := by
  intro argv M Q Q' h
  unfold s_X7_readAnd_r
  split
  · exact fun z => ⟨z.1, fun M2 y => h _ _ (z.2 M2 y)⟩
  · exact id
theorem sz_X7_readAnd_r (dd : Nat) : ∀ argv M Qp, s_X7_readAnd_r dd argv M Qp → (eg_ls0 argv).length ≤ 3 := by
  intro argv M Qp h
  unfold s_X7_readAnd_r at h
  split at h
  · exact Nat.le_of_ble_eq_true rfl
  · exact h.elim
theorem sr_X7_readAnd_r (dd : Nat) : ∀ argv M Qp, s_X7_readAnd_r dd argv M Qp → ∃ p0 As, argv = .ref p0 :: As ∧ eg_isO wd M p0 7 = true := by
  intro argv M Qp h
  unfold s_X7_readAnd_r at h
  split at h
  · exact ⟨_, _, rfl, rfl⟩
  · exact h.elim
theorem sF_X7_readAnd_r : ∀ argv M Qp, s_X7_readAnd_r 0 argv M Qp → False := by
  intro argv M Qp h
  unfold s_X7_readAnd_r at h
  split at h
  · exact absurd h.1.1 (Nat.lt_irrefl 0)
  · exact h

def k_X7_readAnd (dd : Nat) : eg_C := ([(0, .aload_n 0, 1), (1, .iload_n 1, 1), (2, .invokevirtual 114, 3), (5, .iconst 0, 1), (6, .istore_n 2, 1), (7, .iload_n 2, 1), (8, .sipush 400, 3), (11, .if_icmp .ge 33, 3), (14, .aload_n 0, 1), (15, .ldc 117, 2), (17, .invokevirtual 78, 3), (20, .ifCond .eq 24, 3), (23, .aload_n 0, 1), (24, .invokevirtual 64, 3), (27, .aload_n 0, 1), (28, .iload_n 1, 1), (29, .invokevirtual 114, 3), (32, .aload_n 0, 1), (33, .bipush (-2), 2), (35, .invokevirtual 95, 3), (38, .iinc 2 1, 3), (41, .goto (-34), 3), (44, .return_, 1)], [], [(117, .retAddr 1)], [(64, 0 + 1, 0, 0, s_X7_advance), (78, 1 + 1, 0, 0, s_X7_isWord), (95, 1 + 1, 0, 0, s_X7_put_v), (114, 1 + 1, 0, 0, s_X7_readNot_r dd)], [], 0, 0, 0)
theorem mk_X7_readAnd (dd : Nat) : ∀ q ∈ (k_X7_readAnd dd).2.2.2.1, eg_mono q.2.2.2.2 := (fc (mo_X7_advance) (fc (mo_X7_isWord) (fc (mo_X7_put_v) (fc (mo_X7_readNot_r dd) (fn)))))

set_option maxRecDepth 100000 in
theorem st_X7_readAnd_0 {dd : Nat} {Qp : eg_P} {M : eg_M} (dp : Int32)
  (g0 : (0 < dd ∧ dd ≤ 6 ∧ (∃ s, k_rs M s) ∧ k_tb M ∧ dp = nI (6 - dd)))
  (l0 : ∀ (M2_1 : eg_M), (k_rr M M2_1 (px_not (eg_gi M 26) (eg_gi M 25 1).toNatClampNeg (px_E (eg_gi M 26) (eg_gi M 25 1).toNatClampNeg (dd - 1)))) → eg_T wd (k_X7_readAnd dd) Qp 5 0 0 [some (.ref 25), some (.int dp), none] [] M2_1) :
  eg_T wd (k_X7_readAnd dd) Qp 0 0 0 [some (.ref 25), some (.int dp), none] [] M := by
  refine eg_T_run (mk_X7_readAnd dd) (cut := [5, 7, 32]) 26 ?_
  refine And.intro (show (0 < dd ∧ dd ≤ 6 ∧ (∃ s, k_rs M s) ∧ k_tb M ∧ dp = nI (6 - dd)) from ?_) ?_
  · exact g0
  intro M2_1 ha_1
  show eg_T wd (k_X7_readAnd dd) Qp 5 0 0 [some (.ref 25), some (.int dp), none] [] M2_1
  exact l0 M2_1 ha_1

set_option maxRecDepth 100000 in
theorem st_X7_readAnd_5 {dd : Nat} {Qp : eg_P} {M : eg_M} (dp : Int32) (o2 : Option Value)
  (l0 : eg_T wd (k_X7_readAnd dd) Qp 7 0 0 [some (.ref 25), some (.int dp), some (.int (nI 0))] [] M) :
  eg_T wd (k_X7_readAnd dd) Qp 5 0 0 [some (.ref 25), some (.int dp), o2] [] M := by
  refine eg_T_run (mk_X7_readAnd dd) (cut := [5, 7, 32]) 26 ?_
  show eg_T wd (k_X7_readAnd dd) Qp 7 0 0 [some (.ref 25), some (.int dp), some (.int (nI 0))] [] M
  exact l0

set_option maxRecDepth 100000 in
theorem st_X7_readAnd_7 {dd : Nat} {Qp : eg_P} {M : eg_M} (dp : Int32) (x2 : Int32)
  (g0 : (¬ ((nI 400) ≤ x2)) → (1 < 32 ∧ (eg_gi M 25 2 = -nI 2 → ∃ b e, b ≤ e ∧ e ≤ 400 ∧ eg_gi M 25 3 = nI b ∧ eg_gi M 25 4 = nI e)))
  (g1 : (¬ ((nI 400) ≤ x2)) → (¬ ((k_iw M 1) = false)) → (eg_gi M 25 5 = 0 → ∃ p n, p ≤ n ∧ n ≤ 400 ∧ eg_gi M 25 4 = nI p ∧ eg_gi M 25 1 = nI n))
  (g2 : (¬ ((nI 400) ≤ x2)) → (¬ ((k_iw M 1) = false)) → (0 < dd ∧ dd ≤ 6 ∧ (∃ s, k_rs (k_ad M) s) ∧ k_tb (k_ad M) ∧ dp = nI (6 - dd)))
  (l0 : ((nI 400) ≤ x2 ∨ (k_iw M 1) = false) → Qp (.inl none) M)
  (l1 : (¬ (nI 400) ≤ x2 ∧ ¬ (k_iw M 1) = false) → ∀ (M2_1 : eg_M), (k_rr (k_ad M) M2_1 (px_not (eg_gi (k_ad M) 26) (eg_gi (k_ad M) 25 1).toNatClampNeg (px_E (eg_gi (k_ad M) 26) (eg_gi (k_ad M) 25 1).toNatClampNeg (dd - 1)))) → eg_T wd (k_X7_readAnd dd) Qp 32 0 0 [some (.ref 25), some (.int dp), some (.int x2)] [] M2_1) :
  eg_T wd (k_X7_readAnd dd) Qp 7 0 0 [some (.ref 25), some (.int dp), some (.int x2)] [] M := by
  refine eg_T_run (mk_X7_readAnd dd) (cut := [5, 7, 32]) 26 ?_
  refine And.intro (fun (c1 : (nI 400) ≤ x2) => ?_) (fun (c1 : ¬ (nI 400) ≤ x2) => ?_)
  · skip
    show Qp (.inl none) M
    exact l0 (Or.inl c1)
  · skip
    refine And.intro (show (1 < 32 ∧ (eg_gi M 25 2 = -nI 2 → ∃ b e, b ≤ e ∧ e ≤ 400 ∧ eg_gi M 25 3 = nI b ∧ eg_gi M 25 4 = nI e)) from ?_) ?_
    · exact g0 c1
    refine And.intro (fun (c2 : (b2i (k_iw M 1)) = 0) => ?_) (fun (c2 : ¬ (b2i (k_iw M 1)) = 0) => ?_)
    · replace c2 := b2i_0.mp c2
      show Qp (.inl none) M
      exact l0 (Or.inr c2)
    · replace c2 := b2i_ff c2
      refine And.intro (show (eg_gi M 25 5 = 0 → ∃ p n, p ≤ n ∧ n ≤ 400 ∧ eg_gi M 25 4 = nI p ∧ eg_gi M 25 1 = nI n) from ?_) ?_
      · exact g1 c1 c2
      refine And.intro (show (0 < dd ∧ dd ≤ 6 ∧ (∃ s, k_rs (k_ad M) s) ∧ k_tb (k_ad M) ∧ dp = nI (6 - dd)) from ?_) ?_
      · exact g2 c1 c2
      intro M2_1 ha_1
      show eg_T wd (k_X7_readAnd dd) Qp 32 0 0 [some (.ref 25), some (.int dp), some (.int x2)] [] M2_1
      exact l1 ⟨c1, c2⟩ M2_1 ha_1

set_option maxRecDepth 100000 in
theorem st_X7_readAnd_32 {dd : Nat} {Qp : eg_P} {M : eg_M} (dp : Int32) (x2 : Int32)
  (g0 : (eg_cn (eg_gi M 25 8) 400))
  (l0 : eg_T wd (k_X7_readAnd dd) Qp 7 0 0 [some (.ref 25), some (.int dp), some (.int (x2 + (nI 1)))] [] (k_pu M (-nI 2))) :
  eg_T wd (k_X7_readAnd dd) Qp 32 0 0 [some (.ref 25), some (.int dp), some (.int x2)] [] M := by
  refine eg_T_run (mk_X7_readAnd dd) (cut := [5, 7, 32]) 26 ?_
  refine And.intro (show (eg_cn (eg_gi M 25 8) 400) from ?_) ?_
  · exact g0
  show eg_T wd (k_X7_readAnd dd) Qp 7 0 0 [some (.ref 25), some (.int dp), some (.int (x2 + (nI 1)))] [] (k_pu M (-nI 2))
  exact l0

set_option maxRecDepth 100000 in
set_option maxHeartbeats 1000000 in
theorem T_X7_readAnd_r (dd : Nat) {argv : List Value} {M : eg_M} {Qp : eg_P} (h : s_X7_readAnd_r dd argv M Qp) : eg_T wd (k_X7_readAnd dd) Qp 0 0 0 (eg_lsN 3 argv) [] M := by
  unfold s_X7_readAnd_r at h
  split at h
  · rename_i dp
    obtain ⟨hp, hq⟩ := h
    obtain ⟨hd0, hd6, ⟨s, hs⟩, hT, rfl⟩ := hp
    have lp : ∀ r i (N : eg_M) (g : px_S → px_S), i + r = 400 → k_rr M N g → (∀ s, k_rs M s → px_and (eg_gi M 26) (eg_gi M 25 1).toNatClampNeg (px_E (eg_gi M 26) (eg_gi M 25 1).toNatClampNeg (dd - 1)) s = px_lp (eg_gi M 26) (eg_gi M 25 1).toNatClampNeg (px_qw (eg_gi M 26) 1 (-nI 2)) (px_not (eg_gi M 26) (eg_gi M 25 1).toNatClampNeg (px_E (eg_gi M 26) (eg_gi M 25 1).toNatClampNeg (dd - 1))) r (g s)) → eg_T wd (k_X7_readAnd dd) Qp 7 0 0 [some (.ref 25), some (.int (nI (6 - dd))), some (.int (nI i))] [] N := by
      intro r
      induction r with
      | zero =>
        intro i N g hi hN he
        have st := st_X7_readAnd_7 (dd := dd) (Qp := Qp) (M := N) (nI (6 - dd)) (nI i)
        have : nI 400 ≤ nI i := (n_le (by decide) (by omega)).mpr (by omega)
        refine st (fun z => absurd this z) (fun z => absurd this z) (fun z => absurd this z) (fun _ => ?_) (fun z => absurd this z.1)
        exact hq N (rr_c hN (fun s hs => (he s hs).symm))
      | succ r ih =>
        intro i N g hi hN he
        have st := st_X7_readAnd_7 (dd := dd) (Qp := Qp) (M := N) (nI (6 - dd)) (nI i)
        have h4 : ¬ nI 400 ≤ nI i := fun z => by
          rw [n_le (by decide) (by omega)] at z
          omega
        have hNs := hN.2 s hs
        have hTN := tb_fr hN.1 hT
        have hA := rr_adv hTN
        have e26 := fr_26 (fr_tr hN.1 (fr_ad N))
        have e1 := fr_1 (fr_tr hN.1 (fr_ad N))
        rw [fr_26 hN.1, fr_1 hN.1] at hA
        rw [e26, e1] at st
        have pc : 0 < dd ∧ dd ≤ 6 ∧ (∃ s, k_rs (k_ad N) s) ∧ k_tb (k_ad N) ∧ nI (6 - dd) = nI (6 - dd) := ⟨hd0, hd6, ⟨_, hA.2 _ hNs⟩, tb_fr (fr_ad N) hTN, rfl⟩
        have hw : ∀ s', k_rs M s' → k_iw N 1 = px_is (eg_gi M 26) 1 (g s') := fun s' hs' => by
          rw [rs_iw (hN.2 s' hs'), fr_26 hN.1]
        refine st (fun _ => ⟨by decide, rs_wp hNs⟩) (fun _ _ => rs_ad hNs) (fun _ _ => pc) (fun z => ?_) (fun z N2 h2 => ?_)
        · refine hq N (rr_c hN (fun s' hs' => ?_))
          rcases z with z | z
          · exact absurd z h4
          · rw [he s' hs', px_lp, show px_qw (eg_gi M 26) 1 (-nI 2) (g s') = none by
              unfold px_qw
              rw [← hw s' hs', z, if_neg Bool.noConfusion]]
        · have hB := rr_tr (rr_tr (rr_tr hN hA) h2) (rr_put (M := N2) (x := -nI 2))
          refine st_X7_readAnd_32 _ _ (rs_8 (h2.2 _ (hA.2 _ hNs))) ?_
          rw [n_s]
          refine ih (i + 1) _ _ (by omega) hB (fun s' hs' => ?_)
          rw [he s' hs', px_lp, show px_qw (eg_gi M 26) 1 (-nI 2) (g s') = some (-nI 2) by
            unfold px_qw
            rw [← hw s' hs', bq_t z.2, if_pos rfl]]
    refine st_X7_readAnd_0 _ ⟨hd0, hd6, ⟨s, hs⟩, hT, rfl⟩ (fun N h => ?_)
    exact st_X7_readAnd_5 _ _ (lp 400 0 N _ rfl h (fun _ _ => rfl))
  · exact h.elim
theorem de_X7_readAnd (dd : Nat) : ∀ q ∈ (k_X7_readAnd dd).1, decode cX7_readAnd q.1 = .ok q.2 := by show ∀ q ∈ (k_X7_readAnd 0).1, decode cX7_readAnd q.1 = .ok q.2; decide +kernel
theorem me_X7_readAnd_r (g : gl_T) (dd : Nat) (ih_X7_readExpr : MT g yX7_readExpr cX7_readExpr 3 none ⟨6 + 6 * dd, 0, 0, 128 + 135 * dd⟩ 0 0 (s_X7_readExpr_r dd)) : MT g yX7_readAnd cX7_readAnd 3 none ⟨11 + 6 * dd, 0, 0, 241 + 135 * dd⟩ 0 0 (s_X7_readAnd_r dd) := by
  intro hl
  exact eg_met_of (k := k_X7_readAnd dd) (by decide) rfl ⟨Nat.le_refl _, Nat.le_refl _⟩ rfl (sz_X7_readAnd_r dd) (de_X7_readAnd dd) (fun meth hn => (fn)) (fun A s H hE => (fc (⟨"and", hE.2.2.2.1 (RX7, 117, "and", 1) (List.mem_of_getElem? (i := 19) rfl)⟩) (fn))) (fun p e s m args below meth c Q A ad0 N0 S0 hK hEx hA => (fc (mt_V hl S0 hK hEx hA (me_X7_advance g) lm_RX7_64 li_X7_advance lx_X7_advance ln_RX7 lc_X7_advance ⟨rfl, by decide, by decide, by decide +kernel⟩ ⟨rfl, rfl⟩ ⟨by dsimp only; omega, by dsimp only; omega⟩ (ci := 7) rfl rfl sr_X7_advance (by decide)) (fc (mt_V hl S0 hK hEx hA (me_X7_isWord g) lm_RX7_78 li_X7_isWord lx_X7_isWord ln_RX7 lc_X7_isWord ⟨rfl, by decide, by decide, by decide +kernel⟩ ⟨rfl, rfl⟩ ⟨by dsimp only; omega, by dsimp only; omega⟩ (ci := 7) rfl rfl sr_X7_isWord (by decide)) (fc (mt_V hl S0 hK hEx hA (me_X7_put_v g) lm_RX7_95 li_X7_put lx_X7_put ln_RX7 lc_X7_put ⟨rfl, by decide, by decide, by decide +kernel⟩ ⟨rfl, rfl⟩ ⟨by dsimp only; omega, by dsimp only; omega⟩ (ci := 7) rfl rfl sr_X7_put_v (by decide)) (fc (mt_V hl S0 hK hEx hA (me_X7_readNot_r g dd ih_X7_readExpr) lm_RX7_114 li_X7_readNot lx_X7_readNot ln_RX7 lc_X7_readNot ⟨rfl, by decide, by decide, by decide +kernel⟩ ⟨rfl, rfl⟩ ⟨(show 10 + 6 * dd + 1 ≤ 11 + 6 * dd by omega), (show 8 + (4 + 11) + (218 + 135 * dd) ≤ 241 + 135 * dd by omega)⟩ (ci := 7) rfl rfl (sr_X7_readNot_r dd) (by decide)) (fn)))))) (fun p e s m args below meth c Qc XC A ad0 N0 P S0 hK hEx hA hlk hout hPX => (fn)) (fun argv M Qp h => T_X7_readAnd_r dd h)

def k_X7_readExpr (dd : Nat) : eg_C := ([(0, .iload_n 1, 1), (1, .bipush 6, 2), (3, .if_icmp .lt 40, 3), (6, .aload_n 0, 1), (7, .aload_n 0, 1), (8, .getfield 19, 3), (11, .bipush (-3), 2), (13, .if_icmp .eq 21, 3), (16, .aload_n 0, 1), (17, .getfield 19, 3), (20, .bipush (-2), 2), (22, .if_icmp .eq 12, 3), (25, .aload_n 0, 1), (26, .getfield 19, 3), (29, .bipush 40, 2), (31, .if_icmp .ne 7, 3), (34, .iconst 2, 1), (35, .goto 4, 3), (38, .iconst 1, 1), (39, .invokevirtual 86, 3), (42, .return_, 1), (43, .aload_n 0, 1), (44, .iload_n 1, 1), (45, .invokevirtual 109, 3), (48, .iconst 0, 1), (49, .istore_n 2, 1), (50, .iload_n 2, 1), (51, .sipush 400, 3), (54, .if_icmp .ge 32, 3), (57, .aload_n 0, 1), (58, .ldc 112, 2), (60, .invokevirtual 78, 3), (63, .ifCond .eq 23, 3), (66, .aload_n 0, 1), (67, .invokevirtual 64, 3), (70, .aload_n 0, 1), (71, .iload_n 1, 1), (72, .invokevirtual 109, 3), (75, .aload_n 0, 1), (76, .iconst (-1), 1), (77, .invokevirtual 95, 3), (80, .iinc 2 1, 3), (83, .goto (-33), 3), (86, .return_, 1)], [(19, 7, 2, false)], [(112, .retAddr 20)], [(64, 0 + 1, 0, 0, s_X7_advance), (78, 1 + 1, 0, 0, s_X7_isWord), (86, 1 + 1, 0, 0, s_X7_refuse_v), (95, 1 + 1, 0, 0, s_X7_put_v), (109, 1 + 1, 0, 0, s_X7_readAnd_r dd)], [], 0, 0, 0)
theorem mk_X7_readExpr (dd : Nat) : ∀ q ∈ (k_X7_readExpr dd).2.2.2.1, eg_mono q.2.2.2.2 := (fc (mo_X7_advance) (fc (mo_X7_isWord) (fc (mo_X7_refuse_v) (fc (mo_X7_put_v) (fc (mo_X7_readAnd_r dd) (fn))))))

set_option maxRecDepth 100000 in
theorem st_X7_readExpr_0 {dd : Nat} {Qp : eg_P} {M : eg_M} (dp : Int32)
  (g0 : (dp < (nI 6)) → (0 < dd ∧ dd ≤ 6 ∧ (∃ s, k_rs M s) ∧ k_tb M ∧ dp = nI (6 - dd)))
  (l0 : (dp < (nI 6)) → ∀ (M2_1 : eg_M), (k_rr M M2_1 (px_and (eg_gi M 26) (eg_gi M 25 1).toNatClampNeg (px_E (eg_gi M 26) (eg_gi M 25 1).toNatClampNeg (dd - 1)))) → eg_T wd (k_X7_readExpr dd) Qp 48 0 0 [some (.ref 25), some (.int dp), none] [] M2_1)
  (l1 : (¬ dp < (nI 6) ∧ ((eg_gi M 25 2) = (-nI 3) ∨ ((eg_gi M 25 2) = (-nI 2) ∨ (eg_gi M 25 2) = (nI 40)))) → Qp (.inl none) (k_rf1 M (nI 2)))
  (l2 : (¬ dp < (nI 6) ∧ (¬ (eg_gi M 25 2) = (-nI 3) ∧ (¬ (eg_gi M 25 2) = (-nI 2) ∧ ¬ (eg_gi M 25 2) = (nI 40)))) → Qp (.inl none) (k_rf1 M (nI 1))) :
  eg_T wd (k_X7_readExpr dd) Qp 0 0 0 [some (.ref 25), some (.int dp), none] [] M := by
  refine eg_T_run (mk_X7_readExpr dd) (cut := [48, 50, 75]) 47 ?_
  refine And.intro (fun (c1 : dp < (nI 6)) => ?_) (fun (c1 : ¬ dp < (nI 6)) => ?_)
  · skip
    refine And.intro (show (0 < dd ∧ dd ≤ 6 ∧ (∃ s, k_rs M s) ∧ k_tb M ∧ dp = nI (6 - dd)) from ?_) ?_
    · exact g0 c1
    intro M2_1 ha_1
    show eg_T wd (k_X7_readExpr dd) Qp 48 0 0 [some (.ref 25), some (.int dp), none] [] M2_1
    exact l0 c1 M2_1 ha_1
  · skip
    refine And.intro (fun (c2 : (eg_gi M 25 2) = (-nI 3)) => ?_) (fun (c2 : ¬ (eg_gi M 25 2) = (-nI 3)) => ?_)
    · skip
      refine And.intro (show (True) from ?_) ?_
      · exact trivial
      show Qp (.inl none) (k_rf1 M (nI 2))
      exact l1 ⟨c1, (Or.inl c2)⟩
    · skip
      refine And.intro (fun (c3 : (eg_gi M 25 2) = (-nI 2)) => ?_) (fun (c3 : ¬ (eg_gi M 25 2) = (-nI 2)) => ?_)
      · skip
        refine And.intro (show (True) from ?_) ?_
        · exact trivial
        show Qp (.inl none) (k_rf1 M (nI 2))
        exact l1 ⟨c1, (Or.inr (Or.inl c3))⟩
      · skip
        refine And.intro (fun (c4 : (eg_gi M 25 2) = (nI 40)) => ?_) (fun (c4 : ¬ (eg_gi M 25 2) = (nI 40)) => ?_)
        · skip
          refine And.intro (show (True) from ?_) ?_
          · exact trivial
          show Qp (.inl none) (k_rf1 M (nI 2))
          exact l1 ⟨c1, (Or.inr (Or.inr c4))⟩
        · skip
          refine And.intro (show (True) from ?_) ?_
          · exact trivial
          show Qp (.inl none) (k_rf1 M (nI 1))
          exact l2 ⟨c1, ⟨c2, ⟨c3, c4⟩⟩⟩

set_option maxRecDepth 100000 in
theorem st_X7_readExpr_48 {dd : Nat} {Qp : eg_P} {M : eg_M} (dp : Int32) (o2 : Option Value)
  (l0 : eg_T wd (k_X7_readExpr dd) Qp 50 0 0 [some (.ref 25), some (.int dp), some (.int (nI 0))] [] M) :
  eg_T wd (k_X7_readExpr dd) Qp 48 0 0 [some (.ref 25), some (.int dp), o2] [] M := by
  refine eg_T_run (mk_X7_readExpr dd) (cut := [48, 50, 75]) 47 ?_
  show eg_T wd (k_X7_readExpr dd) Qp 50 0 0 [some (.ref 25), some (.int dp), some (.int (nI 0))] [] M
  exact l0

set_option maxRecDepth 100000 in
theorem st_X7_readExpr_50 {dd : Nat} {Qp : eg_P} {M : eg_M} (dp : Int32) (x2 : Int32)
  (g0 : (¬ ((nI 400) ≤ x2)) → (20 < 32 ∧ (eg_gi M 25 2 = -nI 2 → ∃ b e, b ≤ e ∧ e ≤ 400 ∧ eg_gi M 25 3 = nI b ∧ eg_gi M 25 4 = nI e)))
  (g1 : (¬ ((nI 400) ≤ x2)) → (¬ ((k_iw M 20) = false)) → (eg_gi M 25 5 = 0 → ∃ p n, p ≤ n ∧ n ≤ 400 ∧ eg_gi M 25 4 = nI p ∧ eg_gi M 25 1 = nI n))
  (g2 : (¬ ((nI 400) ≤ x2)) → (¬ ((k_iw M 20) = false)) → (0 < dd ∧ dd ≤ 6 ∧ (∃ s, k_rs (k_ad M) s) ∧ k_tb (k_ad M) ∧ dp = nI (6 - dd)))
  (l0 : ((nI 400) ≤ x2 ∨ (k_iw M 20) = false) → Qp (.inl none) M)
  (l1 : (¬ (nI 400) ≤ x2 ∧ ¬ (k_iw M 20) = false) → ∀ (M2_1 : eg_M), (k_rr (k_ad M) M2_1 (px_and (eg_gi (k_ad M) 26) (eg_gi (k_ad M) 25 1).toNatClampNeg (px_E (eg_gi (k_ad M) 26) (eg_gi (k_ad M) 25 1).toNatClampNeg (dd - 1)))) → eg_T wd (k_X7_readExpr dd) Qp 75 0 0 [some (.ref 25), some (.int dp), some (.int x2)] [] M2_1) :
  eg_T wd (k_X7_readExpr dd) Qp 50 0 0 [some (.ref 25), some (.int dp), some (.int x2)] [] M := by
  refine eg_T_run (mk_X7_readExpr dd) (cut := [48, 50, 75]) 47 ?_
  refine And.intro (fun (c1 : (nI 400) ≤ x2) => ?_) (fun (c1 : ¬ (nI 400) ≤ x2) => ?_)
  · skip
    show Qp (.inl none) M
    exact l0 (Or.inl c1)
  · skip
    refine And.intro (show (20 < 32 ∧ (eg_gi M 25 2 = -nI 2 → ∃ b e, b ≤ e ∧ e ≤ 400 ∧ eg_gi M 25 3 = nI b ∧ eg_gi M 25 4 = nI e)) from ?_) ?_
    · exact g0 c1
    refine And.intro (fun (c2 : (b2i (k_iw M 20)) = 0) => ?_) (fun (c2 : ¬ (b2i (k_iw M 20)) = 0) => ?_)
    · replace c2 := b2i_0.mp c2
      show Qp (.inl none) M
      exact l0 (Or.inr c2)
    · replace c2 := b2i_ff c2
      refine And.intro (show (eg_gi M 25 5 = 0 → ∃ p n, p ≤ n ∧ n ≤ 400 ∧ eg_gi M 25 4 = nI p ∧ eg_gi M 25 1 = nI n) from ?_) ?_
      · exact g1 c1 c2
      refine And.intro (show (0 < dd ∧ dd ≤ 6 ∧ (∃ s, k_rs (k_ad M) s) ∧ k_tb (k_ad M) ∧ dp = nI (6 - dd)) from ?_) ?_
      · exact g2 c1 c2
      intro M2_1 ha_1
      show eg_T wd (k_X7_readExpr dd) Qp 75 0 0 [some (.ref 25), some (.int dp), some (.int x2)] [] M2_1
      exact l1 ⟨c1, c2⟩ M2_1 ha_1

set_option maxRecDepth 100000 in
theorem st_X7_readExpr_75 {dd : Nat} {Qp : eg_P} {M : eg_M} (dp : Int32) (x2 : Int32)
  (g0 : (eg_cn (eg_gi M 25 8) 400))
  (l0 : eg_T wd (k_X7_readExpr dd) Qp 50 0 0 [some (.ref 25), some (.int dp), some (.int (x2 + (nI 1)))] [] (k_pu M (-nI 1))) :
  eg_T wd (k_X7_readExpr dd) Qp 75 0 0 [some (.ref 25), some (.int dp), some (.int x2)] [] M := by
  refine eg_T_run (mk_X7_readExpr dd) (cut := [48, 50, 75]) 47 ?_
  refine And.intro (show (eg_cn (eg_gi M 25 8) 400) from ?_) ?_
  · exact g0
  show eg_T wd (k_X7_readExpr dd) Qp 50 0 0 [some (.ref 25), some (.int dp), some (.int (x2 + (nI 1)))] [] (k_pu M (-nI 1))
  exact l0

set_option maxRecDepth 100000 in
set_option maxHeartbeats 1000000 in
theorem T_X7_readExpr_r (dd : Nat) {argv : List Value} {M : eg_M} {Qp : eg_P} (h : s_X7_readExpr_r (dd + 1) argv M Qp) : eg_T wd (k_X7_readExpr dd) Qp 0 0 0 (eg_lsN 3 argv) [] M := by
  unfold s_X7_readExpr_r at h
  split at h
  · rename_i dp
    obtain ⟨hp, hq⟩ := h
    obtain ⟨_, hd7, ⟨s, hs⟩, hT, rfl⟩ := hp
    rw [show 7 - (dd + 1) = 6 - dd by omega] at *
    rw [Nat.add_sub_cancel] at hq
    by_cases hd0 : dd = 0
    · subst hd0
      refine st_X7_readExpr_0 _ (fun z => absurd z (by decide)) (fun z => absurd z (by decide)) (fun z => hq _ (rr_c (rr_ref (c := 2) (by decide) (by decide)) (fun s' hs' => ?_))) (fun z => hq _ (rr_c (rr_ref (c := 1) (by decide) (by decide)) (fun s' hs' => ?_)))
      · have hk := rs_k hs'
        show _ = px_ref (if px_k s' = -nI 3 ∨ px_k s' = -nI 2 ∨ px_k s' = nI 40 then 2 else 1) s'
        rw [if_pos (by rw [← hk]; exact z.2)]
      · have hk := rs_k hs'
        show _ = px_ref (if px_k s' = -nI 3 ∨ px_k s' = -nI 2 ∨ px_k s' = nI 40 then 2 else 1) s'
        rw [if_neg (by
          rw [← hk]
          rintro (y | y | y)
          · exact z.2.1 y
          · exact z.2.2.1 y
          · exact z.2.2.2 y)]
    have hd0 : 0 < dd := Nat.pos_of_ne_zero hd0
    have hd6 : dd ≤ 6 := by omega
    have hlt : nI (6 - dd) < nI 6 := (n_lt (by omega) (by decide)).mpr (by omega)
    rw [show px_E (eg_gi M 26) (eg_gi M 25 1).toNatClampNeg dd = px_or (eg_gi M 26) (eg_gi M 25 1).toNatClampNeg (px_E (eg_gi M 26) (eg_gi M 25 1).toNatClampNeg (dd - 1)) by
      obtain ⟨k, rfl⟩ := Nat.exists_eq_add_of_le hd0
      rw [Nat.add_comm]
      rfl] at hq
    have lp : ∀ r i (N : eg_M) (g : px_S → px_S), i + r = 400 → k_rr M N g → (∀ s, k_rs M s → px_or (eg_gi M 26) (eg_gi M 25 1).toNatClampNeg (px_E (eg_gi M 26) (eg_gi M 25 1).toNatClampNeg (dd - 1)) s = px_lp (eg_gi M 26) (eg_gi M 25 1).toNatClampNeg (px_qw (eg_gi M 26) 20 (-nI 1)) (px_and (eg_gi M 26) (eg_gi M 25 1).toNatClampNeg (px_E (eg_gi M 26) (eg_gi M 25 1).toNatClampNeg (dd - 1))) r (g s)) → eg_T wd (k_X7_readExpr dd) Qp 50 0 0 [some (.ref 25), some (.int (nI (6 - dd))), some (.int (nI i))] [] N := by
      intro r
      induction r with
      | zero =>
        intro i N g hi hN he
        have st := st_X7_readExpr_50 (dd := dd) (Qp := Qp) (M := N) (nI (6 - dd)) (nI i)
        have : nI 400 ≤ nI i := (n_le (by decide) (by omega)).mpr (by omega)
        refine st (fun z => absurd this z) (fun z => absurd this z) (fun z => absurd this z) (fun _ => ?_) (fun z => absurd this z.1)
        exact hq N (rr_c hN (fun s hs => (he s hs).symm))
      | succ r ih =>
        intro i N g hi hN he
        have st := st_X7_readExpr_50 (dd := dd) (Qp := Qp) (M := N) (nI (6 - dd)) (nI i)
        have h4 : ¬ nI 400 ≤ nI i := fun z => by
          rw [n_le (by decide) (by omega)] at z
          omega
        have hNs := hN.2 s hs
        have hTN := tb_fr hN.1 hT
        have hA := rr_adv hTN
        have e26 := fr_26 (fr_tr hN.1 (fr_ad N))
        have e1 := fr_1 (fr_tr hN.1 (fr_ad N))
        rw [fr_26 hN.1, fr_1 hN.1] at hA
        rw [e26, e1] at st
        have pc : 0 < dd ∧ dd ≤ 6 ∧ (∃ s, k_rs (k_ad N) s) ∧ k_tb (k_ad N) ∧ nI (6 - dd) = nI (6 - dd) := ⟨hd0, hd6, ⟨_, hA.2 _ hNs⟩, tb_fr (fr_ad N) hTN, rfl⟩
        have hw : ∀ s', k_rs M s' → k_iw N 20 = px_is (eg_gi M 26) 20 (g s') := fun s' hs' => by
          rw [rs_iw (hN.2 s' hs'), fr_26 hN.1]
        refine st (fun _ => ⟨by decide, rs_wp hNs⟩) (fun _ _ => rs_ad hNs) (fun _ _ => pc) (fun z => ?_) (fun z N2 h2 => ?_)
        · refine hq N (rr_c hN (fun s' hs' => ?_))
          rcases z with z | z
          · exact absurd z h4
          · rw [he s' hs', px_lp, show px_qw (eg_gi M 26) 20 (-nI 1) (g s') = none by
              unfold px_qw
              rw [← hw s' hs', z, if_neg Bool.noConfusion]]
        · have hB := rr_tr (rr_tr (rr_tr hN hA) h2) (rr_put (M := N2) (x := -nI 1))
          refine st_X7_readExpr_75 _ _ (rs_8 (h2.2 _ (hA.2 _ hNs))) ?_
          rw [n_s]
          refine ih (i + 1) _ _ (by omega) hB (fun s' hs' => ?_)
          rw [he s' hs', px_lp, show px_qw (eg_gi M 26) 20 (-nI 1) (g s') = some (-nI 1) by
            unfold px_qw
            rw [← hw s' hs', bq_t z.2, if_pos rfl]]
    refine st_X7_readExpr_0 _ (fun _ => ⟨hd0, hd6, ⟨s, hs⟩, hT, rfl⟩) (fun _ N h => ?_) (fun z => absurd hlt z.1) (fun z => absurd hlt z.1)
    exact st_X7_readExpr_48 _ _ (lp 400 0 N _ rfl h (fun _ _ => rfl))
    
  · exact h.elim
theorem de_X7_readExpr (dd : Nat) : ∀ q ∈ (k_X7_readExpr dd).1, decode cX7_readExpr q.1 = .ok q.2 := by show ∀ q ∈ (k_X7_readExpr 0).1, decode cX7_readExpr q.1 = .ok q.2; decide +kernel
theorem me_X7_readExpr_r (g : gl_T) : ∀ dd : Nat, MT g yX7_readExpr cX7_readExpr 3 none ⟨6 + 6 * dd, 0, 0, 128 + 135 * dd⟩ 0 0 (s_X7_readExpr_r dd)
  | 0 => fun _ _ argv M Qp _ hS => (sF_X7_readExpr_r argv M Qp hS).elim
  | dd + 1 => by
    have ih_X7_readExpr := me_X7_readExpr_r g dd
    intro hl
    exact eg_met_of (k := k_X7_readExpr dd) (by decide) rfl ⟨Nat.le_refl _, Nat.le_refl _⟩ rfl (sz_X7_readExpr_r (dd + 1)) (de_X7_readExpr dd) (fun meth hn => (fc (eg_FL_of wd_c7 (by decide) lf_RX7_19 (fun h => absurd h (by decide))) (fn))) (fun A s H hE => (fc (⟨"or", hE.2.2.2.1 (RX7, 112, "or", 20) (List.mem_of_getElem? (i := 18) rfl)⟩) (fn))) (fun p e s m args below meth c Q A ad0 N0 S0 hK hEx hA => (fc (mt_V hl S0 hK hEx hA (me_X7_advance g) lm_RX7_64 li_X7_advance lx_X7_advance ln_RX7 lc_X7_advance ⟨rfl, by decide, by decide, by decide +kernel⟩ ⟨rfl, rfl⟩ ⟨by dsimp only; omega, by dsimp only; omega⟩ (ci := 7) rfl rfl sr_X7_advance (by decide)) (fc (mt_V hl S0 hK hEx hA (me_X7_isWord g) lm_RX7_78 li_X7_isWord lx_X7_isWord ln_RX7 lc_X7_isWord ⟨rfl, by decide, by decide, by decide +kernel⟩ ⟨rfl, rfl⟩ ⟨by dsimp only; omega, by dsimp only; omega⟩ (ci := 7) rfl rfl sr_X7_isWord (by decide)) (fc (mt_V hl S0 hK hEx hA (me_X7_refuse_v g) lm_RX7_86 li_X7_refuse lx_X7_refuse ln_RX7 lc_X7_refuse ⟨rfl, by decide, by decide, by decide +kernel⟩ ⟨rfl, rfl⟩ ⟨by dsimp only; omega, by dsimp only; omega⟩ (ci := 7) rfl rfl sr_X7_refuse_v (by decide)) (fc (mt_V hl S0 hK hEx hA (me_X7_put_v g) lm_RX7_95 li_X7_put lx_X7_put ln_RX7 lc_X7_put ⟨rfl, by decide, by decide, by decide +kernel⟩ ⟨rfl, rfl⟩ ⟨by dsimp only; omega, by dsimp only; omega⟩ (ci := 7) rfl rfl sr_X7_put_v (by decide)) (fc (mt_V hl S0 hK hEx hA (me_X7_readAnd_r g dd ih_X7_readExpr) lm_RX7_109 li_X7_readAnd lx_X7_readAnd ln_RX7 lc_X7_readAnd ⟨rfl, by decide, by decide, by decide +kernel⟩ ⟨rfl, rfl⟩ ⟨(show 11 + 6 * dd + 1 ≤ 6 + 6 * (dd + 1) by omega), (show 8 + (3 + 11) + (241 + 135 * dd) ≤ 128 + 135 * (dd + 1) by omega)⟩ (ci := 7) rfl rfl (sr_X7_readAnd_r dd) (by decide)) (fn))))))) (fun p e s m args below meth c Qc XC A ad0 N0 P S0 hK hEx hA hlk hout hPX => (fn)) (fun argv M Qp h => T_X7_readExpr_r dd h)
def s_X7_readExpr : eg_S := s_X7_readExpr_r 7
theorem mo_X7_readExpr : eg_mono s_X7_readExpr := mo_X7_readExpr_r 7
theorem sr_X7_readExpr : ∀ argv M Qp, s_X7_readExpr argv M Qp → ∃ p0 As, argv = .ref p0 :: As ∧ eg_isO wd M p0 7 = true := sr_X7_readExpr_r 7
theorem me_X7_readExpr (g : gl_T) : MT g yX7_readExpr cX7_readExpr 3 none ⟨48, 0, 0, 1073⟩ 0 0 s_X7_readExpr := me_X7_readExpr_r g 7

theorem lx_e_all {T : Nat → Int32} {n : Nat} {k : Int32} : ∀ f p j, p ≤ j → j < lx_e T n k f p → lx_k (T j) = k
  | 0, p, j, h1, h2 => absurd h2 (by rw [lx_e]; omega)
  | f + 1, p, j, h1, h2 => by
    rw [lx_e] at h2
    split at h2
    · rename_i c
      by_cases e : j = p
      · rw [e]; exact c.2
      · exact lx_e_all f (p + 1) j (by omega) h2
    · omega
theorem px_tok_all {T : Nat → Int32} {n : Nat} {t : px_T} (h : px_tok T n t) (hk : t.2.2 < 0) (h1 : ¬ t.2.2 = -nI 1) : ∀ j, t.1 ≤ j → j < t.2.1 → lx_k (T j) = t.2.2 := by
  obtain ⟨p, hp, rfl⟩ := h
  unfold lx at hk h1 ⊢
  by_cases e : n ≤ lx_b T n (n - p) p
  · rw [if_pos e] at h1
    exact absurd rfl h1
  · rw [if_neg e] at hk h1 ⊢
    dsimp only at hk ⊢
    rw [if_pos hk]
    intro j j1 j2
    by_cases ej : j = lx_b T n (n - p) p
    · rw [ej]
    · exact lx_e_all _ _ j (by omega) j2
theorem lx_k_3 {c : Int32} (h0 : 0 ≤ c) (h : lx_k c = -nI 3) : ∃ d, d < 10 ∧ c = nI (48 + d) := by
  have hn : ¬ c = -nI 3 := fun e => by
    rw [e] at h0
    exact absurd h0 (by decide)
  have key : ¬ c < nI 48 → ¬ nI 57 < c → ∃ d, d < 10 ∧ c = nI (48 + d) := fun a b => by
    obtain ⟨v, hv, rfl⟩ := nI_of (x := c) (fun z => absurd h0 (Int32.not_le.mpr z))
    rw [n_lt (by omega) (by decide)] at a
    rw [n_lt (by decide) (by omega)] at b
    exact ⟨v - 48, by omega, by rw [show 48 + (v - 48) = v by omega]⟩
  unfold lx_k at h
  split at h
  · split at h
    · exact absurd h hn
    · split at h
      · exact absurd h hn
      · rename_i a b
        exact key a b
  · split at h
    · split at h
      · exact absurd h hn
      · split at h
        · exact absurd h hn
        · rename_i a b
          exact key a b
    · exact absurd h (by decide)
theorem px_n_v {T : Nat → Int32} {b : Nat} : ∀ i, i ≤ 6 → (∀ j, j < i → ∃ d, d < 10 ∧ T (b + j) = nI (48 + d)) → ∃ v, v < 10 ^ i ∧ px_n T b i = nI v
  | 0, _, _ => ⟨0, by decide, rfl⟩
  | i + 1, hi, h => by
    obtain ⟨v, hv, e⟩ := px_n_v i (by omega) (fun j hj => h j (by omega))
    obtain ⟨d, hd, ed⟩ := h i (by omega)
    refine ⟨v * 10 + d, by rw [Nat.pow_succ]; omega, ?_⟩
    rw [px_n, e, ed, n_m, n_s, show v * 10 + (48 + d) = v * 10 + d + 48 by omega, n_sb]
theorem px_one {T : Nat → Int32} {n m : Nat} {t : px_T} {x : Int32} (hm : 1 ≤ m) (ht : px_tok T n t) (hlt : t.1 < t.2.1) (hx : 0 ≤ x.toInt ∨ (x.toInt ≤ -11 ∧ -21 ≤ x.toInt)) : px_D T n m t (lx T n t.2.1) [x] := by
  obtain ⟨hv1, hv2⟩ := px_tok_n ht
  have hW : px_W [x] ≤ 2 := by
    show (if 0 ≤ x.toInt then 2 else 1) + 0 ≤ 2
    split <;> omega
  refine ⟨hv1, by omega, ?_, by omega, fun h => ?_⟩
  · rw [List.length_singleton]
    omega
  · unfold p_ok
    rcases hx with hx | hx
    · rw [if_pos hx]
      exact ⟨by omega, rfl⟩
    · rw [if_neg (by omega), if_pos hx.1]
      exact ⟨hx.2, by omega, rfl⟩
theorem px_put_S {t : px_T} {S : List Int32} {x : Int32} (h : S.length < 400) : px_put x (.inr (t, S)) = .inr (t, S ++ [x]) := by
  show Sum.inr (t, if S.length < 400 then S ++ [x] else S) = _
  rw [if_pos h]
theorem px_11t : ∀ v, v < 11 → (-nI (11 + v)).toInt = -(11 + (v : Int)) := by decide
theorem px_part_G {T : Nat → Int32} {n m m' : Nat} (hn : n ≤ 400) (hT : ∀ j, j < n → 0 ≤ T j) (h1 : 1 ≤ m') (hm : m ≤ m') {E : px_S → px_S} (hE : px_G T n m E) : px_G T n m' (px_part T n E) := by
  refine ⟨fun _ => rfl, fun t ht => ?_⟩
  obtain ⟨tb1, tb2, tb3⟩ := px_tok_b ht
  obtain ⟨hv1, hv2⟩ := px_tok_n ht
  have inl_case : ∀ c, 1 ≤ c → c ≤ 3 → (∀ S, px_part T n E (.inr (t, S)) = .inl (c, t.1)) → (∀ S, S.length ≤ t.1 → px_part T n E (.inr (t, S)) = px_ap S (px_part T n E (.inr (t, [])))) ∧ px_R T n m' t (px_part T n E (.inr (t, []))) := by
    intro c c1 c3 h
    refine ⟨fun S _ => by rw [h, h]; rfl, ?_⟩
    rw [h]
    exact ⟨c1, c3, Nat.le_refl _, by omega⟩
  have one_case : ∀ x, t.1 < t.2.1 → (0 ≤ x.toInt ∨ (x.toInt ≤ -11 ∧ -21 ≤ x.toInt)) → (∀ S, S.length ≤ t.1 → px_part T n E (.inr (t, S)) = .inr (lx T n t.2.1, S ++ [x])) → (∀ S, S.length ≤ t.1 → px_part T n E (.inr (t, S)) = px_ap S (px_part T n E (.inr (t, [])))) ∧ px_R T n m' t (px_part T n E (.inr (t, []))) := by
    intro x hlt hx h
    refine ⟨fun S hS => by rw [h S hS, h [] (Nat.zero_le _)]; rfl, ?_⟩
    rw [h [] (Nat.zero_le _)]
    exact px_one h1 ht hlt hx
  by_cases k2 : t.2.2 = -nI 2
  · have hlt : t.1 < t.2.1 := by
      rcases tb3 with z | z
      · rw [k2] at z
        exact absurd z (by decide)
      · exact z.1
    cases hv : px_v T t 11 with
    | none =>
      refine inl_case 3 (by decide) (by decide) (fun S => ?_)
      rw [px_part_r, if_pos k2, hv]
      rfl
    | some v =>
      have hv11 := px_v_lt 11 v (Nat.le_refl _) hv
      have hvt := px_11t v hv11
      refine one_case (-nI (11 + v)) hlt (Or.inr ⟨by omega, by omega⟩) (fun S hS => ?_)
      rw [px_part_r, if_pos k2, hv]
      show px_adv T n (px_put (-nI (11 + v)) (.inr (t, S))) = _
      rw [px_put_S (by omega)]
      rfl
  · by_cases k40 : t.2.2 = nI 40
    · have hlt : t.1 < t.2.1 := by
        rcases tb3 with z | z
        · rw [k40] at z
          exact absurd z (by decide)
        · exact z.1
      have e : ∀ S, px_part T n E (.inr (t, S)) = px_sgn T n (nI 41) (E (.inr (lx T n t.2.1, S))) := fun S => by
        rw [px_part_r, if_neg k2, if_pos k40]
        rfl
      obtain ⟨g1, g2⟩ := hE.2 _ hv1
      cases hw : E (.inr (lx T n t.2.1, [])) with
      | inl c =>
        obtain ⟨c, p⟩ := c
        rw [hw] at g2
        have ei : px_sgn T n (nI 41) (.inl (c, p)) = .inl (c, p) := rfl
        refine ⟨fun S hS => ?_, ?_⟩
        · rw [e, e, g1 S (by omega), hw]
          show px_sgn T n (nI 41) (.inl (c, p)) = px_ap S (px_sgn T n (nI 41) (.inl (c, p)))
          rw [ei]
          rfl
        · rw [e, hw, ei]
          exact ⟨g2.1, g2.2.1, by have := g2.2.2.1; omega, g2.2.2.2⟩
      | inr y =>
        obtain ⟨w, D⟩ := y
        rw [hw] at g2
        have g2 : px_D T n m (lx T n t.2.1) w D := g2
        obtain ⟨a1, a2, a3, a4, a5⟩ := g2
        obtain ⟨wb1, wb2, wb3⟩ := px_tok_b a1
        obtain ⟨w1, w2⟩ := px_tok_n a1
        by_cases k41 : w.2.2 = nI 41
        · have es : ∀ S, px_sgn T n (nI 41) (.inr (w, S)) = .inr (lx T n w.2.1, S) := fun S => by
            unfold px_sgn
            rw [if_pos (show px_k (.inr (w, S)) = nI 41 from k41)]
            rfl
          refine ⟨fun S hS => ?_, ?_⟩
          · rw [e, e, g1 S (by omega), hw]
            show px_sgn T n (nI 41) (.inr (w, S ++ D)) = px_ap S (px_sgn T n (nI 41) (.inr (w, D)))
            rw [es, es]
            rfl
          · rw [e, hw, es]
            exact ⟨w1, by omega, by omega, by omega, fun h => p_ok_m (by omega) (a5 h)⟩
        · have es : ∀ S, px_sgn T n (nI 41) (.inr (w, S)) = .inl (1, w.1) := fun S => by
            unfold px_sgn
            rw [if_neg (show ¬ px_k (.inr (w, S)) = nI 41 from k41)]
            rfl
          refine ⟨fun S hS => ?_, ?_⟩
          · rw [e, e, g1 S (by omega), hw]
            show px_sgn T n (nI 41) (.inr (w, S ++ D)) = px_ap S (px_sgn T n (nI 41) (.inr (w, D)))
            rw [es, es]
            rfl
          · rw [e, hw, es]
            exact ⟨by decide, by decide, by omega, by omega⟩
    · have e : ∀ S, px_part T n E (.inr (t, S)) = px_put (px_n T t.1 (t.2.1 - t.1)) (px_num T n (.inr (t, S))) := fun S => by
        rw [px_part_r, if_neg k2, if_neg k40]
      by_cases k3 : t.2.2 = -nI 3
      · have hlt : t.1 < t.2.1 := by
          rcases tb3 with z | z
          · rw [k3] at z
            exact absurd z (by decide)
          · exact z.1
        by_cases k6 : t.1 + 6 < t.2.1
        · refine inl_case 2 (by decide) (by decide) (fun S => ?_)
          rw [e, px_num_r, if_pos k3, if_pos k6]
          rfl
        · have hall := px_tok_all ht (by rw [k3]; decide) (by rw [k3]; decide)
          obtain ⟨v, hv, ev⟩ := px_n_v (T := T) (b := t.1) (t.2.1 - t.1) (by omega) (fun j hj => lx_k_3 (hT _ (by omega)) (by rw [hall (t.1 + j) (by omega) (by omega)]; exact k3))
          have hv6 : v < 1000000 := Nat.lt_of_lt_of_le hv (Nat.le_trans (Nat.pow_le_pow_right (by decide) (show t.2.1 - t.1 ≤ 6 by omega)) (by decide))
          refine one_case (nI v) hlt (Or.inl (by rw [nI_toInt (by omega)]; omega)) (fun S hS => ?_)
          rw [e, px_num_r, if_pos k3, if_neg k6, ev]
          show px_put (nI v) (.inr (lx T n t.2.1, S)) = _
          rw [px_put_S (by omega)]
      · refine inl_case 1 (by decide) (by decide) (fun S => ?_)
        rw [e, px_num_r, if_neg k3]
        rfl
theorem px_q2_G {T : Nat → Int32} {n a b : Nat} {x y : Int32} (ha : ¬ nI a = -nI 1) (hb : ¬ nI b = -nI 1) (hx : px_bin x) (hy : px_bin y) : (∀ e, ¬ -nI 4 = nI a → ¬ -nI 4 = nI b → px_q2 a b x y (.inl e) = none) ∧ (∀ t S, px_q2 a b x y (.inr (t, S)) = px_q2 a b x y (.inr (t, []))) ∧ ∀ t S z, px_tok T n t → px_q2 a b x y (.inr (t, S)) = some z → px_bin z ∧ t.1 < t.2.1 := by
  refine ⟨fun e h1 h2 => ?_, fun t S => rfl, fun t S z ht h => ?_⟩
  · unfold px_q2
    rw [if_neg (show ¬ px_k (.inl e) = nI a from h1), if_neg (show ¬ px_k (.inl e) = nI b from h2)]
  · obtain ⟨_, _, tb3⟩ := px_tok_b ht
    have hlt : ∀ k, ¬ k = -nI 1 → t.2.2 = k → t.1 < t.2.1 := fun k hk e => by
      rcases tb3 with w | w
      · rw [e] at w
        exact absurd w hk
      · exact w.1
    unfold px_q2 at h
    by_cases c : px_k (.inr (t, S)) = nI a
    · rw [if_pos c] at h
      cases h
      exact ⟨hx, hlt _ ha c⟩
    · rw [if_neg c] at h
      by_cases c2 : px_k (.inr (t, S)) = nI b
      · rw [if_pos c2] at h
        cases h
        exact ⟨hy, hlt _ hb c2⟩
      · rw [if_neg c2] at h
        cases h
theorem px_qw_G {T : Nat → Int32} {n w : Nat} {x : Int32} (hx : px_bin x) : (∀ e, px_qw T w x (.inl e) = none) ∧ (∀ t S, px_qw T w x (.inr (t, S)) = px_qw T w x (.inr (t, []))) ∧ ∀ t S z, px_tok T n t → px_qw T w x (.inr (t, S)) = some z → px_bin z ∧ t.1 < t.2.1 := by
  refine ⟨fun e => rfl, fun t S => rfl, fun t S z ht h => ?_⟩
  obtain ⟨_, _, tb3⟩ := px_tok_b ht
  unfold px_qw at h
  by_cases c : px_is T w (.inr (t, S)) = true
  · rw [if_pos c] at h
    cases h
    have c : px_w T w t = true := c
    unfold px_w at c
    have c2 := (of_decide_eq_true (Bool.and_eq_true_iff.mp c).1).1
    refine ⟨hx, ?_⟩
    rcases tb3 with w | w
    · rw [c2] at w
      exact absurd w (by decide)
    · exact w.1
  · rw [if_neg c] at h
    cases h
theorem px_prod_G {T : Nat → Int32} {n m : Nat} (hn : n ≤ 400) {E : px_S → px_S} (h : px_G T n m (px_part T n E)) : px_G T n (m + 1) (px_prod T n E) := by
  obtain ⟨q1, q2, q3⟩ := px_q2_G (T := T) (n := n) (a := 42) (b := 47) (x := -nI 8) (y := -nI 9) (by decide) (by decide) (by unfold px_bin; decide) (by unfold px_bin; decide)
  exact px_loop_G hn h (fun e => q1 e (by decide) (by decide)) q2 q3
theorem px_sum_G {T : Nat → Int32} {n m : Nat} (hn : n ≤ 400) {E : px_S → px_S} (h : px_G T n m (px_prod T n E)) : px_G T n (m + 1) (px_sum T n E) := by
  obtain ⟨q1, q2, q3⟩ := px_q2_G (T := T) (n := n) (a := 43) (b := 45) (x := -nI 6) (y := -nI 7) (by decide) (by decide) (by unfold px_bin; decide) (by unfold px_bin; decide)
  exact px_loop_G hn h (fun e => q1 e (by decide) (by decide)) q2 q3
theorem px_and_G {T : Nat → Int32} {n m : Nat} (hn : n ≤ 400) {E : px_S → px_S} (h : px_G T n m (px_not T n E)) : px_G T n (m + 1) (px_and T n E) := by
  obtain ⟨q1, q2, q3⟩ := px_qw_G (T := T) (n := n) (w := 1) (x := -nI 2) (by unfold px_bin; decide)
  exact px_loop_G hn h q1 q2 q3
theorem px_or_G {T : Nat → Int32} {n m : Nat} (hn : n ≤ 400) {E : px_S → px_S} (h : px_G T n m (px_and T n E)) : px_G T n (m + 1) (px_or T n E) := by
  obtain ⟨q1, q2, q3⟩ := px_qw_G (T := T) (n := n) (w := 20) (x := -nI 1) (by unfold px_bin; decide)
  exact px_loop_G hn h q1 q2 q3

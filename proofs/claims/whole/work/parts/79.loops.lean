theorem px_loopr_G {T : Nat → Int32} {n m : Nat} (hn : n ≤ 400) {f : px_S → px_S} {q : px_S → Option Int32} (hf : px_G T n m f) (hq0 : ∀ e, q (.inl e) = none) (hq : ∀ t S, q (.inr (t, S)) = q (.inr (t, []))) (hx : ∀ t S x, px_tok T n t → q (.inr (t, S)) = some x → px_bin x ∧ t.1 < t.2.1) (r : Nat) : px_G T n (m + 1) (fun s => px_lp T n q f r (f s)) := by
  have el : ∀ r' e, px_lp T n q f r' (.inl e) = .inl e := fun r' e => by
    cases r' with
    | zero => rfl
    | succ r' => rw [px_lp, hq0]
  refine ⟨fun e => by dsimp only; rw [hf.1, el], fun t ht => ?_⟩
  obtain ⟨g1, g2⟩ := hf.2 t ht
  cases hw : f (.inr (t, [])) with
  | inl c =>
    obtain ⟨c, p⟩ := c
    rw [hw] at g2
    refine ⟨fun S hS => ?_, ?_⟩
    · dsimp only
      rw [g1 S hS, hw]
      show px_lp T n q f r (.inl (c, p)) = _
      rw [el]
      rfl
    · dsimp only
      rw [hw, el]
      exact g2
  | inr y =>
    obtain ⟨w, D⟩ := y
    rw [hw] at g2
    obtain ⟨i1, i2⟩ := px_lp_G hn hf hq0 hq hx r t w D ht (px_D_m (Nat.le_succ m) g2)
    refine ⟨fun S hS => ?_, ?_⟩
    · dsimp only
      rw [g1 S hS, hw]
      exact i1 S hS
    · dsimp only
      rw [hw]
      exact i2
theorem px_cmp_lp (T : Nat → Int32) (n : Nat) (E : px_S → px_S) (s : px_S) : px_cmp T n E s = px_lp T n (px_q2 60 61 (-nI 4) (-nI 5)) (px_sum T n E) 1 s := by
  unfold px_cmp
  rw [px_lp]
  cases px_q2 60 61 (-nI 4) (-nI 5) s <;> rfl
theorem px_cmp_G {T : Nat → Int32} {n m : Nat} (hn : n ≤ 400) {E : px_S → px_S} (h : px_G T n m (px_sum T n E)) : px_G T n (m + 1) (fun s => px_cmp T n E (px_sum T n E s)) := by
  obtain ⟨q1, q2, q3⟩ := px_q2_G (T := T) (n := n) (a := 60) (b := 61) (x := -nI 4) (y := -nI 5) (by decide) (by decide) (by unfold px_bin; decide) (by unfold px_bin; decide)
  have := px_loopr_G hn h (fun e => q1 e (by decide) (by decide)) q2 q3 1
  have e : (fun s => px_cmp T n E (px_sum T n E s)) = fun s => px_lp T n (px_q2 60 61 (-nI 4) (-nI 5)) (px_sum T n E) 1 (px_sum T n E s) := funext (fun s => px_cmp_lp T n E _)
  rw [e]
  exact this
/-- 'not' side by side: how many, and the token behind -/
def px_ntt (T : Nat → Int32) (n : Nat) : Nat → Nat → px_T → Nat × px_T
  | 0, c, t => (c, t)
  | f + 1, c, t => if px_w T 15 t = true then px_ntt T n f (c + 1) (lx T n t.2.1) else (c, t)
theorem px_nt_t {T : Nat → Int32} {n : Nat} (S : List Int32) : ∀ f c t, px_nt T n f c (.inr (t, S)) = ((px_ntt T n f c t).1, .inr ((px_ntt T n f c t).2, S))
  | 0, c, t => rfl
  | f + 1, c, t => by
    rw [px_nt, px_ntt]
    by_cases h : px_w T 15 t = true
    · rw [if_pos (show px_is T 15 (.inr (t, S)) = true from h), if_pos h]
      exact px_nt_t S f (c + 1) (lx T n t.2.1)
    · rw [if_neg (show ¬ px_is T 15 (.inr (t, S)) = true from h), if_neg h]
theorem px_nt_e {T : Nat → Int32} {n : Nat} (e : Nat × Nat) : ∀ f c, px_nt T n f c (.inl e) = (c, .inl e)
  | 0, c => rfl
  | f + 1, c => by
    rw [px_nt, if_neg (show ¬ px_is T 15 (.inl e) = true from Bool.noConfusion)]
theorem px_ntt_b {T : Nat → Int32} {n : Nat} : ∀ f c t, px_tok T n t → px_tok T n (px_ntt T n f c t).2 ∧ c ≤ (px_ntt T n f c t).1 ∧ t.1 + 3 * (px_ntt T n f c t).1 ≤ (px_ntt T n f c t).2.1 + 3 * c
  | 0, c, t, ht => ⟨ht, Nat.le_refl _, Nat.le_refl _⟩
  | f + 1, c, t, ht => by
    rw [px_ntt]
    by_cases h : px_w T 15 t = true
    · rw [if_pos h]
      obtain ⟨v1, v2⟩ := px_tok_n ht
      obtain ⟨i1, i2, i3⟩ := px_ntt_b f (c + 1) (lx T n t.2.1) v1
      unfold px_w at h
      have h3 := (of_decide_eq_true (Bool.and_eq_true_iff.mp h).1).2
      have h33 : tx_len.getD 15 0 = 3 := rfl
      rw [h33] at h3
      exact ⟨i1, by omega, by omega⟩
    · rw [if_neg h]
      exact ⟨ht, Nat.le_refl _, Nat.le_refl _⟩
theorem px_puts_e (x : Int32) (e : Nat × Nat) : ∀ c, px_puts x c (.inl e) = .inl e
  | 0 => rfl
  | c + 1 => px_puts_e x e c
theorem px_puts_S {x : Int32} {t : px_T} : ∀ c S, S.length + c ≤ 400 → px_puts x c (.inr (t, S)) = .inr (t, S ++ List.replicate c x)
  | 0, S, _ => by
    rw [List.replicate_zero, List.append_nil]
    rfl
  | c + 1, S, h => by
    show px_puts x c (px_put x (.inr (t, S))) = _
    rw [px_put_S (by omega), px_puts_S c (S ++ [x]) (by rw [List.length_append, List.length_singleton]; omega), List.append_assoc]
    rfl
theorem px_W_3 : ∀ c, px_W (List.replicate c (-nI 3)) = c
  | 0 => rfl
  | c + 1 => by
    show (if 0 ≤ (-nI 3).toInt then 2 else 1) + px_W (List.replicate c (-nI 3)) = c + 1
    rw [px_W_3 c, if_neg (by decide)]
    omega
theorem p_ok_3 {m h : Nat} : ∀ c, p_ok m (h + 1) (List.replicate c (-nI 3)) (h + 1)
  | 0 => rfl
  | c + 1 => by
    show p_ok m (h + 1) (-nI 3 :: List.replicate c (-nI 3)) (h + 1)
    unfold p_ok
    rw [if_neg (by decide), if_neg (by decide), if_pos (by decide)]
    exact ⟨by omega, p_ok_3 c⟩
theorem px_not_G {T : Nat → Int32} {n m : Nat} (hn : n ≤ 400) {E : px_S → px_S} (h : px_G T n m (px_sum T n E)) : px_G T n (m + 1) (px_not T n E) := by
  have hc := px_cmp_G hn h
  refine ⟨fun e => ?_, fun t ht => ?_⟩
  · unfold px_not
    rw [px_nt_e]
    show px_puts (-nI 3) 0 (px_cmp T n E (px_sum T n E (.inl e))) = .inl e
    exact hc.1 e
  · obtain ⟨b1, b2, b3⟩ := px_ntt_b (T := T) (n := n) 6 0 t ht
    generalize hx : px_ntt T n 6 0 t = x at b1 b2 b3
    obtain ⟨c, u⟩ := x
    dsimp only at b1 b2 b3
    obtain ⟨u1, u2, u3⟩ := px_tok_b b1
    have e : ∀ S, px_not T n E (.inr (t, S)) = px_puts (-nI 3) c (px_cmp T n E (px_sum T n E (if px_w T 15 u = true then .inl (2, u.1) else .inr (u, S)))) := fun S => by
      unfold px_not
      rw [px_nt_t, hx]
      rfl
    by_cases hw : px_w T 15 u = true
    · have e2 : ∀ S, px_not T n E (.inr (t, S)) = .inl (2, u.1) := fun S => by
        rw [e, if_pos hw, show px_cmp T n E (px_sum T n E (.inl (2, u.1))) = .inl (2, u.1) from hc.1 _, px_puts_e]
      refine ⟨fun S _ => by rw [e2, e2]; rfl, ?_⟩
      rw [e2]
      exact ⟨by decide, by decide, by omega, by omega⟩
    · obtain ⟨g1, g2⟩ := hc.2 u b1
      have e2 : ∀ S, px_not T n E (.inr (t, S)) = px_puts (-nI 3) c (px_cmp T n E (px_sum T n E (.inr (u, S)))) := fun S => by
        rw [e, if_neg hw]
      cases hv : px_cmp T n E (px_sum T n E (.inr (u, []))) with
      | inl y =>
        obtain ⟨y, p⟩ := y
        dsimp only at g1 g2
        rw [hv] at g2
        have e3 : ∀ S, S.length ≤ t.1 → px_not T n E (.inr (t, S)) = .inl (y, p) := fun S hS => by
          rw [e2, g1 S (by omega), hv]
          exact px_puts_e _ _ _
        refine ⟨fun S hS => by rw [e3 S hS, e3 [] (Nat.zero_le _)]; rfl, ?_⟩
        rw [e3 [] (Nat.zero_le _)]
        exact ⟨g2.1, g2.2.1, by have := g2.2.2.1; omega, g2.2.2.2⟩
      | inr y =>
        obtain ⟨w, D⟩ := y
        dsimp only at g1 g2
        rw [hv] at g2
        have g2 : px_D T n (m + 1) u w D := g2
        obtain ⟨a1, a2, a3, a4, a5⟩ := g2
        have wb := px_tok_b a1
        have e3 : ∀ S, S.length ≤ t.1 → px_not T n E (.inr (t, S)) = .inr (w, S ++ (D ++ List.replicate c (-nI 3))) := fun S hS => by
          rw [e2, g1 S (by omega), hv]
          show px_puts (-nI 3) c (.inr (w, S ++ D)) = _
          rw [px_puts_S c (S ++ D) (by rw [List.length_append]; omega), List.append_assoc]
        refine ⟨fun S hS => by rw [e3 S hS, e3 [] (Nat.zero_le _)]; rfl, ?_⟩
        rw [e3 [] (Nat.zero_le _)]
        show px_D T n (m + 1) t w (D ++ List.replicate c (-nI 3))
        refine ⟨a1, by omega, ?_, ?_, fun h => p_ok_a (a5 h) (p_ok_3 c)⟩
        · rw [List.length_append, List.length_replicate]
          omega
        · rw [px_W_a, px_W_3]
          omega
/-- THE READER: what an expression's steps weigh and how high they go -/
theorem px_E_G {T : Nat → Int32} {n : Nat} (hn : n ≤ 400) (hT : ∀ j, j < n → 0 ≤ T j) : ∀ d, px_G T n (5 * d + 1) (px_E T n d)
  | 0 => by
    refine ⟨fun e => rfl, fun t ht => ⟨fun S _ => rfl, ?_⟩⟩
    obtain ⟨u1, u2, u3⟩ := px_tok_b ht
    show px_R T n 1 t (px_ref (if px_k (.inr (t, [])) = -nI 3 ∨ px_k (.inr (t, [])) = -nI 2 ∨ px_k (.inr (t, [])) = nI 40 then 2 else 1) (.inr (t, [])))
    by_cases c : px_k (.inr (t, [])) = -nI 3 ∨ px_k (.inr (t, [])) = -nI 2 ∨ px_k (.inr (t, [])) = nI 40
    · rw [if_pos c]
      exact ⟨by decide, by decide, Nat.le_refl _, by omega⟩
    · rw [if_neg c]
      exact ⟨by decide, by decide, Nat.le_refl _, by omega⟩
  | d + 1 => by
    have ih := px_E_G hn hT d
    have h1 := px_part_G (m' := 5 * d + 1) hn hT (by omega) (Nat.le_refl _) ih
    have h5 := px_or_G hn (px_and_G hn (px_not_G hn (px_sum_G hn (px_prod_G hn h1))))
    have e : (fun s => px_E T n (d + 1) s) = px_or T n (px_E T n d) := rfl
    show px_G T n (5 * (d + 1) + 1) (fun s => px_E T n (d + 1) s)
    rw [e]
    exact h5

/-! what a reader's steps weigh, and how high they go -/
def px_ap (S : List Int32) (x : px_S) : px_S := match x with
  | .inl e => .inl e
  | .inr (t, D) => .inr (t, S ++ D)
def px_tok (T : Nat → Int32) (n : Nat) (t : px_T) : Prop := ∃ p, p ≤ n ∧ t = lx T n p
/-- the model's words for steps -/
def px_W : List Int32 → Nat
  | [] => 0
  | s :: D => (if 0 ≤ s.toInt then 2 else 1) + px_W D
theorem px_W_a : ∀ A B, px_W (A ++ B) = px_W A + px_W B
  | [], B => (Nat.zero_add _).symm
  | s :: A, B => by
    show (if 0 ≤ s.toInt then 2 else 1) + px_W (A ++ B) = (if 0 ≤ s.toInt then 2 else 1) + px_W A + px_W B
    rw [px_W_a A B]
    omega
theorem p_ok_a {m e1 e2 : Nat} : ∀ {A B : List Int32} {h : Nat}, p_ok m e1 A h → p_ok m e2 B e1 → p_ok m e2 (A ++ B) h
  | [], B, h, h1, h2 => by
    have h1 : h = e1 := h1
    rw [h1]
    exact h2
  | s :: A, B, h, h1, h2 => by
    show p_ok m e2 (s :: (A ++ B)) h
    unfold p_ok at h1 ⊢
    split at h1
    · rename_i c
      rw [if_pos c]
      exact ⟨h1.1, p_ok_a h1.2 h2⟩
    · rename_i c
      rw [if_neg c]
      split at h1
      · rename_i c2
        rw [if_pos c2]
        exact ⟨h1.1, h1.2.1, p_ok_a h1.2.2 h2⟩
      · rename_i c2
        rw [if_neg c2]
        split at h1
        · rename_i c3
          rw [if_pos c3]
          exact ⟨h1.1, p_ok_a h1.2 h2⟩
        · rename_i c3
          rw [if_neg c3]
          exact ⟨h1.1, h1.2.1, p_ok_a h1.2.2 h2⟩
theorem p_ok_m {m m' e : Nat} (hm : m ≤ m') : ∀ {A : List Int32} {h : Nat}, p_ok m e A h → p_ok m' e A h
  | [], h, h1 => h1
  | s :: A, h, h1 => by
    unfold p_ok at h1 ⊢
    split at h1
    · rename_i c
      rw [if_pos c]
      exact ⟨by omega, p_ok_m hm h1.2⟩
    · rename_i c
      rw [if_neg c]
      split at h1
      · rename_i c2
        rw [if_pos c2]
        exact ⟨h1.1, by omega, p_ok_m hm h1.2.2⟩
      · rename_i c2
        rw [if_neg c2]
        split at h1
        · rename_i c3
          rw [if_pos c3]
          exact ⟨h1.1, p_ok_m hm h1.2⟩
        · rename_i c3
          rw [if_neg c3]
          exact ⟨h1.1, h1.2.1, p_ok_m hm h1.2.2⟩
/-- from token t to token u the steps D are read, of height m at most -/
def px_D (T : Nat → Int32) (n m : Nat) (t u : px_T) (D : List Int32) : Prop := px_tok T n u ∧ t.1 < u.1 ∧ D.length + t.1 ≤ u.1 ∧ 2 * px_W D + 3 * t.1 ≤ 3 * u.1 + 1 ∧ ∀ h, p_ok (h + m) (h + 1) D h
def px_R (T : Nat → Int32) (n m : Nat) (t : px_T) (x : px_S) : Prop := match x with
  | .inl (c, p) => 1 ≤ c ∧ c ≤ 3 ∧ t.1 ≤ p ∧ p ≤ n
  | .inr (u, D) => px_D T n m t u D
/-- a reader that reads one thing, whatever stands there already -/
def px_G (T : Nat → Int32) (n m : Nat) (f : px_S → px_S) : Prop := (∀ e, f (.inl e) = .inl e) ∧ ∀ t, px_tok T n t → (∀ S, S.length ≤ t.1 → f (.inr (t, S)) = px_ap S (f (.inr (t, [])))) ∧ px_R T n m t (f (.inr (t, [])))
theorem px_tok_b {T : Nat → Int32} {n : Nat} {t : px_T} (h : px_tok T n t) : t.1 ≤ t.2.1 ∧ t.2.1 ≤ n ∧ (t.2.2 = -nI 1 ∨ (t.1 < t.2.1 ∧ t.2.2 = lx_k (T t.1))) := by
  obtain ⟨p, hp, rfl⟩ := h
  obtain ⟨_, h2, h3, h4⟩ := lx_ok (T := T) hp
  exact ⟨h2, h3, h4.imp (fun z => z.1) (fun z => z)⟩
theorem px_tok_n {T : Nat → Int32} {n : Nat} {t : px_T} (h : px_tok T n t) : px_tok T n (lx T n t.2.1) ∧ t.2.1 ≤ (lx T n t.2.1).1 := by
  have hb := px_tok_b h
  exact ⟨⟨t.2.1, hb.2.1, rfl⟩, (lx_ok (T := T) hb.2.1).1⟩
/-- what joins two -/
def px_bin (x : Int32) : Prop := x.toInt < 0 ∧ -9 ≤ x.toInt ∧ ¬ x.toInt = -3
theorem px_D_bin {T : Nat → Int32} {n m : Nat} {t u v w : px_T} {D1 D2 : List Int32} {x : Int32} (h1 : px_D T n (m + 1) t u D1) (huv : u.1 < v.1) (h2 : px_D T n m v w D2) (hx : px_bin x) : px_D T n (m + 1) t w (D1 ++ D2 ++ [x]) := by
  obtain ⟨a1, a2, a3, a4, a5⟩ := h1
  obtain ⟨b1, b2, b3, b4, b5⟩ := h2
  have hW : px_W [x] = 1 := by
    show (if 0 ≤ x.toInt then 2 else 1) + 0 = 1
    rw [if_neg (by have := hx.1; omega)]
  refine ⟨b1, by omega, ?_, ?_, fun h => ?_⟩
  · rw [List.length_append, List.length_append, List.length_singleton]
    omega
  · rw [px_W_a, px_W_a, hW]
    omega
  · have c1 := a5 h
    have c2 := b5 (h + 1)
    rw [show h + 1 + m = h + (m + 1) by omega] at c2
    refine p_ok_a (p_ok_a c1 c2) ?_
    unfold p_ok
    rw [if_neg (by have := hx.1; omega), if_neg (by have := hx.2.1; omega), if_neg hx.2.2]
    refine ⟨by have := hx.2.1; omega, by omega, ?_⟩
    show h + 1 + 1 - 1 = h + 1
    omega
/-- a loop of such -/
theorem px_lp_G {T : Nat → Int32} {n m : Nat} (hn : n ≤ 400) {f : px_S → px_S} {q : px_S → Option Int32} (hf : px_G T n m f) (hq0 : ∀ e, q (.inl e) = none) (hq : ∀ t S, q (.inr (t, S)) = q (.inr (t, []))) (hx : ∀ t S x, px_tok T n t → q (.inr (t, S)) = some x → px_bin x ∧ t.1 < t.2.1) : ∀ r t u D, px_tok T n t → px_D T n (m + 1) t u D → (∀ S, S.length ≤ t.1 → px_lp T n q f r (.inr (u, S ++ D)) = px_ap S (px_lp T n q f r (.inr (u, D)))) ∧ px_R T n (m + 1) t (px_lp T n q f r (.inr (u, D)))
  | 0, t, u, D, ht, hD => ⟨fun S hS => rfl, hD⟩
  | r + 1, t, u, D, ht, hD => by
    have ih := px_lp_G hn hf hq0 hq hx r
    cases hv : q (.inr (u, [])) with
    | none =>
      have e : ∀ S, px_lp T n q f (r + 1) (.inr (u, S)) = .inr (u, S) := fun S => by
        rw [px_lp, hq, hv]
      refine ⟨fun S hS => ?_, ?_⟩
      · rw [e, e]
        rfl
      · rw [e]
        exact hD
    | some x =>
      obtain ⟨hu1, hu2, hu3, hu4, hu5⟩ := id hD
      obtain ⟨hb, hlt⟩ := hx u [] x hu1 hv
      obtain ⟨hv1, hv2⟩ := px_tok_n hu1
      have hub := px_tok_b hu1
      have e : ∀ S, px_lp T n q f (r + 1) (.inr (u, S)) = px_lp T n q f r (px_put x (f (.inr (lx T n u.2.1, S)))) := fun S => by
        rw [px_lp, hq, hv]
        rfl
      obtain ⟨g1, g2⟩ := hf.2 (lx T n u.2.1) hv1
      rw [e D, g1 D (by omega)]
      cases hw : f (.inr (lx T n u.2.1, [])) with
      | inl c =>
        obtain ⟨c, p⟩ := c
        rw [hw] at g2
        have el : ∀ r', px_lp T n q f r' (.inl (c, p)) = .inl (c, p) := fun r' => by
          cases r' with
          | zero => rfl
          | succ r' => rw [px_lp, hq0]
        refine ⟨fun S hS => ?_, ?_⟩
        · rw [e, g1 (S ++ D) (by rw [List.length_append]; omega), hw]
          show px_lp T n q f r (.inl (c, p)) = px_ap S (px_lp T n q f r (.inl (c, p)))
          rw [el]
          rfl
        · show px_R T n (m + 1) t (px_lp T n q f r (.inl (c, p)))
          rw [el]
          exact ⟨g2.1, g2.2.1, by have := g2.2.2.1; omega, g2.2.2.2⟩
      | inr y =>
        obtain ⟨w, D2⟩ := y
        rw [hw] at g2
        have g2 : px_D T n m (lx T n u.2.1) w D2 := g2
        have hB := px_D_bin hD (show u.1 < (lx T n u.2.1).1 by omega) g2 hb
        have hwb := px_tok_b g2.1
        have hpu : ∀ S, S.length ≤ t.1 → px_put x (.inr (w, S ++ D ++ D2)) = .inr (w, S ++ (D ++ D2 ++ [x])) := fun S hS => by
          have : (S ++ D ++ D2).length < 400 := by
            rw [List.length_append, List.length_append]
            have := g2.2.2.1
            omega
          show Sum.inr (w, if (S ++ D ++ D2).length < 400 then (S ++ D ++ D2) ++ [x] else S ++ D ++ D2) = _
          rw [if_pos this]
          simp only [List.append_assoc]
        have h0 := hpu [] (Nat.zero_le _)
        rw [List.nil_append, List.nil_append] at h0
        obtain ⟨i1, i2⟩ := ih t w (D ++ D2 ++ [x]) ht hB
        refine ⟨fun S hS => ?_, ?_⟩
        · rw [e, g1 (S ++ D) (by rw [List.length_append]; omega), hw]
          show px_lp T n q f r (px_put x (.inr (w, S ++ D ++ D2))) = px_ap S (px_lp T n q f r (px_put x (.inr (w, D ++ D2))))
          rw [hpu S hS, h0]
          exact i1 S hS
        · show px_R T n (m + 1) t (px_lp T n q f r (px_put x (.inr (w, D ++ D2))))
          rw [h0]
          exact i2
theorem px_D_m {T : Nat → Int32} {n m m' : Nat} {t u : px_T} {D : List Int32} (h : m ≤ m') (hD : px_D T n m t u D) : px_D T n m' t u D := ⟨hD.1, hD.2.1, hD.2.2.1, hD.2.2.2.1, fun z => p_ok_m (by omega) (hD.2.2.2.2 z)⟩
theorem px_loop_G {T : Nat → Int32} {n m : Nat} (hn : n ≤ 400) {f : px_S → px_S} {q : px_S → Option Int32} (hf : px_G T n m f) (hq0 : ∀ e, q (.inl e) = none) (hq : ∀ t S, q (.inr (t, S)) = q (.inr (t, []))) (hx : ∀ t S x, px_tok T n t → q (.inr (t, S)) = some x → px_bin x ∧ t.1 < t.2.1) : px_G T n (m + 1) (fun s => px_lp T n q f 400 (f s)) := by
  have el : ∀ r' e, px_lp T n q f r' (.inl e) = .inl e := fun r' e => by
    cases r' with
    | zero => rfl
    | succ r' => rw [px_lp, hq0]
  refine ⟨fun e => by dsimp only; rw [hf.1, el], fun t ht => ?_⟩
  obtain ⟨g1, g2⟩ := hf.2 t ht
  cases hw : f (.inr (t, [])) with
  | inl c =>
    obtain ⟨c, p⟩ := c
    rw [hw] at g2
    refine ⟨fun S hS => ?_, ?_⟩
    · dsimp only
      rw [g1 S hS, hw]
      show px_lp T n q f 400 (.inl (c, p)) = _
      rw [el]
      rfl
    · dsimp only
      rw [hw, el]
      exact g2
  | inr y =>
    obtain ⟨w, D⟩ := y
    rw [hw] at g2
    obtain ⟨i1, i2⟩ := px_lp_G hn hf hq0 hq hx 400 t w D ht (px_D_m (Nat.le_succ m) g2)
    refine ⟨fun S hS => ?_, ?_⟩
    · dsimp only
      rw [g1 S hS, hw]
      exact i1 S hS
    · dsimp only
      rw [hw]
      exact i2

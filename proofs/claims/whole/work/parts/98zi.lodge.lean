/-! HOMES FOR GUESTS: the model's way is the best, and the first of these -/
theorem dg_sub {x h : Nat} (hd : ¬ x / 5 ^ h % 5 = 0) (j : Nat) : (x - 5 ^ h) / 5 ^ j % 5 = if j = h then x / 5 ^ h % 5 - 1 else x / 5 ^ j % 5 := by
  have hp : 0 < 5 ^ h := pow5_pos h
  have hpj : 0 < 5 ^ j := pow5_pos j
  have hge : 1 ≤ x / 5 ^ h := by
    refine Nat.one_le_iff_ne_zero.mpr (fun z => hd ?_)
    rw [z]
  have hle : 5 ^ h ≤ x := by
    have := Nat.div_mul_le_self x (5 ^ h)
    have : 1 * 5 ^ h ≤ x / 5 ^ h * 5 ^ h := Nat.mul_le_mul_right _ hge
    omega
  have e1 : (x - 5 ^ h) / 5 ^ h = x / 5 ^ h - 1 := by
    have := Nat.sub_mul_div x (5 ^ h) 1
    rw [Nat.mul_one] at this
    exact this
  rcases Nat.lt_trichotomy j h with q | q | q
  · rw [if_neg (by omega)]
    obtain ⟨m, rfl⟩ : ∃ m, h = j + 1 + m := ⟨h - j - 1, by omega⟩
    have e2 : 5 ^ (j + 1 + m) = 5 ^ j * (5 * 5 ^ m) := by
      rw [Nat.pow_add, Nat.pow_succ, Nat.mul_assoc]
    rw [e2] at hle ⊢
    rw [Nat.sub_mul_div]
    have h3 : 5 * 5 ^ m ≤ x / 5 ^ j := (Nat.le_div_iff_mul_le hpj).mpr (by rw [Nat.mul_comm]; exact hle)
    omega
  · subst q
    rw [if_pos rfl, e1]
    omega
  · rw [if_neg (by omega)]
    obtain ⟨m, rfl⟩ : ∃ m, j = h + 1 + m := ⟨j - h - 1, by omega⟩
    have e2 : 5 ^ (h + 1 + m) = 5 ^ h * 5 * 5 ^ m := by
      rw [Nat.pow_add, Nat.pow_succ]
    rw [e2, ← Nat.div_div_eq_div_mul, ← Nat.div_div_eq_div_mul, e1, ← Nat.div_div_eq_div_mul, ← Nat.div_div_eq_div_mul]
    have : (x / 5 ^ h - 1) / 5 = x / 5 ^ h / 5 := by omega
    rw [this]
section LOD
variable (H G : Nat) (lk : Nat → Nat → Option Nat)
def y_c (σ : Nat → Nat) (h : Nat) : Nat → Nat
  | 0 => 0
  | k + 1 => y_c σ h k + if σ (G - 1 - k) = h then 1 else 0
def y_v (σ : Nat → Nat) : Nat → Nat
  | 0 => 0
  | k + 1 => y_v σ k + if σ (G - 1 - k) = H then 0 else 1000 + (lk (G - 1 - k) (σ (G - 1 - k))).getD 0
def y_d (h : Nat) : Nat := if h = H then 6 else h
def y_r (σ : Nat → Nat) : Nat → Nat
  | 0 => 0
  | k + 1 => y_r σ k + y_d H (σ (G - 1 - k)) * 7 ^ k
def y_ok (σ : Nat → Nat) (k left : Nat) : Prop := (∀ j, j < k → σ (G - 1 - j) ≤ H ∧ (σ (G - 1 - j) < H → ∃ l, lk (G - 1 - j) (σ (G - 1 - j)) = some l)) ∧ ∀ h, h < H → y_c G σ h k ≤ left / 5 ^ h % 5
variable {H G lk}
theorem omax_l {a b : Option Nat} {x : Nat} (h : a = some x) : ∃ y, omax a b = some y ∧ x ≤ y := by
  subst h
  cases b with
  | none => exact ⟨x, rfl, Nat.le_refl _⟩
  | some z =>
    show ∃ y, (if x < z then some z else some x) = some y ∧ x ≤ y
    by_cases q : x < z
    · rw [if_pos q]; exact ⟨z, rfl, Nat.le_of_lt q⟩
    · rw [if_neg q]; exact ⟨x, rfl, Nat.le_refl _⟩
theorem omax_r {a b : Option Nat} {x : Nat} (h : b = some x) : ∃ y, omax a b = some y ∧ x ≤ y := by
  subst h
  cases a with
  | none => exact ⟨x, rfl, Nat.le_refl _⟩
  | some z =>
    show ∃ y, (if z < x then some x else some z) = some y ∧ x ≤ y
    by_cases q : z < x
    · rw [if_pos q]; exact ⟨x, rfl, Nat.le_refl _⟩
    · rw [if_neg q]; exact ⟨z, rfl, by omega⟩
theorem l_m_ge {f : Nat → Nat} {g left h x : Nat} : ∀ n, h < n → l_w H lk f g left h = some x → ∃ y, l_m H lk f g left n = some y ∧ x ≤ y
  | 0, hn, _ => absurd hn (Nat.not_lt_zero h)
  | n + 1, hn, e => by
    by_cases q : h = n
    · subst q
      exact omax_r e
    · obtain ⟨y, e1, e2⟩ := l_m_ge n (by omega) e
      obtain ⟨z, e3, e4⟩ := omax_l (b := l_w H lk f g left n) e1
      exact ⟨z, e3, by omega⟩
theorem l_v_ge {k left h x : Nat} (hh : h ≤ H) (e : l_w H lk (l_v H lk G k) (G - 1 - k) left h = some x) : x ≤ l_v H lk G (k + 1) left := by
  obtain ⟨y, e1, e2⟩ := l_m_ge (H + 1) (by omega) e
  show x ≤ (l_m H lk (l_v H lk G k) (G - 1 - k) left (H + 1)).getD 0
  rw [e1]
  exact e2
/-- what comes after the first guest -/
theorem y_ok_s {σ : Nat → Nat} {k left : Nat} (h : y_ok H G lk σ (k + 1) left) : (σ (G - 1 - k) = H ∧ y_ok H G lk σ k left) ∨ (σ (G - 1 - k) < H ∧ ∃ l, lk (G - 1 - k) (σ (G - 1 - k)) = some l ∧ ¬ left / 5 ^ σ (G - 1 - k) % 5 = 0 ∧ y_ok H G lk σ k (left - 5 ^ σ (G - 1 - k))) := by
  obtain ⟨h1, h2⟩ := h
  obtain ⟨a1, a2⟩ := h1 k (Nat.lt_succ_self k)
  by_cases q : σ (G - 1 - k) = H
  · refine Or.inl ⟨q, fun j hj => h1 j (by omega), fun h hh => ?_⟩
    have := h2 h hh
    have e : y_c G σ h (k + 1) = y_c G σ h k + if σ (G - 1 - k) = h then 1 else 0 := rfl
    omega
  · have hlt : σ (G - 1 - k) < H := by omega
    obtain ⟨l, hl⟩ := a2 hlt
    have hd : ¬ left / 5 ^ σ (G - 1 - k) % 5 = 0 := by
      have := h2 _ hlt
      have e : y_c G σ (σ (G - 1 - k)) (k + 1) = y_c G σ (σ (G - 1 - k)) k + if σ (G - 1 - k) = σ (G - 1 - k) then 1 else 0 := rfl
      rw [if_pos rfl] at e
      omega
    refine Or.inr ⟨hlt, l, hl, hd, fun j hj => h1 j (by omega), fun h hh => ?_⟩
    have := h2 h hh
    have e : y_c G σ h (k + 1) = y_c G σ h k + if σ (G - 1 - k) = h then 1 else 0 := rfl
    rw [dg_sub hd]
    by_cases y : h = σ (G - 1 - k)
    · rw [if_pos y.symm] at e
      rw [if_pos y, ← y]
      omega
    · rw [if_neg (fun z => y z.symm)] at e
      rw [if_neg y]
      omega
theorem l_w_H {f : Nat → Nat} {g left : Nat} : l_w H lk f g left H = some (f left) := by
  unfold l_w
  rw [if_pos rfl]
theorem l_w_h {f : Nat → Nat} {g left h l : Nat} (hh : h < H) (hl : lk g h = some l) (hd : ¬ left / 5 ^ h % 5 = 0) : l_w H lk f g left h = some (1000 + l + f (left - 5 ^ h)) := by
  unfold l_w
  rw [if_neg (by omega), hl]
  show (if left / 5 ^ h % 5 = 0 then none else _) = _
  rw [if_neg hd]
/-- no way is better -/
theorem y_ub {σ : Nat → Nat} : ∀ (k left : Nat), y_ok H G lk σ k left → y_v H G lk σ k ≤ l_v H lk G k left
  | 0, _, _ => Nat.zero_le _
  | k + 1, left, h => by
    have e : y_v H G lk σ (k + 1) = y_v H G lk σ k + if σ (G - 1 - k) = H then 0 else 1000 + (lk (G - 1 - k) (σ (G - 1 - k))).getD 0 := rfl
    rcases y_ok_s h with ⟨q, h2⟩ | ⟨q, l, hl, hd, h2⟩
    · rw [if_pos q] at e
      have := y_ub k left h2
      have := l_v_ge (k := k) (left := left) (Nat.le_refl H) (l_w_H (lk := lk) (f := l_v H lk G k) (g := G - 1 - k) (left := left))
      omega
    · rw [if_neg (by omega), hl] at e
      have e' : y_v H G lk σ (k + 1) = y_v H G lk σ k + (1000 + l) := e
      have := y_ub k _ h2
      have := l_v_ge (k := k) (left := left) (by omega) (l_w_h (f := l_v H lk G k) q hl hd)
      omega
theorem y_r_lt {σ : Nat → Nat} (hH : H ≤ 6) : ∀ k, (∀ j, j < k → σ (G - 1 - j) ≤ H) → y_r H G σ k < 7 ^ k
  | 0, _ => Nat.one_pos
  | k + 1, h => by
    have ih := y_r_lt hH k (fun j hj => h j (by omega))
    have hd : y_d H (σ (G - 1 - k)) ≤ 6 := by
      unfold y_d
      have := h k (Nat.lt_succ_self k)
      split <;> omega
    have e : y_r H G σ (k + 1) = y_r H G σ k + y_d H (σ (G - 1 - k)) * 7 ^ k := rfl
    have : y_d H (σ (G - 1 - k)) * 7 ^ k ≤ 6 * 7 ^ k := Nat.mul_le_mul_right _ hd
    rw [e, Nat.pow_succ]
    omega
/-- the model's row -/
theorem y_tm {a : Nat} : ∀ k, k ≤ G → y_ok H G lk (l_g H lk G a) k (l_t H lk G a (G - k)) ∧ y_v H G lk (l_g H lk G a) k = l_v H lk G k (l_t H lk G a (G - k))
  | 0, _ => ⟨⟨fun j hj => absurd hj (Nat.not_lt_zero j), fun h _ => Nat.zero_le _⟩, rfl⟩
  | k + 1, hk => by
    obtain ⟨⟨i1, i2⟩, i3⟩ := y_tm (a := a) k (by omega)
    have eg : G - (k + 1) = G - 1 - k := by omega
    have eg1 : G - k = (G - 1 - k) + 1 := by omega
    have ek : G - 1 - (G - 1 - k) = k := by omega
    have ek1 : G - (G - 1 - k) = k + 1 := by omega
    rw [eg]
    generalize hL : l_t H lk G a (G - 1 - k) = left
    have hgdef : l_g H lk G a (G - 1 - k) = l_f H lk (l_v H lk G k) (G - 1 - k) left (l_v H lk G (k + 1) left) := by
      unfold l_g
      rw [ek, ek1, hL]
    obtain ⟨v, hv⟩ := l_m_some (H := H) (lk := lk) (f := l_v H lk G k) (g := G - 1 - k) (left := left)
    have hvv : l_v H lk G (k + 1) left = v := by
      show (l_m H lk (l_v H lk G k) (G - 1 - k) left (H + 1)).getD 0 = v
      rw [hv]
      rfl
    have hfo := l_f_ok hv
    rw [← hvv, ← hgdef] at hfo
    obtain ⟨f1, f2, _⟩ := hfo
    have hnext : l_t H lk G a (G - k) = left - (if l_g H lk G a (G - 1 - k) = H then 0 else 5 ^ l_g H lk G a (G - 1 - k)) := by
      rw [eg1]
      show l_t H lk G a (G - 1 - k) - _ = _
      rw [hgdef, hL, ek, ek1]
    generalize hσ : l_g H lk G a = σ at *
    have e : y_v H G lk σ (k + 1) = y_v H G lk σ k + if σ (G - 1 - k) = H then 0 else 1000 + (lk (G - 1 - k) (σ (G - 1 - k))).getD 0 := rfl
    by_cases q : σ (G - 1 - k) = H
    · rw [if_pos q] at hnext e
      rw [hnext, Nat.sub_zero] at i2 i3
      rw [q, l_w_H] at f2
      refine ⟨⟨fun j hj => ?_, fun h hh => ?_⟩, ?_⟩
      · by_cases y : j = k
        · subst y
          rw [q]
          exact ⟨Nat.le_refl _, fun z => absurd z (Nat.lt_irrefl _)⟩
        · exact i1 j (by omega)
      · have e2 : y_c G σ h (k + 1) = y_c G σ h k + if σ (G - 1 - k) = h then 1 else 0 := rfl
        rw [if_neg (by omega)] at e2
        have := i2 h hh
        omega
      · have := Option.some.inj f2
        omega
    · have hlt : σ (G - 1 - k) < H := by omega
      rw [if_neg q] at hnext e
      rw [hnext] at i2 i3
      unfold l_w at f2
      rw [if_neg q] at f2
      cases hlk : lk (G - 1 - k) (σ (G - 1 - k)) with
      | none => rw [hlk] at f2; cases f2
      | some l =>
        rw [hlk] at f2
        have f2 : (if left / 5 ^ σ (G - 1 - k) % 5 = 0 then none else some (1000 + l + l_v H lk G k (left - 5 ^ σ (G - 1 - k)))) = some (l_v H lk G (k + 1) left) := f2
        by_cases hd : left / 5 ^ σ (G - 1 - k) % 5 = 0
        · rw [if_pos hd] at f2
          cases f2
        · rw [if_neg hd] at f2
          have f3 := Option.some.inj f2
          refine ⟨⟨fun j hj => ?_, fun h hh => ?_⟩, ?_⟩
          · by_cases y : j = k
            · subst y
              exact ⟨by omega, fun _ => ⟨l, hlk⟩⟩
            · exact i1 j (by omega)
          · have e2 : y_c G σ h (k + 1) = y_c G σ h k + if σ (G - 1 - k) = h then 1 else 0 := rfl
            have := i2 h hh
            rw [dg_sub hd] at this
            by_cases y : h = σ (G - 1 - k)
            · rw [if_pos y, ← y] at this
              rw [if_pos y.symm] at e2
              rw [← y] at hd
              omega
            · rw [if_neg y] at this
              rw [if_neg (fun z => y z.symm)] at e2
              omega
          · rw [hlk] at e
            have e' : y_v H G lk σ (k + 1) = y_v H G lk σ k + (1000 + l) := e
            omega
/-- and the first of the best -/
theorem y_lex {a : Nat} (hH : H ≤ 6) {σ : Nat → Nat} : ∀ k, k ≤ G → y_ok H G lk σ k (l_t H lk G a (G - k)) → y_v H G lk σ k = l_v H lk G k (l_t H lk G a (G - k)) → y_r H G (l_g H lk G a) k ≤ y_r H G σ k
  | 0, _, _, _ => Nat.le_refl _
  | k + 1, hk, hok, hv => by
    have tm := y_tm (H := H) (lk := lk) (a := a) (k + 1) hk
    have ih := y_lex (a := a) hH (σ := σ) k (by omega)
    have tk := (y_tm (H := H) (G := G) (lk := lk) (a := a) k (by omega)).1.1
    have eg : G - (k + 1) = G - 1 - k := by omega
    have eg1 : G - k = (G - 1 - k) + 1 := by omega
    have ek : G - 1 - (G - 1 - k) = k := by omega
    have ek1 : G - (G - 1 - k) = k + 1 := by omega
    rw [eg] at hok hv tm
    generalize hL : l_t H lk G a (G - 1 - k) = left at hok hv tm
    have hgdef : l_g H lk G a (G - 1 - k) = l_f H lk (l_v H lk G k) (G - 1 - k) left (l_v H lk G (k + 1) left) := by
      unfold l_g
      rw [ek, ek1, hL]
    have hnext : l_t H lk G a (G - k) = left - (if l_g H lk G a (G - 1 - k) = H then 0 else 5 ^ l_g H lk G a (G - 1 - k)) := by
      rw [eg1]
      show l_t H lk G a (G - 1 - k) - _ = _
      rw [hgdef, hL, ek, ek1]
    rw [hnext] at ih
    -- what σ chooses is as good
    have good : σ (G - 1 - k) ≤ H ∧ l_w H lk (l_v H lk G k) (G - 1 - k) left (σ (G - 1 - k)) = some (l_v H lk G (k + 1) left) ∧ y_ok H G lk σ k (left - (if σ (G - 1 - k) = H then 0 else 5 ^ σ (G - 1 - k))) ∧ y_v H G lk σ k = l_v H lk G k (left - (if σ (G - 1 - k) = H then 0 else 5 ^ σ (G - 1 - k))) := by
      have e : y_v H G lk σ (k + 1) = y_v H G lk σ k + if σ (G - 1 - k) = H then 0 else 1000 + (lk (G - 1 - k) (σ (G - 1 - k))).getD 0 := rfl
      rcases y_ok_s hok with ⟨q, h2⟩ | ⟨q, l, hl, hd, h2⟩
      · rw [if_pos q] at e
        have u1 := y_ub k left h2
        have u2 := l_v_ge (k := k) (left := left) (Nat.le_refl H) (l_w_H (lk := lk) (f := l_v H lk G k) (g := G - 1 - k) (left := left))
        rw [if_pos q, Nat.sub_zero, q, l_w_H]
        exact ⟨Nat.le_refl _, congrArg some (by omega), h2, by omega⟩
      · rw [if_neg (by omega), hl] at e
        have e' : y_v H G lk σ (k + 1) = y_v H G lk σ k + (1000 + l) := e
        have u1 := y_ub k _ h2
        have u2 := l_v_ge (k := k) (left := left) (by omega) (l_w_h (f := l_v H lk G k) q hl hd)
        rw [if_neg (by omega), l_w_h q hl hd]
        exact ⟨by omega, congrArg some (by omega), h2, by omega⟩
    obtain ⟨g1, g2, g3, g4⟩ := good
    have hle : l_g H lk G a (G - 1 - k) ≤ σ (G - 1 - k) := by
      rw [hgdef]
      unfold l_f
      cases hf : (List.range (H + 1)).find? (fun h => decide (l_w H lk (l_v H lk G k) (G - 1 - k) left h = some (l_v H lk G (k + 1) left))) with
      | none =>
        have := List.find?_eq_none.mp hf (σ (G - 1 - k)) (List.mem_range.mpr (by omega))
        exact absurd (decide_eq_true g2) this
      | some x =>
        show x ≤ _
        refine Nat.le_of_not_lt (fun z => ?_)
        have := List.find?_range_eq_some.mp hf
        exact absurd g2 (by
          have h3 := this.2.2 (σ (G - 1 - k)) z
          simpa using h3)
    have e1 : y_r H G (l_g H lk G a) (k + 1) = y_r H G (l_g H lk G a) k + y_d H (l_g H lk G a (G - 1 - k)) * 7 ^ k := rfl
    have e2 : y_r H G σ (k + 1) = y_r H G σ k + y_d H (σ (G - 1 - k)) * 7 ^ k := rfl
    by_cases q : l_g H lk G a (G - 1 - k) = σ (G - 1 - k)
    · rw [q] at ih e1
      have := ih g3 g4
      omega
    · have hlt : y_d H (l_g H lk G a (G - 1 - k)) + 1 ≤ y_d H (σ (G - 1 - k)) := by
        unfold y_d
        rw [if_neg (by omega)]
        split <;> omega
      have r1 := y_r_lt (G := G) (σ := l_g H lk G a) hH k (fun j hj => (tk j hj).1)
      have : (y_d H (l_g H lk G a (G - 1 - k)) + 1) * 7 ^ k ≤ y_d H (σ (G - 1 - k)) * 7 ^ k := Nat.mul_le_mul_right _ hlt
      rw [Nat.add_mul, Nat.one_mul] at this
      omega
end LOD

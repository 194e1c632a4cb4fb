/-! HOMES FOR GUESTS: the class's way -/
section SUMS
variable {G : Nat}
def y_s (G : Nat) (F : Nat → Nat) : Nat → Nat
  | 0 => 0
  | k + 1 => y_s G F k + F (G - 1 - k)
def f_s (F : Nat → Nat) : Nat → Nat
  | 0 => 0
  | n + 1 => f_s F n + F n
theorem y_f (F : Nat → Nat) : ∀ k, k ≤ G → f_s F G = f_s F (G - k) + y_s G F k
  | 0, _ => rfl
  | k + 1, hk => by
    rw [y_f F k (by omega)]
    have e : G - k = (G - 1 - k) + 1 := by omega
    have e2 : G - (k + 1) = G - 1 - k := by omega
    rw [e, e2]
    show f_s F (G - 1 - k) + F (G - 1 - k) + y_s G F k = f_s F (G - 1 - k) + (y_s G F k + F (G - 1 - k))
    omega
theorem y_f0 (F : Nat → Nat) : y_s G F G = f_s F G := by
  have := y_f (G := G) F G (Nat.le_refl _)
  rw [Nat.sub_self] at this
  have e : f_s F 0 = 0 := rfl
  omega
theorem f_s_c {F F' : Nat → Nat} : ∀ n, (∀ g, g < n → F g = F' g) → f_s F n = f_s F' n
  | 0, _ => rfl
  | n + 1, h => by
    show f_s F n + F n = f_s F' n + F' n
    rw [f_s_c n (fun g hg => h g (by omega)), h n (by omega)]
theorem f_s_le {F : Nat → Nat} {c : Nat} : ∀ n, (∀ g, g < n → F g ≤ c) → f_s F n ≤ c * n
  | 0, _ => Nat.zero_le _
  | n + 1, h => by
    have := f_s_le n (fun g hg => h g (by omega))
    have := h n (by omega)
    show f_s F n + F n ≤ c * (n + 1)
    rw [Nat.mul_add]
    omega
theorem f_s_cp (p : Nat → Bool) : ∀ n, f_s (fun g => if p g = true then 1 else 0) n = (List.range n).countP p
  | 0 => rfl
  | n + 1 => by
    rw [List.range_succ, List.countP_append, ← f_s_cp p n, List.countP_cons, List.countP_nil, Nat.zero_add]
    rfl
theorem yc_s (σ : Nat → Nat) (h : Nat) : ∀ k, y_c G σ h k = y_s G (fun g => if σ g = h then 1 else 0) k
  | 0 => rfl
  | k + 1 => by
    show y_c G σ h k + _ = y_s G _ k + _
    rw [yc_s σ h k]
theorem yc_cp (σ : Nat → Nat) (h : Nat) : y_c G σ h G = (List.range G).countP (fun g => decide (σ g = h)) := by
  rw [yc_s, y_f0, ← f_s_cp]
  refine f_s_c G (fun g _ => ?_)
  by_cases q : σ g = h
  · rw [if_pos q, if_pos (decide_eq_true q)]
  · rw [if_neg q, if_neg (by rw [decide_eq_true_iff]; exact q)]
theorem yr_s (H : Nat) (σ : Nat → Nat) : ∀ k, k ≤ G → y_r H G σ k = y_s G (fun g => y_d H (σ g) * 7 ^ (G - (g + 1))) k
  | 0, _ => rfl
  | k + 1, hk => by
    show y_r H G σ k + _ = y_s G _ k + y_d H (σ (G - 1 - k)) * 7 ^ (G - (G - 1 - k + 1))
    rw [yr_s H σ k (by omega), show G - (G - 1 - k + 1) = k by omega]
theorem yv_s (H : Nat) (lk : Nat → Nat → Option Nat) (σ : Nat → Nat) : ∀ k, y_v H G lk σ k = y_s G (fun g => if σ g = H then 0 else 1000 + (lk g (σ g)).getD 0) k
  | 0 => rfl
  | k + 1 => by
    show y_v H G lk σ k + _ = y_s G _ k + _
    rw [yv_s H lk σ k]
/-- how many, how much they like it -/
def y_N (H : Nat) (σ : Nat → Nat) (n : Nat) : Nat := f_s (fun g => if σ g = H then 0 else 1) n
def y_L (H : Nat) (lk : Nat → Nat → Option Nat) (σ : Nat → Nat) (n : Nat) : Nat := f_s (fun g => if σ g = H then 0 else (lk g (σ g)).getD 0) n
theorem yv_NL (H : Nat) (lk : Nat → Nat → Option Nat) (σ : Nat → Nat) : y_v H G lk σ G = 1000 * y_N H σ G + y_L H lk σ G := by
  rw [yv_s, y_f0]
  unfold y_N y_L
  have : ∀ n, f_s (fun g => if σ g = H then 0 else 1000 + (lk g (σ g)).getD 0) n = 1000 * f_s (fun g => if σ g = H then 0 else 1) n + f_s (fun g => if σ g = H then 0 else (lk g (σ g)).getD 0) n := by
    intro n
    induction n with
    | zero => rfl
    | succ n ih =>
      show f_s _ n + (if σ n = H then 0 else 1000 + (lk n (σ n)).getD 0) = 1000 * (f_s _ n + (if σ n = H then 0 else 1)) + (f_s _ n + (if σ n = H then 0 else (lk n (σ n)).getD 0))
      rw [ih]
      split <;> omega
  exact this G
/-- one number, one row -/
theorem yr_inj {H : Nat} (hH : H ≤ 6) {σ τ : Nat → Nat} : ∀ k, (∀ j, j < k → σ (G - 1 - j) ≤ H) → (∀ j, j < k → τ (G - 1 - j) ≤ H) → y_r H G σ k = y_r H G τ k → ∀ j, j < k → σ (G - 1 - j) = τ (G - 1 - j)
  | 0, _, _, _ => fun j hj => absurd hj (Nat.not_lt_zero j)
  | k + 1, h1, h2, e => fun j hj => by
    have r1 := y_r_lt (G := G) (σ := σ) hH k (fun j hj => h1 j (by omega))
    have r2 := y_r_lt (G := G) (σ := τ) hH k (fun j hj => h2 j (by omega))
    have e1 : y_r H G σ (k + 1) = y_r H G σ k + y_d H (σ (G - 1 - k)) * 7 ^ k := rfl
    have e2 : y_r H G τ (k + 1) = y_r H G τ k + y_d H (τ (G - 1 - k)) * 7 ^ k := rfl
    have hp : 0 < 7 ^ k := Nat.pow_pos (by decide)
    have ed : y_d H (σ (G - 1 - k)) = y_d H (τ (G - 1 - k)) := by
      have d1 : (y_r H G σ (k + 1)) / 7 ^ k = y_d H (σ (G - 1 - k)) := by
        rw [e1, Nat.add_mul_div_right _ _ hp, Nat.div_eq_of_lt r1, Nat.zero_add]
      have d2 : (y_r H G τ (k + 1)) / 7 ^ k = y_d H (τ (G - 1 - k)) := by
        rw [e2, Nat.add_mul_div_right _ _ hp, Nat.div_eq_of_lt r2, Nat.zero_add]
      rw [← d1, ← d2, e]
    have hk : σ (G - 1 - k) = τ (G - 1 - k) := by
      have a := h1 k (by omega)
      have b := h2 k (by omega)
      unfold y_d at ed
      split at ed <;> split at ed <;> omega
    by_cases q : j = k
    · rw [q]; exact hk
    · refine yr_inj hH k (fun j hj => h1 j (by omega)) (fun j hj => h2 j (by omega)) ?_ j (by omega)
      rw [e1, e2, ed] at e
      omega
end SUMS
/-- as many as have places of their own in a stretch of b -/
theorem cnt_le {G b c : Nat} {col : Nat → Nat} {p : Nat → Bool} (hin : ∀ g, g < G → p g = true → c < col g ∧ col g ≤ c + b) (hinj : ∀ g g', g < G → g' < G → col g = col g' → g = g') : (List.range G).countP p ≤ b := by
  rw [List.countP_eq_length_filter]
  have hm : ∀ j (hj : j < ((List.range G).filter p).length), ((List.range G).filter p)[j] < G ∧ p ((List.range G).filter p)[j] = true := fun j hj => by
    have := List.getElem_mem hj
    rw [List.mem_filter, List.mem_range] at this
    exact this
  refine h_pig b _ (fun j => col (((List.range G).filter p).getD j 0) - c - 1) (fun j hj => ?_) (fun i j hi hj e => ?_)
  · rw [gD hj]
    have := hin _ (hm j hj).1 (hm j hj).2
    omega
  · rw [gD hi, gD hj] at e
    have a := hin _ (hm i hi).1 (hm i hi).2
    have b' := hin _ (hm j hj).1 (hm j hj).2
    have := hinj _ _ (hm i hi).1 (hm j hj).1 (by omega)
    exact (List.getElem_inj (fl_nd p G)).mp this
theorem cp_mono (p : Nat → Bool) {i n : Nat} (h : i ≤ n) : (List.range i).countP p ≤ (List.range n).countP p := by
  induction n with
  | zero => rw [show i = 0 by omega]; exact Nat.le_refl _
  | succ n ih =>
    by_cases q : i = n + 1
    · rw [q]; exact Nat.le_refl _
    · rw [List.range_succ, List.countP_append]
      have := ih (by omega)
      omega
theorem cp_lt (p : Nat → Bool) {i n : Nat} (h : i < n) (hp : p i = true) : (List.range i).countP p < (List.range n).countP p := by
  have := cp_mono p (show i + 1 ≤ n from h)
  rw [List.range_succ, List.countP_append, List.countP_cons, List.countP_nil, if_pos hp] at this
  omega
theorem all_dg {B : Nat → Nat} {H : Nat} (hB : ∀ h, h < H → B h ≤ 4) : ∀ n, n ≤ H → ∀ h, h < n → l_all B n / 5 ^ h % 5 = B h
  | 0, _, h, hh => absurd hh (Nat.not_lt_zero h)
  | n + 1, hn, h, hh => by
    have lt := l_all_lt hB n (by omega)
    have e : l_all B (n + 1) = l_all B n + B n * 5 ^ n := rfl
    rw [e]
    by_cases q : h = n
    · subst q
      rw [Nat.add_mul_div_right _ _ (pow5_pos h), Nat.div_eq_of_lt lt, Nat.zero_add, Nat.mod_eq_of_lt]
      have := hB h (by omega)
      omega
    · have ih := all_dg hB n (by omega) h (by omega)
      obtain ⟨m, rfl⟩ : ∃ m, n = h + 1 + m := ⟨n - h - 1, by omega⟩
      have e2 : B (h + 1 + m) * 5 ^ (h + 1 + m) = (B (h + 1 + m) * 5 ^ m * 5) * 5 ^ h := by
        rw [Nat.pow_add, Nat.pow_succ]
        simp only [Nat.mul_assoc, Nat.mul_comm, Nat.mul_left_comm]
      rw [e2, Nat.add_mul_div_right _ _ (pow5_pos h), Nat.add_mul_mod_self_right]
      exact ih
theorem sb_mono {M : eg_M} {i j : Nat} (h : i ≤ j) : k_sb M i ≤ k_sb M j := by
  induction j with
  | zero => rw [show i = 0 by omega]; exact Nat.le_refl _
  | succ j ih =>
    by_cases q : i = j + 1
    · rw [q]; exact Nat.le_refl _
    · exact Nat.le_trans (ih (by omega)) (Nat.le_add_right _ _)
theorem ls_nn {F : Nat → Int} : ∀ n, (∀ g, g < n → 0 ≤ F g) → 0 ≤ lb_s F n ∧ ∀ g, g < n → F g ≤ lb_s F n
  | 0, _ => ⟨Int.le_refl _, fun g hg => absurd hg (Nat.not_lt_zero g)⟩
  | n + 1, h => by
    obtain ⟨h1, h2⟩ := ls_nn n (fun g hg => h g (by omega))
    have h3 := h n (by omega)
    have e : lb_s F (n + 1) = lb_s F n + F n := rfl
    refine ⟨by omega, fun g hg => ?_⟩
    by_cases q : g = n
    · rw [q]; omega
    · have := h2 g (by omega)
      omega
theorem ls_const (c : Int) : ∀ n : Nat, lb_s (fun _ => c) n = c * n
  | 0 => by
    show (0 : Int) = c * (0 : Nat)
    simp
  | n + 1 => by
    show lb_s _ n + c = c * ((n + 1 : Nat) : Int)
    rw [ls_const c n, Int.natCast_add, Int.mul_add]
    simp
section LB
variable {M : eg_M} {H G : Nat} {lk : Nat → Nat → Option Nat}
/-- what a row costs -/
theorem cost_eq (hH : H ≤ 6) (hlk : ∀ g h, g < G → h < H → (k_lk M g h = -nI 1 ∧ lk g h = none) ∨ ∃ l, l ≤ 34 ∧ k_lk M g h = nI l ∧ lk g h = some l) {σ : Nat → Nat} (hσ : ∀ g, g < G → σ g ≤ H ∧ (σ g < H → ∃ l, lk g (σ g) = some l)) : ∀ n, n ≤ G → lb_s (fun g => lb_cs M G g (y_d H (σ g))) n = (f_s (fun g => y_d H (σ g) * 7 ^ (G - (g + 1))) n : Int) - 5764801 * (y_L H lk σ n : Int) - 1729440300 * (y_N H σ n : Int)
  | 0, _ => by
    show (0 : Int) = ((0 : Nat) : Int) - 5764801 * ((0 : Nat) : Int) - 1729440300 * ((0 : Nat) : Int)
    rfl
  | n + 1, hn => by
    have ih := cost_eq hH hlk hσ n (by omega)
    obtain ⟨s1, s2⟩ := hσ n (by omega)
    have eL : y_L H lk σ (n + 1) = y_L H lk σ n + (if σ n = H then 0 else (lk n (σ n)).getD 0) := rfl
    have eN : y_N H σ (n + 1) = y_N H σ n + (if σ n = H then 0 else 1) := rfl
    have eF : f_s (fun g => y_d H (σ g) * 7 ^ (G - (g + 1))) (n + 1) = f_s (fun g => y_d H (σ g) * 7 ^ (G - (g + 1))) n + y_d H (σ n) * 7 ^ (G - (n + 1)) := rfl
    have eS : lb_s (fun g => lb_cs M G g (y_d H (σ g))) (n + 1) = lb_s (fun g => lb_cs M G g (y_d H (σ g))) n + lb_cs M G n (y_d H (σ n)) := rfl
    rw [eS, ih, eL, eN, eF]
    by_cases q : σ n = H
    · rw [if_pos q, if_pos q]
      have : lb_cs M G n (y_d H (σ n)) = ((y_d H (σ n) * 7 ^ (G - (n + 1)) : Nat) : Int) := by
        unfold y_d
        rw [if_pos q]
        unfold lb_cs
        rw [if_pos rfl, Int.natCast_mul]
        rfl
      rw [this, Int.natCast_add]
      omega
    · have hlt : σ n < H := by omega
      obtain ⟨l, hl⟩ := s2 hlt
      rw [if_neg q, if_neg q, hl]
      rcases hlk n (σ n) (by omega) hlt with ⟨_, z⟩ | ⟨l', hl', z1, z2⟩
      · rw [hl] at z
        cases z
      · rw [hl] at z2
        cases z2
        have : lb_cs M G n (y_d H (σ n)) = ((y_d H (σ n) * 7 ^ (G - (n + 1)) : Nat) : Int) - (l : Int) * 5764801 - 1729440300 := by
          unfold y_d
          rw [if_neg q]
          unfold lb_cs
          rw [if_neg (by omega), z1, if_neg (nI_m1 (by omega)), nI_toInt (by omega), Int.natCast_mul]
        rw [this, Int.natCast_add, Int.natCast_add, Int.natCast_add]
        show _ = _ - 5764801 * (_ + ((l : Nat) : Int)) - 1729440300 * (_ + ((1 : Nat) : Int))
        omega
/-- a row that keeps the beds has columns of its own -/
theorem way_of {kd : Nat → Nat} (hH : H ≤ 6) (hK : lb_K M H G kd) {σ : Nat → Nat} (hσ : ∀ g, g < G → σ g ≤ H) (hc : ∀ h, h < H → (List.range G).countP (fun g => decide (σ g = h)) ≤ (eg_gi M 47 h).toNatClampNeg) : ∃ col, lb_v (k_sb M H + G) G col ∧ ∀ g, g < G → kd (col g) = y_d H (σ g) := by
  refine ⟨fun g => if σ g = H then k_sb M H + 1 + g else k_sb M (σ g) + 1 + (List.range g).countP (fun x => decide (σ x = σ g)), ⟨fun g hg => ?_, fun g g' hg hg' e => ?_⟩, fun g hg => ?_⟩
  all_goals
    have inH : ∀ g, g < G → ¬ σ g = H → k_sb M (σ g) + 1 + (List.range g).countP (fun x => decide (σ x = σ g)) ≤ k_sb M (σ g + 1) := fun g hg q => by
      have h1 := hc (σ g) (by have := hσ g hg; omega)
      have h2 := cp_lt (fun x => decide (σ x = σ g)) hg (decide_eq_true rfl)
      have e : k_sb M (σ g + 1) = k_sb M (σ g) + (eg_gi M 47 (σ g)).toNatClampNeg := rfl
      omega
  · by_cases q : σ g = H
    · show 1 ≤ (if σ g = H then _ else _) ∧ (if σ g = H then _ else _) ≤ _
      rw [if_pos q]
      omega
    · show 1 ≤ (if σ g = H then _ else _) ∧ (if σ g = H then _ else _) ≤ _
      rw [if_neg q]
      have h1 := inH g hg q
      have h2 := sb_mono (M := M) (show σ g + 1 ≤ H by have := hσ g hg; omega)
      omega
  · have e : (if σ g = H then k_sb M H + 1 + g else k_sb M (σ g) + 1 + (List.range g).countP (fun x => decide (σ x = σ g))) = (if σ g' = H then k_sb M H + 1 + g' else k_sb M (σ g') + 1 + (List.range g').countP (fun x => decide (σ x = σ g'))) := e
    by_cases q : σ g = H
    · rw [if_pos q] at e
      by_cases q' : σ g' = H
      · rw [if_pos q'] at e
        omega
      · rw [if_neg q'] at e
        have h1 := inH g' hg' q'
        have h2 := sb_mono (M := M) (show σ g' + 1 ≤ H by have := hσ g' hg'; omega)
        omega
    · rw [if_neg q] at e
      by_cases q' : σ g' = H
      · rw [if_pos q'] at e
        have h1 := inH g hg q
        have h2 := sb_mono (M := M) (show σ g + 1 ≤ H by have := hσ g hg; omega)
        omega
      · rw [if_neg q'] at e
        have h1 := inH g hg q
        have h2 := inH g' hg' q'
        rcases Nat.lt_trichotomy (σ g) (σ g') with y | y | y
        · have := sb_mono (M := M) (show σ g + 1 ≤ σ g' from y)
          omega
        · rw [y] at e
          rcases Nat.lt_trichotomy g g' with z | z | z
          · have := cp_lt (fun x => decide (σ x = σ g')) z (decide_eq_true y)
            omega
          · exact z
          · have := cp_lt (fun x => decide (σ x = σ g')) z (decide_eq_true rfl)
            omega
        · have := sb_mono (M := M) (show σ g' + 1 ≤ σ g from y)
          omega
  · show kd (if σ g = H then _ else _) = _
    unfold y_d
    by_cases q : σ g = H
    · rw [if_pos q, if_pos q]
      exact hK.2 _ (by omega) (by omega)
    · rw [if_neg q, if_neg q]
      exact hK.1 (σ g) _ (by have := hσ g hg; omega) (by omega) (inH g hg q)
end LB
/-- class and model find the same row -/
theorem lodge_eq {M : eg_M} {H G : Nat} {lk : Nat → Nat → Option Nat} (hH : H ≤ 6) (hG : G ≤ 8) (hB : ∀ h, h < H → (eg_gi M 47 h).toNatClampNeg ≤ 4) (hlk : ∀ g h, g < G → h < H → (k_lk M g h = -nI 1 ∧ lk g h = none) ∨ ∃ l, l ≤ 34 ∧ k_lk M g h = nI l ∧ lk g h = some l) {sg : Nat → Nat} (hb : lb_B M H G sg) : ∀ a, a = l_all (fun h => (eg_gi M 47 h).toNatClampNeg) H → (∀ g, g < G → sg g = y_d H (l_g H lk G a g) ∧ l_g H lk G a g ≤ H ∧ (l_g H lk G a g < H → ∃ l, lk g (l_g H lk G a g) = some l)) ∧ l_v H lk G G a = 1000 * y_N H (l_g H lk G a) G + y_L H lk (l_g H lk G a) G ∧ y_L H lk (l_g H lk G a) G ≤ 272 ∧ y_N H (l_g H lk G a) G ≤ 8 := by
  intro a ha
  obtain ⟨kd, col, hK, hv, hkd, hmin⟩ := hb
  have dg : ∀ h, h < H → a / 5 ^ h % 5 = (eg_gi M 47 h).toNatClampNeg := fun h hh => by
    rw [ha]
    exact all_dg (B := fun h => (eg_gi M 47 h).toNatClampNeg) hB H (Nat.le_refl _) h hh
  -- where the class puts them
  have where_ : ∀ g, g < G → (sg g = 6 ∧ k_sb M H < col g) ∨ (sg g < H ∧ k_sb M (sg g) < col g ∧ col g ≤ k_sb M (sg g) + (eg_gi M 47 (sg g)).toNatClampNeg) := fun g hg => by
    obtain ⟨c1, c2⟩ := hv.1 g hg
    have e := hkd g hg
    by_cases q : col g ≤ k_sb M H
    · obtain ⟨h, q1, q2, q3⟩ := k_sb_in H (col g) c1 q
      have := hK.1 h (col g) q1 q2 q3
      rw [e] at this
      rw [this]
      exact Or.inr ⟨q1, q2, q3⟩
    · have := hK.2 (col g) (by omega) c2
      rw [e] at this
      exact Or.inl ⟨this, by omega⟩
  -- its row, none as H
  have hsc : ∀ g, g < G → y_d H (if sg g = 6 then H else sg g) = sg g := fun g hg => by
    unfold y_d
    rcases where_ g hg with ⟨z, _⟩ | ⟨z, _⟩
    · rw [if_pos z, if_pos rfl, z]
    · rw [if_neg (show ¬ sg g = 6 by omega), if_neg (show ¬ sg g = H by omega)]
  have hcap : ∀ h, h < H → (List.range G).countP (fun g => decide ((if sg g = 6 then H else sg g) = h)) ≤ (eg_gi M 47 h).toNatClampNeg := fun h hh => by
    refine cnt_le (c := k_sb M h) (col := col) (fun g hg hp => ?_) hv.2
    have hp := decide_eq_true_iff.mp hp
    rcases where_ g hg with ⟨z, _⟩ | ⟨z1, z2⟩
    · rw [if_pos z] at hp
      omega
    · rw [if_neg (by omega)] at hp
      rw [hp] at z2
      exact z2
  -- any row that keeps the beds costs no less
  have cheap : ∀ σ : Nat → Nat, (∀ g, g < G → σ g ≤ H) → (∀ h, h < H → (List.range G).countP (fun g => decide (σ g = h)) ≤ (eg_gi M 47 h).toNatClampNeg) → lb_s (fun g => lb_cs M G g (sg g)) G ≤ lb_s (fun g => lb_cs M G g (y_d H (σ g))) G := fun σ h1 h2 => by
    obtain ⟨col', w1, w2⟩ := way_of hH hK h1 h2
    have := hmin col' w1
    rw [lb_s_c G (F := fun g => lb_cs M G g (kd (col' g))) (F' := fun g => lb_cs M G g (y_d H (σ g))) (fun g hg => by show lb_cs M G g (kd (col' g)) = _; rw [w2 g hg])] at this
    exact this
  have p7 : 7 ^ G ≤ 5764801 := Nat.le_trans (Nat.pow_le_pow_right (by decide) hG) (by decide)
  have rowlt : ∀ σ : Nat → Nat, (∀ g, g < G → σ g ≤ H) → f_s (fun g => y_d H (σ g) * 7 ^ (G - (g + 1))) G < 7 ^ G ∧ f_s (fun g => y_d H (σ g) * 7 ^ (G - (g + 1))) G = y_r H G σ G := fun σ h1 => by
    have e : y_r H G σ G = f_s (fun g => y_d H (σ g) * 7 ^ (G - (g + 1))) G := by rw [yr_s H σ G (Nat.le_refl _), y_f0]
    rw [← e]
    by_cases q : G = 0
    · subst q
      exact ⟨Nat.one_pos, rfl⟩
    · exact ⟨y_r_lt hH G (fun j hj => h1 _ (by omega)), rfl⟩
  -- none is where it may not be
  have hlik : ∀ g, g < G → (if sg g = 6 then H else sg g) ≤ H ∧ ((if sg g = 6 then H else sg g) < H → ∃ l, lk g (if sg g = 6 then H else sg g) = some l) := fun g0 hg0 => by
    rcases where_ g0 hg0 with ⟨z, _⟩ | ⟨z1, z2⟩
    · rw [if_pos z]
      exact ⟨Nat.le_refl _, fun y => absurd y (Nat.lt_irrefl _)⟩
    · rw [if_neg (by omega)]
      refine ⟨by omega, fun _ => ?_⟩
      rcases hlk g0 (sg g0) hg0 z1 with ⟨y1, y2⟩ | ⟨l, _, _, y⟩
      · exfalso
        have c0 := cheap (fun _ => H) (fun _ _ => Nat.le_refl _) (fun h hh => by
          have : (List.range G).countP (fun g => decide (H = h)) = 0 := by
            rw [List.countP_eq_zero]
            intro g _ z
            have := decide_eq_true_iff.mp z
            omega
          rw [this]
          exact Nat.zero_le _)
        have c1 := cost_eq (M := M) (lk := lk) hH hlk (σ := fun _ => H) (fun g hg => ⟨Nat.le_refl _, fun y => absurd y (Nat.lt_irrefl _)⟩) G (Nat.le_refl _)
        have r0 := (rowlt (fun _ => H) (fun _ _ => Nat.le_refl _)).1
        have hlow : ∀ g, g < G → 0 ≤ lb_cs M G g (sg g) + 1925443534 := fun g hg => by
          rcases where_ g hg with ⟨z, _⟩ | ⟨w1, w2⟩
          · rw [z]
            unfold lb_cs
            rw [if_pos rfl]
            have hz := Int.natCast_nonneg (7 ^ (G - (g + 1)))
            generalize ((7 ^ (G - (g + 1)) : Nat) : Int) = zz at hz ⊢
            omega
          · unfold lb_cs
            rw [if_neg (by omega)]
            rcases hlk g (sg g) hg w1 with ⟨x1, _⟩ | ⟨l, hl, x1, _⟩
            · rw [if_pos x1]
              omega
            · rw [x1, if_neg (nI_m1 (by omega)), nI_toInt (by omega)]
              have : (0 : Int) ≤ (sg g : Int) * ((7 ^ (G - (g + 1)) : Nat) : Int) := Int.mul_nonneg (Int.natCast_nonneg _) (Int.natCast_nonneg _)
              generalize (sg g : Int) * ((7 ^ (G - (g + 1)) : Nat) : Int) = zz at this ⊢
              omega
        have big := (ls_nn (F := fun g => lb_cs M G g (sg g) + 1925443534) G hlow).2 g0 hg0
        have e1 : lb_s (fun g => lb_cs M G g (sg g) + 1925443534) G = lb_s (fun g => lb_cs M G g (sg g)) G + lb_s (fun _ => 1925443534) G := lb_s_add G
        rw [e1, ls_const] at big
        have e2 : lb_cs M G g0 (sg g0) = 172944030000 := by
          unfold lb_cs
          rw [if_neg (by omega), if_pos y1]
        rw [e2] at big
        rw [c1] at c0
        omega
      · exact ⟨l, y⟩
  have okc : y_ok H G lk (fun g => if sg g = 6 then H else sg g) G a := by
    refine ⟨fun j hj => hlik (G - 1 - j) (by omega), fun h hh => ?_⟩
    rw [yc_cp, dg h hh]
    exact hcap h hh
  obtain ⟨okm, vm⟩ := y_tm (H := H) (lk := lk) (a := a) G (Nat.le_refl _)
  rw [Nat.sub_self] at okm vm
  have e0 : l_t H lk G a 0 = a := rfl
  rw [e0] at okm vm
  have okm1 : ∀ g, g < G → l_g H lk G a g ≤ H ∧ (l_g H lk G a g < H → ∃ l, lk g (l_g H lk G a g) = some l) := fun g hg => by
    have := okm.1 (G - 1 - g) (by omega)
    rw [show G - 1 - (G - 1 - g) = g by omega] at this
    exact this
  have capm : ∀ h, h < H → (List.range G).countP (fun g => decide (l_g H lk G a g = h)) ≤ (eg_gi M 47 h).toNatClampNeg := fun h hh => by
    have := okm.2 h hh
    rw [yc_cp, dg h hh] at this
    exact this
  have Lb : ∀ σ : Nat → Nat, (∀ g, g < G → σ g ≤ H ∧ (σ g < H → ∃ l, lk g (σ g) = some l)) → y_L H lk σ G ≤ 272 ∧ y_N H σ G ≤ 8 := fun σ h1 => by
    constructor
    · have := f_s_le (F := fun g => if σ g = H then 0 else (lk g (σ g)).getD 0) (c := 34) G (fun g hg => by
        show (if σ g = H then 0 else (lk g (σ g)).getD 0) ≤ 34
        by_cases q : σ g = H
        · rw [if_pos q]; omega
        · rw [if_neg q]
          obtain ⟨s1, s2⟩ := h1 g hg
          obtain ⟨l, hl⟩ := s2 (by omega)
          rcases hlk g (σ g) hg (by omega) with ⟨_, z⟩ | ⟨l', hl', _, z⟩
          · rw [hl] at z; cases z
          · rw [z]
            exact hl')
      unfold y_L
      omega
    · have := f_s_le (F := fun g => if σ g = H then 0 else 1) (c := 1) G (fun g _ => by
        show (if σ g = H then 0 else 1) ≤ 1
        split <;> omega)
      unfold y_N
      omega
  have c1 := cheap (l_g H lk G a) (fun g hg => (okm1 g hg).1) capm
  have e1 : lb_s (fun g => lb_cs M G g (sg g)) G = lb_s (fun g => lb_cs M G g (y_d H ((fun g => if sg g = 6 then H else sg g) g))) G := lb_s_c G (fun g hg => by
    show lb_cs M G g (sg g) = lb_cs M G g (y_d H (if sg g = 6 then H else sg g))
    rw [hsc g hg])
  rw [e1, cost_eq hH hlk hlik G (Nat.le_refl _), cost_eq hH hlk okm1 G (Nat.le_refl _)] at c1
  have ub := y_ub G a okc
  obtain ⟨Lc, Nc⟩ := Lb _ hlik
  obtain ⟨Lm, Nm⟩ := Lb _ okm1
  obtain ⟨rc, rc2⟩ := rowlt (fun g => if sg g = 6 then H else sg g) (fun g hg => (hlik g hg).1)
  obtain ⟨rm, rm2⟩ := rowlt (l_g H lk G a) (fun g hg => (okm1 g hg).1)
  rw [← vm, yv_NL, yv_NL] at ub
  rw [rc2] at rc
  rw [rm2] at rm
  rw [rc2, rm2] at c1
  have hN : y_N H (fun g => if sg g = 6 then H else sg g) G = y_N H (l_g H lk G a) G := by omega
  have hL : y_L H lk (fun g => if sg g = 6 then H else sg g) G = y_L H lk (l_g H lk G a) G := by omega
  have hr1 : y_r H G (fun g => if sg g = 6 then H else sg g) G ≤ y_r H G (l_g H lk G a) G := by omega
  have hr2 := y_lex (H := H) (lk := lk) (a := a) hH (σ := fun g => if sg g = 6 then H else sg g) G (Nat.le_refl _) (by rw [Nat.sub_self]; exact okc) (by rw [Nat.sub_self, e0, ← vm, yv_NL, yv_NL, hN, hL])
  have hdig := yr_inj (G := G) hH (σ := fun g => if sg g = 6 then H else sg g) (τ := l_g H lk G a) G (fun j hj => (hlik _ (by omega)).1) (fun j hj => (okm1 _ (by omega)).1) (by omega)
  refine ⟨fun g hg => ⟨?_, okm1 g hg⟩, by rw [← vm, yv_NL], Lm, Nm⟩
  have := hdig (G - 1 - g) (by omega)
  rw [show G - 1 - (G - 1 - g) = g by omega] at this
  rw [← this]
  exact (hsc g hg).symm

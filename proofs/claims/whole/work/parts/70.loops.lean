/-! homes for guests: the cheapest way is the best -/
def lb_s (F : Nat → Int) : Nat → Int
  | 0 => 0
  | g + 1 => lb_s F g + F g
theorem lb_s_c {F F' : Nat → Int} : ∀ n, (∀ g, g < n → F g = F' g) → lb_s F n = lb_s F' n
  | 0, _ => rfl
  | n + 1, h => by
    rw [lb_s, lb_s, lb_s_c n (fun g hg => h g (by omega)), h n (by omega)]
theorem lb_s_le {F F' : Nat → Int} : ∀ n, (∀ g, g < n → F g ≤ F' g) → lb_s F n ≤ lb_s F' n
  | 0, _ => Int.le_refl _
  | n + 1, h => by
    have h1 := lb_s_le n (fun g hg => h g (by omega))
    have h2 := h n (by omega)
    rw [lb_s, lb_s]
    omega
theorem lb_s_add {F F' : Nat → Int} : ∀ n, lb_s (fun g => F g + F' g) n = lb_s F n + lb_s F' n
  | 0 => rfl
  | n + 1 => by
    rw [lb_s, lb_s, lb_s, lb_s_add n]
    omega
theorem lb_s_set {v : Nat → Int} {c : Nat} : ∀ n, lb_s (fun j => if j = c then 0 else v j) n = if c < n then lb_s v n - v c else lb_s v n
  | 0 => rfl
  | n + 1 => by
    rw [lb_s, lb_s, lb_s_set n]
    by_cases h : c < n
    · rw [if_pos h, if_neg (by omega), if_pos (by omega)]
      omega
    · rw [if_neg h]
      by_cases h2 : n = c
      · rw [if_pos h2, if_pos (by omega), h2]
        omega
      · rw [if_neg h2, if_neg (by omega)]
def lb_v (n G : Nat) (col : Nat → Nat) : Prop := (∀ g, g < G → 1 ≤ col g ∧ col g ≤ n) ∧ ∀ g g', g < G → g' < G → col g = col g' → g = g'
theorem lb_low {n : Nat} {col : Nat → Nat} : ∀ (G : Nat) (v : Nat → Int), lb_v n G col → (∀ j, j ≤ n → v j ≤ 0) → lb_s v (n + 1) ≤ lb_s (fun g => v (col g)) G
  | 0, v, _, h => by
    have : ∀ m, m ≤ n + 1 → lb_s v m ≤ 0 := by
      intro m
      induction m with
      | zero => intro _; exact Int.le_refl _
      | succ m ih =>
        intro hm
        have h1 := ih (by omega)
        have h2 := h m (by omega)
        rw [lb_s]
        omega
    exact this (n + 1) (Nat.le_refl _)
  | G + 1, v, hv, h => by
    have hc := hv.1 G (by omega)
    have ih := lb_low G (fun j => if j = col G then 0 else v j) ⟨fun g hg => hv.1 g (by omega), fun g g' h1 h2 h3 => hv.2 g g' (by omega) (by omega) h3⟩ (fun j hj => by
      by_cases e : j = col G
      · rw [if_pos e]; exact Int.le_refl _
      · rw [if_neg e]; exact h j hj)
    rw [lb_s_set, if_pos (by omega)] at ih
    have e : lb_s (fun g => (fun j => if j = col G then 0 else v j) (col g)) G = lb_s (fun g => v (col g)) G := lb_s_c G (fun g hg => if_neg (fun z => by
      have := hv.2 g G (by omega) (by omega) z
      omega))
    rw [e] at ih
    show _ ≤ lb_s (fun g => v (col g)) G + v (col G)
    omega
theorem lb_eq {n : Nat} {col : Nat → Nat} : ∀ (G : Nat) (v : Nat → Int), lb_v n G col → (∀ j, j ≤ n → (∀ g, g < G → col g ≠ j) → v j = 0) → lb_s v (n + 1) = lb_s (fun g => v (col g)) G
  | 0, v, _, h => by
    have : ∀ m, m ≤ n + 1 → lb_s v m = 0 := by
      intro m
      induction m with
      | zero => intro _; rfl
      | succ m ih =>
        intro hm
        rw [lb_s, ih (by omega), h m (by omega) (fun g hg => absurd hg (Nat.not_lt_zero _))]
        rfl
    exact this (n + 1) (Nat.le_refl _)
  | G + 1, v, hv, h => by
    have hc := hv.1 G (by omega)
    have ih := lb_eq G (fun j => if j = col G then 0 else v j) ⟨fun g hg => hv.1 g (by omega), fun g g' h1 h2 h3 => hv.2 g g' (by omega) (by omega) h3⟩ (fun j hj hg => by
      by_cases e : j = col G
      · rw [if_pos e]
      · rw [if_neg e]
        refine h j hj (fun g hg' z => ?_)
        by_cases e2 : g = G
        · rw [e2] at z
          exact e z.symm
        · exact hg g (by omega) z)
    rw [lb_s_set, if_pos (by omega)] at ih
    have e : lb_s (fun g => (fun j => if j = col G then 0 else v j) (col g)) G = lb_s (fun g => v (col g)) G := lb_s_c G (fun g hg => if_neg (fun z => by
      have := hv.2 g G (by omega) (by omega) z
      omega))
    rw [e] at ih
    show _ = lb_s (fun g => v (col g)) G + v (col G)
    omega
/-- prices that fit tell that nothing is cheaper -/
theorem lb_min {n G : Nat} {a : Nat → Nat → Int} {u v : Nat → Int} {p col : Nat → Nat} (h : h_F n G a u v p) (hv : lb_v n G col) (hp : ∀ g, g < G → p (col g) = g + 1) {col' : Nat → Nat} (hv' : lb_v n G col') : lb_s (fun g => a (g + 1) (col g)) G ≤ lb_s (fun g => a (g + 1) (col' g)) G := by
  obtain ⟨h1, h2, h3, h4, h5⟩ := h
  have e1 : lb_s (fun g => a (g + 1) (col g)) G = lb_s (fun g => u (g + 1)) G + lb_s (fun g => v (col g)) G := by
    rw [← lb_s_add]
    refine lb_s_c G (fun g hg => ?_)
    have hc := hv.1 g hg
    have := (h2 (col g) hc.1 hc.2 (by rw [hp g hg]; omega)).2
    rw [hp g hg] at this
    exact this
  have e2 : lb_s (fun g => u (g + 1)) G + lb_s (fun g => v (col' g)) G ≤ lb_s (fun g => a (g + 1) (col' g)) G := by
    rw [← lb_s_add]
    refine lb_s_le G (fun g hg => ?_)
    have hc := hv'.1 g hg
    exact h1 (g + 1) (col' g) (by omega) (by omega) hc.1 hc.2
  have w : ∀ j, j ≤ n → (fun j => if j = 0 then 0 else v j) j ≤ 0 := fun j hj => by
    by_cases e : j = 0
    · rw [e]; exact Int.le_refl _
    · dsimp only
      rw [if_neg e]
      exact (h3 j (by omega) hj).1
  have e3 := lb_low G (fun j => if j = 0 then 0 else v j) hv' w
  have e4 := lb_eq G (fun j => if j = 0 then 0 else v j) hv (fun j hj hg => by
    by_cases e : j = 0
    · rw [if_pos e]
    · rw [if_neg e]
      refine (h3 j (by omega) hj).2 (Classical.byContradiction (fun z => ?_))
      have q1 := (h2 j (by omega) hj z).1
      have hc := hv.1 (p j - 1) (by omega)
      refine hg (p j - 1) (by omega) (h4 _ _ hc.1 hc.2 (by omega) hj ?_ ?_)
      · rw [hp _ (by omega)]; omega
      · rw [hp _ (by omega)]; omega)
  have e5 : ∀ c, lb_v n G c → lb_s (fun g => (fun j => if j = 0 then 0 else v j) (c g)) G = lb_s (fun g => v (c g)) G := fun c hc => lb_s_c G (fun g hg => if_neg (by
    have := (hc.1 g hg).1
    omega))
  rw [e5 _ hv'] at e3
  rw [e5 _ hv] at e4
  omega
/-- the class: what a home costs a guest -/
def lb_cs (M : eg_M) (G g h : Nat) : Int := if h = 6 then 6 * ((7 ^ (G - (g + 1)) : Nat) : Int) else if k_lk M g h = -nI 1 then 172944030000 else (h : Int) * ((7 ^ (G - (g + 1)) : Nat) : Int) - (k_lk M g h).toInt * 5764801 - 1729440300
def lb_K (M : eg_M) (H G : Nat) (kd : Nat → Nat) : Prop := (∀ h j, h < H → k_sb M h < j → j ≤ k_sb M (h + 1) → kd j = h) ∧ ∀ j, k_sb M H < j → j ≤ k_sb M H + G → kd j = 6
/-- the class: a way into the homes, no way is cheaper -/
def lb_B (M : eg_M) (H G : Nat) (sg : Nat → Nat) : Prop := ∃ kd col, lb_K M H G kd ∧ lb_v (k_sb M H + G) G col ∧ (∀ g, g < G → kd (col g) = sg g) ∧ ∀ col', lb_v (k_sb M H + G) G col' → lb_s (fun g => lb_cs M G g (sg g)) G ≤ lb_s (fun g => lb_cs M G g (kd (col' g))) G
/-- the class: all but the ways -/
def lb_X (M X : eg_M) : Prop := X.1 = M.1 ∧ X.2.2.2 = M.2.2.2 ∧ (∀ q j, q < 55 ∨ 71 < q → eg_gi X q j = eg_gi M q j) ∧ ∀ q j, q < 55 ∨ 71 < q → eg_gl X q j = eg_gl M q j
def lb_h (sg : Nat → Nat) : Nat → Nat
  | 0 => 0
  | g + 1 => lb_h sg g + if sg g = 6 then 0 else 1
def lb_l (M : eg_M) (sg : Nat → Nat) : Nat → Int32
  | 0 => nI 0
  | g + 1 => if sg g = 6 then lb_l M sg g else lb_l M sg g + k_lk M g (sg g)
def lb_k (M : eg_M) (sg : Nat → Nat) (i : Nat) : Nat → Int32 := fun j => if j < i then (if sg j = 6 then -nI 1 else nI (sg j)) else eg_gi M 54 j
theorem k_sb_of {M N : eg_M} (h : ∀ j, eg_gi N 47 j = eg_gi M 47 j) : ∀ n, k_sb N n = k_sb M n
  | 0 => rfl
  | n + 1 => by rw [k_sb, k_sb, k_sb_of h n, h]
theorem k_sb_in {M : eg_M} : ∀ (H j : Nat), 1 ≤ j → j ≤ k_sb M H → ∃ h, h < H ∧ k_sb M h < j ∧ j ≤ k_sb M (h + 1)
  | 0, j, h1, h2 => absurd h2 (by rw [k_sb]; omega)
  | H + 1, j, h1, h2 => by
    by_cases e : j ≤ k_sb M H
    · obtain ⟨h, q1, q2⟩ := k_sb_in H j h1 e
      exact ⟨h, by omega, q2⟩
    · exact ⟨H, by omega, by omega, h2⟩
theorem k_kg_of {M N : eg_M} (h1 : ∀ j, eg_gi N 68 j = eg_gi M 68 j) (h2 : ∀ j, eg_gi N 65 j = eg_gi M 65 j) (a : Int32) : ∀ r i, k_kg N a i r = k_kg M a i r
  | 0, i => rfl
  | r + 1, i => by rw [k_kg, k_kg, h1, h2, k_kg_of h1 h2 a r]
theorem k_kg_at {M : eg_M} {a : Int32} {c : Nat} (hc : eg_gi M 68 c = a) : ∀ r i, i ≤ c → c < i + r → (∀ j, i ≤ j → j < c → ¬ eg_gi M 68 j = a) → k_kg M a i r = eg_gi M 65 c
  | 0, i, h1, h2, _ => by omega
  | r + 1, i, h1, h2, h3 => by
    rw [k_kg]
    by_cases e : i = c
    · rw [e, if_pos hc]
    · rw [if_neg (h3 i (Nat.le_refl _) (by omega))]
      exact k_kg_at hc r (i + 1) (by omega) (by omega) (fun j q1 q2 => h3 j (by omega) q2)
theorem k_lk_of {M N : eg_M} (h : ∀ q j, q < 54 → eg_gi N q j = eg_gi M q j) (g i : Nat) : k_lk N g i = k_lk M g i := by
  unfold k_lk
  rw [h 51 g (by decide), h 48 i (by decide), h 49 i (by decide), h 53 g (by decide), h 52 g (by decide), h 50 i (by decide)]
theorem lN_t {n : Nat} (h : n < 4611686018427387904) : (lN n).toInt = (n : Int) := lg_ofNat_toInt (by omega)
theorem lb_7 {e : Nat} (h : e ≤ 7) : 1 ≤ 7 ^ e ∧ 7 ^ e ≤ 823543 := ⟨Nat.one_le_pow _ _ (by decide), Nat.le_trans (Nat.pow_le_pow_right (by decide) h) (by decide)⟩
theorem lb_cs_b {M : eg_M} {G g h : Nat} (hG : G ≤ 8) (hh : h ≤ 6) (hl : h < 6 → k_lk M g h = -nI 1 ∨ eg_cn (k_lk M g h) 34) : -172944030000 ≤ lb_cs M G g h ∧ lb_cs M G g h ≤ 172944030000 := by
  obtain ⟨b1, b2⟩ := lb_7 (show G - (g + 1) ≤ 7 by omega)
  unfold lb_cs
  generalize 7 ^ (G - (g + 1)) = z at b1 b2 ⊢
  by_cases e : h = 6
  · rw [if_pos e]
    omega
  · rw [if_neg e]
    by_cases e2 : k_lk M g h = -nI 1
    · rw [if_pos e2]
      omega
    · rw [if_neg e2]
      rcases hl (by omega) with w | ⟨l, w1, w2⟩
      · exact absurd w e2
      · rw [w2, nI_toInt (by omega)]
        have h6 : h < 6 := by omega
        have : h = 0 ∨ h = 1 ∨ h = 2 ∨ h = 3 ∨ h = 4 ∨ h = 5 := by omega
        rcases this with q | q | q | q | q | q <;> rw [q] <;> omega
theorem lb_cs_F {M : eg_M} {G g h : Nat} (hG : G ≤ 8) (hh : h < 6) (hl : k_lk M g h = -nI 1 ∨ eg_cn (k_lk M g h) 34) : (k_cs M (lN (7 ^ (G - (g + 1)))) g h).toInt = lb_cs M G g h := by
  obtain ⟨b1, b2⟩ := lb_7 (show G - (g + 1) ≤ 7 by omega)
  unfold lb_cs k_cs
  generalize 7 ^ (G - (g + 1)) = z at b1 b2 ⊢
  rw [if_neg (show ¬ h = 6 by omega)]
  by_cases e2 : k_lk M g h = -nI 1
  · rw [if_pos e2, if_pos e2]
    decide
  · rw [if_neg e2, if_neg e2]
    rcases hl with w | ⟨l, w1, w2⟩
    · exact absurd w e2
    · rw [w2, nI_toInt (by omega), nI_l (by omega), nI_l (by omega), lN_mul, lN_mul]
      have hz : h * z ≤ 5 * 823543 := Nat.mul_le_mul (by omega) b2
      have t1 : (lN (h * z)).toInt = (h : Int) * (z : Int) := by
        rw [lN_t (by omega), Int.natCast_mul]
      have t2 : (lN (l * 5764801)).toInt = (l : Int) * 5764801 := by
        rw [lN_t (by omega), Int.natCast_mul]
        rfl
      have t3 : (lN 1729440300).toInt = 1729440300 := by decide
      have hz' : (h : Int) * (z : Int) ≤ 4117715 ∧ 0 ≤ (h : Int) * (z : Int) := by
        rw [← Int.natCast_mul]
        omega
      have t4 : (lN (h * z) - lN (l * 5764801)).toInt = (h : Int) * (z : Int) - (l : Int) * 5764801 := by
        rw [l_sb (by rw [t1, t2]; omega), t1, t2]
      rw [l_sb (by rw [t4, t3]; omega), t4, t3]
theorem lb_cs_6 {M : eg_M} {G g : Nat} (hG : G ≤ 8) : (lN 6 * lN (7 ^ (G - (g + 1)))).toInt = lb_cs M G g 6 := by
  obtain ⟨b1, b2⟩ := lb_7 (show G - (g + 1) ≤ 7 by omega)
  unfold lb_cs
  generalize 7 ^ (G - (g + 1)) = z at b1 b2 ⊢
  rw [if_pos rfl, lN_mul, lN_t (by omega), Int.natCast_mul]
  rfl
def k_X4_findBest : eg_C := ([(0, .aload_n 0, 1), (1, .invokevirtual 72, 3), (4, .aload_n 0, 1), (5, .invokevirtual 75, 3), (8, .aload_n 0, 1), (9, .getfield 53, 3), (12, .aload_n 0, 1), (13, .getfield 29, 3), (16, .invokevirtual 78, 3), (19, .aload_n 0, 1), (20, .aload_n 0, 1), (21, .getfield 29, 3), (24, .putfield 41, 3), (27, .aload_n 0, 1), (28, .iconst 0, 1), (29, .putfield 44, 3), (32, .iconst 0, 1), (33, .istore_n 1, 1), (34, .iconst 0, 1), (35, .istore_n 2, 1), (36, .iload_n 2, 1), (37, .aload_n 0, 1), (38, .getfield 29, 3), (41, .if_icmp .ge 59, 3), (44, .aload_n 0, 1), (45, .getfield 53, 3), (48, .iload_n 2, 1), (49, .invokevirtual 82, 3), (52, .istore_n 3, 1), (53, .aload_n 0, 1), (54, .getfield 47, 3), (57, .iload_n 2, 1), (58, .iload_n 3, 1), (59, .bipush 6, 2), (61, .if_icmp .ne 7, 3), (64, .iconst (-1), 1), (65, .goto 4, 3), (68, .iload_n 3, 1), (69, .iastore, 1), (70, .iload_n 3, 1), (71, .bipush 6, 2), (73, .if_icmp .eq 21, 3), (76, .aload_n 0, 1), (77, .dup, 1), (78, .getfield 44, 3), (81, .aload_n 0, 1), (82, .iload_n 2, 1), (83, .iload_n 3, 1), (84, .invokevirtual 85, 3), (87, .iadd, 1), (88, .putfield 44, 3), (91, .iinc 1 1, 3), (94, .iinc 2 1, 3), (97, .goto (-61), 3), (100, .iload_n 1, 1), (101, .ireturn, 1)], [(29, 4, 5, false), (41, 4, 9, true), (44, 4, 10, true), (47, 4, 11, false), (53, 4, 12, false)], [], [(72, 0 + 1, 0, 0, s_X4_setCosts), (75, 0 + 1, 0, 0, s_X4_setColumns), (78, 1 + 1, 0, 0, s_X5_solve), (82, 1 + 1, 0, 0, s_X5_kindGivenTo), (85, 2 + 1, 0, 0, s_X4_likingOf_v)], [], 1, 0, 0)
theorem mk_X4_findBest : ∀ q ∈ k_X4_findBest.2.2.2.1, eg_mono q.2.2.2.2 := (fc (mo_X4_setCosts) (fc (mo_X4_setColumns) (fc (mo_X5_solve) (fc (mo_X5_kindGivenTo) (fc (mo_X4_likingOf_v) (fn))))))
set_option maxRecDepth 100000 in
theorem st_X4_findBest_0 {Qp : eg_P} {M : eg_M} 
  (g0 : (eg_cn (eg_gi M 46 0) 6 ∧ eg_cn (eg_gi M 46 5) 8))
  (l0 : ∀ (F_1 : Nat → Nat → Int64), ((∀ g, g < (eg_gi M 46 5).toNatClampNeg → F_1 (56 + 1 + g) 6 = lN 6 * lN (7 ^ ((eg_gi M 46 5).toNatClampNeg - (g + 1))) ∧ ∀ h, h < (eg_gi M 46 0).toNatClampNeg → F_1 (56 + 1 + g) h = k_cs M (lN (7 ^ ((eg_gi M 46 5).toNatClampNeg - (g + 1)))) g h) ∧ ∀ p j, (p < 57 ∨ 64 < p) → F_1 p j = eg_gl M p j) → eg_T wd k_X4_findBest Qp 4 0 0 [some (.ref 46), none, none, none] [] (eg_aL M F_1)) :
  eg_T wd k_X4_findBest Qp 0 0 0 [some (.ref 46), none, none, none] [] M := by
  refine eg_T_run mk_X4_findBest (cut := [4, 8, 19, 36]) 59 ?_
  refine And.intro (show (eg_cn (eg_gi M 46 0) 6 ∧ eg_cn (eg_gi M 46 5) 8) from ?_) ?_
  · exact g0
  intro F_1 ha_1
  show eg_T wd k_X4_findBest Qp 4 0 0 [some (.ref 46), none, none, none] [] (eg_aL M F_1)
  exact l0 F_1 ha_1

set_option maxRecDepth 100000 in
theorem st_X4_findBest_4 {Qp : eg_P} {M : eg_M} (o1 : Option Value) (o2 : Option Value) (o3 : Option Value)
  (g0 : (eg_cn (eg_gi M 46 0) 6 ∧ eg_cn (eg_gi M 46 5) 8 ∧ ∀ h, h < (eg_gi M 46 0).toNatClampNeg → eg_cn (eg_gi M 47 h) 4))
  (l0 : ∀ (f_1 : Nat → Int32), ((∀ h j, h < (eg_gi M 46 0).toNatClampNeg → k_sb M h < j → j ≤ k_sb M (h + 1) → f_1 j = nI h) ∧ ∀ j, k_sb M (eg_gi M 46 0).toNatClampNeg < j → j ≤ k_sb M (eg_gi M 46 0).toNatClampNeg + (eg_gi M 46 5).toNatClampNeg → f_1 j = nI 6) → eg_T wd k_X4_findBest Qp 8 0 0 [some (.ref 46), o1, o2, o3] [] (eg_ri (eg_si M 55 2 (nI (k_sb M (eg_gi M 46 0).toNatClampNeg + (eg_gi M 46 5).toNatClampNeg))) 65 f_1)) :
  eg_T wd k_X4_findBest Qp 4 0 0 [some (.ref 46), o1, o2, o3] [] M := by
  refine eg_T_run mk_X4_findBest (cut := [4, 8, 19, 36]) 59 ?_
  refine And.intro (show (eg_cn (eg_gi M 46 0) 6 ∧ eg_cn (eg_gi M 46 5) 8 ∧ ∀ h, h < (eg_gi M 46 0).toNatClampNeg → eg_cn (eg_gi M 47 h) 4) from ?_) ?_
  · exact g0
  intro f_1 ha_1
  show eg_T wd k_X4_findBest Qp 8 0 0 [some (.ref 46), o1, o2, o3] [] (eg_ri (eg_si M 55 2 (nI (k_sb M (eg_gi M 46 0).toNatClampNeg + (eg_gi M 46 5).toNatClampNeg))) 65 f_1)
  exact l0 f_1 ha_1

set_option maxRecDepth 100000 in
theorem st_X4_findBest_8 {Qp : eg_P} {M : eg_M} (o1 : Option Value) (o2 : Option Value) (o3 : Option Value)
  (g0 : (∃ k n, k ≤ n ∧ n ≤ 32 ∧ k ≤ 8 ∧ (eg_gi M 46 5) = nI k ∧ eg_gi M 55 2 = nI n ∧ h_A n k (kh_a M) ∧ (∀ c, 1 ≤ c → c ≤ n → vp_in (eg_gi M 65 c) 7)))
  (l0 : ∀ (U_1 : Nat → Int64) (V_1 : Nat → Int64) (W_1 : Nat → Int64) (P_1 : Nat → Int32) (F_1 : Nat → Int32) (R_1 : Nat → Int32), (kh_P M (eg_gi M 55 2).toNatClampNeg (eg_gi M 46 5).toNatClampNeg U_1 V_1 P_1) → eg_T wd k_X4_findBest Qp 19 0 0 [some (.ref 46), o1, o2, o3] [] (kh_m M U_1 V_1 W_1 P_1 F_1 R_1)) :
  eg_T wd k_X4_findBest Qp 8 0 0 [some (.ref 46), o1, o2, o3] [] M := by
  refine eg_T_run mk_X4_findBest (cut := [4, 8, 19, 36]) 59 ?_
  refine And.intro (show (∃ k n, k ≤ n ∧ n ≤ 32 ∧ k ≤ 8 ∧ (eg_gi M 46 5) = nI k ∧ eg_gi M 55 2 = nI n ∧ h_A n k (kh_a M) ∧ (∀ c, 1 ≤ c → c ≤ n → vp_in (eg_gi M 65 c) 7)) from ?_) ?_
  · exact g0
  intro U_1 V_1 W_1 P_1 F_1 R_1 ha_1
  show eg_T wd k_X4_findBest Qp 19 0 0 [some (.ref 46), o1, o2, o3] [] (kh_m M U_1 V_1 W_1 P_1 F_1 R_1)
  exact l0 U_1 V_1 W_1 P_1 F_1 R_1 ha_1

set_option maxRecDepth 100000 in
theorem st_X4_findBest_19 {Qp : eg_P} {M : eg_M} (o1 : Option Value) (o2 : Option Value) (o3 : Option Value)
  (l0 : eg_T wd k_X4_findBest Qp 36 0 0 [some (.ref 46), some (.int (nI 0)), some (.int (nI 0)), o3] [] (eg_si (eg_si M 46 9 (eg_gi M 46 5)) 46 10 (nI 0))) :
  eg_T wd k_X4_findBest Qp 19 0 0 [some (.ref 46), o1, o2, o3] [] M := by
  refine eg_T_run mk_X4_findBest (cut := [4, 8, 19, 36]) 59 ?_
  show eg_T wd k_X4_findBest Qp 36 0 0 [some (.ref 46), some (.int (nI 0)), some (.int (nI 0)), o3] [] (eg_si (eg_si M 46 9 (eg_gi M 46 5)) 46 10 (nI 0))
  exact l0

set_option maxRecDepth 100000 in
theorem st_X4_findBest_36 {Qp : eg_P} {M : eg_M} (x1 : Int32) (x2 : Int32) (o3 : Option Value)
  (g0 : (¬ ((eg_gi M 46 5) ≤ x2)) → (eg_cn (eg_gi M 55 2) 32))
  (g1 : (¬ ((eg_gi M 46 5) ≤ x2)) → (vp_in x2 8))
  (g2 : (¬ ((eg_gi M 46 5) ≤ x2)) → (¬ ((k_kg M (x2 + nI 1) 1 (eg_gi M 55 2).toNatClampNeg) = (nI 6))) → (vp_in x2 8 ∧ vp_in (k_kg M (x2 + nI 1) 1 (eg_gi M 55 2).toNatClampNeg) 6))
  (l0 : ((eg_gi M 46 5) ≤ x2) → Qp (.inl (some (.int x1))) M)
  (l1 : (¬ (eg_gi M 46 5) ≤ x2 ∧ (k_kg M (x2 + nI 1) 1 (eg_gi M 55 2).toNatClampNeg) = (nI 6)) → eg_T wd k_X4_findBest Qp 36 0 0 [some (.ref 46), some (.int x1), some (.int (x2 + (nI 1))), some (.int (k_kg M (x2 + nI 1) 1 (eg_gi M 55 2).toNatClampNeg))] [] (eg_si M 54 x2.toNatClampNeg (-nI 1)))
  (l2 : (¬ (eg_gi M 46 5) ≤ x2 ∧ ¬ (k_kg M (x2 + nI 1) 1 (eg_gi M 55 2).toNatClampNeg) = (nI 6)) → eg_T wd k_X4_findBest Qp 36 0 0 [some (.ref 46), some (.int (x1 + (nI 1))), some (.int (x2 + (nI 1))), some (.int (k_kg M (x2 + nI 1) 1 (eg_gi M 55 2).toNatClampNeg))] [] (eg_si (eg_si M 54 x2.toNatClampNeg (k_kg M (x2 + nI 1) 1 (eg_gi M 55 2).toNatClampNeg)) 46 10 ((eg_gi M 46 10) + (k_lk (eg_si M 54 x2.toNatClampNeg (k_kg M (x2 + nI 1) 1 (eg_gi M 55 2).toNatClampNeg)) x2.toNatClampNeg (k_kg M (x2 + nI 1) 1 (eg_gi M 55 2).toNatClampNeg).toNatClampNeg)))) :
  eg_T wd k_X4_findBest Qp 36 0 0 [some (.ref 46), some (.int x1), some (.int x2), o3] [] M := by
  refine eg_T_run mk_X4_findBest (cut := [4, 8, 19, 36]) 59 ?_
  refine And.intro (fun (c1 : (eg_gi M 46 5) ≤ x2) => ?_) (fun (c1 : ¬ (eg_gi M 46 5) ≤ x2) => ?_)
  · skip
    refine And.intro (fun z => absurd z (by decide)) ?_
    show Qp (.inl (some (.int x1))) M
    exact l0 c1
  · skip
    refine And.intro (show (eg_cn (eg_gi M 55 2) 32) from ?_) ?_
    · exact g0 c1
    refine And.intro (fun (c2 : (k_kg M (x2 + nI 1) 1 (eg_gi M 55 2).toNatClampNeg) = (nI 6)) => ?_) (fun (c2 : ¬ (k_kg M (x2 + nI 1) 1 (eg_gi M 55 2).toNatClampNeg) = (nI 6)) => ?_)
    · skip
      refine And.intro (show vp_in x2 8 from ?_) ?_
      · exact g1 c1
      refine And.intro (fun (c3 : (k_kg M (x2 + nI 1) 1 (eg_gi M 55 2).toNatClampNeg) = (nI 6)) => ?_) (fun (c3 : ¬ (k_kg M (x2 + nI 1) 1 (eg_gi M 55 2).toNatClampNeg) = (nI 6)) => ?_)
      · clear c3
        show eg_T wd k_X4_findBest Qp 36 0 0 [some (.ref 46), some (.int x1), some (.int (x2 + (nI 1))), some (.int (k_kg M (x2 + nI 1) 1 (eg_gi M 55 2).toNatClampNeg))] [] (eg_si M 54 x2.toNatClampNeg (-nI 1))
        exact l1 ⟨c1, c2⟩
      · exact absurd c2 c3
    · skip
      refine And.intro (show vp_in x2 8 from ?_) ?_
      · exact g1 c1
      refine And.intro (fun (c4 : (k_kg M (x2 + nI 1) 1 (eg_gi M 55 2).toNatClampNeg) = (nI 6)) => ?_) (fun (c4 : ¬ (k_kg M (x2 + nI 1) 1 (eg_gi M 55 2).toNatClampNeg) = (nI 6)) => ?_)
      · exact absurd c4 c2
      · clear c4
        refine And.intro (show (vp_in x2 8 ∧ vp_in (k_kg M (x2 + nI 1) 1 (eg_gi M 55 2).toNatClampNeg) 6) from ?_) ?_
        · exact g2 c1 c2
        show eg_T wd k_X4_findBest Qp 36 0 0 [some (.ref 46), some (.int (x1 + (nI 1))), some (.int (x2 + (nI 1))), some (.int (k_kg M (x2 + nI 1) 1 (eg_gi M 55 2).toNatClampNeg))] [] (eg_si (eg_si M 54 x2.toNatClampNeg (k_kg M (x2 + nI 1) 1 (eg_gi M 55 2).toNatClampNeg)) 46 10 ((eg_gi M 46 10) + (k_lk (eg_si M 54 x2.toNatClampNeg (k_kg M (x2 + nI 1) 1 (eg_gi M 55 2).toNatClampNeg)) x2.toNatClampNeg (k_kg M (x2 + nI 1) 1 (eg_gi M 55 2).toNatClampNeg).toNatClampNeg)))
        exact l2 ⟨c1, c2⟩

def s_X4_findBest : eg_S := fun argv M Qp => match argv with
  | [.ref 46] => (eg_cn (eg_gi M 46 0) 6 ∧ eg_cn (eg_gi M 46 5) 8 ∧ (∀ h, h < (eg_gi M 46 0).toNatClampNeg → eg_cn (eg_gi M 47 h) 4) ∧ ∀ g h, g < (eg_gi M 46 5).toNatClampNeg → h < (eg_gi M 46 0).toNatClampNeg → k_lk M g h = -nI 1 ∨ eg_cn (k_lk M g h) 34) ∧ ∀ (sg : Nat → Nat) (X : eg_M), (lb_B M (eg_gi M 46 0).toNatClampNeg (eg_gi M 46 5).toNatClampNeg sg ∧ lb_X M X) → Qp (.inl (some (.int (nI (lb_h sg (eg_gi M 46 5).toNatClampNeg))))) (eg_si (eg_si (eg_ri X 54 (lb_k M sg (eg_gi M 46 5).toNatClampNeg)) 46 9 (eg_gi M 46 5)) 46 10 (lb_l M sg (eg_gi M 46 5).toNatClampNeg))
  | _ => False
theorem mo_X4_findBest : eg_mono s_X4_findBest := by
  intro argv M Q Q' h
  unfold s_X4_findBest
  split
  · exact fun z => ⟨z.1, fun sg X y => h _ _ (z.2 sg X y)⟩
  · exact id
theorem sz_X4_findBest : ∀ argv M Qp, s_X4_findBest argv M Qp → (eg_ls0 argv).length ≤ 4 := by
  intro argv M Qp h
  unfold s_X4_findBest at h
  split at h
  · exact Nat.le_of_ble_eq_true rfl
  · exact h.elim
theorem sr_X4_findBest : ∀ argv M Qp, s_X4_findBest argv M Qp → ∃ p0 As, argv = .ref p0 :: As ∧ eg_isO wd M p0 4 = true := by
  intro argv M Qp h
  unfold s_X4_findBest at h
  split at h
  · exact ⟨_, _, rfl, rfl⟩
  · exact h.elim
set_option maxRecDepth 100000 in
set_option maxHeartbeats 1000000 in
theorem T_X4_findBest {argv : List Value} {M : eg_M} {Qp : eg_P} (h : s_X4_findBest argv M Qp) : eg_T wd k_X4_findBest Qp 0 0 0 (eg_lsN 4 argv) [] M := by
  unfold s_X4_findBest at h
  split at h
  · obtain ⟨hp, hq⟩ := h
    obtain ⟨⟨H, hH, eH⟩, ⟨G, hG, eG⟩, hB, hL⟩ := hp
    have pre0 : eg_cn (eg_gi M 46 0) 6 ∧ eg_cn (eg_gi M 46 5) 8 := ⟨⟨H, hH, eH⟩, ⟨G, hG, eG⟩⟩
    have hB' := hB
    rw [eH, n_c (show H < 2 ^ 31 by omega)] at hB hL hq
    rw [eG, n_c (show G < 2 ^ 31 by omega)] at hL hq
    have hsb := k_sb_le hB H (Nat.le_refl _)
    have s0 := st_X4_findBest_0 (Qp := Qp) (M := M) pre0
    rw [eH, eG, n_c (show H < 2 ^ 31 by omega), n_c (show G < 2 ^ 31 by omega)] at s0
    refine s0 (fun F hF => ?_)
    have gi1 : ∀ q j, eg_gi (eg_aL M F) q j = eg_gi M q j := fun _ _ => rfl
    have sb1 : ∀ n, k_sb (eg_aL M F) n = k_sb M n := k_sb_of (fun _ => rfl)
    have s4 := st_X4_findBest_4 (Qp := Qp) (M := eg_aL M F) none none none ⟨pre0.1, pre0.2, hB'⟩
    simp only [gi1, sb1, eH, eG, n_c (show H < 2 ^ 31 by omega), n_c (show G < 2 ^ 31 by omega)] at s4
    refine s4 (fun f hf => ?_)
    generalize hn : k_sb M H + G = n at hf ⊢
    generalize hM2 : eg_ri (eg_si (eg_aL M F) 55 2 (nI n)) 65 f = M2
    have m46 : eg_gi M2 46 5 = nI G := by rw [← hM2]; exact eG
    have m55 : eg_gi M2 55 2 = nI n := by rw [← hM2]; rfl
    have m65 : ∀ j, eg_gi M2 65 j = f j := fun j => by rw [← hM2]; rfl
    have mgi : ∀ q j, q < 55 ∨ 71 < q → eg_gi M2 q j = eg_gi M q j := fun q j h => by
      rw [← hM2, ri_g, si_g, if_neg (by omega), if_neg (by omega)]
      rfl
    have mgl : ∀ q j, eg_gl M2 q j = F q j := fun q j => by rw [← hM2]; rfl
    -- the kinds of columns
    have hkd : ∀ j, 1 ≤ j → j ≤ n → (∃ h, h < H ∧ f j = nI h) ∨ f j = nI 6 := by
      intro j h1 h2
      by_cases e : j ≤ k_sb M H
      · obtain ⟨h, q1, q2, q3⟩ := k_sb_in H j h1 e
        exact Or.inl ⟨h, q1, hf.1 h j q1 q2 q3⟩
      · exact Or.inr (hf.2 j (by omega) (by omega))
    have hka : ∀ i j, 1 ≤ i → i ≤ G → 1 ≤ j → j ≤ n → kh_a M2 i j = lb_cs M G (i - 1) (f j).toNatClampNeg ∧ -172944030000 ≤ lb_cs M G (i - 1) (f j).toNatClampNeg ∧ lb_cs M G (i - 1) (f j).toNatClampNeg ≤ 172944030000 := by
      intro i j h1 h2 h3 h4
      have hFi := hF.1 (i - 1) (by omega)
      unfold kh_a
      rw [mgl, m65]
      rcases hkd j h3 h4 with ⟨h, q1, q2⟩ | q2
      · rw [q2, n_c (show h < 2 ^ 31 by omega), hFi.2 h q1]
        exact ⟨lb_cs_F hG (by omega) (hL (i - 1) h (by omega) q1), lb_cs_b hG (by omega) (fun _ => hL (i - 1) h (by omega) q1)⟩
      · rw [q2, n_c (show 6 < 2 ^ 31 by decide), hFi.1]
        exact ⟨lb_cs_6 hG, lb_cs_b hG (Nat.le_refl _) (fun z => absurd z (Nat.lt_irrefl 6))⟩
    have s8 := st_X4_findBest_8 (Qp := Qp) (M := M2) none none none
    rw [m46, m55, n_c (show n < 2 ^ 31 by omega), n_c (show G < 2 ^ 31 by omega)] at s8
    refine s8 ⟨G, n, by omega, by omega, hG, rfl, rfl, fun i j h1 h2 h3 h4 => ?_, fun c h1 h2 => ?_⟩ (fun U V W P F' R hP => ?_)
    · obtain ⟨q1, q2⟩ := hka i j h1 h2 h3 h4
      rw [q1]
      exact q2
    · rw [m65]
      rcases hkd c h1 h2 with ⟨h, q1, q2⟩ | q2
      · rw [q2, n_in (by omega) (by decide)]
        omega
      · rw [q2]
        exact (n_in (by decide) (by decide)).mpr (by decide)
    obtain ⟨hP1, ⟨hFF, -⟩, -⟩ := hP
    -- the columns that are given
    have hcol : ∀ g, ∃ c, g < G → 1 ≤ c ∧ c ≤ n ∧ kh_n P c = g + 1 := fun g => by
      by_cases e : g < G
      · obtain ⟨c, q⟩ := hFF.2.2.2.2 (g + 1) (by omega) (by omega)
        exact ⟨c, fun _ => q⟩
      · exact ⟨0, fun z => absurd z e⟩
    obtain ⟨col, hcol⟩ := Classical.axiomOfChoice hcol
    have hv : lb_v n G col := ⟨fun g hg => ⟨(hcol g hg).1, (hcol g hg).2.1⟩, fun g g' h1 h2 h3 => by
      have q1 := (hcol g h1).2.2
      rw [h3, (hcol g' h2).2.2] at q1
      omega⟩
    have hPc : ∀ g, g < G → P (col g) = nI (g + 1) := fun g hg => by
      obtain ⟨q1, q2, q3⟩ := hcol g hg
      obtain ⟨z, hz, ez⟩ := hP1 (col g) q1 q2
      unfold kh_n at q3
      rw [ez, n_c (by omega)] at q3
      rw [ez, q3]
    generalize hsg : (fun g => (f (col g)).toNatClampNeg) = sg
    have hsg' : ∀ g, (f (col g)).toNatClampNeg = sg g := fun g => by rw [← hsg]
    have hfs : ∀ g, g < G → f (col g) = nI (sg g) ∧ (sg g < H ∨ sg g = 6) := fun g hg => by
      obtain ⟨q1, q2, -⟩ := hcol g hg
      rw [← hsg' g]
      rcases hkd (col g) q1 q2 with ⟨h, w1, w2⟩ | w2
      · rw [w2, n_c (show h < 2 ^ 31 by omega)]
        exact ⟨rfl, Or.inl w1⟩
      · rw [w2]
        exact ⟨rfl, Or.inr rfl⟩
    have hbest : lb_B M H G sg := by
      refine ⟨fun j => (f j).toNatClampNeg, col, ⟨fun h j q1 q2 q3 => ?_, fun j q1 q2 => ?_⟩, by rw [hn]; exact hv, fun g _ => hsg' g, fun col' hv' => ?_⟩
      · show (f j).toNatClampNeg = h
        rw [hf.1 h j q1 q2 q3, n_c (by omega)]
      · show (f j).toNatClampNeg = 6
        rw [hf.2 j q1 (by omega)]
        rfl
      · rw [hn] at hv'
        have := lb_min hFF hv (fun g hg => (hcol g hg).2.2) hv'
        rw [lb_s_c (F' := fun g => lb_cs M G g (sg g)) G (fun g hg => by
          rw [(hka (g + 1) (col g) (by omega) (by omega) (hv.1 g hg).1 (hv.1 g hg).2).1, Nat.add_sub_cancel, hsg' g]), lb_s_c (F := fun g => kh_a M2 (g + 1) (col' g)) (F' := fun g => lb_cs M G g (f (col' g)).toNatClampNeg) G (fun g hg => by
          rw [(hka (g + 1) (col' g) (by omega) (by omega) (hv'.1 g hg).1 (hv'.1 g hg).2).1, Nat.add_sub_cancel])] at this
        exact this
    generalize hX : kh_m M2 U V W P F' R = X
    have hXX : lb_X M X := by
      refine ⟨by rw [← hX, ← hM2]; rfl, by rw [← hX, ← hM2]; rfl, fun q j h => ?_, fun q j h => ?_⟩
      · rw [← hX, kh_g, if_neg (by omega), if_neg (by omega), if_neg (by omega)]
        exact mgi q j h
      · rw [← hX, kh_l, if_neg (by omega), if_neg (by omega), if_neg (by omega), mgl]
        exact hF.2 q j (by omega)
    have x68 : ∀ j, eg_gi X 68 j = P j := fun j => by rw [← hX]; rfl
    have x65 : ∀ j, eg_gi X 65 j = f j := fun j => by rw [← hX]; exact m65 j
    have x55 : eg_gi X 55 2 = nI n := by rw [← hX]; exact m55
    have xkg : ∀ g, g < G → k_kg X (nI (g + 1)) 1 n = nI (sg g) := fun g hg => by
      obtain ⟨q1, q2, q3⟩ := hcol g hg
      rw [k_kg_at (c := col g) (by rw [x68]; exact hPc g hg) n 1 q1 (by omega) (fun j w1 w2 z => ?_), x65]
      · exact (hfs g hg).1
      · rw [x68] at z
        have : kh_n P j = g + 1 := by
          unfold kh_n
          rw [z, n_c (by omega)]
        have := hFF.2.2.2.1 j (col g) w1 (by omega) q1 q2 (by rw [this, q3]) (by omega)
        omega
    have lp : ∀ i (o : Option Value), i ≤ G → True → eg_T wd k_X4_findBest Qp 36 0 0 [some (.ref 46), some (.int (nI (lb_h sg i))), some (.int (nI i)), o] [] (eg_si (eg_si (eg_ri X 54 (lb_k M sg i)) 46 9 (nI G)) 46 10 (lb_l M sg i)) := by
      refine eg_for ?_
      intro i o hi _ kk
      have st := st_X4_findBest_36 (Qp := Qp) (M := eg_si (eg_si (eg_ri X 54 (lb_k M sg i)) 46 9 (nI G)) 46 10 (lb_l M sg i)) (nI (lb_h sg i)) (nI i) o
      have r5 : eg_gi (eg_si (eg_si (eg_ri X 54 (lb_k M sg i)) 46 9 (nI G)) 46 10 (lb_l M sg i)) 46 5 = nI G := by
        rw [si_g, si_g, ri_g, if_neg (by omega), if_neg (by omega), if_neg (by omega), hXX.2.2.1 46 5 (by omega), eG]
      have r55 : eg_gi (eg_si (eg_si (eg_ri X 54 (lb_k M sg i)) 46 9 (nI G)) 46 10 (lb_l M sg i)) 55 2 = nI n := x55
      have r10 : eg_gi (eg_si (eg_si (eg_ri X 54 (lb_k M sg i)) 46 9 (nI G)) 46 10 (lb_l M sg i)) 46 10 = lb_l M sg i := rfl
      have rkg : ∀ a r j, k_kg (eg_si (eg_si (eg_ri X 54 (lb_k M sg i)) 46 9 (nI G)) 46 10 (lb_l M sg i)) a j r = k_kg X a j r := fun a r j => k_kg_of (M := X) (N := eg_si (eg_si (eg_ri X 54 (lb_k M sg i)) 46 9 (nI G)) 46 10 (lb_l M sg i)) (fun _ => rfl) (fun _ => rfl) a r j
      rw [r5, r55, r10, n_s, n_c (show n < 2 ^ 31 by omega), rkg, n_le (by omega) (by omega), n_in (by omega) (by decide), n_c (show i < 2 ^ 31 by omega)] at st
      rcases Nat.lt_or_ge i G with h | h
      · rw [xkg i h] at st
        have hsi := (hfs i h).2
        have s6 : nI (sg i) = nI 6 ↔ sg i = 6 := n_eq (by omega) (by decide)
        rw [s6, n_in (by omega) (by decide), n_c (show sg i < 2 ^ 31 by omega)] at st
        refine st (fun _ => ⟨n, by omega, rfl⟩) (fun _ => by omega) (fun _ z => by omega) (fun z => absurd z (by omega)) (fun z => ?_) (fun z => ?_)
        · have := kk (some (.int (nI (sg i)))) h trivial
          have e1 : lb_h sg (i + 1) = lb_h sg i := by rw [lb_h, if_pos z.2]; rfl
          have e2 : lb_l M sg (i + 1) = lb_l M sg i := by rw [lb_l, if_pos z.2]
          have e3 : eg_si (eg_si (eg_si (eg_ri X 54 (lb_k M sg i)) 46 9 (nI G)) 46 10 (lb_l M sg i)) 54 i (-nI 1) = eg_si (eg_si (eg_ri X 54 (lb_k M sg (i + 1))) 46 9 (nI G)) 46 10 (lb_l M sg i) := by
            have e4 : lb_k M sg (i + 1) = fun j => if j = i then -nI 1 else lb_k M sg i j := by
              funext j
              unfold lb_k
              by_cases e : j = i
              · rw [if_pos e, if_pos (by omega), e, if_pos z.2]
              · rw [if_neg e]
                by_cases e2 : j < i
                · rw [if_pos e2, if_pos (by omega)]
                · rw [if_neg e2, if_neg (by omega)]
            rw [e4, ← si_ri]
            refine eg_ext rfl (fun q j => ?_) rfl
            simp only [si_g]
            by_cases w : q = 54
            · subst w; simp
            · simp [w]
          rw [e1, e2] at this
          rw [e3]
          exact this
        · have := kk (some (.int (nI (sg i)))) h trivial
          have e1 : nI (lb_h sg (i + 1)) = nI (lb_h sg i) + nI 1 := by rw [lb_h, if_neg z.2, n_s]
          have e2 : lb_l M sg (i + 1) = lb_l M sg i + k_lk M i (sg i) := by rw [lb_l, if_neg z.2]
          have e5 : k_lk (eg_si (eg_si (eg_si (eg_ri X 54 (lb_k M sg i)) 46 9 (nI G)) 46 10 (lb_l M sg i)) 54 i (nI (sg i))) i (sg i) = k_lk M i (sg i) := by
            have w : ∀ q j, q < 54 → ¬ q = 46 → eg_gi (eg_si (eg_si (eg_si (eg_ri X 54 (lb_k M sg i)) 46 9 (nI G)) 46 10 (lb_l M sg i)) 54 i (nI (sg i))) q j = eg_gi M q j := fun q j h1 h2 => by
              rw [si_g, si_g, si_g, ri_g, if_neg (by omega), if_neg (by omega), if_neg (by omega), if_neg (by omega), hXX.2.2.1 q j (by omega)]
            unfold k_lk
            rw [w 51 _ (by decide) (by decide), w 48 _ (by decide) (by decide), w 49 _ (by decide) (by decide), w 53 _ (by decide) (by decide), w 52 _ (by decide) (by decide), w 50 _ (by decide) (by decide)]
          have e3 : eg_si (eg_si (eg_si (eg_si (eg_ri X 54 (lb_k M sg i)) 46 9 (nI G)) 46 10 (lb_l M sg i)) 54 i (nI (sg i))) 46 10 (lb_l M sg i + k_lk M i (sg i)) = eg_si (eg_si (eg_ri X 54 (lb_k M sg (i + 1))) 46 9 (nI G)) 46 10 (lb_l M sg i + k_lk M i (sg i)) := by
            have e4 : lb_k M sg (i + 1) = fun j => if j = i then nI (sg i) else lb_k M sg i j := by
              funext j
              unfold lb_k
              by_cases e : j = i
              · rw [if_pos e, if_pos (by omega), e, if_neg z.2]
              · rw [if_neg e]
                by_cases e2 : j < i
                · rw [if_pos e2, if_pos (by omega)]
                · rw [if_neg e2, if_neg (by omega)]
            rw [e4, ← si_ri]
            refine eg_ext rfl (fun q j => ?_) rfl
            simp only [si_g]
            by_cases w : q = 54
            · subst w; simp
            · simp [w]
              by_cases w2 : q = 46 ∧ j = 10
              · simp [w2]
              · simp [w2]
          rw [e1, e2] at this
          rw [e5, e3]
          exact this
      · have : i = G := by omega
        subst this
        refine st (fun z => absurd (Nat.le_refl _) z) (fun z => absurd (Nat.le_refl _) z) (fun z => absurd (Nat.le_refl _) z) (fun _ => ?_) (fun z => absurd (Nat.le_refl _) z.1) (fun z => absurd (Nat.le_refl _) z.1)
        exact hq sg X ⟨hbest, hXX⟩
    refine st_X4_findBest_19 _ _ _ ?_
    have l0 := lp 0 none (Nat.zero_le _) trivial
    have e0 : lb_k M sg 0 = eg_gi X 54 := by
      funext j
      unfold lb_k
      rw [if_neg (Nat.not_lt_zero _), hXX.2.2.1 54 j (by omega)]
    have e5 : eg_gi X 46 5 = nI G := by rw [hXX.2.2.1 46 5 (by omega), eG]
    rw [e0, ri_id] at l0
    rw [e5]
    exact l0
    
  · exact h.elim
theorem de_X4_findBest : ∀ q ∈ k_X4_findBest.1, decode cX4_findBest q.1 = .ok q.2 := by decide +kernel
theorem me_X4_findBest (g : gl_T) : MT g yX4_findBest cX4_findBest 4 (some .int) ⟨3, 0, 0, 72⟩ 0 0 s_X4_findBest := by
  intro hl
  exact eg_met_of (k := k_X4_findBest) (by decide) rfl ⟨Nat.le_refl _, Nat.le_refl _⟩ rfl sz_X4_findBest de_X4_findBest (fun meth hn => (fc (eg_FL_of wd_c4 (by decide) lf_RX4_29 (fun h => absurd h (by decide))) (fc (eg_FL_of wd_c4 (by decide) lf_RX4_41 (fun _ => Or.inl rfl)) (fc (eg_FL_of wd_c4 (by decide) lf_RX4_44 (fun _ => Or.inl rfl)) (fc (eg_FL_of wd_c4 (by decide) lf_RX4_47 (fun h => absurd h (by decide))) (fc (eg_FL_of wd_c4 (by decide) lf_RX4_53 (fun h => absurd h (by decide))) (fn))))))) (fun A s H hE => (fn)) (fun p e s m args below meth c Q A ad0 N0 S0 hK hEx hA => (fc (mt_V hl S0 hK hEx hA (me_X4_setCosts g) lm_RX4_72 li_X4_setCosts lx_X4_setCosts ln_RX4 lc_X4_setCosts ⟨rfl, by decide, by decide, by decide +kernel⟩ ⟨rfl, rfl⟩ ⟨by decide, by decide⟩ (ci := 4) rfl rfl sr_X4_setCosts (by decide)) (fc (mt_V hl S0 hK hEx hA (me_X4_setColumns g) lm_RX4_75 li_X4_setColumns lx_X4_setColumns ln_RX4 lc_X4_setColumns ⟨rfl, by decide, by decide, by decide +kernel⟩ ⟨rfl, rfl⟩ ⟨by decide, by decide⟩ (ci := 4) rfl rfl sr_X4_setColumns (by decide)) (fc (mt_V hl S0 hK hEx hA (me_X5_solve g) lm_RX4_78 li_X5_solve lx_X5_solve ln_RX5 lc_X5_solve ⟨rfl, by decide, by decide, by decide +kernel⟩ ⟨rfl, rfl⟩ ⟨by decide, by decide⟩ (ci := 5) rfl rfl sr_X5_solve (by decide)) (fc (mt_V hl S0 hK hEx hA (me_X5_kindGivenTo g) lm_RX4_82 li_X5_kindGivenTo lx_X5_kindGivenTo ln_RX5 lc_X5_kindGivenTo ⟨rfl, by decide, by decide, by decide +kernel⟩ ⟨rfl, rfl⟩ ⟨by decide, by decide⟩ (ci := 5) rfl rfl sr_X5_kindGivenTo (by decide)) (fc (mt_V hl S0 hK hEx hA (me_X4_likingOf_v g) lm_RX4_85 li_X4_likingOf lx_X4_likingOf ln_RX4 lc_X4_likingOf ⟨rfl, by decide, by decide, by decide +kernel⟩ ⟨rfl, rfl⟩ ⟨by decide, by decide⟩ (ci := 4) rfl rfl sr_X4_likingOf_v (by decide)) (fn))))))) (fun p e s m args below meth c Qc XC A ad0 N0 P S0 hK hEx hA hlk hout hPX => (fn)) (fun argv M Qp h => T_X4_findBest h)

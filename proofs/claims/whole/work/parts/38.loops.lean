/-! homes for guests: left tells the beds left, five to a home -/
/-- a count, or none -/
def oI (o : Option Nat) : Int32 := match o with
  | none => -nI 1
  | some n => nI n
def omax (a b : Option Nat) : Option Nat := match a with
  | none => b
  | some x => match b with
    | none => some x
    | some y => if x < y then some y else some x
def l_w (H : Nat) (lk : Nat → Nat → Option Nat) (f : Nat → Nat) (g left h : Nat) : Option Nat := if h = H then some (f left) else match lk g h with
  | none => none
  | some l => if left / 5 ^ h % 5 = 0 then none else some (1000 + l + f (left - 5 ^ h))
def l_m (H : Nat) (lk : Nat → Nat → Option Nat) (f : Nat → Nat) (g left : Nat) : Nat → Option Nat
  | 0 => none
  | n + 1 => omax (l_m H lk f g left n) (l_w H lk f g left n)
/-- the best of the last k of G guests -/
def l_v (H : Nat) (lk : Nat → Nat → Option Nat) (G : Nat) : Nat → Nat → Nat
  | 0, _ => 0
  | k + 1, left => (l_m H lk (l_v H lk G k) (G - 1 - k) left (H + 1)).getD 0
/-- the first choice that is as good -/
def l_f (H : Nat) (lk : Nat → Nat → Option Nat) (f : Nat → Nat) (g left v : Nat) : Nat := ((List.range (H + 1)).find? (fun h => decide (l_w H lk f g left h = some v))).getD H
/-- the beds left for guest g -/
def l_t (H : Nat) (lk : Nat → Nat → Option Nat) (G a : Nat) : Nat → Nat
  | 0 => a
  | g + 1 => l_t H lk G a g - (if l_f H lk (l_v H lk G (G - 1 - g)) g (l_t H lk G a g) (l_v H lk G (G - g) (l_t H lk G a g)) = H then 0 else 5 ^ l_f H lk (l_v H lk G (G - 1 - g)) g (l_t H lk G a g) (l_v H lk G (G - g) (l_t H lk G a g)))
def l_g (H : Nat) (lk : Nat → Nat → Option Nat) (G a g : Nat) : Nat := l_f H lk (l_v H lk G (G - 1 - g)) g (l_t H lk G a g) (l_v H lk G (G - g) (l_t H lk G a g))
def l_all (B : Nat → Nat) : Nat → Nat
  | 0 => 0
  | h + 1 => l_all B h + B h * 5 ^ h
theorem l_all_lt {B : Nat → Nat} {H : Nat} (h : ∀ i, i < H → B i ≤ 4) : ∀ n, n ≤ H → l_all B n < 5 ^ n := by
  intro n
  induction n with
  | zero => exact fun _ => Nat.one_pos
  | succ n ih =>
    intro hn
    rw [l_all, Nat.pow_succ]
    have h1 := ih (by omega)
    have h2 := h n (by omega)
    have : B n * 5 ^ n ≤ 4 * 5 ^ n := Nat.mul_le_mul_right _ h2
    omega
theorem omax_le {a b : Option Nat} {m : Nat} (ha : ∀ x, a = some x → x ≤ m) (hb : ∀ x, b = some x → x ≤ m) : ∀ x, omax a b = some x → x ≤ m := by
  intro x h
  cases a with
  | none => exact hb x h
  | some y =>
    cases b with
    | none => exact ha x h
    | some z =>
      unfold omax at h
      dsimp only at h
      split at h
      · exact hb x h
      · exact ha x h
theorem l_m_le {H : Nat} {lk : Nat → Nat → Option Nat} {f : Nat → Nat} {g left m : Nat} (hl : ∀ g h l, lk g h = some l → l ≤ 34) (hf : ∀ x, f x ≤ m) : ∀ n x, l_m H lk f g left n = some x → x ≤ m + 1034 := by
  intro n
  induction n with
  | zero => intro x h; cases h
  | succ n ih =>
    intro x h
    refine omax_le (fun y hy => ih y hy) (fun y hy => ?_) x h
    unfold l_w at hy
    split at hy
    · cases Option.some.inj hy
      have := hf left
      omega
    · split at hy
      · cases hy
      · rename_i l hl1
        split at hy
        · cases hy
        · cases Option.some.inj hy
          have := hf (left - 5 ^ n)
          have := hl _ _ _ hl1
          omega
theorem l_v_le {H : Nat} {lk : Nat → Nat → Option Nat} (hl : ∀ g h l, lk g h = some l → l ≤ 34) (G : Nat) : ∀ k left, l_v H lk G k left ≤ 1034 * k := by
  intro k
  induction k with
  | zero => exact fun _ => Nat.le_refl _
  | succ k ih =>
    intro left
    rw [l_v]
    cases h : l_m H lk (l_v H lk G k) (G - 1 - k) left (H + 1) with
    | none => exact Nat.zero_le _
    | some x =>
      have := l_m_le hl ih _ x h
      show x ≤ _
      omega
theorem oI_max {a b : Option Nat} (ha : ∀ x, a = some x → x < 2 ^ 31) (hb : ∀ x, b = some x → x < 2 ^ 31) : (if oI a < oI b then oI b else oI a) = oI (omax a b) := by
  have m1 : ∀ n, n < 2 ^ 31 → -nI 1 < nI n := fun n hn => by
    rw [Int32.lt_iff_toInt_lt, nI_toInt hn]
    have : (-nI 1 : Int32).toInt = -1 := by decide
    omega
  have irr : ∀ x : Int32, ¬ x < x := fun x h => by rw [Int32.lt_iff_toInt_lt] at h; omega
  cases a with
  | none =>
    cases b with
    | none => exact if_neg (irr _)
    | some y => exact if_pos (m1 y (hb y rfl))
  | some x =>
    cases b with
    | none => exact if_neg (fun z => irr _ (Int32.lt_trans z (m1 x (ha x rfl))))
    | some y =>
      show (if nI x < nI y then nI y else nI x) = oI (if x < y then some y else some x)
      by_cases h : x < y
      · rw [if_pos h, if_pos ((n_lt (ha x rfl) (hb y rfl)).mpr h)]; rfl
      · rw [if_neg h, if_neg (fun z => h ((n_lt (ha x rfl) (hb y rfl)).mp z))]; rfl
theorem oI_eq {a : Option Nat} {v : Nat} (ha : ∀ x, a = some x → x < 2 ^ 31) (hv : v < 2 ^ 31) : oI a = nI v ↔ a = some v := by
  cases a with
  | none => exact ⟨fun z => absurd z.symm (nI_m1 hv), fun z => by cases z⟩
  | some x =>
    show nI x = nI v ↔ _
    rw [n_eq (ha x rfl) hv]
    exact ⟨fun z => by rw [z], fun z => Option.some.inj z⟩
/-- the best is some choice's -/
theorem l_m_in {H : Nat} {lk : Nat → Nat → Option Nat} {f : Nat → Nat} {g left : Nat} : ∀ n x, l_m H lk f g left n = some x → ∃ h, h < n ∧ l_w H lk f g left h = some x := by
  intro n
  induction n with
  | zero => intro x h; cases h
  | succ n ih =>
    intro x h
    rw [l_m] at h
    cases ha : l_m H lk f g left n with
    | none =>
      rw [ha] at h
      exact ⟨n, by omega, h⟩
    | some y =>
      rw [ha] at h
      cases hb : l_w H lk f g left n with
      | none =>
        rw [hb] at h
        obtain ⟨i, hi, e⟩ := ih y ha
        have h : some y = some x := h
        exact ⟨i, by omega, by rw [e, h]⟩
      | some z =>
        rw [hb] at h
        unfold omax at h
        dsimp only at h
        split at h
        · exact ⟨n, by omega, by rw [hb, h]⟩
        · obtain ⟨i, hi, e⟩ := ih y ha
          exact ⟨i, by omega, by rw [e, h]⟩
theorem l_m_some {H : Nat} {lk : Nat → Nat → Option Nat} {f : Nat → Nat} {g left : Nat} : ∃ x, l_m H lk f g left (H + 1) = some x := by
  rw [l_m]
  have : l_w H lk f g left H = some (f left) := by unfold l_w; rw [if_pos rfl]
  rw [this]
  cases l_m H lk f g left H with
  | none => exact ⟨_, rfl⟩
  | some y =>
    unfold omax
    dsimp only
    split <;> exact ⟨_, rfl⟩
/-- the choice that is found: as good, and none ahead is -/
theorem l_f_ok {H : Nat} {lk : Nat → Nat → Option Nat} {f : Nat → Nat} {g left v : Nat} (hv : l_m H lk f g left (H + 1) = some v) : l_f H lk f g left v ≤ H ∧ l_w H lk f g left (l_f H lk f g left v) = some v ∧ ∀ h, h < l_f H lk f g left v → ¬ l_w H lk f g left h = some v := by
  obtain ⟨i, hi, e⟩ := l_m_in _ v hv
  unfold l_f
  cases hf : (List.range (H + 1)).find? (fun h => decide (l_w H lk f g left h = some v)) with
  | none =>
    have := List.find?_eq_none.mp hf i (List.mem_range.mpr hi)
    exact absurd (decide_eq_true e) this
  | some h =>
    have h1 := List.find?_some hf
    have h2 := List.mem_of_find?_eq_some hf
    rw [List.mem_range] at h2
    refine ⟨by show h ≤ H; omega, of_decide_eq_true h1, fun j hj => ?_⟩
    have hj : j < h := hj
    intro z
    obtain ⟨_, as, bs, hs, hn⟩ := List.find?_eq_some_iff_append.mp hf
    have e1 : (List.range (H + 1))[as.length]? = some h := by rw [hs, List.getElem?_append_right (Nat.le_refl _), Nat.sub_self]; rfl
    have e2 : as.length = h := by
      have hl : as.length < (List.range (H + 1)).length := (List.getElem?_eq_some_iff.mp e1).1
      rw [List.getElem?_eq_getElem hl, List.getElem_range] at e1
      exact Option.some.inj e1
    have e3 : (List.range (H + 1))[j]? = some j := by rw [List.getElem?_range (by omega)]
    rw [hs, List.getElem?_append_left (by omega)] at e3
    have := hn j (List.mem_of_getElem? e3)
    simp only [decide_eq_true z] at this
    cases this
theorem l_t_le (H : Nat) (lk : Nat → Nat → Option Nat) (G a : Nat) : ∀ g, l_t H lk G a g ≤ a := by
  intro g
  induction g with
  | zero => exact Nat.le_refl _
  | succ g ih => rw [l_t]; omega
theorem m_un_v : ∀ h, h ≤ 6 → m_un h = nI (5 ^ h) := by decide
theorem pow5_le {h : Nat} (hh : h ≤ 6) : 5 ^ h ≤ 15625 := Nat.le_trans (Nat.pow_le_pow_right (by decide) hh) (by decide)
theorem pow5_pos (h : Nat) : 0 < 5 ^ h := Nat.pow_pos (by decide)
theorem m_t3_v (b : Int32) (n : Nat) : ∀ t, ∃ s, s ≤ 3 * t ∧ m_t3 b (nI n) t = nI (n + s) := by
  intro t
  induction t with
  | zero => exact ⟨0, Nat.le_refl _, rfl⟩
  | succ t ih =>
    obtain ⟨s, hs, e⟩ := ih
    rw [m_t3, e, bit_v, n_m, n_s]
    by_cases h : bit b t = true
    · exact ⟨s + 3, by omega, by rw [if_pos h]; congr 1⟩
    · exact ⟨s, by omega, by rw [if_neg h]; congr 1⟩
theorem ab_v : ∀ a, a < 100 → ∀ b, b < 100 → (if 0 ≤ nI a - nI b then nI a - nI b else 0 - (nI a - nI b)) = nI (if a < b then b - a else a - b) := by decide +kernel
theorem ten_v : ∀ d, d < 100 → (if nI 0 < nI 10 - nI d then nI 10 - nI d else nI 0) = nI (10 - d) := by decide +kernel
/-- the model: guests and homes are as told -/
def m_LD (M : eg_M) : Prop := eg_cn (eg_gi M 121 52) 6 ∧ eg_cn (eg_gi M 121 53) 8 ∧ (∀ h, h < (eg_gi M 121 52).toNatClampNeg → (∃ k, k ≤ 4 ∧ eg_gi M 155 h = nI k) ∧ vp_in (eg_gi M 157 h) 100) ∧ ∀ g, g < (eg_gi M 121 53).toNatClampNeg → vp_in (eg_gi M 159 g) 100
/-- the model: how a guest likes a home -/
def m_lk (M : eg_M) (G H g h : Nat) : Option Nat := if g < G ∧ h < H then (if m_li M (nI g) (nI h) = -nI 1 then none else some (m_li M (nI g) (nI h)).toNatClampNeg) else none
theorem m_li_v {M : eg_M} {g h : Nat} (hg : g < 2 ^ 31) (hh : h < 2 ^ 31) (h1 : vp_in (eg_gi M 159 g) 100) (h2 : vp_in (eg_gi M 157 h) 100) : m_li M (nI g) (nI h) = -nI 1 ∨ ∃ l, l ≤ 34 ∧ m_li M (nI g) (nI h) = nI l := by
  unfold m_li
  rw [n_c hg, n_c hh]
  split
  · exact Or.inl rfl
  · right
    obtain ⟨a, ha, ea⟩ := vp_in_of h1 (by decide)
    obtain ⟨b, hb, eb⟩ := vp_in_of h2 (by decide)
    have hd : (if a < b then b - a else a - b) < 100 := by split <;> omega
    rw [ea, eb, ab_v a ha b hb, ten_v _ hd]
    generalize (if a < b then b - a else a - b) = d at hd
    obtain ⟨s, hs, es⟩ := m_t3_v (eg_gi M 158 g &&& eg_gi M 156 h) (10 - d) 8
    exact ⟨10 - d + s, by omega, es⟩
def k_X12_lodge : eg_C := ([(0, .aload_n 0, 1), (1, .iconst 0, 1), (2, .putfield 213, 3), (5, .iconst 0, 1), (6, .istore_n 1, 1), (7, .iconst 0, 1), (8, .istore_n 2, 1), (9, .iload_n 2, 1), (10, .aload_n 0, 1), (11, .getfield 457, 3), (14, .if_icmp .ge 23, 3), (17, .iload_n 1, 1), (18, .aload_n 0, 1), (19, .getfield 142, 3), (22, .iload_n 2, 1), (23, .iaload, 1), (24, .iload_n 2, 1), (25, .invokestatic 467, 3), (28, .imul, 1), (29, .iadd, 1), (30, .istore_n 1, 1), (31, .iinc 2 1, 3), (34, .goto (-25), 3), (37, .iconst 0, 1), (38, .istore_n 2, 1), (39, .iload_n 2, 1), (40, .sipush 15625, 3), (43, .if_icmp .ge 25, 3), (46, .aload_n 0, 1), (47, .getfield 161, 3), (50, .sipush 15625, 3), (53, .aload_n 0, 1), (54, .getfield 460, 3), (57, .imul, 1), (58, .iload_n 2, 1), (59, .iadd, 1), (60, .iconst 0, 1), (61, .iastore, 1), (62, .iinc 2 1, 3), (65, .goto (-26), 3), (68, .aload_n 0, 1), (69, .getfield 460, 3), (72, .iconst 1, 1), (73, .isub, 1), (74, .istore_n 2, 1), (75, .iload_n 2, 1), (76, .ifCond .lt 72, 3), (79, .iconst 0, 1), (80, .istore_n 3, 1), (81, .iload_n 3, 1), (82, .iload_n 1, 1), (83, .if_icmp .gt 59, 3), (86, .iconst (-1), 1), (87, .istore 4, 2), (89, .iconst 0, 1), (90, .istore 5, 2), (92, .iload 5, 2), (94, .aload_n 0, 1), (95, .getfield 457, 3), (98, .if_icmp .gt 24, 3), (101, .iload 4, 2), (103, .aload_n 0, 1), (104, .iload_n 2, 1), (105, .iload 5, 2), (107, .iload_n 3, 1), (108, .invokevirtual 470, 3), (111, .invokestatic 462, 3), (114, .istore 4, 2), (116, .iinc 5 1, 3), (119, .goto (-27), 3), (122, .aload_n 0, 1), (123, .getfield 161, 3), (126, .sipush 15625, 3), (129, .iload_n 2, 1), (130, .imul, 1), (131, .iload_n 3, 1), (132, .iadd, 1), (133, .iload 4, 2), (135, .iastore, 1), (136, .iinc 3 1, 3), (139, .goto (-58), 3), (142, .iinc 2 (-1), 3), (145, .goto (-70), 3), (148, .iload_n 1, 1), (149, .istore_n 2, 1), (150, .iconst 0, 1), (151, .istore_n 3, 1), (152, .iload_n 3, 1), (153, .aload_n 0, 1), (154, .getfield 460, 3), (157, .if_icmp .ge 83, 3), (160, .iconst 0, 1), (161, .istore 4, 2), (163, .aload_n 0, 1), (164, .iload_n 3, 1), (165, .iload 4, 2), (167, .iload_n 2, 1), (168, .invokevirtual 470, 3), (171, .aload_n 0, 1), (172, .getfield 161, 3), (175, .sipush 15625, 3), (178, .iload_n 3, 1), (179, .imul, 1), (180, .iload_n 2, 1), (181, .iadd, 1), (182, .iaload, 1), (183, .if_icmp .eq 9, 3), (186, .iinc 4 1, 3), (189, .goto (-26), 3), (192, .aload_n 0, 1), (193, .getfield 157, 3), (196, .iload_n 3, 1), (197, .iload 4, 2), (199, .aload_n 0, 1), (200, .getfield 457, 3), (203, .if_icmp .ne 7, 3), (206, .iconst (-1), 1), (207, .goto 5, 3), (210, .iload 4, 2), (212, .iastore, 1), (213, .iload_n 2, 1), (214, .iload 4, 2), (216, .aload_n 0, 1), (217, .getfield 457, 3), (220, .if_icmp .ne 7, 3), (223, .iconst 0, 1), (224, .goto 8, 3), (227, .iload 4, 2), (229, .invokestatic 467, 3), (232, .isub, 1), (233, .istore_n 2, 1), (234, .iinc 3 1, 3), (237, .goto (-85), 3), (240, .aload_n 0, 1), (241, .aload_n 0, 1), (242, .getfield 460, 3), (245, .putfield 139, 3), (248, .aload_n 0, 1), (249, .aload_n 0, 1), (250, .getfield 161, 3), (253, .iload_n 1, 1), (254, .iaload, 1), (255, .sipush 1000, 3), (258, .irem, 1), (259, .i2l, 1), (260, .putfield 474, 3), (263, .aload_n 0, 1), (264, .getfield 161, 3), (267, .iload_n 1, 1), (268, .iaload, 1), (269, .sipush 1000, 3), (272, .idiv, 1), (273, .ireturn, 1)], [(139, 12, 54, true), (142, 12, 56, false), (157, 12, 61, false), (161, 12, 62, false), (213, 12, 1, true), (457, 12, 52, false), (460, 12, 53, false), (474, 12, 55, true)], [], [(462 + 100000, 2, 0, 0, s_J9_max_7cf53), (467 + 100000, 1, 0, 0, s_X12_unit), (470, 3 + 1, 0, 0, s_X12_with)], [], 1, 0, 0)
theorem mk_X12_lodge : ∀ q ∈ k_X12_lodge.2.2.2.1, eg_mono q.2.2.2.2 := (fc (mo_J9_max_7cf53) (fc (mo_X12_unit) (fc (mo_X12_with) (fn))))
set_option maxRecDepth 100000 in
theorem st_X12_lodge_0 {Qp : eg_P} {M : eg_M} 
  (l0 : eg_T wd k_X12_lodge Qp 9 0 0 [some (.ref 121), some (.int (nI 0)), some (.int (nI 0)), none, none, none] [] (eg_si M 121 1 (nI 0))) :
  eg_T wd k_X12_lodge Qp 0 0 0 [some (.ref 121), none, none, none, none, none] [] M := by
  refine eg_T_run mk_X12_lodge (cut := [9, 39, 75, 81, 92, 152, 163]) 156 ?_
  show eg_T wd k_X12_lodge Qp 9 0 0 [some (.ref 121), some (.int (nI 0)), some (.int (nI 0)), none, none, none] [] (eg_si M 121 1 (nI 0))
  exact l0

set_option maxRecDepth 100000 in
theorem st_X12_lodge_9 {Qp : eg_P} {M : eg_M} (x1 : Int32) (x2 : Int32) (o3 : Option Value) (o4 : Option Value) (o5 : Option Value)
  (g0 : (¬ ((eg_gi M 121 52) ≤ x2)) → (vp_in x2 6))
  (g1 : (¬ ((eg_gi M 121 52) ≤ x2)) → (eg_cn x2 16))
  (l0 : ((eg_gi M 121 52) ≤ x2) → eg_T wd k_X12_lodge Qp 39 0 0 [some (.ref 121), some (.int x1), some (.int (nI 0)), o3, o4, o5] [] M)
  (l1 : (¬ (eg_gi M 121 52) ≤ x2) → eg_T wd k_X12_lodge Qp 9 0 0 [some (.ref 121), some (.int (x1 + ((eg_gi M 155 x2.toNatClampNeg) * (m_un x2.toNatClampNeg)))), some (.int (x2 + (nI 1))), o3, o4, o5] [] M) :
  eg_T wd k_X12_lodge Qp 9 0 0 [some (.ref 121), some (.int x1), some (.int x2), o3, o4, o5] [] M := by
  refine eg_T_run mk_X12_lodge (cut := [9, 39, 75, 81, 92, 152, 163]) 156 ?_
  refine And.intro (fun (c1 : (eg_gi M 121 52) ≤ x2) => ?_) (fun (c1 : ¬ (eg_gi M 121 52) ≤ x2) => ?_)
  · skip
    show eg_T wd k_X12_lodge Qp 39 0 0 [some (.ref 121), some (.int x1), some (.int (nI 0)), o3, o4, o5] [] M
    exact l0 c1
  · skip
    refine And.intro (show vp_in x2 6 from ?_) ?_
    · exact g0 c1
    refine And.intro (show (eg_cn x2 16) from ?_) ?_
    · exact g1 c1
    show eg_T wd k_X12_lodge Qp 9 0 0 [some (.ref 121), some (.int (x1 + ((eg_gi M 155 x2.toNatClampNeg) * (m_un x2.toNatClampNeg)))), some (.int (x2 + (nI 1))), o3, o4, o5] [] M
    exact l1 c1

set_option maxRecDepth 100000 in
theorem st_X12_lodge_39 {Qp : eg_P} {M : eg_M} (x1 : Int32) (x2 : Int32) (o3 : Option Value) (o4 : Option Value) (o5 : Option Value)
  (g0 : (¬ ((nI 15625) ≤ x2)) → (vp_in (((nI 15625) * (eg_gi M 121 53)) + x2) 140625))
  (l0 : ((nI 15625) ≤ x2) → eg_T wd k_X12_lodge Qp 75 0 0 [some (.ref 121), some (.int x1), some (.int ((eg_gi M 121 53) - (nI 1))), o3, o4, o5] [] M)
  (l1 : (¬ (nI 15625) ≤ x2) → eg_T wd k_X12_lodge Qp 39 0 0 [some (.ref 121), some (.int x1), some (.int (x2 + (nI 1))), o3, o4, o5] [] (eg_si M 161 (((nI 15625) * (eg_gi M 121 53)) + x2).toNatClampNeg (nI 0))) :
  eg_T wd k_X12_lodge Qp 39 0 0 [some (.ref 121), some (.int x1), some (.int x2), o3, o4, o5] [] M := by
  refine eg_T_run mk_X12_lodge (cut := [9, 39, 75, 81, 92, 152, 163]) 156 ?_
  refine And.intro (fun (c1 : (nI 15625) ≤ x2) => ?_) (fun (c1 : ¬ (nI 15625) ≤ x2) => ?_)
  · skip
    show eg_T wd k_X12_lodge Qp 75 0 0 [some (.ref 121), some (.int x1), some (.int ((eg_gi M 121 53) - (nI 1))), o3, o4, o5] [] M
    exact l0 c1
  · skip
    refine And.intro (show vp_in (((nI 15625) * (eg_gi M 121 53)) + x2) 140625 from ?_) ?_
    · exact g0 c1
    show eg_T wd k_X12_lodge Qp 39 0 0 [some (.ref 121), some (.int x1), some (.int (x2 + (nI 1))), o3, o4, o5] [] (eg_si M 161 (((nI 15625) * (eg_gi M 121 53)) + x2).toNatClampNeg (nI 0))
    exact l1 c1

set_option maxRecDepth 100000 in
theorem st_X12_lodge_75 {Qp : eg_P} {M : eg_M} (x1 : Int32) (x2 : Int32) (o3 : Option Value) (o4 : Option Value) (o5 : Option Value)
  (l0 : (x2 < 0) → eg_T wd k_X12_lodge Qp 152 0 0 [some (.ref 121), some (.int x1), some (.int x1), some (.int (nI 0)), o4, o5] [] M)
  (l1 : (¬ x2 < 0) → eg_T wd k_X12_lodge Qp 81 0 0 [some (.ref 121), some (.int x1), some (.int x2), some (.int (nI 0)), o4, o5] [] M) :
  eg_T wd k_X12_lodge Qp 75 0 0 [some (.ref 121), some (.int x1), some (.int x2), o3, o4, o5] [] M := by
  refine eg_T_run mk_X12_lodge (cut := [9, 39, 75, 81, 92, 152, 163]) 156 ?_
  refine And.intro (fun (c1 : x2 < 0) => ?_) (fun (c1 : ¬ x2 < 0) => ?_)
  · skip
    show eg_T wd k_X12_lodge Qp 152 0 0 [some (.ref 121), some (.int x1), some (.int x1), some (.int (nI 0)), o4, o5] [] M
    exact l0 c1
  · skip
    show eg_T wd k_X12_lodge Qp 81 0 0 [some (.ref 121), some (.int x1), some (.int x2), some (.int (nI 0)), o4, o5] [] M
    exact l1 c1

set_option maxRecDepth 100000 in
theorem st_X12_lodge_81 {Qp : eg_P} {M : eg_M} (x1 : Int32) (x2 : Int32) (x3 : Int32) (o4 : Option Value) (o5 : Option Value)
  (l0 : (x1 < x3) → eg_T wd k_X12_lodge Qp 75 0 0 [some (.ref 121), some (.int x1), some (.int (x2 + (-nI 1))), some (.int x3), o4, o5] [] M)
  (l1 : (¬ x1 < x3) → eg_T wd k_X12_lodge Qp 92 0 0 [some (.ref 121), some (.int x1), some (.int x2), some (.int x3), some (.int (-nI 1)), some (.int (nI 0))] [] M) :
  eg_T wd k_X12_lodge Qp 81 0 0 [some (.ref 121), some (.int x1), some (.int x2), some (.int x3), o4, o5] [] M := by
  refine eg_T_run mk_X12_lodge (cut := [9, 39, 75, 81, 92, 152, 163]) 156 ?_
  refine And.intro (fun (c1 : x1 < x3) => ?_) (fun (c1 : ¬ x1 < x3) => ?_)
  · skip
    show eg_T wd k_X12_lodge Qp 75 0 0 [some (.ref 121), some (.int x1), some (.int (x2 + (-nI 1))), some (.int x3), o4, o5] [] M
    exact l0 c1
  · skip
    show eg_T wd k_X12_lodge Qp 92 0 0 [some (.ref 121), some (.int x1), some (.int x2), some (.int x3), some (.int (-nI 1)), some (.int (nI 0))] [] M
    exact l1 c1

set_option maxRecDepth 100000 in
theorem st_X12_lodge_92 {Qp : eg_P} {M : eg_M} (x1 : Int32) (x2 : Int32) (x3 : Int32) (x4 : Int32) (x5 : Int32)
  (g0 : ((eg_gi M 121 52) < x5) → (vp_in (((nI 15625) * x2) + x3) 140625))
  (g1 : (¬ ((eg_gi M 121 52) < x5)) → (((x5 = (eg_gi M 121 52)) → vp_in (((nI 15625) * (x2 + (nI 1))) + x3) 140625) ∧ ((¬ x5 = (eg_gi M 121 52)) → (vp_in x2 8 ∧ vp_in x5 6)) ∧ ((¬ x5 = (eg_gi M 121 52)) → (¬ (m_li M x2 x5) = (-nI 1)) → (eg_cn x5 16)) ∧ ((¬ x5 = (eg_gi M 121 52)) → (¬ (m_li M x2 x5) = (-nI 1)) → ¬ (m_un x5.toNatClampNeg) = 0) ∧ ((¬ x5 = (eg_gi M 121 52)) → (¬ (m_li M x2 x5) = (-nI 1)) → (¬ ((x3 / (m_un x5.toNatClampNeg)) - (x3 / (m_un x5.toNatClampNeg)) / (nI 5) * (nI 5)) = 0) → vp_in ((((nI 15625) * (x2 + (nI 1))) + x3) - (m_un x5.toNatClampNeg)) 140625)))
  (l0 : ((eg_gi M 121 52) < x5) → eg_T wd k_X12_lodge Qp 81 0 0 [some (.ref 121), some (.int x1), some (.int x2), some (.int (x3 + (nI 1))), some (.int x4), some (.int x5)] [] (eg_si M 161 (((nI 15625) * x2) + x3).toNatClampNeg x4))
  (l1 : (¬ (eg_gi M 121 52) < x5) → eg_T wd k_X12_lodge Qp 92 0 0 [some (.ref 121), some (.int x1), some (.int x2), some (.int x3), some (.int (if x4 < (if x5 = (eg_gi M 121 52) then (eg_gi M 161 (((nI 15625) * (x2 + (nI 1))) + x3).toNatClampNeg) else (if (m_li M x2 x5) = (-nI 1) then (-nI 1) else (if ((x3 / (m_un x5.toNatClampNeg)) - (x3 / (m_un x5.toNatClampNeg)) / (nI 5) * (nI 5)) = 0 then (-nI 1) else (((nI 1000) + (m_li M x2 x5)) + (eg_gi M 161 ((((nI 15625) * (x2 + (nI 1))) + x3) - (m_un x5.toNatClampNeg)).toNatClampNeg))))) then (if x5 = (eg_gi M 121 52) then (eg_gi M 161 (((nI 15625) * (x2 + (nI 1))) + x3).toNatClampNeg) else (if (m_li M x2 x5) = (-nI 1) then (-nI 1) else (if ((x3 / (m_un x5.toNatClampNeg)) - (x3 / (m_un x5.toNatClampNeg)) / (nI 5) * (nI 5)) = 0 then (-nI 1) else (((nI 1000) + (m_li M x2 x5)) + (eg_gi M 161 ((((nI 15625) * (x2 + (nI 1))) + x3) - (m_un x5.toNatClampNeg)).toNatClampNeg))))) else x4)), some (.int (x5 + (nI 1)))] [] M) :
  eg_T wd k_X12_lodge Qp 92 0 0 [some (.ref 121), some (.int x1), some (.int x2), some (.int x3), some (.int x4), some (.int x5)] [] M := by
  refine eg_T_run mk_X12_lodge (cut := [9, 39, 75, 81, 92, 152, 163]) 156 ?_
  refine And.intro (fun (c1 : (eg_gi M 121 52) < x5) => ?_) (fun (c1 : ¬ (eg_gi M 121 52) < x5) => ?_)
  · skip
    refine And.intro (show vp_in (((nI 15625) * x2) + x3) 140625 from ?_) ?_
    · exact g0 c1
    show eg_T wd k_X12_lodge Qp 81 0 0 [some (.ref 121), some (.int x1), some (.int x2), some (.int (x3 + (nI 1))), some (.int x4), some (.int x5)] [] (eg_si M 161 (((nI 15625) * x2) + x3).toNatClampNeg x4)
    exact l0 c1
  · skip
    refine And.intro (show (((x5 = (eg_gi M 121 52)) → vp_in (((nI 15625) * (x2 + (nI 1))) + x3) 140625) ∧ ((¬ x5 = (eg_gi M 121 52)) → (vp_in x2 8 ∧ vp_in x5 6)) ∧ ((¬ x5 = (eg_gi M 121 52)) → (¬ (m_li M x2 x5) = (-nI 1)) → (eg_cn x5 16)) ∧ ((¬ x5 = (eg_gi M 121 52)) → (¬ (m_li M x2 x5) = (-nI 1)) → ¬ (m_un x5.toNatClampNeg) = 0) ∧ ((¬ x5 = (eg_gi M 121 52)) → (¬ (m_li M x2 x5) = (-nI 1)) → (¬ ((x3 / (m_un x5.toNatClampNeg)) - (x3 / (m_un x5.toNatClampNeg)) / (nI 5) * (nI 5)) = 0) → vp_in ((((nI 15625) * (x2 + (nI 1))) + x3) - (m_un x5.toNatClampNeg)) 140625)) from ?_) ?_
    · exact g1 c1
    show eg_T wd k_X12_lodge Qp 92 0 0 [some (.ref 121), some (.int x1), some (.int x2), some (.int x3), some (.int (if x4 < (if x5 = (eg_gi M 121 52) then (eg_gi M 161 (((nI 15625) * (x2 + (nI 1))) + x3).toNatClampNeg) else (if (m_li M x2 x5) = (-nI 1) then (-nI 1) else (if ((x3 / (m_un x5.toNatClampNeg)) - (x3 / (m_un x5.toNatClampNeg)) / (nI 5) * (nI 5)) = 0 then (-nI 1) else (((nI 1000) + (m_li M x2 x5)) + (eg_gi M 161 ((((nI 15625) * (x2 + (nI 1))) + x3) - (m_un x5.toNatClampNeg)).toNatClampNeg))))) then (if x5 = (eg_gi M 121 52) then (eg_gi M 161 (((nI 15625) * (x2 + (nI 1))) + x3).toNatClampNeg) else (if (m_li M x2 x5) = (-nI 1) then (-nI 1) else (if ((x3 / (m_un x5.toNatClampNeg)) - (x3 / (m_un x5.toNatClampNeg)) / (nI 5) * (nI 5)) = 0 then (-nI 1) else (((nI 1000) + (m_li M x2 x5)) + (eg_gi M 161 ((((nI 15625) * (x2 + (nI 1))) + x3) - (m_un x5.toNatClampNeg)).toNatClampNeg))))) else x4)), some (.int (x5 + (nI 1)))] [] M
    exact l1 c1

set_option maxRecDepth 100000 in
theorem st_X12_lodge_152 {Qp : eg_P} {M : eg_M} (x1 : Int32) (x2 : Int32) (x3 : Int32) (o4 : Option Value) (o5 : Option Value)
  (g0 : ((eg_gi M 121 53) ≤ x3) → (vp_in x1 140625))
  (l0 : ((eg_gi M 121 53) ≤ x3) → Qp (.inl (some (.int ((eg_gi M 161 x1.toNatClampNeg) / (nI 1000))))) (eg_sl (eg_si M 121 54 (eg_gi M 121 53)) 121 55 (((eg_gi M 161 x1.toNatClampNeg) - (eg_gi M 161 x1.toNatClampNeg) / (nI 1000) * (nI 1000)).toInt64)))
  (l1 : (¬ (eg_gi M 121 53) ≤ x3) → eg_T wd k_X12_lodge Qp 163 0 0 [some (.ref 121), some (.int x1), some (.int x2), some (.int x3), some (.int (nI 0)), o5] [] M) :
  eg_T wd k_X12_lodge Qp 152 0 0 [some (.ref 121), some (.int x1), some (.int x2), some (.int x3), o4, o5] [] M := by
  refine eg_T_run mk_X12_lodge (cut := [9, 39, 75, 81, 92, 152, 163]) 156 ?_
  refine And.intro (fun (c1 : (eg_gi M 121 53) ≤ x3) => ?_) (fun (c1 : ¬ (eg_gi M 121 53) ≤ x3) => ?_)
  · skip
    refine And.intro (show vp_in x1 140625 from ?_) ?_
    · exact g0 c1
    refine And.intro (show ¬ (nI 1000) = 0 from ?_) ?_
    · decide
    refine And.intro (show vp_in x1 140625 from ?_) ?_
    · exact g0 c1
    refine And.intro (show ¬ (nI 1000) = 0 from ?_) ?_
    · decide
    refine And.intro (fun z => absurd z (by decide)) ?_
    show Qp (.inl (some (.int ((eg_gi M 161 x1.toNatClampNeg) / (nI 1000))))) (eg_sl (eg_si M 121 54 (eg_gi M 121 53)) 121 55 (((eg_gi M 161 x1.toNatClampNeg) - (eg_gi M 161 x1.toNatClampNeg) / (nI 1000) * (nI 1000)).toInt64))
    exact l0 c1
  · skip
    show eg_T wd k_X12_lodge Qp 163 0 0 [some (.ref 121), some (.int x1), some (.int x2), some (.int x3), some (.int (nI 0)), o5] [] M
    exact l1 c1

set_option maxRecDepth 100000 in
theorem st_X12_lodge_163 {Qp : eg_P} {M : eg_M} (x1 : Int32) (x2 : Int32) (x3 : Int32) (x4 : Int32) (o5 : Option Value)
  (g0 : (((x4 = (eg_gi M 121 52)) → vp_in (((nI 15625) * (x3 + (nI 1))) + x2) 140625) ∧ ((¬ x4 = (eg_gi M 121 52)) → (vp_in x3 8 ∧ vp_in x4 6)) ∧ ((¬ x4 = (eg_gi M 121 52)) → (¬ (m_li M x3 x4) = (-nI 1)) → (eg_cn x4 16)) ∧ ((¬ x4 = (eg_gi M 121 52)) → (¬ (m_li M x3 x4) = (-nI 1)) → ¬ (m_un x4.toNatClampNeg) = 0) ∧ ((¬ x4 = (eg_gi M 121 52)) → (¬ (m_li M x3 x4) = (-nI 1)) → (¬ ((x2 / (m_un x4.toNatClampNeg)) - (x2 / (m_un x4.toNatClampNeg)) / (nI 5) * (nI 5)) = 0) → vp_in ((((nI 15625) * (x3 + (nI 1))) + x2) - (m_un x4.toNatClampNeg)) 140625)))
  (g1 : (vp_in (((nI 15625) * x3) + x2) 140625))
  (g2 : ((if x4 = (eg_gi M 121 52) then (eg_gi M 161 (((nI 15625) * (x3 + (nI 1))) + x2).toNatClampNeg) else (if (m_li M x3 x4) = (-nI 1) then (-nI 1) else (if ((x2 / (m_un x4.toNatClampNeg)) - (x2 / (m_un x4.toNatClampNeg)) / (nI 5) * (nI 5)) = 0 then (-nI 1) else (((nI 1000) + (m_li M x3 x4)) + (eg_gi M 161 ((((nI 15625) * (x3 + (nI 1))) + x2) - (m_un x4.toNatClampNeg)).toNatClampNeg))))) = (eg_gi M 161 (((nI 15625) * x3) + x2).toNatClampNeg)) → (vp_in x3 8))
  (g3 : ((if x4 = (eg_gi M 121 52) then (eg_gi M 161 (((nI 15625) * (x3 + (nI 1))) + x2).toNatClampNeg) else (if (m_li M x3 x4) = (-nI 1) then (-nI 1) else (if ((x2 / (m_un x4.toNatClampNeg)) - (x2 / (m_un x4.toNatClampNeg)) / (nI 5) * (nI 5)) = 0 then (-nI 1) else (((nI 1000) + (m_li M x3 x4)) + (eg_gi M 161 ((((nI 15625) * (x3 + (nI 1))) + x2) - (m_un x4.toNatClampNeg)).toNatClampNeg))))) = (eg_gi M 161 (((nI 15625) * x3) + x2).toNatClampNeg)) → (¬ (x4 = (eg_gi M 121 52))) → (eg_cn x4 16))
  (l0 : ((if x4 = (eg_gi M 121 52) then (eg_gi M 161 (((nI 15625) * (x3 + (nI 1))) + x2).toNatClampNeg) else (if (m_li M x3 x4) = (-nI 1) then (-nI 1) else (if ((x2 / (m_un x4.toNatClampNeg)) - (x2 / (m_un x4.toNatClampNeg)) / (nI 5) * (nI 5)) = 0 then (-nI 1) else (((nI 1000) + (m_li M x3 x4)) + (eg_gi M 161 ((((nI 15625) * (x3 + (nI 1))) + x2) - (m_un x4.toNatClampNeg)).toNatClampNeg))))) = (eg_gi M 161 (((nI 15625) * x3) + x2).toNatClampNeg) ∧ x4 = (eg_gi M 121 52)) → eg_T wd k_X12_lodge Qp 152 0 0 [some (.ref 121), some (.int x1), some (.int (x2 - (nI 0))), some (.int (x3 + (nI 1))), some (.int x4), o5] [] (eg_si M 160 x3.toNatClampNeg (-nI 1)))
  (l1 : ((if x4 = (eg_gi M 121 52) then (eg_gi M 161 (((nI 15625) * (x3 + (nI 1))) + x2).toNatClampNeg) else (if (m_li M x3 x4) = (-nI 1) then (-nI 1) else (if ((x2 / (m_un x4.toNatClampNeg)) - (x2 / (m_un x4.toNatClampNeg)) / (nI 5) * (nI 5)) = 0 then (-nI 1) else (((nI 1000) + (m_li M x3 x4)) + (eg_gi M 161 ((((nI 15625) * (x3 + (nI 1))) + x2) - (m_un x4.toNatClampNeg)).toNatClampNeg))))) = (eg_gi M 161 (((nI 15625) * x3) + x2).toNatClampNeg) ∧ ¬ x4 = (eg_gi M 121 52)) → eg_T wd k_X12_lodge Qp 152 0 0 [some (.ref 121), some (.int x1), some (.int (x2 - (m_un x4.toNatClampNeg))), some (.int (x3 + (nI 1))), some (.int x4), o5] [] (eg_si M 160 x3.toNatClampNeg x4))
  (l2 : (¬ (if x4 = (eg_gi M 121 52) then (eg_gi M 161 (((nI 15625) * (x3 + (nI 1))) + x2).toNatClampNeg) else (if (m_li M x3 x4) = (-nI 1) then (-nI 1) else (if ((x2 / (m_un x4.toNatClampNeg)) - (x2 / (m_un x4.toNatClampNeg)) / (nI 5) * (nI 5)) = 0 then (-nI 1) else (((nI 1000) + (m_li M x3 x4)) + (eg_gi M 161 ((((nI 15625) * (x3 + (nI 1))) + x2) - (m_un x4.toNatClampNeg)).toNatClampNeg))))) = (eg_gi M 161 (((nI 15625) * x3) + x2).toNatClampNeg)) → eg_T wd k_X12_lodge Qp 163 0 0 [some (.ref 121), some (.int x1), some (.int x2), some (.int x3), some (.int (x4 + (nI 1))), o5] [] M) :
  eg_T wd k_X12_lodge Qp 163 0 0 [some (.ref 121), some (.int x1), some (.int x2), some (.int x3), some (.int x4), o5] [] M := by
  refine eg_T_run mk_X12_lodge (cut := [9, 39, 75, 81, 92, 152, 163]) 156 ?_
  refine And.intro (show (((x4 = (eg_gi M 121 52)) → vp_in (((nI 15625) * (x3 + (nI 1))) + x2) 140625) ∧ ((¬ x4 = (eg_gi M 121 52)) → (vp_in x3 8 ∧ vp_in x4 6)) ∧ ((¬ x4 = (eg_gi M 121 52)) → (¬ (m_li M x3 x4) = (-nI 1)) → (eg_cn x4 16)) ∧ ((¬ x4 = (eg_gi M 121 52)) → (¬ (m_li M x3 x4) = (-nI 1)) → ¬ (m_un x4.toNatClampNeg) = 0) ∧ ((¬ x4 = (eg_gi M 121 52)) → (¬ (m_li M x3 x4) = (-nI 1)) → (¬ ((x2 / (m_un x4.toNatClampNeg)) - (x2 / (m_un x4.toNatClampNeg)) / (nI 5) * (nI 5)) = 0) → vp_in ((((nI 15625) * (x3 + (nI 1))) + x2) - (m_un x4.toNatClampNeg)) 140625)) from ?_) ?_
  · exact g0
  refine And.intro (show vp_in (((nI 15625) * x3) + x2) 140625 from ?_) ?_
  · exact g1
  refine And.intro (fun (c1 : (if x4 = (eg_gi M 121 52) then (eg_gi M 161 (((nI 15625) * (x3 + (nI 1))) + x2).toNatClampNeg) else (if (m_li M x3 x4) = (-nI 1) then (-nI 1) else (if ((x2 / (m_un x4.toNatClampNeg)) - (x2 / (m_un x4.toNatClampNeg)) / (nI 5) * (nI 5)) = 0 then (-nI 1) else (((nI 1000) + (m_li M x3 x4)) + (eg_gi M 161 ((((nI 15625) * (x3 + (nI 1))) + x2) - (m_un x4.toNatClampNeg)).toNatClampNeg))))) = (eg_gi M 161 (((nI 15625) * x3) + x2).toNatClampNeg)) => ?_) (fun (c1 : ¬ (if x4 = (eg_gi M 121 52) then (eg_gi M 161 (((nI 15625) * (x3 + (nI 1))) + x2).toNatClampNeg) else (if (m_li M x3 x4) = (-nI 1) then (-nI 1) else (if ((x2 / (m_un x4.toNatClampNeg)) - (x2 / (m_un x4.toNatClampNeg)) / (nI 5) * (nI 5)) = 0 then (-nI 1) else (((nI 1000) + (m_li M x3 x4)) + (eg_gi M 161 ((((nI 15625) * (x3 + (nI 1))) + x2) - (m_un x4.toNatClampNeg)).toNatClampNeg))))) = (eg_gi M 161 (((nI 15625) * x3) + x2).toNatClampNeg)) => ?_)
  · skip
    refine And.intro (fun (c2 : x4 = (eg_gi M 121 52)) => ?_) (fun (c2 : ¬ x4 = (eg_gi M 121 52)) => ?_)
    · skip
      refine And.intro (show vp_in x3 8 from ?_) ?_
      · exact g2 c1
      refine And.intro (fun (c3 : x4 = (eg_gi M 121 52)) => ?_) (fun (c3 : ¬ x4 = (eg_gi M 121 52)) => ?_)
      · clear c3
        show eg_T wd k_X12_lodge Qp 152 0 0 [some (.ref 121), some (.int x1), some (.int (x2 - (nI 0))), some (.int (x3 + (nI 1))), some (.int x4), o5] [] (eg_si M 160 x3.toNatClampNeg (-nI 1))
        exact l0 ⟨c1, c2⟩
      · exact absurd c2 c3
    · skip
      refine And.intro (show vp_in x3 8 from ?_) ?_
      · exact g2 c1
      refine And.intro (fun (c4 : x4 = (eg_gi M 121 52)) => ?_) (fun (c4 : ¬ x4 = (eg_gi M 121 52)) => ?_)
      · exact absurd c4 c2
      · clear c4
        refine And.intro (show (eg_cn x4 16) from ?_) ?_
        · exact g3 c1 c2
        show eg_T wd k_X12_lodge Qp 152 0 0 [some (.ref 121), some (.int x1), some (.int (x2 - (m_un x4.toNatClampNeg))), some (.int (x3 + (nI 1))), some (.int x4), o5] [] (eg_si M 160 x3.toNatClampNeg x4)
        exact l1 ⟨c1, c2⟩
  · skip
    show eg_T wd k_X12_lodge Qp 163 0 0 [some (.ref 121), some (.int x1), some (.int x2), some (.int x3), some (.int (x4 + (nI 1))), o5] [] M
    exact l2 c1

def s_X12_lodge : eg_S := fun argv M Qp => match argv with
  | [.ref 121] => (m_LD M) ∧ ∀ (be : Nat → Int32) (ro : Nat → Int32), (∀ g, g < (eg_gi M 121 53).toNatClampNeg → ro g = (if l_g (eg_gi M 121 52).toNatClampNeg (m_lk M (eg_gi M 121 53).toNatClampNeg (eg_gi M 121 52).toNatClampNeg) (eg_gi M 121 53).toNatClampNeg (l_all (fun h => (eg_gi M 155 h).toNatClampNeg) (eg_gi M 121 52).toNatClampNeg) g = (eg_gi M 121 52).toNatClampNeg then -nI 1 else nI (l_g (eg_gi M 121 52).toNatClampNeg (m_lk M (eg_gi M 121 53).toNatClampNeg (eg_gi M 121 52).toNatClampNeg) (eg_gi M 121 53).toNatClampNeg (l_all (fun h => (eg_gi M 155 h).toNatClampNeg) (eg_gi M 121 52).toNatClampNeg) g))) → Qp (.inl (some (.int (nI (l_v (eg_gi M 121 52).toNatClampNeg (m_lk M (eg_gi M 121 53).toNatClampNeg (eg_gi M 121 52).toNatClampNeg) (eg_gi M 121 53).toNatClampNeg (eg_gi M 121 53).toNatClampNeg (l_all (fun h => (eg_gi M 155 h).toNatClampNeg) (eg_gi M 121 52).toNatClampNeg) / 1000))))) (eg_sl (eg_si (eg_ri (eg_ri (eg_si M 121 1 (nI 0)) 161 be) 160 ro) 121 54 (eg_gi M 121 53)) 121 55 (lN (l_v (eg_gi M 121 52).toNatClampNeg (m_lk M (eg_gi M 121 53).toNatClampNeg (eg_gi M 121 52).toNatClampNeg) (eg_gi M 121 53).toNatClampNeg (eg_gi M 121 53).toNatClampNeg (l_all (fun h => (eg_gi M 155 h).toNatClampNeg) (eg_gi M 121 52).toNatClampNeg) % 1000)))
  | _ => False
theorem mo_X12_lodge : eg_mono s_X12_lodge := by
  intro argv M Q Q' h
  unfold s_X12_lodge
  split
  · exact fun z => ⟨z.1, fun be ro y => h _ _ (z.2 be ro y)⟩
  · exact id
theorem sz_X12_lodge : ∀ argv M Qp, s_X12_lodge argv M Qp → (eg_ls0 argv).length ≤ 6 := by
  intro argv M Qp h
  unfold s_X12_lodge at h
  split at h
  · exact Nat.le_of_ble_eq_true rfl
  · exact h.elim
theorem sr_X12_lodge : ∀ argv M Qp, s_X12_lodge argv M Qp → ∃ p0 As, argv = .ref p0 :: As ∧ eg_isO wd M p0 12 = true := by
  intro argv M Qp h
  unfold s_X12_lodge at h
  split at h
  · exact ⟨_, _, rfl, rfl⟩
  · exact h.elim
set_option maxRecDepth 100000 in
set_option maxHeartbeats 1000000 in
theorem T_X12_lodge {argv : List Value} {M : eg_M} {Qp : eg_P} (h : s_X12_lodge argv M Qp) : eg_T wd k_X12_lodge Qp 0 0 0 (eg_lsN 6 argv) [] M := by
  unfold s_X12_lodge at h
  split at h
  · obtain ⟨hp, hq⟩ := h
    obtain ⟨⟨H, hH, hNH⟩, ⟨G, hG, hNG⟩, hB, hA⟩ := hp
    rw [hNH, n_c (by omega)] at hB
    rw [hNG, n_c (by omega)] at hA
    rw [hNH, hNG, n_c (by omega), n_c (by omega)] at hq
    have hBv : ∀ h, h < H → (eg_gi M 155 h).toNatClampNeg ≤ 4 ∧ eg_gi M 155 h = nI (eg_gi M 155 h).toNatClampNeg := fun h hh => by
      obtain ⟨k, hk, e⟩ := (hB h hh).1
      rw [e, n_c (by omega)]
      exact ⟨hk, rfl⟩
    generalize hBd : (fun h => (eg_gi M 155 h).toNatClampNeg) = B at *
    have hB4 : ∀ h, h < H → B h ≤ 4 ∧ eg_gi M 155 h = nI (B h) := fun h hh => by rw [← hBd]; exact hBv h hh
    have hall : ∀ n, n ≤ H → l_all B n < 5 ^ n := l_all_lt (fun i hi => (hB4 i hi).1)
    have hAll := hall H (Nat.le_refl _)
    have h5H := pow5_le hH
    have hlk : ∀ g h, g < G → h < H → (m_li M (nI g) (nI h) = -nI 1 ∧ m_lk M G H g h = none) ∨ ∃ l, l ≤ 34 ∧ m_li M (nI g) (nI h) = nI l ∧ m_lk M G H g h = some l := fun g h hg hh => by
      unfold m_lk
      rw [if_pos ⟨hg, hh⟩]
      rcases m_li_v (M := M) (g := g) (h := h) (by omega) (by omega) (hA g hg) (hB h hh).2 with e | ⟨l, hl, e⟩
      · rw [e, if_pos rfl]
        exact Or.inl ⟨rfl, rfl⟩
      · rw [e, if_neg (nI_m1 (by omega)), n_c (by omega)]
        exact Or.inr ⟨l, hl, rfl, rfl⟩
    have hl34 : ∀ g h l, m_lk M G H g h = some l → l ≤ 34 := fun g h l e => by
      by_cases c : g < G ∧ h < H
      · rcases hlk g h c.1 c.2 with z | ⟨k, hk, _, e2⟩
        · rw [z.2] at e; cases e
        · rw [e2] at e; cases e; exact hk
      · unfold m_lk at e
        rw [if_neg c] at e
        cases e
    generalize m_lk M G H = lk at *
    have hv := l_v_le (H := H) hl34 G
    generalize hAd : l_all B H = A at *
    -- the rows that go along
    have rd : ∀ (x y : Nat → Int32), eg_gi (eg_ri (eg_ri (eg_si M 121 1 (nI 0)) 161 x) 160 y) 121 52 = nI H ∧ eg_gi (eg_ri (eg_ri (eg_si M 121 1 (nI 0)) 161 x) 160 y) 121 53 = nI G ∧ (∀ j, eg_gi (eg_ri (eg_ri (eg_si M 121 1 (nI 0)) 161 x) 160 y) 161 j = x j) ∧ (∀ j, eg_gi (eg_ri (eg_ri (eg_si M 121 1 (nI 0)) 161 x) 160 y) 155 j = eg_gi M 155 j) ∧ ∀ g h, m_li (eg_ri (eg_ri (eg_si M 121 1 (nI 0)) 161 x) 160 y) g h = m_li M g h := fun x y => ⟨hNH, hNG, fun _ => rfl, fun _ => rfl, fun _ _ => rfl⟩
    -- what a choice is worth, as the machine has it
    have wth : ∀ (x : Nat → Int32) (g h left : Nat), g < G → h ≤ H → left ≤ A → (∀ l, l ≤ A → x (15625 * (g + 1) + l) = nI (l_v H lk G (G - 1 - g) l)) → (if nI h = nI H then x (15625 * (g + 1) + left) else (if m_li M (nI g) (nI h) = -nI 1 then -nI 1 else (if ((nI left / m_un h) - (nI left / m_un h) / nI 5 * nI 5) = 0 then -nI 1 else (nI 1000 + m_li M (nI g) (nI h)) + x ((nI 15625 * (nI g + nI 1) + nI left) - m_un h).toNatClampNeg))) = oI (l_w H lk (l_v H lk G (G - 1 - g)) g left h) ∧ (h < H → ¬ m_li M (nI g) (nI h) = -nI 1 → ¬ ((nI left / m_un h) - (nI left / m_un h) / nI 5 * nI 5) = 0 → vp_in ((nI 15625 * (nI g + nI 1) + nI left) - m_un h) 140625) := by
      intro x g h left hg hh hle hx
      have h5 := pow5_le (show h ≤ 6 by omega)
      have h5p := pow5_pos h
      have hun := m_un_v h (by omega)
      have hdg : (nI left / m_un h) - (nI left / m_un h) / nI 5 * nI 5 = nI (left / 5 ^ h % 5) := by
        rw [hun, pk_div (by omega) (by omega) (by omega), pk_rem (Nat.lt_of_le_of_lt (Nat.div_le_self _ _) (by omega)) (by decide) (by decide)]
      have hz : nI (left / 5 ^ h % 5) = 0 ↔ left / 5 ^ h % 5 = 0 := by
        rw [← nI_0]
        exact n_eq (Nat.lt_trans (Nat.mod_lt _ (by decide)) (by decide)) (by decide)
      have hge : ¬ left / 5 ^ h % 5 = 0 → 5 ^ h ≤ left := by
        intro z
        rcases Nat.lt_or_ge left (5 ^ h) with c | c
        · rw [Nat.div_eq_of_lt c] at z
          exact absurd rfl z
        · exact c
      have hix : 5 ^ h ≤ left → (nI 15625 * (nI g + nI 1) + nI left) - m_un h = nI (15625 * (g + 1) + (left - 5 ^ h)) := by
        intro c
        rw [hun, n_s, n_m, n_s, show 15625 * (g + 1) + left = 15625 * (g + 1) + (left - 5 ^ h) + 5 ^ h by omega, n_sb]
      refine ⟨?_, fun h1 _ h3 => ?_⟩
      · unfold l_w
        rw [hdg]
        by_cases c : h = H
        · rw [if_pos c, if_pos (by rw [c]), hx left hle]
          rfl
        · rw [if_neg c, if_neg (fun z => c ((n_eq (by omega) (by omega)).mp z))]
          rcases hlk g h hg (by omega) with ⟨e1, e2⟩ | ⟨l, hl, e1, e2⟩
          · rw [e1, e2, if_pos rfl]
            rfl
          · rw [e1, e2, if_neg (nI_m1 (by omega))]
            dsimp only
            by_cases d : left / 5 ^ h % 5 = 0
            · rw [if_pos d, if_pos (hz.mpr d)]
              rfl
            · rw [if_neg d, if_neg (fun z => d (hz.mp z)), hix (hge d), n_c (by omega), hx _ (by omega), n_s, n_s]
              rfl
      · rw [hdg, hz] at h3
        rw [hix (hge h3)]
        exact vp_in_nI (by omega) (by decide)
    have wb : ∀ k g left h x, l_w H lk (l_v H lk G k) g left h = some x → k ≤ 8 → x < 2 ^ 31 := by
      intro k g left h x e hk
      unfold l_w at e
      split at e
      · cases e
        have := hv k left
        omega
      · split at e
        · cases e
        · rename_i l hl
          split at e
          · cases e
          · cases e
            have := hl34 _ _ _ hl
            have := hv k (left - 5 ^ h)
            omega
    have mb : ∀ k g left n x, l_m H lk (l_v H lk G k) g left n = some x → k ≤ 8 → x < 2 ^ 31 := by
      intro k g left n x e hk
      have := l_m_le hl34 (hv k) n x e
      omega
    -- the trace
    have l152 : ∀ (x : Nat → Int32), (∀ k, k ≤ G → ∀ l, l ≤ A → x (15625 * (G - k) + l) = nI (l_v H lk G k l)) → ∀ g (w : (Nat → Int32) × Option Value × Option Value), g ≤ G → (∀ j, j < g → w.1 j = if l_g H lk G A j = H then -nI 1 else nI (l_g H lk G A j)) → eg_T wd k_X12_lodge Qp 152 0 0 [some (.ref 121), some (.int (nI A)), some (.int (nI (l_t H lk G A g))), some (.int (nI g)), w.2.1, w.2.2] [] (eg_ri (eg_ri (eg_si M 121 1 (nI 0)) 161 x) 160 w.1) := by
      intro x hx
      refine eg_for ?_
      intro g ⟨y, o4, o5⟩ hg hy kk
      obtain ⟨r52, r53, r161, r155, rli⟩ := rd x y
      have hle := l_t_le H lk G A g
      have s1 := st_X12_lodge_152 (Qp := Qp) (M := eg_ri (eg_ri (eg_si M 121 1 (nI 0)) 161 x) 160 y) (nI A) (nI (l_t H lk G A g)) (nI g) o4 o5
      have xA : x A = nI (l_v H lk G G A) := by
        have := hx G (Nat.le_refl _) A (Nat.le_refl _)
        rw [Nat.sub_self, Nat.mul_zero, Nat.zero_add] at this
        exact this
      have hvA := hv G A
      rw [r53, r161, n_c (by omega), xA] at s1
      simp (disch := omega) only [n_le, n_in, Nat.not_le] at s1
      rw [pk_rem (by omega) (by decide) (by decide), pk_div (by omega) (by decide) (by decide), nI_l (Nat.lt_trans (Nat.mod_lt _ (by decide)) (by decide))] at s1
      refine s1 (fun _ => by omega) (fun z => ?_) (fun z => ?_)
      · exact hq x y (fun j hj => hy j (by omega))
      · have hxg : ∀ l, l ≤ A → x (15625 * (g + 1) + l) = nI (l_v H lk G (G - 1 - g) l) := fun l hl => by
          have := hx (G - 1 - g) (by omega) l hl
          rw [show G - (G - 1 - g) = g + 1 by omega] at this
          exact this
        have hxv : x (15625 * g + l_t H lk G A g) = nI (l_v H lk G (G - g) (l_t H lk G A g)) := by
          have := hx (G - g) (by omega) _ hle
          rw [show G - (G - g) = g by omega] at this
          exact this
        obtain ⟨v, ev⟩ := l_m_some (H := H) (lk := lk) (f := l_v H lk G (G - 1 - g)) (g := g) (left := l_t H lk G A g)
        have evv : l_v H lk G (G - g) (l_t H lk G A g) = v := by
          rw [show G - g = G - 1 - g + 1 by omega, l_v, show G - 1 - (G - 1 - g) = g by omega, ev]
          rfl
        obtain ⟨f1, f2, f3⟩ := l_f_ok ev
        have hvb := mb _ _ _ _ _ ev (by omega)
        have el : l_g H lk G A g = l_f H lk (l_v H lk G (G - 1 - g)) g (l_t H lk G A g) v := by unfold l_g; rw [evv]
        have l163 : ∀ h (_ : Unit), h ≤ l_g H lk G A g → True → ∀ o5 : Option Value, eg_T wd k_X12_lodge Qp 163 0 0 [some (.ref 121), some (.int (nI A)), some (.int (nI (l_t H lk G A g))), some (.int (nI g)), some (.int (nI h)), o5] [] (eg_ri (eg_ri (eg_si M 121 1 (nI 0)) 161 x) 160 y) := by
          refine eg_for ?_
          intro h _ hh _ k2 o5
          have hhH : h ≤ H := by rw [el] at hh; omega
          obtain ⟨wv, wi⟩ := wth x g h (l_t H lk G A g) z hhH hle hxg
          have s2 := st_X12_lodge_163 (Qp := Qp) (M := eg_ri (eg_ri (eg_si M 121 1 (nI 0)) 161 x) 160 y) (nI A) (nI (l_t H lk G A g)) (nI g) (nI h) o5
          simp only [r52, r161, rli] at s2
          rw [n_c (i := h) (by omega), show (nI 15625 * (nI g + nI 1) + nI (l_t H lk G A g)).toNatClampNeg = 15625 * (g + 1) + l_t H lk G A g by rw [n_s, n_m, n_s, n_c (by omega)], wv, show (nI 15625 * nI g + nI (l_t H lk G A g)).toNatClampNeg = 15625 * g + l_t H lk G A g by rw [n_m, n_s, n_c (by omega)], hxv, evv, n_c (by omega)] at s2
          rw [oI_eq (fun q e => wb _ _ _ _ _ e (by omega)) hvb] at s2
          have eHh : nI h = nI H ↔ h = H := n_eq (by omega) (by omega)
          have h5 := pow5_le (show h ≤ 6 by omega)
          have hun := m_un_v h (by omega)
          rw [eHh] at s2
          have gx : vp_in (nI 15625 * (nI g + nI 1) + nI (l_t H lk G A g)) 140625 := by rw [n_s, n_m, n_s]; exact vp_in_nI (by omega) (by decide)
          have gy : vp_in (nI 15625 * nI g + nI (l_t H lk G A g)) 140625 := by rw [n_m, n_s]; exact vp_in_nI (by omega) (by decide)
          have gg : vp_in (nI g) 8 := vp_in_nI (by omega) (by decide)
          have nx : ∀ (d : Nat) (v' : Int32), h = l_g H lk G A g → l_t H lk G A (g + 1) = l_t H lk G A g - d → d ≤ l_t H lk G A g → v' = (if h = H then -nI 1 else nI h) → eg_T wd k_X12_lodge Qp 152 0 0 [some (.ref 121), some (.int (nI A)), some (.int (nI (l_t H lk G A g) - nI d)), some (.int (nI g + nI 1)), some (.int (nI h)), o5] [] (eg_si (eg_ri (eg_ri (eg_si M 121 1 (nI 0)) 161 x) 160 y) 160 g v') := by
            intro d v' eh et hd ev'
            have := kk (fun j => if j = g then v' else y j, some (.int (nI h)), o5) z (fun j hj => ?_)
            · rw [si_ri, n_s, show nI (l_t H lk G A g) - nI d = nI (l_t H lk G A (g + 1)) by rw [et, show nI (l_t H lk G A g) = nI (l_t H lk G A g - d + d) by rw [Nat.sub_add_cancel hd], n_sb]]
              exact this
            · show (if j = g then v' else y j) = _
              by_cases c : j = g
              · subst c
                rw [if_pos rfl, ev', eh]
              · rw [if_neg c]
                exact hy j (by omega)
          have digit : h < H → l_w H lk (l_v H lk G (G - 1 - g)) g (l_t H lk G A g) h = some v → 5 ^ h ≤ l_t H lk G A g := by
            intro hlt e
            unfold l_w at e
            rw [if_neg (by omega)] at e
            split at e
            · cases e
            · split at e
              · cases e
              · rename_i dz
                rcases Nat.lt_or_ge (l_t H lk G A g) (5 ^ h) with c | c
                · rw [Nat.div_eq_of_lt c] at dz
                  exact absurd rfl dz
                · exact c
          have first : l_w H lk (l_v H lk G (G - 1 - g)) g (l_t H lk G A g) h = some v → h = l_g H lk G A g := by
            intro e
            rcases Nat.lt_or_ge h (l_g H lk G A g) with c | c
            · exact absurd e (f3 h (by rw [el] at c; exact c))
            · omega
          have lts : l_t H lk G A (g + 1) = l_t H lk G A g - (if l_g H lk G A g = H then 0 else 5 ^ l_g H lk G A g) := rfl
          refine s2 ⟨fun _ => gx, fun c => ⟨gg, vp_in_nI (by omega) (by decide)⟩, fun _ _ => ⟨h, by omega, rfl⟩, fun _ _ => ?_, fun c c2 c3 => wi (by omega) c2 c3⟩ gy (fun _ => gg) (fun _ _ => ⟨h, by omega, rfl⟩) (fun c => ?_) (fun c => ?_) (fun c => ?_)
          · rw [hun]
            exact nI_ne0 (pow5_pos h) (by omega)
          · have eh := first c.1
            refine nx 0 _ eh ?_ (Nat.zero_le _) (by rw [if_pos c.2])
            rw [lts, ← eh, if_pos c.2]
          · have eh := first c.1
            have hd := digit (by omega) c.1
            rw [hun]
            refine nx (5 ^ h) _ eh ?_ hd (by rw [if_neg c.2])
            rw [lts, ← eh, if_neg c.2]
          · rw [n_s]
            have hne : h ≠ l_g H lk G A g := fun e => c (by rw [e, el]; exact f2)
            exact k2 () (by omega) trivial o5
        exact l163 0 () (Nat.zero_le _) trivial o5
    -- the table, guest by guest from the last one on
    have l75 : ∀ k (w : (Nat → Int32) × Option Value × Option Value × Option Value), k ≤ G → (∀ i, i ≤ k → ∀ l, l ≤ A → w.1 (15625 * (G - i) + l) = nI (l_v H lk G i l)) → ∀ y : Nat → Int32, eg_T wd k_X12_lodge Qp 75 0 0 [some (.ref 121), some (.int (nI A)), some (.int (nI (G - k) - nI 1)), w.2.1, w.2.2.1, w.2.2.2] [] (eg_ri (eg_ri (eg_si M 121 1 (nI 0)) 161 w.1) 160 y) := by
      refine eg_for ?_
      intro k ⟨x, o3, o4, o5⟩ hk hx kk y
      have hx : ∀ i, i ≤ k → ∀ l, l ≤ A → x (15625 * (G - i) + l) = nI (l_v H lk G i l) := hx
      rcases Nat.lt_or_ge k G with hkG | hkG
      · have e8 : nI (G - k) - nI 1 = nI (G - 1 - k) := by rw [show G - k = (G - 1 - k) + 1 by omega, n_p]
        rw [e8]
        have s1 := st_X12_lodge_75 (Qp := Qp) (M := eg_ri (eg_ri (eg_si M 121 1 (nI 0)) 161 x) 160 y) (nI A) (nI (G - 1 - k)) o3 o4 o5
        refine s1 (fun z => absurd z (nI_pos (by omega))) (fun _ => ?_)
        have l81 : ∀ left (w : (Nat → Int32) × Option Value × Option Value), left ≤ A + 1 → ((∀ i, i ≤ k → ∀ l, l ≤ A → w.1 (15625 * (G - i) + l) = nI (l_v H lk G i l)) ∧ ∀ l, l < left → w.1 (15625 * (G - 1 - k) + l) = nI (l_v H lk G (k + 1) l)) → eg_T wd k_X12_lodge Qp 81 0 0 [some (.ref 121), some (.int (nI A)), some (.int (nI (G - 1 - k))), some (.int (nI left)), w.2.1, w.2.2] [] (eg_ri (eg_ri (eg_si M 121 1 (nI 0)) 161 w.1) 160 y) := by
          refine eg_for ?_
          intro left ⟨x, o4, o5⟩ hleft ⟨h1, h2⟩ k2
          have h1 : ∀ i, i ≤ k → ∀ l, l ≤ A → x (15625 * (G - i) + l) = nI (l_v H lk G i l) := h1
          have h2 : ∀ l, l < left → x (15625 * (G - 1 - k) + l) = nI (l_v H lk G (k + 1) l) := h2
          have s2 := st_X12_lodge_81 (Qp := Qp) (M := eg_ri (eg_ri (eg_si M 121 1 (nI 0)) 161 x) 160 y) (nI A) (nI (G - 1 - k)) (nI left) o4 o5
          simp (disch := omega) only [n_lt, Nat.not_lt] at s2
          refine s2 (fun z => ?_) (fun z => ?_)
          · have := kk (x, some (.int (nI left)), o4, o5) hkG (fun i hi l hl => ?_) y
            · rw [show nI (G - 1 - k) + -nI 1 = nI (G - (k + 1)) - nI 1 by rw [show G - (k + 1) = G - 1 - k by omega, Int32.sub_eq_add_neg]]
              exact this
            · by_cases c : i = k + 1
              · subst c
                rw [show G - (k + 1) = G - 1 - k by omega]
                exact h2 l (by omega)
              · exact h1 i (by omega) l hl
          · have hxg : ∀ l, l ≤ A → x (15625 * (G - 1 - k + 1) + l) = nI (l_v H lk G (G - 1 - (G - 1 - k)) l) := fun l hl => by
              have := h1 k (Nat.le_refl _) l hl
              rw [show G - 1 - k + 1 = G - k by omega, show G - 1 - (G - 1 - k) = k by omega]
              exact this
            have ek : G - 1 - (G - 1 - k) = k := by omega
            have l92 : ∀ h (_ : Unit), h ≤ H + 1 → True → eg_T wd k_X12_lodge Qp 92 0 0 [some (.ref 121), some (.int (nI A)), some (.int (nI (G - 1 - k))), some (.int (nI left)), some (.int (oI (l_m H lk (l_v H lk G k) (G - 1 - k) left h))), some (.int (nI h))] [] (eg_ri (eg_ri (eg_si M 121 1 (nI 0)) 161 x) 160 y) := by
              refine eg_for ?_
              intro h _ hh _ k3
              obtain ⟨r52, r53, r161, r155, rli⟩ := rd x y
              have s3 := st_X12_lodge_92 (Qp := Qp) (M := eg_ri (eg_ri (eg_si M 121 1 (nI 0)) 161 x) 160 y) (nI A) (nI (G - 1 - k)) (nI left) (oI (l_m H lk (l_v H lk G k) (G - 1 - k) left h)) (nI h)
              simp only [r52, r161, rli] at s3
              rcases Nat.lt_or_ge H h with c | c
              · have : h = H + 1 := by omega
                subst this
                have clt : nI H < nI (H + 1) := (n_lt (by omega) (by omega)).mpr (by omega)
                refine s3 (fun _ => by rw [n_m, n_s]; exact vp_in_nI (by omega) (by decide)) (fun z => absurd clt z) (fun _ => ?_) (fun z => absurd clt z)
                rw [n_m, n_s, n_s, n_c (by omega), si_ri_n (by decide), si_ri]
                refine k2 (_, _, _) (by omega) ⟨fun i hi l hl => ?_, fun l hl => ?_⟩
                · show (if 15625 * (G - i) + l = 15625 * (G - 1 - k) + left then _ else x _) = _
                  rw [if_neg (by omega)]
                  exact h1 i hi l hl
                · show (if 15625 * (G - 1 - k) + l = 15625 * (G - 1 - k) + left then _ else x _) = _
                  by_cases d : l = left
                  · subst d
                    rw [if_pos rfl, l_v]
                    obtain ⟨v, ev⟩ := l_m_some (H := H) (lk := lk) (f := l_v H lk G k) (g := G - 1 - k) (left := l)
                    rw [ev]
                    rfl
                  · rw [if_neg (by omega)]
                    exact h2 l (by omega)
              · obtain ⟨wv, wi⟩ := wth x (G - 1 - k) h left (by omega) c (by omega) hxg
                rw [ek] at wv
                rw [n_c (i := h) (by omega), show (nI 15625 * (nI (G - 1 - k) + nI 1) + nI left).toNatClampNeg = 15625 * (G - 1 - k + 1) + left by rw [n_s, n_m, n_s, n_c (by omega)], wv, oI_max (fun q e => mb _ _ _ _ _ e (by omega)) (fun q e => wb _ _ _ _ _ e (by omega))] at s3
                have clt : ¬ nI H < nI h := fun z => absurd ((n_lt (by omega) (by omega)).mp z) (by omega)
                have eHh : nI h = nI H ↔ h = H := n_eq (by omega) (by omega)
                have hun := m_un_v h (by omega)
                refine s3 (fun z => absurd z clt) (fun _ => ⟨fun _ => by rw [n_s, n_m, n_s]; exact vp_in_nI (by omega) (by decide), fun d => ⟨vp_in_nI (by omega) (by decide), vp_in_nI (by have : h ≠ H := fun e => d (eHh.mpr e); omega) (by decide)⟩, fun _ _ => ⟨h, by omega, rfl⟩, fun _ _ => ?_, fun d d2 d3 => wi (by have : h ≠ H := fun e => d (eHh.mpr e); omega) d2 d3⟩) (fun z => absurd z clt) (fun _ => ?_)
                · rw [hun]
                  exact nI_ne0 (pow5_pos h) (by have := pow5_le (show h ≤ 6 by omega); omega)
                · rw [n_s]
                  exact k3 () (by omega) trivial
            exact l92 0 () (Nat.zero_le _) trivial
        exact l81 0 (x, o4, o5) (Nat.zero_le _) ⟨hx, fun l hl => absurd hl (Nat.not_lt_zero _)⟩
      · have : k = G := by omega
        subst this
        have e8 : nI (k - k) - nI 1 = -nI 1 := by rw [Nat.sub_self]; decide
        rw [e8]
        refine st_X12_lodge_75 _ _ _ _ _ (fun _ => ?_) (fun z => absurd (by decide) z)
        exact l152 x hx 0 (y, o4, o5) (Nat.zero_le _) (fun j hj => absurd hj (Nat.not_lt_zero _))
    have l39 : ∀ i (w : (Nat → Int32) × Option Value × Option Value × Option Value), i ≤ 15625 → (∀ j, j < i → w.1 (15625 * G + j) = nI 0) → ∀ y : Nat → Int32, eg_T wd k_X12_lodge Qp 39 0 0 [some (.ref 121), some (.int (nI A)), some (.int (nI i)), w.2.1, w.2.2.1, w.2.2.2] [] (eg_ri (eg_ri (eg_si M 121 1 (nI 0)) 161 w.1) 160 y) := by
      refine eg_for ?_
      intro i ⟨x, o3, o4, o5⟩ hi hx kk y
      have hx : ∀ j, j < i → x (15625 * G + j) = nI 0 := hx
      obtain ⟨r52, r53, r161, r155, rli⟩ := rd x y
      have s1 := st_X12_lodge_39 (Qp := Qp) (M := eg_ri (eg_ri (eg_si M 121 1 (nI 0)) 161 x) 160 y) (nI A) (nI i) o3 o4 o5
      rw [r53, n_m, n_s] at s1
      simp (disch := omega) only [n_le, n_in, n_c, n_s, Nat.not_le] at s1
      refine s1 (fun _ => by omega) (fun z => ?_) (fun z => ?_)
      · have := l75 0 (x, o3, o4, o5) (Nat.zero_le _) (fun j hj l hl => ?_) y
        · rw [Nat.sub_zero] at this
          exact this
        · have : j = 0 := by omega
          subst this
          rw [Nat.sub_zero]
          exact hx l (by omega)
      · rw [si_ri_n (by decide), si_ri]
        refine kk (_, _, _, _) z (fun j hj => ?_) y
        show (if 15625 * G + j = 15625 * G + i then nI 0 else x _) = _
        by_cases c : j = i
        · rw [if_pos (by omega)]
        · rw [if_neg (by omega)]
          exact hx j (by omega)
    have l9 : ∀ h (w : Option Value × Option Value × Option Value), h ≤ H → True → eg_T wd k_X12_lodge Qp 9 0 0 [some (.ref 121), some (.int (nI (l_all B h))), some (.int (nI h)), w.1, w.2.1, w.2.2] [] (eg_si M 121 1 (nI 0)) := by
      refine eg_for ?_
      intro h ⟨o3, o4, o5⟩ hh _ kk
      have s1 := st_X12_lodge_9 (Qp := Qp) (M := eg_si M 121 1 (nI 0)) (nI (l_all B h)) (nI h) o3 o4 o5
      rw [show eg_gi (eg_si M 121 1 (nI 0)) 121 52 = nI H from hNH, show ∀ j, eg_gi (eg_si M 121 1 (nI 0)) 155 j = eg_gi M 155 j from fun _ => rfl, n_c (by omega), m_un_v h (by omega)] at s1
      simp (disch := omega) only [n_le, n_in, n_s, Nat.not_le] at s1
      refine s1 (fun _ => by omega) (fun _ => ⟨h, by omega, rfl⟩) (fun z => ?_) (fun z => ?_)
      · have : h = H := by omega
        subst this
        rw [hAd]
        have := l39 0 (eg_gi M 161, o3, o4, o5) (Nat.zero_le _) (fun j hj => absurd hj (Nat.not_lt_zero _)) (eg_gi M 160)
        have e : eg_ri (eg_ri (eg_si M 121 1 (nI 0)) 161 (eg_gi M 161)) 160 (eg_gi M 160) = eg_si M 121 1 (nI 0) := by
          have e1 : eg_ri (eg_si M 121 1 (nI 0)) 161 (eg_gi M 161) = eg_si M 121 1 (nI 0) := ri_id' rfl
          rw [e1]
          exact ri_id' rfl
        dsimp only at this
        rw [e] at this
        exact this
      · rw [(hB4 h z).2, n_m, n_s]
        exact kk (o3, o4, o5) z trivial
    exact st_X12_lodge_0 (l9 0 (none, none, none) (Nat.zero_le _) trivial)
    
  · exact h.elim
theorem de_X12_lodge : ∀ q ∈ k_X12_lodge.1, decode cX12_lodge q.1 = .ok q.2 := by decide +kernel
theorem me_X12_lodge (g : gl_T) : MT g yX12_lodge cX12_lodge 6 (some .int) ⟨3, 0, 0, 73⟩ 0 0 s_X12_lodge := by
  intro hl
  exact eg_met_of (k := k_X12_lodge) (by decide) rfl ⟨Nat.le_refl _, Nat.le_refl _⟩ rfl sz_X12_lodge de_X12_lodge (fun meth hn => (fc (eg_FL_of wd_c12 (by decide) lf_RX12_139 (fun _ => Or.inl rfl)) (fc (eg_FL_of wd_c12 (by decide) lf_RX12_142 (fun h => absurd h (by decide))) (fc (eg_FL_of wd_c12 (by decide) lf_RX12_157 (fun h => absurd h (by decide))) (fc (eg_FL_of wd_c12 (by decide) lf_RX12_161 (fun h => absurd h (by decide))) (fc (eg_FL_of wd_c12 (by decide) lf_RX12_213 (fun _ => Or.inl rfl)) (fc (eg_FL_of wd_c12 (by decide) lf_RX12_457 (fun h => absurd h (by decide))) (fc (eg_FL_of wd_c12 (by decide) lf_RX12_460 (fun h => absurd h (by decide))) (fc (eg_FL_of wd_c12 (by decide) lf_RX12_474 (fun _ => Or.inl rfl)) (fn)))))))))) (fun A s H hE => (fn)) (fun p e s m args below meth c Q A ad0 N0 S0 hK hEx hA => (fc (mt_J9_max_7cf53 S0 lm_RX12_462 (by decide) (by decide) (by decide)) (fc (mt_S hl S0 hK hEx hA (me_X12_unit g) lm_RX12_467 ls_X12_unit ln_RX12 lc_X12_unit ⟨rfl, by decide, by decide, by decide +kernel⟩ ⟨rfl, rfl⟩ ⟨by decide, by decide⟩ (by decide)) (fc (mt_V hl S0 hK hEx hA (me_X12_with g) lm_RX12_470 li_X12_with lx_X12_with ln_RX12 lc_X12_with ⟨rfl, by decide, by decide, by decide +kernel⟩ ⟨rfl, rfl⟩ ⟨by decide, by decide⟩ (ci := 12) rfl rfl sr_X12_with (by decide)) (fn))))) (fun p e s m args below meth c Qc XC A ad0 N0 P S0 hK hEx hA hlk hout hPX => (fn)) (fun argv M Qp h => T_X12_lodge h)

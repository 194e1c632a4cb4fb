/-! PAIRS: the calendar -/
section CAL
variable {D : Nat → Nat} {dy : Nat → Nat → Nat} {cc : Nat → Nat → Nat → Nat → Bool} {P : Nat}
theorem c_o_iff (x p : Nat) : ∀ m, c_o D cc P x p m = true ↔ ∀ o, o < m → ¬ (c_ch D P x p < D p ∧ c_ch D P x o < D o ∧ cc p (c_ch D P x p) o (c_ch D P x o) = true)
  | 0 => ⟨fun _ o ho => absurd ho (Nat.not_lt_zero o), fun _ => rfl⟩
  | m + 1 => by
    have e : c_o D cc P x p (m + 1) = (c_o D cc P x p m && !(decide (c_ch D P x p < D p) && (decide (c_ch D P x m < D m) && cc p (c_ch D P x p) m (c_ch D P x m)))) := rfl
    rw [e, Bool.and_eq_true, c_o_iff x p m]
    have e2 : (!(decide (c_ch D P x p < D p) && (decide (c_ch D P x m < D m) && cc p (c_ch D P x p) m (c_ch D P x m)))) = true ↔ ¬ (c_ch D P x p < D p ∧ c_ch D P x m < D m ∧ cc p (c_ch D P x p) m (c_ch D P x m) = true) := by
      rw [Bool.not_eq_true', Bool.eq_false_iff, Ne, Bool.and_eq_true, Bool.and_eq_true, decide_eq_true_iff, decide_eq_true_iff]
    rw [e2]
    constructor
    · rintro ⟨h1, h2⟩ o ho
      by_cases q : o = m
      · rw [q]; exact h2
      · exact h1 o (by omega)
    · intro h
      exact ⟨fun o ho => h o (by omega), h m (by omega)⟩
theorem c_p_iff (x : Nat) : ∀ m, c_p D cc P x m = true ↔ ∀ p, p < m → c_o D cc P x p p = true
  | 0 => ⟨fun _ p hp => absurd hp (Nat.not_lt_zero p), fun _ => rfl⟩
  | m + 1 => by
    have e : c_p D cc P x (m + 1) = (c_p D cc P x m && c_o D cc P x m m) := rfl
    rw [e, Bool.and_eq_true, c_p_iff x m]
    constructor
    · rintro ⟨h1, h2⟩ o ho
      by_cases q : o = m
      · rw [q]; exact h2
      · exact h1 o (by omega)
    · intro h
      exact ⟨fun o ho => h o (by omega), h m (by omega)⟩
theorem c_n_mono (x : Nat) : ∀ {j k : Nat}, j ≤ k → c_n D P x j ≤ c_n D P x k := by
  intro j k h
  induction k with
  | zero => rw [show j = 0 by omega]; exact Nat.le_refl _
  | succ k ih =>
    by_cases q : j = k + 1
    · rw [q]; exact Nat.le_refl _
    · exact Nat.le_trans (ih (by omega)) (Nat.le_add_right _ _)
theorem c_s_mono (x : Nat) : ∀ {j k : Nat}, j ≤ k → c_s D dy P x j ≤ c_s D dy P x k := by
  intro j k h
  induction k with
  | zero => rw [show j = 0 by omega]; exact Nat.le_refl _
  | succ k ih =>
    by_cases q : j = k + 1
    · rw [q]; exact Nat.le_refl _
    · exact Nat.le_trans (ih (by omega)) (Nat.le_add_right _ _)
/-- what is kept, to both -/
def c_rel (P : Nat) (B : k_B) (T : Option (Nat × Nat) × (Nat → Int32)) : Prop := (T.1 = none ∧ B.1 = -nI 1) ∨ ∃ n s, n < 2 ^ 31 ∧ s < 2 ^ 31 ∧ T.1 = some (n, s) ∧ B = (nI n, nI s, (List.range P).map T.2)
/-- the day of plan q in row x -/
def c_dq (D : Nat → Nat) (dy : Nat → Nat → Nat) (P x q : Nat) : Int32 := if c_ch D P x q = D q then -nI 1 else nI (dy q (c_ch D P x q))
variable {M : eg_M}
/-- the rows with one beginning: the class's, one by one, and the model's, by their numbers -/
theorem cal_blk (hP : (eg_gi M 72 0).toNatClampNeg = P) (hP6 : P ≤ 6) (h75 : ∀ p, p < P → (eg_gi M 75 p).toNatClampNeg = D p) (h4 : ∀ p, p < P → D p ≤ 4) (h76 : ∀ p, p < P → ∀ i, i < D p → eg_gi M 76 (p * 4 + i) = nI (dy p i) ∧ dy p i < 3600) (hcl : ∀ p, p < P → ∀ i, i < D p → ∀ q, q < p → ∀ j, j < D q → ((eg_gi M 78 (p * 4 + i) &&& (nI 1 <<< (nI (q * 4 + j) &&& 31)) = 0) ↔ cc p i q j = false)) :
    ∀ (k b d n s : Nat) (t : Int32) (L : List Int32) (B : k_B) (T : Option (Nat × Nat) × (Nat → Int32)), k ≤ P → k < d → c_rel P B T →
      (∀ x, b * c_R D P k ≤ x → x < (b + 1) * c_R D P k → n + c_n D P x k = c_n D P x P ∧ s + c_s D dy P x k = c_s D dy P x P ∧ L = (List.range (P - k)).map (c_dq D dy P x) ∧ (∀ r : Int32, r &&& t = 0 ↔ ∀ q, q < P - k → c_ch D P x q < D q → r &&& (nI 1 <<< (nI (q * 4 + c_ch D P x q) &&& 31)) = 0) ∧ ∀ q, q < P - k → c_o D cc P x q q = true) →
      c_rel P ((k_rf M d (P - k) t n s L).foldl k_bu B) ((List.range' (b * c_R D P k) (c_R D P k)).foldl (c_st D dy cc P) T)
  | 0, b, d, n, s, t, L, B, T, _, hd, hrel, hx => by
    obtain ⟨d', rfl⟩ : ∃ d', d = d' + 1 := ⟨d - 1, by omega⟩
    have e0 : c_R D P 0 = 1 := rfl
    rw [e0, Nat.mul_one] at hx ⊢
    obtain ⟨x1, x2, x3, _, x5⟩ := hx b (Nat.le_refl _) (by omega)
    have e1 : k_rf M (d' + 1) (P - 0) t n s L = [(n, s, L)] := by
      unfold k_rf
      rw [if_pos (by omega)]
    rw [e1]
    show c_rel P (k_bu B (n, s, L)) (c_st D dy cc P T b)
    have x1 : n = c_n D P b P := x1
    have x2 : s = c_s D dy P b P := x2
    rw [Nat.sub_zero] at x3 x5
    have hcp : c_p D cc P b P = true := (c_p_iff b P).mpr x5
    have hn31 : n < 2 ^ 31 := by
      have := c_n_le D P b P
      omega
    have hs31 : s < 2 ^ 31 := by
      have := c_s_le (D := D) (dy := dy) (P := P) (fun p hp i hi => (h76 p hp i hi).2) b P (Nat.le_refl _)
      omega
    have hrow : (List.range P).map (c_row D dy P b T.2) = L := by
      rw [x3]
      refine List.map_congr_left (fun q hq => ?_)
      unfold c_row c_dq
      rw [if_pos (List.mem_range.mp hq)]
    unfold c_st k_bu
    rw [← x1, ← x2, hcp]
    rcases hrel with ⟨r1, r2⟩ | ⟨n0, s0, r1, r2, r3, r4⟩
    · rw [r1, r2, if_pos (Or.inl (k_ltm1 hn31)), if_pos ⟨rfl, rfl⟩]
      exact Or.inr ⟨n, s, hn31, hs31, rfl, by rw [← hrow]⟩
    · rw [r3, r4]
      show c_rel P (if nI n0 < nI n ∨ (nI n0 = nI n ∧ nI s < nI s0) then (nI n, nI s, L) else (nI n0, nI s0, (List.range P).map T.2)) (if decide (n0 < n ∨ (n = n0 ∧ s < s0)) = true ∧ true = true then (some (n, s), c_row D dy P b T.2) else T)
      have ec : (nI n0 < nI n ∨ (nI n0 = nI n ∧ nI s < nI s0)) ↔ (n0 < n ∨ (n0 = n ∧ s < s0)) := by rw [n_lt r1 hn31, n_eq r1 hn31, n_lt hs31 r2]
      by_cases c : n0 < n ∨ (n0 = n ∧ s < s0)
      · rw [if_pos (ec.mpr c), if_pos ⟨decide_eq_true (c.imp id (fun z => ⟨z.1.symm, z.2⟩)), rfl⟩]
        exact Or.inr ⟨n, s, hn31, hs31, rfl, by rw [← hrow]⟩
      · rw [if_neg (fun z => c (ec.mp z)), if_neg (fun z => c ((decide_eq_true_iff.mp z.1).imp id (fun z => ⟨z.1.symm, z.2⟩)))]
        exact Or.inr ⟨n0, s0, r1, r2, r3, rfl⟩
  | k + 1, b, d, n, s, t, L, B, T, hk, hd, hrel, hx => by
    obtain ⟨d', rfl⟩ : ∃ d', d = d' + 1 := ⟨d - 1, by omega⟩
    have hp : P - (k + 1) < P := by omega
    have ep : P - 1 - k = P - (k + 1) := by omega
    have ep2 : P - (k + 1) + 1 = P - k := by omega
    have eR : c_R D P (k + 1) = c_R D P k * (D (P - (k + 1)) + 1) := by
      show c_R D P k * (D (P - 1 - k) + 1) = _
      rw [ep]
    have Rpos := c_R_pos D P k
    have hdp := h75 _ hp
    have e1 : k_rf M (d' + 1) (P - (k + 1)) t n s L = ((List.range (D (P - (k + 1)))).flatMap (fun i => if eg_gi M 78 ((P - (k + 1)) * 4 + i) &&& t = 0 then k_rf M d' (P - k) (t ||| (nI 1 <<< (nI ((P - (k + 1)) * 4 + i) &&& 31))) (n + 1) (s + (eg_gi M 76 ((P - (k + 1)) * 4 + i)).toNatClampNeg) (L ++ [eg_gi M 76 ((P - (k + 1)) * 4 + i)]) else [])) ++ k_rf M d' (P - k) t n s (L ++ [-nI 1]) := by
      conv => lhs; unfold k_rf
      rw [if_neg (by omega), hdp, ep2]
    -- a part of the rows: the choice i of this plan
    have sub : ∀ i, i ≤ D (P - (k + 1)) → ∀ x, (b * (D (P - (k + 1)) + 1) + i) * c_R D P k ≤ x → x < (b * (D (P - (k + 1)) + 1) + i + 1) * c_R D P k → c_h D P x k = i ∧ c_ch D P x (P - (k + 1)) = i ∧ b * c_R D P (k + 1) ≤ x ∧ x < (b + 1) * c_R D P (k + 1) := fun i hi x h1 h2 => by
      have q : x / c_R D P k = b * (D (P - (k + 1)) + 1) + i := by
        refine Nat.div_eq_of_lt_le ?_ ?_
        · exact h1
        · exact h2
      have e : c_h D P x k = i := by
        unfold c_h
        rw [ep, q, Nat.mul_comm b, Nat.mul_add_mod, Nat.mod_eq_of_lt (by omega)]
      refine ⟨e, ?_, ?_, ?_⟩
      · unfold c_ch
        rw [show P - 1 - (P - (k + 1)) = k by omega]
        exact e
      · rw [eR]
        refine Nat.le_trans ?_ h1
        rw [Nat.mul_comm (c_R D P k), ← Nat.mul_assoc]
        exact Nat.mul_le_mul_right _ (Nat.le_add_right _ _)
      · rw [eR]
        refine Nat.lt_of_lt_of_le h2 ?_
        rw [Nat.mul_comm (c_R D P k), ← Nat.mul_assoc]
        refine Nat.mul_le_mul_right _ ?_
        rw [Nat.add_mul, Nat.one_mul]
        omega
    have hstep : ∀ x i, c_h D P x k = i → c_n D P x (k + 1) = c_n D P x k + (if i = D (P - (k + 1)) then 0 else 1) ∧ c_s D dy P x (k + 1) = c_s D dy P x k + (if i = D (P - (k + 1)) then 0 else dy (P - (k + 1)) i) := fun x i e => by
      constructor
      · show c_n D P x k + (if c_h D P x k = D (P - 1 - k) then 0 else 1) = _
        rw [e, ep]
      · show c_s D dy P x k + (if c_h D P x k = D (P - 1 - k) then 0 else dy (P - 1 - k) (c_h D P x k)) = _
        rw [e, ep]
    have hmap : ∀ x, (List.range (P - k)).map (c_dq D dy P x) = (List.range (P - (k + 1))).map (c_dq D dy P x) ++ [c_dq D dy P x (P - (k + 1))] := fun x => by
      rw [← ep2, List.range_succ, List.map_append]
      rfl
    -- the rows that begin with none
    have part : ∀ i, i ≤ D (P - (k + 1)) → ∀ (B : k_B) (T : Option (Nat × Nat) × (Nat → Int32)), c_rel P B T → c_rel P ((if i = D (P - (k + 1)) then k_rf M d' (P - k) t n s (L ++ [-nI 1]) else if eg_gi M 78 ((P - (k + 1)) * 4 + i) &&& t = 0 then k_rf M d' (P - k) (t ||| (nI 1 <<< (nI ((P - (k + 1)) * 4 + i) &&& 31))) (n + 1) (s + (eg_gi M 76 ((P - (k + 1)) * 4 + i)).toNatClampNeg) (L ++ [eg_gi M 76 ((P - (k + 1)) * 4 + i)]) else []).foldl k_bu B) ((List.range' ((b * (D (P - (k + 1)) + 1) + i) * c_R D P k) (c_R D P k)).foldl (c_st D dy cc P) T) := fun i hi B T hr => by
      by_cases c : i = D (P - (k + 1))
      · rw [if_pos c]
        refine cal_blk hP hP6 h75 h4 h76 hcl k (b * (D (P - (k + 1)) + 1) + i) d' n s t (L ++ [-nI 1]) B T (by omega) (by omega) hr (fun x h1 h2 => ?_)
        obtain ⟨s1, s2, s3, s4⟩ := sub i hi x h1 h2
        obtain ⟨a1, a2, a3, a4, a5⟩ := hx x s3 s4
        obtain ⟨t1, t2⟩ := hstep x i s1
        rw [if_pos c] at t1 t2
        refine ⟨by omega, by omega, ?_, fun r => ?_, fun q hq => ?_⟩
        · rw [hmap, ← a3]
          unfold c_dq
          rw [s2, if_pos c]
        · rw [a4]
          refine ⟨fun z q hq hq2 => ?_, fun z q hq => z q (by omega)⟩
          by_cases y : q = P - (k + 1)
          · rw [y, s2, c] at hq2
            omega
          · exact z q (by omega) hq2
        · by_cases y : q = P - (k + 1)
          · rw [y]
            refine (c_o_iff x _ _).mpr (fun o ho z => ?_)
            rw [s2, c] at z
            omega
          · exact a5 q (by omega)
      · rw [if_neg c]
        have hiD : i < D (P - (k + 1)) := by omega
        obtain ⟨d1, d2⟩ := h76 _ hp i hiD
        by_cases c2 : eg_gi M 78 ((P - (k + 1)) * 4 + i) &&& t = 0
        · rw [if_pos c2, d1, n_c (by omega)]
          refine cal_blk hP hP6 h75 h4 h76 hcl k (b * (D (P - (k + 1)) + 1) + i) d' (n + 1) (s + dy (P - (k + 1)) i) _ (L ++ [nI (dy (P - (k + 1)) i)]) B T (by omega) (by omega) hr (fun x h1 h2 => ?_)
          obtain ⟨s1, s2, s3, s4⟩ := sub i hi x h1 h2
          obtain ⟨a1, a2, a3, a4, a5⟩ := hx x s3 s4
          obtain ⟨t1, t2⟩ := hstep x i s1
          rw [if_neg c] at t1 t2
          refine ⟨by omega, by omega, ?_, fun r => ?_, fun q hq => ?_⟩
          · rw [hmap, ← a3]
            unfold c_dq
            rw [s2, if_neg c]
          · rw [Int32.and_comm, or_and0, Int32.and_comm t, Int32.and_comm _ r, a4]
            constructor
            · rintro ⟨z1, z2⟩ q hq hq2
              by_cases y : q = P - (k + 1)
              · rw [y, s2]
                exact z2
              · exact z1 q (by omega) hq2
            · intro z
              refine ⟨fun q hq => z q (by omega), ?_⟩
              have := z (P - (k + 1)) (by omega) (by rw [s2]; exact hiD)
              rw [s2] at this
              exact this
          · by_cases y : q = P - (k + 1)
            · rw [y]
              refine (c_o_iff x _ _).mpr (fun o ho z => ?_)
              rw [s2] at z
              have := (a4 _).mp c2 o ho z.2.1
              rw [hcl _ hp i hiD o ho _ z.2.1] at this
              rw [this] at z
              exact Bool.noConfusion z.2.2
            · exact a5 q (by omega)
        · rw [if_neg c2]
          -- all these rows clash
          have hno : ∀ (l : List Nat) (T : Option (Nat × Nat) × (Nat → Int32)), (∀ x ∈ l, c_p D cc P x P = false) → l.foldl (c_st D dy cc P) T = T := by
            intro l
            induction l with
            | nil => intro T _; rfl
            | cons x l ih =>
              intro T hl
              rw [List.foldl_cons]
              have : c_st D dy cc P T x = T := by
                unfold c_st
                rw [if_neg (fun z => by rw [hl x List.mem_cons_self] at z; exact Bool.noConfusion z.2)]
              rw [this]
              exact ih T (fun y hy => hl y (List.mem_cons_of_mem _ hy))
          rw [hno]
          · exact hr
          · intro x hxm
            obtain ⟨h1, h2⟩ := List.mem_range'_1.mp hxm
            obtain ⟨s1, s2, s3, s4⟩ := sub i hi x h1 (by rw [Nat.add_mul, Nat.one_mul]; exact h2)
            obtain ⟨a1, a2, a3, a4, a5⟩ := hx x s3 s4
            cases hcp : c_p D cc P x P with
            | false => rfl
            | true =>
              exfalso
              refine c2 ((a4 _).mpr (fun q hq hq2 => ?_))
              have := (c_o_iff x _ _).mp ((c_p_iff x P).mp hcp (P - (k + 1)) hp) q hq
              rw [s2] at this
              rw [hcl _ hp i hiD q hq _ hq2]
              exact Bool.eq_false_iff.mpr (fun z => this ⟨hiD, hq2, z⟩)
    -- all choices, one after the other
    have allc : ∀ m, m ≤ D (P - (k + 1)) → ∀ (B : k_B) (T : Option (Nat × Nat) × (Nat → Int32)), c_rel P B T → c_rel P (((List.range m).flatMap (fun i => if eg_gi M 78 ((P - (k + 1)) * 4 + i) &&& t = 0 then k_rf M d' (P - k) (t ||| (nI 1 <<< (nI ((P - (k + 1)) * 4 + i) &&& 31))) (n + 1) (s + (eg_gi M 76 ((P - (k + 1)) * 4 + i)).toNatClampNeg) (L ++ [eg_gi M 76 ((P - (k + 1)) * 4 + i)]) else [])).foldl k_bu B) ((List.range' (b * (D (P - (k + 1)) + 1) * c_R D P k) (m * c_R D P k)).foldl (c_st D dy cc P) T) := by
      intro m
      induction m with
      | zero =>
        intro _ B T hr
        rw [Nat.zero_mul]
        exact hr
      | succ m ih =>
        intro hm B T hr
        have r0 := ih (by omega) B T hr
        have r1 := part m (by omega) _ _ r0
        rw [if_neg (show ¬ m = D (P - (k + 1)) by omega)] at r1
        rw [List.range_succ, List.flatMap_append, List.foldl_append, Nat.add_mul, Nat.one_mul, ← List.range'_append_1, List.foldl_append, List.flatMap_cons, List.flatMap_nil, List.append_nil, ← Nat.add_mul]
        exact r1
    rw [e1, List.foldl_append]
    have r0 := allc _ (Nat.le_refl _) B T hrel
    have r1 := part (D (P - (k + 1))) (Nat.le_refl _) _ _ r0
    rw [if_pos rfl] at r1
    have eb : b * c_R D P (k + 1) = b * (D (P - (k + 1)) + 1) * c_R D P k := by rw [eR, Nat.mul_comm (c_R D P k), Nat.mul_assoc]
    have el : c_R D P (k + 1) = D (P - (k + 1)) * c_R D P k + c_R D P k := by rw [eR, Nat.mul_comm, Nat.add_mul, Nat.one_mul]
    rw [eb, el, ← List.range'_append_1, List.foldl_append, ← Nat.add_mul]
    exact r1
end CAL

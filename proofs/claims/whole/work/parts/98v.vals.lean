/-! VALUES: class and model -/
theorem dw_desc {D : Nat → Int32} {d : Int32} : ∀ {R : List Nat}, R.Pairwise (fun a b => ¬ D a < D b) → R.dropWhile (fun e => decide (¬ D e ≤ d)) = R.filter (fun e => decide (D e ≤ d))
  | [], _ => rfl
  | a :: R, h => by
    obtain ⟨h1, h2⟩ := List.pairwise_cons.mp h
    by_cases q : D a ≤ d
    · rw [List.dropWhile_cons_of_neg (by simpa using q), List.filter_cons_of_pos (by simpa using q)]
      congr 1
      symm
      refine List.filter_eq_self.mpr (fun b hb => ?_)
      exact decide_eq_true (Int32.le_trans (Int32.not_lt.mp (h1 b hb)) q)
    · rw [List.dropWhile_cons_of_pos (by simpa using q), List.filter_cons_of_neg (by simpa using q)]
      exact dw_desc h2
theorem dw_rev {D : Nat → Int32} {d : Int32} {B : List Nat} (h : B.Pairwise (dlt D)) : B.reverse.dropWhile (fun e => decide (¬ D e ≤ d)) = (B.filter (fun e => decide (D e ≤ d))).reverse := by
  rw [dw_desc, List.filter_reverse]
  rw [List.pairwise_reverse]
  refine List.Pairwise.imp (fun {a b} z y => ?_) h
  exact dlt_as z (Or.inl y)
def vis (N : eg_M) (c e : Nat) : Bool := decide (eg_gi N 14 e = nI c ∧ eg_gi N 13 e = nI 1)
def gif (N : eg_M) (c e : Nat) : Bool := decide (eg_gi N 14 e = nI c ∧ ¬ eg_gi N 13 e = nI 1)
theorem cL_vis {N : eg_M} {c : Nat} {L : List Nat} : k_cL N true c L = ((L.filter (k_ct N)).filter (vis N c)).reverse := by
  unfold k_cL
  rw [List.filter_filter]
  congr 1
  refine List.filter_congr (fun e _ => ?_)
  unfold k_cq vis
  cases k_ct N e <;> simp
theorem cL_gif {N : eg_M} {c : Nat} {L : List Nat} : k_cL N false c L = ((L.filter (k_ct N)).filter (gif N c)).reverse := by
  unfold k_cL
  rw [List.filter_filter]
  congr 1
  refine List.filter_congr (fun e _ => ?_)
  unfold k_cq gif
  cases k_ct N e <;> simp
def geP (N : eg_M) (s : Int32) (q : Nat) : List Nat → Int32
  | [] => if q = 3 then s else -nI 1
  | e :: R => if q = 3 then s else if 0 < q ∧ ¬ eg_gi N 16 e = s then -nI 1 else geP N (eg_gi N 16 e) (q + 1) R
section VA
variable {N X : eg_M} {n nC : Nat} {k : Int32} {A : List Nat} {f : Nat → Int32}
theorem mL_i (hf : isL f A) {i : Nat} (hi : i < A.length) (hA : ∀ e ∈ A, e < 200) : eg_gi (m_L X A f) 151 i = nI A[i] ∧ (eg_gi (m_L X A f) 151 i).toNatClampNeg = A[i] := by
  have e : eg_gi (m_L X A f) 151 i = nI A[i] := by
    unfold m_L
    rw [ri_g, if_pos rfl]
    exact hf i hi
  have := hA _ (List.getElem_mem hi)
  exact ⟨e, by rw [e, n_c (by omega)]⟩
theorem mL_o {p j : Nat} (h : ¬ p = 151) (h2 : ¬ (p = 121 ∧ j = 47)) : eg_gi (m_L X A f) p j = eg_gi X p j := by
  unfold m_L
  rw [ri_g, if_neg h, si_g, if_neg h2]
def tsP (N : eg_M) (c : Nat) (R : List Nat) : Int32 × Int32 × Int32 := ((match R with
  | [] => eg_gi N 10 c
  | e :: _ => eg_gi N 19 e), nI R.length, k_tn N R)
theorem ts_eq (h : ly N X n nC k) (hf : isL f A) (hA : ∀ e ∈ A, e < n) {c : Nat} (hc : c < nC) : ∀ i, i ≤ A.length → m_ts (m_L X A f) (nI c) i = tsP N c ((A.take i).filter (vis N c)).reverse
  | 0, _ => by
    have hC := h.2.1.2.1
    obtain ⟨_, _, c3, _⟩ := h.2.2.2.2 c hc
    show (eg_gi (m_L X A f) 128 (nI c).toNatClampNeg, nI 0, nI 0) = _
    rw [mL_o (by decide) (by omega), n_c (by omega), c3]
    rfl
  | i + 1, hi => by
    have hi' : i < A.length := hi
    have h200 : ∀ e ∈ A, e < 200 := fun e he => by have := hA e he; have := h.1.2.1; omega
    obtain ⟨_, m2⟩ := mL_i (X := X) hf hi' h200
    obtain ⟨⟨e1, e2, _, e4, _, _, e7, _⟩, _⟩ := h.2.2.2.1 A[i] (hA _ (List.getElem_mem hi'))
    have ih := ts_eq h hf hA hc i (by omega)
    have es : m_ts (m_L X A f) (nI c) (i + 1) = if eg_gi (m_L X A f) 131 (eg_gi (m_L X A f) 151 i).toNatClampNeg = nI c ∧ eg_gi (m_L X A f) 130 (eg_gi (m_L X A f) 151 i).toNatClampNeg = nI 1 then (eg_gi (m_L X A f) 136 (eg_gi (m_L X A f) 151 i).toNatClampNeg, (m_ts (m_L X A f) (nI c) i).2.1 + nI 1, nI 1 - eg_gi (m_L X A f) 133 (eg_gi (m_L X A f) 151 i).toNatClampNeg) else m_ts (m_L X A f) (nI c) i := rfl
    rw [es, m2, mL_o (by decide) (by omega), mL_o (by decide) (by omega), mL_o (by decide) (by omega), mL_o (by decide) (by omega), e1, e2, e4, e7, ih, List.take_succ_eq_append_getElem hi', List.filter_append, List.reverse_append]
    by_cases q : eg_gi N 14 A[i] = nI c ∧ eg_gi N 13 A[i] = nI 1
    · rw [if_pos q, List.filter_cons_of_pos (show vis N c A[i] = true from decide_eq_true q)]
      show _ = tsP N c (A[i] :: ((A.take i).filter (vis N c)).reverse)
      unfold tsP
      rw [n_s]
      rfl
    · rw [if_neg q, List.filter_cons_of_neg (by rw [show vis N c A[i] = false from decide_eq_false q]; exact Bool.false_ne_true)]
      rfl
theorem mb_v (hf : isL f A) (h200 : ∀ e ∈ A, e < 200) {d : Int32} : ∀ (r i : Nat), i + r = A.length → ∃ m, m_mb (m_L X A f) d i r = nI m ∧ i ≤ m ∧ m ≤ A.length ∧ (∀ j (hj : j < A.length), i ≤ j → j < m → ¬ d < eg_gi X 136 A[j]) ∧ ∀ hm : m < A.length, d < eg_gi X 136 A[m]
  | 0, i, hi => ⟨i, rfl, Nat.le_refl i, by omega, fun j _ h1 h2 => absurd h2 (by omega), fun hm => absurd hm (by omega)⟩
  | r + 1, i, hi => by
    have hi' : i < A.length := by omega
    obtain ⟨_, m2⟩ := mL_i (X := X) hf hi' h200
    have es : m_mb (m_L X A f) d i (r + 1) = if d < eg_gi (m_L X A f) 136 (eg_gi (m_L X A f) 151 i).toNatClampNeg then nI i else m_mb (m_L X A f) d (i + 1) r := rfl
    rw [es, m2, mL_o (by decide) (by omega)]
    by_cases q : d < eg_gi X 136 A[i]
    · rw [if_pos q]
      exact ⟨i, rfl, Nat.le_refl i, by omega, fun j _ h1 h2 => absurd h2 (by omega), fun _ => q⟩
    · rw [if_neg q]
      obtain ⟨m, h1, h2, h3, h4, h5⟩ := mb_v hf h200 r (i + 1) (by omega)
      refine ⟨m, h1, by omega, h3, fun j hj z1 z2 => ?_, h5⟩
      by_cases y : j = i
      · subst y; exact q
      · exact h4 j hj (by omega) z2
/-- as many as are not behind the day -/
theorem up_eq (h : ly N X n nC k) (hl : A.length ≤ n) (hf : isL f A) (hA : ∀ e ∈ A, e < n) (hs : A.Pairwise (dlt (eg_gi N 19))) (d : Int32) : m_up X A f d ≤ A.length ∧ A.take (m_up X A f d) = A.filter (fun e => decide (eg_gi N 19 e ≤ d)) := by
  have hn := h.1.2.1
  have h200 : ∀ e ∈ A, e < 200 := fun e he => by have := hA e he; omega
  have e36 : ∀ e ∈ A, eg_gi X 136 e = eg_gi N 19 e := fun e he => (h.2.2.2.1 e (hA e he)).1.2.2.2.2.2.2.1
  have hlen : A.length < 2 ^ 31 := by
    omega
  obtain ⟨m, h1, _, h3, h4, h5⟩ := mb_v (X := X) hf h200 (d := d) A.length 0 (by omega)
  have em : m_up X A f d = m := by
    unfold m_up
    rw [h1, n_c (by omega)]
  rw [em]
  refine ⟨h3, ?_⟩
  have sp : A.filter (fun e => decide (eg_gi N 19 e ≤ d)) = (A.take m).filter (fun e => decide (eg_gi N 19 e ≤ d)) ++ (A.drop m).filter (fun e => decide (eg_gi N 19 e ≤ d)) := by
    rw [← List.filter_append, List.take_append_drop]
  rw [sp]
  have t1 : (A.take m).filter (fun e => decide (eg_gi N 19 e ≤ d)) = A.take m := by
    refine List.filter_eq_self.mpr (fun e he => ?_)
    obtain ⟨j, hj, rfl⟩ := List.mem_iff_getElem.mp he
    rw [List.length_take] at hj
    rw [List.getElem_take]
    have := h4 j (by omega) (Nat.zero_le _) (by omega)
    rw [e36 _ (List.getElem_mem _)] at this
    exact decide_eq_true (Int32.not_lt.mp this)
  have t2 : (A.drop m).filter (fun e => decide (eg_gi N 19 e ≤ d)) = [] := by
    refine List.filter_eq_nil_iff.mpr (fun e he => ?_)
    obtain ⟨j, hj, rfl⟩ := List.mem_iff_getElem.mp he
    rw [List.length_drop] at hj
    rw [List.getElem_drop]
    have hm : m < A.length := by omega
    have hlt := h5 hm
    rw [e36 _ (List.getElem_mem _)] at hlt
    have hle : ¬ eg_gi N 19 A[m + j] < eg_gi N 19 A[m] := by
      by_cases z : j = 0
      · subst z
        exact fun y => Int32.lt_irrefl y
      · have := List.pairwise_iff_getElem.mp hs m (m + j) hm (by omega) (by omega)
        exact fun y => dlt_as this (Or.inl y)
    simp only [decide_eq_true_eq]
    exact fun y => Int32.lt_irrefl (Int32.lt_of_lt_of_le hlt (Int32.le_trans (Int32.not_lt.mp hle) y))
  rw [t1, t2, List.append_nil]
/-- those by a day, of one charter and kind -/
theorem by_eq (h : ly N X n nC k) (hl : A.length ≤ n) (hf : isL f A) (hA : ∀ e ∈ A, e < n) (hs : A.Pairwise (dlt (eg_gi N 19))) (d : Int32) (P : Nat → Bool) : k_by N d (A.filter P).reverse = ((A.take (m_up X A f d)).filter P).reverse := by
  unfold k_by
  rw [dw_rev (List.Pairwise.filter _ hs), (up_eq h hl hf hA hs d).2, List.filter_filter, List.filter_filter]
  congr 1
  exact List.filter_congr (fun e _ => Bool.and_comm _ _)
theorem ge_eq (h : ly N X n nC k) (hf : isL f A) (hA : ∀ e ∈ A, e < n) (hct : ∀ e ∈ A, ¬ eg_gi N 13 e = 0) {c : Nat} : ∀ (i : Nat), i ≤ A.length → ∀ (s : Int32) (q : Nat), m_ge (m_L X A f) (nI c) s q i = geP N s q ((A.take i).filter (gif N c)).reverse
  | 0, _ => fun s q => by
    show (if q = 3 then s else -nI 1) = geP N s q []
    unfold geP
    rfl
  | i + 1, hi => fun s q => by
    have hi' : i < A.length := hi
    have h200 : ∀ e ∈ A, e < 200 := fun e he => by have := hA e he; have := h.1.2.1; omega
    obtain ⟨_, m2⟩ := mL_i (X := X) hf hi' h200
    obtain ⟨⟨e1, e2, _, e4, _, _, e7, _⟩, _, k3, _⟩ := h.2.2.2.1 A[i] (hA _ (List.getElem_mem hi'))
    have k0 := hct _ (List.getElem_mem hi')
    have kd : eg_gi N 13 A[i] = nI 2 ↔ ¬ eg_gi N 13 A[i] = nI 1 := by
      obtain ⟨z, hz, ez⟩ := vp_in_of k3 (by decide)
      rw [ez] at k0 ⊢
      rcases (show z = 0 ∨ z = 1 ∨ z = 2 by omega) with rfl | rfl | rfl
      · exact absurd rfl k0
      · exact ⟨fun y => absurd y (by decide), fun y => absurd rfl y⟩
      · exact ⟨fun _ => by decide, fun _ => rfl⟩
    have ih := ge_eq h hf hA hct (c := c) i (by omega)
    have es : m_ge (m_L X A f) (nI c) s q (i + 1) = if q = 3 then s else if eg_gi (m_L X A f) 131 (eg_gi (m_L X A f) 151 i).toNatClampNeg = nI c ∧ eg_gi (m_L X A f) 130 (eg_gi (m_L X A f) 151 i).toNatClampNeg = nI 2 then (if 0 < q ∧ ¬ eg_gi (m_L X A f) 133 (eg_gi (m_L X A f) 151 i).toNatClampNeg = s then -nI 1 else m_ge (m_L X A f) (nI c) (eg_gi (m_L X A f) 133 (eg_gi (m_L X A f) 151 i).toNatClampNeg) (q + 1) i) else m_ge (m_L X A f) (nI c) s q i := rfl
    rw [es, m2, mL_o (by decide) (by omega), mL_o (by decide) (by omega), mL_o (by decide) (by omega), e1, e2, e4, ih, ih, List.take_succ_eq_append_getElem hi', List.filter_append, List.reverse_append]
    by_cases y : eg_gi N 14 A[i] = nI c ∧ ¬ eg_gi N 13 A[i] = nI 1
    · rw [if_pos (c := eg_gi N 14 A[i] = nI c ∧ eg_gi N 13 A[i] = nI 2) ⟨y.1, kd.mpr y.2⟩, List.filter_cons_of_pos (show gif N c A[i] = true from decide_eq_true y)]
      show _ = geP N s q (A[i] :: ((A.take i).filter (gif N c)).reverse)
      rw [geP]
    · rw [if_neg (c := eg_gi N 14 A[i] = nI c ∧ eg_gi N 13 A[i] = nI 2) (fun w => y ⟨w.1, kd.mp w.2⟩), List.filter_cons_of_neg (by rw [show gif N c A[i] = false from decide_eq_false y]; exact Bool.false_ne_true)]
      show (if q = 3 then s else geP N s q ((A.take i).filter (gif N c)).reverse) = geP N s q ((A.take i).filter (gif N c)).reverse
      by_cases z : q = 3
      · rw [if_pos z]
        subst z
        cases ((A.take i).filter (gif N c)).reverse <;> rfl
      · rw [if_neg z]
end VA
theorem geP_eq (N : eg_M) (R : List Nat) : geP N (-nI 1) 0 R = k_gs N R := by
  match R with
  | [] => rfl
  | [e] => simp [geP, k_gs]
  | [e, g] => simp [geP, k_gs]
  | e :: g :: i :: R =>
    have z : ∀ s, geP N s 3 R = s := fun s => by cases R <;> rfl
    simp only [geP, z, k_gs]
    by_cases q : eg_gi N 16 g = eg_gi N 16 e
    · by_cases r : eg_gi N 16 i = eg_gi N 16 e
      · simp [q, r]
      · simp [q, r]
    · simp [q]

/-! WHAT IS KNOWN ON A DAY: class and model -/
def ly_t (N X : eg_M) (t : Nat) : Prop := t < 16 ∧ eg_gi X 123 t = eg_gi N 3 t ∧ eg_gi X 124 t = eg_gi N 4 t ∧ eg_gi X 125 t = eg_gi N 5 t ∧ eg_gi X 126 t = eg_gi N 6 t ∧ vp_in (eg_gi N 6 t) 256
def ly_e (N X : eg_M) (nC e : Nat) : Prop := (eg_gi X 130 e = eg_gi N 13 e ∧ eg_gi X 131 e = eg_gi N 14 e ∧ eg_gi X 132 e = eg_gi N 15 e ∧ eg_gi X 133 e = eg_gi N 16 e ∧ eg_gi X 134 e = eg_gi N 17 e ∧ eg_gi X 135 e = eg_gi N 18 e ∧ eg_gi X 136 e = eg_gi N 19 e ∧ eg_gi X 137 e = eg_gi N 20 e) ∧ r_bk (eg_gi X 138 e) (eg_gi N 21 e) ∧ vp_in (eg_gi N 13 e) 3 ∧ vp_in (eg_gi N 14 e) nC ∧ (¬ eg_gi N 13 e = 0 → vp_in (eg_gi N 16 e) 2) ∧ ¬ eg_gi N 20 e < eg_gi N 11 (eg_gi N 14 e).toNatClampNeg ∧ vp_in (eg_gi N 19 e) 3600
def ly_c (N X : eg_M) (c : Nat) : Prop := eg_gi X 127 (2 * c) = eg_gi N 8 c ∧ eg_gi X 127 (2 * c + 1) = eg_gi N 9 c ∧ eg_gi X 128 c = eg_gi N 10 c ∧ eg_gi X 129 c = eg_gi N 11 c ∧ (∃ a, eg_gi N 8 c = nI a ∧ ly_t N X a) ∧ ∃ b, eg_gi N 9 c = nI b ∧ ly_t N X b
/-- N of the class, X of the model: the same events, charters, towns; k the day that is looked at -/
def ly (N X : eg_M) (n nC : Nat) (k : Int32) : Prop := (eg_gi N 12 10 = nI n ∧ n ≤ 200 ∧ eg_gi X 121 5 = nI n) ∧ (eg_gi N 7 4 = nI nC ∧ nC ≤ 24 ∧ eg_gi X 121 4 = nI nC) ∧ (eg_gi N 1 4 = k ∧ vp_in k 3600) ∧ (∀ e, e < n → ly_e N X nC e) ∧ ∀ c, c < nC → ly_c N X c
section LX
variable {N X : eg_M} {n nC : Nat} {k : Int32}
theorem ly_n (h : ly N X n nC k) : (eg_gi N 12 10).toNatClampNeg = n ∧ (eg_gi X 121 5).toNatClampNeg = n := by
  obtain ⟨⟨h1, h2, h3⟩, _⟩ := h
  rw [h1, h3, n_c (by omega)]
  exact ⟨rfl, rfl⟩
theorem ly_ch (h : ly N X n nC k) {e : Nat} (he : e < n) : ∃ c, c < nC ∧ eg_gi N 14 e = nI c ∧ (eg_gi N 14 e).toNatClampNeg = c := by
  obtain ⟨_, ⟨_, h2, _⟩, _, h4, _⟩ := h
  obtain ⟨_, _, _, hc, _⟩ := h4 e he
  obtain ⟨c, hc1, hc2⟩ := vp_in_of hc (by omega)
  exact ⟨c, hc1, hc2, by rw [hc2, n_c (by omega)]⟩
theorem kn_eq (h : ly N X n nC k) {e : Nat} (he : e < n) : k_kn N e = m_kn X e k := by
  obtain ⟨_, _, ⟨h3, h3'⟩, h4, _⟩ := h
  obtain ⟨⟨_, _, _, _, _, _, _, e8⟩, hb, _⟩ := h4 e he
  unfold k_kn m_kn
  rw [h3, e8]
  obtain ⟨kk, hk, rfl⟩ := vp_in_of h3' (by decide)
  refine decide_eq_decide.mpr (and_congr Iff.rfl ?_)
  rcases hb with ⟨b1, b2⟩ | ⟨b1, b2⟩
  · rw [b1, b2]
    refine ⟨fun _ => Or.inl rfl, fun _ z => ?_⟩
    rw [n_le (by decide) (by omega)] at z
    omega
  · rw [b1]
    refine ⟨Or.inr, fun z => z.elim (fun y => ?_) id⟩
    rw [y] at b2
    exact absurd (Or.inl (by decide)) b2
theorem bf_le (h : ly N X n nC k) {c d : Int32} (hd : vp_in d 3600) : ∀ i, i ≤ n → ((¬ k_bf N c i ≤ d) ↔ ∀ e, e < i → m_bk X c d k e = false)
  | 0, _ => by
    refine ⟨fun _ e he => absurd he (Nat.not_lt_zero e), fun _ z => ?_⟩
    obtain ⟨dd, hd2, rfl⟩ := vp_in_of hd (by decide)
    have z : nI 3600 ≤ nI dd := z
    rw [n_le (by decide) (by omega)] at z
    omega
  | i + 1, hi => by
    have ih := bf_le h (c := c) hd i (by omega)
    have hs : (∀ e, e < i + 1 → m_bk X c d k e = false) ↔ (∀ e, e < i → m_bk X c d k e = false) ∧ m_bk X c d k i = false := by
      refine ⟨fun z => ⟨fun e he => z e (by omega), z i (by omega)⟩, fun z e he => ?_⟩
      by_cases q : e = i
      · rw [q]; exact z.2
      · exact z.1 e (by omega)
    rw [hs, ← ih]
    have kn := kn_eq h (e := i) (by omega)
    obtain ⟨_, _, _, h4, _⟩ := h
    obtain ⟨⟨e1, e2, _, _, _, _, e7, _⟩, _⟩ := h4 i (by omega)
    have ebf : k_bf N c (i + 1) = if eg_gi N 13 i = 0 ∧ k_kn N i = true ∧ eg_gi N 14 i = c then (if eg_gi N 19 i < k_bf N c i then eg_gi N 19 i else k_bf N c i) else k_bf N c i := rfl
    rw [ebf]
    unfold m_bk
    rw [kn, e1, e2, e7]
    by_cases q : eg_gi N 13 i = 0 ∧ m_kn X i k = true ∧ eg_gi N 14 i = c
    · rw [if_pos q, decide_eq_false_iff_not]
      by_cases r : eg_gi N 19 i < k_bf N c i
      · rw [if_pos r]
        refine ⟨fun z => ⟨fun y => z (Int32.le_of_lt (Int32.lt_of_lt_of_le r y)), fun y => y.2.2.2 (Int32.not_le.mp z)⟩, fun z y => z.2 ⟨q.1, q.2.2, q.2.1, Int32.not_lt.mpr y⟩⟩
      · rw [if_neg r]
        refine ⟨fun z => ⟨z, fun y => y.2.2.2 (Int32.lt_of_lt_of_le (Int32.not_le.mp z) (Int32.not_lt.mp r))⟩, fun z => z.1⟩
    · rw [if_neg q, decide_eq_false_iff_not]
      exact ⟨fun z => ⟨z, fun y => q ⟨y.1, y.2.2.1, y.2.1⟩⟩, fun z => z.1⟩
theorem al_eq (h : ly N X n nC k) {c : Nat} (hc : c < nC) (hb : eg_gi N 34 c = k_bf N (nI c) n) {d : Int32} (hd : vp_in d 3600) (ht : ¬ k < eg_gi N 11 c) : k_al N (nI c) d ↔ m_al X (nI c) d k = true := by
  have hn := (ly_n h).2
  have bf := bf_le h (c := nI c) hd n (Nat.le_refl n)
  obtain ⟨_, ⟨_, hC, _⟩, _, _, h5⟩ := h
  obtain ⟨_, _, c3, c4, _⟩ := h5 c hc
  unfold k_al m_al
  rw [decide_eq_true_iff, n_c (by omega), hn, c3, c4, hb, bf]
  exact ⟨fun z => ⟨ht, Int32.not_lt.mp z.1, z.2⟩, fun z => ⟨Int32.not_lt.mpr z.2.1, z.2.2⟩⟩
theorem ct_eq (h : ly N X n nC k) (hb : ∀ c, c < 24 → eg_gi N 34 c = k_bf N (nI c) n) {e : Nat} (he : e < n) : k_ct N e = m_ct X k e := by
  obtain ⟨c, hc, ec, ec2⟩ := ly_ch h he
  have kn := kn_eq h he
  have hC : nC ≤ 24 := h.2.1.2.1
  obtain ⟨⟨e1, e2, _, _, _, _, e7, e8⟩, _, _, _, _, ht, hd⟩ := h.2.2.2.1 e he
  have h3 := h.2.2.1.1
  rw [ec2] at ht
  have al := al_eq h hc (hb c (by omega)) (d := eg_gi N 19 e) hd
  unfold k_al at al
  rw [n_c (by omega)] at al
  unfold k_ct m_ct
  rw [kn, e1, e2, e7, ec2, ec]
  refine decide_eq_decide.mpr (and_congr Iff.rfl ?_)
  constructor
  · rintro ⟨z1, z2⟩
    refine ⟨z1, (al ?_).mp z2⟩
    have z1' := z1
    unfold m_kn at z1'
    have := (decide_eq_true_iff.mp z1').1
    rw [e8] at this
    exact fun y => ht (Int32.lt_of_le_of_lt (Int32.not_lt.mp this) y)
  · rintro ⟨z1, z2⟩
    refine ⟨z1, (al ?_).mpr z2⟩
    have z1' := z1
    unfold m_kn at z1'
    have := (decide_eq_true_iff.mp z1').1
    rw [e8] at this
    exact fun y => ht (Int32.lt_of_le_of_lt (Int32.not_lt.mp this) y)
theorem dlt_as {D : Nat → Int32} {a b : Nat} (h : dlt D a b) : ¬ dlt D b a := by
  rintro (z | z)
  · rcases h with y | y
    · exact Int32.lt_irrefl (Int32.lt_trans y z)
    · rw [y.1] at z
      exact Int32.lt_irrefl z
  · rcases h with y | y
    · rw [z.1] at y
      exact Int32.lt_irrefl y
    · omega
theorem srt_eq {D : Nat → Int32} : ∀ {A B : List Nat}, A.Pairwise (dlt D) → B.Pairwise (dlt D) → (∀ x, x ∈ A ↔ x ∈ B) → A = B
  | [], [], _, _, _ => rfl
  | [], b :: B, _, _, h => absurd ((h b).mpr List.mem_cons_self) List.not_mem_nil
  | a :: A, [], _, _, h => absurd ((h a).mp List.mem_cons_self) List.not_mem_nil
  | a :: A, b :: B, hA, hB, h => by
    obtain ⟨a1, a2⟩ := List.pairwise_cons.mp hA
    obtain ⟨b1, b2⟩ := List.pairwise_cons.mp hB
    have e : a = b := by
      by_cases q : a = b
      · exact q
      · exfalso
        have y1 := (List.mem_cons.mp ((h a).mp List.mem_cons_self)).resolve_left q
        have y2 := (List.mem_cons.mp ((h b).mpr List.mem_cons_self)).resolve_left (fun z => q z.symm)
        exact dlt_as (a1 b y2) (b1 a y1)
    subst e
    rw [srt_eq a2 b2 (fun x => ?_)]
    constructor
    · intro hx
      rcases List.mem_cons.mp ((h x).mp (List.mem_cons_of_mem _ hx)) with z | z
      · rw [z] at hx
        exact absurd (a1 a hx) (fun y => dlt_as y y)
      · exact z
    · intro hx
      rcases List.mem_cons.mp ((h x).mpr (List.mem_cons_of_mem _ hx)) with z | z
      · rw [z] at hx
        exact absurd (b1 a hx) (fun y => dlt_as y y)
      · exact z
/-- the model's row is the class's order, those that count -/
theorem lay_eq (h : ly N X n nC k) (hb : ∀ c, c < 24 → eg_gi N 34 c = k_bf N (nI c) n) {L A : List Nat} (hL : k_ord (eg_gi N 19) n L) (hA : m_lay X k n A) : A = L.filter (k_ct N) := by
  obtain ⟨_, l2, l3⟩ := hL
  obtain ⟨_, a2, a3⟩ := hA
  have dd : ∀ {a b : Nat}, a < n → b < n → (dlt (eg_gi X 136) a b ↔ dlt (eg_gi N 19) a b) := fun {a b} ha hb' => by
    unfold dlt
    rw [(h.2.2.2.1 a ha).1.2.2.2.2.2.2.1, (h.2.2.2.1 b hb').1.2.2.2.2.2.2.1]
  have a2' : A.Pairwise (dlt (eg_gi N 19)) := by
    refine List.Pairwise.imp_of_mem (fun {a b} ha hb' z => ?_) a2
    exact (dd ((a3 a).mp ha).1 ((a3 b).mp hb').1).mp z
  refine srt_eq a2' (List.Pairwise.filter _ l2) (fun x => ?_)
  rw [a3, List.mem_filter, l3]
  refine ⟨fun z => ⟨z.1, by rw [ct_eq h hb z.1]; exact z.2⟩, fun z => ⟨z.1, by rw [← ct_eq h hb z.1]; exact z.2⟩⟩
end LX

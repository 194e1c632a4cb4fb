/-! THE CLASS AND THE MODEL SIDE BY SIDE -/
/-- places (and fields) that are read or may be written; 178 stands for all that is made later -/
abbrev vf_K : Type := List (Nat × Option Nat)
def vf_c (p : Nat) : Nat := bif Nat.blt p 178 then p else 178
def vf_o (o : Option Nat) (k : Nat) : Bool := match o with
  | none => true
  | some j => Nat.beq j k
def vf_t : vf_K → Nat → Nat → Bool
  | [], _, _ => false
  | q :: t, p, k => (Nat.beq q.1 (vf_c p) && vf_o q.2 k) || vf_t t p k
def vf_w : vf_K → Nat → Bool
  | [], _ => false
  | q :: t, p => (Nat.beq q.1 (vf_c p) && q.2.isNone) || vf_w t p
def vf_x (a b : Option Nat) : Bool := match a, b with
  | some j, some k => !(Nat.beq j k)
  | _, _ => false
def vf_d (rs ps : vf_K) : Bool := rs.all (fun r => ps.all (fun q => !(Nat.beq r.1 q.1) || vf_x r.2 q.2))
theorem vf_wt {p k : Nat} : ∀ {ps : vf_K}, vf_w ps p = true → vf_t ps p k = true
  | q :: t, h => by
    unfold vf_w at h
    unfold vf_t
    rw [Bool.or_eq_true, Bool.and_eq_true] at h ⊢
    rcases h with h | h
    · refine Or.inl ⟨h.1, ?_⟩
      cases hq : q.2 with
      | none => rfl
      | some j => rw [hq] at h; exact Bool.noConfusion h.2
    · exact Or.inr (vf_wt h)
theorem vf_in {p k : Nat} : ∀ {ps : vf_K}, vf_t ps p k = true → ∃ q ∈ ps, q.1 = vf_c p ∧ vf_o q.2 k = true
  | q :: t, h => by
    unfold vf_t at h
    rw [Bool.or_eq_true, Bool.and_eq_true] at h
    rcases h with h | h
    · exact ⟨q, List.mem_cons_self, Nat.eq_of_beq_eq_true h.1, h.2⟩
    · obtain ⟨z, h1, h2⟩ := vf_in h
      exact ⟨z, List.mem_cons_of_mem _ h1, h2⟩
/-- what is read is not written -/
theorem vf_n {rs ps : vf_K} {p k : Nat} (hd : vf_d rs ps = true) (h : vf_t rs p k = true) : vf_t ps p k = false := by
  cases hp : vf_t ps p k with
  | false => rfl
  | true =>
    exfalso
    obtain ⟨r, r1, r2, r3⟩ := vf_in h
    obtain ⟨q, q1, q2, q3⟩ := vf_in hp
    have := List.all_eq_true.mp (List.all_eq_true.mp hd r r1) q q1
    rw [r2, q2, Nat.beq_refl, Bool.not_true, Bool.false_or] at this
    unfold vf_x at this
    cases e1 : r.2 with
    | none => rw [e1] at this; exact Bool.noConfusion this
    | some a =>
      cases e2 : q.2 with
      | none => rw [e1, e2] at this; exact Bool.noConfusion this
      | some b =>
        rw [e1] at r3 this
        rw [e2] at q3 this
        have a1 : a = k := Nat.eq_of_beq_eq_true r3
        have a2 : b = k := Nat.eq_of_beq_eq_true q3
        rw [a1, a2] at this
        replace this : (!(Nat.beq k k)) = true := this
        rw [Nat.beq_refl] at this
        exact Bool.noConfusion this
/-- N is M, but for what ps names -/
def vf (ps : vf_K) (M N : eg_M) : Prop := N.1 = M.1 ∧ ∀ p k, vf_t ps p k = false → eg_gi N p k = eg_gi M p k ∧ eg_gl N p k = eg_gl M p k ∧ eg_gr N p k = eg_gr M p k
/-- N and M agree where rs says -/
def sm (rs : vf_K) (M N : eg_M) : Prop := N.1 = M.1 ∧ ∀ p k, vf_t rs p k = true → eg_gi N p k = eg_gi M p k ∧ eg_gl N p k = eg_gl M p k ∧ eg_gr N p k = eg_gr M p k
theorem vf_sm {ps rs : vf_K} {M N : eg_M} (h : vf ps M N) (hd : vf_d rs ps = true) : sm rs M N := ⟨h.1, fun p k hp => h.2 p k (vf_n hd hp)⟩
theorem sm_i {rs : vf_K} {M N : eg_M} (h : sm rs M N) {p k : Nat} (hp : vf_t rs p k = true) : eg_gi N p k = eg_gi M p k := (h.2 p k hp).1
theorem sm_l {rs : vf_K} {M N : eg_M} (h : sm rs M N) {p k : Nat} (hp : vf_t rs p k = true) : eg_gl N p k = eg_gl M p k := (h.2 p k hp).2.1
theorem sm_r {rs : vf_K} {M N : eg_M} (h : sm rs M N) {p k : Nat} (hp : vf_t rs p k = true) : eg_gr N p k = eg_gr M p k := (h.2 p k hp).2.2
section FR
variable {ps : vf_K} {M N : eg_M} {p k : Nat}
theorem vf_0 : vf ps M M := ⟨rfl, fun _ _ _ => ⟨rfl, rfl, rfl⟩⟩
theorem vf_tr {X : eg_M} (h : vf ps M N) (h2 : vf ps N X) : vf ps M X := ⟨h2.1.trans h.1, fun p k hp => ⟨(h2.2 p k hp).1.trans (h.2 p k hp).1, (h2.2 p k hp).2.1.trans (h.2 p k hp).2.1, (h2.2 p k hp).2.2.trans (h.2 p k hp).2.2⟩⟩
theorem up_n {α : Type} {f : Nat → Nat → α} {v : α} {q j : Nat} (h : ¬ (q = p ∧ j = k)) : eg_up f p k v q j = f q j := by
  unfold eg_up
  by_cases h1 : q = p
  · rw [if_pos h1]
    show (if j = k then v else f p j) = _
    rw [if_neg (fun h2 => h ⟨h1, h2⟩), h1]
  · rw [if_neg h1]
theorem vf_ne {q j : Nat} (ht : vf_t ps p k = true) (h : vf_t ps q j = false) : ¬ (q = p ∧ j = k) := by
  rintro ⟨rfl, rfl⟩
  rw [ht] at h
  exact Bool.noConfusion h
theorem vf_si {v : Int32} (h : vf ps M N) (ht : vf_t ps p k = true) : vf ps M (eg_si N p k v) := ⟨h.1, fun q j hq => ⟨(up_n (vf_ne ht hq)).trans (h.2 q j hq).1, (h.2 q j hq).2⟩⟩
theorem vf_sl {v : Int64} (h : vf ps M N) (ht : vf_t ps p k = true) : vf ps M (eg_sl N p k v) := ⟨h.1, fun q j hq => ⟨(h.2 q j hq).1, (up_n (vf_ne ht hq)).trans (h.2 q j hq).2.1, (h.2 q j hq).2.2⟩⟩
theorem vf_sr {v : Option Nat} (h : vf ps M N) (ht : vf_t ps p k = true) : vf ps M (eg_sr N p k v) := ⟨h.1, fun q j hq => ⟨(h.2 q j hq).1, (h.2 q j hq).2.1, (up_n (vf_ne ht hq)).trans (h.2 q j hq).2.2⟩⟩
theorem vf_nw {q j : Nat} (ht : vf_w ps p = true) (h : vf_t ps q j = false) : ¬ q = p := by
  rintro rfl
  rw [vf_wt ht] at h
  exact Bool.noConfusion h
theorem vf_ri {f : Nat → Int32} (h : vf ps M N) (ht : vf_w ps p = true) : vf ps M (eg_ri N p f) := ⟨h.1, fun q j hq => ⟨by rw [ri_g, if_neg (vf_nw ht hq)]; exact (h.2 q j hq).1, (h.2 q j hq).2⟩⟩
theorem vf_rl {f : Nat → Int64} (h : vf ps M N) (ht : vf_w ps p = true) : vf ps M (eg_rl N p f) := ⟨h.1, fun q j hq => ⟨(h.2 q j hq).1, by rw [rl_g, if_neg (vf_nw ht hq)]; exact (h.2 q j hq).2.1, (h.2 q j hq).2.2⟩⟩
end FR
/-- an object of class 8 is the silence, or made later -/
theorem k_8a {M : eg_M} {q : Nat} (h : eg_isO wd M q 8 = true) : q = 30 ∨ 178 ≤ q := by
  by_cases hq : 178 ≤ q
  · exact Or.inr hq
  · left
    have h2 : (Nat.beq (wd_B q).1 0 && Nat.beq (wd_B q).2.1 8) = true := by
      have e : eg_sh wd M q = wd_B q := by
        show (bif Nat.blt q 178 then wd_B q else _) = _
        rw [show Nat.blt q 178 = true from Nat.blt_eq.mpr (by omega)]
        rfl
      unfold eg_isO at h
      rw [e] at h
      exact h
    have h3 : ∀ p, p < 178 → (Nat.beq (wd_B p).1 0 && Nat.beq (wd_B p).2.1 8) = true → p = 30 := by decide +kernel
    exact h3 q (by omega) h2
/-! the regions -/
def r_tw (M : eg_M) : Prop := eg_cn (eg_gi M 2 4) 16 ∧ eg_gi M 121 3 = eg_gi M 2 4 ∧ ∀ t, t < (eg_gi M 2 4).toNatClampNeg → eg_gi M 123 t = eg_gi M 3 t ∧ eg_gi M 124 t = eg_gi M 4 t ∧ eg_gi M 125 t = eg_gi M 5 t ∧ eg_gi M 126 t = eg_gi M 6 t ∧ vp_in (eg_gi M 6 t) 256
def r_ch (M : eg_M) : Prop := eg_gi M 121 2 = eg_gi M 0 8 ∧ eg_gi M 121 4 = eg_gi M 7 4 ∧ ∀ c, c < (eg_gi M 7 4).toNatClampNeg → eg_gi M 127 (2 * c) = eg_gi M 8 c ∧ eg_gi M 127 (2 * c + 1) = eg_gi M 9 c ∧ eg_gi M 128 c = eg_gi M 10 c ∧ eg_gi M 129 c = eg_gi M 11 c ∧ vp_in (eg_gi M 8 c) (eg_gi M 2 4).toNatClampNeg ∧ vp_in (eg_gi M 9 c) (eg_gi M 2 4).toNatClampNeg ∧ ¬ eg_gi M 0 8 < eg_gi M 11 c
def r_bk (x y : Int32) : Prop := (x = -nI 1 ∧ y = nI 3600) ∨ (x = y ∧ vp_in y 3600)
def r_ev (M : eg_M) : Prop := eg_gi M 121 5 = eg_gi M 12 10 ∧ ∀ e, e < (eg_gi M 12 10).toNatClampNeg → (eg_gi M 130 e = eg_gi M 13 e ∧ eg_gi M 131 e = eg_gi M 14 e ∧ eg_gi M 132 e = eg_gi M 15 e ∧ eg_gi M 133 e = eg_gi M 16 e ∧ eg_gi M 134 e = eg_gi M 17 e ∧ eg_gi M 135 e = eg_gi M 18 e ∧ eg_gi M 136 e = eg_gi M 19 e ∧ eg_gi M 137 e = eg_gi M 20 e) ∧ r_bk (eg_gi M 138 e) (eg_gi M 21 e) ∧ vp_in (eg_gi M 13 e) 3 ∧ vp_in (eg_gi M 14 e) (eg_gi M 7 4).toNatClampNeg ∧ (¬ eg_gi M 13 e = 0 → vp_in (eg_gi M 16 e) 2) ∧ ¬ eg_gi M 20 e < eg_gi M 11 (eg_gi M 14 e).toNatClampNeg
def r_tp (M : eg_M) : Prop := eg_gi M 121 23 = eg_gi M 23 0 ∧ eg_gi M 121 33 = eg_gi M 23 3 ∧ eg_cn (eg_gi M 23 0) 400 ∧ (∀ j, eg_gi M 139 j = eg_gi M 26 j) ∧ ∀ j, j < 400 → ∃ m, m < 256 ∧ eg_gi M 26 j = nI m
def r_tx (M : eg_M) : Prop := eg_gi M 121 35 = eg_gi M 23 2 ∧ (k_rt M 30 [] ∧ eg_gi M 30 1 = nI 100000 ∧ eg_gi M 30 2 = nI 20) ∧ ∀ i, i < (eg_gi M 23 2).toNatClampNeg → ∃ q CL, eg_gr M 24 i = some q ∧ 178 ≤ q ∧ q < eg_N wd M ∧ eg_gi M 140 i = eg_gi M q 0 ∧ eg_gi M 142 i = eg_gi M q 1 ∧ eg_gi M 143 i = eg_gi M q 2 ∧ px_pr (eg_gi M q 1) ∧ k_rt M q (px_tx CL) ∧ m_ru M i CL ∧ ∀ c ∈ CL, px_ko c
def r_ho (M : eg_M) : Prop := (eg_cn (eg_gi M 46 0) 6 ∧ eg_gi M 121 52 = eg_gi M 46 0) ∧ (eg_cn (eg_gi M 46 5) 8 ∧ eg_gi M 121 53 = eg_gi M 46 5) ∧ (∀ h, h < (eg_gi M 46 0).toNatClampNeg → eg_gi M 155 h = eg_gi M 47 h ∧ eg_gi M 156 h = eg_gi M 48 h ∧ eg_gi M 162 h = eg_gi M 49 h ∧ eg_gi M 157 h = eg_gi M 50 h ∧ vp_in (eg_gi M 47 h) 5 ∧ vp_in (eg_gi M 48 h) 256 ∧ vp_in (eg_gi M 50 h) 100) ∧ ∀ g, g < (eg_gi M 46 5).toNatClampNeg → eg_gi M 158 g = eg_gi M 51 g ∧ eg_gi M 159 g = eg_gi M 52 g ∧ eg_gi M 163 g = eg_gi M 53 g ∧ vp_in (eg_gi M 51 g) 256 ∧ vp_in (eg_gi M 52 g) 100
def r_lo (M : eg_M) : Prop := eg_gi M 121 54 = eg_gi M 46 9 ∧ (eg_gi M 46 9 = -nI 1 ∨ (eg_cn (eg_gi M 46 9) 8 ∧ (eg_gl M 121 55).toInt32 = eg_gi M 46 10 ∧ ∀ g, g < (eg_gi M 46 9).toNatClampNeg → eg_gi M 160 g = eg_gi M 54 g))
def r_pl (M : eg_M) : Prop := eg_cn (eg_gi M 72 0) 6 ∧ eg_gi M 121 65 = eg_gi M 72 0 ∧ ∀ p, p < (eg_gi M 72 0).toNatClampNeg → vp_in (eg_gi M 164 p) (eg_gi M 7 4).toNatClampNeg ∧ eg_gi M 73 p = (nI 1 <<< (eg_gi M 8 (eg_gi M 164 p).toNatClampNeg &&& 31)) ||| (nI 1 <<< (eg_gi M 9 (eg_gi M 164 p).toNatClampNeg &&& 31)) ∧ eg_gi M 165 p = eg_gi M 74 p ∧ vp_in (eg_gi M 74 p) 31 ∧ eg_gi M 166 p = eg_gi M 75 p ∧ eg_cn (eg_gi M 75 p) 4 ∧ ∀ i, i < (eg_gi M 75 p).toNatClampNeg → eg_gi M 167 (4 * p + i) = eg_gi M 76 (p * 4 + i) ∧ eg_cn (eg_gi M 76 (p * 4 + i)) 3599
def r_pn (M : eg_M) : Prop := eg_gi M 121 66 = eg_gi M 72 5 ∧ (eg_gi M 72 5 = -nI 1 ∨ (eg_cn (eg_gi M 72 5) 6 ∧ eg_gi M 121 67 = eg_gi M 72 6 ∧ ∀ p, p < (eg_gi M 72 5).toNatClampNeg → eg_gi M 168 p = eg_gi M 77 p))
def r_wi (M : eg_M) : Prop := ∀ t, t < 16 → eg_cn (eg_gi M 98 t) 6 ∧ eg_gi M 170 t = eg_gi M 98 t ∧ ((eg_gi M 2 4).toNatClampNeg ≤ t → eg_gi M 98 t = nI 0) ∧ (∀ i, i < (eg_gi M 98 t).toNatClampNeg → eg_gi M 171 (6 * t + i) = eg_gi M (81 + 1 + t) i ∧ vp_in (eg_gi M (81 + 1 + t) i) (eg_gi M 2 4).toNatClampNeg ∧ ¬ eg_gi M (81 + 1 + t) i = nI t ∧ ∀ j, j < i → ¬ eg_gi M (81 + 1 + t) j = eg_gi M (81 + 1 + t) i) ∧ ∀ w, w < 16 → eg_gi M (99 + 1 + t) w = fnd (eg_gi M (81 + 1 + t)) (nI w) 0 (eg_gi M 98 t).toNatClampNeg
def r_fr (M : eg_M) : Prop := ∀ t, t < 16 → eg_gi M 116 t = if eg_gi M 121 83 = 0 then -nI 1 else eg_gi M 174 t
/-- class and model stand alike -/
def r_A (M : eg_M) : Prop := k_I M ∧ r_tw M ∧ r_ch M ∧ r_ev M ∧ r_tp M ∧ r_tx M ∧ r_ho M ∧ r_lo M ∧ r_pl M ∧ r_pn M ∧ r_wi M ∧ r_fr M

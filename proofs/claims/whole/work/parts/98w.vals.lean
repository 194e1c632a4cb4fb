/-! VALUES OF A RULE: class and model -/
section VR
variable (M : eg_M) (c d x : Int32) (m e i : Nat)
theorem vr_3 : m_vr M c d m 3 = (ab (eg_gi M 123 (eg_gi M 127 (nI 2 * c).toNatClampNeg).toNatClampNeg) (eg_gi M 123 (eg_gi M 127 (nI 2 * c + nI 1).toNatClampNeg).toNatClampNeg) + ab (eg_gi M 124 (eg_gi M 127 (nI 2 * c).toNatClampNeg).toNatClampNeg) (eg_gi M 124 (eg_gi M 127 (nI 2 * c + nI 1).toNatClampNeg).toNatClampNeg)).toInt64 := by unfold m_vr; rw [if_neg (by decide), if_pos rfl]
theorem vr_4 : m_vr M c d m 4 = (eg_gi M 125 (eg_gi M 127 (nI 2 * c).toNatClampNeg).toNatClampNeg + eg_gi M 125 (eg_gi M 127 (nI 2 * c + nI 1).toNatClampNeg).toNatClampNeg).toInt64 := by unfold m_vr; rw [if_neg (by decide), if_neg (by decide), if_pos rfl]
theorem vr_5 : m_vr M c d m 5 = (m_cm (eg_gi M 126 (eg_gi M 127 (nI 2 * c).toNatClampNeg).toNatClampNeg &&& eg_gi M 126 (eg_gi M 127 (nI 2 * c + nI 1).toNatClampNeg).toNatClampNeg) 8).toInt64 := by unfold m_vr; rw [if_neg (by decide), if_neg (by decide), if_neg (by decide), if_pos rfl]
theorem vr_6 : m_vr M c d m 6 = ((m_ts M c m).2.2).toInt64 := by unfold m_vr; rw [if_neg (by decide), if_neg (by decide), if_neg (by decide), if_neg (by decide), if_pos rfl]
theorem vr_7 : m_vr M c d m 7 = (d - (m_ts M c m).1).toInt64 := by unfold m_vr; rw [if_neg (by decide), if_neg (by decide), if_neg (by decide), if_neg (by decide), if_neg (by decide), if_pos rfl]
theorem vr_8 : m_vr M c d m 8 = (d - eg_gi M 128 c.toNatClampNeg).toInt64 := by unfold m_vr; rw [if_neg (by decide), if_neg (by decide), if_neg (by decide), if_neg (by decide), if_neg (by decide), if_neg (by decide), if_pos rfl]
theorem vr_9 : m_vr M c d m 9 = ((m_ts M c m).2.1).toInt64 := by unfold m_vr; rw [if_neg (by decide), if_neg (by decide), if_neg (by decide), if_neg (by decide), if_neg (by decide), if_neg (by decide), if_neg (by decide), if_pos rfl]
theorem vr_10 : m_vr M c d m 10 = (d / nI 360).toInt64 := by unfold m_vr; rw [if_neg (by decide), if_neg (by decide), if_neg (by decide), if_neg (by decide), if_neg (by decide), if_neg (by decide), if_neg (by decide), if_neg (by decide), if_pos rfl]
theorem vr_0 {j : Nat} (hj : j < 3) : m_vr M c d m j = lN 0 := by unfold m_vr; rw [if_pos hj]
theorem ks_3 : k_sv M c d x (fun _ => lN 0) 3 = (ab (eg_gi M 3 (eg_gi M 8 c.toNatClampNeg).toNatClampNeg) (eg_gi M 3 (eg_gi M 9 c.toNatClampNeg).toNatClampNeg) + ab (eg_gi M 4 (eg_gi M 8 c.toNatClampNeg).toNatClampNeg) (eg_gi M 4 (eg_gi M 9 c.toNatClampNeg).toNatClampNeg)).toInt64 := by unfold k_sv; rw [if_pos rfl]
theorem ks_5 : k_sv M c d x (fun _ => lN 0) 5 = (bc (eg_gi M 6 (eg_gi M 8 c.toNatClampNeg).toNatClampNeg &&& eg_gi M 6 (eg_gi M 9 c.toNatClampNeg).toNatClampNeg)).toInt64 := by unfold k_sv; rw [if_neg (by decide), if_pos rfl]
theorem ks_7 : k_sv M c d x (fun _ => lN 0) 7 = (d - if x = -nI 1 then eg_gi M 10 c.toNatClampNeg else eg_gi M 19 x.toNatClampNeg).toInt64 := by unfold k_sv; rw [if_neg (by decide), if_neg (by decide), if_pos rfl]
theorem ks_8 : k_sv M c d x (fun _ => lN 0) 8 = (d - eg_gi M 10 c.toNatClampNeg).toInt64 := by unfold k_sv; rw [if_neg (by decide), if_neg (by decide), if_neg (by decide), if_pos rfl]
theorem ks_9 : k_sv M c d x (fun _ => lN 0) 9 = (if x = -nI 1 then nI 0 else eg_gi M 37 x.toNatClampNeg + nI 1).toInt64 := by unfold k_sv; rw [if_neg (by decide), if_neg (by decide), if_neg (by decide), if_neg (by decide), if_pos rfl]
theorem ks_10 : k_sv M c d x (fun _ => lN 0) 10 = (d / nI 360).toInt64 := by unfold k_sv; rw [if_neg (by decide), if_neg (by decide), if_neg (by decide), if_neg (by decide), if_neg (by decide), if_pos rfl]
theorem zw_0 {j : Nat} (hj : j < 3) : k_zw M c d x j = lN 0 := by
  unfold k_zw
  rw [if_neg (by omega), if_neg (by omega)]
  rcases (show j = 0 ∨ j = 1 ∨ j = 2 by omega) with rfl | rfl | rfl
  · rw [if_neg (by decide), if_neg (by decide), if_pos rfl]
  · rw [if_neg (by decide), if_pos rfl]
  · rw [if_pos rfl]
theorem zw_4 : k_zw M c d x 4 = (eg_gi M 5 (eg_gi M 8 c.toNatClampNeg).toNatClampNeg + eg_gi M 5 (eg_gi M 9 c.toNatClampNeg).toNatClampNeg).toInt64 := by unfold k_zw; rw [if_neg (by decide), if_pos rfl]
theorem zw_6 : k_zw M c d x 6 = (if x = -nI 1 then nI 0 else nI 1 - eg_gi M 16 x.toNatClampNeg).toInt64 := by unfold k_zw; rw [if_pos rfl]
theorem zw_s {j : Nat} (hj : j = 3 ∨ j = 5 ∨ j = 7 ∨ j = 8 ∨ j = 9 ∨ j = 10) : k_zw M c d x j = k_sv M c d x (fun _ => lN 0) j := by unfold k_zw; rw [if_neg (by omega), if_neg (by omega), if_neg (by omega), if_neg (by omega), if_neg (by omega)]
theorem cw_s {j : Nat} (hj : j = 3 ∨ j = 5 ∨ j = 7 ∨ j = 8 ∨ j = 9 ∨ j = 10) : k_cw M e j = k_sv M (eg_gi M 14 e) (eg_gi M 19 e) (eg_gi M 36 e) (fun _ => lN 0) j := by unfold k_cw; rw [if_neg (by omega), if_neg (by omega), if_neg (by omega), if_neg (by omega), if_neg (by omega)]
theorem cw_0 : k_cw M e 0 = (eg_gi M 15 e).toInt64 := by unfold k_cw; rw [if_neg (by decide), if_neg (by decide), if_neg (by decide), if_neg (by decide), if_pos rfl]
theorem cw_1 : k_cw M e 1 = (eg_gi M 17 e).toInt64 := by unfold k_cw; rw [if_neg (by decide), if_neg (by decide), if_neg (by decide), if_pos rfl]
theorem cw_2 : k_cw M e 2 = (eg_gi M 18 e).toInt64 := by unfold k_cw; rw [if_neg (by decide), if_neg (by decide), if_pos rfl]
theorem cw_4 : k_cw M e 4 = (eg_gi M 5 (if eg_gi M 16 e = 0 then eg_gi M 8 (eg_gi M 14 e).toNatClampNeg else eg_gi M 9 (eg_gi M 14 e).toNatClampNeg).toNatClampNeg).toInt64 := by unfold k_cw; rw [if_neg (by decide), if_pos rfl]
theorem cw_6 : k_cw M e 6 = if (if eg_gi M 36 e = -nI 1 then nI 0 else nI 1 - eg_gi M 16 (eg_gi M 36 e).toNatClampNeg) = eg_gi M 16 e then lN 1 else lN 0 := by unfold k_cw; rw [if_pos rfl]
theorem vv_s {j : Nat} (hj : j = 3 ∨ j = 5 ∨ j = 7 ∨ j = 8 ∨ j = 9 ∨ j = 10) : m_vv M e i j = m_vr M (eg_gi M 131 e) (eg_gi M 136 e) i j := by unfold m_vv; rw [if_neg (by omega), if_neg (by omega), if_neg (by omega), if_neg (by omega), if_neg (by omega)]
theorem vv_0 : m_vv M e i 0 = (eg_gi M 132 e).toInt64 := by unfold m_vv; rw [if_neg (by decide), if_neg (by decide), if_neg (by decide), if_neg (by decide), if_pos rfl]
theorem vv_1 : m_vv M e i 1 = (eg_gi M 134 e).toInt64 := by unfold m_vv; rw [if_neg (by decide), if_neg (by decide), if_neg (by decide), if_pos rfl]
theorem vv_2 : m_vv M e i 2 = (eg_gi M 135 e).toInt64 := by unfold m_vv; rw [if_neg (by decide), if_neg (by decide), if_pos rfl]
theorem vv_4 : m_vv M e i 4 = (eg_gi M 125 (eg_gi M 127 (nI 2 * eg_gi M 131 e + eg_gi M 133 e).toNatClampNeg).toNatClampNeg).toInt64 := by unfold m_vv; rw [if_neg (by decide), if_pos rfl]
theorem vv_6 : m_vv M e i 6 = if m_vr M (eg_gi M 131 e) (eg_gi M 136 e) i 6 = (eg_gi M 133 e).toInt64 then lN 1 else lN 0 := by unfold m_vv; rw [if_pos rfl]
end VR
section VB
variable {N X : eg_M} {n nC : Nat} {k : Int32} {A : List Nat} {f : Nat → Int32}
theorem ml_c (h : ly N X n nC k) {c : Nat} (hc : c < nC) : ∃ a b, eg_gi N 8 c = nI a ∧ eg_gi N 9 c = nI b ∧ ly_t N X a ∧ ly_t N X b ∧ eg_gi (m_L X A f) 127 (2 * c) = nI a ∧ eg_gi (m_L X A f) 127 (2 * c + 1) = nI b := by
  obtain ⟨c1, c2, _, _, ⟨a, ea, ta⟩, b, eb, tb⟩ := h.2.2.2.2 c hc
  exact ⟨a, b, ea, eb, ta, tb, by rw [mL_o (by decide) (by omega), c1, ea], by rw [mL_o (by decide) (by omega), c2, eb]⟩
/-- the values that have one meaning for visits and for sleep -/
theorem sv_eq (h : ly N X n nC k) {c : Nat} (hc : c < nC) {m : Nat} {d x : Int32} {R : List Nat} (hR : m_ts (m_L X A f) (nI c) m = tsP N c R) (hx : k_chn (eg_gi N 36) (eg_gi N 37) x R) (hR2 : ∀ e ∈ R, e < 200) {j : Nat} (hj : j = 3 ∨ j = 5 ∨ j = 7 ∨ j = 8 ∨ j = 9 ∨ j = 10) : k_sv N (nI c) d x (fun _ => lN 0) j = m_vr (m_L X A f) (nI c) d m j := by
  have hC := h.2.1.2.1
  obtain ⟨a, b, ea, eb, ⟨a0, a1, a2, a3, a4, a5⟩, ⟨b0, b1, b2, b3, b4, b5⟩, q1, q2⟩ := ml_c (A := A) (f := f) h hc
  obtain ⟨_, _, c3, _⟩ := h.2.2.2.2 c hc
  have i1 : (nI 2 * nI c).toNatClampNeg = 2 * c := by rw [n_m, n_c (by omega)]
  have i2 : (nI 2 * nI c + nI 1).toNatClampNeg = 2 * c + 1 := by rw [n_m, n_s, n_c (by omega)]
  have i0 : (nI c).toNatClampNeg = c := n_c (by omega)
  have ia : (nI a).toNatClampNeg = a := n_c (by omega)
  have ib : (nI b).toNatClampNeg = b := n_c (by omega)
  have o : ∀ p j, ¬ p = 151 → ¬ p = 121 → eg_gi (m_L X A f) p j = eg_gi X p j := fun p j h1 h2 => mL_o h1 (fun z => h2 z.1)
  rcases hj with rfl | rfl | rfl | rfl | rfl | rfl
  · have _z := trivial
    rw [vr_3, ks_3, i1, i2, q1, q2, i0, ea, eb, ia, ib, o 123 _ (by decide) (by decide), o 123 _ (by decide) (by decide), o 124 _ (by decide) (by decide), o 124 _ (by decide) (by decide), a1, a2, b1, b2]
  · have _z := trivial
    obtain ⟨v, hv, ev⟩ := tg_and a5 b5
    rw [vr_5, ks_5, i1, i2, q1, q2, i0, ea, eb, ia, ib, o 126 _ (by decide) (by decide), o 126 _ (by decide) (by decide), a4, b4, ev, bc_8 v hv]
  · have _z := trivial
    rw [vr_7, ks_7, hR, i0]
    congr 2
    cases R with
    | nil =>
      rw [if_pos (show x = -nI 1 from hx)]
      rfl
    | cons e R =>
      obtain ⟨rfl, he, _⟩ := hx
      rw [if_neg (nI_m1 (by omega)), n_c (by omega)]
      rfl
  · have _z := trivial
    rw [vr_8, ks_8, i0, o 128 _ (by decide) (by decide), c3]
  · have _z := trivial
    rw [vr_9, ks_9, hR]
    congr 1
    rcases chn_hd hx with ⟨z1, z2⟩ | ⟨z1, z2⟩
    · rw [if_pos z1, z2]
      rfl
    · rw [if_neg (fun y => by rw [y] at z1; exact z1 (Or.inl (by decide))), z2]
      rfl
  · rw [vr_10, ks_10]
theorem zw_eq (h : ly N X n nC k) {c : Nat} (hc : c < nC) {m : Nat} {d x : Int32} {R : List Nat} (hR : m_ts (m_L X A f) (nI c) m = tsP N c R) (hx : k_chn (eg_gi N 36) (eg_gi N 37) x R) (hR2 : ∀ e ∈ R, e < 200) {j : Nat} (hj : j < 11) : k_zw N (nI c) d x j = m_vr (m_L X A f) (nI c) d m j := by
  have hC := h.2.1.2.1
  obtain ⟨a, b, ea, eb, ⟨a0, a1, a2, a3, a4, a5⟩, ⟨b0, b1, b2, b3, b4, b5⟩, q1, q2⟩ := ml_c (A := A) (f := f) h hc
  have i1 : (nI 2 * nI c).toNatClampNeg = 2 * c := by rw [n_m, n_c (by omega)]
  have i2 : (nI 2 * nI c + nI 1).toNatClampNeg = 2 * c + 1 := by rw [n_m, n_s, n_c (by omega)]
  have i0 : (nI c).toNatClampNeg = c := n_c (by omega)
  have ia : (nI a).toNatClampNeg = a := n_c (by omega)
  have ib : (nI b).toNatClampNeg = b := n_c (by omega)
  have o : ∀ p j, ¬ p = 151 → ¬ p = 121 → eg_gi (m_L X A f) p j = eg_gi X p j := fun p j h1 h2 => mL_o h1 (fun z => h2 z.1)
  have sv := fun (hj : j = 3 ∨ j = 5 ∨ j = 7 ∨ j = 8 ∨ j = 9 ∨ j = 10) => sv_eq (A := A) (f := f) h hc (d := d) hR hx hR2 hj
  rcases (show j = 0 ∨ j = 1 ∨ j = 2 ∨ j = 3 ∨ j = 4 ∨ j = 5 ∨ j = 6 ∨ j = 7 ∨ j = 8 ∨ j = 9 ∨ j = 10 by omega) with rfl | rfl | rfl | rfl | rfl | rfl | rfl | rfl | rfl | rfl | rfl
  · rw [vr_0 _ _ _ _ (by decide), zw_0 _ _ _ _ (by decide)]
  · rw [vr_0 _ _ _ _ (by decide), zw_0 _ _ _ _ (by decide)]
  · rw [vr_0 _ _ _ _ (by decide), zw_0 _ _ _ _ (by decide)]
  · rw [zw_s _ _ _ _ (by omega)]; exact sv (by omega)
  · have _z := trivial
    rw [vr_4, zw_4, i1, i2, q1, q2, i0, ea, eb, ia, ib, o 125 _ (by decide) (by decide), o 125 _ (by decide) (by decide), a3, b3]
  · rw [zw_s _ _ _ _ (by omega)]; exact sv (by omega)
  · have _z := trivial
    rw [vr_6, zw_6, hR, k_tn_x hx]
    rfl
  · rw [zw_s _ _ _ _ (by omega)]; exact sv (by omega)
  · rw [zw_s _ _ _ _ (by omega)]; exact sv (by omega)
  · rw [zw_s _ _ _ _ (by omega)]; exact sv (by omega)
  · rw [zw_s _ _ _ _ (by omega)]; exact sv (by omega)
theorem l64_inj {x y : Int32} : x.toInt64 = y.toInt64 ↔ x = y := by
  constructor
  · intro h
    have := congrArg Int64.toInt h
    rw [Int32.toInt_toInt64, Int32.toInt_toInt64] at this
    exact Int32.toInt_inj.mp this
  · intro h
    rw [h]
theorem l64_32 (x : Int32) : x.toInt64.toInt32 = x := by
  simp
theorem cw_eq (h : ly N X n nC k) {e : Nat} (he : e < n) (hk : eg_gi N 13 e = nI 1) {c : Nat} (hc : c < nC) (ec : eg_gi N 14 e = nI c) {i : Nat} {R : List Nat} (hR : m_ts (m_L X A f) (nI c) i = tsP N c R) (hx : k_chn (eg_gi N 36) (eg_gi N 37) (eg_gi N 36 e) R) (hR2 : ∀ e ∈ R, e < 200) {j : Nat} (hj : j < 11) : k_cw N e j = m_vv (m_L X A f) e i j := by
  have hC := h.2.1.2.1
  obtain ⟨a, b, ea, eb, ⟨a0, a1, a2, a3, a4, a5⟩, ⟨b0, b1, b2, b3, b4, b5⟩, q1, q2⟩ := ml_c (A := A) (f := f) h hc
  obtain ⟨⟨e1, e2, e3, e4, e5, e6, e7, e8⟩, _, _, _, hsd, _⟩ := h.2.2.2.1 e he
  have hs2 := hsd (by rw [hk]; decide)
  have i0 : (nI c).toNatClampNeg = c := n_c (by omega)
  have ia : (nI a).toNatClampNeg = a := n_c (by omega)
  have ib : (nI b).toNatClampNeg = b := n_c (by omega)
  have o : ∀ p j, ¬ p = 151 → ¬ p = 121 → eg_gi (m_L X A f) p j = eg_gi X p j := fun p j h1 h2 => mL_o h1 (fun z => h2 z.1)
  have o1 : eg_gi (m_L X A f) 131 e = nI c := (o 131 e (by decide) (by decide)).trans (e2.trans ec)
  have o6 : eg_gi (m_L X A f) 136 e = eg_gi N 19 e := (o 136 e (by decide) (by decide)).trans e7
  have sv := fun (hj : j = 3 ∨ j = 5 ∨ j = 7 ∨ j = 8 ∨ j = 9 ∨ j = 10) => sv_eq (A := A) (f := f) h hc (d := eg_gi N 19 e) hR hx hR2 hj
  have cs : (j = 3 ∨ j = 5 ∨ j = 7 ∨ j = 8 ∨ j = 9 ∨ j = 10) → k_cw N e j = m_vv (m_L X A f) e i j := fun hj => by
    rw [cw_s _ _ hj, vv_s _ _ _ hj, o1, o6, ec]
    exact sv hj
  rcases (show j = 0 ∨ j = 1 ∨ j = 2 ∨ j = 3 ∨ j = 4 ∨ j = 5 ∨ j = 6 ∨ j = 7 ∨ j = 8 ∨ j = 9 ∨ j = 10 by omega) with rfl | rfl | rfl | rfl | rfl | rfl | rfl | rfl | rfl | rfl | rfl
  · rw [cw_0, vv_0, o 132 e (by decide) (by decide), e3]
  · rw [cw_1, vv_1, o 134 e (by decide) (by decide), e5]
  · rw [cw_2, vv_2, o 135 e (by decide) (by decide), e6]
  · exact cs (by omega)
  · rw [vv_4, cw_4, o1, o 133 e (by decide) (by decide), e4, ec, i0]
    obtain ⟨s, hs, es⟩ := vp_in_of hs2 (by decide)
    rw [es]
    rcases (show s = 0 ∨ s = 1 by omega) with rfl | rfl
    · rw [if_pos (show nI 0 = (0 : Int32) from rfl), n_m, n_s, n_c (by omega), Nat.add_zero, q1, ea, ia, o 125 a (by decide) (by decide), a3]
    · rw [if_neg (by decide), n_m, n_s, n_c (by omega), q2, eb, ib, o 125 b (by decide) (by decide), b3]
  · exact cs (by omega)
  · have _z := trivial
    have x3 : m_vr (m_L X A f) (nI c) (eg_gi N 19 e) i 6 = (k_tn N R).toInt64 := by
      rw [vr_6, hR]
      rfl
    rw [vv_6, cw_6, o1, o6, x3, o 133 e (by decide) (by decide), e4, k_tn_x hx]
    by_cases q : k_tn N R = eg_gi N 16 e
    · rw [if_pos q, if_pos (l64_inj.mpr q)]
    · rw [if_neg q, if_neg (fun z => q (l64_inj.mp z))]
  · exact cs (by omega)
  · exact cs (by omega)
  · exact cs (by omega)
  · exact cs (by omega)
end VB

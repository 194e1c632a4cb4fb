/-! CLAIMS AND GRANTS: class and model -/
theorem chn_tl {fp fa : Nat → Int32} {e : Nat} {R : List Nat} : ∀ {B : List Nat} {x : Int32}, k_chn fp fa x (B ++ e :: R) → k_chn fp fa (fp e) R
  | [], _, h => h.2.2.1
  | _ :: _, _, h => chn_tl h.2.2.1
/-- shares along a row of places, or along its own numbers -/
theorem rg_F (F : List Nat) : (List.range F.length).map (fun t => F.getD t 0) = F := by
  refine List.ext_getElem (by rw [List.length_map, List.length_range]) (fun i h1 h2 => ?_)
  rw [List.getElem_map, List.getElem_range, gD h2]
theorem g_sum_F (c : Nat → Nat) (F : List Nat) : g_sum c F = g_sum (fun t => c (F.getD t 0)) (List.range F.length) := by
  unfold g_sum
  conv => lhs; rw [← rg_F F]
  rw [List.map_map]
  rfl
theorem g_rk_F (o : Nat → Nat) {F : List Nat} (hF : F.Pairwise (· < ·)) {t : Nat} (ht : t < F.length) : g_rk o F F[t] = g_rk (fun t => o (F.getD t 0)) (List.range F.length) t := by
  unfold g_rk
  conv => lhs; arg 2; rw [← rg_F F]
  rw [List.countP_map]
  refine List.countP_congr (fun s hs => ?_)
  have hs := List.mem_range.mp hs
  have hm : F[s] < F[t] ↔ s < t := by
    constructor
    · intro z
      rcases Nat.lt_trichotomy s t with y | y | y
      · exact y
      · subst y
        omega
      · have := List.pairwise_iff_getElem.mp hF t s ht hs y
        omega
    · exact List.pairwise_iff_getElem.mp hF s t hs ht
  simp only [Function.comp, gD hs, gD ht, hm]
theorem g_gr_F (P : Nat) (c : Nat → Nat) {F : List Nat} (hF : F.Pairwise (· < ·)) {t : Nat} (ht : t < F.length) : g_gr P c F F[t] = g_gr P (fun t => c (F.getD t 0)) (List.range F.length) t := by
  unfold g_gr
  have e1 := g_sum_F c F
  have e2 : ∀ S, g_rk (g_ov P S c) F F[t] = g_rk (g_ov P S (fun t => c (F.getD t 0))) (List.range F.length) t := fun S => (g_rk_F (g_ov P S c) hF ht).trans rfl
  have e3 : ∀ S, g_lf P S c F = g_lf P S (fun t => c (F.getD t 0)) (List.range F.length) := fun S => by
    unfold g_lf
    rw [g_sum_F (g_bs P S c) F]
    rfl
  have e4 : ∀ S, g_bs P S c F[t] = g_bs P S (fun t => c (F.getD t 0)) t := fun S => by
    show P * c F[t] / S = P * c (F.getD t 0) / S
    rw [gD ht]
  have e5 : c F[t] = (fun t => c (F.getD t 0)) t := by
    show c F[t] = c (F.getD t 0)
    rw [gD ht]
  rw [e1, e2, e3, e4, e5]
theorem fm_map (L : List Nat) (Pr : Nat → Bool) : ((List.range L.length).filter (fun i => Pr (L.getD i 0))).map (fun i => L.getD i 0) = L.filter Pr := by
  conv => rhs; rw [← rg_F L]
  rw [List.filter_map]
  rfl
section GR
variable {N X : eg_M} {n nC : Nat} {k : Int32} {A L : List Nat} {f : Nat → Int32}
def vy (N : eg_M) (y : Int32) (e : Nat) : Bool := decide (eg_gi N 13 e = nI 1 ∧ eg_gi N 19 e / nI 360 = y)
theorem vl_eq (h : ly N X n nC k) (hW : k_W N L) (hl : k_lkd N L) (y : Int32) : k_vl N y = (L.filter (k_ct N)).filter (vy N y) := by
  obtain ⟨hn1, _⟩ := ly_n h
  have hn200 := h.1.2.1
  obtain ⟨w1, w2, w3, w4⟩ := hW
  rw [hn1] at w3
  have hlt : ∀ e ∈ L, e < n := fun e he => (w3.2.2 e).mp he
  have e22 : ∀ i, i < L.length → (eg_gi N 22 i).toNatClampNeg = L.getD i 0 := fun i hi => by
    rw [w2 i hi, gD hi, n_c (by have := hlt _ (List.getElem_mem hi); omega)]
  unfold k_vl
  rw [hn1, ← w3.1, List.filter_filter, ← fm_map L (fun e => vy N y e && k_ct N e)]
  have e1 : (List.range L.length).filter (k_vy N y) = (List.range L.length).filter (fun i => vy N y (L.getD i 0) && k_ct N (L.getD i 0)) := by
    refine List.filter_congr (fun i hi => ?_)
    have hi := List.mem_range.mp hi
    have hlti := hlt _ (List.getElem_mem hi)
    unfold k_vy vy
    rw [e22 i hi, gD hi, hl.2.2.1 L[i] (by rw [hn1]; exact hlti)]
    cases hct : k_ct N L[i] with
    | true => simp [show ¬ b2i true = 0 by decide]
    | false => simp [show b2i false = 0 by decide]
  rw [e1]
  refine List.map_congr_left (fun i hi => ?_)
  exact e22 i (List.mem_range.mp (List.mem_filter.mp hi).1)
/-- a claim: the class's and the model's -/
theorem cl_eq (h : ly N X n nC k) (hty : ty N X) (hW : k_W N L) (hl : k_lkd N L) {CM : List px_K} (hko : ∀ c ∈ CM, px_ko c) (hr : m_rr X (m_ra X k (eg_gi X 121 35).toNatClampNeg) CM) (hA : m_lay X k n A) (eA : A = L.filter (k_ct N)) (hf : isL f A) {i : Nat} (hi : i < A.length) (hk1 : eg_gi N 13 A[i] = nI 1) : ∃ v, v < 2 ^ 60 ∧ m_clm (m_L X A f) CM i = lN v ∧ k_cl N (px_tx CM) A[i] = v := by
  obtain ⟨hn1, hn2⟩ := ly_n h
  have hn200 := h.1.2.1
  have hC := h.2.1.2.1
  have hAn : ∀ e ∈ A, e < n := fun e he => ((hA.2.2 e).mp he).1
  have hin := hAn _ (List.getElem_mem hi)
  obtain ⟨c, hc, ec, ec2⟩ := ly_ch h hin
  have h200 : ∀ e ∈ A, e < 200 := fun e he => by have := hAn e he; omega
  obtain ⟨_, m2⟩ := mL_i (X := X) hf hi h200
  have ts := ts_eq h hf hAn hc i (by omega)
  have ch := (hl.2.2.2 c (by omega)).1
  rw [cL_vis, ← eA] at ch
  have sp : A.filter (vis N c) = (A.take i).filter (vis N c) ++ A[i] :: (A.drop (i + 1)).filter (vis N c) := by
    conv => lhs; rw [← List.take_append_drop i A, List.drop_eq_getElem_cons hi]
    rw [List.filter_append, List.filter_cons_of_pos (show vis N c A[i] = true from decide_eq_true ⟨ec, hk1⟩)]
  rw [sp, List.reverse_append, List.reverse_cons, List.append_assoc] at ch
  have hx := chn_tl ch
  have cw : ∀ j, j < 11 → k_cw N A[i] j = m_vv (m_L X A f) A[i] i j := fun j hj => cw_eq h hin hk1 hc ec ts hx (fun e he => by
    have := h200 e (List.mem_of_mem_take (List.mem_filter.mp (List.mem_reverse.mp he)).1)
    exact this) hj
  obtain ⟨v, hv, ev⟩ := p_cla_v (m_vv (m_L X A f) A[i] i) CM
  have hl12 := (m_rr_ok hr).2
  have hv2 : v < 2 ^ 60 := by
    have : CM.length * 999999 ≤ 12 * 999999 := Nat.mul_le_mul_right _ hl12
    omega
  refine ⟨v, hv2, ?_, ?_⟩
  · unfold m_clm
    rw [m2, mL_o (by decide) (by omega), (h.2.2.2.1 _ hin).1.1, if_pos hk1, ev]
  · unfold k_cl
    rw [p_cla_cs _ _ hko, p_cla_of cw (m_rr_ok hr).1, ev, lnat_lN (by omega)]
/-- a grant: the class's and the model's -/
theorem gr_eq (h : ly N X n nC k) (hty : ty N X) (hW : k_W N L) (hl : k_lkd N L) {CM : List px_K} (hko : ∀ c ∈ CM, px_ko c) (hr : m_rr X (m_ra X k (eg_gi X 121 35).toNatClampNeg) CM) (hA : m_lay X k n A) (eA : A = L.filter (k_ct N)) (hf : isL f A) {cl : Nat → Int64} (hcl : ∀ i, i < A.length → cl i = m_clm (m_L X A f) CM i) (P : Nat) {i : Nat} (hi : i < A.length) (hk1 : eg_gi N 13 A[i] = nI 1) : g_gr P (fun j => lnat (cl j)) (m_yr (m_L X A f) (eg_gi X 136 A[i] / nI 360)) i = k_ge N P (px_tx CM) A[i] := by
  obtain ⟨hn1, hn2⟩ := ly_n h
  have hn200 := h.1.2.1
  have hAn : ∀ e ∈ A, e < n := fun e he => ((hA.2.2 e).mp he).1
  have hin := hAn _ (List.getElem_mem hi)
  have h200 : ∀ e ∈ A, e < 200 := fun e he => by have := hAn e he; omega
  have e36 : eg_gi X 136 A[i] = eg_gi N 19 A[i] := (h.2.2.2.1 _ hin).1.2.2.2.2.2.2.1
  have eY : m_yr (m_L X A f) (eg_gi N 19 A[i] / nI 360) = (List.range A.length).filter (fun j => vy N (eg_gi N 19 A[i] / nI 360) (A.getD j 0)) := by
    unfold m_yr
    have e47 : (eg_gi (m_L X A f) 121 47).toNatClampNeg = A.length := by
      unfold m_L
      rw [ri_g, if_neg (by decide), si_g, if_pos ⟨rfl, rfl⟩, n_c (by have := hA.1; omega)]
    rw [e47]
    refine List.filter_congr (fun j hj => ?_)
    have hj := List.mem_range.mp hj
    obtain ⟨_, m2⟩ := mL_i (X := X) hf hj h200
    have hjn := hAn _ (List.getElem_mem hj)
    unfold m_of vy
    rw [m2, mL_o (by decide) (by omega), mL_o (by decide) (by omega), (h.2.2.2.1 _ hjn).1.1, (h.2.2.2.1 _ hjn).1.2.2.2.2.2.2.1, gD hj]
  rw [e36, eY]
  have eV := vl_eq h hW hl (eg_gi N 19 A[i] / nI 360)
  rw [← eA, ← fm_map A] at eV
  generalize hF : (List.range A.length).filter (fun j => vy N (eg_gi N 19 A[i] / nI 360) (A.getD j 0)) = F at eV ⊢
  have hFs : F.Pairwise (· < ·) := by
    rw [← hF]
    exact List.Pairwise.filter _ List.pairwise_lt_range
  have hFl : ∀ j ∈ F, j < A.length ∧ eg_gi N 13 (A.getD j 0) = nI 1 := fun j hj => by
    rw [← hF, List.mem_filter, List.mem_range] at hj
    have := hj.2
    unfold vy at this
    exact ⟨hj.1, (decide_eq_true_iff.mp this).1⟩
  have hiF : i ∈ F := by
    rw [← hF, List.mem_filter, List.mem_range]
    refine ⟨hi, ?_⟩
    rw [gD hi]
    exact decide_eq_true ⟨hk1, rfl⟩
  obtain ⟨t, ht, et⟩ := List.mem_iff_getElem.mp hiF
  have hlen : (k_vl N (eg_gi N 19 A[i] / nI 360)).length = F.length := by rw [eV, List.length_map]
  have hVt : ∀ s (hs : s < F.length), (k_vl N (eg_gi N 19 A[i] / nI 360)).getD s 0 = A.getD F[s] 0 := fun s hs => by
    rw [eV, gD (by rw [List.length_map]; exact hs), List.getElem_map]
  have hes : k_es N ∨ True := Or.inr trivial
  have hnd : (k_vl N (eg_gi N 19 A[i] / nI 360)).Nodup := by
    rw [vl_eq h hW hl]
    refine List.Pairwise.filter _ (List.Pairwise.filter _ ?_)
    exact List.Pairwise.imp (fun {a b} z e => by rw [e] at z; exact dlt_as z z) hW.2.2.1.2.1
  have hidx : (k_vl N (eg_gi N 19 A[i] / nI 360)).idxOf A[i] = t := by
    have hlt : t < (k_vl N (eg_gi N 19 A[i] / nI 360)).length := by rw [hlen]; exact ht
    have e1 : (k_vl N (eg_gi N 19 A[i] / nI 360))[t] = A[i] := (gD hlt).symm.trans ((hVt t ht).trans (by rw [et]; exact gD hi))
    have e2 := List.Nodup.idxOf_getElem hnd t hlt
    rw [e1] at e2
    exact e2
  unfold k_ge
  rw [hidx]
  unfold k_gv
  rw [hlen]
  conv => lhs; rw [← et]
  rw [g_gr_F P _ hFs ht]
  refine g_gr_of (fun s hs => ?_) (List.mem_range.mpr ht)
  have hs := List.mem_range.mp hs
  have hj := hFl F[s] (List.getElem_mem hs)
  show lnat (cl (F.getD s 0)) = k_cl N (px_tx CM) ((k_vl N (eg_gi N 19 A[i] / nI 360)).getD s 0)
  rw [hVt s hs, gD hs, hcl _ hj.1]
  have hj2 := hj.2
  rw [gD hj.1] at hj2 ⊢
  obtain ⟨v, hv, v1, v2⟩ := cl_eq h hty hW hl hko hr hA eA hf hj.1 hj2
  rw [v1, v2, lnat_lN (by omega)]
end GR

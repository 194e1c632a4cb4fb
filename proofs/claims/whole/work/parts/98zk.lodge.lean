/-! PAIRS: lodge -/
theorem l32 : ∀ n, n < 1000 → (lN n).toInt32 = nI n := by decide +kernel
theorem l_all_c {B C : Nat → Nat} : ∀ n, (∀ h, h < n → B h = C h) → l_all B n = l_all C n
  | 0, _ => rfl
  | n + 1, h => by
    show l_all B n + B n * 5 ^ n = l_all C n + C n * 5 ^ n
    rw [l_all_c n (fun h' hh => h h' (by omega)), h n (by omega)]
abbrev ps_lx : vf_K := [(55, none), (56, none), (57, none), (58, none), (59, none), (60, none), (61, none), (62, none), (63, none), (64, none), (65, none), (66, none), (67, none), (68, none), (69, none), (70, none), (71, none)]
theorem vf_lx {M X : eg_M} (h : lb_X M X) : vf ps_lx M X := by
  obtain ⟨h1, h2, h3, h4⟩ := h
  refine ⟨h1, fun p k hp => ?_⟩
  have q : p < 55 ∨ 71 < p := by
    refine Classical.byContradiction (fun z => ?_)
    have w : ∀ p, p < 72 → 55 ≤ p → vf_w ps_lx p = true := by decide
    rw [vf_wt (w p (by omega) (by omega))] at hp
    exact Bool.noConfusion hp
  exact ⟨h3 p k q, h4 p k q, by unfold eg_gr; rw [h2]⟩
abbrev ps_lo : vf_K := ps_lx ++ [(54, none), (46, some 9), (46, some 10), (177, none), (121, some 1), (161, none), (160, none), (121, some 54), (121, some 55)]
theorem pr_lodge : pr ag_i [] s_X11_lodge s_X12_lodge [] := by
  intro M hA
  have ho := hA.2.2.2.2.2.2.1
  obtain ⟨⟨⟨H, hH, eH⟩, oH⟩, ⟨⟨G, hG, eG⟩, oG⟩, h3, h4⟩ := ho
  have iH : (eg_gi M 46 0).toNatClampNeg = H := by rw [eH, n_c (by omega)]
  have iG : (eg_gi M 46 5).toNatClampNeg = G := by rw [eG, n_c (by omega)]
  have bed : ∀ h, h < H → ∃ b, b ≤ 4 ∧ eg_gi M 47 h = nI b := fun h hh => by
    obtain ⟨b, hb, eb⟩ := vp_in_of (h3 h (by rw [iH]; exact hh)).2.2.2.2.1 (by decide)
    exact ⟨b, by omega, eb⟩
  refine ⟨⟨⟨H, hH, eH⟩, ⟨G, hG, eG⟩, fun h hh => ?_, fun g h hg hh => lk_b hA.2.2.2.2.2.2.1 hg hh⟩, fun sg X0 hsg w => ?_⟩
  · rw [iH] at hh
    obtain ⟨b, hb, eb⟩ := bed h hh
    exact ⟨b, hb, eb⟩
  obtain ⟨hB, hX0⟩ := hsg
  rw [iH, iG] at hB
  rw [iG]
  have hf0 := vf_lx hX0
  generalize hX : eg_sl (eg_si (eg_si (eg_ri X0 54 (lb_k M sg G)) 46 9 (eg_gi M 46 5)) 46 10 (lb_l M sg G)) 177 0 w = X
  have hfX : vf (ps_lx ++ [(54, none), (46, some 9), (46, some 10), (177, none)]) M X := by
    rw [← hX]
    exact vf_cat hf0 (vf_sl (vf_si (vf_si (vf_ri vf_0 rfl) rfl) rfl) rfl)
  have hXm : ∀ p j, 121 ≤ p → p ≤ 176 → eg_gi X p j = eg_gi M p j := fun p j h1 h2 => by
    rw [← hX, sl_gi, si_g, if_neg (by omega), si_g, if_neg (by omega), ri_g, if_neg (by omega)]
    exact hX0.2.2.1 p j (Or.inr (by omega))
  have x52 : eg_gi X 121 52 = nI H := (hXm 121 52 (by omega) (by omega)).trans (oH.trans eH)
  have x53 : eg_gi X 121 53 = nI G := (hXm 121 53 (by omega) (by omega)).trans (oG.trans eG)
  have j52 : (eg_gi X 121 52).toNatClampNeg = H := by rw [x52, n_c (by omega)]
  have j53 : (eg_gi X 121 53).toNatClampNeg = G := by rw [x53, n_c (by omega)]
  have hLD : m_LD X := by
    refine ⟨⟨H, hH, x52⟩, ⟨G, hG, x53⟩, fun h hh => ?_, fun g hg => ?_⟩
    · rw [j52] at hh
      obtain ⟨b, hb, eb⟩ := bed h hh
      obtain ⟨b1, b2, b3, b4, b5, b6, b7⟩ := h3 h (by rw [iH]; exact hh)
      rw [hXm 155 h (by omega) (by omega), hXm 157 h (by omega) (by omega), b1, b4]
      exact ⟨⟨b, hb, eb⟩, b7⟩
    · rw [j53] at hg
      obtain ⟨b1, b2, b3, b4, b5⟩ := h4 g (by rw [iG]; exact hg)
      rw [hXm 159 g (by omega) (by omega), b2]
      exact b5
  have li : ∀ g h, m_li X (nI g) (nI h) = m_li M (nI g) (nI h) := fun g h => by
    unfold m_li
    rw [hXm 158 _ (by omega) (by omega), hXm 156 _ (by omega) (by omega), hXm 162 _ (by omega) (by omega), hXm 163 _ (by omega) (by omega), hXm 159 _ (by omega) (by omega), hXm 157 _ (by omega) (by omega)]
  have hlk : ∀ g h, g < G → h < H → (k_lk M g h = -nI 1 ∧ m_lk X G H g h = none) ∨ ∃ l, l ≤ 34 ∧ k_lk M g h = nI l ∧ m_lk X G H g h = some l := fun g h hg hh => by
    have e : m_li X (nI g) (nI h) = k_lk M g h := (li g h).trans (li_eq hA.2.2.2.2.2.2.1 (by rw [iG]; exact hg) (by rw [iH]; exact hh))
    unfold m_lk
    rw [if_pos ⟨hg, hh⟩, e]
    rcases lk_b hA.2.2.2.2.2.2.1 (show g < (eg_gi M 46 5).toNatClampNeg by rw [iG]; exact hg) (show h < (eg_gi M 46 0).toNatClampNeg by rw [iH]; exact hh) with z | ⟨l, hl, el⟩
    · exact Or.inl ⟨z, by rw [if_pos z]⟩
    · refine Or.inr ⟨l, hl, el, ?_⟩
      rw [el, if_neg (nI_m1 (by omega)), n_c (by omega)]
  have ha : l_all (fun h => (eg_gi X 155 h).toNatClampNeg) H = l_all (fun h => (eg_gi M 47 h).toNatClampNeg) H := l_all_c H (fun h hh => by
    show (eg_gi X 155 h).toNatClampNeg = (eg_gi M 47 h).toNatClampNeg
    rw [hXm 155 h (by omega) (by omega), (h3 h (by rw [iH]; exact hh)).1])
  obtain ⟨q1, q2, q3, q4⟩ := lodge_eq (lk := m_lk X G H) hH hG (fun h hh => by obtain ⟨b, hb, eb⟩ := bed h hh; rw [eb, n_c (by omega)]; exact hb) hlk hB _ ha
  refine ⟨hLD, fun be ro hro => ?_⟩
  rw [j52, j53] at hro ⊢
  generalize hτ : l_g H (m_lk X G H) G (l_all (fun h => (eg_gi X 155 h).toNatClampNeg) H) = τ at q1 q2 q3 q4 hro
  have s6 : ∀ g, g < G → (sg g = 6 ↔ τ g = H) := fun g hg => by
    obtain ⟨r1, r2, _⟩ := q1 g hg
    rw [r1]
    unfold y_d
    by_cases q : τ g = H
    · rw [if_pos q]
      exact ⟨fun _ => q, fun _ => rfl⟩
    · rw [if_neg q]
      exact ⟨fun z => by omega, fun z => absurd z q⟩
  have sne : ∀ g, g < G → ¬ τ g = H → sg g = τ g := fun g hg q => by
    rw [(q1 g hg).1]
    unfold y_d
    rw [if_neg q]
  have hN : ∀ n, n ≤ G → lb_h sg n = y_N H τ n := by
    intro n
    induction n with
    | zero => intro _; rfl
    | succ n ih =>
      intro hn
      show lb_h sg n + (if sg n = 6 then 0 else 1) = y_N H τ n + (if τ n = H then 0 else 1)
      rw [ih (by omega)]
      by_cases q : τ n = H
      · rw [if_pos q, if_pos ((s6 n (by omega)).mpr q)]
      · rw [if_neg q, if_neg (fun z => q ((s6 n (by omega)).mp z))]
  have hL : ∀ n, n ≤ G → lb_l M sg n = nI (y_L H (m_lk X G H) τ n) := by
    intro n
    induction n with
    | zero => intro _; rfl
    | succ n ih =>
      intro hn
      have e : y_L H (m_lk X G H) τ (n + 1) = y_L H (m_lk X G H) τ n + (if τ n = H then 0 else (m_lk X G H n (τ n)).getD 0) := rfl
      show (if sg n = 6 then lb_l M sg n else lb_l M sg n + k_lk M n (sg n)) = _
      rw [e, ih (by omega)]
      by_cases q : τ n = H
      · rw [if_pos q, if_pos ((s6 n (by omega)).mpr q), Nat.add_zero]
      · obtain ⟨_, r2, r3⟩ := q1 n (by omega)
        obtain ⟨l, hl⟩ := r3 (by omega)
        rw [if_neg q, if_neg (fun z => q ((s6 n (by omega)).mp z)), sne n (by omega) q, hl]
        rcases hlk n (τ n) (by omega) (by omega) with ⟨_, z⟩ | ⟨l', _, z1, z2⟩
        · rw [hl] at z; cases z
        · rw [hl] at z2
          cases z2
          rw [z1, n_s]
          rfl
  have hv1 : l_v H (m_lk X G H) G G (l_all (fun h => (eg_gi X 155 h).toNatClampNeg) H) / 1000 = y_N H τ G := by rw [q2]; omega
  have hv2 : l_v H (m_lk X G H) G G (l_all (fun h => (eg_gi X 155 h).toNatClampNeg) H) % 1000 = y_L H (m_lk X G H) τ G := by rw [q2]; omega
  rw [hv1, hv2]
  have hLG := hL G (Nat.le_refl _)
  generalize y_L H (m_lk X G H) τ G = yL at q2 q3 hLG hv2 ⊢
  have hY : vf ps_lo M (eg_sl (eg_si (eg_ri (eg_ri (eg_si X 121 1 (nI 0)) 161 be) 160 ro) 121 54 (eg_gi X 121 53)) 121 55 (lN yL)) := by
    have := vf_cat hfX (vf_sl (vf_si (vf_ri (vf_ri (vf_si (vf_0 (ps := [(121, some 1), (161, none), (160, none), (121, some 54), (121, some 55)]) (M := X)) rfl) rfl) rfl) rfl) rfl : vf _ X (eg_sl (eg_si (eg_ri (eg_ri (eg_si X 121 1 (nI 0)) 161 be) 160 ro) 121 54 (eg_gi X 121 53)) 121 55 (lN yL)))
    exact vf_mono this (fun p k hp => by
      rw [show ps_lo = (ps_lx ++ [(54, none), (46, some 9), (46, some 10), (177, none)]) ++ [(121, some 1), (161, none), (160, none), (121, some 54), (121, some 55)] from rfl] at hp
      exact hp)
  refine ⟨rA_k hY hA (Or.inl rfl) (Or.inl rfl) (Or.inl rfl) (Or.inl rfl) (Or.inl rfl) (Or.inl rfl) (Or.inl rfl) (Or.inr ?_) (Or.inl rfl) (Or.inl rfl) (Or.inl rfl) (Or.inl rfl), ?_, ag_ok (congrArg nI (hN G (Nat.le_refl _))) (by simp [si_g, ri_g, sl_gi])⟩
  · have c1 : eg_gi (eg_sl (eg_si (eg_ri (eg_ri (eg_si X 121 1 (nI 0)) 161 be) 160 ro) 121 54 (eg_gi X 121 53)) 121 55 (lN yL)) 121 54 = nI G := by simp [si_g, ri_g, sl_gi, x53]
    have g9 : eg_gi X 46 9 = nI G := by
      rw [← hX]
      simp [si_g, ri_g, sl_gi, eG]
    have g10 : eg_gi X 46 10 = lb_l M sg G := by
      rw [← hX]
      simp [si_g, ri_g, sl_gi]
    have g54 : ∀ g, eg_gi X 54 g = lb_k M sg G g := fun g => by
      rw [← hX]
      simp [si_g, ri_g, sl_gi]
    have c2 : eg_gi (eg_sl (eg_si (eg_ri (eg_ri (eg_si X 121 1 (nI 0)) 161 be) 160 ro) 121 54 (eg_gi X 121 53)) 121 55 (lN yL)) 46 9 = nI G := by simp [si_g, ri_g, sl_gi, g9]
    have c3 : eg_gi (eg_sl (eg_si (eg_ri (eg_ri (eg_si X 121 1 (nI 0)) 161 be) 160 ro) 121 54 (eg_gi X 121 53)) 121 55 (lN yL)) 46 10 = nI yL := by
      rw [← hLG, ← g10]
      simp [si_g, ri_g, sl_gi]
    have c4 : eg_gl (eg_sl (eg_si (eg_ri (eg_ri (eg_si X 121 1 (nI 0)) 161 be) 160 ro) 121 54 (eg_gi X 121 53)) 121 55 (lN yL)) 121 55 = lN yL := by rw [sl_g, if_pos ⟨rfl, rfl⟩]
    refine ⟨c1.trans c2.symm, Or.inr ⟨⟨G, hG, c2⟩, by rw [c4, c3]; exact l32 yL (by omega), fun g hg => ?_⟩⟩
    rw [c2, n_c (by omega)] at hg
    have c5 : eg_gi (eg_sl (eg_si (eg_ri (eg_ri (eg_si X 121 1 (nI 0)) 161 be) 160 ro) 121 54 (eg_gi X 121 53)) 121 55 (lN yL)) 160 g = ro g := by simp [si_g, ri_g, sl_gi]
    have c6 : eg_gi (eg_sl (eg_si (eg_ri (eg_ri (eg_si X 121 1 (nI 0)) 161 be) 160 ro) 121 54 (eg_gi X 121 53)) 121 55 (lN yL)) 54 g = lb_k M sg G g := by
      rw [← g54]
      simp [si_g, ri_g, sl_gi]
    rw [c5, c6, hro g hg]
    unfold lb_k
    rw [if_pos hg]
    by_cases q : τ g = H
    · rw [if_pos q, if_pos ((s6 g hg).mpr q)]
    · rw [if_neg q, if_neg (fun z => q ((s6 g hg).mp z)), sne g hg q]
  · rw [sl_g, if_neg (by decide)]
    show eg_gl X 177 0 = w
    rw [← hX]
    rfl

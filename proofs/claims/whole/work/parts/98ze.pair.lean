/-! PAIRS: pair, stables: the class's side -/
section CF
variable {N : eg_M} {F S : List Nat}
theorem wl_eq {P : Nat → Int32} {t : Nat} {x : Int32} (ht : t < 16) (hx : x = -nI 1 ∨ ∃ z, z < 16 ∧ x = nI z) : k_wl (eg_ri N 118 P) (nI t) x = f_wl (g_rh N) P t x := by
  unfold k_wl f_wl
  rcases hx with rfl | ⟨z, hz, rfl⟩
  · simp
  · have pf : ∀ a b, a < 16 → b < 16 → k_pf (eg_ri N 118 P) a b = f_wd (g_rh N) P a b := fun a b ha hb => by
      unfold k_pf f_wd g_rh
      rw [ri_g, if_pos rfl, ri_g, if_neg (by omega), ri_g, if_neg (by omega)]
      exact decide_eq_decide.mpr (or_congr Iff.rfl Int32.not_le)
    rw [n_c (by omega), n_c (by omega), pf t z ht hz, pf z t hz ht, k_aw_ri ht hz]
    rfl
theorem bl_eq {P : Nat → Int32} {t o : Nat} (ht : t < 16) (ho : o < 16) : k_wl (eg_ri N 118 P) (nI t) (nI o) = f_bl (g_rh N) P t o := by
  rw [wl_eq ht (Or.inr ⟨o, ho, rfl⟩)]
  unfold f_wl
  rw [n_c (by omega), decide_eq_true (nI_ne ho), Bool.true_and]
theorem any_rg {L : List Nat} {h : Nat → Bool} {g : Nat → Bool} (e : ∀ i (hi : i < L.length), g i = h L[i]) : (List.range L.length).any g = L.any h := by
  rw [Bool.eq_iff_iff, List.any_eq_true, List.any_eq_true]
  constructor
  · rintro ⟨i, hi, z⟩
    have hi := List.mem_range.mp hi
    exact ⟨L[i], List.getElem_mem hi, by rw [← e i hi]; exact z⟩
  · rintro ⟨x, hx, z⟩
    obtain ⟨i, hi, rfl⟩ := List.mem_iff_getElem.mp hx
    exact ⟨i, List.mem_range.mpr hi, by rw [e i hi]; exact z⟩
theorem any_rg2 {L : List Nat} {n : Nat} (hl : L.length = n) {h : Nat → Bool} {g : Nat → Bool} (e : ∀ i (hi : i < L.length), g i = h L[i]) : (List.range n).any g = L.any h := by
  rw [← hl]
  exact any_rg e
theorem cf_eq (h1 : ∀ i (h : i < F.length), eg_gi N 119 i = nI F[i]) (h2 : ∀ j (h : j < S.length), eg_gi N 120 j = nI S[j]) (h8 : eg_gi N 80 8 = nI F.length) (h9 : eg_gi N 80 9 = nI S.length) (hF : ∀ x ∈ F, x < 16) (hS : ∀ x ∈ S, x < 16) (l6 : F.length ≤ 6) (m6 : S.length ≤ 6) : ∀ (d n : Nat) (P : Nat → Int32), v16 P → n ≤ F.length → F.length < n + d → k_cf N F.length S.length d n P = f_cf (g_rh N) S (F.drop n) (F.take n) P
  | 0, n, P, _, hn, hd => by omega
  | d + 1, n, P, hP, hn, hd => by
    have e : k_cf N F.length S.length (d + 1) n P = if F.length ≤ n then (if k_sA (eg_ri N 118 P) = true then 0 else 1) else
      (if (List.range n).any (k_qr (eg_ri N 118 P) n) = true then 0 else k_cf N F.length S.length d (n + 1) P) + ((List.range S.length).map (fun i => if P (eg_gi N 120 i).toNatClampNeg = -nI 1 ∧ k_aw N (eg_gi N 119 n).toNatClampNeg (eg_gi N 120 i).toNatClampNeg = true then (if (List.range n).any (k_qr (eg_ri N 118 (k_p2 P (eg_gi N 119 n).toNatClampNeg (eg_gi N 120 i).toNatClampNeg)) n) = true then 0 else k_cf N F.length S.length d (n + 1) (k_p2 P (eg_gi N 119 n).toNatClampNeg (eg_gi N 120 i).toNatClampNeg)) else 0)).sum := rfl
    rw [e]
    by_cases q : F.length ≤ n
    · have en : n = F.length := by omega
      rw [if_pos q, en, List.drop_length, List.take_length]
      show _ = if S.any (fun o => decide (P o = -nI 1) && F.any (fun t => f_bl (g_rh N) P t o)) = true then 0 else 1
      have es : k_sA (eg_ri N 118 P) = S.any (fun o => decide (P o = -nI 1) && F.any (fun t => f_bl (g_rh N) P t o)) := by
        unfold k_sA
        rw [show eg_gi (eg_ri N 118 P) 80 9 = nI S.length from h9, show eg_gi (eg_ri N 118 P) 80 8 = nI F.length from h8, n_c (by omega), n_c (by omega)]
        refine any_rg (fun j hj => ?_)
        have s16 := hS _ (List.getElem_mem hj)
        have e1 : (List.range F.length).any (k_sl (eg_ri N 118 P) j) = F.any (fun t => decide (P S[j] = -nI 1) && f_bl (g_rh N) P t S[j]) := by
          refine any_rg (fun i hi => ?_)
          have f16 := hF _ (List.getElem_mem hi)
          unfold k_sl
          rw [show eg_gi (eg_ri N 118 P) 120 j = nI S[j] from h2 j hj, show eg_gi (eg_ri N 118 P) 119 i = nI F[i] from h1 i hi, n_c (by omega), ri_g, if_pos rfl, bl_eq f16 s16]
        rw [e1]
        cases decide (P S[j] = -nI 1)
        · simp
        · simp
      rw [es]
    · have hn' : n < F.length := by omega
      have f16 := hF _ (List.getElem_mem hn')
      have qr : ∀ P' : Nat → Int32, v16 P' → (List.range n).any (k_qr (eg_ri N 118 P') n) = f_qr (g_rh N) (F.take n) F[n] P' := fun P' hP' => by
        have el : (F.take n).length = n := by rw [List.length_take]; omega
        unfold f_qr
        refine any_rg2 el (fun i hi => ?_)
        have hi' : i < F.length := by omega
        have g16 := hF _ (List.getElem_mem hi')
        rw [List.getElem_take]
        unfold k_qr
        rw [show eg_gi (eg_ri N 118 P') 119 n = nI F[n] from h1 n hn', show eg_gi (eg_ri N 118 P') 119 i = nI F[i] from h1 i hi', n_c (by omega), n_c (by omega), ri_g, if_pos rfl, ri_g, if_pos rfl, wl_eq f16 (hP' _ g16), wl_eq g16 (hP' _ f16)]
      rw [if_neg q, List.drop_eq_getElem_cons hn']
      show _ = (if f_qr (g_rh N) (F.take n) F[n] P = true then 0 else f_cf (g_rh N) S (F.drop (n + 1)) (F.take n ++ [F[n]]) P) + (S.map (fun o => if P o = -nI 1 ∧ f_my (g_rh N) F[n] o = true then (if f_qr (g_rh N) (F.take n) F[n] (f_up P F[n] o) = true then 0 else f_cf (g_rh N) S (F.drop (n + 1)) (F.take n ++ [F[n]]) (f_up P F[n] o)) else 0)).sum
      rw [← List.take_succ_eq_append_getElem hn', qr P hP, cf_eq h1 h2 h8 h9 hF hS l6 m6 d (n + 1) P hP (by omega) (by omega)]
      congr 2
      conv => rhs; arg 2; rw [← rg_F S]
      rw [List.map_map]
      refine List.map_congr_left (fun j hj => ?_)
      have hj := List.mem_range.mp hj
      have s16 := hS _ (List.getElem_mem hj)
      show _ = if P (S.getD j 0) = -nI 1 ∧ f_my (g_rh N) F[n] (S.getD j 0) = true then (if f_qr (g_rh N) (F.take n) F[n] (f_up P F[n] (S.getD j 0)) = true then 0 else f_cf (g_rh N) S (F.drop (n + 1)) (F.take (n + 1)) (f_up P F[n] (S.getD j 0))) else 0
      rw [gD hj, h1 n hn', h2 j hj, n_c (by omega), n_c (by omega)]
      have hup : v16 (f_up P F[n] S[j]) := fun y hy => by
        unfold f_up
        by_cases a : y = S[j]
        · rw [if_pos a]
          exact Or.inr ⟨_, f16, rfl⟩
        · rw [if_neg a]
          by_cases b : y = F[n]
          · rw [if_pos b]
            exact Or.inr ⟨_, s16, rfl⟩
          · rw [if_neg b]
            exact hP y hy
      have e2 : k_p2 P F[n] S[j] = f_up P F[n] S[j] := rfl
      rw [e2, qr _ hup, cf_eq h1 h2 h8 h9 hF hS l6 m6 d (n + 1) _ hup (by omega) (by omega)]
      rfl
end CF
theorem f_cf_cg {ρ : Nat → Nat → Int32} {S : List Nat} (hS : ∀ x ∈ S, x < 16) : ∀ (F D : List Nat) (P p : Nat → Int32), (∀ x ∈ F, x < 16) → (∀ x ∈ D, x < 16) → v16 P → (∀ y, y < 16 → P y = p y) → f_cf ρ S F D P = f_cf ρ S F D p
  | [], D, P, p, _, hD, _, he => by
    have e : S.any (fun o => decide (P o = -nI 1) && D.any (fun t => f_bl ρ P t o)) = S.any (fun o => decide (p o = -nI 1) && D.any (fun t => f_bl ρ p t o)) := by
      rw [Bool.eq_iff_iff, List.any_eq_true, List.any_eq_true]
      have key : ∀ o ∈ S, (decide (P o = -nI 1) && D.any (fun t => f_bl ρ P t o)) = (decide (p o = -nI 1) && D.any (fun t => f_bl ρ p t o)) := fun o ho => by
        rw [he o (hS o ho)]
        congr 1
        rw [Bool.eq_iff_iff, List.any_eq_true, List.any_eq_true]
        constructor
        · rintro ⟨t, ht, z⟩
          exact ⟨t, ht, by rw [← f_bl_of (he t (hD t ht)) (he o (hS o ho))]; exact z⟩
        · rintro ⟨t, ht, z⟩
          exact ⟨t, ht, by rw [f_bl_of (he t (hD t ht)) (he o (hS o ho))]; exact z⟩
      constructor
      · rintro ⟨o, ho, z⟩
        exact ⟨o, ho, by rw [← key o ho]; exact z⟩
      · rintro ⟨o, ho, z⟩
        exact ⟨o, ho, by rw [key o ho]; exact z⟩
    show (if _ = true then 0 else 1) = (if _ = true then 0 else 1)
    rw [e]
  | t :: F, D, P, p, hF, hD, hP, he => by
    have t16 := hF t List.mem_cons_self
    have hD' : ∀ x ∈ D ++ [t], x < 16 := fun x hx => by
      rcases List.mem_append.mp hx with z | z
      · exact hD x z
      · rw [List.mem_singleton.mp z]; exact t16
    have qr : ∀ P p : Nat → Int32, v16 P → (∀ y, y < 16 → P y = p y) → f_qr ρ D t P = f_qr ρ D t p := fun P p hP he => by
      have wl : ∀ a b, a < 16 → b < 16 → f_wl ρ P a (P b) = f_wl ρ p a (p b) := fun a b ha hb => by
        unfold f_wl
        rw [← he b hb]
        rcases hP b hb with z | ⟨z, z1, z2⟩
        · rw [z]
          simp
        · rw [z2, n_c (by omega), f_bl_of (he a ha) (he z z1)]
      unfold f_qr
      rw [Bool.eq_iff_iff, List.any_eq_true, List.any_eq_true]
      constructor
      · rintro ⟨f, hf, z⟩
        exact ⟨f, hf, by rw [← wl t f t16 (hD f hf), ← wl f t (hD f hf) t16]; exact z⟩
      · rintro ⟨f, hf, z⟩
        exact ⟨f, hf, by rw [wl t f t16 (hD f hf), wl f t (hD f hf) t16]; exact z⟩
    show (if f_qr ρ D t P = true then 0 else f_cf ρ S F (D ++ [t]) P) + (S.map (fun o => if P o = -nI 1 ∧ f_my ρ t o = true then (if f_qr ρ D t (f_up P t o) = true then 0 else f_cf ρ S F (D ++ [t]) (f_up P t o)) else 0)).sum = (if f_qr ρ D t p = true then 0 else f_cf ρ S F (D ++ [t]) p) + (S.map (fun o => if p o = -nI 1 ∧ f_my ρ t o = true then (if f_qr ρ D t (f_up p t o) = true then 0 else f_cf ρ S F (D ++ [t]) (f_up p t o)) else 0)).sum
    have hF' : ∀ x ∈ F, x < 16 := fun x hx => hF x (List.mem_cons_of_mem _ hx)
    rw [qr P p hP he, f_cf_cg hS F (D ++ [t]) P p hF' hD' hP he]
    congr 2
    refine List.map_congr_left (fun o ho => ?_)
    have o16 := hS o ho
    have hup : v16 (f_up P t o) := fun y hy => by
      unfold f_up
      by_cases a : y = o
      · rw [if_pos a]
        exact Or.inr ⟨_, t16, rfl⟩
      · rw [if_neg a]
        by_cases b : y = t
        · rw [if_pos b]
          exact Or.inr ⟨_, o16, rfl⟩
        · rw [if_neg b]
          exact hP y hy
    have heu : ∀ y, y < 16 → f_up P t o y = f_up p t o y := fun y hy => by
      unfold f_up
      rw [he y hy]
    rw [he o o16, qr _ _ hup heu, f_cf_cg hS F (D ++ [t]) _ _ hF' hD' hup heu]
/-- both take the same sets -/
theorem sets_iff {M X : eg_M} {a b : Int32} {T : Nat} (hT : T ≤ 16) (eT : eg_gi M 2 4 = nI T) (eX : eg_gi X 121 3 = nI T) : k_as M a b ↔ m_ok2 X a b := by
  rw [k_as_iff hT eT]
  unfold m_ok2 m_msk
  rw [eX, msk_iff hT, msk_iff hT, n_c (by omega)]
  constructor
  · rintro ⟨⟨v, w, hv, hw, e1, e2⟩, h1, h2, h3⟩
    exact ⟨⟨⟨v, hv, e1⟩, ⟨w, hw, e2⟩, h1⟩, h2, h3⟩
  · rintro ⟨⟨⟨v, hv, e1⟩, ⟨w, hw, e2⟩, h1⟩, h2, h3⟩
    exact ⟨⟨v, w, hv, hw, e1, e2⟩, h1, h2, h3⟩
theorem sets_T {M : eg_M} {a b : Int32} {T : Nat} (hT : T ≤ 16) (eT : eg_gi M 2 4 = nI T) (h : k_as M a b) : ones a 16 = ones a T ∧ ones b 16 = ones b T := by
  obtain ⟨⟨v, w, hv, hw, rfl, rfl⟩, _⟩ := (k_as_iff hT eT).mp h
  exact ⟨ones_T hT hv, ones_T hT hw⟩
theorem sets_yl {M X : eg_M} {a b : Int32} {f g : Nat → Int32} {k : Int32} (hT : eg_cn (eg_gi M 2 4) 16) (h : k_as M a b) (hf : isL f (ones a 16)) (hg : isL g (ones b 16)) : yl X (m_ls (eg_si X 121 1 k) (ones a 16).length (ones b 16).length f g) (ones a 16) (ones b 16) ∧ m_ds (m_ls (eg_si X 121 1 k) (ones a 16).length (ones b 16).length f g) (ones a 16).length (ones b 16).length := by
  obtain ⟨l1, l2, dj⟩ := k_as_ok hT h
  refine ⟨⟨fun i hi => ?_, fun j hj => ?_, fun t => ?_, fun t => ?_, fun x hx => (ones_lt hx).1, fun x hx => (ones_lt hx).1, dj, ones_nd a 16, ones_nd b 16, l1, l2⟩, m_ls_ds (Nat.le_refl 16) h.2.1 hf hg⟩
  · unfold m_ls
    rw [ri_g, if_neg (by decide), ri_g, if_pos rfl]
    exact hf i hi
  · unfold m_ls
    rw [ri_g, if_pos rfl]
    exact hg j hj
  · simp [m_ls, ri_g, si_g]
  · simp [m_ls, ri_g, si_g]
theorem nob_m (g : Nat → Int32) {y : Nat} (h : y < 16) : nob g y = -nI 1 := by
  unfold nob
  rw [if_pos h]
/-- all pairings, from nobody on -/
theorem gp_all {X Y : eg_M} {F S : List Nat} (hY : yl X Y F S) (h : r_wi X) {p : Nat → Int32} (hp : ∀ y, y < 16 → p y = -nI 1) : gp Y F.length S.length 7 0 p = f_gp (g_rh X) S F p ∧ ∀ q ∈ f_gp (g_rh X) S F p, f_ok (g_rh X) F S q ∧ v16 q := by
  obtain ⟨y1, y2, y3, y4, y5, y6, y7, y8, y9, y10, y11⟩ := hY
  have hY' : yl X Y F S := ⟨y1, y2, y3, y4, y5, y6, y7, y8, y9, y10, y11⟩
  refine ⟨by rw [gp_eq hY' h 7 0 p (Nat.zero_le _) (by omega), List.drop_zero], fun q hq => ?_⟩
  have hok : f_ok (g_rh X) F S q := gp_ok y5 y6 y7 F [] p q y8 (fun x hx => hx) (fun u hu => hp u (y5 u hu)) ⟨fun t ht => absurd ht List.not_mem_nil, fun o ho => Or.inl (hp o (y6 o ho))⟩ hq
  refine ⟨hok, ok_v16 hY' hok (fun y hy h1 h2 => ?_)⟩
  rw [gp_keep hq y h1 (fun z => absurd z h2)]
  exact hp y hy
abbrev ps_st : vf_K := [(119, none), (80, some 8), (120, none), (80, some 9), (118, none), (177, none), (121, some 1), (121, some 80), (121, some 81), (121, some 83), (121, some 82), (172, none), (173, none), (174, none), (175, none), (176, none)]
theorem pr_stables (a b : Int32) : pr ag_i [] s_X11_stables s_X12_stables [.int a, .int b] := by
  intro M hA
  have hT := hA.2.1.1
  obtain ⟨T, hT16, eT⟩ := hT
  have e3 : eg_gi M 121 3 = nI T := hA.2.1.2.1.trans eT
  have wi := hA.2.2.2.2.2.2.2.2.2.2.1
  refine ⟨⟨T, hT16, eT⟩, fun v N hN w => ?_⟩
  have pre : ∀ X : eg_M, eg_gi X 121 3 = nI T → (∀ t, eg_gi X 170 t = eg_gi M 170 t) → eg_cn (eg_gi X 121 3) 16 ∧ ∀ t, t < 16 → eg_cn (eg_gi X 170 t) 6 := fun X x1 x2 => ⟨⟨T, hT16, x1⟩, fun t ht => by rw [x2, (wi t ht).2.1]; exact (wi t ht).1⟩
  rcases hN with ⟨z, rfl, rfl⟩ | ⟨z, f, g, hf, hg, rfl, rfl⟩
  · refine ⟨pre _ e3 (fun _ => rfl), fun v' Y hY' => ?_⟩
    rw [← sets_iff hT16 eT (show eg_gi (eg_sl N 177 0 w) 121 3 = nI T from e3)] at hY'
    rcases hY' with ⟨y, rfl, p, q, rfl⟩ | ⟨y, _⟩
    · exact ⟨rA_k (ps := [(177, none), (121, some 1), (121, some 80), (121, some 81)]) (vf_si (vf_si (vf_si (vf_sl vf_0 rfl) rfl) rfl) rfl) hA (Or.inl rfl) (Or.inl rfl) (Or.inl rfl) (Or.inl rfl) (Or.inl rfl) (Or.inl rfl) (Or.inl rfl) (Or.inl rfl) (Or.inl rfl) (Or.inl rfl) (Or.inl rfl) (Or.inl rfl), rfl, ag_ok rfl rfl⟩
    · exact absurd y z
  · have cM : k_cM M a b f g = eg_ri (eg_si (eg_ri (eg_si (eg_ri M 119 f) 80 8 (nI (ones a 16).length)) 120 g) 80 9 (nI (ones b 16).length)) 118 (fun j => if j < 16 then -nI 1 else eg_gi (eg_si (eg_ri (eg_si (eg_ri M 119 f) 80 8 (nI (ones a 16).length)) 120 g) 80 9 (nI (ones b 16).length)) 118 j) := rfl
    have hfN : vf [(119, none), (80, some 8), (120, none), (80, some 9), (118, none)] M (k_cM M a b f g) := by
      rw [cM]
      exact vf_ri (vf_si (vf_ri (vf_si (vf_ri vf_0 rfl) rfl) rfl) rfl) rfl
    have hfX : vf [(119, none), (80, some 8), (120, none), (80, some 9), (118, none), (177, none)] M (eg_sl (k_cM M a b f g) 177 0 w) := by
      rw [cM]
      exact vf_sl (vf_ri (vf_si (vf_ri (vf_si (vf_ri vf_0 rfl) rfl) rfl) rfl) rfl) rfl
    have wiX : r_wi (eg_sl (k_cM M a b f g) 177 0 w) := kp_wi (vf_sm hfX rfl) wi
    have x3 : eg_gi (eg_sl (k_cM M a b f g) 177 0 w) 121 3 = nI T := (hfX.2 121 3 rfl).1.trans e3
    refine ⟨pre _ x3 (fun t => (hfX.2 170 t rfl).1), fun v' Y hY' => ?_⟩
    rw [← sets_iff hT16 eT x3] at hY'
    rcases hY' with ⟨y, _⟩ | ⟨_, f', g', c, r, k, hf', hg', rfl, hr, rfl⟩
    · exact absurd z y
    · obtain ⟨t1, t2⟩ := sets_T hT16 eT z
      rw [x3, n_c (by omega), ← t1] at hf'
      rw [x3, n_c (by omega), ← t2] at hg'
      rw [x3, n_c (by omega), ← t1, ← t2]
      generalize hX : eg_sl (k_cM M a b f g) 177 0 w = X at wiX x3 hf' hg' hr ⊢
      obtain ⟨yY, yD⟩ := sets_yl (X := X) (k := nI 0) (⟨T, hT16, eT⟩ : eg_cn (eg_gi M 2 4) 16) z hf' hg'
      have yY' := yY
      obtain ⟨_, _, _, _, y5, y6, y7, y8, y9, y10, y11⟩ := yY'
      have hval : nI (k_cf (k_cM M a b f g) (ones a 16).length (ones b 16).length 7 0 (eg_gi (k_cM M a b f g) 118)) = (m_all (m_ls (eg_si X 121 1 (nI 0)) (ones a 16).length (ones b 16).length f' g') (ones a 16).length (ones b 16).length (nI 0, eg_gi X 174)).1 := by
        have p0 : ∀ y, y < 16 → eg_gi (k_cM M a b f g) 118 y = -nI 1 := fun y hy => by
          rw [cM, ri_g, if_pos rfl, if_pos hy]
        have rX : g_rh (k_cM M a b f g) = g_rh X := by
          rw [← hX]
          rfl
        rw [cf_eq (N := k_cM M a b f g) (F := ones a 16) (S := ones b 16) (fun i hi => by rw [cM]; simp [ri_g, si_g]; exact hf i hi) (fun j hj => by rw [cM]; simp [ri_g, si_g]; exact hg j hj) (by rw [cM]; simp [ri_g, si_g]) (by rw [cM]; simp [ri_g, si_g]) y5 y6 y10 y11 7 0 _ (fun y hy => Or.inl (p0 y hy)) (Nat.zero_le _) (by omega), List.drop_zero, List.take_zero, rX]
        unfold m_all
        have pm : ∀ y, y < 16 → nob (eg_gi (m_ls (eg_si X 121 1 (nI 0)) (ones a 16).length (ones b 16).length f' g') 175) y = -nI 1 := fun y hy => nob_m _ hy
        obtain ⟨g1, g2⟩ := gp_all yY wiX pm
        rw [f_cf_cg y6 (ones a 16) [] _ _ y5 (fun x hx => absurd hx List.not_mem_nil) (fun y hy => Or.inl (p0 y hy)) (fun y hy => (p0 y hy).trans (pm y hy).symm), g1, g1_cnt yY wiX _ 0 _ (fun q hq => (g2 q hq).2), Nat.zero_add]
        congr 1
        rw [f_cnt y6 (ones a 16) [] _ y8 y7 y5 (fun u hu => pm u (y5 u hu)) ⟨fun t ht => absurd ht List.not_mem_nil, fun o ho => Or.inl (pm o (y6 o ho))⟩ (fun t ht => absurd ht List.not_mem_nil), List.nil_append]
      subst hX
      have hf2 : vf ps_st M (eg_ri (m_pm (eg_sl (k_cM M a b f g) 177 0 w) (nI (ones a 16).length) (nI (ones b 16).length) c (eg_gi (eg_sl (k_cM M a b f g) 177 0 w) 121 83) f' g' r (nob (eg_gi (eg_sl (k_cM M a b f g) 177 0 w) 175))) 176 k) := vf_ri (vf_ri (vf_ri (vf_ri (vf_ri (vf_si (vf_si (vf_si (vf_si (vf_si (vf_sl (vf_ri (vf_si (vf_ri (vf_si (vf_ri vf_0 rfl) rfl) rfl) rfl) rfl) rfl) rfl) rfl) rfl) rfl) rfl) rfl) rfl) rfl) rfl) rfl
      refine ⟨rA_k hf2 hA (Or.inl rfl) (Or.inl rfl) (Or.inl rfl) (Or.inl rfl) (Or.inl rfl) (Or.inl rfl) (Or.inl rfl) (Or.inl rfl) (Or.inl rfl) (Or.inl rfl) (Or.inl rfl) (Or.inr (fun t ht => ?_)), (by rfl), ag_ok hval (by simp [m_pm, ri_g, si_g])⟩
      have c1 : eg_gi (eg_ri (m_pm (eg_sl (k_cM M a b f g) 177 0 w) (nI (ones a 16).length) (nI (ones b 16).length) c (eg_gi (eg_sl (k_cM M a b f g) 177 0 w) 121 83) f' g' r (nob (eg_gi (eg_sl (k_cM M a b f g) 177 0 w) 175))) 176 k) 121 83 = eg_gi M 121 83 := by
        rw [show eg_gi (eg_sl (k_cM M a b f g) 177 0 w) 121 83 = eg_gi M 121 83 from (hfX.2 121 83 rfl).1]
        simp [m_pm, ri_g, si_g]
      have c2 : eg_gi (eg_ri (m_pm (eg_sl (k_cM M a b f g) 177 0 w) (nI (ones a 16).length) (nI (ones b 16).length) c (eg_gi (eg_sl (k_cM M a b f g) 177 0 w) 121 83) f' g' r (nob (eg_gi (eg_sl (k_cM M a b f g) 177 0 w) 175))) 176 k) 174 t = eg_gi M 174 t := by
        have : eg_gi (eg_ri (m_pm (eg_sl (k_cM M a b f g) 177 0 w) (nI (ones a 16).length) (nI (ones b 16).length) c (eg_gi (eg_sl (k_cM M a b f g) 177 0 w) 121 83) f' g' r (nob (eg_gi (eg_sl (k_cM M a b f g) 177 0 w) 175))) 176 k) 174 t = r t := by simp [m_pm, ri_g, si_g]
        rw [this, hr t ht]
        exact (hfX.2 174 t rfl).1
      rw [c1, c2, (hf2.2 116 t rfl).1]
      exact hA.2.2.2.2.2.2.2.2.2.2.2 t ht

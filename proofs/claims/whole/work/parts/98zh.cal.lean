/-! PAIRS: calendar -/
theorem c_all_f {D : Nat → Nat} {dy : Nat → Nat → Nat} {cc : Nat → Nat → Nat → Nat → Bool} {P : Nat} {r : Nat → Int32} : ∀ x, c_all D dy cc P r x = (List.range' 0 x).foldl (c_st D dy cc P) (none, r)
  | 0 => rfl
  | x + 1 => by
    rw [List.range'_1_concat, List.foldl_append, ← c_all_f x, Nat.zero_add]
    rfl
theorem sh_and : ∀ a, a < 16 → ∀ b, b < 16 → (((nI 1 <<< (nI a &&& 31)) &&& (nI 1 <<< (nI b &&& 31)) = 0) ↔ ¬ a = b) := by decide +kernel
theorem tw_and {a b c d : Nat} (ha : a < 16) (hb : b < 16) (hc : c < 16) (hd : d < 16) : ¬ (((nI 1 <<< (nI a &&& 31)) ||| (nI 1 <<< (nI b &&& 31))) &&& ((nI 1 <<< (nI c &&& 31)) ||| (nI 1 <<< (nI d &&& 31))) = 0) ↔ ((c = a ∨ c = b) ∨ (d = a ∨ d = b)) := by
  rw [or_and0, Int32.and_comm, or_and0, Int32.and_comm (nI 1 <<< (nI b &&& 31)), or_and0, sh_and c hc a ha, sh_and d hd a ha, sh_and c hc b hb, sh_and d hd b hb]
  constructor
  · intro h
    refine Classical.byContradiction (fun z => h ?_)
    exact ⟨⟨fun y => z (Or.inl (Or.inl y)), fun y => z (Or.inr (Or.inl y))⟩, fun y => z (Or.inl (Or.inr y)), fun y => z (Or.inr (Or.inr y))⟩
  · rintro h ⟨⟨h1, h2⟩, h3, h4⟩
    rcases h with (y | y) | (y | y)
    · exact h1 y
    · exact h3 y
    · exact h2 y
    · exact h4 y
theorem rf_ne {M : eg_M} {P : Nat} (hP : (eg_gi M 72 0).toNatClampNeg = P) : ∀ (d p : Nat) (t : Int32) (n s : Nat) (L : List Int32), p ≤ P → P < p + d → ¬ k_rf M d p t n s L = []
  | 0, p, t, n, s, L, h1, h2 => by omega
  | d + 1, p, t, n, s, L, h1, h2 => by
    unfold k_rf
    rw [hP]
    by_cases q : P ≤ p
    · rw [if_pos q]
      exact List.cons_ne_nil _ _
    · rw [if_neg q]
      intro z
      exact rf_ne hP d (p + 1) t n s (L ++ [-nI 1]) (by omega) (by omega) (List.append_eq_nil_iff.mp z).2
/-- what the calendar reads: the class's and the model's -/
theorem cc_eq {M X : eg_M} (hA : r_A M) (hX : ∀ p j, 121 ≤ p → p ≤ 176 → eg_gi X p j = eg_gi M p j) {p q i j : Nat} (hp : p < (eg_gi M 72 0).toNatClampNeg) (hq : q < (eg_gi M 72 0).toNatClampNeg) (hi : i < (eg_gi M 75 p).toNatClampNeg) (hj : j < (eg_gi M 75 q).toNatClampNeg) : k_cc M p (eg_gi M 76 (p * 4 + i)) q j ↔ m_cc X p i q j = true := by
  obtain ⟨b1, b2, b3⟩ := hA.2.2.2.2.2.2.2.2.1
  obtain ⟨p1, p2, p3, _, _, _, p7⟩ := b3 p hp
  obtain ⟨q1, q2, q3, _, _, _, q7⟩ := b3 q hq
  obtain ⟨nc, hnc, enc⟩ := hA.1.2.2.2.1
  obtain ⟨nt, hnt, ent⟩ := hA.2.1.1
  rw [enc, n_c (by omega)] at p1 q1
  obtain ⟨c, hc, ec⟩ := vp_in_of p1 (by omega)
  obtain ⟨d, hd, ed⟩ := vp_in_of q1 (by omega)
  obtain ⟨c1, c2, _, _, c5, c6, _⟩ := hA.2.2.1.2.2 c (by rw [enc, n_c (by omega)]; exact hc)
  obtain ⟨d1, d2, _, _, d5, d6, _⟩ := hA.2.2.1.2.2 d (by rw [enc, n_c (by omega)]; exact hd)
  rw [ent, n_c (by omega)] at c5 c6 d5 d6
  obtain ⟨a1, ha1, ea1⟩ := vp_in_of c5 (by omega)
  obtain ⟨a2, ha2, ea2⟩ := vp_in_of c6 (by omega)
  obtain ⟨e1, he1, ee1⟩ := vp_in_of d5 (by omega)
  obtain ⟨e2, he2, ee2⟩ := vp_in_of d6 (by omega)
  have pt : ∀ (r x y z : Nat), eg_gi M 164 r = nI x → x < 24 → eg_gi M 127 (2 * x) = nI y → eg_gi M 127 (2 * x + 1) = nI z → m_pt X r 0 = nI y ∧ m_pt X r 1 = nI z := fun r x y z h1 h2 h3 h4 => by
    unfold m_pt
    rw [hX 164 r (by omega) (by omega), h1, n_m, n_s, n_s, n_c (by omega), n_c (by omega), hX 127 _ (by omega) (by omega), hX 127 _ (by omega) (by omega), Nat.add_zero]
    exact ⟨h3, h4⟩
  obtain ⟨P0, P1⟩ := pt p c a1 a2 ec (by omega) (c1.trans ea1) (c2.trans ea2)
  obtain ⟨Q0, Q1⟩ := pt q d e1 e2 ed (by omega) (d1.trans ee1) (d2.trans ee2)
  have ic : (nI c).toNatClampNeg = c := n_c (by omega)
  have id' : (nI d).toNatClampNeg = d := n_c (by omega)
  unfold k_cc m_cc
  rw [decide_eq_true_iff, hX 167 _ (by omega) (by omega), hX 165 _ (by omega) (by omega), hX 167 _ (by omega) (by omega), hX 165 _ (by omega) (by omega), p3, q3, (p7 i hi).1, (q7 j hj).1, p2, q2, ec, ed, ic, id', ea1, ea2, ee1, ee2, tw_and (by omega) (by omega) (by omega) (by omega)]
  refine and_congr ?_ Iff.rfl
  rw [b2i_n0, Bool.or_eq_true]
  unfold m_h2
  rw [P0, P1, Q0, Q1, Bool.or_eq_true, Bool.or_eq_true, decide_eq_true_iff, decide_eq_true_iff, decide_eq_true_iff, decide_eq_true_iff, n_eq (by omega) (by omega), n_eq (by omega) (by omega), n_eq (by omega) (by omega), n_eq (by omega) (by omega)]
abbrev ps_ca : vf_K := [(78, none), (72, some 5), (79, none), (77, none), (72, some 6), (72, some 10), (177, none)]
abbrev ps_cm : vf_K := ps_ca ++ [(121, some 1), (169, none), (168, none), (121, some 66), (121, some 67)]
theorem pr_calendar : pr ag_i [] s_X11_calendar s_X12_calendar [] := by
  intro M hA
  obtain ⟨b1, b2, b3⟩ := hA.2.2.2.2.2.2.2.2.1
  obtain ⟨P, hP, eP⟩ := b1
  have iP : (eg_gi M 72 0).toNatClampNeg = P := by rw [eP, n_c (by omega)]
  refine ⟨⟨⟨P, hP, eP⟩, fun p hp => ⟨(b3 p hp).2.2.2.2.2.1, fun i hi => ((b3 p hp).2.2.2.2.2.2 i hi).2⟩⟩, fun C Dn K x1 x2 hN w => ?_⟩
  obtain ⟨hcb, hfold⟩ := hN
  generalize hX : eg_sl (kc_m (eg_si (eg_ri M 78 C) 72 5 (eg_gi M 72 0)) Dn K x1 x2) 177 0 w = X
  have hfX : vf ps_ca M X := by
    rw [← hX]
    exact vf_sl (vf_si (vf_si (vf_ri (vf_ri (vf_si (vf_ri vf_0 rfl) rfl) rfl) rfl) rfl) rfl) rfl
  have hXm : ∀ p j, 121 ≤ p → p ≤ 176 → eg_gi X p j = eg_gi M p j := fun p j h1 h2 => by
    rw [← hX, sl_gi, kc_m_g, if_neg (by omega), if_neg (by omega), if_neg (by omega), if_neg (by omega), si_g, if_neg (by omega), ri_g, if_neg (by omega)]
  have e65 : eg_gi X 121 65 = nI P := (hXm 121 65 (by omega) (by omega)).trans (b2.trans eP)
  have i65 : (eg_gi X 121 65).toNatClampNeg = P := by rw [e65, n_c (by omega)]
  have hD : ∀ p, p < P → m_D X p = (eg_gi M 75 p).toNatClampNeg := fun p hp => by
    unfold m_D
    rw [hXm 166 p (by omega) (by omega), (b3 p (by rw [iP]; exact hp)).2.2.2.2.1]
  have hD4 : ∀ p, p < P → m_D X p ≤ 4 := fun p hp => by
    rw [hD p hp]
    obtain ⟨z, hz, ez⟩ := (b3 p (by rw [iP]; exact hp)).2.2.2.2.2.1
    rw [ez, n_c (by omega)]
    exact hz
  have hdy : ∀ p, p < P → ∀ i, i < m_D X p → eg_gi M 76 (p * 4 + i) = nI (m_dy X p i) ∧ m_dy X p i < 3600 := fun p hp i hi => by
    obtain ⟨z1, y, hy, z2⟩ := (b3 p (by rw [iP]; exact hp)).2.2.2.2.2.2 i (by rw [← hD p hp]; exact hi)
    unfold m_dy
    rw [hXm 167 _ (by omega) (by omega), z1, z2, n_c (by omega)]
    exact ⟨rfl, by omega⟩
  have hPL : m_PL X := by
    refine ⟨⟨P, hP, e65⟩, fun p hp => ?_⟩
    rw [i65] at hp
    obtain ⟨f1, f2, f3, f4, f5, ⟨z, hz, ez⟩, f7⟩ := b3 p (by rw [iP]; exact hp)
    obtain ⟨nc, hnc, enc⟩ := hA.1.2.2.2.1
    rw [enc, n_c (by omega)] at f1
    refine ⟨?_, ⟨z, hz, ?_⟩, fun i hi => ?_⟩
    · rw [hXm 164 p (by omega) (by omega)]
      exact in_m hnc f1
    · rw [hXm 166 p (by omega) (by omega), f5]
      exact ez
    · obtain ⟨g1, g2⟩ := hdy p hp i hi
      rw [hXm 167 _ (by omega) (by omega), (f7 i (by rw [← hD p hp]; exact hi)).1, g1]
      exact vp_in_nI g2 (by decide)
  refine ⟨hPL, fun t r ch hall => ?_⟩
  rw [i65] at hall
  have hcl : ∀ p, p < P → ∀ i, i < m_D X p → ∀ q, q < p → ∀ j, j < m_D X q → ((eg_gi (eg_ri M 78 C) 78 (p * 4 + i) &&& (nI 1 <<< (nI (q * 4 + j) &&& 31)) = 0) ↔ m_cc X p i q j = false) := fun p hp i hi q hq j hj => by
    rw [ri_g, if_pos rfl]
    have hi' : i < (eg_gi M 75 p).toNatClampNeg := by rw [← hD p hp]; exact hi
    have hj' : j < (eg_gi M 75 q).toNatClampNeg := by rw [← hD q (by omega)]; exact hj
    have := hcb p (by rw [iP]; exact hp) i hi' q j (by omega) (by have := hD4 q (by omega); omega)
    rw [this, cc_eq hA hXm (by rw [iP]; exact hp) (by rw [iP]; omega) hi' hj']
    constructor
    · intro z
      exact Bool.eq_false_iff.mpr (fun y => z ⟨⟨hq, hj'⟩, y⟩)
    · intro z y
      rw [z] at y
      exact Bool.noConfusion y.2
  have rel := cal_blk (M := eg_ri M 78 C) (D := m_D X) (dy := m_dy X) (cc := m_cc X) (P := P) iP hP (fun p hp => (hD p hp).symm) hD4 hdy hcl P 0 7 0 0 (nI 0) [] (-nI 1, eg_gi M 72 6, (List.range (eg_gi M 72 0).toNatClampNeg).map (eg_gi M 77)) (none, eg_gi X 168) (Nat.le_refl _) (by omega) (Or.inl ⟨rfl, rfl⟩) (fun x _ _ => ⟨by omega, by omega, by rw [Nat.sub_self]; rfl, fun r => ⟨fun _ q hq => absurd hq (by omega), fun _ => by rw [show nI 0 = (0 : Int32) from rfl, Int32.and_zero]⟩, fun q hq => absurd hq (by omega)⟩)
  rw [Nat.sub_self, Nat.zero_mul, ← c_all_f, ← hall, ← hfold, iP] at rel
  have hne : ¬ x1 = -nI 1 := by
    have rne := rf_ne (M := eg_ri M 78 C) (P := P) iP 7 0 (nI 0) 0 0 [] (Nat.zero_le _) (by omega)
    have hb := k_rf_b (M := eg_ri M 78 C) (N := P) iP (fun p hp i hi => by
      obtain ⟨y, hy, z2⟩ := ((b3 p (by rw [iP]; exact hp)).2.2.2.2.2.2 i hi).2
      rw [show eg_gi (eg_ri M 78 C) 76 (p * 4 + i) = nI y from z2, n_c (by omega)]
      exact hy) 7 0 (nI 0) 0 0 []
    cases hR : k_rf (eg_ri M 78 C) 7 0 (nI 0) 0 0 [] with
    | nil => exact absurd hR rne
    | cons r0 R =>
      rw [hR] at hfold hb
      have hb0 : ∀ r ∈ r0 :: R, r.1 < 2 ^ 31 := fun r hr => by
        have := (hb r hr).2.1
        omega
      have e1 : k_bu (-nI 1, eg_gi M 72 6, (List.range (eg_gi M 72 0).toNatClampNeg).map (eg_gi M 77)) r0 = (nI r0.1, nI r0.2.1, r0.2.2) := by
        unfold k_bu
        rw [if_pos (Or.inl (k_ltm1 (hb0 r0 List.mem_cons_self)))]
      rw [List.foldl_cons, e1] at hfold
      have ex : x1 = (R.foldl k_bu (nI r0.1, nI r0.2.1, r0.2.2)).1 := congrArg Prod.fst hfold
      rw [ex]
      rcases k_bu_1 R (nI r0.1, nI r0.2.1, r0.2.2) with z | ⟨r', hr', z⟩
      · rw [z]
        exact nI_m1 (hb0 r0 List.mem_cons_self)
      · rw [z]
        exact nI_m1 (hb0 r' (List.mem_cons_of_mem _ hr'))
  rcases rel with ⟨_, z⟩ | ⟨n, s, r1, r2, r3, r4⟩
  · exact absurd z hne
  · have r3 : t = some (n, s) := r3
    have ex1 : x1 = nI n := congrArg Prod.fst r4
    have ex2 : x2 = nI s := congrArg (fun z => z.2.1) r4
    have exK : ∀ p, p < P → K p = r p := fun p hp => by
      have : (List.range P).map K = (List.range P).map r := congrArg (fun z => z.2.2) r4
      have := congrArg (fun l => l[p]?) this
      simp [hp] at this
      exact this
    have hY : vf ps_cm M (eg_si (eg_si (eg_ri (eg_ri (eg_si X 121 1 (nI 0)) 169 ch) 168 r) 121 66 (eg_gi X 121 65)) 121 67 (c_l t)) := vf_cat hfX (vf_si (vf_si (vf_ri (vf_ri (vf_si vf_0 rfl) rfl) rfl) rfl) rfl)
    have g177 : eg_gl X 177 0 = w := by
      rw [← hX]
      rfl
    have g725 : eg_gi X 72 5 = nI P := by
      rw [← hX, sl_gi, kc_m_g, if_neg (by decide), if_neg (by decide), if_neg (by decide), if_neg (by decide), si_g, if_pos ⟨rfl, rfl⟩, eP]
    have g726 : eg_gi X 72 6 = x2 := by
      rw [← hX, sl_gi, kc_m_g, if_neg (by decide), if_pos ⟨rfl, rfl⟩]
    have g77 : ∀ p, eg_gi X 77 p = K p := fun p => by
      rw [← hX, sl_gi, kc_m_g, if_neg (fun z => absurd z.1 (by decide)), if_neg (fun z => absurd z.1 (by decide)), if_pos rfl]
    refine ⟨rA_k hY hA (Or.inl rfl) (Or.inl rfl) (Or.inl rfl) (Or.inl rfl) (Or.inl rfl) (Or.inl rfl) (Or.inl rfl) (Or.inl rfl) (Or.inl rfl) (Or.inr ?_) (Or.inl rfl) (Or.inl rfl), g177, ag_ok ?_ (by simp [si_g, ri_g])⟩
    · have c1 : eg_gi (eg_si (eg_si (eg_ri (eg_ri (eg_si X 121 1 (nI 0)) 169 ch) 168 r) 121 66 (eg_gi X 121 65)) 121 67 (c_l t)) 72 5 = nI P := by simp [si_g, ri_g, g725]
      have c2 : eg_gi (eg_si (eg_si (eg_ri (eg_ri (eg_si X 121 1 (nI 0)) 169 ch) 168 r) 121 66 (eg_gi X 121 65)) 121 67 (c_l t)) 72 6 = x2 := by simp [si_g, ri_g, g726]
      have c3 : ∀ p, eg_gi (eg_si (eg_si (eg_ri (eg_ri (eg_si X 121 1 (nI 0)) 169 ch) 168 r) 121 66 (eg_gi X 121 65)) 121 67 (c_l t)) 77 p = K p := fun p => by simp [si_g, ri_g, g77]
      have c4 : eg_gi (eg_si (eg_si (eg_ri (eg_ri (eg_si X 121 1 (nI 0)) 169 ch) 168 r) 121 66 (eg_gi X 121 65)) 121 67 (c_l t)) 121 66 = nI P := by simp [si_g, ri_g, e65]
      have c5 : eg_gi (eg_si (eg_si (eg_ri (eg_ri (eg_si X 121 1 (nI 0)) 169 ch) 168 r) 121 66 (eg_gi X 121 65)) 121 67 (c_l t)) 121 67 = nI s := by
        rw [r3]
        simp [si_g, ri_g, c_l]
      have c6 : ∀ p, eg_gi (eg_si (eg_si (eg_ri (eg_ri (eg_si X 121 1 (nI 0)) 169 ch) 168 r) 121 66 (eg_gi X 121 65)) 121 67 (c_l t)) 168 p = r p := fun p => by simp [si_g, ri_g]
      refine ⟨c4.trans c1.symm, Or.inr ⟨⟨P, hP, c1⟩, by rw [c5, c2, ex2], fun p hp => ?_⟩⟩
      rw [c1, n_c (by omega)] at hp
      rw [c3, c6]
      exact (exK p hp).symm
    · rw [ex1, r3]
      rfl

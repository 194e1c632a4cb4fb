/-! PAIRS, AND WHAT THE CLASS'S OUTCOME CAN BE -/
def ok_i (hl : List (String × Int32)) (oo : Option Value ⊕ String) : Prop := (∃ v : Int32, oo = .inl (some (.int v))) ∨ ∃ E q, oo = .inr E ∧ hl.find? (fun q => q.1 == E) = some q
def ok_l (hl : List (String × Int32)) (oo : Option Value ⊕ String) : Prop := (∃ v : Int64, oo = .inl (some (.long v))) ∨ ∃ E q, oo = .inr E ∧ hl.find? (fun q => q.1 == E) = some q
def ok_v (_ : List (String × Int32)) (oo : Option Value ⊕ String) : Prop := oo = .inl none
def pk (ag : List (String × Int32) → Option Value ⊕ String → Option Value ⊕ String → Int32 → Prop) (ok : List (String × Int32) → Option Value ⊕ String → Prop) (hl : List (String × Int32)) (S1 S2 : eg_S) (as : List Value) : Prop := ∀ M, r_A M → S1 (.ref 0 :: as) M (fun oo N => ok hl oo ∧ ∀ w : Int64, S2 (.ref 121 :: as) (eg_sl N 177 0 w) (fun o2 N2 => r_A N2 ∧ eg_gl N2 177 0 = w ∧ ag hl oo o2 (eg_gi N2 121 1)))
theorem ok_1 {hl : List (String × Int32)} {v : Int32} : ok_i hl (.inl (some (.int v))) := Or.inl ⟨v, rfl⟩
theorem ok_2 {hl : List (String × Int32)} {v : Int64} : ok_l hl (.inl (some (.long v))) := Or.inl ⟨v, rfl⟩
theorem ok_N1 : ok_i hN1 (.inr "java/util/NoSuchElementException") := Or.inr ⟨_, _, rfl, rfl⟩
theorem ok_I1 : ok_i hI1 (.inr "java/lang/IllegalArgumentException") := Or.inr ⟨_, _, rfl, rfl⟩
theorem ok_NI : ok_i hNI (.inr "java/util/NoSuchElementException") ∧ ok_i hNI (.inr "java/lang/IllegalArgumentException") := ⟨Or.inr ⟨_, _, rfl, rfl⟩, Or.inr ⟨_, ("java/lang/IllegalArgumentException", nI 2), rfl, by decide⟩⟩
theorem ok_lNI : ok_l hNI (.inr "java/util/NoSuchElementException") ∧ ok_l hNI (.inr "java/lang/IllegalArgumentException") := ⟨Or.inr ⟨_, _, rfl, rfl⟩, Or.inr ⟨_, ("java/lang/IllegalArgumentException", nI 2), rfl, by decide⟩⟩
theorem pk_empty : pk ag_v ok_v [] s_X11_empty s_X12_empty [] := by
  intro M hA
  refine au_X11_empty ⟨rfl, fun w => au_X12_empty ⟨?_, rfl, rfl, rfl⟩⟩
  refine rA_k (ps := [(46, some 0), (46, some 5), (177, none), (121, some 1), (121, some 52), (121, some 53)]) (vf_si (vf_si (vf_si (vf_sl (vf_si (vf_si vf_0 rfl) rfl) rfl) rfl) rfl) rfl) hA (Or.inl rfl) (Or.inl rfl) (Or.inl rfl) (Or.inl rfl) (Or.inl rfl) (Or.inl rfl) (Or.inr ?_) (Or.inl rfl) (Or.inl rfl) (Or.inl rfl) (Or.inl rfl) (Or.inl rfl)
  refine ⟨⟨⟨0, by decide, rfl⟩, rfl⟩, ⟨⟨0, by decide, rfl⟩, rfl⟩, fun h hh => ?_, fun g hg => ?_⟩
  · exact absurd hh (Nat.not_lt_zero h)
  · exact absurd hg (Nat.not_lt_zero g)
theorem pk_clear : pk ag_v ok_v [] s_X11_clear s_X12_clear [] := by
  intro M hA
  refine au_X11_clear ⟨rfl, fun w => au_X12_clear ⟨?_, rfl, rfl, rfl⟩⟩
  refine rA_k (ps := [(72, some 0), (177, none), (121, some 1), (121, some 65)]) (vf_si (vf_si (vf_sl (vf_si vf_0 rfl) rfl) rfl) rfl) hA (Or.inl rfl) (Or.inl rfl) (Or.inl rfl) (Or.inl rfl) (Or.inl rfl) (Or.inl rfl) (Or.inl rfl) (Or.inl rfl) (Or.inr ?_) (Or.inl rfl) (Or.inl rfl) (Or.inl rfl)
  exact ⟨⟨0, by decide, rfl⟩, rfl, fun p hp => absurd hp (Nat.not_lt_zero p)⟩
theorem pk_count (a : Int32) : pk ag_i ok_i hN1 s_X11_count s_X12_count [.int a] := by
  intro M hA
  have hA' := hA
  obtain ⟨a1, a2, a3, a4, a5, a6, a7, a8, a9, a10, a11, a12⟩ := hA'
  have no : ∀ {P Q : Prop}, P → ¬ P → Q := fun h g => absurd h g
  refine au_X11_count a (fun z => ⟨by first | exact ok_1 | exact ok_N1 | exact ok_I1, fun w => ?_⟩) (fun z => ⟨by first | exact ok_1 | exact ok_N1 | exact ok_I1, fun w => ?_⟩) (fun z => ⟨by first | exact ok_1 | exact ok_N1 | exact ok_I1, fun w => ?_⟩) (fun z => ⟨by first | exact ok_1 | exact ok_N1 | exact ok_I1, fun w => ?_⟩) (fun z => ⟨by first | exact ok_1 | exact ok_N1 | exact ok_I1, fun w => ?_⟩) (fun z => ⟨by first | exact ok_1 | exact ok_N1 | exact ok_I1, fun w => ?_⟩) (fun z => ⟨by first | exact ok_1 | exact ok_N1 | exact ok_I1, fun w => ?_⟩) (fun z => ⟨by first | exact ok_1 | exact ok_N1 | exact ok_I1, fun w => ?_⟩) (fun z => ⟨by first | exact ok_1 | exact ok_N1 | exact ok_I1, fun w => ?_⟩) (fun z => ⟨by first | exact ok_1 | exact ok_N1 | exact ok_I1, fun w => ?_⟩)
  · exact au_X12_count a (fun _ => ⟨rA_cc hA, rfl, ag_N1 rfl⟩) (fun y => no z y.1) (fun y => no z y.1) (fun y => no z y.1) (fun y => no z y.1) (fun y => no z y.1) (fun y => no z y.1) (fun y => no z y.1) (fun y => no z y.1) (fun y => no z y.1)
  · exact au_X12_count a (fun y => by omega) (fun y => ⟨rA_c hA, rfl, ag_ok a3.1.symm rfl⟩) (fun y => by omega) (fun y => by omega) (fun y => by omega) (fun y => by omega) (fun y => by omega) (fun y => by omega) (fun y => by omega) (fun y => by omega)
  · exact au_X12_count a (fun y => by omega) (fun y => by omega) (fun y => ⟨rA_c hA, rfl, ag_ok a2.2.1.symm rfl⟩) (fun y => by omega) (fun y => by omega) (fun y => by omega) (fun y => by omega) (fun y => by omega) (fun y => by omega) (fun y => by omega)
  · exact au_X12_count a (fun y => by omega) (fun y => by omega) (fun y => by omega) (fun y => ⟨rA_c hA, rfl, ag_ok a3.2.1.symm rfl⟩) (fun y => by omega) (fun y => by omega) (fun y => by omega) (fun y => by omega) (fun y => by omega) (fun y => by omega)
  · exact au_X12_count a (fun y => by omega) (fun y => by omega) (fun y => by omega) (fun y => by omega) (fun y => ⟨rA_c hA, rfl, ag_ok a4.1.symm rfl⟩) (fun y => by omega) (fun y => by omega) (fun y => by omega) (fun y => by omega) (fun y => by omega)
  · exact au_X12_count a (fun y => by omega) (fun y => by omega) (fun y => by omega) (fun y => by omega) (fun y => by omega) (fun y => ⟨rA_c hA, rfl, ag_ok a7.1.2.symm rfl⟩) (fun y => by omega) (fun y => by omega) (fun y => by omega) (fun y => by omega)
  · exact au_X12_count a (fun y => by omega) (fun y => by omega) (fun y => by omega) (fun y => by omega) (fun y => by omega) (fun y => by omega) (fun y => ⟨rA_c hA, rfl, ag_ok a7.2.1.2.symm rfl⟩) (fun y => by omega) (fun y => by omega) (fun y => by omega)
  · exact au_X12_count a (fun y => by omega) (fun y => by omega) (fun y => by omega) (fun y => by omega) (fun y => by omega) (fun y => by omega) (fun y => by omega) (fun y => ⟨rA_c hA, rfl, ag_ok a9.2.1.symm rfl⟩) (fun y => by omega) (fun y => by omega)
  · exact au_X12_count a (fun y => by omega) (fun y => by omega) (fun y => by omega) (fun y => by omega) (fun y => by omega) (fun y => by omega) (fun y => by omega) (fun y => by omega) (fun y => ⟨rA_c hA, rfl, ag_ok a6.1.symm rfl⟩) (fun y => by omega)
  · exact au_X12_count a (fun y => by omega) (fun y => by omega) (fun y => by omega) (fun y => by omega) (fun y => by omega) (fun y => by omega) (fun y => by omega) (fun y => by omega) (fun y => by omega) (fun y => ⟨rA_c hA, rfl, ag_ok a5.1.symm rfl⟩)
theorem pk_friend (a : Int32) : pk ag_i ok_i hN1 s_X11_friend s_X12_friend [.int a] := by
  intro M hA
  have tw := hA.2.1
  have e : eg_gi M 121 3 = eg_gi M 2 4 := tw.2.1
  have hix := ix_cm (c := a) (by decide) tw.1
  have hk : (¬ a < 0 ∧ ¬ eg_gi M 2 4 ≤ a) → ∃ t, t < 16 ∧ a = nI t := fun z => by
    obtain ⟨n, h1, _, h3⟩ := k_idx (by decide) tw.1 (hix.mpr z).1 (hix.mpr z).2
    exact ⟨n, h1, h3⟩
  have g1 : ∀ w : Int64, eg_gi (eg_si (eg_sl M 177 0 w) 121 1 (nI 0)) 121 3 = eg_gi M 2 4 := fun w => e
  refine au_X11_friend a (fun z => ?_) (fun z => ⟨by first | exact ok_1 | exact ok_N1 | exact ok_I1, fun w => ?_⟩) (fun z => ⟨by first | exact ok_1 | exact ok_N1 | exact ok_I1, fun w => ?_⟩)
  · obtain ⟨t, ht, rfl⟩ := hk (hix.mp (Classical.not_not.mp z))
    exact (n_in (by omega) (by decide)).mpr ht
  · refine au_X12_friend a (fun y => ?_) (fun y => ⟨rA_cc hA, rfl, ag_N1 rfl⟩) (fun y => ?_) (fun y => ?_)
    all_goals rw [g1] at y
    · exact absurd (hix.mpr (Classical.not_not.mp y)) z
    · exact absurd (hix.mpr y.1) z
    · exact absurd (hix.mpr y.1) z
  · obtain ⟨t, ht, rfl⟩ := hk (hix.mp z)
    have fr := hA.2.2.2.2.2.2.2.2.2.2.2 t ht
    refine au_X12_friend (nI t) (fun y => ?_) (fun y => ?_) (fun y => ⟨rA_c hA, rfl, ag_ok ?_ rfl⟩) (fun y => ⟨rA_c hA, rfl, ag_ok ?_ rfl⟩)
    · intro _
      exact (n_in (by omega) (by decide)).mpr ht
    · rw [g1] at y
      exact absurd (hix.mp z) y
    · rw [n_c (by omega), fr]
      exact if_pos y.2
    · rw [n_c (by omega), fr]
      exact if_neg y.2
/-! PAIRS: days, what was kept, towns, homes, guests, charters -/
theorem pk_days (a : Int32) : pk ag_i ok_i hI1 s_X11_days s_X12_days [.int a] := by
  intro M hA
  have ch := hA.2.2.1
  obtain ⟨d, hd, ed⟩ := vp_in_of hA.1.2.2.2.2 (by decide)
  have e2 : eg_gi M 121 2 = nI d := ch.1.trans ed
  have hs : ∀ b, b ≤ 3599 → nI 3599 - nI b = nI (3599 - b) := fun b hb => by
    have := n_sb (a := 3599 - b) (b := b)
    rw [Nat.sub_add_cancel hb] at this
    exact this
  have key : (¬ a < 0 ∧ a ≤ nI 3599 - nI d) ↔ (¬ a < 0 ∧ (¬ nI 3599 < a ∧ nI d + a ≤ nI 3599)) := by
    rw [hs d (by omega)]
    constructor
    · rintro ⟨h1, h2⟩
      obtain ⟨k, hk, rfl⟩ := nI_of h1
      rw [n_le (by omega) (by omega)] at h2
      refine ⟨h1, ?_, ?_⟩
      · rw [n_lt (by omega) (by omega)]; omega
      · rw [n_s, n_le (by omega) (by omega)]; omega
    · rintro ⟨h1, h2, h3⟩
      obtain ⟨k, hk, rfl⟩ := nI_of h1
      rw [n_lt (by omega) (by omega)] at h2
      rw [n_s, n_le (by omega) (by omega)] at h3
      refine ⟨h1, ?_⟩
      rw [n_le (by omega) (by omega)]; omega
  refine au_X11_days a (fun z => ⟨by first | exact ok_1 | exact ok_N1 | exact ok_I1, fun w => ?_⟩) (fun z => ⟨by first | exact ok_1 | exact ok_N1 | exact ok_I1, fun w => ?_⟩)
  · rw [ed] at z
    refine au_X12_days a (fun _ => ⟨rA_cc hA, rfl, ag_I1 rfl⟩) (fun y => ?_)
    have y' : ¬ a < 0 ∧ (¬ nI 3599 < a ∧ nI d + a ≤ nI 3599) := by rw [← e2]; exact y
    have := key.mpr y'
    exact absurd this (fun t => z.elim (fun q => t.1 q) (fun q => q t.2))
  · rw [ed] at z ⊢
    have z2 := key.mp z
    refine au_X12_days a (fun y => ?_) (fun y => ?_)
    · have y' : a < 0 ∨ (nI 3599 < a ∨ ¬ (nI d + a) ≤ nI 3599) := by rw [← e2]; exact y
      exact absurd z2 (fun t => y'.elim t.1 (fun q => q.elim t.2.1 (fun r => r t.2.2)))
    · show r_A _ ∧ _ ∧ _
      rw [show eg_gi (eg_sl (eg_si M 0 8 (nI d + a)) 177 0 w) 121 2 = nI d from e2]
      refine ⟨?_, rfl, ag_ok rfl rfl⟩
      obtain ⟨k, hk, rfl⟩ := nI_of z2.1
      have z3 := z2.2
      rw [n_lt (by omega) (by omega), n_s] at z3
      rw [n_s]
      have z4 := z3.2
      rw [n_le (by omega) (by omega)] at z4
      have hf : vf [(0, some 8), (177, none), (121, some 1), (121, some 2)] M (eg_si (eg_si (eg_sl (eg_si M 0 8 (nI (d + k))) 177 0 w) 121 1 (nI 0)) 121 2 (nI (d + k))) := vf_si (vf_si (vf_sl (vf_si vf_0 rfl) rfl) rfl) rfl
      refine rA_k hf hA (Or.inr ?_) (Or.inl rfl) (Or.inr ?_) (Or.inl rfl) (Or.inl rfl) (Or.inl rfl) (Or.inl rfl) (Or.inl rfl) (Or.inl rfl) (Or.inl rfl) (Or.inl rfl) (Or.inl rfl)
      · refine kp_J (vf_sm hf rfl) (fun e he => ⟨fun p h1 h2 => (hf.2 p _ ?_).1, fun p h1 h2 => ⟨(hf.2 p _ ?_).1, (hf.2 p _ ?_).1⟩⟩) hA.1.2.2.2.1 (vp_in_nI (by omega) (by decide)) hA.1.1.2.1 hA.1
        · rcases (show p = 8 ∨ p = 9 ∨ p = 10 by omega) with rfl | rfl | rfl <;> rfl
        · rcases (show p = 3 ∨ p = 4 ∨ p = 5 ∨ p = 6 by omega) with rfl | rfl | rfl | rfl <;> rfl
        · rcases (show p = 3 ∨ p = 4 ∨ p = 5 ∨ p = 6 by omega) with rfl | rfl | rfl | rfl <;> rfl
      · refine ⟨rfl, ch.2.1, fun c hc => ?_⟩
        obtain ⟨b1, b2, b3, b4, b5, b6, b7⟩ := ch.2.2 c hc
        refine ⟨b1, b2, b3, b4, b5, b6, ?_⟩
        show ¬ nI (d + k) < eg_gi M 11 c
        rw [ed] at b7
        intro t
        exact b7 (Int32.lt_of_le_of_lt ((n_le (by omega) (by omega)).mpr (by omega)) t)
theorem pk_lodged (a : Int32) : pk ag_i ok_i hN1 s_X11_lodged s_X12_lodged [.int a] := by
  intro M hA
  obtain ⟨e1, lo⟩ := hA.2.2.2.2.2.2.2.1
  have ho : eg_gi M 46 9 = -nI 1 ∨ eg_cn (eg_gi M 46 9) 8 := lo.imp id And.left
  have kx := kp_idx (c := a) (by decide) ho
  have kn : (¬ eg_gi M 46 9 = (-nI 1) ∧ (¬ a < (-nI 1) ∧ a < eg_gi M 46 9)) → ¬ a = -nI 1 → ∃ g, g < 8 ∧ g < (eg_gi M 46 9).toNatClampNeg ∧ a = nI g := fun z h3 => kp_nat (by decide) (ho.resolve_left z.1) z.2.1 z.2.2 h3
  refine au_X11_lodged a (fun z1 z2 => ?_) (fun z => ⟨by first | exact ok_1 | exact ok_N1 | exact ok_I1, fun w => ?_⟩) (fun z => ⟨by first | exact ok_1 | exact ok_N1 | exact ok_I1, fun w => ?_⟩) (fun z => ⟨by first | exact ok_1 | exact ok_N1 | exact ok_I1, fun w => ?_⟩)
  · obtain ⟨g, h1, _, rfl⟩ := kn (kx.mp (Classical.not_not.mp z1)) z2
    exact vp_in_nI h1 (by decide)
  · have g : eg_gi (eg_sl M 177 0 w) 121 54 = eg_gi M 46 9 := e1
    refine au_X12_lodged a (fun y1 y2 y3 => ?_) (fun _ => ⟨rA_cc hA, rfl, ag_N1 rfl⟩) (fun y => ?_) (fun y => ?_)
    · rw [g] at y1 y3
      exact absurd (kx.mpr ⟨y1, y2, y3⟩) z
    · rw [g] at y
      exact absurd (kx.mpr ⟨y.1, y.2.1, y.2.2.1⟩) z
    · rw [g] at y
      exact absurd (kx.mpr ⟨y.1, y.2.1, y.2.2.1⟩) z
  · have g : eg_gi (eg_sl M 177 0 w) 121 54 = eg_gi M 46 9 := e1
    have zz := kx.mp z.1
    have l2 := (lo.resolve_left zz.1).2
    refine au_X12_lodged a (fun y1 y2 y3 y4 => absurd z.2 y4) (fun y => ?_) (fun y => ⟨rA_c hA, rfl, ag_ok l2.1.symm rfl⟩) (fun y => absurd z.2 y.2.2.2)
    rw [g] at y
    exact absurd zz (fun t => y.elim t.1 (fun q => q.elim t.2.1 (fun r => r t.2.2)))
  · have g : eg_gi (eg_sl M 177 0 w) 121 54 = eg_gi M 46 9 := e1
    have zz := kx.mp z.1
    have l2 := (lo.resolve_left zz.1).2
    obtain ⟨k, h1, h2, rfl⟩ := kn zz z.2
    refine au_X12_lodged (nI k) (fun y1 y2 y3 y4 => vp_in_nI h1 (by decide)) (fun y => ?_) (fun y => absurd y.2.2.2 z.2) (fun y => ⟨rA_c hA, rfl, ag_ok ?_ rfl⟩)
    · rw [g] at y
      exact absurd zz (fun t => y.elim t.1 (fun q => q.elim t.2.1 (fun r => r t.2.2)))
    · rw [n_c (by omega)]
      exact (l2.2 k h2).symm
theorem pk_planned (a : Int32) : pk ag_i ok_i hN1 s_X11_planned s_X12_planned [.int a] := by
  intro M hA
  obtain ⟨e1, lo⟩ := hA.2.2.2.2.2.2.2.2.2.1
  have ho : eg_gi M 72 5 = -nI 1 ∨ eg_cn (eg_gi M 72 5) 6 := lo.imp id And.left
  have kx := kp_idx (c := a) (by decide) ho
  have kn : (¬ eg_gi M 72 5 = (-nI 1) ∧ (¬ a < (-nI 1) ∧ a < eg_gi M 72 5)) → ¬ a = -nI 1 → ∃ g, g < 6 ∧ g < (eg_gi M 72 5).toNatClampNeg ∧ a = nI g := fun z h3 => kp_nat (by decide) (ho.resolve_left z.1) z.2.1 z.2.2 h3
  refine au_X11_planned a (fun z1 z2 => ?_) (fun z => ⟨by first | exact ok_1 | exact ok_N1 | exact ok_I1, fun w => ?_⟩) (fun z => ⟨by first | exact ok_1 | exact ok_N1 | exact ok_I1, fun w => ?_⟩) (fun z => ⟨by first | exact ok_1 | exact ok_N1 | exact ok_I1, fun w => ?_⟩)
  · obtain ⟨g, h1, _, rfl⟩ := kn (kx.mp (Classical.not_not.mp z1)) z2
    exact vp_in_nI h1 (by decide)
  · have g : eg_gi (eg_sl M 177 0 w) 121 66 = eg_gi M 72 5 := e1
    refine au_X12_planned a (fun y1 y2 y3 => ?_) (fun _ => ⟨rA_cc hA, rfl, ag_N1 rfl⟩) (fun y => ?_) (fun y => ?_)
    · rw [g] at y1 y3
      exact absurd (kx.mpr ⟨y1, y2, y3⟩) z
    · rw [g] at y
      exact absurd (kx.mpr ⟨y.1, y.2.1, y.2.2.1⟩) z
    · rw [g] at y
      exact absurd (kx.mpr ⟨y.1, y.2.1, y.2.2.1⟩) z
  · have g : eg_gi (eg_sl M 177 0 w) 121 66 = eg_gi M 72 5 := e1
    have zz := kx.mp z.1
    have l2 := (lo.resolve_left zz.1).2
    refine au_X12_planned a (fun y1 y2 y3 y4 => absurd z.2 y4) (fun y => ?_) (fun y => ⟨rA_c hA, rfl, ag_ok l2.1.symm rfl⟩) (fun y => absurd z.2 y.2.2.2)
    rw [g] at y
    exact absurd zz (fun t => y.elim t.1 (fun q => q.elim t.2.1 (fun r => r t.2.2)))
  · have g : eg_gi (eg_sl M 177 0 w) 121 66 = eg_gi M 72 5 := e1
    have zz := kx.mp z.1
    have l2 := (lo.resolve_left zz.1).2
    obtain ⟨k, h1, h2, rfl⟩ := kn zz z.2
    refine au_X12_planned (nI k) (fun y1 y2 y3 y4 => vp_in_nI h1 (by decide)) (fun y => ?_) (fun y => absurd y.2.2.2 z.2) (fun y => ⟨rA_c hA, rfl, ag_ok ?_ rfl⟩)
    · rw [g] at y
      exact absurd zz (fun t => y.elim t.1 (fun q => q.elim t.2.1 (fun r => r t.2.2)))
    · rw [n_c (by omega)]
      exact (l2.2 k h2).symm
theorem pk_back (a : Int32) : pk ag_i ok_i hN1 s_X11_back s_X12_back [.int a] := by
  intro M hA
  have ev := hA.2.2.2.1
  obtain ⟨n, hn, en⟩ := hA.1.1.1.choose_spec.1
  have hcn : eg_cn (eg_gi M 12 10) 200 := ⟨n, hn, en⟩
  have e : eg_gi M 121 5 = eg_gi M 12 10 := ev.1
  have hix := ix_cm (c := a) (by decide) hcn
  have hk : (¬ a < 0 ∧ ¬ eg_gi M 12 10 ≤ a) → ∃ t, t < 200 ∧ t < (eg_gi M 12 10).toNatClampNeg ∧ a = nI t := fun z => k_idx (by decide) hcn (hix.mpr z).1 (hix.mpr z).2
  refine au_X11_back a (fun z => ?_) (fun z => ⟨by first | exact ok_1 | exact ok_N1 | exact ok_I1, fun w => ?_⟩) (fun z => ⟨by first | exact ok_1 | exact ok_N1 | exact ok_I1, fun w => ?_⟩) (fun z => ⟨by first | exact ok_1 | exact ok_N1 | exact ok_I1, fun w => ?_⟩)
  · obtain ⟨t, ht, _, rfl⟩ := hk (hix.mp (Classical.not_not.mp z))
    exact vp_in_nI ht (by decide)
  · have g1 : eg_gi (eg_si (eg_sl M 177 0 w) 121 1 (nI 0)) 121 5 = eg_gi M 12 10 := e
    refine au_X12_back a (fun y => ?_) (fun y => ⟨rA_cc hA, rfl, ag_N1 rfl⟩) (fun y => ?_) (fun y => ?_)
    all_goals rw [g1] at y
    · exact absurd (hix.mpr (Classical.not_not.mp y)) z
    · exact absurd (hix.mpr y.1) z
    · exact absurd (hix.mpr y.1) z
  · obtain ⟨t, ht, ht2, rfl⟩ := hk (hix.mp z.1)
    rw [n_c (by omega)] at z ⊢
    obtain ⟨_, bk, _⟩ := ev.2 t ht2
    have z2 := z.2
    have hb : eg_gi M 138 t = -nI 1 := by
      rcases bk with q | q
      · exact q.1
      · rw [z2] at q
        exact absurd ((n_in (by decide) (by decide)).mp q.2) (by decide)
    have g1 : eg_gi (eg_si (eg_sl (eg_si (eg_si M 1 4 (-nI 1)) 21 t (eg_gi M 0 8)) 177 0 w) 121 1 (nI 0)) 121 5 = eg_gi M 12 10 := e
    refine au_X12_back (nI t) (fun y => vp_in_nI ht (by decide)) (fun y => ?_) (fun y => ⟨?_, rfl, ag_ok rfl rfl⟩) (fun y => ?_)
    · rw [g1] at y
      exact absurd (hix.mp z.1) y
    · rw [n_c (by omega)]
      have hf : vf [(1, some 4), (21, none), (177, none), (121, some 1), (138, none)] M (eg_si (eg_si (eg_sl (eg_si (eg_si M 1 4 (-nI 1)) 21 t (eg_gi M 0 8)) 177 0 w) 121 1 (nI 0)) 138 t (eg_gi M 121 2)) := vf_si (vf_si (vf_sl (vf_si (vf_si vf_0 rfl) rfl) rfl) rfl) rfl
      refine rA_k hf hA (Or.inr ?_) (Or.inl rfl) (Or.inl rfl) (Or.inr ?_) (Or.inl rfl) (Or.inl rfl) (Or.inl rfl) (Or.inl rfl) (Or.inl rfl) (Or.inl rfl) (Or.inl rfl) (Or.inl rfl)
      · refine kp_I (M := eg_si (eg_si M 1 4 (-nI 1)) 21 t (eg_gi M 0 8)) (vf_sm (ps := [(177, none), (121, some 1), (138, none)]) ?_ rfl) (bk_I hA.1)
        exact vf_si (vf_si (vf_sl vf_0 rfl) rfl) rfl
      · refine ⟨e, fun x hx => ?_⟩
        obtain ⟨f1, f2, f3⟩ := ev.2 x hx
        refine ⟨f1, ?_, f3⟩
        show r_bk (eg_gi (eg_si M 138 t (eg_gi M 121 2)) 138 x) (eg_gi (eg_si M 21 t (eg_gi M 0 8)) 21 x)
        rw [si_g, si_g]
        by_cases q : x = t
        · rw [if_pos ⟨rfl, q⟩, if_pos ⟨rfl, q⟩]
          exact Or.inr ⟨hA.2.2.1.1, hA.1.2.2.2.2⟩
        · rw [if_neg (fun r => q r.2), if_neg (fun r => q r.2)]
          exact f2
    · rw [n_c (by omega)] at y
      exact absurd hb y.2
  · obtain ⟨t, ht, ht2, rfl⟩ := hk (hix.mp z.1)
    rw [n_c (by omega)] at z
    obtain ⟨_, bk, _⟩ := ev.2 t ht2
    have hb : ¬ eg_gi M 138 t = -nI 1 := by
      rcases bk with q | q
      · exact absurd q.2 z.2
      · intro r
        rw [q.1] at r
        rw [r] at q
        exact q.2 (Or.inl (by decide))
    have g1 : eg_gi (eg_si (eg_sl (eg_si M 1 4 (-nI 1)) 177 0 w) 121 1 (nI 0)) 121 5 = eg_gi M 12 10 := e
    refine au_X12_back (nI t) (fun y => vp_in_nI ht (by decide)) (fun y => ?_) (fun y => ?_) (fun y => ⟨?_, rfl, ag_ok rfl rfl⟩)
    · rw [g1] at y
      exact absurd (hix.mp z.1) y
    · rw [n_c (by omega)] at y
      exact absurd y.2 hb
    · have hf : vf [(1, some 4), (177, none), (121, some 1)] M (eg_si (eg_sl (eg_si M 1 4 (-nI 1)) 177 0 w) 121 1 (nI 0)) := vf_si (vf_sl (vf_si vf_0 rfl) rfl) rfl
      refine rA_k hf hA (Or.inr ?_) (Or.inl rfl) (Or.inl rfl) (Or.inl rfl) (Or.inl rfl) (Or.inl rfl) (Or.inl rfl) (Or.inl rfl) (Or.inl rfl) (Or.inl rfl) (Or.inl rfl) (Or.inl rfl)
      exact kp_I (vf_sm (ps := [(177, none), (121, some 1)]) (vf_si (vf_sl vf_0 rfl) rfl) rfl) (fg_I hA.1)
/-! PAIRS: towns, homes, guests, charters -/
theorem pk_town (a b c d : Int32) : pk ag_i ok_i [] s_X11_town s_X12_town [.int a, .int b, .int c, .int d] := by
  intro M hA
  have tw := hA.2.1
  have hlt := cn_lt (by decide : 16 < 2 ^ 31) tw.1
  have e3 : eg_gi M 121 3 = eg_gi M 2 4 := tw.2.1
  refine au_X11_town a b c d (fun _ _ _ _ z => (cn_in (by decide) tw.1 z).1) (fun z => ⟨by first | exact ok_1 | exact ok_N1 | exact ok_I1, fun w => ?_⟩) (fun z => ⟨by first | exact ok_1 | exact ok_N1 | exact ok_I1, fun w => ?_⟩)
  · refine au_X12_town a b c d (fun y1 y2 y3 y4 y5 => ?_) (fun _ => ⟨rA_c hA, rfl, ag_ok rfl rfl⟩) (fun y => ?_)
    · rw [show eg_gi (eg_sl M 177 0 w) 121 3 = eg_gi M 2 4 from e3] at y1 ⊢
      exact (cn_in (by decide) tw.1 (hlt.mpr y1)).1
    · rw [show eg_gi (eg_sl M 177 0 w) 121 3 = eg_gi M 2 4 from e3] at y
      exfalso
      rcases z with q | q | q | q | q
      · exact q y.2.1
      · exact q y.2.2.1
      · exact q y.2.2.2.1
      · exact q y.2.2.2.2
      · exact q (hlt.mpr y.1)
  · obtain ⟨n, hn, en⟩ := (cn_in (by decide) tw.1 z.2.2.2.2).2
    rw [en, n_c (by omega)]
    have X3 : eg_gi (eg_sl (eg_si (eg_si (eg_si (eg_si (eg_si M 3 n a) 4 n b) 5 n c) 6 n d) 2 4 (nI n + nI 1)) 177 0 w) 121 3 = nI n := (show _ = eg_gi M 121 3 by simp [si_g, sl_gi]).trans (e3.trans en)
    refine au_X12_town a b c d (fun _ _ _ _ _ => by rw [X3]; exact vp_in_nI hn (by decide)) (fun y => ?_) (fun y => ?_)
    · rw [X3] at y
      exfalso
      rcases y with q | q | q | q | q
      · rw [n_eq (by omega) (by decide)] at q
        omega
      · exact q z.1
      · exact q z.2.1
      · exact q z.2.2.1
      · exact q z.2.2.2.1
    · rw [X3, n_c (by omega), n_s]
      exact ⟨tw_add (a := a) (b := b) (c := c) (d := d) hA hn en (rg_in (a := 1) (m := 255) (by decide) (by decide) z.2.2.2.1.1 z.2.2.2.1.2) (vf_si (vf_si (vf_si (vf_si (vf_si (vf_si (vf_si (vf_sl (vf_si (vf_si (vf_si (vf_si (vf_si vf_0 rfl) rfl) rfl) rfl) rfl) rfl) rfl) rfl) rfl) rfl) rfl) rfl) rfl) (by simp [si_g, sl_gi]) (by simp [si_g, sl_gi]) (pu_of (fun j => by simp [si_g, sl_gi])) (pu_of (fun j => by simp [si_g, sl_gi])) (pu_of (fun j => by simp [si_g, sl_gi])) (pu_of (fun j => by simp [si_g, sl_gi])) (pu_of (fun j => by simp [si_g, sl_gi])) (pu_of (fun j => by simp [si_g, sl_gi])) (pu_of (fun j => by simp [si_g, sl_gi])) (pu_of (fun j => by simp [si_g, sl_gi])) (pu_of (fun j => by simp [si_g, sl_gi])), rfl, ag_ok n_p.symm (by simp [si_g, sl_gi])⟩
theorem pk_home (a b c d : Int32) (hc : c = 0 ∨ c = 1) : pk ag_i ok_i [] s_X11_home s_X12_home [.int a, .int b, .int c, .int d] := by
  intro M hA
  have ho := hA.2.2.2.2.2.2.1
  have hlt := cn_lt (by decide : 6 < 2 ^ 31) ho.1.1
  have e3 : eg_gi M 121 52 = eg_gi M 46 0 := ho.1.2
  refine au_X11_home a b c d (fun _ _ _ z => (cn_in (by decide) ho.1.1 z).1) (fun _ _ _ _ => hc) (fun z => ⟨by first | exact ok_1 | exact ok_N1 | exact ok_I1, fun w => ?_⟩) (fun z => ⟨by first | exact ok_1 | exact ok_N1 | exact ok_I1, fun w => ?_⟩)
  · refine au_X12_home a b c d (fun y1 y2 y3 y4 => ?_) (fun _ _ _ _ => hc) (fun _ => ⟨rA_c hA, rfl, ag_ok rfl rfl⟩) (fun y => ?_)
    · rw [show eg_gi (eg_sl M 177 0 w) 121 52 = eg_gi M 46 0 from e3] at y1 ⊢
      exact (cn_in (by decide) ho.1.1 (hlt.mpr y1)).1
    · rw [show eg_gi (eg_sl M 177 0 w) 121 52 = eg_gi M 46 0 from e3] at y
      exfalso
      rcases z with q | q | q | q
      · exact q y.2.1
      · exact q y.2.2.1
      · exact q y.2.2.2
      · exact q (hlt.mpr y.1)
  · obtain ⟨n, hn, en⟩ := (cn_in (by decide) ho.1.1 z.2.2.2).2
    rw [en, n_c (by omega)]
    have X3 : eg_gi (eg_sl (eg_si (eg_si (eg_si (eg_si (eg_si M 47 n a) 48 n b) 49 n c) 50 n d) 46 0 (nI n + nI 1)) 177 0 w) 121 52 = nI n := (show _ = eg_gi M 121 52 by simp [si_g, sl_gi]).trans (e3.trans en)
    refine au_X12_home a b c d (fun _ _ _ _ => by rw [X3]; exact vp_in_nI hn (by decide)) (fun _ _ _ _ => hc) (fun y => ?_) (fun y => ?_)
    · rw [X3] at y
      exfalso
      rcases y with q | q | q | q
      · rw [n_eq (by omega) (by decide)] at q
        omega
      · exact q z.1
      · exact q z.2.1
      · exact q z.2.2.1
    · rw [X3, n_c (by omega), n_s]
      exact ⟨ho_add (a := a) (b := b) (c := c) (d := d) hA hn en (rg_in (a := 1) (m := 4) (by decide) (by decide) z.1.1 z.1.2) (rg_in (a := 0) (m := 255) (by decide) (by decide) z.2.1.1 z.2.1.2) (rg_in (a := 0) (m := 99) (by decide) (by decide) z.2.2.1.1 z.2.2.1.2) (vf_si (vf_si (vf_si (vf_si (vf_si (vf_si (vf_sl (vf_si (vf_si (vf_si (vf_si (vf_si vf_0 rfl) rfl) rfl) rfl) rfl) rfl) rfl) rfl) rfl) rfl) rfl) rfl) (by simp [si_g, sl_gi]) (by simp [si_g, sl_gi]) (pu_of (fun j => by simp [si_g, sl_gi])) (pu_of (fun j => by simp [si_g, sl_gi])) (pu_of (fun j => by simp [si_g, sl_gi])) (pu_of (fun j => by simp [si_g, sl_gi])) (pu_of (fun j => by simp [si_g, sl_gi])) (pu_of (fun j => by simp [si_g, sl_gi])) (pu_of (fun j => by simp [si_g, sl_gi])) (pu_of (fun j => by simp [si_g, sl_gi])), rfl, ag_ok n_p.symm (by simp [si_g, sl_gi])⟩
theorem pk_guest (a b c : Int32) (hc : c = 0 ∨ c = 1) : pk ag_i ok_i [] s_X11_guest s_X12_guest [.int a, .int b, .int c] := by
  intro M hA
  have ho := hA.2.2.2.2.2.2.1
  have hlt := cn_lt (by decide : 8 < 2 ^ 31) ho.2.1.1
  have e3 : eg_gi M 121 53 = eg_gi M 46 5 := ho.2.1.2
  refine au_X11_guest a b c (fun _ _ z => (cn_in (by decide) ho.2.1.1 z).1) (fun _ _ _ => hc) (fun z => ⟨by first | exact ok_1 | exact ok_N1 | exact ok_I1, fun w => ?_⟩) (fun z => ⟨by first | exact ok_1 | exact ok_N1 | exact ok_I1, fun w => ?_⟩)
  · refine au_X12_guest a b c (fun y1 y2 y3 => ?_) (fun _ _ _ => hc) (fun _ => ⟨rA_c hA, rfl, ag_ok rfl rfl⟩) (fun y => ?_)
    · rw [show eg_gi (eg_sl M 177 0 w) 121 53 = eg_gi M 46 5 from e3] at y1 ⊢
      exact (cn_in (by decide) ho.2.1.1 (hlt.mpr y1)).1
    · rw [show eg_gi (eg_sl M 177 0 w) 121 53 = eg_gi M 46 5 from e3] at y
      exfalso
      rcases z with q | q | q
      · exact q y.2.1
      · exact q y.2.2
      · exact q (hlt.mpr y.1)
  · obtain ⟨n, hn, en⟩ := (cn_in (by decide) ho.2.1.1 z.2.2).2
    rw [en, n_c (by omega)]
    have X3 : eg_gi (eg_sl (eg_si (eg_si (eg_si (eg_si M 51 n a) 52 n b) 53 n c) 46 5 (nI n + nI 1)) 177 0 w) 121 53 = nI n := (show _ = eg_gi M 121 53 by simp [si_g, sl_gi]).trans (e3.trans en)
    refine au_X12_guest a b c (fun _ _ _ => by rw [X3]; exact vp_in_nI hn (by decide)) (fun _ _ _ => hc) (fun y => ?_) (fun y => ?_)
    · rw [X3] at y
      exfalso
      rcases y with q | q | q
      · rw [n_eq (by omega) (by decide)] at q
        omega
      · exact q z.1
      · exact q z.2.1
    · rw [X3, n_c (by omega), n_s]
      exact ⟨gu_add (a := a) (b := b) (c := c) hA hn en (rg_in (a := 0) (m := 255) (by decide) (by decide) z.1.1 z.1.2) (rg_in (a := 0) (m := 99) (by decide) (by decide) z.2.1.1 z.2.1.2) (vf_si (vf_si (vf_si (vf_si (vf_si (vf_sl (vf_si (vf_si (vf_si (vf_si vf_0 rfl) rfl) rfl) rfl) rfl) rfl) rfl) rfl) rfl) rfl) (by simp [si_g, sl_gi]) (by simp [si_g, sl_gi]) (pu_of (fun j => by simp [si_g, sl_gi])) (pu_of (fun j => by simp [si_g, sl_gi])) (pu_of (fun j => by simp [si_g, sl_gi])) (pu_of (fun j => by simp [si_g, sl_gi])) (pu_of (fun j => by simp [si_g, sl_gi])) (pu_of (fun j => by simp [si_g, sl_gi])), rfl, ag_ok n_p.symm (by simp [si_g, sl_gi])⟩
theorem pk_fault : pk ag_i ok_i [] s_X11_fault s_X12_fault [] := fun M hA => ⟨trivial, ok_1, (pr_fault M hA).2⟩
theorem pk_feed (a b c d e : Int32) : pk ag_i ok_i [] s_X11_feed s_X12_feed [.int a, .int b, .int c, .int d, .int e] := fun M hA => ⟨(pr_feed a b c d e M hA).1, fun v N hN => ⟨ok_1, (pr_feed a b c d e M hA).2 v N hN⟩⟩
theorem pk_pair (a b : Int32) : pk ag_i ok_i [] s_X11_pair s_X12_pair [.int a, .int b] := fun M hA => ⟨(pr_pair a b M hA).1, fun v N hN => ⟨ok_1, (pr_pair a b M hA).2 v N hN⟩⟩
theorem pk_stables (a b : Int32) : pk ag_i ok_i [] s_X11_stables s_X12_stables [.int a, .int b] := fun M hA => ⟨(pr_stables a b M hA).1, fun v N hN => ⟨ok_1, (pr_stables a b M hA).2 v N hN⟩⟩
theorem pk_lodge : pk ag_i ok_i [] s_X11_lodge s_X12_lodge [] := fun M hA => ⟨(pr_lodge M hA).1, fun v N hN => ⟨ok_1, (pr_lodge M hA).2 v N hN⟩⟩
theorem pk_calendar : pk ag_i ok_i [] s_X11_calendar s_X12_calendar [] := fun M hA => ⟨(pr_calendar M hA).1, fun C D K x y hN => ⟨ok_1, (pr_calendar M hA).2 C D K x y hN⟩⟩
theorem pk_liking (a b : Int32) : pk ag_i ok_i hN1 s_X11_liking_v s_X12_liking [.int a, .int b] := fun M hA => ⟨(pr_liking a b M hA).1, fun oo hN => ⟨by
  rcases hN with ⟨_, rfl⟩ | ⟨_, rfl⟩
  · exact ok_N1
  · exact ok_1, (pr_liking a b M hA).2 oo hN⟩⟩
theorem pk_charter (a b c : Int32) : pk ag_i ok_i hN1 s_X11_charter_v s_X12_charter [.int a, .int b, .int c] := fun M hA => ⟨(pr_charter a b c M hA).1, fun oo N hN => ⟨by
  rcases hN with ⟨_, rfl, _⟩ | ⟨_, _, rfl, _⟩ | ⟨_, _, _, _, rfl, _⟩
  · exact ok_N1
  · exact ok_1
  · exact ok_1, (pr_charter a b c M hA).2 oo N hN⟩⟩
theorem pk_event (a b c d e f g : Int32) : pk ag_i ok_i hN1 s_X11_event s_X12_event [.int a, .int b, .int c, .int d, .int e, .int f, .int g] := fun M hA => ⟨(pr_event a b c d e f g M hA).1, fun oo N hN => ⟨by
  rcases hN with ⟨_, rfl, _⟩ | ⟨_, _, rfl, _⟩ | ⟨_, _, _, ⟨_, rfl, _⟩ | ⟨_, rfl, _⟩⟩
  · exact ok_N1
  · exact ok_1
  · exact ok_1
  · exact ok_1, (pr_event a b c d e f g M hA).2 oo N hN⟩⟩
theorem pk_rules (a : Int32) : pk ag_i ok_i hI1 s_X11_rules s_X12_rules [.int a] := fun M hA => ⟨(pr_rules a M hA).1, fun oo N hN => ⟨by
  rcases hN with ⟨_, rfl, _⟩ | ⟨_, _, rfl, _⟩
  · exact ok_I1
  · exact ok_1, (pr_rules a M hA).2 oo N hN⟩⟩
theorem pk_about (a b c d : Int32) : pk ag_i ok_i hNI s_X11_about s_X12_about [.int a, .int b, .int c, .int d] := fun M hA => ⟨(pr_about a b c d M hA).1, fun oo N hN => ⟨by
  rcases hN with ⟨_, rfl, _⟩ | ⟨_, _, rfl, _⟩ | ⟨_, _, ⟨_, rfl, _⟩ | ⟨_, _, _, rfl, _⟩⟩
  · exact ok_NI.1
  · exact ok_NI.2
  · exact ok_1
  · exact ok_1, (pr_about a b c d M hA).2 oo N hN⟩⟩
theorem pk_told (a b c : Int32) : pk ag_l ok_l hNI s_X11_told s_X12_told [.int a, .int b, .int c] := fun M hA => ⟨(pr_told a b c M hA).1, fun oo N hN => ⟨by
  rcases hN with ⟨_, rfl, _⟩ | ⟨_, _, rfl, _⟩ | ⟨_, _, _, _, rfl, _⟩
  · exact ok_lNI.1
  · exact ok_lNI.2
  · exact ok_2, (pr_told a b c M hA).2 oo N hN⟩⟩
theorem pk_balance (a b c d : Int32) : pk ag_l ok_l hNI s_X11_balance s_X12_balance [.int a, .int b, .int c, .int d] := fun M hA => ⟨(pr_balance a b c d M hA).1, fun oo N hN => ⟨by
  rcases hN with ⟨_, rfl, _⟩ | ⟨_, _, rfl, _⟩ | ⟨_, _, _, _, _, _, _, _, _, _, _, _, rfl, _⟩
  · exact ok_lNI.1
  · exact ok_lNI.2
  · exact ok_2, (pr_balance a b c d M hA).2 oo N hN⟩⟩
theorem pk_plan (a b c : Int32) (d : Int64) : pk ag_i ok_i hN1 s_X11_plan s_X12_plan [.int a, .int b, .int c, .long d] := fun M hA => ⟨(pr_plan a b c d M hA).1, fun oo N hN => ⟨by
  rcases hN with ⟨_, rfl, _⟩ | ⟨_, _, rfl, _⟩ | ⟨_, _, ⟨_, rfl, _⟩ | ⟨_, _, _, _, rfl, _⟩ | ⟨_, _, rfl, _⟩⟩
  · exact ok_N1
  · exact ok_1
  · exact ok_1
  · exact ok_1
  · exact ok_1, (pr_plan a b c d M hA).2 oo N hN⟩⟩
theorem pk_wish (a b c : Int32) : pk ag_i ok_i hN1 s_X11_wish s_X12_wish [.int a, .int b, .int c] := fun M hA => ⟨(pr_wish a b c M hA).1, fun oo N hN => ⟨by
  rcases hN with ⟨_, rfl, _⟩ | ⟨_, _, rfl, _⟩ | ⟨_, _, rfl, _⟩
  · exact ok_N1
  · exact ok_1
  · exact ok_1, (pr_wish a b c M hA).2 oo N hN⟩⟩

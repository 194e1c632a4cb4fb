/-! A CALL OF THE CLASS, THEN THE MODEL'S -/
def ag_i (hl : List (String × Int32)) (oo o2 : Option Value ⊕ String) (k : Int32) : Prop := (∃ v : Int32, oo = .inl (some (.int v)) ∧ o2 = .inl (some (.int v)) ∧ k = nI 0) ∨ ∃ E q, ∃ b : Int32, oo = .inr E ∧ hl.find? (fun q => q.1 == E) = some q ∧ k = q.2 ∧ ¬ q.2 = 0 ∧ o2 = .inl (some (.int b))
def ag_l (hl : List (String × Int32)) (oo o2 : Option Value ⊕ String) (k : Int32) : Prop := (∃ v : Int64, oo = .inl (some (.long v)) ∧ o2 = .inl (some (.long v)) ∧ k = nI 0) ∨ ∃ E q, ∃ b : Int64, oo = .inr E ∧ hl.find? (fun q => q.1 == E) = some q ∧ k = q.2 ∧ ¬ q.2 = 0 ∧ o2 = .inl (some (.long b))
def ag_v (_ : List (String × Int32)) (oo o2 : Option Value ⊕ String) (_ : Int32) : Prop := oo = .inl none ∧ o2 = .inl none
/-- the two answer alike, and stand alike again -/
def pr (ag : List (String × Int32) → Option Value ⊕ String → Option Value ⊕ String → Int32 → Prop) (hl : List (String × Int32)) (S1 S2 : eg_S) (as : List Value) : Prop := ∀ M, r_A M → S1 (.ref 0 :: as) M (fun oo N => ∀ w : Int64, S2 (.ref 121 :: as) (eg_sl N 177 0 w) (fun o2 N2 => r_A N2 ∧ eg_gl N2 177 0 = w ∧ ag hl oo o2 (eg_gi N2 121 1)))
abbrev hN1 : List (String × Int32) := [("java/util/NoSuchElementException", nI 1)]
abbrev hI1 : List (String × Int32) := [("java/lang/IllegalArgumentException", nI 1)]
abbrev hNI : List (String × Int32) := [("java/util/NoSuchElementException", nI 1), ("java/lang/IllegalArgumentException", nI 2)]
theorem ag_ok {hl : List (String × Int32)} {v x k : Int32} (h : v = x) (hk : k = nI 0) : ag_i hl (.inl (some (.int v))) (.inl (some (.int x))) k := Or.inl ⟨v, rfl, by rw [h], hk⟩
theorem ag_N1 {b k : Int32} (hk : k = nI 1) : ag_i hN1 (.inr "java/util/NoSuchElementException") (.inl (some (.int b))) k := Or.inr ⟨_, ("java/util/NoSuchElementException", nI 1), b, rfl, rfl, hk, by decide, rfl⟩
theorem ag_I1 {b k : Int32} (hk : k = nI 1) : ag_i hI1 (.inr "java/lang/IllegalArgumentException") (.inl (some (.int b))) k := Or.inr ⟨_, ("java/lang/IllegalArgumentException", nI 1), b, rfl, rfl, hk, by decide, rfl⟩
theorem ag_NI1 {b k : Int32} (hk : k = nI 1) : ag_i hNI (.inr "java/util/NoSuchElementException") (.inl (some (.int b))) k := Or.inr ⟨_, ("java/util/NoSuchElementException", nI 1), b, rfl, rfl, hk, by decide, rfl⟩
theorem ag_NI2 {b k : Int32} (hk : k = nI 2) : ag_i hNI (.inr "java/lang/IllegalArgumentException") (.inl (some (.int b))) k := Or.inr ⟨_, ("java/lang/IllegalArgumentException", nI 2), b, rfl, by decide, hk, by decide, rfl⟩
theorem ag_lok {hl : List (String × Int32)} {v x : Int64} {k : Int32} (h : v = x) (hk : k = nI 0) : ag_l hl (.inl (some (.long v))) (.inl (some (.long x))) k := Or.inl ⟨v, rfl, by rw [h], hk⟩
theorem ag_lNI1 {b : Int64} {k : Int32} (hk : k = nI 1) : ag_l hNI (.inr "java/util/NoSuchElementException") (.inl (some (.long b))) k := Or.inr ⟨_, ("java/util/NoSuchElementException", nI 1), b, rfl, rfl, hk, by decide, rfl⟩
theorem ag_lNI2 {b : Int64} {k : Int32} (hk : k = nI 2) : ag_l hNI (.inr "java/lang/IllegalArgumentException") (.inl (some (.long b))) k := Or.inr ⟨_, ("java/lang/IllegalArgumentException", nI 2), b, rfl, by decide, hk, by decide, rfl⟩
/-- what is not written stays; what is, is told -/
theorem rA_k {ps : vf_K} {M N : eg_M} (hf : vf ps M N) (h : r_A M) (h1 : vf_d rd_I ps = true ∨ k_I N) (h2 : vf_d rd_tw ps = true ∨ r_tw N) (h3 : vf_d rd_ch ps = true ∨ r_ch N) (h4 : vf_d rd_ev ps = true ∨ r_ev N) (h5 : vf_d rd_tp ps = true ∨ r_tp N) (h6 : vf_d rd_tx ps = true ∨ r_tx N) (h7 : vf_d rd_ho ps = true ∨ r_ho N) (h8 : vf_d rd_lo ps = true ∨ r_lo N) (h9 : vf_d rd_pl ps = true ∨ r_pl N) (h10 : vf_d rd_pn ps = true ∨ r_pn N) (h11 : vf_d rd_wi ps = true ∨ r_wi N) (h12 : vf_d rd_fr ps = true ∨ r_fr N) : r_A N := by
  obtain ⟨a1, a2, a3, a4, a5, a6, a7, a8, a9, a10, a11, a12⟩ := h
  exact ⟨h1.elim (fun z => kp_I (vf_sm hf z) a1) id, h2.elim (fun z => kp_tw (vf_sm hf z) a2) id, h3.elim (fun z => kp_ch (vf_sm hf z) a3) id, h4.elim (fun z => kp_ev (vf_sm hf z) a4) id, h5.elim (fun z => kp_tp (vf_sm hf z) a5) id, h6.elim (fun z => kp_tx (vf_sm hf z) a6) id, h7.elim (fun z => kp_ho (vf_sm hf z) a7) id, h8.elim (fun z => kp_lo (vf_sm hf z) a8) id, h9.elim (fun z => kp_pl (vf_sm hf z) a9) id, h10.elim (fun z => kp_pn (vf_sm hf z) a10) id, h11.elim (fun z => kp_wi (vf_sm hf z) a11) id, h12.elim (fun z => kp_fr (vf_sm hf z) a12) id⟩
/-- only what the model tells of its last call, and the law's row -/
theorem rA_0 {M N : eg_M} (hf : vf [(121, some 1), (177, none)] M N) (h : r_A M) : r_A N := rA_k hf h (Or.inl rfl) (Or.inl rfl) (Or.inl rfl) (Or.inl rfl) (Or.inl rfl) (Or.inl rfl) (Or.inl rfl) (Or.inl rfl) (Or.inl rfl) (Or.inl rfl) (Or.inl rfl) (Or.inl rfl)
theorem sl_177 (N : eg_M) (w : Int64) : eg_gl (eg_sl N 177 0 w) 177 0 = w := rfl
theorem rA_c {M : eg_M} {w : Int64} {k : Int32} (h : r_A M) : r_A (eg_si (eg_sl M 177 0 w) 121 1 k) := rA_0 (vf_si (vf_sl vf_0 rfl) rfl) h
theorem rA_cc {M : eg_M} {w : Int64} {k j : Int32} (h : r_A M) : r_A (eg_si (eg_si (eg_sl M 177 0 w) 121 1 j) 121 1 k) := rA_0 (vf_si (vf_si (vf_sl vf_0 rfl) rfl) rfl) h
theorem rA_w {M : eg_M} {w : Int64} (h : r_A M) : r_A (eg_sl M 177 0 w) := rA_0 (vf_sl vf_0 rfl) h
/-- a number below a count, said by the class and by the model -/
theorem ix_cm {x c : Int32} {m : Nat} (hm : m < 2 ^ 31) (h : eg_cn x m) : (¬ c < nI 0 ∧ ¬ (x - nI 1) < c) ↔ (¬ c < 0 ∧ ¬ x ≤ c) := by
  obtain ⟨n, hn, rfl⟩ := h
  have z0 : nI 0 = (0 : Int32) := rfl
  constructor
  · rintro ⟨h1, h2⟩
    obtain ⟨k, h3, h4, rfl⟩ := k_idx hm ⟨n, hn, rfl⟩ h1 h2
    rw [n_c (by omega)] at h4
    exact ⟨h1, fun z => by rw [n_le (by omega) (by omega)] at z; omega⟩
  · rintro ⟨h1, h2⟩
    refine ⟨h1, fun z => ?_⟩
    have h3 := Int32.not_le.mp h2
    cases n with
    | zero => exact h1 (Int32.lt_of_lt_of_le h3 (by decide))
    | succ n =>
      rw [n_p] at z
      obtain ⟨k, hk, rfl⟩ := nI_of2 (M := nI (n + 1)) (n := n + 1) (nI_toInt (by omega)) h1 (Int32.le_of_lt h3)
      rw [n_lt (by omega) (by omega)] at z h3
      omega
/-! what is asked without loops -/
theorem pr_fault : pr ag_i [] s_X11_fault s_X12_fault [] := by
  intro M hA
  refine ⟨trivial, fun w => au_X12_fault ⟨rA_c hA, rfl, ag_ok ?_ rfl⟩⟩
  exact hA.2.2.2.2.1.2.1.symm
theorem pr_empty : pr ag_v [] s_X11_empty s_X12_empty [] := by
  intro M hA
  refine au_X11_empty fun w => au_X12_empty ⟨?_, rfl, rfl, rfl⟩
  refine rA_k (ps := [(46, some 0), (46, some 5), (177, none), (121, some 1), (121, some 52), (121, some 53)]) (vf_si (vf_si (vf_si (vf_sl (vf_si (vf_si vf_0 rfl) rfl) rfl) rfl) rfl) rfl) hA (Or.inl rfl) (Or.inl rfl) (Or.inl rfl) (Or.inl rfl) (Or.inl rfl) (Or.inl rfl) (Or.inr ?_) (Or.inl rfl) (Or.inl rfl) (Or.inl rfl) (Or.inl rfl) (Or.inl rfl)
  refine ⟨⟨⟨0, by decide, rfl⟩, rfl⟩, ⟨⟨0, by decide, rfl⟩, rfl⟩, fun h hh => ?_, fun g hg => ?_⟩
  · exact absurd hh (Nat.not_lt_zero h)
  · exact absurd hg (Nat.not_lt_zero g)
theorem pr_clear : pr ag_v [] s_X11_clear s_X12_clear [] := by
  intro M hA
  refine au_X11_clear fun w => au_X12_clear ⟨?_, rfl, rfl, rfl⟩
  refine rA_k (ps := [(72, some 0), (177, none), (121, some 1), (121, some 65)]) (vf_si (vf_si (vf_sl (vf_si vf_0 rfl) rfl) rfl) rfl) hA (Or.inl rfl) (Or.inl rfl) (Or.inl rfl) (Or.inl rfl) (Or.inl rfl) (Or.inl rfl) (Or.inl rfl) (Or.inl rfl) (Or.inr ?_) (Or.inl rfl) (Or.inl rfl) (Or.inl rfl)
  exact ⟨⟨0, by decide, rfl⟩, rfl, fun p hp => absurd hp (Nat.not_lt_zero p)⟩
theorem pr_count (a : Int32) : pr ag_i hN1 s_X11_count s_X12_count [.int a] := by
  intro M hA
  have hA' := hA
  obtain ⟨a1, a2, a3, a4, a5, a6, a7, a8, a9, a10, a11, a12⟩ := hA'
  have no : ∀ {P Q : Prop}, P → ¬ P → Q := fun h g => absurd h g
  refine au_X11_count a (fun z w => ?_) (fun z w => ?_) (fun z w => ?_) (fun z w => ?_) (fun z w => ?_) (fun z w => ?_) (fun z w => ?_) (fun z w => ?_) (fun z w => ?_) (fun z w => ?_)
  · exact au_X12_count a (fun _ => ⟨rA_cc hA, rfl, ag_N1 rfl⟩) (fun y => no z y.1) (fun y => no z y.1) (fun y => no z y.1) (fun y => no z y.1) (fun y => no z y.1) (fun y => no z y.1) (fun y => no z y.1) (fun y => no z y.1) (fun y => no z y.1)
  · exact au_X12_count a (fun y => by omega) (fun y => ⟨rA_c hA, rfl, ag_ok a3.1.symm rfl⟩) (fun y => by omega) (fun y => by omega) (fun y => by omega) (fun y => by omega) (fun y => by omega) (fun y => by omega) (fun y => by omega) (fun y => by omega)
  · exact au_X12_count a (fun y => by omega) (fun y => by omega) (fun y => ⟨rA_c hA, rfl, ag_ok a2.2.1.symm rfl⟩) (fun y => by omega) (fun y => by omega) (fun y => by omega) (fun y => by omega) (fun y => by omega) (fun y => by omega) (fun y => by omega)
  · exact au_X12_count a (fun y => by omega) (fun y => by omega) (fun y => by omega) (fun y => ⟨rA_c hA, rfl, ag_ok a3.2.1.symm rfl⟩) (fun y => by omega) (fun y => by omega) (fun y => by omega) (fun y => by omega) (fun y => by omega) (fun y => by omega)
  · exact au_X12_count a (fun y => by omega) (fun y => by omega) (fun y => by omega) (fun y => by omega) (fun y => ⟨rA_c hA, rfl, ag_ok a4.1.symm rfl⟩) (fun y => by omega) (fun y => by omega) (fun y => by omega) (fun y => by omega) (fun y => by omega)
  · exact au_X12_count a (fun y => by omega) (fun y => by omega) (fun y => by omega) (fun y => by omega) (fun y => by omega) (fun y => ⟨rA_c hA, rfl, ag_ok a7.1.2.symm rfl⟩) (fun y => by omega) (fun y => by omega) (fun y => by omega) (fun y => by omega)
  · exact au_X12_count a (fun y => by omega) (fun y => by omega) (fun y => by omega) (fun y => by omega) (fun y => by omega) (fun y => by omega) (fun y => ⟨rA_c hA, rfl, ag_ok a7.2.1.2.symm rfl⟩) (fun y => by omega) (fun y => by omega) (fun y => by omega)
  · exact au_X12_count a (fun y => by omega) (fun y => by omega) (fun y => by omega) (fun y => by omega) (fun y => by omega) (fun y => by omega) (fun y => by omega) (fun y => ⟨rA_c hA, rfl, ag_ok a9.2.1.symm rfl⟩) (fun y => by omega) (fun y => by omega)
  · exact au_X12_count a (fun y => by omega) (fun y => by omega) (fun y => by omega) (fun y => by omega) (fun y => by omega) (fun y => by omega) (fun y => by omega) (fun y => by omega) (fun y => ⟨rA_c hA, rfl, ag_ok a6.1.symm rfl⟩) (fun y => by omega)
  · exact au_X12_count a (fun y => by omega) (fun y => by omega) (fun y => by omega) (fun y => by omega) (fun y => by omega) (fun y => by omega) (fun y => by omega) (fun y => by omega) (fun y => by omega) (fun y => ⟨rA_c hA, rfl, ag_ok a5.1.symm rfl⟩)
theorem pr_friend (a : Int32) : pr ag_i hN1 s_X11_friend s_X12_friend [.int a] := by
  intro M hA
  have tw := hA.2.1
  have e : eg_gi M 121 3 = eg_gi M 2 4 := tw.2.1
  have hix := ix_cm (c := a) (by decide) tw.1
  have hk : (¬ a < 0 ∧ ¬ eg_gi M 2 4 ≤ a) → ∃ t, t < 16 ∧ a = nI t := fun z => by
    obtain ⟨n, h1, _, h3⟩ := k_idx (by decide) tw.1 (hix.mpr z).1 (hix.mpr z).2
    exact ⟨n, h1, h3⟩
  have g1 : ∀ w : Int64, eg_gi (eg_si (eg_sl M 177 0 w) 121 1 (nI 0)) 121 3 = eg_gi M 2 4 := fun w => e
  refine au_X11_friend a (fun z => ?_) (fun z w => ?_) (fun z w => ?_)
  · obtain ⟨t, ht, rfl⟩ := hk (hix.mp (Classical.not_not.mp z))
    exact (n_in (by omega) (by decide)).mpr ht
  · refine au_X12_friend a (fun y => ?_) (fun y => ⟨rA_cc hA, rfl, ag_N1 rfl⟩) (fun y => ?_) (fun y => ?_)
    all_goals rw [g1] at y
    · exact absurd (hix.mpr (Classical.not_not.mp y)) z
    · exact absurd (hix.mpr y.1) z
    · exact absurd (hix.mpr y.1) z
  · obtain ⟨t, ht, rfl⟩ := hk (hix.mp z)
    have fr := hA.2.2.2.2.2.2.2.2.2.2.2 t ht
    refine au_X12_friend (nI t) (fun y => ?_) (fun y => ?_) (fun y => ⟨rA_c hA, rfl, ag_ok ?_ rfl⟩) (fun y => ⟨rA_c hA, rfl, ag_ok ?_ rfl⟩)
    · intro _
      exact (n_in (by omega) (by decide)).mpr ht
    · rw [g1] at y
      exact absurd (hix.mp z) y
    · rw [n_c (by omega), fr]
      exact if_pos y.2
    · rw [n_c (by omega), fr]
      exact if_neg y.2

/-! what the model has read is what its clauses say -/
theorem m_sl_sp {C : Nat → Int32} {b : Nat} : ∀ {A B : List Int32} {a : Nat}, m_sl C b (A ++ B) a → m_sl C (a + px_W A) A a ∧ m_sl C b B (a + px_W A)
  | [], B, a, h => ⟨rfl, h⟩
  | s :: A, B, a, h => by
    have h : m_sl C b (s :: (A ++ B)) a := h
    unfold m_sl at h
    by_cases hs : 0 ≤ s.toInt
    · rw [if_pos hs] at h
      obtain ⟨h1, h2⟩ := m_sl_sp h.2.2
      have e : a + px_W (s :: A) = a + 2 + px_W A := by
        show a + ((if 0 ≤ s.toInt then 2 else 1) + px_W A) = _
        rw [if_pos hs]
        omega
      rw [e]
      refine ⟨?_, h2⟩
      unfold m_sl
      rw [if_pos hs]
      exact ⟨h.1, h.2.1, h1⟩
    · rw [if_neg hs] at h
      obtain ⟨h1, h2⟩ := m_sl_sp h.2
      have e : a + px_W (s :: A) = a + 1 + px_W A := by
        show a + ((if 0 ≤ s.toInt then 2 else 1) + px_W A) = _
        rw [if_neg hs]
        omega
      rw [e]
      refine ⟨?_, h2⟩
      unfold m_sl
      rw [if_neg hs]
      exact ⟨h.1, h1⟩
theorem px_fm_aa (A B : List px_K) : px_fm (A ++ B) = px_fm A ++ px_fm B := by
  unfold px_fm
  rw [List.flatMap_append]
theorem px_W_pos {P : List Int32} (h : ¬ P = []) : 0 < px_W P := by
  cases P with
  | nil => exact absurd rfl h
  | cons s P =>
    show 0 < (if 0 ≤ s.toInt then 2 else 1) + px_W P
    split <;> omega
theorem m_ru_of {r n : Nat} {T : Nat → Int32} {M : eg_M} {t : px_T} {CL : List px_K} {p q : Int32} (hn : n ≤ 400) (h : m_rc r M (.inr (t, CL, p, q))) (ho : px_ok T n (.inr (t, CL, p, q))) : m_ru M r CL := by
  obtain ⟨⟨n1, hn1, eN, g1, g2, g3, g4, g5, g6, g7⟩, b1, b2, b3, b4, b5⟩ := h
  obtain ⟨o1, o2, o3, o4, o5, o6⟩ := ho
  have hb := px_tok_b o1
  refine ⟨b1, b2, fun i hi => ?_⟩
  obtain ⟨c1, c2, c3, c4⟩ := b3 i hi
  have eC : CL = CL.take i ++ (CL[i] :: CL.drop (i + 1)) := by
    rw [← List.drop_eq_getElem_cons hi, List.take_append_drop]
  have eT : CL.take (i + 1) = CL.take i ++ [CL[i]] := (List.take_append_getElem hi).symm
  have eW : px_W (px_fm (CL.take (i + 1))) = px_W (px_fm (CL.take i)) + px_W CL[i].2.1 + px_W CL[i].2.2 := by
    rw [eT, px_fm_a, px_W_a, px_W_a]
    omega
  have eF : px_fm CL = px_fm (CL.take i) ++ (CL[i].2.1 ++ (CL[i].2.2 ++ px_fm (CL.drop (i + 1)))) := by
    conv => lhs; rw [eC]
    rw [px_fm_aa]
    show px_fm (CL.take i) ++ ((CL[i].2.1 ++ CL[i].2.2) ++ px_fm (CL.drop (i + 1))) = _
    rw [List.append_assoc CL[i].2.1]
  have hWW := px_W_fm CL
  have hle : px_W (px_fm (CL.take (i + 1))) ≤ px_W (px_fm CL) := by
    rw [eW, eF, px_W_a, px_W_a, px_W_a]
    omega
  rw [eF] at g7
  obtain ⟨s1, s2⟩ := m_sl_sp g7
  obtain ⟨s3, s4⟩ := m_sl_sp s2
  obtain ⟨s5, s6⟩ := m_sl_sp s4
  obtain ⟨k1, k2, k3⟩ := o4 CL[i] (List.getElem_mem hi)
  refine ⟨c1, _, _, _, c2, c3, c4, by omega, ?_, p_ok_m (by decide) k2, ?_⟩
  · rw [← Nat.add_assoc]
    exact s3
  · rw [eW]
    rcases k3 with z | z
    · rw [z]
      exact Or.inl ⟨Nat.add_zero _, rfl⟩
    · have := px_W_pos (p_ok_ne z)
      refine Or.inr ⟨by omega, ?_, p_ok_m (by decide) z⟩
      rw [← Nat.add_assoc (640 * r), ← Nat.add_assoc (640 * r)]
      exact s5

/-! WHAT WAS MADE IS THE WORLD -/
def mwo (N : eg_M) : eg_M := ([], N.2.1, N.2.2.1, N.2.2.2)
theorem tw_sh : ∀ p, p < 178 → (wd_B p).1 = ((o_S 342).getD p (99, 0, [])).1 ∧ (wd_B p).2.1 = ((o_S 342).getD p (99, 0, [])).2.1 ∧ ((o_S 342).getD p (99, 0, [])).2.2 = [] := by decide +kernel
theorem tw_len : ∀ p, p < 178 → (wd_B p).2.2.length ≤ 85 := by decide +kernel
theorem tw_ref0 : ∀ p, p < 178 → ∀ k, k < 85 → (wd_B p).2.2.getD k none = none ∨ eg_gr (mem 342) p k = (wd_B p).2.2.getD k none := by decide +kernel
/-- a memory of w0 that is the world's -/
def tw_K (N : eg_M) : Prop := eg_N w0 N = 178 ∧ (∀ p, p < 178 → eg_sh w0 N p = ((wd_B p).1, (wd_B p).2.1, [])) ∧ ∀ p, p < 178 → ∀ k, k < 85 → (wd_B p).2.2.getD k none = none ∨ eg_gr N p k = (wd_B p).2.2.getD k none
theorem tw_s1 {p : Nat} (h : p < 178) : eg_sh w0 (mem 342) p = ((wd_B p).1, (wd_B p).2.1, []) := by
  obtain ⟨h1, h2, h3⟩ := tw_sh p h
  refine (so (a := 342) (p := p) (x := (o_S 342).getD p (99, 0, [])) rfl).trans ?_
  rw [h1, h2]
  generalize (o_S 342).getD p (99, 0, []) = x at h3 ⊢
  obtain ⟨x1, x2, x3⟩ := x
  have h3 : x3 = [] := h3
  rw [h3]
theorem tw_mem : tw_K (mem 342) := ⟨sN (by decide +kernel), fun _ h => tw_s1 h, tw_ref0⟩
section TWN
variable {N : eg_M}
theorem tw_N2 : eg_N wd (mwo N) = 178 := rfl
theorem tw_s0 {p : Nat} (h : p < 178) : eg_sh wd (mwo N) p = wd_B p := by
  unfold eg_sh
  rw [eg_blt_t (show p < wd.2.1 from h)]
  rfl
theorem tw_ref (hN : tw_K N) {p : Nat} (h : p < 178) (k : Nat) : eg_ref (eg_sh wd (mwo N) p) (mwo N) p k = eg_ref (eg_sh w0 N p) N p k := by
  rw [tw_s0 h, hN.2.1 p h]
  have e1 : eg_ref ((wd_B p).1, (wd_B p).2.1, []) N p k = eg_gr N p k := by
    unfold eg_ref
    cases k <;> rfl
  rw [e1]
  unfold eg_ref
  have e2 : eg_gr (mwo N) p k = eg_gr N p k := rfl
  by_cases hk : k < 85
  · rcases hN.2.2 p h k hk with z | z
    · rw [z]
      exact e2
    · rw [e2, z]
      cases (wd_B p).2.2.getD k none with
      | none => rfl
      | some q => rfl
  · have := tw_len p h
    rw [List.getD_eq_getElem?_getD, List.getElem?_eq_none (by omega)]
    exact e2
theorem tw_ent (hN : tw_K N) {aC : Nat → ClassId} {adK ad : Nat → Nat} {p : Nat} (h : p < 178) : eg_ent wd aC adK ad (mwo N) p = eg_ent w0 aC adK ad N p := by
  have s0 := tw_s0 (N := N) h
  have s1 := hN.2.1 p h
  have hr := tw_ref hN h
  rcases (show (wd_B p).1 = 0 ∨ (wd_B p).1 = 1 ∨ (wd_B p).1 = 2 ∨ (wd_B p).1 = 3 ∨ 4 ≤ (wd_B p).1 by omega) with e | e | e | e | e
  · rw [eg_ent_o (w := wd) (M := (mwo N)) (ci := (wd_B p).2.1) (by rw [s0]; exact e) (by rw [s0]), eg_ent_o (w := w0) (M := N) (ci := (wd_B p).2.1) (by rw [s1]; exact e) (by rw [s1])]
    refine congrArg (fun z => Sum.inr ((wd_B p).2.1, z)) (List.map_congr_left (fun k _ => ?_))
    have hf : eg_fld wd (mwo N) p (wd_B p).2.1 k = eg_fld w0 N p (wd_B p).2.1 k := by
      unfold eg_fld
      rw [hr]
      rfl
    rw [hf]
  · rw [eg_ent_i (w := wd) (M := (mwo N)) (by rw [s0]; exact e), eg_ent_i (w := w0) (M := N) (by rw [s1]; exact e)]
    unfold eg_len
    rw [s0, s1]
    rfl
  · rw [eg_ent_l (w := wd) (M := (mwo N)) (by rw [s0]; exact e), eg_ent_l (w := w0) (M := N) (by rw [s1]; exact e)]
    unfold eg_len
    rw [s0, s1]
    rfl
  · rw [eg_ent_z (w := wd) (M := (mwo N)) (by rw [s0]; exact e), eg_ent_z (w := w0) (M := N) (by rw [s1]; exact e)]
    unfold eg_len
    rw [s0, s1]
    rfl
  · rw [eg_ent_q (w := wd) (M := (mwo N)) (k := (wd_B p).1) (by rw [s0]) e, eg_ent_q (w := w0) (M := N) (k := (wd_B p).1) (by rw [s1]) e]
    have ha : eg_ea wd adK ad (mwo N) p = eg_ea w0 adK ad N p := by
      funext i
      unfold eg_ea
      rw [hr, s0, s1]
      rfl
    rw [ha]
    unfold eg_len
    rw [s0, s1]
theorem tw_ws (hN : tw_K N) {aC : Nat → ClassId} {adK ad : Nat → Nat} : eg_ws wd aC adK ad (mwo N) = eg_ws w0 aC adK ad N := by
  unfold eg_ws
  rw [hN.1, tw_N2]
  exact List.map_congr_left (fun p hp => by rw [tw_ent hN (List.mem_range.mp hp)])
theorem tw_wf (hN : tw_K N) (h : eg_wf w0 N) : eg_wf wd (mwo N) := by
  obtain ⟨h1, h2, h3⟩ := h
  rw [hN.1] at h1 h2 h3
  have lt : ∀ p, (eg_sh wd (mwo N) p).1 ≠ 99 → p < 178 := fun p hp => by
    have := eg_sh_lt hp
    rw [tw_N2] at this
    exact this
  refine ⟨fun p k q a b g => ?_, fun p k q a g => ?_, fun p k a b g => ?_⟩
  · rw [tw_N2]
    have hp := lt p (by omega)
    have s0 := tw_s0 (N := N) hp
    have s1 := hN.2.1 p hp
    rw [s0] at a b
    refine h1 p k q (by rw [s1]; exact a) (by rw [s1]; exact b) ?_
    rw [← tw_ref hN hp]
    exact g
  · rw [tw_N2]
    have hp := lt p (by omega)
    rw [tw_s0 hp] at a
    exact h2 p k q (by rw [hN.2.1 p hp]; exact a) g
  · rw [tw_N2] at b ⊢
    rw [tw_s0 b] at a g
    exact h3 p k (by rw [hN.2.1 p b]; exact a) b (by rw [hN.2.1 p b]; exact g)
end TWN
section TW
variable {p : Program} {l : Launch} {e : Env} {R : Room} {s : State} {m : MethodId} {args : Array Value} {below : List Frame} {meth : Method} {c : Code} {Q : State → Prop}
variable {D : va_G} {cl : List vw_C} {aC : Nat → ClassId} {adK : Nat → Nat} {A : Nat → Prop} {nL N0 : Nat} {ad0 : Nat → Nat} {pc cu su : Nat} {ls : List (Option Value)} {st : List Value}
/-- from the world before anything was made to the world -/
theorem tw_G {N : eg_M} (hN : tw_K N) (h : eg_G p l e R s m args below meth c Q wd D cl aC adK A nL ad0 N0 pc cu su ls st (mwo N)) : eg_G p l e R s m args below meth c Q w0 D cl aC adK A nL ad0 N0 pc cu su ls st N := by
  intro ad H locs arr hH hL hst
  obtain ⟨h1, h2, h3, h4, h5⟩ := hH
  rw [hN.1] at h5 hL hst
  refine h ad H locs arr ⟨by rw [tw_ws hN]; exact h1, by rw [tw_ws hN]; exact h2, h3, tw_wf hN h4, by rw [tw_N2]; exact h5⟩ ?_ ?_
  · rw [tw_N2]
    exact hL
  · rw [tw_N2]
    exact hst
end TW

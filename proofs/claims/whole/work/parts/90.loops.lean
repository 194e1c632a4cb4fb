/-! mathematics: a text means the same to the class and to the model -/
theorem p_run_a (V : Nat → Int64) : ∀ (A B : List Int32) (k : List Int64), p_run V (A ++ B) k = p_run V B (p_run V A k)
  | [], _, _ => rfl
  | s :: A, B, k => p_run_a V A B (p_st V s k)
theorem p_st_h {V : Nat → Int64} {m e : Nat} {s : Int32} {P : List Int32} {l : List Int64} (h : p_ok m e (s :: P) l.length) : p_ok m e P (p_st V s l).length ∧ ∀ k, p_st V s (l ++ k) = p_st V s l ++ k := by
  unfold p_ok at h
  unfold p_st
  by_cases c1 : 0 ≤ s.toInt
  · rw [if_pos c1] at h
    rw [if_pos c1]
    refine ⟨h.2, fun k => ?_⟩
    rw [if_pos c1]
    rfl
  · rw [if_neg c1] at h
    rw [if_neg c1]
    by_cases c2 : s.toInt ≤ -11
    · rw [if_pos c2] at h
      rw [if_pos c2]
      refine ⟨h.2.2, fun k => ?_⟩
      rw [if_neg c1, if_pos c2]
      rfl
    · rw [if_neg c2] at h
      rw [if_neg c2]
      by_cases c3 : s.toInt = -3
      · rw [if_pos c3] at h
        rw [if_pos c3]
        match l, h with
        | x :: r, h => exact ⟨h.2, fun k => by rw [if_neg c1, if_neg c2, if_pos c3]; rfl⟩
        | [], h => exact absurd h.1 (by decide)
      · rw [if_neg c3] at h
        rw [if_neg c3]
        match l, h with
        | y :: x :: r, h => exact ⟨h.2.2, fun k => by rw [if_neg c1, if_neg c2, if_neg c3]; rfl⟩
        | [y], h => exact absurd (show 2 ≤ 1 from h.2.1) (by decide)
        | [], h => exact absurd h.2.1 (by decide)
theorem p_run_h {V : Nat → Int64} {m e : Nat} : ∀ {P : List Int32} {l : List Int64}, p_ok m e P l.length → (p_run V P l).length = e ∧ ∀ k, p_run V P (l ++ k) = p_run V P l ++ k
  | [], l, h => ⟨h, fun _ => rfl⟩
  | s :: P, l, h => by
    obtain ⟨h1, h2⟩ := p_st_h (V := V) h
    obtain ⟨h3, h4⟩ := p_run_h (V := V) h1
    refine ⟨h3, fun k => ?_⟩
    show p_run V P (p_st V s (l ++ k)) = _
    rw [h2 k]
    exact h4 k
theorem p_run_1 {V : Nat → Int64} {m : Nat} {P : List Int32} (h : p_ok m 1 P 0) (k : List Int64) : p_run V P k = p_v V P :: k := by
  obtain ⟨h1, h2⟩ := p_run_h (V := V) (l := []) h
  have h2 := h2 k
  rw [List.nil_append] at h2
  rw [h2]
  unfold p_v
  match p_run V P [], h1 with
  | [x], _ => rfl
theorem p_v_cs (V : Nat → Int64) {c : px_K} (h : px_ko c) : p_v V (px_cs c) = p_cv V c.2.1 c.2.2 := by
  obtain ⟨_, h1, h2⟩ := h
  unfold px_cs p_cv
  rcases h2 with z | z
  · rw [if_pos z, if_neg (fun y => y.1 z)]
  · have hn := p_ok_ne z
    rw [if_neg hn]
    show (p_run V (c.2.1 ++ c.2.2 ++ [-nI 10]) []).headD 0 = _
    rw [p_run_a, p_run_a, p_run_1 h1, p_run_1 z]
    show (if p_v V c.2.2 = lN 0 then p_v V c.2.1 else lN 0) = _
    by_cases hy : p_v V c.2.2 = lN 0
    · rw [if_pos hy, if_neg (fun y => y.2 hy)]
    · rw [if_neg hy, if_pos ⟨hn, hy⟩]
/-- the class's text of these clauses -/
def px_tx (CL : List px_K) : List (Int32 × List Int32) := CL.map (fun c => (c.1, px_cs c))
theorem p_one_cs (V : Nat → Int64) {c : px_K} (h : px_ko c) : p_oneS V (c.1, px_cs c) = p_one V c := by
  unfold p_oneS p_one
  dsimp only
  rw [p_v_cs V h]
theorem fold_cg {α β γ : Type} (f : γ → α → γ) (g : γ → β → γ) (m : β → α) : ∀ (L : List β) (s : γ), (∀ c ∈ L, ∀ s, f s (m c) = g s c) → (L.map m).foldl f s = L.foldl g s
  | [], _, _ => rfl
  | c :: L, s, h => by
    rw [List.map_cons, List.foldl_cons, List.foldl_cons, h c List.mem_cons_self s]
    exact fold_cg f g m L _ (fun d hd => h d (List.mem_cons_of_mem _ hd))
theorem p_cla_cs (V : Nat → Int64) (CL : List px_K) (h : ∀ c ∈ CL, px_ko c) : p_claS V (px_tx CL) = p_cla V CL := fold_cg _ _ _ CL _ (fun c hc s => congrArg (fun z => s + z) (p_one_cs V (h c hc)))
theorem p_slp_cs (V : Nat → Int64) (CL : List px_K) (h : ∀ c ∈ CL, px_ko c) : p_slpS V (px_tx CL) = p_slp V CL := by
  have e1 : ∀ (f : Int32 × List Int32 → Bool) (g : px_K → Bool), (∀ c ∈ CL, f (c.1, px_cs c) = g c) → (px_tx CL).any f = CL.any g := by
    intro f g hfg
    unfold px_tx
    rw [List.any_map]
    clear h
    induction CL with
    | nil => rfl
    | cons c CL ih =>
      rw [List.any_cons, List.any_cons, ih (fun d hd => hfg d (List.mem_cons_of_mem _ hd))]
      show (f (c.1, px_cs c) || _) = _
      rw [hfg c List.mem_cons_self]
  unfold p_slpS p_slp
  rw [e1 _ (fun c => decide (c.1 = nI 1 ∧ ¬ p_cv V c.2.1 c.2.2 = lN 0)) (fun c hc => ?_), e1 _ (fun c => decide (c.1 = nI 1)) (fun c hc => rfl)]
  rw [p_v_cs V (h c hc)]

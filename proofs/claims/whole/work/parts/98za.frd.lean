/-! FRIENDS: stable pairings, counted in two ways -/
section FRD
variable (ρ : Nat → Nat → Int32)
def f_my (t o : Nat) : Bool := decide (¬ ρ t o = -nI 1 ∧ ¬ ρ o t = -nI 1)
def f_wd (p : Nat → Int32) (t o : Nat) : Bool := decide (p t = -nI 1 ∨ ρ t o < ρ t (p t).toNatClampNeg)
def f_bl (p : Nat → Int32) (t o : Nat) : Bool := f_my ρ t o && (f_wd ρ p t o && f_wd ρ p o t)
def f_st (F S : List Nat) (p : Nat → Int32) : Bool := F.all (fun t => S.all (fun o => !f_bl ρ p t o))
def f_up (p : Nat → Int32) (t o : Nat) : Nat → Int32 := fun y => if y = o then nI t else if y = t then nI o else p y
def f_gp (S : List Nat) : List Nat → (Nat → Int32) → List (Nat → Int32)
  | [], p => [p]
  | t :: F, p => f_gp S F p ++ S.flatMap (fun o => if p o = -nI 1 ∧ f_my ρ t o = true then f_gp S F (f_up p t o) else [])
def f_wl (p : Nat → Int32) (t : Nat) (x : Int32) : Bool := decide (¬ x = -nI 1) && f_bl ρ p t x.toNatClampNeg
def f_qr (D : List Nat) (t : Nat) (p : Nat → Int32) : Bool := D.any (fun f => f_wl ρ p t (p f) || f_wl ρ p f (p t))
def f_cf (S : List Nat) : List Nat → List Nat → (Nat → Int32) → Nat
  | [], D, p => if S.any (fun o => decide (p o = -nI 1) && D.any (fun t => f_bl ρ p t o)) = true then 0 else 1
  | t :: F, D, p => (if f_qr ρ D t p = true then 0 else f_cf S F (D ++ [t]) p) + (S.map (fun o => if p o = -nI 1 ∧ f_my ρ t o = true then (if f_qr ρ D t (f_up p t o) = true then 0 else f_cf S F (D ++ [t]) (f_up p t o)) else 0)).sum
/-- who is paired so far -/
def f_ok (D S : List Nat) (p : Nat → Int32) : Prop := (∀ t ∈ D, p t = -nI 1 ∨ ∃ o ∈ S, p t = nI o ∧ p o = nI t ∧ f_my ρ t o = true) ∧ ∀ o ∈ S, p o = -nI 1 ∨ ∃ t ∈ D, p o = nI t ∧ p t = nI o
def f_qf (D : List Nat) (p : Nat → Int32) : Prop := ∀ t ∈ D, ∀ f ∈ D, f_wl ρ p t (p f) = false
variable {ρ}
theorem f_bl_of {p q : Nat → Int32} {t o : Nat} (h1 : q t = p t) (h2 : q o = p o) : f_bl ρ q t o = f_bl ρ p t o := by
  unfold f_bl f_wd
  rw [h1, h2]
theorem gp_keep {S : List Nat} : ∀ {F : List Nat} {p q : Nat → Int32}, q ∈ f_gp ρ S F p → ∀ y, y ∉ F → (y ∈ S → ¬ p y = -nI 1) → q y = p y
  | [], p, q, hq, y, _, _ => by
    rw [List.mem_singleton.mp hq]
  | t :: F, p, q, hq, y, hy, hs => by
    have hyt : ¬ y = t := fun e => hy (by rw [e]; exact List.mem_cons_self)
    have hyF : y ∉ F := fun e => hy (List.mem_cons_of_mem _ e)
    rcases List.mem_append.mp hq with z | z
    · exact gp_keep z y hyF hs
    · obtain ⟨o, ho, z⟩ := List.mem_flatMap.mp z
      by_cases c : p o = -nI 1 ∧ f_my ρ t o = true
      · rw [if_pos c] at z
        have hyo : ¬ y = o := fun e => hs (by rw [e]; exact ho) (by rw [e]; exact c.1)
        have e1 : f_up p t o y = p y := by
          unfold f_up
          rw [if_neg hyo, if_neg hyt]
        rw [gp_keep z y hyF (fun hy2 => by rw [e1]; exact hs hy2), e1]
      · rw [if_neg c] at z
        exact absurd z List.not_mem_nil
theorem nI_ne {o : Nat} (h : o < 16) : ¬ nI o = -nI 1 := nI_m1 (by omega)
theorem f_part {S F D : List Nat} {t : Nat} (hnd : (D ++ t :: F).Nodup) (hdj : ∀ x ∈ D ++ t :: F, x ∉ S) (h16 : ∀ x ∈ S, x < 16) (h16' : ∀ x ∈ D ++ t :: F, x < 16) (ih : ∀ p, (∀ u ∈ F, p u = -nI 1) → f_ok ρ (D ++ [t]) S p → f_qf ρ (D ++ [t]) p → f_cf ρ S F (D ++ [t]) p = (f_gp ρ S F p).countP (f_st ρ ((D ++ [t]) ++ F) S)) {p : Nat → Int32} (hF : ∀ u ∈ F, p u = -nI 1) (hok : f_ok ρ (D ++ [t]) S p) (hqf : f_qf ρ D p) : (if f_qr ρ D t p = true then 0 else f_cf ρ S F (D ++ [t]) p) = (f_gp ρ S F p).countP (f_st ρ (D ++ t :: F) S) := by
  have eapp : (D ++ [t]) ++ F = D ++ t :: F := by simp
  by_cases hq : f_qr ρ D t p = true
  · rw [if_pos hq]
    symm
    rw [List.countP_eq_zero]
    intro q hqm hst
    obtain ⟨f, hf, hw⟩ := List.any_eq_true.mp hq
    have hft : ∀ x, x ∈ D ++ [t] → x ∉ F := fun x hx hxF => by
      rw [← eapp] at hnd
      exact (List.nodup_append.mp hnd).2.2 x hx x hxF rfl
    have keep : ∀ x, x ∈ D ++ [t] → q x = p x := fun x hx => gp_keep hqm x (hft x hx) (fun hxS => absurd hxS (hdj x (by rw [← eapp]; exact List.mem_append_left _ hx)))
    -- a blocking pair of p blocks q
    have key : ∀ a b, a ∈ D ++ [t] → b ∈ D ++ [t] → f_wl ρ p a (p b) = true → False := fun a b ha hb hwl => by
      unfold f_wl at hwl
      rw [Bool.and_eq_true, decide_eq_true_iff] at hwl
      obtain ⟨w1, w2⟩ := hwl
      rcases hok.1 b hb with z | ⟨o, ho, z1, z2, z3⟩
      · exact w1 z
      · have ho16 := h16 o ho
        rw [z1, n_c (by omega)] at w2
        have hb16 := h16' b (by rw [← eapp]; exact List.mem_append_left _ hb)
        have k1 : q o = p o := gp_keep hqm o (fun hoF => hdj o (by rw [← eapp]; exact List.mem_append_right _ hoF) ho) (fun _ => by rw [z2]; exact nI_ne hb16)
        have k2 : f_bl ρ q a o = true := by rw [f_bl_of (keep a ha) k1]; exact w2
        unfold f_st at hst
        have := List.all_eq_true.mp (List.all_eq_true.mp hst a (by rw [← eapp]; exact List.mem_append_left _ ha)) o ho
        rw [k2] at this
        exact Bool.noConfusion this
    rcases Bool.or_eq_true _ _ ▸ hw with z | z
    · exact key t f (List.mem_append_right _ List.mem_cons_self) (List.mem_append_left _ hf) z
    · exact key f t (List.mem_append_left _ hf) (List.mem_append_right _ List.mem_cons_self) z
  · rw [if_neg hq, ih p hF hok ?_, eapp]
    have hq' : ∀ f ∈ D, f_wl ρ p t (p f) = false ∧ f_wl ρ p f (p t) = false := fun f hf => by
      have := Bool.eq_false_iff.mpr hq
      unfold f_qr at this
      have := List.any_eq_false.mp this f hf
      rw [Bool.or_eq_true] at this
      exact ⟨Bool.eq_false_iff.mpr (fun z => this (Or.inl z)), Bool.eq_false_iff.mpr (fun z => this (Or.inr z))⟩
    intro a ha b hb
    rw [List.mem_append, List.mem_singleton] at ha hb
    rcases ha with ha | rfl
    · rcases hb with hb | rfl
      · exact hqf a ha b hb
      · exact (hq' a ha).2
    · rcases hb with hb | rfl
      · exact (hq' b hb).1
      · refine Bool.eq_false_iff.mpr (fun z => ?_)
        unfold f_wl f_bl f_wd at z
        simp only [Bool.and_eq_true, decide_eq_true_iff] at z
        rcases z.2.2.1 with y | y
        · exact z.1 y
        · exact Int32.lt_irrefl y
theorem f_cnt {S : List Nat} (h16 : ∀ x ∈ S, x < 16) : ∀ (F D : List Nat) (p : Nat → Int32), (D ++ F).Nodup → (∀ x ∈ D ++ F, x ∉ S) → (∀ x ∈ D ++ F, x < 16) → (∀ u ∈ F, p u = -nI 1) → f_ok ρ D S p → f_qf ρ D p → f_cf ρ S F D p = (f_gp ρ S F p).countP (f_st ρ (D ++ F) S)
  | [], D, p, _, _, h16', _, hok, hqf => by
    show (if S.any (fun o => decide (p o = -nI 1) && D.any (fun t => f_bl ρ p t o)) = true then 0 else 1) = [p].countP (f_st ρ (D ++ []) S)
    rw [List.append_nil, List.countP_cons, List.countP_nil, Nat.zero_add]
    by_cases c : S.any (fun o => decide (p o = -nI 1) && D.any (fun t => f_bl ρ p t o)) = true
    · rw [if_pos c, if_neg]
      intro hst
      obtain ⟨o, ho, z⟩ := List.any_eq_true.mp c
      rw [Bool.and_eq_true] at z
      obtain ⟨t, ht, y⟩ := List.any_eq_true.mp z.2
      have := List.all_eq_true.mp (List.all_eq_true.mp hst t ht) o ho
      rw [y] at this
      exact Bool.noConfusion this
    · rw [if_neg c, if_pos]
      refine List.all_eq_true.mpr (fun t ht => List.all_eq_true.mpr (fun o ho => ?_))
      cases hb : f_bl ρ p t o with
      | false => rfl
      | true =>
        exfalso
        rcases hok.2 o ho with z | ⟨f, hf, z1, z2⟩
        · exact c (List.any_eq_true.mpr ⟨o, ho, by rw [Bool.and_eq_true]; exact ⟨decide_eq_true z, List.any_eq_true.mpr ⟨t, ht, hb⟩⟩⟩)
        · have := hqf t ht f hf
          unfold f_wl at this
          rw [z2, n_c (by have := h16 o ho; omega), hb, Bool.and_true, decide_eq_false_iff_not] at this
          exact this (nI_ne (h16 o ho))
  | t :: F, D, p, hnd, hdj, h16', hF, hok, hqf => by
    have eapp : (D ++ [t]) ++ F = D ++ t :: F := by simp
    have tD : t ∈ D ++ t :: F := List.mem_append_right _ List.mem_cons_self
    have nd := List.nodup_append.mp hnd
    have tF : t ∉ F := (List.nodup_cons.mp nd.2.1).1
    have tnD : t ∉ D := fun z => nd.2.2 t z t List.mem_cons_self rfl
    have ih := f_cnt h16 F (D ++ [t])
    rw [eapp] at ih
    have part := fun {p : Nat → Int32} => f_part (ρ := ρ) (p := p) hnd hdj h16 h16' (fun p h1 h2 h3 => by rw [eapp]; exact ih p hnd hdj h16' h1 h2 h3)
    show (if f_qr ρ D t p = true then 0 else f_cf ρ S F (D ++ [t]) p) + (S.map (fun o => if p o = -nI 1 ∧ f_my ρ t o = true then (if f_qr ρ D t (f_up p t o) = true then 0 else f_cf ρ S F (D ++ [t]) (f_up p t o)) else 0)).sum = (f_gp ρ S F p ++ S.flatMap (fun o => if p o = -nI 1 ∧ f_my ρ t o = true then f_gp ρ S F (f_up p t o) else [])).countP (f_st ρ (D ++ t :: F) S)
    rw [List.countP_append, List.countP_flatMap]
    congr 1
    · refine part (fun u hu => hF u (List.mem_cons_of_mem _ hu)) ⟨fun x hx => ?_, fun o ho => (hok.2 o ho).imp id (fun ⟨f, hf, z⟩ => ⟨f, List.mem_append_left _ hf, z⟩)⟩ hqf
      rcases List.mem_append.mp hx with z | z
      · exact hok.1 x z
      · rw [List.mem_singleton.mp z]
        exact Or.inl (hF t List.mem_cons_self)
    · congr 1
      refine List.map_congr_left (fun o ho => ?_)
      by_cases c : p o = -nI 1 ∧ f_my ρ t o = true
      · rw [if_pos c]
        show _ = List.countP (f_st ρ (D ++ t :: F) S) (if p o = -nI 1 ∧ f_my ρ t o = true then f_gp ρ S F (f_up p t o) else [])
        rw [if_pos c]
        have ho16 := h16 o ho
        have eo : f_up p t o o = nI t := by unfold f_up; rw [if_pos rfl]
        have hto : ¬ t = o := fun e => hdj t tD (by rw [e]; exact ho)
        have et : f_up p t o t = nI o := by unfold f_up; rw [if_neg hto, if_pos rfl]
        have ex : ∀ x, ¬ x = o → ¬ x = t → f_up p t o x = p x := fun x h1 h2 => by unfold f_up; rw [if_neg h1, if_neg h2]
        have dno : ∀ x ∈ D, ¬ x = o := fun x hx e => hdj x (List.mem_append_left _ hx) (by rw [e]; exact ho)
        have dnt : ∀ x ∈ D, ¬ x = t := fun x hx e => tnD (by rw [← e]; exact hx)
        have sno : ∀ s ∈ S, ¬ s = t := fun s hs e => hdj t tD (by rw [← e]; exact hs)
        refine part (fun u hu => ?_) ⟨fun x hx => ?_, fun s hs => ?_⟩ (fun a ha b hb => ?_)
        · rw [ex u (fun e => hdj u (List.mem_append_right _ (List.mem_cons_of_mem _ hu)) (by rw [e]; exact ho)) (fun e => tF (by rw [← e]; exact hu))]
          exact hF u (List.mem_cons_of_mem _ hu)
        · rcases List.mem_append.mp hx with z | z
          · rw [ex x (dno x z) (dnt x z)]
            rcases hok.1 x z with y | ⟨s, hs, y1, y2, y3⟩
            · exact Or.inl y
            · have hso : ¬ s = o := fun e => by
                rw [e, c.1] at y2
                exact nI_ne (h16' x (List.mem_append_left _ z)) y2.symm
              exact Or.inr ⟨s, hs, y1, by rw [ex s hso (sno s hs)]; exact y2, y3⟩
          · rw [List.mem_singleton.mp z]
            exact Or.inr ⟨o, ho, et, eo, c.2⟩
        · by_cases e : s = o
          · rw [e]
            exact Or.inr ⟨t, List.mem_append_right _ List.mem_cons_self, eo, et⟩
          · rw [ex s e (sno s hs)]
            exact (hok.2 s hs).imp id (fun ⟨f, hf, z1, z2⟩ => ⟨f, List.mem_append_left _ hf, z1, by rw [ex f (dno f hf) (dnt f hf)]; exact z2⟩)
        · have h0 := hqf a ha b hb
          rw [ex b (dno b hb) (dnt b hb)]
          rcases hok.1 b hb with y | ⟨s, hs, y1, y2, y3⟩
          · unfold f_wl
            rw [y]
            simp
          · have hso : ¬ s = o := fun e => by
              rw [e, c.1] at y2
              exact nI_ne (h16' b (List.mem_append_left _ hb)) y2.symm
            unfold f_wl at h0 ⊢
            have hs16 := h16 s hs
            rw [y1, n_c (by omega)] at h0 ⊢
            rw [f_bl_of (ex a (dno a ha) (dnt a ha)) (ex s hso (sno s hs))]
            exact h0
      · rw [if_neg c]
        show 0 = List.countP (f_st ρ (D ++ t :: F) S) (if p o = -nI 1 ∧ f_my ρ t o = true then f_gp ρ S F (f_up p t o) else [])
        rw [if_neg c]
        rfl
end FRD

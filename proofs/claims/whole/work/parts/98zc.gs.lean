/-! FRIENDS: the rounds end -/
section GR2
variable {M : eg_M} {F S : List Nat}
def g_ms (F : List Nat) (A : Nat → Int32) : Nat := (F.map (fun t => (A t).toNatClampNeg)).sum
theorem sum_up {g g' : Nat → Nat} {t : Nat} : ∀ {F : List Nat}, F.Nodup → t ∈ F → g' t = g t + 1 → (∀ x, ¬ x = t → g' x = g x) → (F.map g').sum = (F.map g).sum + 1
  | a :: F, hnd, ht, h1, h2 => by
    obtain ⟨n1, n2⟩ := List.nodup_cons.mp hnd
    rw [List.map_cons, List.map_cons, List.sum_cons, List.sum_cons]
    by_cases e : a = t
    · subst e
      have : F.map g' = F.map g := List.map_congr_left (fun x hx => h2 x (fun e => n1 (by rw [← e]; exact hx)))
      rw [this, h1]
      omega
    · have := sum_up n2 ((List.mem_cons.mp ht).resolve_left (fun z => e z.symm)) h1 h2
      rw [this, h2 a e]
      omega
def g_as (M : eg_M) (x : k_KA) (t : Nat) : Prop := x.1 t = -nI 1 ∧ ¬ eg_gi M 98 t ≤ x.2.1 t
theorem g_one (hW : g_W M) (hF : ∀ x ∈ F, x < 16) (hS : ∀ x ∈ S, x < 16) (hdj : ∀ x ∈ F, x ∉ S) (hnd : F.Nodup) {s : Int32} (hs : ∀ o, o < 16 → (s &&& (nI 1 <<< (nI o &&& 31)) = 0 ↔ o ∉ S)) {x : k_KA} (h : g_I M F S x.1 x.2.1) {t : Nat} (ht : t ∈ F) : g_I M F S (k_g1 M s x t).1 (k_g1 M s x t).2.1 ∧ ((k_g1 M s x t = x ∧ ¬ g_as M x t) ∨ ((k_g1 M s x t).2.2 = true ∧ g_ms F (k_g1 M s x t).2.1 = g_ms F x.2.1 + 1)) := by
  unfold k_g1
  by_cases c : x.1 t = -nI 1 ∧ ¬ eg_gi M 98 t ≤ x.2.1 t
  · rw [if_pos c]
    refine ⟨g_step hW hF hS hdj hs h ht c.1 c.2, Or.inr ⟨rfl, ?_⟩⟩
    obtain ⟨a, m, em, ha, hm, ea⟩ := h.1 t ht
    refine sum_up hnd ht ?_ (fun y hy => ?_)
    · show (if t = t then x.2.1 t + nI 1 else x.2.1 t).toNatClampNeg = _
      rw [if_pos rfl, ea, n_s, n_c (by omega), n_c (by omega)]
    · show (if y = t then x.2.1 t + nI 1 else x.2.1 y).toNatClampNeg = _
      rw [if_neg hy]
  · rw [if_neg c]
    exact ⟨h, Or.inl ⟨rfl, c⟩⟩
theorem g_fold (hW : g_W M) (hF : ∀ x ∈ F, x < 16) (hS : ∀ x ∈ S, x < 16) (hdj : ∀ x ∈ F, x ∉ S) (hnd : F.Nodup) {s : Int32} (hs : ∀ o, o < 16 → (s &&& (nI 1 <<< (nI o &&& 31)) = 0 ↔ o ∉ S)) : ∀ (G : List Nat) (x : k_KA), (∀ t ∈ G, t ∈ F) → g_I M F S x.1 x.2.1 → g_I M F S (G.foldl (k_g1 M s) x).1 (G.foldl (k_g1 M s) x).2.1 ∧ ((G.foldl (k_g1 M s) x = x ∧ ∀ t ∈ G, ¬ g_as M x t) ∨ ((G.foldl (k_g1 M s) x).2.2 = true ∧ g_ms F x.2.1 < g_ms F (G.foldl (k_g1 M s) x).2.1))
  | [], x, _, h => ⟨h, Or.inl ⟨rfl, fun t ht => absurd ht List.not_mem_nil⟩⟩
  | t :: G, x, hG, h => by
    obtain ⟨h1, h2⟩ := g_one hW hF hS hdj hnd hs h (hG t List.mem_cons_self)
    obtain ⟨h3, h4⟩ := g_fold hW hF hS hdj hnd hs G (k_g1 M s x t) (fun u hu => hG u (List.mem_cons_of_mem _ hu)) h1
    rw [List.foldl_cons]
    refine ⟨h3, ?_⟩
    rcases h2 with ⟨e, z⟩ | ⟨z1, z2⟩
    · rw [e] at h4 ⊢
      rcases h4 with ⟨y1, y2⟩ | y
      · refine Or.inl ⟨y1, fun u hu => ?_⟩
        rcases List.mem_cons.mp hu with q | q
        · rw [q]; exact z
        · exact y2 u q
      · exact Or.inr y
    · right
      rcases h4 with ⟨y1, _⟩ | ⟨y1, y2⟩
      · rw [y1]
        exact ⟨z1, by omega⟩
      · exact ⟨y1, by omega⟩
theorem g_ms_le {K A : Nat → Int32} (h : g_I M F S K A) : g_ms F A ≤ 6 * F.length := by
  have : ∀ G : List Nat, (∀ t ∈ G, t ∈ F) → (G.map (fun t => (A t).toNatClampNeg)).sum ≤ 6 * G.length := by
    intro G
    induction G with
    | nil => intro _; exact Nat.le_refl 0
    | cons a G ih =>
      intro hG
      obtain ⟨c, m, _, hc, hm, ec⟩ := h.1 a (hG a List.mem_cons_self)
      have := ih (fun t ht => hG t (List.mem_cons_of_mem _ ht))
      rw [List.map_cons, List.sum_cons, List.length_cons, ec, n_c (by omega)]
      omega
  exact this F (fun t ht => ht)
theorem g_rounds (hW : g_W M) (hF : ∀ x ∈ F, x < 16) (hS : ∀ x ∈ S, x < 16) (hdj : ∀ x ∈ F, x ∉ S) (hnd : F.Nodup) (h6 : F.length ≤ 6) {s : Int32} (hs : ∀ o, o < 16 → (s &&& (nI 1 <<< (nI o &&& 31)) = 0 ↔ o ∉ S)) : ∀ (r : Nat) (x : k_KA), g_I M F S x.1 x.2.1 → x.2.2 = true → 36 < g_ms F x.2.1 + r → g_I M F S (k_gR M s F r x).1 (k_gR M s F r x).2.1 ∧ ∀ t ∈ F, ¬ g_as M (k_gR M s F r x) t
  | 0, x, h, _, hb => by
    have := g_ms_le h
    omega
  | r + 1, x, h, hfl, hb => by
    have e : k_gR M s F (r + 1) x = k_gR M s F r (F.foldl (k_g1 M s) (x.1, x.2.1, false)) := by
      show (if x.2.2 = true then _ else x) = _
      rw [if_pos hfl]
    rw [e]
    obtain ⟨h1, h2⟩ := g_fold hW hF hS hdj hnd hs F (x.1, x.2.1, false) (fun t ht => ht) h
    rcases h2 with ⟨y1, y2⟩ | ⟨y1, y2⟩
    · rw [y1]
      have e2 : k_gR M s F r (x.1, x.2.1, false) = (x.1, x.2.1, false) := by
        cases r with
        | zero => rfl
        | succ r =>
          show (if false = true then _ else (x.1, x.2.1, false)) = _
          rw [if_neg Bool.false_ne_true]
      rw [e2]
      exact ⟨h, y2⟩
    · exact g_rounds hW hF hS hdj hnd h6 hs r _ h1 y1 (by
        have : g_ms F x.2.1 < g_ms F (F.foldl (k_g1 M s) (x.1, x.2.1, false)).2.1 := y2
        omega)
/-- at the end: a stable pairing, and the best for each of the first -/
theorem g_end (hW : g_W M) (hF : ∀ x ∈ F, x < 16) (hS : ∀ x ∈ S, x < 16) {K A : Nat → Int32} (h : g_I M F S K A) (hd : ∀ t ∈ F, ¬ (K t = -nI 1 ∧ ¬ eg_gi M 98 t ≤ A t)) : f_ok (g_rh M) F S K ∧ f_st (g_rh M) F S K = true ∧ ∀ q, f_ok (g_rh M) F S q → f_st (g_rh M) F S q = true → ∀ t ∈ F, ∀ o ∈ S, q t = nI o → ∃ o' ∈ S, K t = nI o' ∧ ¬ g_rh M t o < g_rh M t o' := by
  obtain ⟨h1, h2, h3, h4, h5⟩ := h
  have hok : f_ok (g_rh M) F S K := ⟨fun t ht => (h2 t ht).imp id (fun ⟨o, ho, i, z1, z2, z3, _⟩ => ⟨o, ho, z1, z2, z3⟩), h3⟩
  -- whoever is not below t's friend was asked
  have asked : ∀ t ∈ F, ∀ o ∈ S, ∀ i, g_rh M t o = nI i → i < 6 → (∀ o' ∈ S, K t = nI o' → g_rh M t o < g_rh M t o') → ∃ c, c ≤ 6 ∧ A t = nI c ∧ i < c := fun t ht o ho i hr hi hK => by
    obtain ⟨c, m, em, hcm, hm, ec⟩ := h1 t ht
    rcases h2 t ht with z | ⟨o', ho', j, z1, z2, z3, z4, z5, z6⟩
    · refine ⟨c, by omega, ec, ?_⟩
      have : eg_gi M 98 t ≤ A t := Classical.byContradiction (fun y => hd t ht ⟨z, y⟩)
      rw [em, ec, n_le (by omega) (by omega)] at this
      obtain ⟨m', hm', em', _, w2⟩ := hW t (hF t ht)
      have emm : m' = m := by
        rw [em] at em'
        exact ((n_eq (by omega) (by omega)).mp em').symm
      rcases w2 o (hS o ho) with y | ⟨k, k1, k2, k3⟩
      · rw [hr] at y
        exact absurd y (nI_m1 (by omega))
      · rw [hr, n_eq (by omega) (by omega)] at k3
        omega
    · have := hK o' ho' z1
      rw [hr, z5, n_lt (by omega) (by omega)] at this
      exact ⟨j + 1, by omega, z6, by omega⟩
  have rank : ∀ t ∈ F, ∀ o ∈ S, f_my (g_rh M) t o = true → ∃ i, i < 6 ∧ g_rh M t o = nI i := fun t ht o ho hmy => by
    obtain ⟨m, hm, _, _, w2⟩ := hW t (hF t ht)
    rcases w2 o (hS o ho) with y | ⟨k, k1, k2, k3⟩
    · exact absurd y (decide_eq_true_iff.mp hmy).1
    · exact ⟨k, by omega, k3⟩
  refine ⟨hok, ?_, fun q hq hst t ht o ho hqt => ?_⟩
  · refine List.all_eq_true.mpr (fun t ht => List.all_eq_true.mpr (fun o ho => ?_))
    cases hb : f_bl (g_rh M) K t o with
    | false => rfl
    | true =>
      exfalso
      unfold f_bl f_wd at hb
      simp only [Bool.and_eq_true, decide_eq_true_iff] at hb
      obtain ⟨b1, b2, b3⟩ := hb
      obtain ⟨i, hi, hr⟩ := rank t ht o ho b1
      have lt1 : ∀ o' ∈ S, K t = nI o' → g_rh M t o < g_rh M t o' := fun o' ho' e => by
        rcases b2 with z | z
        · rw [e] at z
          exact absurd z (nI_ne (hS o' ho'))
        · rw [e, n_c (by have := hS o' ho'; omega)] at z
          exact z
      obtain ⟨c, hc, ec, hic⟩ := asked t ht o ho i hr hi lt1
      rcases h5 t ht c hc ec o ho i hic hr b1 with z | ⟨⟨u, hu, z1, z2⟩, _⟩
      · exact Int32.lt_irrefl (lt1 o ho z)
      · rcases b3 with y | y
        · rw [z1] at y
          exact absurd y (nI_ne (hF u hu))
        · rw [z1, n_c (by have := hF u hu; omega)] at y
          exact Int32.lt_irrefl (Int32.lt_trans y z2)
  · have hmy : f_my (g_rh M) t o = true := by
      rcases hq.1 t ht with z | ⟨o', ho', z1, _, z3⟩
      · rw [hqt] at z
        exact absurd z (nI_ne (hS o ho))
      · rw [hqt] at z1
        rw [n16 (hS o ho) (hS o' ho') z1]
        exact z3
    obtain ⟨i, hi, hr⟩ := rank t ht o ho hmy
    refine Classical.byContradiction (fun hno => ?_)
    have lt1 : ∀ o' ∈ S, K t = nI o' → g_rh M t o < g_rh M t o' := fun o' ho' e => Classical.byContradiction (fun z => hno ⟨o', ho', e, z⟩)
    obtain ⟨c, hc, ec, hic⟩ := asked t ht o ho i hr hi lt1
    rcases h5 t ht c hc ec o ho i hic hr hmy with z | ⟨_, z⟩
    · exact Int32.lt_irrefl (lt1 o ho z)
    · exact z q hq hst hqt
theorem g_0 (hF : ∀ x ∈ F, x < 16) (hS : ∀ x ∈ S, x < 16) (hW : g_W M) {K A : Nat → Int32} (hK : ∀ j, j < 16 → K j = -nI 1) (hA : ∀ j, j < 16 → A j = nI 0) : g_I M F S K A := by
  refine ⟨fun t ht => ?_, fun t ht => Or.inl (hK t (hF t ht)), fun o ho => Or.inl (hK o (hS o ho)), fun y hy _ _ => hK y hy, fun t ht c hc ec o ho i hi => ?_⟩
  · obtain ⟨m, hm, em, _⟩ := hW t (hF t ht)
    exact ⟨0, m, em, Nat.zero_le _, hm, hA t (hF t ht)⟩
  · rw [hA t (hF t ht), n_eq (by decide) (by omega)] at ec
    omega
/-! all pairings -/
variable {ρ : Nat → Nat → Int32}
theorem gp_ok {F0 : List Nat} (hF : ∀ x ∈ F0, x < 16) (hS : ∀ x ∈ S, x < 16) (hdj : ∀ x ∈ F0, x ∉ S) : ∀ (G D : List Nat) (p q : Nat → Int32), (D ++ G).Nodup → (∀ x ∈ D ++ G, x ∈ F0) → (∀ u ∈ G, p u = -nI 1) → f_ok ρ D S p → q ∈ f_gp ρ S G p → f_ok ρ (D ++ G) S q
  | [], D, p, q, _, _, _, hok, hq => by
    rw [List.mem_singleton.mp hq, List.append_nil]
    exact hok
  | t :: G, D, p, q, hnd, hsub, hG, hok, hq => by
    have eapp : (D ++ [t]) ++ G = D ++ t :: G := by simp
    have tF : t ∈ F0 := hsub t (List.mem_append_right _ List.mem_cons_self)
    have nd := List.nodup_append.mp hnd
    have tG : t ∉ G := (List.nodup_cons.mp nd.2.1).1
    have tnD : t ∉ D := fun z => nd.2.2 t z t List.mem_cons_self rfl
    rcases List.mem_append.mp hq with z | z
    · rw [← eapp]
      refine gp_ok hF hS hdj G (D ++ [t]) p q (by rw [eapp]; exact hnd) (by rw [eapp]; exact hsub) (fun u hu => hG u (List.mem_cons_of_mem _ hu)) ⟨fun x hx => ?_, fun o ho => (hok.2 o ho).imp id (fun ⟨f, hf, z⟩ => ⟨f, List.mem_append_left _ hf, z⟩)⟩ z
      rcases List.mem_append.mp hx with y | y
      · exact hok.1 x y
      · rw [List.mem_singleton.mp y]
        exact Or.inl (hG t List.mem_cons_self)
    · obtain ⟨o, ho, z⟩ := List.mem_flatMap.mp z
      by_cases c : p o = -nI 1 ∧ f_my ρ t o = true
      · rw [if_pos c] at z
        rw [← eapp]
        have eo : f_up p t o o = nI t := by unfold f_up; rw [if_pos rfl]
        have hto : ¬ t = o := fun e => hdj t tF (by rw [e]; exact ho)
        have et : f_up p t o t = nI o := by unfold f_up; rw [if_neg hto, if_pos rfl]
        have ex : ∀ x, ¬ x = o → ¬ x = t → f_up p t o x = p x := fun x h1 h2 => by unfold f_up; rw [if_neg h1, if_neg h2]
        have dno : ∀ x ∈ D, ¬ x = o := fun x hx e => hdj x (hsub x (List.mem_append_left _ hx)) (by rw [e]; exact ho)
        have dnt : ∀ x ∈ D, ¬ x = t := fun x hx e => tnD (by rw [← e]; exact hx)
        have sno : ∀ s ∈ S, ¬ s = t := fun s hs e => hdj t tF (by rw [← e]; exact hs)
        refine gp_ok hF hS hdj G (D ++ [t]) (f_up p t o) q (by rw [eapp]; exact hnd) (by rw [eapp]; exact hsub) (fun u hu => ?_) ⟨fun x hx => ?_, fun s hs => ?_⟩ z
        · rw [ex u (fun e => hdj u (hsub u (List.mem_append_right _ (List.mem_cons_of_mem _ hu))) (by rw [e]; exact ho)) (fun e => tG (by rw [← e]; exact hu))]
          exact hG u (List.mem_cons_of_mem _ hu)
        · rcases List.mem_append.mp hx with y | y
          · rw [ex x (dno x y) (dnt x y)]
            rcases hok.1 x y with w | ⟨s, hs, y1, y2, y3⟩
            · exact Or.inl w
            · have hso : ¬ s = o := fun e => by
                rw [e, c.1] at y2
                exact nI_ne (hF x (hsub x (List.mem_append_left _ y))) y2.symm
              exact Or.inr ⟨s, hs, y1, by rw [ex s hso (sno s hs)]; exact y2, y3⟩
          · rw [List.mem_singleton.mp y]
            exact Or.inr ⟨o, ho, et, eo, c.2⟩
        · by_cases e : s = o
          · rw [e]
            exact Or.inr ⟨t, List.mem_append_right _ List.mem_cons_self, eo, et⟩
          · rw [ex s e (sno s hs)]
            exact (hok.2 s hs).imp id (fun ⟨f, hf, z1, z2⟩ => ⟨f, List.mem_append_left _ hf, z1, by rw [ex f (dno f hf) (dnt f hf)]; exact z2⟩)
      · rw [if_neg c] at z
        exact absurd z List.not_mem_nil
/-- every pairing is among them -/
theorem gp_mem {F0 : List Nat} {K : Nat → Int32} (hF : ∀ x ∈ F0, x < 16) (hS : ∀ x ∈ S, x < 16) (hdj : ∀ x ∈ F0, x ∉ S) (hK : f_ok ρ F0 S K) (hK0 : ∀ y, y < 16 → y ∉ F0 → y ∉ S → K y = -nI 1) : ∀ (G : List Nat) (p : Nat → Int32), G.Nodup → (∀ x ∈ G, x ∈ F0) → (∀ y, y < 16 → (y ∈ G ∨ (∃ t ∈ G, K y = nI t) → p y = -nI 1) ∧ (¬ (y ∈ G ∨ ∃ t ∈ G, K y = nI t) → p y = K y)) → ∃ q ∈ f_gp ρ S G p, ∀ y, y < 16 → q y = K y
  | [], p, _, _, hp => ⟨p, List.mem_singleton.mpr rfl, fun y hy => (hp y hy).2 (fun z => z.elim (fun a => absurd a List.not_mem_nil) (fun ⟨t, ht, _⟩ => absurd ht List.not_mem_nil))⟩
  | t :: G, p, hnd, hsub, hp => by
    obtain ⟨n1, n2⟩ := List.nodup_cons.mp hnd
    have tF := hsub t List.mem_cons_self
    have t16 := hF t tF
    -- who has t for a friend
    have back : ∀ y, y < 16 → K y = nI t → y ∈ S ∧ K t = nI y := fun y hy e => by
      by_cases hyS : y ∈ S
      · refine ⟨hyS, ?_⟩
        rcases hK.2 y hyS with z | ⟨f, hf, z1, z2⟩
        · rw [e] at z
          exact absurd z (nI_ne t16)
        · rw [e] at z1
          rw [n16 t16 (hF f hf) z1]
          exact z2
      · exfalso
        by_cases hyF : y ∈ F0
        · rcases hK.1 y hyF with z | ⟨o, ho, z1, _⟩
          · rw [e] at z
            exact absurd z (nI_ne t16)
          · rw [e] at z1
            exact hdj t tF (by rw [n16 t16 (hS o ho) z1]; exact ho)
        · have := hK0 y hy hyF hyS
          rw [e] at this
          exact nI_ne t16 this
    rcases hK.1 t tF with z | ⟨o, ho, z1, z2, z3⟩
    · obtain ⟨q, hq, hq2⟩ := gp_mem hF hS hdj hK hK0 G p n2 (fun x hx => hsub x (List.mem_cons_of_mem _ hx)) (fun y hy => ⟨fun w => (hp y hy).1 (w.imp (List.mem_cons_of_mem _) (fun ⟨u, hu, e⟩ => ⟨u, List.mem_cons_of_mem _ hu, e⟩)), fun w => by
        by_cases e : y = t
        · rw [e, z]
          exact (hp t t16).1 (Or.inl List.mem_cons_self)
        · refine (hp y hy).2 (fun x => w ?_)
          rcases x with x | ⟨u, hu, e2⟩
          · exact Or.inl ((List.mem_cons.mp x).resolve_left e)
          · rcases List.mem_cons.mp hu with e3 | e3
            · rw [e3] at e2
              have := (back y hy e2).2
              rw [z] at this
              exact absurd this.symm (nI_ne hy)
            · exact Or.inr ⟨u, e3, e2⟩⟩)
      exact ⟨q, List.mem_append_left _ hq, hq2⟩
    · have o16 := hS o ho
      have hto : ¬ t = o := fun e => hdj t tF (by rw [e]; exact ho)
      have po : p o = -nI 1 := (hp o o16).1 (Or.inr ⟨t, List.mem_cons_self, z2⟩)
      have eo : f_up p t o o = nI t := by unfold f_up; rw [if_pos rfl]
      have et : f_up p t o t = nI o := by unfold f_up; rw [if_neg hto, if_pos rfl]
      have ex : ∀ x, ¬ x = o → ¬ x = t → f_up p t o x = p x := fun x h1 h2 => by unfold f_up; rw [if_neg h1, if_neg h2]
      obtain ⟨q, hq, hq2⟩ := gp_mem hF hS hdj hK hK0 G (f_up p t o) n2 (fun x hx => hsub x (List.mem_cons_of_mem _ hx)) (fun y hy => ⟨fun w => by
        have hyo : ¬ y = o := fun e => by
          rw [e] at w
          rcases w with x | ⟨u, hu, e2⟩
          · exact hdj o (hsub o (List.mem_cons_of_mem _ x)) ho
          · rw [z2] at e2
            exact n1 (by rw [n16 t16 (hF u (hsub u (List.mem_cons_of_mem _ hu))) e2]; exact hu)
        have hyt : ¬ y = t := fun e => by
          rw [e] at w
          rcases w with x | ⟨u, hu, e2⟩
          · exact n1 x
          · rw [z1] at e2
            exact hdj u (hsub u (List.mem_cons_of_mem _ hu)) (by rw [← n16 o16 (hF u (hsub u (List.mem_cons_of_mem _ hu))) e2]; exact ho)
        rw [ex y hyo hyt]
        exact (hp y hy).1 (w.imp (List.mem_cons_of_mem _) (fun ⟨u, hu, e⟩ => ⟨u, List.mem_cons_of_mem _ hu, e⟩)), fun w => by
        by_cases e : y = o
        · rw [e, eo, z2]
        · by_cases e' : y = t
          · rw [e', et, z1]
          · rw [ex y e e']
            refine (hp y hy).2 (fun x => w ?_)
            rcases x with x | ⟨u, hu, e2⟩
            · exact Or.inl ((List.mem_cons.mp x).resolve_left e')
            · rcases List.mem_cons.mp hu with e3 | e3
              · rw [e3] at e2
                have := (back y hy e2).2
                rw [z1] at this
                exact absurd (n16 o16 hy this).symm e
              · exact Or.inr ⟨u, e3, e2⟩⟩)
      refine ⟨q, List.mem_append_right _ (List.mem_flatMap.mpr ⟨o, ho, ?_⟩), hq2⟩
      rw [if_pos ⟨po, z3⟩]
      exact hq
end GR2

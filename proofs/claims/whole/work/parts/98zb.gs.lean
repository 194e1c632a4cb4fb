/-! FRIENDS: asking in rounds finds the best stable pairing -/
section GS
variable {M : eg_M}
def g_rh (M : eg_M) (t o : Nat) : Int32 := eg_gi M (99 + 1 + t) o
/-- wishes and their ranks -/
def g_W (M : eg_M) : Prop := ∀ t, t < 16 → ∃ m, m ≤ 6 ∧ eg_gi M 98 t = nI m ∧ (∀ i, i < m → ∃ o, o < 16 ∧ eg_gi M (81 + 1 + t) i = nI o ∧ g_rh M t o = nI i) ∧ ∀ o, o < 16 → g_rh M t o = -nI 1 ∨ ∃ i, i < m ∧ eg_gi M (81 + 1 + t) i = nI o ∧ g_rh M t o = nI i
theorem gW_of (h : r_wi M) (h16 : (eg_gi M 2 4).toNatClampNeg ≤ 16) : g_W M := by
  intro t ht
  obtain ⟨⟨m, hm, em⟩, _, _, h4, h5⟩ := h t ht
  have h24 : ∀ i, i < m → ∃ o, o < 16 ∧ eg_gi M (81 + 1 + t) i = nI o ∧ g_rh M t o = nI i := fun i hi => by
    obtain ⟨_, v2, _, v4⟩ := h4 i (by rw [em, n_c (by omega)]; exact hi)
    obtain ⟨o, ho, eo⟩ := vp_in_of (in_m h16 v2) (by decide)
    refine ⟨o, ho, eo, ?_⟩
    unfold g_rh
    rw [h5 o ho, em, n_c (by omega)]
    rcases fnd_v (eg_gi M (81 + 1 + t)) (nI o) m 0 with ⟨_, z⟩ | ⟨j, _, z2, z3, z4⟩
    · exact absurd eo (z i (Nat.zero_le _) (by omega))
    · rw [z4]
      rcases Nat.lt_trichotomy i j with y | y | y
      · exact absurd (eo.trans z3.symm) ((h4 j (by rw [em, n_c (by omega)]; omega)).2.2.2 i y)
      · rw [y]
      · exact absurd (z3.trans eo.symm) (v4 j y)
  refine ⟨m, hm, em, h24, fun o ho => ?_⟩
  unfold g_rh
  rw [h5 o ho, em, n_c (by omega)]
  rcases fnd_v (eg_gi M (81 + 1 + t)) (nI o) m 0 with ⟨z, _⟩ | ⟨j, _, z2, z3, z4⟩
  · exact Or.inl z
  · exact Or.inr ⟨j, by omega, z3, z4⟩
/-- what holds while they ask -/
def g_I (M : eg_M) (F S : List Nat) (K A : Nat → Int32) : Prop :=
  (∀ t ∈ F, ∃ c m, eg_gi M 98 t = nI m ∧ c ≤ m ∧ m ≤ 6 ∧ A t = nI c) ∧
  (∀ t ∈ F, K t = -nI 1 ∨ ∃ o ∈ S, ∃ i, K t = nI o ∧ K o = nI t ∧ f_my (g_rh M) t o = true ∧ i < 6 ∧ g_rh M t o = nI i ∧ A t = nI (i + 1)) ∧
  (∀ o ∈ S, K o = -nI 1 ∨ ∃ t ∈ F, K o = nI t ∧ K t = nI o) ∧
  (∀ y, y < 16 → y ∉ F → y ∉ S → K y = -nI 1) ∧
  ∀ t ∈ F, ∀ c, c ≤ 6 → A t = nI c → ∀ o ∈ S, ∀ i, i < c → g_rh M t o = nI i → f_my (g_rh M) t o = true → K t = nI o ∨ ((∃ u ∈ F, K o = nI u ∧ g_rh M o u < g_rh M o t) ∧ ∀ q, f_ok (g_rh M) F S q → f_st (g_rh M) F S q = true → ¬ q t = nI o)
variable {F S : List Nat}
theorem st_bl {q : Nat → Int32} (h : f_st (g_rh M) F S q = true) {t o : Nat} (ht : t ∈ F) (ho : o ∈ S) : f_bl (g_rh M) q t o = false := by
  have := List.all_eq_true.mp (List.all_eq_true.mp h t ht) o ho
  cases hb : f_bl (g_rh M) q t o with
  | false => rfl
  | true => rw [hb] at this; exact Bool.noConfusion this
theorem n16 {a b : Nat} (ha : a < 16) (hb : b < 16) (h : nI a = nI b) : a = b := (n_eq (by omega) (by omega)).mp h
/-- two ranks that are one are of one town -/
theorem g_inj (hW : g_W M) {t a b : Nat} (ht : t < 16) (ha : a < 16) (hb : b < 16) (hn : ¬ g_rh M t a = -nI 1) (h : g_rh M t a = g_rh M t b) : a = b := by
  obtain ⟨m, hm, _, _, h4⟩ := hW t ht
  rcases h4 a ha with z | ⟨i, i1, i2, i3⟩
  · exact absurd z hn
  · rcases h4 b hb with y | ⟨j, j1, j2, j3⟩
    · rw [h] at hn
      exact absurd y hn
    · rw [i3, j3] at h
      have e : i = j := (n_eq (by omega) (by omega)).mp h
      rw [e] at i2
      exact n16 ha hb (i2.symm.trans j2)
/-- no stable pairing gives t what another one would rather have, who finds nothing better -/
theorem g_rej (hW : g_W M) (hF : ∀ x ∈ F, x < 16) (hS : ∀ x ∈ S, x < 16) {q : Nat → Int32} (hq : f_ok (g_rh M) F S q) (hst : f_st (g_rh M) F S q = true) {t u o i : Nat} (ht : t ∈ F) (hu : u ∈ F) (ho : o ∈ S) (htu : ¬ t = u) (hmy : f_my (g_rh M) u o = true) (hlt : g_rh M o u < g_rh M o t) (hi : i < 6) (hr : g_rh M u o = nI i) (hbt : ∀ o' ∈ S, ∀ j, j < i → g_rh M u o' = nI j → f_my (g_rh M) u o' = true → ¬ q u = nI o') : ¬ q t = nI o := by
  intro e
  have hot : q o = nI t := by
    rcases hq.1 t ht with z | ⟨o', ho', z1, z2, _⟩
    · rw [e] at z
      exact absurd z (nI_ne (hS o ho))
    · rw [e] at z1
      rw [n16 (hS o ho) (hS o' ho') z1]
      exact z2
  have hb := st_bl hst hu ho
  refine Bool.noConfusion ((?_ : f_bl (g_rh M) q u o = true).symm.trans hb)
  unfold f_bl f_wd
  rw [hmy, Bool.true_and, Bool.and_eq_true, decide_eq_true_iff, decide_eq_true_iff, hot, n_c (by have := hF t ht; omega)]
  refine ⟨?_, Or.inr hlt⟩
  rcases hq.1 u hu with z | ⟨o1, ho1, z1, z2, z3⟩
  · exact Or.inl z
  · right
    rw [z1, n_c (by have := hS o1 ho1; omega), hr]
    obtain ⟨m, hm, _, _, h4⟩ := hW u (hF u hu)
    rcases h4 o1 (hS o1 ho1) with y | ⟨j, j1, j2, j3⟩
    · unfold f_my at z3
      exact absurd y (decide_eq_true_iff.mp z3).1
    · rw [j3, n_lt (by omega) (by omega)]
      rcases Nat.lt_trichotomy i j with y | y | y
      · exact y
      · exfalso
        have eo : o = o1 := g_inj hW (hF u hu) (hS o ho) (hS o1 ho1) (by rw [hr]; exact nI_m1 (by omega)) (by rw [hr, j3, y])
        rw [eo, z2] at hot
        exact htu (n16 (hF u hu) (hF t ht) hot).symm
      · exact absurd z1 (hbt o1 ho1 j y j3 z3)
theorem g_step (hW : g_W M) (hF : ∀ x ∈ F, x < 16) (hS : ∀ x ∈ S, x < 16) (hdj : ∀ x ∈ F, x ∉ S) {s : Int32} (hs : ∀ o, o < 16 → (s &&& (nI 1 <<< (nI o &&& 31)) = 0 ↔ o ∉ S)) {K A : Nat → Int32} (h : g_I M F S K A) {t : Nat} (ht : t ∈ F) (hK : K t = -nI 1) (hA : ¬ eg_gi M 98 t ≤ A t) : g_I M F S (k_ak M t (eg_gi M (81 + 1 + t) (A t).toNatClampNeg).toNatClampNeg s K) (fun j => if j = t then A t + nI 1 else A j) := by
  obtain ⟨h1, h2, h3, h4, h5⟩ := h
  have t16 := hF t ht
  obtain ⟨c, m, em, hcm, hm6, ec⟩ := h1 t ht
  rw [em, ec, n_le (by omega) (by omega)] at hA
  obtain ⟨m', hm', em', w1, w2⟩ := hW t t16
  have emm : m' = m := by
    rw [em] at em'
    exact ((n_eq (by omega) (by omega)).mp em').symm
  subst emm
  obtain ⟨o, ho, eo, ro⟩ := w1 c (by omega)
  rw [ec, n_c (by omega), eo, n_c (by omega), n_s]
  have At : (fun j => if j = t then nI (c + 1) else A j) t = nI (c + 1) := if_pos rfl
  have Af : ∀ f, ¬ f = t → (fun j => if j = t then nI (c + 1) else A j) f = A f := fun f hf => if_neg hf
  generalize (fun j => if j = t then nI (c + 1) else A j) = A' at At Af ⊢
  have rnt : ¬ g_rh M t o = -nI 1 := by rw [ro]; exact nI_m1 (by omega)
  -- what t asked before stays refused
  have old : ∀ o' ∈ S, ∀ i, i < c → g_rh M t o' = nI i → f_my (g_rh M) t o' = true → (∃ u ∈ F, K o' = nI u ∧ g_rh M o' u < g_rh M o' t) ∧ ∀ q, f_ok (g_rh M) F S q → f_st (g_rh M) F S q = true → ¬ q t = nI o' := fun o' ho' i hi hr hmy => by
    rcases h5 t ht c (by omega) ec o' ho' i hi hr hmy with z | z
    · rw [hK] at z
      exact absurd z.symm (nI_ne (hS o' ho'))
    · exact z
  have new1 : ∀ f ∈ F, ∃ c' m, eg_gi M 98 f = nI m ∧ c' ≤ m ∧ m ≤ 6 ∧ A' f = nI c' := fun f hf => by
    by_cases e : f = t
    · subst e
      exact ⟨c + 1, m', em, by omega, hm6, At⟩
    · rw [Af f e]
      exact h1 f hf
  by_cases q1 : s &&& (nI 1 <<< (nI o &&& 31)) = 0 ∨ eg_gi M (99 + 1 + o) t = -nI 1 ∨ (¬ K o = -nI 1 ∧ ¬ eg_gi M (99 + 1 + o) t ≤ eg_gi M (99 + 1 + o) (K o).toNatClampNeg)
  · have ek : k_ak M t o s K = K := by
      unfold k_ak
      rw [if_pos q1]
    rw [ek]
    refine ⟨new1, fun f hf => ?_, h3, h4, fun f hf c' hc' ec' o' ho' i hi hr hmy => ?_⟩
    · by_cases e : f = t
      · rw [e]
        exact Or.inl hK
      · rcases h2 f hf with z | ⟨o', ho', i, z1, z2, z3, z4, z5, z6⟩
        · exact Or.inl z
        · exact Or.inr ⟨o', ho', i, z1, z2, z3, z4, z5, by rw [Af f e]; exact z6⟩
    · by_cases e : f = t
      · subst e
        rw [At] at ec'
        have ecc : c' = c + 1 := ((n_eq (by omega) (by omega)).mp ec').symm
        by_cases ei : i = c
        · subst ei
          have eo' : o = o' := g_inj hW t16 ho (hS o' ho') rnt (by rw [ro, hr])
          subst eo'
          right
          have hmy' := (decide_eq_true_iff.mp hmy).2
          rcases q1 with z | z | ⟨z1, z2⟩
          · exact absurd ho' ((hs o ho).mp z)
          · exact absurd z hmy'
          · rcases h3 o ho' with y | ⟨u, hu, y1, y2⟩
            · exact absurd y z1
            · rw [y1, n_c (by have := hF u hu; omega)] at z2
              have hlt : g_rh M o u < g_rh M o f := Int32.not_le.mp z2
              refine ⟨⟨u, hu, y1, hlt⟩, fun q hq hst => ?_⟩
              have hfu : ¬ f = u := fun e => by
                rw [e] at hlt
                exact Int32.lt_irrefl hlt
              rcases h2 u hu with x | ⟨o2, ho2, i2, x1, x2, x3, x4, x5, x6⟩
              · rw [y2] at x
                exact absurd x (nI_ne ho)
              · have eo2 : o = o2 := n16 ho (hS o2 ho2) (y2.symm.trans x1)
                subst eo2
                refine g_rej hW hF hS hq hst hf hu ho' hfu x3 hlt x4 x5 (fun o' ho'' j hj rj mj => ?_)
                rcases h5 u hu (i2 + 1) (by omega) x6 o' ho'' j (by omega) rj mj with b | b
                · have : o = o' := n16 ho (hS o' ho'') (y2.symm.trans b)
                  rw [← this, x5, n_eq (by omega) (by omega)] at rj
                  omega
                · exact b.2 q hq hst
        · exact Or.inr (old o' ho' i (by omega) hr hmy)
      · rw [Af f e] at ec'
        exact h5 f hf c' hc' ec' o' ho' i hi hr hmy
  · have oS : o ∈ S := by
      refine Classical.byContradiction (fun z => q1 (Or.inl ((hs o ho).mpr z)))
    have rot : ¬ g_rh M o t = -nI 1 := fun z => q1 (Or.inr (Or.inl z))
    have hto : ¬ t = o := fun e => hdj t ht (by rw [e]; exact oS)
    have mto : f_my (g_rh M) t o = true := decide_eq_true ⟨rnt, rot⟩
    have fno : ∀ f ∈ F, ¬ f = o := fun f hf e => hdj f hf (by rw [e]; exact oS)
    have sno : ∀ x ∈ S, ∀ f ∈ F, ¬ x = f := fun x hx f hf e => hdj f hf (by rw [← e]; exact hx)
    rcases h3 o oS with hKo | ⟨u, hu, y1, y2⟩
    · have ek : k_ak M t o s K = fun j => if j = t then nI o else if j = o then nI t else K j := by
        unfold k_ak
        rw [if_neg q1, if_pos hKo]
      rw [ek]
      have Kt : (fun j => if j = t then nI o else if j = o then nI t else K j) t = nI o := if_pos rfl
      have Ko : (fun j => if j = t then nI o else if j = o then nI t else K j) o = nI t := by
        show (if o = t then nI o else if o = o then nI t else K o) = nI t
        rw [if_neg (fun e => hto e.symm), if_pos rfl]
      have Kx : ∀ x, ¬ x = t → ¬ x = o → (fun j => if j = t then nI o else if j = o then nI t else K j) x = K x := fun x a b => by
        show (if x = t then nI o else if x = o then nI t else K x) = K x
        rw [if_neg a, if_neg b]
      generalize (fun j => if j = t then nI o else if j = o then nI t else K j) = K' at Kt Ko Kx
      refine ⟨new1, fun f hf => ?_, fun x hx => ?_, fun y hy hyF hyS => ?_, fun f hf c' hc' ec' o' ho' i hi hr hmy => ?_⟩
      · by_cases e : f = t
        · subst e
          exact Or.inr ⟨o, oS, c, Kt, Ko, mto, by omega, ro, At⟩
        · rw [Kx f e (fno f hf)]
          rcases h2 f hf with z | ⟨o', ho', i, z1, z2, z3, z4, z5, z6⟩
          · exact Or.inl z
          · have hoo : ¬ o' = o := fun e' => by
              rw [e', hKo] at z2
              exact nI_ne (hF f hf) z2.symm
            exact Or.inr ⟨o', ho', i, z1, by rw [Kx o' (sno o' ho' t ht) hoo]; exact z2, z3, z4, z5, by rw [Af f e]; exact z6⟩
      · by_cases e : x = o
        · rw [e]
          exact Or.inr ⟨t, ht, Ko, Kt⟩
        · rw [Kx x (sno x hx t ht) e]
          rcases h3 x hx with z | ⟨f, hf, z1, z2⟩
          · exact Or.inl z
          · have hft : ¬ f = t := fun e' => by
              rw [e', hK] at z2
              exact nI_ne (hS x hx) z2.symm
            exact Or.inr ⟨f, hf, z1, by rw [Kx f hft (fno f hf)]; exact z2⟩
      · rw [Kx y (fun e => hyF (by rw [e]; exact ht)) (fun e => hyS (by rw [e]; exact oS))]
        exact h4 y hy hyF hyS
      · have same : ∀ x ∈ S, ∀ v ∈ F, K x = nI v → K' x = nI v := fun x hx v hv z => by
          have hxo : ¬ x = o := fun e' => by
            rw [e', hKo] at z
            exact nI_ne (hF v hv) z.symm
          rw [Kx x (sno x hx t ht) hxo]
          exact z
        by_cases e : f = t
        · subst e
          rw [At] at ec'
          have ecc : c' = c + 1 := ((n_eq (by omega) (by omega)).mp ec').symm
          by_cases ei : i = c
          · subst ei
            have eo' : o = o' := g_inj hW t16 ho (hS o' ho') rnt (by rw [ro, hr])
            rw [← eo']
            exact Or.inl Kt
          · obtain ⟨⟨v, hv, z1, z2⟩, z3⟩ := old o' ho' i (by omega) hr hmy
            exact Or.inr ⟨⟨v, hv, same o' ho' v hv z1, z2⟩, z3⟩
        · rw [Af f e] at ec'
          rcases h5 f hf c' hc' ec' o' ho' i hi hr hmy with z | ⟨⟨v, hv, z1, z2⟩, z3⟩
          · exact Or.inl (by rw [Kx f e (fno f hf)]; exact z)
          · exact Or.inr ⟨⟨v, hv, same o' ho' v hv z1, z2⟩, z3⟩
    · have u16 := hF u hu
      have nKo : ¬ K o = -nI 1 := by rw [y1]; exact nI_ne u16
      have uc : (K o).toNatClampNeg = u := by rw [y1, n_c (by omega)]
      have htu : ¬ t = u := fun e => by
        rw [← e, hK] at y2
        exact nI_ne ho y2.symm
      have hle : g_rh M o t ≤ g_rh M o u := by
        refine Classical.byContradiction (fun z => q1 (Or.inr (Or.inr ⟨nKo, ?_⟩)))
        rw [uc]
        exact z
      have hlt : g_rh M o t < g_rh M o u := by
        refine Int32.lt_of_le_of_ne hle (fun z => htu (g_inj hW ho t16 u16 rot z))
      have ek : k_ak M t o s K = fun j => if j = t then nI o else if j = o then nI t else if j = u then -nI 1 else K j := by
        unfold k_ak
        rw [if_neg q1, if_neg nKo, uc]
      rw [ek]
      have hou : ¬ o = u := fun e => hdj u hu (by rw [← e]; exact oS)
      have Kt : (fun j => if j = t then nI o else if j = o then nI t else if j = u then -nI 1 else K j) t = nI o := if_pos rfl
      have Ko : (fun j => if j = t then nI o else if j = o then nI t else if j = u then -nI 1 else K j) o = nI t := by
        show (if o = t then nI o else if o = o then nI t else if o = u then -nI 1 else K o) = nI t
        rw [if_neg (fun e => hto e.symm), if_pos rfl]
      have Ku : (fun j => if j = t then nI o else if j = o then nI t else if j = u then -nI 1 else K j) u = -nI 1 := by
        show (if u = t then nI o else if u = o then nI t else if u = u then -nI 1 else K u) = -nI 1
        rw [if_neg (fun e => htu e.symm), if_neg (fun e => hou e.symm), if_pos rfl]
      have Kx : ∀ x, ¬ x = t → ¬ x = o → ¬ x = u → (fun j => if j = t then nI o else if j = o then nI t else if j = u then -nI 1 else K j) x = K x := fun x a b c => by
        show (if x = t then nI o else if x = o then nI t else if x = u then -nI 1 else K x) = K x
        rw [if_neg a, if_neg b, if_neg c]
      generalize (fun j => if j = t then nI o else if j = o then nI t else if j = u then -nI 1 else K j) = K' at Kt Ko Ku Kx
      have sx : ∀ x ∈ S, ¬ x = o → K' x = K x := fun x hx e => Kx x (sno x hx t ht) e (sno x hx u hu)
      refine ⟨new1, fun f hf => ?_, fun x hx => ?_, fun y hy hyF hyS => ?_, fun f hf c' hc' ec' o' ho' i hi hr hmy => ?_⟩
      · by_cases e : f = t
        · subst e
          exact Or.inr ⟨o, oS, c, Kt, Ko, mto, by omega, ro, At⟩
        · by_cases e2 : f = u
          · rw [e2]
            exact Or.inl Ku
          · rw [Kx f e (fno f hf) e2]
            rcases h2 f hf with z | ⟨o', ho', i, z1, z2, z3, z4, z5, z6⟩
            · exact Or.inl z
            · have hoo : ¬ o' = o := fun e' => by
                rw [e', y1] at z2
                exact e2 (n16 (hF f hf) u16 z2.symm)
              exact Or.inr ⟨o', ho', i, z1, by rw [sx o' ho' hoo]; exact z2, z3, z4, z5, by rw [Af f e]; exact z6⟩
      · by_cases e : x = o
        · rw [e]
          exact Or.inr ⟨t, ht, Ko, Kt⟩
        · rw [sx x hx e]
          rcases h3 x hx with z | ⟨f, hf, z1, z2⟩
          · exact Or.inl z
          · have hft : ¬ f = t := fun e' => by
              rw [e', hK] at z2
              exact nI_ne (hS x hx) z2.symm
            have hfu : ¬ f = u := fun e' => by
              rw [e', y2] at z2
              exact e (n16 (hS x hx) ho z2.symm)
            exact Or.inr ⟨f, hf, z1, by rw [Kx f hft (fno f hf) hfu]; exact z2⟩
      · rw [Kx y (fun e => hyF (by rw [e]; exact ht)) (fun e => hyS (by rw [e]; exact oS)) (fun e => hyF (by rw [e]; exact hu))]
        exact h4 y hy hyF hyS
      · have right : ∀ v ∈ F, ((∃ x ∈ F, K o' = nI x ∧ g_rh M o' x < g_rh M o' v)) → (¬ o' = o ∨ ¬ v = t) → ∃ x ∈ F, K' o' = nI x ∧ g_rh M o' x < g_rh M o' v := fun v hv ⟨x, hx, z1, z2⟩ hvv => by
          by_cases e : o' = o
          · subst e
            have exu : x = u := n16 (hF x hx) u16 (z1.symm.trans y1)
            rw [exu] at z2
            exact ⟨t, ht, Ko, Int32.lt_trans hlt z2⟩
          · exact ⟨x, hx, by rw [sx o' ho' e]; exact z1, z2⟩
        by_cases e : f = t
        · subst e
          rw [At] at ec'
          have ecc : c' = c + 1 := ((n_eq (by omega) (by omega)).mp ec').symm
          by_cases ei : i = c
          · subst ei
            have eo' : o = o' := g_inj hW t16 ho (hS o' ho') rnt (by rw [ro, hr])
            rw [← eo']
            exact Or.inl Kt
          · obtain ⟨z1, z3⟩ := old o' ho' i (by omega) hr hmy
            refine Or.inr ⟨right f hf z1 (Or.inl (fun e' => ?_)), z3⟩
            rw [e', ro, n_eq (by omega) (by omega)] at hr
            omega
        · rw [Af f e] at ec'
          rcases h5 f hf c' hc' ec' o' ho' i hi hr hmy with z | ⟨z1, z3⟩
          · by_cases e2 : f = u
            · subst e2
              have eo' : o' = o := n16 (hS o' ho') ho (z.symm.trans y2)
              subst eo'
              right
              refine ⟨⟨t, ht, Ko, hlt⟩, fun q hq hst => ?_⟩
              exact g_rej hW hF hS hq hst hu ht oS (fun e' => htu e'.symm) mto hlt (by omega) ro (fun o2 ho2 j hj rj mj => (old o2 ho2 j hj rj mj).2 q hq hst)
            · exact Or.inl (by rw [Kx f e (fno f hf) e2]; exact z)
          · exact Or.inr ⟨right f hf z1 (Or.inr e), z3⟩
end GS

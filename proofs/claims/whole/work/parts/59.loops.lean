/-- the class: a text as told -/
def k_tq (M : eg_M) (q : Nat) : Prop := eg_isO wd M q 8 = true ∧ (∃ CL, k_rt M q CL) ∧ ∃ P, P < 2 ^ 20 ∧ (eg_gi M q 1).toInt64 = lN P
/-- the class: all texts are such -/
def k_ts (M : eg_M) : Prop := k_sf M ∧ k_tq M 30 ∧ ∀ i, i < (eg_gi M 23 2).toNatClampNeg → ∀ q, eg_gr M 24 i = some q → k_tq M q
/-- the class: what was looked at stands -/
def k_LK (M : eg_M) : Prop := eg_gi M 1 4 = -nI 1 ∨ ((∃ L, k_W M L ∧ k_lkd M L) ∧ ∀ q CL, k_tx M q CL → k_set M (k_pt M) CL)
/-- the class: all that holds of what it knows -/
def k_I (M : eg_M) : Prop := k_es M ∧ k_ts M ∧ k_LK M ∧ eg_cn (eg_gi M 7 4) 24 ∧ vp_in (eg_gi M 0 8) 3600
theorem k_to_tq {M : eg_M} (h : k_ts M) (k : Int32) : ∀ i, i ≤ (eg_gi M 23 2).toNatClampNeg → k_tq M (k_to M k i)
  | 0, _ => h.2.1
  | i + 1, hi => by
    obtain ⟨q, e, ho⟩ := h.1.2 i (by omega)
    rw [k_to, e]
    dsimp only
    split
    · exact k_to_tq h k i (by omega)
    · exact h.2.2 i (by omega) q e
theorem nw_gi {M : eg_M} {a : Int32} {u : k_U} {p j : Nat} (h : ¬ (34 ≤ p ∧ p ≤ 39)) (h1 : ¬ p = 1 ∨ (¬ j = 4 ∧ ¬ j = 12)) : eg_gi (k_nw M a u) p j = eg_gi M p j := by
  unfold k_nw
  rw [ri_g, if_neg (by omega), ri_g, if_neg (by omega), ri_g, if_neg (by omega), ri_g, if_neg (by omega), ri_g, if_neg (by omega), ri_g, if_neg (by omega)]
  show eg_gi (eg_si (eg_si M 1 4 a) 1 12 u.1) p j = _
  rw [si_g, if_neg (by omega), si_g, if_neg (by omega)]
theorem k_8m {M : eg_M} {q : Nat} (h : eg_isO wd M q 8 = true) : ¬ (34 ≤ q ∧ q ≤ 39) := by
  rintro ⟨h1, h2⟩
  rcases (show q = 34 ∨ q = 35 ∨ q = 36 ∨ q = 37 ∨ q = 38 ∨ q = 39 by omega) with rfl | rfl | rfl | rfl | rfl | rfl
  · exact Bool.noConfusion (h.symm.trans (show eg_isO wd M 34 8 = false from rfl))
  · exact Bool.noConfusion (h.symm.trans (show eg_isO wd M 35 8 = false from rfl))
  · exact Bool.noConfusion (h.symm.trans (show eg_isO wd M 36 8 = false from rfl))
  · exact Bool.noConfusion (h.symm.trans (show eg_isO wd M 37 8 = false from rfl))
  · exact Bool.noConfusion (h.symm.trans (show eg_isO wd M 38 8 = false from rfl))
  · exact Bool.noConfusion (h.symm.trans (show eg_isO wd M 39 8 = false from rfl))
/-- a text's own rows, when one reference of Known changes -/
theorem k_rt_ofR {M N : eg_M} {q : Nat} (h1 : N.1 = M.1) (h2 : ∀ j, eg_gr N q j = eg_gr M q j) (h3 : ∀ a, k_tp a → ∀ j, eg_gi N a j = eg_gi M a j) {L : List (Int32 × List Int32)} (h : k_rt M q L) : k_rt N q L := by
  have hr : ∀ j, eg_ref (eg_sh wd N q) N q j = eg_ref (eg_sh wd M q) M q j := fun j => by
    unfold eg_ref eg_sh
    rw [h1, h2]
  have hs : ∀ p, eg_sh wd N p = eg_sh wd M p := fun p => by
    unfold eg_sh
    rw [h1]
  have hi : ∀ p k, eg_is wd N p k = eg_is wd M p k := fun p k => by
    unfold eg_is
    rw [hs]
  have hl : ∀ p, eg_len wd N p = eg_len wd M p := fun p => by
    unfold eg_len
    rw [hs]
  obtain ⟨a3, e1, e2, e3, e4, e5, e6⟩ := h
  refine ⟨a3, by rw [hr]; exact e1, by rw [hi]; exact e2, e3, by rw [hl]; exact e4, e5, fun i hi' => ?_⟩
  obtain ⟨f1, ⟨a4, a5, u, s1, s2, s3, s4, s5, s6, s7, s8, s9, t1, t2, t3, t4⟩, f3⟩ := e6 i hi'
  refine ⟨(h3 a3 e3 i).trans f1, ⟨a4, a5, u, by rw [hr]; exact s1, by rw [hr]; exact s2, by rw [hi]; exact s3, by rw [hi]; exact s4, s5, s6, by rw [hl]; exact s7, by rw [hl]; exact s8, ?_, (h3 a4 s5 i).trans t1, by rw [hl]; exact t2, by rw [hl]; exact t3, fun j hj => (h3 a5 s6 _).trans (t4 j hj)⟩, f3⟩
  rcases s9 with z | z
  · exact Or.inl z
  · exact Or.inr ⟨z.1, (h3 a4 s5 _).trans z.2⟩
theorem nw_tq {M : eg_M} {a : Int32} {u : k_U} {q : Nat} (h : k_tq M q) : k_tq (k_nw M a u) q := by
  obtain ⟨h1, ⟨CL, h2⟩, P, h3, h4⟩ := h
  have hq1 : ¬ q = 1 := by
    rintro rfl
    exact Bool.noConfusion (h1.symm.trans (show eg_isO wd M 1 8 = false from rfl))
  refine ⟨h1, ⟨CL, k_rt_ofR (M := M) (N := k_nw M a u) rfl (fun j => ?_) (fun b hb j => nw_gi ?_ (Or.inl ?_)) h2⟩, P, h3, ?_⟩
  · show (if q = 1 then _ else M.2.2.2 q) j = M.2.2.2 q j
    rw [if_neg hq1]
  · unfold k_tp at hb; omega
  · unfold k_tp at hb; omega
  · rw [nw_gi (k_8m h1) (Or.inl hq1)]
    exact h4
theorem nw_ts {M : eg_M} {a : Int32} {u : k_U} (h : k_ts M) : k_ts (k_nw M a u) := ⟨h.1, nw_tq h.2.1, fun i hi q hq => nw_tq (h.2.2 i hi q hq)⟩
/-- what a look leaves: all still holds, and the day is looked at -/
theorem k_look {M : eg_M} {k : Nat} (hk : k < 3600) (hI : k_I M) {u : k_U} (h : ((k_nw M (nI k) u = M ∧ eg_gi M 1 4 = nI k) ∨ (u.1 = nI 0 ∧ ∃ L, k_W M L ∧ k_lkd (k_nw M (nI k) u) L)) ∧ ((∀ j, j < 200 → k_ev (eg_gi M 36 j)) → ∀ j, j < 200 → k_ev (u.2.2.2.2.1 j))) : k_I (k_nw M (nI k) u) ∧ eg_gi (k_nw M (nI k) u) 1 4 = nI k ∧ (∃ L, k_W (k_nw M (nI k) u) L ∧ k_lkd (k_nw M (nI k) u) L) ∧ k_pq (k_nw M (nI k) u) ∧ ∃ q CL, k_tx (k_nw M (nI k) u) q CL ∧ k_set (k_nw M (nI k) u) (k_pt (k_nw M (nI k) u)) CL := by
  obtain ⟨hES, hTS, hLK, hc, ht⟩ := hI
  have hES' : k_es (k_nw M (nI k) u) := ⟨hES.1, hES.2.1, h.2 hES.2.2.1, hES.2.2.2⟩
  have hTS' : k_ts (k_nw M (nI k) u) := nw_ts hTS
  have hd : eg_gi (k_nw M (nI k) u) 1 4 = nI k := rfl
  have hlk : (∃ L, k_W (k_nw M (nI k) u) L ∧ k_lkd (k_nw M (nI k) u) L) ∧ ∀ q CL, k_tx (k_nw M (nI k) u) q CL → k_set (k_nw M (nI k) u) (k_pt (k_nw M (nI k) u)) CL := by
    rcases h.1 with h1 | h1
    · rw [h1.1]
      rcases hLK with z | z
      · exact absurd (h1.2.symm.trans z) (nI_m1 (by omega))
      · exact z
    · obtain ⟨hs, L, hW, hl⟩ := h1
      refine ⟨⟨L, hW, hl⟩, fun q CL _ y _ hb => absurd ?_ hb⟩
      show u.1 &&& _ = 0
      rw [hs]
      apply Int32.toBitVec_inj.mp
      rw [Int32.toBitVec_and]
      show 0#32 &&& _ = 0#32
      exact BitVec.zero_and
  obtain ⟨L, hW, hl⟩ := hlk.1
  have hq := k_to_tq hTS' (nI k) (eg_gi (k_nw M (nI k) u) 23 2).toNatClampNeg (Nat.le_refl _)
  obtain ⟨o1, ⟨CL, o2⟩, P, o3, o4⟩ := hq
  have hr : eg_ref (eg_sh wd (k_nw M (nI k) u) 1) (k_nw M (nI k) u) 1 5 = some (k_to (k_nw M (nI k) u) (nI k) (eg_gi (k_nw M (nI k) u) 23 2).toNatClampNeg) := hl.1
  have htx : k_tx (k_nw M (nI k) u) (k_to (k_nw M (nI k) u) (nI k) (eg_gi (k_nw M (nI k) u) 23 2).toNatClampNeg) CL := ⟨hr, o1, o2⟩
  exact ⟨⟨hES', hTS', Or.inr hlk, hc, ht⟩, hd, hlk.1, ⟨_, P, hr, o1, o3, o4⟩, _, CL, htx, hlk.2 _ CL htx⟩

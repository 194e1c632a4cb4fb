/-! WHAT IS MADE -/
def eg_ad (ad : Nat → Nat) (N q : Nat) : Nat → Nat := fun x => if x = N then q else ad x
theorem eg_ad_x (ad : Nat → Nat) (N q : Nat) : eg_x ad N (eg_ad ad N q) (N + 1) := ⟨fun x hx => if_neg (by omega), Nat.le_succ _⟩
section EA
variable {w : eg_W} {aC : Nat → ClassId} {adK ad : Nat → Nat} {M : eg_M} {x : eg_E} {q p0 : Nat}
theorem eg_blt_t {a b : Nat} (h : a < b) : Nat.blt a b = true := by rw [Nat.blt_eq]; exact h
theorem eg_blt_f {a b : Nat} (h : ¬ a < b) : Nat.blt a b = false := by rw [← Bool.not_eq_true, Nat.blt_eq]; exact h
theorem eg_sh_new_lt (h : p0 < eg_N w M) : eg_sh w (eg_new w M x) p0 = eg_sh w M p0 := by
  unfold eg_sh eg_new
  unfold eg_N at h
  by_cases hb : p0 < w.2.1
  · rw [eg_blt_t hb]
    rfl
  · rw [eg_blt_f hb]
    show (M.1 ++ [x]).getD (p0 - w.2.1) (99, 0, []) = M.1.getD (p0 - w.2.1) (99, 0, [])
    rw [List.getD_eq_getElem?_getD, List.getD_eq_getElem?_getD, List.getElem?_append_left (by omega)]
theorem eg_sh_new_eq : eg_sh w (eg_new w M x) (eg_N w M) = x := by
  unfold eg_sh eg_new eg_N
  rw [eg_blt_f (by omega)]
  show (M.1 ++ [x]).getD (w.2.1 + M.1.length - w.2.1) (99, 0, []) = x
  rw [Nat.add_sub_cancel_left, List.getD_eq_getElem?_getD, List.getElem?_append_right (Nat.le_refl _)]
  simp
theorem eg_N_new : eg_N w (eg_new w M x) = eg_N w M + 1 := by
  unfold eg_N eg_new
  rw [List.length_append]
  rfl
theorem eg_new_i (h : ¬ p0 = eg_N w M) : (eg_new w M x).2.1 p0 = M.2.1 p0 ∧ (eg_new w M x).2.2.1 p0 = M.2.2.1 p0 ∧ (eg_new w M x).2.2.2 p0 = M.2.2.2 p0 := ⟨if_neg h, if_neg h, if_neg h⟩
theorem eg_new_e : (eg_new w M x).2.1 (eg_N w M) = (fun _ => 0) ∧ (eg_new w M x).2.2.1 (eg_N w M) = (fun _ => 0) ∧ (eg_new w M x).2.2.2 (eg_N w M) = (fun _ => none) := ⟨if_pos rfl, if_pos rfl, if_pos rfl⟩
theorem eg_ent_new (hw : eg_wf w M) (h : p0 < eg_N w M) : eg_ent w aC adK (eg_ad ad (eg_N w M) q) (eg_new w M x) p0 = eg_ent w aC adK ad M p0 := by
  have hs := eg_sh_new_lt (x := x) h
  obtain ⟨hi, hl, hr⟩ := eg_new_i (x := x) (show ¬ p0 = eg_N w M by omega)
  have hx := eg_ad_x ad (eg_N w M) q
  have hgr : ∀ k, eg_gr (eg_new w M x) p0 k = eg_gr M p0 k := fun k => congrFun hr k
  have hrf : ∀ k, eg_ref (eg_sh w (eg_new w M x) p0) (eg_new w M x) p0 k = eg_ref (eg_sh w M p0) M p0 k := fun k => by
    unfold eg_ref
    rw [hs, hgr]
  rcases (show (eg_sh w M p0).1 = 0 ∨ (eg_sh w M p0).1 = 1 ∨ (eg_sh w M p0).1 = 2 ∨ (eg_sh w M p0).1 = 3 ∨ 4 ≤ (eg_sh w M p0).1 by omega) with e | e | e | e | e
  · rw [eg_ent_o (M := M) e rfl, eg_ent_o (M := eg_new w M x) (ci := (eg_sh w M p0).2.1) (by rw [hs]; exact e) (by rw [hs])]
    refine congrArg (fun z => Sum.inr ((eg_sh w M p0).2.1, z)) (List.map_congr_left (fun k _ => ?_))
    have hf : eg_fld w (eg_new w M x) p0 (eg_sh w M p0).2.1 k = eg_fld w M p0 (eg_sh w M p0).2.1 k := by
      unfold eg_fld eg_gi eg_gl
      rw [hi, hl, hrf]
    show eg_cv _ adK (eg_fld w (eg_new w M x) p0 (eg_sh w M p0).2.1 k) = eg_cv ad adK (eg_fld w M p0 (eg_sh w M p0).2.1 k)
    rw [hf]
    exact eg_cv_x hx (eg_fld_wv hw e rfl)
  · rw [eg_ent_i (M := M) e, eg_ent_i (M := eg_new w M x) (by rw [hs]; exact e), hi]
    unfold eg_len
    rw [hs]
  · rw [eg_ent_l (M := M) e, eg_ent_l (M := eg_new w M x) (by rw [hs]; exact e), hl]
    unfold eg_len
    rw [hs]
  · rw [eg_ent_z (M := M) e, eg_ent_z (M := eg_new w M x) (by rw [hs]; exact e), hi]
    unfold eg_len
    rw [hs]
  · rw [eg_ent_q (M := M) rfl e, eg_ent_q (M := eg_new w M x) (k := (eg_sh w M p0).1) (by rw [hs]) e]
    have ha : eg_ea w adK (eg_ad ad (eg_N w M) q) (eg_new w M x) p0 = eg_ea w adK ad M p0 := by
      funext i
      unfold eg_ea
      rw [hrf, hs, hgr]
      rcases (show (eg_sh w M p0).1 = 4 ∨ (eg_sh w M p0).1 = 5 ∨ 6 ≤ (eg_sh w M p0).1 by omega) with c | c | c
      · rw [c]
        show (eg_gr M p0 i).map _ = (eg_gr M p0 i).map _
        cases hg : eg_gr M p0 i with
        | none => rfl
        | some z => exact congrArg some (hx.1 z (hw.2.1 p0 i z c hg))
      · rw [c]
        rfl
      · obtain ⟨k, hk⟩ : ∃ k, (eg_sh w M p0).1 = k + 6 := ⟨(eg_sh w M p0).1 - 6, by omega⟩
        rw [hk]
        show (if i < (eg_sh w M p0).2.1 then some _ else none) = (if i < (eg_sh w M p0).2.1 then some _ else none)
        by_cases hl2 : i < (eg_sh w M p0).2.1
        · rw [if_pos hl2, if_pos hl2, hx.1 _ (hw.2.2 p0 i c h hl2)]
        · rw [if_neg hl2, if_neg hl2]
    rw [ha]
    unfold eg_len
    rw [hs]
theorem eg_ws_new (hw : eg_wf w M) : eg_ws w aC adK (eg_ad ad (eg_N w M) q) (eg_new w M x) = eg_ws w aC adK ad M ++ [(q, eg_ent w aC adK (eg_ad ad (eg_N w M) q) (eg_new w M x) (eg_N w M))] := by
  unfold eg_ws
  rw [eg_N_new, List.range_succ, List.map_append]
  refine congr (congrArg _ (List.map_congr_left (fun p hp => ?_))) ?_
  · have hp := List.mem_range.mp hp
    exact Prod.ext (if_neg (by omega)) (eg_ent_new hw hp)
  · show [(eg_ad ad (eg_N w M) q (eg_N w M), _)] = _
    rw [show eg_ad ad (eg_N w M) q (eg_N w M) = q from if_pos rfl]
theorem eg_wf_new (hw : eg_wf w M) (h5 : x.1 ≤ 5) (hx : x.2.2 = []) : eg_wf w (eg_new w M x) := by
  have hc : ∀ p, ¬ (eg_sh w (eg_new w M x) p).1 = 99 → p < eg_N w M ∨ p = eg_N w M := fun p h => by
    have := eg_sh_lt h
    rw [eg_N_new] at this
    omega
  obtain ⟨h1, h2, h3⟩ := hw
  refine ⟨fun p k z a b g => ?_, fun p k z a g => ?_, fun p k a b g => ?_⟩
  · rw [eg_N_new]
    rcases hc p (by omega) with c | rfl
    · rw [eg_sh_new_lt c] at a b
      have hr := (eg_new_i (x := x) (show ¬ p = eg_N w M by omega)).2.2
      have := h1 p k z a b (by
        unfold eg_ref eg_gr at g ⊢
        rw [eg_sh_new_lt c, hr] at g
        exact g)
      omega
    · unfold eg_ref eg_gr at g
      rw [eg_sh_new_eq, hx, eg_new_e.2.2] at g
      cases g
  · rw [eg_N_new]
    rcases hc p (by omega) with c | rfl
    · rw [eg_sh_new_lt c] at a
      have hr := (eg_new_i (x := x) (show ¬ p = eg_N w M by omega)).2.2
      have := h2 p k z a (by
        unfold eg_gr at g ⊢
        rw [hr] at g
        exact g)
      omega
    · unfold eg_gr at g
      rw [eg_new_e.2.2] at g
      cases g
  · rw [eg_N_new] at b ⊢
    rcases (show p < eg_N w M ∨ p = eg_N w M by omega) with c | rfl
    · rw [eg_sh_new_lt c] at a g
      have := h3 p k a c g
      omega
    · rw [eg_sh_new_eq] at a
      omega
end EA
section EB
variable {p : Program} {l : Launch} {e : Env} {R : Room} {s : State} {m : MethodId} {args : Array Value} {below : List Frame} {meth : Method} {c : Code} {Q : State → Prop}
variable {cc : ByteArray} {own er : String} {Ts : List Cond} {w : eg_W} {D : va_G} {cl : List vw_C} {aC : Nat → ClassId} {adK : Nat → Nat} {A : Nat → Prop} {nL N0 : Nat} {ad0 : Nat → Nat}
theorem eg_H_new {H0 H H1 : Heap} {ad : Nat → Nat} {M : eg_M} {locs : List Loc} {x : eg_E} {q : Nat} {ent : va_E} (hH : eg_H w D cl aC adK A H0 ad0 N0 ad M H locs) (h5 : x.1 ≤ 5) (hx : x.2.2 = []) (he : eg_ent w aC adK (eg_ad ad (eg_N w M) q) (eg_new w M x) (eg_N w M) = ent)
    (k2 : va_P D cl (eg_ws w aC adK ad M ++ [(q, ent)]) H1) (k3 : va_D A (eg_ws w aC adK ad M ++ [(q, ent)])) (k4 : va_S A H0 H1 locs) : eg_H w D cl aC adK A H0 ad0 N0 (eg_ad ad (eg_N w M) q) (eg_new w M x) H1 locs := by
  have hws := eg_ws_new (aC := aC) (adK := adK) (ad := ad) (x := x) (q := q) hH.2.2.2.1
  rw [he] at hws
  refine ⟨by rw [hws]; exact k2, by rw [hws]; exact k3, k4, eg_wf_new hH.2.2.2.1 h5 hx, ?_⟩
  rw [eg_N_new]
  exact eg_x_trans hH.2.2.2.2 (eg_ad_x _ _ _)
/-- a new row of ints, longs, booleans -/
def s_newa (w : eg_W) (kd ks : Nat) : eg_S := fun argv M Qp => match argv with
  | [.int x] => (¬ x < 0 ∧ x.toNatClampNeg ≤ ks ∧ ks ≤ 200000) ∧ Qp (.inl (some (.ref (eg_N w M)))) (eg_new w M (kd, x.toNatClampNeg, []))
  | _ => False
theorem mo_newa (w : eg_W) (kd ks : Nat) : eg_mono (s_newa w kd ks) := by
  intro argv M Q Q' h
  unfold s_newa
  split
  · exact fun z => ⟨z.1, h _ _ z.2⟩
  · exact id
theorem eg_rst {ad : Nat → Nat} {N q N' : Nat} {rest : List Value} (hx : eg_x ad N (eg_ad ad N q) N') (hrv : ∀ v ∈ rest, eg_wv N v) : ((some (Value.ref N)).toList ++ rest).map (eg_cv (eg_ad ad N q) adK) = .ref q :: rest.map (eg_cv ad adK) := by
  show (Value.ref N :: rest).map (eg_cv (eg_ad ad N q) adK) = _
  rw [List.map_cons, show eg_cv (eg_ad ad N q) adK (.ref N) = .ref q from congrArg Value.ref (if_pos rfl), List.map_congr_left (fun u hu => eg_cv_x hx (hrv u hu))]
theorem eg_CE_newi (S0 : CallFix p m c cc nL s args Ts own) (hK : va_K D cl (eg_tys er aC) s) (hA : ∀ q, s.heap.size ≤ q → A q) (harr : (Cond.arrayClass .int).before args s = true) {ks : Nat} : eg_CE p l e R s m args below meth c Q w D cl aC adK A nL ad0 N0 cc (.newarray .int) 2 1 1 ks (s_newa w 1 ks) := by
  intro pc cu su ls rest argv M Qp hd hn hc hs hS ad H locs arr hH hL hav hrv kk
  unfold s_newa at hS
  split at hS
  · rename_i x
    obtain ⟨⟨h0, h1, h2⟩, hS⟩ := hS
    obtain ⟨hx, hb, hml, hown, hts⟩ := S0
    refine va_newa (atype := .int) (ty := .int) (a0 := (x.toNatClampNeg, .inl (fun _ => 0))) (rest := rest.map (eg_cv ad adK)) hx hb harr rfl hK hH.1 hH.2.1 hH.2.2.1 hA (fun cA => rfl) h0 rfl (by show _ * 4 ≤ _; omega) (by omega) (by omega) hd (fun q cA H1 k1 k2 k3 k4 => ?_)
    have e1 : cA = aC 1 := Option.some.inj ((k1.2 7 (cA, .int) rfl).2.symm.trans (hK.2 0 (aC 1, .int) rfl).2)
    subst e1
    have hH1 := eg_H_new (x := (1, x.toNatClampNeg, [])) (q := q) hH (show 1 ≤ 5 by decide) rfl (by
      rw [eg_ent_i (by rw [eg_sh_new_eq]), eg_new_e.1]
      unfold eg_len
      rw [eg_sh_new_eq]) k2 k3 k4
    have hx1 : eg_x ad (eg_N w M) (eg_ad ad (eg_N w M) q) (eg_N w (eg_new w M (1, x.toNatClampNeg, []))) := by
      rw [eg_N_new]
      exact eg_ad_x _ _ _
    have := kk (some (.ref (eg_N w M))) _ (eg_ad ad (eg_N w M) q) H1 locs hS hH1 hx1 (fun u hu => by
      cases List.mem_singleton.mp hu
      show eg_N w M < _
      rw [eg_N_new]
      omega)
    rw [eg_rst hx1 hrv] at this
    exact W.widen (by omega) (by omega) this
  · exact hS.elim
theorem eg_CE_newl (S0 : CallFix p m c cc nL s args Ts own) (hK : va_K D cl (eg_tys er aC) s) (hA : ∀ q, s.heap.size ≤ q → A q) (harr : (Cond.arrayClass .long).before args s = true) {ks : Nat} : eg_CE p l e R s m args below meth c Q w D cl aC adK A nL ad0 N0 cc (.newarray .long) 2 1 1 ks (s_newa w 2 ks) := by
  intro pc cu su ls rest argv M Qp hd hn hc hs hS ad H locs arr hH hL hav hrv kk
  unfold s_newa at hS
  split at hS
  · rename_i x
    obtain ⟨⟨h0, h1, h2⟩, hS⟩ := hS
    obtain ⟨hx, hb, hml, hown, hts⟩ := S0
    refine va_newa (atype := .long) (ty := .long) (a0 := (x.toNatClampNeg, .inr (.inl (fun _ => 0)))) (rest := rest.map (eg_cv ad adK)) hx hb harr rfl hK hH.1 hH.2.1 hH.2.2.1 hA (fun cA => rfl) h0 rfl (by show _ * 8 ≤ _; omega) (by omega) (by omega) hd (fun q cA H1 k1 k2 k3 k4 => ?_)
    have e1 : cA = aC 2 := Option.some.inj ((k1.2 7 (cA, .long) rfl).2.symm.trans (hK.2 1 (aC 2, .long) rfl).2)
    subst e1
    have hH1 := eg_H_new (x := (2, x.toNatClampNeg, [])) (q := q) hH (show 2 ≤ 5 by decide) rfl (by
      rw [eg_ent_l (by rw [eg_sh_new_eq]), eg_new_e.2.1]
      unfold eg_len
      rw [eg_sh_new_eq]) k2 k3 k4
    have hx1 : eg_x ad (eg_N w M) (eg_ad ad (eg_N w M) q) (eg_N w (eg_new w M (2, x.toNatClampNeg, []))) := by
      rw [eg_N_new]
      exact eg_ad_x _ _ _
    have := kk (some (.ref (eg_N w M))) _ (eg_ad ad (eg_N w M) q) H1 locs hS hH1 hx1 (fun u hu => by
      cases List.mem_singleton.mp hu
      show eg_N w M < _
      rw [eg_N_new]
      omega)
    rw [eg_rst hx1 hrv] at this
    exact W.widen (by omega) (by omega) this
  · exact hS.elim
theorem eg_CE_newz (S0 : CallFix p m c cc nL s args Ts own) (hK : va_K D cl (eg_tys er aC) s) (hA : ∀ q, s.heap.size ≤ q → A q) (harr : (Cond.arrayClass .boolean).before args s = true) {ks : Nat} : eg_CE p l e R s m args below meth c Q w D cl aC adK A nL ad0 N0 cc (.newarray .boolean) 2 1 1 ks (s_newa w 3 ks) := by
  intro pc cu su ls rest argv M Qp hd hn hc hs hS ad H locs arr hH hL hav hrv kk
  unfold s_newa at hS
  split at hS
  · rename_i x
    obtain ⟨⟨h0, h1, h2⟩, hS⟩ := hS
    obtain ⟨hx, hb, hml, hown, hts⟩ := S0
    refine va_newa (atype := .boolean) (ty := .boolean) (a0 := (x.toNatClampNeg, .inl (fun _ => 0))) (rest := rest.map (eg_cv ad adK)) hx hb harr rfl hK hH.1 hH.2.1 hH.2.2.1 hA (fun cA => rfl) h0 rfl (by show _ * 1 ≤ _; omega) (by omega) (by omega) hd (fun q cA H1 k1 k2 k3 k4 => ?_)
    have e1 : cA = aC 3 := Option.some.inj ((k1.2 7 (cA, .boolean) rfl).2.symm.trans (hK.2 2 (aC 3, .boolean) rfl).2)
    subst e1
    have hH1 := eg_H_new (x := (3, x.toNatClampNeg, [])) (q := q) hH (show 3 ≤ 5 by decide) rfl (by
      rw [eg_ent_z (by rw [eg_sh_new_eq]), eg_new_e.1]
      unfold eg_len
      rw [eg_sh_new_eq]) k2 k3 k4
    have hx1 : eg_x ad (eg_N w M) (eg_ad ad (eg_N w M) q) (eg_N w (eg_new w M (3, x.toNatClampNeg, []))) := by
      rw [eg_N_new]
      exact eg_ad_x _ _ _
    have := kk (some (.ref (eg_N w M))) _ (eg_ad ad (eg_N w M) q) H1 locs hS hH1 hx1 (fun u hu => by
      cases List.mem_singleton.mp hu
      show eg_N w M < _
      rw [eg_N_new]
      omega)
    rw [eg_rst hx1 hrv] at this
    exact W.widen (by omega) (by omega) this
  · exact hS.elim
/-- a new object -/
theorem eg_fld_new {M : eg_M} {ci k : Nat} : eg_fld w (eg_new w M (0, ci, [])) (eg_N w M) ci k = (match w.2.2.1 ci k with
  | 0 => .int 0
  | 1 => .long 0
  | 2 => .null
  | _ => .int 0) := by
  have h1 : eg_gi (eg_new w M (0, ci, [])) (eg_N w M) k = 0 := congrFun (eg_new_e (x := (0, ci, []))).1 k
  have h2 : eg_gl (eg_new w M (0, ci, [])) (eg_N w M) k = 0 := congrFun (eg_new_e (x := (0, ci, []))).2.1 k
  have h3 : eg_ref (eg_sh w (eg_new w M (0, ci, [])) (eg_N w M)) (eg_new w M (0, ci, [])) (eg_N w M) k = none := by
    unfold eg_ref eg_gr
    rw [eg_sh_new_eq, eg_new_e.2.2]
    rfl
  unfold eg_fld
  rw [h1, h2, h3]
  rfl
theorem eg_dv {M : eg_M} {ci N : Nat} {ty : Nat → FieldType} (hft : ∀ j, j < N → w.2.2.1 ci j = eg_ft (ty j)) (hf3 : ∀ j, j < N → w.2.2.1 ci j ≤ 3) (i : Nat) (hi : i < N) : defaultValue (ty i) = vp_V ((List.range N).map (fun i => eg_fld w (eg_new w M (0, ci, [])) (eg_N w M) ci i)) i := by
  have e1 : vp_V ((List.range N).map (fun i => eg_fld w (eg_new w M (0, ci, [])) (eg_N w M) ci i)) i = eg_fld w (eg_new w M (0, ci, [])) (eg_N w M) ci i := by
    unfold vp_V
    rw [List.getD_eq_getElem?_getD, List.getElem?_map, List.getElem?_range hi]
    rfl
  rw [e1, eg_fld_new]
  have a1 := hft i hi
  have a2 := hf3 i hi
  rw [a1] at a2 ⊢
  generalize ty i = y at a2 ⊢
  cases y with
  | int => rfl
  | long => rfl
  | boolean => rfl
  | object n => rfl
  | array t => rfl
  | _ => exact absurd a2 (by decide)
theorem eg_ent_newo {M : eg_M} {ad : Nat → Nat} {ci N q : Nat} (hn : w.2.2.2 ci = N) : eg_ent w aC adK (eg_ad ad (eg_N w M) q) (eg_new w M (0, ci, [])) (eg_N w M) = .inr (ci, (List.range N).map (fun i => eg_fld w (eg_new w M (0, ci, [])) (eg_N w M) ci i)) := by
  rw [eg_ent_o (ci := ci) (by rw [eg_sh_new_eq]) (by rw [eg_sh_new_eq]), hn]
  have : (List.range N).map (fun k => eg_cv (eg_ad ad (eg_N w M) q) adK (eg_fld w (eg_new w M (0, ci, [])) (eg_N w M) ci k)) = (List.range N).map (fun i => eg_fld w (eg_new w M (0, ci, [])) (eg_N w M) ci i) := by
    refine List.map_congr_left (fun i hi => ?_)
    rw [eg_fld_new]
    split <;> rfl
  rw [this]
theorem eg_NK_new0 (S0 : CallFix p m c cc nL s args Ts own) (hK : va_K D cl (eg_tys er aC) s) (hA : ∀ q, s.heap.size ≤ q → A q) {C : String} {T : u_T} {N ci j pc cu su : Nat} {ls : List (Option Value)} {st : List Value} {M : eg_M} {ty : Nat → FieldType} (hcl : cl[ci]? = some (C, T, N)) (hn : w.2.2.2 ci = N) (hws : ∀ x ∈ u_ws C T N, x ∈ Ts) (hty : ∀ j, j < N → parseFieldDescriptor (T j).2.2.1 = some (ty j)) (hft : ∀ j, j < N → w.2.2.1 ci j = eg_ft (ty j)) (hf3 : ∀ j, j < N → w.2.2.1 ci j ≤ 3) (h1 : (Cond.classLink own j C).before args s = true) (h2 : (Cond.instantiable C N).before args s = true) (h3 : (Cond.initialized C).before args s = true) (hd : decode cc pc = .ok (.new j, 3)) (hc : cu + 1 ≤ R.cells) (hs : su + w.2.2.2 ci ≤ R.slots)
    (hG : eg_G p l e R s m args below meth c Q w D cl aC adK A nL ad0 N0 (pc + 3) (cu + 1) (su + w.2.2.2 ci) ls (.ref (eg_N w M) :: st) (eg_new w M (0, ci, []))) : eg_G p l e R s m args below meth c Q w D cl aC adK A nL ad0 N0 pc cu su ls st M := by
  intro ad H locs arr hH hL hst
  obtain ⟨hx, hb, hml, hown, hts⟩ := S0
  rw [hn] at hs hG
  refine va_new (own := own) (C := C) (T := T) (N := N) (ci := ci) (index := j) (rest := st.map (eg_cv ad adK)) (fs := (List.range N).map (fun i => eg_fld w (eg_new w M (0, ci, [])) (eg_N w M) ci i)) hx hb hts hws ty hty hown h1 h2 h3 hK hH.1 hH.2.1 hH.2.2.1 hA hcl (eg_dv hft hf3) hc hs hd (fun q H1 k2 k3 k4 => ?_)
  have hH1 := eg_H_new (x := (0, ci, [])) (q := q) hH (show 0 ≤ 5 by decide) rfl (eg_ent_newo hn) k2 k3 k4
  have hx1 : eg_x ad (eg_N w M) (eg_ad ad (eg_N w M) q) (eg_N w (eg_new w M (0, ci, []))) := by
    rw [eg_N_new]
    exact eg_ad_x _ _ _
  have := hG (eg_ad ad (eg_N w M) q) H1 locs arr hH1 (hL.grown hx1) (fun u hu => by
    rcases List.mem_cons.mp hu with z | z
    · rw [z]
      show eg_N w M < _
      rw [eg_N_new]
      omega
    · exact eg_wv_x hx1 (hst u z))
  have e9 : (Value.ref (eg_N w M) :: st).map (eg_cv (eg_ad ad (eg_N w M) q) adK) = .ref q :: st.map (eg_cv ad adK) := eg_rst (adK := adK) (rest := st) hx1 hst
  rw [e9] at this
  exact this
theorem eg_NK_new (S0 : CallFix p m c cc nL s args Ts own) (hK : va_K D cl (eg_tys er aC) s) (hA : ∀ q, s.heap.size ≤ q → A q) {C : String} {T : u_T} {N ci j : Nat} {ty : Nat → FieldType} {P : eg_P} {k : eg_C} (hcl : cl[ci]? = some (C, T, N)) (hn : w.2.2.2 ci = N) (hws : ∀ x ∈ u_ws C T N, x ∈ Ts) (hty : ∀ j, j < N → parseFieldDescriptor (T j).2.2.1 = some (ty j)) (hft : ∀ j, j < N → w.2.2.1 ci j = eg_ft (ty j)) (hf3 : ∀ j, j < N → w.2.2.1 ci j ≤ 3) (h1 : (Cond.classLink own j C).before args s = true) (h2 : (Cond.instantiable C N).before args s = true) (h3 : (Cond.initialized C).before args s = true) (hd : ∀ q ∈ k.1, decode cc q.1 = .ok q.2) : eg_NK p l e R s m args below meth c Q w D cl aC adK A nL ad0 N0 cc P k (j, .inr ci) := by
  intro pc cu su ls st M hmem hc hs hG
  have h9 : decode cc pc = .ok (.new j, 3) := hd (pc, .new j, 3) hmem
  exact eg_NK_new0 S0 hK hA hcl hn hws hty hft hf3 h1 h2 h3 h9 hc hs hG
/-- an object into a row of such -/
def s_ast4 (w : eg_W) (ci : Nat) : eg_S := fun argv M Qp => match argv with
  | [.ref a, .int i, .ref v] => (eg_is w M a 4 = true ∧ eg_isO w M v ci = true ∧ vp_in i (eg_len w M a)) ∧ Qp (.inl none) (eg_sr M a i.toNatClampNeg (some v))
  | _ => False
theorem mo_ast4 (w : eg_W) (ci : Nat) : eg_mono (s_ast4 w ci) := by
  intro argv M Q Q' h
  unfold s_ast4
  split
  · exact fun z => ⟨z.1, h _ _ z.2⟩
  · exact id
theorem eg_CE_ast4 (S0 : CallFix p m c cc nL s args Ts own) (hK : va_K D cl (eg_tys er aC) s) {ci : Nat} {r : vw_C} (hcl : cl[ci]? = some r) (hr : r.1 = er) : eg_CE p l e R s m args below meth c Q w D cl aC adK A nL ad0 N0 cc .aastore 1 3 0 0 (s_ast4 w ci) := by
  intro pc cu su ls rest argv M Qp hd hn hc hs hS ad H locs arr hH hL hav hrv kk
  unfold s_ast4 at hS
  split at hS
  · rename_i a i v
    obtain ⟨⟨k1, k2, k3⟩, hS⟩ := hS
    obtain ⟨hx, hb, hml, hown, hts⟩ := S0
    have ka := eg_is_out k1
    obtain ⟨kv, kc⟩ := eg_isO_out k2
    have hv := (show eg_wv (eg_N w M) (.ref v) from hav _ (by simp))
    refine va_astq (rest := rest.map (eg_cv ad adK)) hx hb hK hH.1 hH.2.1 hH.2.2.1 a 3 v ci (by rw [eg_ws_get (eg_lt_of ka (by omega)), eg_ent_q ka (by omega)]) (by rw [hr]; rfl) (by rw [eg_ws_get (eg_lt_of kv (by omega)), eg_ent_o kv kc]) hcl k3 hd (fun H1 locs1 g1 g2 g3 => ?_)
    have hws : eg_ws w aC adK ad (eg_sr M a i.toNatClampNeg (some v)) = (eg_ws w aC adK ad M).set a (ad a, .inl (aC 4, eg_len w M a, .inr (.inr (.inr (.inr (va_up (eg_ea w adK ad M a) i.toNatClampNeg (some (ad v)))))))) := by
      refine eg_ws_set (M := M) (N := eg_sr M a i.toNatClampNeg (some v)) rfl (fun q hq => eg_ent_of (M := M) rfl rfl rfl (eg_up_ne hq)) ?_
      rw [eg_ent_q (M := eg_sr M a i.toNatClampNeg (some v)) ka (by omega)]
      refine congrArg (fun z => Sum.inl (aC 4, eg_len w M a, Sum.inr (Sum.inr (Sum.inr (Sum.inr z))))) (funext (fun j => ?_))
      have e1 : ∀ X : eg_M, X.1 = M.1 → eg_ea w adK ad X a j = (eg_gr X a j).map ad := fun X hX => by
        unfold eg_ea
        rw [eg_sh_of hX, ka]
        rfl
      rw [e1 (eg_sr M a i.toNatClampNeg (some v)) rfl, eg_gr_sr]
      unfold va_up
      by_cases hj : j = i.toNatClampNeg
      · rw [if_pos ⟨rfl, hj⟩, if_pos hj]
        rfl
      · rw [if_neg (fun z => hj z.2), if_neg hj, e1 M rfl]
    have := kk none _ ad H1 locs1 hS ⟨by rw [hws]; exact g1, by rw [hws]; exact g2, g3, eg_wf_r hH.2.2.2.1 hv, hH.2.2.2.2⟩ ⟨fun _ _ => rfl, Nat.le_refl _⟩ (fun u hu => by cases hu)
    exact this
  · exact hS.elim
end EB

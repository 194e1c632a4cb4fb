/-! ROWS OF ROWS THAT ARE MADE -/
def eg_newB (w : eg_W) (M : eg_M) (L : List eg_E) : eg_M := (M.1 ++ L, fun q => if eg_N w M ≤ q then (fun _ => 0) else M.2.1 q, fun q => if eg_N w M ≤ q then (fun _ => 0) else M.2.2.1 q, fun q => if eg_N w M ≤ q then (fun _ => none) else M.2.2.2 q)
section EA2
variable {w : eg_W} {aC : Nat → ClassId} {adK ad ad' : Nat → Nat} {M : eg_M} {L : List eg_E} {p0 : Nat}
theorem eg_sh_nB_lt (h : p0 < eg_N w M) : eg_sh w (eg_newB w M L) p0 = eg_sh w M p0 := by
  unfold eg_sh eg_newB
  unfold eg_N at h
  by_cases hb : p0 < w.2.1
  · rw [eg_blt_t hb]
    rfl
  · rw [eg_blt_f hb]
    show (M.1 ++ L).getD (p0 - w.2.1) (99, 0, []) = M.1.getD (p0 - w.2.1) (99, 0, [])
    rw [List.getD_eq_getElem?_getD, List.getD_eq_getElem?_getD, List.getElem?_append_left (by omega)]
theorem eg_sh_nB_at (i : Nat) : eg_sh w (eg_newB w M L) (eg_N w M + i) = L.getD i (99, 0, []) := by
  unfold eg_sh eg_newB eg_N
  rw [eg_blt_f (by omega)]
  show (M.1 ++ L).getD (w.2.1 + M.1.length + i - w.2.1) (99, 0, []) = _
  rw [show w.2.1 + M.1.length + i - w.2.1 = M.1.length + i by omega, List.getD_eq_getElem?_getD, List.getElem?_append_right (by omega), Nat.add_sub_cancel_left, List.getD_eq_getElem?_getD]
theorem eg_N_nB : eg_N w (eg_newB w M L) = eg_N w M + L.length := by
  unfold eg_N eg_newB
  rw [List.length_append]
  omega
theorem eg_nB_i (h : p0 < eg_N w M) : (eg_newB w M L).2.1 p0 = M.2.1 p0 ∧ (eg_newB w M L).2.2.1 p0 = M.2.2.1 p0 ∧ (eg_newB w M L).2.2.2 p0 = M.2.2.2 p0 := ⟨if_neg (by omega), if_neg (by omega), if_neg (by omega)⟩
theorem eg_nB_e (h : eg_N w M ≤ p0) : (eg_newB w M L).2.1 p0 = (fun _ => 0) ∧ (eg_newB w M L).2.2.1 p0 = (fun _ => 0) ∧ (eg_newB w M L).2.2.2 p0 = (fun _ => none) := ⟨if_pos h, if_pos h, if_pos h⟩
theorem eg_ent_nB {N' : Nat} (hx : eg_x ad (eg_N w M) ad' N') (hw : eg_wf w M) (h : p0 < eg_N w M) : eg_ent w aC adK ad' (eg_newB w M L) p0 = eg_ent w aC adK ad M p0 := by
  have hs := eg_sh_nB_lt (L := L) h
  obtain ⟨hi, hl, hr⟩ := eg_nB_i (L := L) h
  have hgr : ∀ k, eg_gr (eg_newB w M L) p0 k = eg_gr M p0 k := fun k => congrFun hr k
  have hrf : ∀ k, eg_ref (eg_sh w (eg_newB w M L) p0) (eg_newB w M L) p0 k = eg_ref (eg_sh w M p0) M p0 k := fun k => by
    unfold eg_ref
    rw [hs, hgr]
  rcases (show (eg_sh w M p0).1 = 0 ∨ (eg_sh w M p0).1 = 1 ∨ (eg_sh w M p0).1 = 2 ∨ (eg_sh w M p0).1 = 3 ∨ 4 ≤ (eg_sh w M p0).1 by omega) with e | e | e | e | e
  · rw [eg_ent_o (M := M) e rfl, eg_ent_o (M := eg_newB w M L) (ci := (eg_sh w M p0).2.1) (by rw [hs]; exact e) (by rw [hs])]
    refine congrArg (fun z => Sum.inr ((eg_sh w M p0).2.1, z)) (List.map_congr_left (fun k _ => ?_))
    have hf : eg_fld w (eg_newB w M L) p0 (eg_sh w M p0).2.1 k = eg_fld w M p0 (eg_sh w M p0).2.1 k := by
      unfold eg_fld eg_gi eg_gl
      rw [hi, hl, hrf]
    show eg_cv _ adK (eg_fld w (eg_newB w M L) p0 (eg_sh w M p0).2.1 k) = eg_cv ad adK (eg_fld w M p0 (eg_sh w M p0).2.1 k)
    rw [hf]
    exact eg_cv_x hx (eg_fld_wv hw e rfl)
  · rw [eg_ent_i (M := M) e, eg_ent_i (M := eg_newB w M L) (by rw [hs]; exact e), hi]
    unfold eg_len
    rw [hs]
  · rw [eg_ent_l (M := M) e, eg_ent_l (M := eg_newB w M L) (by rw [hs]; exact e), hl]
    unfold eg_len
    rw [hs]
  · rw [eg_ent_z (M := M) e, eg_ent_z (M := eg_newB w M L) (by rw [hs]; exact e), hi]
    unfold eg_len
    rw [hs]
  · rw [eg_ent_q (M := M) rfl e, eg_ent_q (M := eg_newB w M L) (k := (eg_sh w M p0).1) (by rw [hs]) e]
    have ha : eg_ea w adK ad' (eg_newB w M L) p0 = eg_ea w adK ad M p0 := by
      funext i
      unfold eg_ea
      rw [hrf, hs, hgr]
      rcases (show (eg_sh w M p0).1 = 4 ∨ (eg_sh w M p0).1 = 5 ∨ 6 ≤ (eg_sh w M p0).1 by omega) with c | c | c
      · rw [c]
        show (eg_gr M p0 i).map _ = (eg_gr M p0 i).map _
        cases hg : eg_gr M p0 i with
        | none => rfl
        | some z => exact congrArg some (hx.1 z (hw.2.1 p0 i z c hg))
      · rw [c]
        rfl
      · obtain ⟨k, hk⟩ : ∃ k, (eg_sh w M p0).1 = k + 6 := ⟨(eg_sh w M p0).1 - 6, by omega⟩
        rw [hk]
        show (if i < (eg_sh w M p0).2.1 then some _ else none) = (if i < (eg_sh w M p0).2.1 then some _ else none)
        by_cases hl2 : i < (eg_sh w M p0).2.1
        · rw [if_pos hl2, if_pos hl2, hx.1 _ (hw.2.2 p0 i c h hl2)]
        · rw [if_neg hl2, if_neg hl2]
    rw [ha]
    unfold eg_len
    rw [hs]
/-- rows of kind kr under a row of kind kd -/
def eg_LB (kd kr n k : Nat) : List eg_E := (kd, n, []) :: List.replicate n (kr, k, [])
theorem eg_LB_len (kd kr n k : Nat) : (eg_LB kd kr n k).length = 1 + n := by
  unfold eg_LB
  rw [List.length_cons, List.length_replicate]
  omega
theorem eg_LB_s {kd kr n k i : Nat} (h : i < n) : (eg_LB kd kr n k).getD (i + 1) (99, 0, []) = (kr, k, []) := by
  unfold eg_LB
  rw [List.getD_cons_succ, List.getD_eq_getElem?_getD, List.getElem?_replicate, if_pos h]
  rfl
theorem eg_wf_nB {kd kr n k : Nat} (hw : eg_wf w M) (hd : 6 ≤ kd) (hr : kr = 1 ∨ kr = 2) : eg_wf w (eg_newB w M (eg_LB kd kr n k)) := by
  have hN : eg_N w (eg_newB w M (eg_LB kd kr n k)) = eg_N w M + (1 + n) := by rw [eg_N_nB, eg_LB_len]
  have sh : ∀ p, eg_N w M ≤ p → p < eg_N w M + (1 + n) → eg_sh w (eg_newB w M (eg_LB kd kr n k)) p = if p = eg_N w M then (kd, n, []) else (kr, k, []) := by
    intro p h1 h2
    obtain ⟨i, rfl⟩ : ∃ i, p = eg_N w M + i := ⟨p - eg_N w M, by omega⟩
    rw [eg_sh_nB_at]
    cases i with
    | zero =>
      rw [if_pos (Nat.add_zero _)]
      rfl
    | succ i => rw [if_neg (by omega), eg_LB_s (by omega)]
  have hc : ∀ p, ¬ (eg_sh w (eg_newB w M (eg_LB kd kr n k)) p).1 = 99 → p < eg_N w M + (1 + n) := fun p h => by
    have := eg_sh_lt h
    rw [hN] at this
    exact this
  obtain ⟨h1, h2, h3⟩ := hw
  refine ⟨fun p j z a b g => ?_, fun p j z a g => ?_, fun p j a b g => ?_⟩
  · rw [hN]
    by_cases c : p < eg_N w M
    · rw [eg_sh_nB_lt c] at a b
      have hr := (eg_nB_i (L := eg_LB kd kr n k) c).2.2
      have := h1 p j z a b (by
        unfold eg_ref eg_gr at g ⊢
        rw [eg_sh_nB_lt c, hr] at g
        exact g)
      omega
    · rw [sh p (by omega) (hc p (by omega))] at a
      split at a
      · have a : kd = 0 := a
        omega
      · have a : kr = 0 := a
        omega
  · rw [hN]
    by_cases c : p < eg_N w M
    · rw [eg_sh_nB_lt c] at a
      have hr := (eg_nB_i (L := eg_LB kd kr n k) c).2.2
      have := h2 p j z a (by
        unfold eg_gr at g ⊢
        rw [hr] at g
        exact g)
      omega
    · rw [sh p (by omega) (hc p (by omega))] at a
      split at a
      · have a : kd = 4 := a
        omega
      · have a : kr = 4 := a
        omega
  · rw [hN] at b ⊢
    by_cases c : p < eg_N w M
    · rw [eg_sh_nB_lt c] at a g
      have := h3 p j a c g
      omega
    · rw [sh p (by omega) b] at a g
      split at a
      · rename_i e
        rw [if_pos e] at g
        have g : j < n := g
        omega
      · have a : 6 ≤ kr := a
        omega
end EA2
theorem eg_outer (c : ClassId) (N h0 : Nat) : ∀ i : Nat, Jvm.Free.Multi.outerC c N h0 i = arrV c N (fun j => va_rf (if j < i then some (h0 + 1 + j) else none)) := by
  intro i
  induction i with
  | zero =>
    show ({ cls := c, slots := Array.replicate N .null, vm := .none } : Cell) = _
    rw [arrV_new]
    exact congrArg (arrV c N) (funext fun j => by rw [if_neg (Nat.not_lt_zero j)]; rfl)
  | succ i ih =>
    show (Jvm.Free.Multi.outerC c N h0 i).setSlot i (.ref (h0 + 1 + i)) = _
    rw [ih, arrV_store]
    refine congrArg (arrV c N) (funext fun j => ?_)
    by_cases e : j = i
    · subst e
      rw [if_pos (Nat.lt_succ_self j)]
      simp [updV, va_rf]
    · have e2 : (j < i + 1) = (j < i) := propext ⟨fun z => by omega, fun z => by omega⟩
      simp only [e2]
      simp [updV, e]
section ER2
variable {p : Program} {l : Launch} {e : Env} {R : Room} {s : State} {m : MethodId} {args : Array Value} {below : List Frame} {meth : Method} {c : Code} {Q : State → Prop}
variable {cc : ByteArray} {own er : String} {Ts : List Cond} {w : eg_W} {D : va_G} {cl : List vw_C} {aC : Nat → ClassId} {adK : Nat → Nat} {A : Nat → Prop} {nL N0 : Nat} {ad0 : Nat → Nat}
def s_mna (w : eg_W) (kd kr kc ks : Nat) : eg_S := fun argv M Qp => match argv with
  | [.int x, .int y] => (¬ x < 0 ∧ ¬ y < 0 ∧ 1 + x.toNatClampNeg ≤ kc ∧ y.toNatClampNeg ≤ 1000 ∧ x.toNatClampNeg + x.toNatClampNeg * y.toNatClampNeg ≤ ks ∧ kc ≤ 1000) ∧ Qp (.inl (some (.ref (eg_N w M)))) (eg_newB w M (eg_LB kd kr x.toNatClampNeg y.toNatClampNeg))
  | _ => False
theorem mo_mna (w : eg_W) (kd kr kc ks : Nat) : eg_mono (s_mna w kd kr kc ks) := by
  intro argv M Q Q' h
  unfold s_mna
  split
  · exact fun z => ⟨z.1, h _ _ z.2⟩
  · exact id
theorem eg_CE_mna (S0 : CallFix p m c cc nL s args Ts own) (hK : va_K D cl (eg_tys er aC) s) (hA : ∀ q, s.heap.size ≤ q → A q) {ty : FieldType} {j kd kr kc ks : Nat} (hlink : (Cond.classLink own j ("[" ++ (FieldType.array ty).toString)).before args s = true) (hover : (Cond.arrayOver (.array ty)).before args s = true) (harr : (Cond.arrayClass ty).before args s = true)
    (hk : (kd = 6 ∧ kr = 1 ∧ ty = .int) ∨ (kd = 7 ∧ kr = 2 ∧ ty = .long)) : eg_CE p l e R s m args below meth c Q w D cl aC adK A nL ad0 N0 cc (.multianewarray j 2) 4 2 kc ks (s_mna w kd kr kc ks) := by
  intro pc cu su ls rest argv M Qp hd hn hc hs hS ad H locs arr hH hL hav hrv kk
  unfold s_mna at hS
  split at hS
  · rename_i x y
    obtain ⟨⟨h0, h1, h2, h3, h4, h5⟩, hS⟩ := hS
    obtain ⟨hx, hb, hml, hown, hts⟩ := S0
    intro T hT Xs
    subst hT
    have hcb : componentBytes ty ≤ 8 ∧ fits ty (defaultValue ty) = true ∧ (defaultValue ty).isDefault = true := by
      rcases hk with ⟨_, _, z⟩ | ⟨_, _, z⟩
      · subst z
        exact ⟨by decide, rfl, rfl⟩
      · subst z
        exact ⟨by decide, rfl, rfl⟩
    obtain ⟨vm₁, cA, comp, -, fA, fC, hO, hI, X', step⟩ := Xs.multianewarray2F hx hown hlink hover harr (g := F0 m pc arr (([Value.int x, Value.int y].reverse ++ rest).map (eg_cv ad adK))) (n := x) (k := y) (rest := rest.map (eg_cv ad adK)) rfl (by rw [hb]; exact hd) rfl h0 h1 (by omega) (by
      have := Nat.mul_le_mul h3 hcb.1
      omega) (by omega) hcb.2.1 hcb.2.2 (by omega) (by omega)
    generalize x.toNatClampNeg = n at *
    generalize y.toNatClampNeg = k at *
    have ecA : cA = aC kd ∧ comp = aC kr := by
      rcases hk with ⟨z1, z2, z3⟩ | ⟨z1, z2, z3⟩
      · subst z1 z2 z3
        exact ⟨Option.some.inj (fA.symm.trans (hK.2 5 (aC 6, .array .int) rfl).2), Option.some.inj (fC.symm.trans (hK.2 0 (aC 1, .int) rfl).2)⟩
      · subst z1 z2 z3
        exact ⟨Option.some.inj (fA.symm.trans (hK.2 6 (aC 7, .array .long) rfl).2), Option.some.inj (fC.symm.trans (hK.2 1 (aC 2, .long) rfl).2)⟩
    obtain ⟨e1, e2⟩ := ecA
    subst e1 e2
    obtain ⟨f1, f2, -, -⟩ := Jvm.Free.Multi.fill_facts (T.setVm vm₁) (aC kd) (aC kr) n k (defaultValue ty) n
    have hold : ∀ z : Nat, z < T.heap.size → (Jvm.Free.Multi.fill (T.setVm vm₁) (aC kd) (aC kr) n k (defaultValue ty) n).heap[z]? = T.heap[z]? := fun z hz => Jvm.Free.Multi.fill_old (T.setVm vm₁) (aC kd) (aC kr) n k (defaultValue ty) (a := z) hz n
    have hrow : ∀ i : Nat, i < n → (Jvm.Free.Multi.fill (T.setVm vm₁) (aC kd) (aC kr) n k (defaultValue ty) n).heap[T.heap.size + 1 + i]? = some (Jvm.Free.Multi.innerC (aC kr) k (defaultValue ty)) := fun i hi => Jvm.Free.Multi.fill_inner (T.setVm vm₁) (aC kd) (aC kr) n k (defaultValue ty) n i hi
    generalize Jvm.Free.Multi.fill (T.setVm vm₁) (aC kd) (aC kr) n k (defaultValue ty) n = F at *
    have f1 : F.heap.size = T.heap.size + 1 + n := f1
    have f2 : F.heap[T.heap.size]? = some (Jvm.Free.Multi.outerC (aC kd) n T.heap.size n) := f2
    rw [eg_outer] at f2
    have h6 : 6 ≤ kd := by rcases hk with z | z <;> omega
    have h12 : kr = 1 ∨ kr = 2 := by rcases hk with z | z <;> omega
    generalize hM2 : eg_newB w M (eg_LB kd kr n k) = M2 at *
    have hN2 : eg_N w M2 = eg_N w M + (1 + n) := by rw [← hM2, eg_N_nB, eg_LB_len]
    obtain ⟨ad', had'⟩ : ∃ ad' : Nat → Nat, ad' = fun x => if x < eg_N w M then ad x else T.heap.size + (x - eg_N w M) := ⟨_, rfl⟩
    have adl : ∀ z, z < eg_N w M → ad' z = ad z := fun z hz => by rw [had']; exact if_pos hz
    have adg : ∀ i, ad' (eg_N w M + i) = T.heap.size + i := fun i => by
      rw [had']
      show (if eg_N w M + i < eg_N w M then _ else _) = _
      rw [if_neg (by omega), Nat.add_sub_cancel_left]
    have hx1 : eg_x ad (eg_N w M) ad' (eg_N w M2) := ⟨fun z hz => adl z hz, by omega⟩
    have hlt : ∀ z, z < eg_N w M → ad z < T.heap.size := fun z hz => (hH.1 z _ (eg_ws_get hz)).lt
    have hent : ∀ z, z < eg_N w M → eg_ent w aC adK ad' M2 z = eg_ent w aC adK ad M z := fun z hz => by
      rw [← hM2]
      exact eg_ent_nB hx1 hH.2.2.2.1 hz
    have hs0 : eg_sh w M2 (eg_N w M) = (kd, n, []) := by
      rw [← hM2]
      exact eg_sh_nB_at 0
    have hs1 : ∀ i, i < n → eg_sh w M2 (eg_N w M + (i + 1)) = (kr, k, []) := fun i hi => by
      rw [← hM2, eg_sh_nB_at, eg_LB_s hi]
    have hz1 : ∀ i, (M2.2.1 (eg_N w M + i) = fun _ => 0) ∧ (M2.2.2.1 (eg_N w M + i) = fun _ => 0) := fun i => by
      rw [← hM2]
      exact ⟨(eg_nB_e (Nat.le_add_right _ _)).1, (eg_nB_e (Nat.le_add_right _ _)).2.1⟩
    have hP : va_P D cl (eg_ws w aC adK ad' M2) F.heap := by
      intro z q hq
      by_cases hz : z < eg_N w M2
      · rw [eg_ws_get hz] at hq
        cases hq
        by_cases hz2 : z < eg_N w M
        · rw [adl z hz2, hent z hz2]
          exact (hH.1 z _ (eg_ws_get hz2)).kept (hold _ (hlt z hz2))
        · obtain ⟨i, rfl⟩ : ∃ i, z = eg_N w M + i := ⟨z - eg_N w M, by omega⟩
          rw [adg]
          cases i with
          | zero =>
            rw [Nat.add_zero, Nat.add_zero, eg_ent_q (k := kd) (by rw [hs0]) (by omega)]
            show F.heap[T.heap.size]? = some (vp_cell (aC kd) (eg_len w M2 (eg_N w M), .inr (.inr (.inr (.inr (eg_ea w adK ad' M2 (eg_N w M)))))))
            have el : eg_len w M2 (eg_N w M) = n := by
              unfold eg_len
              rw [hs0]
            have ee : eg_ea w adK ad' M2 (eg_N w M) = fun i => if i < n then some (T.heap.size + 1 + i) else none := by
              funext i
              have e9 : ad' (eg_N w M + 1 + i) = T.heap.size + 1 + i := by
                rw [Nat.add_assoc, adg, Nat.add_assoc]
              unfold eg_ea
              rw [hs0, e9]
              rcases hk with ⟨z1, -, -⟩ | ⟨z1, -, -⟩
              · subst z1
                rfl
              · subst z1
                rfl
            rw [el, ee, vp_cell_q, f2]
          | succ i =>
            have hi : i < n := by omega
            have hr2 := hrow i hi
            rw [show T.heap.size + (i + 1) = T.heap.size + 1 + i by omega]
            rcases hk with ⟨z1, z2, z3⟩ | ⟨z1, z2, z3⟩
            · subst z1 z2 z3
              rw [eg_ent_i (by rw [hs1 i hi]), (hz1 _).1]
              show F.heap[T.heap.size + 1 + i]? = some (vp_cell (aC 1) (eg_len w M2 (eg_N w M + (i + 1)), .inl (fun _ => 0)))
              have el : eg_len w M2 (eg_N w M + (i + 1)) = k := by
                unfold eg_len
                rw [hs1 i hi]
              rw [el, hr2]
              show some (Jvm.Free.Multi.innerC (aC 1) k (.int 0)) = some (arrV (aC 1) k (fun _ => .int 0))
              rw [← arrV_new]
              rfl
            · subst z1 z2 z3
              rw [eg_ent_l (by rw [hs1 i hi]), (hz1 _).2]
              show F.heap[T.heap.size + 1 + i]? = some (vp_cell (aC 2) (eg_len w M2 (eg_N w M + (i + 1)), .inr (.inl (fun _ => 0))))
              have el : eg_len w M2 (eg_N w M + (i + 1)) = k := by
                unfold eg_len
                rw [hs1 i hi]
              rw [el, hr2]
              show some (Jvm.Free.Multi.innerC (aC 2) k (.long 0)) = some (arrV (aC 2) k (fun _ => .long 0))
              rw [← arrV_new]
              rfl
      · rw [eg_ws_out hz] at hq
        cases hq
    have hD : va_D A (eg_ws w aC adK ad' M2) := by
      refine ⟨fun i j x y hi hj hxy => ?_, fun i x hi => ?_⟩
      · by_cases gi : i < eg_N w M2
        · by_cases gj : j < eg_N w M2
          · rw [eg_ws_get gi] at hi
            rw [eg_ws_get gj] at hj
            cases hi
            cases hj
            have hxy : ad' i = ad' j := hxy
            by_cases ci : i < eg_N w M
            · by_cases cj : j < eg_N w M
              · rw [adl i ci, adl j cj] at hxy
                exact hH.2.1.1 i j _ _ (eg_ws_get ci) (eg_ws_get cj) hxy
              · obtain ⟨b, rfl⟩ : ∃ b, j = eg_N w M + b := ⟨j - eg_N w M, by omega⟩
                rw [adl i ci, adg] at hxy
                have := hlt i ci
                omega
            · obtain ⟨a, rfl⟩ : ∃ a, i = eg_N w M + a := ⟨i - eg_N w M, by omega⟩
              by_cases cj : j < eg_N w M
              · rw [adg, adl j cj] at hxy
                have := hlt j cj
                omega
              · obtain ⟨b, rfl⟩ : ∃ b, j = eg_N w M + b := ⟨j - eg_N w M, by omega⟩
                rw [adg, adg] at hxy
                omega
          · rw [eg_ws_out gj] at hj
            cases hj
        · rw [eg_ws_out gi] at hi
          cases hi
      · by_cases gi : i < eg_N w M2
        · rw [eg_ws_get gi] at hi
          cases hi
          show A (ad' i)
          by_cases ci : i < eg_N w M
          · rw [adl i ci]
            exact hH.2.1.2 i _ (eg_ws_get ci)
          · obtain ⟨a, rfl⟩ : ∃ a, i = eg_N w M + a := ⟨i - eg_N w M, by omega⟩
            rw [adg]
            have := hH.2.2.1.1
            exact hA _ (by omega)
        · rw [eg_ws_out gi] at hi
          cases hi
    have hS2 : va_S A s.heap F.heap locs := by
      have g1 := hH.2.2.1.1
      refine ⟨by omega, fun z q1 q2 => ?_, hH.2.2.1.2.2⟩
      rw [hold z (by omega)]
      exact hH.2.2.1.2.1 z q1 q2
    have hwf : eg_wf w M2 := by
      rw [← hM2]
      exact eg_wf_nB hH.2.2.2.1 h6 h12
    have this := kk (some (.ref (eg_N w M))) M2 ad' F.heap locs hS ⟨hP, hD, hS2, hwf, eg_x_trans hH.2.2.2.2 hx1⟩ hx1 (fun u hu => by
      cases List.mem_singleton.mp hu
      show eg_N w M < _
      omega)
    have e5 : ((some (Value.ref (eg_N w M))).toList ++ rest).map (eg_cv ad' adK) = .ref T.heap.size :: rest.map (eg_cv ad adK) := by
      show (Value.ref (eg_N w M) :: rest).map (eg_cv ad' adK) = _
      rw [List.map_cons, show eg_cv ad' adK (.ref (eg_N w M)) = .ref T.heap.size from congrArg Value.ref (adg 0), List.map_congr_left (fun u hu => eg_cv_x hx1 (hrv u hu))]
    rw [e5] at this
    obtain ⟨t, a1, b1⟩ := (W.widen (cells := cu + 1 + n) (slots := su + n + n * k) (by omega) (by omega) this) F rfl X'
    exact ⟨t, step t a1, b1⟩
  · exact hS.elim
end ER2

/-! THE LAW'S OWN BODY -/
section ELW
variable {p : Program} {l : Launch} {e : Env} {R : Room} {s : State} {m : MethodId} {args : Array Value} {below : List Frame} {meth : Method} {c : Code} {Q : State → Prop}
variable {cc : ByteArray} {own er : String} {Ts : List Cond} {w : eg_W} {D : va_G} {cl : List vw_C} {aC : Nat → ClassId} {adK : Nat → Nat} {A : Nat → Prop} {nL N0 : Nat} {ad0 : Nat → Nat}
variable {k : eg_C} {P : eg_P} {pc cu su : Nat} {ls : List (Option Value)} {st : List Value} {M : eg_M}
/-- one instruction, whatever is owed at the end -/
theorem eg_stepG (hx : p.tables.exec = Jvm.exec) (hb : c.code = cc) (hts : ∀ w ∈ Ts, w.before args s = true) (hown : s.vm.findClass own = some m.cls) (hK : va_K D cl (eg_tys er aC) s)
    (hRc : k.2.2.2.2.2.2.1 ≤ R.cells) (hRs : k.2.2.2.2.2.2.2 ≤ R.slots) (hdec : ∀ q ∈ k.1, decode cc q.1 = .ok q.2) (hfl : ∀ q ∈ k.2.1, eg_FL own Ts meth cl w q.1 q.2) (hkc : ∀ q ∈ k.2.2.1, eg_KC own Ts adK s q.1 q.2)
    (hck : ∀ q ∈ k.2.2.2.1, eg_CK p l e R s m args below meth c Q w D cl aC adK A nL ad0 N0 cc q) (hnk : ∀ q ∈ k.2.2.2.2.1, eg_NK p l e R s m args below meth c Q w D cl aC adK A nL ad0 N0 cc P k q) (hne : ∀ j E, ¬ eg_lq k.2.2.2.2.1 j = some (.inl E))
    (hX : ∀ (pc : Nat) (i : Instr), eg_lq k.1 pc = some (i, 3) → eg_inv i = true → eg_HX p l e R s m args below meth c Q w D cl aC adK A nL ad0 N0 k P pc)
    (hR : ∀ i : Instr, (i = .ireturn ∨ i = .lreturn ∨ i = .areturn ∨ i = .return_) → decode cc pc = .ok (i, 1) → eg_step w k P (eg_G p l e R s m args below meth c Q w D cl aC adK A nL ad0 N0) pc cu su ls st M i 1 → eg_G p l e R s m args below meth c Q w D cl aC adK A nL ad0 N0 pc cu su ls st M)
    (h : eg_at w k P (eg_G p l e R s m args below meth c Q w D cl aC adK A nL ad0 N0) pc cu su ls st M) : eg_G p l e R s m args below meth c Q w D cl aC adK A nL ad0 N0 pc cu su ls st M := by
  unfold eg_at at h
  cases hq : eg_lq k.1 pc with
  | none => rw [hq] at h; exact h.elim
  | some q =>
    obtain ⟨i, n⟩ := q
    rw [hq] at h
    replace h := eg_need_out h
    obtain ⟨hz, h⟩ := h
    have hd : decode cc pc = .ok (i, n) := hdec (pc, i, n) (eg_lq_in hq)
    refine eg_close1 hx hb hts hown hK hfl hkc hd hz h (fun j hj e => ?_)
    subst e
    cases i with
    | arraylength => cases eg_szok1 hz rfl; exact eg_s_alen hx hb hK hd h
    | iaload => cases eg_szok1 hz rfl; exact eg_s_iaload hx hb hK hd h
    | laload => cases eg_szok1 hz rfl; exact eg_s_laload hx hb hK hd h
    | baload => cases eg_szok1 hz rfl; exact eg_s_baload hx hb hK hd h
    | aaload => cases eg_szok1 hz rfl; exact eg_s_aaload hx hb hK hd h
    | iastore => cases eg_szok1 hz rfl; exact eg_s_iastore hx hb hK hd h
    | lastore => cases eg_szok1 hz rfl; exact eg_s_lastore hx hb hK hd h
    | bastore => cases eg_szok1 hz rfl; exact eg_s_bastore hx hb hK hd h
    | tableswitch d lo hi offs => exact eg_s_switch hx hb hd h
    | invokevirtual j =>
      cases eg_szok1 hz rfl
      replace h := eg_need_out h
      have hj := Nat.blt_eq.mp h.1
      exact eg_s_callH (i := .invokevirtual j) (j := j) (fun q hq e => by have g := (hck q hq).1 (by omega); rw [e] at g; exact g) hRc hRs hd (hX pc _ hq rfl) h.2
    | invokestatic j =>
      cases eg_szok1 hz rfl
      replace h := eg_need_out h
      have hj := Nat.blt_eq.mp h.1
      exact eg_s_callH (i := .invokestatic j) (j := j + 100000) (fun q hq e => by have g := (hck q hq).2.1 (by omega) (by omega); rw [e, Nat.add_sub_cancel] at g; exact g) hRc hRs hd (hX pc _ hq rfl) h.2
    | invokespecial j =>
      cases eg_szok1 hz rfl
      replace h := eg_need_out h
      have hj := Nat.blt_eq.mp h.1
      exact eg_s_callH (i := .invokespecial j) (j := j + 200000) (fun q hq e => by have g := ((hck q hq).2.2 (by omega)).1 (by omega); rw [e, Nat.add_sub_cancel] at g; exact g) hRc hRs hd (hX pc _ hq rfl) h.2
    | newarray t =>
      cases eg_szok1 hz rfl
      replace h := eg_need_out h
      obtain ⟨ht, h⟩ := h
      cases t with
      | int => exact eg_s_callE (i := .newarray .int) (j := 300001) (fun q hq e => by have g := ((hck q hq).2.2 (by omega)).2 (by omega); rw [e] at g; exact g) hRc hRs hd h
      | long => exact eg_s_callE (i := .newarray .long) (j := 300002) (fun q hq e => by have g := ((hck q hq).2.2 (by omega)).2 (by omega); rw [e] at g; exact g) hRc hRs hd h
      | boolean => exact eg_s_callE (i := .newarray .boolean) (j := 300003) (fun q hq e => by have g := ((hck q hq).2.2 (by omega)).2 (by omega); rw [e] at g; exact g) hRc hRs hd h
      | _ => cases ht
    | anewarray j =>
      cases eg_szok1 hz rfl
      replace h := eg_need_out h
      have hj := Nat.blt_eq.mp h.1
      exact eg_s_callE (i := .anewarray j) (j := j + 310000) (fun q hq e => by have g := ((hck q hq).2.2 (by omega)).2 (by omega); rw [e, eg_ik_a hj] at g; exact g) hRc hRs hd h.2
    | multianewarray j d =>
      cases eg_szok1 hz rfl
      replace h := eg_need_out h
      have hj := h.1
      rw [Bool.and_eq_true] at hj
      have hj1 := Nat.blt_eq.mp hj.1
      have hj2 : d = 2 := Nat.eq_of_beq_eq_true hj.2
      subst hj2
      exact eg_s_callE (i := .multianewarray j 2) (j := j + 320000) (fun q hq e => by have g := ((hck q hq).2.2 (by omega)).2 (by omega); rw [e, eg_ik_m hj1] at g; exact g) hRc hRs hd h.2
    | aastore =>
      cases eg_szok1 hz rfl
      exact eg_s_callE (i := .aastore) (j := 330000) (fun q hq e => by have g := ((hck q hq).2.2 (by omega)).2 (by omega); rw [e] at g; exact g) hRc hRs hd h
    | new j =>
      cases eg_szok1 hz rfl
      dsimp only [eg_step] at h
      split at h
      · rename_i E hE
        exact absurd hE (hne j E)
      · rename_i ci hE
        replace h := eg_need_out h
        obtain ⟨h0, h⟩ := h
        simp only [Bool.and_eq_true] at h0
        exact hnk _ (eg_lq_in hE) pc cu su ls st M (eg_lq_in hq) (Nat.le_trans (Nat.le_of_ble_eq_true h0.1) hRc) (Nat.le_trans (Nat.le_of_ble_eq_true h0.2) hRs) h
      · exact h.elim
    | ireturn => cases eg_szok1 hz rfl; exact hR _ (Or.inl rfl) hd h
    | lreturn => cases eg_szok1 hz rfl; exact hR _ (Or.inr (Or.inl rfl)) hd h
    | areturn => cases eg_szok1 hz rfl; exact hR _ (Or.inr (Or.inr (Or.inl rfl))) hd h
    | return_ => cases eg_szok1 hz rfl; exact hR _ (Or.inr (Or.inr (Or.inr rfl))) hd h
    | _ => cases hj
/-- a number out of the script -/
theorem eg_scrG (hx : p.tables.exec = Jvm.exec) (hb : c.code = cc) {b L : Nat} {xs : Nat → Int32} (hXs : va_X b L xs s s.heap) (hbl : b < s.heap.size) (hbA : ¬ A b) (hk : adK 1000 = b) {i : Int32} (hin : vp_in i L) (hd : decode cc pc = .ok (.iaload, 1))
    (h : eg_G p l e R s m args below meth c Q w D cl aC adK A nL ad0 N0 (pc + 1) cu su ls (.int (xs i.toNatClampNeg) :: st) M) : eg_G p l e R s m args below meth c Q w D cl aC adK A nL ad0 N0 pc cu su ls (.int i :: .retAddr 1000 :: st) M := by
  intro ad H locs arr hH hL hst
  have hs : ∀ v ∈ st, eg_wv (eg_N w M) v := fun v hv => hst v (List.mem_cons_of_mem _ (List.mem_cons_of_mem _ hv))
  have := h ad H locs arr hH hL (fun v hv => by
    rcases List.mem_cons.mp hv with z | z
    · rw [z]
      trivial
    · exact hs v z)
  have e1 : (Value.int i :: .retAddr 1000 :: st).map (eg_cv ad adK) = .int i :: .ref b :: st.map (eg_cv ad adK) := by
    rw [← hk]
    rfl
  rw [e1]
  exact va_sld hx hb hXs hbl hbA hH.2.2.1 hin hd this
theorem eg_scrL (hx : p.tables.exec = Jvm.exec) (hb : c.code = cc) {b L : Nat} {xs : Nat → Int32} (hXs : va_X b L xs s s.heap) (hbl : b < s.heap.size) (hbA : ¬ A b) (hk : adK 1000 = b) (hd : decode cc pc = .ok (.arraylength, 1))
    (h : eg_G p l e R s m args below meth c Q w D cl aC adK A nL ad0 N0 (pc + 1) cu su ls (.int (nI L) :: st) M) : eg_G p l e R s m args below meth c Q w D cl aC adK A nL ad0 N0 pc cu su ls (.retAddr 1000 :: st) M := by
  intro ad H locs arr hH hL hst
  have := h ad H locs arr hH hL (fun v hv => by
    rcases List.mem_cons.mp hv with z | z
    · rw [z]
      trivial
    · exact hst v (List.mem_cons_of_mem _ z))
  have e1 : (Value.retAddr 1000 :: st).map (eg_cv ad adK) = .ref b :: st.map (eg_cv ad adK) := by
    rw [← hk]
    rfl
  rw [e1]
  exact va_slen hx hb hXs hbl hbA hH.2.2.1 hd this
variable {Ex : (Nat → Prop) → State → Heap → Prop} {y : MethodName} {bytes : ByteArray} {maxL n kc ks j : Nat} {ret : Option FieldType} {ws : List Cond} {rm : Room} {S : eg_S} {hh : List (Nat × Nat × Nat × Nat)}
/-- a static call of a method that catches -/
theorem eg_CF_SX (S0 : CallFix p m c cc nL s args Ts own) (hK : va_K D cl (eg_tys er aC) s) (hE : eg_ExOk Ex) (hEx : Ex A s s.heap) (hA : ∀ q, s.heap.size ≤ q → A q) (hM : eg_Met l w D cl er aC adK Ex y ws rm kc ks S) (cw : vx_CSW R s args own j y bytes maxL ret hh ws rm kc ks n) : eg_CF p l e R s m args below meth c Q w D cl aC adK A nL ad0 N0 cc (.invokestatic j) n kc ks S := by
  intro pc cu su ls rest argv M Qp hd hn hwt hc hs hS ad H locs arr hH hL hav hrv kk kx
  have hmet := hM ad _ M Qp H.size hS hH.2.2.2.1 hav
  have hsum := eg_sum0 (ad := ad) (adK := adK) hwt
  have run := vx_runSX (As := argv.map (eg_cv ad adK)) (rest := rest.map (eg_cv ad adK)) (e := e) (below := below) (meth := meth) (H := H) (locs := locs) (cells := cu) (slots := su) (g := F0 m pc arr ((argv.reverse ++ rest).map (eg_cv ad adK))) S0 hmet cw ⟨eg_Pc_blind hE, fun U hU hW => eg_start hK hE hEx hA hH hU hW⟩ rfl (by rw [List.length_map]; exact hn) hL.1 (by simp) (lv_room hsum) hd ⟨hc, hs⟩
  intro T hT X
  rcases run T hT X with ⟨v, st₀, t, T', L, h0, X', hLL, e1, e2, ⟨v', N, ad', hv, hQ, hvv, he⟩, st⟩ | ⟨q, st₀, t, T', L, E, ce, h0, X', hLL, e1, e2, ⟨N, ad', hQ, he⟩, hce, hcv, hcls, st⟩
  · cases hv
    have hx' := he.2.2.2.1
    obtain ⟨t2, a1, b1⟩ := kk v' N ad' T'.heap (locs ++ L) hQ (eg_after hA hH h0 e1 hLL he) hx' hvv T' rfl X'
    refine ⟨t2, st t2 ?_, b1⟩
    have e9 : (Option.map (eg_cv ad' adK) v').toList ++ rest.map (eg_cv ad adK) = (v'.toList ++ rest).map (eg_cv ad' adK) := by
      rw [List.map_append]
      congr 1
      · cases v' <;> rfl
      · exact List.map_congr_left (fun u hu => (eg_cv_x hx' (hrv u hu)).symm)
    rw [e9]
    exact a1
  · have hx' := he.2.2.2.1
    obtain ⟨t2, a1, b1⟩ := kx E N ad' T'.heap (locs ++ L) q ce hQ (eg_after hA hH h0 e1 hLL he) (by rw [e1]; exact hce) hcv hcls T' rfl X'
    refine ⟨t2, st.trans ?_, b1⟩
    have e9 : rest.map (eg_cv ad adK) = rest.map (eg_cv ad' adK) := List.map_congr_left (fun u hu => (eg_cv_x hx' (hrv u hu)).symm)
    rw [e9]
    exact a1
end ELW
/-! a stretch of the law: closed under its instructions and the script's -/
/-- one instruction, the script's among them -/
def eg_at2 (L : Nat) (xs : Nat → Int32) (w : eg_W) (c : eg_C) (P : eg_P) (X : eg_X) : eg_X := fun pc cu su ls st M => eg_at w c P X pc cu su ls st M ∨ (eg_lq c.1 pc = some (.iaload, 1) ∧ ∃ i r, st = .int i :: .retAddr 1000 :: r ∧ vp_in i L ∧ X (pc + 1) cu su ls (.int (xs i.toNatClampNeg) :: r) M) ∨ (eg_lq c.1 pc = some (.arraylength, 1) ∧ ∃ r, st = .retAddr 1000 :: r ∧ X (pc + 1) cu su ls (.int (nI L) :: r) M)
def eg_T2 (L : Nat) (xs : Nat → Int32) (w : eg_W) (c : eg_C) (P : eg_P) : eg_X := fun pc cu su ls st M => ∀ X : eg_X, (∀ pc cu su ls st M, eg_at2 L xs w c P X pc cu su ls st M → X pc cu su ls st M) → X pc cu su ls st M
theorem eg_T2_fold {L : Nat} {xs : Nat → Int32} {w : eg_W} {k : eg_C} {P : eg_P} {pc cu su : Nat} {ls : List (Option Value)} {st : List Value} {M : eg_M} (hk : ∀ q ∈ k.2.2.2.1, eg_mono q.2.2.2.2) (h : eg_at2 L xs w k P (eg_T2 L xs w k P) pc cu su ls st M) : eg_T2 L xs w k P pc cu su ls st M := fun X hX => hX _ _ _ _ _ _ (by
  rcases h with h | ⟨h, i, r, e, v, h2⟩ | ⟨h, r, e, h2⟩
  · exact Or.inl (eg_at_mono hk (fun _ _ _ _ _ _ hT => hT X hX) h)
  · exact Or.inr (Or.inl ⟨h, i, r, e, v, h2 X hX⟩)
  · exact Or.inr (Or.inr ⟨h, r, e, h2 X hX⟩))
theorem eg_T2_run {L : Nat} {xs : Nat → Int32} {w : eg_W} {k : eg_C} {P : eg_P} (hk : ∀ q ∈ k.2.2.2.1, eg_mono q.2.2.2.2) {cut : List Nat} : ∀ (n : Nat) {pc cu su : Nat} {ls : List (Option Value)} {st : List Value} {M : eg_M}, eg_run w k P (eg_T2 L xs w k P) cut n pc cu su ls st M → eg_T2 L xs w k P pc cu su ls st M := by
  intro n
  induction n with
  | zero => intro pc cu su ls st M h; exact h
  | succ n ih =>
    intro pc cu su ls st M h
    refine eg_T2_fold hk (Or.inl (eg_at_mono hk (fun pc cu su ls st M g => ?_) h))
    cases hc : eg_in cut pc with
    | true =>
      rw [hc] at g
      exact g
    | false =>
      rw [hc] at g
      exact ih g

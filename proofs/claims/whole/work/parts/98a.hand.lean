/-! METHODS THAT CATCH -/
section ECH
variable {p : Program} {l : Launch} {e : Env} {R : Room} {s : State} {m : MethodId} {args : Array Value} {below : List Frame} {meth : Method} {c : Code} {Q : State → Prop}
variable {cc : ByteArray} {own er : String} {Ts : List Cond} {w : eg_W} {D : va_G} {cl : List vw_C} {aC : Nat → ClassId} {adK : Nat → Nat} {A : Nat → Prop} {nL N0 : Nat} {ad0 : Nat → Nat}
variable {k : eg_C} {P : eg_P} {pc cu su : Nat} {ls : List (Option Value)} {st : List Value} {M : eg_M}
def eg_inv (i : Instr) : Bool := match i with
  | .invokevirtual _ => true
  | .invokestatic _ => true
  | .invokespecial _ => true
  | _ => false
/-- what happens where a call throws -/
def eg_HX (p : Program) (l : Launch) (e : Env) (R : Room) (s : State) (m : MethodId) (args : Array Value) (below : List Frame) (meth : Method) (c : Code) (Q : State → Prop) (w : eg_W) (D : va_G) (cl : List vw_C) (aC : Nat → ClassId) (adK : Nat → Nat) (A : Nat → Prop) (nL : Nat) (ad0 : Nat → Nat) (N0 : Nat) (k : eg_C) (P : eg_P) (pc : Nat) : Prop :=
  ∀ (E : String) (N : eg_M) (ad : Nat → Nat) (H : Heap) (locs : List Loc) (q : Nat) (ce : Cell) (cu su : Nat) (arr : Array Slot) (rest : List Value), P (.inr E) N → eg_H w D cl aC adK A s.heap ad0 N0 ad N H locs → arr.size = nL → lv_wf arr → H[q]? = some ce → ce.vm = .none → s.vm.findClass E = some ce.cls → cu ≤ k.2.2.2.2.2.2.1 → su ≤ k.2.2.2.2.2.2.2 → vx_W p l e R s m args below meth c H locs cu su Q (F0 m pc arr rest) q
theorem eg_s_callH {i : Instr} {j : Nat} (hcf : ∀ q ∈ k.2.2.2.1, q.1 = j → eg_CF p l e R s m args below meth c Q w D cl aC adK A nL ad0 N0 cc i q.2.1 q.2.2.1 q.2.2.2.1 q.2.2.2.2) (hRc : k.2.2.2.2.2.2.1 ≤ R.cells) (hRs : k.2.2.2.2.2.2.2 ≤ R.slots) (hd : decode cc pc = .ok (i, 3))
    (hX : eg_HX p l e R s m args below meth c Q w D cl aC adK A nL ad0 N0 k P pc)
    (h : eg_call k P (eg_G p l e R s m args below meth c Q w D cl aC adK A nL ad0 N0) j pc cu su ls st M) : eg_G p l e R s m args below meth c Q w D cl aC adK A nL ad0 N0 pc cu su ls st M := by
  unfold eg_call at h
  cases hq : eg_lq k.2.2.2.1 j with
  | none => rw [hq] at h; exact h.elim
  | some q =>
    obtain ⟨n, kc, ks, S⟩ := q
    rw [hq] at h
    replace h := eg_need_out h
    obtain ⟨h0, hS⟩ := h
    simp only [Bool.and_eq_true] at h0
    obtain ⟨g1, g2, g3, g4⟩ := h0
    have g1 := Nat.le_of_ble_eq_true g1
    have g3 := Nat.le_of_ble_eq_true g3
    have g4 := Nat.le_of_ble_eq_true g4
    intro ad H locs arr hH hL hst
    have hcf9 : eg_CF p l e R s m args below meth c Q w D cl aC adK A nL ad0 N0 cc i n kc ks S := hcf _ (eg_lq_in hq) rfl
    have hC := hcf9 pc cu su ls (st.drop n) (st.take n).reverse M _ hd (by rw [List.length_reverse, List.length_take]; omega) (Nat.le_of_ble_eq_true g2) (by omega) (by omega) hS ad H locs arr hH hL
      (fun v hv => hst v (List.mem_of_mem_take (List.mem_reverse.mp hv))) (fun v hv => hst v (List.mem_of_mem_drop hv))
      (fun v N ad' H' locs' hQ hH' hx' hv => hQ ad' H' locs' arr hH' (hL.grown hx') (fun u hu => by
        rcases List.mem_append.mp hu with z | z
        · exact hv u z
        · exact eg_wv_x hx' (hst u (List.mem_of_mem_drop z))))
      (fun E N ad' H' locs' q ce hQ hH' a1 a2 a3 => hX E N ad' H' locs' q ce _ _ arr _ hQ hH' hL.1 hL.2.1 a1 a2 a3 g3 g4)
    rw [List.reverse_reverse, List.take_append_drop] at hC
    exact hC
variable {Qc : Array Value → State → Outcome → State → Prop} {XC : String → State → State → Prop}
/-- the engine is right, also where a call's throw is caught: a body with calls, but nothing made -/
theorem eg_soundH (hx : p.tables.exec = Jvm.exec) (hb : c.code = cc) (hts : ∀ w ∈ Ts, w.before args s = true) (hown : s.vm.findClass own = some m.cls) (hK : va_K D cl (eg_tys er aC) s) (hlocks : meth.locks = false) (hrk : eg_rk k.2.2.2.2.2.1 meth.sig.returnType)
    (hRc : k.2.2.2.2.2.2.1 ≤ R.cells) (hRs : k.2.2.2.2.2.2.2 ≤ R.slots) (hdec : ∀ q ∈ k.1, decode cc q.1 = .ok q.2) (hfl : ∀ q ∈ k.2.1, eg_FL own Ts meth cl w q.1 q.2) (hkc : ∀ q ∈ k.2.2.1, eg_KC own Ts adK s q.1 q.2)
    (hck : ∀ q ∈ k.2.2.2.1, eg_CK p l e R s m args below meth c (vx_MQ below Qc XC args s k.2.2.2.2.2.2.1 k.2.2.2.2.2.2.2 A) w D cl aC adK A nL ad0 N0 cc q) (hnk : k.2.2.2.2.1 = [])
    (hP : ∀ (v : Option Value) (M : eg_M) (ad : Nat → Nat) (H : Heap) (locs : List Loc), P (.inl v) M → eg_H w D cl aC adK A s.heap ad0 N0 ad M H locs → (∀ u ∈ v.toList, eg_wv (eg_N w M) u) → ∀ t : State, t.heap = H → s.WarmedH t.vm → Qc args s (.returned (v.map (eg_cv ad adK))) t)
    (hX : ∀ (pc : Nat) (i : Instr), eg_lq k.1 pc = some (i, 3) → eg_inv i = true → eg_HX p l e R s m args below meth c (vx_MQ below Qc XC args s k.2.2.2.2.2.2.1 k.2.2.2.2.2.2.2 A) w D cl aC adK A nL ad0 N0 k P pc)
    (hT : eg_T w k P pc cu su ls st M) : eg_G p l e R s m args below meth c (vx_MQ below Qc XC args s k.2.2.2.2.2.2.1 k.2.2.2.2.2.2.2 A) w D cl aC adK A nL ad0 N0 pc cu su ls st M := by
  refine hT _ ?_
  intro pc cu su ls st M h
  unfold eg_at at h
  cases hq : eg_lq k.1 pc with
  | none => rw [hq] at h; exact h.elim
  | some q =>
    obtain ⟨i, n⟩ := q
    rw [hq] at h
    replace h := eg_need_out h
    obtain ⟨hz, h⟩ := h
    have hd : decode cc pc = .ok (i, n) := hdec (pc, i, n) (eg_lq_in hq)
    refine eg_close1 hx hb hts hown hK hfl hkc hd hz h (fun j hj e => ?_)
    subst e
    cases i with
    | arraylength => cases eg_szok1 hz rfl; exact eg_s_alen hx hb hK hd h
    | iaload => cases eg_szok1 hz rfl; exact eg_s_iaload hx hb hK hd h
    | laload => cases eg_szok1 hz rfl; exact eg_s_laload hx hb hK hd h
    | baload => cases eg_szok1 hz rfl; exact eg_s_baload hx hb hK hd h
    | aaload => cases eg_szok1 hz rfl; exact eg_s_aaload hx hb hK hd h
    | iastore => cases eg_szok1 hz rfl; exact eg_s_iastore hx hb hK hd h
    | lastore => cases eg_szok1 hz rfl; exact eg_s_lastore hx hb hK hd h
    | bastore => cases eg_szok1 hz rfl; exact eg_s_bastore hx hb hK hd h
    | tableswitch d lo hi offs => exact eg_s_switch hx hb hd h
    | invokevirtual j =>
      cases eg_szok1 hz rfl
      replace h := eg_need_out h
      have hj := Nat.blt_eq.mp h.1
      exact eg_s_callH (i := .invokevirtual j) (j := j) (fun q hq e => by have g := (hck q hq).1 (by omega); rw [e] at g; exact g) hRc hRs hd (hX pc _ hq rfl) h.2
    | invokestatic j =>
      cases eg_szok1 hz rfl
      replace h := eg_need_out h
      have hj := Nat.blt_eq.mp h.1
      exact eg_s_callH (i := .invokestatic j) (j := j + 100000) (fun q hq e => by have g := (hck q hq).2.1 (by omega) (by omega); rw [e, Nat.add_sub_cancel] at g; exact g) hRc hRs hd (hX pc _ hq rfl) h.2
    | invokespecial j =>
      cases eg_szok1 hz rfl
      replace h := eg_need_out h
      have hj := Nat.blt_eq.mp h.1
      exact eg_s_callH (i := .invokespecial j) (j := j + 200000) (fun q hq e => by have g := ((hck q hq).2.2 (by omega)).1 (by omega); rw [e, Nat.add_sub_cancel] at g; exact g) hRc hRs hd (hX pc _ hq rfl) h.2
    | newarray t =>
      cases eg_szok1 hz rfl
      replace h := eg_need_out h
      obtain ⟨ht, h⟩ := h
      cases t with
      | int => exact eg_s_callE (i := .newarray .int) (j := 300001) (fun q hq e => by have g := ((hck q hq).2.2 (by omega)).2 (by omega); rw [e] at g; exact g) hRc hRs hd h
      | long => exact eg_s_callE (i := .newarray .long) (j := 300002) (fun q hq e => by have g := ((hck q hq).2.2 (by omega)).2 (by omega); rw [e] at g; exact g) hRc hRs hd h
      | boolean => exact eg_s_callE (i := .newarray .boolean) (j := 300003) (fun q hq e => by have g := ((hck q hq).2.2 (by omega)).2 (by omega); rw [e] at g; exact g) hRc hRs hd h
      | _ => cases ht
    | anewarray j =>
      cases eg_szok1 hz rfl
      replace h := eg_need_out h
      have hj := Nat.blt_eq.mp h.1
      exact eg_s_callE (i := .anewarray j) (j := j + 310000) (fun q hq e => by have g := ((hck q hq).2.2 (by omega)).2 (by omega); rw [e, eg_ik_a hj] at g; exact g) hRc hRs hd h.2
    | multianewarray j d =>
      cases eg_szok1 hz rfl
      replace h := eg_need_out h
      have hj := h.1
      rw [Bool.and_eq_true] at hj
      have hj1 := Nat.blt_eq.mp hj.1
      have hj2 : d = 2 := Nat.eq_of_beq_eq_true hj.2
      subst hj2
      exact eg_s_callE (i := .multianewarray j 2) (j := j + 320000) (fun q hq e => by have g := ((hck q hq).2.2 (by omega)).2 (by omega); rw [e, eg_ik_m hj1] at g; exact g) hRc hRs hd h.2
    | aastore =>
      cases eg_szok1 hz rfl
      exact eg_s_callE (i := .aastore) (j := 330000) (fun q hq e => by have g := ((hck q hq).2.2 (by omega)).2 (by omega); rw [e] at g; exact g) hRc hRs hd h
    | new j =>
      dsimp only [eg_step] at h
      rw [hnk] at h
      exact h.elim
    | ireturn => cases eg_szok1 hz rfl; exact eg_s_ret hx hb hlocks hrk hP (Or.inl rfl) hd h
    | lreturn => cases eg_szok1 hz rfl; exact eg_s_ret hx hb hlocks hrk hP (Or.inr (Or.inl rfl)) hd h
    | areturn => cases eg_szok1 hz rfl; exact eg_s_ret hx hb hlocks hrk hP (Or.inr (Or.inr (Or.inl rfl))) hd h
    | return_ => cases eg_szok1 hz rfl; exact eg_s_ret hx hb hlocks hrk hP (Or.inr (Or.inr (Or.inr rfl))) hd h
    | _ => cases hj
end ECH

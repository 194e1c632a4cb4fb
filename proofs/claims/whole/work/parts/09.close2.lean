/-! THE ENGINE IS RIGHT, second part: rows, switches, calls, what is made, thrown, returned -/
def eg_rk (rk : Nat) (r : Option FieldType) : Prop := match rk with
  | 0 => r = none
  | 1 => r = some .int
  | 2 => r = some .boolean
  | 3 => r = some .long
  | 4 => ∃ t, r = some t ∧ ((∃ n, t = .object n) ∨ ∃ u, t = .array u)
  | _ => False
section EC2
variable {p : Program} {l : Launch} {e : Env} {R : Room} {s : State} {m : MethodId} {args : Array Value} {below : List Frame} {meth : Method} {c : Code} {Q : State → Prop}
variable {cc : ByteArray} {own er : String} {Ts : List Cond} {w : eg_W} {D : va_G} {cl : List vw_C} {aC : Nat → ClassId} {adK : Nat → Nat} {A : Nat → Prop} {nL N0 : Nat} {ad0 : Nat → Nat}
variable {pc cu su : Nat} {ls : List (Option Value)} {st : List Value} {M : eg_M} {k : eg_C} {P : eg_P}
theorem eg_s_iaload (hx : p.tables.exec = Jvm.exec) (hb : c.code = cc) (hK : va_K D cl (eg_tys er aC) s) (hd : decode cc pc = .ok (.iaload, 1)) (h : eg_step w k P (eg_G p l e R s m args below meth c Q w D cl aC adK A nL ad0 N0) pc cu su ls st M .iaload 1) : eg_G p l e R s m args below meth c Q w D cl aC adK A nL ad0 N0 pc cu su ls st M := by
  dsimp only [eg_step] at h
  split at h
  · rename_i i p0 r
    replace h := eg_need_out h
    have hk := eg_is_out h.1
    intro ad H locs arr hH hL hst
    exact va_iald hx hb hK hH.1 p0 0 (f := M.2.1 p0) (by rw [eg_ws_get (eg_lt_of hk (by omega)), eg_ent_i hk]) rfl h.2.1 hd (h.2.2 ad H locs arr hH hL (eg_wc trivial (eg_w1 (eg_w1 hst).2).2))
  · exact h.elim
theorem eg_s_laload (hx : p.tables.exec = Jvm.exec) (hb : c.code = cc) (hK : va_K D cl (eg_tys er aC) s) (hd : decode cc pc = .ok (.laload, 1)) (h : eg_step w k P (eg_G p l e R s m args below meth c Q w D cl aC adK A nL ad0 N0) pc cu su ls st M .laload 1) : eg_G p l e R s m args below meth c Q w D cl aC adK A nL ad0 N0 pc cu su ls st M := by
  dsimp only [eg_step] at h
  split at h
  · rename_i i p0 r
    replace h := eg_need_out h
    have hk := eg_is_out h.1
    intro ad H locs arr hH hL hst
    exact va_lald hx hb hK hH.1 p0 1 (f := M.2.2.1 p0) (by rw [eg_ws_get (eg_lt_of hk (by omega)), eg_ent_l hk]) rfl h.2.1 hd (h.2.2 ad H locs arr hH hL (eg_wc trivial (eg_w1 (eg_w1 hst).2).2))
  · exact h.elim
theorem eg_s_baload (hx : p.tables.exec = Jvm.exec) (hb : c.code = cc) (hK : va_K D cl (eg_tys er aC) s) (hd : decode cc pc = .ok (.baload, 1)) (h : eg_step w k P (eg_G p l e R s m args below meth c Q w D cl aC adK A nL ad0 N0) pc cu su ls st M .baload 1) : eg_G p l e R s m args below meth c Q w D cl aC adK A nL ad0 N0 pc cu su ls st M := by
  dsimp only [eg_step] at h
  split at h
  · rename_i i p0 r
    replace h := eg_need_out h
    have hk := eg_is_out h.1
    intro ad H locs arr hH hL hst
    exact va_zald hx hb hK hH.1 p0 2 (f := M.2.1 p0) (by rw [eg_ws_get (eg_lt_of hk (by omega)), eg_ent_z hk]) rfl h.2.1 hd (h.2.2 ad H locs arr hH hL (eg_wc trivial (eg_w1 (eg_w1 hst).2).2))
  · exact h.elim
theorem eg_s_iastore (hx : p.tables.exec = Jvm.exec) (hb : c.code = cc) (hK : va_K D cl (eg_tys er aC) s) (hd : decode cc pc = .ok (.iastore, 1)) (h : eg_step w k P (eg_G p l e R s m args below meth c Q w D cl aC adK A nL ad0 N0) pc cu su ls st M .iastore 1) : eg_G p l e R s m args below meth c Q w D cl aC adK A nL ad0 N0 pc cu su ls st M := by
  dsimp only [eg_step] at h
  split at h
  · rename_i x i p0 r
    replace h := eg_need_out h
    have hk := eg_is_out h.1
    intro ad H locs arr hH hL hst
    refine va_iast hx hb hK hH.1 hH.2.1 hH.2.2.1 p0 0 (f := M.2.1 p0) (by rw [eg_ws_get (eg_lt_of hk (by omega)), eg_ent_i hk]) rfl h.2.1 hd (fun H1 locs1 g1 g2 g3 => ?_)
    have hws := eg_ws_iast (aC := aC) (adK := adK) (ad := ad) (i := i.toNatClampNeg) (v := x) hk (Or.inl rfl)
    have g1 : va_P D cl (eg_ws w aC adK ad (eg_si M p0 i.toNatClampNeg x)) H1 := by rw [hws]; exact g1
    have g2 : va_D A (eg_ws w aC adK ad (eg_si M p0 i.toNatClampNeg x)) := by rw [hws]; exact g2
    exact h.2.2 ad H1 locs1 arr ⟨g1, g2, g3, eg_wf_i hH.2.2.2.1, hH.2.2.2.2⟩ hL (eg_w1 (eg_w1 (eg_w1 hst).2).2).2
  · exact h.elim
theorem eg_nar01 {x : Int32} (h : x = 0 ∨ x = 1) : vp_nar .boolean x = x := by
  rcases h with e | e <;> subst e <;> rfl
theorem eg_s_bastore (hx : p.tables.exec = Jvm.exec) (hb : c.code = cc) (hK : va_K D cl (eg_tys er aC) s) (hd : decode cc pc = .ok (.bastore, 1)) (h : eg_step w k P (eg_G p l e R s m args below meth c Q w D cl aC adK A nL ad0 N0) pc cu su ls st M .bastore 1) : eg_G p l e R s m args below meth c Q w D cl aC adK A nL ad0 N0 pc cu su ls st M := by
  dsimp only [eg_step] at h
  split at h
  · rename_i x i p0 r
    replace h := eg_need_out h
    have hk := eg_is_out h.1
    intro ad H locs arr hH hL hst
    refine va_zast hx hb hK hH.1 hH.2.1 hH.2.2.1 p0 2 (f := M.2.1 p0) (by rw [eg_ws_get (eg_lt_of hk (by omega)), eg_ent_z hk]) rfl h.2.1 hd (fun H1 locs1 g1 g2 g3 => ?_)
    rw [eg_nar01 h.2.2.1] at g1 g2
    have hws := eg_ws_iast (aC := aC) (adK := adK) (ad := ad) (i := i.toNatClampNeg) (v := x) hk (Or.inr rfl)
    have g1 : va_P D cl (eg_ws w aC adK ad (eg_si M p0 i.toNatClampNeg x)) H1 := by rw [hws]; exact g1
    have g2 : va_D A (eg_ws w aC adK ad (eg_si M p0 i.toNatClampNeg x)) := by rw [hws]; exact g2
    exact h.2.2.2 ad H1 locs1 arr ⟨g1, g2, g3, eg_wf_i hH.2.2.2.1, hH.2.2.2.2⟩ hL (eg_w1 (eg_w1 (eg_w1 hst).2).2).2
  · exact h.elim
theorem eg_s_lastore (hx : p.tables.exec = Jvm.exec) (hb : c.code = cc) (hK : va_K D cl (eg_tys er aC) s) (hd : decode cc pc = .ok (.lastore, 1)) (h : eg_step w k P (eg_G p l e R s m args below meth c Q w D cl aC adK A nL ad0 N0) pc cu su ls st M .lastore 1) : eg_G p l e R s m args below meth c Q w D cl aC adK A nL ad0 N0 pc cu su ls st M := by
  dsimp only [eg_step] at h
  split at h
  · rename_i x i p0 r
    replace h := eg_need_out h
    have hk := eg_is_out h.1
    intro ad H locs arr hH hL hst
    refine va_last hx hb hK hH.1 hH.2.1 hH.2.2.1 p0 1 (f := M.2.2.1 p0) (by rw [eg_ws_get (eg_lt_of hk (by omega)), eg_ent_l hk]) rfl h.2.1 hd (fun H1 locs1 g1 g2 g3 => ?_)
    have hws := eg_ws_last (aC := aC) (adK := adK) (ad := ad) (i := i.toNatClampNeg) (v := x) hk
    have g1 : va_P D cl (eg_ws w aC adK ad (eg_sl M p0 i.toNatClampNeg x)) H1 := by rw [hws]; exact g1
    have g2 : va_D A (eg_ws w aC adK ad (eg_sl M p0 i.toNatClampNeg x)) := by rw [hws]; exact g2
    exact h.2.2 ad H1 locs1 arr ⟨g1, g2, g3, eg_wf_l hH.2.2.2.1, hH.2.2.2.2⟩ hL (eg_w1 (eg_w1 (eg_w1 hst).2).2).2
  · exact h.elim
/-- a row's entry, of whatever kind -/
theorem eg_ent_a {ad : Nat → Nat} {p0 : Nat} (h1 : 1 ≤ (eg_sh w M p0).1) : ∃ x : vp_A, eg_ent w aC adK ad M p0 = .inl (aC (eg_sh w M p0).1, x) ∧ x.1 = eg_len w M p0 := by
  rcases (show (eg_sh w M p0).1 = 1 ∨ (eg_sh w M p0).1 = 2 ∨ (eg_sh w M p0).1 = 3 ∨ 4 ≤ (eg_sh w M p0).1 by omega) with h | h | h | h
  · exact ⟨_, by rw [eg_ent_i h, h], rfl⟩
  · exact ⟨_, by rw [eg_ent_l h, h], rfl⟩
  · exact ⟨_, by rw [eg_ent_z h, h], rfl⟩
  · exact ⟨_, eg_ent_q rfl h, rfl⟩
theorem eg_s_alen (hx : p.tables.exec = Jvm.exec) (hb : c.code = cc) (hK : va_K D cl (eg_tys er aC) s) (hd : decode cc pc = .ok (.arraylength, 1)) (h : eg_step w k P (eg_G p l e R s m args below meth c Q w D cl aC adK A nL ad0 N0) pc cu su ls st M .arraylength 1) : eg_G p l e R s m args below meth c Q w D cl aC adK A nL ad0 N0 pc cu su ls st M := by
  dsimp only [eg_step] at h
  split at h
  · rename_i p0 r
    replace h := eg_need_out h
    have hk := h.1
    rw [Bool.and_eq_true] at hk
    have h1 := Nat.le_of_ble_eq_true hk.1
    have h7 := Nat.le_of_ble_eq_true hk.2
    intro ad H locs arr hH hL hst
    obtain ⟨x, e1, e2⟩ := eg_ent_a (w := w) (aC := aC) (adK := adK) (ad := ad) h1
    exact va_alen hx hb hK hH.1 p0 ((eg_sh w M p0).1 - 1) (by rw [eg_ws_get (eg_lt_of rfl h7), e1]) (eg_tys_at er aC h1 h7) (by rw [e2]; rfl) hd (h.2 ad H locs arr hH hL (eg_wc trivial (eg_w1 hst).2))
  · exact h.elim
theorem eg_s_aaload (hx : p.tables.exec = Jvm.exec) (hb : c.code = cc) (hK : va_K D cl (eg_tys er aC) s) (hd : decode cc pc = .ok (.aaload, 1)) (h : eg_step w k P (eg_G p l e R s m args below meth c Q w D cl aC adK A nL ad0 N0) pc cu su ls st M .aaload 1) : eg_G p l e R s m args below meth c Q w D cl aC adK A nL ad0 N0 pc cu su ls st M := by
  dsimp only [eg_step] at h
  split at h
  · rename_i i p0 r
    replace h := eg_need_out h
    have hk := h.1
    rw [Bool.and_eq_true] at hk
    have h4 := Nat.le_of_ble_eq_true hk.1
    have h7 := Nat.le_of_ble_eq_true hk.2
    intro ad H locs arr hH hL hst
    have hlt : i.toNatClampNeg < eg_len w M p0 := Nat.not_le.mp fun q => h.2.1 (Or.inr q)
    obtain ⟨e1, e2⟩ := eg_el_ok (adK := adK) (ad := ad) h4 h7 hlt hH.2.2.2.1
    have hp := hH.1 p0 _ (eg_ws_get (eg_lt_of rfl h7))
    rw [eg_ent_q rfl h4] at hp
    have kk := h.2.2 ad H locs arr hH hL (eg_wc e2 (eg_w1 (eg_w1 hst).2).2)
    have hty : (eg_ty er (eg_sh w M p0).1).isReference = true := by
      rcases (show (eg_sh w M p0).1 = 4 ∨ (eg_sh w M p0).1 = 5 ∨ (eg_sh w M p0).1 = 6 ∨ (eg_sh w M p0).1 = 7 by omega) with q | q | q | q <;> rw [q] <;> rfl
    exact W.aald (v := va_rf (eg_ea w adK ad M p0 i.toNatClampNeg)) (ty := eg_ty er (eg_sh w M p0).1) hx hb hp ((hK.2 _ _ (eg_tys_at er aC (by omega) h7)).1 (eg_len w M p0) (fun j => va_rf (eg_ea w adK ad M p0 j))) hty (fun q => by cases q) (by show ¬ (i < 0 ∨ (arrV _ _ _).slots.size ≤ _); rw [arrV_size]; exact h.2.1) (by show (arrV _ _ _).slots[_]? = _; rw [arrV_read _ _ hlt]) rfl rfl hd (by rw [e1]; exact kk)
  · exact h.elim
theorem eg_sw_at {X : eg_X} {x : Int32} : ∀ {offs : List Int} {lo : Int}, eg_sw X pc cu su ls st M x lo offs → ∀ (j : Nat) (o : Int), offs[j]? = some o → x.toInt = lo + j → eg_to X pc o cu su ls st M := by
  intro offs
  induction offs with
  | nil => intro lo _ j o h; cases h
  | cons a t ih =>
    intro lo h j o ho hx
    cases j with
    | zero =>
      cases Option.some.inj ho
      exact h.1 (by simpa using hx)
    | succ j => exact ih h.2 j o ho (by rw [hx]; simp; omega)
theorem eg_s_switch (hx : p.tables.exec = Jvm.exec) (hb : c.code = cc) {d lo hi : Int} {offs : Array Int} {n : Nat} (hd : decode cc pc = .ok (.tableswitch d lo hi offs, n)) (h : eg_step w k P (eg_G p l e R s m args below meth c Q w D cl aC adK A nL ad0 N0) pc cu su ls st M (.tableswitch d lo hi offs) n) : eg_G p l e R s m args below meth c Q w D cl aC adK A nL ad0 N0 pc cu su ls st M := by
  dsimp only [eg_step] at h
  split at h
  · rename_i x r
    obtain ⟨h1, h2⟩ := h
    obtain ⟨h3, h4⟩ := eg_need_out h2
    have h3 : hi + 1 = lo + offs.toList.length := of_decide_eq_true h3
    intro ad H locs arr hH hL hst
    by_cases ho : x.toInt < lo ∨ hi < x.toInt
    · obtain ⟨tgt, ht, g⟩ := eg_to_out (h1 ho)
      exact lv_tableOut hx hb hd ho ht (g ad H locs arr hH hL (eg_w1 hst).2)
    · have hj : (x.toInt - lo).toNat < offs.toList.length := by omega
      obtain ⟨tgt, ht, g⟩ := eg_to_out (eg_sw_at h4 (x.toInt - lo).toNat _ (List.getElem?_eq_getElem hj) (by omega))
      exact lv_tableIn hx hb hd (fun z => ho (Or.inl z)) (fun z => ho (Or.inr z)) (off := offs.toList[(x.toInt - lo).toNat]) (by rw [← Array.getElem?_toList]; exact List.getElem?_eq_getElem hj) ht (g ad H locs arr hH hL (eg_w1 hst).2)
  · exact h.elim
/-- values look the same where the addresses have only grown -/
theorem eg_cv_x {ad ad' : Nat → Nat} {N N' : Nat} (h : eg_x ad N ad' N') {v : Value} (hv : eg_wv N v) : eg_cv ad' adK v = eg_cv ad adK v := by
  cases v with
  | ref q => exact congrArg Value.ref (h.1 q hv)
  | _ => rfl
theorem eg_wv_x {ad ad' : Nat → Nat} {N N' : Nat} (h : eg_x ad N ad' N') {v : Value} (hv : eg_wv N v) : eg_wv N' v := by
  cases v with
  | ref q => exact Nat.lt_of_lt_of_le hv h.2
  | _ => trivial
theorem eg_L.grown {ad ad' : Nat → Nat} {N N' : Nat} (h : eg_x ad N ad' N') {arr : Array Slot} (hL : eg_L ad adK N arr nL ls) : eg_L ad' adK N' arr nL ls :=
  ⟨hL.1, hL.2.1, hL.2.2.1, fun i v hv => ⟨by rw [eg_cv_x h (hL.2.2.2 i v hv).2]; exact (hL.2.2.2 i v hv).1, eg_wv_x h (hL.2.2.2 i v hv).2⟩⟩
theorem eg_s_call {i : Instr} {j : Nat} (hcf : ∀ q ∈ k.2.2.2.1, q.1 = j → eg_CF p l e R s m args below meth c Q w D cl aC adK A nL ad0 N0 cc i q.2.1 q.2.2.1 q.2.2.2.1 q.2.2.2.2) (hRc : k.2.2.2.2.2.2.1 ≤ R.cells) (hRs : k.2.2.2.2.2.2.2 ≤ R.slots) (hd : decode cc pc = .ok (i, 3))
    (hX : ∀ (E : String) (N : eg_M) (ad : Nat → Nat) (H : Heap) (locs : List Loc) (q : Nat) (ce : Cell) (cu su : Nat) (arr : Array Slot) (rest : List Value), P (.inr E) N → eg_H w D cl aC adK A s.heap ad0 N0 ad N H locs → H[q]? = some ce → ce.vm = .none → s.vm.findClass E = some ce.cls → cu ≤ k.2.2.2.2.2.2.1 → su ≤ k.2.2.2.2.2.2.2 → vx_W p l e R s m args below meth c H locs cu su Q (F0 m pc arr rest) q)
    (h : eg_call k P (eg_G p l e R s m args below meth c Q w D cl aC adK A nL ad0 N0) j pc cu su ls st M) : eg_G p l e R s m args below meth c Q w D cl aC adK A nL ad0 N0 pc cu su ls st M := by
  unfold eg_call at h
  cases hq : eg_lq k.2.2.2.1 j with
  | none => rw [hq] at h; exact h.elim
  | some q =>
    obtain ⟨n, kc, ks, S⟩ := q
    rw [hq] at h
    replace h := eg_need_out h
    obtain ⟨h0, hS⟩ := h
    simp only [Bool.and_eq_true] at h0
    obtain ⟨g1, g2, g3, g4⟩ := h0
    have g1 := Nat.le_of_ble_eq_true g1
    have g3 := Nat.le_of_ble_eq_true g3
    have g4 := Nat.le_of_ble_eq_true g4
    intro ad H locs arr hH hL hst
    have hcf9 : eg_CF p l e R s m args below meth c Q w D cl aC adK A nL ad0 N0 cc i n kc ks S := hcf _ (eg_lq_in hq) rfl
    have hC := hcf9 pc cu su ls (st.drop n) (st.take n).reverse M _ hd (by rw [List.length_reverse, List.length_take]; omega) (Nat.le_of_ble_eq_true g2) (by omega) (by omega) hS ad H locs arr hH hL
      (fun v hv => hst v (List.mem_of_mem_take (List.mem_reverse.mp hv))) (fun v hv => hst v (List.mem_of_mem_drop hv))
      (fun v N ad' H' locs' hQ hH' hx' hv => hQ ad' H' locs' arr hH' (hL.grown hx') (fun u hu => by
        rcases List.mem_append.mp hu with z | z
        · exact hv u z
        · exact eg_wv_x hx' (hst u (List.mem_of_mem_drop z))))
      (fun E N ad' H' locs' q ce hQ hH' a1 a2 a3 => hX E N ad' H' locs' q ce _ _ arr _ hQ hH' a1 a2 a3 g3 g4)
    rw [List.reverse_reverse, List.take_append_drop] at hC
    exact hC
/-- what makes a row, or fills one: never thrown from -/
def eg_CE (p : Program) (l : Launch) (e : Env) (R : Room) (s : State) (m : MethodId) (args : Array Value) (below : List Frame) (meth : Method) (c : Code) (Q : State → Prop) (w : eg_W) (D : va_G) (cl : List vw_C) (aC : Nat → ClassId) (adK : Nat → Nat) (A : Nat → Prop) (nL : Nat) (ad0 : Nat → Nat) (N0 : Nat) (cc : ByteArray) (i : Instr) (len n kc ks : Nat) (S : eg_S) : Prop :=
  ∀ (pc cu su : Nat) (ls : List (Option Value)) (rest argv : List Value) (M : eg_M) (Qp : eg_P), decode cc pc = .ok (i, len) → argv.length = n → cu + kc ≤ R.cells → su + ks ≤ R.slots → S argv M Qp →
  ∀ (ad : Nat → Nat) (H : Heap) (locs : List Loc) (arr : Array Slot), eg_H w D cl aC adK A s.heap ad0 N0 ad M H locs → eg_L ad adK (eg_N w M) arr nL ls → (∀ v ∈ argv, eg_wv (eg_N w M) v) → (∀ v ∈ rest, eg_wv (eg_N w M) v) →
  (∀ (v : Option Value) (N : eg_M) (ad' : Nat → Nat) (H' : Heap) (locs' : List Loc), Qp (.inl v) N → eg_H w D cl aC adK A s.heap ad0 N0 ad' N H' locs' → eg_x ad (eg_N w M) ad' (eg_N w N) → (∀ u ∈ v.toList, eg_wv (eg_N w N) u) → W p l e R s m args below meth c H' locs' (cu + kc) (su + ks) Q (F0 m (pc + len) arr ((v.toList ++ rest).map (eg_cv ad' adK)))) →
  W p l e R s m args below meth c H locs cu su Q (F0 m pc arr ((argv.reverse ++ rest).map (eg_cv ad adK)))
theorem eg_s_callE {i : Instr} {j z : Nat} (hcf : ∀ q ∈ k.2.2.2.1, q.1 = j → eg_CE p l e R s m args below meth c Q w D cl aC adK A nL ad0 N0 cc i z q.2.1 q.2.2.1 q.2.2.2.1 q.2.2.2.2) (hRc : k.2.2.2.2.2.2.1 ≤ R.cells) (hRs : k.2.2.2.2.2.2.2 ≤ R.slots) (hd : decode cc pc = .ok (i, z))
    (h : eg_callE k (eg_G p l e R s m args below meth c Q w D cl aC adK A nL ad0 N0) j pc z cu su ls st M) : eg_G p l e R s m args below meth c Q w D cl aC adK A nL ad0 N0 pc cu su ls st M := by
  unfold eg_callE at h
  cases hq : eg_lq k.2.2.2.1 j with
  | none => rw [hq] at h; exact h.elim
  | some q =>
    obtain ⟨n, kc, ks, S⟩ := q
    rw [hq] at h
    replace h := eg_need_out h
    obtain ⟨h0, hS⟩ := h
    simp only [Bool.and_eq_true] at h0
    obtain ⟨g1, g3, g4⟩ := h0
    have g1 := Nat.le_of_ble_eq_true g1
    have g3 := Nat.le_of_ble_eq_true g3
    have g4 := Nat.le_of_ble_eq_true g4
    intro ad H locs arr hH hL hst
    have hcf9 : eg_CE p l e R s m args below meth c Q w D cl aC adK A nL ad0 N0 cc i z n kc ks S := hcf _ (eg_lq_in hq) rfl
    have hC := hcf9 pc cu su ls (st.drop n) (st.take n).reverse M _ hd (by rw [List.length_reverse, List.length_take]; omega) (by omega) (by omega) hS ad H locs arr hH hL
      (fun v hv => hst v (List.mem_of_mem_take (List.mem_reverse.mp hv))) (fun v hv => hst v (List.mem_of_mem_drop hv))
      (fun v N ad' H' locs' hQ hH' hx' hv => hQ ad' H' locs' arr hH' (hL.grown hx') (fun u hu => by
        rcases List.mem_append.mp hu with z | z
        · exact hv u z
        · exact eg_wv_x hx' (hst u (List.mem_of_mem_drop z))))
    rw [List.reverse_reverse, List.take_append_drop] at hC
    exact hC
/-- the instruction of such a row, and its length -/
def eg_ik (j : Nat) : Instr × Nat := bif Nat.beq j 330000 then (.aastore, 1) else bif Nat.ble 320000 j then (.multianewarray (j - 320000) 2, 4) else bif Nat.ble 310000 j then (.anewarray (j - 310000), 3) else bif Nat.beq j 300001 then (.newarray .int, 2) else bif Nat.beq j 300002 then (.newarray .long, 2) else (.newarray .boolean, 2)
theorem eg_ik_a {j : Nat} (h : j < 10000) : eg_ik (j + 310000) = (.anewarray j, 3) := by
  unfold eg_ik
  rw [show Nat.beq (j + 310000) 330000 = false from by rw [← Bool.not_eq_true, Nat.beq_eq]; omega, show Nat.ble 320000 (j + 310000) = false from by rw [← Bool.not_eq_true, Nat.ble_eq]; omega, show Nat.ble 310000 (j + 310000) = true from by rw [Nat.ble_eq]; omega, Nat.add_sub_cancel]
  rfl
theorem eg_ik_m {j : Nat} (h : j < 10000) : eg_ik (j + 320000) = (.multianewarray j 2, 4) := by
  unfold eg_ik
  rw [show Nat.beq (j + 320000) 330000 = false from by rw [← Bool.not_eq_true, Nat.beq_eq]; omega, show Nat.ble 320000 (j + 320000) = true from by rw [Nat.ble_eq]; omega, Nat.add_sub_cancel]
  rfl
/-- a row of the calls -/
def eg_CK (p : Program) (l : Launch) (e : Env) (R : Room) (s : State) (m : MethodId) (args : Array Value) (below : List Frame) (meth : Method) (c : Code) (Q : State → Prop) (w : eg_W) (D : va_G) (cl : List vw_C) (aC : Nat → ClassId) (adK : Nat → Nat) (A : Nat → Prop) (nL : Nat) (ad0 : Nat → Nat) (N0 : Nat) (cc : ByteArray) (q : Nat × Nat × Nat × Nat × eg_S) : Prop :=
  (q.1 < 100000 → eg_CF p l e R s m args below meth c Q w D cl aC adK A nL ad0 N0 cc (.invokevirtual q.1) q.2.1 q.2.2.1 q.2.2.2.1 q.2.2.2.2) ∧ (100000 ≤ q.1 → q.1 < 200000 → eg_CF p l e R s m args below meth c Q w D cl aC adK A nL ad0 N0 cc (.invokestatic (q.1 - 100000)) q.2.1 q.2.2.1 q.2.2.2.1 q.2.2.2.2) ∧ (200000 ≤ q.1 → (q.1 < 300000 → eg_CF p l e R s m args below meth c Q w D cl aC adK A nL ad0 N0 cc (.invokespecial (q.1 - 200000)) q.2.1 q.2.2.1 q.2.2.2.1 q.2.2.2.2) ∧ (300000 ≤ q.1 → eg_CE p l e R s m args below meth c Q w D cl aC adK A nL ad0 N0 cc (eg_ik q.1).1 (eg_ik q.1).2 q.2.1 q.2.2.1 q.2.2.2.1 q.2.2.2.2))
/-- a row of what is made -/
def eg_NK (p : Program) (l : Launch) (e : Env) (R : Room) (s : State) (m : MethodId) (args : Array Value) (below : List Frame) (meth : Method) (c : Code) (Q : State → Prop) (w : eg_W) (D : va_G) (cl : List vw_C) (aC : Nat → ClassId) (adK : Nat → Nat) (A : Nat → Prop) (nL : Nat) (ad0 : Nat → Nat) (N0 : Nat) (cc : ByteArray) (P : eg_P) (k : eg_C) (q : Nat × (String ⊕ Nat)) : Prop := match q.2 with
  | .inl E => ∀ (pc cu su : Nat) (ls : List (Option Value)) (M : eg_M), (pc, Instr.new q.1, 3) ∈ k.1 → cu + 1 ≤ k.2.2.2.2.2.2.1 → su + 6 ≤ k.2.2.2.2.2.2.2 → P (.inr E) M → eg_G p l e R s m args below meth c Q w D cl aC adK A nL ad0 N0 pc cu su ls [] M
  | .inr ci => ∀ (pc cu su : Nat) (ls : List (Option Value)) (st : List Value) (M : eg_M), (pc, Instr.new q.1, 3) ∈ k.1 → cu + 1 ≤ R.cells → su + w.2.2.2 ci ≤ R.slots → eg_G p l e R s m args below meth c Q w D cl aC adK A nL ad0 N0 (pc + 3) (cu + 1) (su + w.2.2.2 ci) ls (.ref (eg_N w M) :: st) (eg_new w M (0, ci, [])) → eg_G p l e R s m args below meth c Q w D cl aC adK A nL ad0 N0 pc cu su ls st M
variable {Qc : Array Value → State → Outcome → State → Prop} {XC : String → State → State → Prop}
theorem eg_s_ret (hx : p.tables.exec = Jvm.exec) (hb : c.code = cc) (hlocks : meth.locks = false) (hrk : eg_rk k.2.2.2.2.2.1 meth.sig.returnType)
    (hP : ∀ (v : Option Value) (M : eg_M) (ad : Nat → Nat) (H : Heap) (locs : List Loc), P (.inl v) M → eg_H w D cl aC adK A s.heap ad0 N0 ad M H locs → (∀ u ∈ v.toList, eg_wv (eg_N w M) u) → ∀ t : State, t.heap = H → s.WarmedH t.vm → Qc args s (.returned (v.map (eg_cv ad adK))) t)
    {i : Instr} (hi : i = .ireturn ∨ i = .lreturn ∨ i = .areturn ∨ i = .return_) (hd : decode cc pc = .ok (i, 1)) (h : eg_step w k P (eg_G p l e R s m args below meth c (vx_MQ below Qc XC args s k.2.2.2.2.2.2.1 k.2.2.2.2.2.2.2 A) w D cl aC adK A nL ad0 N0) pc cu su ls st M i 1) : eg_G p l e R s m args below meth c (vx_MQ below Qc XC args s k.2.2.2.2.2.2.1 k.2.2.2.2.2.2.2 A) w D cl aC adK A nL ad0 N0 pc cu su ls st M := by
  have hq : ∀ {v : Option Value} {ad : Nat → Nat} {H : Heap} {locs : List Loc}, eg_ret k P cu su v M → eg_H w D cl aC adK A s.heap ad0 N0 ad M H locs → (∀ u ∈ v.toList, eg_wv (eg_N w M) u) → cu ≤ k.2.2.2.2.2.2.1 ∧ su ≤ k.2.2.2.2.2.2.2 ∧ ∀ t : State, t.heap = H → s.WarmedH t.vm → Qc args s (.returned (v.map (eg_cv ad adK))) t := by
    intro v ad H locs g hH hv
    replace g := eg_need_out g
    obtain ⟨g0, g1⟩ := g
    rw [Bool.and_eq_true] at g0
    exact ⟨Nat.le_of_ble_eq_true g0.1, Nat.le_of_ble_eq_true g0.2, hP v M ad H locs g1 hH hv⟩
  rcases hi with e | e | e | e <;> subst e <;> dsimp only [eg_step] at h
  · split at h
    · rename_i v
      replace h := eg_need_out h
      obtain ⟨h0, h1, h2⟩ := h
      intro ad H locs arr hH hL hst
      obtain ⟨a1, a2, a3⟩ := hq h2 hH (fun u hu => hst u (by simpa using hu))
      refine W.widen a1 a2 (vx_ret ?_)
      rw [Bool.or_eq_true] at h0
      rcases h0 with z | z
      · rw [Nat.eq_of_beq_eq_true z] at hrk
        exact W.iret hx hb hrk a3 hH.2.2.1.2.2 hd hlocks
      · have z2 := h1 z
        rw [Nat.eq_of_beq_eq_true z] at hrk
        exact W.zret hx hb hrk (by rcases z2 with e | e <;> subst e <;> rfl) a3 hH.2.2.1.2.2 hd hlocks
    · exact h.elim
  · split at h
    · rename_i v
      replace h := eg_need_out h
      obtain ⟨h0, h2⟩ := h
      intro ad H locs arr hH hL hst
      obtain ⟨a1, a2, a3⟩ := hq h2 hH (fun u hu => hst u (by simpa using hu))
      refine W.widen a1 a2 (vx_ret ?_)
      rw [Nat.eq_of_beq_eq_true h0] at hrk
      exact W.lret hx hb hrk a3 hH.2.2.1.2.2 hd hlocks
    · exact h.elim
  · split at h
    · rename_i v
      replace h := eg_need_out h
      obtain ⟨h0, h2⟩ := h
      intro ad H locs arr hH hL hst
      obtain ⟨a1, a2, a3⟩ := hq h2 hH (fun u hu => hst u (by simpa using hu))
      refine W.widen a1 a2 (vx_ret ?_)
      rw [Nat.eq_of_beq_eq_true h0] at hrk
      obtain ⟨t, t1, t2⟩ := hrk
      exact W.aret hx hb t1 t2 (Or.inr ⟨_, rfl⟩) a3 hH.2.2.1.2.2 hd hlocks
    · rename_i v
      replace h := eg_need_out h
      obtain ⟨h0, h2⟩ := h
      intro ad H locs arr hH hL hst
      obtain ⟨a1, a2, a3⟩ := hq h2 hH (fun u hu => hst u (by simpa using hu))
      refine W.widen a1 a2 (vx_ret ?_)
      rw [Nat.eq_of_beq_eq_true h0] at hrk
      obtain ⟨t, t1, t2⟩ := hrk
      exact W.aret hx hb t1 t2 (Or.inr ⟨_, rfl⟩) a3 hH.2.2.1.2.2 hd hlocks
    · exact h.elim
  · split at h
    · replace h := eg_need_out h
      obtain ⟨h0, h2⟩ := h
      intro ad H locs arr hH hL hst
      obtain ⟨a1, a2, a3⟩ := hq h2 hH (fun u hu => by cases hu)
      refine W.widen a1 a2 (vx_ret ?_)
      rw [Nat.eq_of_beq_eq_true h0] at hrk
      exact W.vret hx hb hrk a3 hH.2.2.1.2.2 hd hlocks
    · exact h.elim
/-- THE ENGINE IS RIGHT -/
theorem eg_sound (hx : p.tables.exec = Jvm.exec) (hb : c.code = cc) (hts : ∀ w ∈ Ts, w.before args s = true) (hown : s.vm.findClass own = some m.cls) (hK : va_K D cl (eg_tys er aC) s) (hlocks : meth.locks = false) (hrk : eg_rk k.2.2.2.2.2.1 meth.sig.returnType) (hout : ∀ x ∈ c.exceptionTable.toList, False)
    (hRc : k.2.2.2.2.2.2.1 ≤ R.cells) (hRs : k.2.2.2.2.2.2.2 ≤ R.slots) (hdec : ∀ q ∈ k.1, decode cc q.1 = .ok q.2) (hfl : ∀ q ∈ k.2.1, eg_FL own Ts meth cl w q.1 q.2) (hkc : ∀ q ∈ k.2.2.1, eg_KC own Ts adK s q.1 q.2)
    (hck : ∀ q ∈ k.2.2.2.1, eg_CK p l e R s m args below meth c (vx_MQ below Qc XC args s k.2.2.2.2.2.2.1 k.2.2.2.2.2.2.2 A) w D cl aC adK A nL ad0 N0 cc q) (hnk : ∀ q ∈ k.2.2.2.2.1, eg_NK p l e R s m args below meth c (vx_MQ below Qc XC args s k.2.2.2.2.2.2.1 k.2.2.2.2.2.2.2 A) w D cl aC adK A nL ad0 N0 cc P k q)
    (hP : ∀ (v : Option Value) (M : eg_M) (ad : Nat → Nat) (H : Heap) (locs : List Loc), P (.inl v) M → eg_H w D cl aC adK A s.heap ad0 N0 ad M H locs → (∀ u ∈ v.toList, eg_wv (eg_N w M) u) → ∀ t : State, t.heap = H → s.WarmedH t.vm → Qc args s (.returned (v.map (eg_cv ad adK))) t)
    (hPX : ∀ (E : String) (M : eg_M) (ad : Nat → Nat) (H : Heap) (locs : List Loc), P (.inr E) M → eg_H w D cl aC adK A s.heap ad0 N0 ad M H locs → ∀ t : State, t.heap = H → s.vm.Alike t.vm → XC E s t)
    (hT : eg_T w k P pc cu su ls st M) : eg_G p l e R s m args below meth c (vx_MQ below Qc XC args s k.2.2.2.2.2.2.1 k.2.2.2.2.2.2.2 A) w D cl aC adK A nL ad0 N0 pc cu su ls st M := by
  refine hT _ ?_
  intro pc cu su ls st M h
  unfold eg_at at h
  cases hq : eg_lq k.1 pc with
  | none => rw [hq] at h; exact h.elim
  | some q =>
    obtain ⟨i, n⟩ := q
    rw [hq] at h
    replace h := eg_need_out h
    obtain ⟨hz, h⟩ := h
    have hd : decode cc pc = .ok (i, n) := hdec (pc, i, n) (eg_lq_in hq)
    have hX : ∀ (E : String) (N : eg_M) (ad : Nat → Nat) (H : Heap) (locs : List Loc) (q : Nat) (ce : Cell) (cu su : Nat) (arr : Array Slot) (rest : List Value), P (.inr E) N → eg_H w D cl aC adK A s.heap ad0 N0 ad N H locs → H[q]? = some ce → ce.vm = .none → s.vm.findClass E = some ce.cls → cu ≤ k.2.2.2.2.2.2.1 → su ≤ k.2.2.2.2.2.2.2 → vx_W p l e R s m args below meth c H locs cu su (vx_MQ below Qc XC args s k.2.2.2.2.2.2.1 k.2.2.2.2.2.2.2 A) (F0 m pc arr rest) q :=
      fun E N ad H locs q ce cu su arr rest g1 g2 g3 g4 g5 g6 g7 => vx_out (fun x hx => (hout x hx).elim) hlocks g3 g4 g5 (fun t ht ha => hPX E N ad H locs g1 g2 t ht ha) g2.2.2.1.2.2 g6 g7
    refine eg_close1 hx hb hts hown hK hfl hkc hd hz h (fun j hj e => ?_)
    subst e
    cases i with
    | arraylength => cases eg_szok1 hz rfl; exact eg_s_alen hx hb hK hd h
    | iaload => cases eg_szok1 hz rfl; exact eg_s_iaload hx hb hK hd h
    | laload => cases eg_szok1 hz rfl; exact eg_s_laload hx hb hK hd h
    | baload => cases eg_szok1 hz rfl; exact eg_s_baload hx hb hK hd h
    | aaload => cases eg_szok1 hz rfl; exact eg_s_aaload hx hb hK hd h
    | iastore => cases eg_szok1 hz rfl; exact eg_s_iastore hx hb hK hd h
    | lastore => cases eg_szok1 hz rfl; exact eg_s_lastore hx hb hK hd h
    | bastore => cases eg_szok1 hz rfl; exact eg_s_bastore hx hb hK hd h
    | tableswitch d lo hi offs => exact eg_s_switch hx hb hd h
    | invokevirtual j =>
      cases eg_szok1 hz rfl
      replace h := eg_need_out h
      have hj := Nat.blt_eq.mp h.1
      exact eg_s_call (i := .invokevirtual j) (j := j) (fun q hq e => by have g := (hck q hq).1 (by omega); rw [e] at g; exact g) hRc hRs hd hX h.2
    | invokestatic j =>
      cases eg_szok1 hz rfl
      replace h := eg_need_out h
      have hj := Nat.blt_eq.mp h.1
      exact eg_s_call (i := .invokestatic j) (j := j + 100000) (fun q hq e => by have g := (hck q hq).2.1 (by omega) (by omega); rw [e, Nat.add_sub_cancel] at g; exact g) hRc hRs hd hX h.2
    | invokespecial j =>
      cases eg_szok1 hz rfl
      replace h := eg_need_out h
      have hj := Nat.blt_eq.mp h.1
      exact eg_s_call (i := .invokespecial j) (j := j + 200000) (fun q hq e => by have g := ((hck q hq).2.2 (by omega)).1 (by omega); rw [e, Nat.add_sub_cancel] at g; exact g) hRc hRs hd hX h.2
    | newarray t =>
      cases eg_szok1 hz rfl
      replace h := eg_need_out h
      obtain ⟨ht, h⟩ := h
      cases t with
      | int => exact eg_s_callE (i := .newarray .int) (j := 300001) (fun q hq e => by have g := ((hck q hq).2.2 (by omega)).2 (by omega); rw [e] at g; exact g) hRc hRs hd h
      | long => exact eg_s_callE (i := .newarray .long) (j := 300002) (fun q hq e => by have g := ((hck q hq).2.2 (by omega)).2 (by omega); rw [e] at g; exact g) hRc hRs hd h
      | boolean => exact eg_s_callE (i := .newarray .boolean) (j := 300003) (fun q hq e => by have g := ((hck q hq).2.2 (by omega)).2 (by omega); rw [e] at g; exact g) hRc hRs hd h
      | _ => cases ht
    | anewarray j =>
      cases eg_szok1 hz rfl
      replace h := eg_need_out h
      have hj := Nat.blt_eq.mp h.1
      exact eg_s_callE (i := .anewarray j) (j := j + 310000) (fun q hq e => by have g := ((hck q hq).2.2 (by omega)).2 (by omega); rw [e, eg_ik_a hj] at g; exact g) hRc hRs hd h.2
    | multianewarray j d =>
      cases eg_szok1 hz rfl
      replace h := eg_need_out h
      have hj := h.1
      rw [Bool.and_eq_true] at hj
      have hj1 := Nat.blt_eq.mp hj.1
      have hj2 : d = 2 := Nat.eq_of_beq_eq_true hj.2
      subst hj2
      exact eg_s_callE (i := .multianewarray j 2) (j := j + 320000) (fun q hq e => by have g := ((hck q hq).2.2 (by omega)).2 (by omega); rw [e, eg_ik_m hj1] at g; exact g) hRc hRs hd h.2
    | aastore =>
      cases eg_szok1 hz rfl
      exact eg_s_callE (i := .aastore) (j := 330000) (fun q hq e => by have g := ((hck q hq).2.2 (by omega)).2 (by omega); rw [e] at g; exact g) hRc hRs hd h
    | new j =>
      cases eg_szok1 hz rfl
      dsimp only [eg_step] at h
      split at h
      · rename_i E hE
        replace h := eg_need_out h
        obtain ⟨h0, h⟩ := h
        simp only [Bool.and_eq_true] at h0
        have h9 := Nat.le_of_ble_eq_true h0.2
        have e9 : st = [] := List.eq_nil_of_length_eq_zero (by omega)
        subst e9
        exact hnk _ (eg_lq_in hE) pc cu su ls M (eg_lq_in hq) (Nat.le_of_ble_eq_true h0.1.1) (Nat.le_of_ble_eq_true h0.1.2) h
      · rename_i ci hE
        replace h := eg_need_out h
        obtain ⟨h0, h⟩ := h
        simp only [Bool.and_eq_true] at h0
        exact hnk _ (eg_lq_in hE) pc cu su ls st M (eg_lq_in hq) (Nat.le_trans (Nat.le_of_ble_eq_true h0.1) hRc) (Nat.le_trans (Nat.le_of_ble_eq_true h0.2) hRs) h
      · exact h.elim
    | ireturn => cases eg_szok1 hz rfl; exact eg_s_ret hx hb hlocks hrk hP (Or.inl rfl) hd h
    | lreturn => cases eg_szok1 hz rfl; exact eg_s_ret hx hb hlocks hrk hP (Or.inr (Or.inl rfl)) hd h
    | areturn => cases eg_szok1 hz rfl; exact eg_s_ret hx hb hlocks hrk hP (Or.inr (Or.inr (Or.inl rfl))) hd h
    | return_ => cases eg_szok1 hz rfl; exact eg_s_ret hx hb hlocks hrk hP (Or.inr (Or.inr (Or.inr rfl))) hd h
    | _ => cases hj
end EC2


/-! CONTRACTS -/
/-- what is known of the state beside the world (texts, the Throwable's statics): it stays -/
def eg_ExOk (Ex : (Nat → Prop) → State → Heap → Prop) : Prop :=
  (∀ (A : Nat → Prop) (s U : State) (H : Heap), s.WarmedH U.vm → Ex A s H → Ex A U H) ∧ (∀ (A : Nat → Prop) (U : State) (H H1 : Heap), Ex A U H → (∀ a : Nat, a < H.size → ¬ A a → H1[a]? = H[a]?) → Ex A U H1) ∧ (∀ (A B : Nat → Prop) (U : State) (H : Heap), (∀ q, B q → A q) → Ex A U H → Ex B U H)
def eg_Pc (w : eg_W) (D : va_G) (cl : List vw_C) (er : String) (aC : Nat → ClassId) (adK : Nat → Nat) (Ex : (Nat → Prop) → State → Heap → Prop) (ad : Nat → Nat) (argv : List Value) (M : eg_M) (sz : Nat) : Array Value → State → Prop :=
  va_Pc (argv.map (eg_cv ad adK)) (fun U => U.heap.size = sz ∧ va_P D cl (eg_ws w aC adK ad M) U.heap ∧ va_D (fun _ => True) (eg_ws w aC adK ad M) ∧ va_K D cl (eg_tys er aC) U ∧ Ex (va_A (eg_ws w aC adK ad M) sz) U U.heap)
/-- the world at a method's end -/
def eg_e (w : eg_W) (D : va_G) (cl : List vw_C) (aC : Nat → ClassId) (adK ad : Nat → Nat) (M : eg_M) (sz : Nat) (ad' : Nat → Nat) (N : eg_M) (st t : State) : Prop :=
  va_P D cl (eg_ws w aC adK ad' N) t.heap ∧ va_D (va_A (eg_ws w aC adK ad M) sz) (eg_ws w aC adK ad' N) ∧ eg_wf w N ∧ eg_x ad (eg_N w M) ad' (eg_N w N) ∧ va_F (va_A (eg_ws w aC adK ad M) sz) st t
def eg_Qc (w : eg_W) (D : va_G) (cl : List vw_C) (aC : Nat → ClassId) (adK ad : Nat → Nat) (M : eg_M) (Qp : eg_P) (sz : Nat) : Array Value → State → Outcome → State → Prop := fun _ st oc t =>
  ∃ (v : Option Value) (N : eg_M) (ad' : Nat → Nat), oc = .returned (v.map (eg_cv ad' adK)) ∧ Qp (.inl v) N ∧ (∀ u ∈ v.toList, eg_wv (eg_N w N) u) ∧ eg_e w D cl aC adK ad M sz ad' N st t
def eg_XC (w : eg_W) (D : va_G) (cl : List vw_C) (aC : Nat → ClassId) (adK ad : Nat → Nat) (M : eg_M) (Qp : eg_P) (sz : Nat) : String → State → State → Prop := fun E st t =>
  ∃ (N : eg_M) (ad' : Nat → Nat), Qp (.inr E) N ∧ eg_e w D cl aC adK ad M sz ad' N st t
/-- a method's contract -/
def eg_Met (l : Launch) (w : eg_W) (D : va_G) (cl : List vw_C) (er : String) (aC : Nat → ClassId) (adK : Nat → Nat) (Ex : (Nat → Prop) → State → Heap → Prop) (y : MethodName) (ws : List Cond) (rm : Room) (mc ms : Nat) (S : eg_S) : Prop :=
  ∀ (ad : Nat → Nat) (argv : List Value) (M : eg_M) (Qp : eg_P) (sz : Nat), S argv M Qp → eg_wf w M → (∀ v ∈ argv, eg_wv (eg_N w M) v) → vx_Met l y ws rm (eg_Pc w D cl er aC adK Ex ad argv M sz) (eg_Qc w D cl aC adK ad M Qp sz) (eg_XC w D cl aC adK ad M Qp sz) mc ms (va_A (eg_ws w aC adK ad M) sz)
theorem eg_Pc_blind {w : eg_W} {D : va_G} {cl : List vw_C} {er : String} {aC : Nat → ClassId} {adK : Nat → Nat} {Ex : (Nat → Prop) → State → Heap → Prop} (hE : eg_ExOk Ex) {ad : Nat → Nat} {argv : List Value} {M : eg_M} {sz : Nat} : FrameBlind (eg_Pc w D cl er aC adK Ex ad argv M sz) := by
  intro a U g mk q
  obtain ⟨q0, q1, q2, q3, q4, q5⟩ := q
  exact ⟨q0, q1, q2, q3, va_K.moved (u := U) (U := U.calling g mk a) (Vm.Alike.refl U.vm) q4, hE.1 _ U (U.calling g mk a) _ (State.WarmedH.refl U) q5⟩
theorem eg_x_trans {a b d : Nat → Nat} {N1 N2 N3 : Nat} (h1 : eg_x a N1 b N2) (h2 : eg_x b N2 d N3) : eg_x a N1 d N3 := ⟨fun q hq => by rw [h2.1 q (Nat.lt_of_lt_of_le hq h1.2)]; exact h1.1 q hq, Nat.le_trans h1.2 h2.2⟩
theorem eg_sum0 {ad adK : Nat → Nat} {rest : List Value} (hwt : eg_wt rest ≤ 8) : ((rest.map (eg_cv ad adK)).map fun v => v.category).sum ≤ 8 := by
  unfold eg_wt at hwt
  cases hb : Nat.ble rest.length 4 with
  | true =>
    rw [hb, cond_true] at hwt
    refine Nat.le_trans ?_ hwt
    clear hwt hb
    induction rest with
    | nil => exact Nat.le_refl _
    | cons a t ih =>
      simp only [List.map_cons, List.sum_cons, List.length_cons]
      have : (eg_cv ad adK a).category ≤ 2 := by rcases lv_cat (eg_cv ad adK a) with z | z <;> omega
      omega
  | false =>
    rw [hb, cond_false] at hwt
    refine Nat.le_trans ?_ hwt
    clear hwt hb
    induction rest with
    | nil => exact Nat.le_refl _
    | cons a t ih =>
      have h1 : eg_wc1 (a :: t) = a.category + eg_wc1 t := by cases a <;> rfl
      rw [h1]
      simp only [List.map_cons, List.sum_cons]
      rw [eg_cat_cv]
      omega
section EK
variable {p : Program} {l : Launch} {e : Env} {R : Room} {s : State} {m : MethodId} {args : Array Value} {below : List Frame} {meth : Method} {c : Code} {Q : State → Prop}
variable {cc : ByteArray} {own er : String} {Ts : List Cond} {w : eg_W} {D : va_G} {cl : List vw_C} {aC : Nat → ClassId} {adK : Nat → Nat} {A : Nat → Prop} {nL N0 : Nat} {ad0 : Nat → Nat} {Ex : (Nat → Prop) → State → Heap → Prop}
variable {y : MethodName} {bytes : ByteArray} {maxL n kc ks j ci : Nat} {ret : Option FieldType} {ws : List Cond} {rm : Room} {S : eg_S} {C : String}
theorem eg_free (hA : ∀ q, s.heap.size ≤ q → A q) {ad : Nat → Nat} {M : eg_M} {H : Heap} {locs : List Loc} (hH : eg_H w D cl aC adK A s.heap ad0 N0 ad M H locs) : ∀ q, va_A (eg_ws w aC adK ad M) H.size q → A q := by
  intro q h
  rcases h with ⟨i, x, h⟩ | h
  · exact hH.2.1.2 i (q, x) h
  · exact hA q (Nat.le_trans hH.2.2.1.1 h)
/-- behind a call -/
theorem eg_after (hA : ∀ q, s.heap.size ≤ q → A q) {ad ad' : Nat → Nat} {M N : eg_M} {H : Heap} {locs L : List Loc} (hH : eg_H w D cl aC adK A s.heap ad0 N0 ad M H locs) {st t T' : State} (h0 : st.heap = H) (e1 : T'.heap = t.heap) (hL : ∀ q ∈ L, va_A (eg_ws w aC adK ad M) H.size q.base) (he : eg_e w D cl aC adK ad M H.size ad' N st t) : eg_H w D cl aC adK A s.heap ad0 N0 ad' N T'.heap (locs ++ L) := by
  obtain ⟨h1, h2, h3, h4, h5⟩ := he
  have hf := eg_free hA hH
  obtain ⟨k1, k2, k3⟩ := vx_keep (A0 := A) (H0 := s.heap) (A1 := va_A (eg_ws w aC adK ad M) H.size) (free := va_A (eg_ws w aC adK ad M) H.size) h0 e1 hH.2.2.1 (fun q _ h => hf q h) hf hL h5
  exact ⟨by rw [e1]; exact h1, h2.weaken (fun _ q _ h => hf q.1 h), k3, h3, eg_x_trans hH.2.2.2.2 h4⟩
/-- what a callee asks of the state at its start -/
theorem eg_start (hK : va_K D cl (eg_tys er aC) s) (hE : eg_ExOk Ex) (hEx : Ex A s s.heap) (hA : ∀ q, s.heap.size ≤ q → A q) {ad : Nat → Nat} {M : eg_M} {argv : List Value} {H : Heap} {locs : List Loc} (hH : eg_H w D cl aC adK A s.heap ad0 N0 ad M H locs) {U : State} (hU : U.heap = H) (hW : s.WarmedH U.vm) : eg_Pc w D cl er aC adK Ex ad argv M H.size (argv.map (eg_cv ad adK)).toArray U := by
  refine ⟨rfl, by rw [hU], by rw [hU]; exact hH.1, hH.2.1.weaken (fun _ _ _ _ => trivial), va_K.moved hW.alike hK, ?_⟩
  rw [hU]
  exact hE.2.2 A _ U H (eg_free hA hH) (hE.1 A s U H hW (hE.2.1 A s s.heap H hEx hH.2.2.1.2.1))
theorem eg_CF_V (S0 : CallFix p m c cc nL s args Ts own) (hK : va_K D cl (eg_tys er aC) s) (hE : eg_ExOk Ex) (hEx : Ex A s s.heap) (hA : ∀ q, s.heap.size ≤ q → A q) (hM : eg_Met l w D cl er aC adK Ex y ws rm kc ks S) (cw : CallW R s args own C j y bytes maxL ret ws rm kc ks n) {q0 : vw_C} (hcl : cl[ci]? = some q0) (hC : q0.1 = C)
    (hrec : ∀ argv M Qp, S argv M Qp → ∃ p0 As, argv = .ref p0 :: As ∧ eg_isO w M p0 ci = true) : eg_CF p l e R s m args below meth c Q w D cl aC adK A nL ad0 N0 cc (.invokevirtual j) (n + 1) kc ks S := by
  intro pc cu su ls rest argv M Qp hd hn hwt hc hs hS ad H locs arr hH hL hav hrv kk kx
  obtain ⟨p0, As, rfl, ho⟩ := hrec argv M Qp hS
  have hmet := hM ad _ M Qp H.size hS hH.2.2.2.1 hav
  have hrc : ∃ cellB : Cell, H[ad p0]? = some cellB ∧ cellB.vm.isStatics = false ∧ s.vm.findClass C = some cellB.cls := by
    rw [← hC]
    exact va_recv hK hH.1 hcl (eg_obj_at ho)
  have hsum := eg_sum0 (ad := ad) (adK := adK) hwt
  have run := vx_runV (As := As.map (eg_cv ad adK)) (rest := rest.map (eg_cv ad adK)) (e := e) (below := below) (meth := meth) (H := H) (locs := locs) (cells := cu) (slots := su) (g := F0 m pc arr (((Value.ref p0 :: As).reverse ++ rest).map (eg_cv ad adK))) S0 hmet cw ⟨eg_Pc_blind hE, hrc, fun U hU hW => eg_start hK hE hEx hA hH hU hW⟩ rfl (by rw [List.length_map]; simpa using hn) hL.1 (by simp [eg_cv]) (lv_room hsum) hd ⟨hc, hs⟩
  intro T hT X
  rcases run T hT X with ⟨v, st₀, t, T', L, h0, X', hLL, e1, e2, ⟨v', N, ad', hv, hQ, hvv, he⟩, st⟩ | ⟨q, st₀, t, T', L, E, ce, h0, X', hLL, e1, e2, ⟨N, ad', hQ, he⟩, hce, hcv, hcls, st⟩
  · cases hv
    have hx' := he.2.2.2.1
    obtain ⟨t2, a1, b1⟩ := kk v' N ad' T'.heap (locs ++ L) hQ (eg_after hA hH h0 e1 hLL he) hx' hvv T' rfl X'
    refine ⟨t2, st t2 ?_, b1⟩
    have e9 : (Option.map (eg_cv ad' adK) v').toList ++ rest.map (eg_cv ad adK) = (v'.toList ++ rest).map (eg_cv ad' adK) := by
      rw [List.map_append]
      congr 1
      · cases v' <;> rfl
      · exact List.map_congr_left (fun u hu => (eg_cv_x hx' (hrv u hu)).symm)
    rw [e9]
    exact a1
  · have hx' := he.2.2.2.1
    obtain ⟨t2, a1, b1⟩ := kx E N ad' T'.heap (locs ++ L) q ce hQ (eg_after hA hH h0 e1 hLL he) (by rw [e1]; exact hce) hcv hcls T' rfl X'
    refine ⟨t2, st.trans ?_, b1⟩
    have e9 : rest.map (eg_cv ad adK) = rest.map (eg_cv ad' adK) := List.map_congr_left (fun u hu => (eg_cv_x hx' (hrv u hu)).symm)
    rw [e9]
    exact a1
theorem eg_CF_S (S0 : CallFix p m c cc nL s args Ts own) (hK : va_K D cl (eg_tys er aC) s) (hE : eg_ExOk Ex) (hEx : Ex A s s.heap) (hA : ∀ q, s.heap.size ≤ q → A q) (hM : eg_Met l w D cl er aC adK Ex y ws rm kc ks S) (cw : CallB R s args own j y bytes maxL ret ws rm kc ks n ∧ (Cond.static y).before args s = true) : eg_CF p l e R s m args below meth c Q w D cl aC adK A nL ad0 N0 cc (.invokestatic j) n kc ks S := by
  intro pc cu su ls rest argv M Qp hd hn hwt hc hs hS ad H locs arr hH hL hav hrv kk kx
  have hmet := hM ad _ M Qp H.size hS hH.2.2.2.1 hav
  have hsum := eg_sum0 (ad := ad) (adK := adK) hwt
  have run := vx_runS (As := argv.map (eg_cv ad adK)) (rest := rest.map (eg_cv ad adK)) (e := e) (below := below) (meth := meth) (H := H) (locs := locs) (cells := cu) (slots := su) (g := F0 m pc arr ((argv.reverse ++ rest).map (eg_cv ad adK))) S0 hmet cw ⟨eg_Pc_blind hE, fun U hU hW => eg_start hK hE hEx hA hH hU hW⟩ rfl (by rw [List.length_map]; exact hn) hL.1 (by simp) (lv_room hsum) hd ⟨hc, hs⟩
  intro T hT X
  rcases run T hT X with ⟨v, st₀, t, T', L, h0, X', hLL, e1, e2, ⟨v', N, ad', hv, hQ, hvv, he⟩, st⟩ | ⟨q, st₀, t, T', L, E, ce, h0, X', hLL, e1, e2, ⟨N, ad', hQ, he⟩, hce, hcv, hcls, st⟩
  · cases hv
    have hx' := he.2.2.2.1
    obtain ⟨t2, a1, b1⟩ := kk v' N ad' T'.heap (locs ++ L) hQ (eg_after hA hH h0 e1 hLL he) hx' hvv T' rfl X'
    refine ⟨t2, st t2 ?_, b1⟩
    have e9 : (Option.map (eg_cv ad' adK) v').toList ++ rest.map (eg_cv ad adK) = (v'.toList ++ rest).map (eg_cv ad' adK) := by
      rw [List.map_append]
      congr 1
      · cases v' <;> rfl
      · exact List.map_congr_left (fun u hu => (eg_cv_x hx' (hrv u hu)).symm)
    rw [e9]
    exact a1
  · have hx' := he.2.2.2.1
    obtain ⟨t2, a1, b1⟩ := kx E N ad' T'.heap (locs ++ L) q ce hQ (eg_after hA hH h0 e1 hLL he) (by rw [e1]; exact hce) hcv hcls T' rfl X'
    refine ⟨t2, st.trans ?_, b1⟩
    have e9 : rest.map (eg_cv ad adK) = rest.map (eg_cv ad' adK) := List.map_congr_left (fun u hu => (eg_cv_x hx' (hrv u hu)).symm)
    rw [e9]
    exact a1
/-- a contract that never throws, as the kit has it -/
theorem eg_Met.plain (hM : eg_Met l w D cl er aC adK Ex y ws rm kc ks S) (hnt : ∀ argv M Qp, S argv M Qp → S argv M (fun r N => match r with
    | .inl v => Qp (.inl v) N
    | .inr _ => False)) {ad : Nat → Nat} {argv : List Value} {M : eg_M} {Qp : eg_P} {sz : Nat} (hS : S argv M Qp) (hw : eg_wf w M) (hv : ∀ v ∈ argv, eg_wv (eg_N w M) v) : Met l y ws rm (eg_Pc w D cl er aC adK Ex ad argv M sz) (eg_Qc w D cl aC adK ad M Qp sz) kc ks (va_A (eg_ws w aC adK ad M) sz) := by
  intro p e ha hc hk s m args below hf happ hP hT
  obtain ⟨k, o, h1, h2, h3, h4⟩ := hM ad argv M _ sz (hnt _ _ _ hS) hw hv p e ha hc hk s m args below hf happ hP hT
  refine ⟨k, o, h1, h2, h3, ?_⟩
  rcases h4 with ⟨⟨v, N, ad', g1, g2, g3⟩, g4⟩ | ⟨q, g1, E, ce, L, ⟨N, ad', g2, g3⟩, g4⟩
  · exact ⟨⟨v, N, ad', g1, g2, g3⟩, g4⟩
  · exact g2.elim
theorem eg_CF_I (S0 : CallFix p m c cc nL s args Ts own) (hK : va_K D cl (eg_tys er aC) s) (hE : eg_ExOk Ex) (hEx : Ex A s s.heap) (hA : ∀ q, s.heap.size ≤ q → A q) (hM : eg_Met l w D cl er aC adK Ex y ws rm kc ks S) (hnt : ∀ argv M Qp, S argv M Qp → S argv M (fun r N => match r with
    | .inl v => Qp (.inl v) N
    | .inr _ => False)) (cw : CallB R s args own j y bytes maxL none ws rm kc ks n ∧ y.name = "<init>" ∧ (Cond.instanceMethod y).before args s = true)
    (hrec : ∀ argv M Qp, S argv M Qp → ∃ p0 As, argv = .ref p0 :: As) : eg_CF p l e R s m args below meth c Q w D cl aC adK A nL ad0 N0 cc (.invokespecial j) (n + 1) kc ks S := by
  intro pc cu su ls rest argv M Qp hd hn hwt hc hs hS ad H locs arr hH hL hav hrv kk kx
  obtain ⟨p0, As, rfl⟩ := hrec argv M Qp hS
  have hmet := hM.plain hnt (ad := ad) (sz := H.size) hS hH.2.2.2.1 hav
  have hsum := eg_sum0 (ad := ad) (adK := adK) hwt
  have run := va_runI (As := As.map (eg_cv ad adK)) (rest := rest.map (eg_cv ad adK)) (b := ad p0) (e := e) (below := below) (meth := meth) (H := H) (locs := locs) (cells := cu) (slots := su) (g := F0 m pc arr (((Value.ref p0 :: As).reverse ++ rest).map (eg_cv ad adK))) S0 hmet cw ⟨eg_Pc_blind hE, fun U hU hW => eg_start hK hE hEx hA hH hU hW⟩ rfl (by rw [List.length_map]; simpa using hn) hL.1 (by simp [eg_cv]) (lv_room hsum) hd ⟨hc, hs⟩
  intro T hT X
  obtain ⟨v, st₀, t, T', L, h0, X', hLL, e1, e2, ⟨v', N, ad', hv, hQ, hvv, he⟩, st⟩ := run T hT X
  cases hv
  have hx' := he.2.2.2.1
  obtain ⟨t2, a1, b1⟩ := kk v' N ad' T'.heap (locs ++ L) hQ (eg_after hA hH h0 e1 hLL he) hx' hvv T' rfl X'
  refine ⟨t2, st t2 ?_, b1⟩
  have e9 : (Option.map (eg_cv ad' adK) v').toList ++ rest.map (eg_cv ad adK) = (v'.toList ++ rest).map (eg_cv ad' adK) := by
    rw [List.map_append]
    congr 1
    · cases v' <;> rfl
    · exact List.map_congr_left (fun u hu => (eg_cv_x hx' (hrv u hu)).symm)
  rw [e9]
  exact a1
theorem eg_sum {ad : Nat → Nat} {rest : List Value} (hwt : eg_wt rest ≤ 8) : ((rest.map (eg_cv ad adK)).map fun v => v.category).sum ≤ 8 := eg_sum0 hwt
def eg_So : eg_S := fun argv M Qp => match argv with
  | [.ref _] => Qp (.inl none) M
  | _ => False
/-- Object() -/
theorem eg_CF_O (S0 : CallFix p m c cc nL s args Ts own) (hl : (Cond.methodLink own j Lib.objectInit).before args s = true) (hi : (Cond.instanceMethod Lib.objectInit).before args s = true) (ho : (Cond.code Lib.objectInit ⟨#[0xb1]⟩ 1 none).before args s = true) (hF : 1 ≤ R.frames) (hR : 20 ≤ R.locals) : eg_CF p l e R s m args below meth c Q w D cl aC adK A nL ad0 N0 cc (.invokespecial j) 1 0 0 eg_So := by
  intro pc cu su ls rest argv M Qp hd hn hwt hc hs hS ad H locs arr hH hL hav hrv kk kx
  unfold eg_So at hS
  split at hS
  · rename_i p0
    obtain ⟨hx, hb, hml, hown, hts⟩ := S0
    have hsum := eg_sum (ad := ad) (adK := adK) hwt
    refine W.objInit (g := F0 m pc arr (([Value.ref p0].reverse ++ rest).map (eg_cv ad adK))) hx hb hown hl hi ho rfl (hL.1.trans hml.symm) (a := ad p0) (rest := rest.map (eg_cv ad adK)) rfl hd hF (by have := lv_room (m := m) (pc := pc) (ls := arr) (rest := ([Value.ref p0].reverse ++ rest).map (eg_cv ad adK)) hsum; omega) ?_
    exact kk none M ad H locs hS hH ⟨fun _ _ => rfl, Nat.le_refl _⟩ (fun u hu => by cases hu)
  · exact hS.elim
end EK

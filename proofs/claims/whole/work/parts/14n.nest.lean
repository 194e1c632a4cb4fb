/-! calls of a nest mate's private members; System.arraycopy of ints -/
section NST
variable {p : Program} {l : Launch} {e : Env} {R : Room} {s : State} {m : MethodId} {args : Array Value} {below : List Frame} {meth : Method} {c : Code} {Q : State → Prop}
variable {cc : ByteArray} {own er host : String} {Ts : List Cond} {w : eg_W} {D : va_G} {cl : List vw_C} {aC : Nat → ClassId} {adK : Nat → Nat} {A : Nat → Prop} {nL N0 : Nat} {ad0 : Nat → Nat} {Ex : (Nat → Prop) → State → Heap → Prop}
variable {y : MethodName} {bytes : ByteArray} {maxL n kc ks j : Nat} {ret : Option FieldType} {ws : List Cond} {rm : Room} {S : eg_S}
theorem eg_CF_SN (S0 : CallFix p m c cc nL s args Ts own) (hK : va_K D cl (eg_tys er aC) s) (hE : eg_ExOk Ex) (hEx : Ex A s s.heap) (hA : ∀ q, s.heap.size ≤ q → A q) (hM : eg_Met l w D cl er aC adK Ex y ws rm kc ks S) (hnt : ∀ argv M Qp, S argv M Qp → S argv M (fun r N => match r with
    | .inl v => Qp (.inl v) N
    | .inr _ => False)) (cw : va_CN R s args own j y host bytes maxL ret ws rm kc ks n ∧ (Cond.static y).before args s = true ∧ True) : eg_CF p l e R s m args below meth c Q w D cl aC adK A nL ad0 N0 cc (.invokestatic j) n kc ks S := by
  intro pc cu su ls rest argv M Qp hd hn hwt hc hs hS ad H locs arr hH hL hav hrv kk kx
  have hmet := hM.plain hnt (ad := ad) (sz := H.size) hS hH.2.2.2.1 hav
  have hsum := eg_sum (ad := ad) (adK := adK) hwt
  have run := va_runSN (As := argv.map (eg_cv ad adK)) (rest := rest.map (eg_cv ad adK)) (e := e) (below := below) (meth := meth) (H := H) (locs := locs) (cells := cu) (slots := su) (g := F0 m pc arr ((argv.reverse ++ rest).map (eg_cv ad adK))) S0 hmet cw ⟨eg_Pc_blind hE, fun U hU hW => eg_start hK hE hEx hA hH hU hW⟩ rfl (by rw [List.length_map]; exact hn) hL.1 (by simp) (lv_room hsum) hd ⟨hc, hs⟩
  intro T hT X
  obtain ⟨v, st₀, t, T', L, h0, X', hLL, e1, e2, ⟨v', N, ad', hv, hQ, hvv, he⟩, st⟩ := run T hT X
  cases hv
  have hx' := he.2.2.2.1
  obtain ⟨t2, a1, b1⟩ := kk v' N ad' T'.heap (locs ++ L) hQ (eg_after hA hH h0 e1 hLL he) hx' hvv T' rfl X'
  refine ⟨t2, st t2 ?_, b1⟩
  have e9 : (Option.map (eg_cv ad' adK) v').toList ++ rest.map (eg_cv ad adK) = (v'.toList ++ rest).map (eg_cv ad' adK) := by
    rw [List.map_append]
    congr 1
    · cases v' <;> rfl
    · exact List.map_congr_left (fun u hu => (eg_cv_x hx' (hrv u hu)).symm)
  rw [e9]
  exact a1
theorem eg_CF_IN (S0 : CallFix p m c cc nL s args Ts own) (hK : va_K D cl (eg_tys er aC) s) (hE : eg_ExOk Ex) (hEx : Ex A s s.heap) (hA : ∀ q, s.heap.size ≤ q → A q) (hM : eg_Met l w D cl er aC adK Ex y ws rm kc ks S) (hnt : ∀ argv M Qp, S argv M Qp → S argv M (fun r N => match r with
    | .inl v => Qp (.inl v) N
    | .inr _ => False)) (cw : va_CN R s args own j y host bytes maxL none ws rm kc ks n ∧ y.name = "<init>" ∧ (Cond.instanceMethod y).before args s = true)
    (hrec : ∀ argv M Qp, S argv M Qp → ∃ p0 As, argv = .ref p0 :: As) : eg_CF p l e R s m args below meth c Q w D cl aC adK A nL ad0 N0 cc (.invokespecial j) (n + 1) kc ks S := by
  intro pc cu su ls rest argv M Qp hd hn hwt hc hs hS ad H locs arr hH hL hav hrv kk kx
  obtain ⟨p0, As, rfl⟩ := hrec argv M Qp hS
  have hmet := hM.plain hnt (ad := ad) (sz := H.size) hS hH.2.2.2.1 hav
  have hsum := eg_sum (ad := ad) (adK := adK) hwt
  have run := va_runIN (As := As.map (eg_cv ad adK)) (rest := rest.map (eg_cv ad adK)) (b := ad p0) (e := e) (below := below) (meth := meth) (H := H) (locs := locs) (cells := cu) (slots := su) (g := F0 m pc arr (((Value.ref p0 :: As).reverse ++ rest).map (eg_cv ad adK))) S0 hmet cw ⟨eg_Pc_blind hE, fun U hU hW => eg_start hK hE hEx hA hH hU hW⟩ rfl (by rw [List.length_map]; simpa using hn) hL.1 (by simp [eg_cv]) (lv_room hsum) hd ⟨hc, hs⟩
  intro T hT X
  obtain ⟨v, st₀, t, T', L, h0, X', hLL, e1, e2, ⟨v', N, ad', hv, hQ, hvv, he⟩, st⟩ := run T hT X
  cases hv
  have hx' := he.2.2.2.1
  obtain ⟨t2, a1, b1⟩ := kk v' N ad' T'.heap (locs ++ L) hQ (eg_after hA hH h0 e1 hLL he) hx' hvv T' rfl X'
  refine ⟨t2, st t2 ?_, b1⟩
  have e9 : (Option.map (eg_cv ad' adK) v').toList ++ rest.map (eg_cv ad adK) = (v'.toList ++ rest).map (eg_cv ad' adK) := by
    rw [List.map_append]
    congr 1
    · cases v' <;> rfl
    · exact List.map_congr_left (fun u hu => (eg_cv_x hx' (hrv u hu)).symm)
  rw [e9]
  exact a1
end NST
section NSM
variable {g : gl_T} {p : Program} {e : Env} {R : Room} {s : State} {m : MethodId} {args : Array Value} {below : List Frame} {meth : Method} {c : Code} {Q : State → Prop} {A : Nat → Prop} {nL N0 : Nat} {ad0 : Nat → Nat} {cc : ByteArray} {own : String} {x : Cond}
variable {y : MethodName} {bytes : ByteArray} {maxL n kc ks j ci : Nat} {ret : Option FieldType} {rm : Room} {S : eg_S} {C : String}
theorem mt_SN (hl : g.1.stackTraces = false) (S0 : CallFix p m c cc nL s args (x :: GT) own) (hK : va_K g.2.1 vwCl (eg_tys RX8 g.2.2.1) s) (hEx : wx g.2.2.2.1 g.2.2.2.2 A s s.heap) (hA : ∀ q, s.heap.size ≤ q → A q) (hM : MT g y bytes maxL ret rm kc ks S)
    (hnt : ∀ argv M Qp, S argv M Qp → S argv M (fun r N => match r with
    | .inl v => Qp (.inl v) N
    | .inr _ => False)) (h1 : (own, j, y) ∈ tx_nst) (h2 : Cond.static y ∈ GT) (h4 : Cond.initialized C ∈ GT) (h5 : Cond.code y bytes maxL ret ∈ GT) (hd : y.cls = C ∧ y.cls ≠ "java/lang/invoke/MethodHandle" ∧ y.cls ≠ "java/lang/invoke/VarHandle" ∧ (parseMethodDescriptor y.desc).map (fun d => d.parameters.length) = some n)
    (hr : rm.cells = kc ∧ rm.slots = ks) (hR : rm.frames + 1 ≤ R.frames ∧ 8 + (maxL + 11) + rm.locals ≤ R.locals) (hj : j < 100000) :
    eg_CK p g.1 e R s m args below meth c Q wd g.2.1 vwCl g.2.2.1 g.2.2.2.1 A nL ad0 N0 cc (j + 100000, n, kc, ks, S) := by
  refine ⟨fun z => absurd z (show ¬ j + 100000 < 100000 by omega), fun _ _ => ?_, fun z => absurd z (show ¬ 200000 ≤ j + 100000 by omega)⟩
  show eg_CF _ _ _ _ _ _ _ _ _ _ _ _ _ _ _ _ _ _ _ _ _ (.invokestatic (j + 100000 - 100000)) n kc ks S
  rw [Nat.add_sub_cancel]
  have hts := S0.2.2.2.2
  obtain ⟨hC, hd⟩ := hd
  exact eg_CF_SN S0 hK (wx_ok _ _) hEx hA (hM hl) hnt ⟨va_cnB n hts (gt_goodIn h5) rfl hr.1 hr.2 (hEx.2.2.2.2.2.2.2 _ h1) (hts _ (List.mem_cons_of_mem _ (by rw [hC]; exact h4))) hd hR, hts _ (List.mem_cons_of_mem _ h2), trivial⟩
/-- a whole row of ints -/
def eg_rw (M : eg_M) (p : Nat) (f : Nat → Int32) : eg_M := (M.1, (fun q => if q = p then f else M.2.1 q), M.2.2)
theorem eg_ws_rw {w : eg_W} {aC : Nat → ClassId} {adK ad : Nat → Nat} {M : eg_M} {p0 : Nat} {f : Nat → Int32} (hk : (eg_sh w M p0).1 = 1) : eg_ws w aC adK ad (eg_rw M p0 f) = (eg_ws w aC adK ad M).set p0 (ad p0, .inl (aC 1, (eg_sh w M p0).2.1, .inl f)) := by
  refine eg_ws_set (M := M) (N := eg_rw M p0 f) rfl (fun q hq => eg_ent_of (M := M) rfl (if_neg hq) rfl rfl) ?_
  have hs : eg_sh w (eg_rw M p0 f) p0 = eg_sh w M p0 := eg_sh_of rfl p0
  have hu : (eg_rw M p0 f).2.1 p0 = f := if_pos rfl
  unfold eg_ent
  rw [hs, hu, hk]
  rfl
/-- System.arraycopy of ints -/
def s_acp : eg_S := fun argv M Qp => match argv with
  | [.ref a, .int i, .ref b, .int k, .int n] => (eg_is wd M a 1 = true ∧ eg_is wd M b 1 = true ∧ ¬ i < 0 ∧ ¬ k < 0 ∧ ¬ n < 0 ∧ i.toNatClampNeg + n.toNatClampNeg ≤ eg_len wd M a ∧ k.toNatClampNeg + n.toNatClampNeg ≤ eg_len wd M b) ∧ Qp (.inl none) (eg_rw M b (va_cpy (M.2.1 a) (M.2.1 b) i.toNatClampNeg k.toNatClampNeg n.toNatClampNeg))
  | _ => False
theorem mo_acp : eg_mono s_acp := by
  intro argv M Q Q' h
  unfold s_acp
  split
  · exact fun z => ⟨z.1, h _ _ z.2⟩
  · exact id
theorem l_acp1 : Cond.initialized "java/lang/System" ∈ GT := gt_at 25 gt_1 rfl rfl
theorem l_acp2 : Cond.static arraycopyName ∈ GT := gt_at 192 gt_3 rfl rfl
theorem l_acp3 : Cond.native arraycopyName ∈ GT := gt_at 193 gt_3 rfl rfl
theorem l_acp4 : Cond.methodLink RX6 60 arraycopyName ∈ GT := gt_at 191 gt_3 rfl rfl
theorem l_acp5 : Cond.methodLink "java/util/Arrays" 150 arraycopyName ∈ GT := gt_at 98 gt_5 rfl rfl
theorem mt_acp (S0 : CallFix p m c cc nL s args (x :: GT) own) (hK : va_K g.2.1 vwCl (eg_tys RX8 g.2.2.1) s) (h1 : Cond.methodLink own j arraycopyName ∈ GT) (hF : 1 ≤ R.frames) (hR : 30 ≤ R.locals) (hj : j < 100000) : eg_CK p g.1 e R s m args below meth c Q wd g.2.1 vwCl g.2.2.1 g.2.2.2.1 A nL ad0 N0 cc (j + 100000, 5, 0, 0, s_acp) := by
  refine ⟨fun z => absurd z (show ¬ j + 100000 < 100000 by omega), fun _ _ => ?_, fun z => absurd z (show ¬ 200000 ≤ j + 100000 by omega)⟩
  show eg_CF _ _ _ _ _ _ _ _ _ _ _ _ _ _ _ _ _ _ _ _ _ (.invokestatic (j + 100000 - 100000)) 5 0 0 s_acp
  rw [Nat.add_sub_cancel]
  intro pc cu su ls rest argv M Qp hd hn hwt hc hs hS ad H locs arr hH hL hav hrv kk kx
  unfold s_acp at hS
  split at hS
  · rename_i a i b k n
    obtain ⟨⟨k1, k2, k3, k4, k5, k6, k7⟩, hS⟩ := hS
    obtain ⟨hx, hb, hml, hown, hts⟩ := S0
    have hsum := eg_sum (ad := ad) (adK := g.2.2.2.1) hwt
    have hnf : nativeFrameWords "java/lang/System" "arraycopy" 5 = 7 := by decide
    have ka := eg_is_out k1
    have kb := eg_is_out k2
    have hw : ∀ u, Cond.native u ∈ GT → (Cond.native u).before args s = true := fun u h => hts _ (List.mem_cons_of_mem _ h)
    refine va_copyi (rest := rest.map (eg_cv ad g.2.2.2.1)) hx hb (hml.trans hL.1.symm) hown (hts _ (List.mem_cons_of_mem _ h1)) (hw _ l_acp3) (hts _ (List.mem_cons_of_mem _ l_acp2)) (hts _ (List.mem_cons_of_mem _ l_acp1)) hK hH.1 hH.2.1 hH.2.2.1 a b 0 0 (by rw [eg_ws_get (eg_lt_of ka (by omega)), eg_ent_i ka]) (by rw [eg_ws_get (eg_lt_of kb (by omega)), eg_ent_i kb]) rfl rfl rfl k3 k4 k5 k6 k7 (fun _ _ => rfl) hF (by rw [hnf]; omega) hd (fun H1 locs1 g1 g2 g3 => ?_)
    have hws := eg_ws_rw (aC := g.2.2.1) (adK := g.2.2.2.1) (ad := ad) (f := va_cpy (M.2.1 a) (M.2.1 b) i.toNatClampNeg k.toNatClampNeg n.toNatClampNeg) kb
    refine kk none (eg_rw M b (va_cpy (M.2.1 a) (M.2.1 b) i.toNatClampNeg k.toNatClampNeg n.toNatClampNeg)) ad H1 locs1 hS ⟨?_, ?_, g3, hH.2.2.2.1, hH.2.2.2.2⟩ ⟨fun _ _ => rfl, Nat.le_refl _⟩ (fun u hu => by cases hu)
    · rw [hws]; exact g1
    · rw [hws]; exact g2
  · exact hS.elim
end NSM

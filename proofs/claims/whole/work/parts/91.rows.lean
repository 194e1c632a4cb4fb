/-! ROWS OF REFERENCES THAT ARE MADE -/
section ER
variable {p : Program} {l : Launch} {e : Env} {R : Room} {s : State} {m : MethodId} {args : Array Value} {below : List Frame} {meth : Method} {c : Code} {Q : State → Prop}
variable {cc : ByteArray} {own er : String} {Ts : List Cond} {w : eg_W} {D : va_G} {cl : List vw_C} {aC : Nat → ClassId} {adK : Nat → Nat} {A : Nat → Prop} {nL N0 : Nat} {ad0 : Nat → Nat}
theorem eg_ea_new {M : eg_M} {ad' : Nat → Nat} {kd n : Nat} (h : kd = 4 ∨ kd = 5) : eg_ea w adK ad' (eg_new w M (kd, n, [])) (eg_N w M) = fun _ => none := by
  funext i
  have h3 : eg_gr (eg_new w M (kd, n, [])) (eg_N w M) i = none := by
    unfold eg_gr
    rw [eg_new_e.2.2]
  have h4 : eg_ref (eg_sh w (eg_new w M (kd, n, [])) (eg_N w M)) (eg_new w M (kd, n, [])) (eg_N w M) i = none := by
    unfold eg_ref eg_gr
    rw [eg_sh_new_eq, eg_new_e.2.2]
    rfl
  unfold eg_ea
  rw [h4, h3, eg_sh_new_eq]
  rcases h with z | z
  · rw [z]
    rfl
  · rw [z]
    rfl
theorem eg_CE_anew (S0 : CallFix p m c cc nL s args Ts own) (hK : va_K D cl (eg_tys er aC) s) (hA : ∀ q, s.heap.size ≤ q → A q) {C : String} {j kd ks : Nat} (hlink : (Cond.classLink own j C).before args s = true) (hover : va_AO C s) (hkd : (kd = 4 ∧ C = er) ∨ (kd = 5 ∧ C = "java/lang/String")) : eg_CE p l e R s m args below meth c Q w D cl aC adK A nL ad0 N0 cc (.anewarray j) 3 1 1 ks (s_newa w kd ks) := by
  intro pc cu su ls rest argv M Qp hd hn hc hs hS ad H locs arr hH hL hav hrv kk
  unfold s_newa at hS
  split at hS
  · rename_i x
    obtain ⟨⟨h0, h1, h2⟩, hS⟩ := hS
    obtain ⟨hx, hb, hml, hown, hts⟩ := S0
    refine va_newq (own := own) (C := C) (rest := rest.map (eg_cv ad adK)) hx hb hown hlink hover hK hH.1 hH.2.1 hH.2.2.1 hA h0 rfl (by omega) (by omega) (by omega) hd (fun q cA H1 k1 k2 k3 k4 => ?_)
    obtain ⟨_, _, _, _, _, f1⟩ := (k1.2 7 (cA, .object C) rfl).2
    have e1 : cA = aC kd := by
      rcases hkd with ⟨z, y⟩ | ⟨z, y⟩
      · subst z y
        obtain ⟨_, _, _, _, _, f2⟩ := (hK.2 3 (aC 4, .object C) rfl).2
        exact Option.some.inj (f1.symm.trans f2)
      · subst z y
        obtain ⟨_, _, _, _, _, f2⟩ := (hK.2 4 (aC 5, .object "java/lang/String") rfl).2
        exact Option.some.inj (f1.symm.trans f2)
    subst e1
    have h45 : kd = 4 ∨ kd = 5 := hkd.elim (fun z => Or.inl z.1) (fun z => Or.inr z.1)
    have hH1 := eg_H_new (x := (kd, x.toNatClampNeg, [])) (q := q) hH (show kd ≤ 5 by omega) rfl (by
      rw [eg_ent_q (k := kd) (by rw [eg_sh_new_eq]) (by omega), eg_ea_new h45]
      unfold eg_len
      rw [eg_sh_new_eq]) k2 k3 k4
    have hx1 : eg_x ad (eg_N w M) (eg_ad ad (eg_N w M) q) (eg_N w (eg_new w M (kd, x.toNatClampNeg, []))) := by
      rw [eg_N_new]
      exact eg_ad_x _ _ _
    have := kk (some (.ref (eg_N w M))) _ (eg_ad ad (eg_N w M) q) H1 locs hS hH1 hx1 (fun u hu => by
      cases List.mem_singleton.mp hu
      show eg_N w M < _
      rw [eg_N_new]
      omega)
    rw [eg_rst hx1 hrv] at this
    exact W.widen (by omega) (by omega) this
  · exact hS.elim
/-- a text into a row of texts -/
def s_ast5 (w : eg_W) : eg_S := fun argv M Qp => match argv with
  | [.ref a, .int i, .retAddr t] => (eg_is w M a 5 = true ∧ (eg_sh w M a).2.2 = [] ∧ vp_in i (eg_len w M a) ∧ t < 32) ∧ Qp (.inl none) (eg_sr M a i.toNatClampNeg (some t))
  | _ => False
theorem mo_ast5 (w : eg_W) : eg_mono (s_ast5 w) := by
  intro argv M Q Q' h
  unfold s_ast5
  split
  · exact fun z => ⟨z.1, h _ _ z.2⟩
  · exact id
theorem eg_CE_ast5 (S0 : CallFix p m c cc nL s args Ts own) (hK : va_K D cl (eg_tys er aC) s) (hany : ∀ (ad : Nat → Nat) (M : eg_M) (H : Heap) (locs : List Loc), eg_H w D cl aC adK A s.heap ad0 N0 ad M H locs → ∀ t, t < 32 → va_Any "java/lang/String" s H (adK t)) : eg_CE p l e R s m args below meth c Q w D cl aC adK A nL ad0 N0 cc .aastore 1 3 0 0 (s_ast5 w) := by
  intro pc cu su ls rest argv M Qp hd hn hc hs hS ad H locs arr hH hL hav hrv kk
  unfold s_ast5 at hS
  split at hS
  · rename_i a i t
    obtain ⟨⟨k1, k2, k3, k4⟩, hS⟩ := hS
    obtain ⟨hx, hb, hml, hown, hts⟩ := S0
    have ka := eg_is_out k1
    refine va_astqM (rest := rest.map (eg_cv ad adK)) hx hb hK hH.1 hH.2.1 hH.2.2.1 a 4 (v := adK t) (by rw [eg_ws_get (eg_lt_of ka (by omega)), eg_ent_q ka (by omega)]) rfl (hany ad M H locs hH t k4) k3 hd (fun H1 locs1 g1 g2 g3 => ?_)
    have hws : eg_ws w aC adK ad (eg_sr M a i.toNatClampNeg (some t)) = (eg_ws w aC adK ad M).set a (ad a, .inl (aC 5, eg_len w M a, .inr (.inr (.inr (.inr (va_up (eg_ea w adK ad M a) i.toNatClampNeg (some (adK t)))))))) := by
      refine eg_ws_set (M := M) (N := eg_sr M a i.toNatClampNeg (some t)) rfl (fun q hq => eg_ent_of (M := M) rfl rfl rfl (eg_up_ne hq)) ?_
      rw [eg_ent_q (M := eg_sr M a i.toNatClampNeg (some t)) ka (by omega)]
      refine congrArg (fun z => Sum.inl (aC 5, eg_len w M a, Sum.inr (Sum.inr (Sum.inr (Sum.inr z))))) (funext (fun j => ?_))
      have e1 : ∀ X : eg_M, X.1 = M.1 → eg_ea w adK ad X a j = (eg_gr X a j).map adK := fun X hX => by
        unfold eg_ea
        rw [eg_sh_of hX, ka]
        show (eg_ref (eg_sh w M a) X a j).map adK = _
        unfold eg_ref
        rw [k2]
        rfl
      rw [e1 (eg_sr M a i.toNatClampNeg (some t)) rfl, eg_gr_sr]
      unfold va_up
      by_cases hj : j = i.toNatClampNeg
      · rw [if_pos ⟨rfl, hj⟩, if_pos hj]
        rfl
      · rw [if_neg (fun z => hj z.2), if_neg hj, e1 M rfl]
    have hwf : eg_wf w (eg_sr M a i.toNatClampNeg (some t)) := by
      obtain ⟨w1, w2, w3⟩ := hH.2.2.2.1
      refine ⟨fun p0 k z g1 g2 g3 => ?_, fun p0 k z g1 g3 => ?_, fun p0 k g1 g2 g3 => w3 p0 k g1 g2 g3⟩
      · have g1 : (eg_sh w M p0).1 = 0 := g1
        refine w1 p0 k z g1 g2 ?_
        have hne : ¬ p0 = a := fun y => by rw [y, ka] at g1; cases g1
        unfold eg_ref at g3 ⊢
        rw [eg_gr_sr, if_neg (fun y => hne y.1)] at g3
        exact g3
      · have g1 : (eg_sh w M p0).1 = 4 := g1
        refine w2 p0 k z g1 ?_
        have hne : ¬ p0 = a := fun y => by rw [y, ka] at g1; cases g1
        rw [eg_gr_sr, if_neg (fun y => hne y.1)] at g3
        exact g3
    have := kk none _ ad H1 locs1 hS ⟨by rw [hws]; exact g1, by rw [hws]; exact g2, g3, hwf, hH.2.2.2.2⟩ ⟨fun _ _ => rfl, Nat.le_refl _⟩ (fun u hu => by cases hu)
    exact this
  · exact hS.elim
end ER

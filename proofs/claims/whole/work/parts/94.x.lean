/-! single instructions, where the memory is not looked into -/
section XI
variable {w : eg_W} {k : eg_C} {P : eg_P} {pc cu su : Nat} {ls : List (Option Value)} {st : List Value} {M M' : eg_M}
theorem x_newa {t : ArrayType} {kd ks q len : Nat} {x : Int32} (hk : ∀ q ∈ k.2.2.2.1, eg_mono q.2.2.2.2) (hc : eg_lq k.1 pc = some (.newarray t, 2)) (hn : Nat.blt (eg_nk t) 399999 = true) (hs : eg_lq k.2.2.2.1 (eg_nk t) = some (1, 1, ks, s_newa w kd ks)) (hr : (Nat.ble (cu + 1) k.2.2.2.2.2.2.1 && Nat.ble (su + ks) k.2.2.2.2.2.2.2) = true) (h0 : ¬ x < 0) (hl : x.toNatClampNeg = len) (hx : len ≤ ks ∧ ks ≤ 200000) (hN : eg_N w M = q) (hM : eg_new w M (kd, len, []) = M') (h : eg_T w k P (pc + 2) (cu + 1) (su + ks) ls (.ref q :: st) M') : eg_T w k P pc cu su ls (.int x :: st) M := by
  subst hN hM hl
  refine eg_T_fold hk ?_
  unfold eg_at
  rw [hc]
  refine eg_need_of rfl ?_
  show eg_need (Nat.blt (eg_nk t) 399999) (eg_callE k (eg_T w k P) (eg_nk t) pc 2 cu su ls (.int x :: st) M)
  refine eg_need_of hn ?_
  unfold eg_callE
  rw [hs]
  exact eg_need_of (by rw [Bool.and_eq_true]; exact ⟨rfl, hr⟩) ⟨⟨h0, hx⟩, h⟩
theorem x_anew {j kd ks q len : Nat} {x : Int32} (hk : ∀ q ∈ k.2.2.2.1, eg_mono q.2.2.2.2) (hc : eg_lq k.1 pc = some (.anewarray j, 3)) (hn : Nat.blt j 10000 = true) (hs : eg_lq k.2.2.2.1 (j + 310000) = some (1, 1, ks, s_newa w kd ks)) (hr : (Nat.ble (cu + 1) k.2.2.2.2.2.2.1 && Nat.ble (su + ks) k.2.2.2.2.2.2.2) = true) (h0 : ¬ x < 0) (hl : x.toNatClampNeg = len) (hx : len ≤ ks ∧ ks ≤ 200000) (hN : eg_N w M = q) (hM : eg_new w M (kd, len, []) = M') (h : eg_T w k P (pc + 3) (cu + 1) (su + ks) ls (.ref q :: st) M') : eg_T w k P pc cu su ls (.int x :: st) M := by
  subst hN hM hl
  refine eg_T_fold hk ?_
  unfold eg_at
  rw [hc]
  refine eg_need_of rfl ?_
  show eg_need (Nat.blt j 10000) (eg_callE k (eg_T w k P) (j + 310000) pc 3 cu su ls (.int x :: st) M)
  refine eg_need_of hn ?_
  unfold eg_callE
  rw [hs]
  exact eg_need_of (by rw [Bool.and_eq_true]; exact ⟨rfl, hr⟩) ⟨⟨h0, hx⟩, h⟩
theorem x_mna {j kd kr kc ks q a b : Nat} {x y : Int32} (hk : ∀ q ∈ k.2.2.2.1, eg_mono q.2.2.2.2) (hc : eg_lq k.1 pc = some (.multianewarray j 2, 4)) (hn : Nat.blt j 10000 = true) (hs : eg_lq k.2.2.2.1 (j + 320000) = some (2, kc, ks, s_mna w kd kr kc ks)) (hr : (Nat.ble (cu + kc) k.2.2.2.2.2.2.1 && Nat.ble (su + ks) k.2.2.2.2.2.2.2) = true) (h0 : ¬ x < 0 ∧ ¬ y < 0) (hl : x.toNatClampNeg = a) (hm : y.toNatClampNeg = b) (hx : 1 + a ≤ kc ∧ b ≤ 1000 ∧ a + a * b ≤ ks ∧ kc ≤ 1000) (hN : eg_N w M = q) (hM : eg_newB w M (eg_LB kd kr a b) = M') (h : eg_T w k P (pc + 4) (cu + kc) (su + ks) ls (.ref q :: st) M') : eg_T w k P pc cu su ls (.int y :: .int x :: st) M := by
  subst hN hM hl hm
  refine eg_T_fold hk ?_
  unfold eg_at
  rw [hc]
  refine eg_need_of rfl ?_
  show eg_need (Nat.blt j 10000 && Nat.beq 2 2) (eg_callE k (eg_T w k P) (j + 320000) pc 4 cu su ls (.int y :: .int x :: st) M)
  refine eg_need_of (by rw [hn]; rfl) ?_
  unfold eg_callE
  rw [hs]
  exact eg_need_of (by rw [Bool.and_eq_true]; exact ⟨rfl, hr⟩) ⟨⟨h0.1, h0.2, hx⟩, h⟩
theorem x_ast5 {t a len i : Nat} {x : Int32} (hk : ∀ q ∈ k.2.2.2.1, eg_mono q.2.2.2.2) (hc : eg_lq k.1 pc = some (.aastore, 1)) (hs : eg_lq k.2.2.2.1 330000 = some (3, 0, 0, s_ast5 w)) (hr : (Nat.ble (cu + 0) k.2.2.2.2.2.2.1 && Nat.ble (su + 0) k.2.2.2.2.2.2.2) = true) (ha : eg_sh w M a = (5, len, [])) (hx : vp_in x len) (hi : x.toNatClampNeg = i) (ht : t < 32) (hM : eg_sr M a i (some t) = M') (h : eg_T w k P (pc + 1) (cu + 0) (su + 0) ls st M') : eg_T w k P pc cu su ls (.retAddr t :: .int x :: .ref a :: st) M := by
  subst hM hi
  refine eg_T_fold hk ?_
  unfold eg_at
  rw [hc]
  refine eg_need_of rfl ?_
  show eg_callE k (eg_T w k P) 330000 pc 1 cu su ls (.retAddr t :: .int x :: .ref a :: st) M
  unfold eg_callE
  rw [hs]
  refine eg_need_of (by rw [Bool.and_eq_true]; exact ⟨rfl, hr⟩) ⟨⟨?_, ?_, ?_, ht⟩, h⟩
  · unfold eg_is
    rw [ha]
    rfl
  · rw [ha]
  · unfold eg_len
    rw [ha]
    exact hx
theorem x_new {j ci q sl : Nat} (hk : ∀ q ∈ k.2.2.2.1, eg_mono q.2.2.2.2) (hc : eg_lq k.1 pc = some (.new j, 3)) (hs : eg_lq k.2.2.2.2.1 j = some (.inr ci)) (hsl : w.2.2.2 ci = sl) (hr : (Nat.ble (cu + 1) k.2.2.2.2.2.2.1 && Nat.ble (su + sl) k.2.2.2.2.2.2.2) = true) (hN : eg_N w M = q) (hM : eg_new w M (0, ci, []) = M') (h : eg_T w k P (pc + 3) (cu + 1) (su + sl) ls (.ref q :: st) M') : eg_T w k P pc cu su ls st M := by
  subst hN hM hsl
  refine eg_T_fold hk ?_
  unfold eg_at
  rw [hc]
  refine eg_need_of rfl ?_
  show (match eg_lq k.2.2.2.2.1 j with
    | some (.inl E) => _
    | some (.inr ci) => eg_need (Nat.ble (cu + 1) k.2.2.2.2.2.2.1 && Nat.ble (su + w.2.2.2 ci) k.2.2.2.2.2.2.2) (eg_T w k P (pc + 3) (cu + 1) (su + w.2.2.2 ci) ls (.ref (eg_N w M) :: st) (eg_new w M (0, ci, [])))
    | none => False)
  rw [hs]
  exact eg_need_of hr h
/-- a call that says nothing -/
theorem x_call {j n kc ks : Nat} {S : eg_S} {av : List Value} (hk : ∀ q ∈ k.2.2.2.1, eg_mono q.2.2.2.2) (hc : eg_lq k.1 pc = some (.invokespecial j, 3)) (hn : Nat.blt j 100000 = true) (hs : eg_lq k.2.2.2.1 (j + 200000) = some (n, kc, ks, S)) (hr : (Nat.ble (cu + kc) k.2.2.2.2.2.2.1 && Nat.ble (su + ks) k.2.2.2.2.2.2.2) = true) (hl : av.length = n) (hw : Nat.ble (eg_wt st) 8 = true) (hS : S av.reverse M (fun r N => match r with
    | .inl v => v = none ∧ N = M'
    | .inr _ => False)) (hmo : eg_mono S) (h : eg_T w k P (pc + 3) (cu + kc) (su + ks) ls st M') : eg_T w k P pc cu su ls (av ++ st) M := by
  refine eg_T_fold hk ?_
  unfold eg_at
  rw [hc]
  refine eg_need_of rfl ?_
  show eg_need (Nat.blt j 100000) (eg_call k P (eg_T w k P) (j + 200000) pc cu su ls (av ++ st) M)
  refine eg_need_of hn ?_
  unfold eg_call
  rw [hs]
  have e1 : (av ++ st).drop n = st := by rw [← hl, List.drop_left]
  have e2 : (av ++ st).take n = av := by rw [← hl, List.take_left]
  show eg_need (Nat.ble n (av ++ st).length && (Nat.ble (eg_wt ((av ++ st).drop n)) 8 && (Nat.ble (cu + kc) k.2.2.2.2.2.2.1 && Nat.ble (su + ks) k.2.2.2.2.2.2.2))) (S ((av ++ st).take n).reverse M _)
  rw [e1, e2]
  refine eg_need_of (by rw [hw, hr, show Nat.ble n (av ++ st).length = true from by rw [Nat.ble_eq, List.length_append]; omega]; rfl) (hmo _ _ _ _ (fun r N hN => ?_) hS)
  match r, hN with
  | .inl v, hN =>
    obtain ⟨rfl, rfl⟩ := hN
    exact h
  | .inr _, hN => exact hN.elim
theorem x_callS {j n kc ks : Nat} {S : eg_S} {av : List Value} (hk : ∀ q ∈ k.2.2.2.1, eg_mono q.2.2.2.2) (hc : eg_lq k.1 pc = some (.invokestatic j, 3)) (hn : Nat.blt j 100000 = true) (hs : eg_lq k.2.2.2.1 (j + 100000) = some (n, kc, ks, S)) (hr : (Nat.ble (cu + kc) k.2.2.2.2.2.2.1 && Nat.ble (su + ks) k.2.2.2.2.2.2.2) = true) (hl : av.length = n) (hw : Nat.ble (eg_wt st) 8 = true) (hS : S av.reverse M (fun r N => match r with
    | .inl v => v = none ∧ N = M'
    | .inr _ => False)) (hmo : eg_mono S) (h : eg_T w k P (pc + 3) (cu + kc) (su + ks) ls st M') : eg_T w k P pc cu su ls (av ++ st) M := by
  refine eg_T_fold hk ?_
  unfold eg_at
  rw [hc]
  refine eg_need_of rfl ?_
  show eg_need (Nat.blt j 100000) (eg_call k P (eg_T w k P) (j + 100000) pc cu su ls (av ++ st) M)
  refine eg_need_of hn ?_
  unfold eg_call
  rw [hs]
  have e1 : (av ++ st).drop n = st := by rw [← hl, List.drop_left]
  have e2 : (av ++ st).take n = av := by rw [← hl, List.take_left]
  show eg_need (Nat.ble n (av ++ st).length && (Nat.ble (eg_wt ((av ++ st).drop n)) 8 && (Nat.ble (cu + kc) k.2.2.2.2.2.2.1 && Nat.ble (su + ks) k.2.2.2.2.2.2.2))) (S ((av ++ st).take n).reverse M _)
  rw [e1, e2]
  refine eg_need_of (by rw [hw, hr, show Nat.ble n (av ++ st).length = true from by rw [Nat.ble_eq, List.length_append]; omega]; rfl) (hmo _ _ _ _ (fun r N hN => ?_) hS)
  match r, hN with
  | .inl v, hN =>
    obtain ⟨rfl, rfl⟩ := hN
    exact h
  | .inr _, hN => exact hN.elim
theorem x_putr {j ci f p q : Nat} (hk : ∀ q ∈ k.2.2.2.1, eg_mono q.2.2.2.2) (hc : eg_lq k.1 pc = some (.putfield j, 3)) (hf : eg_lq k.2.1 j = some (ci, f, true)) (ht : w.2.2.1 ci f = 2) (ho : eg_sh w M p = (0, ci, [])) (hM : eg_sr M p f (some q) = M') (h : eg_T w k P (pc + 3) cu su ls st M') : eg_T w k P pc cu su ls (.ref q :: .ref p :: st) M := by
  subst hM
  refine eg_T_fold hk ?_
  unfold eg_at
  rw [hc]
  refine eg_need_of rfl ?_
  show (match eg_lq k.2.1 j with
    | some z => eg_need (eg_isO w M p z.1 && z.2.2) _
    | none => False)
  rw [hf]
  have e1 : eg_isO w M p ci = true := by
    unfold eg_isO
    rw [ho]
    show (Nat.beq 0 0 && Nat.beq ci ci) = true
    rw [Bool.and_eq_true]
    exact ⟨rfl, Nat.beq_refl ci⟩
  refine eg_need_of (by rw [e1]; rfl) ?_
  show (match w.2.2.1 ci f with
    | 0 => _
    | 1 => _
    | 2 => eg_need (Option.isNone ((eg_sh w M p).2.2.getD f none)) (eg_T w k P (pc + 3) cu su ls st (eg_sr M p f (some q)))
    | 3 => _
    | _ => False)
  rw [ht, ho]
  exact eg_need_of (by cases f <;> rfl) h
theorem x_puti {j ci f p : Nat} {x : Int32} (hk : ∀ q ∈ k.2.2.2.1, eg_mono q.2.2.2.2) (hc : eg_lq k.1 pc = some (.putfield j, 3)) (hf : eg_lq k.2.1 j = some (ci, f, true)) (ht : w.2.2.1 ci f = 0) (ho : eg_sh w M p = (0, ci, [])) (hM : eg_si M p f x = M') (h : eg_T w k P (pc + 3) cu su ls st M') : eg_T w k P pc cu su ls (.int x :: .ref p :: st) M := by
  subst hM
  refine eg_T_fold hk ?_
  unfold eg_at
  rw [hc]
  refine eg_need_of rfl ?_
  show (match eg_lq k.2.1 j with
    | some z => eg_need (eg_isO w M p z.1 && z.2.2) _
    | none => False)
  rw [hf]
  have e1 : eg_isO w M p ci = true := by
    unfold eg_isO
    rw [ho]
    show (Nat.beq 0 0 && Nat.beq ci ci) = true
    rw [Bool.and_eq_true]
    exact ⟨rfl, Nat.beq_refl ci⟩
  refine eg_need_of (by rw [e1]; rfl) ?_
  show (match w.2.2.1 ci f with
    | 0 => eg_T w k P (pc + 3) cu su ls st (eg_si M p f x)
    | 1 => _
    | 2 => _
    | 3 => _
    | _ => False)
  rw [ht]
  exact h
theorem x_getr {j ci f p q : Nat} {b : Bool} (hk : ∀ q ∈ k.2.2.2.1, eg_mono q.2.2.2.2) (hc : eg_lq k.1 pc = some (.getfield j, 3)) (hf : eg_lq k.2.1 j = some (ci, f, b)) (ho : eg_sh w M p = (0, ci, [])) (hv : eg_fld w M p ci f = .ref q) (h : eg_T w k P (pc + 3) cu su ls (.ref q :: st) M) : eg_T w k P pc cu su ls (.ref p :: st) M := by
  refine eg_T_fold hk ?_
  unfold eg_at
  rw [hc]
  refine eg_need_of rfl ?_
  show (match eg_lq k.2.1 j with
    | some z => eg_need (eg_isO w M p z.1) (eg_T w k P (pc + 3) cu su ls (eg_fld w M p z.1 z.2.1 :: st) M)
    | none => False)
  rw [hf]
  have e1 : eg_isO w M p ci = true := by
    unfold eg_isO
    rw [ho]
    show (Nat.beq 0 0 && Nat.beq ci ci) = true
    rw [Bool.and_eq_true]
    exact ⟨rfl, Nat.beq_refl ci⟩
  refine eg_need_of e1 ?_
  show eg_T w k P (pc + 3) cu su ls (eg_fld w M p ci f :: st) M
  rw [hv]
  exact h
theorem x_ret (hk : ∀ q ∈ k.2.2.2.1, eg_mono q.2.2.2.2) (hc : eg_lq k.1 pc = some (.return_, 1)) (h0 : Nat.beq k.2.2.2.2.2.1 0 = true) (hr : (Nat.ble cu k.2.2.2.2.2.2.1 && Nat.ble su k.2.2.2.2.2.2.2) = true) (h : P (.inl none) M) : eg_T w k P pc cu su ls [] M := by
  refine eg_T_fold hk ?_
  unfold eg_at
  rw [hc]
  refine eg_need_of rfl ?_
  show eg_need (Nat.beq k.2.2.2.2.2.1 0) (eg_ret k P cu su none M)
  exact eg_need_of h0 (eg_need_of hr h)
/-- an element of a row of rows -/
theorem x_aal {a kd len i : Nat} {x : Int32} (hk : ∀ q ∈ k.2.2.2.1, eg_mono q.2.2.2.2) (hc : eg_lq k.1 pc = some (.aaload, 1)) (ha : eg_sh w M a = (kd, len, [])) (hkd : kd = 6 ∨ kd = 7) (hx : vp_in x len) (hi : x.toNatClampNeg = i) (h : eg_T w k P (pc + 1) cu su ls (.ref (a + 1 + i) :: st) M) : eg_T w k P pc cu su ls (.int x :: .ref a :: st) M := by
  subst hi
  refine eg_T_fold hk ?_
  unfold eg_at
  rw [hc]
  refine eg_need_of rfl ?_
  show eg_need (Nat.ble 4 (eg_sh w M a).1 && Nat.ble (eg_sh w M a).1 7) (vp_in x (eg_len w M a) ∧ eg_T w k P (pc + 1) cu su ls (eg_el w M a x.toNatClampNeg :: st) M)
  have e1 : eg_len w M a = len := by
    unfold eg_len
    rw [ha]
  have e2 : eg_el w M a x.toNatClampNeg = .ref (a + 1 + x.toNatClampNeg) := by
    unfold eg_el
    rw [ha]
    rcases hkd with z | z
    · subst z
      rfl
    · subst z
      rfl
  rw [e1, e2]
  refine eg_need_of ?_ ⟨hx, h⟩
  rw [ha]
  rcases hkd with z | z
  · subst z
    rfl
  · subst z
    rfl
end XI
def s_fill0 : eg_S := fun argv M Qp => match argv with
  | [.ref p, .int v] => eg_need (eg_is w0 M p 1) (eg_len w0 M p < 2 ^ 31 ∧ Qp (.inl none) (eg_fi M p (eg_len w0 M p) v))
  | _ => False
theorem mo_fill0 : eg_mono s_fill0 := by
  intro argv M Q Q' h
  unfold s_fill0
  split
  · exact eg_need_mono (fun z => ⟨z.1, h _ _ z.2⟩)
  · exact id
theorem sz_fill0 : ∀ argv M Qp, s_fill0 argv M Qp → (eg_ls0 argv).length ≤ 4 := by
  intro argv M Qp h
  unfold s_fill0 at h
  split at h
  · exact Nat.le_of_ble_eq_true rfl
  · exact h.elim
theorem T_fill0 {argv : List Value} {M : eg_M} {Qp : eg_P} (h : s_fill0 argv M Qp) : eg_T w0 k_J7_fill_53178 Qp 0 0 0 (eg_lsN 4 argv) [] M := by
  unfold s_fill0 at h
  split at h
  · rename_i p v
    replace h := eg_need_out h
    obtain ⟨h1, h2, h3⟩ := h
    have hk := eg_is_out h1
    have lp : ∀ (r i : Nat), i + r = eg_len w0 M p → eg_T w0 k_J7_fill_53178 Qp 5 0 0 [some (.ref p), some (.int v), some (.int (nI i)), some (.int (nI (eg_len w0 M p)))] [] (eg_fi M p i v) := by
      intro r
      induction r with
      | zero =>
        intro i hi
        have hi : i = eg_len w0 M p := hi
        subst hi
        refine eg_T_run mk_J7_fill_53178 (cut := [5]) 20 ?_
        exact And.intro (fun _ => h3) (fun z => absurd (nI_le (Nat.le_refl _) h2) z)
      | succ r ih =>
        intro i hi
        refine eg_T_run mk_J7_fill_53178 (cut := [5]) 20 ?_
        refine And.intro (fun z => absurd z (nI_ge (by omega) h2)) (fun z => ?_)
        refine eg_need_of (by exact h1) ?_
        refine And.intro (vp_in_nI (show i < eg_len w0 (eg_fi M p i v) p from (show i < eg_len w0 M p by omega)) h2) ?_
        have e := ih (i + 1) (by omega)
        rw [← eg_fi_s, ← nI_1] at e
        rw [nI_clamp (by omega)]
        exact e
    refine eg_T_run mk_J7_fill_53178 (cut := [5]) 20 ?_
    refine eg_need_of (show (Nat.ble 1 (eg_sh w0 M p).1 && Nat.ble (eg_sh w0 M p).1 7) = true by rw [hk]; rfl) ?_
    have e := lp (eg_len w0 M p) 0 (by omega)
    rw [eg_fi_0] at e
    exact e
  · exact h.elim

theorem me_fill0 (g : gl_T) : MT0 g yJ7_fill_53178 cJ7_fill_53178 4 none ⟨0, 0, 0, 0⟩ 0 0 s_fill0 := by
  intro hl
  exact eg_met_of (k := k_J7_fill_53178) (by decide) rfl ⟨Nat.le_refl _, Nat.le_refl _⟩ rfl sz_fill0 de_J7_fill_53178 (fun meth hn => (fn)) (fun A s H hE => (fn)) (fun p e s m args below meth c Q A ad0 N0 S0 hK hEx hA => (fn)) (fun p e s m args below meth c Qc XC A ad0 N0 P S0 hK hEx hA hlk hout hPX => (fn)) (fun argv M Qp h => T_fill0 h)

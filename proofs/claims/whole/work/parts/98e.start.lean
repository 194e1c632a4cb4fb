/-! THE LAW'S FIRST STRETCH -/
section YI
variable {w : eg_W} {k : eg_C} {P : eg_P} {pc cu su : Nat} {ls : List (Option Value)} {st : List Value} {M M' : eg_M} {X : eg_X}
theorem y_run (hk : ∀ q ∈ k.2.2.2.1, eg_mono q.2.2.2.2) (hC : ∀ pc cu su ls st M, eg_at w k P X pc cu su ls st M → X pc cu su ls st M) {cut : List Nat} : ∀ (n : Nat) {pc cu su : Nat} {ls : List (Option Value)} {st : List Value} {M : eg_M}, eg_run w k P X cut n pc cu su ls st M → X pc cu su ls st M := by
  intro n
  induction n with
  | zero => intro pc cu su ls st M h; exact h
  | succ n ih =>
    intro pc cu su ls st M h
    refine hC _ _ _ _ _ _ (eg_at_mono hk (fun pc cu su ls st M g => ?_) h)
    cases hc : eg_in cut pc with
    | true =>
      rw [hc] at g
      exact g
    | false =>
      rw [hc] at g
      exact ih g
theorem y_newa {t : ArrayType} {kd ks q len : Nat} {x : Int32} (hC : ∀ pc cu su ls st M, eg_at w k P X pc cu su ls st M → X pc cu su ls st M) (hc : eg_lq k.1 pc = some (.newarray t, 2)) (hn : Nat.blt (eg_nk t) 399999 = true) (hs : eg_lq k.2.2.2.1 (eg_nk t) = some (1, 1, ks, s_newa w kd ks)) (hr : (Nat.ble (cu + 1) k.2.2.2.2.2.2.1 && Nat.ble (su + ks) k.2.2.2.2.2.2.2) = true) (h0 : ¬ x < 0) (hl : x.toNatClampNeg = len) (hx : len ≤ ks ∧ ks ≤ 200000) (hN : eg_N w M = q) (hM : eg_new w M (kd, len, []) = M') (h : X (pc + 2) (cu + 1) (su + ks) ls (.ref q :: st) M') : X pc cu su ls (.int x :: st) M := by
  subst hN hM hl
  refine hC _ _ _ _ _ _ ?_
  unfold eg_at
  rw [hc]
  refine eg_need_of rfl ?_
  show eg_need (Nat.blt (eg_nk t) 399999) (eg_callE k X (eg_nk t) pc 2 cu su ls (.int x :: st) M)
  refine eg_need_of hn ?_
  unfold eg_callE
  rw [hs]
  exact eg_need_of (by rw [Bool.and_eq_true]; exact ⟨rfl, hr⟩) ⟨⟨h0, hx⟩, h⟩
theorem y_new {j ci q sl : Nat} (hC : ∀ pc cu su ls st M, eg_at w k P X pc cu su ls st M → X pc cu su ls st M) (hc : eg_lq k.1 pc = some (.new j, 3)) (hs : eg_lq k.2.2.2.2.1 j = some (.inr ci)) (hsl : w.2.2.2 ci = sl) (hr : (Nat.ble (cu + 1) k.2.2.2.2.2.2.1 && Nat.ble (su + sl) k.2.2.2.2.2.2.2) = true) (hN : eg_N w M = q) (hM : eg_new w M (0, ci, []) = M') (h : X (pc + 3) (cu + 1) (su + sl) ls (.ref q :: st) M') : X pc cu su ls st M := by
  subst hN hM hsl
  refine hC _ _ _ _ _ _ ?_
  unfold eg_at
  rw [hc]
  refine eg_need_of rfl ?_
  show (match eg_lq k.2.2.2.2.1 j with
    | some (.inl E) => _
    | some (.inr ci) => eg_need (Nat.ble (cu + 1) k.2.2.2.2.2.2.1 && Nat.ble (su + w.2.2.2 ci) k.2.2.2.2.2.2.2) (X (pc + 3) (cu + 1) (su + w.2.2.2 ci) ls (.ref (eg_N w M) :: st) (eg_new w M (0, ci, [])))
    | none => False)
  rw [hs]
  exact eg_need_of hr h
theorem y_call {j n kc ks : Nat} {S : eg_S} {av : List Value} (hC : ∀ pc cu su ls st M, eg_at w k P X pc cu su ls st M → X pc cu su ls st M) (hc : eg_lq k.1 pc = some (.invokespecial j, 3)) (hn : Nat.blt j 100000 = true) (hs : eg_lq k.2.2.2.1 (j + 200000) = some (n, kc, ks, S)) (hr : (Nat.ble (cu + kc) k.2.2.2.2.2.2.1 && Nat.ble (su + ks) k.2.2.2.2.2.2.2) = true) (hl : av.length = n) (hw : Nat.ble (eg_wt st) 8 = true) (hS : S av.reverse M (fun r N => match r with
    | .inl v => v = none ∧ N = M'
    | .inr _ => False)) (hmo : eg_mono S) (h : X (pc + 3) (cu + kc) (su + ks) ls st M') : X pc cu su ls (av ++ st) M := by
  refine hC _ _ _ _ _ _ ?_
  unfold eg_at
  rw [hc]
  refine eg_need_of rfl ?_
  show eg_need (Nat.blt j 100000) (eg_call k P X (j + 200000) pc cu su ls (av ++ st) M)
  refine eg_need_of hn ?_
  unfold eg_call
  rw [hs]
  have e1 : (av ++ st).drop n = st := by rw [← hl, List.drop_left]
  have e2 : (av ++ st).take n = av := by rw [← hl, List.take_left]
  show eg_need (Nat.ble n (av ++ st).length && (Nat.ble (eg_wt ((av ++ st).drop n)) 8 && (Nat.ble (cu + kc) k.2.2.2.2.2.2.1 && Nat.ble (su + ks) k.2.2.2.2.2.2.2))) (S ((av ++ st).take n).reverse M _)
  rw [e1, e2]
  refine eg_need_of (by rw [hw, hr, show Nat.ble n (av ++ st).length = true from by rw [Nat.ble_eq, List.length_append]; omega]; rfl) (hmo _ _ _ _ (fun r N hN => ?_) hS)
  match r, hN with
  | .inl v, hN =>
    obtain ⟨rfl, rfl⟩ := hN
    exact h
  | .inr _, hN => exact hN.elim
end YI
def k_L0 : eg_C := ([(0, .new 8, 3), (3, .dup, 1), (4, .invokespecial 68, 3), (7, .astore_n 1, 1), (8, .new 69, 3), (11, .dup, 1), (12, .invokespecial 71, 3), (15, .astore_n 2, 1), (16, .iconst 1, 1), (17, .newarray .long, 2), (19, .astore_n 3, 1), (20, .iconst 0, 1), (21, .istore 4, 2)], [], [], [(68 + 200000, 0 + 1, 120, 7444, s_X11_ini0), (71 + 200000, 0 + 1, 55, 6610402, s_X12_ini0), (300002, 1, 1, 1, s_newa w0 2 1)], [(8, .inr 11), (69, .inr 12)], 2, 601024, 7293034)
theorem mk_L0 : ∀ q ∈ k_L0.2.2.2.1, eg_mono q.2.2.2.2 := fc mo_X11_ini0 (fc mo_X12_ini0 (fc (mo_newa w0 2 1) fn))
theorem de_L0 : ∀ q ∈ k_L0.1, decode cL_law q.1 = .ok q.2 := by decide +kernel
/-- from the law's entry to its loop: all is made -/
theorem law_made {P : eg_P} {X : eg_X} (hC : ∀ pc cu su ls st M, eg_at w0 k_L0 P X pc cu su ls st M → X pc cu su ls st M) (h : X 23 178 6617941 [some (.retAddr 1000), some (.ref 0), some (.ref 121), some (.ref 177), some (.int (nI 0)), none, none, none] [] (mem 342)) : X 0 0 0 [some (.retAddr 1000), none, none, none, none, none, none, none] [] (mem 0) := by
  refine y_new (j := 8) (ci := 11) (q := 0) (sl := 9) hC rfl rfl rfl rfl (sN (by decide +kernel)) (sM (o := (0, 0, 11, 0)) (by decide +kernel)) (?_ : X 3 1 9 [some (.retAddr 1000), none, none, none, none, none, none, none] [.ref 0] (mem 1))
  refine y_run mk_L0 hC (cut := [4]) 2 (?_ : X 4 1 9 [some (.retAddr 1000), none, none, none, none, none, none, none] [.ref 0, .ref 0] (mem 1))
  refine y_call (j := 68) (n := 0 + 1) (kc := 120) (ks := 7444) (S := s_X11_ini0) (av := [.ref 0]) (st := [.ref 0]) (M' := mem 216) hC rfl rfl rfl rfl rfl rfl ⟨rfl, rfl, rfl⟩ mo_X11_ini0 (?_ : X 7 121 7453 [some (.retAddr 1000), none, none, none, none, none, none, none] [.ref 0] (mem 216))
  refine y_run mk_L0 hC (cut := [8]) 2 (?_ : X 8 121 7453 [some (.retAddr 1000), some (.ref 0), none, none, none, none, none, none] [] (mem 216))
  refine y_new (j := 69) (ci := 12) (q := 121) (sl := 85) hC rfl rfl rfl rfl (sN (by decide +kernel)) (sM (o := (0, 0, 12, 0)) (by decide +kernel)) (?_ : X 11 122 7538 [some (.retAddr 1000), some (.ref 0), none, none, none, none, none, none] [.ref 121] (mem 217))
  refine y_run mk_L0 hC (cut := [12]) 2 (?_ : X 12 122 7538 [some (.retAddr 1000), some (.ref 0), none, none, none, none, none, none] [.ref 121, .ref 121] (mem 217))
  refine y_call (j := 71) (n := 0 + 1) (kc := 55) (ks := 6610402) (S := s_X12_ini0) (av := [.ref 121]) (st := [.ref 121]) (M' := mem 341) hC rfl rfl rfl rfl rfl rfl ⟨rfl, rfl, rfl⟩ mo_X12_ini0 (?_ : X 15 177 6617940 [some (.retAddr 1000), some (.ref 0), none, none, none, none, none, none] [.ref 121] (mem 341))
  refine y_run mk_L0 hC (cut := [17]) 4 (?_ : X 17 177 6617940 [some (.retAddr 1000), some (.ref 0), some (.ref 121), none, none, none, none, none] [.int (nI 1)] (mem 341))
  refine y_newa (t := .long) (kd := 2) (ks := 1) (q := 177) (len := 1) hC rfl rfl rfl rfl (by decide) (n_c (by decide)) ⟨by decide, by decide⟩ (sN (by decide +kernel)) (sM (o := (0, 2, 1, 0)) (by decide +kernel)) (?_ : X 19 178 6617941 [some (.retAddr 1000), some (.ref 0), some (.ref 121), none, none, none, none, none] [.ref 177] (mem 342))
  exact y_run mk_L0 hC (cut := [23]) 4 h

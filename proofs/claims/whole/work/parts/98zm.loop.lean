/-! THE LAW'S LOOP -/
theorem sl_id (N : eg_M) : eg_sl N 177 0 (eg_gl N 177 0) = N := by
  refine Prod.ext rfl (Prod.ext rfl (Prod.ext ?_ rfl))
  funext q j
  show eg_up N.2.2.1 177 0 (N.2.2.1 177 0) q j = N.2.2.1 q j
  unfold eg_up
  by_cases h : q = 177
  · subst h
    rw [if_pos rfl]
    by_cases h2 : j = 0
    · subst h2
      exact if_pos rfl
    · exact if_neg h2
  · rw [if_neg h]
theorem hrr {a b c d : Nat} (h1 : a ≤ b) (h2 : c ≤ d) : (Nat.ble a b && Nat.ble c d) = true := by
  rw [Bool.and_eq_true]
  exact ⟨Nat.ble_eq.mpr h1, Nat.ble_eq.mpr h2⟩
theorem es_code {w : eg_W} {a b : List (Nat × Instr × Nat)} {r : _} {P : eg_P} {X : eg_X} {pc cu su n : Nat} {ls : List (Option Value)} {st : List Value} {M : eg_M} {i : Instr} (h : eg_step w (a, r) P X pc cu su ls st M i n) : eg_step w (b, r) P X pc cu su ls st M i n := by
  cases i <;> exact h
section LWL
variable {L : Nat} {xs : Nat → Int32} {P : eg_P} {code : List (Nat × Instr × Nat)} {pc cu su : Nat} {ls : List (Option Value)} {st : List Value} {M : eg_M}
theorem hC_sub (hs : ∀ q ∈ code, eg_lq k_LW.1 q.1 = some q.2) : ∀ pc cu su ls st M, eg_at wd (code, k_LW.2) P (eg_T2 L xs wd k_LW P) pc cu su ls st M → eg_T2 L xs wd k_LW P pc cu su ls st M := by
  intro pc cu su ls st M h
  unfold eg_at at h
  cases hq : eg_lq (code, k_LW.2).1 pc with
  | none => rw [hq] at h; exact h.elim
  | some q =>
    obtain ⟨i, n⟩ := q
    rw [hq] at h
    replace h := eg_need_out h
    have hk := hs (pc, i, n) (eg_lq_in hq)
    refine eg_T2_fold mk_LW (Or.inl ?_)
    unfold eg_at
    rw [show eg_lq k_LW.1 pc = some (i, n) from hk]
    exact eg_need_of h.1 (es_code (b := k_LW.1) h.2)
theorem t2_ia (hs : ∀ q ∈ code, eg_lq k_LW.1 q.1 = some q.2) (hc : eg_lq code pc = some (.iaload, 1)) {z : Int32} {m : Nat} (hz : z = nI m) (hm : m < L) (hL : L ≤ 4096) (h : eg_T2 L xs wd k_LW P (pc + 1) cu su ls (.int (xs m) :: st) M) : eg_T2 L xs wd k_LW P pc cu su ls (.int z :: .retAddr 1000 :: st) M := by
  refine eg_T2_fold mk_LW (Or.inr (Or.inl ⟨hs (pc, .iaload, 1) (eg_lq_in hc), z, st, rfl, ?_, ?_⟩))
  · rw [hz]
    exact vp_in_nI hm (by omega)
  · rw [hz, n_c (by omega)]
    exact h
theorem y_cv {k : eg_C} {X : eg_X} {j n kc ks : Nat} {S : eg_S} {av : List Value} {Qr : eg_P} (hC : ∀ pc cu su ls st M, eg_at wd k P X pc cu su ls st M → X pc cu su ls st M) (hc : eg_lq k.1 pc = some (.invokevirtual j, 3)) (hn : Nat.blt j 100000 = true) (hs : eg_lq k.2.2.2.1 j = some (n, kc, ks, S)) (hr : (Nat.ble (cu + kc) k.2.2.2.2.2.2.1 && Nat.ble (su + ks) k.2.2.2.2.2.2.2) = true) (hl : av.length = n) (hw : Nat.ble (eg_wt st) 8 = true) (hmo : eg_mono S) (hS : S av.reverse M Qr) (h : ∀ r N, Qr r N → match r with
    | .inl v => X (pc + 3) (cu + kc) (su + ks) ls (v.toList ++ st) N
    | .inr E => P (.inr E) N) : X pc cu su ls (av ++ st) M := by
  refine hC _ _ _ _ _ _ ?_
  unfold eg_at
  rw [hc]
  refine eg_need_of rfl ?_
  show eg_need (Nat.blt j 100000) (eg_call k P X j pc cu su ls (av ++ st) M)
  refine eg_need_of hn ?_
  unfold eg_call
  rw [hs]
  have e1 : (av ++ st).drop n = st := by rw [← hl, List.drop_left]
  have e2 : (av ++ st).take n = av := by rw [← hl, List.take_left]
  show eg_need (Nat.ble n (av ++ st).length && (Nat.ble (eg_wt ((av ++ st).drop n)) 8 && (Nat.ble (cu + kc) k.2.2.2.2.2.2.1 && Nat.ble (su + ks) k.2.2.2.2.2.2.2))) (S ((av ++ st).take n).reverse M _)
  rw [e1, e2]
  exact eg_need_of (by rw [hw, hr, show Nat.ble n (av ++ st).length = true from by rw [Nat.ble_eq, List.length_append]; omega]; rfl) (hmo _ _ _ _ h hS)
theorem y_cs {k : eg_C} {X : eg_X} {j n kc ks : Nat} {S : eg_S} {av : List Value} {Qr : eg_P} (hC : ∀ pc cu su ls st M, eg_at wd k P X pc cu su ls st M → X pc cu su ls st M) (hc : eg_lq k.1 pc = some (.invokestatic j, 3)) (hn : Nat.blt j 100000 = true) (hs : eg_lq k.2.2.2.1 (j + 100000) = some (n, kc, ks, S)) (hr : (Nat.ble (cu + kc) k.2.2.2.2.2.2.1 && Nat.ble (su + ks) k.2.2.2.2.2.2.2) = true) (hl : av.length = n) (hw : Nat.ble (eg_wt st) 8 = true) (hmo : eg_mono S) (hS : S av.reverse M Qr) (h : ∀ r N, Qr r N → match r with
    | .inl v => X (pc + 3) (cu + kc) (su + ks) ls (v.toList ++ st) N
    | .inr E => P (.inr E) N) : X pc cu su ls (av ++ st) M := by
  refine hC _ _ _ _ _ _ ?_
  unfold eg_at
  rw [hc]
  refine eg_need_of rfl ?_
  show eg_need (Nat.blt j 100000) (eg_call k P X (j + 100000) pc cu su ls (av ++ st) M)
  refine eg_need_of hn ?_
  unfold eg_call
  rw [hs]
  have e1 : (av ++ st).drop n = st := by rw [← hl, List.drop_left]
  have e2 : (av ++ st).take n = av := by rw [← hl, List.take_left]
  show eg_need (Nat.ble n (av ++ st).length && (Nat.ble (eg_wt ((av ++ st).drop n)) 8 && (Nat.ble (cu + kc) k.2.2.2.2.2.2.1 && Nat.ble (su + ks) k.2.2.2.2.2.2.2))) (S ((av ++ st).take n).reverse M _)
  rw [e1, e2]
  exact eg_need_of (by rw [hw, hr, show Nat.ble n (av ++ st).length = true from by rw [Nat.ble_eq, List.length_append]; omega]; rfl) (hmo _ _ _ _ h hS)
end LWL
/-! what a wrapper leaves, and what the model then answers -/
def w_i (S2 : eg_S) (as : List Value) : eg_P := fun r N => ∃ kk : Int32, r = .inl (some (.int kk)) ∧ S2 (.ref 121 :: as) N (fun o2 N2 => r_A N2 ∧ ∃ b : Int32, o2 = .inl (some (.int b)) ∧ eg_gi N2 121 1 = kk ∧ (kk = 0 → eg_gl N2 177 0 = b.toInt64))
def w_l (S2 : eg_S) (as : List Value) : eg_P := fun r N => ∃ kk : Int32, r = .inl (some (.int kk)) ∧ S2 (.ref 121 :: as) N (fun o2 N2 => r_A N2 ∧ ∃ b : Int64, o2 = .inl (some (.long b)) ∧ eg_gi N2 121 1 = kk ∧ (kk = 0 → eg_gl N2 177 0 = b))
def w_b (S2 : eg_S) (as : List Value) : eg_P := fun r N => ∃ kk : Int32, r = .inl (some (.int kk)) ∧ S2 (.ref 121 :: as) N (fun o2 N2 => r_A N2 ∧ ∃ b : Int32, o2 = .inl (some (.int b)) ∧ eg_gi N2 121 1 = kk ∧ (kk = 0 → eg_gl N2 177 0 = if b = 0 then lN 0 else lN 1))
section WR
variable {S1 S2 : eg_S} {as : List Value} {hl : List (String × Int32)} {M : eg_M}
theorem wr_x {N : eg_M} {E : String} (h2 : eg_mono S2) {q : String × Int32} (hf : hl.find? (fun q => q.1 == E) = some q) (hw : ∀ w : Int64, S2 (.ref 121 :: as) (eg_sl N 177 0 w) (fun o2 N2 => r_A N2 ∧ eg_gl N2 177 0 = w ∧ ag_i hl (.inr E) o2 (eg_gi N2 121 1))) (R : eg_P) (hR : ∀ o2 N2, r_A N2 → (∃ b : Int32, o2 = .inl (some (.int b))) → eg_gi N2 121 1 = q.2 → ¬ q.2 = 0 → R o2 N2) : S2 (.ref 121 :: as) N R := by
  have := hw (eg_gl N 177 0)
  rw [sl_id] at this
  refine h2 _ _ _ _ (fun o2 N2 ⟨a1, _, a3⟩ => ?_) this
  rcases a3 with ⟨v, e, _⟩ | ⟨E', q', b, e1, e2, e3, e4, e5⟩
  · cases e
  · cases e1
    rw [hf] at e2
    cases e2
    exact hR o2 N2 a1 ⟨b, e5⟩ e3 e4
theorem wr_i (h : pk ag_i ok_i hl S1 S2 as) (h1 : eg_mono S1) (h2 : eg_mono S2) (hA : r_A M) : S1 (.ref 0 :: as) M (fun r N => match r with
    | .inl (some (.int v)) => w_i S2 as (.inl (some (.int (nI 0)))) (eg_sl N 177 (nI 0).toNatClampNeg v.toInt64)
    | .inr E => eg_PH hl (w_i S2 as) (.inr E) N
    | _ => False) := by
  refine h1 _ _ _ _ (fun r N ⟨hok, hw⟩ => ?_) (h M hA)
  rcases hok with ⟨v, rfl⟩ | ⟨E, q, rfl, hf⟩
  · refine ⟨nI 0, rfl, h2 _ _ _ _ (fun o2 N2 ⟨a1, a2, a3⟩ => ?_) (hw v.toInt64)⟩
    rcases a3 with ⟨v', e1, e2, e3⟩ | ⟨E, _, _, e, _⟩
    · cases e1
      exact ⟨a1, v, e2, e3, fun _ => a2⟩
    · cases e
  · show eg_PH hl (w_i S2 as) (.inr E) N
    unfold eg_PH
    simp only [hf]
    exact ⟨q.2, rfl, wr_x h2 hf hw _ (fun o2 N2 b1 ⟨b, b2⟩ b3 b4 => ⟨b1, b, b2, b3, fun z => absurd z b4⟩)⟩
theorem wr_b (h : pk ag_i ok_i hl S1 S2 as) (h1 : eg_mono S1) (h2 : eg_mono S2) (hA : r_A M) : S1 (.ref 0 :: as) M (fun r N => match r with
    | .inl (some (.int v)) => (v = 0 → w_b S2 as (.inl (some (.int (nI 0)))) (eg_sl N 177 (nI 0).toNatClampNeg (lN 0))) ∧ (¬ v = 0 → w_b S2 as (.inl (some (.int (nI 0)))) (eg_sl N 177 (nI 0).toNatClampNeg (lN 1)))
    | .inr E => eg_PH hl (w_b S2 as) (.inr E) N
    | _ => False) := by
  refine h1 _ _ _ _ (fun r N ⟨hok, hw⟩ => ?_) (h M hA)
  rcases hok with ⟨v, rfl⟩ | ⟨E, q, rfl, hf⟩
  · refine ⟨fun z => ⟨nI 0, rfl, h2 _ _ _ _ (fun o2 N2 ⟨a1, a2, a3⟩ => ?_) (hw (lN 0))⟩, fun z => ⟨nI 0, rfl, h2 _ _ _ _ (fun o2 N2 ⟨a1, a2, a3⟩ => ?_) (hw (lN 1))⟩⟩
    all_goals
      rcases a3 with ⟨v', e1, e2, e3⟩ | ⟨E, _, _, e, _⟩
      · cases e1
        refine ⟨a1, v, e2, e3, fun _ => ?_⟩
        first | (rw [if_pos z]; exact a2) | (rw [if_neg z]; exact a2)
      · cases e
  · show eg_PH hl (w_b S2 as) (.inr E) N
    unfold eg_PH
    simp only [hf]
    exact ⟨q.2, rfl, wr_x h2 hf hw _ (fun o2 N2 b1 ⟨b, b2⟩ b3 b4 => ⟨b1, b, b2, b3, fun z => absurd z b4⟩)⟩
theorem wr_l (h : pk ag_l ok_l hl S1 S2 as) (h1 : eg_mono S1) (h2 : eg_mono S2) (hA : r_A M) : S1 (.ref 0 :: as) M (fun r N => match r with
    | .inl (some (.long v)) => w_l S2 as (.inl (some (.int (nI 0)))) (eg_sl N 177 (nI 0).toNatClampNeg v)
    | .inr E => eg_PH hl (w_l S2 as) (.inr E) N
    | _ => False) := by
  refine h1 _ _ _ _ (fun r N ⟨hok, hw⟩ => ?_) (h M hA)
  rcases hok with ⟨v, rfl⟩ | ⟨E, q, rfl, hf⟩
  · refine ⟨nI 0, rfl, h2 _ _ _ _ (fun o2 N2 ⟨a1, a2, a3⟩ => ?_) (hw v)⟩
    rcases a3 with ⟨v', e1, e2, e3⟩ | ⟨E, _, _, e, _⟩
    · cases e1
      exact ⟨a1, v, e2, e3, fun _ => a2⟩
    · cases e
  · show eg_PH hl (w_l S2 as) (.inr E) N
    unfold eg_PH
    simp only [hf]
    refine ⟨q.2, rfl, ?_⟩
    have := hw (eg_gl N 177 0)
    rw [sl_id] at this
    refine h2 _ _ _ _ (fun o2 N2 ⟨a1, _, a3⟩ => ?_) this
    rcases a3 with ⟨v, e, _⟩ | ⟨E', q', b, e1, e2, e3, e4, e5⟩
    · cases e
    · cases e1
      rw [hf] at e2
      cases e2
      exact ⟨a1, b, e5, e3, fun z => absurd z e4⟩
end WR

theorem wl_charter {M : eg_M} (a : Int32) (b : Int32) (c : Int32) (hA : r_A M) : s_L_charter [.ref 0, .int a, .int b, .int c, .ref 177] M (w_i s_X12_charter [.int a, .int b, .int c]) := by
  unfold s_L_charter
  refine mo_X11_charter_v _ _ _ _ (fun r N hN => ?_) (wr_i (pk_charter a b c) mo_X11_charter_v mo_X12_charter hA)
  match r, hN with
  | .inl (some (.int v)), hN => exact hN
  | .inr E, hN => exact hN
theorem wl_days {M : eg_M} (a : Int32) (hA : r_A M) : s_L_days [.ref 0, .int a, .ref 177] M (w_i s_X12_days [.int a]) := by
  unfold s_L_days
  refine mo_X11_days _ _ _ _ (fun r N hN => ?_) (wr_i (pk_days a) mo_X11_days mo_X12_days hA)
  match r, hN with
  | .inl (some (.int v)), hN => exact hN
  | .inr E, hN => exact hN
theorem wl_event {M : eg_M} (a : Int32) (b : Int32) (c : Int32) (d : Int32) (e : Int32) (f : Int32) (g : Int32) (hA : r_A M) : s_L_event [.ref 0, .int a, .int b, .int c, .int d, .int e, .int f, .int g, .ref 177] M (w_i s_X12_event [.int a, .int b, .int c, .int d, .int e, .int f, .int g]) := by
  unfold s_L_event
  refine mo_X11_event _ _ _ _ (fun r N hN => ?_) (wr_i (pk_event a b c d e f g) mo_X11_event mo_X12_event hA)
  match r, hN with
  | .inl (some (.int v)), hN => exact hN
  | .inr E, hN => exact hN
theorem wl_back {M : eg_M} (a : Int32) (hA : r_A M) : s_L_back [.ref 0, .int a, .ref 177] M (w_b s_X12_back [.int a]) := by
  unfold s_L_back
  refine mo_X11_back _ _ _ _ (fun r N hN => ?_) (wr_b (pk_back a) mo_X11_back mo_X12_back hA)
  match r, hN with
  | .inl (some (.int v)), hN => exact hN
  | .inr E, hN => exact hN
theorem wl_rules {M : eg_M} (a : Int32) (hA : r_A M) : s_L_rules [.ref 0, .int a, .ref 177] M (w_i s_X12_rules [.int a]) := by
  unfold s_L_rules
  refine mo_X11_rules _ _ _ _ (fun r N hN => ?_) (wr_i (pk_rules a) mo_X11_rules mo_X12_rules hA)
  match r, hN with
  | .inl (some (.int v)), hN => exact hN
  | .inr E, hN => exact hN
theorem wl_about {M : eg_M} (a : Int32) (b : Int32) (c : Int32) (d : Int32) (hA : r_A M) : s_L_about [.ref 0, .int a, .int b, .int c, .int d, .ref 177] M (w_i s_X12_about [.int a, .int b, .int c, .int d]) := by
  unfold s_L_about
  refine mo_X11_about _ _ _ _ (fun r N hN => ?_) (wr_i (pk_about a b c d) mo_X11_about mo_X12_about hA)
  match r, hN with
  | .inl (some (.int v)), hN => exact hN
  | .inr E, hN => exact hN
theorem wl_told {M : eg_M} (a : Int32) (b : Int32) (c : Int32) (hA : r_A M) : s_L_told [.ref 0, .int a, .int b, .int c, .ref 177] M (w_l s_X12_told [.int a, .int b, .int c]) := by
  unfold s_L_told
  refine mo_X11_told _ _ _ _ (fun r N hN => ?_) (wr_l (pk_told a b c) mo_X11_told mo_X12_told hA)
  match r, hN with
  | .inl (some (.long v)), hN => exact hN
  | .inr E, hN => exact hN
theorem wl_balance {M : eg_M} (a : Int32) (b : Int32) (c : Int32) (d : Int32) (hA : r_A M) : s_L_balance [.ref 0, .int a, .int b, .int c, .int d, .ref 177] M (w_l s_X12_balance [.int a, .int b, .int c, .int d]) := by
  unfold s_L_balance
  refine mo_X11_balance _ _ _ _ (fun r N hN => ?_) (wr_l (pk_balance a b c d) mo_X11_balance mo_X12_balance hA)
  match r, hN with
  | .inl (some (.long v)), hN => exact hN
  | .inr E, hN => exact hN
theorem wl_liking {M : eg_M} (a : Int32) (b : Int32) (hA : r_A M) : s_L_liking [.ref 0, .int a, .int b, .ref 177] M (w_i s_X12_liking [.int a, .int b]) := by
  unfold s_L_liking
  refine mo_X11_liking_v _ _ _ _ (fun r N hN => ?_) (wr_i (pk_liking a b) mo_X11_liking_v mo_X12_liking hA)
  match r, hN with
  | .inl (some (.int v)), hN => exact hN
  | .inr E, hN => exact hN
theorem wl_lodged {M : eg_M} (a : Int32) (hA : r_A M) : s_L_lodged [.ref 0, .int a, .ref 177] M (w_i s_X12_lodged [.int a]) := by
  unfold s_L_lodged
  refine mo_X11_lodged _ _ _ _ (fun r N hN => ?_) (wr_i (pk_lodged a) mo_X11_lodged mo_X12_lodged hA)
  match r, hN with
  | .inl (some (.int v)), hN => exact hN
  | .inr E, hN => exact hN
theorem wl_plan {M : eg_M} (a : Int32) (b : Int32) (c : Int32) (d : Int64) (hA : r_A M) : s_L_plan [.ref 0, .int a, .int b, .int c, .long d, .ref 177] M (w_i s_X12_plan [.int a, .int b, .int c, .long d]) := by
  unfold s_L_plan
  refine mo_X11_plan _ _ _ _ (fun r N hN => ?_) (wr_i (pk_plan a b c d) mo_X11_plan mo_X12_plan hA)
  match r, hN with
  | .inl (some (.int v)), hN => exact hN
  | .inr E, hN => exact hN
theorem wl_planned {M : eg_M} (a : Int32) (hA : r_A M) : s_L_planned [.ref 0, .int a, .ref 177] M (w_i s_X12_planned [.int a]) := by
  unfold s_L_planned
  refine mo_X11_planned _ _ _ _ (fun r N hN => ?_) (wr_i (pk_planned a) mo_X11_planned mo_X12_planned hA)
  match r, hN with
  | .inl (some (.int v)), hN => exact hN
  | .inr E, hN => exact hN
theorem wl_wish {M : eg_M} (a : Int32) (b : Int32) (c : Int32) (hA : r_A M) : s_L_wish [.ref 0, .int a, .int b, .int c, .ref 177] M (w_b s_X12_wish [.int a, .int b, .int c]) := by
  unfold s_L_wish
  refine mo_X11_wish _ _ _ _ (fun r N hN => ?_) (wr_b (pk_wish a b c) mo_X11_wish mo_X12_wish hA)
  match r, hN with
  | .inl (some (.int v)), hN => exact hN
  | .inr E, hN => exact hN
theorem wl_friend {M : eg_M} (a : Int32) (hA : r_A M) : s_L_friend [.ref 0, .int a, .ref 177] M (w_i s_X12_friend [.int a]) := by
  unfold s_L_friend
  refine mo_X11_friend _ _ _ _ (fun r N hN => ?_) (wr_i (pk_friend a) mo_X11_friend mo_X12_friend hA)
  match r, hN with
  | .inl (some (.int v)), hN => exact hN
  | .inr E, hN => exact hN
theorem wl_count {M : eg_M} (a : Int32) (hA : r_A M) : s_L_count [.ref 0, .int a, .ref 177] M (w_i s_X12_count [.int a]) := by
  unfold s_L_count
  refine mo_X11_count _ _ _ _ (fun r N hN => ?_) (wr_i (pk_count a) mo_X11_count mo_X12_count hA)
  match r, hN with
  | .inl (some (.int v)), hN => exact hN
  | .inr E, hN => exact hN
theorem th_ok {N2 : eg_M} {kk : Int32} (hk : eg_gi N2 121 1 = kk) : s_X12_thrown [.ref 121] N2 (fun r N => r = .inl (some (.int kk)) ∧ N = N2) := ⟨trivial, by rw [hk], rfl⟩
def k_c0 : List (Nat × Instr × Nat) := [(160, .aload_n 1, 1), (161, .aload_n 0, 1), (162, .iload 4, 2), (164, .iconst 1, 1), (165, .iadd, 1), (166, .iaload, 1), (167, .aload_n 0, 1), (168, .iload 4, 2), (170, .iconst 2, 1), (171, .iadd, 1), (172, .iaload, 1), (173, .aload_n 0, 1), (174, .iload 4, 2), (176, .iconst 3, 1), (177, .iadd, 1), (178, .iaload, 1), (179, .aload_n 0, 1), (180, .iload 4, 2), (182, .iconst 4, 1), (183, .iadd, 1), (184, .iaload, 1), (185, .invokevirtual 72, 3), (188, .aload_n 2, 1), (189, .aload_n 0, 1), (190, .iload 4, 2), (192, .iconst 1, 1), (193, .iadd, 1), (194, .iaload, 1), (195, .aload_n 0, 1), (196, .iload 4, 2), (198, .iconst 2, 1), (199, .iadd, 1), (200, .iaload, 1), (201, .aload_n 0, 1), (202, .iload 4, 2), (204, .iconst 3, 1), (205, .iadd, 1), (206, .iaload, 1), (207, .aload_n 0, 1), (208, .iload 4, 2), (210, .iconst 4, 1), (211, .iadd, 1), (212, .iaload, 1), (213, .invokevirtual 75, 3), (216, .if_icmp .eq 1507, 3)]
theorem hs_c0 : ∀ q ∈ k_c0, eg_lq k_LW.1 q.1 = some q.2 := by decide +kernel
set_option maxRecDepth 100000 in
set_option maxHeartbeats 4000000 in
theorem lc_0 {L : Nat} {xs : Nat → Int32} {P : eg_P} {i cu su : Nat} {x5 x6 x7 : Option Value} {M : eg_M} (hL : i + 8 ≤ L) (hL2 : L ≤ 4096) (hcu : cu + 5 ≤ 601024) (hsu : su + 1212 ≤ 7293034) (hA : r_A M) (hn : ∀ cu' su' y5 y6 y7 M', cu' ≤ cu + 5 → su' ≤ su + 1212 → r_A M' → eg_T2 L xs wd k_LW P 1723 cu' su' [some (.retAddr 1000), some (.ref 0), some (.ref 121), some (.ref 177), some (.int (nI i)), y5, y6, y7] [] M') : eg_T2 L xs wd k_LW P 160 cu su [some (.retAddr 1000), some (.ref 0), some (.ref 121), some (.ref 177), some (.int (nI i)), x5, x6, x7] [] M := by
  have hs := hs_c0
  have hC := hC_sub (P := P) (L := L) (xs := xs) hs
  refine y_run (k := (k_c0, k_LW.2)) mk_LW hC (cut := [166]) 5 (?_ : eg_T2 L xs wd k_LW P 166 cu su [some (.retAddr 1000), some (.ref 0), some (.ref 121), some (.ref 177), some (.int (nI i)), x5, x6, x7] [.int (nI i + nI 1), .retAddr 1000, .ref 0] M)
  refine t2_ia (code := k_c0) hs rfl n_s (show i + 1 < L by omega) hL2 (?_ : eg_T2 L xs wd k_LW P 167 cu su [some (.retAddr 1000), some (.ref 0), some (.ref 121), some (.ref 177), some (.int (nI i)), x5, x6, x7] [.int (xs (i + 1)), .ref 0] M)
  refine y_run (k := (k_c0, k_LW.2)) mk_LW hC (cut := [172]) 4 (?_ : eg_T2 L xs wd k_LW P 172 cu su [some (.retAddr 1000), some (.ref 0), some (.ref 121), some (.ref 177), some (.int (nI i)), x5, x6, x7] [.int (nI i + nI 2), .retAddr 1000, .int (xs (i + 1)), .ref 0] M)
  refine t2_ia (code := k_c0) hs rfl n_s (show i + 2 < L by omega) hL2 (?_ : eg_T2 L xs wd k_LW P 173 cu su [some (.retAddr 1000), some (.ref 0), some (.ref 121), some (.ref 177), some (.int (nI i)), x5, x6, x7] [.int (xs (i + 2)), .int (xs (i + 1)), .ref 0] M)
  refine y_run (k := (k_c0, k_LW.2)) mk_LW hC (cut := [178]) 4 (?_ : eg_T2 L xs wd k_LW P 178 cu su [some (.retAddr 1000), some (.ref 0), some (.ref 121), some (.ref 177), some (.int (nI i)), x5, x6, x7] [.int (nI i + nI 3), .retAddr 1000, .int (xs (i + 2)), .int (xs (i + 1)), .ref 0] M)
  refine t2_ia (code := k_c0) hs rfl n_s (show i + 3 < L by omega) hL2 (?_ : eg_T2 L xs wd k_LW P 179 cu su [some (.retAddr 1000), some (.ref 0), some (.ref 121), some (.ref 177), some (.int (nI i)), x5, x6, x7] [.int (xs (i + 3)), .int (xs (i + 2)), .int (xs (i + 1)), .ref 0] M)
  refine y_run (k := (k_c0, k_LW.2)) mk_LW hC (cut := [184]) 4 (?_ : eg_T2 L xs wd k_LW P 184 cu su [some (.retAddr 1000), some (.ref 0), some (.ref 121), some (.ref 177), some (.int (nI i)), x5, x6, x7] [.int (nI i + nI 4), .retAddr 1000, .int (xs (i + 3)), .int (xs (i + 2)), .int (xs (i + 1)), .ref 0] M)
  refine t2_ia (code := k_c0) hs rfl n_s (show i + 4 < L by omega) hL2 (?_ : eg_T2 L xs wd k_LW P 185 cu su [some (.retAddr 1000), some (.ref 0), some (.ref 121), some (.ref 177), some (.int (nI i)), x5, x6, x7] [.int (xs (i + 4)), .int (xs (i + 3)), .int (xs (i + 2)), .int (xs (i + 1)), .ref 0] M)
  refine y_cv (k := (k_c0, k_LW.2)) (j := 72) (n := 4 + 1) (kc := 0) (ks := 0) (S := s_X11_town) (av := [.int (xs (i + 4)), .int (xs (i + 3)), .int (xs (i + 2)), .int (xs (i + 1)), .ref 0]) (st := []) hC rfl rfl rfl (hrr (show (cu + 0) ≤ 601024 by omega) (show (su + 0) ≤ 7293034 by omega)) rfl rfl mo_X11_town ((pk_town (xs (i + 1)) (xs (i + 2)) (xs (i + 3)) (xs (i + 4))) M hA) (fun r N hN => ?_)
  obtain ⟨hok, hw⟩ := hN
  obtain ⟨v, rfl⟩ := hok.resolve_right (fun ⟨E, q, _, hf⟩ => by simp at hf)
  refine y_run (k := (k_c0, k_LW.2)) mk_LW hC (cut := [194]) 5 (?_ : eg_T2 L xs wd k_LW P 194 (cu + 0) (su + 0) [some (.retAddr 1000), some (.ref 0), some (.ref 121), some (.ref 177), some (.int (nI i)), x5, x6, x7] [.int (nI i + nI 1), .retAddr 1000, .ref 121, .int v] N)
  refine t2_ia (code := k_c0) hs rfl n_s (show i + 1 < L by omega) hL2 (?_ : eg_T2 L xs wd k_LW P 195 (cu + 0) (su + 0) [some (.retAddr 1000), some (.ref 0), some (.ref 121), some (.ref 177), some (.int (nI i)), x5, x6, x7] [.int (xs (i + 1)), .ref 121, .int v] N)
  refine y_run (k := (k_c0, k_LW.2)) mk_LW hC (cut := [200]) 4 (?_ : eg_T2 L xs wd k_LW P 200 (cu + 0) (su + 0) [some (.retAddr 1000), some (.ref 0), some (.ref 121), some (.ref 177), some (.int (nI i)), x5, x6, x7] [.int (nI i + nI 2), .retAddr 1000, .int (xs (i + 1)), .ref 121, .int v] N)
  refine t2_ia (code := k_c0) hs rfl n_s (show i + 2 < L by omega) hL2 (?_ : eg_T2 L xs wd k_LW P 201 (cu + 0) (su + 0) [some (.retAddr 1000), some (.ref 0), some (.ref 121), some (.ref 177), some (.int (nI i)), x5, x6, x7] [.int (xs (i + 2)), .int (xs (i + 1)), .ref 121, .int v] N)
  refine y_run (k := (k_c0, k_LW.2)) mk_LW hC (cut := [206]) 4 (?_ : eg_T2 L xs wd k_LW P 206 (cu + 0) (su + 0) [some (.retAddr 1000), some (.ref 0), some (.ref 121), some (.ref 177), some (.int (nI i)), x5, x6, x7] [.int (nI i + nI 3), .retAddr 1000, .int (xs (i + 2)), .int (xs (i + 1)), .ref 121, .int v] N)
  refine t2_ia (code := k_c0) hs rfl n_s (show i + 3 < L by omega) hL2 (?_ : eg_T2 L xs wd k_LW P 207 (cu + 0) (su + 0) [some (.retAddr 1000), some (.ref 0), some (.ref 121), some (.ref 177), some (.int (nI i)), x5, x6, x7] [.int (xs (i + 3)), .int (xs (i + 2)), .int (xs (i + 1)), .ref 121, .int v] N)
  refine y_run (k := (k_c0, k_LW.2)) mk_LW hC (cut := [212]) 4 (?_ : eg_T2 L xs wd k_LW P 212 (cu + 0) (su + 0) [some (.retAddr 1000), some (.ref 0), some (.ref 121), some (.ref 177), some (.int (nI i)), x5, x6, x7] [.int (nI i + nI 4), .retAddr 1000, .int (xs (i + 3)), .int (xs (i + 2)), .int (xs (i + 1)), .ref 121, .int v] N)
  refine t2_ia (code := k_c0) hs rfl n_s (show i + 4 < L by omega) hL2 (?_ : eg_T2 L xs wd k_LW P 213 (cu + 0) (su + 0) [some (.retAddr 1000), some (.ref 0), some (.ref 121), some (.ref 177), some (.int (nI i)), x5, x6, x7] [.int (xs (i + 4)), .int (xs (i + 3)), .int (xs (i + 2)), .int (xs (i + 1)), .ref 121, .int v] N)
  have hw := hw (eg_gl N 177 0)
  rw [sl_id] at hw
  refine y_cv (k := (k_c0, k_LW.2)) (j := 75) (n := 4 + 1) (kc := 0) (ks := 0) (S := s_X12_town) (av := [.int (xs (i + 4)), .int (xs (i + 3)), .int (xs (i + 2)), .int (xs (i + 1)), .ref 121]) (st := [.int v]) hC rfl rfl rfl (hrr (show ((cu + 0) + 0) ≤ 601024 by omega) (show ((su + 0) + 0) ≤ 7293034 by omega)) rfl rfl mo_X12_town hw (fun r N2 hN2 => ?_)
  obtain ⟨hA2, _, hag⟩ := hN2
  obtain ⟨v2, e1, rfl, _⟩ := hag.resolve_right (fun ⟨E, _, _, e1, _⟩ => by cases e1)
  cases e1
  refine y_run (k := (k_c0, k_LW.2)) mk_LW hC (cut := [1723, 219]) 1 ⟨fun _ => (?_ : eg_T2 L xs wd k_LW P 1723 ((cu + 0) + 0) ((su + 0) + 0) [some (.retAddr 1000), some (.ref 0), some (.ref 121), some (.ref 177), some (.int (nI i)), x5, x6, x7] [] N2), fun z => absurd rfl z⟩
  exact hn _ _ _ _ _ _ (by omega) (by omega) hA2
def k_c1 : List (Nat × Instr × Nat) := [(221, .aload_n 1, 1), (222, .aload_n 0, 1), (223, .iload 4, 2), (225, .iconst 1, 1), (226, .iadd, 1), (227, .iaload, 1), (228, .aload_n 0, 1), (229, .iload 4, 2), (231, .iconst 2, 1), (232, .iadd, 1), (233, .iaload, 1), (234, .aload_n 0, 1), (235, .iload 4, 2), (237, .iconst 3, 1), (238, .iadd, 1), (239, .iaload, 1), (240, .aload_n 3, 1), (241, .invokestatic 76, 3), (244, .istore 5, 2), (246, .aload_n 2, 1), (247, .aload_n 0, 1), (248, .iload 4, 2), (250, .iconst 1, 1), (251, .iadd, 1), (252, .iaload, 1), (253, .aload_n 0, 1), (254, .iload 4, 2), (256, .iconst 2, 1), (257, .iadd, 1), (258, .iaload, 1), (259, .aload_n 0, 1), (260, .iload 4, 2), (262, .iconst 3, 1), (263, .iadd, 1), (264, .iaload, 1), (265, .invokevirtual 81, 3), (268, .istore 6, 2), (270, .aload_n 2, 1), (271, .invokevirtual 82, 3), (274, .iload 5, 2), (276, .if_icmp .eq 5, 3), (281, .iload 5, 2), (283, .ifCond .ne 15, 3), (286, .aload_n 3, 1), (287, .iconst 0, 1), (288, .laload, 1), (289, .iload 6, 2), (291, .i2l, 1), (292, .lcmp, 1), (293, .ifCond .eq 5, 3), (298, .goto 1425, 3)]
theorem hs_c1 : ∀ q ∈ k_c1, eg_lq k_LW.1 q.1 = some q.2 := by decide +kernel
set_option maxRecDepth 100000 in
set_option maxHeartbeats 4000000 in
theorem lc_1 {L : Nat} {xs : Nat → Int32} {P : eg_P} {i cu su : Nat} {x5 x6 x7 : Option Value} {M : eg_M} (hL : i + 8 ≤ L) (hL2 : L ≤ 4096) (hcu : cu + 5 ≤ 601024) (hsu : su + 1212 ≤ 7293034) (hA : r_A M) (hn : ∀ cu' su' y5 y6 y7 M', cu' ≤ cu + 5 → su' ≤ su + 1212 → r_A M' → eg_T2 L xs wd k_LW P 1723 cu' su' [some (.retAddr 1000), some (.ref 0), some (.ref 121), some (.ref 177), some (.int (nI i)), y5, y6, y7] [] M') : eg_T2 L xs wd k_LW P 221 cu su [some (.retAddr 1000), some (.ref 0), some (.ref 121), some (.ref 177), some (.int (nI i)), x5, x6, x7] [] M := by
  have hs := hs_c1
  have hC := hC_sub (P := P) (L := L) (xs := xs) hs
  refine y_run (k := (k_c1, k_LW.2)) mk_LW hC (cut := [227]) 5 (?_ : eg_T2 L xs wd k_LW P 227 cu su [some (.retAddr 1000), some (.ref 0), some (.ref 121), some (.ref 177), some (.int (nI i)), x5, x6, x7] [.int (nI i + nI 1), .retAddr 1000, .ref 0] M)
  refine t2_ia (code := k_c1) hs rfl n_s (show i + 1 < L by omega) hL2 (?_ : eg_T2 L xs wd k_LW P 228 cu su [some (.retAddr 1000), some (.ref 0), some (.ref 121), some (.ref 177), some (.int (nI i)), x5, x6, x7] [.int (xs (i + 1)), .ref 0] M)
  refine y_run (k := (k_c1, k_LW.2)) mk_LW hC (cut := [233]) 4 (?_ : eg_T2 L xs wd k_LW P 233 cu su [some (.retAddr 1000), some (.ref 0), some (.ref 121), some (.ref 177), some (.int (nI i)), x5, x6, x7] [.int (nI i + nI 2), .retAddr 1000, .int (xs (i + 1)), .ref 0] M)
  refine t2_ia (code := k_c1) hs rfl n_s (show i + 2 < L by omega) hL2 (?_ : eg_T2 L xs wd k_LW P 234 cu su [some (.retAddr 1000), some (.ref 0), some (.ref 121), some (.ref 177), some (.int (nI i)), x5, x6, x7] [.int (xs (i + 2)), .int (xs (i + 1)), .ref 0] M)
  refine y_run (k := (k_c1, k_LW.2)) mk_LW hC (cut := [239]) 4 (?_ : eg_T2 L xs wd k_LW P 239 cu su [some (.retAddr 1000), some (.ref 0), some (.ref 121), some (.ref 177), some (.int (nI i)), x5, x6, x7] [.int (nI i + nI 3), .retAddr 1000, .int (xs (i + 2)), .int (xs (i + 1)), .ref 0] M)
  refine t2_ia (code := k_c1) hs rfl n_s (show i + 3 < L by omega) hL2 (?_ : eg_T2 L xs wd k_LW P 240 cu su [some (.retAddr 1000), some (.ref 0), some (.ref 121), some (.ref 177), some (.int (nI i)), x5, x6, x7] [.int (xs (i + 3)), .int (xs (i + 2)), .int (xs (i + 1)), .ref 0] M)
  refine y_run (k := (k_c1, k_LW.2)) mk_LW hC (cut := [241]) 1 (?_ : eg_T2 L xs wd k_LW P 241 cu su [some (.retAddr 1000), some (.ref 0), some (.ref 121), some (.ref 177), some (.int (nI i)), x5, x6, x7] [.ref 177, .int (xs (i + 3)), .int (xs (i + 2)), .int (xs (i + 1)), .ref 0] M)
  refine y_cs (k := (k_c1, k_LW.2)) (j := 76) (n := 5) (kc := 2) (ks := 12) (S := s_L_charter) (av := [.ref 177, .int (xs (i + 3)), .int (xs (i + 2)), .int (xs (i + 1)), .ref 0]) (st := []) hC rfl rfl rfl (hrr (show (cu + 2) ≤ 601024 by omega) (show (su + 12) ≤ 7293034 by omega)) rfl rfl mo_L_charter (wl_charter (xs (i + 1)) (xs (i + 2)) (xs (i + 3)) hA) (fun r N hN => ?_)
  obtain ⟨kk, rfl, hw⟩ := hN
  refine y_run (k := (k_c1, k_LW.2)) mk_LW hC (cut := [252]) 6 (?_ : eg_T2 L xs wd k_LW P 252 (cu + 2) (su + 12) [some (.retAddr 1000), some (.ref 0), some (.ref 121), some (.ref 177), some (.int (nI i)), some (.int kk), x6, x7] [.int (nI i + nI 1), .retAddr 1000, .ref 121] N)
  refine t2_ia (code := k_c1) hs rfl n_s (show i + 1 < L by omega) hL2 (?_ : eg_T2 L xs wd k_LW P 253 (cu + 2) (su + 12) [some (.retAddr 1000), some (.ref 0), some (.ref 121), some (.ref 177), some (.int (nI i)), some (.int kk), x6, x7] [.int (xs (i + 1)), .ref 121] N)
  refine y_run (k := (k_c1, k_LW.2)) mk_LW hC (cut := [258]) 4 (?_ : eg_T2 L xs wd k_LW P 258 (cu + 2) (su + 12) [some (.retAddr 1000), some (.ref 0), some (.ref 121), some (.ref 177), some (.int (nI i)), some (.int kk), x6, x7] [.int (nI i + nI 2), .retAddr 1000, .int (xs (i + 1)), .ref 121] N)
  refine t2_ia (code := k_c1) hs rfl n_s (show i + 2 < L by omega) hL2 (?_ : eg_T2 L xs wd k_LW P 259 (cu + 2) (su + 12) [some (.retAddr 1000), some (.ref 0), some (.ref 121), some (.ref 177), some (.int (nI i)), some (.int kk), x6, x7] [.int (xs (i + 2)), .int (xs (i + 1)), .ref 121] N)
  refine y_run (k := (k_c1, k_LW.2)) mk_LW hC (cut := [264]) 4 (?_ : eg_T2 L xs wd k_LW P 264 (cu + 2) (su + 12) [some (.retAddr 1000), some (.ref 0), some (.ref 121), some (.ref 177), some (.int (nI i)), some (.int kk), x6, x7] [.int (nI i + nI 3), .retAddr 1000, .int (xs (i + 2)), .int (xs (i + 1)), .ref 121] N)
  refine t2_ia (code := k_c1) hs rfl n_s (show i + 3 < L by omega) hL2 (?_ : eg_T2 L xs wd k_LW P 265 (cu + 2) (su + 12) [some (.retAddr 1000), some (.ref 0), some (.ref 121), some (.ref 177), some (.int (nI i)), some (.int kk), x6, x7] [.int (xs (i + 3)), .int (xs (i + 2)), .int (xs (i + 1)), .ref 121] N)
  refine y_cv (k := (k_c1, k_LW.2)) (j := 81) (n := 3 + 1) (kc := 0) (ks := 0) (S := s_X12_charter) (av := [.int (xs (i + 3)), .int (xs (i + 2)), .int (xs (i + 1)), .ref 121]) (st := []) hC rfl rfl rfl (hrr (show ((cu + 2) + 0) ≤ 601024 by omega) (show ((su + 12) + 0) ≤ 7293034 by omega)) rfl rfl mo_X12_charter hw (fun r N2 hN2 => ?_)
  obtain ⟨hA2, b, rfl, hk, hz⟩ := hN2
  refine y_run (k := (k_c1, k_LW.2)) mk_LW hC (cut := [271]) 2 (?_ : eg_T2 L xs wd k_LW P 271 ((cu + 2) + 0) ((su + 12) + 0) [some (.retAddr 1000), some (.ref 0), some (.ref 121), some (.ref 177), some (.int (nI i)), some (.int kk), some (.int b), x7] [.ref 121] N2)
  refine y_cv (k := (k_c1, k_LW.2)) (j := 82) (n := 0 + 1) (kc := 0) (ks := 0) (S := s_X12_thrown) (av := [.ref 121]) (st := []) hC rfl rfl rfl (hrr (show (((cu + 2) + 0) + 0) ≤ 601024 by omega) (show (((su + 12) + 0) + 0) ≤ 7293034 by omega)) rfl rfl mo_X12_thrown (th_ok hk) (fun r N3 hN3 => ?_)
  obtain ⟨rfl, rfl⟩ := hN3
  refine y_run (k := (k_c1, k_LW.2)) mk_LW hC (cut := [276]) 1 (?_ : eg_T2 L xs wd k_LW P 276 (((cu + 2) + 0) + 0) (((su + 12) + 0) + 0) [some (.retAddr 1000), some (.ref 0), some (.ref 121), some (.ref 177), some (.int (nI i)), some (.int kk), some (.int b), x7] [.int kk, .int kk] N3)
  refine y_run (k := (k_c1, k_LW.2)) mk_LW hC (cut := [281, 279]) 1 ⟨fun _ => (?_ : eg_T2 L xs wd k_LW P 281 (((cu + 2) + 0) + 0) (((su + 12) + 0) + 0) [some (.retAddr 1000), some (.ref 0), some (.ref 121), some (.ref 177), some (.int (nI i)), some (.int kk), some (.int b), x7] [] N3), fun z => absurd rfl z⟩
  refine y_run (k := (k_c1, k_LW.2)) mk_LW hC (cut := [283]) 1 (?_ : eg_T2 L xs wd k_LW P 283 (((cu + 2) + 0) + 0) (((su + 12) + 0) + 0) [some (.retAddr 1000), some (.ref 0), some (.ref 121), some (.ref 177), some (.int (nI i)), some (.int kk), some (.int b), x7] [.int kk] N3)
  refine y_run (k := (k_c1, k_LW.2)) mk_LW hC (cut := [298, 286]) 1 ⟨fun hk0 => (?_ : eg_T2 L xs wd k_LW P 286 (((cu + 2) + 0) + 0) (((su + 12) + 0) + 0) [some (.retAddr 1000), some (.ref 0), some (.ref 121), some (.ref 177), some (.int (nI i)), some (.int kk), some (.int b), x7] [] N3), fun _ => (?_ : eg_T2 L xs wd k_LW P 298 (((cu + 2) + 0) + 0) (((su + 12) + 0) + 0) [some (.retAddr 1000), some (.ref 0), some (.ref 121), some (.ref 177), some (.int (nI i)), some (.int kk), some (.int b), x7] [] N3)⟩
  · skip
    refine y_run (k := (k_c1, k_LW.2)) mk_LW hC (cut := [288]) 2 (?_ : eg_T2 L xs wd k_LW P 288 (((cu + 2) + 0) + 0) (((su + 12) + 0) + 0) [some (.retAddr 1000), some (.ref 0), some (.ref 121), some (.ref 177), some (.int (nI i)), some (.int kk), some (.int b), x7] [.int (nI 0), .ref 177] N3)
    refine y_run (k := (k_c1, k_LW.2)) mk_LW hC (cut := [289]) 1 ⟨vp177 N3, (?_ : eg_T2 L xs wd k_LW P 289 (((cu + 2) + 0) + 0) (((su + 12) + 0) + 0) [some (.retAddr 1000), some (.ref 0), some (.ref 121), some (.ref 177), some (.int (nI i)), some (.int kk), some (.int b), x7] [.long (eg_gl N3 177 (nI 0).toNatClampNeg)] N3)⟩
    refine y_run (k := (k_c1, k_LW.2)) mk_LW hC (cut := [293]) 3 (?_ : eg_T2 L xs wd k_LW P 293 (((cu + 2) + 0) + 0) (((su + 12) + 0) + 0) [some (.retAddr 1000), some (.ref 0), some (.ref 121), some (.ref 177), some (.int (nI i)), some (.int kk), some (.int b), x7] [.int (lg_cmp (eg_gl N3 177 (nI 0).toNatClampNeg) (b.toInt64))] N3)
    refine y_run (k := (k_c1, k_LW.2)) mk_LW hC (cut := [298, 296]) 1 ⟨fun _ => (?_ : eg_T2 L xs wd k_LW P 298 (((cu + 2) + 0) + 0) (((su + 12) + 0) + 0) [some (.retAddr 1000), some (.ref 0), some (.ref 121), some (.ref 177), some (.int (nI i)), some (.int kk), some (.int b), x7] [] N3), fun z => absurd ((lg_cmp_eq _ _).mpr (hz hk0)) z⟩
    refine y_run (k := (k_c1, k_LW.2)) mk_LW hC (cut := [1723]) 1 (?_ : eg_T2 L xs wd k_LW P 1723 (((cu + 2) + 0) + 0) (((su + 12) + 0) + 0) [some (.retAddr 1000), some (.ref 0), some (.ref 121), some (.ref 177), some (.int (nI i)), some (.int kk), some (.int b), x7] [] N3)
    exact hn _ _ _ _ _ _ (by omega) (by omega) hA2
  · skip
    refine y_run (k := (k_c1, k_LW.2)) mk_LW hC (cut := [1723]) 1 (?_ : eg_T2 L xs wd k_LW P 1723 (((cu + 2) + 0) + 0) (((su + 12) + 0) + 0) [some (.retAddr 1000), some (.ref 0), some (.ref 121), some (.ref 177), some (.int (nI i)), some (.int kk), some (.int b), x7] [] N3)
    exact hn _ _ _ _ _ _ (by omega) (by omega) hA2
def k_c2 : List (Nat × Instr × Nat) := [(301, .aload_n 1, 1), (302, .aload_n 0, 1), (303, .iload 4, 2), (305, .iconst 1, 1), (306, .iadd, 1), (307, .iaload, 1), (308, .aload_n 3, 1), (309, .invokestatic 86, 3), (312, .istore 5, 2), (314, .aload_n 2, 1), (315, .aload_n 0, 1), (316, .iload 4, 2), (318, .iconst 1, 1), (319, .iadd, 1), (320, .iaload, 1), (321, .invokevirtual 89, 3), (324, .istore 6, 2), (326, .aload_n 2, 1), (327, .invokevirtual 82, 3), (330, .iload 5, 2), (332, .if_icmp .eq 5, 3), (337, .iload 5, 2), (339, .ifCond .ne 15, 3), (342, .aload_n 3, 1), (343, .iconst 0, 1), (344, .laload, 1), (345, .iload 6, 2), (347, .i2l, 1), (348, .lcmp, 1), (349, .ifCond .eq 5, 3), (354, .goto 1369, 3)]
theorem hs_c2 : ∀ q ∈ k_c2, eg_lq k_LW.1 q.1 = some q.2 := by decide +kernel
set_option maxRecDepth 100000 in
set_option maxHeartbeats 4000000 in
theorem lc_2 {L : Nat} {xs : Nat → Int32} {P : eg_P} {i cu su : Nat} {x5 x6 x7 : Option Value} {M : eg_M} (hL : i + 8 ≤ L) (hL2 : L ≤ 4096) (hcu : cu + 5 ≤ 601024) (hsu : su + 1212 ≤ 7293034) (hA : r_A M) (hn : ∀ cu' su' y5 y6 y7 M', cu' ≤ cu + 5 → su' ≤ su + 1212 → r_A M' → eg_T2 L xs wd k_LW P 1723 cu' su' [some (.retAddr 1000), some (.ref 0), some (.ref 121), some (.ref 177), some (.int (nI i)), y5, y6, y7] [] M') : eg_T2 L xs wd k_LW P 301 cu su [some (.retAddr 1000), some (.ref 0), some (.ref 121), some (.ref 177), some (.int (nI i)), x5, x6, x7] [] M := by
  have hs := hs_c2
  have hC := hC_sub (P := P) (L := L) (xs := xs) hs
  refine y_run (k := (k_c2, k_LW.2)) mk_LW hC (cut := [307]) 5 (?_ : eg_T2 L xs wd k_LW P 307 cu su [some (.retAddr 1000), some (.ref 0), some (.ref 121), some (.ref 177), some (.int (nI i)), x5, x6, x7] [.int (nI i + nI 1), .retAddr 1000, .ref 0] M)
  refine t2_ia (code := k_c2) hs rfl n_s (show i + 1 < L by omega) hL2 (?_ : eg_T2 L xs wd k_LW P 308 cu su [some (.retAddr 1000), some (.ref 0), some (.ref 121), some (.ref 177), some (.int (nI i)), x5, x6, x7] [.int (xs (i + 1)), .ref 0] M)
  refine y_run (k := (k_c2, k_LW.2)) mk_LW hC (cut := [309]) 1 (?_ : eg_T2 L xs wd k_LW P 309 cu su [some (.retAddr 1000), some (.ref 0), some (.ref 121), some (.ref 177), some (.int (nI i)), x5, x6, x7] [.ref 177, .int (xs (i + 1)), .ref 0] M)
  refine y_cs (k := (k_c2, k_LW.2)) (j := 86) (n := 3) (kc := 1) (ks := 6) (S := s_L_days) (av := [.ref 177, .int (xs (i + 1)), .ref 0]) (st := []) hC rfl rfl rfl (hrr (show (cu + 1) ≤ 601024 by omega) (show (su + 6) ≤ 7293034 by omega)) rfl rfl mo_L_days (wl_days (xs (i + 1)) hA) (fun r N hN => ?_)
  obtain ⟨kk, rfl, hw⟩ := hN
  refine y_run (k := (k_c2, k_LW.2)) mk_LW hC (cut := [320]) 6 (?_ : eg_T2 L xs wd k_LW P 320 (cu + 1) (su + 6) [some (.retAddr 1000), some (.ref 0), some (.ref 121), some (.ref 177), some (.int (nI i)), some (.int kk), x6, x7] [.int (nI i + nI 1), .retAddr 1000, .ref 121] N)
  refine t2_ia (code := k_c2) hs rfl n_s (show i + 1 < L by omega) hL2 (?_ : eg_T2 L xs wd k_LW P 321 (cu + 1) (su + 6) [some (.retAddr 1000), some (.ref 0), some (.ref 121), some (.ref 177), some (.int (nI i)), some (.int kk), x6, x7] [.int (xs (i + 1)), .ref 121] N)
  refine y_cv (k := (k_c2, k_LW.2)) (j := 89) (n := 1 + 1) (kc := 0) (ks := 0) (S := s_X12_days) (av := [.int (xs (i + 1)), .ref 121]) (st := []) hC rfl rfl rfl (hrr (show ((cu + 1) + 0) ≤ 601024 by omega) (show ((su + 6) + 0) ≤ 7293034 by omega)) rfl rfl mo_X12_days hw (fun r N2 hN2 => ?_)
  obtain ⟨hA2, b, rfl, hk, hz⟩ := hN2
  refine y_run (k := (k_c2, k_LW.2)) mk_LW hC (cut := [327]) 2 (?_ : eg_T2 L xs wd k_LW P 327 ((cu + 1) + 0) ((su + 6) + 0) [some (.retAddr 1000), some (.ref 0), some (.ref 121), some (.ref 177), some (.int (nI i)), some (.int kk), some (.int b), x7] [.ref 121] N2)
  refine y_cv (k := (k_c2, k_LW.2)) (j := 82) (n := 0 + 1) (kc := 0) (ks := 0) (S := s_X12_thrown) (av := [.ref 121]) (st := []) hC rfl rfl rfl (hrr (show (((cu + 1) + 0) + 0) ≤ 601024 by omega) (show (((su + 6) + 0) + 0) ≤ 7293034 by omega)) rfl rfl mo_X12_thrown (th_ok hk) (fun r N3 hN3 => ?_)
  obtain ⟨rfl, rfl⟩ := hN3
  refine y_run (k := (k_c2, k_LW.2)) mk_LW hC (cut := [332]) 1 (?_ : eg_T2 L xs wd k_LW P 332 (((cu + 1) + 0) + 0) (((su + 6) + 0) + 0) [some (.retAddr 1000), some (.ref 0), some (.ref 121), some (.ref 177), some (.int (nI i)), some (.int kk), some (.int b), x7] [.int kk, .int kk] N3)
  refine y_run (k := (k_c2, k_LW.2)) mk_LW hC (cut := [337, 335]) 1 ⟨fun _ => (?_ : eg_T2 L xs wd k_LW P 337 (((cu + 1) + 0) + 0) (((su + 6) + 0) + 0) [some (.retAddr 1000), some (.ref 0), some (.ref 121), some (.ref 177), some (.int (nI i)), some (.int kk), some (.int b), x7] [] N3), fun z => absurd rfl z⟩
  refine y_run (k := (k_c2, k_LW.2)) mk_LW hC (cut := [339]) 1 (?_ : eg_T2 L xs wd k_LW P 339 (((cu + 1) + 0) + 0) (((su + 6) + 0) + 0) [some (.retAddr 1000), some (.ref 0), some (.ref 121), some (.ref 177), some (.int (nI i)), some (.int kk), some (.int b), x7] [.int kk] N3)
  refine y_run (k := (k_c2, k_LW.2)) mk_LW hC (cut := [354, 342]) 1 ⟨fun hk0 => (?_ : eg_T2 L xs wd k_LW P 342 (((cu + 1) + 0) + 0) (((su + 6) + 0) + 0) [some (.retAddr 1000), some (.ref 0), some (.ref 121), some (.ref 177), some (.int (nI i)), some (.int kk), some (.int b), x7] [] N3), fun _ => (?_ : eg_T2 L xs wd k_LW P 354 (((cu + 1) + 0) + 0) (((su + 6) + 0) + 0) [some (.retAddr 1000), some (.ref 0), some (.ref 121), some (.ref 177), some (.int (nI i)), some (.int kk), some (.int b), x7] [] N3)⟩
  · skip
    refine y_run (k := (k_c2, k_LW.2)) mk_LW hC (cut := [344]) 2 (?_ : eg_T2 L xs wd k_LW P 344 (((cu + 1) + 0) + 0) (((su + 6) + 0) + 0) [some (.retAddr 1000), some (.ref 0), some (.ref 121), some (.ref 177), some (.int (nI i)), some (.int kk), some (.int b), x7] [.int (nI 0), .ref 177] N3)
    refine y_run (k := (k_c2, k_LW.2)) mk_LW hC (cut := [345]) 1 ⟨vp177 N3, (?_ : eg_T2 L xs wd k_LW P 345 (((cu + 1) + 0) + 0) (((su + 6) + 0) + 0) [some (.retAddr 1000), some (.ref 0), some (.ref 121), some (.ref 177), some (.int (nI i)), some (.int kk), some (.int b), x7] [.long (eg_gl N3 177 (nI 0).toNatClampNeg)] N3)⟩
    refine y_run (k := (k_c2, k_LW.2)) mk_LW hC (cut := [349]) 3 (?_ : eg_T2 L xs wd k_LW P 349 (((cu + 1) + 0) + 0) (((su + 6) + 0) + 0) [some (.retAddr 1000), some (.ref 0), some (.ref 121), some (.ref 177), some (.int (nI i)), some (.int kk), some (.int b), x7] [.int (lg_cmp (eg_gl N3 177 (nI 0).toNatClampNeg) (b.toInt64))] N3)
    refine y_run (k := (k_c2, k_LW.2)) mk_LW hC (cut := [354, 352]) 1 ⟨fun _ => (?_ : eg_T2 L xs wd k_LW P 354 (((cu + 1) + 0) + 0) (((su + 6) + 0) + 0) [some (.retAddr 1000), some (.ref 0), some (.ref 121), some (.ref 177), some (.int (nI i)), some (.int kk), some (.int b), x7] [] N3), fun z => absurd ((lg_cmp_eq _ _).mpr (hz hk0)) z⟩
    refine y_run (k := (k_c2, k_LW.2)) mk_LW hC (cut := [1723]) 1 (?_ : eg_T2 L xs wd k_LW P 1723 (((cu + 1) + 0) + 0) (((su + 6) + 0) + 0) [some (.retAddr 1000), some (.ref 0), some (.ref 121), some (.ref 177), some (.int (nI i)), some (.int kk), some (.int b), x7] [] N3)
    exact hn _ _ _ _ _ _ (by omega) (by omega) hA2
  · skip
    refine y_run (k := (k_c2, k_LW.2)) mk_LW hC (cut := [1723]) 1 (?_ : eg_T2 L xs wd k_LW P 1723 (((cu + 1) + 0) + 0) (((su + 6) + 0) + 0) [some (.retAddr 1000), some (.ref 0), some (.ref 121), some (.ref 177), some (.int (nI i)), some (.int kk), some (.int b), x7] [] N3)
    exact hn _ _ _ _ _ _ (by omega) (by omega) hA2
def k_c3 : List (Nat × Instr × Nat) := [(357, .aload_n 1, 1), (358, .aload_n 0, 1), (359, .iload 4, 2), (361, .iconst 1, 1), (362, .iadd, 1), (363, .iaload, 1), (364, .aload_n 0, 1), (365, .iload 4, 2), (367, .iconst 2, 1), (368, .iadd, 1), (369, .iaload, 1), (370, .aload_n 0, 1), (371, .iload 4, 2), (373, .iconst 3, 1), (374, .iadd, 1), (375, .iaload, 1), (376, .aload_n 0, 1), (377, .iload 4, 2), (379, .iconst 4, 1), (380, .iadd, 1), (381, .iaload, 1), (382, .aload_n 0, 1), (383, .iload 4, 2), (385, .iconst 5, 1), (386, .iadd, 1), (387, .iaload, 1), (388, .aload_n 0, 1), (389, .iload 4, 2), (391, .bipush 6, 2), (393, .iadd, 1), (394, .iaload, 1), (395, .aload_n 0, 1), (396, .iload 4, 2), (398, .bipush 7, 2), (400, .iadd, 1), (401, .iaload, 1), (402, .aload_n 3, 1), (403, .invokestatic 90, 3), (406, .istore 5, 2), (408, .aload_n 2, 1), (409, .aload_n 0, 1), (410, .iload 4, 2), (412, .iconst 1, 1), (413, .iadd, 1), (414, .iaload, 1), (415, .aload_n 0, 1), (416, .iload 4, 2), (418, .iconst 2, 1), (419, .iadd, 1), (420, .iaload, 1), (421, .aload_n 0, 1), (422, .iload 4, 2), (424, .iconst 3, 1), (425, .iadd, 1), (426, .iaload, 1), (427, .aload_n 0, 1), (428, .iload 4, 2), (430, .iconst 4, 1), (431, .iadd, 1), (432, .iaload, 1), (433, .aload_n 0, 1), (434, .iload 4, 2), (436, .iconst 5, 1), (437, .iadd, 1), (438, .iaload, 1), (439, .aload_n 0, 1), (440, .iload 4, 2), (442, .bipush 6, 2), (444, .iadd, 1), (445, .iaload, 1), (446, .aload_n 0, 1), (447, .iload 4, 2), (449, .bipush 7, 2), (451, .iadd, 1), (452, .iaload, 1), (453, .invokevirtual 93, 3), (456, .istore 6, 2), (458, .aload_n 2, 1), (459, .invokevirtual 82, 3), (462, .iload 5, 2), (464, .if_icmp .eq 5, 3), (469, .iload 5, 2), (471, .ifCond .ne 15, 3), (474, .aload_n 3, 1), (475, .iconst 0, 1), (476, .laload, 1), (477, .iload 6, 2), (479, .i2l, 1), (480, .lcmp, 1), (481, .ifCond .eq 5, 3), (486, .goto 1237, 3)]
theorem hs_c3 : ∀ q ∈ k_c3, eg_lq k_LW.1 q.1 = some q.2 := by decide +kernel
set_option maxRecDepth 100000 in
set_option maxHeartbeats 4000000 in
theorem lc_3 {L : Nat} {xs : Nat → Int32} {P : eg_P} {i cu su : Nat} {x5 x6 x7 : Option Value} {M : eg_M} (hL : i + 8 ≤ L) (hL2 : L ≤ 4096) (hcu : cu + 5 ≤ 601024) (hsu : su + 1212 ≤ 7293034) (hA : r_A M) (hn : ∀ cu' su' y5 y6 y7 M', cu' ≤ cu + 5 → su' ≤ su + 1212 → r_A M' → eg_T2 L xs wd k_LW P 1723 cu' su' [some (.retAddr 1000), some (.ref 0), some (.ref 121), some (.ref 177), some (.int (nI i)), y5, y6, y7] [] M') : eg_T2 L xs wd k_LW P 357 cu su [some (.retAddr 1000), some (.ref 0), some (.ref 121), some (.ref 177), some (.int (nI i)), x5, x6, x7] [] M := by
  have hs := hs_c3
  have hC := hC_sub (P := P) (L := L) (xs := xs) hs
  refine y_run (k := (k_c3, k_LW.2)) mk_LW hC (cut := [363]) 5 (?_ : eg_T2 L xs wd k_LW P 363 cu su [some (.retAddr 1000), some (.ref 0), some (.ref 121), some (.ref 177), some (.int (nI i)), x5, x6, x7] [.int (nI i + nI 1), .retAddr 1000, .ref 0] M)
  refine t2_ia (code := k_c3) hs rfl n_s (show i + 1 < L by omega) hL2 (?_ : eg_T2 L xs wd k_LW P 364 cu su [some (.retAddr 1000), some (.ref 0), some (.ref 121), some (.ref 177), some (.int (nI i)), x5, x6, x7] [.int (xs (i + 1)), .ref 0] M)
  refine y_run (k := (k_c3, k_LW.2)) mk_LW hC (cut := [369]) 4 (?_ : eg_T2 L xs wd k_LW P 369 cu su [some (.retAddr 1000), some (.ref 0), some (.ref 121), some (.ref 177), some (.int (nI i)), x5, x6, x7] [.int (nI i + nI 2), .retAddr 1000, .int (xs (i + 1)), .ref 0] M)
  refine t2_ia (code := k_c3) hs rfl n_s (show i + 2 < L by omega) hL2 (?_ : eg_T2 L xs wd k_LW P 370 cu su [some (.retAddr 1000), some (.ref 0), some (.ref 121), some (.ref 177), some (.int (nI i)), x5, x6, x7] [.int (xs (i + 2)), .int (xs (i + 1)), .ref 0] M)
  refine y_run (k := (k_c3, k_LW.2)) mk_LW hC (cut := [375]) 4 (?_ : eg_T2 L xs wd k_LW P 375 cu su [some (.retAddr 1000), some (.ref 0), some (.ref 121), some (.ref 177), some (.int (nI i)), x5, x6, x7] [.int (nI i + nI 3), .retAddr 1000, .int (xs (i + 2)), .int (xs (i + 1)), .ref 0] M)
  refine t2_ia (code := k_c3) hs rfl n_s (show i + 3 < L by omega) hL2 (?_ : eg_T2 L xs wd k_LW P 376 cu su [some (.retAddr 1000), some (.ref 0), some (.ref 121), some (.ref 177), some (.int (nI i)), x5, x6, x7] [.int (xs (i + 3)), .int (xs (i + 2)), .int (xs (i + 1)), .ref 0] M)
  refine y_run (k := (k_c3, k_LW.2)) mk_LW hC (cut := [381]) 4 (?_ : eg_T2 L xs wd k_LW P 381 cu su [some (.retAddr 1000), some (.ref 0), some (.ref 121), some (.ref 177), some (.int (nI i)), x5, x6, x7] [.int (nI i + nI 4), .retAddr 1000, .int (xs (i + 3)), .int (xs (i + 2)), .int (xs (i + 1)), .ref 0] M)
  refine t2_ia (code := k_c3) hs rfl n_s (show i + 4 < L by omega) hL2 (?_ : eg_T2 L xs wd k_LW P 382 cu su [some (.retAddr 1000), some (.ref 0), some (.ref 121), some (.ref 177), some (.int (nI i)), x5, x6, x7] [.int (xs (i + 4)), .int (xs (i + 3)), .int (xs (i + 2)), .int (xs (i + 1)), .ref 0] M)
  refine y_run (k := (k_c3, k_LW.2)) mk_LW hC (cut := [387]) 4 (?_ : eg_T2 L xs wd k_LW P 387 cu su [some (.retAddr 1000), some (.ref 0), some (.ref 121), some (.ref 177), some (.int (nI i)), x5, x6, x7] [.int (nI i + nI 5), .retAddr 1000, .int (xs (i + 4)), .int (xs (i + 3)), .int (xs (i + 2)), .int (xs (i + 1)), .ref 0] M)
  refine t2_ia (code := k_c3) hs rfl n_s (show i + 5 < L by omega) hL2 (?_ : eg_T2 L xs wd k_LW P 388 cu su [some (.retAddr 1000), some (.ref 0), some (.ref 121), some (.ref 177), some (.int (nI i)), x5, x6, x7] [.int (xs (i + 5)), .int (xs (i + 4)), .int (xs (i + 3)), .int (xs (i + 2)), .int (xs (i + 1)), .ref 0] M)
  refine y_run (k := (k_c3, k_LW.2)) mk_LW hC (cut := [394]) 4 (?_ : eg_T2 L xs wd k_LW P 394 cu su [some (.retAddr 1000), some (.ref 0), some (.ref 121), some (.ref 177), some (.int (nI i)), x5, x6, x7] [.int (nI i + nI 6), .retAddr 1000, .int (xs (i + 5)), .int (xs (i + 4)), .int (xs (i + 3)), .int (xs (i + 2)), .int (xs (i + 1)), .ref 0] M)
  refine t2_ia (code := k_c3) hs rfl n_s (show i + 6 < L by omega) hL2 (?_ : eg_T2 L xs wd k_LW P 395 cu su [some (.retAddr 1000), some (.ref 0), some (.ref 121), some (.ref 177), some (.int (nI i)), x5, x6, x7] [.int (xs (i + 6)), .int (xs (i + 5)), .int (xs (i + 4)), .int (xs (i + 3)), .int (xs (i + 2)), .int (xs (i + 1)), .ref 0] M)
  refine y_run (k := (k_c3, k_LW.2)) mk_LW hC (cut := [401]) 4 (?_ : eg_T2 L xs wd k_LW P 401 cu su [some (.retAddr 1000), some (.ref 0), some (.ref 121), some (.ref 177), some (.int (nI i)), x5, x6, x7] [.int (nI i + nI 7), .retAddr 1000, .int (xs (i + 6)), .int (xs (i + 5)), .int (xs (i + 4)), .int (xs (i + 3)), .int (xs (i + 2)), .int (xs (i + 1)), .ref 0] M)
  refine t2_ia (code := k_c3) hs rfl n_s (show i + 7 < L by omega) hL2 (?_ : eg_T2 L xs wd k_LW P 402 cu su [some (.retAddr 1000), some (.ref 0), some (.ref 121), some (.ref 177), some (.int (nI i)), x5, x6, x7] [.int (xs (i + 7)), .int (xs (i + 6)), .int (xs (i + 5)), .int (xs (i + 4)), .int (xs (i + 3)), .int (xs (i + 2)), .int (xs (i + 1)), .ref 0] M)
  refine y_run (k := (k_c3, k_LW.2)) mk_LW hC (cut := [403]) 1 (?_ : eg_T2 L xs wd k_LW P 403 cu su [some (.retAddr 1000), some (.ref 0), some (.ref 121), some (.ref 177), some (.int (nI i)), x5, x6, x7] [.ref 177, .int (xs (i + 7)), .int (xs (i + 6)), .int (xs (i + 5)), .int (xs (i + 4)), .int (xs (i + 3)), .int (xs (i + 2)), .int (xs (i + 1)), .ref 0] M)
  refine y_cs (k := (k_c3, k_LW.2)) (j := 90) (n := 9) (kc := 1) (ks := 6) (S := s_L_event) (av := [.ref 177, .int (xs (i + 7)), .int (xs (i + 6)), .int (xs (i + 5)), .int (xs (i + 4)), .int (xs (i + 3)), .int (xs (i + 2)), .int (xs (i + 1)), .ref 0]) (st := []) hC rfl rfl rfl (hrr (show (cu + 1) ≤ 601024 by omega) (show (su + 6) ≤ 7293034 by omega)) rfl rfl mo_L_event (wl_event (xs (i + 1)) (xs (i + 2)) (xs (i + 3)) (xs (i + 4)) (xs (i + 5)) (xs (i + 6)) (xs (i + 7)) hA) (fun r N hN => ?_)
  obtain ⟨kk, rfl, hw⟩ := hN
  refine y_run (k := (k_c3, k_LW.2)) mk_LW hC (cut := [414]) 6 (?_ : eg_T2 L xs wd k_LW P 414 (cu + 1) (su + 6) [some (.retAddr 1000), some (.ref 0), some (.ref 121), some (.ref 177), some (.int (nI i)), some (.int kk), x6, x7] [.int (nI i + nI 1), .retAddr 1000, .ref 121] N)
  refine t2_ia (code := k_c3) hs rfl n_s (show i + 1 < L by omega) hL2 (?_ : eg_T2 L xs wd k_LW P 415 (cu + 1) (su + 6) [some (.retAddr 1000), some (.ref 0), some (.ref 121), some (.ref 177), some (.int (nI i)), some (.int kk), x6, x7] [.int (xs (i + 1)), .ref 121] N)
  refine y_run (k := (k_c3, k_LW.2)) mk_LW hC (cut := [420]) 4 (?_ : eg_T2 L xs wd k_LW P 420 (cu + 1) (su + 6) [some (.retAddr 1000), some (.ref 0), some (.ref 121), some (.ref 177), some (.int (nI i)), some (.int kk), x6, x7] [.int (nI i + nI 2), .retAddr 1000, .int (xs (i + 1)), .ref 121] N)
  refine t2_ia (code := k_c3) hs rfl n_s (show i + 2 < L by omega) hL2 (?_ : eg_T2 L xs wd k_LW P 421 (cu + 1) (su + 6) [some (.retAddr 1000), some (.ref 0), some (.ref 121), some (.ref 177), some (.int (nI i)), some (.int kk), x6, x7] [.int (xs (i + 2)), .int (xs (i + 1)), .ref 121] N)
  refine y_run (k := (k_c3, k_LW.2)) mk_LW hC (cut := [426]) 4 (?_ : eg_T2 L xs wd k_LW P 426 (cu + 1) (su + 6) [some (.retAddr 1000), some (.ref 0), some (.ref 121), some (.ref 177), some (.int (nI i)), some (.int kk), x6, x7] [.int (nI i + nI 3), .retAddr 1000, .int (xs (i + 2)), .int (xs (i + 1)), .ref 121] N)
  refine t2_ia (code := k_c3) hs rfl n_s (show i + 3 < L by omega) hL2 (?_ : eg_T2 L xs wd k_LW P 427 (cu + 1) (su + 6) [some (.retAddr 1000), some (.ref 0), some (.ref 121), some (.ref 177), some (.int (nI i)), some (.int kk), x6, x7] [.int (xs (i + 3)), .int (xs (i + 2)), .int (xs (i + 1)), .ref 121] N)
  refine y_run (k := (k_c3, k_LW.2)) mk_LW hC (cut := [432]) 4 (?_ : eg_T2 L xs wd k_LW P 432 (cu + 1) (su + 6) [some (.retAddr 1000), some (.ref 0), some (.ref 121), some (.ref 177), some (.int (nI i)), some (.int kk), x6, x7] [.int (nI i + nI 4), .retAddr 1000, .int (xs (i + 3)), .int (xs (i + 2)), .int (xs (i + 1)), .ref 121] N)
  refine t2_ia (code := k_c3) hs rfl n_s (show i + 4 < L by omega) hL2 (?_ : eg_T2 L xs wd k_LW P 433 (cu + 1) (su + 6) [some (.retAddr 1000), some (.ref 0), some (.ref 121), some (.ref 177), some (.int (nI i)), some (.int kk), x6, x7] [.int (xs (i + 4)), .int (xs (i + 3)), .int (xs (i + 2)), .int (xs (i + 1)), .ref 121] N)
  refine y_run (k := (k_c3, k_LW.2)) mk_LW hC (cut := [438]) 4 (?_ : eg_T2 L xs wd k_LW P 438 (cu + 1) (su + 6) [some (.retAddr 1000), some (.ref 0), some (.ref 121), some (.ref 177), some (.int (nI i)), some (.int kk), x6, x7] [.int (nI i + nI 5), .retAddr 1000, .int (xs (i + 4)), .int (xs (i + 3)), .int (xs (i + 2)), .int (xs (i + 1)), .ref 121] N)
  refine t2_ia (code := k_c3) hs rfl n_s (show i + 5 < L by omega) hL2 (?_ : eg_T2 L xs wd k_LW P 439 (cu + 1) (su + 6) [some (.retAddr 1000), some (.ref 0), some (.ref 121), some (.ref 177), some (.int (nI i)), some (.int kk), x6, x7] [.int (xs (i + 5)), .int (xs (i + 4)), .int (xs (i + 3)), .int (xs (i + 2)), .int (xs (i + 1)), .ref 121] N)
  refine y_run (k := (k_c3, k_LW.2)) mk_LW hC (cut := [445]) 4 (?_ : eg_T2 L xs wd k_LW P 445 (cu + 1) (su + 6) [some (.retAddr 1000), some (.ref 0), some (.ref 121), some (.ref 177), some (.int (nI i)), some (.int kk), x6, x7] [.int (nI i + nI 6), .retAddr 1000, .int (xs (i + 5)), .int (xs (i + 4)), .int (xs (i + 3)), .int (xs (i + 2)), .int (xs (i + 1)), .ref 121] N)
  refine t2_ia (code := k_c3) hs rfl n_s (show i + 6 < L by omega) hL2 (?_ : eg_T2 L xs wd k_LW P 446 (cu + 1) (su + 6) [some (.retAddr 1000), some (.ref 0), some (.ref 121), some (.ref 177), some (.int (nI i)), some (.int kk), x6, x7] [.int (xs (i + 6)), .int (xs (i + 5)), .int (xs (i + 4)), .int (xs (i + 3)), .int (xs (i + 2)), .int (xs (i + 1)), .ref 121] N)
  refine y_run (k := (k_c3, k_LW.2)) mk_LW hC (cut := [452]) 4 (?_ : eg_T2 L xs wd k_LW P 452 (cu + 1) (su + 6) [some (.retAddr 1000), some (.ref 0), some (.ref 121), some (.ref 177), some (.int (nI i)), some (.int kk), x6, x7] [.int (nI i + nI 7), .retAddr 1000, .int (xs (i + 6)), .int (xs (i + 5)), .int (xs (i + 4)), .int (xs (i + 3)), .int (xs (i + 2)), .int (xs (i + 1)), .ref 121] N)
  refine t2_ia (code := k_c3) hs rfl n_s (show i + 7 < L by omega) hL2 (?_ : eg_T2 L xs wd k_LW P 453 (cu + 1) (su + 6) [some (.retAddr 1000), some (.ref 0), some (.ref 121), some (.ref 177), some (.int (nI i)), some (.int kk), x6, x7] [.int (xs (i + 7)), .int (xs (i + 6)), .int (xs (i + 5)), .int (xs (i + 4)), .int (xs (i + 3)), .int (xs (i + 2)), .int (xs (i + 1)), .ref 121] N)
  refine y_cv (k := (k_c3, k_LW.2)) (j := 93) (n := 7 + 1) (kc := 0) (ks := 0) (S := s_X12_event) (av := [.int (xs (i + 7)), .int (xs (i + 6)), .int (xs (i + 5)), .int (xs (i + 4)), .int (xs (i + 3)), .int (xs (i + 2)), .int (xs (i + 1)), .ref 121]) (st := []) hC rfl rfl rfl (hrr (show ((cu + 1) + 0) ≤ 601024 by omega) (show ((su + 6) + 0) ≤ 7293034 by omega)) rfl rfl mo_X12_event hw (fun r N2 hN2 => ?_)
  obtain ⟨hA2, b, rfl, hk, hz⟩ := hN2
  refine y_run (k := (k_c3, k_LW.2)) mk_LW hC (cut := [459]) 2 (?_ : eg_T2 L xs wd k_LW P 459 ((cu + 1) + 0) ((su + 6) + 0) [some (.retAddr 1000), some (.ref 0), some (.ref 121), some (.ref 177), some (.int (nI i)), some (.int kk), some (.int b), x7] [.ref 121] N2)
  refine y_cv (k := (k_c3, k_LW.2)) (j := 82) (n := 0 + 1) (kc := 0) (ks := 0) (S := s_X12_thrown) (av := [.ref 121]) (st := []) hC rfl rfl rfl (hrr (show (((cu + 1) + 0) + 0) ≤ 601024 by omega) (show (((su + 6) + 0) + 0) ≤ 7293034 by omega)) rfl rfl mo_X12_thrown (th_ok hk) (fun r N3 hN3 => ?_)
  obtain ⟨rfl, rfl⟩ := hN3
  refine y_run (k := (k_c3, k_LW.2)) mk_LW hC (cut := [464]) 1 (?_ : eg_T2 L xs wd k_LW P 464 (((cu + 1) + 0) + 0) (((su + 6) + 0) + 0) [some (.retAddr 1000), some (.ref 0), some (.ref 121), some (.ref 177), some (.int (nI i)), some (.int kk), some (.int b), x7] [.int kk, .int kk] N3)
  refine y_run (k := (k_c3, k_LW.2)) mk_LW hC (cut := [469, 467]) 1 ⟨fun _ => (?_ : eg_T2 L xs wd k_LW P 469 (((cu + 1) + 0) + 0) (((su + 6) + 0) + 0) [some (.retAddr 1000), some (.ref 0), some (.ref 121), some (.ref 177), some (.int (nI i)), some (.int kk), some (.int b), x7] [] N3), fun z => absurd rfl z⟩
  refine y_run (k := (k_c3, k_LW.2)) mk_LW hC (cut := [471]) 1 (?_ : eg_T2 L xs wd k_LW P 471 (((cu + 1) + 0) + 0) (((su + 6) + 0) + 0) [some (.retAddr 1000), some (.ref 0), some (.ref 121), some (.ref 177), some (.int (nI i)), some (.int kk), some (.int b), x7] [.int kk] N3)
  refine y_run (k := (k_c3, k_LW.2)) mk_LW hC (cut := [486, 474]) 1 ⟨fun hk0 => (?_ : eg_T2 L xs wd k_LW P 474 (((cu + 1) + 0) + 0) (((su + 6) + 0) + 0) [some (.retAddr 1000), some (.ref 0), some (.ref 121), some (.ref 177), some (.int (nI i)), some (.int kk), some (.int b), x7] [] N3), fun _ => (?_ : eg_T2 L xs wd k_LW P 486 (((cu + 1) + 0) + 0) (((su + 6) + 0) + 0) [some (.retAddr 1000), some (.ref 0), some (.ref 121), some (.ref 177), some (.int (nI i)), some (.int kk), some (.int b), x7] [] N3)⟩
  · skip
    refine y_run (k := (k_c3, k_LW.2)) mk_LW hC (cut := [476]) 2 (?_ : eg_T2 L xs wd k_LW P 476 (((cu + 1) + 0) + 0) (((su + 6) + 0) + 0) [some (.retAddr 1000), some (.ref 0), some (.ref 121), some (.ref 177), some (.int (nI i)), some (.int kk), some (.int b), x7] [.int (nI 0), .ref 177] N3)
    refine y_run (k := (k_c3, k_LW.2)) mk_LW hC (cut := [477]) 1 ⟨vp177 N3, (?_ : eg_T2 L xs wd k_LW P 477 (((cu + 1) + 0) + 0) (((su + 6) + 0) + 0) [some (.retAddr 1000), some (.ref 0), some (.ref 121), some (.ref 177), some (.int (nI i)), some (.int kk), some (.int b), x7] [.long (eg_gl N3 177 (nI 0).toNatClampNeg)] N3)⟩
    refine y_run (k := (k_c3, k_LW.2)) mk_LW hC (cut := [481]) 3 (?_ : eg_T2 L xs wd k_LW P 481 (((cu + 1) + 0) + 0) (((su + 6) + 0) + 0) [some (.retAddr 1000), some (.ref 0), some (.ref 121), some (.ref 177), some (.int (nI i)), some (.int kk), some (.int b), x7] [.int (lg_cmp (eg_gl N3 177 (nI 0).toNatClampNeg) (b.toInt64))] N3)
    refine y_run (k := (k_c3, k_LW.2)) mk_LW hC (cut := [486, 484]) 1 ⟨fun _ => (?_ : eg_T2 L xs wd k_LW P 486 (((cu + 1) + 0) + 0) (((su + 6) + 0) + 0) [some (.retAddr 1000), some (.ref 0), some (.ref 121), some (.ref 177), some (.int (nI i)), some (.int kk), some (.int b), x7] [] N3), fun z => absurd ((lg_cmp_eq _ _).mpr (hz hk0)) z⟩
    refine y_run (k := (k_c3, k_LW.2)) mk_LW hC (cut := [1723]) 1 (?_ : eg_T2 L xs wd k_LW P 1723 (((cu + 1) + 0) + 0) (((su + 6) + 0) + 0) [some (.retAddr 1000), some (.ref 0), some (.ref 121), some (.ref 177), some (.int (nI i)), some (.int kk), some (.int b), x7] [] N3)
    exact hn _ _ _ _ _ _ (by omega) (by omega) hA2
  · skip
    refine y_run (k := (k_c3, k_LW.2)) mk_LW hC (cut := [1723]) 1 (?_ : eg_T2 L xs wd k_LW P 1723 (((cu + 1) + 0) + 0) (((su + 6) + 0) + 0) [some (.retAddr 1000), some (.ref 0), some (.ref 121), some (.ref 177), some (.int (nI i)), some (.int kk), some (.int b), x7] [] N3)
    exact hn _ _ _ _ _ _ (by omega) (by omega) hA2
def k_c4 : List (Nat × Instr × Nat) := [(489, .aload_n 1, 1), (490, .aload_n 0, 1), (491, .iload 4, 2), (493, .iconst 1, 1), (494, .iadd, 1), (495, .iaload, 1), (496, .aload_n 3, 1), (497, .invokestatic 94, 3), (500, .istore 5, 2), (502, .aload_n 2, 1), (503, .aload_n 0, 1), (504, .iload 4, 2), (506, .iconst 1, 1), (507, .iadd, 1), (508, .iaload, 1), (509, .invokevirtual 96, 3), (512, .istore 6, 2), (514, .aload_n 2, 1), (515, .invokevirtual 82, 3), (518, .iload 5, 2), (520, .if_icmp .eq 5, 3), (525, .iload 5, 2), (527, .ifCond .ne 22, 3), (530, .aload_n 3, 1), (531, .iconst 0, 1), (532, .laload, 1), (533, .iload 6, 2), (535, .ifCond .eq 7, 3), (538, .lconst 1, 1), (539, .goto 4, 3), (542, .lconst 0, 1), (543, .lcmp, 1), (544, .ifCond .eq 5, 3), (549, .goto 1174, 3)]
theorem hs_c4 : ∀ q ∈ k_c4, eg_lq k_LW.1 q.1 = some q.2 := by decide +kernel
set_option maxRecDepth 100000 in
set_option maxHeartbeats 4000000 in
theorem lc_4 {L : Nat} {xs : Nat → Int32} {P : eg_P} {i cu su : Nat} {x5 x6 x7 : Option Value} {M : eg_M} (hL : i + 8 ≤ L) (hL2 : L ≤ 4096) (hcu : cu + 5 ≤ 601024) (hsu : su + 1212 ≤ 7293034) (hA : r_A M) (hn : ∀ cu' su' y5 y6 y7 M', cu' ≤ cu + 5 → su' ≤ su + 1212 → r_A M' → eg_T2 L xs wd k_LW P 1723 cu' su' [some (.retAddr 1000), some (.ref 0), some (.ref 121), some (.ref 177), some (.int (nI i)), y5, y6, y7] [] M') : eg_T2 L xs wd k_LW P 489 cu su [some (.retAddr 1000), some (.ref 0), some (.ref 121), some (.ref 177), some (.int (nI i)), x5, x6, x7] [] M := by
  have hs := hs_c4
  have hC := hC_sub (P := P) (L := L) (xs := xs) hs
  refine y_run (k := (k_c4, k_LW.2)) mk_LW hC (cut := [495]) 5 (?_ : eg_T2 L xs wd k_LW P 495 cu su [some (.retAddr 1000), some (.ref 0), some (.ref 121), some (.ref 177), some (.int (nI i)), x5, x6, x7] [.int (nI i + nI 1), .retAddr 1000, .ref 0] M)
  refine t2_ia (code := k_c4) hs rfl n_s (show i + 1 < L by omega) hL2 (?_ : eg_T2 L xs wd k_LW P 496 cu su [some (.retAddr 1000), some (.ref 0), some (.ref 121), some (.ref 177), some (.int (nI i)), x5, x6, x7] [.int (xs (i + 1)), .ref 0] M)
  refine y_run (k := (k_c4, k_LW.2)) mk_LW hC (cut := [497]) 1 (?_ : eg_T2 L xs wd k_LW P 497 cu su [some (.retAddr 1000), some (.ref 0), some (.ref 121), some (.ref 177), some (.int (nI i)), x5, x6, x7] [.ref 177, .int (xs (i + 1)), .ref 0] M)
  refine y_cs (k := (k_c4, k_LW.2)) (j := 94) (n := 3) (kc := 1) (ks := 6) (S := s_L_back) (av := [.ref 177, .int (xs (i + 1)), .ref 0]) (st := []) hC rfl rfl rfl (hrr (show (cu + 1) ≤ 601024 by omega) (show (su + 6) ≤ 7293034 by omega)) rfl rfl mo_L_back (wl_back (xs (i + 1)) hA) (fun r N hN => ?_)
  obtain ⟨kk, rfl, hw⟩ := hN
  refine y_run (k := (k_c4, k_LW.2)) mk_LW hC (cut := [508]) 6 (?_ : eg_T2 L xs wd k_LW P 508 (cu + 1) (su + 6) [some (.retAddr 1000), some (.ref 0), some (.ref 121), some (.ref 177), some (.int (nI i)), some (.int kk), x6, x7] [.int (nI i + nI 1), .retAddr 1000, .ref 121] N)
  refine t2_ia (code := k_c4) hs rfl n_s (show i + 1 < L by omega) hL2 (?_ : eg_T2 L xs wd k_LW P 509 (cu + 1) (su + 6) [some (.retAddr 1000), some (.ref 0), some (.ref 121), some (.ref 177), some (.int (nI i)), some (.int kk), x6, x7] [.int (xs (i + 1)), .ref 121] N)
  refine y_cv (k := (k_c4, k_LW.2)) (j := 96) (n := 1 + 1) (kc := 0) (ks := 0) (S := s_X12_back) (av := [.int (xs (i + 1)), .ref 121]) (st := []) hC rfl rfl rfl (hrr (show ((cu + 1) + 0) ≤ 601024 by omega) (show ((su + 6) + 0) ≤ 7293034 by omega)) rfl rfl mo_X12_back hw (fun r N2 hN2 => ?_)
  obtain ⟨hA2, b, rfl, hk, hz⟩ := hN2
  refine y_run (k := (k_c4, k_LW.2)) mk_LW hC (cut := [515]) 2 (?_ : eg_T2 L xs wd k_LW P 515 ((cu + 1) + 0) ((su + 6) + 0) [some (.retAddr 1000), some (.ref 0), some (.ref 121), some (.ref 177), some (.int (nI i)), some (.int kk), some (.int b), x7] [.ref 121] N2)
  refine y_cv (k := (k_c4, k_LW.2)) (j := 82) (n := 0 + 1) (kc := 0) (ks := 0) (S := s_X12_thrown) (av := [.ref 121]) (st := []) hC rfl rfl rfl (hrr (show (((cu + 1) + 0) + 0) ≤ 601024 by omega) (show (((su + 6) + 0) + 0) ≤ 7293034 by omega)) rfl rfl mo_X12_thrown (th_ok hk) (fun r N3 hN3 => ?_)
  obtain ⟨rfl, rfl⟩ := hN3
  refine y_run (k := (k_c4, k_LW.2)) mk_LW hC (cut := [520]) 1 (?_ : eg_T2 L xs wd k_LW P 520 (((cu + 1) + 0) + 0) (((su + 6) + 0) + 0) [some (.retAddr 1000), some (.ref 0), some (.ref 121), some (.ref 177), some (.int (nI i)), some (.int kk), some (.int b), x7] [.int kk, .int kk] N3)
  refine y_run (k := (k_c4, k_LW.2)) mk_LW hC (cut := [525, 523]) 1 ⟨fun _ => (?_ : eg_T2 L xs wd k_LW P 525 (((cu + 1) + 0) + 0) (((su + 6) + 0) + 0) [some (.retAddr 1000), some (.ref 0), some (.ref 121), some (.ref 177), some (.int (nI i)), some (.int kk), some (.int b), x7] [] N3), fun z => absurd rfl z⟩
  refine y_run (k := (k_c4, k_LW.2)) mk_LW hC (cut := [527]) 1 (?_ : eg_T2 L xs wd k_LW P 527 (((cu + 1) + 0) + 0) (((su + 6) + 0) + 0) [some (.retAddr 1000), some (.ref 0), some (.ref 121), some (.ref 177), some (.int (nI i)), some (.int kk), some (.int b), x7] [.int kk] N3)
  refine y_run (k := (k_c4, k_LW.2)) mk_LW hC (cut := [549, 530]) 1 ⟨fun hk0 => (?_ : eg_T2 L xs wd k_LW P 530 (((cu + 1) + 0) + 0) (((su + 6) + 0) + 0) [some (.retAddr 1000), some (.ref 0), some (.ref 121), some (.ref 177), some (.int (nI i)), some (.int kk), some (.int b), x7] [] N3), fun _ => (?_ : eg_T2 L xs wd k_LW P 549 (((cu + 1) + 0) + 0) (((su + 6) + 0) + 0) [some (.retAddr 1000), some (.ref 0), some (.ref 121), some (.ref 177), some (.int (nI i)), some (.int kk), some (.int b), x7] [] N3)⟩
  · skip
    refine y_run (k := (k_c4, k_LW.2)) mk_LW hC (cut := [532]) 2 (?_ : eg_T2 L xs wd k_LW P 532 (((cu + 1) + 0) + 0) (((su + 6) + 0) + 0) [some (.retAddr 1000), some (.ref 0), some (.ref 121), some (.ref 177), some (.int (nI i)), some (.int kk), some (.int b), x7] [.int (nI 0), .ref 177] N3)
    refine y_run (k := (k_c4, k_LW.2)) mk_LW hC (cut := [533]) 1 ⟨vp177 N3, (?_ : eg_T2 L xs wd k_LW P 533 (((cu + 1) + 0) + 0) (((su + 6) + 0) + 0) [some (.retAddr 1000), some (.ref 0), some (.ref 121), some (.ref 177), some (.int (nI i)), some (.int kk), some (.int b), x7] [.long (eg_gl N3 177 (nI 0).toNatClampNeg)] N3)⟩
    refine y_run (k := (k_c4, k_LW.2)) mk_LW hC (cut := [535]) 1 (?_ : eg_T2 L xs wd k_LW P 535 (((cu + 1) + 0) + 0) (((su + 6) + 0) + 0) [some (.retAddr 1000), some (.ref 0), some (.ref 121), some (.ref 177), some (.int (nI i)), some (.int kk), some (.int b), x7] [.int b, .long (eg_gl N3 177 (nI 0).toNatClampNeg)] N3)
    refine y_run (k := (k_c4, k_LW.2)) mk_LW hC (cut := [542, 538]) 1 ⟨fun hc => (?_ : eg_T2 L xs wd k_LW P 542 (((cu + 1) + 0) + 0) (((su + 6) + 0) + 0) [some (.retAddr 1000), some (.ref 0), some (.ref 121), some (.ref 177), some (.int (nI i)), some (.int kk), some (.int b), x7] [.long (eg_gl N3 177 (nI 0).toNatClampNeg)] N3), fun hc => (?_ : eg_T2 L xs wd k_LW P 538 (((cu + 1) + 0) + 0) (((su + 6) + 0) + 0) [some (.retAddr 1000), some (.ref 0), some (.ref 121), some (.ref 177), some (.int (nI i)), some (.int kk), some (.int b), x7] [.long (eg_gl N3 177 (nI 0).toNatClampNeg)] N3)⟩
    · skip
      refine y_run (k := (k_c4, k_LW.2)) mk_LW hC (cut := [544]) 2 (?_ : eg_T2 L xs wd k_LW P 544 (((cu + 1) + 0) + 0) (((su + 6) + 0) + 0) [some (.retAddr 1000), some (.ref 0), some (.ref 121), some (.ref 177), some (.int (nI i)), some (.int kk), some (.int b), x7] [.int (lg_cmp (eg_gl N3 177 (nI 0).toNatClampNeg) (lN 0))] N3)
      refine y_run (k := (k_c4, k_LW.2)) mk_LW hC (cut := [549, 547]) 1 ⟨fun _ => (?_ : eg_T2 L xs wd k_LW P 549 (((cu + 1) + 0) + 0) (((su + 6) + 0) + 0) [some (.retAddr 1000), some (.ref 0), some (.ref 121), some (.ref 177), some (.int (nI i)), some (.int kk), some (.int b), x7] [] N3), fun z => absurd ((lg_cmp_eq _ _).mpr ((hz hk0).trans (if_pos hc))) z⟩
      refine y_run (k := (k_c4, k_LW.2)) mk_LW hC (cut := [1723]) 1 (?_ : eg_T2 L xs wd k_LW P 1723 (((cu + 1) + 0) + 0) (((su + 6) + 0) + 0) [some (.retAddr 1000), some (.ref 0), some (.ref 121), some (.ref 177), some (.int (nI i)), some (.int kk), some (.int b), x7] [] N3)
      exact hn _ _ _ _ _ _ (by omega) (by omega) hA2
    · skip
      refine y_run (k := (k_c4, k_LW.2)) mk_LW hC (cut := [544]) 3 (?_ : eg_T2 L xs wd k_LW P 544 (((cu + 1) + 0) + 0) (((su + 6) + 0) + 0) [some (.retAddr 1000), some (.ref 0), some (.ref 121), some (.ref 177), some (.int (nI i)), some (.int kk), some (.int b), x7] [.int (lg_cmp (eg_gl N3 177 (nI 0).toNatClampNeg) (lN 1))] N3)
      refine y_run (k := (k_c4, k_LW.2)) mk_LW hC (cut := [549, 547]) 1 ⟨fun _ => (?_ : eg_T2 L xs wd k_LW P 549 (((cu + 1) + 0) + 0) (((su + 6) + 0) + 0) [some (.retAddr 1000), some (.ref 0), some (.ref 121), some (.ref 177), some (.int (nI i)), some (.int kk), some (.int b), x7] [] N3), fun z => absurd ((lg_cmp_eq _ _).mpr ((hz hk0).trans (if_neg hc))) z⟩
      refine y_run (k := (k_c4, k_LW.2)) mk_LW hC (cut := [1723]) 1 (?_ : eg_T2 L xs wd k_LW P 1723 (((cu + 1) + 0) + 0) (((su + 6) + 0) + 0) [some (.retAddr 1000), some (.ref 0), some (.ref 121), some (.ref 177), some (.int (nI i)), some (.int kk), some (.int b), x7] [] N3)
      exact hn _ _ _ _ _ _ (by omega) (by omega) hA2
  · skip
    refine y_run (k := (k_c4, k_LW.2)) mk_LW hC (cut := [1723]) 1 (?_ : eg_T2 L xs wd k_LW P 1723 (((cu + 1) + 0) + 0) (((su + 6) + 0) + 0) [some (.retAddr 1000), some (.ref 0), some (.ref 121), some (.ref 177), some (.int (nI i)), some (.int kk), some (.int b), x7] [] N3)
    exact hn _ _ _ _ _ _ (by omega) (by omega) hA2
def k_c5 : List (Nat × Instr × Nat) := [(552, .aload_n 1, 1), (553, .aload_n 0, 1), (554, .iload 4, 2), (556, .iconst 1, 1), (557, .iadd, 1), (558, .iaload, 1), (559, .aload_n 0, 1), (560, .iload 4, 2), (562, .iconst 2, 1), (563, .iadd, 1), (564, .iaload, 1), (565, .aload_n 0, 1), (566, .iload 4, 2), (568, .iconst 3, 1), (569, .iadd, 1), (570, .iaload, 1), (571, .aload_n 0, 1), (572, .iload 4, 2), (574, .iconst 4, 1), (575, .iadd, 1), (576, .iaload, 1), (577, .aload_n 0, 1), (578, .iload 4, 2), (580, .iconst 5, 1), (581, .iadd, 1), (582, .iaload, 1), (583, .invokevirtual 97, 3), (586, .aload_n 2, 1), (587, .aload_n 0, 1), (588, .iload 4, 2), (590, .iconst 1, 1), (591, .iadd, 1), (592, .iaload, 1), (593, .aload_n 0, 1), (594, .iload 4, 2), (596, .iconst 2, 1), (597, .iadd, 1), (598, .iaload, 1), (599, .aload_n 0, 1), (600, .iload 4, 2), (602, .iconst 3, 1), (603, .iadd, 1), (604, .iaload, 1), (605, .aload_n 0, 1), (606, .iload 4, 2), (608, .iconst 4, 1), (609, .iadd, 1), (610, .iaload, 1), (611, .aload_n 0, 1), (612, .iload 4, 2), (614, .iconst 5, 1), (615, .iadd, 1), (616, .iaload, 1), (617, .invokevirtual 101, 3), (620, .if_icmp .eq 1103, 3)]
theorem hs_c5 : ∀ q ∈ k_c5, eg_lq k_LW.1 q.1 = some q.2 := by decide +kernel
set_option maxRecDepth 100000 in
set_option maxHeartbeats 4000000 in
theorem lc_5 {L : Nat} {xs : Nat → Int32} {P : eg_P} {i cu su : Nat} {x5 x6 x7 : Option Value} {M : eg_M} (hL : i + 8 ≤ L) (hL2 : L ≤ 4096) (hcu : cu + 5 ≤ 601024) (hsu : su + 1212 ≤ 7293034) (hA : r_A M) (hn : ∀ cu' su' y5 y6 y7 M', cu' ≤ cu + 5 → su' ≤ su + 1212 → r_A M' → eg_T2 L xs wd k_LW P 1723 cu' su' [some (.retAddr 1000), some (.ref 0), some (.ref 121), some (.ref 177), some (.int (nI i)), y5, y6, y7] [] M') : eg_T2 L xs wd k_LW P 552 cu su [some (.retAddr 1000), some (.ref 0), some (.ref 121), some (.ref 177), some (.int (nI i)), x5, x6, x7] [] M := by
  have hs := hs_c5
  have hC := hC_sub (P := P) (L := L) (xs := xs) hs
  refine y_run (k := (k_c5, k_LW.2)) mk_LW hC (cut := [558]) 5 (?_ : eg_T2 L xs wd k_LW P 558 cu su [some (.retAddr 1000), some (.ref 0), some (.ref 121), some (.ref 177), some (.int (nI i)), x5, x6, x7] [.int (nI i + nI 1), .retAddr 1000, .ref 0] M)
  refine t2_ia (code := k_c5) hs rfl n_s (show i + 1 < L by omega) hL2 (?_ : eg_T2 L xs wd k_LW P 559 cu su [some (.retAddr 1000), some (.ref 0), some (.ref 121), some (.ref 177), some (.int (nI i)), x5, x6, x7] [.int (xs (i + 1)), .ref 0] M)
  refine y_run (k := (k_c5, k_LW.2)) mk_LW hC (cut := [564]) 4 (?_ : eg_T2 L xs wd k_LW P 564 cu su [some (.retAddr 1000), some (.ref 0), some (.ref 121), some (.ref 177), some (.int (nI i)), x5, x6, x7] [.int (nI i + nI 2), .retAddr 1000, .int (xs (i + 1)), .ref 0] M)
  refine t2_ia (code := k_c5) hs rfl n_s (show i + 2 < L by omega) hL2 (?_ : eg_T2 L xs wd k_LW P 565 cu su [some (.retAddr 1000), some (.ref 0), some (.ref 121), some (.ref 177), some (.int (nI i)), x5, x6, x7] [.int (xs (i + 2)), .int (xs (i + 1)), .ref 0] M)
  refine y_run (k := (k_c5, k_LW.2)) mk_LW hC (cut := [570]) 4 (?_ : eg_T2 L xs wd k_LW P 570 cu su [some (.retAddr 1000), some (.ref 0), some (.ref 121), some (.ref 177), some (.int (nI i)), x5, x6, x7] [.int (nI i + nI 3), .retAddr 1000, .int (xs (i + 2)), .int (xs (i + 1)), .ref 0] M)
  refine t2_ia (code := k_c5) hs rfl n_s (show i + 3 < L by omega) hL2 (?_ : eg_T2 L xs wd k_LW P 571 cu su [some (.retAddr 1000), some (.ref 0), some (.ref 121), some (.ref 177), some (.int (nI i)), x5, x6, x7] [.int (xs (i + 3)), .int (xs (i + 2)), .int (xs (i + 1)), .ref 0] M)
  refine y_run (k := (k_c5, k_LW.2)) mk_LW hC (cut := [576]) 4 (?_ : eg_T2 L xs wd k_LW P 576 cu su [some (.retAddr 1000), some (.ref 0), some (.ref 121), some (.ref 177), some (.int (nI i)), x5, x6, x7] [.int (nI i + nI 4), .retAddr 1000, .int (xs (i + 3)), .int (xs (i + 2)), .int (xs (i + 1)), .ref 0] M)
  refine t2_ia (code := k_c5) hs rfl n_s (show i + 4 < L by omega) hL2 (?_ : eg_T2 L xs wd k_LW P 577 cu su [some (.retAddr 1000), some (.ref 0), some (.ref 121), some (.ref 177), some (.int (nI i)), x5, x6, x7] [.int (xs (i + 4)), .int (xs (i + 3)), .int (xs (i + 2)), .int (xs (i + 1)), .ref 0] M)
  refine y_run (k := (k_c5, k_LW.2)) mk_LW hC (cut := [582]) 4 (?_ : eg_T2 L xs wd k_LW P 582 cu su [some (.retAddr 1000), some (.ref 0), some (.ref 121), some (.ref 177), some (.int (nI i)), x5, x6, x7] [.int (nI i + nI 5), .retAddr 1000, .int (xs (i + 4)), .int (xs (i + 3)), .int (xs (i + 2)), .int (xs (i + 1)), .ref 0] M)
  refine t2_ia (code := k_c5) hs rfl n_s (show i + 5 < L by omega) hL2 (?_ : eg_T2 L xs wd k_LW P 583 cu su [some (.retAddr 1000), some (.ref 0), some (.ref 121), some (.ref 177), some (.int (nI i)), x5, x6, x7] [.int (xs (i + 5)), .int (xs (i + 4)), .int (xs (i + 3)), .int (xs (i + 2)), .int (xs (i + 1)), .ref 0] M)
  refine y_cv (k := (k_c5, k_LW.2)) (j := 97) (n := 5 + 1) (kc := 0) (ks := 0) (S := s_X11_feed) (av := [.int (xs (i + 5)), .int (xs (i + 4)), .int (xs (i + 3)), .int (xs (i + 2)), .int (xs (i + 1)), .ref 0]) (st := []) hC rfl rfl rfl (hrr (show (cu + 0) ≤ 601024 by omega) (show (su + 0) ≤ 7293034 by omega)) rfl rfl mo_X11_feed ((pk_feed (xs (i + 1)) (xs (i + 2)) (xs (i + 3)) (xs (i + 4)) (xs (i + 5))) M hA) (fun r N hN => ?_)
  obtain ⟨hok, hw⟩ := hN
  obtain ⟨v, rfl⟩ := hok.resolve_right (fun ⟨E, q, _, hf⟩ => by simp at hf)
  refine y_run (k := (k_c5, k_LW.2)) mk_LW hC (cut := [592]) 5 (?_ : eg_T2 L xs wd k_LW P 592 (cu + 0) (su + 0) [some (.retAddr 1000), some (.ref 0), some (.ref 121), some (.ref 177), some (.int (nI i)), x5, x6, x7] [.int (nI i + nI 1), .retAddr 1000, .ref 121, .int v] N)
  refine t2_ia (code := k_c5) hs rfl n_s (show i + 1 < L by omega) hL2 (?_ : eg_T2 L xs wd k_LW P 593 (cu + 0) (su + 0) [some (.retAddr 1000), some (.ref 0), some (.ref 121), some (.ref 177), some (.int (nI i)), x5, x6, x7] [.int (xs (i + 1)), .ref 121, .int v] N)
  refine y_run (k := (k_c5, k_LW.2)) mk_LW hC (cut := [598]) 4 (?_ : eg_T2 L xs wd k_LW P 598 (cu + 0) (su + 0) [some (.retAddr 1000), some (.ref 0), some (.ref 121), some (.ref 177), some (.int (nI i)), x5, x6, x7] [.int (nI i + nI 2), .retAddr 1000, .int (xs (i + 1)), .ref 121, .int v] N)
  refine t2_ia (code := k_c5) hs rfl n_s (show i + 2 < L by omega) hL2 (?_ : eg_T2 L xs wd k_LW P 599 (cu + 0) (su + 0) [some (.retAddr 1000), some (.ref 0), some (.ref 121), some (.ref 177), some (.int (nI i)), x5, x6, x7] [.int (xs (i + 2)), .int (xs (i + 1)), .ref 121, .int v] N)
  refine y_run (k := (k_c5, k_LW.2)) mk_LW hC (cut := [604]) 4 (?_ : eg_T2 L xs wd k_LW P 604 (cu + 0) (su + 0) [some (.retAddr 1000), some (.ref 0), some (.ref 121), some (.ref 177), some (.int (nI i)), x5, x6, x7] [.int (nI i + nI 3), .retAddr 1000, .int (xs (i + 2)), .int (xs (i + 1)), .ref 121, .int v] N)
  refine t2_ia (code := k_c5) hs rfl n_s (show i + 3 < L by omega) hL2 (?_ : eg_T2 L xs wd k_LW P 605 (cu + 0) (su + 0) [some (.retAddr 1000), some (.ref 0), some (.ref 121), some (.ref 177), some (.int (nI i)), x5, x6, x7] [.int (xs (i + 3)), .int (xs (i + 2)), .int (xs (i + 1)), .ref 121, .int v] N)
  refine y_run (k := (k_c5, k_LW.2)) mk_LW hC (cut := [610]) 4 (?_ : eg_T2 L xs wd k_LW P 610 (cu + 0) (su + 0) [some (.retAddr 1000), some (.ref 0), some (.ref 121), some (.ref 177), some (.int (nI i)), x5, x6, x7] [.int (nI i + nI 4), .retAddr 1000, .int (xs (i + 3)), .int (xs (i + 2)), .int (xs (i + 1)), .ref 121, .int v] N)
  refine t2_ia (code := k_c5) hs rfl n_s (show i + 4 < L by omega) hL2 (?_ : eg_T2 L xs wd k_LW P 611 (cu + 0) (su + 0) [some (.retAddr 1000), some (.ref 0), some (.ref 121), some (.ref 177), some (.int (nI i)), x5, x6, x7] [.int (xs (i + 4)), .int (xs (i + 3)), .int (xs (i + 2)), .int (xs (i + 1)), .ref 121, .int v] N)
  refine y_run (k := (k_c5, k_LW.2)) mk_LW hC (cut := [616]) 4 (?_ : eg_T2 L xs wd k_LW P 616 (cu + 0) (su + 0) [some (.retAddr 1000), some (.ref 0), some (.ref 121), some (.ref 177), some (.int (nI i)), x5, x6, x7] [.int (nI i + nI 5), .retAddr 1000, .int (xs (i + 4)), .int (xs (i + 3)), .int (xs (i + 2)), .int (xs (i + 1)), .ref 121, .int v] N)
  refine t2_ia (code := k_c5) hs rfl n_s (show i + 5 < L by omega) hL2 (?_ : eg_T2 L xs wd k_LW P 617 (cu + 0) (su + 0) [some (.retAddr 1000), some (.ref 0), some (.ref 121), some (.ref 177), some (.int (nI i)), x5, x6, x7] [.int (xs (i + 5)), .int (xs (i + 4)), .int (xs (i + 3)), .int (xs (i + 2)), .int (xs (i + 1)), .ref 121, .int v] N)
  have hw := hw (eg_gl N 177 0)
  rw [sl_id] at hw
  refine y_cv (k := (k_c5, k_LW.2)) (j := 101) (n := 5 + 1) (kc := 0) (ks := 0) (S := s_X12_feed) (av := [.int (xs (i + 5)), .int (xs (i + 4)), .int (xs (i + 3)), .int (xs (i + 2)), .int (xs (i + 1)), .ref 121]) (st := [.int v]) hC rfl rfl rfl (hrr (show ((cu + 0) + 0) ≤ 601024 by omega) (show ((su + 0) + 0) ≤ 7293034 by omega)) rfl rfl mo_X12_feed hw (fun r N2 hN2 => ?_)
  obtain ⟨hA2, _, hag⟩ := hN2
  obtain ⟨v2, e1, rfl, _⟩ := hag.resolve_right (fun ⟨E, _, _, e1, _⟩ => by cases e1)
  cases e1
  refine y_run (k := (k_c5, k_LW.2)) mk_LW hC (cut := [1723, 623]) 1 ⟨fun _ => (?_ : eg_T2 L xs wd k_LW P 1723 ((cu + 0) + 0) ((su + 0) + 0) [some (.retAddr 1000), some (.ref 0), some (.ref 121), some (.ref 177), some (.int (nI i)), x5, x6, x7] [] N2), fun z => absurd rfl z⟩
  exact hn _ _ _ _ _ _ (by omega) (by omega) hA2
def k_c6 : List (Nat × Instr × Nat) := [(625, .aload_n 1, 1), (626, .aload_n 0, 1), (627, .iload 4, 2), (629, .iconst 1, 1), (630, .iadd, 1), (631, .iaload, 1), (632, .aload_n 3, 1), (633, .invokestatic 102, 3), (636, .istore 5, 2), (638, .aload_n 2, 1), (639, .aload_n 0, 1), (640, .iload 4, 2), (642, .iconst 1, 1), (643, .iadd, 1), (644, .iaload, 1), (645, .invokevirtual 104, 3), (648, .istore 6, 2), (650, .aload_n 2, 1), (651, .invokevirtual 82, 3), (654, .iload 5, 2), (656, .if_icmp .eq 5, 3), (661, .iload 5, 2), (663, .ifCond .ne 15, 3), (666, .aload_n 3, 1), (667, .iconst 0, 1), (668, .laload, 1), (669, .iload 6, 2), (671, .i2l, 1), (672, .lcmp, 1), (673, .ifCond .eq 5, 3), (678, .goto 1045, 3)]
theorem hs_c6 : ∀ q ∈ k_c6, eg_lq k_LW.1 q.1 = some q.2 := by decide +kernel
set_option maxRecDepth 100000 in
set_option maxHeartbeats 4000000 in
theorem lc_6 {L : Nat} {xs : Nat → Int32} {P : eg_P} {i cu su : Nat} {x5 x6 x7 : Option Value} {M : eg_M} (hL : i + 8 ≤ L) (hL2 : L ≤ 4096) (hcu : cu + 5 ≤ 601024) (hsu : su + 1212 ≤ 7293034) (hA : r_A M) (hn : ∀ cu' su' y5 y6 y7 M', cu' ≤ cu + 5 → su' ≤ su + 1212 → r_A M' → eg_T2 L xs wd k_LW P 1723 cu' su' [some (.retAddr 1000), some (.ref 0), some (.ref 121), some (.ref 177), some (.int (nI i)), y5, y6, y7] [] M') : eg_T2 L xs wd k_LW P 625 cu su [some (.retAddr 1000), some (.ref 0), some (.ref 121), some (.ref 177), some (.int (nI i)), x5, x6, x7] [] M := by
  have hs := hs_c6
  have hC := hC_sub (P := P) (L := L) (xs := xs) hs
  refine y_run (k := (k_c6, k_LW.2)) mk_LW hC (cut := [631]) 5 (?_ : eg_T2 L xs wd k_LW P 631 cu su [some (.retAddr 1000), some (.ref 0), some (.ref 121), some (.ref 177), some (.int (nI i)), x5, x6, x7] [.int (nI i + nI 1), .retAddr 1000, .ref 0] M)
  refine t2_ia (code := k_c6) hs rfl n_s (show i + 1 < L by omega) hL2 (?_ : eg_T2 L xs wd k_LW P 632 cu su [some (.retAddr 1000), some (.ref 0), some (.ref 121), some (.ref 177), some (.int (nI i)), x5, x6, x7] [.int (xs (i + 1)), .ref 0] M)
  refine y_run (k := (k_c6, k_LW.2)) mk_LW hC (cut := [633]) 1 (?_ : eg_T2 L xs wd k_LW P 633 cu su [some (.retAddr 1000), some (.ref 0), some (.ref 121), some (.ref 177), some (.int (nI i)), x5, x6, x7] [.ref 177, .int (xs (i + 1)), .ref 0] M)
  refine y_cs (k := (k_c6, k_LW.2)) (j := 102) (n := 3) (kc := 4) (ks := 1206) (S := s_L_rules) (av := [.ref 177, .int (xs (i + 1)), .ref 0]) (st := []) hC rfl rfl rfl (hrr (show (cu + 4) ≤ 601024 by omega) (show (su + 1206) ≤ 7293034 by omega)) rfl rfl mo_L_rules (wl_rules (xs (i + 1)) hA) (fun r N hN => ?_)
  obtain ⟨kk, rfl, hw⟩ := hN
  refine y_run (k := (k_c6, k_LW.2)) mk_LW hC (cut := [644]) 6 (?_ : eg_T2 L xs wd k_LW P 644 (cu + 4) (su + 1206) [some (.retAddr 1000), some (.ref 0), some (.ref 121), some (.ref 177), some (.int (nI i)), some (.int kk), x6, x7] [.int (nI i + nI 1), .retAddr 1000, .ref 121] N)
  refine t2_ia (code := k_c6) hs rfl n_s (show i + 1 < L by omega) hL2 (?_ : eg_T2 L xs wd k_LW P 645 (cu + 4) (su + 1206) [some (.retAddr 1000), some (.ref 0), some (.ref 121), some (.ref 177), some (.int (nI i)), some (.int kk), x6, x7] [.int (xs (i + 1)), .ref 121] N)
  refine y_cv (k := (k_c6, k_LW.2)) (j := 104) (n := 1 + 1) (kc := 0) (ks := 0) (S := s_X12_rules) (av := [.int (xs (i + 1)), .ref 121]) (st := []) hC rfl rfl rfl (hrr (show ((cu + 4) + 0) ≤ 601024 by omega) (show ((su + 1206) + 0) ≤ 7293034 by omega)) rfl rfl mo_X12_rules hw (fun r N2 hN2 => ?_)
  obtain ⟨hA2, b, rfl, hk, hz⟩ := hN2
  refine y_run (k := (k_c6, k_LW.2)) mk_LW hC (cut := [651]) 2 (?_ : eg_T2 L xs wd k_LW P 651 ((cu + 4) + 0) ((su + 1206) + 0) [some (.retAddr 1000), some (.ref 0), some (.ref 121), some (.ref 177), some (.int (nI i)), some (.int kk), some (.int b), x7] [.ref 121] N2)
  refine y_cv (k := (k_c6, k_LW.2)) (j := 82) (n := 0 + 1) (kc := 0) (ks := 0) (S := s_X12_thrown) (av := [.ref 121]) (st := []) hC rfl rfl rfl (hrr (show (((cu + 4) + 0) + 0) ≤ 601024 by omega) (show (((su + 1206) + 0) + 0) ≤ 7293034 by omega)) rfl rfl mo_X12_thrown (th_ok hk) (fun r N3 hN3 => ?_)
  obtain ⟨rfl, rfl⟩ := hN3
  refine y_run (k := (k_c6, k_LW.2)) mk_LW hC (cut := [656]) 1 (?_ : eg_T2 L xs wd k_LW P 656 (((cu + 4) + 0) + 0) (((su + 1206) + 0) + 0) [some (.retAddr 1000), some (.ref 0), some (.ref 121), some (.ref 177), some (.int (nI i)), some (.int kk), some (.int b), x7] [.int kk, .int kk] N3)
  refine y_run (k := (k_c6, k_LW.2)) mk_LW hC (cut := [661, 659]) 1 ⟨fun _ => (?_ : eg_T2 L xs wd k_LW P 661 (((cu + 4) + 0) + 0) (((su + 1206) + 0) + 0) [some (.retAddr 1000), some (.ref 0), some (.ref 121), some (.ref 177), some (.int (nI i)), some (.int kk), some (.int b), x7] [] N3), fun z => absurd rfl z⟩
  refine y_run (k := (k_c6, k_LW.2)) mk_LW hC (cut := [663]) 1 (?_ : eg_T2 L xs wd k_LW P 663 (((cu + 4) + 0) + 0) (((su + 1206) + 0) + 0) [some (.retAddr 1000), some (.ref 0), some (.ref 121), some (.ref 177), some (.int (nI i)), some (.int kk), some (.int b), x7] [.int kk] N3)
  refine y_run (k := (k_c6, k_LW.2)) mk_LW hC (cut := [678, 666]) 1 ⟨fun hk0 => (?_ : eg_T2 L xs wd k_LW P 666 (((cu + 4) + 0) + 0) (((su + 1206) + 0) + 0) [some (.retAddr 1000), some (.ref 0), some (.ref 121), some (.ref 177), some (.int (nI i)), some (.int kk), some (.int b), x7] [] N3), fun _ => (?_ : eg_T2 L xs wd k_LW P 678 (((cu + 4) + 0) + 0) (((su + 1206) + 0) + 0) [some (.retAddr 1000), some (.ref 0), some (.ref 121), some (.ref 177), some (.int (nI i)), some (.int kk), some (.int b), x7] [] N3)⟩
  · skip
    refine y_run (k := (k_c6, k_LW.2)) mk_LW hC (cut := [668]) 2 (?_ : eg_T2 L xs wd k_LW P 668 (((cu + 4) + 0) + 0) (((su + 1206) + 0) + 0) [some (.retAddr 1000), some (.ref 0), some (.ref 121), some (.ref 177), some (.int (nI i)), some (.int kk), some (.int b), x7] [.int (nI 0), .ref 177] N3)
    refine y_run (k := (k_c6, k_LW.2)) mk_LW hC (cut := [669]) 1 ⟨vp177 N3, (?_ : eg_T2 L xs wd k_LW P 669 (((cu + 4) + 0) + 0) (((su + 1206) + 0) + 0) [some (.retAddr 1000), some (.ref 0), some (.ref 121), some (.ref 177), some (.int (nI i)), some (.int kk), some (.int b), x7] [.long (eg_gl N3 177 (nI 0).toNatClampNeg)] N3)⟩
    refine y_run (k := (k_c6, k_LW.2)) mk_LW hC (cut := [673]) 3 (?_ : eg_T2 L xs wd k_LW P 673 (((cu + 4) + 0) + 0) (((su + 1206) + 0) + 0) [some (.retAddr 1000), some (.ref 0), some (.ref 121), some (.ref 177), some (.int (nI i)), some (.int kk), some (.int b), x7] [.int (lg_cmp (eg_gl N3 177 (nI 0).toNatClampNeg) (b.toInt64))] N3)
    refine y_run (k := (k_c6, k_LW.2)) mk_LW hC (cut := [678, 676]) 1 ⟨fun _ => (?_ : eg_T2 L xs wd k_LW P 678 (((cu + 4) + 0) + 0) (((su + 1206) + 0) + 0) [some (.retAddr 1000), some (.ref 0), some (.ref 121), some (.ref 177), some (.int (nI i)), some (.int kk), some (.int b), x7] [] N3), fun z => absurd ((lg_cmp_eq _ _).mpr (hz hk0)) z⟩
    refine y_run (k := (k_c6, k_LW.2)) mk_LW hC (cut := [1723]) 1 (?_ : eg_T2 L xs wd k_LW P 1723 (((cu + 4) + 0) + 0) (((su + 1206) + 0) + 0) [some (.retAddr 1000), some (.ref 0), some (.ref 121), some (.ref 177), some (.int (nI i)), some (.int kk), some (.int b), x7] [] N3)
    exact hn _ _ _ _ _ _ (by omega) (by omega) hA2
  · skip
    refine y_run (k := (k_c6, k_LW.2)) mk_LW hC (cut := [1723]) 1 (?_ : eg_T2 L xs wd k_LW P 1723 (((cu + 4) + 0) + 0) (((su + 1206) + 0) + 0) [some (.retAddr 1000), some (.ref 0), some (.ref 121), some (.ref 177), some (.int (nI i)), some (.int kk), some (.int b), x7] [] N3)
    exact hn _ _ _ _ _ _ (by omega) (by omega) hA2
def k_c7 : List (Nat × Instr × Nat) := [(681, .aload_n 1, 1), (682, .invokevirtual 105, 3), (685, .aload_n 2, 1), (686, .invokevirtual 108, 3), (689, .if_icmp .eq 1034, 3)]
theorem hs_c7 : ∀ q ∈ k_c7, eg_lq k_LW.1 q.1 = some q.2 := by decide +kernel
set_option maxRecDepth 100000 in
set_option maxHeartbeats 4000000 in
theorem lc_7 {L : Nat} {xs : Nat → Int32} {P : eg_P} {i cu su : Nat} {x5 x6 x7 : Option Value} {M : eg_M} (hL : i + 8 ≤ L) (hL2 : L ≤ 4096) (hcu : cu + 5 ≤ 601024) (hsu : su + 1212 ≤ 7293034) (hA : r_A M) (hn : ∀ cu' su' y5 y6 y7 M', cu' ≤ cu + 5 → su' ≤ su + 1212 → r_A M' → eg_T2 L xs wd k_LW P 1723 cu' su' [some (.retAddr 1000), some (.ref 0), some (.ref 121), some (.ref 177), some (.int (nI i)), y5, y6, y7] [] M') : eg_T2 L xs wd k_LW P 681 cu su [some (.retAddr 1000), some (.ref 0), some (.ref 121), some (.ref 177), some (.int (nI i)), x5, x6, x7] [] M := by
  have hs := hs_c7
  have hC := hC_sub (P := P) (L := L) (xs := xs) hs
  refine y_run (k := (k_c7, k_LW.2)) mk_LW hC (cut := [682]) 1 (?_ : eg_T2 L xs wd k_LW P 682 cu su [some (.retAddr 1000), some (.ref 0), some (.ref 121), some (.ref 177), some (.int (nI i)), x5, x6, x7] [.ref 0] M)
  refine y_cv (k := (k_c7, k_LW.2)) (j := 105) (n := 0 + 1) (kc := 0) (ks := 0) (S := s_X11_fault) (av := [.ref 0]) (st := []) hC rfl rfl rfl (hrr (show (cu + 0) ≤ 601024 by omega) (show (su + 0) ≤ 7293034 by omega)) rfl rfl mo_X11_fault (pk_fault M hA) (fun r N hN => ?_)
  obtain ⟨hok, hw⟩ := hN
  obtain ⟨v, rfl⟩ := hok.resolve_right (fun ⟨E, q, _, hf⟩ => by simp at hf)
  refine y_run (k := (k_c7, k_LW.2)) mk_LW hC (cut := [686]) 1 (?_ : eg_T2 L xs wd k_LW P 686 (cu + 0) (su + 0) [some (.retAddr 1000), some (.ref 0), some (.ref 121), some (.ref 177), some (.int (nI i)), x5, x6, x7] [.ref 121, .int v] N)
  have hw := hw (eg_gl N 177 0)
  rw [sl_id] at hw
  refine y_cv (k := (k_c7, k_LW.2)) (j := 108) (n := 0 + 1) (kc := 0) (ks := 0) (S := s_X12_fault) (av := [.ref 121]) (st := [.int v]) hC rfl rfl rfl (hrr (show ((cu + 0) + 0) ≤ 601024 by omega) (show ((su + 0) + 0) ≤ 7293034 by omega)) rfl rfl mo_X12_fault hw (fun r N2 hN2 => ?_)
  obtain ⟨hA2, _, hag⟩ := hN2
  obtain ⟨v2, e1, rfl, _⟩ := hag.resolve_right (fun ⟨E, _, _, e1, _⟩ => by cases e1)
  cases e1
  refine y_run (k := (k_c7, k_LW.2)) mk_LW hC (cut := [1723, 692]) 1 ⟨fun _ => (?_ : eg_T2 L xs wd k_LW P 1723 ((cu + 0) + 0) ((su + 0) + 0) [some (.retAddr 1000), some (.ref 0), some (.ref 121), some (.ref 177), some (.int (nI i)), x5, x6, x7] [] N2), fun z => absurd rfl z⟩
  exact hn _ _ _ _ _ _ (by omega) (by omega) hA2
def k_c8 : List (Nat × Instr × Nat) := [(694, .aload_n 1, 1), (695, .aload_n 0, 1), (696, .iload 4, 2), (698, .iconst 1, 1), (699, .iadd, 1), (700, .iaload, 1), (701, .aload_n 0, 1), (702, .iload 4, 2), (704, .iconst 2, 1), (705, .iadd, 1), (706, .iaload, 1), (707, .aload_n 0, 1), (708, .iload 4, 2), (710, .iconst 3, 1), (711, .iadd, 1), (712, .iaload, 1), (713, .aload_n 0, 1), (714, .iload 4, 2), (716, .iconst 4, 1), (717, .iadd, 1), (718, .iaload, 1), (719, .aload_n 3, 1), (720, .invokestatic 109, 3), (723, .istore 5, 2), (725, .aload_n 2, 1), (726, .aload_n 0, 1), (727, .iload 4, 2), (729, .iconst 1, 1), (730, .iadd, 1), (731, .iaload, 1), (732, .aload_n 0, 1), (733, .iload 4, 2), (735, .iconst 2, 1), (736, .iadd, 1), (737, .iaload, 1), (738, .aload_n 0, 1), (739, .iload 4, 2), (741, .iconst 3, 1), (742, .iadd, 1), (743, .iaload, 1), (744, .aload_n 0, 1), (745, .iload 4, 2), (747, .iconst 4, 1), (748, .iadd, 1), (749, .iaload, 1), (750, .invokevirtual 112, 3), (753, .istore 6, 2), (755, .aload_n 2, 1), (756, .invokevirtual 82, 3), (759, .iload 5, 2), (761, .if_icmp .eq 5, 3), (766, .iload 5, 2), (768, .ifCond .ne 15, 3), (771, .aload_n 3, 1), (772, .iconst 0, 1), (773, .laload, 1), (774, .iload 6, 2), (776, .i2l, 1), (777, .lcmp, 1), (778, .ifCond .eq 5, 3), (783, .goto 940, 3)]
theorem hs_c8 : ∀ q ∈ k_c8, eg_lq k_LW.1 q.1 = some q.2 := by decide +kernel
set_option maxRecDepth 100000 in
set_option maxHeartbeats 4000000 in
theorem lc_8 {L : Nat} {xs : Nat → Int32} {P : eg_P} {i cu su : Nat} {x5 x6 x7 : Option Value} {M : eg_M} (hL : i + 8 ≤ L) (hL2 : L ≤ 4096) (hcu : cu + 5 ≤ 601024) (hsu : su + 1212 ≤ 7293034) (hA : r_A M) (hn : ∀ cu' su' y5 y6 y7 M', cu' ≤ cu + 5 → su' ≤ su + 1212 → r_A M' → eg_T2 L xs wd k_LW P 1723 cu' su' [some (.retAddr 1000), some (.ref 0), some (.ref 121), some (.ref 177), some (.int (nI i)), y5, y6, y7] [] M') : eg_T2 L xs wd k_LW P 694 cu su [some (.retAddr 1000), some (.ref 0), some (.ref 121), some (.ref 177), some (.int (nI i)), x5, x6, x7] [] M := by
  have hs := hs_c8
  have hC := hC_sub (P := P) (L := L) (xs := xs) hs
  refine y_run (k := (k_c8, k_LW.2)) mk_LW hC (cut := [700]) 5 (?_ : eg_T2 L xs wd k_LW P 700 cu su [some (.retAddr 1000), some (.ref 0), some (.ref 121), some (.ref 177), some (.int (nI i)), x5, x6, x7] [.int (nI i + nI 1), .retAddr 1000, .ref 0] M)
  refine t2_ia (code := k_c8) hs rfl n_s (show i + 1 < L by omega) hL2 (?_ : eg_T2 L xs wd k_LW P 701 cu su [some (.retAddr 1000), some (.ref 0), some (.ref 121), some (.ref 177), some (.int (nI i)), x5, x6, x7] [.int (xs (i + 1)), .ref 0] M)
  refine y_run (k := (k_c8, k_LW.2)) mk_LW hC (cut := [706]) 4 (?_ : eg_T2 L xs wd k_LW P 706 cu su [some (.retAddr 1000), some (.ref 0), some (.ref 121), some (.ref 177), some (.int (nI i)), x5, x6, x7] [.int (nI i + nI 2), .retAddr 1000, .int (xs (i + 1)), .ref 0] M)
  refine t2_ia (code := k_c8) hs rfl n_s (show i + 2 < L by omega) hL2 (?_ : eg_T2 L xs wd k_LW P 707 cu su [some (.retAddr 1000), some (.ref 0), some (.ref 121), some (.ref 177), some (.int (nI i)), x5, x6, x7] [.int (xs (i + 2)), .int (xs (i + 1)), .ref 0] M)
  refine y_run (k := (k_c8, k_LW.2)) mk_LW hC (cut := [712]) 4 (?_ : eg_T2 L xs wd k_LW P 712 cu su [some (.retAddr 1000), some (.ref 0), some (.ref 121), some (.ref 177), some (.int (nI i)), x5, x6, x7] [.int (nI i + nI 3), .retAddr 1000, .int (xs (i + 2)), .int (xs (i + 1)), .ref 0] M)
  refine t2_ia (code := k_c8) hs rfl n_s (show i + 3 < L by omega) hL2 (?_ : eg_T2 L xs wd k_LW P 713 cu su [some (.retAddr 1000), some (.ref 0), some (.ref 121), some (.ref 177), some (.int (nI i)), x5, x6, x7] [.int (xs (i + 3)), .int (xs (i + 2)), .int (xs (i + 1)), .ref 0] M)
  refine y_run (k := (k_c8, k_LW.2)) mk_LW hC (cut := [718]) 4 (?_ : eg_T2 L xs wd k_LW P 718 cu su [some (.retAddr 1000), some (.ref 0), some (.ref 121), some (.ref 177), some (.int (nI i)), x5, x6, x7] [.int (nI i + nI 4), .retAddr 1000, .int (xs (i + 3)), .int (xs (i + 2)), .int (xs (i + 1)), .ref 0] M)
  refine t2_ia (code := k_c8) hs rfl n_s (show i + 4 < L by omega) hL2 (?_ : eg_T2 L xs wd k_LW P 719 cu su [some (.retAddr 1000), some (.ref 0), some (.ref 121), some (.ref 177), some (.int (nI i)), x5, x6, x7] [.int (xs (i + 4)), .int (xs (i + 3)), .int (xs (i + 2)), .int (xs (i + 1)), .ref 0] M)
  refine y_run (k := (k_c8, k_LW.2)) mk_LW hC (cut := [720]) 1 (?_ : eg_T2 L xs wd k_LW P 720 cu su [some (.retAddr 1000), some (.ref 0), some (.ref 121), some (.ref 177), some (.int (nI i)), x5, x6, x7] [.ref 177, .int (xs (i + 4)), .int (xs (i + 3)), .int (xs (i + 2)), .int (xs (i + 1)), .ref 0] M)
  refine y_cs (k := (k_c8, k_LW.2)) (j := 109) (n := 6) (kc := 4) (ks := 24) (S := s_L_about) (av := [.ref 177, .int (xs (i + 4)), .int (xs (i + 3)), .int (xs (i + 2)), .int (xs (i + 1)), .ref 0]) (st := []) hC rfl rfl rfl (hrr (show (cu + 4) ≤ 601024 by omega) (show (su + 24) ≤ 7293034 by omega)) rfl rfl mo_L_about (wl_about (xs (i + 1)) (xs (i + 2)) (xs (i + 3)) (xs (i + 4)) hA) (fun r N hN => ?_)
  obtain ⟨kk, rfl, hw⟩ := hN
  refine y_run (k := (k_c8, k_LW.2)) mk_LW hC (cut := [731]) 6 (?_ : eg_T2 L xs wd k_LW P 731 (cu + 4) (su + 24) [some (.retAddr 1000), some (.ref 0), some (.ref 121), some (.ref 177), some (.int (nI i)), some (.int kk), x6, x7] [.int (nI i + nI 1), .retAddr 1000, .ref 121] N)
  refine t2_ia (code := k_c8) hs rfl n_s (show i + 1 < L by omega) hL2 (?_ : eg_T2 L xs wd k_LW P 732 (cu + 4) (su + 24) [some (.retAddr 1000), some (.ref 0), some (.ref 121), some (.ref 177), some (.int (nI i)), some (.int kk), x6, x7] [.int (xs (i + 1)), .ref 121] N)
  refine y_run (k := (k_c8, k_LW.2)) mk_LW hC (cut := [737]) 4 (?_ : eg_T2 L xs wd k_LW P 737 (cu + 4) (su + 24) [some (.retAddr 1000), some (.ref 0), some (.ref 121), some (.ref 177), some (.int (nI i)), some (.int kk), x6, x7] [.int (nI i + nI 2), .retAddr 1000, .int (xs (i + 1)), .ref 121] N)
  refine t2_ia (code := k_c8) hs rfl n_s (show i + 2 < L by omega) hL2 (?_ : eg_T2 L xs wd k_LW P 738 (cu + 4) (su + 24) [some (.retAddr 1000), some (.ref 0), some (.ref 121), some (.ref 177), some (.int (nI i)), some (.int kk), x6, x7] [.int (xs (i + 2)), .int (xs (i + 1)), .ref 121] N)
  refine y_run (k := (k_c8, k_LW.2)) mk_LW hC (cut := [743]) 4 (?_ : eg_T2 L xs wd k_LW P 743 (cu + 4) (su + 24) [some (.retAddr 1000), some (.ref 0), some (.ref 121), some (.ref 177), some (.int (nI i)), some (.int kk), x6, x7] [.int (nI i + nI 3), .retAddr 1000, .int (xs (i + 2)), .int (xs (i + 1)), .ref 121] N)
  refine t2_ia (code := k_c8) hs rfl n_s (show i + 3 < L by omega) hL2 (?_ : eg_T2 L xs wd k_LW P 744 (cu + 4) (su + 24) [some (.retAddr 1000), some (.ref 0), some (.ref 121), some (.ref 177), some (.int (nI i)), some (.int kk), x6, x7] [.int (xs (i + 3)), .int (xs (i + 2)), .int (xs (i + 1)), .ref 121] N)
  refine y_run (k := (k_c8, k_LW.2)) mk_LW hC (cut := [749]) 4 (?_ : eg_T2 L xs wd k_LW P 749 (cu + 4) (su + 24) [some (.retAddr 1000), some (.ref 0), some (.ref 121), some (.ref 177), some (.int (nI i)), some (.int kk), x6, x7] [.int (nI i + nI 4), .retAddr 1000, .int (xs (i + 3)), .int (xs (i + 2)), .int (xs (i + 1)), .ref 121] N)
  refine t2_ia (code := k_c8) hs rfl n_s (show i + 4 < L by omega) hL2 (?_ : eg_T2 L xs wd k_LW P 750 (cu + 4) (su + 24) [some (.retAddr 1000), some (.ref 0), some (.ref 121), some (.ref 177), some (.int (nI i)), some (.int kk), x6, x7] [.int (xs (i + 4)), .int (xs (i + 3)), .int (xs (i + 2)), .int (xs (i + 1)), .ref 121] N)
  refine y_cv (k := (k_c8, k_LW.2)) (j := 112) (n := 4 + 1) (kc := 0) (ks := 0) (S := s_X12_about) (av := [.int (xs (i + 4)), .int (xs (i + 3)), .int (xs (i + 2)), .int (xs (i + 1)), .ref 121]) (st := []) hC rfl rfl rfl (hrr (show ((cu + 4) + 0) ≤ 601024 by omega) (show ((su + 24) + 0) ≤ 7293034 by omega)) rfl rfl mo_X12_about hw (fun r N2 hN2 => ?_)
  obtain ⟨hA2, b, rfl, hk, hz⟩ := hN2
  refine y_run (k := (k_c8, k_LW.2)) mk_LW hC (cut := [756]) 2 (?_ : eg_T2 L xs wd k_LW P 756 ((cu + 4) + 0) ((su + 24) + 0) [some (.retAddr 1000), some (.ref 0), some (.ref 121), some (.ref 177), some (.int (nI i)), some (.int kk), some (.int b), x7] [.ref 121] N2)
  refine y_cv (k := (k_c8, k_LW.2)) (j := 82) (n := 0 + 1) (kc := 0) (ks := 0) (S := s_X12_thrown) (av := [.ref 121]) (st := []) hC rfl rfl rfl (hrr (show (((cu + 4) + 0) + 0) ≤ 601024 by omega) (show (((su + 24) + 0) + 0) ≤ 7293034 by omega)) rfl rfl mo_X12_thrown (th_ok hk) (fun r N3 hN3 => ?_)
  obtain ⟨rfl, rfl⟩ := hN3
  refine y_run (k := (k_c8, k_LW.2)) mk_LW hC (cut := [761]) 1 (?_ : eg_T2 L xs wd k_LW P 761 (((cu + 4) + 0) + 0) (((su + 24) + 0) + 0) [some (.retAddr 1000), some (.ref 0), some (.ref 121), some (.ref 177), some (.int (nI i)), some (.int kk), some (.int b), x7] [.int kk, .int kk] N3)
  refine y_run (k := (k_c8, k_LW.2)) mk_LW hC (cut := [766, 764]) 1 ⟨fun _ => (?_ : eg_T2 L xs wd k_LW P 766 (((cu + 4) + 0) + 0) (((su + 24) + 0) + 0) [some (.retAddr 1000), some (.ref 0), some (.ref 121), some (.ref 177), some (.int (nI i)), some (.int kk), some (.int b), x7] [] N3), fun z => absurd rfl z⟩
  refine y_run (k := (k_c8, k_LW.2)) mk_LW hC (cut := [768]) 1 (?_ : eg_T2 L xs wd k_LW P 768 (((cu + 4) + 0) + 0) (((su + 24) + 0) + 0) [some (.retAddr 1000), some (.ref 0), some (.ref 121), some (.ref 177), some (.int (nI i)), some (.int kk), some (.int b), x7] [.int kk] N3)
  refine y_run (k := (k_c8, k_LW.2)) mk_LW hC (cut := [783, 771]) 1 ⟨fun hk0 => (?_ : eg_T2 L xs wd k_LW P 771 (((cu + 4) + 0) + 0) (((su + 24) + 0) + 0) [some (.retAddr 1000), some (.ref 0), some (.ref 121), some (.ref 177), some (.int (nI i)), some (.int kk), some (.int b), x7] [] N3), fun _ => (?_ : eg_T2 L xs wd k_LW P 783 (((cu + 4) + 0) + 0) (((su + 24) + 0) + 0) [some (.retAddr 1000), some (.ref 0), some (.ref 121), some (.ref 177), some (.int (nI i)), some (.int kk), some (.int b), x7] [] N3)⟩
  · skip
    refine y_run (k := (k_c8, k_LW.2)) mk_LW hC (cut := [773]) 2 (?_ : eg_T2 L xs wd k_LW P 773 (((cu + 4) + 0) + 0) (((su + 24) + 0) + 0) [some (.retAddr 1000), some (.ref 0), some (.ref 121), some (.ref 177), some (.int (nI i)), some (.int kk), some (.int b), x7] [.int (nI 0), .ref 177] N3)
    refine y_run (k := (k_c8, k_LW.2)) mk_LW hC (cut := [774]) 1 ⟨vp177 N3, (?_ : eg_T2 L xs wd k_LW P 774 (((cu + 4) + 0) + 0) (((su + 24) + 0) + 0) [some (.retAddr 1000), some (.ref 0), some (.ref 121), some (.ref 177), some (.int (nI i)), some (.int kk), some (.int b), x7] [.long (eg_gl N3 177 (nI 0).toNatClampNeg)] N3)⟩
    refine y_run (k := (k_c8, k_LW.2)) mk_LW hC (cut := [778]) 3 (?_ : eg_T2 L xs wd k_LW P 778 (((cu + 4) + 0) + 0) (((su + 24) + 0) + 0) [some (.retAddr 1000), some (.ref 0), some (.ref 121), some (.ref 177), some (.int (nI i)), some (.int kk), some (.int b), x7] [.int (lg_cmp (eg_gl N3 177 (nI 0).toNatClampNeg) (b.toInt64))] N3)
    refine y_run (k := (k_c8, k_LW.2)) mk_LW hC (cut := [783, 781]) 1 ⟨fun _ => (?_ : eg_T2 L xs wd k_LW P 783 (((cu + 4) + 0) + 0) (((su + 24) + 0) + 0) [some (.retAddr 1000), some (.ref 0), some (.ref 121), some (.ref 177), some (.int (nI i)), some (.int kk), some (.int b), x7] [] N3), fun z => absurd ((lg_cmp_eq _ _).mpr (hz hk0)) z⟩
    refine y_run (k := (k_c8, k_LW.2)) mk_LW hC (cut := [1723]) 1 (?_ : eg_T2 L xs wd k_LW P 1723 (((cu + 4) + 0) + 0) (((su + 24) + 0) + 0) [some (.retAddr 1000), some (.ref 0), some (.ref 121), some (.ref 177), some (.int (nI i)), some (.int kk), some (.int b), x7] [] N3)
    exact hn _ _ _ _ _ _ (by omega) (by omega) hA2
  · skip
    refine y_run (k := (k_c8, k_LW.2)) mk_LW hC (cut := [1723]) 1 (?_ : eg_T2 L xs wd k_LW P 1723 (((cu + 4) + 0) + 0) (((su + 24) + 0) + 0) [some (.retAddr 1000), some (.ref 0), some (.ref 121), some (.ref 177), some (.int (nI i)), some (.int kk), some (.int b), x7] [] N3)
    exact hn _ _ _ _ _ _ (by omega) (by omega) hA2
def k_c9 : List (Nat × Instr × Nat) := [(786, .aload_n 1, 1), (787, .aload_n 0, 1), (788, .iload 4, 2), (790, .iconst 1, 1), (791, .iadd, 1), (792, .iaload, 1), (793, .aload_n 0, 1), (794, .iload 4, 2), (796, .iconst 2, 1), (797, .iadd, 1), (798, .iaload, 1), (799, .aload_n 0, 1), (800, .iload 4, 2), (802, .iconst 3, 1), (803, .iadd, 1), (804, .iaload, 1), (805, .aload_n 3, 1), (806, .invokestatic 113, 3), (809, .istore 5, 2), (811, .aload_n 2, 1), (812, .aload_n 0, 1), (813, .iload 4, 2), (815, .iconst 1, 1), (816, .iadd, 1), (817, .iaload, 1), (818, .aload_n 0, 1), (819, .iload 4, 2), (821, .iconst 2, 1), (822, .iadd, 1), (823, .iaload, 1), (824, .aload_n 0, 1), (825, .iload 4, 2), (827, .iconst 3, 1), (828, .iadd, 1), (829, .iaload, 1), (830, .invokevirtual 115, 3), (833, .lstore 6, 2), (835, .aload_n 2, 1), (836, .invokevirtual 82, 3), (839, .iload 5, 2), (841, .if_icmp .eq 5, 3), (846, .iload 5, 2), (848, .ifCond .ne 14, 3), (851, .aload_n 3, 1), (852, .iconst 0, 1), (853, .laload, 1), (854, .lload 6, 2), (856, .lcmp, 1), (857, .ifCond .eq 5, 3), (862, .goto 861, 3)]
theorem hs_c9 : ∀ q ∈ k_c9, eg_lq k_LW.1 q.1 = some q.2 := by decide +kernel
set_option maxRecDepth 100000 in
set_option maxHeartbeats 4000000 in
theorem lc_9 {L : Nat} {xs : Nat → Int32} {P : eg_P} {i cu su : Nat} {x5 x6 x7 : Option Value} {M : eg_M} (hL : i + 8 ≤ L) (hL2 : L ≤ 4096) (hcu : cu + 5 ≤ 601024) (hsu : su + 1212 ≤ 7293034) (hA : r_A M) (hn : ∀ cu' su' y5 y6 y7 M', cu' ≤ cu + 5 → su' ≤ su + 1212 → r_A M' → eg_T2 L xs wd k_LW P 1723 cu' su' [some (.retAddr 1000), some (.ref 0), some (.ref 121), some (.ref 177), some (.int (nI i)), y5, y6, y7] [] M') : eg_T2 L xs wd k_LW P 786 cu su [some (.retAddr 1000), some (.ref 0), some (.ref 121), some (.ref 177), some (.int (nI i)), x5, x6, x7] [] M := by
  have hs := hs_c9
  have hC := hC_sub (P := P) (L := L) (xs := xs) hs
  refine y_run (k := (k_c9, k_LW.2)) mk_LW hC (cut := [792]) 5 (?_ : eg_T2 L xs wd k_LW P 792 cu su [some (.retAddr 1000), some (.ref 0), some (.ref 121), some (.ref 177), some (.int (nI i)), x5, x6, x7] [.int (nI i + nI 1), .retAddr 1000, .ref 0] M)
  refine t2_ia (code := k_c9) hs rfl n_s (show i + 1 < L by omega) hL2 (?_ : eg_T2 L xs wd k_LW P 793 cu su [some (.retAddr 1000), some (.ref 0), some (.ref 121), some (.ref 177), some (.int (nI i)), x5, x6, x7] [.int (xs (i + 1)), .ref 0] M)
  refine y_run (k := (k_c9, k_LW.2)) mk_LW hC (cut := [798]) 4 (?_ : eg_T2 L xs wd k_LW P 798 cu su [some (.retAddr 1000), some (.ref 0), some (.ref 121), some (.ref 177), some (.int (nI i)), x5, x6, x7] [.int (nI i + nI 2), .retAddr 1000, .int (xs (i + 1)), .ref 0] M)
  refine t2_ia (code := k_c9) hs rfl n_s (show i + 2 < L by omega) hL2 (?_ : eg_T2 L xs wd k_LW P 799 cu su [some (.retAddr 1000), some (.ref 0), some (.ref 121), some (.ref 177), some (.int (nI i)), x5, x6, x7] [.int (xs (i + 2)), .int (xs (i + 1)), .ref 0] M)
  refine y_run (k := (k_c9, k_LW.2)) mk_LW hC (cut := [804]) 4 (?_ : eg_T2 L xs wd k_LW P 804 cu su [some (.retAddr 1000), some (.ref 0), some (.ref 121), some (.ref 177), some (.int (nI i)), x5, x6, x7] [.int (nI i + nI 3), .retAddr 1000, .int (xs (i + 2)), .int (xs (i + 1)), .ref 0] M)
  refine t2_ia (code := k_c9) hs rfl n_s (show i + 3 < L by omega) hL2 (?_ : eg_T2 L xs wd k_LW P 805 cu su [some (.retAddr 1000), some (.ref 0), some (.ref 121), some (.ref 177), some (.int (nI i)), x5, x6, x7] [.int (xs (i + 3)), .int (xs (i + 2)), .int (xs (i + 1)), .ref 0] M)
  refine y_run (k := (k_c9, k_LW.2)) mk_LW hC (cut := [806]) 1 (?_ : eg_T2 L xs wd k_LW P 806 cu su [some (.retAddr 1000), some (.ref 0), some (.ref 121), some (.ref 177), some (.int (nI i)), x5, x6, x7] [.ref 177, .int (xs (i + 3)), .int (xs (i + 2)), .int (xs (i + 1)), .ref 0] M)
  refine y_cs (k := (k_c9, k_LW.2)) (j := 113) (n := 5) (kc := 3) (ks := 18) (S := s_L_told) (av := [.ref 177, .int (xs (i + 3)), .int (xs (i + 2)), .int (xs (i + 1)), .ref 0]) (st := []) hC rfl rfl rfl (hrr (show (cu + 3) ≤ 601024 by omega) (show (su + 18) ≤ 7293034 by omega)) rfl rfl mo_L_told (wl_told (xs (i + 1)) (xs (i + 2)) (xs (i + 3)) hA) (fun r N hN => ?_)
  obtain ⟨kk, rfl, hw⟩ := hN
  refine y_run (k := (k_c9, k_LW.2)) mk_LW hC (cut := [817]) 6 (?_ : eg_T2 L xs wd k_LW P 817 (cu + 3) (su + 18) [some (.retAddr 1000), some (.ref 0), some (.ref 121), some (.ref 177), some (.int (nI i)), some (.int kk), x6, x7] [.int (nI i + nI 1), .retAddr 1000, .ref 121] N)
  refine t2_ia (code := k_c9) hs rfl n_s (show i + 1 < L by omega) hL2 (?_ : eg_T2 L xs wd k_LW P 818 (cu + 3) (su + 18) [some (.retAddr 1000), some (.ref 0), some (.ref 121), some (.ref 177), some (.int (nI i)), some (.int kk), x6, x7] [.int (xs (i + 1)), .ref 121] N)
  refine y_run (k := (k_c9, k_LW.2)) mk_LW hC (cut := [823]) 4 (?_ : eg_T2 L xs wd k_LW P 823 (cu + 3) (su + 18) [some (.retAddr 1000), some (.ref 0), some (.ref 121), some (.ref 177), some (.int (nI i)), some (.int kk), x6, x7] [.int (nI i + nI 2), .retAddr 1000, .int (xs (i + 1)), .ref 121] N)
  refine t2_ia (code := k_c9) hs rfl n_s (show i + 2 < L by omega) hL2 (?_ : eg_T2 L xs wd k_LW P 824 (cu + 3) (su + 18) [some (.retAddr 1000), some (.ref 0), some (.ref 121), some (.ref 177), some (.int (nI i)), some (.int kk), x6, x7] [.int (xs (i + 2)), .int (xs (i + 1)), .ref 121] N)
  refine y_run (k := (k_c9, k_LW.2)) mk_LW hC (cut := [829]) 4 (?_ : eg_T2 L xs wd k_LW P 829 (cu + 3) (su + 18) [some (.retAddr 1000), some (.ref 0), some (.ref 121), some (.ref 177), some (.int (nI i)), some (.int kk), x6, x7] [.int (nI i + nI 3), .retAddr 1000, .int (xs (i + 2)), .int (xs (i + 1)), .ref 121] N)
  refine t2_ia (code := k_c9) hs rfl n_s (show i + 3 < L by omega) hL2 (?_ : eg_T2 L xs wd k_LW P 830 (cu + 3) (su + 18) [some (.retAddr 1000), some (.ref 0), some (.ref 121), some (.ref 177), some (.int (nI i)), some (.int kk), x6, x7] [.int (xs (i + 3)), .int (xs (i + 2)), .int (xs (i + 1)), .ref 121] N)
  refine y_cv (k := (k_c9, k_LW.2)) (j := 115) (n := 3 + 1) (kc := 0) (ks := 0) (S := s_X12_told) (av := [.int (xs (i + 3)), .int (xs (i + 2)), .int (xs (i + 1)), .ref 121]) (st := []) hC rfl rfl rfl (hrr (show ((cu + 3) + 0) ≤ 601024 by omega) (show ((su + 18) + 0) ≤ 7293034 by omega)) rfl rfl mo_X12_told hw (fun r N2 hN2 => ?_)
  obtain ⟨hA2, b, rfl, hk, hz⟩ := hN2
  refine y_run (k := (k_c9, k_LW.2)) mk_LW hC (cut := [836]) 2 (?_ : eg_T2 L xs wd k_LW P 836 ((cu + 3) + 0) ((su + 18) + 0) [some (.retAddr 1000), some (.ref 0), some (.ref 121), some (.ref 177), some (.int (nI i)), some (.int kk), some (.long b), none] [.ref 121] N2)
  refine y_cv (k := (k_c9, k_LW.2)) (j := 82) (n := 0 + 1) (kc := 0) (ks := 0) (S := s_X12_thrown) (av := [.ref 121]) (st := []) hC rfl rfl rfl (hrr (show (((cu + 3) + 0) + 0) ≤ 601024 by omega) (show (((su + 18) + 0) + 0) ≤ 7293034 by omega)) rfl rfl mo_X12_thrown (th_ok hk) (fun r N3 hN3 => ?_)
  obtain ⟨rfl, rfl⟩ := hN3
  refine y_run (k := (k_c9, k_LW.2)) mk_LW hC (cut := [841]) 1 (?_ : eg_T2 L xs wd k_LW P 841 (((cu + 3) + 0) + 0) (((su + 18) + 0) + 0) [some (.retAddr 1000), some (.ref 0), some (.ref 121), some (.ref 177), some (.int (nI i)), some (.int kk), some (.long b), none] [.int kk, .int kk] N3)
  refine y_run (k := (k_c9, k_LW.2)) mk_LW hC (cut := [846, 844]) 1 ⟨fun _ => (?_ : eg_T2 L xs wd k_LW P 846 (((cu + 3) + 0) + 0) (((su + 18) + 0) + 0) [some (.retAddr 1000), some (.ref 0), some (.ref 121), some (.ref 177), some (.int (nI i)), some (.int kk), some (.long b), none] [] N3), fun z => absurd rfl z⟩
  refine y_run (k := (k_c9, k_LW.2)) mk_LW hC (cut := [848]) 1 (?_ : eg_T2 L xs wd k_LW P 848 (((cu + 3) + 0) + 0) (((su + 18) + 0) + 0) [some (.retAddr 1000), some (.ref 0), some (.ref 121), some (.ref 177), some (.int (nI i)), some (.int kk), some (.long b), none] [.int kk] N3)
  refine y_run (k := (k_c9, k_LW.2)) mk_LW hC (cut := [862, 851]) 1 ⟨fun hk0 => (?_ : eg_T2 L xs wd k_LW P 851 (((cu + 3) + 0) + 0) (((su + 18) + 0) + 0) [some (.retAddr 1000), some (.ref 0), some (.ref 121), some (.ref 177), some (.int (nI i)), some (.int kk), some (.long b), none] [] N3), fun _ => (?_ : eg_T2 L xs wd k_LW P 862 (((cu + 3) + 0) + 0) (((su + 18) + 0) + 0) [some (.retAddr 1000), some (.ref 0), some (.ref 121), some (.ref 177), some (.int (nI i)), some (.int kk), some (.long b), none] [] N3)⟩
  · skip
    refine y_run (k := (k_c9, k_LW.2)) mk_LW hC (cut := [853]) 2 (?_ : eg_T2 L xs wd k_LW P 853 (((cu + 3) + 0) + 0) (((su + 18) + 0) + 0) [some (.retAddr 1000), some (.ref 0), some (.ref 121), some (.ref 177), some (.int (nI i)), some (.int kk), some (.long b), none] [.int (nI 0), .ref 177] N3)
    refine y_run (k := (k_c9, k_LW.2)) mk_LW hC (cut := [854]) 1 ⟨vp177 N3, (?_ : eg_T2 L xs wd k_LW P 854 (((cu + 3) + 0) + 0) (((su + 18) + 0) + 0) [some (.retAddr 1000), some (.ref 0), some (.ref 121), some (.ref 177), some (.int (nI i)), some (.int kk), some (.long b), none] [.long (eg_gl N3 177 (nI 0).toNatClampNeg)] N3)⟩
    refine y_run (k := (k_c9, k_LW.2)) mk_LW hC (cut := [857]) 2 (?_ : eg_T2 L xs wd k_LW P 857 (((cu + 3) + 0) + 0) (((su + 18) + 0) + 0) [some (.retAddr 1000), some (.ref 0), some (.ref 121), some (.ref 177), some (.int (nI i)), some (.int kk), some (.long b), none] [.int (lg_cmp (eg_gl N3 177 (nI 0).toNatClampNeg) (b))] N3)
    refine y_run (k := (k_c9, k_LW.2)) mk_LW hC (cut := [862, 860]) 1 ⟨fun _ => (?_ : eg_T2 L xs wd k_LW P 862 (((cu + 3) + 0) + 0) (((su + 18) + 0) + 0) [some (.retAddr 1000), some (.ref 0), some (.ref 121), some (.ref 177), some (.int (nI i)), some (.int kk), some (.long b), none] [] N3), fun z => absurd ((lg_cmp_eq _ _).mpr (hz hk0)) z⟩
    refine y_run (k := (k_c9, k_LW.2)) mk_LW hC (cut := [1723]) 1 (?_ : eg_T2 L xs wd k_LW P 1723 (((cu + 3) + 0) + 0) (((su + 18) + 0) + 0) [some (.retAddr 1000), some (.ref 0), some (.ref 121), some (.ref 177), some (.int (nI i)), some (.int kk), some (.long b), none] [] N3)
    exact hn _ _ _ _ _ _ (by omega) (by omega) hA2
  · skip
    refine y_run (k := (k_c9, k_LW.2)) mk_LW hC (cut := [1723]) 1 (?_ : eg_T2 L xs wd k_LW P 1723 (((cu + 3) + 0) + 0) (((su + 18) + 0) + 0) [some (.retAddr 1000), some (.ref 0), some (.ref 121), some (.ref 177), some (.int (nI i)), some (.int kk), some (.long b), none] [] N3)
    exact hn _ _ _ _ _ _ (by omega) (by omega) hA2
def k_c10 : List (Nat × Instr × Nat) := [(865, .aload_n 1, 1), (866, .aload_n 0, 1), (867, .iload 4, 2), (869, .iconst 1, 1), (870, .iadd, 1), (871, .iaload, 1), (872, .aload_n 0, 1), (873, .iload 4, 2), (875, .iconst 2, 1), (876, .iadd, 1), (877, .iaload, 1), (878, .aload_n 0, 1), (879, .iload 4, 2), (881, .iconst 3, 1), (882, .iadd, 1), (883, .iaload, 1), (884, .aload_n 0, 1), (885, .iload 4, 2), (887, .iconst 4, 1), (888, .iadd, 1), (889, .iaload, 1), (890, .aload_n 3, 1), (891, .invokestatic 116, 3), (894, .istore 5, 2), (896, .aload_n 2, 1), (897, .aload_n 0, 1), (898, .iload 4, 2), (900, .iconst 1, 1), (901, .iadd, 1), (902, .iaload, 1), (903, .aload_n 0, 1), (904, .iload 4, 2), (906, .iconst 2, 1), (907, .iadd, 1), (908, .iaload, 1), (909, .aload_n 0, 1), (910, .iload 4, 2), (912, .iconst 3, 1), (913, .iadd, 1), (914, .iaload, 1), (915, .aload_n 0, 1), (916, .iload 4, 2), (918, .iconst 4, 1), (919, .iadd, 1), (920, .iaload, 1), (921, .invokevirtual 118, 3), (924, .lstore 6, 2), (926, .aload_n 2, 1), (927, .invokevirtual 82, 3), (930, .iload 5, 2), (932, .if_icmp .eq 5, 3), (937, .iload 5, 2), (939, .ifCond .ne 14, 3), (942, .aload_n 3, 1), (943, .iconst 0, 1), (944, .laload, 1), (945, .lload 6, 2), (947, .lcmp, 1), (948, .ifCond .eq 5, 3), (953, .goto 770, 3)]
theorem hs_c10 : ∀ q ∈ k_c10, eg_lq k_LW.1 q.1 = some q.2 := by decide +kernel
set_option maxRecDepth 100000 in
set_option maxHeartbeats 4000000 in
theorem lc_10 {L : Nat} {xs : Nat → Int32} {P : eg_P} {i cu su : Nat} {x5 x6 x7 : Option Value} {M : eg_M} (hL : i + 8 ≤ L) (hL2 : L ≤ 4096) (hcu : cu + 5 ≤ 601024) (hsu : su + 1212 ≤ 7293034) (hA : r_A M) (hn : ∀ cu' su' y5 y6 y7 M', cu' ≤ cu + 5 → su' ≤ su + 1212 → r_A M' → eg_T2 L xs wd k_LW P 1723 cu' su' [some (.retAddr 1000), some (.ref 0), some (.ref 121), some (.ref 177), some (.int (nI i)), y5, y6, y7] [] M') : eg_T2 L xs wd k_LW P 865 cu su [some (.retAddr 1000), some (.ref 0), some (.ref 121), some (.ref 177), some (.int (nI i)), x5, x6, x7] [] M := by
  have hs := hs_c10
  have hC := hC_sub (P := P) (L := L) (xs := xs) hs
  refine y_run (k := (k_c10, k_LW.2)) mk_LW hC (cut := [871]) 5 (?_ : eg_T2 L xs wd k_LW P 871 cu su [some (.retAddr 1000), some (.ref 0), some (.ref 121), some (.ref 177), some (.int (nI i)), x5, x6, x7] [.int (nI i + nI 1), .retAddr 1000, .ref 0] M)
  refine t2_ia (code := k_c10) hs rfl n_s (show i + 1 < L by omega) hL2 (?_ : eg_T2 L xs wd k_LW P 872 cu su [some (.retAddr 1000), some (.ref 0), some (.ref 121), some (.ref 177), some (.int (nI i)), x5, x6, x7] [.int (xs (i + 1)), .ref 0] M)
  refine y_run (k := (k_c10, k_LW.2)) mk_LW hC (cut := [877]) 4 (?_ : eg_T2 L xs wd k_LW P 877 cu su [some (.retAddr 1000), some (.ref 0), some (.ref 121), some (.ref 177), some (.int (nI i)), x5, x6, x7] [.int (nI i + nI 2), .retAddr 1000, .int (xs (i + 1)), .ref 0] M)
  refine t2_ia (code := k_c10) hs rfl n_s (show i + 2 < L by omega) hL2 (?_ : eg_T2 L xs wd k_LW P 878 cu su [some (.retAddr 1000), some (.ref 0), some (.ref 121), some (.ref 177), some (.int (nI i)), x5, x6, x7] [.int (xs (i + 2)), .int (xs (i + 1)), .ref 0] M)
  refine y_run (k := (k_c10, k_LW.2)) mk_LW hC (cut := [883]) 4 (?_ : eg_T2 L xs wd k_LW P 883 cu su [some (.retAddr 1000), some (.ref 0), some (.ref 121), some (.ref 177), some (.int (nI i)), x5, x6, x7] [.int (nI i + nI 3), .retAddr 1000, .int (xs (i + 2)), .int (xs (i + 1)), .ref 0] M)
  refine t2_ia (code := k_c10) hs rfl n_s (show i + 3 < L by omega) hL2 (?_ : eg_T2 L xs wd k_LW P 884 cu su [some (.retAddr 1000), some (.ref 0), some (.ref 121), some (.ref 177), some (.int (nI i)), x5, x6, x7] [.int (xs (i + 3)), .int (xs (i + 2)), .int (xs (i + 1)), .ref 0] M)
  refine y_run (k := (k_c10, k_LW.2)) mk_LW hC (cut := [889]) 4 (?_ : eg_T2 L xs wd k_LW P 889 cu su [some (.retAddr 1000), some (.ref 0), some (.ref 121), some (.ref 177), some (.int (nI i)), x5, x6, x7] [.int (nI i + nI 4), .retAddr 1000, .int (xs (i + 3)), .int (xs (i + 2)), .int (xs (i + 1)), .ref 0] M)
  refine t2_ia (code := k_c10) hs rfl n_s (show i + 4 < L by omega) hL2 (?_ : eg_T2 L xs wd k_LW P 890 cu su [some (.retAddr 1000), some (.ref 0), some (.ref 121), some (.ref 177), some (.int (nI i)), x5, x6, x7] [.int (xs (i + 4)), .int (xs (i + 3)), .int (xs (i + 2)), .int (xs (i + 1)), .ref 0] M)
  refine y_run (k := (k_c10, k_LW.2)) mk_LW hC (cut := [891]) 1 (?_ : eg_T2 L xs wd k_LW P 891 cu su [some (.retAddr 1000), some (.ref 0), some (.ref 121), some (.ref 177), some (.int (nI i)), x5, x6, x7] [.ref 177, .int (xs (i + 4)), .int (xs (i + 3)), .int (xs (i + 2)), .int (xs (i + 1)), .ref 0] M)
  refine y_cs (k := (k_c10, k_LW.2)) (j := 116) (n := 6) (kc := 4) (ks := 24) (S := s_L_balance) (av := [.ref 177, .int (xs (i + 4)), .int (xs (i + 3)), .int (xs (i + 2)), .int (xs (i + 1)), .ref 0]) (st := []) hC rfl rfl rfl (hrr (show (cu + 4) ≤ 601024 by omega) (show (su + 24) ≤ 7293034 by omega)) rfl rfl mo_L_balance (wl_balance (xs (i + 1)) (xs (i + 2)) (xs (i + 3)) (xs (i + 4)) hA) (fun r N hN => ?_)
  obtain ⟨kk, rfl, hw⟩ := hN
  refine y_run (k := (k_c10, k_LW.2)) mk_LW hC (cut := [902]) 6 (?_ : eg_T2 L xs wd k_LW P 902 (cu + 4) (su + 24) [some (.retAddr 1000), some (.ref 0), some (.ref 121), some (.ref 177), some (.int (nI i)), some (.int kk), x6, x7] [.int (nI i + nI 1), .retAddr 1000, .ref 121] N)
  refine t2_ia (code := k_c10) hs rfl n_s (show i + 1 < L by omega) hL2 (?_ : eg_T2 L xs wd k_LW P 903 (cu + 4) (su + 24) [some (.retAddr 1000), some (.ref 0), some (.ref 121), some (.ref 177), some (.int (nI i)), some (.int kk), x6, x7] [.int (xs (i + 1)), .ref 121] N)
  refine y_run (k := (k_c10, k_LW.2)) mk_LW hC (cut := [908]) 4 (?_ : eg_T2 L xs wd k_LW P 908 (cu + 4) (su + 24) [some (.retAddr 1000), some (.ref 0), some (.ref 121), some (.ref 177), some (.int (nI i)), some (.int kk), x6, x7] [.int (nI i + nI 2), .retAddr 1000, .int (xs (i + 1)), .ref 121] N)
  refine t2_ia (code := k_c10) hs rfl n_s (show i + 2 < L by omega) hL2 (?_ : eg_T2 L xs wd k_LW P 909 (cu + 4) (su + 24) [some (.retAddr 1000), some (.ref 0), some (.ref 121), some (.ref 177), some (.int (nI i)), some (.int kk), x6, x7] [.int (xs (i + 2)), .int (xs (i + 1)), .ref 121] N)
  refine y_run (k := (k_c10, k_LW.2)) mk_LW hC (cut := [914]) 4 (?_ : eg_T2 L xs wd k_LW P 914 (cu + 4) (su + 24) [some (.retAddr 1000), some (.ref 0), some (.ref 121), some (.ref 177), some (.int (nI i)), some (.int kk), x6, x7] [.int (nI i + nI 3), .retAddr 1000, .int (xs (i + 2)), .int (xs (i + 1)), .ref 121] N)
  refine t2_ia (code := k_c10) hs rfl n_s (show i + 3 < L by omega) hL2 (?_ : eg_T2 L xs wd k_LW P 915 (cu + 4) (su + 24) [some (.retAddr 1000), some (.ref 0), some (.ref 121), some (.ref 177), some (.int (nI i)), some (.int kk), x6, x7] [.int (xs (i + 3)), .int (xs (i + 2)), .int (xs (i + 1)), .ref 121] N)
  refine y_run (k := (k_c10, k_LW.2)) mk_LW hC (cut := [920]) 4 (?_ : eg_T2 L xs wd k_LW P 920 (cu + 4) (su + 24) [some (.retAddr 1000), some (.ref 0), some (.ref 121), some (.ref 177), some (.int (nI i)), some (.int kk), x6, x7] [.int (nI i + nI 4), .retAddr 1000, .int (xs (i + 3)), .int (xs (i + 2)), .int (xs (i + 1)), .ref 121] N)
  refine t2_ia (code := k_c10) hs rfl n_s (show i + 4 < L by omega) hL2 (?_ : eg_T2 L xs wd k_LW P 921 (cu + 4) (su + 24) [some (.retAddr 1000), some (.ref 0), some (.ref 121), some (.ref 177), some (.int (nI i)), some (.int kk), x6, x7] [.int (xs (i + 4)), .int (xs (i + 3)), .int (xs (i + 2)), .int (xs (i + 1)), .ref 121] N)
  refine y_cv (k := (k_c10, k_LW.2)) (j := 118) (n := 4 + 1) (kc := 0) (ks := 0) (S := s_X12_balance) (av := [.int (xs (i + 4)), .int (xs (i + 3)), .int (xs (i + 2)), .int (xs (i + 1)), .ref 121]) (st := []) hC rfl rfl rfl (hrr (show ((cu + 4) + 0) ≤ 601024 by omega) (show ((su + 24) + 0) ≤ 7293034 by omega)) rfl rfl mo_X12_balance hw (fun r N2 hN2 => ?_)
  obtain ⟨hA2, b, rfl, hk, hz⟩ := hN2
  refine y_run (k := (k_c10, k_LW.2)) mk_LW hC (cut := [927]) 2 (?_ : eg_T2 L xs wd k_LW P 927 ((cu + 4) + 0) ((su + 24) + 0) [some (.retAddr 1000), some (.ref 0), some (.ref 121), some (.ref 177), some (.int (nI i)), some (.int kk), some (.long b), none] [.ref 121] N2)
  refine y_cv (k := (k_c10, k_LW.2)) (j := 82) (n := 0 + 1) (kc := 0) (ks := 0) (S := s_X12_thrown) (av := [.ref 121]) (st := []) hC rfl rfl rfl (hrr (show (((cu + 4) + 0) + 0) ≤ 601024 by omega) (show (((su + 24) + 0) + 0) ≤ 7293034 by omega)) rfl rfl mo_X12_thrown (th_ok hk) (fun r N3 hN3 => ?_)
  obtain ⟨rfl, rfl⟩ := hN3
  refine y_run (k := (k_c10, k_LW.2)) mk_LW hC (cut := [932]) 1 (?_ : eg_T2 L xs wd k_LW P 932 (((cu + 4) + 0) + 0) (((su + 24) + 0) + 0) [some (.retAddr 1000), some (.ref 0), some (.ref 121), some (.ref 177), some (.int (nI i)), some (.int kk), some (.long b), none] [.int kk, .int kk] N3)
  refine y_run (k := (k_c10, k_LW.2)) mk_LW hC (cut := [937, 935]) 1 ⟨fun _ => (?_ : eg_T2 L xs wd k_LW P 937 (((cu + 4) + 0) + 0) (((su + 24) + 0) + 0) [some (.retAddr 1000), some (.ref 0), some (.ref 121), some (.ref 177), some (.int (nI i)), some (.int kk), some (.long b), none] [] N3), fun z => absurd rfl z⟩
  refine y_run (k := (k_c10, k_LW.2)) mk_LW hC (cut := [939]) 1 (?_ : eg_T2 L xs wd k_LW P 939 (((cu + 4) + 0) + 0) (((su + 24) + 0) + 0) [some (.retAddr 1000), some (.ref 0), some (.ref 121), some (.ref 177), some (.int (nI i)), some (.int kk), some (.long b), none] [.int kk] N3)
  refine y_run (k := (k_c10, k_LW.2)) mk_LW hC (cut := [953, 942]) 1 ⟨fun hk0 => (?_ : eg_T2 L xs wd k_LW P 942 (((cu + 4) + 0) + 0) (((su + 24) + 0) + 0) [some (.retAddr 1000), some (.ref 0), some (.ref 121), some (.ref 177), some (.int (nI i)), some (.int kk), some (.long b), none] [] N3), fun _ => (?_ : eg_T2 L xs wd k_LW P 953 (((cu + 4) + 0) + 0) (((su + 24) + 0) + 0) [some (.retAddr 1000), some (.ref 0), some (.ref 121), some (.ref 177), some (.int (nI i)), some (.int kk), some (.long b), none] [] N3)⟩
  · skip
    refine y_run (k := (k_c10, k_LW.2)) mk_LW hC (cut := [944]) 2 (?_ : eg_T2 L xs wd k_LW P 944 (((cu + 4) + 0) + 0) (((su + 24) + 0) + 0) [some (.retAddr 1000), some (.ref 0), some (.ref 121), some (.ref 177), some (.int (nI i)), some (.int kk), some (.long b), none] [.int (nI 0), .ref 177] N3)
    refine y_run (k := (k_c10, k_LW.2)) mk_LW hC (cut := [945]) 1 ⟨vp177 N3, (?_ : eg_T2 L xs wd k_LW P 945 (((cu + 4) + 0) + 0) (((su + 24) + 0) + 0) [some (.retAddr 1000), some (.ref 0), some (.ref 121), some (.ref 177), some (.int (nI i)), some (.int kk), some (.long b), none] [.long (eg_gl N3 177 (nI 0).toNatClampNeg)] N3)⟩
    refine y_run (k := (k_c10, k_LW.2)) mk_LW hC (cut := [948]) 2 (?_ : eg_T2 L xs wd k_LW P 948 (((cu + 4) + 0) + 0) (((su + 24) + 0) + 0) [some (.retAddr 1000), some (.ref 0), some (.ref 121), some (.ref 177), some (.int (nI i)), some (.int kk), some (.long b), none] [.int (lg_cmp (eg_gl N3 177 (nI 0).toNatClampNeg) (b))] N3)
    refine y_run (k := (k_c10, k_LW.2)) mk_LW hC (cut := [953, 951]) 1 ⟨fun _ => (?_ : eg_T2 L xs wd k_LW P 953 (((cu + 4) + 0) + 0) (((su + 24) + 0) + 0) [some (.retAddr 1000), some (.ref 0), some (.ref 121), some (.ref 177), some (.int (nI i)), some (.int kk), some (.long b), none] [] N3), fun z => absurd ((lg_cmp_eq _ _).mpr (hz hk0)) z⟩
    refine y_run (k := (k_c10, k_LW.2)) mk_LW hC (cut := [1723]) 1 (?_ : eg_T2 L xs wd k_LW P 1723 (((cu + 4) + 0) + 0) (((su + 24) + 0) + 0) [some (.retAddr 1000), some (.ref 0), some (.ref 121), some (.ref 177), some (.int (nI i)), some (.int kk), some (.long b), none] [] N3)
    exact hn _ _ _ _ _ _ (by omega) (by omega) hA2
  · skip
    refine y_run (k := (k_c10, k_LW.2)) mk_LW hC (cut := [1723]) 1 (?_ : eg_T2 L xs wd k_LW P 1723 (((cu + 4) + 0) + 0) (((su + 24) + 0) + 0) [some (.retAddr 1000), some (.ref 0), some (.ref 121), some (.ref 177), some (.int (nI i)), some (.int kk), some (.long b), none] [] N3)
    exact hn _ _ _ _ _ _ (by omega) (by omega) hA2
def k_c11 : List (Nat × Instr × Nat) := [(956, .aload_n 1, 1), (957, .invokevirtual 119, 3), (960, .aload_n 2, 1), (961, .invokevirtual 122, 3), (964, .goto 759, 3)]
theorem hs_c11 : ∀ q ∈ k_c11, eg_lq k_LW.1 q.1 = some q.2 := by decide +kernel
set_option maxRecDepth 100000 in
set_option maxHeartbeats 4000000 in
theorem lc_11 {L : Nat} {xs : Nat → Int32} {P : eg_P} {i cu su : Nat} {x5 x6 x7 : Option Value} {M : eg_M} (hL : i + 8 ≤ L) (hL2 : L ≤ 4096) (hcu : cu + 5 ≤ 601024) (hsu : su + 1212 ≤ 7293034) (hA : r_A M) (hn : ∀ cu' su' y5 y6 y7 M', cu' ≤ cu + 5 → su' ≤ su + 1212 → r_A M' → eg_T2 L xs wd k_LW P 1723 cu' su' [some (.retAddr 1000), some (.ref 0), some (.ref 121), some (.ref 177), some (.int (nI i)), y5, y6, y7] [] M') : eg_T2 L xs wd k_LW P 956 cu su [some (.retAddr 1000), some (.ref 0), some (.ref 121), some (.ref 177), some (.int (nI i)), x5, x6, x7] [] M := by
  have hs := hs_c11
  have hC := hC_sub (P := P) (L := L) (xs := xs) hs
  refine y_run (k := (k_c11, k_LW.2)) mk_LW hC (cut := [957]) 1 (?_ : eg_T2 L xs wd k_LW P 957 cu su [some (.retAddr 1000), some (.ref 0), some (.ref 121), some (.ref 177), some (.int (nI i)), x5, x6, x7] [.ref 0] M)
  refine y_cv (k := (k_c11, k_LW.2)) (j := 119) (n := 0 + 1) (kc := 0) (ks := 0) (S := s_X11_empty) (av := [.ref 0]) (st := []) hC rfl rfl rfl (hrr (show (cu + 0) ≤ 601024 by omega) (show (su + 0) ≤ 7293034 by omega)) rfl rfl mo_X11_empty (pk_empty M hA) (fun r N hN => ?_)
  obtain ⟨hok, hw⟩ := hN
  obtain rfl := hok
  refine y_run (k := (k_c11, k_LW.2)) mk_LW hC (cut := [961]) 1 (?_ : eg_T2 L xs wd k_LW P 961 (cu + 0) (su + 0) [some (.retAddr 1000), some (.ref 0), some (.ref 121), some (.ref 177), some (.int (nI i)), x5, x6, x7] [.ref 121] N)
  have hw := hw (eg_gl N 177 0)
  rw [sl_id] at hw
  refine y_cv (k := (k_c11, k_LW.2)) (j := 122) (n := 0 + 1) (kc := 0) (ks := 0) (S := s_X12_empty) (av := [.ref 121]) (st := []) hC rfl rfl rfl (hrr (show ((cu + 0) + 0) ≤ 601024 by omega) (show ((su + 0) + 0) ≤ 7293034 by omega)) rfl rfl mo_X12_empty hw (fun r N2 hN2 => ?_)
  obtain ⟨hA2, _, hag⟩ := hN2
  obtain ⟨_, rfl⟩ := hag
  refine y_run (k := (k_c11, k_LW.2)) mk_LW hC (cut := [1723]) 1 (?_ : eg_T2 L xs wd k_LW P 1723 ((cu + 0) + 0) ((su + 0) + 0) [some (.retAddr 1000), some (.ref 0), some (.ref 121), some (.ref 177), some (.int (nI i)), x5, x6, x7] [] N2)
  exact hn _ _ _ _ _ _ (by omega) (by omega) hA2
def k_c12 : List (Nat × Instr × Nat) := [(967, .aload_n 1, 1), (968, .aload_n 0, 1), (969, .iload 4, 2), (971, .iconst 1, 1), (972, .iadd, 1), (973, .iaload, 1), (974, .aload_n 0, 1), (975, .iload 4, 2), (977, .iconst 2, 1), (978, .iadd, 1), (979, .iaload, 1), (980, .aload_n 0, 1), (981, .iload 4, 2), (983, .iconst 3, 1), (984, .iadd, 1), (985, .iaload, 1), (986, .ifCond .eq 7, 3), (989, .iconst 1, 1), (990, .goto 4, 3), (993, .iconst 0, 1), (994, .aload_n 0, 1), (995, .iload 4, 2), (997, .iconst 4, 1), (998, .iadd, 1), (999, .iaload, 1), (1000, .invokevirtual 123, 3), (1003, .aload_n 2, 1), (1004, .aload_n 0, 1), (1005, .iload 4, 2), (1007, .iconst 1, 1), (1008, .iadd, 1), (1009, .iaload, 1), (1010, .aload_n 0, 1), (1011, .iload 4, 2), (1013, .iconst 2, 1), (1014, .iadd, 1), (1015, .iaload, 1), (1016, .aload_n 0, 1), (1017, .iload 4, 2), (1019, .iconst 3, 1), (1020, .iadd, 1), (1021, .iaload, 1), (1022, .ifCond .eq 7, 3), (1025, .iconst 1, 1), (1026, .goto 4, 3), (1029, .iconst 0, 1), (1030, .aload_n 0, 1), (1031, .iload 4, 2), (1033, .iconst 4, 1), (1034, .iadd, 1), (1035, .iaload, 1), (1036, .invokevirtual 127, 3), (1039, .if_icmp .eq 684, 3)]
theorem hs_c12 : ∀ q ∈ k_c12, eg_lq k_LW.1 q.1 = some q.2 := by decide +kernel
set_option maxRecDepth 100000 in
set_option maxHeartbeats 4000000 in
theorem lc_12 {L : Nat} {xs : Nat → Int32} {P : eg_P} {i cu su : Nat} {x5 x6 x7 : Option Value} {M : eg_M} (hL : i + 8 ≤ L) (hL2 : L ≤ 4096) (hcu : cu + 5 ≤ 601024) (hsu : su + 1212 ≤ 7293034) (hA : r_A M) (hn : ∀ cu' su' y5 y6 y7 M', cu' ≤ cu + 5 → su' ≤ su + 1212 → r_A M' → eg_T2 L xs wd k_LW P 1723 cu' su' [some (.retAddr 1000), some (.ref 0), some (.ref 121), some (.ref 177), some (.int (nI i)), y5, y6, y7] [] M') : eg_T2 L xs wd k_LW P 967 cu su [some (.retAddr 1000), some (.ref 0), some (.ref 121), some (.ref 177), some (.int (nI i)), x5, x6, x7] [] M := by
  have hs := hs_c12
  have hC := hC_sub (P := P) (L := L) (xs := xs) hs
  refine y_run (k := (k_c12, k_LW.2)) mk_LW hC (cut := [973]) 5 (?_ : eg_T2 L xs wd k_LW P 973 cu su [some (.retAddr 1000), some (.ref 0), some (.ref 121), some (.ref 177), some (.int (nI i)), x5, x6, x7] [.int (nI i + nI 1), .retAddr 1000, .ref 0] M)
  refine t2_ia (code := k_c12) hs rfl n_s (show i + 1 < L by omega) hL2 (?_ : eg_T2 L xs wd k_LW P 974 cu su [some (.retAddr 1000), some (.ref 0), some (.ref 121), some (.ref 177), some (.int (nI i)), x5, x6, x7] [.int (xs (i + 1)), .ref 0] M)
  refine y_run (k := (k_c12, k_LW.2)) mk_LW hC (cut := [979]) 4 (?_ : eg_T2 L xs wd k_LW P 979 cu su [some (.retAddr 1000), some (.ref 0), some (.ref 121), some (.ref 177), some (.int (nI i)), x5, x6, x7] [.int (nI i + nI 2), .retAddr 1000, .int (xs (i + 1)), .ref 0] M)
  refine t2_ia (code := k_c12) hs rfl n_s (show i + 2 < L by omega) hL2 (?_ : eg_T2 L xs wd k_LW P 980 cu su [some (.retAddr 1000), some (.ref 0), some (.ref 121), some (.ref 177), some (.int (nI i)), x5, x6, x7] [.int (xs (i + 2)), .int (xs (i + 1)), .ref 0] M)
  refine y_run (k := (k_c12, k_LW.2)) mk_LW hC (cut := [985]) 4 (?_ : eg_T2 L xs wd k_LW P 985 cu su [some (.retAddr 1000), some (.ref 0), some (.ref 121), some (.ref 177), some (.int (nI i)), x5, x6, x7] [.int (nI i + nI 3), .retAddr 1000, .int (xs (i + 2)), .int (xs (i + 1)), .ref 0] M)
  refine t2_ia (code := k_c12) hs rfl n_s (show i + 3 < L by omega) hL2 (?_ : eg_T2 L xs wd k_LW P 986 cu su [some (.retAddr 1000), some (.ref 0), some (.ref 121), some (.ref 177), some (.int (nI i)), x5, x6, x7] [.int (xs (i + 3)), .int (xs (i + 2)), .int (xs (i + 1)), .ref 0] M)
  refine y_run (k := (k_c12, k_LW.2)) mk_LW hC (cut := [993, 989]) 1 ⟨fun hc => (?_ : eg_T2 L xs wd k_LW P 993 cu su [some (.retAddr 1000), some (.ref 0), some (.ref 121), some (.ref 177), some (.int (nI i)), x5, x6, x7] [.int (xs (i + 2)), .int (xs (i + 1)), .ref 0] M), fun hc => (?_ : eg_T2 L xs wd k_LW P 989 cu su [some (.retAddr 1000), some (.ref 0), some (.ref 121), some (.ref 177), some (.int (nI i)), x5, x6, x7] [.int (xs (i + 2)), .int (xs (i + 1)), .ref 0] M)⟩
  · skip
    refine y_run (k := (k_c12, k_LW.2)) mk_LW hC (cut := [999]) 5 (?_ : eg_T2 L xs wd k_LW P 999 cu su [some (.retAddr 1000), some (.ref 0), some (.ref 121), some (.ref 177), some (.int (nI i)), x5, x6, x7] [.int (nI i + nI 4), .retAddr 1000, .int (nI 0), .int (xs (i + 2)), .int (xs (i + 1)), .ref 0] M)
    refine t2_ia (code := k_c12) hs rfl n_s (show i + 4 < L by omega) hL2 (?_ : eg_T2 L xs wd k_LW P 1000 cu su [some (.retAddr 1000), some (.ref 0), some (.ref 121), some (.ref 177), some (.int (nI i)), x5, x6, x7] [.int (xs (i + 4)), .int (nI 0), .int (xs (i + 2)), .int (xs (i + 1)), .ref 0] M)
    refine y_cv (k := (k_c12, k_LW.2)) (j := 123) (n := 4 + 1) (kc := 0) (ks := 0) (S := s_X11_home) (av := [.int (xs (i + 4)), .int (nI 0), .int (xs (i + 2)), .int (xs (i + 1)), .ref 0]) (st := []) hC rfl rfl rfl (hrr (show (cu + 0) ≤ 601024 by omega) (show (su + 0) ≤ 7293034 by omega)) rfl rfl mo_X11_home ((pk_home (xs (i + 1)) (xs (i + 2)) (nI 0) (xs (i + 4)) (Or.inl rfl)) M hA) (fun r N hN => ?_)
    obtain ⟨hok, hw⟩ := hN
    obtain ⟨v, rfl⟩ := hok.resolve_right (fun ⟨E, q, _, hf⟩ => by simp at hf)
    refine y_run (k := (k_c12, k_LW.2)) mk_LW hC (cut := [1009]) 5 (?_ : eg_T2 L xs wd k_LW P 1009 (cu + 0) (su + 0) [some (.retAddr 1000), some (.ref 0), some (.ref 121), some (.ref 177), some (.int (nI i)), x5, x6, x7] [.int (nI i + nI 1), .retAddr 1000, .ref 121, .int v] N)
    refine t2_ia (code := k_c12) hs rfl n_s (show i + 1 < L by omega) hL2 (?_ : eg_T2 L xs wd k_LW P 1010 (cu + 0) (su + 0) [some (.retAddr 1000), some (.ref 0), some (.ref 121), some (.ref 177), some (.int (nI i)), x5, x6, x7] [.int (xs (i + 1)), .ref 121, .int v] N)
    refine y_run (k := (k_c12, k_LW.2)) mk_LW hC (cut := [1015]) 4 (?_ : eg_T2 L xs wd k_LW P 1015 (cu + 0) (su + 0) [some (.retAddr 1000), some (.ref 0), some (.ref 121), some (.ref 177), some (.int (nI i)), x5, x6, x7] [.int (nI i + nI 2), .retAddr 1000, .int (xs (i + 1)), .ref 121, .int v] N)
    refine t2_ia (code := k_c12) hs rfl n_s (show i + 2 < L by omega) hL2 (?_ : eg_T2 L xs wd k_LW P 1016 (cu + 0) (su + 0) [some (.retAddr 1000), some (.ref 0), some (.ref 121), some (.ref 177), some (.int (nI i)), x5, x6, x7] [.int (xs (i + 2)), .int (xs (i + 1)), .ref 121, .int v] N)
    refine y_run (k := (k_c12, k_LW.2)) mk_LW hC (cut := [1021]) 4 (?_ : eg_T2 L xs wd k_LW P 1021 (cu + 0) (su + 0) [some (.retAddr 1000), some (.ref 0), some (.ref 121), some (.ref 177), some (.int (nI i)), x5, x6, x7] [.int (nI i + nI 3), .retAddr 1000, .int (xs (i + 2)), .int (xs (i + 1)), .ref 121, .int v] N)
    refine t2_ia (code := k_c12) hs rfl n_s (show i + 3 < L by omega) hL2 (?_ : eg_T2 L xs wd k_LW P 1022 (cu + 0) (su + 0) [some (.retAddr 1000), some (.ref 0), some (.ref 121), some (.ref 177), some (.int (nI i)), x5, x6, x7] [.int (xs (i + 3)), .int (xs (i + 2)), .int (xs (i + 1)), .ref 121, .int v] N)
    refine y_run (k := (k_c12, k_LW.2)) mk_LW hC (cut := [1029, 1025]) 1 ⟨fun _ => (?_ : eg_T2 L xs wd k_LW P 1029 (cu + 0) (su + 0) [some (.retAddr 1000), some (.ref 0), some (.ref 121), some (.ref 177), some (.int (nI i)), x5, x6, x7] [.int (xs (i + 2)), .int (xs (i + 1)), .ref 121, .int v] N), fun z => absurd hc z⟩
    refine y_run (k := (k_c12, k_LW.2)) mk_LW hC (cut := [1035]) 5 (?_ : eg_T2 L xs wd k_LW P 1035 (cu + 0) (su + 0) [some (.retAddr 1000), some (.ref 0), some (.ref 121), some (.ref 177), some (.int (nI i)), x5, x6, x7] [.int (nI i + nI 4), .retAddr 1000, .int (nI 0), .int (xs (i + 2)), .int (xs (i + 1)), .ref 121, .int v] N)
    refine t2_ia (code := k_c12) hs rfl n_s (show i + 4 < L by omega) hL2 (?_ : eg_T2 L xs wd k_LW P 1036 (cu + 0) (su + 0) [some (.retAddr 1000), some (.ref 0), some (.ref 121), some (.ref 177), some (.int (nI i)), x5, x6, x7] [.int (xs (i + 4)), .int (nI 0), .int (xs (i + 2)), .int (xs (i + 1)), .ref 121, .int v] N)
    have hw := hw (eg_gl N 177 0)
    rw [sl_id] at hw
    refine y_cv (k := (k_c12, k_LW.2)) (j := 127) (n := 4 + 1) (kc := 0) (ks := 0) (S := s_X12_home) (av := [.int (xs (i + 4)), .int (nI 0), .int (xs (i + 2)), .int (xs (i + 1)), .ref 121]) (st := [.int v]) hC rfl rfl rfl (hrr (show ((cu + 0) + 0) ≤ 601024 by omega) (show ((su + 0) + 0) ≤ 7293034 by omega)) rfl rfl mo_X12_home hw (fun r N2 hN2 => ?_)
    obtain ⟨hA2, _, hag⟩ := hN2
    obtain ⟨v2, e1, rfl, _⟩ := hag.resolve_right (fun ⟨E, _, _, e1, _⟩ => by cases e1)
    cases e1
    refine y_run (k := (k_c12, k_LW.2)) mk_LW hC (cut := [1723, 1042]) 1 ⟨fun _ => (?_ : eg_T2 L xs wd k_LW P 1723 ((cu + 0) + 0) ((su + 0) + 0) [some (.retAddr 1000), some (.ref 0), some (.ref 121), some (.ref 177), some (.int (nI i)), x5, x6, x7] [] N2), fun z => absurd rfl z⟩
    exact hn _ _ _ _ _ _ (by omega) (by omega) hA2
  · skip
    refine y_run (k := (k_c12, k_LW.2)) mk_LW hC (cut := [999]) 6 (?_ : eg_T2 L xs wd k_LW P 999 cu su [some (.retAddr 1000), some (.ref 0), some (.ref 121), some (.ref 177), some (.int (nI i)), x5, x6, x7] [.int (nI i + nI 4), .retAddr 1000, .int (nI 1), .int (xs (i + 2)), .int (xs (i + 1)), .ref 0] M)
    refine t2_ia (code := k_c12) hs rfl n_s (show i + 4 < L by omega) hL2 (?_ : eg_T2 L xs wd k_LW P 1000 cu su [some (.retAddr 1000), some (.ref 0), some (.ref 121), some (.ref 177), some (.int (nI i)), x5, x6, x7] [.int (xs (i + 4)), .int (nI 1), .int (xs (i + 2)), .int (xs (i + 1)), .ref 0] M)
    refine y_cv (k := (k_c12, k_LW.2)) (j := 123) (n := 4 + 1) (kc := 0) (ks := 0) (S := s_X11_home) (av := [.int (xs (i + 4)), .int (nI 1), .int (xs (i + 2)), .int (xs (i + 1)), .ref 0]) (st := []) hC rfl rfl rfl (hrr (show (cu + 0) ≤ 601024 by omega) (show (su + 0) ≤ 7293034 by omega)) rfl rfl mo_X11_home ((pk_home (xs (i + 1)) (xs (i + 2)) (nI 1) (xs (i + 4)) (Or.inr rfl)) M hA) (fun r N hN => ?_)
    obtain ⟨hok, hw⟩ := hN
    obtain ⟨v, rfl⟩ := hok.resolve_right (fun ⟨E, q, _, hf⟩ => by simp at hf)
    refine y_run (k := (k_c12, k_LW.2)) mk_LW hC (cut := [1009]) 5 (?_ : eg_T2 L xs wd k_LW P 1009 (cu + 0) (su + 0) [some (.retAddr 1000), some (.ref 0), some (.ref 121), some (.ref 177), some (.int (nI i)), x5, x6, x7] [.int (nI i + nI 1), .retAddr 1000, .ref 121, .int v] N)
    refine t2_ia (code := k_c12) hs rfl n_s (show i + 1 < L by omega) hL2 (?_ : eg_T2 L xs wd k_LW P 1010 (cu + 0) (su + 0) [some (.retAddr 1000), some (.ref 0), some (.ref 121), some (.ref 177), some (.int (nI i)), x5, x6, x7] [.int (xs (i + 1)), .ref 121, .int v] N)
    refine y_run (k := (k_c12, k_LW.2)) mk_LW hC (cut := [1015]) 4 (?_ : eg_T2 L xs wd k_LW P 1015 (cu + 0) (su + 0) [some (.retAddr 1000), some (.ref 0), some (.ref 121), some (.ref 177), some (.int (nI i)), x5, x6, x7] [.int (nI i + nI 2), .retAddr 1000, .int (xs (i + 1)), .ref 121, .int v] N)
    refine t2_ia (code := k_c12) hs rfl n_s (show i + 2 < L by omega) hL2 (?_ : eg_T2 L xs wd k_LW P 1016 (cu + 0) (su + 0) [some (.retAddr 1000), some (.ref 0), some (.ref 121), some (.ref 177), some (.int (nI i)), x5, x6, x7] [.int (xs (i + 2)), .int (xs (i + 1)), .ref 121, .int v] N)
    refine y_run (k := (k_c12, k_LW.2)) mk_LW hC (cut := [1021]) 4 (?_ : eg_T2 L xs wd k_LW P 1021 (cu + 0) (su + 0) [some (.retAddr 1000), some (.ref 0), some (.ref 121), some (.ref 177), some (.int (nI i)), x5, x6, x7] [.int (nI i + nI 3), .retAddr 1000, .int (xs (i + 2)), .int (xs (i + 1)), .ref 121, .int v] N)
    refine t2_ia (code := k_c12) hs rfl n_s (show i + 3 < L by omega) hL2 (?_ : eg_T2 L xs wd k_LW P 1022 (cu + 0) (su + 0) [some (.retAddr 1000), some (.ref 0), some (.ref 121), some (.ref 177), some (.int (nI i)), x5, x6, x7] [.int (xs (i + 3)), .int (xs (i + 2)), .int (xs (i + 1)), .ref 121, .int v] N)
    refine y_run (k := (k_c12, k_LW.2)) mk_LW hC (cut := [1029, 1025]) 1 ⟨fun z => absurd z hc, fun _ => (?_ : eg_T2 L xs wd k_LW P 1025 (cu + 0) (su + 0) [some (.retAddr 1000), some (.ref 0), some (.ref 121), some (.ref 177), some (.int (nI i)), x5, x6, x7] [.int (xs (i + 2)), .int (xs (i + 1)), .ref 121, .int v] N)⟩
    refine y_run (k := (k_c12, k_LW.2)) mk_LW hC (cut := [1035]) 6 (?_ : eg_T2 L xs wd k_LW P 1035 (cu + 0) (su + 0) [some (.retAddr 1000), some (.ref 0), some (.ref 121), some (.ref 177), some (.int (nI i)), x5, x6, x7] [.int (nI i + nI 4), .retAddr 1000, .int (nI 1), .int (xs (i + 2)), .int (xs (i + 1)), .ref 121, .int v] N)
    refine t2_ia (code := k_c12) hs rfl n_s (show i + 4 < L by omega) hL2 (?_ : eg_T2 L xs wd k_LW P 1036 (cu + 0) (su + 0) [some (.retAddr 1000), some (.ref 0), some (.ref 121), some (.ref 177), some (.int (nI i)), x5, x6, x7] [.int (xs (i + 4)), .int (nI 1), .int (xs (i + 2)), .int (xs (i + 1)), .ref 121, .int v] N)
    have hw := hw (eg_gl N 177 0)
    rw [sl_id] at hw
    refine y_cv (k := (k_c12, k_LW.2)) (j := 127) (n := 4 + 1) (kc := 0) (ks := 0) (S := s_X12_home) (av := [.int (xs (i + 4)), .int (nI 1), .int (xs (i + 2)), .int (xs (i + 1)), .ref 121]) (st := [.int v]) hC rfl rfl rfl (hrr (show ((cu + 0) + 0) ≤ 601024 by omega) (show ((su + 0) + 0) ≤ 7293034 by omega)) rfl rfl mo_X12_home hw (fun r N2 hN2 => ?_)
    obtain ⟨hA2, _, hag⟩ := hN2
    obtain ⟨v2, e1, rfl, _⟩ := hag.resolve_right (fun ⟨E, _, _, e1, _⟩ => by cases e1)
    cases e1
    refine y_run (k := (k_c12, k_LW.2)) mk_LW hC (cut := [1723, 1042]) 1 ⟨fun _ => (?_ : eg_T2 L xs wd k_LW P 1723 ((cu + 0) + 0) ((su + 0) + 0) [some (.retAddr 1000), some (.ref 0), some (.ref 121), some (.ref 177), some (.int (nI i)), x5, x6, x7] [] N2), fun z => absurd rfl z⟩
    exact hn _ _ _ _ _ _ (by omega) (by omega) hA2
def k_c13 : List (Nat × Instr × Nat) := [(1044, .aload_n 1, 1), (1045, .aload_n 0, 1), (1046, .iload 4, 2), (1048, .iconst 1, 1), (1049, .iadd, 1), (1050, .iaload, 1), (1051, .aload_n 0, 1), (1052, .iload 4, 2), (1054, .iconst 2, 1), (1055, .iadd, 1), (1056, .iaload, 1), (1057, .aload_n 0, 1), (1058, .iload 4, 2), (1060, .iconst 3, 1), (1061, .iadd, 1), (1062, .iaload, 1), (1063, .ifCond .eq 7, 3), (1066, .iconst 1, 1), (1067, .goto 4, 3), (1070, .iconst 0, 1), (1071, .invokevirtual 128, 3), (1074, .aload_n 2, 1), (1075, .aload_n 0, 1), (1076, .iload 4, 2), (1078, .iconst 1, 1), (1079, .iadd, 1), (1080, .iaload, 1), (1081, .aload_n 0, 1), (1082, .iload 4, 2), (1084, .iconst 2, 1), (1085, .iadd, 1), (1086, .iaload, 1), (1087, .aload_n 0, 1), (1088, .iload 4, 2), (1090, .iconst 3, 1), (1091, .iadd, 1), (1092, .iaload, 1), (1093, .ifCond .eq 7, 3), (1096, .iconst 1, 1), (1097, .goto 4, 3), (1100, .iconst 0, 1), (1101, .invokevirtual 132, 3), (1104, .if_icmp .eq 619, 3)]
theorem hs_c13 : ∀ q ∈ k_c13, eg_lq k_LW.1 q.1 = some q.2 := by decide +kernel
set_option maxRecDepth 100000 in
set_option maxHeartbeats 4000000 in
theorem lc_13 {L : Nat} {xs : Nat → Int32} {P : eg_P} {i cu su : Nat} {x5 x6 x7 : Option Value} {M : eg_M} (hL : i + 8 ≤ L) (hL2 : L ≤ 4096) (hcu : cu + 5 ≤ 601024) (hsu : su + 1212 ≤ 7293034) (hA : r_A M) (hn : ∀ cu' su' y5 y6 y7 M', cu' ≤ cu + 5 → su' ≤ su + 1212 → r_A M' → eg_T2 L xs wd k_LW P 1723 cu' su' [some (.retAddr 1000), some (.ref 0), some (.ref 121), some (.ref 177), some (.int (nI i)), y5, y6, y7] [] M') : eg_T2 L xs wd k_LW P 1044 cu su [some (.retAddr 1000), some (.ref 0), some (.ref 121), some (.ref 177), some (.int (nI i)), x5, x6, x7] [] M := by
  have hs := hs_c13
  have hC := hC_sub (P := P) (L := L) (xs := xs) hs
  refine y_run (k := (k_c13, k_LW.2)) mk_LW hC (cut := [1050]) 5 (?_ : eg_T2 L xs wd k_LW P 1050 cu su [some (.retAddr 1000), some (.ref 0), some (.ref 121), some (.ref 177), some (.int (nI i)), x5, x6, x7] [.int (nI i + nI 1), .retAddr 1000, .ref 0] M)
  refine t2_ia (code := k_c13) hs rfl n_s (show i + 1 < L by omega) hL2 (?_ : eg_T2 L xs wd k_LW P 1051 cu su [some (.retAddr 1000), some (.ref 0), some (.ref 121), some (.ref 177), some (.int (nI i)), x5, x6, x7] [.int (xs (i + 1)), .ref 0] M)
  refine y_run (k := (k_c13, k_LW.2)) mk_LW hC (cut := [1056]) 4 (?_ : eg_T2 L xs wd k_LW P 1056 cu su [some (.retAddr 1000), some (.ref 0), some (.ref 121), some (.ref 177), some (.int (nI i)), x5, x6, x7] [.int (nI i + nI 2), .retAddr 1000, .int (xs (i + 1)), .ref 0] M)
  refine t2_ia (code := k_c13) hs rfl n_s (show i + 2 < L by omega) hL2 (?_ : eg_T2 L xs wd k_LW P 1057 cu su [some (.retAddr 1000), some (.ref 0), some (.ref 121), some (.ref 177), some (.int (nI i)), x5, x6, x7] [.int (xs (i + 2)), .int (xs (i + 1)), .ref 0] M)
  refine y_run (k := (k_c13, k_LW.2)) mk_LW hC (cut := [1062]) 4 (?_ : eg_T2 L xs wd k_LW P 1062 cu su [some (.retAddr 1000), some (.ref 0), some (.ref 121), some (.ref 177), some (.int (nI i)), x5, x6, x7] [.int (nI i + nI 3), .retAddr 1000, .int (xs (i + 2)), .int (xs (i + 1)), .ref 0] M)
  refine t2_ia (code := k_c13) hs rfl n_s (show i + 3 < L by omega) hL2 (?_ : eg_T2 L xs wd k_LW P 1063 cu su [some (.retAddr 1000), some (.ref 0), some (.ref 121), some (.ref 177), some (.int (nI i)), x5, x6, x7] [.int (xs (i + 3)), .int (xs (i + 2)), .int (xs (i + 1)), .ref 0] M)
  refine y_run (k := (k_c13, k_LW.2)) mk_LW hC (cut := [1070, 1066]) 1 ⟨fun hc => (?_ : eg_T2 L xs wd k_LW P 1070 cu su [some (.retAddr 1000), some (.ref 0), some (.ref 121), some (.ref 177), some (.int (nI i)), x5, x6, x7] [.int (xs (i + 2)), .int (xs (i + 1)), .ref 0] M), fun hc => (?_ : eg_T2 L xs wd k_LW P 1066 cu su [some (.retAddr 1000), some (.ref 0), some (.ref 121), some (.ref 177), some (.int (nI i)), x5, x6, x7] [.int (xs (i + 2)), .int (xs (i + 1)), .ref 0] M)⟩
  · skip
    refine y_run (k := (k_c13, k_LW.2)) mk_LW hC (cut := [1071]) 1 (?_ : eg_T2 L xs wd k_LW P 1071 cu su [some (.retAddr 1000), some (.ref 0), some (.ref 121), some (.ref 177), some (.int (nI i)), x5, x6, x7] [.int (nI 0), .int (xs (i + 2)), .int (xs (i + 1)), .ref 0] M)
    refine y_cv (k := (k_c13, k_LW.2)) (j := 128) (n := 3 + 1) (kc := 0) (ks := 0) (S := s_X11_guest) (av := [.int (nI 0), .int (xs (i + 2)), .int (xs (i + 1)), .ref 0]) (st := []) hC rfl rfl rfl (hrr (show (cu + 0) ≤ 601024 by omega) (show (su + 0) ≤ 7293034 by omega)) rfl rfl mo_X11_guest ((pk_guest (xs (i + 1)) (xs (i + 2)) (nI 0) (Or.inl rfl)) M hA) (fun r N hN => ?_)
    obtain ⟨hok, hw⟩ := hN
    obtain ⟨v, rfl⟩ := hok.resolve_right (fun ⟨E, q, _, hf⟩ => by simp at hf)
    refine y_run (k := (k_c13, k_LW.2)) mk_LW hC (cut := [1080]) 5 (?_ : eg_T2 L xs wd k_LW P 1080 (cu + 0) (su + 0) [some (.retAddr 1000), some (.ref 0), some (.ref 121), some (.ref 177), some (.int (nI i)), x5, x6, x7] [.int (nI i + nI 1), .retAddr 1000, .ref 121, .int v] N)
    refine t2_ia (code := k_c13) hs rfl n_s (show i + 1 < L by omega) hL2 (?_ : eg_T2 L xs wd k_LW P 1081 (cu + 0) (su + 0) [some (.retAddr 1000), some (.ref 0), some (.ref 121), some (.ref 177), some (.int (nI i)), x5, x6, x7] [.int (xs (i + 1)), .ref 121, .int v] N)
    refine y_run (k := (k_c13, k_LW.2)) mk_LW hC (cut := [1086]) 4 (?_ : eg_T2 L xs wd k_LW P 1086 (cu + 0) (su + 0) [some (.retAddr 1000), some (.ref 0), some (.ref 121), some (.ref 177), some (.int (nI i)), x5, x6, x7] [.int (nI i + nI 2), .retAddr 1000, .int (xs (i + 1)), .ref 121, .int v] N)
    refine t2_ia (code := k_c13) hs rfl n_s (show i + 2 < L by omega) hL2 (?_ : eg_T2 L xs wd k_LW P 1087 (cu + 0) (su + 0) [some (.retAddr 1000), some (.ref 0), some (.ref 121), some (.ref 177), some (.int (nI i)), x5, x6, x7] [.int (xs (i + 2)), .int (xs (i + 1)), .ref 121, .int v] N)
    refine y_run (k := (k_c13, k_LW.2)) mk_LW hC (cut := [1092]) 4 (?_ : eg_T2 L xs wd k_LW P 1092 (cu + 0) (su + 0) [some (.retAddr 1000), some (.ref 0), some (.ref 121), some (.ref 177), some (.int (nI i)), x5, x6, x7] [.int (nI i + nI 3), .retAddr 1000, .int (xs (i + 2)), .int (xs (i + 1)), .ref 121, .int v] N)
    refine t2_ia (code := k_c13) hs rfl n_s (show i + 3 < L by omega) hL2 (?_ : eg_T2 L xs wd k_LW P 1093 (cu + 0) (su + 0) [some (.retAddr 1000), some (.ref 0), some (.ref 121), some (.ref 177), some (.int (nI i)), x5, x6, x7] [.int (xs (i + 3)), .int (xs (i + 2)), .int (xs (i + 1)), .ref 121, .int v] N)
    refine y_run (k := (k_c13, k_LW.2)) mk_LW hC (cut := [1100, 1096]) 1 ⟨fun _ => (?_ : eg_T2 L xs wd k_LW P 1100 (cu + 0) (su + 0) [some (.retAddr 1000), some (.ref 0), some (.ref 121), some (.ref 177), some (.int (nI i)), x5, x6, x7] [.int (xs (i + 2)), .int (xs (i + 1)), .ref 121, .int v] N), fun z => absurd hc z⟩
    refine y_run (k := (k_c13, k_LW.2)) mk_LW hC (cut := [1101]) 1 (?_ : eg_T2 L xs wd k_LW P 1101 (cu + 0) (su + 0) [some (.retAddr 1000), some (.ref 0), some (.ref 121), some (.ref 177), some (.int (nI i)), x5, x6, x7] [.int (nI 0), .int (xs (i + 2)), .int (xs (i + 1)), .ref 121, .int v] N)
    have hw := hw (eg_gl N 177 0)
    rw [sl_id] at hw
    refine y_cv (k := (k_c13, k_LW.2)) (j := 132) (n := 3 + 1) (kc := 0) (ks := 0) (S := s_X12_guest) (av := [.int (nI 0), .int (xs (i + 2)), .int (xs (i + 1)), .ref 121]) (st := [.int v]) hC rfl rfl rfl (hrr (show ((cu + 0) + 0) ≤ 601024 by omega) (show ((su + 0) + 0) ≤ 7293034 by omega)) rfl rfl mo_X12_guest hw (fun r N2 hN2 => ?_)
    obtain ⟨hA2, _, hag⟩ := hN2
    obtain ⟨v2, e1, rfl, _⟩ := hag.resolve_right (fun ⟨E, _, _, e1, _⟩ => by cases e1)
    cases e1
    refine y_run (k := (k_c13, k_LW.2)) mk_LW hC (cut := [1723, 1107]) 1 ⟨fun _ => (?_ : eg_T2 L xs wd k_LW P 1723 ((cu + 0) + 0) ((su + 0) + 0) [some (.retAddr 1000), some (.ref 0), some (.ref 121), some (.ref 177), some (.int (nI i)), x5, x6, x7] [] N2), fun z => absurd rfl z⟩
    exact hn _ _ _ _ _ _ (by omega) (by omega) hA2
  · skip
    refine y_run (k := (k_c13, k_LW.2)) mk_LW hC (cut := [1071]) 2 (?_ : eg_T2 L xs wd k_LW P 1071 cu su [some (.retAddr 1000), some (.ref 0), some (.ref 121), some (.ref 177), some (.int (nI i)), x5, x6, x7] [.int (nI 1), .int (xs (i + 2)), .int (xs (i + 1)), .ref 0] M)
    refine y_cv (k := (k_c13, k_LW.2)) (j := 128) (n := 3 + 1) (kc := 0) (ks := 0) (S := s_X11_guest) (av := [.int (nI 1), .int (xs (i + 2)), .int (xs (i + 1)), .ref 0]) (st := []) hC rfl rfl rfl (hrr (show (cu + 0) ≤ 601024 by omega) (show (su + 0) ≤ 7293034 by omega)) rfl rfl mo_X11_guest ((pk_guest (xs (i + 1)) (xs (i + 2)) (nI 1) (Or.inr rfl)) M hA) (fun r N hN => ?_)
    obtain ⟨hok, hw⟩ := hN
    obtain ⟨v, rfl⟩ := hok.resolve_right (fun ⟨E, q, _, hf⟩ => by simp at hf)
    refine y_run (k := (k_c13, k_LW.2)) mk_LW hC (cut := [1080]) 5 (?_ : eg_T2 L xs wd k_LW P 1080 (cu + 0) (su + 0) [some (.retAddr 1000), some (.ref 0), some (.ref 121), some (.ref 177), some (.int (nI i)), x5, x6, x7] [.int (nI i + nI 1), .retAddr 1000, .ref 121, .int v] N)
    refine t2_ia (code := k_c13) hs rfl n_s (show i + 1 < L by omega) hL2 (?_ : eg_T2 L xs wd k_LW P 1081 (cu + 0) (su + 0) [some (.retAddr 1000), some (.ref 0), some (.ref 121), some (.ref 177), some (.int (nI i)), x5, x6, x7] [.int (xs (i + 1)), .ref 121, .int v] N)
    refine y_run (k := (k_c13, k_LW.2)) mk_LW hC (cut := [1086]) 4 (?_ : eg_T2 L xs wd k_LW P 1086 (cu + 0) (su + 0) [some (.retAddr 1000), some (.ref 0), some (.ref 121), some (.ref 177), some (.int (nI i)), x5, x6, x7] [.int (nI i + nI 2), .retAddr 1000, .int (xs (i + 1)), .ref 121, .int v] N)
    refine t2_ia (code := k_c13) hs rfl n_s (show i + 2 < L by omega) hL2 (?_ : eg_T2 L xs wd k_LW P 1087 (cu + 0) (su + 0) [some (.retAddr 1000), some (.ref 0), some (.ref 121), some (.ref 177), some (.int (nI i)), x5, x6, x7] [.int (xs (i + 2)), .int (xs (i + 1)), .ref 121, .int v] N)
    refine y_run (k := (k_c13, k_LW.2)) mk_LW hC (cut := [1092]) 4 (?_ : eg_T2 L xs wd k_LW P 1092 (cu + 0) (su + 0) [some (.retAddr 1000), some (.ref 0), some (.ref 121), some (.ref 177), some (.int (nI i)), x5, x6, x7] [.int (nI i + nI 3), .retAddr 1000, .int (xs (i + 2)), .int (xs (i + 1)), .ref 121, .int v] N)
    refine t2_ia (code := k_c13) hs rfl n_s (show i + 3 < L by omega) hL2 (?_ : eg_T2 L xs wd k_LW P 1093 (cu + 0) (su + 0) [some (.retAddr 1000), some (.ref 0), some (.ref 121), some (.ref 177), some (.int (nI i)), x5, x6, x7] [.int (xs (i + 3)), .int (xs (i + 2)), .int (xs (i + 1)), .ref 121, .int v] N)
    refine y_run (k := (k_c13, k_LW.2)) mk_LW hC (cut := [1100, 1096]) 1 ⟨fun z => absurd z hc, fun _ => (?_ : eg_T2 L xs wd k_LW P 1096 (cu + 0) (su + 0) [some (.retAddr 1000), some (.ref 0), some (.ref 121), some (.ref 177), some (.int (nI i)), x5, x6, x7] [.int (xs (i + 2)), .int (xs (i + 1)), .ref 121, .int v] N)⟩
    refine y_run (k := (k_c13, k_LW.2)) mk_LW hC (cut := [1101]) 2 (?_ : eg_T2 L xs wd k_LW P 1101 (cu + 0) (su + 0) [some (.retAddr 1000), some (.ref 0), some (.ref 121), some (.ref 177), some (.int (nI i)), x5, x6, x7] [.int (nI 1), .int (xs (i + 2)), .int (xs (i + 1)), .ref 121, .int v] N)
    have hw := hw (eg_gl N 177 0)
    rw [sl_id] at hw
    refine y_cv (k := (k_c13, k_LW.2)) (j := 132) (n := 3 + 1) (kc := 0) (ks := 0) (S := s_X12_guest) (av := [.int (nI 1), .int (xs (i + 2)), .int (xs (i + 1)), .ref 121]) (st := [.int v]) hC rfl rfl rfl (hrr (show ((cu + 0) + 0) ≤ 601024 by omega) (show ((su + 0) + 0) ≤ 7293034 by omega)) rfl rfl mo_X12_guest hw (fun r N2 hN2 => ?_)
    obtain ⟨hA2, _, hag⟩ := hN2
    obtain ⟨v2, e1, rfl, _⟩ := hag.resolve_right (fun ⟨E, _, _, e1, _⟩ => by cases e1)
    cases e1
    refine y_run (k := (k_c13, k_LW.2)) mk_LW hC (cut := [1723, 1107]) 1 ⟨fun _ => (?_ : eg_T2 L xs wd k_LW P 1723 ((cu + 0) + 0) ((su + 0) + 0) [some (.retAddr 1000), some (.ref 0), some (.ref 121), some (.ref 177), some (.int (nI i)), x5, x6, x7] [] N2), fun z => absurd rfl z⟩
    exact hn _ _ _ _ _ _ (by omega) (by omega) hA2
def k_c14 : List (Nat × Instr × Nat) := [(1109, .aload_n 1, 1), (1110, .aload_n 0, 1), (1111, .iload 4, 2), (1113, .iconst 1, 1), (1114, .iadd, 1), (1115, .iaload, 1), (1116, .aload_n 0, 1), (1117, .iload 4, 2), (1119, .iconst 2, 1), (1120, .iadd, 1), (1121, .iaload, 1), (1122, .aload_n 3, 1), (1123, .invokestatic 133, 3), (1126, .istore 5, 2), (1128, .aload_n 2, 1), (1129, .aload_n 0, 1), (1130, .iload 4, 2), (1132, .iconst 1, 1), (1133, .iadd, 1), (1134, .iaload, 1), (1135, .aload_n 0, 1), (1136, .iload 4, 2), (1138, .iconst 2, 1), (1139, .iadd, 1), (1140, .iaload, 1), (1141, .invokevirtual 136, 3), (1144, .istore 6, 2), (1146, .aload_n 2, 1), (1147, .invokevirtual 82, 3), (1150, .iload 5, 2), (1152, .if_icmp .eq 5, 3), (1157, .iload 5, 2), (1159, .ifCond .ne 15, 3), (1162, .aload_n 3, 1), (1163, .iconst 0, 1), (1164, .laload, 1), (1165, .iload 6, 2), (1167, .i2l, 1), (1168, .lcmp, 1), (1169, .ifCond .eq 5, 3), (1174, .goto 549, 3)]
theorem hs_c14 : ∀ q ∈ k_c14, eg_lq k_LW.1 q.1 = some q.2 := by decide +kernel
set_option maxRecDepth 100000 in
set_option maxHeartbeats 4000000 in
theorem lc_14 {L : Nat} {xs : Nat → Int32} {P : eg_P} {i cu su : Nat} {x5 x6 x7 : Option Value} {M : eg_M} (hL : i + 8 ≤ L) (hL2 : L ≤ 4096) (hcu : cu + 5 ≤ 601024) (hsu : su + 1212 ≤ 7293034) (hA : r_A M) (hn : ∀ cu' su' y5 y6 y7 M', cu' ≤ cu + 5 → su' ≤ su + 1212 → r_A M' → eg_T2 L xs wd k_LW P 1723 cu' su' [some (.retAddr 1000), some (.ref 0), some (.ref 121), some (.ref 177), some (.int (nI i)), y5, y6, y7] [] M') : eg_T2 L xs wd k_LW P 1109 cu su [some (.retAddr 1000), some (.ref 0), some (.ref 121), some (.ref 177), some (.int (nI i)), x5, x6, x7] [] M := by
  have hs := hs_c14
  have hC := hC_sub (P := P) (L := L) (xs := xs) hs
  refine y_run (k := (k_c14, k_LW.2)) mk_LW hC (cut := [1115]) 5 (?_ : eg_T2 L xs wd k_LW P 1115 cu su [some (.retAddr 1000), some (.ref 0), some (.ref 121), some (.ref 177), some (.int (nI i)), x5, x6, x7] [.int (nI i + nI 1), .retAddr 1000, .ref 0] M)
  refine t2_ia (code := k_c14) hs rfl n_s (show i + 1 < L by omega) hL2 (?_ : eg_T2 L xs wd k_LW P 1116 cu su [some (.retAddr 1000), some (.ref 0), some (.ref 121), some (.ref 177), some (.int (nI i)), x5, x6, x7] [.int (xs (i + 1)), .ref 0] M)
  refine y_run (k := (k_c14, k_LW.2)) mk_LW hC (cut := [1121]) 4 (?_ : eg_T2 L xs wd k_LW P 1121 cu su [some (.retAddr 1000), some (.ref 0), some (.ref 121), some (.ref 177), some (.int (nI i)), x5, x6, x7] [.int (nI i + nI 2), .retAddr 1000, .int (xs (i + 1)), .ref 0] M)
  refine t2_ia (code := k_c14) hs rfl n_s (show i + 2 < L by omega) hL2 (?_ : eg_T2 L xs wd k_LW P 1122 cu su [some (.retAddr 1000), some (.ref 0), some (.ref 121), some (.ref 177), some (.int (nI i)), x5, x6, x7] [.int (xs (i + 2)), .int (xs (i + 1)), .ref 0] M)
  refine y_run (k := (k_c14, k_LW.2)) mk_LW hC (cut := [1123]) 1 (?_ : eg_T2 L xs wd k_LW P 1123 cu su [some (.retAddr 1000), some (.ref 0), some (.ref 121), some (.ref 177), some (.int (nI i)), x5, x6, x7] [.ref 177, .int (xs (i + 2)), .int (xs (i + 1)), .ref 0] M)
  refine y_cs (k := (k_c14, k_LW.2)) (j := 133) (n := 4) (kc := 1) (ks := 6) (S := s_L_liking) (av := [.ref 177, .int (xs (i + 2)), .int (xs (i + 1)), .ref 0]) (st := []) hC rfl rfl rfl (hrr (show (cu + 1) ≤ 601024 by omega) (show (su + 6) ≤ 7293034 by omega)) rfl rfl mo_L_liking (wl_liking (xs (i + 1)) (xs (i + 2)) hA) (fun r N hN => ?_)
  obtain ⟨kk, rfl, hw⟩ := hN
  refine y_run (k := (k_c14, k_LW.2)) mk_LW hC (cut := [1134]) 6 (?_ : eg_T2 L xs wd k_LW P 1134 (cu + 1) (su + 6) [some (.retAddr 1000), some (.ref 0), some (.ref 121), some (.ref 177), some (.int (nI i)), some (.int kk), x6, x7] [.int (nI i + nI 1), .retAddr 1000, .ref 121] N)
  refine t2_ia (code := k_c14) hs rfl n_s (show i + 1 < L by omega) hL2 (?_ : eg_T2 L xs wd k_LW P 1135 (cu + 1) (su + 6) [some (.retAddr 1000), some (.ref 0), some (.ref 121), some (.ref 177), some (.int (nI i)), some (.int kk), x6, x7] [.int (xs (i + 1)), .ref 121] N)
  refine y_run (k := (k_c14, k_LW.2)) mk_LW hC (cut := [1140]) 4 (?_ : eg_T2 L xs wd k_LW P 1140 (cu + 1) (su + 6) [some (.retAddr 1000), some (.ref 0), some (.ref 121), some (.ref 177), some (.int (nI i)), some (.int kk), x6, x7] [.int (nI i + nI 2), .retAddr 1000, .int (xs (i + 1)), .ref 121] N)
  refine t2_ia (code := k_c14) hs rfl n_s (show i + 2 < L by omega) hL2 (?_ : eg_T2 L xs wd k_LW P 1141 (cu + 1) (su + 6) [some (.retAddr 1000), some (.ref 0), some (.ref 121), some (.ref 177), some (.int (nI i)), some (.int kk), x6, x7] [.int (xs (i + 2)), .int (xs (i + 1)), .ref 121] N)
  refine y_cv (k := (k_c14, k_LW.2)) (j := 136) (n := 2 + 1) (kc := 0) (ks := 0) (S := s_X12_liking) (av := [.int (xs (i + 2)), .int (xs (i + 1)), .ref 121]) (st := []) hC rfl rfl rfl (hrr (show ((cu + 1) + 0) ≤ 601024 by omega) (show ((su + 6) + 0) ≤ 7293034 by omega)) rfl rfl mo_X12_liking hw (fun r N2 hN2 => ?_)
  obtain ⟨hA2, b, rfl, hk, hz⟩ := hN2
  refine y_run (k := (k_c14, k_LW.2)) mk_LW hC (cut := [1147]) 2 (?_ : eg_T2 L xs wd k_LW P 1147 ((cu + 1) + 0) ((su + 6) + 0) [some (.retAddr 1000), some (.ref 0), some (.ref 121), some (.ref 177), some (.int (nI i)), some (.int kk), some (.int b), x7] [.ref 121] N2)
  refine y_cv (k := (k_c14, k_LW.2)) (j := 82) (n := 0 + 1) (kc := 0) (ks := 0) (S := s_X12_thrown) (av := [.ref 121]) (st := []) hC rfl rfl rfl (hrr (show (((cu + 1) + 0) + 0) ≤ 601024 by omega) (show (((su + 6) + 0) + 0) ≤ 7293034 by omega)) rfl rfl mo_X12_thrown (th_ok hk) (fun r N3 hN3 => ?_)
  obtain ⟨rfl, rfl⟩ := hN3
  refine y_run (k := (k_c14, k_LW.2)) mk_LW hC (cut := [1152]) 1 (?_ : eg_T2 L xs wd k_LW P 1152 (((cu + 1) + 0) + 0) (((su + 6) + 0) + 0) [some (.retAddr 1000), some (.ref 0), some (.ref 121), some (.ref 177), some (.int (nI i)), some (.int kk), some (.int b), x7] [.int kk, .int kk] N3)
  refine y_run (k := (k_c14, k_LW.2)) mk_LW hC (cut := [1157, 1155]) 1 ⟨fun _ => (?_ : eg_T2 L xs wd k_LW P 1157 (((cu + 1) + 0) + 0) (((su + 6) + 0) + 0) [some (.retAddr 1000), some (.ref 0), some (.ref 121), some (.ref 177), some (.int (nI i)), some (.int kk), some (.int b), x7] [] N3), fun z => absurd rfl z⟩
  refine y_run (k := (k_c14, k_LW.2)) mk_LW hC (cut := [1159]) 1 (?_ : eg_T2 L xs wd k_LW P 1159 (((cu + 1) + 0) + 0) (((su + 6) + 0) + 0) [some (.retAddr 1000), some (.ref 0), some (.ref 121), some (.ref 177), some (.int (nI i)), some (.int kk), some (.int b), x7] [.int kk] N3)
  refine y_run (k := (k_c14, k_LW.2)) mk_LW hC (cut := [1174, 1162]) 1 ⟨fun hk0 => (?_ : eg_T2 L xs wd k_LW P 1162 (((cu + 1) + 0) + 0) (((su + 6) + 0) + 0) [some (.retAddr 1000), some (.ref 0), some (.ref 121), some (.ref 177), some (.int (nI i)), some (.int kk), some (.int b), x7] [] N3), fun _ => (?_ : eg_T2 L xs wd k_LW P 1174 (((cu + 1) + 0) + 0) (((su + 6) + 0) + 0) [some (.retAddr 1000), some (.ref 0), some (.ref 121), some (.ref 177), some (.int (nI i)), some (.int kk), some (.int b), x7] [] N3)⟩
  · skip
    refine y_run (k := (k_c14, k_LW.2)) mk_LW hC (cut := [1164]) 2 (?_ : eg_T2 L xs wd k_LW P 1164 (((cu + 1) + 0) + 0) (((su + 6) + 0) + 0) [some (.retAddr 1000), some (.ref 0), some (.ref 121), some (.ref 177), some (.int (nI i)), some (.int kk), some (.int b), x7] [.int (nI 0), .ref 177] N3)
    refine y_run (k := (k_c14, k_LW.2)) mk_LW hC (cut := [1165]) 1 ⟨vp177 N3, (?_ : eg_T2 L xs wd k_LW P 1165 (((cu + 1) + 0) + 0) (((su + 6) + 0) + 0) [some (.retAddr 1000), some (.ref 0), some (.ref 121), some (.ref 177), some (.int (nI i)), some (.int kk), some (.int b), x7] [.long (eg_gl N3 177 (nI 0).toNatClampNeg)] N3)⟩
    refine y_run (k := (k_c14, k_LW.2)) mk_LW hC (cut := [1169]) 3 (?_ : eg_T2 L xs wd k_LW P 1169 (((cu + 1) + 0) + 0) (((su + 6) + 0) + 0) [some (.retAddr 1000), some (.ref 0), some (.ref 121), some (.ref 177), some (.int (nI i)), some (.int kk), some (.int b), x7] [.int (lg_cmp (eg_gl N3 177 (nI 0).toNatClampNeg) (b.toInt64))] N3)
    refine y_run (k := (k_c14, k_LW.2)) mk_LW hC (cut := [1174, 1172]) 1 ⟨fun _ => (?_ : eg_T2 L xs wd k_LW P 1174 (((cu + 1) + 0) + 0) (((su + 6) + 0) + 0) [some (.retAddr 1000), some (.ref 0), some (.ref 121), some (.ref 177), some (.int (nI i)), some (.int kk), some (.int b), x7] [] N3), fun z => absurd ((lg_cmp_eq _ _).mpr (hz hk0)) z⟩
    refine y_run (k := (k_c14, k_LW.2)) mk_LW hC (cut := [1723]) 1 (?_ : eg_T2 L xs wd k_LW P 1723 (((cu + 1) + 0) + 0) (((su + 6) + 0) + 0) [some (.retAddr 1000), some (.ref 0), some (.ref 121), some (.ref 177), some (.int (nI i)), some (.int kk), some (.int b), x7] [] N3)
    exact hn _ _ _ _ _ _ (by omega) (by omega) hA2
  · skip
    refine y_run (k := (k_c14, k_LW.2)) mk_LW hC (cut := [1723]) 1 (?_ : eg_T2 L xs wd k_LW P 1723 (((cu + 1) + 0) + 0) (((su + 6) + 0) + 0) [some (.retAddr 1000), some (.ref 0), some (.ref 121), some (.ref 177), some (.int (nI i)), some (.int kk), some (.int b), x7] [] N3)
    exact hn _ _ _ _ _ _ (by omega) (by omega) hA2
def k_c15 : List (Nat × Instr × Nat) := [(1177, .aload_n 1, 1), (1178, .invokevirtual 137, 3), (1181, .aload_n 2, 1), (1182, .invokevirtual 140, 3), (1185, .if_icmp .eq 538, 3)]
theorem hs_c15 : ∀ q ∈ k_c15, eg_lq k_LW.1 q.1 = some q.2 := by decide +kernel
set_option maxRecDepth 100000 in
set_option maxHeartbeats 4000000 in
theorem lc_15 {L : Nat} {xs : Nat → Int32} {P : eg_P} {i cu su : Nat} {x5 x6 x7 : Option Value} {M : eg_M} (hL : i + 8 ≤ L) (hL2 : L ≤ 4096) (hcu : cu + 5 ≤ 601024) (hsu : su + 1212 ≤ 7293034) (hA : r_A M) (hn : ∀ cu' su' y5 y6 y7 M', cu' ≤ cu + 5 → su' ≤ su + 1212 → r_A M' → eg_T2 L xs wd k_LW P 1723 cu' su' [some (.retAddr 1000), some (.ref 0), some (.ref 121), some (.ref 177), some (.int (nI i)), y5, y6, y7] [] M') : eg_T2 L xs wd k_LW P 1177 cu su [some (.retAddr 1000), some (.ref 0), some (.ref 121), some (.ref 177), some (.int (nI i)), x5, x6, x7] [] M := by
  have hs := hs_c15
  have hC := hC_sub (P := P) (L := L) (xs := xs) hs
  refine y_run (k := (k_c15, k_LW.2)) mk_LW hC (cut := [1178]) 1 (?_ : eg_T2 L xs wd k_LW P 1178 cu su [some (.retAddr 1000), some (.ref 0), some (.ref 121), some (.ref 177), some (.int (nI i)), x5, x6, x7] [.ref 0] M)
  refine y_cv (k := (k_c15, k_LW.2)) (j := 137) (n := 0 + 1) (kc := 0) (ks := 0) (S := s_X11_lodge) (av := [.ref 0]) (st := []) hC rfl rfl rfl (hrr (show (cu + 0) ≤ 601024 by omega) (show (su + 0) ≤ 7293034 by omega)) rfl rfl mo_X11_lodge (pk_lodge M hA) (fun r N hN => ?_)
  obtain ⟨hok, hw⟩ := hN
  obtain ⟨v, rfl⟩ := hok.resolve_right (fun ⟨E, q, _, hf⟩ => by simp at hf)
  refine y_run (k := (k_c15, k_LW.2)) mk_LW hC (cut := [1182]) 1 (?_ : eg_T2 L xs wd k_LW P 1182 (cu + 0) (su + 0) [some (.retAddr 1000), some (.ref 0), some (.ref 121), some (.ref 177), some (.int (nI i)), x5, x6, x7] [.ref 121, .int v] N)
  have hw := hw (eg_gl N 177 0)
  rw [sl_id] at hw
  refine y_cv (k := (k_c15, k_LW.2)) (j := 140) (n := 0 + 1) (kc := 0) (ks := 0) (S := s_X12_lodge) (av := [.ref 121]) (st := [.int v]) hC rfl rfl rfl (hrr (show ((cu + 0) + 0) ≤ 601024 by omega) (show ((su + 0) + 0) ≤ 7293034 by omega)) rfl rfl mo_X12_lodge hw (fun r N2 hN2 => ?_)
  obtain ⟨hA2, _, hag⟩ := hN2
  obtain ⟨v2, e1, rfl, _⟩ := hag.resolve_right (fun ⟨E, _, _, e1, _⟩ => by cases e1)
  cases e1
  refine y_run (k := (k_c15, k_LW.2)) mk_LW hC (cut := [1723, 1188]) 1 ⟨fun _ => (?_ : eg_T2 L xs wd k_LW P 1723 ((cu + 0) + 0) ((su + 0) + 0) [some (.retAddr 1000), some (.ref 0), some (.ref 121), some (.ref 177), some (.int (nI i)), x5, x6, x7] [] N2), fun z => absurd rfl z⟩
  exact hn _ _ _ _ _ _ (by omega) (by omega) hA2
def k_c16 : List (Nat × Instr × Nat) := [(1190, .aload_n 1, 1), (1191, .aload_n 0, 1), (1192, .iload 4, 2), (1194, .iconst 1, 1), (1195, .iadd, 1), (1196, .iaload, 1), (1197, .aload_n 3, 1), (1198, .invokestatic 141, 3), (1201, .istore 5, 2), (1203, .aload_n 2, 1), (1204, .aload_n 0, 1), (1205, .iload 4, 2), (1207, .iconst 1, 1), (1208, .iadd, 1), (1209, .iaload, 1), (1210, .invokevirtual 143, 3), (1213, .istore 6, 2), (1215, .aload_n 2, 1), (1216, .invokevirtual 82, 3), (1219, .iload 5, 2), (1221, .if_icmp .eq 5, 3), (1226, .iload 5, 2), (1228, .ifCond .ne 15, 3), (1231, .aload_n 3, 1), (1232, .iconst 0, 1), (1233, .laload, 1), (1234, .iload 6, 2), (1236, .i2l, 1), (1237, .lcmp, 1), (1238, .ifCond .eq 5, 3), (1243, .goto 480, 3)]
theorem hs_c16 : ∀ q ∈ k_c16, eg_lq k_LW.1 q.1 = some q.2 := by decide +kernel
set_option maxRecDepth 100000 in
set_option maxHeartbeats 4000000 in
theorem lc_16 {L : Nat} {xs : Nat → Int32} {P : eg_P} {i cu su : Nat} {x5 x6 x7 : Option Value} {M : eg_M} (hL : i + 8 ≤ L) (hL2 : L ≤ 4096) (hcu : cu + 5 ≤ 601024) (hsu : su + 1212 ≤ 7293034) (hA : r_A M) (hn : ∀ cu' su' y5 y6 y7 M', cu' ≤ cu + 5 → su' ≤ su + 1212 → r_A M' → eg_T2 L xs wd k_LW P 1723 cu' su' [some (.retAddr 1000), some (.ref 0), some (.ref 121), some (.ref 177), some (.int (nI i)), y5, y6, y7] [] M') : eg_T2 L xs wd k_LW P 1190 cu su [some (.retAddr 1000), some (.ref 0), some (.ref 121), some (.ref 177), some (.int (nI i)), x5, x6, x7] [] M := by
  have hs := hs_c16
  have hC := hC_sub (P := P) (L := L) (xs := xs) hs
  refine y_run (k := (k_c16, k_LW.2)) mk_LW hC (cut := [1196]) 5 (?_ : eg_T2 L xs wd k_LW P 1196 cu su [some (.retAddr 1000), some (.ref 0), some (.ref 121), some (.ref 177), some (.int (nI i)), x5, x6, x7] [.int (nI i + nI 1), .retAddr 1000, .ref 0] M)
  refine t2_ia (code := k_c16) hs rfl n_s (show i + 1 < L by omega) hL2 (?_ : eg_T2 L xs wd k_LW P 1197 cu su [some (.retAddr 1000), some (.ref 0), some (.ref 121), some (.ref 177), some (.int (nI i)), x5, x6, x7] [.int (xs (i + 1)), .ref 0] M)
  refine y_run (k := (k_c16, k_LW.2)) mk_LW hC (cut := [1198]) 1 (?_ : eg_T2 L xs wd k_LW P 1198 cu su [some (.retAddr 1000), some (.ref 0), some (.ref 121), some (.ref 177), some (.int (nI i)), x5, x6, x7] [.ref 177, .int (xs (i + 1)), .ref 0] M)
  refine y_cs (k := (k_c16, k_LW.2)) (j := 141) (n := 3) (kc := 1) (ks := 6) (S := s_L_lodged) (av := [.ref 177, .int (xs (i + 1)), .ref 0]) (st := []) hC rfl rfl rfl (hrr (show (cu + 1) ≤ 601024 by omega) (show (su + 6) ≤ 7293034 by omega)) rfl rfl mo_L_lodged (wl_lodged (xs (i + 1)) hA) (fun r N hN => ?_)
  obtain ⟨kk, rfl, hw⟩ := hN
  refine y_run (k := (k_c16, k_LW.2)) mk_LW hC (cut := [1209]) 6 (?_ : eg_T2 L xs wd k_LW P 1209 (cu + 1) (su + 6) [some (.retAddr 1000), some (.ref 0), some (.ref 121), some (.ref 177), some (.int (nI i)), some (.int kk), x6, x7] [.int (nI i + nI 1), .retAddr 1000, .ref 121] N)
  refine t2_ia (code := k_c16) hs rfl n_s (show i + 1 < L by omega) hL2 (?_ : eg_T2 L xs wd k_LW P 1210 (cu + 1) (su + 6) [some (.retAddr 1000), some (.ref 0), some (.ref 121), some (.ref 177), some (.int (nI i)), some (.int kk), x6, x7] [.int (xs (i + 1)), .ref 121] N)
  refine y_cv (k := (k_c16, k_LW.2)) (j := 143) (n := 1 + 1) (kc := 0) (ks := 0) (S := s_X12_lodged) (av := [.int (xs (i + 1)), .ref 121]) (st := []) hC rfl rfl rfl (hrr (show ((cu + 1) + 0) ≤ 601024 by omega) (show ((su + 6) + 0) ≤ 7293034 by omega)) rfl rfl mo_X12_lodged hw (fun r N2 hN2 => ?_)
  obtain ⟨hA2, b, rfl, hk, hz⟩ := hN2
  refine y_run (k := (k_c16, k_LW.2)) mk_LW hC (cut := [1216]) 2 (?_ : eg_T2 L xs wd k_LW P 1216 ((cu + 1) + 0) ((su + 6) + 0) [some (.retAddr 1000), some (.ref 0), some (.ref 121), some (.ref 177), some (.int (nI i)), some (.int kk), some (.int b), x7] [.ref 121] N2)
  refine y_cv (k := (k_c16, k_LW.2)) (j := 82) (n := 0 + 1) (kc := 0) (ks := 0) (S := s_X12_thrown) (av := [.ref 121]) (st := []) hC rfl rfl rfl (hrr (show (((cu + 1) + 0) + 0) ≤ 601024 by omega) (show (((su + 6) + 0) + 0) ≤ 7293034 by omega)) rfl rfl mo_X12_thrown (th_ok hk) (fun r N3 hN3 => ?_)
  obtain ⟨rfl, rfl⟩ := hN3
  refine y_run (k := (k_c16, k_LW.2)) mk_LW hC (cut := [1221]) 1 (?_ : eg_T2 L xs wd k_LW P 1221 (((cu + 1) + 0) + 0) (((su + 6) + 0) + 0) [some (.retAddr 1000), some (.ref 0), some (.ref 121), some (.ref 177), some (.int (nI i)), some (.int kk), some (.int b), x7] [.int kk, .int kk] N3)
  refine y_run (k := (k_c16, k_LW.2)) mk_LW hC (cut := [1226, 1224]) 1 ⟨fun _ => (?_ : eg_T2 L xs wd k_LW P 1226 (((cu + 1) + 0) + 0) (((su + 6) + 0) + 0) [some (.retAddr 1000), some (.ref 0), some (.ref 121), some (.ref 177), some (.int (nI i)), some (.int kk), some (.int b), x7] [] N3), fun z => absurd rfl z⟩
  refine y_run (k := (k_c16, k_LW.2)) mk_LW hC (cut := [1228]) 1 (?_ : eg_T2 L xs wd k_LW P 1228 (((cu + 1) + 0) + 0) (((su + 6) + 0) + 0) [some (.retAddr 1000), some (.ref 0), some (.ref 121), some (.ref 177), some (.int (nI i)), some (.int kk), some (.int b), x7] [.int kk] N3)
  refine y_run (k := (k_c16, k_LW.2)) mk_LW hC (cut := [1243, 1231]) 1 ⟨fun hk0 => (?_ : eg_T2 L xs wd k_LW P 1231 (((cu + 1) + 0) + 0) (((su + 6) + 0) + 0) [some (.retAddr 1000), some (.ref 0), some (.ref 121), some (.ref 177), some (.int (nI i)), some (.int kk), some (.int b), x7] [] N3), fun _ => (?_ : eg_T2 L xs wd k_LW P 1243 (((cu + 1) + 0) + 0) (((su + 6) + 0) + 0) [some (.retAddr 1000), some (.ref 0), some (.ref 121), some (.ref 177), some (.int (nI i)), some (.int kk), some (.int b), x7] [] N3)⟩
  · skip
    refine y_run (k := (k_c16, k_LW.2)) mk_LW hC (cut := [1233]) 2 (?_ : eg_T2 L xs wd k_LW P 1233 (((cu + 1) + 0) + 0) (((su + 6) + 0) + 0) [some (.retAddr 1000), some (.ref 0), some (.ref 121), some (.ref 177), some (.int (nI i)), some (.int kk), some (.int b), x7] [.int (nI 0), .ref 177] N3)
    refine y_run (k := (k_c16, k_LW.2)) mk_LW hC (cut := [1234]) 1 ⟨vp177 N3, (?_ : eg_T2 L xs wd k_LW P 1234 (((cu + 1) + 0) + 0) (((su + 6) + 0) + 0) [some (.retAddr 1000), some (.ref 0), some (.ref 121), some (.ref 177), some (.int (nI i)), some (.int kk), some (.int b), x7] [.long (eg_gl N3 177 (nI 0).toNatClampNeg)] N3)⟩
    refine y_run (k := (k_c16, k_LW.2)) mk_LW hC (cut := [1238]) 3 (?_ : eg_T2 L xs wd k_LW P 1238 (((cu + 1) + 0) + 0) (((su + 6) + 0) + 0) [some (.retAddr 1000), some (.ref 0), some (.ref 121), some (.ref 177), some (.int (nI i)), some (.int kk), some (.int b), x7] [.int (lg_cmp (eg_gl N3 177 (nI 0).toNatClampNeg) (b.toInt64))] N3)
    refine y_run (k := (k_c16, k_LW.2)) mk_LW hC (cut := [1243, 1241]) 1 ⟨fun _ => (?_ : eg_T2 L xs wd k_LW P 1243 (((cu + 1) + 0) + 0) (((su + 6) + 0) + 0) [some (.retAddr 1000), some (.ref 0), some (.ref 121), some (.ref 177), some (.int (nI i)), some (.int kk), some (.int b), x7] [] N3), fun z => absurd ((lg_cmp_eq _ _).mpr (hz hk0)) z⟩
    refine y_run (k := (k_c16, k_LW.2)) mk_LW hC (cut := [1723]) 1 (?_ : eg_T2 L xs wd k_LW P 1723 (((cu + 1) + 0) + 0) (((su + 6) + 0) + 0) [some (.retAddr 1000), some (.ref 0), some (.ref 121), some (.ref 177), some (.int (nI i)), some (.int kk), some (.int b), x7] [] N3)
    exact hn _ _ _ _ _ _ (by omega) (by omega) hA2
  · skip
    refine y_run (k := (k_c16, k_LW.2)) mk_LW hC (cut := [1723]) 1 (?_ : eg_T2 L xs wd k_LW P 1723 (((cu + 1) + 0) + 0) (((su + 6) + 0) + 0) [some (.retAddr 1000), some (.ref 0), some (.ref 121), some (.ref 177), some (.int (nI i)), some (.int kk), some (.int b), x7] [] N3)
    exact hn _ _ _ _ _ _ (by omega) (by omega) hA2
def k_c17 : List (Nat × Instr × Nat) := [(1246, .aload_n 1, 1), (1247, .aload_n 0, 1), (1248, .iload 4, 2), (1250, .iconst 1, 1), (1251, .iadd, 1), (1252, .iaload, 1), (1253, .aload_n 0, 1), (1254, .iload 4, 2), (1256, .iconst 2, 1), (1257, .iadd, 1), (1258, .iaload, 1), (1259, .aload_n 0, 1), (1260, .iload 4, 2), (1262, .iconst 3, 1), (1263, .iadd, 1), (1264, .iaload, 1), (1265, .aload_n 0, 1), (1266, .iload 4, 2), (1268, .iconst 4, 1), (1269, .iadd, 1), (1270, .iaload, 1), (1271, .i2l, 1), (1272, .bipush 32, 2), (1274, .lshl, 1), (1275, .aload_n 0, 1), (1276, .iload 4, 2), (1278, .iconst 5, 1), (1279, .iadd, 1), (1280, .iaload, 1), (1281, .i2l, 1), (1282, .ldc2_w 144, 3), (1285, .land, 1), (1286, .lor, 1), (1287, .aload_n 3, 1), (1288, .invokestatic 146, 3), (1291, .istore 5, 2), (1293, .aload_n 2, 1), (1294, .aload_n 0, 1), (1295, .iload 4, 2), (1297, .iconst 1, 1), (1298, .iadd, 1), (1299, .iaload, 1), (1300, .aload_n 0, 1), (1301, .iload 4, 2), (1303, .iconst 2, 1), (1304, .iadd, 1), (1305, .iaload, 1), (1306, .aload_n 0, 1), (1307, .iload 4, 2), (1309, .iconst 3, 1), (1310, .iadd, 1), (1311, .iaload, 1), (1312, .aload_n 0, 1), (1313, .iload 4, 2), (1315, .iconst 4, 1), (1316, .iadd, 1), (1317, .iaload, 1), (1318, .i2l, 1), (1319, .bipush 32, 2), (1321, .lshl, 1), (1322, .aload_n 0, 1), (1323, .iload 4, 2), (1325, .iconst 5, 1), (1326, .iadd, 1), (1327, .iaload, 1), (1328, .i2l, 1), (1329, .ldc2_w 144, 3), (1332, .land, 1), (1333, .lor, 1), (1334, .invokevirtual 149, 3), (1337, .istore 6, 2), (1339, .aload_n 2, 1), (1340, .invokevirtual 82, 3), (1343, .iload 5, 2), (1345, .if_icmp .eq 5, 3), (1350, .iload 5, 2), (1352, .ifCond .ne 15, 3), (1355, .aload_n 3, 1), (1356, .iconst 0, 1), (1357, .laload, 1), (1358, .iload 6, 2), (1360, .i2l, 1), (1361, .lcmp, 1), (1362, .ifCond .eq 5, 3), (1367, .goto 356, 3)]
theorem hs_c17 : ∀ q ∈ k_c17, eg_lq k_LW.1 q.1 = some q.2 := by decide +kernel
set_option maxRecDepth 100000 in
set_option maxHeartbeats 4000000 in
theorem lc_17 {L : Nat} {xs : Nat → Int32} {P : eg_P} {i cu su : Nat} {x5 x6 x7 : Option Value} {M : eg_M} (hL : i + 8 ≤ L) (hL2 : L ≤ 4096) (hcu : cu + 5 ≤ 601024) (hsu : su + 1212 ≤ 7293034) (hA : r_A M) (hn : ∀ cu' su' y5 y6 y7 M', cu' ≤ cu + 5 → su' ≤ su + 1212 → r_A M' → eg_T2 L xs wd k_LW P 1723 cu' su' [some (.retAddr 1000), some (.ref 0), some (.ref 121), some (.ref 177), some (.int (nI i)), y5, y6, y7] [] M') : eg_T2 L xs wd k_LW P 1246 cu su [some (.retAddr 1000), some (.ref 0), some (.ref 121), some (.ref 177), some (.int (nI i)), x5, x6, x7] [] M := by
  have hs := hs_c17
  have hC := hC_sub (P := P) (L := L) (xs := xs) hs
  refine y_run (k := (k_c17, k_LW.2)) mk_LW hC (cut := [1252]) 5 (?_ : eg_T2 L xs wd k_LW P 1252 cu su [some (.retAddr 1000), some (.ref 0), some (.ref 121), some (.ref 177), some (.int (nI i)), x5, x6, x7] [.int (nI i + nI 1), .retAddr 1000, .ref 0] M)
  refine t2_ia (code := k_c17) hs rfl n_s (show i + 1 < L by omega) hL2 (?_ : eg_T2 L xs wd k_LW P 1253 cu su [some (.retAddr 1000), some (.ref 0), some (.ref 121), some (.ref 177), some (.int (nI i)), x5, x6, x7] [.int (xs (i + 1)), .ref 0] M)
  refine y_run (k := (k_c17, k_LW.2)) mk_LW hC (cut := [1258]) 4 (?_ : eg_T2 L xs wd k_LW P 1258 cu su [some (.retAddr 1000), some (.ref 0), some (.ref 121), some (.ref 177), some (.int (nI i)), x5, x6, x7] [.int (nI i + nI 2), .retAddr 1000, .int (xs (i + 1)), .ref 0] M)
  refine t2_ia (code := k_c17) hs rfl n_s (show i + 2 < L by omega) hL2 (?_ : eg_T2 L xs wd k_LW P 1259 cu su [some (.retAddr 1000), some (.ref 0), some (.ref 121), some (.ref 177), some (.int (nI i)), x5, x6, x7] [.int (xs (i + 2)), .int (xs (i + 1)), .ref 0] M)
  refine y_run (k := (k_c17, k_LW.2)) mk_LW hC (cut := [1264]) 4 (?_ : eg_T2 L xs wd k_LW P 1264 cu su [some (.retAddr 1000), some (.ref 0), some (.ref 121), some (.ref 177), some (.int (nI i)), x5, x6, x7] [.int (nI i + nI 3), .retAddr 1000, .int (xs (i + 2)), .int (xs (i + 1)), .ref 0] M)
  refine t2_ia (code := k_c17) hs rfl n_s (show i + 3 < L by omega) hL2 (?_ : eg_T2 L xs wd k_LW P 1265 cu su [some (.retAddr 1000), some (.ref 0), some (.ref 121), some (.ref 177), some (.int (nI i)), x5, x6, x7] [.int (xs (i + 3)), .int (xs (i + 2)), .int (xs (i + 1)), .ref 0] M)
  refine y_run (k := (k_c17, k_LW.2)) mk_LW hC (cut := [1270]) 4 (?_ : eg_T2 L xs wd k_LW P 1270 cu su [some (.retAddr 1000), some (.ref 0), some (.ref 121), some (.ref 177), some (.int (nI i)), x5, x6, x7] [.int (nI i + nI 4), .retAddr 1000, .int (xs (i + 3)), .int (xs (i + 2)), .int (xs (i + 1)), .ref 0] M)
  refine t2_ia (code := k_c17) hs rfl n_s (show i + 4 < L by omega) hL2 (?_ : eg_T2 L xs wd k_LW P 1271 cu su [some (.retAddr 1000), some (.ref 0), some (.ref 121), some (.ref 177), some (.int (nI i)), x5, x6, x7] [.int (xs (i + 4)), .int (xs (i + 3)), .int (xs (i + 2)), .int (xs (i + 1)), .ref 0] M)
  refine y_run (k := (k_c17, k_LW.2)) mk_LW hC (cut := [1280]) 7 (?_ : eg_T2 L xs wd k_LW P 1280 cu su [some (.retAddr 1000), some (.ref 0), some (.ref 121), some (.ref 177), some (.int (nI i)), x5, x6, x7] [.int (nI i + nI 5), .retAddr 1000, .long (((xs (i + 4)).toInt64) <<< (((nI 32)).toInt64 &&& 63)), .int (xs (i + 3)), .int (xs (i + 2)), .int (xs (i + 1)), .ref 0] M)
  refine t2_ia (code := k_c17) hs rfl n_s (show i + 5 < L by omega) hL2 (?_ : eg_T2 L xs wd k_LW P 1281 cu su [some (.retAddr 1000), some (.ref 0), some (.ref 121), some (.ref 177), some (.int (nI i)), x5, x6, x7] [.int (xs (i + 5)), .long (((xs (i + 4)).toInt64) <<< (((nI 32)).toInt64 &&& 63)), .int (xs (i + 3)), .int (xs (i + 2)), .int (xs (i + 1)), .ref 0] M)
  refine y_run (k := (k_c17, k_LW.2)) mk_LW hC (cut := [1288]) 5 (?_ : eg_T2 L xs wd k_LW P 1288 cu su [some (.retAddr 1000), some (.ref 0), some (.ref 121), some (.ref 177), some (.int (nI i)), x5, x6, x7] [.ref 177, .long ((((xs (i + 4)).toInt64) <<< (((nI 32)).toInt64 &&& 63)) ||| (((xs (i + 5)).toInt64) &&& (lN 4294967295))), .int (xs (i + 3)), .int (xs (i + 2)), .int (xs (i + 1)), .ref 0] M)
  refine y_cs (k := (k_c17, k_LW.2)) (j := 146) (n := 6) (kc := 1) (ks := 6) (S := s_L_plan) (av := [.ref 177, .long ((((xs (i + 4)).toInt64) <<< (((nI 32)).toInt64 &&& 63)) ||| (((xs (i + 5)).toInt64) &&& (lN 4294967295))), .int (xs (i + 3)), .int (xs (i + 2)), .int (xs (i + 1)), .ref 0]) (st := []) hC rfl rfl rfl (hrr (show (cu + 1) ≤ 601024 by omega) (show (su + 6) ≤ 7293034 by omega)) rfl rfl mo_L_plan (wl_plan (xs (i + 1)) (xs (i + 2)) (xs (i + 3)) ((((xs (i + 4)).toInt64) <<< (((nI 32)).toInt64 &&& 63)) ||| (((xs (i + 5)).toInt64) &&& (lN 4294967295))) hA) (fun r N hN => ?_)
  obtain ⟨kk, rfl, hw⟩ := hN
  refine y_run (k := (k_c17, k_LW.2)) mk_LW hC (cut := [1299]) 6 (?_ : eg_T2 L xs wd k_LW P 1299 (cu + 1) (su + 6) [some (.retAddr 1000), some (.ref 0), some (.ref 121), some (.ref 177), some (.int (nI i)), some (.int kk), x6, x7] [.int (nI i + nI 1), .retAddr 1000, .ref 121] N)
  refine t2_ia (code := k_c17) hs rfl n_s (show i + 1 < L by omega) hL2 (?_ : eg_T2 L xs wd k_LW P 1300 (cu + 1) (su + 6) [some (.retAddr 1000), some (.ref 0), some (.ref 121), some (.ref 177), some (.int (nI i)), some (.int kk), x6, x7] [.int (xs (i + 1)), .ref 121] N)
  refine y_run (k := (k_c17, k_LW.2)) mk_LW hC (cut := [1305]) 4 (?_ : eg_T2 L xs wd k_LW P 1305 (cu + 1) (su + 6) [some (.retAddr 1000), some (.ref 0), some (.ref 121), some (.ref 177), some (.int (nI i)), some (.int kk), x6, x7] [.int (nI i + nI 2), .retAddr 1000, .int (xs (i + 1)), .ref 121] N)
  refine t2_ia (code := k_c17) hs rfl n_s (show i + 2 < L by omega) hL2 (?_ : eg_T2 L xs wd k_LW P 1306 (cu + 1) (su + 6) [some (.retAddr 1000), some (.ref 0), some (.ref 121), some (.ref 177), some (.int (nI i)), some (.int kk), x6, x7] [.int (xs (i + 2)), .int (xs (i + 1)), .ref 121] N)
  refine y_run (k := (k_c17, k_LW.2)) mk_LW hC (cut := [1311]) 4 (?_ : eg_T2 L xs wd k_LW P 1311 (cu + 1) (su + 6) [some (.retAddr 1000), some (.ref 0), some (.ref 121), some (.ref 177), some (.int (nI i)), some (.int kk), x6, x7] [.int (nI i + nI 3), .retAddr 1000, .int (xs (i + 2)), .int (xs (i + 1)), .ref 121] N)
  refine t2_ia (code := k_c17) hs rfl n_s (show i + 3 < L by omega) hL2 (?_ : eg_T2 L xs wd k_LW P 1312 (cu + 1) (su + 6) [some (.retAddr 1000), some (.ref 0), some (.ref 121), some (.ref 177), some (.int (nI i)), some (.int kk), x6, x7] [.int (xs (i + 3)), .int (xs (i + 2)), .int (xs (i + 1)), .ref 121] N)
  refine y_run (k := (k_c17, k_LW.2)) mk_LW hC (cut := [1317]) 4 (?_ : eg_T2 L xs wd k_LW P 1317 (cu + 1) (su + 6) [some (.retAddr 1000), some (.ref 0), some (.ref 121), some (.ref 177), some (.int (nI i)), some (.int kk), x6, x7] [.int (nI i + nI 4), .retAddr 1000, .int (xs (i + 3)), .int (xs (i + 2)), .int (xs (i + 1)), .ref 121] N)
  refine t2_ia (code := k_c17) hs rfl n_s (show i + 4 < L by omega) hL2 (?_ : eg_T2 L xs wd k_LW P 1318 (cu + 1) (su + 6) [some (.retAddr 1000), some (.ref 0), some (.ref 121), some (.ref 177), some (.int (nI i)), some (.int kk), x6, x7] [.int (xs (i + 4)), .int (xs (i + 3)), .int (xs (i + 2)), .int (xs (i + 1)), .ref 121] N)
  refine y_run (k := (k_c17, k_LW.2)) mk_LW hC (cut := [1327]) 7 (?_ : eg_T2 L xs wd k_LW P 1327 (cu + 1) (su + 6) [some (.retAddr 1000), some (.ref 0), some (.ref 121), some (.ref 177), some (.int (nI i)), some (.int kk), x6, x7] [.int (nI i + nI 5), .retAddr 1000, .long (((xs (i + 4)).toInt64) <<< (((nI 32)).toInt64 &&& 63)), .int (xs (i + 3)), .int (xs (i + 2)), .int (xs (i + 1)), .ref 121] N)
  refine t2_ia (code := k_c17) hs rfl n_s (show i + 5 < L by omega) hL2 (?_ : eg_T2 L xs wd k_LW P 1328 (cu + 1) (su + 6) [some (.retAddr 1000), some (.ref 0), some (.ref 121), some (.ref 177), some (.int (nI i)), some (.int kk), x6, x7] [.int (xs (i + 5)), .long (((xs (i + 4)).toInt64) <<< (((nI 32)).toInt64 &&& 63)), .int (xs (i + 3)), .int (xs (i + 2)), .int (xs (i + 1)), .ref 121] N)
  refine y_run (k := (k_c17, k_LW.2)) mk_LW hC (cut := [1334]) 4 (?_ : eg_T2 L xs wd k_LW P 1334 (cu + 1) (su + 6) [some (.retAddr 1000), some (.ref 0), some (.ref 121), some (.ref 177), some (.int (nI i)), some (.int kk), x6, x7] [.long ((((xs (i + 4)).toInt64) <<< (((nI 32)).toInt64 &&& 63)) ||| (((xs (i + 5)).toInt64) &&& (lN 4294967295))), .int (xs (i + 3)), .int (xs (i + 2)), .int (xs (i + 1)), .ref 121] N)
  refine y_cv (k := (k_c17, k_LW.2)) (j := 149) (n := 4 + 1) (kc := 0) (ks := 0) (S := s_X12_plan) (av := [.long ((((xs (i + 4)).toInt64) <<< (((nI 32)).toInt64 &&& 63)) ||| (((xs (i + 5)).toInt64) &&& (lN 4294967295))), .int (xs (i + 3)), .int (xs (i + 2)), .int (xs (i + 1)), .ref 121]) (st := []) hC rfl rfl rfl (hrr (show ((cu + 1) + 0) ≤ 601024 by omega) (show ((su + 6) + 0) ≤ 7293034 by omega)) rfl rfl mo_X12_plan hw (fun r N2 hN2 => ?_)
  obtain ⟨hA2, b, rfl, hk, hz⟩ := hN2
  refine y_run (k := (k_c17, k_LW.2)) mk_LW hC (cut := [1340]) 2 (?_ : eg_T2 L xs wd k_LW P 1340 ((cu + 1) + 0) ((su + 6) + 0) [some (.retAddr 1000), some (.ref 0), some (.ref 121), some (.ref 177), some (.int (nI i)), some (.int kk), some (.int b), x7] [.ref 121] N2)
  refine y_cv (k := (k_c17, k_LW.2)) (j := 82) (n := 0 + 1) (kc := 0) (ks := 0) (S := s_X12_thrown) (av := [.ref 121]) (st := []) hC rfl rfl rfl (hrr (show (((cu + 1) + 0) + 0) ≤ 601024 by omega) (show (((su + 6) + 0) + 0) ≤ 7293034 by omega)) rfl rfl mo_X12_thrown (th_ok hk) (fun r N3 hN3 => ?_)
  obtain ⟨rfl, rfl⟩ := hN3
  refine y_run (k := (k_c17, k_LW.2)) mk_LW hC (cut := [1345]) 1 (?_ : eg_T2 L xs wd k_LW P 1345 (((cu + 1) + 0) + 0) (((su + 6) + 0) + 0) [some (.retAddr 1000), some (.ref 0), some (.ref 121), some (.ref 177), some (.int (nI i)), some (.int kk), some (.int b), x7] [.int kk, .int kk] N3)
  refine y_run (k := (k_c17, k_LW.2)) mk_LW hC (cut := [1350, 1348]) 1 ⟨fun _ => (?_ : eg_T2 L xs wd k_LW P 1350 (((cu + 1) + 0) + 0) (((su + 6) + 0) + 0) [some (.retAddr 1000), some (.ref 0), some (.ref 121), some (.ref 177), some (.int (nI i)), some (.int kk), some (.int b), x7] [] N3), fun z => absurd rfl z⟩
  refine y_run (k := (k_c17, k_LW.2)) mk_LW hC (cut := [1352]) 1 (?_ : eg_T2 L xs wd k_LW P 1352 (((cu + 1) + 0) + 0) (((su + 6) + 0) + 0) [some (.retAddr 1000), some (.ref 0), some (.ref 121), some (.ref 177), some (.int (nI i)), some (.int kk), some (.int b), x7] [.int kk] N3)
  refine y_run (k := (k_c17, k_LW.2)) mk_LW hC (cut := [1367, 1355]) 1 ⟨fun hk0 => (?_ : eg_T2 L xs wd k_LW P 1355 (((cu + 1) + 0) + 0) (((su + 6) + 0) + 0) [some (.retAddr 1000), some (.ref 0), some (.ref 121), some (.ref 177), some (.int (nI i)), some (.int kk), some (.int b), x7] [] N3), fun _ => (?_ : eg_T2 L xs wd k_LW P 1367 (((cu + 1) + 0) + 0) (((su + 6) + 0) + 0) [some (.retAddr 1000), some (.ref 0), some (.ref 121), some (.ref 177), some (.int (nI i)), some (.int kk), some (.int b), x7] [] N3)⟩
  · skip
    refine y_run (k := (k_c17, k_LW.2)) mk_LW hC (cut := [1357]) 2 (?_ : eg_T2 L xs wd k_LW P 1357 (((cu + 1) + 0) + 0) (((su + 6) + 0) + 0) [some (.retAddr 1000), some (.ref 0), some (.ref 121), some (.ref 177), some (.int (nI i)), some (.int kk), some (.int b), x7] [.int (nI 0), .ref 177] N3)
    refine y_run (k := (k_c17, k_LW.2)) mk_LW hC (cut := [1358]) 1 ⟨vp177 N3, (?_ : eg_T2 L xs wd k_LW P 1358 (((cu + 1) + 0) + 0) (((su + 6) + 0) + 0) [some (.retAddr 1000), some (.ref 0), some (.ref 121), some (.ref 177), some (.int (nI i)), some (.int kk), some (.int b), x7] [.long (eg_gl N3 177 (nI 0).toNatClampNeg)] N3)⟩
    refine y_run (k := (k_c17, k_LW.2)) mk_LW hC (cut := [1362]) 3 (?_ : eg_T2 L xs wd k_LW P 1362 (((cu + 1) + 0) + 0) (((su + 6) + 0) + 0) [some (.retAddr 1000), some (.ref 0), some (.ref 121), some (.ref 177), some (.int (nI i)), some (.int kk), some (.int b), x7] [.int (lg_cmp (eg_gl N3 177 (nI 0).toNatClampNeg) (b.toInt64))] N3)
    refine y_run (k := (k_c17, k_LW.2)) mk_LW hC (cut := [1367, 1365]) 1 ⟨fun _ => (?_ : eg_T2 L xs wd k_LW P 1367 (((cu + 1) + 0) + 0) (((su + 6) + 0) + 0) [some (.retAddr 1000), some (.ref 0), some (.ref 121), some (.ref 177), some (.int (nI i)), some (.int kk), some (.int b), x7] [] N3), fun z => absurd ((lg_cmp_eq _ _).mpr (hz hk0)) z⟩
    refine y_run (k := (k_c17, k_LW.2)) mk_LW hC (cut := [1723]) 1 (?_ : eg_T2 L xs wd k_LW P 1723 (((cu + 1) + 0) + 0) (((su + 6) + 0) + 0) [some (.retAddr 1000), some (.ref 0), some (.ref 121), some (.ref 177), some (.int (nI i)), some (.int kk), some (.int b), x7] [] N3)
    exact hn _ _ _ _ _ _ (by omega) (by omega) hA2
  · skip
    refine y_run (k := (k_c17, k_LW.2)) mk_LW hC (cut := [1723]) 1 (?_ : eg_T2 L xs wd k_LW P 1723 (((cu + 1) + 0) + 0) (((su + 6) + 0) + 0) [some (.retAddr 1000), some (.ref 0), some (.ref 121), some (.ref 177), some (.int (nI i)), some (.int kk), some (.int b), x7] [] N3)
    exact hn _ _ _ _ _ _ (by omega) (by omega) hA2
def k_c18 : List (Nat × Instr × Nat) := [(1370, .aload_n 1, 1), (1371, .invokevirtual 150, 3), (1374, .aload_n 2, 1), (1375, .invokevirtual 153, 3), (1378, .goto 345, 3)]
theorem hs_c18 : ∀ q ∈ k_c18, eg_lq k_LW.1 q.1 = some q.2 := by decide +kernel
set_option maxRecDepth 100000 in
set_option maxHeartbeats 4000000 in
theorem lc_18 {L : Nat} {xs : Nat → Int32} {P : eg_P} {i cu su : Nat} {x5 x6 x7 : Option Value} {M : eg_M} (hL : i + 8 ≤ L) (hL2 : L ≤ 4096) (hcu : cu + 5 ≤ 601024) (hsu : su + 1212 ≤ 7293034) (hA : r_A M) (hn : ∀ cu' su' y5 y6 y7 M', cu' ≤ cu + 5 → su' ≤ su + 1212 → r_A M' → eg_T2 L xs wd k_LW P 1723 cu' su' [some (.retAddr 1000), some (.ref 0), some (.ref 121), some (.ref 177), some (.int (nI i)), y5, y6, y7] [] M') : eg_T2 L xs wd k_LW P 1370 cu su [some (.retAddr 1000), some (.ref 0), some (.ref 121), some (.ref 177), some (.int (nI i)), x5, x6, x7] [] M := by
  have hs := hs_c18
  have hC := hC_sub (P := P) (L := L) (xs := xs) hs
  refine y_run (k := (k_c18, k_LW.2)) mk_LW hC (cut := [1371]) 1 (?_ : eg_T2 L xs wd k_LW P 1371 cu su [some (.retAddr 1000), some (.ref 0), some (.ref 121), some (.ref 177), some (.int (nI i)), x5, x6, x7] [.ref 0] M)
  refine y_cv (k := (k_c18, k_LW.2)) (j := 150) (n := 0 + 1) (kc := 0) (ks := 0) (S := s_X11_clear) (av := [.ref 0]) (st := []) hC rfl rfl rfl (hrr (show (cu + 0) ≤ 601024 by omega) (show (su + 0) ≤ 7293034 by omega)) rfl rfl mo_X11_clear (pk_clear M hA) (fun r N hN => ?_)
  obtain ⟨hok, hw⟩ := hN
  obtain rfl := hok
  refine y_run (k := (k_c18, k_LW.2)) mk_LW hC (cut := [1375]) 1 (?_ : eg_T2 L xs wd k_LW P 1375 (cu + 0) (su + 0) [some (.retAddr 1000), some (.ref 0), some (.ref 121), some (.ref 177), some (.int (nI i)), x5, x6, x7] [.ref 121] N)
  have hw := hw (eg_gl N 177 0)
  rw [sl_id] at hw
  refine y_cv (k := (k_c18, k_LW.2)) (j := 153) (n := 0 + 1) (kc := 0) (ks := 0) (S := s_X12_clear) (av := [.ref 121]) (st := []) hC rfl rfl rfl (hrr (show ((cu + 0) + 0) ≤ 601024 by omega) (show ((su + 0) + 0) ≤ 7293034 by omega)) rfl rfl mo_X12_clear hw (fun r N2 hN2 => ?_)
  obtain ⟨hA2, _, hag⟩ := hN2
  obtain ⟨_, rfl⟩ := hag
  refine y_run (k := (k_c18, k_LW.2)) mk_LW hC (cut := [1723]) 1 (?_ : eg_T2 L xs wd k_LW P 1723 ((cu + 0) + 0) ((su + 0) + 0) [some (.retAddr 1000), some (.ref 0), some (.ref 121), some (.ref 177), some (.int (nI i)), x5, x6, x7] [] N2)
  exact hn _ _ _ _ _ _ (by omega) (by omega) hA2
def k_c19 : List (Nat × Instr × Nat) := [(1381, .aload_n 1, 1), (1382, .invokevirtual 154, 3), (1385, .aload_n 2, 1), (1386, .invokevirtual 157, 3), (1389, .if_icmp .eq 334, 3)]
theorem hs_c19 : ∀ q ∈ k_c19, eg_lq k_LW.1 q.1 = some q.2 := by decide +kernel
set_option maxRecDepth 100000 in
set_option maxHeartbeats 4000000 in
theorem lc_19 {L : Nat} {xs : Nat → Int32} {P : eg_P} {i cu su : Nat} {x5 x6 x7 : Option Value} {M : eg_M} (hL : i + 8 ≤ L) (hL2 : L ≤ 4096) (hcu : cu + 5 ≤ 601024) (hsu : su + 1212 ≤ 7293034) (hA : r_A M) (hn : ∀ cu' su' y5 y6 y7 M', cu' ≤ cu + 5 → su' ≤ su + 1212 → r_A M' → eg_T2 L xs wd k_LW P 1723 cu' su' [some (.retAddr 1000), some (.ref 0), some (.ref 121), some (.ref 177), some (.int (nI i)), y5, y6, y7] [] M') : eg_T2 L xs wd k_LW P 1381 cu su [some (.retAddr 1000), some (.ref 0), some (.ref 121), some (.ref 177), some (.int (nI i)), x5, x6, x7] [] M := by
  have hs := hs_c19
  have hC := hC_sub (P := P) (L := L) (xs := xs) hs
  refine y_run (k := (k_c19, k_LW.2)) mk_LW hC (cut := [1382]) 1 (?_ : eg_T2 L xs wd k_LW P 1382 cu su [some (.retAddr 1000), some (.ref 0), some (.ref 121), some (.ref 177), some (.int (nI i)), x5, x6, x7] [.ref 0] M)
  refine y_cv (k := (k_c19, k_LW.2)) (j := 154) (n := 0 + 1) (kc := 0) (ks := 0) (S := s_X11_calendar) (av := [.ref 0]) (st := []) hC rfl rfl rfl (hrr (show (cu + 0) ≤ 601024 by omega) (show (su + 0) ≤ 7293034 by omega)) rfl rfl mo_X11_calendar (pk_calendar M hA) (fun r N hN => ?_)
  obtain ⟨hok, hw⟩ := hN
  obtain ⟨v, rfl⟩ := hok.resolve_right (fun ⟨E, q, _, hf⟩ => by simp at hf)
  refine y_run (k := (k_c19, k_LW.2)) mk_LW hC (cut := [1386]) 1 (?_ : eg_T2 L xs wd k_LW P 1386 (cu + 0) (su + 0) [some (.retAddr 1000), some (.ref 0), some (.ref 121), some (.ref 177), some (.int (nI i)), x5, x6, x7] [.ref 121, .int v] N)
  have hw := hw (eg_gl N 177 0)
  rw [sl_id] at hw
  refine y_cv (k := (k_c19, k_LW.2)) (j := 157) (n := 0 + 1) (kc := 0) (ks := 0) (S := s_X12_calendar) (av := [.ref 121]) (st := [.int v]) hC rfl rfl rfl (hrr (show ((cu + 0) + 0) ≤ 601024 by omega) (show ((su + 0) + 0) ≤ 7293034 by omega)) rfl rfl mo_X12_calendar hw (fun r N2 hN2 => ?_)
  obtain ⟨hA2, _, hag⟩ := hN2
  obtain ⟨v2, e1, rfl, _⟩ := hag.resolve_right (fun ⟨E, _, _, e1, _⟩ => by cases e1)
  cases e1
  refine y_run (k := (k_c19, k_LW.2)) mk_LW hC (cut := [1723, 1392]) 1 ⟨fun _ => (?_ : eg_T2 L xs wd k_LW P 1723 ((cu + 0) + 0) ((su + 0) + 0) [some (.retAddr 1000), some (.ref 0), some (.ref 121), some (.ref 177), some (.int (nI i)), x5, x6, x7] [] N2), fun z => absurd rfl z⟩
  exact hn _ _ _ _ _ _ (by omega) (by omega) hA2
def k_c20 : List (Nat × Instr × Nat) := [(1394, .aload_n 1, 1), (1395, .aload_n 0, 1), (1396, .iload 4, 2), (1398, .iconst 1, 1), (1399, .iadd, 1), (1400, .iaload, 1), (1401, .aload_n 3, 1), (1402, .invokestatic 158, 3), (1405, .istore 5, 2), (1407, .aload_n 2, 1), (1408, .aload_n 0, 1), (1409, .iload 4, 2), (1411, .iconst 1, 1), (1412, .iadd, 1), (1413, .iaload, 1), (1414, .invokevirtual 160, 3), (1417, .istore 6, 2), (1419, .aload_n 2, 1), (1420, .invokevirtual 82, 3), (1423, .iload 5, 2), (1425, .if_icmp .eq 5, 3), (1430, .iload 5, 2), (1432, .ifCond .ne 15, 3), (1435, .aload_n 3, 1), (1436, .iconst 0, 1), (1437, .laload, 1), (1438, .iload 6, 2), (1440, .i2l, 1), (1441, .lcmp, 1), (1442, .ifCond .eq 5, 3), (1447, .goto 276, 3)]
theorem hs_c20 : ∀ q ∈ k_c20, eg_lq k_LW.1 q.1 = some q.2 := by decide +kernel
set_option maxRecDepth 100000 in
set_option maxHeartbeats 4000000 in
theorem lc_20 {L : Nat} {xs : Nat → Int32} {P : eg_P} {i cu su : Nat} {x5 x6 x7 : Option Value} {M : eg_M} (hL : i + 8 ≤ L) (hL2 : L ≤ 4096) (hcu : cu + 5 ≤ 601024) (hsu : su + 1212 ≤ 7293034) (hA : r_A M) (hn : ∀ cu' su' y5 y6 y7 M', cu' ≤ cu + 5 → su' ≤ su + 1212 → r_A M' → eg_T2 L xs wd k_LW P 1723 cu' su' [some (.retAddr 1000), some (.ref 0), some (.ref 121), some (.ref 177), some (.int (nI i)), y5, y6, y7] [] M') : eg_T2 L xs wd k_LW P 1394 cu su [some (.retAddr 1000), some (.ref 0), some (.ref 121), some (.ref 177), some (.int (nI i)), x5, x6, x7] [] M := by
  have hs := hs_c20
  have hC := hC_sub (P := P) (L := L) (xs := xs) hs
  refine y_run (k := (k_c20, k_LW.2)) mk_LW hC (cut := [1400]) 5 (?_ : eg_T2 L xs wd k_LW P 1400 cu su [some (.retAddr 1000), some (.ref 0), some (.ref 121), some (.ref 177), some (.int (nI i)), x5, x6, x7] [.int (nI i + nI 1), .retAddr 1000, .ref 0] M)
  refine t2_ia (code := k_c20) hs rfl n_s (show i + 1 < L by omega) hL2 (?_ : eg_T2 L xs wd k_LW P 1401 cu su [some (.retAddr 1000), some (.ref 0), some (.ref 121), some (.ref 177), some (.int (nI i)), x5, x6, x7] [.int (xs (i + 1)), .ref 0] M)
  refine y_run (k := (k_c20, k_LW.2)) mk_LW hC (cut := [1402]) 1 (?_ : eg_T2 L xs wd k_LW P 1402 cu su [some (.retAddr 1000), some (.ref 0), some (.ref 121), some (.ref 177), some (.int (nI i)), x5, x6, x7] [.ref 177, .int (xs (i + 1)), .ref 0] M)
  refine y_cs (k := (k_c20, k_LW.2)) (j := 158) (n := 3) (kc := 1) (ks := 6) (S := s_L_planned) (av := [.ref 177, .int (xs (i + 1)), .ref 0]) (st := []) hC rfl rfl rfl (hrr (show (cu + 1) ≤ 601024 by omega) (show (su + 6) ≤ 7293034 by omega)) rfl rfl mo_L_planned (wl_planned (xs (i + 1)) hA) (fun r N hN => ?_)
  obtain ⟨kk, rfl, hw⟩ := hN
  refine y_run (k := (k_c20, k_LW.2)) mk_LW hC (cut := [1413]) 6 (?_ : eg_T2 L xs wd k_LW P 1413 (cu + 1) (su + 6) [some (.retAddr 1000), some (.ref 0), some (.ref 121), some (.ref 177), some (.int (nI i)), some (.int kk), x6, x7] [.int (nI i + nI 1), .retAddr 1000, .ref 121] N)
  refine t2_ia (code := k_c20) hs rfl n_s (show i + 1 < L by omega) hL2 (?_ : eg_T2 L xs wd k_LW P 1414 (cu + 1) (su + 6) [some (.retAddr 1000), some (.ref 0), some (.ref 121), some (.ref 177), some (.int (nI i)), some (.int kk), x6, x7] [.int (xs (i + 1)), .ref 121] N)
  refine y_cv (k := (k_c20, k_LW.2)) (j := 160) (n := 1 + 1) (kc := 0) (ks := 0) (S := s_X12_planned) (av := [.int (xs (i + 1)), .ref 121]) (st := []) hC rfl rfl rfl (hrr (show ((cu + 1) + 0) ≤ 601024 by omega) (show ((su + 6) + 0) ≤ 7293034 by omega)) rfl rfl mo_X12_planned hw (fun r N2 hN2 => ?_)
  obtain ⟨hA2, b, rfl, hk, hz⟩ := hN2
  refine y_run (k := (k_c20, k_LW.2)) mk_LW hC (cut := [1420]) 2 (?_ : eg_T2 L xs wd k_LW P 1420 ((cu + 1) + 0) ((su + 6) + 0) [some (.retAddr 1000), some (.ref 0), some (.ref 121), some (.ref 177), some (.int (nI i)), some (.int kk), some (.int b), x7] [.ref 121] N2)
  refine y_cv (k := (k_c20, k_LW.2)) (j := 82) (n := 0 + 1) (kc := 0) (ks := 0) (S := s_X12_thrown) (av := [.ref 121]) (st := []) hC rfl rfl rfl (hrr (show (((cu + 1) + 0) + 0) ≤ 601024 by omega) (show (((su + 6) + 0) + 0) ≤ 7293034 by omega)) rfl rfl mo_X12_thrown (th_ok hk) (fun r N3 hN3 => ?_)
  obtain ⟨rfl, rfl⟩ := hN3
  refine y_run (k := (k_c20, k_LW.2)) mk_LW hC (cut := [1425]) 1 (?_ : eg_T2 L xs wd k_LW P 1425 (((cu + 1) + 0) + 0) (((su + 6) + 0) + 0) [some (.retAddr 1000), some (.ref 0), some (.ref 121), some (.ref 177), some (.int (nI i)), some (.int kk), some (.int b), x7] [.int kk, .int kk] N3)
  refine y_run (k := (k_c20, k_LW.2)) mk_LW hC (cut := [1430, 1428]) 1 ⟨fun _ => (?_ : eg_T2 L xs wd k_LW P 1430 (((cu + 1) + 0) + 0) (((su + 6) + 0) + 0) [some (.retAddr 1000), some (.ref 0), some (.ref 121), some (.ref 177), some (.int (nI i)), some (.int kk), some (.int b), x7] [] N3), fun z => absurd rfl z⟩
  refine y_run (k := (k_c20, k_LW.2)) mk_LW hC (cut := [1432]) 1 (?_ : eg_T2 L xs wd k_LW P 1432 (((cu + 1) + 0) + 0) (((su + 6) + 0) + 0) [some (.retAddr 1000), some (.ref 0), some (.ref 121), some (.ref 177), some (.int (nI i)), some (.int kk), some (.int b), x7] [.int kk] N3)
  refine y_run (k := (k_c20, k_LW.2)) mk_LW hC (cut := [1447, 1435]) 1 ⟨fun hk0 => (?_ : eg_T2 L xs wd k_LW P 1435 (((cu + 1) + 0) + 0) (((su + 6) + 0) + 0) [some (.retAddr 1000), some (.ref 0), some (.ref 121), some (.ref 177), some (.int (nI i)), some (.int kk), some (.int b), x7] [] N3), fun _ => (?_ : eg_T2 L xs wd k_LW P 1447 (((cu + 1) + 0) + 0) (((su + 6) + 0) + 0) [some (.retAddr 1000), some (.ref 0), some (.ref 121), some (.ref 177), some (.int (nI i)), some (.int kk), some (.int b), x7] [] N3)⟩
  · skip
    refine y_run (k := (k_c20, k_LW.2)) mk_LW hC (cut := [1437]) 2 (?_ : eg_T2 L xs wd k_LW P 1437 (((cu + 1) + 0) + 0) (((su + 6) + 0) + 0) [some (.retAddr 1000), some (.ref 0), some (.ref 121), some (.ref 177), some (.int (nI i)), some (.int kk), some (.int b), x7] [.int (nI 0), .ref 177] N3)
    refine y_run (k := (k_c20, k_LW.2)) mk_LW hC (cut := [1438]) 1 ⟨vp177 N3, (?_ : eg_T2 L xs wd k_LW P 1438 (((cu + 1) + 0) + 0) (((su + 6) + 0) + 0) [some (.retAddr 1000), some (.ref 0), some (.ref 121), some (.ref 177), some (.int (nI i)), some (.int kk), some (.int b), x7] [.long (eg_gl N3 177 (nI 0).toNatClampNeg)] N3)⟩
    refine y_run (k := (k_c20, k_LW.2)) mk_LW hC (cut := [1442]) 3 (?_ : eg_T2 L xs wd k_LW P 1442 (((cu + 1) + 0) + 0) (((su + 6) + 0) + 0) [some (.retAddr 1000), some (.ref 0), some (.ref 121), some (.ref 177), some (.int (nI i)), some (.int kk), some (.int b), x7] [.int (lg_cmp (eg_gl N3 177 (nI 0).toNatClampNeg) (b.toInt64))] N3)
    refine y_run (k := (k_c20, k_LW.2)) mk_LW hC (cut := [1447, 1445]) 1 ⟨fun _ => (?_ : eg_T2 L xs wd k_LW P 1447 (((cu + 1) + 0) + 0) (((su + 6) + 0) + 0) [some (.retAddr 1000), some (.ref 0), some (.ref 121), some (.ref 177), some (.int (nI i)), some (.int kk), some (.int b), x7] [] N3), fun z => absurd ((lg_cmp_eq _ _).mpr (hz hk0)) z⟩
    refine y_run (k := (k_c20, k_LW.2)) mk_LW hC (cut := [1723]) 1 (?_ : eg_T2 L xs wd k_LW P 1723 (((cu + 1) + 0) + 0) (((su + 6) + 0) + 0) [some (.retAddr 1000), some (.ref 0), some (.ref 121), some (.ref 177), some (.int (nI i)), some (.int kk), some (.int b), x7] [] N3)
    exact hn _ _ _ _ _ _ (by omega) (by omega) hA2
  · skip
    refine y_run (k := (k_c20, k_LW.2)) mk_LW hC (cut := [1723]) 1 (?_ : eg_T2 L xs wd k_LW P 1723 (((cu + 1) + 0) + 0) (((su + 6) + 0) + 0) [some (.retAddr 1000), some (.ref 0), some (.ref 121), some (.ref 177), some (.int (nI i)), some (.int kk), some (.int b), x7] [] N3)
    exact hn _ _ _ _ _ _ (by omega) (by omega) hA2
def k_c21 : List (Nat × Instr × Nat) := [(1450, .aload_n 1, 1), (1451, .aload_n 0, 1), (1452, .iload 4, 2), (1454, .iconst 1, 1), (1455, .iadd, 1), (1456, .iaload, 1), (1457, .aload_n 0, 1), (1458, .iload 4, 2), (1460, .iconst 2, 1), (1461, .iadd, 1), (1462, .iaload, 1), (1463, .aload_n 0, 1), (1464, .iload 4, 2), (1466, .iconst 3, 1), (1467, .iadd, 1), (1468, .iaload, 1), (1469, .aload_n 3, 1), (1470, .invokestatic 161, 3), (1473, .istore 5, 2), (1475, .aload_n 2, 1), (1476, .aload_n 0, 1), (1477, .iload 4, 2), (1479, .iconst 1, 1), (1480, .iadd, 1), (1481, .iaload, 1), (1482, .aload_n 0, 1), (1483, .iload 4, 2), (1485, .iconst 2, 1), (1486, .iadd, 1), (1487, .iaload, 1), (1488, .aload_n 0, 1), (1489, .iload 4, 2), (1491, .iconst 3, 1), (1492, .iadd, 1), (1493, .iaload, 1), (1494, .invokevirtual 163, 3), (1497, .istore 6, 2), (1499, .aload_n 2, 1), (1500, .invokevirtual 82, 3), (1503, .iload 5, 2), (1505, .if_icmp .eq 5, 3), (1510, .iload 5, 2), (1512, .ifCond .ne 22, 3), (1515, .aload_n 3, 1), (1516, .iconst 0, 1), (1517, .laload, 1), (1518, .iload 6, 2), (1520, .ifCond .eq 7, 3), (1523, .lconst 1, 1), (1524, .goto 4, 3), (1527, .lconst 0, 1), (1528, .lcmp, 1), (1529, .ifCond .eq 5, 3), (1534, .goto 189, 3)]
theorem hs_c21 : ∀ q ∈ k_c21, eg_lq k_LW.1 q.1 = some q.2 := by decide +kernel
set_option maxRecDepth 100000 in
set_option maxHeartbeats 4000000 in
theorem lc_21 {L : Nat} {xs : Nat → Int32} {P : eg_P} {i cu su : Nat} {x5 x6 x7 : Option Value} {M : eg_M} (hL : i + 8 ≤ L) (hL2 : L ≤ 4096) (hcu : cu + 5 ≤ 601024) (hsu : su + 1212 ≤ 7293034) (hA : r_A M) (hn : ∀ cu' su' y5 y6 y7 M', cu' ≤ cu + 5 → su' ≤ su + 1212 → r_A M' → eg_T2 L xs wd k_LW P 1723 cu' su' [some (.retAddr 1000), some (.ref 0), some (.ref 121), some (.ref 177), some (.int (nI i)), y5, y6, y7] [] M') : eg_T2 L xs wd k_LW P 1450 cu su [some (.retAddr 1000), some (.ref 0), some (.ref 121), some (.ref 177), some (.int (nI i)), x5, x6, x7] [] M := by
  have hs := hs_c21
  have hC := hC_sub (P := P) (L := L) (xs := xs) hs
  refine y_run (k := (k_c21, k_LW.2)) mk_LW hC (cut := [1456]) 5 (?_ : eg_T2 L xs wd k_LW P 1456 cu su [some (.retAddr 1000), some (.ref 0), some (.ref 121), some (.ref 177), some (.int (nI i)), x5, x6, x7] [.int (nI i + nI 1), .retAddr 1000, .ref 0] M)
  refine t2_ia (code := k_c21) hs rfl n_s (show i + 1 < L by omega) hL2 (?_ : eg_T2 L xs wd k_LW P 1457 cu su [some (.retAddr 1000), some (.ref 0), some (.ref 121), some (.ref 177), some (.int (nI i)), x5, x6, x7] [.int (xs (i + 1)), .ref 0] M)
  refine y_run (k := (k_c21, k_LW.2)) mk_LW hC (cut := [1462]) 4 (?_ : eg_T2 L xs wd k_LW P 1462 cu su [some (.retAddr 1000), some (.ref 0), some (.ref 121), some (.ref 177), some (.int (nI i)), x5, x6, x7] [.int (nI i + nI 2), .retAddr 1000, .int (xs (i + 1)), .ref 0] M)
  refine t2_ia (code := k_c21) hs rfl n_s (show i + 2 < L by omega) hL2 (?_ : eg_T2 L xs wd k_LW P 1463 cu su [some (.retAddr 1000), some (.ref 0), some (.ref 121), some (.ref 177), some (.int (nI i)), x5, x6, x7] [.int (xs (i + 2)), .int (xs (i + 1)), .ref 0] M)
  refine y_run (k := (k_c21, k_LW.2)) mk_LW hC (cut := [1468]) 4 (?_ : eg_T2 L xs wd k_LW P 1468 cu su [some (.retAddr 1000), some (.ref 0), some (.ref 121), some (.ref 177), some (.int (nI i)), x5, x6, x7] [.int (nI i + nI 3), .retAddr 1000, .int (xs (i + 2)), .int (xs (i + 1)), .ref 0] M)
  refine t2_ia (code := k_c21) hs rfl n_s (show i + 3 < L by omega) hL2 (?_ : eg_T2 L xs wd k_LW P 1469 cu su [some (.retAddr 1000), some (.ref 0), some (.ref 121), some (.ref 177), some (.int (nI i)), x5, x6, x7] [.int (xs (i + 3)), .int (xs (i + 2)), .int (xs (i + 1)), .ref 0] M)
  refine y_run (k := (k_c21, k_LW.2)) mk_LW hC (cut := [1470]) 1 (?_ : eg_T2 L xs wd k_LW P 1470 cu su [some (.retAddr 1000), some (.ref 0), some (.ref 121), some (.ref 177), some (.int (nI i)), x5, x6, x7] [.ref 177, .int (xs (i + 3)), .int (xs (i + 2)), .int (xs (i + 1)), .ref 0] M)
  refine y_cs (k := (k_c21, k_LW.2)) (j := 161) (n := 5) (kc := 1) (ks := 6) (S := s_L_wish) (av := [.ref 177, .int (xs (i + 3)), .int (xs (i + 2)), .int (xs (i + 1)), .ref 0]) (st := []) hC rfl rfl rfl (hrr (show (cu + 1) ≤ 601024 by omega) (show (su + 6) ≤ 7293034 by omega)) rfl rfl mo_L_wish (wl_wish (xs (i + 1)) (xs (i + 2)) (xs (i + 3)) hA) (fun r N hN => ?_)
  obtain ⟨kk, rfl, hw⟩ := hN
  refine y_run (k := (k_c21, k_LW.2)) mk_LW hC (cut := [1481]) 6 (?_ : eg_T2 L xs wd k_LW P 1481 (cu + 1) (su + 6) [some (.retAddr 1000), some (.ref 0), some (.ref 121), some (.ref 177), some (.int (nI i)), some (.int kk), x6, x7] [.int (nI i + nI 1), .retAddr 1000, .ref 121] N)
  refine t2_ia (code := k_c21) hs rfl n_s (show i + 1 < L by omega) hL2 (?_ : eg_T2 L xs wd k_LW P 1482 (cu + 1) (su + 6) [some (.retAddr 1000), some (.ref 0), some (.ref 121), some (.ref 177), some (.int (nI i)), some (.int kk), x6, x7] [.int (xs (i + 1)), .ref 121] N)
  refine y_run (k := (k_c21, k_LW.2)) mk_LW hC (cut := [1487]) 4 (?_ : eg_T2 L xs wd k_LW P 1487 (cu + 1) (su + 6) [some (.retAddr 1000), some (.ref 0), some (.ref 121), some (.ref 177), some (.int (nI i)), some (.int kk), x6, x7] [.int (nI i + nI 2), .retAddr 1000, .int (xs (i + 1)), .ref 121] N)
  refine t2_ia (code := k_c21) hs rfl n_s (show i + 2 < L by omega) hL2 (?_ : eg_T2 L xs wd k_LW P 1488 (cu + 1) (su + 6) [some (.retAddr 1000), some (.ref 0), some (.ref 121), some (.ref 177), some (.int (nI i)), some (.int kk), x6, x7] [.int (xs (i + 2)), .int (xs (i + 1)), .ref 121] N)
  refine y_run (k := (k_c21, k_LW.2)) mk_LW hC (cut := [1493]) 4 (?_ : eg_T2 L xs wd k_LW P 1493 (cu + 1) (su + 6) [some (.retAddr 1000), some (.ref 0), some (.ref 121), some (.ref 177), some (.int (nI i)), some (.int kk), x6, x7] [.int (nI i + nI 3), .retAddr 1000, .int (xs (i + 2)), .int (xs (i + 1)), .ref 121] N)
  refine t2_ia (code := k_c21) hs rfl n_s (show i + 3 < L by omega) hL2 (?_ : eg_T2 L xs wd k_LW P 1494 (cu + 1) (su + 6) [some (.retAddr 1000), some (.ref 0), some (.ref 121), some (.ref 177), some (.int (nI i)), some (.int kk), x6, x7] [.int (xs (i + 3)), .int (xs (i + 2)), .int (xs (i + 1)), .ref 121] N)
  refine y_cv (k := (k_c21, k_LW.2)) (j := 163) (n := 3 + 1) (kc := 0) (ks := 0) (S := s_X12_wish) (av := [.int (xs (i + 3)), .int (xs (i + 2)), .int (xs (i + 1)), .ref 121]) (st := []) hC rfl rfl rfl (hrr (show ((cu + 1) + 0) ≤ 601024 by omega) (show ((su + 6) + 0) ≤ 7293034 by omega)) rfl rfl mo_X12_wish hw (fun r N2 hN2 => ?_)
  obtain ⟨hA2, b, rfl, hk, hz⟩ := hN2
  refine y_run (k := (k_c21, k_LW.2)) mk_LW hC (cut := [1500]) 2 (?_ : eg_T2 L xs wd k_LW P 1500 ((cu + 1) + 0) ((su + 6) + 0) [some (.retAddr 1000), some (.ref 0), some (.ref 121), some (.ref 177), some (.int (nI i)), some (.int kk), some (.int b), x7] [.ref 121] N2)
  refine y_cv (k := (k_c21, k_LW.2)) (j := 82) (n := 0 + 1) (kc := 0) (ks := 0) (S := s_X12_thrown) (av := [.ref 121]) (st := []) hC rfl rfl rfl (hrr (show (((cu + 1) + 0) + 0) ≤ 601024 by omega) (show (((su + 6) + 0) + 0) ≤ 7293034 by omega)) rfl rfl mo_X12_thrown (th_ok hk) (fun r N3 hN3 => ?_)
  obtain ⟨rfl, rfl⟩ := hN3
  refine y_run (k := (k_c21, k_LW.2)) mk_LW hC (cut := [1505]) 1 (?_ : eg_T2 L xs wd k_LW P 1505 (((cu + 1) + 0) + 0) (((su + 6) + 0) + 0) [some (.retAddr 1000), some (.ref 0), some (.ref 121), some (.ref 177), some (.int (nI i)), some (.int kk), some (.int b), x7] [.int kk, .int kk] N3)
  refine y_run (k := (k_c21, k_LW.2)) mk_LW hC (cut := [1510, 1508]) 1 ⟨fun _ => (?_ : eg_T2 L xs wd k_LW P 1510 (((cu + 1) + 0) + 0) (((su + 6) + 0) + 0) [some (.retAddr 1000), some (.ref 0), some (.ref 121), some (.ref 177), some (.int (nI i)), some (.int kk), some (.int b), x7] [] N3), fun z => absurd rfl z⟩
  refine y_run (k := (k_c21, k_LW.2)) mk_LW hC (cut := [1512]) 1 (?_ : eg_T2 L xs wd k_LW P 1512 (((cu + 1) + 0) + 0) (((su + 6) + 0) + 0) [some (.retAddr 1000), some (.ref 0), some (.ref 121), some (.ref 177), some (.int (nI i)), some (.int kk), some (.int b), x7] [.int kk] N3)
  refine y_run (k := (k_c21, k_LW.2)) mk_LW hC (cut := [1534, 1515]) 1 ⟨fun hk0 => (?_ : eg_T2 L xs wd k_LW P 1515 (((cu + 1) + 0) + 0) (((su + 6) + 0) + 0) [some (.retAddr 1000), some (.ref 0), some (.ref 121), some (.ref 177), some (.int (nI i)), some (.int kk), some (.int b), x7] [] N3), fun _ => (?_ : eg_T2 L xs wd k_LW P 1534 (((cu + 1) + 0) + 0) (((su + 6) + 0) + 0) [some (.retAddr 1000), some (.ref 0), some (.ref 121), some (.ref 177), some (.int (nI i)), some (.int kk), some (.int b), x7] [] N3)⟩
  · skip
    refine y_run (k := (k_c21, k_LW.2)) mk_LW hC (cut := [1517]) 2 (?_ : eg_T2 L xs wd k_LW P 1517 (((cu + 1) + 0) + 0) (((su + 6) + 0) + 0) [some (.retAddr 1000), some (.ref 0), some (.ref 121), some (.ref 177), some (.int (nI i)), some (.int kk), some (.int b), x7] [.int (nI 0), .ref 177] N3)
    refine y_run (k := (k_c21, k_LW.2)) mk_LW hC (cut := [1518]) 1 ⟨vp177 N3, (?_ : eg_T2 L xs wd k_LW P 1518 (((cu + 1) + 0) + 0) (((su + 6) + 0) + 0) [some (.retAddr 1000), some (.ref 0), some (.ref 121), some (.ref 177), some (.int (nI i)), some (.int kk), some (.int b), x7] [.long (eg_gl N3 177 (nI 0).toNatClampNeg)] N3)⟩
    refine y_run (k := (k_c21, k_LW.2)) mk_LW hC (cut := [1520]) 1 (?_ : eg_T2 L xs wd k_LW P 1520 (((cu + 1) + 0) + 0) (((su + 6) + 0) + 0) [some (.retAddr 1000), some (.ref 0), some (.ref 121), some (.ref 177), some (.int (nI i)), some (.int kk), some (.int b), x7] [.int b, .long (eg_gl N3 177 (nI 0).toNatClampNeg)] N3)
    refine y_run (k := (k_c21, k_LW.2)) mk_LW hC (cut := [1527, 1523]) 1 ⟨fun hc => (?_ : eg_T2 L xs wd k_LW P 1527 (((cu + 1) + 0) + 0) (((su + 6) + 0) + 0) [some (.retAddr 1000), some (.ref 0), some (.ref 121), some (.ref 177), some (.int (nI i)), some (.int kk), some (.int b), x7] [.long (eg_gl N3 177 (nI 0).toNatClampNeg)] N3), fun hc => (?_ : eg_T2 L xs wd k_LW P 1523 (((cu + 1) + 0) + 0) (((su + 6) + 0) + 0) [some (.retAddr 1000), some (.ref 0), some (.ref 121), some (.ref 177), some (.int (nI i)), some (.int kk), some (.int b), x7] [.long (eg_gl N3 177 (nI 0).toNatClampNeg)] N3)⟩
    · skip
      refine y_run (k := (k_c21, k_LW.2)) mk_LW hC (cut := [1529]) 2 (?_ : eg_T2 L xs wd k_LW P 1529 (((cu + 1) + 0) + 0) (((su + 6) + 0) + 0) [some (.retAddr 1000), some (.ref 0), some (.ref 121), some (.ref 177), some (.int (nI i)), some (.int kk), some (.int b), x7] [.int (lg_cmp (eg_gl N3 177 (nI 0).toNatClampNeg) (lN 0))] N3)
      refine y_run (k := (k_c21, k_LW.2)) mk_LW hC (cut := [1534, 1532]) 1 ⟨fun _ => (?_ : eg_T2 L xs wd k_LW P 1534 (((cu + 1) + 0) + 0) (((su + 6) + 0) + 0) [some (.retAddr 1000), some (.ref 0), some (.ref 121), some (.ref 177), some (.int (nI i)), some (.int kk), some (.int b), x7] [] N3), fun z => absurd ((lg_cmp_eq _ _).mpr ((hz hk0).trans (if_pos hc))) z⟩
      refine y_run (k := (k_c21, k_LW.2)) mk_LW hC (cut := [1723]) 1 (?_ : eg_T2 L xs wd k_LW P 1723 (((cu + 1) + 0) + 0) (((su + 6) + 0) + 0) [some (.retAddr 1000), some (.ref 0), some (.ref 121), some (.ref 177), some (.int (nI i)), some (.int kk), some (.int b), x7] [] N3)
      exact hn _ _ _ _ _ _ (by omega) (by omega) hA2
    · skip
      refine y_run (k := (k_c21, k_LW.2)) mk_LW hC (cut := [1529]) 3 (?_ : eg_T2 L xs wd k_LW P 1529 (((cu + 1) + 0) + 0) (((su + 6) + 0) + 0) [some (.retAddr 1000), some (.ref 0), some (.ref 121), some (.ref 177), some (.int (nI i)), some (.int kk), some (.int b), x7] [.int (lg_cmp (eg_gl N3 177 (nI 0).toNatClampNeg) (lN 1))] N3)
      refine y_run (k := (k_c21, k_LW.2)) mk_LW hC (cut := [1534, 1532]) 1 ⟨fun _ => (?_ : eg_T2 L xs wd k_LW P 1534 (((cu + 1) + 0) + 0) (((su + 6) + 0) + 0) [some (.retAddr 1000), some (.ref 0), some (.ref 121), some (.ref 177), some (.int (nI i)), some (.int kk), some (.int b), x7] [] N3), fun z => absurd ((lg_cmp_eq _ _).mpr ((hz hk0).trans (if_neg hc))) z⟩
      refine y_run (k := (k_c21, k_LW.2)) mk_LW hC (cut := [1723]) 1 (?_ : eg_T2 L xs wd k_LW P 1723 (((cu + 1) + 0) + 0) (((su + 6) + 0) + 0) [some (.retAddr 1000), some (.ref 0), some (.ref 121), some (.ref 177), some (.int (nI i)), some (.int kk), some (.int b), x7] [] N3)
      exact hn _ _ _ _ _ _ (by omega) (by omega) hA2
  · skip
    refine y_run (k := (k_c21, k_LW.2)) mk_LW hC (cut := [1723]) 1 (?_ : eg_T2 L xs wd k_LW P 1723 (((cu + 1) + 0) + 0) (((su + 6) + 0) + 0) [some (.retAddr 1000), some (.ref 0), some (.ref 121), some (.ref 177), some (.int (nI i)), some (.int kk), some (.int b), x7] [] N3)
    exact hn _ _ _ _ _ _ (by omega) (by omega) hA2
def k_c22 : List (Nat × Instr × Nat) := [(1537, .aload_n 1, 1), (1538, .aload_n 0, 1), (1539, .iload 4, 2), (1541, .iconst 1, 1), (1542, .iadd, 1), (1543, .iaload, 1), (1544, .aload_n 0, 1), (1545, .iload 4, 2), (1547, .iconst 2, 1), (1548, .iadd, 1), (1549, .iaload, 1), (1550, .invokevirtual 164, 3), (1553, .aload_n 2, 1), (1554, .aload_n 0, 1), (1555, .iload 4, 2), (1557, .iconst 1, 1), (1558, .iadd, 1), (1559, .iaload, 1), (1560, .aload_n 0, 1), (1561, .iload 4, 2), (1563, .iconst 2, 1), (1564, .iadd, 1), (1565, .iaload, 1), (1566, .invokevirtual 167, 3), (1569, .if_icmp .eq 154, 3)]
theorem hs_c22 : ∀ q ∈ k_c22, eg_lq k_LW.1 q.1 = some q.2 := by decide +kernel
set_option maxRecDepth 100000 in
set_option maxHeartbeats 4000000 in
theorem lc_22 {L : Nat} {xs : Nat → Int32} {P : eg_P} {i cu su : Nat} {x5 x6 x7 : Option Value} {M : eg_M} (hL : i + 8 ≤ L) (hL2 : L ≤ 4096) (hcu : cu + 5 ≤ 601024) (hsu : su + 1212 ≤ 7293034) (hA : r_A M) (hn : ∀ cu' su' y5 y6 y7 M', cu' ≤ cu + 5 → su' ≤ su + 1212 → r_A M' → eg_T2 L xs wd k_LW P 1723 cu' su' [some (.retAddr 1000), some (.ref 0), some (.ref 121), some (.ref 177), some (.int (nI i)), y5, y6, y7] [] M') : eg_T2 L xs wd k_LW P 1537 cu su [some (.retAddr 1000), some (.ref 0), some (.ref 121), some (.ref 177), some (.int (nI i)), x5, x6, x7] [] M := by
  have hs := hs_c22
  have hC := hC_sub (P := P) (L := L) (xs := xs) hs
  refine y_run (k := (k_c22, k_LW.2)) mk_LW hC (cut := [1543]) 5 (?_ : eg_T2 L xs wd k_LW P 1543 cu su [some (.retAddr 1000), some (.ref 0), some (.ref 121), some (.ref 177), some (.int (nI i)), x5, x6, x7] [.int (nI i + nI 1), .retAddr 1000, .ref 0] M)
  refine t2_ia (code := k_c22) hs rfl n_s (show i + 1 < L by omega) hL2 (?_ : eg_T2 L xs wd k_LW P 1544 cu su [some (.retAddr 1000), some (.ref 0), some (.ref 121), some (.ref 177), some (.int (nI i)), x5, x6, x7] [.int (xs (i + 1)), .ref 0] M)
  refine y_run (k := (k_c22, k_LW.2)) mk_LW hC (cut := [1549]) 4 (?_ : eg_T2 L xs wd k_LW P 1549 cu su [some (.retAddr 1000), some (.ref 0), some (.ref 121), some (.ref 177), some (.int (nI i)), x5, x6, x7] [.int (nI i + nI 2), .retAddr 1000, .int (xs (i + 1)), .ref 0] M)
  refine t2_ia (code := k_c22) hs rfl n_s (show i + 2 < L by omega) hL2 (?_ : eg_T2 L xs wd k_LW P 1550 cu su [some (.retAddr 1000), some (.ref 0), some (.ref 121), some (.ref 177), some (.int (nI i)), x5, x6, x7] [.int (xs (i + 2)), .int (xs (i + 1)), .ref 0] M)
  refine y_cv (k := (k_c22, k_LW.2)) (j := 164) (n := 2 + 1) (kc := 0) (ks := 0) (S := s_X11_pair) (av := [.int (xs (i + 2)), .int (xs (i + 1)), .ref 0]) (st := []) hC rfl rfl rfl (hrr (show (cu + 0) ≤ 601024 by omega) (show (su + 0) ≤ 7293034 by omega)) rfl rfl mo_X11_pair ((pk_pair (xs (i + 1)) (xs (i + 2))) M hA) (fun r N hN => ?_)
  obtain ⟨hok, hw⟩ := hN
  obtain ⟨v, rfl⟩ := hok.resolve_right (fun ⟨E, q, _, hf⟩ => by simp at hf)
  refine y_run (k := (k_c22, k_LW.2)) mk_LW hC (cut := [1559]) 5 (?_ : eg_T2 L xs wd k_LW P 1559 (cu + 0) (su + 0) [some (.retAddr 1000), some (.ref 0), some (.ref 121), some (.ref 177), some (.int (nI i)), x5, x6, x7] [.int (nI i + nI 1), .retAddr 1000, .ref 121, .int v] N)
  refine t2_ia (code := k_c22) hs rfl n_s (show i + 1 < L by omega) hL2 (?_ : eg_T2 L xs wd k_LW P 1560 (cu + 0) (su + 0) [some (.retAddr 1000), some (.ref 0), some (.ref 121), some (.ref 177), some (.int (nI i)), x5, x6, x7] [.int (xs (i + 1)), .ref 121, .int v] N)
  refine y_run (k := (k_c22, k_LW.2)) mk_LW hC (cut := [1565]) 4 (?_ : eg_T2 L xs wd k_LW P 1565 (cu + 0) (su + 0) [some (.retAddr 1000), some (.ref 0), some (.ref 121), some (.ref 177), some (.int (nI i)), x5, x6, x7] [.int (nI i + nI 2), .retAddr 1000, .int (xs (i + 1)), .ref 121, .int v] N)
  refine t2_ia (code := k_c22) hs rfl n_s (show i + 2 < L by omega) hL2 (?_ : eg_T2 L xs wd k_LW P 1566 (cu + 0) (su + 0) [some (.retAddr 1000), some (.ref 0), some (.ref 121), some (.ref 177), some (.int (nI i)), x5, x6, x7] [.int (xs (i + 2)), .int (xs (i + 1)), .ref 121, .int v] N)
  have hw := hw (eg_gl N 177 0)
  rw [sl_id] at hw
  refine y_cv (k := (k_c22, k_LW.2)) (j := 167) (n := 2 + 1) (kc := 0) (ks := 0) (S := s_X12_pair) (av := [.int (xs (i + 2)), .int (xs (i + 1)), .ref 121]) (st := [.int v]) hC rfl rfl rfl (hrr (show ((cu + 0) + 0) ≤ 601024 by omega) (show ((su + 0) + 0) ≤ 7293034 by omega)) rfl rfl mo_X12_pair hw (fun r N2 hN2 => ?_)
  obtain ⟨hA2, _, hag⟩ := hN2
  obtain ⟨v2, e1, rfl, _⟩ := hag.resolve_right (fun ⟨E, _, _, e1, _⟩ => by cases e1)
  cases e1
  refine y_run (k := (k_c22, k_LW.2)) mk_LW hC (cut := [1723, 1572]) 1 ⟨fun _ => (?_ : eg_T2 L xs wd k_LW P 1723 ((cu + 0) + 0) ((su + 0) + 0) [some (.retAddr 1000), some (.ref 0), some (.ref 121), some (.ref 177), some (.int (nI i)), x5, x6, x7] [] N2), fun z => absurd rfl z⟩
  exact hn _ _ _ _ _ _ (by omega) (by omega) hA2
def k_c23 : List (Nat × Instr × Nat) := [(1574, .aload_n 1, 1), (1575, .aload_n 0, 1), (1576, .iload 4, 2), (1578, .iconst 1, 1), (1579, .iadd, 1), (1580, .iaload, 1), (1581, .aload_n 3, 1), (1582, .invokestatic 168, 3), (1585, .istore 5, 2), (1587, .aload_n 2, 1), (1588, .aload_n 0, 1), (1589, .iload 4, 2), (1591, .iconst 1, 1), (1592, .iadd, 1), (1593, .iaload, 1), (1594, .invokevirtual 170, 3), (1597, .istore 6, 2), (1599, .aload_n 2, 1), (1600, .invokevirtual 82, 3), (1603, .iload 5, 2), (1605, .if_icmp .eq 5, 3), (1610, .iload 5, 2), (1612, .ifCond .ne 15, 3), (1615, .aload_n 3, 1), (1616, .iconst 0, 1), (1617, .laload, 1), (1618, .iload 6, 2), (1620, .i2l, 1), (1621, .lcmp, 1), (1622, .ifCond .eq 5, 3), (1627, .goto 96, 3)]
theorem hs_c23 : ∀ q ∈ k_c23, eg_lq k_LW.1 q.1 = some q.2 := by decide +kernel
set_option maxRecDepth 100000 in
set_option maxHeartbeats 4000000 in
theorem lc_23 {L : Nat} {xs : Nat → Int32} {P : eg_P} {i cu su : Nat} {x5 x6 x7 : Option Value} {M : eg_M} (hL : i + 8 ≤ L) (hL2 : L ≤ 4096) (hcu : cu + 5 ≤ 601024) (hsu : su + 1212 ≤ 7293034) (hA : r_A M) (hn : ∀ cu' su' y5 y6 y7 M', cu' ≤ cu + 5 → su' ≤ su + 1212 → r_A M' → eg_T2 L xs wd k_LW P 1723 cu' su' [some (.retAddr 1000), some (.ref 0), some (.ref 121), some (.ref 177), some (.int (nI i)), y5, y6, y7] [] M') : eg_T2 L xs wd k_LW P 1574 cu su [some (.retAddr 1000), some (.ref 0), some (.ref 121), some (.ref 177), some (.int (nI i)), x5, x6, x7] [] M := by
  have hs := hs_c23
  have hC := hC_sub (P := P) (L := L) (xs := xs) hs
  refine y_run (k := (k_c23, k_LW.2)) mk_LW hC (cut := [1580]) 5 (?_ : eg_T2 L xs wd k_LW P 1580 cu su [some (.retAddr 1000), some (.ref 0), some (.ref 121), some (.ref 177), some (.int (nI i)), x5, x6, x7] [.int (nI i + nI 1), .retAddr 1000, .ref 0] M)
  refine t2_ia (code := k_c23) hs rfl n_s (show i + 1 < L by omega) hL2 (?_ : eg_T2 L xs wd k_LW P 1581 cu su [some (.retAddr 1000), some (.ref 0), some (.ref 121), some (.ref 177), some (.int (nI i)), x5, x6, x7] [.int (xs (i + 1)), .ref 0] M)
  refine y_run (k := (k_c23, k_LW.2)) mk_LW hC (cut := [1582]) 1 (?_ : eg_T2 L xs wd k_LW P 1582 cu su [some (.retAddr 1000), some (.ref 0), some (.ref 121), some (.ref 177), some (.int (nI i)), x5, x6, x7] [.ref 177, .int (xs (i + 1)), .ref 0] M)
  refine y_cs (k := (k_c23, k_LW.2)) (j := 168) (n := 3) (kc := 1) (ks := 6) (S := s_L_friend) (av := [.ref 177, .int (xs (i + 1)), .ref 0]) (st := []) hC rfl rfl rfl (hrr (show (cu + 1) ≤ 601024 by omega) (show (su + 6) ≤ 7293034 by omega)) rfl rfl mo_L_friend (wl_friend (xs (i + 1)) hA) (fun r N hN => ?_)
  obtain ⟨kk, rfl, hw⟩ := hN
  refine y_run (k := (k_c23, k_LW.2)) mk_LW hC (cut := [1593]) 6 (?_ : eg_T2 L xs wd k_LW P 1593 (cu + 1) (su + 6) [some (.retAddr 1000), some (.ref 0), some (.ref 121), some (.ref 177), some (.int (nI i)), some (.int kk), x6, x7] [.int (nI i + nI 1), .retAddr 1000, .ref 121] N)
  refine t2_ia (code := k_c23) hs rfl n_s (show i + 1 < L by omega) hL2 (?_ : eg_T2 L xs wd k_LW P 1594 (cu + 1) (su + 6) [some (.retAddr 1000), some (.ref 0), some (.ref 121), some (.ref 177), some (.int (nI i)), some (.int kk), x6, x7] [.int (xs (i + 1)), .ref 121] N)
  refine y_cv (k := (k_c23, k_LW.2)) (j := 170) (n := 1 + 1) (kc := 0) (ks := 0) (S := s_X12_friend) (av := [.int (xs (i + 1)), .ref 121]) (st := []) hC rfl rfl rfl (hrr (show ((cu + 1) + 0) ≤ 601024 by omega) (show ((su + 6) + 0) ≤ 7293034 by omega)) rfl rfl mo_X12_friend hw (fun r N2 hN2 => ?_)
  obtain ⟨hA2, b, rfl, hk, hz⟩ := hN2
  refine y_run (k := (k_c23, k_LW.2)) mk_LW hC (cut := [1600]) 2 (?_ : eg_T2 L xs wd k_LW P 1600 ((cu + 1) + 0) ((su + 6) + 0) [some (.retAddr 1000), some (.ref 0), some (.ref 121), some (.ref 177), some (.int (nI i)), some (.int kk), some (.int b), x7] [.ref 121] N2)
  refine y_cv (k := (k_c23, k_LW.2)) (j := 82) (n := 0 + 1) (kc := 0) (ks := 0) (S := s_X12_thrown) (av := [.ref 121]) (st := []) hC rfl rfl rfl (hrr (show (((cu + 1) + 0) + 0) ≤ 601024 by omega) (show (((su + 6) + 0) + 0) ≤ 7293034 by omega)) rfl rfl mo_X12_thrown (th_ok hk) (fun r N3 hN3 => ?_)
  obtain ⟨rfl, rfl⟩ := hN3
  refine y_run (k := (k_c23, k_LW.2)) mk_LW hC (cut := [1605]) 1 (?_ : eg_T2 L xs wd k_LW P 1605 (((cu + 1) + 0) + 0) (((su + 6) + 0) + 0) [some (.retAddr 1000), some (.ref 0), some (.ref 121), some (.ref 177), some (.int (nI i)), some (.int kk), some (.int b), x7] [.int kk, .int kk] N3)
  refine y_run (k := (k_c23, k_LW.2)) mk_LW hC (cut := [1610, 1608]) 1 ⟨fun _ => (?_ : eg_T2 L xs wd k_LW P 1610 (((cu + 1) + 0) + 0) (((su + 6) + 0) + 0) [some (.retAddr 1000), some (.ref 0), some (.ref 121), some (.ref 177), some (.int (nI i)), some (.int kk), some (.int b), x7] [] N3), fun z => absurd rfl z⟩
  refine y_run (k := (k_c23, k_LW.2)) mk_LW hC (cut := [1612]) 1 (?_ : eg_T2 L xs wd k_LW P 1612 (((cu + 1) + 0) + 0) (((su + 6) + 0) + 0) [some (.retAddr 1000), some (.ref 0), some (.ref 121), some (.ref 177), some (.int (nI i)), some (.int kk), some (.int b), x7] [.int kk] N3)
  refine y_run (k := (k_c23, k_LW.2)) mk_LW hC (cut := [1627, 1615]) 1 ⟨fun hk0 => (?_ : eg_T2 L xs wd k_LW P 1615 (((cu + 1) + 0) + 0) (((su + 6) + 0) + 0) [some (.retAddr 1000), some (.ref 0), some (.ref 121), some (.ref 177), some (.int (nI i)), some (.int kk), some (.int b), x7] [] N3), fun _ => (?_ : eg_T2 L xs wd k_LW P 1627 (((cu + 1) + 0) + 0) (((su + 6) + 0) + 0) [some (.retAddr 1000), some (.ref 0), some (.ref 121), some (.ref 177), some (.int (nI i)), some (.int kk), some (.int b), x7] [] N3)⟩
  · skip
    refine y_run (k := (k_c23, k_LW.2)) mk_LW hC (cut := [1617]) 2 (?_ : eg_T2 L xs wd k_LW P 1617 (((cu + 1) + 0) + 0) (((su + 6) + 0) + 0) [some (.retAddr 1000), some (.ref 0), some (.ref 121), some (.ref 177), some (.int (nI i)), some (.int kk), some (.int b), x7] [.int (nI 0), .ref 177] N3)
    refine y_run (k := (k_c23, k_LW.2)) mk_LW hC (cut := [1618]) 1 ⟨vp177 N3, (?_ : eg_T2 L xs wd k_LW P 1618 (((cu + 1) + 0) + 0) (((su + 6) + 0) + 0) [some (.retAddr 1000), some (.ref 0), some (.ref 121), some (.ref 177), some (.int (nI i)), some (.int kk), some (.int b), x7] [.long (eg_gl N3 177 (nI 0).toNatClampNeg)] N3)⟩
    refine y_run (k := (k_c23, k_LW.2)) mk_LW hC (cut := [1622]) 3 (?_ : eg_T2 L xs wd k_LW P 1622 (((cu + 1) + 0) + 0) (((su + 6) + 0) + 0) [some (.retAddr 1000), some (.ref 0), some (.ref 121), some (.ref 177), some (.int (nI i)), some (.int kk), some (.int b), x7] [.int (lg_cmp (eg_gl N3 177 (nI 0).toNatClampNeg) (b.toInt64))] N3)
    refine y_run (k := (k_c23, k_LW.2)) mk_LW hC (cut := [1627, 1625]) 1 ⟨fun _ => (?_ : eg_T2 L xs wd k_LW P 1627 (((cu + 1) + 0) + 0) (((su + 6) + 0) + 0) [some (.retAddr 1000), some (.ref 0), some (.ref 121), some (.ref 177), some (.int (nI i)), some (.int kk), some (.int b), x7] [] N3), fun z => absurd ((lg_cmp_eq _ _).mpr (hz hk0)) z⟩
    refine y_run (k := (k_c23, k_LW.2)) mk_LW hC (cut := [1723]) 1 (?_ : eg_T2 L xs wd k_LW P 1723 (((cu + 1) + 0) + 0) (((su + 6) + 0) + 0) [some (.retAddr 1000), some (.ref 0), some (.ref 121), some (.ref 177), some (.int (nI i)), some (.int kk), some (.int b), x7] [] N3)
    exact hn _ _ _ _ _ _ (by omega) (by omega) hA2
  · skip
    refine y_run (k := (k_c23, k_LW.2)) mk_LW hC (cut := [1723]) 1 (?_ : eg_T2 L xs wd k_LW P 1723 (((cu + 1) + 0) + 0) (((su + 6) + 0) + 0) [some (.retAddr 1000), some (.ref 0), some (.ref 121), some (.ref 177), some (.int (nI i)), some (.int kk), some (.int b), x7] [] N3)
    exact hn _ _ _ _ _ _ (by omega) (by omega) hA2
def k_c24 : List (Nat × Instr × Nat) := [(1630, .aload_n 1, 1), (1631, .aload_n 0, 1), (1632, .iload 4, 2), (1634, .iconst 1, 1), (1635, .iadd, 1), (1636, .iaload, 1), (1637, .aload_n 0, 1), (1638, .iload 4, 2), (1640, .iconst 2, 1), (1641, .iadd, 1), (1642, .iaload, 1), (1643, .invokevirtual 171, 3), (1646, .aload_n 2, 1), (1647, .aload_n 0, 1), (1648, .iload 4, 2), (1650, .iconst 1, 1), (1651, .iadd, 1), (1652, .iaload, 1), (1653, .aload_n 0, 1), (1654, .iload 4, 2), (1656, .iconst 2, 1), (1657, .iadd, 1), (1658, .iaload, 1), (1659, .invokevirtual 174, 3), (1662, .if_icmp .eq 61, 3)]
theorem hs_c24 : ∀ q ∈ k_c24, eg_lq k_LW.1 q.1 = some q.2 := by decide +kernel
set_option maxRecDepth 100000 in
set_option maxHeartbeats 4000000 in
theorem lc_24 {L : Nat} {xs : Nat → Int32} {P : eg_P} {i cu su : Nat} {x5 x6 x7 : Option Value} {M : eg_M} (hL : i + 8 ≤ L) (hL2 : L ≤ 4096) (hcu : cu + 5 ≤ 601024) (hsu : su + 1212 ≤ 7293034) (hA : r_A M) (hn : ∀ cu' su' y5 y6 y7 M', cu' ≤ cu + 5 → su' ≤ su + 1212 → r_A M' → eg_T2 L xs wd k_LW P 1723 cu' su' [some (.retAddr 1000), some (.ref 0), some (.ref 121), some (.ref 177), some (.int (nI i)), y5, y6, y7] [] M') : eg_T2 L xs wd k_LW P 1630 cu su [some (.retAddr 1000), some (.ref 0), some (.ref 121), some (.ref 177), some (.int (nI i)), x5, x6, x7] [] M := by
  have hs := hs_c24
  have hC := hC_sub (P := P) (L := L) (xs := xs) hs
  refine y_run (k := (k_c24, k_LW.2)) mk_LW hC (cut := [1636]) 5 (?_ : eg_T2 L xs wd k_LW P 1636 cu su [some (.retAddr 1000), some (.ref 0), some (.ref 121), some (.ref 177), some (.int (nI i)), x5, x6, x7] [.int (nI i + nI 1), .retAddr 1000, .ref 0] M)
  refine t2_ia (code := k_c24) hs rfl n_s (show i + 1 < L by omega) hL2 (?_ : eg_T2 L xs wd k_LW P 1637 cu su [some (.retAddr 1000), some (.ref 0), some (.ref 121), some (.ref 177), some (.int (nI i)), x5, x6, x7] [.int (xs (i + 1)), .ref 0] M)
  refine y_run (k := (k_c24, k_LW.2)) mk_LW hC (cut := [1642]) 4 (?_ : eg_T2 L xs wd k_LW P 1642 cu su [some (.retAddr 1000), some (.ref 0), some (.ref 121), some (.ref 177), some (.int (nI i)), x5, x6, x7] [.int (nI i + nI 2), .retAddr 1000, .int (xs (i + 1)), .ref 0] M)
  refine t2_ia (code := k_c24) hs rfl n_s (show i + 2 < L by omega) hL2 (?_ : eg_T2 L xs wd k_LW P 1643 cu su [some (.retAddr 1000), some (.ref 0), some (.ref 121), some (.ref 177), some (.int (nI i)), x5, x6, x7] [.int (xs (i + 2)), .int (xs (i + 1)), .ref 0] M)
  refine y_cv (k := (k_c24, k_LW.2)) (j := 171) (n := 2 + 1) (kc := 0) (ks := 0) (S := s_X11_stables) (av := [.int (xs (i + 2)), .int (xs (i + 1)), .ref 0]) (st := []) hC rfl rfl rfl (hrr (show (cu + 0) ≤ 601024 by omega) (show (su + 0) ≤ 7293034 by omega)) rfl rfl mo_X11_stables ((pk_stables (xs (i + 1)) (xs (i + 2))) M hA) (fun r N hN => ?_)
  obtain ⟨hok, hw⟩ := hN
  obtain ⟨v, rfl⟩ := hok.resolve_right (fun ⟨E, q, _, hf⟩ => by simp at hf)
  refine y_run (k := (k_c24, k_LW.2)) mk_LW hC (cut := [1652]) 5 (?_ : eg_T2 L xs wd k_LW P 1652 (cu + 0) (su + 0) [some (.retAddr 1000), some (.ref 0), some (.ref 121), some (.ref 177), some (.int (nI i)), x5, x6, x7] [.int (nI i + nI 1), .retAddr 1000, .ref 121, .int v] N)
  refine t2_ia (code := k_c24) hs rfl n_s (show i + 1 < L by omega) hL2 (?_ : eg_T2 L xs wd k_LW P 1653 (cu + 0) (su + 0) [some (.retAddr 1000), some (.ref 0), some (.ref 121), some (.ref 177), some (.int (nI i)), x5, x6, x7] [.int (xs (i + 1)), .ref 121, .int v] N)
  refine y_run (k := (k_c24, k_LW.2)) mk_LW hC (cut := [1658]) 4 (?_ : eg_T2 L xs wd k_LW P 1658 (cu + 0) (su + 0) [some (.retAddr 1000), some (.ref 0), some (.ref 121), some (.ref 177), some (.int (nI i)), x5, x6, x7] [.int (nI i + nI 2), .retAddr 1000, .int (xs (i + 1)), .ref 121, .int v] N)
  refine t2_ia (code := k_c24) hs rfl n_s (show i + 2 < L by omega) hL2 (?_ : eg_T2 L xs wd k_LW P 1659 (cu + 0) (su + 0) [some (.retAddr 1000), some (.ref 0), some (.ref 121), some (.ref 177), some (.int (nI i)), x5, x6, x7] [.int (xs (i + 2)), .int (xs (i + 1)), .ref 121, .int v] N)
  have hw := hw (eg_gl N 177 0)
  rw [sl_id] at hw
  refine y_cv (k := (k_c24, k_LW.2)) (j := 174) (n := 2 + 1) (kc := 0) (ks := 0) (S := s_X12_stables) (av := [.int (xs (i + 2)), .int (xs (i + 1)), .ref 121]) (st := [.int v]) hC rfl rfl rfl (hrr (show ((cu + 0) + 0) ≤ 601024 by omega) (show ((su + 0) + 0) ≤ 7293034 by omega)) rfl rfl mo_X12_stables hw (fun r N2 hN2 => ?_)
  obtain ⟨hA2, _, hag⟩ := hN2
  obtain ⟨v2, e1, rfl, _⟩ := hag.resolve_right (fun ⟨E, _, _, e1, _⟩ => by cases e1)
  cases e1
  refine y_run (k := (k_c24, k_LW.2)) mk_LW hC (cut := [1723, 1665]) 1 ⟨fun _ => (?_ : eg_T2 L xs wd k_LW P 1723 ((cu + 0) + 0) ((su + 0) + 0) [some (.retAddr 1000), some (.ref 0), some (.ref 121), some (.ref 177), some (.int (nI i)), x5, x6, x7] [] N2), fun z => absurd rfl z⟩
  exact hn _ _ _ _ _ _ (by omega) (by omega) hA2
def k_c25 : List (Nat × Instr × Nat) := [(1667, .aload_n 1, 1), (1668, .aload_n 0, 1), (1669, .iload 4, 2), (1671, .iconst 1, 1), (1672, .iadd, 1), (1673, .iaload, 1), (1674, .aload_n 3, 1), (1675, .invokestatic 175, 3), (1678, .istore 5, 2), (1680, .aload_n 2, 1), (1681, .aload_n 0, 1), (1682, .iload 4, 2), (1684, .iconst 1, 1), (1685, .iadd, 1), (1686, .iaload, 1), (1687, .invokevirtual 177, 3), (1690, .istore 6, 2), (1692, .aload_n 2, 1), (1693, .invokevirtual 82, 3), (1696, .iload 5, 2), (1698, .if_icmp .eq 5, 3), (1703, .iload 5, 2), (1705, .ifCond .ne 15, 3), (1708, .aload_n 3, 1), (1709, .iconst 0, 1), (1710, .laload, 1), (1711, .iload 6, 2), (1713, .i2l, 1), (1714, .lcmp, 1), (1715, .ifCond .eq 5, 3), (1720, .goto 3, 3)]
theorem hs_c25 : ∀ q ∈ k_c25, eg_lq k_LW.1 q.1 = some q.2 := by decide +kernel
set_option maxRecDepth 100000 in
set_option maxHeartbeats 4000000 in
theorem lc_25 {L : Nat} {xs : Nat → Int32} {P : eg_P} {i cu su : Nat} {x5 x6 x7 : Option Value} {M : eg_M} (hL : i + 8 ≤ L) (hL2 : L ≤ 4096) (hcu : cu + 5 ≤ 601024) (hsu : su + 1212 ≤ 7293034) (hA : r_A M) (hn : ∀ cu' su' y5 y6 y7 M', cu' ≤ cu + 5 → su' ≤ su + 1212 → r_A M' → eg_T2 L xs wd k_LW P 1723 cu' su' [some (.retAddr 1000), some (.ref 0), some (.ref 121), some (.ref 177), some (.int (nI i)), y5, y6, y7] [] M') : eg_T2 L xs wd k_LW P 1667 cu su [some (.retAddr 1000), some (.ref 0), some (.ref 121), some (.ref 177), some (.int (nI i)), x5, x6, x7] [] M := by
  have hs := hs_c25
  have hC := hC_sub (P := P) (L := L) (xs := xs) hs
  refine y_run (k := (k_c25, k_LW.2)) mk_LW hC (cut := [1673]) 5 (?_ : eg_T2 L xs wd k_LW P 1673 cu su [some (.retAddr 1000), some (.ref 0), some (.ref 121), some (.ref 177), some (.int (nI i)), x5, x6, x7] [.int (nI i + nI 1), .retAddr 1000, .ref 0] M)
  refine t2_ia (code := k_c25) hs rfl n_s (show i + 1 < L by omega) hL2 (?_ : eg_T2 L xs wd k_LW P 1674 cu su [some (.retAddr 1000), some (.ref 0), some (.ref 121), some (.ref 177), some (.int (nI i)), x5, x6, x7] [.int (xs (i + 1)), .ref 0] M)
  refine y_run (k := (k_c25, k_LW.2)) mk_LW hC (cut := [1675]) 1 (?_ : eg_T2 L xs wd k_LW P 1675 cu su [some (.retAddr 1000), some (.ref 0), some (.ref 121), some (.ref 177), some (.int (nI i)), x5, x6, x7] [.ref 177, .int (xs (i + 1)), .ref 0] M)
  refine y_cs (k := (k_c25, k_LW.2)) (j := 175) (n := 3) (kc := 1) (ks := 6) (S := s_L_count) (av := [.ref 177, .int (xs (i + 1)), .ref 0]) (st := []) hC rfl rfl rfl (hrr (show (cu + 1) ≤ 601024 by omega) (show (su + 6) ≤ 7293034 by omega)) rfl rfl mo_L_count (wl_count (xs (i + 1)) hA) (fun r N hN => ?_)
  obtain ⟨kk, rfl, hw⟩ := hN
  refine y_run (k := (k_c25, k_LW.2)) mk_LW hC (cut := [1686]) 6 (?_ : eg_T2 L xs wd k_LW P 1686 (cu + 1) (su + 6) [some (.retAddr 1000), some (.ref 0), some (.ref 121), some (.ref 177), some (.int (nI i)), some (.int kk), x6, x7] [.int (nI i + nI 1), .retAddr 1000, .ref 121] N)
  refine t2_ia (code := k_c25) hs rfl n_s (show i + 1 < L by omega) hL2 (?_ : eg_T2 L xs wd k_LW P 1687 (cu + 1) (su + 6) [some (.retAddr 1000), some (.ref 0), some (.ref 121), some (.ref 177), some (.int (nI i)), some (.int kk), x6, x7] [.int (xs (i + 1)), .ref 121] N)
  refine y_cv (k := (k_c25, k_LW.2)) (j := 177) (n := 1 + 1) (kc := 0) (ks := 0) (S := s_X12_count) (av := [.int (xs (i + 1)), .ref 121]) (st := []) hC rfl rfl rfl (hrr (show ((cu + 1) + 0) ≤ 601024 by omega) (show ((su + 6) + 0) ≤ 7293034 by omega)) rfl rfl mo_X12_count hw (fun r N2 hN2 => ?_)
  obtain ⟨hA2, b, rfl, hk, hz⟩ := hN2
  refine y_run (k := (k_c25, k_LW.2)) mk_LW hC (cut := [1693]) 2 (?_ : eg_T2 L xs wd k_LW P 1693 ((cu + 1) + 0) ((su + 6) + 0) [some (.retAddr 1000), some (.ref 0), some (.ref 121), some (.ref 177), some (.int (nI i)), some (.int kk), some (.int b), x7] [.ref 121] N2)
  refine y_cv (k := (k_c25, k_LW.2)) (j := 82) (n := 0 + 1) (kc := 0) (ks := 0) (S := s_X12_thrown) (av := [.ref 121]) (st := []) hC rfl rfl rfl (hrr (show (((cu + 1) + 0) + 0) ≤ 601024 by omega) (show (((su + 6) + 0) + 0) ≤ 7293034 by omega)) rfl rfl mo_X12_thrown (th_ok hk) (fun r N3 hN3 => ?_)
  obtain ⟨rfl, rfl⟩ := hN3
  refine y_run (k := (k_c25, k_LW.2)) mk_LW hC (cut := [1698]) 1 (?_ : eg_T2 L xs wd k_LW P 1698 (((cu + 1) + 0) + 0) (((su + 6) + 0) + 0) [some (.retAddr 1000), some (.ref 0), some (.ref 121), some (.ref 177), some (.int (nI i)), some (.int kk), some (.int b), x7] [.int kk, .int kk] N3)
  refine y_run (k := (k_c25, k_LW.2)) mk_LW hC (cut := [1703, 1701]) 1 ⟨fun _ => (?_ : eg_T2 L xs wd k_LW P 1703 (((cu + 1) + 0) + 0) (((su + 6) + 0) + 0) [some (.retAddr 1000), some (.ref 0), some (.ref 121), some (.ref 177), some (.int (nI i)), some (.int kk), some (.int b), x7] [] N3), fun z => absurd rfl z⟩
  refine y_run (k := (k_c25, k_LW.2)) mk_LW hC (cut := [1705]) 1 (?_ : eg_T2 L xs wd k_LW P 1705 (((cu + 1) + 0) + 0) (((su + 6) + 0) + 0) [some (.retAddr 1000), some (.ref 0), some (.ref 121), some (.ref 177), some (.int (nI i)), some (.int kk), some (.int b), x7] [.int kk] N3)
  refine y_run (k := (k_c25, k_LW.2)) mk_LW hC (cut := [1720, 1708]) 1 ⟨fun hk0 => (?_ : eg_T2 L xs wd k_LW P 1708 (((cu + 1) + 0) + 0) (((su + 6) + 0) + 0) [some (.retAddr 1000), some (.ref 0), some (.ref 121), some (.ref 177), some (.int (nI i)), some (.int kk), some (.int b), x7] [] N3), fun _ => (?_ : eg_T2 L xs wd k_LW P 1720 (((cu + 1) + 0) + 0) (((su + 6) + 0) + 0) [some (.retAddr 1000), some (.ref 0), some (.ref 121), some (.ref 177), some (.int (nI i)), some (.int kk), some (.int b), x7] [] N3)⟩
  · skip
    refine y_run (k := (k_c25, k_LW.2)) mk_LW hC (cut := [1710]) 2 (?_ : eg_T2 L xs wd k_LW P 1710 (((cu + 1) + 0) + 0) (((su + 6) + 0) + 0) [some (.retAddr 1000), some (.ref 0), some (.ref 121), some (.ref 177), some (.int (nI i)), some (.int kk), some (.int b), x7] [.int (nI 0), .ref 177] N3)
    refine y_run (k := (k_c25, k_LW.2)) mk_LW hC (cut := [1711]) 1 ⟨vp177 N3, (?_ : eg_T2 L xs wd k_LW P 1711 (((cu + 1) + 0) + 0) (((su + 6) + 0) + 0) [some (.retAddr 1000), some (.ref 0), some (.ref 121), some (.ref 177), some (.int (nI i)), some (.int kk), some (.int b), x7] [.long (eg_gl N3 177 (nI 0).toNatClampNeg)] N3)⟩
    refine y_run (k := (k_c25, k_LW.2)) mk_LW hC (cut := [1715]) 3 (?_ : eg_T2 L xs wd k_LW P 1715 (((cu + 1) + 0) + 0) (((su + 6) + 0) + 0) [some (.retAddr 1000), some (.ref 0), some (.ref 121), some (.ref 177), some (.int (nI i)), some (.int kk), some (.int b), x7] [.int (lg_cmp (eg_gl N3 177 (nI 0).toNatClampNeg) (b.toInt64))] N3)
    refine y_run (k := (k_c25, k_LW.2)) mk_LW hC (cut := [1720, 1718]) 1 ⟨fun _ => (?_ : eg_T2 L xs wd k_LW P 1720 (((cu + 1) + 0) + 0) (((su + 6) + 0) + 0) [some (.retAddr 1000), some (.ref 0), some (.ref 121), some (.ref 177), some (.int (nI i)), some (.int kk), some (.int b), x7] [] N3), fun z => absurd ((lg_cmp_eq _ _).mpr (hz hk0)) z⟩
    refine y_run (k := (k_c25, k_LW.2)) mk_LW hC (cut := [1723]) 1 (?_ : eg_T2 L xs wd k_LW P 1723 (((cu + 1) + 0) + 0) (((su + 6) + 0) + 0) [some (.retAddr 1000), some (.ref 0), some (.ref 121), some (.ref 177), some (.int (nI i)), some (.int kk), some (.int b), x7] [] N3)
    exact hn _ _ _ _ _ _ (by omega) (by omega) hA2
  · skip
    refine y_run (k := (k_c25, k_LW.2)) mk_LW hC (cut := [1723]) 1 (?_ : eg_T2 L xs wd k_LW P 1723 (((cu + 1) + 0) + 0) (((su + 6) + 0) + 0) [some (.retAddr 1000), some (.ref 0), some (.ref 121), some (.ref 177), some (.int (nI i)), some (.int kk), some (.int b), x7] [] N3)
    exact hn _ _ _ _ _ _ (by omega) (by omega) hA2

/-! THE LAW'S LOOP -/
theorem sl_id (N : eg_M) : eg_sl N 177 0 (eg_gl N 177 0) = N := by
  refine Prod.ext rfl (Prod.ext rfl (Prod.ext ?_ rfl))
  funext q j
  show eg_up N.2.2.1 177 0 (N.2.2.1 177 0) q j = N.2.2.1 q j
  unfold eg_up
  by_cases h : q = 177
  · subst h
    rw [if_pos rfl]
    by_cases h2 : j = 0
    · subst h2
      exact if_pos rfl
    · exact if_neg h2
  · rw [if_neg h]
theorem hrr {a b c d : Nat} (h1 : a ≤ b) (h2 : c ≤ d) : (Nat.ble a b && Nat.ble c d) = true := by
  rw [Bool.and_eq_true]
  exact ⟨Nat.ble_eq.mpr h1, Nat.ble_eq.mpr h2⟩
theorem es_code {w : eg_W} {a b : List (Nat × Instr × Nat)} {r : _} {P : eg_P} {X : eg_X} {pc cu su n : Nat} {ls : List (Option Value)} {st : List Value} {M : eg_M} {i : Instr} (h : eg_step w (a, r) P X pc cu su ls st M i n) : eg_step w (b, r) P X pc cu su ls st M i n := by
  cases i <;> exact h
section LWL
variable {L : Nat} {xs : Nat → Int32} {P : eg_P} {code : List (Nat × Instr × Nat)} {pc cu su : Nat} {ls : List (Option Value)} {st : List Value} {M : eg_M}
theorem hC_sub (hs : ∀ q ∈ code, eg_lq k_LW.1 q.1 = some q.2) : ∀ pc cu su ls st M, eg_at wd (code, k_LW.2) P (eg_T2 L xs wd k_LW P) pc cu su ls st M → eg_T2 L xs wd k_LW P pc cu su ls st M := by
  intro pc cu su ls st M h
  unfold eg_at at h
  cases hq : eg_lq (code, k_LW.2).1 pc with
  | none => rw [hq] at h; exact h.elim
  | some q =>
    obtain ⟨i, n⟩ := q
    rw [hq] at h
    replace h := eg_need_out h
    have hk := hs (pc, i, n) (eg_lq_in hq)
    refine eg_T2_fold mk_LW (Or.inl ?_)
    unfold eg_at
    rw [show eg_lq k_LW.1 pc = some (i, n) from hk]
    exact eg_need_of h.1 (es_code (b := k_LW.1) h.2)
theorem t2_ia (hs : ∀ q ∈ code, eg_lq k_LW.1 q.1 = some q.2) (hc : eg_lq code pc = some (.iaload, 1)) {z : Int32} {m : Nat} (hz : z = nI m) (hm : m < L) (hL : L ≤ 4096) (h : eg_T2 L xs wd k_LW P (pc + 1) cu su ls (.int (xs m) :: st) M) : eg_T2 L xs wd k_LW P pc cu su ls (.int z :: .retAddr 1000 :: st) M := by
  refine eg_T2_fold mk_LW (Or.inr (Or.inl ⟨hs (pc, .iaload, 1) (eg_lq_in hc), z, st, rfl, ?_, ?_⟩))
  · rw [hz]
    exact vp_in_nI hm (by omega)
  · rw [hz, n_c (by omega)]
    exact h
theorem y_cv {k : eg_C} {X : eg_X} {j n kc ks : Nat} {S : eg_S} {av : List Value} {Qr : eg_P} (hC : ∀ pc cu su ls st M, eg_at wd k P X pc cu su ls st M → X pc cu su ls st M) (hc : eg_lq k.1 pc = some (.invokevirtual j, 3)) (hn : Nat.blt j 100000 = true) (hs : eg_lq k.2.2.2.1 j = some (n, kc, ks, S)) (hr : (Nat.ble (cu + kc) k.2.2.2.2.2.2.1 && Nat.ble (su + ks) k.2.2.2.2.2.2.2) = true) (hl : av.length = n) (hw : Nat.ble (eg_wt st) 8 = true) (hmo : eg_mono S) (hS : S av.reverse M Qr) (h : ∀ r N, Qr r N → match r with
    | .inl v => X (pc + 3) (cu + kc) (su + ks) ls (v.toList ++ st) N
    | .inr E => P (.inr E) N) : X pc cu su ls (av ++ st) M := by
  refine hC _ _ _ _ _ _ ?_
  unfold eg_at
  rw [hc]
  refine eg_need_of rfl ?_
  show eg_need (Nat.blt j 100000) (eg_call k P X j pc cu su ls (av ++ st) M)
  refine eg_need_of hn ?_
  unfold eg_call
  rw [hs]
  have e1 : (av ++ st).drop n = st := by rw [← hl, List.drop_left]
  have e2 : (av ++ st).take n = av := by rw [← hl, List.take_left]
  show eg_need (Nat.ble n (av ++ st).length && (Nat.ble (eg_wt ((av ++ st).drop n)) 8 && (Nat.ble (cu + kc) k.2.2.2.2.2.2.1 && Nat.ble (su + ks) k.2.2.2.2.2.2.2))) (S ((av ++ st).take n).reverse M _)
  rw [e1, e2]
  exact eg_need_of (by rw [hw, hr, show Nat.ble n (av ++ st).length = true from by rw [Nat.ble_eq, List.length_append]; omega]; rfl) (hmo _ _ _ _ h hS)
theorem y_cs {k : eg_C} {X : eg_X} {j n kc ks : Nat} {S : eg_S} {av : List Value} {Qr : eg_P} (hC : ∀ pc cu su ls st M, eg_at wd k P X pc cu su ls st M → X pc cu su ls st M) (hc : eg_lq k.1 pc = some (.invokestatic j, 3)) (hn : Nat.blt j 100000 = true) (hs : eg_lq k.2.2.2.1 (j + 100000) = some (n, kc, ks, S)) (hr : (Nat.ble (cu + kc) k.2.2.2.2.2.2.1 && Nat.ble (su + ks) k.2.2.2.2.2.2.2) = true) (hl : av.length = n) (hw : Nat.ble (eg_wt st) 8 = true) (hmo : eg_mono S) (hS : S av.reverse M Qr) (h : ∀ r N, Qr r N → match r with
    | .inl v => X (pc + 3) (cu + kc) (su + ks) ls (v.toList ++ st) N
    | .inr E => P (.inr E) N) : X pc cu su ls (av ++ st) M := by
  refine hC _ _ _ _ _ _ ?_
  unfold eg_at
  rw [hc]
  refine eg_need_of rfl ?_
  show eg_need (Nat.blt j 100000) (eg_call k P X (j + 100000) pc cu su ls (av ++ st) M)
  refine eg_need_of hn ?_
  unfold eg_call
  rw [hs]
  have e1 : (av ++ st).drop n = st := by rw [← hl, List.drop_left]
  have e2 : (av ++ st).take n = av := by rw [← hl, List.take_left]
  show eg_need (Nat.ble n (av ++ st).length && (Nat.ble (eg_wt ((av ++ st).drop n)) 8 && (Nat.ble (cu + kc) k.2.2.2.2.2.2.1 && Nat.ble (su + ks) k.2.2.2.2.2.2.2))) (S ((av ++ st).take n).reverse M _)
  rw [e1, e2]
  exact eg_need_of (by rw [hw, hr, show Nat.ble n (av ++ st).length = true from by rw [Nat.ble_eq, List.length_append]; omega]; rfl) (hmo _ _ _ _ h hS)
end LWL
/-! what a wrapper leaves, and what the model then answers -/
def w_i (S2 : eg_S) (as : List Value) : eg_P := fun r N => ∃ kk : Int32, r = .inl (some (.int kk)) ∧ S2 (.ref 121 :: as) N (fun o2 N2 => r_A N2 ∧ ∃ b : Int32, o2 = .inl (some (.int b)) ∧ eg_gi N2 121 1 = kk ∧ (kk = 0 → eg_gl N2 177 0 = b.toInt64))
def w_l (S2 : eg_S) (as : List Value) : eg_P := fun r N => ∃ kk : Int32, r = .inl (some (.int kk)) ∧ S2 (.ref 121 :: as) N (fun o2 N2 => r_A N2 ∧ ∃ b : Int64, o2 = .inl (some (.long b)) ∧ eg_gi N2 121 1 = kk ∧ (kk = 0 → eg_gl N2 177 0 = b))
def w_b (S2 : eg_S) (as : List Value) : eg_P := fun r N => ∃ kk : Int32, r = .inl (some (.int kk)) ∧ S2 (.ref 121 :: as) N (fun o2 N2 => r_A N2 ∧ ∃ b : Int32, o2 = .inl (some (.int b)) ∧ eg_gi N2 121 1 = kk ∧ (kk = 0 → eg_gl N2 177 0 = if b = 0 then lN 0 else lN 1))
section WR
variable {S1 S2 : eg_S} {as : List Value} {hl : List (String × Int32)} {M : eg_M}
theorem wr_x {N : eg_M} {E : String} (h2 : eg_mono S2) {q : String × Int32} (hf : hl.find? (fun q => q.1 == E) = some q) (hw : ∀ w : Int64, S2 (.ref 121 :: as) (eg_sl N 177 0 w) (fun o2 N2 => r_A N2 ∧ eg_gl N2 177 0 = w ∧ ag_i hl (.inr E) o2 (eg_gi N2 121 1))) (R : eg_P) (hR : ∀ o2 N2, r_A N2 → (∃ b : Int32, o2 = .inl (some (.int b))) → eg_gi N2 121 1 = q.2 → ¬ q.2 = 0 → R o2 N2) : S2 (.ref 121 :: as) N R := by
  have := hw (eg_gl N 177 0)
  rw [sl_id] at this
  refine h2 _ _ _ _ (fun o2 N2 ⟨a1, _, a3⟩ => ?_) this
  rcases a3 with ⟨v, e, _⟩ | ⟨E', q', b, e1, e2, e3, e4, e5⟩
  · cases e
  · cases e1
    rw [hf] at e2
    cases e2
    exact hR o2 N2 a1 ⟨b, e5⟩ e3 e4
theorem wr_i (h : pk ag_i ok_i hl S1 S2 as) (h1 : eg_mono S1) (h2 : eg_mono S2) (hA : r_A M) : S1 (.ref 0 :: as) M (fun r N => match r with
    | .inl (some (.int v)) => w_i S2 as (.inl (some (.int (nI 0)))) (eg_sl N 177 (nI 0).toNatClampNeg v.toInt64)
    | .inr E => eg_PH hl (w_i S2 as) (.inr E) N
    | _ => False) := by
  refine h1 _ _ _ _ (fun r N ⟨hok, hw⟩ => ?_) (h M hA)
  rcases hok with ⟨v, rfl⟩ | ⟨E, q, rfl, hf⟩
  · refine ⟨nI 0, rfl, h2 _ _ _ _ (fun o2 N2 ⟨a1, a2, a3⟩ => ?_) (hw v.toInt64)⟩
    rcases a3 with ⟨v', e1, e2, e3⟩ | ⟨E, _, _, e, _⟩
    · cases e1
      exact ⟨a1, v, e2, e3, fun _ => a2⟩
    · cases e
  · show eg_PH hl (w_i S2 as) (.inr E) N
    unfold eg_PH
    simp only [hf]
    exact ⟨q.2, rfl, wr_x h2 hf hw _ (fun o2 N2 b1 ⟨b, b2⟩ b3 b4 => ⟨b1, b, b2, b3, fun z => absurd z b4⟩)⟩
theorem wr_b (h : pk ag_i ok_i hl S1 S2 as) (h1 : eg_mono S1) (h2 : eg_mono S2) (hA : r_A M) : S1 (.ref 0 :: as) M (fun r N => match r with
    | .inl (some (.int v)) => (v = 0 → w_b S2 as (.inl (some (.int (nI 0)))) (eg_sl N 177 (nI 0).toNatClampNeg (lN 0))) ∧ (¬ v = 0 → w_b S2 as (.inl (some (.int (nI 0)))) (eg_sl N 177 (nI 0).toNatClampNeg (lN 1)))
    | .inr E => eg_PH hl (w_b S2 as) (.inr E) N
    | _ => False) := by
  refine h1 _ _ _ _ (fun r N ⟨hok, hw⟩ => ?_) (h M hA)
  rcases hok with ⟨v, rfl⟩ | ⟨E, q, rfl, hf⟩
  · refine ⟨fun z => ⟨nI 0, rfl, h2 _ _ _ _ (fun o2 N2 ⟨a1, a2, a3⟩ => ?_) (hw (lN 0))⟩, fun z => ⟨nI 0, rfl, h2 _ _ _ _ (fun o2 N2 ⟨a1, a2, a3⟩ => ?_) (hw (lN 1))⟩⟩
    all_goals
      rcases a3 with ⟨v', e1, e2, e3⟩ | ⟨E, _, _, e, _⟩
      · cases e1
        refine ⟨a1, v, e2, e3, fun _ => ?_⟩
        first | (rw [if_pos z]; exact a2) | (rw [if_neg z]; exact a2)
      · cases e
  · show eg_PH hl (w_b S2 as) (.inr E) N
    unfold eg_PH
    simp only [hf]
    exact ⟨q.2, rfl, wr_x h2 hf hw _ (fun o2 N2 b1 ⟨b, b2⟩ b3 b4 => ⟨b1, b, b2, b3, fun z => absurd z b4⟩)⟩
theorem wr_l (h : pk ag_l ok_l hl S1 S2 as) (h1 : eg_mono S1) (h2 : eg_mono S2) (hA : r_A M) : S1 (.ref 0 :: as) M (fun r N => match r with
    | .inl (some (.long v)) => w_l S2 as (.inl (some (.int (nI 0)))) (eg_sl N 177 (nI 0).toNatClampNeg v)
    | .inr E => eg_PH hl (w_l S2 as) (.inr E) N
    | _ => False) := by
  refine h1 _ _ _ _ (fun r N ⟨hok, hw⟩ => ?_) (h M hA)
  rcases hok with ⟨v, rfl⟩ | ⟨E, q, rfl, hf⟩
  · refine ⟨nI 0, rfl, h2 _ _ _ _ (fun o2 N2 ⟨a1, a2, a3⟩ => ?_) (hw v)⟩
    rcases a3 with ⟨v', e1, e2, e3⟩ | ⟨E, _, _, e, _⟩
    · cases e1
      exact ⟨a1, v, e2, e3, fun _ => a2⟩
    · cases e
  · show eg_PH hl (w_l S2 as) (.inr E) N
    unfold eg_PH
    simp only [hf]
    refine ⟨q.2, rfl, ?_⟩
    have := hw (eg_gl N 177 0)
    rw [sl_id] at this
    refine h2 _ _ _ _ (fun o2 N2 ⟨a1, _, a3⟩ => ?_) this
    rcases a3 with ⟨v, e, _⟩ | ⟨E', q', b, e1, e2, e3, e4, e5⟩
    · cases e
    · cases e1
      rw [hf] at e2
      cases e2
      exact ⟨a1, b, e5, e3, fun z => absurd z e4⟩
end WR

theorem wl_charter {M : eg_M} (a : Int32) (b : Int32) (c : Int32) (hA : r_A M) : s_L_charter [.ref 0, .int a, .int b, .int c, .ref 177] M (w_i s_X12_charter [.int a, .int b, .int c]) := by
  unfold s_L_charter
  refine mo_X11_charter_v _ _ _ _ (fun r N hN => ?_) (wr_i (pk_charter a b c) mo_X11_charter_v mo_X12_charter hA)
  match r, hN with
  | .inl (some (.int v)), hN => exact hN
  | .inr E, hN => exact hN
theorem wl_days {M : eg_M} (a : Int32) (hA : r_A M) : s_L_days [.ref 0, .int a, .ref 177] M (w_i s_X12_days [.int a]) := by
  unfold s_L_days
  refine mo_X11_days _ _ _ _ (fun r N hN => ?_) (wr_i (pk_days a) mo_X11_days mo_X12_days hA)
  match r, hN with
  | .inl (some (.int v)), hN => exact hN
  | .inr E, hN => exact hN
theorem wl_event {M : eg_M} (a : Int32) (b : Int32) (c : Int32) (d : Int32) (e : Int32) (f : Int32) (g : Int32) (hA : r_A M) : s_L_event [.ref 0, .int a, .int b, .int c, .int d, .int e, .int f, .int g, .ref 177] M (w_i s_X12_event [.int a, .int b, .int c, .int d, .int e, .int f, .int g]) := by
  unfold s_L_event
  refine mo_X11_event _ _ _ _ (fun r N hN => ?_) (wr_i (pk_event a b c d e f g) mo_X11_event mo_X12_event hA)
  match r, hN with
  | .inl (some (.int v)), hN => exact hN
  | .inr E, hN => exact hN
theorem wl_back {M : eg_M} (a : Int32) (hA : r_A M) : s_L_back [.ref 0, .int a, .ref 177] M (w_b s_X12_back [.int a]) := by
  unfold s_L_back
  refine mo_X11_back _ _ _ _ (fun r N hN => ?_) (wr_b (pk_back a) mo_X11_back mo_X12_back hA)
  match r, hN with
  | .inl (some (.int v)), hN => exact hN
  | .inr E, hN => exact hN
theorem wl_rules {M : eg_M} (a : Int32) (hA : r_A M) : s_L_rules [.ref 0, .int a, .ref 177] M (w_i s_X12_rules [.int a]) := by
  unfold s_L_rules
  refine mo_X11_rules _ _ _ _ (fun r N hN => ?_) (wr_i (pk_rules a) mo_X11_rules mo_X12_rules hA)
  match r, hN with
  | .inl (some (.int v)), hN => exact hN
  | .inr E, hN => exact hN
theorem wl_about {M : eg_M} (a : Int32) (b : Int32) (c : Int32) (d : Int32) (hA : r_A M) : s_L_about [.ref 0, .int a, .int b, .int c, .int d, .ref 177] M (w_i s_X12_about [.int a, .int b, .int c, .int d]) := by
  unfold s_L_about
  refine mo_X11_about _ _ _ _ (fun r N hN => ?_) (wr_i (pk_about a b c d) mo_X11_about mo_X12_about hA)
  match r, hN with
  | .inl (some (.int v)), hN => exact hN
  | .inr E, hN => exact hN
theorem wl_told {M : eg_M} (a : Int32) (b : Int32) (c : Int32) (hA : r_A M) : s_L_told [.ref 0, .int a, .int b, .int c, .ref 177] M (w_l s_X12_told [.int a, .int b, .int c]) := by
  unfold s_L_told
  refine mo_X11_told _ _ _ _ (fun r N hN => ?_) (wr_l (pk_told a b c) mo_X11_told mo_X12_told hA)
  match r, hN with
  | .inl (some (.long v)), hN => exact hN
  | .inr E, hN => exact hN
theorem wl_balance {M : eg_M} (a : Int32) (b : Int32) (c : Int32) (d : Int32) (hA : r_A M) : s_L_balance [.ref 0, .int a, .int b, .int c, .int d, .ref 177] M (w_l s_X12_balance [.int a, .int b, .int c, .int d]) := by
  unfold s_L_balance
  refine mo_X11_balance _ _ _ _ (fun r N hN => ?_) (wr_l (pk_balance a b c d) mo_X11_balance mo_X12_balance hA)
  match r, hN with
  | .inl (some (.long v)), hN => exact hN
  | .inr E, hN => exact hN
theorem wl_liking {M : eg_M} (a : Int32) (b : Int32) (hA : r_A M) : s_L_liking [.ref 0, .int a, .int b, .ref 177] M (w_i s_X12_liking [.int a, .int b]) := by
  unfold s_L_liking
  refine mo_X11_liking_v _ _ _ _ (fun r N hN => ?_) (wr_i (pk_liking a b) mo_X11_liking_v mo_X12_liking hA)
  match r, hN with
  | .inl (some (.int v)), hN => exact hN
  | .inr E, hN => exact hN
theorem wl_lodged {M : eg_M} (a : Int32) (hA : r_A M) : s_L_lodged [.ref 0, .int a, .ref 177] M (w_i s_X12_lodged [.int a]) := by
  unfold s_L_lodged
  refine mo_X11_lodged _ _ _ _ (fun r N hN => ?_) (wr_i (pk_lodged a) mo_X11_lodged mo_X12_lodged hA)
  match r, hN with
  | .inl (some (.int v)), hN => exact hN
  | .inr E, hN => exact hN
theorem wl_plan {M : eg_M} (a : Int32) (b : Int32) (c : Int32) (d : Int64) (hA : r_A M) : s_L_plan [.ref 0, .int a, .int b, .int c, .long d, .ref 177] M (w_i s_X12_plan [.int a, .int b, .int c, .long d]) := by
  unfold s_L_plan
  refine mo_X11_plan _ _ _ _ (fun r N hN => ?_) (wr_i (pk_plan a b c d) mo_X11_plan mo_X12_plan hA)
  match r, hN with
  | .inl (some (.int v)), hN => exact hN
  | .inr E, hN => exact hN
theorem wl_planned {M : eg_M} (a : Int32) (hA : r_A M) : s_L_planned [.ref 0, .int a, .ref 177] M (w_i s_X12_planned [.int a]) := by
  unfold s_L_planned
  refine mo_X11_planned _ _ _ _ (fun r N hN => ?_) (wr_i (pk_planned a) mo_X11_planned mo_X12_planned hA)
  match r, hN with
  | .inl (some (.int v)), hN => exact hN
  | .inr E, hN => exact hN
theorem wl_wish {M : eg_M} (a : Int32) (b : Int32) (c : Int32) (hA : r_A M) : s_L_wish [.ref 0, .int a, .int b, .int c, .ref 177] M (w_b s_X12_wish [.int a, .int b, .int c]) := by
  unfold s_L_wish
  refine mo_X11_wish _ _ _ _ (fun r N hN => ?_) (wr_b (pk_wish a b c) mo_X11_wish mo_X12_wish hA)
  match r, hN with
  | .inl (some (.int v)), hN => exact hN
  | .inr E, hN => exact hN
theorem wl_friend {M : eg_M} (a : Int32) (hA : r_A M) : s_L_friend [.ref 0, .int a, .ref 177] M (w_i s_X12_friend [.int a]) := by
  unfold s_L_friend
  refine mo_X11_friend _ _ _ _ (fun r N hN => ?_) (wr_i (pk_friend a) mo_X11_friend mo_X12_friend hA)
  match r, hN with
  | .inl (some (.int v)), hN => exact hN
  | .inr E, hN => exact hN
theorem wl_count {M : eg_M} (a : Int32) (hA : r_A M) : s_L_count [.ref 0, .int a, .ref 177] M (w_i s_X12_count [.int a]) := by
  unfold s_L_count
  refine mo_X11_count _ _ _ _ (fun r N hN => ?_) (wr_i (pk_count a) mo_X11_count mo_X12_count hA)
  match r, hN with
  | .inl (some (.int v)), hN => exact hN
  | .inr E, hN => exact hN
theorem th_ok {N2 : eg_M} {kk : Int32} (hk : eg_gi N2 121 1 = kk) : s_X12_thrown [.ref 121] N2 (fun r N => r = .inl (some (.int kk)) ∧ N = N2) := ⟨trivial, by rw [hk], rfl⟩
def k_c2 : List (Nat × Instr × Nat) := [(301, .aload_n 1, 1), (302, .aload_n 0, 1), (303, .iload 4, 2), (305, .iconst 1, 1), (306, .iadd, 1), (307, .iaload, 1), (308, .aload_n 3, 1), (309, .invokestatic 86, 3), (312, .istore 5, 2), (314, .aload_n 2, 1), (315, .aload_n 0, 1), (316, .iload 4, 2), (318, .iconst 1, 1), (319, .iadd, 1), (320, .iaload, 1), (321, .invokevirtual 89, 3), (324, .istore 6, 2), (326, .aload_n 2, 1), (327, .invokevirtual 82, 3), (330, .iload 5, 2), (332, .if_icmp .eq 5, 3), (337, .iload 5, 2), (339, .ifCond .ne 15, 3), (342, .aload_n 3, 1), (343, .iconst 0, 1), (344, .laload, 1), (345, .iload 6, 2), (347, .i2l, 1), (348, .lcmp, 1), (349, .ifCond .eq 5, 3), (354, .goto 1369, 3)]
theorem hs_c2 : ∀ q ∈ k_c2, eg_lq k_LW.1 q.1 = some q.2 := by decide +kernel
set_option maxRecDepth 100000 in
set_option maxHeartbeats 4000000 in
theorem lc_2 {L : Nat} {xs : Nat → Int32} {P : eg_P} {i cu su : Nat} {x5 x6 x7 : Option Value} {M : eg_M} (hL : i + 8 ≤ L) (hL2 : L ≤ 4096) (hcu : cu + 5 ≤ 601024) (hsu : su + 1212 ≤ 7293034) (hA : r_A M) (hn : ∀ cu' su' y5 y6 y7 M', cu' ≤ cu + 5 → su' ≤ su + 1212 → r_A M' → eg_T2 L xs wd k_LW P 1723 cu' su' [some (.retAddr 1000), some (.ref 0), some (.ref 121), some (.ref 177), some (.int (nI i)), y5, y6, y7] [] M') : eg_T2 L xs wd k_LW P 301 cu su [some (.retAddr 1000), some (.ref 0), some (.ref 121), some (.ref 177), some (.int (nI i)), x5, x6, x7] [] M := by
  have hs := hs_c2
  have hC := hC_sub (P := P) (L := L) (xs := xs) hs
  refine y_run (k := (k_c2, k_LW.2)) mk_LW hC (cut := [307]) 5 (?_ : eg_T2 L xs wd k_LW P 307 cu su [some (.retAddr 1000), some (.ref 0), some (.ref 121), some (.ref 177), some (.int (nI i)), x5, x6, x7] [.int (nI i + nI 1), .retAddr 1000, .ref 0] M)
  refine t2_ia (code := k_c2) hs rfl n_s (show i + 1 < L by omega) hL2 (?_ : eg_T2 L xs wd k_LW P 308 cu su [some (.retAddr 1000), some (.ref 0), some (.ref 121), some (.ref 177), some (.int (nI i)), x5, x6, x7] [.int (xs (i + 1)), .ref 0] M)
  refine y_run (k := (k_c2, k_LW.2)) mk_LW hC (cut := [309]) 1 (?_ : eg_T2 L xs wd k_LW P 309 cu su [some (.retAddr 1000), some (.ref 0), some (.ref 121), some (.ref 177), some (.int (nI i)), x5, x6, x7] [.ref 177, .int (xs (i + 1)), .ref 0] M)
  refine y_cs (k := (k_c2, k_LW.2)) (j := 86) (n := 3) (kc := 1) (ks := 6) (S := s_L_days) (av := [.ref 177, .int (xs (i + 1)), .ref 0]) (st := []) hC rfl rfl rfl (hrr (show (cu + 1) ≤ 601024 by omega) (show (su + 6) ≤ 7293034 by omega)) rfl rfl mo_L_days (wl_days (xs (i + 1)) hA) (fun r N hN => ?_)
  obtain ⟨kk, rfl, hw⟩ := hN
  refine y_run (k := (k_c2, k_LW.2)) mk_LW hC (cut := [320]) 6 (?_ : eg_T2 L xs wd k_LW P 320 (cu + 1) (su + 6) [some (.retAddr 1000), some (.ref 0), some (.ref 121), some (.ref 177), some (.int (nI i)), some (.int kk), x6, x7] [.int (nI i + nI 1), .retAddr 1000, .ref 121] N)
  refine t2_ia (code := k_c2) hs rfl n_s (show i + 1 < L by omega) hL2 (?_ : eg_T2 L xs wd k_LW P 321 (cu + 1) (su + 6) [some (.retAddr 1000), some (.ref 0), some (.ref 121), some (.ref 177), some (.int (nI i)), some (.int kk), x6, x7] [.int (xs (i + 1)), .ref 121] N)
  refine y_cv (k := (k_c2, k_LW.2)) (j := 89) (n := 1 + 1) (kc := 0) (ks := 0) (S := s_X12_days) (av := [.int (xs (i + 1)), .ref 121]) (st := []) hC rfl rfl rfl (hrr (show ((cu + 1) + 0) ≤ 601024 by omega) (show ((su + 6) + 0) ≤ 7293034 by omega)) rfl rfl mo_X12_days hw (fun r N2 hN2 => ?_)
  obtain ⟨hA2, b, rfl, hk, hz⟩ := hN2
  refine y_run (k := (k_c2, k_LW.2)) mk_LW hC (cut := [327]) 2 (?_ : eg_T2 L xs wd k_LW P 327 ((cu + 1) + 0) ((su + 6) + 0) [some (.retAddr 1000), some (.ref 0), some (.ref 121), some (.ref 177), some (.int (nI i)), some (.int kk), some (.int b), x7] [.ref 121] N2)
  refine y_cv (k := (k_c2, k_LW.2)) (j := 82) (n := 0 + 1) (kc := 0) (ks := 0) (S := s_X12_thrown) (av := [.ref 121]) (st := []) hC rfl rfl rfl (hrr (show (((cu + 1) + 0) + 0) ≤ 601024 by omega) (show (((su + 6) + 0) + 0) ≤ 7293034 by omega)) rfl rfl mo_X12_thrown (th_ok hk) (fun r N3 hN3 => ?_)
  obtain ⟨rfl, rfl⟩ := hN3
  refine y_run (k := (k_c2, k_LW.2)) mk_LW hC (cut := [332]) 1 (?_ : eg_T2 L xs wd k_LW P 332 (((cu + 1) + 0) + 0) (((su + 6) + 0) + 0) [some (.retAddr 1000), some (.ref 0), some (.ref 121), some (.ref 177), some (.int (nI i)), some (.int kk), some (.int b), x7] [.int kk, .int kk] N3)
  refine y_run (k := (k_c2, k_LW.2)) mk_LW hC (cut := [337, 335]) 1 ⟨fun _ => (?_ : eg_T2 L xs wd k_LW P 337 (((cu + 1) + 0) + 0) (((su + 6) + 0) + 0) [some (.retAddr 1000), some (.ref 0), some (.ref 121), some (.ref 177), some (.int (nI i)), some (.int kk), some (.int b), x7] [] N3), fun z => absurd rfl z⟩
  refine y_run (k := (k_c2, k_LW.2)) mk_LW hC (cut := [339]) 1 (?_ : eg_T2 L xs wd k_LW P 339 (((cu + 1) + 0) + 0) (((su + 6) + 0) + 0) [some (.retAddr 1000), some (.ref 0), some (.ref 121), some (.ref 177), some (.int (nI i)), some (.int kk), some (.int b), x7] [.int kk] N3)
  refine y_run (k := (k_c2, k_LW.2)) mk_LW hC (cut := [354, 342]) 1 ⟨fun hk0 => (?_ : eg_T2 L xs wd k_LW P 342 (((cu + 1) + 0) + 0) (((su + 6) + 0) + 0) [some (.retAddr 1000), some (.ref 0), some (.ref 121), some (.ref 177), some (.int (nI i)), some (.int kk), some (.int b), x7] [] N3), fun _ => (?_ : eg_T2 L xs wd k_LW P 354 (((cu + 1) + 0) + 0) (((su + 6) + 0) + 0) [some (.retAddr 1000), some (.ref 0), some (.ref 121), some (.ref 177), some (.int (nI i)), some (.int kk), some (.int b), x7] [] N3)⟩
  · skip
    refine y_run (k := (k_c2, k_LW.2)) mk_LW hC (cut := [344]) 2 (?_ : eg_T2 L xs wd k_LW P 344 (((cu + 1) + 0) + 0) (((su + 6) + 0) + 0) [some (.retAddr 1000), some (.ref 0), some (.ref 121), some (.ref 177), some (.int (nI i)), some (.int kk), some (.int b), x7] [.int (nI 0), .ref 177] N3)
    refine y_run (k := (k_c2, k_LW.2)) mk_LW hC (cut := [345]) 1 ⟨vp177 N3, (?_ : eg_T2 L xs wd k_LW P 345 (((cu + 1) + 0) + 0) (((su + 6) + 0) + 0) [some (.retAddr 1000), some (.ref 0), some (.ref 121), some (.ref 177), some (.int (nI i)), some (.int kk), some (.int b), x7] [.long (eg_gl N3 177 (nI 0).toNatClampNeg)] N3)⟩
    refine y_run (k := (k_c2, k_LW.2)) mk_LW hC (cut := [349]) 3 (?_ : eg_T2 L xs wd k_LW P 349 (((cu + 1) + 0) + 0) (((su + 6) + 0) + 0) [some (.retAddr 1000), some (.ref 0), some (.ref 121), some (.ref 177), some (.int (nI i)), some (.int kk), some (.int b), x7] [.int (lg_cmp (eg_gl N3 177 (nI 0).toNatClampNeg) (b.toInt64))] N3)
    refine y_run (k := (k_c2, k_LW.2)) mk_LW hC (cut := [354, 352]) 1 ⟨fun _ => (?_ : eg_T2 L xs wd k_LW P 354 (((cu + 1) + 0) + 0) (((su + 6) + 0) + 0) [some (.retAddr 1000), some (.ref 0), some (.ref 121), some (.ref 177), some (.int (nI i)), some (.int kk), some (.int b), x7] [] N3), fun z => absurd ((lg_cmp_eq _ _).mpr (hz hk0)) z⟩
    refine y_run (k := (k_c2, k_LW.2)) mk_LW hC (cut := [1723]) 1 (?_ : eg_T2 L xs wd k_LW P 1723 (((cu + 1) + 0) + 0) (((su + 6) + 0) + 0) [some (.retAddr 1000), some (.ref 0), some (.ref 121), some (.ref 177), some (.int (nI i)), some (.int kk), some (.int b), x7] [] N3)
    exact hn _ _ _ _ _ _ (by omega) (by omega) hA2
  · skip
    refine y_run (k := (k_c2, k_LW.2)) mk_LW hC (cut := [1723]) 1 (?_ : eg_T2 L xs wd k_LW P 1723 (((cu + 1) + 0) + 0) (((su + 6) + 0) + 0) [some (.retAddr 1000), some (.ref 0), some (.ref 121), some (.ref 177), some (.int (nI i)), some (.int kk), some (.int b), x7] [] N3)
    exact hn _ _ _ _ _ _ (by omega) (by omega) hA2

/-- the class: two sets of towns, as they may be -/
def k_as (M : eg_M) (a b : Int32) : Prop := ((a ||| b) &&& ((((nI 1) <<< ((eg_gi M 2 4) &&& 31)) - (nI 1)) ^^^ (-nI 1))) = 0 ∧ ((a &&& b) = 0 ∧ (¬ (nI 6) < (bc a) ∧ ¬ (nI 6) < (bc b)))
theorem msk_b : ∀ T, T ≤ 16 → ∀ i, i < 32 → ((((nI 1) <<< ((nI T) &&& 31)) - (nI 1)) ^^^ (-nI 1)).toBitVec.getLsbD i = decide (T ≤ i) := by decide +kernel
/-- no bit above T -/
theorem msk_iff {x : Int32} {T : Nat} (hT : T ≤ 16) : x &&& ((((nI 1) <<< ((nI T) &&& 31)) - (nI 1)) ^^^ (-nI 1)) = 0 ↔ ∃ v, v < 2 ^ T ∧ x = nI v := by
  constructor
  · intro h
    refine ⟨x.toBitVec.toNat, Nat.lt_pow_two_of_testBit _ (fun i hi => ?_), ?_⟩
    · by_cases h32 : i < 32
      · have := congrArg (fun z => z.toBitVec.getLsbD i) h
        rw [Int32.toBitVec_and, BitVec.getLsbD_and, msk_b T hT i h32, decide_eq_true hi, Bool.and_true] at this
        rw [BitVec.testBit_toNat, this]
        exact BitVec.getLsbD_zero
      · exact Nat.testBit_lt_two_pow (Nat.lt_of_lt_of_le x.toBitVec.isLt (Nat.pow_le_pow_right (by decide) (by omega)))
    · apply Int32.toBitVec_inj.mp
      apply BitVec.eq_of_toNat_eq
      have e : ∀ n, (nI n).toBitVec = BitVec.ofNat 32 n := fun _ => rfl
      rw [e, BitVec.toNat_ofNat, Nat.mod_eq_of_lt x.toBitVec.isLt]
  · rintro ⟨v, hv, rfl⟩
    have h16 : 2 ^ T ≤ 2 ^ 16 := Nat.pow_le_pow_right (by decide) hT
    apply Int32.toBitVec_inj.mp
    apply BitVec.eq_of_getLsbD_eq
    intro i hi
    rw [Int32.toBitVec_and, BitVec.getLsbD_and, msk_b T hT i hi]
    by_cases h : T ≤ i
    · rw [decide_eq_true h, Bool.and_true, ← BitVec.testBit_toNat, u_t (by omega), Nat.testBit_lt_two_pow (Nat.lt_of_lt_of_le hv (Nat.pow_le_pow_right (by decide) h))]
      exact BitVec.getLsbD_zero.symm
    · rw [decide_eq_false h, Bool.and_false]
      exact BitVec.getLsbD_zero.symm
theorem or_and0 {a b m : Int32} : (a ||| b) &&& m = 0 ↔ a &&& m = 0 ∧ b &&& m = 0 := by
  have e : ∀ x : Int32, x = 0 ↔ ∀ i, i < 32 → x.toBitVec.getLsbD i = false := fun x => by
    constructor
    · rintro rfl i _
      exact BitVec.getLsbD_zero
    · intro h
      apply Int32.toBitVec_inj.mp
      apply BitVec.eq_of_getLsbD_eq
      intro i hi
      rw [h i hi]
      exact BitVec.getLsbD_zero.symm
  rw [e, e, e]
  simp only [Int32.toBitVec_and, Int32.toBitVec_or, BitVec.getLsbD_and, BitVec.getLsbD_or]
  constructor
  · intro h
    refine ⟨fun i hi => ?_, fun i hi => ?_⟩
    · have := h i hi
      revert this
      cases a.toBitVec.getLsbD i <;> cases b.toBitVec.getLsbD i <;> cases m.toBitVec.getLsbD i <;> decide
    · have := h i hi
      revert this
      cases a.toBitVec.getLsbD i <;> cases b.toBitVec.getLsbD i <;> cases m.toBitVec.getLsbD i <;> decide
  · rintro ⟨h1, h2⟩ i hi
    have h1 := h1 i hi
    have h2 := h2 i hi
    revert h1 h2
    cases a.toBitVec.getLsbD i <;> cases b.toBitVec.getLsbD i <;> cases m.toBitVec.getLsbD i <;> decide
theorem bit_t {v t : Nat} (hv : v < 2 ^ 31) (ht : t < 32) : bit (nI v) t = v.testBit t := by
  rw [bit_N hv ht, Nat.testBit_eq_decide_div_mod_eq, Nat.shiftRight_eq_div_pow]
theorem ones_T {v T : Nat} (hT : T ≤ 16) (hv : v < 2 ^ T) : ones (nI v) 16 = ones (nI v) T := by
  have h16 : 2 ^ T ≤ 2 ^ 16 := Nat.pow_le_pow_right (by decide) hT
  have key : ∀ k, T + k ≤ 16 → ones (nI v) (T + k) = ones (nI v) T := by
    intro k
    induction k with
    | zero => intro _; rfl
    | succ k ih =>
      intro hk
      rw [← Nat.add_assoc, ones_s, bit_t (by omega) (by omega), Nat.testBit_lt_two_pow (Nat.lt_of_lt_of_le hv (Nat.pow_le_pow_right (by decide) (by omega))), if_neg Bool.noConfusion]
      exact ih (by omega)
  have := key (16 - T) (by omega)
  rw [show T + (16 - T) = 16 by omega] at this
  exact this
theorem ones_dj {v w n t : Nat} (hv : v < 2 ^ 31) (hw : w < 2 ^ 31) (hn : n ≤ 32) (h : nI v &&& nI w = 0) (h1 : t ∈ ones (nI v) n) : ¬ t ∈ ones (nI w) n := by
  intro h2
  unfold ones at h1 h2
  obtain ⟨q1, q2⟩ := List.mem_filter.mp h1
  obtain ⟨-, q3⟩ := List.mem_filter.mp h2
  have ht := List.mem_range.mp q1
  rw [bit_t hv (by omega)] at q2
  rw [bit_t hw (by omega)] at q3
  rw [u_and v w hv hw] at h
  have e : v &&& w = 0 := (n_eq (Nat.lt_of_le_of_lt Nat.and_le_left hv) (by decide)).mp h
  have : (v &&& w).testBit t = (0 : Nat).testBit t := congrArg (fun z => z.testBit t) e
  rw [Nat.testBit_and, q2, q3, Nat.zero_testBit] at this
  exact Bool.noConfusion this
/-- the class's sets in plain words -/
theorem k_as_iff {M : eg_M} {a b : Int32} {T : Nat} (hT : T ≤ 16) (eT : eg_gi M 2 4 = nI T) : k_as M a b ↔ (∃ v w, v < 2 ^ T ∧ w < 2 ^ T ∧ a = nI v ∧ b = nI w) ∧ a &&& b = 0 ∧ (ones a T).length ≤ 6 ∧ (ones b T).length ≤ 6 := by
  have h16 : 2 ^ T ≤ 2 ^ 16 := Nat.pow_le_pow_right (by decide) hT
  have lc : ∀ v, v < 2 ^ T → (¬ nI 6 < bc (nI v) ↔ (ones (nI v) T).length ≤ 6) := fun v hv => by
    have := ones_len (nI v) T
    rw [bc_16 (by omega), ones_T hT hv, n_lt (by decide) (by omega), Nat.not_lt]
  unfold k_as
  rw [eT, or_and0, msk_iff hT, msk_iff hT]
  constructor
  · rintro ⟨⟨⟨v, hv, rfl⟩, w, hw, rfl⟩, h1, h2, h3⟩
    exact ⟨⟨v, w, hv, hw, rfl, rfl⟩, h1, (lc v hv).mp h2, (lc w hw).mp h3⟩
  · rintro ⟨⟨v, w, hv, hw, rfl, rfl⟩, h1, h2, h3⟩
    exact ⟨⟨⟨v, hv, rfl⟩, w, hw, rfl⟩, h1, (lc v hv).mpr h2, (lc w hw).mpr h3⟩
theorem k_as_ok {M : eg_M} {a b : Int32} (hT : eg_cn (eg_gi M 2 4) 16) (h : k_as M a b) : (ones a 16).length ≤ 6 ∧ (ones b 16).length ≤ 6 ∧ ∀ t, t ∈ ones a 16 → ¬ t ∈ ones b 16 := by
  obtain ⟨T, hT, eT⟩ := hT
  have h16 : 2 ^ T ≤ 2 ^ 16 := Nat.pow_le_pow_right (by decide) hT
  obtain ⟨⟨v, w, hv, hw, rfl, rfl⟩, h1, h2, h3⟩ := (k_as_iff hT eT).mp h
  rw [ones_T hT hv, ones_T hT hw]
  exact ⟨h2, h3, fun t => ones_dj (by omega) (by omega) (by omega) h1⟩
def k_X11_pair : eg_C := ([(0, .aload_n 0, 1), (1, .iload_n 1, 1), (2, .iload_n 2, 1), (3, .invokevirtual 268, 3), (6, .ifCond .eq 15, 3), (9, .aload_n 0, 1), (10, .getfield 53, 3), (13, .iload_n 1, 1), (14, .iload_n 2, 1), (15, .invokevirtual 271, 3), (18, .goto 4, 3), (21, .iconst (-1), 1), (22, .ireturn, 1)], [(53, 11, 7, false)], [], [(268, 2 + 1, 0, 0, s_X11_areSets), (271, 2 + 1, 0, 0, s_X2_pairByFirst)], [], 1, 0, 0)
theorem mk_X11_pair : ∀ q ∈ k_X11_pair.2.2.2.1, eg_mono q.2.2.2.2 := (fc (mo_X11_areSets) (fc (mo_X2_pairByFirst) (fn)))
set_option maxRecDepth 100000 in
theorem st_X11_pair_0 {Qp : eg_P} {M : eg_M} (a : Int32) (b : Int32)
  (g0 : (¬ (¬ (((a ||| b) &&& ((((nI 1) <<< ((eg_gi M 2 4) &&& 31)) - (nI 1)) ^^^ (-nI 1))) = 0 ∧ ((a &&& b) = 0 ∧ (¬ (nI 6) < (bc a) ∧ ¬ (nI 6) < (bc b)))))) → ((ones a 16).length ≤ 6 ∧ k_wi M))
  (l0 : (¬ (((a ||| b) &&& ((((nI 1) <<< ((eg_gi M 2 4) &&& 31)) - (nI 1)) ^^^ (-nI 1))) = 0 ∧ ((a &&& b) = 0 ∧ (¬ (nI 6) < (bc a) ∧ ¬ (nI 6) < (bc b))))) → Qp (.inl (some (.int (-nI 1)))) M)
  (l1 : (((a ||| b) &&& ((((nI 1) <<< ((eg_gi M 2 4) &&& 31)) - (nI 1)) ^^^ (-nI 1))) = 0 ∧ ((a &&& b) = 0 ∧ (¬ (nI 6) < (bc a) ∧ ¬ (nI 6) < (bc b)))) → ∀ (f_1 : Nat → Int32) (xp_1 : k_KA), (isL f_1 (ones a 16) ∧ xp_1 = k_gR M b (ones a 16) 37 ((fun j => if j < 16 then -nI 1 else eg_gi M 116 j), (fun j => if j < 16 then nI 0 else eg_gi M 117 j), true)) → eg_T wd k_X11_pair Qp 18 0 0 [some (.ref 0), some (.int a), some (.int b)] [.int (nI ((ones a 16).countP (fun t => decide (¬ xp_1.1 t = -nI 1))))] (k_gm M (ones a 16).length f_1 xp_1.1 xp_1.2.1)) :
  eg_T wd k_X11_pair Qp 0 0 0 [some (.ref 0), some (.int a), some (.int b)] [] M := by
  refine eg_T_run mk_X11_pair (cut := [18]) 16 ?_
  refine And.intro (show (True) from ?_) ?_
  · exact trivial
  refine And.intro (fun (c1 : (b2i (decide (((a ||| b) &&& ((((nI 1) <<< ((eg_gi M 2 4) &&& 31)) - (nI 1)) ^^^ (-nI 1))) = 0 ∧ ((a &&& b) = 0 ∧ (¬ (nI 6) < (bc a) ∧ ¬ (nI 6) < (bc b)))))) = 0) => ?_) (fun (c1 : ¬ (b2i (decide (((a ||| b) &&& ((((nI 1) <<< ((eg_gi M 2 4) &&& 31)) - (nI 1)) ^^^ (-nI 1))) = 0 ∧ ((a &&& b) = 0 ∧ (¬ (nI 6) < (bc a) ∧ ¬ (nI 6) < (bc b)))))) = 0) => ?_)
  · replace c1 := b2i_d0.mp c1
    refine And.intro (fun z => absurd z (by decide)) ?_
    show Qp (.inl (some (.int (-nI 1)))) M
    exact l0 c1
  · replace c1 := b2i_dn.mp c1
    refine And.intro (show ((ones a 16).length ≤ 6 ∧ k_wi M) from ?_) ?_
    · exact g0 c1
    intro f_1 xp_1 ha_1
    show eg_T wd k_X11_pair Qp 18 0 0 [some (.ref 0), some (.int a), some (.int b)] [.int (nI ((ones a 16).countP (fun t => decide (¬ xp_1.1 t = -nI 1))))] (k_gm M (ones a 16).length f_1 xp_1.1 xp_1.2.1)
    exact l1 (Classical.byContradiction c1) f_1 xp_1 ha_1

set_option maxRecDepth 100000 in
theorem st_X11_pair_18 {Qp : eg_P} {M : eg_M} (o0 : Option Value) (o1 : Option Value) (o2 : Option Value) (s0 : Int32)
  (l0 : Qp (.inl (some (.int s0))) M) :
  eg_T wd k_X11_pair Qp 18 0 0 [o0, o1, o2] [.int s0] M := by
  refine eg_T_run mk_X11_pair (cut := [18]) 16 ?_
  refine And.intro (fun z => absurd z (by decide)) ?_
  show Qp (.inl (some (.int s0))) M
  exact l0

def s_X11_pair : eg_S := fun argv M Qp => match argv with
  | [.ref 0, .int a, .int b] => (eg_cn (eg_gi M 2 4) 16 ∧ k_wi M) ∧ ∀ (v : Int32) (M2 : eg_M), ((¬ k_as M a b ∧ v = -nI 1 ∧ M2 = M) ∨ (k_as M a b ∧ ∃ f xp, isL f (ones a 16) ∧ xp = k_gR M b (ones a 16) 37 ((fun j => if j < 16 then -nI 1 else eg_gi M 116 j), (fun j => if j < 16 then nI 0 else eg_gi M 117 j), true) ∧ v = nI ((ones a 16).countP (fun t => decide (¬ xp.1 t = -nI 1))) ∧ M2 = k_gm M (ones a 16).length f xp.1 xp.2.1)) → Qp (.inl (some (.int (v)))) M2
  | _ => False
theorem mo_X11_pair : eg_mono s_X11_pair := by
  intro argv M Q Q' h
  unfold s_X11_pair
  split
  · exact fun z => ⟨z.1, fun v M2 y => h _ _ (z.2 v M2 y)⟩
  · exact id
theorem sz_X11_pair : ∀ argv M Qp, s_X11_pair argv M Qp → (eg_ls0 argv).length ≤ 3 := by
  intro argv M Qp h
  unfold s_X11_pair at h
  split at h
  · exact Nat.le_of_ble_eq_true rfl
  · exact h.elim
theorem sr_X11_pair : ∀ argv M Qp, s_X11_pair argv M Qp → ∃ p0 As, argv = .ref p0 :: As ∧ eg_isO wd M p0 11 = true := by
  intro argv M Qp h
  unfold s_X11_pair at h
  split at h
  · exact ⟨_, _, rfl, rfl⟩
  · exact h.elim
set_option maxRecDepth 100000 in
set_option maxHeartbeats 1000000 in
theorem T_X11_pair {argv : List Value} {M : eg_M} {Qp : eg_P} (h : s_X11_pair argv M Qp) : eg_T wd k_X11_pair Qp 0 0 0 (eg_lsN 3 argv) [] M := by
  unfold s_X11_pair at h
  split at h
  · rename_i a b
    obtain ⟨hp, hq⟩ := h
    refine st_X11_pair_0 a b (fun z => ⟨(k_as_ok hp.1 (Classical.not_not.mp z)).1, hp.2⟩) (fun z => hq _ _ (Or.inl ⟨z, rfl, rfl⟩)) (fun z f xp hf => ?_)
    exact st_X11_pair_18 _ _ _ _ (hq _ _ (Or.inr ⟨z, f, xp, hf.1, hf.2, rfl, rfl⟩))
  · exact h.elim
theorem de_X11_pair : ∀ q ∈ k_X11_pair.1, decode cX11_pair q.1 = .ok q.2 := by decide +kernel
theorem me_X11_pair (g : gl_T) : MT g yX11_pair cX11_pair 3 (some .int) ⟨2, 0, 0, 50⟩ 0 0 s_X11_pair := by
  intro hl
  exact eg_met_of (k := k_X11_pair) (by decide) rfl ⟨Nat.le_refl _, Nat.le_refl _⟩ rfl sz_X11_pair de_X11_pair (fun meth hn => (fc (eg_FL_of wd_c11 (by decide) lf_RX11_53 (fun h => absurd h (by decide))) (fn))) (fun A s H hE => (fn)) (fun p e s m args below meth c Q A ad0 N0 S0 hK hEx hA => (fc (mt_V hl S0 hK hEx hA (me_X11_areSets g) lm_RX11_268 li_X11_areSets lx_X11_areSets ln_RX11 lc_X11_areSets ⟨rfl, by decide, by decide, by decide +kernel⟩ ⟨rfl, rfl⟩ ⟨by decide, by decide⟩ (ci := 11) rfl rfl sr_X11_areSets (by decide)) (fc (mt_V hl S0 hK hEx hA (me_X2_pairByFirst g) lm_RX11_271 li_X2_pairByFirst lx_X2_pairByFirst ln_RX2 lc_X2_pairByFirst ⟨rfl, by decide, by decide, by decide +kernel⟩ ⟨rfl, rfl⟩ ⟨by decide, by decide⟩ (ci := 2) rfl rfl sr_X2_pairByFirst (by decide)) (fn)))) (fun p e s m args below meth c Qc XC A ad0 N0 P S0 hK hEx hA hlk hout hPX => (fn)) (fun argv M Qp h => T_X11_pair h)

def k_X11_stables : eg_C := ([(0, .aload_n 0, 1), (1, .iload_n 1, 1), (2, .iload_n 2, 1), (3, .invokevirtual 268, 3), (6, .ifCond .eq 15, 3), (9, .aload_n 0, 1), (10, .getfield 53, 3), (13, .iload_n 1, 1), (14, .iload_n 2, 1), (15, .invokevirtual 277, 3), (18, .goto 4, 3), (21, .iconst (-1), 1), (22, .ireturn, 1)], [(53, 11, 7, false)], [], [(268, 2 + 1, 0, 0, s_X11_areSets), (277, 2 + 1, 0, 0, s_X2_countStable)], [], 1, 0, 0)
theorem mk_X11_stables : ∀ q ∈ k_X11_stables.2.2.2.1, eg_mono q.2.2.2.2 := (fc (mo_X11_areSets) (fc (mo_X2_countStable) (fn)))
set_option maxRecDepth 100000 in
theorem st_X11_stables_0 {Qp : eg_P} {M : eg_M} (a : Int32) (b : Int32)
  (g0 : (¬ (¬ (((a ||| b) &&& ((((nI 1) <<< ((eg_gi M 2 4) &&& 31)) - (nI 1)) ^^^ (-nI 1))) = 0 ∧ ((a &&& b) = 0 ∧ (¬ (nI 6) < (bc a) ∧ ¬ (nI 6) < (bc b)))))) → ((ones a 16).length ≤ 6 ∧ (ones b 16).length ≤ 6 ∧ ∀ t, t ∈ ones a 16 → ¬ t ∈ ones b 16))
  (l0 : (¬ (((a ||| b) &&& ((((nI 1) <<< ((eg_gi M 2 4) &&& 31)) - (nI 1)) ^^^ (-nI 1))) = 0 ∧ ((a &&& b) = 0 ∧ (¬ (nI 6) < (bc a) ∧ ¬ (nI 6) < (bc b))))) → Qp (.inl (some (.int (-nI 1)))) M)
  (l1 : (((a ||| b) &&& ((((nI 1) <<< ((eg_gi M 2 4) &&& 31)) - (nI 1)) ^^^ (-nI 1))) = 0 ∧ ((a &&& b) = 0 ∧ (¬ (nI 6) < (bc a) ∧ ¬ (nI 6) < (bc b)))) → ∀ (f_1 : Nat → Int32) (g_1 : Nat → Int32), (isL f_1 (ones a 16) ∧ isL g_1 (ones b 16)) → eg_T wd k_X11_stables Qp 18 0 0 [some (.ref 0), some (.int a), some (.int b)] [.int (nI (k_cf (k_cM M a b f_1 g_1) (ones a 16).length (ones b 16).length 7 0 (eg_gi (k_cM M a b f_1 g_1) 118)))] (k_cM M a b f_1 g_1)) :
  eg_T wd k_X11_stables Qp 0 0 0 [some (.ref 0), some (.int a), some (.int b)] [] M := by
  refine eg_T_run mk_X11_stables (cut := [18]) 16 ?_
  refine And.intro (show (True) from ?_) ?_
  · exact trivial
  refine And.intro (fun (c1 : (b2i (decide (((a ||| b) &&& ((((nI 1) <<< ((eg_gi M 2 4) &&& 31)) - (nI 1)) ^^^ (-nI 1))) = 0 ∧ ((a &&& b) = 0 ∧ (¬ (nI 6) < (bc a) ∧ ¬ (nI 6) < (bc b)))))) = 0) => ?_) (fun (c1 : ¬ (b2i (decide (((a ||| b) &&& ((((nI 1) <<< ((eg_gi M 2 4) &&& 31)) - (nI 1)) ^^^ (-nI 1))) = 0 ∧ ((a &&& b) = 0 ∧ (¬ (nI 6) < (bc a) ∧ ¬ (nI 6) < (bc b)))))) = 0) => ?_)
  · replace c1 := b2i_d0.mp c1
    refine And.intro (fun z => absurd z (by decide)) ?_
    show Qp (.inl (some (.int (-nI 1)))) M
    exact l0 c1
  · replace c1 := b2i_dn.mp c1
    refine And.intro (show ((ones a 16).length ≤ 6 ∧ (ones b 16).length ≤ 6 ∧ ∀ t, t ∈ ones a 16 → ¬ t ∈ ones b 16) from ?_) ?_
    · exact g0 c1
    intro f_1 g_1 ha_1
    show eg_T wd k_X11_stables Qp 18 0 0 [some (.ref 0), some (.int a), some (.int b)] [.int (nI (k_cf (k_cM M a b f_1 g_1) (ones a 16).length (ones b 16).length 7 0 (eg_gi (k_cM M a b f_1 g_1) 118)))] (k_cM M a b f_1 g_1)
    exact l1 (Classical.byContradiction c1) f_1 g_1 ha_1

set_option maxRecDepth 100000 in
theorem st_X11_stables_18 {Qp : eg_P} {M : eg_M} (o0 : Option Value) (o1 : Option Value) (o2 : Option Value) (s0 : Int32)
  (l0 : Qp (.inl (some (.int s0))) M) :
  eg_T wd k_X11_stables Qp 18 0 0 [o0, o1, o2] [.int s0] M := by
  refine eg_T_run mk_X11_stables (cut := [18]) 16 ?_
  refine And.intro (fun z => absurd z (by decide)) ?_
  show Qp (.inl (some (.int s0))) M
  exact l0

def s_X11_stables : eg_S := fun argv M Qp => match argv with
  | [.ref 0, .int a, .int b] => (eg_cn (eg_gi M 2 4) 16) ∧ ∀ (v : Int32) (M2 : eg_M), ((¬ k_as M a b ∧ v = -nI 1 ∧ M2 = M) ∨ (k_as M a b ∧ ∃ f g, isL f (ones a 16) ∧ isL g (ones b 16) ∧ v = nI (k_cf (k_cM M a b f g) (ones a 16).length (ones b 16).length 7 0 (eg_gi (k_cM M a b f g) 118)) ∧ M2 = k_cM M a b f g)) → Qp (.inl (some (.int (v)))) M2
  | _ => False
theorem mo_X11_stables : eg_mono s_X11_stables := by
  intro argv M Q Q' h
  unfold s_X11_stables
  split
  · exact fun z => ⟨z.1, fun v M2 y => h _ _ (z.2 v M2 y)⟩
  · exact id
theorem sz_X11_stables : ∀ argv M Qp, s_X11_stables argv M Qp → (eg_ls0 argv).length ≤ 3 := by
  intro argv M Qp h
  unfold s_X11_stables at h
  split at h
  · exact Nat.le_of_ble_eq_true rfl
  · exact h.elim
theorem sr_X11_stables : ∀ argv M Qp, s_X11_stables argv M Qp → ∃ p0 As, argv = .ref p0 :: As ∧ eg_isO wd M p0 11 = true := by
  intro argv M Qp h
  unfold s_X11_stables at h
  split at h
  · exact ⟨_, _, rfl, rfl⟩
  · exact h.elim
set_option maxRecDepth 100000 in
set_option maxHeartbeats 1000000 in
theorem T_X11_stables {argv : List Value} {M : eg_M} {Qp : eg_P} (h : s_X11_stables argv M Qp) : eg_T wd k_X11_stables Qp 0 0 0 (eg_lsN 3 argv) [] M := by
  unfold s_X11_stables at h
  split at h
  · rename_i a b
    obtain ⟨hp, hq⟩ := h
    refine st_X11_stables_0 a b (fun z => k_as_ok hp (Classical.not_not.mp z)) (fun z => hq _ _ (Or.inl ⟨z, rfl, rfl⟩)) (fun z f g hf => ?_)
    exact st_X11_stables_18 _ _ _ _ (hq _ _ (Or.inr ⟨z, f, g, hf.1, hf.2, rfl, rfl⟩))
  · exact h.elim
theorem de_X11_stables : ∀ q ∈ k_X11_stables.1, decode cX11_stables q.1 = .ok q.2 := by decide +kernel
theorem me_X11_stables (g : gl_T) : MT g yX11_stables cX11_stables 3 (some .int) ⟨12, 0, 0, 290⟩ 0 0 s_X11_stables := by
  intro hl
  exact eg_met_of (k := k_X11_stables) (by decide) rfl ⟨Nat.le_refl _, Nat.le_refl _⟩ rfl sz_X11_stables de_X11_stables (fun meth hn => (fc (eg_FL_of wd_c11 (by decide) lf_RX11_53 (fun h => absurd h (by decide))) (fn))) (fun A s H hE => (fn)) (fun p e s m args below meth c Q A ad0 N0 S0 hK hEx hA => (fc (mt_V hl S0 hK hEx hA (me_X11_areSets g) lm_RX11_268 li_X11_areSets lx_X11_areSets ln_RX11 lc_X11_areSets ⟨rfl, by decide, by decide, by decide +kernel⟩ ⟨rfl, rfl⟩ ⟨by decide, by decide⟩ (ci := 11) rfl rfl sr_X11_areSets (by decide)) (fc (mt_V hl S0 hK hEx hA (me_X2_countStable g) lm_RX11_277 li_X2_countStable lx_X2_countStable ln_RX2 lc_X2_countStable ⟨rfl, by decide, by decide, by decide +kernel⟩ ⟨rfl, rfl⟩ ⟨by decide, by decide⟩ (ci := 2) rfl rfl sr_X2_countStable (by decide)) (fn)))) (fun p e s m args below meth c Qc XC A ad0 N0 P S0 hK hEx hA hlk hout hPX => (fn)) (fun argv M Qp h => T_X11_stables h)

def k_X11_lodge : eg_C := ([(0, .aload_n 0, 1), (1, .getfield 39, 3), (4, .invokevirtual 222, 3), (7, .ireturn, 1)], [(39, 11, 5, false)], [], [(222, 0 + 1, 0, 0, s_X4_findBest)], [], 1, 0, 0)
theorem mk_X11_lodge : ∀ q ∈ k_X11_lodge.2.2.2.1, eg_mono q.2.2.2.2 := (fc (mo_X4_findBest) (fn))
set_option maxRecDepth 100000 in
theorem st_X11_lodge_0 {Qp : eg_P} {M : eg_M} 
  (g0 : (eg_cn (eg_gi M 46 0) 6 ∧ eg_cn (eg_gi M 46 5) 8 ∧ (∀ h, h < (eg_gi M 46 0).toNatClampNeg → eg_cn (eg_gi M 47 h) 4) ∧ ∀ g h, g < (eg_gi M 46 5).toNatClampNeg → h < (eg_gi M 46 0).toNatClampNeg → k_lk M g h = -nI 1 ∨ eg_cn (k_lk M g h) 34))
  (l0 : ∀ (sg_1 : Nat → Nat) (X_1 : eg_M), (lb_B M (eg_gi M 46 0).toNatClampNeg (eg_gi M 46 5).toNatClampNeg sg_1 ∧ lb_X M X_1) → eg_T wd k_X11_lodge Qp 7 0 0 [some (.ref 0)] [.int (nI (lb_h sg_1 (eg_gi M 46 5).toNatClampNeg))] (eg_si (eg_si (eg_ri X_1 54 (lb_k M sg_1 (eg_gi M 46 5).toNatClampNeg)) 46 9 (eg_gi M 46 5)) 46 10 (lb_l M sg_1 (eg_gi M 46 5).toNatClampNeg))) :
  eg_T wd k_X11_lodge Qp 0 0 0 [some (.ref 0)] [] M := by
  refine eg_T_run mk_X11_lodge (cut := [7]) 7 ?_
  refine And.intro (show (eg_cn (eg_gi M 46 0) 6 ∧ eg_cn (eg_gi M 46 5) 8 ∧ (∀ h, h < (eg_gi M 46 0).toNatClampNeg → eg_cn (eg_gi M 47 h) 4) ∧ ∀ g h, g < (eg_gi M 46 5).toNatClampNeg → h < (eg_gi M 46 0).toNatClampNeg → k_lk M g h = -nI 1 ∨ eg_cn (k_lk M g h) 34) from ?_) ?_
  · exact g0
  intro sg_1 X_1 ha_1
  show eg_T wd k_X11_lodge Qp 7 0 0 [some (.ref 0)] [.int (nI (lb_h sg_1 (eg_gi M 46 5).toNatClampNeg))] (eg_si (eg_si (eg_ri X_1 54 (lb_k M sg_1 (eg_gi M 46 5).toNatClampNeg)) 46 9 (eg_gi M 46 5)) 46 10 (lb_l M sg_1 (eg_gi M 46 5).toNatClampNeg))
  exact l0 sg_1 X_1 ha_1

set_option maxRecDepth 100000 in
theorem st_X11_lodge_7 {Qp : eg_P} {M : eg_M} (o0 : Option Value) (s0 : Int32)
  (l0 : Qp (.inl (some (.int s0))) M) :
  eg_T wd k_X11_lodge Qp 7 0 0 [o0] [.int s0] M := by
  refine eg_T_run mk_X11_lodge (cut := [7]) 7 ?_
  refine And.intro (fun z => absurd z (by decide)) ?_
  show Qp (.inl (some (.int s0))) M
  exact l0

def s_X11_lodge : eg_S := fun argv M Qp => match argv with
  | [.ref 0] => (eg_cn (eg_gi M 46 0) 6 ∧ eg_cn (eg_gi M 46 5) 8 ∧ (∀ h, h < (eg_gi M 46 0).toNatClampNeg → eg_cn (eg_gi M 47 h) 4) ∧ ∀ g h, g < (eg_gi M 46 5).toNatClampNeg → h < (eg_gi M 46 0).toNatClampNeg → k_lk M g h = -nI 1 ∨ eg_cn (k_lk M g h) 34) ∧ ∀ (sg : Nat → Nat) (X : eg_M), (lb_B M (eg_gi M 46 0).toNatClampNeg (eg_gi M 46 5).toNatClampNeg sg ∧ lb_X M X) → Qp (.inl (some (.int (nI (lb_h sg (eg_gi M 46 5).toNatClampNeg))))) (eg_si (eg_si (eg_ri X 54 (lb_k M sg (eg_gi M 46 5).toNatClampNeg)) 46 9 (eg_gi M 46 5)) 46 10 (lb_l M sg (eg_gi M 46 5).toNatClampNeg))
  | _ => False
theorem mo_X11_lodge : eg_mono s_X11_lodge := by
  intro argv M Q Q' h
  unfold s_X11_lodge
  split
  · exact fun z => ⟨z.1, fun sg X y => h _ _ (z.2 sg X y)⟩
  · exact id
theorem sz_X11_lodge : ∀ argv M Qp, s_X11_lodge argv M Qp → (eg_ls0 argv).length ≤ 1 := by
  intro argv M Qp h
  unfold s_X11_lodge at h
  split at h
  · exact Nat.le_of_ble_eq_true rfl
  · exact h.elim
theorem sr_X11_lodge : ∀ argv M Qp, s_X11_lodge argv M Qp → ∃ p0 As, argv = .ref p0 :: As ∧ eg_isO wd M p0 11 = true := by
  intro argv M Qp h
  unfold s_X11_lodge at h
  split at h
  · exact ⟨_, _, rfl, rfl⟩
  · exact h.elim
set_option maxRecDepth 100000 in
set_option maxHeartbeats 1000000 in
theorem T_X11_lodge {argv : List Value} {M : eg_M} {Qp : eg_P} (h : s_X11_lodge argv M Qp) : eg_T wd k_X11_lodge Qp 0 0 0 (eg_lsN 1 argv) [] M := by
  unfold s_X11_lodge at h
  split at h
  · obtain ⟨hp, hq⟩ := h
    exact st_X11_lodge_0 hp (fun sg X h => st_X11_lodge_7 _ _ (hq sg X h))
  · exact h.elim
theorem de_X11_lodge : ∀ q ∈ k_X11_lodge.1, decode cX11_lodge q.1 = .ok q.2 := by decide +kernel
theorem me_X11_lodge (g : gl_T) : MT g yX11_lodge cX11_lodge 1 (some .int) ⟨4, 0, 0, 95⟩ 0 0 s_X11_lodge := by
  intro hl
  exact eg_met_of (k := k_X11_lodge) (by decide) rfl ⟨Nat.le_refl _, Nat.le_refl _⟩ rfl sz_X11_lodge de_X11_lodge (fun meth hn => (fc (eg_FL_of wd_c11 (by decide) lf_RX11_39 (fun h => absurd h (by decide))) (fn))) (fun A s H hE => (fn)) (fun p e s m args below meth c Q A ad0 N0 S0 hK hEx hA => (fc (mt_V hl S0 hK hEx hA (me_X4_findBest g) lm_RX11_222 li_X4_findBest lx_X4_findBest ln_RX4 lc_X4_findBest ⟨rfl, by decide, by decide, by decide +kernel⟩ ⟨rfl, rfl⟩ ⟨by decide, by decide⟩ (ci := 4) rfl rfl sr_X4_findBest (by decide)) (fn))) (fun p e s m args below meth c Qc XC A ad0 N0 P S0 hK hEx hA hlk hout hPX => (fn)) (fun argv M Qp h => T_X11_lodge h)

def k_X11_calendar : eg_C := ([(0, .aload_n 0, 1), (1, .getfield 46, 3), (4, .invokevirtual 249, 3), (7, .ireturn, 1)], [(46, 11, 6, false)], [], [(249, 0 + 1, 0, 0, s_X6_findCalendar)], [], 1, 0, 0)
theorem mk_X11_calendar : ∀ q ∈ k_X11_calendar.2.2.2.1, eg_mono q.2.2.2.2 := (fc (mo_X6_findCalendar) (fn))
set_option maxRecDepth 100000 in
theorem st_X11_calendar_0 {Qp : eg_P} {M : eg_M} 
  (g0 : (k_sp M))
  (l0 : ∀ (C_1 : Nat → Int32) (D_1 : Nat → Int32) (K_1 : Nat → Int32) (b1_1 : Int32) (b2_1 : Int32), ((∀ p, p < (eg_gi M 72 0).toNatClampNeg → ∀ d, d < (eg_gi M 75 p).toNatClampNeg → k_cb M p (eg_gi M 76 (p * 4 + d)) (C_1 (p * 4 + d)) (fun p' d' => p' < p ∧ d' < (eg_gi M 75 p').toNatClampNeg)) ∧ (b1_1, b2_1, (List.range (eg_gi M 72 0).toNatClampNeg).map K_1) = (k_rf (eg_ri M 78 C_1) 7 0 (nI 0) 0 0 []).foldl k_bu (-nI 1, eg_gi M 72 6, (List.range (eg_gi M 72 0).toNatClampNeg).map (eg_gi M 77))) → eg_T wd k_X11_calendar Qp 7 0 0 [some (.ref 0)] [.int b1_1] (kc_m (eg_si (eg_ri M 78 C_1) 72 5 (eg_gi M 72 0)) D_1 K_1 b1_1 b2_1)) :
  eg_T wd k_X11_calendar Qp 0 0 0 [some (.ref 0)] [] M := by
  refine eg_T_run mk_X11_calendar (cut := [7]) 7 ?_
  refine And.intro (show (k_sp M) from ?_) ?_
  · exact g0
  intro C_1 D_1 K_1 b1_1 b2_1 ha_1
  show eg_T wd k_X11_calendar Qp 7 0 0 [some (.ref 0)] [.int b1_1] (kc_m (eg_si (eg_ri M 78 C_1) 72 5 (eg_gi M 72 0)) D_1 K_1 b1_1 b2_1)
  exact l0 C_1 D_1 K_1 b1_1 b2_1 ha_1

set_option maxRecDepth 100000 in
theorem st_X11_calendar_7 {Qp : eg_P} {M : eg_M} (o0 : Option Value) (s0 : Int32)
  (l0 : Qp (.inl (some (.int s0))) M) :
  eg_T wd k_X11_calendar Qp 7 0 0 [o0] [.int s0] M := by
  refine eg_T_run mk_X11_calendar (cut := [7]) 7 ?_
  refine And.intro (fun z => absurd z (by decide)) ?_
  show Qp (.inl (some (.int s0))) M
  exact l0

def s_X11_calendar : eg_S := fun argv M Qp => match argv with
  | [.ref 0] => (k_sp M) ∧ ∀ (C : Nat → Int32) (D : Nat → Int32) (K : Nat → Int32) (b1 : Int32) (b2 : Int32), ((∀ p, p < (eg_gi M 72 0).toNatClampNeg → ∀ d, d < (eg_gi M 75 p).toNatClampNeg → k_cb M p (eg_gi M 76 (p * 4 + d)) (C (p * 4 + d)) (fun p' d' => p' < p ∧ d' < (eg_gi M 75 p').toNatClampNeg)) ∧ (b1, b2, (List.range (eg_gi M 72 0).toNatClampNeg).map K) = (k_rf (eg_ri M 78 C) 7 0 (nI 0) 0 0 []).foldl k_bu (-nI 1, eg_gi M 72 6, (List.range (eg_gi M 72 0).toNatClampNeg).map (eg_gi M 77))) → Qp (.inl (some (.int (b1)))) (kc_m (eg_si (eg_ri M 78 C) 72 5 (eg_gi M 72 0)) D K b1 b2)
  | _ => False
theorem mo_X11_calendar : eg_mono s_X11_calendar := by
  intro argv M Q Q' h
  unfold s_X11_calendar
  split
  · exact fun z => ⟨z.1, fun C D K b1 b2 y => h _ _ (z.2 C D K b1 b2 y)⟩
  · exact id
theorem sz_X11_calendar : ∀ argv M Qp, s_X11_calendar argv M Qp → (eg_ls0 argv).length ≤ 1 := by
  intro argv M Qp h
  unfold s_X11_calendar at h
  split at h
  · exact Nat.le_of_ble_eq_true rfl
  · exact h.elim
theorem sr_X11_calendar : ∀ argv M Qp, s_X11_calendar argv M Qp → ∃ p0 As, argv = .ref p0 :: As ∧ eg_isO wd M p0 11 = true := by
  intro argv M Qp h
  unfold s_X11_calendar at h
  split at h
  · exact ⟨_, _, rfl, rfl⟩
  · exact h.elim
set_option maxRecDepth 100000 in
set_option maxHeartbeats 1000000 in
theorem T_X11_calendar {argv : List Value} {M : eg_M} {Qp : eg_P} (h : s_X11_calendar argv M Qp) : eg_T wd k_X11_calendar Qp 0 0 0 (eg_lsN 1 argv) [] M := by
  unfold s_X11_calendar at h
  split at h
  · obtain ⟨hp, hq⟩ := h
    exact st_X11_calendar_0 hp (fun C D K b1 b2 h => st_X11_calendar_7 _ _ (hq C D K b1 b2 h))
  · exact h.elim
theorem de_X11_calendar : ∀ q ∈ k_X11_calendar.1, decode cX11_calendar q.1 = .ok q.2 := by decide +kernel
theorem me_X11_calendar (g : gl_T) : MT g yX11_calendar cX11_calendar 1 (some .int) ⟨10, 0, 0, 268⟩ 0 0 s_X11_calendar := by
  intro hl
  exact eg_met_of (k := k_X11_calendar) (by decide) rfl ⟨Nat.le_refl _, Nat.le_refl _⟩ rfl sz_X11_calendar de_X11_calendar (fun meth hn => (fc (eg_FL_of wd_c11 (by decide) lf_RX11_46 (fun h => absurd h (by decide))) (fn))) (fun A s H hE => (fn)) (fun p e s m args below meth c Q A ad0 N0 S0 hK hEx hA => (fc (mt_V hl S0 hK hEx hA (me_X6_findCalendar g) lm_RX11_249 li_X6_findCalendar lx_X6_findCalendar ln_RX6 lc_X6_findCalendar ⟨rfl, by decide, by decide, by decide +kernel⟩ ⟨rfl, rfl⟩ ⟨by decide, by decide⟩ (ci := 6) rfl rfl sr_X6_findCalendar (by decide)) (fn))) (fun p e s m args below meth c Qc XC A ad0 N0 P S0 hK hEx hA hlk hout hPX => (fn)) (fun argv M Qp h => T_X11_calendar h)

def k_X11_plan : eg_C := ([(0, .aload_n 0, 1), (1, .iload_n 1, 1), (2, .invokevirtual 94, 3), (5, .iload_n 2, 1), (6, .iconst 1, 1), (7, .bipush 30, 2), (9, .invokestatic 61, 3), (12, .ifCond .eq 12, 3), (15, .iload_n 3, 1), (16, .iconst 1, 1), (17, .iconst 4, 1), (18, .invokestatic 61, 3), (21, .ifCond .ne 5, 3), (24, .iconst (-1), 1), (25, .ireturn, 1), (26, .iconst 1, 1), (27, .aload_n 0, 1), (28, .getfield 25, 3), (31, .getfield 237, 3), (34, .iload_n 1, 1), (35, .iaload, 1), (36, .ishl, 1), (37, .iconst 1, 1), (38, .aload_n 0, 1), (39, .getfield 25, 3), (42, .getfield 240, 3), (45, .iload_n 1, 1), (46, .iaload, 1), (47, .ishl, 1), (48, .ior, 1), (49, .istore 6, 2), (51, .aload_n 0, 1), (52, .getfield 46, 3), (55, .iload 6, 2), (57, .iload_n 2, 1), (58, .iload_n 3, 1), (59, .lload 4, 2), (61, .invokevirtual 243, 3), (64, .ireturn, 1)], [(25, 11, 2, false), (46, 11, 6, false), (237, 0, 0, false), (240, 0, 1, false)], [], [(61 + 100000, 3, 0, 0, s_X11_within), (94, 1 + 1, 1, 6, s_X11_needCharter), (243, 4 + 1, 0, 0, s_X6_add)], [], 1, 1, 6)
theorem mk_X11_plan : ∀ q ∈ k_X11_plan.2.2.2.1, eg_mono q.2.2.2.2 := (fc (mo_X11_within) (fc (mo_X11_needCharter) (fc (mo_X6_add) (fn))))
set_option maxRecDepth 100000 in
theorem st_X11_plan_0 {Qp : eg_P} {M : eg_M} (a : Int32) (b : Int32) (c : Int32) (d : Int64)
  (g0 : (¬ (¬ (¬ a < (nI 0) ∧ ¬ ((eg_gi M 7 4) - (nI 1)) < a))) → (¬ (¬ (¬ b < (nI 1) ∧ ¬ (nI 30) < b))) → (¬ (¬ (¬ c < (nI 1) ∧ ¬ (nI 4) < c))) → (vp_in a 24))
  (g1 : (¬ (¬ (¬ a < (nI 0) ∧ ¬ ((eg_gi M 7 4) - (nI 1)) < a))) → (¬ (¬ (¬ b < (nI 1) ∧ ¬ (nI 30) < b))) → (¬ (¬ (¬ c < (nI 1) ∧ ¬ (nI 4) < c))) → (eg_cn (eg_gi M 72 0) 6 ∧ eg_cn c 4))
  (l0 : (¬ (¬ a < (nI 0) ∧ ¬ ((eg_gi M 7 4) - (nI 1)) < a)) → Qp (.inr "java/util/NoSuchElementException") M)
  (l1 : ((¬ a < (nI 0) ∧ ¬ ((eg_gi M 7 4) - (nI 1)) < a) ∧ ((¬ (¬ b < (nI 1) ∧ ¬ (nI 30) < b)) ∨ (¬ (¬ c < (nI 1) ∧ ¬ (nI 4) < c)))) → Qp (.inl (some (.int (-nI 1)))) M)
  (l2 : ((¬ a < (nI 0) ∧ ¬ ((eg_gi M 7 4) - (nI 1)) < a) ∧ ((¬ b < (nI 1) ∧ ¬ (nI 30) < b) ∧ ((¬ c < (nI 1) ∧ ¬ (nI 4) < c)))) → ∀ (v_1 : Int32) (M2_1 : eg_M), (((eg_gi M 72 0).toNatClampNeg = 6 ∧ v_1 = -nI 1 ∧ M2_1 = M) ∨ ((eg_gi M 72 0).toNatClampNeg < 6 ∧ (∃ i, i < c.toNatClampNeg ∧ nI 3599 < dy d i ∧ v_1 = -nI 1 ∧ M2_1 = k_pd M (eg_gi M 72 0).toNatClampNeg i d)) ∨ ((eg_gi M 72 0).toNatClampNeg < 6 ∧ (∀ i, i < c.toNatClampNeg → ¬ nI 3599 < dy d i) ∧ v_1 = eg_gi M 72 0 ∧ M2_1 = k_pl M (eg_gi M 72 0).toNatClampNeg c.toNatClampNeg (((nI 1) <<< ((eg_gi M 8 a.toNatClampNeg) &&& 31)) ||| ((nI 1) <<< ((eg_gi M 9 a.toNatClampNeg) &&& 31))) b d)) → eg_T wd k_X11_plan Qp 64 1 6 [some (.ref 0), some (.int a), some (.int b), some (.int c), some (.long d), none, some (.int (((nI 1) <<< ((eg_gi M 8 a.toNatClampNeg) &&& 31)) ||| ((nI 1) <<< ((eg_gi M 9 a.toNatClampNeg) &&& 31))))] [.int v_1] M2_1) :
  eg_T wd k_X11_plan Qp 0 0 0 [some (.ref 0), some (.int a), some (.int b), some (.int c), some (.long d), none, none] [] M := by
  refine eg_T_run mk_X11_plan (cut := [64]) 42 ?_
  refine And.intro (show (True) from ?_) ?_
  · exact trivial
  refine And.intro (fun (c1 : (b2i (decide (¬ a < (nI 0) ∧ ¬ ((eg_gi M 7 4) - (nI 1)) < a))) = 0) => ?_) (fun (c1 : ¬ (b2i (decide (¬ a < (nI 0) ∧ ¬ ((eg_gi M 7 4) - (nI 1)) < a))) = 0) => ?_)
  · replace c1 := b2i_d0.mp c1
    show Qp (.inr "java/util/NoSuchElementException") M
    exact l0 c1
  · replace c1 := b2i_dn.mp c1
    refine And.intro (show (True) from ?_) ?_
    · exact trivial
    refine And.intro (fun (c2 : (b2i (decide (¬ b < (nI 1) ∧ ¬ (nI 30) < b))) = 0) => ?_) (fun (c2 : ¬ (b2i (decide (¬ b < (nI 1) ∧ ¬ (nI 30) < b))) = 0) => ?_)
    · replace c2 := b2i_d0.mp c2
      refine And.intro (fun z => absurd z (by decide)) ?_
      show Qp (.inl (some (.int (-nI 1)))) M
      exact l1 ⟨(Classical.byContradiction c1), (Or.inl c2)⟩
    · replace c2 := b2i_dn.mp c2
      refine And.intro (show (True) from ?_) ?_
      · exact trivial
      refine And.intro (fun (c3 : (b2i (decide (¬ c < (nI 1) ∧ ¬ (nI 4) < c))) = 0) => ?_) (fun (c3 : ¬ (b2i (decide (¬ c < (nI 1) ∧ ¬ (nI 4) < c))) = 0) => ?_)
      · replace c3 := b2i_d0.mp c3
        refine And.intro (fun z => absurd z (by decide)) ?_
        show Qp (.inl (some (.int (-nI 1)))) M
        exact l1 ⟨(Classical.byContradiction c1), (Or.inr c3)⟩
      · replace c3 := b2i_dn.mp c3
        refine And.intro (show vp_in a 24 from ?_) ?_
        · exact g0 c1 c2 c3
        refine And.intro (show vp_in a 24 from ?_) ?_
        · exact g0 c1 c2 c3
        refine And.intro (show (eg_cn (eg_gi M 72 0) 6 ∧ eg_cn c 4) from ?_) ?_
        · exact g1 c1 c2 c3
        intro v_1 M2_1 ha_1
        show eg_T wd k_X11_plan Qp 64 1 6 [some (.ref 0), some (.int a), some (.int b), some (.int c), some (.long d), none, some (.int (((nI 1) <<< ((eg_gi M 8 a.toNatClampNeg) &&& 31)) ||| ((nI 1) <<< ((eg_gi M 9 a.toNatClampNeg) &&& 31))))] [.int v_1] M2_1
        exact l2 ⟨(Classical.byContradiction c1), ⟨(Classical.byContradiction c2), (Classical.byContradiction c3)⟩⟩ v_1 M2_1 ha_1

set_option maxRecDepth 100000 in
theorem st_X11_plan_64 {Qp : eg_P} {M : eg_M} (o0 : Option Value) (o1 : Option Value) (o2 : Option Value) (o3 : Option Value) (o4 : Option Value) (o5 : Option Value) (o6 : Option Value) (s0 : Int32)
  (l0 : Qp (.inl (some (.int s0))) M) :
  eg_T wd k_X11_plan Qp 64 1 6 [o0, o1, o2, o3, o4, o5, o6] [.int s0] M := by
  refine eg_T_run mk_X11_plan (cut := [64]) 42 ?_
  refine And.intro (fun z => absurd z (by decide)) ?_
  show Qp (.inl (some (.int s0))) M
  exact l0

def s_X11_plan : eg_S := fun argv M Qp => match argv with
  | [.ref 0, .int a, .int b, .int c, .long d] => (eg_cn (eg_gi M 7 4) 24 ∧ eg_cn (eg_gi M 72 0) 6) ∧ ∀ (oo : Option Value ⊕ String) (M2 : eg_M), ((¬ (¬ a < nI 0 ∧ ¬ (eg_gi M 7 4 - nI 1) < a) ∧ oo = .inr "java/util/NoSuchElementException" ∧ M2 = M) ∨ ((¬ a < nI 0 ∧ ¬ (eg_gi M 7 4 - nI 1) < a) ∧ ¬ ((¬ b < nI 1 ∧ ¬ nI 30 < b) ∧ (¬ c < nI 1 ∧ ¬ nI 4 < c)) ∧ oo = .inl (some (.int (-nI 1))) ∧ M2 = M) ∨ ((¬ a < nI 0 ∧ ¬ (eg_gi M 7 4 - nI 1) < a) ∧ ((¬ b < nI 1 ∧ ¬ nI 30 < b) ∧ (¬ c < nI 1 ∧ ¬ nI 4 < c)) ∧ (((eg_gi M 72 0).toNatClampNeg = 6 ∧ oo = .inl (some (.int (-nI 1))) ∧ M2 = M) ∨ ((eg_gi M 72 0).toNatClampNeg < 6 ∧ (∃ i, i < c.toNatClampNeg ∧ nI 3599 < dy d i ∧ oo = .inl (some (.int (-nI 1))) ∧ M2 = k_pd M (eg_gi M 72 0).toNatClampNeg i d)) ∨ ((eg_gi M 72 0).toNatClampNeg < 6 ∧ (∀ i, i < c.toNatClampNeg → ¬ nI 3599 < dy d i) ∧ oo = .inl (some (.int (eg_gi M 72 0))) ∧ M2 = k_pl M (eg_gi M 72 0).toNatClampNeg c.toNatClampNeg (((nI 1) <<< ((eg_gi M 8 a.toNatClampNeg) &&& 31)) ||| ((nI 1) <<< ((eg_gi M 9 a.toNatClampNeg) &&& 31))) b d)))) → Qp oo M2
  | _ => False
theorem mo_X11_plan : eg_mono s_X11_plan := by
  intro argv M Q Q' h
  unfold s_X11_plan
  split
  · exact fun z => ⟨z.1, fun oo M2 y => h _ _ (z.2 oo M2 y)⟩
  · exact id
theorem sz_X11_plan : ∀ argv M Qp, s_X11_plan argv M Qp → (eg_ls0 argv).length ≤ 7 := by
  intro argv M Qp h
  unfold s_X11_plan at h
  split at h
  · exact Nat.le_of_ble_eq_true rfl
  · exact h.elim
theorem sr_X11_plan : ∀ argv M Qp, s_X11_plan argv M Qp → ∃ p0 As, argv = .ref p0 :: As ∧ eg_isO wd M p0 11 = true := by
  intro argv M Qp h
  unfold s_X11_plan at h
  split at h
  · exact ⟨_, _, rfl, rfl⟩
  · exact h.elim
set_option maxRecDepth 100000 in
set_option maxHeartbeats 1000000 in
theorem T_X11_plan {argv : List Value} {M : eg_M} {Qp : eg_P} (h : s_X11_plan argv M Qp) : eg_T wd k_X11_plan Qp 0 0 0 (eg_lsN 7 argv) [] M := by
  unfold s_X11_plan at h
  split at h
  · rename_i a b c d
    obtain ⟨hp, hq⟩ := h
    refine st_X11_plan_0 a b c d (fun z1 _ _ => ?_) (fun _ _ z3 => ?_) (fun z => hq _ _ (Or.inl ⟨z, rfl, rfl⟩)) (fun z => hq _ _ (Or.inr (Or.inl ⟨z.1, fun y => z.2.elim (fun w => w y.1) (fun w => w y.2), rfl, rfl⟩))) (fun z v M2 h => ?_)
    · have z1 := Classical.not_not.mp z1
      obtain ⟨n, hn, _, rfl⟩ := k_idx (by decide) hp.1 z1.1 z1.2
      exact (n_in (by omega) (by decide)).mpr hn
    · have z3 := Classical.not_not.mp z3
      obtain ⟨j, hj, e2⟩ := nI_of2 (M := nI 4) (n := 4) (by decide) (fun y => z3.1 (Int32.lt_trans y (by decide))) (Int32.not_lt.mp z3.2)
      exact ⟨hp.2, j, hj, e2⟩
    · refine st_X11_plan_64 _ _ _ _ _ _ _ _ (hq _ _ (Or.inr (Or.inr ⟨z.1, ⟨z.2.1, z.2.2⟩, ?_⟩)))
      rcases h with ⟨h1, rfl, rfl⟩ | ⟨h1, i, h2, h3, rfl, rfl⟩ | ⟨h1, h2, rfl, rfl⟩
      · exact Or.inl ⟨h1, rfl, rfl⟩
      · exact Or.inr (Or.inl ⟨h1, i, h2, h3, rfl, rfl⟩)
      · exact Or.inr (Or.inr ⟨h1, h2, rfl, rfl⟩)
    
  · exact h.elim
theorem de_X11_plan : ∀ q ∈ k_X11_plan.1, decode cX11_plan q.1 = .ok q.2 := by decide +kernel
theorem me_X11_plan (g : gl_T) : MT g yX11_plan cX11_plan 7 (some .int) ⟨7, 1, 6, 113⟩ 1 6 s_X11_plan := by
  intro hl
  exact eg_met_of (k := k_X11_plan) (by decide) rfl ⟨Nat.le_refl _, Nat.le_refl _⟩ rfl sz_X11_plan de_X11_plan (fun meth hn => (fc (eg_FL_of wd_c11 (by decide) lf_RX11_25 (fun h => absurd h (by decide))) (fc (eg_FL_of wd_c11 (by decide) lf_RX11_46 (fun h => absurd h (by decide))) (fc (eg_FL_of wd_c0 (by decide) lf_RX11_237 (fun h => absurd h (by decide))) (fc (eg_FL_of wd_c0 (by decide) lf_RX11_240 (fun h => absurd h (by decide))) (fn)))))) (fun A s H hE => (fn)) (fun p e s m args below meth c Q A ad0 N0 S0 hK hEx hA => (fc (mt_S hl S0 hK hEx hA (me_X11_within g) lm_RX11_61 ls_X11_within ln_RX11 lc_X11_within ⟨rfl, by decide, by decide, by decide +kernel⟩ ⟨rfl, rfl⟩ ⟨by decide, by decide⟩ (by decide)) (fc (mt_V hl S0 hK hEx hA (me_X11_needCharter g) lm_RX11_94 li_X11_needCharter lx_X11_needCharter ln_RX11 lc_X11_needCharter ⟨rfl, by decide, by decide, by decide +kernel⟩ ⟨rfl, rfl⟩ ⟨by decide, by decide⟩ (ci := 11) rfl rfl eg_auto_rec (by decide)) (fc (mt_V hl S0 hK hEx hA (me_X6_add g) lm_RX11_243 li_X6_add lx_X6_add ln_RX6 lc_X6_add ⟨rfl, by decide, by decide, by decide +kernel⟩ ⟨rfl, rfl⟩ ⟨by decide, by decide⟩ (ci := 6) rfl rfl sr_X6_add (by decide)) (fn))))) (fun p e s m args below meth c Qc XC A ad0 N0 P S0 hK hEx hA hlk hout hPX => (fn)) (fun argv M Qp h => T_X11_plan h)

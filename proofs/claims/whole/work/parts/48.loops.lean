/-- shifts without a sign, cut to low bits, are shifts with one -/
theorem us_sh (x : Int32) {s w : Nat} (hs : s < 32) (hw : s + w ≤ 32) {k : Int32} (hk : ∀ j, j < 32 → k.toBitVec.getLsbD j = true → j < w) : (x.toUInt32 >>> ((nI s).toUInt32 &&& Int32.toUInt32 31)).toInt32 &&& k = (x >>> (nI s &&& 31)) &&& k := by
  have h1 : ∀ s, s < 32 → ((nI s &&& 31).toBitVec.smod 32).toNat = s := by decide
  have h2 : ∀ s, s < 32 → (((nI s).toUInt32 &&& Int32.toUInt32 31).toBitVec % 32).toNat = s := by decide
  apply Int32.toBitVec_inj.mp
  apply BitVec.eq_of_getLsbD_eq
  intro j hj
  simp only [Int32.toBitVec_and, BitVec.getLsbD_and]
  cases hb : k.toBitVec.getLsbD j with
  | false => rw [Bool.and_false, Bool.and_false]
  | true =>
    have hjw := hk j hj hb
    rw [Bool.and_true, Bool.and_true, Int32.toBitVec_shiftRight]
    have e1 : (x.toUInt32 >>> ((nI s).toUInt32 &&& Int32.toUInt32 31)).toInt32.toBitVec = x.toBitVec >>> (((nI s).toUInt32 &&& Int32.toUInt32 31).toBitVec % 32).toNat := rfl
    rw [e1, h2 s hs, BitVec.getLsbD_ushiftRight]
    have e2 : ∀ y : BitVec 32, BitVec.sshiftRight' x.toBitVec y = x.toBitVec.sshiftRight y.toNat := fun _ => rfl
    rw [e2, h1 s hs, BitVec.getLsbD_sshiftRight]
    have hl : s + j < 32 := by omega
    simp [hl, show ¬ 32 ≤ j by omega]
theorem us4 (x : Int32) {i : Nat} (h : i < 8) : ((x.toUInt32 >>> ((nI 4 * nI i).toUInt32 &&& Int32.toUInt32 31)).toInt32) &&& nI 15 = w4 x i := by
  rw [n_m]
  exact us_sh x (w := 4) (by omega) (by omega) (by decide)
theorem w4_v (x : Int32) (i : Nat) : ∃ v, v < 16 ∧ w4 x i = nI v := by
  unfold w4
  generalize x >>> (nI (4 * i) &&& 31) = z
  refine ⟨(z &&& nI 15).toBitVec.toNat, ?_, ?_⟩
  · rw [Int32.toBitVec_and, BitVec.toNat_and]
    exact Nat.lt_of_le_of_lt Nat.and_le_right (by decide)
  · apply Int32.toBitVec_inj.mp
    have : (z &&& nI 15).toBitVec.toNat < 2 ^ 32 := BitVec.isLt _
    apply BitVec.eq_of_toNat_eq
    have e : ∀ n, (nI n).toBitVec = BitVec.ofNat 32 n := fun _ => rfl
    rw [e, BitVec.toNat_ofNat, Nat.mod_eq_of_lt this]
/-- the class: the first m wishes are towns, not t itself, none twice -/
def k_wo (M : eg_M) (t row : Int32) (i : Nat) : Prop := ¬ eg_gi M 2 4 ≤ w4 row i ∧ ¬ w4 row i = t ∧ ∀ j, j < i → ¬ w4 row j = w4 row i
def k_wk (M : eg_M) (t row : Int32) (m : Nat) : Prop := ∀ i, i < m → k_wo M t row i
def k_X11_isWish : eg_C := ([(0, .iconst 1, 1), (1, .iload_n 1, 1), (2, .ishl, 1), (3, .istore 4, 2), (5, .iconst 0, 1), (6, .istore 5, 2), (8, .iload 5, 2), (10, .iload_n 2, 1), (11, .if_icmp .ge 53, 3), (14, .iload_n 3, 1), (15, .iconst 4, 1), (16, .iload 5, 2), (18, .imul, 1), (19, .iushr, 1), (20, .bipush 15, 2), (22, .iand, 1), (23, .istore 6, 2), (25, .iload 6, 2), (27, .aload_n 0, 1), (28, .getfield 20, 3), (31, .getfield 280, 3), (34, .if_icmp .ge 13, 3), (37, .iload 4, 2), (39, .iconst 1, 1), (40, .iload 6, 2), (42, .ishl, 1), (43, .iand, 1), (44, .ifCond .eq 5, 3), (47, .iconst 0, 1), (48, .ireturn, 1), (49, .iload 4, 2), (51, .iconst 1, 1), (52, .iload 6, 2), (54, .ishl, 1), (55, .ior, 1), (56, .istore 4, 2), (58, .iinc 5 1, 3), (61, .goto (-53), 3), (64, .iconst 1, 1), (65, .ireturn, 1)], [(20, 11, 1, false), (280, 9, 4, false)], [], [], [], 2, 0, 0)
theorem mk_X11_isWish : ∀ q ∈ k_X11_isWish.2.2.2.1, eg_mono q.2.2.2.2 := (fn)
set_option maxRecDepth 100000 in
theorem st_X11_isWish_0 {Qp : eg_P} {M : eg_M} (t : Int32) (b : Int32) (row : Int32)
  (l0 : eg_T wd k_X11_isWish Qp 8 0 0 [some (.ref 0), some (.int t), some (.int b), some (.int row), some (.int ((nI 1) <<< (t &&& 31))), some (.int (nI 0)), none] [] M) :
  eg_T wd k_X11_isWish Qp 0 0 0 [some (.ref 0), some (.int t), some (.int b), some (.int row), none, none, none] [] M := by
  refine eg_T_run mk_X11_isWish (cut := [8]) 43 ?_
  show eg_T wd k_X11_isWish Qp 8 0 0 [some (.ref 0), some (.int t), some (.int b), some (.int row), some (.int ((nI 1) <<< (t &&& 31))), some (.int (nI 0)), none] [] M
  exact l0

set_option maxRecDepth 100000 in
theorem st_X11_isWish_8 {Qp : eg_P} {M : eg_M} (o1 : Option Value) (b : Int32) (row : Int32) (x4 : Int32) (x5 : Int32) (o6 : Option Value)
  (l0 : (b ≤ x5) → Qp (.inl (some (.int (nI 1)))) M)
  (l1 : (¬ b ≤ x5 ∧ ((eg_gi M 2 4) ≤ (((row.toUInt32 >>> (((nI 4) * x5).toUInt32 &&& Int32.toUInt32 31)).toInt32) &&& (nI 15)) ∨ ¬ (x4 &&& ((nI 1) <<< ((((row.toUInt32 >>> (((nI 4) * x5).toUInt32 &&& Int32.toUInt32 31)).toInt32) &&& (nI 15)) &&& 31))) = 0)) → Qp (.inl (some (.int (nI 0)))) M)
  (l2 : (¬ b ≤ x5 ∧ (¬ (eg_gi M 2 4) ≤ (((row.toUInt32 >>> (((nI 4) * x5).toUInt32 &&& Int32.toUInt32 31)).toInt32) &&& (nI 15)) ∧ (x4 &&& ((nI 1) <<< ((((row.toUInt32 >>> (((nI 4) * x5).toUInt32 &&& Int32.toUInt32 31)).toInt32) &&& (nI 15)) &&& 31))) = 0)) → eg_T wd k_X11_isWish Qp 8 0 0 [some (.ref 0), o1, some (.int b), some (.int row), some (.int (x4 ||| ((nI 1) <<< ((((row.toUInt32 >>> (((nI 4) * x5).toUInt32 &&& Int32.toUInt32 31)).toInt32) &&& (nI 15)) &&& 31)))), some (.int (x5 + (nI 1))), some (.int (((row.toUInt32 >>> (((nI 4) * x5).toUInt32 &&& Int32.toUInt32 31)).toInt32) &&& (nI 15)))] [] M) :
  eg_T wd k_X11_isWish Qp 8 0 0 [some (.ref 0), o1, some (.int b), some (.int row), some (.int x4), some (.int x5), o6] [] M := by
  refine eg_T_run mk_X11_isWish (cut := [8]) 43 ?_
  refine And.intro (fun (c1 : b ≤ x5) => ?_) (fun (c1 : ¬ b ≤ x5) => ?_)
  · skip
    refine And.intro (fun _ => (show (nI 1) = 0 ∨ (nI 1) = 1 from ?_)) ?_
    · exact Or.inr rfl
    show Qp (.inl (some (.int (nI 1)))) M
    exact l0 c1
  · skip
    refine And.intro (fun (c2 : (eg_gi M 2 4) ≤ (((row.toUInt32 >>> (((nI 4) * x5).toUInt32 &&& Int32.toUInt32 31)).toInt32) &&& (nI 15))) => ?_) (fun (c2 : ¬ (eg_gi M 2 4) ≤ (((row.toUInt32 >>> (((nI 4) * x5).toUInt32 &&& Int32.toUInt32 31)).toInt32) &&& (nI 15))) => ?_)
    · skip
      refine And.intro (fun _ => (show (nI 0) = 0 ∨ (nI 0) = 1 from ?_)) ?_
      · exact Or.inl rfl
      show Qp (.inl (some (.int (nI 0)))) M
      exact l1 ⟨c1, (Or.inl c2)⟩
    · skip
      refine And.intro (fun (c3 : (x4 &&& ((nI 1) <<< ((((row.toUInt32 >>> (((nI 4) * x5).toUInt32 &&& Int32.toUInt32 31)).toInt32) &&& (nI 15)) &&& 31))) = 0) => ?_) (fun (c3 : ¬ (x4 &&& ((nI 1) <<< ((((row.toUInt32 >>> (((nI 4) * x5).toUInt32 &&& Int32.toUInt32 31)).toInt32) &&& (nI 15)) &&& 31))) = 0) => ?_)
      · skip
        show eg_T wd k_X11_isWish Qp 8 0 0 [some (.ref 0), o1, some (.int b), some (.int row), some (.int (x4 ||| ((nI 1) <<< ((((row.toUInt32 >>> (((nI 4) * x5).toUInt32 &&& Int32.toUInt32 31)).toInt32) &&& (nI 15)) &&& 31)))), some (.int (x5 + (nI 1))), some (.int (((row.toUInt32 >>> (((nI 4) * x5).toUInt32 &&& Int32.toUInt32 31)).toInt32) &&& (nI 15)))] [] M
        exact l2 ⟨c1, ⟨c2, c3⟩⟩
      · skip
        refine And.intro (fun _ => (show (nI 0) = 0 ∨ (nI 0) = 1 from ?_)) ?_
        · exact Or.inl rfl
        show Qp (.inl (some (.int (nI 0)))) M
        exact l1 ⟨c1, (Or.inr c3)⟩

def s_X11_isWish : eg_S := fun argv M Qp => match argv with
  | [.ref 0, .int t, .int b, .int row] => ((∃ k, k < 16 ∧ t = nI k) ∧ eg_cn b 6) ∧ ∀ (r : Bool), (r = true ↔ k_wk M t row b.toNatClampNeg) → Qp (.inl (some (.int (b2i r)))) M
  | _ => False
theorem mo_X11_isWish : eg_mono s_X11_isWish := by
  intro argv M Q Q' h
  unfold s_X11_isWish
  split
  · exact fun z => ⟨z.1, fun r y => h _ _ (z.2 r y)⟩
  · exact id
theorem sz_X11_isWish : ∀ argv M Qp, s_X11_isWish argv M Qp → (eg_ls0 argv).length ≤ 7 := by
  intro argv M Qp h
  unfold s_X11_isWish at h
  split at h
  · exact Nat.le_of_ble_eq_true rfl
  · exact h.elim
theorem sr_X11_isWish : ∀ argv M Qp, s_X11_isWish argv M Qp → ∃ p0 As, argv = .ref p0 :: As ∧ eg_isO wd M p0 11 = true := by
  intro argv M Qp h
  unfold s_X11_isWish at h
  split at h
  · exact ⟨_, _, rfl, rfl⟩
  · exact h.elim
set_option maxRecDepth 100000 in
set_option maxHeartbeats 1000000 in
theorem T_X11_isWish {argv : List Value} {M : eg_M} {Qp : eg_P} (h : s_X11_isWish argv M Qp) : eg_T wd k_X11_isWish Qp 0 0 0 (eg_lsN 7 argv) [] M := by
  unfold s_X11_isWish at h
  split at h
  · rename_i t b row
    obtain ⟨hp, hq⟩ := h
    obtain ⟨⟨k, hk, rfl⟩, m, hm, rfl⟩ := hp
    rw [n_c (by omega)] at hq
    have lp : ∀ i (x : Int32 × Option Value), i ≤ m → ((∀ v, v < 16 → ((x.1 &&& (nI 1 <<< (nI v &&& 31)) = 0) ↔ (¬ v = k ∧ ∀ j, j < i → ¬ w4 row j = nI v))) ∧ ∀ j, j < i → k_wo M (nI k) row j) → eg_T wd k_X11_isWish Qp 8 0 0 [some (.ref 0), some (.int (nI k)), some (.int (nI m)), some (.int row), some (.int x.1), some (.int (nI i)), x.2] [] M := by
      refine eg_for ?_
      intro i ⟨x, o⟩ hi ⟨hx, hI⟩ kk
      have hx : ∀ v, v < 16 → ((x &&& (nI 1 <<< (nI v &&& 31)) = 0) ↔ (¬ v = k ∧ ∀ j, j < i → ¬ w4 row j = nI v)) := hx
      have st := st_X11_isWish_8 (Qp := Qp) (M := M) (some (.int (nI k))) (nI m) row x (nI i) o
      rw [us4 row (by omega), n_le (by omega) (by omega), Nat.not_le, n_s] at st
      obtain ⟨v, hv, ev⟩ := w4_v row i
      have hw : k_wo M (nI k) row i ↔ (¬ eg_gi M 2 4 ≤ w4 row i ∧ x &&& (nI 1 <<< (w4 row i &&& 31)) = 0) := by
        unfold k_wo
        rw [ev, hx v hv]
        refine and_congr Iff.rfl (and_congr ?_ Iff.rfl)
        rw [n_eq (by omega) (by omega)]
      refine st (fun z => ?_) (fun z => ?_) (fun z => ?_)
      · have : i = m := by omega
        subst this
        exact hq true ⟨fun _ => hI, fun _ => rfl⟩
      · refine hq false ⟨fun w => Bool.noConfusion w, fun w => ?_⟩
        have w2 := hw.mp (w i z.1)
        rcases z.2 with y | y
        · exact absurd y w2.1
        · exact absurd w2.2 y
      · refine kk (_, _) z.1 ⟨fun u hu => ?_, fun j hj => ?_⟩
        · show (x ||| (nI 1 <<< (w4 row i &&& 31))) &&& _ = 0 ↔ _
          rw [ev, or_sh x hv hu, hx u hu]
          constructor
          · rintro ⟨h1, h2, h3⟩
            refine ⟨h2, fun j hj => ?_⟩
            by_cases y : j = i
            · subst y
              rw [ev, n_eq (by omega) (by omega)]
              exact fun e => h1 e.symm
            · exact h3 j (by omega)
          · rintro ⟨h1, h2⟩
            refine ⟨fun e => h2 i (by omega) (by rw [ev, e]), h1, fun j hj => h2 j (by omega)⟩
        · by_cases y : j = i
          · subst y
            exact hw.mpr z.2
          · exact hI j (by omega)
    refine st_X11_isWish_0 _ _ _ (lp 0 (_, none) (Nat.zero_le _) ⟨fun v hv => ?_, fun j hj => absurd hj (Nat.not_lt_zero _)⟩)
    have : ∀ k, k < 16 → ∀ v, v < 16 → (((nI 1 <<< (nI k &&& 31)) &&& (nI 1 <<< (nI v &&& 31)) = 0) ↔ ¬ v = k) := by decide
    refine (this k hk v hv).trans ⟨fun z => ⟨z, fun j hj => absurd hj (Nat.not_lt_zero _)⟩, fun z => z.1⟩
  · exact h.elim
theorem de_X11_isWish : ∀ q ∈ k_X11_isWish.1, decode cX11_isWish q.1 = .ok q.2 := by decide +kernel
theorem me_X11_isWish (g : gl_T) : MT g yX11_isWish cX11_isWish 7 (some .boolean) ⟨0, 0, 0, 0⟩ 0 0 s_X11_isWish := by
  intro hl
  exact eg_met_of (k := k_X11_isWish) (by decide) rfl ⟨Nat.le_refl _, Nat.le_refl _⟩ rfl sz_X11_isWish de_X11_isWish (fun meth hn => (fc (eg_FL_of wd_c11 (by decide) lf_RX11_20 (fun h => absurd h (by decide))) (fc (eg_FL_of wd_c9 (by decide) lf_RX11_280 (fun h => absurd h (by decide))) (fn)))) (fun A s H hE => (fn)) (fun p e s m args below meth c Q A ad0 N0 S0 hK hEx hA => (fn)) (fun p e s m args below meth c Qc XC A ad0 N0 P S0 hK hEx hA hlk hout hPX => (fn)) (fun argv M Qp h => T_X11_isWish h)

/-- the k-th byte of a word -/
def b8 (a : Int32) (k : Nat) : Int32 := (a >>> (nI (24 - 8 * k) &&& 31)) &&& nI 255
theorem us8 (x : Int32) {s : Nat} (h : s ≤ 24) : ((x.toUInt32 >>> ((nI s).toUInt32 &&& Int32.toUInt32 31)).toInt32) &&& nI 255 = (x >>> (nI s &&& 31)) &&& nI 255 := us_sh x (w := 8) (by omega) (by omega) (by decide)
/-- the class's tape with k of the word's bytes behind the t that it holds -/
def k_pm (M : eg_M) (a : Int32) (t k : Nat) : eg_M := eg_ri (eg_si M 23 0 (nI (t + k))) 26 (fun j => if t ≤ j ∧ j < t + k then b8 a (j - t) else eg_gi M 26 j)
theorem k_pm_s {M : eg_M} {a v : Int32} {t k : Nat} (hv : v = b8 a k) : eg_si (eg_si (k_pm M a t k) 23 0 (nI (t + k + 1))) 26 (t + k) v = k_pm M a t (k + 1) := by
  unfold k_pm
  rw [si_ri_n (by decide), si_si, si_ri]
  congr 1
  funext j
  by_cases h : j = t + k
  · subst h
    rw [if_pos rfl, if_pos (by omega), hv, show t + k - t = k by omega]
  · rw [if_neg h]
    by_cases h2 : t ≤ j ∧ j < t + k
    · rw [if_pos h2, if_pos (by omega)]
    · rw [if_neg h2, if_neg (by omega)]
theorem k_pm_0 {M : eg_M} {a : Int32} {t : Nat} (h : eg_gi M 23 0 = nI t) : k_pm M a t 0 = M := by
  unfold k_pm
  rw [show t + 0 = t from rfl, ← h, si_id]
  refine ri_id' ?_
  funext j
  rw [if_neg (by omega)]
def k_X10_put : eg_C := ([(0, .bipush 24, 2), (2, .istore_n 2, 1), (3, .iload_n 2, 1), (4, .ifCond .lt 45, 3), (7, .aload_n 0, 1), (8, .getfield 9, 3), (11, .sipush 400, 3), (14, .if_icmp .ge 35, 3), (17, .aload_n 0, 1), (18, .getfield 30, 3), (21, .getfield 42, 3), (24, .aload_n 0, 1), (25, .dup, 1), (26, .getfield 9, 3), (29, .dup_x1, 1), (30, .iconst 1, 1), (31, .iadd, 1), (32, .putfield 9, 3), (35, .iload_n 1, 1), (36, .iload_n 2, 1), (37, .iushr, 1), (38, .sipush 255, 3), (41, .iand, 1), (42, .iastore, 1), (43, .iinc 2 (-8), 3), (46, .goto (-43), 3), (49, .return_, 1)], [(9, 10, 0, true), (30, 10, 4, false), (42, 7, 0, false)], [], [], [], 0, 0, 0)
theorem mk_X10_put : ∀ q ∈ k_X10_put.2.2.2.1, eg_mono q.2.2.2.2 := (fn)
set_option maxRecDepth 100000 in
theorem st_X10_put_0 {Qp : eg_P} {M : eg_M} (a : Int32)
  (l0 : eg_T wd k_X10_put Qp 3 0 0 [some (.ref 23), some (.int a), some (.int (nI 24))] [] M) :
  eg_T wd k_X10_put Qp 0 0 0 [some (.ref 23), some (.int a), none] [] M := by
  refine eg_T_run mk_X10_put (cut := [3]) 30 ?_
  show eg_T wd k_X10_put Qp 3 0 0 [some (.ref 23), some (.int a), some (.int (nI 24))] [] M
  exact l0

set_option maxRecDepth 100000 in
theorem st_X10_put_3 {Qp : eg_P} {M : eg_M} (a : Int32) (x2 : Int32)
  (g0 : (¬ (x2 < 0)) → (¬ ((nI 400) ≤ (eg_gi M 23 0))) → (vp_in (eg_gi M 23 0) 400))
  (l0 : (x2 < 0 ∨ (nI 400) ≤ (eg_gi M 23 0)) → Qp (.inl none) M)
  (l1 : (¬ x2 < 0 ∧ ¬ (nI 400) ≤ (eg_gi M 23 0)) → eg_T wd k_X10_put Qp 3 0 0 [some (.ref 23), some (.int a), some (.int (x2 + (-nI 8)))] [] (eg_si (eg_si M 23 0 ((eg_gi M 23 0) + (nI 1))) 26 (eg_gi M 23 0).toNatClampNeg (((a.toUInt32 >>> (x2.toUInt32 &&& Int32.toUInt32 31)).toInt32) &&& (nI 255)))) :
  eg_T wd k_X10_put Qp 3 0 0 [some (.ref 23), some (.int a), some (.int x2)] [] M := by
  refine eg_T_run mk_X10_put (cut := [3]) 30 ?_
  refine And.intro (fun (c1 : x2 < 0) => ?_) (fun (c1 : ¬ x2 < 0) => ?_)
  · skip
    show Qp (.inl none) M
    exact l0 (Or.inl c1)
  · skip
    refine And.intro (fun (c2 : (nI 400) ≤ (eg_gi M 23 0)) => ?_) (fun (c2 : ¬ (nI 400) ≤ (eg_gi M 23 0)) => ?_)
    · skip
      show Qp (.inl none) M
      exact l0 (Or.inr c2)
    · skip
      refine And.intro (show vp_in (eg_gi M 23 0) 400 from ?_) ?_
      · exact g0 c1 c2
      show eg_T wd k_X10_put Qp 3 0 0 [some (.ref 23), some (.int a), some (.int (x2 + (-nI 8)))] [] (eg_si (eg_si M 23 0 ((eg_gi M 23 0) + (nI 1))) 26 (eg_gi M 23 0).toNatClampNeg (((a.toUInt32 >>> (x2.toUInt32 &&& Int32.toUInt32 31)).toInt32) &&& (nI 255)))
      exact l1 ⟨c1, c2⟩

def s_X10_put : eg_S := fun argv M Qp => match argv with
  | [.ref 23, .int a] => (∃ t, t + 4 ≤ 400 ∧ eg_gi M 23 0 = nI t) ∧ Qp (.inl none) (k_pm M a (eg_gi M 23 0).toNatClampNeg 4)
  | _ => False
theorem mo_X10_put : eg_mono s_X10_put := by
  intro argv M Q Q' h
  unfold s_X10_put
  split
  · exact fun z => ⟨z.1, h _ _ z.2⟩
  · exact id
theorem sz_X10_put : ∀ argv M Qp, s_X10_put argv M Qp → (eg_ls0 argv).length ≤ 3 := by
  intro argv M Qp h
  unfold s_X10_put at h
  split at h
  · exact Nat.le_of_ble_eq_true rfl
  · exact h.elim
theorem sr_X10_put : ∀ argv M Qp, s_X10_put argv M Qp → ∃ p0 As, argv = .ref p0 :: As ∧ eg_isO wd M p0 10 = true := by
  intro argv M Qp h
  unfold s_X10_put at h
  split at h
  · exact ⟨_, _, rfl, rfl⟩
  · exact h.elim
set_option maxRecDepth 100000 in
set_option maxHeartbeats 1000000 in
theorem T_X10_put {argv : List Value} {M : eg_M} {Qp : eg_P} (h : s_X10_put argv M Qp) : eg_T wd k_X10_put Qp 0 0 0 (eg_lsN 3 argv) [] M := by
  unfold s_X10_put at h
  split at h
  · rename_i a
    obtain ⟨hp, hq⟩ := h
    obtain ⟨t, ht, hN⟩ := hp
    rw [hN, n_c (by omega)] at hq
    have one : ∀ k, k < 4 → eg_T wd k_X10_put Qp 3 0 0 [some (.ref 23), some (.int a), some (.int (nI (24 - 8 * k) + -nI 8))] [] (k_pm M a t (k + 1)) → eg_T wd k_X10_put Qp 3 0 0 [some (.ref 23), some (.int a), some (.int (nI (24 - 8 * k)))] [] (k_pm M a t k) := by
      intro k hk kk
      have st := st_X10_put_3 (Qp := Qp) (M := k_pm M a t k) a (nI (24 - 8 * k))
      have r0 : eg_gi (k_pm M a t k) 23 0 = nI (t + k) := rfl
      have h0 : ∀ k, k < 4 → ¬ nI (24 - 8 * k) < 0 := by decide
      rw [r0, n_c (by omega), n_le (by omega) (by omega), us8 a (by omega), n_s, k_pm_s (M := M) (a := a) (t := t) (k := k) (v := a >>> (nI (24 - 8 * k) &&& 31) &&& nI 255) rfl, n_in (by omega) (by decide)] at st
      refine st (fun _ _ => by omega) (fun z => ?_) (fun _ => kk)
      rcases z with z | z
      · exact absurd z (h0 k hk)
      · omega
    refine st_X10_put_0 a ?_
    have e0 := one 0 (by omega)
    rw [k_pm_0 hN] at e0
    refine e0 (one 1 (by omega) (one 2 (by omega) (one 3 (by omega) ?_)))
    exact st_X10_put_3 a _ (fun z => absurd (by decide) z) (fun _ => hq) (fun z => absurd (by decide) z.1)
  · exact h.elim
theorem de_X10_put : ∀ q ∈ k_X10_put.1, decode cX10_put q.1 = .ok q.2 := by decide +kernel
theorem me_X10_put (g : gl_T) : MT g yX10_put cX10_put 3 none ⟨0, 0, 0, 0⟩ 0 0 s_X10_put := by
  intro hl
  exact eg_met_of (k := k_X10_put) (by decide) rfl ⟨Nat.le_refl _, Nat.le_refl _⟩ rfl sz_X10_put de_X10_put (fun meth hn => (fc (eg_FL_of wd_c10 (by decide) lf_RX10_9 (fun _ => Or.inl rfl)) (fc (eg_FL_of wd_c10 (by decide) lf_RX10_30 (fun h => absurd h (by decide))) (fc (eg_FL_of wd_c7 (by decide) lf_RX10_42 (fun h => absurd h (by decide))) (fn))))) (fun A s H hE => (fn)) (fun p e s m args below meth c Q A ad0 N0 S0 hK hEx hA => (fn)) (fun p e s m args below meth c Qc XC A ad0 N0 P S0 hK hEx hA hlk hout hPX => (fn)) (fun argv M Qp h => T_X10_put h)

/-- the class's tape with the twenty bytes -/
def k_fm (M : eg_M) (a b c d e : Int32) (t : Nat) : eg_M := eg_ri (eg_si M 23 0 (nI (t + 20))) 26 (fun j => if t ≤ j ∧ j < t + 20 then fb a b c d e (j - t) else eg_gi M 26 j)
theorem fb_b8 (a b c d e : Int32) {k : Nat} (h : k < 20) : fb a b c d e k = b8 (if k < 4 then a else if k < 8 then b else if k < 12 then c else if k < 16 then d else e) (k % 4) := by
  have h1 : ∀ k, k < 20 → nI 24 - nI 8 * (nI k - nI k / nI 4 * nI 4) = nI (24 - 8 * (k % 4)) := by decide
  unfold fb b8
  rw [h1 k h]
theorem k_pm_5 {M : eg_M} {a b c d e : Int32} {t : Nat} : k_pm (k_pm (k_pm (k_pm (k_pm M a t 4) b (t + 4) 4) c (t + 8) 4) d (t + 12) 4) e (t + 16) 4 = k_fm M a b c d e t := by
  unfold k_pm k_fm
  simp (disch := decide) only [si_ri_n, si_si, ri_ri]
  congr 1
  funext j
  simp only [ri_g, if_true]
  by_cases h : t ≤ j ∧ j < t + 20
  · rw [if_pos h, fb_b8 a b c d e (by omega)]
    by_cases h4 : j < t + 4
    · rw [if_neg (by omega), if_neg (by omega), if_neg (by omega), if_neg (by omega), if_pos (by omega), if_pos (by omega), show (j - t) % 4 = j - t by omega]
    · by_cases h8 : j < t + 8
      · rw [if_neg (by omega), if_neg (by omega), if_neg (by omega), if_pos (by omega), if_neg (by omega), if_pos (by omega), show (j - t) % 4 = j - (t + 4) by omega]
      · by_cases h12 : j < t + 12
        · rw [if_neg (by omega), if_neg (by omega), if_pos (by omega), if_neg (by omega), if_neg (by omega), if_pos (by omega), show (j - t) % 4 = j - (t + 8) by omega]
        · by_cases h16 : j < t + 16
          · rw [if_neg (by omega), if_pos (by omega), if_neg (by omega), if_neg (by omega), if_neg (by omega), if_pos (by omega), show (j - t) % 4 = j - (t + 12) by omega]
          · rw [if_pos (by omega), if_neg (by omega), if_neg (by omega), if_neg (by omega), if_neg (by omega), show (j - t) % 4 = j - (t + 16) by omega]
  · rw [if_neg h, if_neg (by omega), if_neg (by omega), if_neg (by omega), if_neg (by omega), if_neg (by omega)]
def k_X11_feed : eg_C := ([(0, .aload_n 0, 1), (1, .getfield 35, 3), (4, .invokevirtual 120, 3), (7, .ifCond .ne 5, 3), (10, .iconst (-1), 1), (11, .ireturn, 1), (12, .aload_n 0, 1), (13, .getfield 35, 3), (16, .iload_n 1, 1), (17, .invokevirtual 126, 3), (20, .aload_n 0, 1), (21, .getfield 35, 3), (24, .iload_n 2, 1), (25, .invokevirtual 126, 3), (28, .aload_n 0, 1), (29, .getfield 35, 3), (32, .iload_n 3, 1), (33, .invokevirtual 126, 3), (36, .aload_n 0, 1), (37, .getfield 35, 3), (40, .iload 4, 2), (42, .invokevirtual 126, 3), (45, .aload_n 0, 1), (46, .getfield 35, 3), (49, .iload 5, 2), (51, .invokevirtual 126, 3), (54, .aload_n 0, 1), (55, .getfield 35, 3), (58, .getfield 129, 3), (61, .ireturn, 1)], [(35, 11, 4, false), (129, 10, 0, false)], [], [(120, 0 + 1, 0, 0, s_X10_hasRoom), (126, 1 + 1, 0, 0, s_X10_put)], [], 1, 0, 0)
theorem mk_X11_feed : ∀ q ∈ k_X11_feed.2.2.2.1, eg_mono q.2.2.2.2 := (fc (mo_X10_hasRoom) (fc (mo_X10_put) (fn)))
set_option maxRecDepth 100000 in
theorem st_X11_feed_0 {Qp : eg_P} {M : eg_M} (a : Int32) (b : Int32) (c : Int32) (d : Int32) (e : Int32)
  (g0 : (¬ (¬ (¬ (nI 400) < ((eg_gi M 23 0) + (nI 20))))) → (∃ t, t + 4 ≤ 400 ∧ eg_gi M 23 0 = nI t))
  (g1 : (¬ (¬ (¬ (nI 400) < ((eg_gi M 23 0) + (nI 20))))) → (∃ t, t + 4 ≤ 400 ∧ eg_gi (k_pm M a (eg_gi M 23 0).toNatClampNeg 4) 23 0 = nI t))
  (g2 : (¬ (¬ (¬ (nI 400) < ((eg_gi M 23 0) + (nI 20))))) → (∃ t, t + 4 ≤ 400 ∧ eg_gi (k_pm (k_pm M a (eg_gi M 23 0).toNatClampNeg 4) b (eg_gi (k_pm M a (eg_gi M 23 0).toNatClampNeg 4) 23 0).toNatClampNeg 4) 23 0 = nI t))
  (g3 : (¬ (¬ (¬ (nI 400) < ((eg_gi M 23 0) + (nI 20))))) → (∃ t, t + 4 ≤ 400 ∧ eg_gi (k_pm (k_pm (k_pm M a (eg_gi M 23 0).toNatClampNeg 4) b (eg_gi (k_pm M a (eg_gi M 23 0).toNatClampNeg 4) 23 0).toNatClampNeg 4) c (eg_gi (k_pm (k_pm M a (eg_gi M 23 0).toNatClampNeg 4) b (eg_gi (k_pm M a (eg_gi M 23 0).toNatClampNeg 4) 23 0).toNatClampNeg 4) 23 0).toNatClampNeg 4) 23 0 = nI t))
  (g4 : (¬ (¬ (¬ (nI 400) < ((eg_gi M 23 0) + (nI 20))))) → (∃ t, t + 4 ≤ 400 ∧ eg_gi (k_pm (k_pm (k_pm (k_pm M a (eg_gi M 23 0).toNatClampNeg 4) b (eg_gi (k_pm M a (eg_gi M 23 0).toNatClampNeg 4) 23 0).toNatClampNeg 4) c (eg_gi (k_pm (k_pm M a (eg_gi M 23 0).toNatClampNeg 4) b (eg_gi (k_pm M a (eg_gi M 23 0).toNatClampNeg 4) 23 0).toNatClampNeg 4) 23 0).toNatClampNeg 4) d (eg_gi (k_pm (k_pm (k_pm M a (eg_gi M 23 0).toNatClampNeg 4) b (eg_gi (k_pm M a (eg_gi M 23 0).toNatClampNeg 4) 23 0).toNatClampNeg 4) c (eg_gi (k_pm (k_pm M a (eg_gi M 23 0).toNatClampNeg 4) b (eg_gi (k_pm M a (eg_gi M 23 0).toNatClampNeg 4) 23 0).toNatClampNeg 4) 23 0).toNatClampNeg 4) 23 0).toNatClampNeg 4) 23 0 = nI t))
  (l0 : (¬ (¬ (nI 400) < ((eg_gi M 23 0) + (nI 20)))) → Qp (.inl (some (.int (-nI 1)))) M)
  (l1 : (¬ (nI 400) < ((eg_gi M 23 0) + (nI 20))) → Qp (.inl (some (.int (eg_gi (k_pm (k_pm (k_pm (k_pm (k_pm M a (eg_gi M 23 0).toNatClampNeg 4) b (eg_gi (k_pm M a (eg_gi M 23 0).toNatClampNeg 4) 23 0).toNatClampNeg 4) c (eg_gi (k_pm (k_pm M a (eg_gi M 23 0).toNatClampNeg 4) b (eg_gi (k_pm M a (eg_gi M 23 0).toNatClampNeg 4) 23 0).toNatClampNeg 4) 23 0).toNatClampNeg 4) d (eg_gi (k_pm (k_pm (k_pm M a (eg_gi M 23 0).toNatClampNeg 4) b (eg_gi (k_pm M a (eg_gi M 23 0).toNatClampNeg 4) 23 0).toNatClampNeg 4) c (eg_gi (k_pm (k_pm M a (eg_gi M 23 0).toNatClampNeg 4) b (eg_gi (k_pm M a (eg_gi M 23 0).toNatClampNeg 4) 23 0).toNatClampNeg 4) 23 0).toNatClampNeg 4) 23 0).toNatClampNeg 4) e (eg_gi (k_pm (k_pm (k_pm (k_pm M a (eg_gi M 23 0).toNatClampNeg 4) b (eg_gi (k_pm M a (eg_gi M 23 0).toNatClampNeg 4) 23 0).toNatClampNeg 4) c (eg_gi (k_pm (k_pm M a (eg_gi M 23 0).toNatClampNeg 4) b (eg_gi (k_pm M a (eg_gi M 23 0).toNatClampNeg 4) 23 0).toNatClampNeg 4) 23 0).toNatClampNeg 4) d (eg_gi (k_pm (k_pm (k_pm M a (eg_gi M 23 0).toNatClampNeg 4) b (eg_gi (k_pm M a (eg_gi M 23 0).toNatClampNeg 4) 23 0).toNatClampNeg 4) c (eg_gi (k_pm (k_pm M a (eg_gi M 23 0).toNatClampNeg 4) b (eg_gi (k_pm M a (eg_gi M 23 0).toNatClampNeg 4) 23 0).toNatClampNeg 4) 23 0).toNatClampNeg 4) 23 0).toNatClampNeg 4) 23 0).toNatClampNeg 4) 23 0)))) (k_pm (k_pm (k_pm (k_pm (k_pm M a (eg_gi M 23 0).toNatClampNeg 4) b (eg_gi (k_pm M a (eg_gi M 23 0).toNatClampNeg 4) 23 0).toNatClampNeg 4) c (eg_gi (k_pm (k_pm M a (eg_gi M 23 0).toNatClampNeg 4) b (eg_gi (k_pm M a (eg_gi M 23 0).toNatClampNeg 4) 23 0).toNatClampNeg 4) 23 0).toNatClampNeg 4) d (eg_gi (k_pm (k_pm (k_pm M a (eg_gi M 23 0).toNatClampNeg 4) b (eg_gi (k_pm M a (eg_gi M 23 0).toNatClampNeg 4) 23 0).toNatClampNeg 4) c (eg_gi (k_pm (k_pm M a (eg_gi M 23 0).toNatClampNeg 4) b (eg_gi (k_pm M a (eg_gi M 23 0).toNatClampNeg 4) 23 0).toNatClampNeg 4) 23 0).toNatClampNeg 4) 23 0).toNatClampNeg 4) e (eg_gi (k_pm (k_pm (k_pm (k_pm M a (eg_gi M 23 0).toNatClampNeg 4) b (eg_gi (k_pm M a (eg_gi M 23 0).toNatClampNeg 4) 23 0).toNatClampNeg 4) c (eg_gi (k_pm (k_pm M a (eg_gi M 23 0).toNatClampNeg 4) b (eg_gi (k_pm M a (eg_gi M 23 0).toNatClampNeg 4) 23 0).toNatClampNeg 4) 23 0).toNatClampNeg 4) d (eg_gi (k_pm (k_pm (k_pm M a (eg_gi M 23 0).toNatClampNeg 4) b (eg_gi (k_pm M a (eg_gi M 23 0).toNatClampNeg 4) 23 0).toNatClampNeg 4) c (eg_gi (k_pm (k_pm M a (eg_gi M 23 0).toNatClampNeg 4) b (eg_gi (k_pm M a (eg_gi M 23 0).toNatClampNeg 4) 23 0).toNatClampNeg 4) 23 0).toNatClampNeg 4) 23 0).toNatClampNeg 4) 23 0).toNatClampNeg 4)) :
  eg_T wd k_X11_feed Qp 0 0 0 [some (.ref 0), some (.int a), some (.int b), some (.int c), some (.int d), some (.int e)] [] M := by
  refine eg_T_run mk_X11_feed (cut := []) 33 ?_
  refine And.intro (show (True) from ?_) ?_
  · exact trivial
  refine And.intro (fun (c1 : (b2i (decide (¬ (nI 400) < ((eg_gi M 23 0) + (nI 20))))) = 0) => ?_) (fun (c1 : ¬ (b2i (decide (¬ (nI 400) < ((eg_gi M 23 0) + (nI 20))))) = 0) => ?_)
  · replace c1 := b2i_d0.mp c1
    refine And.intro (fun z => absurd z (by decide)) ?_
    show Qp (.inl (some (.int (-nI 1)))) M
    exact l0 c1
  · replace c1 := b2i_dn.mp c1
    refine And.intro (show (∃ t, t + 4 ≤ 400 ∧ eg_gi M 23 0 = nI t) from ?_) ?_
    · exact g0 c1
    refine And.intro (show (∃ t, t + 4 ≤ 400 ∧ eg_gi (k_pm M a (eg_gi M 23 0).toNatClampNeg 4) 23 0 = nI t) from ?_) ?_
    · exact g1 c1
    refine And.intro (show (∃ t, t + 4 ≤ 400 ∧ eg_gi (k_pm (k_pm M a (eg_gi M 23 0).toNatClampNeg 4) b (eg_gi (k_pm M a (eg_gi M 23 0).toNatClampNeg 4) 23 0).toNatClampNeg 4) 23 0 = nI t) from ?_) ?_
    · exact g2 c1
    refine And.intro (show (∃ t, t + 4 ≤ 400 ∧ eg_gi (k_pm (k_pm (k_pm M a (eg_gi M 23 0).toNatClampNeg 4) b (eg_gi (k_pm M a (eg_gi M 23 0).toNatClampNeg 4) 23 0).toNatClampNeg 4) c (eg_gi (k_pm (k_pm M a (eg_gi M 23 0).toNatClampNeg 4) b (eg_gi (k_pm M a (eg_gi M 23 0).toNatClampNeg 4) 23 0).toNatClampNeg 4) 23 0).toNatClampNeg 4) 23 0 = nI t) from ?_) ?_
    · exact g3 c1
    refine And.intro (show (∃ t, t + 4 ≤ 400 ∧ eg_gi (k_pm (k_pm (k_pm (k_pm M a (eg_gi M 23 0).toNatClampNeg 4) b (eg_gi (k_pm M a (eg_gi M 23 0).toNatClampNeg 4) 23 0).toNatClampNeg 4) c (eg_gi (k_pm (k_pm M a (eg_gi M 23 0).toNatClampNeg 4) b (eg_gi (k_pm M a (eg_gi M 23 0).toNatClampNeg 4) 23 0).toNatClampNeg 4) 23 0).toNatClampNeg 4) d (eg_gi (k_pm (k_pm (k_pm M a (eg_gi M 23 0).toNatClampNeg 4) b (eg_gi (k_pm M a (eg_gi M 23 0).toNatClampNeg 4) 23 0).toNatClampNeg 4) c (eg_gi (k_pm (k_pm M a (eg_gi M 23 0).toNatClampNeg 4) b (eg_gi (k_pm M a (eg_gi M 23 0).toNatClampNeg 4) 23 0).toNatClampNeg 4) 23 0).toNatClampNeg 4) 23 0).toNatClampNeg 4) 23 0 = nI t) from ?_) ?_
    · exact g4 c1
    refine And.intro (fun z => absurd z (by decide)) ?_
    show Qp (.inl (some (.int (eg_gi (k_pm (k_pm (k_pm (k_pm (k_pm M a (eg_gi M 23 0).toNatClampNeg 4) b (eg_gi (k_pm M a (eg_gi M 23 0).toNatClampNeg 4) 23 0).toNatClampNeg 4) c (eg_gi (k_pm (k_pm M a (eg_gi M 23 0).toNatClampNeg 4) b (eg_gi (k_pm M a (eg_gi M 23 0).toNatClampNeg 4) 23 0).toNatClampNeg 4) 23 0).toNatClampNeg 4) d (eg_gi (k_pm (k_pm (k_pm M a (eg_gi M 23 0).toNatClampNeg 4) b (eg_gi (k_pm M a (eg_gi M 23 0).toNatClampNeg 4) 23 0).toNatClampNeg 4) c (eg_gi (k_pm (k_pm M a (eg_gi M 23 0).toNatClampNeg 4) b (eg_gi (k_pm M a (eg_gi M 23 0).toNatClampNeg 4) 23 0).toNatClampNeg 4) 23 0).toNatClampNeg 4) 23 0).toNatClampNeg 4) e (eg_gi (k_pm (k_pm (k_pm (k_pm M a (eg_gi M 23 0).toNatClampNeg 4) b (eg_gi (k_pm M a (eg_gi M 23 0).toNatClampNeg 4) 23 0).toNatClampNeg 4) c (eg_gi (k_pm (k_pm M a (eg_gi M 23 0).toNatClampNeg 4) b (eg_gi (k_pm M a (eg_gi M 23 0).toNatClampNeg 4) 23 0).toNatClampNeg 4) 23 0).toNatClampNeg 4) d (eg_gi (k_pm (k_pm (k_pm M a (eg_gi M 23 0).toNatClampNeg 4) b (eg_gi (k_pm M a (eg_gi M 23 0).toNatClampNeg 4) 23 0).toNatClampNeg 4) c (eg_gi (k_pm (k_pm M a (eg_gi M 23 0).toNatClampNeg 4) b (eg_gi (k_pm M a (eg_gi M 23 0).toNatClampNeg 4) 23 0).toNatClampNeg 4) 23 0).toNatClampNeg 4) 23 0).toNatClampNeg 4) 23 0).toNatClampNeg 4) 23 0)))) (k_pm (k_pm (k_pm (k_pm (k_pm M a (eg_gi M 23 0).toNatClampNeg 4) b (eg_gi (k_pm M a (eg_gi M 23 0).toNatClampNeg 4) 23 0).toNatClampNeg 4) c (eg_gi (k_pm (k_pm M a (eg_gi M 23 0).toNatClampNeg 4) b (eg_gi (k_pm M a (eg_gi M 23 0).toNatClampNeg 4) 23 0).toNatClampNeg 4) 23 0).toNatClampNeg 4) d (eg_gi (k_pm (k_pm (k_pm M a (eg_gi M 23 0).toNatClampNeg 4) b (eg_gi (k_pm M a (eg_gi M 23 0).toNatClampNeg 4) 23 0).toNatClampNeg 4) c (eg_gi (k_pm (k_pm M a (eg_gi M 23 0).toNatClampNeg 4) b (eg_gi (k_pm M a (eg_gi M 23 0).toNatClampNeg 4) 23 0).toNatClampNeg 4) 23 0).toNatClampNeg 4) 23 0).toNatClampNeg 4) e (eg_gi (k_pm (k_pm (k_pm (k_pm M a (eg_gi M 23 0).toNatClampNeg 4) b (eg_gi (k_pm M a (eg_gi M 23 0).toNatClampNeg 4) 23 0).toNatClampNeg 4) c (eg_gi (k_pm (k_pm M a (eg_gi M 23 0).toNatClampNeg 4) b (eg_gi (k_pm M a (eg_gi M 23 0).toNatClampNeg 4) 23 0).toNatClampNeg 4) 23 0).toNatClampNeg 4) d (eg_gi (k_pm (k_pm (k_pm M a (eg_gi M 23 0).toNatClampNeg 4) b (eg_gi (k_pm M a (eg_gi M 23 0).toNatClampNeg 4) 23 0).toNatClampNeg 4) c (eg_gi (k_pm (k_pm M a (eg_gi M 23 0).toNatClampNeg 4) b (eg_gi (k_pm M a (eg_gi M 23 0).toNatClampNeg 4) 23 0).toNatClampNeg 4) 23 0).toNatClampNeg 4) 23 0).toNatClampNeg 4) 23 0).toNatClampNeg 4)
    exact l1 (Classical.byContradiction c1)

def s_X11_feed : eg_S := fun argv M Qp => match argv with
  | [.ref 0, .int a, .int b, .int c, .int d, .int e] => (eg_cn (eg_gi M 23 0) 400) ∧ ∀ (v : Int32) (M2 : eg_M), ((400 < (eg_gi M 23 0).toNatClampNeg + 20 ∧ v = -nI 1 ∧ M2 = M) ∨ ((eg_gi M 23 0).toNatClampNeg + 20 ≤ 400 ∧ v = nI ((eg_gi M 23 0).toNatClampNeg + 20) ∧ M2 = k_fm M a b c d e (eg_gi M 23 0).toNatClampNeg)) → Qp (.inl (some (.int (v)))) M2
  | _ => False
theorem mo_X11_feed : eg_mono s_X11_feed := by
  intro argv M Q Q' h
  unfold s_X11_feed
  split
  · exact fun z => ⟨z.1, fun v M2 y => h _ _ (z.2 v M2 y)⟩
  · exact id
theorem sz_X11_feed : ∀ argv M Qp, s_X11_feed argv M Qp → (eg_ls0 argv).length ≤ 6 := by
  intro argv M Qp h
  unfold s_X11_feed at h
  split at h
  · exact Nat.le_of_ble_eq_true rfl
  · exact h.elim
theorem sr_X11_feed : ∀ argv M Qp, s_X11_feed argv M Qp → ∃ p0 As, argv = .ref p0 :: As ∧ eg_isO wd M p0 11 = true := by
  intro argv M Qp h
  unfold s_X11_feed at h
  split at h
  · exact ⟨_, _, rfl, rfl⟩
  · exact h.elim
set_option maxRecDepth 100000 in
set_option maxHeartbeats 1000000 in
theorem T_X11_feed {argv : List Value} {M : eg_M} {Qp : eg_P} (h : s_X11_feed argv M Qp) : eg_T wd k_X11_feed Qp 0 0 0 (eg_lsN 6 argv) [] M := by
  unfold s_X11_feed at h
  split at h
  · rename_i a b c d e
    obtain ⟨hp, hq⟩ := h
    obtain ⟨t, ht, hN⟩ := hp
    have hn : (eg_gi M 23 0).toNatClampNeg = t := by rw [hN, n_c (by omega)]
    rw [hn] at hq
    have st := st_X11_feed_0 (Qp := Qp) (M := M) a b c d e
    have r : ∀ X a t k, eg_gi (k_pm X a t k) 23 0 = nI (t + k) := fun _ _ _ _ => rfl
    rcases Nat.lt_or_ge 400 (t + 20) with h | h
    · have z : nI 400 < eg_gi M 23 0 + nI 20 := by
        rw [hN, n_s, n_lt (by omega) (by omega)]
        exact h
      exact st (fun y => absurd (fun w => w z) y) (fun y => absurd (fun w => w z) y) (fun y => absurd (fun w => w z) y) (fun y => absurd (fun w => w z) y) (fun y => absurd (fun w => w z) y) (fun _ => hq _ _ (Or.inl ⟨h, rfl, rfl⟩)) (fun y => absurd z y)
    · simp (disch := omega) only [r, hN, n_c, Nat.add_assoc, Nat.reduceAdd, k_pm_5] at st
      refine st (fun _ => ⟨t, by omega, rfl⟩) (fun _ => ⟨_, by omega, rfl⟩) (fun _ => ⟨_, by omega, rfl⟩) (fun _ => ⟨_, by omega, rfl⟩) (fun _ => ⟨_, by omega, rfl⟩) (fun y => ?_) (fun _ => hq _ _ (Or.inr ⟨h, rfl, rfl⟩))
      rw [n_s, n_lt (by omega) (by omega)] at y
      exact absurd (by omega) y
  · exact h.elim
theorem de_X11_feed : ∀ q ∈ k_X11_feed.1, decode cX11_feed q.1 = .ok q.2 := by decide +kernel
theorem me_X11_feed (g : gl_T) : MT g yX11_feed cX11_feed 6 (some .int) ⟨1, 0, 0, 22⟩ 0 0 s_X11_feed := by
  intro hl
  exact eg_met_of (k := k_X11_feed) (by decide) rfl ⟨Nat.le_refl _, Nat.le_refl _⟩ rfl sz_X11_feed de_X11_feed (fun meth hn => (fc (eg_FL_of wd_c11 (by decide) lf_RX11_35 (fun h => absurd h (by decide))) (fc (eg_FL_of wd_c10 (by decide) lf_RX11_129 (fun h => absurd h (by decide))) (fn)))) (fun A s H hE => (fn)) (fun p e s m args below meth c Q A ad0 N0 S0 hK hEx hA => (fc (mt_V hl S0 hK hEx hA (me_X10_hasRoom g) lm_RX11_120 li_X10_hasRoom lx_X10_hasRoom ln_RX10 lc_X10_hasRoom ⟨rfl, by decide, by decide, by decide +kernel⟩ ⟨rfl, rfl⟩ ⟨by decide, by decide⟩ (ci := 10) rfl rfl sr_X10_hasRoom (by decide)) (fc (mt_V hl S0 hK hEx hA (me_X10_put g) lm_RX11_126 li_X10_put lx_X10_put ln_RX10 lc_X10_put ⟨rfl, by decide, by decide, by decide +kernel⟩ ⟨rfl, rfl⟩ ⟨by decide, by decide⟩ (ci := 10) rfl rfl sr_X10_put (by decide)) (fn)))) (fun p e s m args below meth c Qc XC A ad0 N0 P S0 hK hEx hA hlk hout hPX => (fn)) (fun argv M Qp h => T_X11_feed h)

theorem rk_is (M : eg_M) {k : Nat} (h : k < 16) : eg_is wd M (99 + 1 + k) 1 = true ∧ eg_len wd M (99 + 1 + k) = 16 ∧ eg_is wd M (81 + 1 + k) 1 = true ∧ eg_len wd M (81 + 1 + k) = 6 := by
  have e : ∀ p, p < 178 → eg_sh wd M p = wd.1 p := by
    intro p hp
    unfold eg_sh
    rw [show Nat.blt p wd.2.1 = true from Nat.ble_eq.mpr hp]
    rfl
  unfold eg_is eg_len
  rw [e _ (by omega), e _ (by omega)]
  have : ∀ k, k < 16 → Nat.beq (wd.1 (99 + 1 + k)).1 1 = true ∧ (wd.1 (99 + 1 + k)).2.1 = 16 ∧ Nat.beq (wd.1 (81 + 1 + k)).1 1 = true ∧ (wd.1 (81 + 1 + k)).2.1 = 6 := by decide
  exact this k h
/-- the class: the place of town j among the first i wishes -/
def k_rk (row : Int32) : Nat → Nat → Int32
  | 0, _ => -nI 1
  | i + 1, j => if w4 row i = nI j then nI i else k_rk row i j
def k_swm (M : eg_M) (k i : Nat) (row : Int32) : eg_M := eg_ri (eg_ri M (99 + 1 + k) (fun j => if j < 16 then k_rk row i j else eg_gi M (99 + 1 + k) j)) (81 + 1 + k) (fun j => if j < i then w4 row j else eg_gi M (81 + 1 + k) j)
def k_X2_setWish : eg_C := ([(0, .aload_n 0, 1), (1, .getfield 20, 3), (4, .iload_n 1, 1), (5, .aaload, 1), (6, .iconst (-1), 1), (7, .invokestatic 45, 3), (10, .iconst 0, 1), (11, .istore 4, 2), (13, .iload 4, 2), (15, .iload_n 2, 1), (16, .if_icmp .ge 42, 3), (19, .iload_n 3, 1), (20, .iconst 4, 1), (21, .iload 4, 2), (23, .imul, 1), (24, .iushr, 1), (25, .bipush 15, 2), (27, .iand, 1), (28, .istore 5, 2), (30, .aload_n 0, 1), (31, .getfield 11, 3), (34, .iload_n 1, 1), (35, .aaload, 1), (36, .iload 4, 2), (38, .iload 5, 2), (40, .iastore, 1), (41, .aload_n 0, 1), (42, .getfield 20, 3), (45, .iload_n 1, 1), (46, .aaload, 1), (47, .iload 5, 2), (49, .iload 4, 2), (51, .iastore, 1), (52, .iinc 4 1, 3), (55, .goto (-42), 3), (58, .aload_n 0, 1), (59, .getfield 16, 3), (62, .iload_n 1, 1), (63, .iload_n 2, 1), (64, .iastore, 1), (65, .return_, 1)], [(11, 2, 0, false), (16, 2, 1, false), (20, 2, 2, false)], [], [(45 + 100000, 2, 0, 0, s_J7_fill_53178)], [], 0, 0, 0)
theorem mk_X2_setWish : ∀ q ∈ k_X2_setWish.2.2.2.1, eg_mono q.2.2.2.2 := (fc (mo_J7_fill_53178) (fn))
set_option maxRecDepth 100000 in
theorem st_X2_setWish_0 {Qp : eg_P} {M : eg_M} (t : Int32) (b : Int32) (row : Int32)
  (g0 : (vp_in t 16))
  (g1 : (eg_is wd M (99 + 1 + t.toNatClampNeg) 1 = true))
  (g2 : ((eg_len wd M (99 + 1 + t.toNatClampNeg)) < 2 ^ 31))
  (l0 : eg_T wd k_X2_setWish Qp 13 0 0 [some (.ref 80), some (.int t), some (.int b), some (.int row), some (.int (nI 0)), none] [] (eg_fi M (99 + 1 + t.toNatClampNeg) (eg_len wd M (99 + 1 + t.toNatClampNeg)) (-nI 1))) :
  eg_T wd k_X2_setWish Qp 0 0 0 [some (.ref 80), some (.int t), some (.int b), some (.int row), none, none] [] M := by
  refine eg_T_run mk_X2_setWish (cut := [13]) 44 ?_
  refine And.intro (show vp_in t 16 from ?_) ?_
  · exact g0
  refine eg_need_of (show eg_is wd M (99 + 1 + t.toNatClampNeg) 1 = true from ?_) ?_
  · exact g1
  refine And.intro (show (eg_len wd M (99 + 1 + t.toNatClampNeg)) < 2 ^ 31 from ?_) ?_
  · exact g2
  show eg_T wd k_X2_setWish Qp 13 0 0 [some (.ref 80), some (.int t), some (.int b), some (.int row), some (.int (nI 0)), none] [] (eg_fi M (99 + 1 + t.toNatClampNeg) (eg_len wd M (99 + 1 + t.toNatClampNeg)) (-nI 1))
  exact l0

set_option maxRecDepth 100000 in
theorem st_X2_setWish_13 {Qp : eg_P} {M : eg_M} (t : Int32) (b : Int32) (row : Int32) (x4 : Int32) (o5 : Option Value)
  (g0 : (vp_in t 16))
  (g1 : (¬ (b ≤ x4)) → (eg_is wd M (81 + 1 + t.toNatClampNeg) 1 = true))
  (g2 : (¬ (b ≤ x4)) → (vp_in x4 (eg_len wd M (81 + 1 + t.toNatClampNeg))))
  (g3 : (¬ (b ≤ x4)) → (eg_is wd (eg_si M (81 + 1 + t.toNatClampNeg) x4.toNatClampNeg (((row.toUInt32 >>> (((nI 4) * x4).toUInt32 &&& Int32.toUInt32 31)).toInt32) &&& (nI 15))) (99 + 1 + t.toNatClampNeg) 1 = true))
  (g4 : (¬ (b ≤ x4)) → (vp_in (((row.toUInt32 >>> (((nI 4) * x4).toUInt32 &&& Int32.toUInt32 31)).toInt32) &&& (nI 15)) (eg_len wd (eg_si M (81 + 1 + t.toNatClampNeg) x4.toNatClampNeg (((row.toUInt32 >>> (((nI 4) * x4).toUInt32 &&& Int32.toUInt32 31)).toInt32) &&& (nI 15))) (99 + 1 + t.toNatClampNeg))))
  (l0 : (b ≤ x4) → Qp (.inl none) (eg_si M 98 t.toNatClampNeg b))
  (l1 : (¬ b ≤ x4) → eg_T wd k_X2_setWish Qp 13 0 0 [some (.ref 80), some (.int t), some (.int b), some (.int row), some (.int (x4 + (nI 1))), some (.int (((row.toUInt32 >>> (((nI 4) * x4).toUInt32 &&& Int32.toUInt32 31)).toInt32) &&& (nI 15)))] [] (eg_si (eg_si M (81 + 1 + t.toNatClampNeg) x4.toNatClampNeg (((row.toUInt32 >>> (((nI 4) * x4).toUInt32 &&& Int32.toUInt32 31)).toInt32) &&& (nI 15))) (99 + 1 + t.toNatClampNeg) (((row.toUInt32 >>> (((nI 4) * x4).toUInt32 &&& Int32.toUInt32 31)).toInt32) &&& (nI 15)).toNatClampNeg x4)) :
  eg_T wd k_X2_setWish Qp 13 0 0 [some (.ref 80), some (.int t), some (.int b), some (.int row), some (.int x4), o5] [] M := by
  refine eg_T_run mk_X2_setWish (cut := [13]) 44 ?_
  refine And.intro (fun (c1 : b ≤ x4) => ?_) (fun (c1 : ¬ b ≤ x4) => ?_)
  · skip
    refine And.intro (show vp_in t 16 from ?_) ?_
    · exact g0
    show Qp (.inl none) (eg_si M 98 t.toNatClampNeg b)
    exact l0 c1
  · skip
    refine And.intro (show vp_in t 16 from ?_) ?_
    · exact g0
    refine eg_need_of (show eg_is wd M (81 + 1 + t.toNatClampNeg) 1 = true from ?_) ?_
    · exact g1 c1
    refine And.intro (show vp_in x4 (eg_len wd M (81 + 1 + t.toNatClampNeg)) from ?_) ?_
    · exact g2 c1
    refine And.intro (show vp_in t 16 from ?_) ?_
    · exact g0
    refine eg_need_of (show eg_is wd (eg_si M (81 + 1 + t.toNatClampNeg) x4.toNatClampNeg (((row.toUInt32 >>> (((nI 4) * x4).toUInt32 &&& Int32.toUInt32 31)).toInt32) &&& (nI 15))) (99 + 1 + t.toNatClampNeg) 1 = true from ?_) ?_
    · exact g3 c1
    refine And.intro (show vp_in (((row.toUInt32 >>> (((nI 4) * x4).toUInt32 &&& Int32.toUInt32 31)).toInt32) &&& (nI 15)) (eg_len wd (eg_si M (81 + 1 + t.toNatClampNeg) x4.toNatClampNeg (((row.toUInt32 >>> (((nI 4) * x4).toUInt32 &&& Int32.toUInt32 31)).toInt32) &&& (nI 15))) (99 + 1 + t.toNatClampNeg)) from ?_) ?_
    · exact g4 c1
    show eg_T wd k_X2_setWish Qp 13 0 0 [some (.ref 80), some (.int t), some (.int b), some (.int row), some (.int (x4 + (nI 1))), some (.int (((row.toUInt32 >>> (((nI 4) * x4).toUInt32 &&& Int32.toUInt32 31)).toInt32) &&& (nI 15)))] [] (eg_si (eg_si M (81 + 1 + t.toNatClampNeg) x4.toNatClampNeg (((row.toUInt32 >>> (((nI 4) * x4).toUInt32 &&& Int32.toUInt32 31)).toInt32) &&& (nI 15))) (99 + 1 + t.toNatClampNeg) (((row.toUInt32 >>> (((nI 4) * x4).toUInt32 &&& Int32.toUInt32 31)).toInt32) &&& (nI 15)).toNatClampNeg x4)
    exact l1 c1

def s_X2_setWish : eg_S := fun argv M Qp => match argv with
  | [.ref 80, .int t, .int b, .int row] => ((∃ k, k < 16 ∧ t = nI k) ∧ eg_cn b 6) ∧ Qp (.inl none) (eg_si (k_swm M t.toNatClampNeg b.toNatClampNeg row) 98 t.toNatClampNeg b)
  | _ => False
theorem mo_X2_setWish : eg_mono s_X2_setWish := by
  intro argv M Q Q' h
  unfold s_X2_setWish
  split
  · exact fun z => ⟨z.1, h _ _ z.2⟩
  · exact id
theorem sz_X2_setWish : ∀ argv M Qp, s_X2_setWish argv M Qp → (eg_ls0 argv).length ≤ 6 := by
  intro argv M Qp h
  unfold s_X2_setWish at h
  split at h
  · exact Nat.le_of_ble_eq_true rfl
  · exact h.elim
theorem sr_X2_setWish : ∀ argv M Qp, s_X2_setWish argv M Qp → ∃ p0 As, argv = .ref p0 :: As ∧ eg_isO wd M p0 2 = true := by
  intro argv M Qp h
  unfold s_X2_setWish at h
  split at h
  · exact ⟨_, _, rfl, rfl⟩
  · exact h.elim
set_option maxRecDepth 100000 in
set_option maxHeartbeats 1000000 in
theorem T_X2_setWish {argv : List Value} {M : eg_M} {Qp : eg_P} (h : s_X2_setWish argv M Qp) : eg_T wd k_X2_setWish Qp 0 0 0 (eg_lsN 6 argv) [] M := by
  unfold s_X2_setWish at h
  split at h
  · rename_i t b row
    obtain ⟨hp, hq⟩ := h
    obtain ⟨⟨k, hk, rfl⟩, m, hm, rfl⟩ := hp
    rw [n_c (by omega), n_c (by omega)] at hq
    have lp : ∀ i (o : Option Value), i ≤ m → True → eg_T wd k_X2_setWish Qp 13 0 0 [some (.ref 80), some (.int (nI k)), some (.int (nI m)), some (.int row), some (.int (nI i)), o] [] (k_swm M k i row) := by
      refine eg_for ?_
      intro i o hi _ kk
      have st := st_X2_setWish_13 (Qp := Qp) (M := k_swm M k i row) (nI k) (nI m) row (nI i) o
      obtain ⟨v, hv, ev⟩ := w4_v row i
      rw [us4 row (by omega), n_c (show k < 2 ^ 31 by omega), n_c (show i < 2 ^ 31 by omega), n_le (by omega) (by omega), Nat.not_le, n_s, ev, n_c (show v < 2 ^ 31 by omega)] at st
      refine st ((n_in (by omega) (by decide)).mpr hk) (fun _ => (rk_is _ hk).2.2.1) (fun z => ?_) (fun _ => (rk_is _ hk).1) (fun z => ?_) (fun z => ?_) (fun z => ?_)
      · rw [(rk_is _ hk).2.2.2, n_in (by omega) (by decide)]
        omega
      · rw [(rk_is _ hk).2.1, n_in (by omega) (by decide)]
        omega
      · have : i = m := by omega
        subst this
        exact hq
      · have e : eg_si (eg_si (k_swm M k i row) (81 + 1 + k) i (nI v)) (99 + 1 + k) v (nI i) = k_swm M k (i + 1) row := by
          unfold k_swm
          rw [si_ri, si_ri_n (by omega), si_ri]
          have e1 : (fun j => if j = v then nI i else if j < 16 then k_rk row i j else eg_gi M (99 + 1 + k) j) = fun j => if j < 16 then k_rk row (i + 1) j else eg_gi M (99 + 1 + k) j := by
            funext j
            by_cases h : j = v
            · subst h
              rw [if_pos rfl, if_pos hv, k_rk, if_pos ev]
            · rw [if_neg h]
              by_cases h2 : j < 16
              · rw [if_pos h2, if_pos h2, k_rk, if_neg]
                rw [ev, n_eq (by omega) (by omega)]
                exact fun w => h w.symm
              · rw [if_neg h2, if_neg h2]
          have e2 : (fun j => if j = i then nI v else if j < i then w4 row j else eg_gi M (81 + 1 + k) j) = fun j => if j < i + 1 then w4 row j else eg_gi M (81 + 1 + k) j := by
            funext j
            by_cases h : j = i
            · subst h
              rw [if_pos rfl, if_pos (by omega), ev]
            · rw [if_neg h]
              by_cases h2 : j < i
              · rw [if_pos h2, if_pos (by omega)]
              · rw [if_neg h2, if_neg (by omega)]
          rw [e1, e2]
        rw [e]
        exact kk _ z trivial
    have st := st_X2_setWish_0 (Qp := Qp) (M := M) (nI k) (nI m) row ((n_in (by omega) (by decide)).mpr hk)
    rw [n_c (show k < 2 ^ 31 by omega), (rk_is _ hk).2.1] at st
    refine st (rk_is _ hk).1 (by decide) ?_
    have := lp 0 none (Nat.zero_le _) trivial
    have e : k_swm M k 0 row = eg_fi M (99 + 1 + k) 16 (-nI 1) := by
      rw [fi_ri]
      unfold k_swm
      refine ri_id' ?_
      funext j
      rw [if_neg (Nat.not_lt_zero _), ri_g, if_neg (by omega)]
    rw [e] at this
    exact this
    
  · exact h.elim
theorem de_X2_setWish : ∀ q ∈ k_X2_setWish.1, decode cX2_setWish q.1 = .ok q.2 := by decide +kernel
theorem me_X2_setWish (g : gl_T) : MT g yX2_setWish cX2_setWish 6 none ⟨1, 0, 0, 23⟩ 0 0 s_X2_setWish := by
  intro hl
  exact eg_met_of (k := k_X2_setWish) (by decide) rfl ⟨Nat.le_refl _, Nat.le_refl _⟩ rfl sz_X2_setWish de_X2_setWish (fun meth hn => (fc (eg_FL_of wd_c2 (by decide) lf_RX2_11 (fun h => absurd h (by decide))) (fc (eg_FL_of wd_c2 (by decide) lf_RX2_16 (fun h => absurd h (by decide))) (fc (eg_FL_of wd_c2 (by decide) lf_RX2_20 (fun h => absurd h (by decide))) (fn))))) (fun A s H hE => (fn)) (fun p e s m args below meth c Q A ad0 N0 S0 hK hEx hA => (fc (mt_S hl S0 hK hEx hA (me_J7_fill_53178 g) lm_RX2_45 ls_J7_fill_53178 ln_RJ7 lc_J7_fill_53178 ⟨rfl, by decide, by decide, by decide +kernel⟩ ⟨rfl, rfl⟩ ⟨by decide, by decide⟩ (by decide)) (fn))) (fun p e s m args below meth c Qc XC A ad0 N0 P S0 hK hEx hA hlk hout hPX => (fn)) (fun argv M Qp h => T_X2_setWish h)

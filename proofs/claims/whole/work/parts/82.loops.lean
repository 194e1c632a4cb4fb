/-! a new text -/
def k_m1 (M : eg_M) : eg_M := eg_new wd M (0, 8, [])
def k_mc (M : eg_M) (n : Nat) (f : Nat → Int32) : eg_M := eg_rw (eg_new wd M (1, n, [])) (eg_N wd M) f
/-- M2 has all that M has -/
def k_gw (M M2 : eg_M) : Prop := eg_N wd M ≤ eg_N wd M2 ∧ ∀ z, z < eg_N wd M → eg_sh wd M2 z = eg_sh wd M z ∧ M2.2.1 z = M.2.1 z ∧ M2.2.2.1 z = M.2.2.1 z ∧ M2.2.2.2 z = M.2.2.2 z
theorem gw_rf (M : eg_M) : k_gw M M := ⟨Nat.le_refl _, fun _ _ => ⟨rfl, rfl, rfl, rfl⟩⟩
theorem gw_tr {M N O : eg_M} (h1 : k_gw M N) (h2 : k_gw N O) : k_gw M O := ⟨Nat.le_trans h1.1 h2.1, fun z hz => by
  obtain ⟨a1, a2, a3, a4⟩ := h1.2 z hz
  obtain ⟨b1, b2, b3, b4⟩ := h2.2 z (Nat.lt_of_lt_of_le hz h1.1)
  exact ⟨b1.trans a1, b2.trans a2, b3.trans a3, b4.trans a4⟩⟩
theorem gw_new (M : eg_M) (x : eg_E) : k_gw M (eg_new wd M x) := ⟨by rw [eg_N_new]; omega, fun z hz => ⟨eg_sh_new_lt hz, eg_new_i (by omega)⟩⟩
theorem gw_m1 (M : eg_M) : k_gw M (k_m1 M) := gw_new M _
theorem gw_mc (M : eg_M) (n : Nat) (f : Nat → Int32) : k_gw M (k_mc M n f) := by
  obtain ⟨h1, h2⟩ := gw_new M (1, n, [])
  refine ⟨h1, fun z hz => ?_⟩
  obtain ⟨a1, a2, a3, a4⟩ := h2 z hz
  exact ⟨a1, (if_neg (show ¬ z = eg_N wd M by omega)).trans a2, a3, a4⟩
theorem mc_N (M : eg_M) (n : Nat) (f : Nat → Int32) : eg_N wd (k_mc M n f) = eg_N wd M + 1 := eg_N_new
theorem m1_N (M : eg_M) : eg_N wd (k_m1 M) = eg_N wd M + 1 := eg_N_new
theorem mc_sh (M : eg_M) (n : Nat) (f : Nat → Int32) : eg_sh wd (k_mc M n f) (eg_N wd M) = (1, n, []) := eg_sh_new_eq
theorem m1_sh (M : eg_M) : eg_sh wd (k_m1 M) (eg_N wd M) = (0, 8, []) := eg_sh_new_eq
theorem mc_gi (M : eg_M) (n : Nat) (f : Nat → Int32) (j : Nat) : eg_gi (k_mc M n f) (eg_N wd M) j = f j := by
  show (if eg_N wd M = eg_N wd M then f else _) j = f j
  rw [if_pos rfl]
theorem gw_gi {M N : eg_M} (h : k_gw M N) {z : Nat} (hz : z < eg_N wd M) (j : Nat) : eg_gi N z j = eg_gi M z j := congrFun (h.2 z hz).2.1 j
theorem gw_gl {M N : eg_M} (h : k_gw M N) {z : Nat} (hz : z < eg_N wd M) (j : Nat) : eg_gl N z j = eg_gl M z j := congrFun (h.2 z hz).2.2.1 j
theorem gw_gr {M N : eg_M} (h : k_gw M N) {z : Nat} (hz : z < eg_N wd M) (j : Nat) : eg_gr N z j = eg_gr M z j := congrFun (h.2 z hz).2.2.2 j
theorem N_178 (M : eg_M) : 178 ≤ eg_N wd M := Nat.le_add_right _ _
def k_nt (M : eg_M) (q : Nat) (a b c : Int32) (r3 r4 r5 : Nat) : eg_M := eg_sr (eg_sr (eg_sr (eg_si (eg_si (eg_si M q 0 a) q 1 b) q 2 c) q 3 (some r3)) q 4 (some r4)) q 5 (some r5)
def k_X8_init : eg_C := ([(0, .aload_n 0, 1), (1, .invokespecial 1, 3), (4, .aload_n 0, 1), (5, .iload_n 1, 1), (6, .putfield 7, 3), (9, .aload_n 0, 1), (10, .iload_n 2, 1), (11, .putfield 13, 3), (14, .aload_n 0, 1), (15, .iload_n 3, 1), (16, .putfield 16, 3), (19, .aload_n 0, 1), (20, .aload 4, 2), (22, .putfield 19, 3), (25, .aload_n 0, 1), (26, .aload 5, 2), (28, .putfield 23, 3), (31, .aload_n 0, 1), (32, .aload 6, 2), (34, .putfield 26, 3), (37, .return_, 1)], [(7, 8, 0, true), (13, 8, 1, true), (16, 8, 2, true), (19, 8, 3, true), (23, 8, 4, true), (26, 8, 5, true)], [], [(1 + 200000, 1, 0, 0, eg_So)], [], 0, 0, 0)
theorem mk_X8_init : ∀ q ∈ k_X8_init.2.2.2.1, eg_mono q.2.2.2.2 := (fc (mo_So) (fn))
def s_X8_init : eg_S := fun argv M Qp => match argv with
  | [.ref q, .int a, .int b, .int c, .ref r3, .ref r4, .ref r5] => (eg_isO wd M q 8 = true ∧ (eg_sh wd M q).2.2 = []) ∧ Qp (.inl none) (k_nt M q a b c r3 r4 r5)
  | _ => False
theorem mo_X8_init : eg_mono s_X8_init := by
  intro argv M Q Q' h
  unfold s_X8_init
  split
  · exact fun z => ⟨z.1, h _ _ z.2⟩
  · exact id
theorem sz_X8_init : ∀ argv M Qp, s_X8_init argv M Qp → (eg_ls0 argv).length ≤ 7 := by
  intro argv M Qp h
  unfold s_X8_init at h
  split at h
  · exact Nat.le_of_ble_eq_true rfl
  · exact h.elim
theorem si_X8_init : ∀ argv M Qp, s_X8_init argv M Qp → ∃ p0 As, argv = .ref p0 :: As := by
  intro argv M Qp h
  unfold s_X8_init at h
  split at h
  · exact ⟨_, _, rfl⟩
  · exact h.elim
theorem nt_X8_init : ∀ argv M Qp, s_X8_init argv M Qp → s_X8_init argv M (fun r N => match r with
    | .inl v => Qp (.inl v) N
    | .inr _ => False) := by
  intro argv M Qp h
  unfold s_X8_init at h ⊢
  split at h
  · exact h
  · exact h.elim
set_option maxRecDepth 100000 in
theorem T_X8_init {argv : List Value} {M : eg_M} {Qp : eg_P} (h : s_X8_init argv M Qp) : eg_T wd k_X8_init Qp 0 0 0 (eg_lsN 7 argv) [] M := by
  unfold s_X8_init at h
  split at h
  · rename_i q a b c r3 r4 r5
    obtain ⟨⟨h1, h2⟩, hq⟩ := h
    have h1' : (eg_isO wd M q 8 && true) = true := by rw [h1]; rfl
    have h3 : ∀ k, Option.isNone ((eg_sh wd M q).2.2.getD k none) = true := fun k => by rw [h2]; rfl
    refine eg_T_run mk_X8_init (cut := []) 24 ?_
    refine eg_need_of (show (eg_isO wd M q 8 && true) = true from h1') ?_
    refine eg_need_of (show (eg_isO wd M q 8 && true) = true from h1') ?_
    refine eg_need_of (show (eg_isO wd M q 8 && true) = true from h1') ?_
    refine eg_need_of (show (eg_isO wd M q 8 && true) = true from h1') ?_
    refine eg_need_of (show Option.isNone ((eg_sh wd M q).2.2.getD 3 none) = true from h3 3) ?_
    refine eg_need_of (show (eg_isO wd M q 8 && true) = true from h1') ?_
    refine eg_need_of (show Option.isNone ((eg_sh wd M q).2.2.getD 4 none) = true from h3 4) ?_
    refine eg_need_of (show (eg_isO wd M q 8 && true) = true from h1') ?_
    refine eg_need_of (show Option.isNone ((eg_sh wd M q).2.2.getD 5 none) = true from h3 5) ?_
    exact hq
  · exact h.elim
theorem de_X8_init : ∀ q ∈ k_X8_init.1, decode cX8_init q.1 = .ok q.2 := by decide +kernel
theorem me_X8_init (g : gl_T) : MT g yX8_init cX8_init 7 none ⟨1, 0, 0, 20⟩ 0 0 s_X8_init := by
  intro hl
  exact eg_met_of (k := k_X8_init) (by decide) rfl ⟨Nat.le_refl _, Nat.le_refl _⟩ rfl sz_X8_init de_X8_init (fun meth hn => (fc (eg_FL_of wd_c8 (by decide) lf_RX8_7 (fun _ => Or.inr ⟨rfl, hn, rfl⟩)) (fc (eg_FL_of wd_c8 (by decide) lf_RX8_13 (fun _ => Or.inr ⟨rfl, hn, rfl⟩)) (fc (eg_FL_of wd_c8 (by decide) lf_RX8_16 (fun _ => Or.inr ⟨rfl, hn, rfl⟩)) (fc (eg_FL_of wd_c8 (by decide) lf_RX8_19 (fun _ => Or.inr ⟨rfl, hn, rfl⟩)) (fc (eg_FL_of wd_c8 (by decide) lf_RX8_23 (fun _ => Or.inr ⟨rfl, hn, rfl⟩)) (fc (eg_FL_of wd_c8 (by decide) lf_RX8_26 (fun _ => Or.inr ⟨rfl, hn, rfl⟩)) (fn)))))))) (fun A s H hE => (fn)) (fun p e s m args below meth c Q A ad0 N0 S0 hK hEx hA => (fc (mt_O S0 lm_RX8_1 (by decide) (by decide) (by decide)) (fn))) (fun p e s m args below meth c Qc XC A ad0 N0 P S0 hK hEx hA hlk hout hPX => (fn)) (fun argv M Qp h => T_X8_init h)

def k_tt (M : eg_M) (a : Int32) (f3 f4 f5 : Nat → Int32) : eg_M := k_nt (k_mc (k_mc (k_mc (k_m1 M) (eg_gi M 25 11).toNatClampNeg f3) (eg_gi M 25 11).toNatClampNeg f4) (eg_gi M 25 8).toNatClampNeg f5) (eg_N wd M) a (eg_gi M 25 12) (eg_gi M 25 13) (eg_N wd M + 1) (eg_N wd M + 2) (eg_N wd M + 3)
def k_X7_textTold : eg_C := ([(0, .new 40, 3), (3, .dup, 1), (4, .iload_n 1, 1), (5, .aload_n 0, 1), (6, .getfield 51, 3), (9, .aload_n 0, 1), (10, .getfield 54, 3), (13, .aload_n 0, 1), (14, .getfield 42, 3), (17, .aload_n 0, 1), (18, .getfield 48, 3), (21, .invokestatic 67, 3), (24, .aload_n 0, 1), (25, .getfield 45, 3), (28, .aload_n 0, 1), (29, .getfield 48, 3), (32, .invokestatic 67, 3), (35, .aload_n 0, 1), (36, .getfield 34, 3), (39, .aload_n 0, 1), (40, .getfield 37, 3), (43, .invokestatic 67, 3), (46, .invokespecial 73, 3), (49, .areturn, 1)], [(34, 7, 7, false), (37, 7, 8, false), (42, 7, 9, false), (45, 7, 10, false), (48, 7, 11, false), (51, 7, 12, false), (54, 7, 13, false)], [], [(73 + 200000, 6 + 1, 0, 0, s_X8_init), (67 + 100000, 2, 1, 400, s_J7_copyOf_59c91)], [(40, .inr 8)], 4, 4, 1206)
theorem mk_X7_textTold : ∀ q ∈ k_X7_textTold.2.2.2.1, eg_mono q.2.2.2.2 := (fc (mo_X8_init) (fc (mo_J7_copyOf_59c91) (fn)))
def s_X7_textTold : eg_S := fun argv M Qp => match argv with
  | [.ref 25, .int a] => (eg_cn (eg_gi M 25 11) 12 ∧ eg_cn (eg_gi M 25 8) 400) ∧ ∀ (f3 f4 f5 : Nat → Int32), ((∀ j, j < (eg_gi M 25 11).toNatClampNeg → f3 j = eg_gi M 28 j ∧ f4 j = eg_gi M 29 j) ∧ ∀ j, j < (eg_gi M 25 8).toNatClampNeg → f5 j = eg_gi M 27 j) → Qp (.inl (some (.ref (eg_N wd M)))) (k_tt M a f3 f4 f5)
  | _ => False
theorem mo_X7_textTold : eg_mono s_X7_textTold := by
  intro argv M Q Q' h
  unfold s_X7_textTold
  split
  · exact fun z => ⟨z.1, fun f3 f4 f5 y => h _ _ (z.2 f3 f4 f5 y)⟩
  · exact id
theorem sz_X7_textTold : ∀ argv M Qp, s_X7_textTold argv M Qp → (eg_ls0 argv).length ≤ 2 := by
  intro argv M Qp h
  unfold s_X7_textTold at h
  split at h
  · exact Nat.le_of_ble_eq_true rfl
  · exact h.elim
theorem sr_X7_textTold : ∀ argv M Qp, s_X7_textTold argv M Qp → ∃ p0 As, argv = .ref p0 :: As ∧ eg_isO wd M p0 7 = true := by
  intro argv M Qp h
  unfold s_X7_textTold at h
  split at h
  · exact ⟨_, _, rfl, rfl⟩
  · exact h.elim
theorem cn_lt0 {x : Int32} {m : Nat} (h : eg_cn x m) (hm : m < 2 ^ 31) : ¬ x < 0 ∧ x.toNatClampNeg ≤ m := by
  obtain ⟨n, hn, rfl⟩ := h
  refine ⟨fun z => ?_, by rw [n_c (by omega)]; exact hn⟩
  have : nI 0 ≤ nI n := (n_le (by decide) (by omega)).mpr (Nat.zero_le _)
  exact absurd z (Int32.not_lt.mpr this)
set_option maxRecDepth 100000 in
set_option maxHeartbeats 1000000 in
theorem T_X7_textTold {argv : List Value} {M : eg_M} {Qp : eg_P} (h : s_X7_textTold argv M Qp) : eg_T wd k_X7_textTold Qp 0 0 0 (eg_lsN 2 argv) [] M := by
  unfold s_X7_textTold at h
  split at h
  · rename_i a
    obtain ⟨⟨h1, h2⟩, hq⟩ := h
    obtain ⟨c1, c2⟩ := cn_lt0 h1 (by decide)
    obtain ⟨c3, c4⟩ := cn_lt0 h2 (by decide)
    have hN := N_178 M
    have w1 := gw_m1 M
    have w2 := fun F f3 => gw_tr w1 (gw_mc (k_m1 M) F f3)
    have w3 := fun F f3 f4 => gw_tr (w2 F f3) (gw_mc (k_mc (k_m1 M) F f3) F f4)
    have e11 : eg_gi (k_m1 M) 25 11 = eg_gi M 25 11 := gw_gi w1 (by omega) 11
    have e12 : eg_gi (k_m1 M) 25 12 = eg_gi M 25 12 := gw_gi w1 (by omega) 12
    have e13 : eg_gi (k_m1 M) 25 13 = eg_gi M 25 13 := gw_gi w1 (by omega) 13
    refine eg_T_run mk_X7_textTold (cut := []) 30 ?_
    refine And.intro (show eg_is wd (k_m1 M) 28 1 = true ∧ ¬ eg_gi (k_m1 M) 25 11 < 0 ∧ (eg_gi (k_m1 M) 25 11).toNatClampNeg ≤ 12 ∧ 12 ≤ 400 from ⟨rfl, by rw [e11]; exact c1, by rw [e11]; exact c2, by decide⟩) ?_
    intro f3 h3
    have h3 : ∀ j, j < (eg_gi (k_m1 M) 25 11).toNatClampNeg → f3 j = eg_gi (k_m1 M) 28 j := h3
    have f11 : eg_gi (k_mc (k_m1 M) (eg_gi (k_m1 M) 25 11).toNatClampNeg f3) 25 11 = eg_gi M 25 11 := gw_gi (w2 _ f3) (by omega) 11
    refine And.intro (show eg_is wd (k_mc (k_m1 M) (eg_gi (k_m1 M) 25 11).toNatClampNeg f3) 29 1 = true ∧ ¬ eg_gi (k_mc (k_m1 M) (eg_gi (k_m1 M) 25 11).toNatClampNeg f3) 25 11 < 0 ∧ (eg_gi (k_mc (k_m1 M) (eg_gi (k_m1 M) 25 11).toNatClampNeg f3) 25 11).toNatClampNeg ≤ 12 ∧ 12 ≤ 400 from ⟨rfl, by rw [f11]; exact c1, by rw [f11]; exact c2, by decide⟩) ?_
    intro f4 h4
    have h4 : ∀ j, j < (eg_gi (k_mc (k_m1 M) (eg_gi (k_m1 M) 25 11).toNatClampNeg f3) 25 11).toNatClampNeg → f4 j = eg_gi (k_mc (k_m1 M) (eg_gi (k_m1 M) 25 11).toNatClampNeg f3) 29 j := h4
    have hm3 : k_mc (k_mc (k_m1 M) (eg_gi (k_m1 M) 25 11).toNatClampNeg f3) (eg_gi (k_mc (k_m1 M) (eg_gi (k_m1 M) 25 11).toNatClampNeg f3) 25 11).toNatClampNeg f4 = k_mc (k_mc (k_m1 M) (eg_gi M 25 11).toNatClampNeg f3) (eg_gi M 25 11).toNatClampNeg f4 := by
      rw [f11, e11]
    have g8 : eg_gi (k_mc (k_mc (k_m1 M) (eg_gi (k_m1 M) 25 11).toNatClampNeg f3) (eg_gi (k_mc (k_m1 M) (eg_gi (k_m1 M) 25 11).toNatClampNeg f3) 25 11).toNatClampNeg f4) 25 8 = eg_gi M 25 8 := by
      rw [hm3]
      exact gw_gi (w3 _ f3 f4) (by omega) 8
    refine And.intro (show eg_is wd (k_mc (k_mc (k_m1 M) (eg_gi (k_m1 M) 25 11).toNatClampNeg f3) (eg_gi (k_mc (k_m1 M) (eg_gi (k_m1 M) 25 11).toNatClampNeg f3) 25 11).toNatClampNeg f4) 27 1 = true ∧ ¬ eg_gi (k_mc (k_mc (k_m1 M) (eg_gi (k_m1 M) 25 11).toNatClampNeg f3) (eg_gi (k_mc (k_m1 M) (eg_gi (k_m1 M) 25 11).toNatClampNeg f3) 25 11).toNatClampNeg f4) 25 8 < 0 ∧ (eg_gi (k_mc (k_mc (k_m1 M) (eg_gi (k_m1 M) 25 11).toNatClampNeg f3) (eg_gi (k_mc (k_m1 M) (eg_gi (k_m1 M) 25 11).toNatClampNeg f3) 25 11).toNatClampNeg f4) 25 8).toNatClampNeg ≤ 400 ∧ 400 ≤ 400 from ⟨rfl, by rw [g8]; exact c3, by rw [g8]; exact c4, by decide⟩) ?_
    intro f5 h5
    have h5 : ∀ j, j < (eg_gi (k_mc (k_mc (k_m1 M) (eg_gi (k_m1 M) 25 11).toNatClampNeg f3) (eg_gi (k_mc (k_m1 M) (eg_gi (k_m1 M) 25 11).toNatClampNeg f3) 25 11).toNatClampNeg f4) 25 8).toNatClampNeg → f5 j = eg_gi (k_mc (k_mc (k_m1 M) (eg_gi (k_m1 M) 25 11).toNatClampNeg f3) (eg_gi (k_mc (k_m1 M) (eg_gi (k_m1 M) 25 11).toNatClampNeg f3) 25 11).toNatClampNeg f4) 27 j := h5
    have hN2 : eg_N wd (k_m1 M) = eg_N wd M + 1 := m1_N M
    refine And.intro (show eg_isO wd (k_mc (k_mc (k_mc (k_m1 M) (eg_gi (k_m1 M) 25 11).toNatClampNeg f3) (eg_gi (k_mc (k_m1 M) (eg_gi (k_m1 M) 25 11).toNatClampNeg f3) 25 11).toNatClampNeg f4) (eg_gi (k_mc (k_mc (k_m1 M) (eg_gi (k_m1 M) 25 11).toNatClampNeg f3) (eg_gi (k_mc (k_m1 M) (eg_gi (k_m1 M) 25 11).toNatClampNeg f3) 25 11).toNatClampNeg f4) 25 8).toNatClampNeg f5) (eg_N wd M) 8 = true ∧ (eg_sh wd (k_mc (k_mc (k_mc (k_m1 M) (eg_gi (k_m1 M) 25 11).toNatClampNeg f3) (eg_gi (k_mc (k_m1 M) (eg_gi (k_m1 M) 25 11).toNatClampNeg f3) 25 11).toNatClampNeg f4) (eg_gi (k_mc (k_mc (k_m1 M) (eg_gi (k_m1 M) 25 11).toNatClampNeg f3) (eg_gi (k_mc (k_m1 M) (eg_gi (k_m1 M) 25 11).toNatClampNeg f3) 25 11).toNatClampNeg f4) 25 8).toNatClampNeg f5) (eg_N wd M)).2.2 = [] from ?_) ?_
    · have hs : ∀ (F1 F2 F3 : Nat), eg_sh wd (k_mc (k_mc (k_mc (k_m1 M) F1 f3) F2 f4) F3 f5) (eg_N wd M) = (0, 8, []) := fun F1 F2 F3 => by
        have g := gw_tr (gw_tr (gw_mc (k_m1 M) F1 f3) (gw_mc _ F2 f4)) (gw_mc _ F3 f5)
        rw [(g.2 (eg_N wd M) (by rw [hN2]; omega)).1]
        exact m1_sh M
      unfold eg_isO
      rw [hs]
      exact ⟨rfl, rfl⟩
    · show Qp (.inl (some (.ref (eg_N wd M)))) (k_nt (k_mc (k_mc (k_mc (k_m1 M) (eg_gi (k_m1 M) 25 11).toNatClampNeg f3) (eg_gi (k_mc (k_m1 M) (eg_gi (k_m1 M) 25 11).toNatClampNeg f3) 25 11).toNatClampNeg f4) (eg_gi (k_mc (k_mc (k_m1 M) (eg_gi (k_m1 M) 25 11).toNatClampNeg f3) (eg_gi (k_mc (k_m1 M) (eg_gi (k_m1 M) 25 11).toNatClampNeg f3) 25 11).toNatClampNeg f4) 25 8).toNatClampNeg f5) (eg_N wd M) a (eg_gi (k_m1 M) 25 12) (eg_gi (k_m1 M) 25 13) (eg_N wd (k_m1 M)) (eg_N wd (k_mc (k_m1 M) (eg_gi (k_m1 M) 25 11).toNatClampNeg f3)) (eg_N wd (k_mc (k_mc (k_m1 M) (eg_gi (k_m1 M) 25 11).toNatClampNeg f3) (eg_gi (k_mc (k_m1 M) (eg_gi (k_m1 M) 25 11).toNatClampNeg f3) 25 11).toNatClampNeg f4)))
      rw [hm3] at g8 h5 ⊢
      rw [g8] at h5 ⊢
      rw [f11] at h4
      rw [e11] at h3 h4
      rw [e12, e13, mc_N, mc_N, mc_N, m1_N]
      have r28 : ∀ j, eg_gi (k_m1 M) 28 j = eg_gi M 28 j := gw_gi w1 (by omega)
      have r29 : ∀ j, eg_gi (k_mc (k_m1 M) (eg_gi M 25 11).toNatClampNeg f3) 29 j = eg_gi M 29 j := gw_gi (w2 _ f3) (by omega)
      have r27 : ∀ j, eg_gi (k_mc (k_mc (k_m1 M) (eg_gi M 25 11).toNatClampNeg f3) (eg_gi M 25 11).toNatClampNeg f4) 27 j = eg_gi M 27 j := gw_gi (w3 _ f3 f4) (by omega)
      exact hq f3 f4 f5 ⟨fun j hj => ⟨by rw [h3 j hj, r28], by rw [h4 j hj, r29]⟩, fun j hj => by rw [h5 j hj, r27]⟩
  · exact h.elim
theorem de_X7_textTold : ∀ q ∈ k_X7_textTold.1, decode cX7_textTold q.1 = .ok q.2 := by decide +kernel
theorem me_X7_textTold (g : gl_T) : MT g yX7_textTold cX7_textTold 2 (some (.object "TownTwins$RuleText")) ⟨3, 4, 1206, 82⟩ 4 1206 s_X7_textTold := by
  intro hl
  exact eg_met_of (k := k_X7_textTold) (by decide) rfl ⟨Nat.le_refl _, Nat.le_refl _⟩ ⟨_, rfl, Or.inl ⟨_, rfl⟩⟩ sz_X7_textTold de_X7_textTold (fun meth hn => (fc (eg_FL_of wd_c7 (by decide) lf_RX7_34 (fun h => absurd h (by decide))) (fc (eg_FL_of wd_c7 (by decide) lf_RX7_37 (fun h => absurd h (by decide))) (fc (eg_FL_of wd_c7 (by decide) lf_RX7_42 (fun h => absurd h (by decide))) (fc (eg_FL_of wd_c7 (by decide) lf_RX7_45 (fun h => absurd h (by decide))) (fc (eg_FL_of wd_c7 (by decide) lf_RX7_48 (fun h => absurd h (by decide))) (fc (eg_FL_of wd_c7 (by decide) lf_RX7_51 (fun h => absurd h (by decide))) (fc (eg_FL_of wd_c7 (by decide) lf_RX7_54 (fun h => absurd h (by decide))) (fn))))))))) (fun A s H hE => (fn)) (fun p e s m args below meth c Q A ad0 N0 S0 hK hEx hA => (fc (mt_I hl S0 hK hEx hA (me_X8_init g) nt_X8_init lm_RX7_73 li_X8_init ln_RX8 lc_X8_init ⟨rfl, by decide, by decide, by decide +kernel⟩ rfl ⟨rfl, rfl⟩ ⟨by decide, by decide⟩ si_X8_init (by decide)) (fc (mt_S hl S0 hK hEx hA (me_J7_copyOf_59c91 g) lm_RX7_67 ls_J7_copyOf_59c91 ln_RJ7 lc_J7_copyOf_59c91 ⟨rfl, by decide, by decide, by decide +kernel⟩ ⟨rfl, rfl⟩ ⟨by decide, by decide⟩ (by decide)) (fn)))) (fun p e s m args below meth c Qc XC A ad0 N0 P S0 hK hEx hA hlk hout hPX => (fc (mt_N S0 hK hA wd_c8 f3_X8 lq_RX7_40 lz_X8 ln_RX8 de_X7_textTold) (fn))) (fun argv M Qp h => T_X7_textTold h)

/-- a reader at its start -/
def k_st (M : eg_M) (a : Int32) : eg_M := eg_si (eg_si (eg_si (eg_si (eg_si (eg_si (eg_si M 25 1 a) 25 4 (nI 0)) 25 5 (nI 0)) 25 8 (nI 0)) 25 11 (nI 0)) 25 12 (nI 100000)) 25 13 (nI 20)
def k_X7_start : eg_C := ([(0, .aload_n 0, 1), (1, .iload_n 1, 1), (2, .aload_n 0, 1), (3, .getfield 9, 3), (6, .arraylength, 1), (7, .invokestatic 57, 3), (10, .putfield 15, 3), (13, .aload_n 0, 1), (14, .iconst 0, 1), (15, .putfield 25, 3), (18, .aload_n 0, 1), (19, .iconst 0, 1), (20, .putfield 28, 3), (23, .aload_n 0, 1), (24, .iconst 0, 1), (25, .putfield 37, 3), (28, .aload_n 0, 1), (29, .iconst 0, 1), (30, .putfield 48, 3), (33, .aload_n 0, 1), (34, .ldc 63, 2), (36, .putfield 51, 3), (39, .aload_n 0, 1), (40, .bipush 20, 2), (42, .putfield 54, 3), (45, .aload_n 0, 1), (46, .invokevirtual 64, 3), (49, .return_, 1)], [(9, 7, 0, false), (15, 7, 1, true), (25, 7, 4, true), (28, 7, 5, true), (37, 7, 8, true), (48, 7, 11, true), (51, 7, 12, true), (54, 7, 13, true)], [(63, .int (nI 100000))], [(57 + 100000, 2, 0, 0, s_J9_min_7cf53), (64, 0 + 1, 0, 0, s_X7_advance)], [], 0, 0, 0)
theorem mk_X7_start : ∀ q ∈ k_X7_start.2.2.2.1, eg_mono q.2.2.2.2 := (fc (mo_J9_min_7cf53) (fc (mo_X7_advance) (fn)))
set_option maxRecDepth 100000 in
theorem st_X7_start_0 {Qp : eg_P} {M : eg_M} (a : Int32)
  (g0 : (eg_gi (eg_si (eg_si (eg_si (eg_si (eg_si (eg_si (eg_si M 25 1 (if (nI 400) < a then (nI 400) else a)) 25 4 (nI 0)) 25 5 (nI 0)) 25 8 (nI 0)) 25 11 (nI 0)) 25 12 (nI 100000)) 25 13 (nI 20)) 25 5 = 0 → ∃ p n, p ≤ n ∧ n ≤ 400 ∧ eg_gi (eg_si (eg_si (eg_si (eg_si (eg_si (eg_si (eg_si M 25 1 (if (nI 400) < a then (nI 400) else a)) 25 4 (nI 0)) 25 5 (nI 0)) 25 8 (nI 0)) 25 11 (nI 0)) 25 12 (nI 100000)) 25 13 (nI 20)) 25 4 = nI p ∧ eg_gi (eg_si (eg_si (eg_si (eg_si (eg_si (eg_si (eg_si M 25 1 (if (nI 400) < a then (nI 400) else a)) 25 4 (nI 0)) 25 5 (nI 0)) 25 8 (nI 0)) 25 11 (nI 0)) 25 12 (nI 100000)) 25 13 (nI 20)) 25 1 = nI n))
  (l0 : Qp (.inl none) (k_ad (eg_si (eg_si (eg_si (eg_si (eg_si (eg_si (eg_si M 25 1 (if (nI 400) < a then (nI 400) else a)) 25 4 (nI 0)) 25 5 (nI 0)) 25 8 (nI 0)) 25 11 (nI 0)) 25 12 (nI 100000)) 25 13 (nI 20)))) :
  eg_T wd k_X7_start Qp 0 0 0 [some (.ref 25), some (.int a)] [] M := by
  refine eg_T_run mk_X7_start (cut := []) 31 ?_
  refine And.intro (show (eg_gi (eg_si (eg_si (eg_si (eg_si (eg_si (eg_si (eg_si M 25 1 (if (nI 400) < a then (nI 400) else a)) 25 4 (nI 0)) 25 5 (nI 0)) 25 8 (nI 0)) 25 11 (nI 0)) 25 12 (nI 100000)) 25 13 (nI 20)) 25 5 = 0 → ∃ p n, p ≤ n ∧ n ≤ 400 ∧ eg_gi (eg_si (eg_si (eg_si (eg_si (eg_si (eg_si (eg_si M 25 1 (if (nI 400) < a then (nI 400) else a)) 25 4 (nI 0)) 25 5 (nI 0)) 25 8 (nI 0)) 25 11 (nI 0)) 25 12 (nI 100000)) 25 13 (nI 20)) 25 4 = nI p ∧ eg_gi (eg_si (eg_si (eg_si (eg_si (eg_si (eg_si (eg_si M 25 1 (if (nI 400) < a then (nI 400) else a)) 25 4 (nI 0)) 25 5 (nI 0)) 25 8 (nI 0)) 25 11 (nI 0)) 25 12 (nI 100000)) 25 13 (nI 20)) 25 1 = nI n) from ?_) ?_
  · exact g0
  show Qp (.inl none) (k_ad (eg_si (eg_si (eg_si (eg_si (eg_si (eg_si (eg_si M 25 1 (if (nI 400) < a then (nI 400) else a)) 25 4 (nI 0)) 25 5 (nI 0)) 25 8 (nI 0)) 25 11 (nI 0)) 25 12 (nI 100000)) 25 13 (nI 20)))
  exact l0

def s_X7_start : eg_S := fun argv M Qp => match argv with
  | [.ref 25, .int a] => (∃ n, n ≤ 400 ∧ a = nI n) ∧ Qp (.inl none) (k_ad (k_st M a))
  | _ => False
theorem mo_X7_start : eg_mono s_X7_start := by
  intro argv M Q Q' h
  unfold s_X7_start
  split
  · exact fun z => ⟨z.1, h _ _ z.2⟩
  · exact id
theorem sz_X7_start : ∀ argv M Qp, s_X7_start argv M Qp → (eg_ls0 argv).length ≤ 2 := by
  intro argv M Qp h
  unfold s_X7_start at h
  split at h
  · exact Nat.le_of_ble_eq_true rfl
  · exact h.elim
theorem sr_X7_start : ∀ argv M Qp, s_X7_start argv M Qp → ∃ p0 As, argv = .ref p0 :: As ∧ eg_isO wd M p0 7 = true := by
  intro argv M Qp h
  unfold s_X7_start at h
  split at h
  · exact ⟨_, _, rfl, rfl⟩
  · exact h.elim
set_option maxRecDepth 100000 in
set_option maxHeartbeats 1000000 in
theorem T_X7_start {argv : List Value} {M : eg_M} {Qp : eg_P} (h : s_X7_start argv M Qp) : eg_T wd k_X7_start Qp 0 0 0 (eg_lsN 2 argv) [] M := by
  unfold s_X7_start at h
  split at h
  · rename_i a
    obtain ⟨hp, hq⟩ := h
    obtain ⟨n, hn, rfl⟩ := hp
    have e : (if nI 400 < nI n then nI 400 else nI n) = nI n := if_neg (by rw [n_lt (by decide) (by omega)]; omega)
    have st := st_X7_start_0 (Qp := Qp) (M := M) (nI n)
    rw [e] at st
    exact st (fun _ => ⟨0, n, Nat.zero_le _, hn, rfl, rfl⟩) hq
  · exact h.elim
theorem de_X7_start : ∀ q ∈ k_X7_start.1, decode cX7_start q.1 = .ok q.2 := by decide +kernel
theorem me_X7_start (g : gl_T) : MT g yX7_start cX7_start 2 none ⟨2, 0, 0, 40⟩ 0 0 s_X7_start := by
  intro hl
  exact eg_met_of (k := k_X7_start) (by decide) rfl ⟨Nat.le_refl _, Nat.le_refl _⟩ rfl sz_X7_start de_X7_start (fun meth hn => (fc (eg_FL_of wd_c7 (by decide) lf_RX7_9 (fun h => absurd h (by decide))) (fc (eg_FL_of wd_c7 (by decide) lf_RX7_15 (fun _ => Or.inl rfl)) (fc (eg_FL_of wd_c7 (by decide) lf_RX7_25 (fun _ => Or.inl rfl)) (fc (eg_FL_of wd_c7 (by decide) lf_RX7_28 (fun _ => Or.inl rfl)) (fc (eg_FL_of wd_c7 (by decide) lf_RX7_37 (fun _ => Or.inl rfl)) (fc (eg_FL_of wd_c7 (by decide) lf_RX7_48 (fun _ => Or.inl rfl)) (fc (eg_FL_of wd_c7 (by decide) lf_RX7_51 (fun _ => Or.inl rfl)) (fc (eg_FL_of wd_c7 (by decide) lf_RX7_54 (fun _ => Or.inl rfl)) (fn)))))))))) (fun A s H hE => (fc (List.mem_cons_of_mem _ lk_RX7_63) (fn))) (fun p e s m args below meth c Q A ad0 N0 S0 hK hEx hA => (fc (mt_J9_min_7cf53 S0 lm_RX7_57 (by decide) (by decide) (by decide)) (fc (mt_V hl S0 hK hEx hA (me_X7_advance g) lm_RX7_64 li_X7_advance lx_X7_advance ln_RX7 lc_X7_advance ⟨rfl, by decide, by decide, by decide +kernel⟩ ⟨rfl, rfl⟩ ⟨by decide, by decide⟩ (ci := 7) rfl rfl sr_X7_advance (by decide)) (fn)))) (fun p e s m args below meth c Qc XC A ad0 N0 P S0 hK hEx hA hlk hout hPX => (fn)) (fun argv M Qp h => T_X7_start h)

theorem st_rs {M : eg_M} {n : Nat} (hn : n ≤ 400) (hT : k_tb M) : k_rs (k_ad (k_st M (nI n))) (.inr (lx (eg_gi M 26) n 0, [])) := by
  have hl : k_lx (k_st M (nI n)) = lx (eg_gi M 26) n 0 := by
    show lx (eg_gi M 26) (nI n).toNatClampNeg (nI 0).toNatClampNeg = _
    rw [n_c (by omega), n_c (by decide)]
  have hk := lx_ok (T := eg_gi M 26) (n := n) (Nat.zero_le n)
  have h44 := lx_4 (T := eg_gi M 26) (n := n) (fun j hj => hT j (by omega)) (Nat.zero_le n)
  unfold k_ad
  rw [if_pos (show eg_gi (k_st M (nI n)) 25 5 = 0 from rfl), hl]
  exact ⟨n, hn, rfl, rfl, rfl, rfl, rfl, hk.2.1, hk.2.2.1, h44, rfl, Nat.zero_le _, fun j h => absurd h (Nat.not_lt_zero _)⟩
/-- the class: the reader has read c -/
def k_rc (M : eg_M) (c : px_C) : Prop := k_rs M (px_vw c) ∧ eg_cn (eg_gi M 25 11) 12 ∧ (match c with
  | .inl _ => True
  | .inr (_, CL, p, r) => eg_gi M 25 11 = nI CL.length ∧ CL.length ≤ 12 ∧ (∀ i (h : i < CL.length), eg_gi M 28 i = CL[i].1 ∧ eg_gi M 29 i = nI (px_fl (CL.take (i + 1))).length) ∧ eg_gi M 25 12 = p ∧ eg_gi M 25 13 = r)
theorem st_rc {M : eg_M} {n : Nat} (hn : n ≤ 400) (hT : k_tb M) : k_rc (k_ad (k_st M (nI n))) (.inr (lx (eg_gi M 26) n 0, [], nI 100000, nI 20)) := by
  have hs := st_rs hn hT
  have e : ∀ j, ¬ j = 2 → ¬ j = 3 → ¬ j = 4 → ¬ j = 5 → ¬ j = 6 → ¬ j = 8 → eg_gi (k_ad (k_st M (nI n))) 25 j = eg_gi (k_st M (nI n)) 25 j := (sk_fr (fr_ad _)).1
  have e11 : eg_gi (k_ad (k_st M (nI n))) 25 11 = nI 0 := e 11 (by decide) (by decide) (by decide) (by decide) (by decide) (by decide)
  have e12 : eg_gi (k_ad (k_st M (nI n))) 25 12 = nI 100000 := e 12 (by decide) (by decide) (by decide) (by decide) (by decide) (by decide)
  have e13 : eg_gi (k_ad (k_st M (nI n))) 25 13 = nI 20 := e 13 (by decide) (by decide) (by decide) (by decide) (by decide) (by decide)
  exact ⟨hs, ⟨0, by decide, e11⟩, e11, Nat.zero_le _, fun i h => absurd h (Nat.not_lt_zero _), e12, e13⟩
/-- what a clause that was read has left -/
theorem px_sc_in {T : Nat → Int32} {n : Nat} {u v : px_T} {X Y : List px_K × Int32 × Int32} (h : px_sc T n u X = .inr (v, Y)) : Y = X := by
  unfold px_sc at h
  split at h
  · cases h
    rfl
  · cases h
theorem px_fo_in {T : Nat → Int32} {n : Nat} {t v : px_T} {k p r : Int32} {CL : List px_K} {Y : List px_K × Int32 × Int32} (h : px_fo T n t k CL p r = .inr (v, Y)) : ∃ P Q, Y = (CL ++ [(k, P, Q)], p, r) := by
  unfold px_fo at h
  split at h
  · cases h
  · rename_i u P _
    split at h
    · split at h
      · cases h
      · rename_i w Q _
        exact ⟨P, Q, px_sc_in h⟩
    · exact ⟨P, [], px_sc_in h⟩
theorem px_nu_in {T : Nat → Int32} {n : Nat} {t v : px_T} {b : Bool} {p r : Int32} {CL : List px_K} {Y : List px_K × Int32 × Int32} (h : px_nu T n t b CL p r = .inr (v, Y)) : (lx T n t.2.1).2.2 = -nI 3 ∧ (lx T n t.2.1).2.1 ≤ (lx T n t.2.1).1 + 6 ∧ Y = (CL, (if b = true then px_n T (lx T n t.2.1).1 ((lx T n t.2.1).2.1 - (lx T n t.2.1).1) else p), (if b = true then r else px_n T (lx T n t.2.1).1 ((lx T n t.2.1).2.1 - (lx T n t.2.1).1))) := by
  unfold px_nu at h
  split at h
  · rename_i h3
    split at h
    · cases h
    · rename_i h6
      exact ⟨h3, by omega, px_sc_in h⟩
  · cases h
theorem px_cl_in {T : Nat → Int32} {n : Nat} {ok : Bool} {t v : px_T} {p r : Int32} {CL : List px_K} {Y : List px_K × Int32 × Int32} (h : px_cl T n ok (.inr (t, CL, p, r)) = .inr (v, Y)) : ok = true ∧ (((px_w T 4 t = true ∨ px_w T 25 t = true) ∧ ∃ P Q, Y = (CL ++ [((if px_w T 4 t = true then nI 0 else nI 1), P, Q)], p, r)) ∨ (¬ (px_w T 4 t = true ∨ px_w T 25 t = true) ∧ (lx T n t.2.1).2.2 = -nI 3 ∧ (lx T n t.2.1).2.1 ≤ (lx T n t.2.1).1 + 6 ∧ Y = (CL, (if px_w T 22 t = true then px_n T (lx T n t.2.1).1 ((lx T n t.2.1).2.1 - (lx T n t.2.1).1) else p), (if px_w T 22 t = true then r else px_n T (lx T n t.2.1).1 ((lx T n t.2.1).2.1 - (lx T n t.2.1).1))))) := by
  unfold px_cl at h
  dsimp only at h
  unfold px_hd at h
  cases ok with
  | false =>
    split at h
    · cases h
    · rw [if_neg Bool.noConfusion] at h
      cases h
  | true =>
    refine ⟨rfl, ?_⟩
    cases w4 : px_w T 4 t with
    | true =>
      rw [w4, if_pos rfl] at h
      exact Or.inl ⟨Or.inl rfl, by rw [if_pos rfl]; exact px_fo_in h⟩
    | false =>
      rw [w4, if_neg Bool.noConfusion] at h
      cases w25 : px_w T 25 t with
      | true =>
        rw [w25, if_pos rfl] at h
        exact Or.inl ⟨Or.inr rfl, by rw [if_neg Bool.noConfusion]; exact px_fo_in h⟩
      | false =>
        rw [w25, if_neg Bool.noConfusion] at h
        refine Or.inr ⟨fun z => by rcases z with z | z <;> exact Bool.noConfusion z, ?_⟩
        cases w22 : px_w T 22 t with
        | true =>
          rw [w22, if_pos rfl] at h
          exact px_nu_in h
        | false =>
          rw [w22, if_neg Bool.noConfusion] at h
          cases w23 : px_w T 23 t with
          | true =>
            rw [w23, if_pos rfl] at h
            exact px_nu_in h
          | false =>
            rw [w23, if_neg Bool.noConfusion] at h
            cases h
/-- the class: a clause more -/
theorem rc_cl {M M2 : eg_M} {n i : Nat} {t : px_T} {CL : List px_K} {p r : Int32} (hn : n ≤ 400) (hT : k_tb M) (e1 : eg_gi M 25 1 = nI n) (hc : k_rc M (.inr (t, CL, p, r))) (ho : px_ok (eg_gi M 26) n (.inr (t, CL, p, r))) (hi : i ≤ 12) (hl : CL.length ≤ i)
    (h : k_fz M M2 ∧ (∀ s, k_rs M s → k_rs M2 (px_clS (eg_gi M 26) (eg_gi M 25 1).toNatClampNeg (decide (nI i < nI 12)) s)) ∧ eg_cn (eg_gi M2 25 11) 12 ∧ (eg_gi M2 25 5 = 0 → k_kz M M2)) : k_rc M2 (px_cl (eg_gi M 26) n (decide (i < 12)) (.inr (t, CL, p, r))) := by
  obtain ⟨h1, h2, h3, h4⟩ := h
  obtain ⟨c1, c2, c3, c4, c5, c6, c7⟩ := hc
  have hdi : decide (nI i < nI 12) = decide (i < 12) := by
    rw [decide_eq_decide]
    exact n_lt (by omega) (by decide)
  have hs := h2 _ c1
  rw [e1, n_c (by omega), hdi] at hs
  have hq := px_cl_eq hn (fun j hj => hT j (by omega)) (decide (i < 12)) ho
  have hs : k_rs M2 (px_vw (px_cl (eg_gi M 26) n (decide (i < 12)) (.inr (t, CL, p, r)))) := by
    rw [← hq.1]
    exact hs
  refine ⟨hs, h3, ?_⟩
  cases hx : px_cl (eg_gi M 26) n (decide (i < 12)) (.inr (t, CL, p, r)) with
  | inl e => trivial
  | inr x =>
    obtain ⟨v, CL', p', r'⟩ := x
    rw [hx] at hs
    have hs : k_rs M2 (.inr (v, px_fl CL')) := hs
    have h5 := rs_r5 hs
    have hz := h4 h5
    obtain ⟨hok, hin⟩ := px_cl_in hx
    have hi12 : i < 12 := of_decide_eq_true hok
    have hw : ∀ w, k_iw M w = px_w (eg_gi M 26) w t := fun w => rs_iw (s := .inr (t, px_fl CL)) c1 w
    unfold k_kz at hz
    rw [hw, hw, hw] at hz
    have hF : (eg_gi M 25 11).toNatClampNeg = CL.length := by rw [c3, n_c (by omega)]
    rcases hin with ⟨g1, P, Q, hY⟩ | ⟨g1, g2, g3, hY⟩
    · rw [if_pos g1] at hz
      cases hY
      obtain ⟨z1, z2, z3⟩ := hz
      obtain ⟨z4, z5, z6⟩ := z1 (by rw [c3, n_le (by decide) (by omega)]; omega)
      have hl1 : (CL ++ [((if px_w (eg_gi M 26) 4 t = true then nI 0 else nI 1), P, Q)]).length = CL.length + 1 := by simp
      refine ⟨by rw [z4, c3, n_s, hl1], by omega, fun j hj => ?_, z2.trans c6, z3.trans c7⟩
      rw [hl1] at hj
      rw [z5, z6, hF]
      by_cases hjl : j = CL.length
      · subst hjl
        rw [if_pos rfl, if_pos rfl, List.getElem_append_right (Nat.le_refl _), List.take_of_length_le (by omega)]
        exact ⟨by simp, (rs_sz hs).1⟩
      · have hj2 : j < CL.length := by omega
        rw [if_neg hjl, if_neg hjl, List.getElem_append_left hj2, List.take_append_of_le_length (by omega)]
        exact c5 j hj2
    · rw [if_neg g1] at hz
      cases hY
      obtain ⟨z1, z2, z3, v9, z4, z5, z6⟩ := hz
      have hA := rs_adv hT c1
      rw [e1, n_c (by omega)] at hA
      have hv : v9 = px_n (eg_gi M 26) (lx (eg_gi M 26) n t.2.1).1 ((lx (eg_gi M 26) n t.2.1).2.1 - (lx (eg_gi M 26) n t.2.1).1) := z4 _ _ hA g2 g3
      refine ⟨z1.trans c3, c4, fun j hj => ?_, ?_, ?_⟩
      · rw [z2, z3]
        exact c5 j hj
      · rw [z5, hv, c6]
      · rw [z6, hv, c7]
theorem px_cl_len {T : Nat → Int32} {n i : Nat} {ok : Bool} {t v : px_T} {p r : Int32} {CL : List px_K} {Y : List px_K × Int32 × Int32} (hl : CL.length ≤ i) (h : px_cl T n ok (.inr (t, CL, p, r)) = .inr (v, Y)) : Y.1.length ≤ i + 1 := by
  obtain ⟨_, h⟩ := px_cl_in h
  rcases h with ⟨_, P, Q, rfl⟩ | ⟨_, _, _, rfl⟩
  · simp
    exact hl
  · exact Nat.le_succ_of_le hl
theorem p_ok_up {m e : Nat} : ∀ {A : List Int32} {h : Nat}, p_ok m e A h → p_ok (m + 1) (e + 1) A (h + 1)
  | [], h, h1 => by
    have h1 : h = e := h1
    show h + 1 = e + 1
    omega
  | s :: A, h, h1 => by
    unfold p_ok at h1 ⊢
    split at h1
    · rename_i c
      rw [if_pos c]
      exact ⟨by omega, p_ok_up h1.2⟩
    · rename_i c
      rw [if_neg c]
      split at h1
      · rename_i c2
        rw [if_pos c2]
        exact ⟨h1.1, by omega, p_ok_up h1.2.2⟩
      · rename_i c2
        rw [if_neg c2]
        split at h1
        · rename_i c3
          rw [if_pos c3]
          exact ⟨by omega, p_ok_up h1.2⟩
        · rename_i c3
          rw [if_neg c3]
          have := p_ok_up h1.2.2
          rw [show h - 1 + 1 = h + 1 - 1 by omega] at this
          exact ⟨h1.1, by omega, this⟩
theorem k_ok_of {m m' e : Nat} (hm : m ≤ m') : ∀ {A : List Int32} {h : Nat}, p_ok m e A h → k_ok m' e A h
  | [], h, h1 => h1
  | s :: A, h, h1 => by
    unfold p_ok at h1
    unfold k_ok
    split at h1
    · rename_i c
      rw [if_pos c]
      exact ⟨by omega, k_ok_of hm h1.2⟩
    · rename_i c
      rw [if_neg c]
      split at h1
      · rename_i c2
        rw [if_pos c2]
        exact ⟨h1.1, by omega, k_ok_of hm h1.2.2⟩
      · rename_i c2
        rw [if_neg c2]
        split at h1
        · rename_i c3
          rw [if_pos c3]
          exact ⟨h1.1, k_ok_of hm h1.2⟩
        · rename_i c3
          rw [if_neg c3]
          exact ⟨h1.2.1, k_ok_of hm h1.2.2⟩
theorem k_ok_a {m e1 e2 : Nat} : ∀ {A B : List Int32} {h : Nat}, k_ok m e1 A h → k_ok m e2 B e1 → k_ok m e2 (A ++ B) h
  | [], B, h, h1, h2 => by
    have h1 : h = e1 := h1
    rw [h1]
    exact h2
  | s :: A, B, h, h1, h2 => by
    show k_ok m e2 (s :: (A ++ B)) h
    unfold k_ok at h1 ⊢
    split at h1
    · rename_i c
      rw [if_pos c]
      exact ⟨h1.1, k_ok_a h1.2 h2⟩
    · rename_i c
      rw [if_neg c]
      split at h1
      · rename_i c2
        rw [if_pos c2]
        exact ⟨h1.1, h1.2.1, k_ok_a h1.2.2 h2⟩
      · rename_i c2
        rw [if_neg c2]
        split at h1
        · rename_i c3
          rw [if_pos c3]
          exact ⟨h1.1, k_ok_a h1.2 h2⟩
        · rename_i c3
          rw [if_neg c3]
          exact ⟨h1.1, k_ok_a h1.2 h2⟩
theorem ko_cs {c : px_K} (h : px_ko c) : k_ok 40 1 (px_cs c) 0 := by
  obtain ⟨_, h1, h2⟩ := h
  unfold px_cs
  rcases h2 with h2 | h2
  · rw [if_pos h2]
    exact k_ok_of (by decide) h1
  · rw [if_neg (p_ok_ne h2)]
    refine k_ok_a (k_ok_a (k_ok_of (by decide) h1) (k_ok_of (m := 32) (by decide) (p_ok_up h2))) ?_
    unfold k_ok
    rw [if_neg (by decide), if_neg (by decide), if_neg (by decide)]
    exact ⟨by decide, rfl⟩
/-- a text more on the shelf -/
def k_tnw (N M2 : eg_M) (tx : Nat) (b : Int32) (CL : List px_K) (p r : Int32) : Prop := eg_N wd M2 = eg_N wd N + 4 ∧ (∀ z, z < eg_N wd N → eg_sh wd M2 z = eg_sh wd N z ∧ M2.2.1 z = N.2.1 z ∧ M2.2.2.1 z = N.2.2.1 z ∧ ∀ j, eg_gr M2 z j = if z = 24 ∧ j = tx then some (eg_N wd N) else eg_gr N z j) ∧ eg_isO wd M2 (eg_N wd N) 8 = true ∧ eg_gi M2 (eg_N wd N) 0 = b ∧ eg_gi M2 (eg_N wd N) 1 = p ∧ eg_gi M2 (eg_N wd N) 2 = r ∧ k_rt M2 (eg_N wd N) (CL.map (fun c => (c.1, px_cs c)))
theorem fl_cut (CL : List px_K) (i : Nat) (h : i < CL.length) : px_fl CL = px_fl (CL.take i) ++ (px_cs CL[i] ++ px_fl (CL.drop (i + 1))) ∧ px_fl (CL.take (i + 1)) = px_fl (CL.take i) ++ px_cs CL[i] := by
  have e1 : CL.take (i + 1) = CL.take i ++ [CL[i]] := by rw [List.take_succ, List.getElem?_eq_getElem h]; rfl
  constructor
  · have : px_fl (CL.take (i + 1) ++ CL.drop (i + 1)) = px_fl CL := by rw [List.take_append_drop]
    rw [← this, e1]
    unfold px_fl
    simp only [List.flatMap_append, List.flatMap_cons, List.flatMap_nil, List.append_nil, List.append_assoc]
  · rw [e1, px_fl_a]
theorem tt_tn {N : eg_M} {tx : Nat} {b p r : Int32} {CL : List px_K} {t : px_T} {f3 f4 f5 : Nat → Int32} (hc : k_rc N (.inr (t, CL, p, r))) (hko : ∀ c ∈ CL, px_ko c) (hf : (∀ j, j < (eg_gi N 25 11).toNatClampNeg → f3 j = eg_gi N 28 j ∧ f4 j = eg_gi N 29 j) ∧ ∀ j, j < (eg_gi N 25 8).toNatClampNeg → f5 j = eg_gi N 27 j) : k_tnw N (eg_sr (k_tt N b f3 f4 f5) 24 tx (some (eg_N wd N))) tx b CL p r := by
  obtain ⟨c1, c2, c3, c4, c5, c6, c7⟩ := hc
  have hF : (eg_gi N 25 11).toNatClampNeg = CL.length := by rw [c3, n_c (by omega)]
  have c1 : k_rs N (.inr (t, px_fl CL)) := c1
  obtain ⟨s1, s2⟩ := rs_sz c1
  have hS : (eg_gi N 25 8).toNatClampNeg = (px_fl CL).length := by rw [s1, n_c (by omega)]
  have s3 : ∀ j (h : j < (px_fl CL).length), eg_gi N 27 j = (px_fl CL)[j] := by
    obtain ⟨n9, h1, h2, h3, h4, h5, h6, h7, h8, h9, ha, hb, hcc⟩ := c1
    exact hcc
  rw [hF] at hf
  rw [hS] at hf
  unfold k_tt
  rw [hF, hS, c6, c7]
  have hq := N_178 N
  generalize hQ : eg_N wd N = q at hq ⊢
  have N1 : eg_N wd (k_m1 N) = q + 1 := by rw [m1_N, hQ]
  have N2 : eg_N wd (k_mc (k_m1 N) CL.length f3) = q + 2 := by rw [mc_N, N1]
  have N3 : eg_N wd (k_mc (k_mc (k_m1 N) CL.length f3) CL.length f4) = q + 3 := by rw [mc_N, N2]
  have N4 : eg_N wd (k_mc (k_mc (k_mc (k_m1 N) CL.length f3) CL.length f4) (px_fl CL).length f5) = q + 4 := by rw [mc_N, N3]
  have w1 := gw_m1 N
  have w2 := gw_mc (k_m1 N) CL.length f3
  have w3 := gw_mc (k_mc (k_m1 N) CL.length f3) CL.length f4
  have w4 := gw_mc (k_mc (k_mc (k_m1 N) CL.length f3) CL.length f4) (px_fl CL).length f5
  have x0 : eg_sh wd (k_mc (k_mc (k_mc (k_m1 N) CL.length f3) CL.length f4) (px_fl CL).length f5) q = (0, 8, []) := by
    rw [((gw_tr w2 (gw_tr w3 w4)).2 q (by omega)).1, ← hQ]
    exact m1_sh N
  have x1 : eg_sh wd (k_mc (k_mc (k_mc (k_m1 N) CL.length f3) CL.length f4) (px_fl CL).length f5) (q + 1) = (1, CL.length, []) ∧ ∀ j, eg_gi (k_mc (k_mc (k_mc (k_m1 N) CL.length f3) CL.length f4) (px_fl CL).length f5) (q + 1) j = f3 j := by
    refine ⟨?_, fun j => ?_⟩
    · rw [((gw_tr w3 w4).2 (q + 1) (by omega)).1, ← N1]
      exact mc_sh _ _ _
    · rw [gw_gi (gw_tr w3 w4) (by omega), ← N1]
      exact mc_gi _ _ _ _
  have x2 : eg_sh wd (k_mc (k_mc (k_mc (k_m1 N) CL.length f3) CL.length f4) (px_fl CL).length f5) (q + 2) = (1, CL.length, []) ∧ ∀ j, eg_gi (k_mc (k_mc (k_mc (k_m1 N) CL.length f3) CL.length f4) (px_fl CL).length f5) (q + 2) j = f4 j := by
    refine ⟨?_, fun j => ?_⟩
    · rw [(w4.2 (q + 2) (by omega)).1, ← N2]
      exact mc_sh _ _ _
    · rw [gw_gi w4 (by omega), ← N2]
      exact mc_gi _ _ _ _
  have x3 : eg_sh wd (k_mc (k_mc (k_mc (k_m1 N) CL.length f3) CL.length f4) (px_fl CL).length f5) (q + 3) = (1, (px_fl CL).length, []) ∧ ∀ j, eg_gi (k_mc (k_mc (k_mc (k_m1 N) CL.length f3) CL.length f4) (px_fl CL).length f5) (q + 3) j = f5 j := by
    refine ⟨?_, fun j => ?_⟩
    · rw [← N3]
      exact mc_sh _ _ _
    · rw [← N3]
      exact mc_gi _ _ _ _
  have w0 := gw_tr w1 (gw_tr w2 (gw_tr w3 w4))
  generalize k_mc (k_mc (k_mc (k_m1 N) CL.length f3) CL.length f4) (px_fl CL).length f5 = A at x0 x1 x2 x3 w0 N4 ⊢
  generalize hX : eg_sr (k_nt A q b p r (q + 1) (q + 2) (q + 3)) 24 tx (some q) = X
  have y1 : X.1 = A.1 := by rw [← hX]; rfl
  have y2 : ∀ z, ¬ z = q → X.2.1 z = A.2.1 z := fun z hz => by
    rw [← hX]
    show eg_up (eg_up (eg_up A.2.1 q 0 b) q 1 p) q 2 r z = _
    rw [eg_up_ne hz, eg_up_ne hz, eg_up_ne hz]
  have y3 : X.2.2.1 = A.2.2.1 := by rw [← hX]; rfl
  have y4 : ∀ z j, ¬ z = q → eg_gr X z j = if z = 24 ∧ j = tx then some q else eg_gr A z j := fun z j hz => by
    have e : eg_gr (k_nt A q b p r (q + 1) (q + 2) (q + 3)) z j = eg_gr A z j := by
      unfold k_nt
      rw [eg_gr_sr, if_neg (fun y => hz y.1), eg_gr_sr, if_neg (fun y => hz y.1), eg_gr_sr, if_neg (fun y => hz y.1)]
      rfl
    rw [← hX, eg_gr_sr, e]
  have y5 : ∀ j, eg_gi X q j = if j = 2 then r else if j = 1 then p else if j = 0 then b else eg_gi A q j := fun j => by
    rw [← hX]
    show eg_gi (eg_si (eg_si (eg_si A q 0 b) q 1 p) q 2 r) q j = _
    rw [si_g, si_g, si_g]
    simp
  have y6 : eg_gr X q 3 = some (q + 1) ∧ eg_gr X q 4 = some (q + 2) ∧ eg_gr X q 5 = some (q + 3) := by
    have e : ∀ j, eg_gr X q j = eg_gr (k_nt A q b p r (q + 1) (q + 2) (q + 3)) q j := fun j => by
      rw [← hX, eg_gr_sr, if_neg (fun y => by have := y.1; omega)]
    rw [e, e, e]
    unfold k_nt
    simp only [eg_gr_sr]
    simp
  have hsh : ∀ z, eg_sh wd X z = eg_sh wd A z := fun z => eg_sh_of y1 z
  have z1 : ∀ j, eg_gi X (q + 1) j = f3 j := fun j => by
    show X.2.1 (q + 1) j = _
    rw [y2 (q + 1) (by omega)]
    exact x1.2 j
  have z2 : ∀ j, eg_gi X (q + 2) j = f4 j := fun j => by
    show X.2.1 (q + 2) j = _
    rw [y2 (q + 2) (by omega)]
    exact x2.2 j
  have z3 : ∀ j, eg_gi X (q + 3) j = f5 j := fun j => by
    show X.2.1 (q + 3) j = _
    rw [y2 (q + 3) (by omega)]
    exact x3.2 j
  have hr : ∀ j, eg_ref (eg_sh wd X q) X q j = eg_gr X q j := fun j => by
    unfold eg_ref
    rw [hsh, x0]
    rfl
  have hml : (CL.map (fun c => (c.1, px_cs c))).length = CL.length := by rw [List.length_map]
  rw [show (k_tnw N X tx b CL p r) = (eg_N wd X = eg_N wd N + 4 ∧ (∀ z, z < eg_N wd N → eg_sh wd X z = eg_sh wd N z ∧ X.2.1 z = N.2.1 z ∧ X.2.2.1 z = N.2.2.1 z ∧ ∀ j, eg_gr X z j = if z = 24 ∧ j = tx then some (eg_N wd N) else eg_gr N z j) ∧ eg_isO wd X (eg_N wd N) 8 = true ∧ eg_gi X (eg_N wd N) 0 = b ∧ eg_gi X (eg_N wd N) 1 = p ∧ eg_gi X (eg_N wd N) 2 = r ∧ k_rt X (eg_N wd N) (CL.map (fun c => (c.1, px_cs c)))) from rfl, hQ]
  refine ⟨by rw [eg_N_of y1, N4], fun z hz => ?_, ?_, by rw [y5]; rfl, by rw [y5]; rfl, by rw [y5]; rfl, q + 1, by rw [hr]; exact y6.1, ?_, Or.inr (by omega), ?_, by omega, fun i hi => ?_⟩
  · obtain ⟨a1, a2, a3, a4⟩ := w0.2 z (by omega)
    refine ⟨(hsh z).trans a1, (y2 z (by omega)).trans a2, (congrFun y3 z).trans a3, fun j => ?_⟩
    rw [y4 z j (by omega)]
    show (if z = 24 ∧ j = tx then some q else A.2.2.2 z j) = (if z = 24 ∧ j = tx then some q else N.2.2.2 z j)
    rw [a4]
  · unfold eg_isO
    rw [hsh, x0]
    rfl
  · unfold eg_is
    rw [hsh, x1.1]
    rfl
  · unfold eg_len
    rw [hsh, x1.1, hml]
  · rw [hml] at hi
    have e9 : (CL.map (fun c => (c.1, px_cs c)))[i]'(by rw [hml]; exact hi) = (CL[i].1, px_cs CL[i]) := List.getElem_map _
    rw [e9]
    obtain ⟨k1, k2⟩ := fl_cut CL i hi
    have hkl : (px_fl CL).length = (px_fl (CL.take i)).length + ((px_cs CL[i]).length + (px_fl (CL.drop (i + 1))).length) := by
      rw [k1, List.length_append, List.length_append]
    refine ⟨?_, ⟨q + 2, q + 3, (px_fl (CL.take i)).length, by rw [hr]; exact y6.2.1, by rw [hr]; exact y6.2.2, ?_, ?_, Or.inr (by omega), Or.inr (by omega), ?_, ?_, ?_, ?_, ?_, ?_, fun j hj => ?_⟩, ko_cs (hko _ (List.getElem_mem hi))⟩
    · rw [z1, (hf.1 i hi).1]
      exact (c5 i hi).1
    · unfold eg_is
      rw [hsh, x2.1]
      rfl
    · unfold eg_is
      rw [hsh, x3.1]
      rfl
    · unfold eg_len
      rw [hsh, x2.1]
      exact hi
    · unfold eg_len
      rw [hsh, x2.1]
      exact c4
    · by_cases h0 : i = 0
      · subst h0
        exact Or.inl ⟨rfl, rfl⟩
      · refine Or.inr ⟨by omega, ?_⟩
        rw [z2, (hf.1 (i - 1) (by omega)).2, (c5 (i - 1) (by omega)).2, show i - 1 + 1 = i by omega]
    · rw [z2, (hf.1 i hi).2, (c5 i hi).2, k2, List.length_append]
    · unfold eg_len
      rw [hsh, x3.1]
      show (px_fl (CL.take i)).length + (px_cs CL[i]).length ≤ (px_fl CL).length
      omega
    · unfold eg_len
      rw [hsh, x3.1]
      exact s2
    · have hj : j < (px_cs CL[i]).length := hj
      rw [z3, hf.2 _ (by omega), s3 _ (by omega)]
      have : ∀ (L : List Int32) (e : px_fl CL = L) (hh : (px_fl (CL.take i)).length + j < L.length), (px_fl CL)[(px_fl (CL.take i)).length + j]'(by rw [e]; exact hh) = L[(px_fl (CL.take i)).length + j] := fun L e hh => by
        subst e
        rfl
      rw [this _ k1 (by rw [List.length_append, List.length_append]; omega), List.getElem_append_right (by omega), List.getElem_append_left (by omega)]
      congr 1
      omega

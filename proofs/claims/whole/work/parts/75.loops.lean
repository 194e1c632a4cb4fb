/-- the class: the reader stands at s -/
def k_rs (M : eg_M) (s : px_S) : Prop := ∃ n, n ≤ 400 ∧ eg_gi M 25 1 = nI n ∧ (match s with
  | .inl (c, p) => 1 ≤ c ∧ c ≤ 3 ∧ p ≤ 400 ∧ eg_gi M 25 5 = nI c ∧ eg_gi M 25 6 = nI p ∧ eg_gi M 25 2 = -nI 4 ∧ eg_cn (eg_gi M 25 8) 400
  | .inr (t, S) => eg_gi M 25 5 = nI 0 ∧ eg_gi M 25 2 = t.2.2 ∧ eg_gi M 25 3 = nI t.1 ∧ eg_gi M 25 4 = nI t.2.1 ∧ t.1 ≤ t.2.1 ∧ t.2.1 ≤ n ∧ ¬ t.2.2 = -nI 4 ∧ eg_gi M 25 8 = nI S.length ∧ S.length ≤ 400 ∧ ∀ j (h : j < S.length), eg_gi M 27 j = S[j])
/-- the class: only the reader has moved -/
def k_fr (M N : eg_M) : Prop := N.1 = M.1 ∧ N.2.2 = M.2.2 ∧ ∀ q j, ¬ q = 27 → ¬ (q = 25 ∧ (j = 2 ∨ j = 3 ∨ j = 4 ∨ j = 5 ∨ j = 6 ∨ j = 8)) → eg_gi N q j = eg_gi M q j
def k_rr (M N : eg_M) (f : px_S → px_S) : Prop := k_fr M N ∧ ∀ s, k_rs M s → k_rs N (f s)
theorem fr_rf (M : eg_M) : k_fr M M := ⟨rfl, rfl, fun _ _ _ _ => rfl⟩
theorem fr_tr {M N O : eg_M} (h1 : k_fr M N) (h2 : k_fr N O) : k_fr M O := ⟨h2.1.trans h1.1, h2.2.1.trans h1.2.1, fun q j a b => (h2.2.2 q j a b).trans (h1.2.2 q j a b)⟩
theorem fr_si {M : eg_M} {j : Nat} {v : Int32} (h : j = 2 ∨ j = 3 ∨ j = 4 ∨ j = 5 ∨ j = 6 ∨ j = 8) : k_fr M (eg_si M 25 j v) := ⟨rfl, rfl, fun q i _ b => by
  rw [si_g, if_neg (fun z => b ⟨z.1, by rw [z.2]; exact h⟩)]⟩
theorem fr_27 {M : eg_M} {j : Nat} {v : Int32} : k_fr M (eg_si M 27 j v) := ⟨rfl, rfl, fun q i a _ => by
  rw [si_g, if_neg (fun z => a z.1)]⟩
theorem fr_26 {M N : eg_M} (h : k_fr M N) : eg_gi N 26 = eg_gi M 26 := funext (fun j => h.2.2 26 j (by decide) (by omega))
theorem fr_1 {M N : eg_M} (h : k_fr M N) : eg_gi N 25 1 = eg_gi M 25 1 := h.2.2 25 1 (by decide) (by omega)
theorem rr_id (M : eg_M) : k_rr M M (fun s => s) := ⟨fr_rf M, fun _ h => h⟩
theorem rr_tr {M N O : eg_M} {f g : px_S → px_S} (h1 : k_rr M N f) (h2 : k_rr N O g) : k_rr M O (fun s => g (f s)) := ⟨fr_tr h1.1 h2.1, fun s h => h2.2 _ (h1.2 s h)⟩
theorem rs_ad {M : eg_M} {s : px_S} (h : k_rs M s) : eg_gi M 25 5 = 0 → ∃ p n, p ≤ n ∧ n ≤ 400 ∧ eg_gi M 25 4 = nI p ∧ eg_gi M 25 1 = nI n := by
  intro h0
  obtain ⟨n, hn, eN, h⟩ := h
  match s, h with
  | .inl (c, p), h =>
    obtain ⟨h1, h2, _, h3, _⟩ := h
    rw [h0] at h3
    exact absurd h3.symm (nI_ne0 (by omega) (by omega))
  | .inr (t, S), h =>
    obtain ⟨_, _, _, h4, _, h6, _⟩ := h
    exact ⟨t.2.1, n, h6, hn, h4, eN⟩
theorem fr_ad (M : eg_M) : k_fr M (k_ad M) := by
  unfold k_ad
  split
  · exact fr_tr (fr_si (by omega)) (fr_tr (fr_si (by omega)) (fr_si (by omega)))
  · exact fr_rf M
/-- a token is none that has stopped -/
theorem lx_k4 (c : Int32) (h : 0 ≤ c) : ¬ lx_k c = -nI 4 := by
  have hc : ¬ c = -nI 4 := fun e => by
    rw [e] at h
    exact absurd h (by decide)
  unfold lx_k
  intro z
  split at z
  · split at z
    · exact hc z
    · split at z
      · exact hc z
      · exact absurd z (by decide)
  · split at z
    · split at z
      · exact hc z
      · split at z
        · exact hc z
        · exact absurd z (by decide)
    · exact absurd z (by decide)
theorem lx_4 {T : Nat → Int32} {n p : Nat} (hT : ∀ j, j < n → 0 ≤ T j) (hp : p ≤ n) : ¬ (lx T n p).2.2 = -nI 4 := by
  obtain ⟨_, h2, h3, h4⟩ := lx_ok (T := T) hp
  rcases h4 with ⟨h4, _⟩ | ⟨h4, h5⟩
  · rw [h4]
    decide
  · rw [h5]
    exact lx_k4 _ (hT _ (by omega))
def k_tb (M : eg_M) : Prop := ∀ j, j < 400 → 0 ≤ eg_gi M 26 j
theorem rs_adv {M : eg_M} {s : px_S} (hT : k_tb M) (h : k_rs M s) : k_rs (k_ad M) (px_adv (eg_gi M 26) (eg_gi M 25 1).toNatClampNeg s) := by
  obtain ⟨n, hn, eN, h⟩ := h
  match s, h with
  | .inl (c, p), h =>
    have h5 : ¬ eg_gi M 25 5 = 0 := by
      rw [h.2.2.2.1]
      exact nI_ne0 (by omega) (by omega)
    unfold k_ad
    rw [if_neg h5]
    exact ⟨n, hn, eN, h⟩
  | .inr (t, S), h =>
    obtain ⟨h1, h2, h3, h4, h5, h6, h7, h8, h9, h10⟩ := h
    have hl : k_lx M = lx (eg_gi M 26) n t.2.1 := by
      unfold k_lx
      rw [eN, h4, n_c (by omega), n_c (by omega)]
    have e0 : eg_gi M 25 5 = 0 := h1
    have hk := lx_ok (T := eg_gi M 26) h6
    have h44 := lx_4 (T := eg_gi M 26) (fun j hj => hT j (by omega)) h6
    unfold k_ad px_adv
    rw [if_pos e0, hl, eN, n_c (show n < 2 ^ 31 by omega)]
    exact ⟨n, hn, eN, h1, rfl, rfl, rfl, hk.2.1, hk.2.2.1, h44, h8, h9, h10⟩
theorem rr_adv {M : eg_M} (hT : k_tb M) : k_rr M (k_ad M) (px_adv (eg_gi M 26) (eg_gi M 25 1).toNatClampNeg) := ⟨fr_ad M, fun _ h => rs_adv hT h⟩
theorem tb_fr {M N : eg_M} (h : k_fr M N) (hT : k_tb M) : k_tb N := fun j hj => by
  rw [fr_26 h]
  exact hT j hj
/-- the class: whether the token is a word, in plain words -/
theorem rs_iw {M : eg_M} {s : px_S} (h : k_rs M s) (w : Nat) : k_iw M w = px_is (eg_gi M 26) w s := by
  obtain ⟨n, hn, eN, h⟩ := h
  match s, h with
  | .inl (c, p), h =>
    unfold k_iw px_w px_is
    rw [decide_eq_false (fun z => by
      have z := z.1
      dsimp only at z
      rw [h.2.2.2.2.2.1] at z
      exact absurd z (by decide)), Bool.false_and]
  | .inr (t, S), h =>
    obtain ⟨h1, h2, h3, h4, h5, h6, _⟩ := h
    unfold k_iw px_is
    rw [h2, h3, h4, n_c (by omega), n_c (by omega)]
theorem rs_wp {M : eg_M} {s : px_S} (h : k_rs M s) : eg_gi M 25 2 = -nI 2 → ∃ b e, b ≤ e ∧ e ≤ 400 ∧ eg_gi M 25 3 = nI b ∧ eg_gi M 25 4 = nI e := by
  intro h0
  obtain ⟨n, hn, eN, h⟩ := h
  match s, h with
  | .inl (c, p), h =>
    rw [h.2.2.2.2.2.1] at h0
    exact absurd h0 (by decide)
  | .inr (t, S), h =>
    obtain ⟨_, _, h3, h4, h5, h6, _⟩ := h
    exact ⟨t.1, t.2.1, h5, by omega, h3, h4⟩
theorem rs_k {M : eg_M} {s : px_S} (h : k_rs M s) : eg_gi M 25 2 = px_k s := by
  obtain ⟨n, hn, eN, h⟩ := h
  match s, h with
  | .inl (c, p), h => exact h.2.2.2.2.2.1
  | .inr (t, S), h => exact h.2.1
/-- a refusal -/
def k_rf1 (M : eg_M) (c : Int32) : eg_M := if eg_gi M 25 5 = 0 then eg_si (eg_si (eg_si M 25 5 c) 25 6 (eg_gi M 25 3)) 25 2 (-nI 4) else eg_si M 25 2 (-nI 4)
theorem rr_ref {M : eg_M} {c : Nat} (h1 : 1 ≤ c) (h3 : c ≤ 3) : k_rr M (k_rf1 M (nI c)) (px_ref c) := by
  constructor
  · unfold k_rf1
    split
    · exact fr_tr (fr_si (by omega)) (fr_tr (fr_si (by omega)) (fr_si (by omega)))
    · exact fr_si (by omega)
  · intro s h
    obtain ⟨n, hn, eN, h⟩ := h
    match s, h with
    | .inl (d, p), h =>
      have h5 : ¬ eg_gi M 25 5 = 0 := by
        rw [h.2.2.2.1]
        exact nI_ne0 (by omega) (by omega)
      unfold k_rf1
      rw [if_neg h5]
      exact ⟨n, hn, eN, h.1, h.2.1, h.2.2.1, h.2.2.2.1, h.2.2.2.2.1, rfl, h.2.2.2.2.2.2⟩
    | .inr (t, S), h =>
      obtain ⟨q1, q2, q3, q4, q5, q6, q7, q8, q9, q10⟩ := h
      have e0 : eg_gi M 25 5 = 0 := q1
      unfold k_rf1 px_ref
      rw [if_pos e0]
      exact ⟨n, hn, eN, h1, h3, by omega, rfl, q3, rfl, S.length, q9, q8⟩
def k_X7_refuse_v : eg_C := ([(0, .aload_n 0, 1), (1, .getfield 28, 3), (4, .ifCond .ne 16, 3), (7, .aload_n 0, 1), (8, .iload_n 1, 1), (9, .putfield 28, 3), (12, .aload_n 0, 1), (13, .aload_n 0, 1), (14, .getfield 22, 3), (17, .putfield 31, 3), (20, .aload_n 0, 1), (21, .bipush (-4), 2), (23, .putfield 19, 3), (26, .return_, 1)], [(19, 7, 2, true), (22, 7, 3, false), (28, 7, 5, true), (31, 7, 6, true)], [], [], [], 0, 0, 0)
theorem mk_X7_refuse_v : ∀ q ∈ k_X7_refuse_v.2.2.2.1, eg_mono q.2.2.2.2 := (fn)
set_option maxRecDepth 100000 in
theorem st_X7_refuse_v_0 {Qp : eg_P} {M : eg_M} (a : Int32)
  (l0 : ((eg_gi M 25 5) = 0) → Qp (.inl none) (eg_si (eg_si (eg_si M 25 5 a) 25 6 (eg_gi M 25 3)) 25 2 (-nI 4)))
  (l1 : (¬ (eg_gi M 25 5) = 0) → Qp (.inl none) (eg_si M 25 2 (-nI 4))) :
  eg_T wd k_X7_refuse_v Qp 0 0 0 [some (.ref 25), some (.int a)] [] M := by
  refine eg_T_run mk_X7_refuse_v (cut := []) 17 ?_
  refine And.intro (fun (c1 : (eg_gi M 25 5) = 0) => ?_) (fun (c1 : ¬ (eg_gi M 25 5) = 0) => ?_)
  · skip
    show Qp (.inl none) (eg_si (eg_si (eg_si M 25 5 a) 25 6 (eg_gi M 25 3)) 25 2 (-nI 4))
    exact l0 c1
  · skip
    show Qp (.inl none) (eg_si M 25 2 (-nI 4))
    exact l1 c1

def s_X7_refuse_v : eg_S := fun argv M Qp => match argv with
  | [.ref 25, .int a] => (True) ∧ Qp (.inl none) (k_rf1 M a)
  | _ => False
theorem mo_X7_refuse_v : eg_mono s_X7_refuse_v := by
  intro argv M Q Q' h
  unfold s_X7_refuse_v
  split
  · exact fun z => ⟨z.1, h _ _ z.2⟩
  · exact id
theorem sz_X7_refuse_v : ∀ argv M Qp, s_X7_refuse_v argv M Qp → (eg_ls0 argv).length ≤ 2 := by
  intro argv M Qp h
  unfold s_X7_refuse_v at h
  split at h
  · exact Nat.le_of_ble_eq_true rfl
  · exact h.elim
theorem sr_X7_refuse_v : ∀ argv M Qp, s_X7_refuse_v argv M Qp → ∃ p0 As, argv = .ref p0 :: As ∧ eg_isO wd M p0 7 = true := by
  intro argv M Qp h
  unfold s_X7_refuse_v at h
  split at h
  · exact ⟨_, _, rfl, rfl⟩
  · exact h.elim
set_option maxRecDepth 100000 in
set_option maxHeartbeats 1000000 in
theorem T_X7_refuse_v {argv : List Value} {M : eg_M} {Qp : eg_P} (h : s_X7_refuse_v argv M Qp) : eg_T wd k_X7_refuse_v Qp 0 0 0 (eg_lsN 2 argv) [] M := by
  unfold s_X7_refuse_v at h
  split at h
  · rename_i a
    obtain ⟨hp, hq⟩ := h
    unfold k_rf1 at hq
    exact st_X7_refuse_v_0 a (fun z => by rw [if_pos z] at hq; exact hq) (fun z => by rw [if_neg z] at hq; exact hq)
  · exact h.elim
theorem de_X7_refuse_v : ∀ q ∈ k_X7_refuse_v.1, decode cX7_refuse q.1 = .ok q.2 := by decide +kernel
theorem me_X7_refuse_v (g : gl_T) : MT g yX7_refuse cX7_refuse 2 none ⟨0, 0, 0, 0⟩ 0 0 s_X7_refuse_v := by
  intro hl
  exact eg_met_of (k := k_X7_refuse_v) (by decide) rfl ⟨Nat.le_refl _, Nat.le_refl _⟩ rfl sz_X7_refuse_v de_X7_refuse_v (fun meth hn => (fc (eg_FL_of wd_c7 (by decide) lf_RX7_19 (fun _ => Or.inl rfl)) (fc (eg_FL_of wd_c7 (by decide) lf_RX7_22 (fun h => absurd h (by decide))) (fc (eg_FL_of wd_c7 (by decide) lf_RX7_28 (fun _ => Or.inl rfl)) (fc (eg_FL_of wd_c7 (by decide) lf_RX7_31 (fun _ => Or.inl rfl)) (fn)))))) (fun A s H hE => (fn)) (fun p e s m args below meth c Q A ad0 N0 S0 hK hEx hA => (fn)) (fun p e s m args below meth c Qc XC A ad0 N0 P S0 hK hEx hA hlk hout hPX => (fn)) (fun argv M Qp h => T_X7_refuse_v h)

def k_pu (M : eg_M) (x : Int32) : eg_M := if nI 400 ≤ eg_gi M 25 8 then M else eg_si (eg_si M 25 8 (eg_gi M 25 8 + nI 1)) 27 (eg_gi M 25 8).toNatClampNeg x
theorem rs_8 {M : eg_M} {s : px_S} (h : k_rs M s) : eg_cn (eg_gi M 25 8) 400 := by
  obtain ⟨n, hn, eN, h⟩ := h
  match s, h with
  | .inl (c, p), h => exact h.2.2.2.2.2.2
  | .inr (t, S), h => exact ⟨S.length, h.2.2.2.2.2.2.2.2.1, h.2.2.2.2.2.2.2.1⟩
theorem rr_put {M : eg_M} {x : Int32} : k_rr M (k_pu M x) (px_put x) := by
  constructor
  · unfold k_pu
    split
    · exact fr_rf M
    · exact fr_tr (fr_si (by omega)) fr_27
  · intro s h
    obtain ⟨m, hm, em⟩ := rs_8 h
    obtain ⟨n, hn, eN, h⟩ := h
    unfold k_pu
    have e400 : nI 400 ≤ nI m ↔ 400 ≤ m := n_le (by decide) (by omega)
    rw [em, n_c (show m < 2 ^ 31 by omega), n_s]
    match s, h with
    | .inl (d, p), h =>
      by_cases e : 400 ≤ m
      · rw [if_pos (e400.mpr e)]
        exact ⟨n, hn, eN, h⟩
      · rw [if_neg (fun z => e (e400.mp z))]
        exact ⟨n, hn, eN, h.1, h.2.1, h.2.2.1, h.2.2.2.1, h.2.2.2.2.1, h.2.2.2.2.2.1, m + 1, by omega, rfl⟩
    | .inr (t, S), h =>
      obtain ⟨q1, q2, q3, q4, q5, q6, q7, q8, q9, q10⟩ := h
      have hml : m = S.length := by
        rw [em, n_eq (by omega) (by omega)] at q8
        exact q8
      subst hml
      unfold px_put
      by_cases e : 400 ≤ S.length
      · rw [if_pos (e400.mpr e)]
        refine ⟨n, hn, eN, q1, q2, q3, q4, q5, q6, q7, ?_⟩
        rw [if_neg (show ¬ S.length < 400 by omega)]
        exact ⟨em, q9, q10⟩
      · rw [if_neg (fun z => e (e400.mp z))]
        refine ⟨n, hn, eN, q1, q2, q3, q4, q5, q6, q7, ?_⟩
        have hl : (S ++ [x]).length = S.length + 1 := by simp
        rw [if_pos (show S.length < 400 by omega)]
        refine ⟨by rw [hl]; rfl, by omega, fun j hj => ?_⟩
        rw [hl] at hj
        rw [si_g]
        by_cases ej : j = S.length
        · rw [if_pos ⟨rfl, ej⟩]
          subst ej
          rw [List.getElem_append_right (Nat.le_refl _)]
          simp
        · rw [if_neg (fun z => ej z.2), List.getElem_append_left (by omega)]
          exact q10 j (by omega)
def k_X7_put_v : eg_C := ([(0, .aload_n 0, 1), (1, .getfield 37, 3), (4, .sipush 400, 3), (7, .if_icmp .ge 20, 3), (10, .aload_n 0, 1), (11, .getfield 34, 3), (14, .aload_n 0, 1), (15, .dup, 1), (16, .getfield 37, 3), (19, .dup_x1, 1), (20, .iconst 1, 1), (21, .iadd, 1), (22, .putfield 37, 3), (25, .iload_n 1, 1), (26, .iastore, 1), (27, .return_, 1)], [(34, 7, 7, false), (37, 7, 8, true)], [], [], [], 0, 0, 0)
theorem mk_X7_put_v : ∀ q ∈ k_X7_put_v.2.2.2.1, eg_mono q.2.2.2.2 := (fn)
set_option maxRecDepth 100000 in
theorem st_X7_put_v_0 {Qp : eg_P} {M : eg_M} (a : Int32)
  (g0 : (¬ ((nI 400) ≤ (eg_gi M 25 8))) → (vp_in (eg_gi M 25 8) 400))
  (l0 : ((nI 400) ≤ (eg_gi M 25 8)) → Qp (.inl none) M)
  (l1 : (¬ (nI 400) ≤ (eg_gi M 25 8)) → Qp (.inl none) (eg_si (eg_si M 25 8 ((eg_gi M 25 8) + (nI 1))) 27 (eg_gi M 25 8).toNatClampNeg a)) :
  eg_T wd k_X7_put_v Qp 0 0 0 [some (.ref 25), some (.int a)] [] M := by
  refine eg_T_run mk_X7_put_v (cut := []) 19 ?_
  refine And.intro (fun (c1 : (nI 400) ≤ (eg_gi M 25 8)) => ?_) (fun (c1 : ¬ (nI 400) ≤ (eg_gi M 25 8)) => ?_)
  · skip
    show Qp (.inl none) M
    exact l0 c1
  · skip
    refine And.intro (show vp_in (eg_gi M 25 8) 400 from ?_) ?_
    · exact g0 c1
    show Qp (.inl none) (eg_si (eg_si M 25 8 ((eg_gi M 25 8) + (nI 1))) 27 (eg_gi M 25 8).toNatClampNeg a)
    exact l1 c1

def s_X7_put_v : eg_S := fun argv M Qp => match argv with
  | [.ref 25, .int a] => (eg_cn (eg_gi M 25 8) 400) ∧ Qp (.inl none) (k_pu M a)
  | _ => False
theorem mo_X7_put_v : eg_mono s_X7_put_v := by
  intro argv M Q Q' h
  unfold s_X7_put_v
  split
  · exact fun z => ⟨z.1, h _ _ z.2⟩
  · exact id
theorem sz_X7_put_v : ∀ argv M Qp, s_X7_put_v argv M Qp → (eg_ls0 argv).length ≤ 2 := by
  intro argv M Qp h
  unfold s_X7_put_v at h
  split at h
  · exact Nat.le_of_ble_eq_true rfl
  · exact h.elim
theorem sr_X7_put_v : ∀ argv M Qp, s_X7_put_v argv M Qp → ∃ p0 As, argv = .ref p0 :: As ∧ eg_isO wd M p0 7 = true := by
  intro argv M Qp h
  unfold s_X7_put_v at h
  split at h
  · exact ⟨_, _, rfl, rfl⟩
  · exact h.elim
set_option maxRecDepth 100000 in
set_option maxHeartbeats 1000000 in
theorem T_X7_put_v {argv : List Value} {M : eg_M} {Qp : eg_P} (h : s_X7_put_v argv M Qp) : eg_T wd k_X7_put_v Qp 0 0 0 (eg_lsN 2 argv) [] M := by
  unfold s_X7_put_v at h
  split at h
  · rename_i a
    obtain ⟨hp, hq⟩ := h
    obtain ⟨m, hm, em⟩ := hp
    unfold k_pu at hq
    have st := st_X7_put_v_0 (Qp := Qp) (M := M) a
    refine st (fun z => ?_) (fun z => by rw [if_pos z] at hq; exact hq) (fun z => by rw [if_neg z] at hq; exact hq)
    rw [em, n_le (by decide) (by omega)] at z
    rw [em]
    exact (n_in (by omega) (by decide)).mpr (by omega)
  · exact h.elim
theorem de_X7_put_v : ∀ q ∈ k_X7_put_v.1, decode cX7_put q.1 = .ok q.2 := by decide +kernel
theorem me_X7_put_v (g : gl_T) : MT g yX7_put cX7_put 2 none ⟨0, 0, 0, 0⟩ 0 0 s_X7_put_v := by
  intro hl
  exact eg_met_of (k := k_X7_put_v) (by decide) rfl ⟨Nat.le_refl _, Nat.le_refl _⟩ rfl sz_X7_put_v de_X7_put_v (fun meth hn => (fc (eg_FL_of wd_c7 (by decide) lf_RX7_34 (fun h => absurd h (by decide))) (fc (eg_FL_of wd_c7 (by decide) lf_RX7_37 (fun _ => Or.inl rfl)) (fn)))) (fun A s H hE => (fn)) (fun p e s m args below meth c Q A ad0 N0 S0 hK hEx hA => (fn)) (fun p e s m args below meth c Qc XC A ad0 N0 P S0 hK hEx hA hlk hout hPX => (fn)) (fun argv M Qp h => T_X7_put_v h)

def k_X7_readSign : eg_C := ([(0, .aload_n 0, 1), (1, .getfield 19, 3), (4, .iload_n 1, 1), (5, .if_icmp .ne 10, 3), (8, .aload_n 0, 1), (9, .invokevirtual 64, 3), (12, .goto 8, 3), (15, .aload_n 0, 1), (16, .iconst 1, 1), (17, .invokevirtual 86, 3), (20, .return_, 1)], [(19, 7, 2, false)], [], [(64, 0 + 1, 0, 0, s_X7_advance), (86, 1 + 1, 0, 0, s_X7_refuse_v)], [], 0, 0, 0)
theorem mk_X7_readSign : ∀ q ∈ k_X7_readSign.2.2.2.1, eg_mono q.2.2.2.2 := (fc (mo_X7_advance) (fc (mo_X7_refuse_v) (fn)))
set_option maxRecDepth 100000 in
theorem st_X7_readSign_0 {Qp : eg_P} {M : eg_M} (a : Int32)
  (g0 : ((eg_gi M 25 2) = a) → (eg_gi M 25 5 = 0 → ∃ p n, p ≤ n ∧ n ≤ 400 ∧ eg_gi M 25 4 = nI p ∧ eg_gi M 25 1 = nI n))
  (l0 : ((eg_gi M 25 2) = a) → Qp (.inl none) (k_ad M))
  (l1 : (¬ (eg_gi M 25 2) = a) → Qp (.inl none) (k_rf1 M (nI 1))) :
  eg_T wd k_X7_readSign Qp 0 0 0 [some (.ref 25), some (.int a)] [] M := by
  refine eg_T_run mk_X7_readSign (cut := []) 14 ?_
  refine And.intro (fun (c1 : (eg_gi M 25 2) = a) => ?_) (fun (c1 : ¬ (eg_gi M 25 2) = a) => ?_)
  · skip
    refine And.intro (show (eg_gi M 25 5 = 0 → ∃ p n, p ≤ n ∧ n ≤ 400 ∧ eg_gi M 25 4 = nI p ∧ eg_gi M 25 1 = nI n) from ?_) ?_
    · exact g0 c1
    show Qp (.inl none) (k_ad M)
    exact l0 c1
  · skip
    refine And.intro (show (True) from ?_) ?_
    · exact trivial
    show Qp (.inl none) (k_rf1 M (nI 1))
    exact l1 c1

def s_X7_readSign : eg_S := fun argv M Qp => match argv with
  | [.ref 25, .int a] => ((∃ s, k_rs M s) ∧ k_tb M) ∧ ∀ (M2 : eg_M), (k_rr M M2 (px_sgn (eg_gi M 26) (eg_gi M 25 1).toNatClampNeg a)) → Qp (.inl none) M2
  | _ => False
theorem mo_X7_readSign : eg_mono s_X7_readSign := by
  intro argv M Q Q' h
  unfold s_X7_readSign
  split
  · exact fun z => ⟨z.1, fun M2 y => h _ _ (z.2 M2 y)⟩
  · exact id
theorem sz_X7_readSign : ∀ argv M Qp, s_X7_readSign argv M Qp → (eg_ls0 argv).length ≤ 2 := by
  intro argv M Qp h
  unfold s_X7_readSign at h
  split at h
  · exact Nat.le_of_ble_eq_true rfl
  · exact h.elim
theorem sr_X7_readSign : ∀ argv M Qp, s_X7_readSign argv M Qp → ∃ p0 As, argv = .ref p0 :: As ∧ eg_isO wd M p0 7 = true := by
  intro argv M Qp h
  unfold s_X7_readSign at h
  split at h
  · exact ⟨_, _, rfl, rfl⟩
  · exact h.elim
set_option maxRecDepth 100000 in
set_option maxHeartbeats 1000000 in
theorem T_X7_readSign {argv : List Value} {M : eg_M} {Qp : eg_P} (h : s_X7_readSign argv M Qp) : eg_T wd k_X7_readSign Qp 0 0 0 (eg_lsN 2 argv) [] M := by
  unfold s_X7_readSign at h
  split at h
  · rename_i a
    obtain ⟨hp, hq⟩ := h
    obtain ⟨⟨s, hs⟩, hT⟩ := hp
    refine st_X7_readSign_0 a (fun _ => rs_ad hs) (fun z => hq _ ⟨fr_ad M, fun s' hs' => ?_⟩) (fun z => hq _ ⟨(rr_ref (by decide) (by decide)).1, fun s' hs' => ?_⟩)
    · unfold px_sgn
      rw [if_pos (by rw [← rs_k hs']; exact z)]
      exact rs_adv hT hs'
    · unfold px_sgn
      rw [if_neg (by rw [← rs_k hs']; exact z)]
      exact (rr_ref (by decide) (by decide)).2 s' hs'
  · exact h.elim
theorem de_X7_readSign : ∀ q ∈ k_X7_readSign.1, decode cX7_readSign q.1 = .ok q.2 := by decide +kernel
theorem me_X7_readSign (g : gl_T) : MT g yX7_readSign cX7_readSign 2 none ⟨2, 0, 0, 40⟩ 0 0 s_X7_readSign := by
  intro hl
  exact eg_met_of (k := k_X7_readSign) (by decide) rfl ⟨Nat.le_refl _, Nat.le_refl _⟩ rfl sz_X7_readSign de_X7_readSign (fun meth hn => (fc (eg_FL_of wd_c7 (by decide) lf_RX7_19 (fun h => absurd h (by decide))) (fn))) (fun A s H hE => (fn)) (fun p e s m args below meth c Q A ad0 N0 S0 hK hEx hA => (fc (mt_V hl S0 hK hEx hA (me_X7_advance g) lm_RX7_64 li_X7_advance lx_X7_advance ln_RX7 lc_X7_advance ⟨rfl, by decide, by decide, by decide +kernel⟩ ⟨rfl, rfl⟩ ⟨by decide, by decide⟩ (ci := 7) rfl rfl sr_X7_advance (by decide)) (fc (mt_V hl S0 hK hEx hA (me_X7_refuse_v g) lm_RX7_86 li_X7_refuse lx_X7_refuse ln_RX7 lc_X7_refuse ⟨rfl, by decide, by decide, by decide +kernel⟩ ⟨rfl, rfl⟩ ⟨by decide, by decide⟩ (ci := 7) rfl rfl sr_X7_refuse_v (by decide)) (fn)))) (fun p e s m args below meth c Qc XC A ad0 N0 P S0 hK hEx hA hlk hout hPX => (fn)) (fun argv M Qp h => T_X7_readSign h)

/-- the class: the token as it stands -/
def k_tk (M : eg_M) : px_T := ((eg_gi M 25 3).toNatClampNeg, (eg_gi M 25 4).toNatClampNeg, eg_gi M 25 2)
def k_ov (v : Option Nat) : Int32 := match v with
  | none => -nI 1
  | some v => nI v
def k_X7_valueNamed : eg_C := ([(0, .iconst 0, 1), (1, .istore_n 1, 1), (2, .iload_n 1, 1), (3, .bipush 11, 2), (5, .if_icmp .ge 22, 3), (8, .aload_n 0, 1), (9, .iload_n 1, 1), (10, .invokestatic 137, 3), (13, .invokevirtual 78, 3), (16, .ifCond .eq 5, 3), (19, .iload_n 1, 1), (20, .ireturn, 1), (21, .iinc 1 1, 3), (24, .goto (-22), 3), (27, .iconst (-1), 1), (28, .ireturn, 1)], [], [], [(137 + 100000, 1, 0, 0, s_X7_nameOf), (78, 1 + 1, 0, 0, s_X7_isWord)], [], 1, 0, 0)
theorem mk_X7_valueNamed : ∀ q ∈ k_X7_valueNamed.2.2.2.1, eg_mono q.2.2.2.2 := (fc (mo_X7_nameOf) (fc (mo_X7_isWord) (fn)))
set_option maxRecDepth 100000 in
theorem st_X7_valueNamed_0 {Qp : eg_P} {M : eg_M} 
  (l0 : eg_T wd k_X7_valueNamed Qp 2 0 0 [some (.ref 25), some (.int (nI 0))] [] M) :
  eg_T wd k_X7_valueNamed Qp 0 0 0 [some (.ref 25), none] [] M := by
  refine eg_T_run mk_X7_valueNamed (cut := [2]) 19 ?_
  show eg_T wd k_X7_valueNamed Qp 2 0 0 [some (.ref 25), some (.int (nI 0))] [] M
  exact l0

set_option maxRecDepth 100000 in
theorem st_X7_valueNamed_2 {Qp : eg_P} {M : eg_M} (x1 : Int32)
  (g0 : (¬ ((nI 11) ≤ x1)) → (x1.toInt < 0 ∨ 9 < x1.toInt) → (30 < 32 ∧ (eg_gi M 25 2 = -nI 2 → ∃ b e, b ≤ e ∧ e ≤ 400 ∧ eg_gi M 25 3 = nI b ∧ eg_gi M 25 4 = nI e)))
  (g1 : (¬ ((nI 11) ≤ x1)) → (x1.toInt = 0) → (5 < 32 ∧ (eg_gi M 25 2 = -nI 2 → ∃ b e, b ≤ e ∧ e ≤ 400 ∧ eg_gi M 25 3 = nI b ∧ eg_gi M 25 4 = nI e)))
  (g2 : (¬ ((nI 11) ≤ x1)) → (x1.toInt = 1) → (7 < 32 ∧ (eg_gi M 25 2 = -nI 2 → ∃ b e, b ≤ e ∧ e ≤ 400 ∧ eg_gi M 25 3 = nI b ∧ eg_gi M 25 4 = nI e)))
  (g3 : (¬ ((nI 11) ≤ x1)) → (x1.toInt = 2) → (31 < 32 ∧ (eg_gi M 25 2 = -nI 2 → ∃ b e, b ≤ e ∧ e ≤ 400 ∧ eg_gi M 25 3 = nI b ∧ eg_gi M 25 4 = nI e)))
  (g4 : (¬ ((nI 11) ≤ x1)) → (x1.toInt = 3) → (6 < 32 ∧ (eg_gi M 25 2 = -nI 2 → ∃ b e, b ≤ e ∧ e ≤ 400 ∧ eg_gi M 25 3 = nI b ∧ eg_gi M 25 4 = nI e)))
  (g5 : (¬ ((nI 11) ≤ x1)) → (x1.toInt = 4) → (21 < 32 ∧ (eg_gi M 25 2 = -nI 2 → ∃ b e, b ≤ e ∧ e ≤ 400 ∧ eg_gi M 25 3 = nI b ∧ eg_gi M 25 4 = nI e)))
  (g6 : (¬ ((nI 11) ≤ x1)) → (x1.toInt = 5) → (2 < 32 ∧ (eg_gi M 25 2 = -nI 2 → ∃ b e, b ≤ e ∧ e ≤ 400 ∧ eg_gi M 25 3 = nI b ∧ eg_gi M 25 4 = nI e)))
  (g7 : (¬ ((nI 11) ≤ x1)) → (x1.toInt = 6) → (27 < 32 ∧ (eg_gi M 25 2 = -nI 2 → ∃ b e, b ≤ e ∧ e ≤ 400 ∧ eg_gi M 25 3 = nI b ∧ eg_gi M 25 4 = nI e)))
  (g8 : (¬ ((nI 11) ≤ x1)) → (x1.toInt = 7) → (24 < 32 ∧ (eg_gi M 25 2 = -nI 2 → ∃ b e, b ≤ e ∧ e ≤ 400 ∧ eg_gi M 25 3 = nI b ∧ eg_gi M 25 4 = nI e)))
  (g9 : (¬ ((nI 11) ≤ x1)) → (x1.toInt = 8) → (0 < 32 ∧ (eg_gi M 25 2 = -nI 2 → ∃ b e, b ≤ e ∧ e ≤ 400 ∧ eg_gi M 25 3 = nI b ∧ eg_gi M 25 4 = nI e)))
  (g10 : (¬ ((nI 11) ≤ x1)) → (x1.toInt = 9) → (29 < 32 ∧ (eg_gi M 25 2 = -nI 2 → ∃ b e, b ≤ e ∧ e ≤ 400 ∧ eg_gi M 25 3 = nI b ∧ eg_gi M 25 4 = nI e)))
  (l0 : ((nI 11) ≤ x1) → Qp (.inl (some (.int (-nI 1)))) M)
  (l1 : (¬ (nI 11) ≤ x1 ∧ (((x1.toInt < 0 ∨ 9 < x1.toInt) ∧ (k_iw M 30) = false) ∨ (¬ (x1.toInt < 0 ∨ 9 < x1.toInt) ∧ ((x1.toInt = 0 ∧ (k_iw M 5) = false) ∨ (¬ x1.toInt = 0 ∧ ((x1.toInt = 1 ∧ (k_iw M 7) = false) ∨ (¬ x1.toInt = 1 ∧ ((x1.toInt = 2 ∧ (k_iw M 31) = false) ∨ (¬ x1.toInt = 2 ∧ ((x1.toInt = 3 ∧ (k_iw M 6) = false) ∨ (¬ x1.toInt = 3 ∧ ((x1.toInt = 4 ∧ (k_iw M 21) = false) ∨ (¬ x1.toInt = 4 ∧ ((x1.toInt = 5 ∧ (k_iw M 2) = false) ∨ (¬ x1.toInt = 5 ∧ ((x1.toInt = 6 ∧ (k_iw M 27) = false) ∨ (¬ x1.toInt = 6 ∧ ((x1.toInt = 7 ∧ (k_iw M 24) = false) ∨ (¬ x1.toInt = 7 ∧ ((x1.toInt = 8 ∧ (k_iw M 0) = false) ∨ (¬ x1.toInt = 8 ∧ (k_iw M 29) = false))))))))))))))))))))) → eg_T wd k_X7_valueNamed Qp 2 0 0 [some (.ref 25), some (.int (x1 + (nI 1)))] [] M)
  (l2 : (¬ (nI 11) ≤ x1 ∧ (((x1.toInt < 0 ∨ 9 < x1.toInt) ∧ ¬ (k_iw M 30) = false) ∨ (¬ (x1.toInt < 0 ∨ 9 < x1.toInt) ∧ ((x1.toInt = 0 ∧ ¬ (k_iw M 5) = false) ∨ (¬ x1.toInt = 0 ∧ ((x1.toInt = 1 ∧ ¬ (k_iw M 7) = false) ∨ (¬ x1.toInt = 1 ∧ ((x1.toInt = 2 ∧ ¬ (k_iw M 31) = false) ∨ (¬ x1.toInt = 2 ∧ ((x1.toInt = 3 ∧ ¬ (k_iw M 6) = false) ∨ (¬ x1.toInt = 3 ∧ ((x1.toInt = 4 ∧ ¬ (k_iw M 21) = false) ∨ (¬ x1.toInt = 4 ∧ ((x1.toInt = 5 ∧ ¬ (k_iw M 2) = false) ∨ (¬ x1.toInt = 5 ∧ ((x1.toInt = 6 ∧ ¬ (k_iw M 27) = false) ∨ (¬ x1.toInt = 6 ∧ ((x1.toInt = 7 ∧ ¬ (k_iw M 24) = false) ∨ (¬ x1.toInt = 7 ∧ ((x1.toInt = 8 ∧ ¬ (k_iw M 0) = false) ∨ (¬ x1.toInt = 8 ∧ ¬ (k_iw M 29) = false))))))))))))))))))))) → Qp (.inl (some (.int x1))) M) :
  eg_T wd k_X7_valueNamed Qp 2 0 0 [some (.ref 25), some (.int x1)] [] M := by
  refine eg_T_run mk_X7_valueNamed (cut := [2]) 19 ?_
  refine And.intro (fun (c1 : (nI 11) ≤ x1) => ?_) (fun (c1 : ¬ (nI 11) ≤ x1) => ?_)
  · skip
    refine And.intro (fun z => absurd z (by decide)) ?_
    show Qp (.inl (some (.int (-nI 1)))) M
    exact l0 c1
  · skip
    refine And.intro (fun (c2 : x1.toInt < 0 ∨ 9 < x1.toInt) => ?_) ?_
    · skip
      refine And.intro (show (30 < 32 ∧ (eg_gi M 25 2 = -nI 2 → ∃ b e, b ≤ e ∧ e ≤ 400 ∧ eg_gi M 25 3 = nI b ∧ eg_gi M 25 4 = nI e)) from ?_) ?_
      · exact g0 c1 c2
      refine And.intro (fun (c3 : (b2i (k_iw M 30)) = 0) => ?_) (fun (c3 : ¬ (b2i (k_iw M 30)) = 0) => ?_)
      · replace c3 := b2i_0.mp c3
        show eg_T wd k_X7_valueNamed Qp 2 0 0 [some (.ref 25), some (.int (x1 + (nI 1)))] [] M
        exact l1 ⟨c1, (Or.inl ⟨c2, c3⟩)⟩
      · replace c3 := b2i_ff c3
        refine And.intro (fun z => absurd z (by decide)) ?_
        show Qp (.inl (some (.int x1))) M
        exact l2 ⟨c1, (Or.inl ⟨c2, c3⟩)⟩
    refine And.intro (fun (c4 : x1.toInt = 0) => ?_) ?_
    · skip
      refine And.intro (show (5 < 32 ∧ (eg_gi M 25 2 = -nI 2 → ∃ b e, b ≤ e ∧ e ≤ 400 ∧ eg_gi M 25 3 = nI b ∧ eg_gi M 25 4 = nI e)) from ?_) ?_
      · exact g1 c1 c4
      refine And.intro (fun (c5 : (b2i (k_iw M 5)) = 0) => ?_) (fun (c5 : ¬ (b2i (k_iw M 5)) = 0) => ?_)
      · replace c5 := b2i_0.mp c5
        show eg_T wd k_X7_valueNamed Qp 2 0 0 [some (.ref 25), some (.int (x1 + (nI 1)))] [] M
        exact l1 (by clear g0 g1 g2 g3 g4 g5 g6 g7 g8 g9 g10 l0 l1 l2; grind)
      · replace c5 := b2i_ff c5
        refine And.intro (fun z => absurd z (by decide)) ?_
        show Qp (.inl (some (.int x1))) M
        exact l2 (by clear g0 g1 g2 g3 g4 g5 g6 g7 g8 g9 g10 l0 l1 l2; grind)
    refine And.intro (fun (c6 : x1.toInt = 1) => ?_) ?_
    · skip
      refine And.intro (show (7 < 32 ∧ (eg_gi M 25 2 = -nI 2 → ∃ b e, b ≤ e ∧ e ≤ 400 ∧ eg_gi M 25 3 = nI b ∧ eg_gi M 25 4 = nI e)) from ?_) ?_
      · exact g2 c1 c6
      refine And.intro (fun (c7 : (b2i (k_iw M 7)) = 0) => ?_) (fun (c7 : ¬ (b2i (k_iw M 7)) = 0) => ?_)
      · replace c7 := b2i_0.mp c7
        show eg_T wd k_X7_valueNamed Qp 2 0 0 [some (.ref 25), some (.int (x1 + (nI 1)))] [] M
        exact l1 (by clear g0 g1 g2 g3 g4 g5 g6 g7 g8 g9 g10 l0 l1 l2; grind)
      · replace c7 := b2i_ff c7
        refine And.intro (fun z => absurd z (by decide)) ?_
        show Qp (.inl (some (.int x1))) M
        exact l2 (by clear g0 g1 g2 g3 g4 g5 g6 g7 g8 g9 g10 l0 l1 l2; grind)
    refine And.intro (fun (c8 : x1.toInt = 2) => ?_) ?_
    · skip
      refine And.intro (show (31 < 32 ∧ (eg_gi M 25 2 = -nI 2 → ∃ b e, b ≤ e ∧ e ≤ 400 ∧ eg_gi M 25 3 = nI b ∧ eg_gi M 25 4 = nI e)) from ?_) ?_
      · exact g3 c1 c8
      refine And.intro (fun (c9 : (b2i (k_iw M 31)) = 0) => ?_) (fun (c9 : ¬ (b2i (k_iw M 31)) = 0) => ?_)
      · replace c9 := b2i_0.mp c9
        show eg_T wd k_X7_valueNamed Qp 2 0 0 [some (.ref 25), some (.int (x1 + (nI 1)))] [] M
        exact l1 (by clear g0 g1 g2 g3 g4 g5 g6 g7 g8 g9 g10 l0 l1 l2; grind)
      · replace c9 := b2i_ff c9
        refine And.intro (fun z => absurd z (by decide)) ?_
        show Qp (.inl (some (.int x1))) M
        exact l2 (by clear g0 g1 g2 g3 g4 g5 g6 g7 g8 g9 g10 l0 l1 l2; grind)
    refine And.intro (fun (c10 : x1.toInt = 3) => ?_) ?_
    · skip
      refine And.intro (show (6 < 32 ∧ (eg_gi M 25 2 = -nI 2 → ∃ b e, b ≤ e ∧ e ≤ 400 ∧ eg_gi M 25 3 = nI b ∧ eg_gi M 25 4 = nI e)) from ?_) ?_
      · exact g4 c1 c10
      refine And.intro (fun (c11 : (b2i (k_iw M 6)) = 0) => ?_) (fun (c11 : ¬ (b2i (k_iw M 6)) = 0) => ?_)
      · replace c11 := b2i_0.mp c11
        show eg_T wd k_X7_valueNamed Qp 2 0 0 [some (.ref 25), some (.int (x1 + (nI 1)))] [] M
        exact l1 (by clear g0 g1 g2 g3 g4 g5 g6 g7 g8 g9 g10 l0 l1 l2; grind)
      · replace c11 := b2i_ff c11
        refine And.intro (fun z => absurd z (by decide)) ?_
        show Qp (.inl (some (.int x1))) M
        exact l2 (by clear g0 g1 g2 g3 g4 g5 g6 g7 g8 g9 g10 l0 l1 l2; grind)
    refine And.intro (fun (c12 : x1.toInt = 4) => ?_) ?_
    · skip
      refine And.intro (show (21 < 32 ∧ (eg_gi M 25 2 = -nI 2 → ∃ b e, b ≤ e ∧ e ≤ 400 ∧ eg_gi M 25 3 = nI b ∧ eg_gi M 25 4 = nI e)) from ?_) ?_
      · exact g5 c1 c12
      refine And.intro (fun (c13 : (b2i (k_iw M 21)) = 0) => ?_) (fun (c13 : ¬ (b2i (k_iw M 21)) = 0) => ?_)
      · replace c13 := b2i_0.mp c13
        show eg_T wd k_X7_valueNamed Qp 2 0 0 [some (.ref 25), some (.int (x1 + (nI 1)))] [] M
        exact l1 (by clear g0 g1 g2 g3 g4 g5 g6 g7 g8 g9 g10 l0 l1 l2; grind)
      · replace c13 := b2i_ff c13
        refine And.intro (fun z => absurd z (by decide)) ?_
        show Qp (.inl (some (.int x1))) M
        exact l2 (by clear g0 g1 g2 g3 g4 g5 g6 g7 g8 g9 g10 l0 l1 l2; grind)
    refine And.intro (fun (c14 : x1.toInt = 5) => ?_) ?_
    · skip
      refine And.intro (show (2 < 32 ∧ (eg_gi M 25 2 = -nI 2 → ∃ b e, b ≤ e ∧ e ≤ 400 ∧ eg_gi M 25 3 = nI b ∧ eg_gi M 25 4 = nI e)) from ?_) ?_
      · exact g6 c1 c14
      refine And.intro (fun (c15 : (b2i (k_iw M 2)) = 0) => ?_) (fun (c15 : ¬ (b2i (k_iw M 2)) = 0) => ?_)
      · replace c15 := b2i_0.mp c15
        show eg_T wd k_X7_valueNamed Qp 2 0 0 [some (.ref 25), some (.int (x1 + (nI 1)))] [] M
        exact l1 (by clear g0 g1 g2 g3 g4 g5 g6 g7 g8 g9 g10 l0 l1 l2; grind)
      · replace c15 := b2i_ff c15
        refine And.intro (fun z => absurd z (by decide)) ?_
        show Qp (.inl (some (.int x1))) M
        exact l2 (by clear g0 g1 g2 g3 g4 g5 g6 g7 g8 g9 g10 l0 l1 l2; grind)
    refine And.intro (fun (c16 : x1.toInt = 6) => ?_) ?_
    · skip
      refine And.intro (show (27 < 32 ∧ (eg_gi M 25 2 = -nI 2 → ∃ b e, b ≤ e ∧ e ≤ 400 ∧ eg_gi M 25 3 = nI b ∧ eg_gi M 25 4 = nI e)) from ?_) ?_
      · exact g7 c1 c16
      refine And.intro (fun (c17 : (b2i (k_iw M 27)) = 0) => ?_) (fun (c17 : ¬ (b2i (k_iw M 27)) = 0) => ?_)
      · replace c17 := b2i_0.mp c17
        show eg_T wd k_X7_valueNamed Qp 2 0 0 [some (.ref 25), some (.int (x1 + (nI 1)))] [] M
        exact l1 (by clear g0 g1 g2 g3 g4 g5 g6 g7 g8 g9 g10 l0 l1 l2; grind)
      · replace c17 := b2i_ff c17
        refine And.intro (fun z => absurd z (by decide)) ?_
        show Qp (.inl (some (.int x1))) M
        exact l2 (by clear g0 g1 g2 g3 g4 g5 g6 g7 g8 g9 g10 l0 l1 l2; grind)
    refine And.intro (fun (c18 : x1.toInt = 7) => ?_) ?_
    · skip
      refine And.intro (show (24 < 32 ∧ (eg_gi M 25 2 = -nI 2 → ∃ b e, b ≤ e ∧ e ≤ 400 ∧ eg_gi M 25 3 = nI b ∧ eg_gi M 25 4 = nI e)) from ?_) ?_
      · exact g8 c1 c18
      refine And.intro (fun (c19 : (b2i (k_iw M 24)) = 0) => ?_) (fun (c19 : ¬ (b2i (k_iw M 24)) = 0) => ?_)
      · replace c19 := b2i_0.mp c19
        show eg_T wd k_X7_valueNamed Qp 2 0 0 [some (.ref 25), some (.int (x1 + (nI 1)))] [] M
        exact l1 (by clear g0 g1 g2 g3 g4 g5 g6 g7 g8 g9 g10 l0 l1 l2; grind)
      · replace c19 := b2i_ff c19
        refine And.intro (fun z => absurd z (by decide)) ?_
        show Qp (.inl (some (.int x1))) M
        exact l2 (by clear g0 g1 g2 g3 g4 g5 g6 g7 g8 g9 g10 l0 l1 l2; grind)
    refine And.intro (fun (c20 : x1.toInt = 8) => ?_) ?_
    · skip
      refine And.intro (show (0 < 32 ∧ (eg_gi M 25 2 = -nI 2 → ∃ b e, b ≤ e ∧ e ≤ 400 ∧ eg_gi M 25 3 = nI b ∧ eg_gi M 25 4 = nI e)) from ?_) ?_
      · exact g9 c1 c20
      refine And.intro (fun (c21 : (b2i (k_iw M 0)) = 0) => ?_) (fun (c21 : ¬ (b2i (k_iw M 0)) = 0) => ?_)
      · replace c21 := b2i_0.mp c21
        show eg_T wd k_X7_valueNamed Qp 2 0 0 [some (.ref 25), some (.int (x1 + (nI 1)))] [] M
        exact l1 (by clear g0 g1 g2 g3 g4 g5 g6 g7 g8 g9 g10 l0 l1 l2; grind)
      · replace c21 := b2i_ff c21
        refine And.intro (fun z => absurd z (by decide)) ?_
        show Qp (.inl (some (.int x1))) M
        exact l2 (by clear g0 g1 g2 g3 g4 g5 g6 g7 g8 g9 g10 l0 l1 l2; grind)
    refine And.intro (fun (c22 : x1.toInt = 9) => ?_) ?_
    · skip
      refine And.intro (show (29 < 32 ∧ (eg_gi M 25 2 = -nI 2 → ∃ b e, b ≤ e ∧ e ≤ 400 ∧ eg_gi M 25 3 = nI b ∧ eg_gi M 25 4 = nI e)) from ?_) ?_
      · exact g10 c1 c22
      refine And.intro (fun (c23 : (b2i (k_iw M 29)) = 0) => ?_) (fun (c23 : ¬ (b2i (k_iw M 29)) = 0) => ?_)
      · replace c23 := b2i_0.mp c23
        show eg_T wd k_X7_valueNamed Qp 2 0 0 [some (.ref 25), some (.int (x1 + (nI 1)))] [] M
        exact l1 (by clear g0 g1 g2 g3 g4 g5 g6 g7 g8 g9 g10 l0 l1 l2; grind)
      · replace c23 := b2i_ff c23
        refine And.intro (fun z => absurd z (by decide)) ?_
        show Qp (.inl (some (.int x1))) M
        exact l2 (by clear g0 g1 g2 g3 g4 g5 g6 g7 g8 g9 g10 l0 l1 l2; grind)
    exact trivial

def s_X7_valueNamed : eg_S := fun argv M Qp => match argv with
  | [.ref 25] => (∃ s, k_rs M s) ∧ Qp (.inl (some (.int (k_ov (px_v (eg_gi M 26) (k_tk M) 11))))) M
  | _ => False
theorem mo_X7_valueNamed : eg_mono s_X7_valueNamed := by
  intro argv M Q Q' h
  unfold s_X7_valueNamed
  split
  · exact fun z => ⟨z.1, h _ _ z.2⟩
  · exact id
theorem sz_X7_valueNamed : ∀ argv M Qp, s_X7_valueNamed argv M Qp → (eg_ls0 argv).length ≤ 2 := by
  intro argv M Qp h
  unfold s_X7_valueNamed at h
  split at h
  · exact Nat.le_of_ble_eq_true rfl
  · exact h.elim
theorem sr_X7_valueNamed : ∀ argv M Qp, s_X7_valueNamed argv M Qp → ∃ p0 As, argv = .ref p0 :: As ∧ eg_isO wd M p0 7 = true := by
  intro argv M Qp h
  unfold s_X7_valueNamed at h
  split at h
  · exact ⟨_, _, rfl, rfl⟩
  · exact h.elim
set_option maxRecDepth 100000 in
set_option maxHeartbeats 1000000 in
theorem T_X7_valueNamed {argv : List Value} {M : eg_M} {Qp : eg_P} (h : s_X7_valueNamed argv M Qp) : eg_T wd k_X7_valueNamed Qp 0 0 0 (eg_lsN 2 argv) [] M := by
  unfold s_X7_valueNamed at h
  split at h
  · obtain ⟨hp, hq⟩ := h
    obtain ⟨s, hs⟩ := hp
    have hw := rs_wp hs
    have lp : ∀ r i, i + r = 11 → px_v (eg_gi M 26) (k_tk M) r = px_v (eg_gi M 26) (k_tk M) 11 → eg_T wd k_X7_valueNamed Qp 2 0 0 [some (.ref 25), some (.int (nI i))] [] M := by
      intro r
      induction r with
      | zero =>
        intro i hi he
        have : i = 11 := by omega
        subst this
        have st := st_X7_valueNamed_2 (Qp := Qp) (M := M) (nI 11)
        have h11 : nI 11 ≤ nI 11 := by decide
        rw [← he] at hq
        exact st (fun z => absurd h11 z) (fun z => absurd h11 z) (fun z => absurd h11 z) (fun z => absurd h11 z) (fun z => absurd h11 z) (fun z => absurd h11 z) (fun z => absurd h11 z) (fun z => absurd h11 z) (fun z => absurd h11 z) (fun z => absurd h11 z) (fun z => absurd h11 z) (fun _ => hq) (fun z => absurd h11 z.1) (fun z => absurd h11 z.1)
      | succ r ih =>
        intro i hi he
        rw [px_v] at he
        have hr : 11 - (r + 1) = i := by omega
        rw [hr] at he
        have nx : k_iw M (px_vn.getD i 0) = false → eg_T wd k_X7_valueNamed Qp 2 0 0 [some (.ref 25), some (.int (nI (i + 1)))] [] M := fun z => by
          refine ih (i + 1) (by omega) ?_
          have z : px_w (eg_gi M 26) (px_vn.getD i 0) (k_tk M) = false := z
          rw [if_neg (by rw [z]; exact Bool.noConfusion)] at he
          exact he
        have fin : ¬ k_iw M (px_vn.getD i 0) = false → Qp (.inl (some (.int (nI i)))) M := fun z => by
          have z : px_w (eg_gi M 26) (px_vn.getD i 0) (k_tk M) = true := bq_t z
          rw [if_pos z] at he
          rw [← he] at hq
          exact hq
        have st := st_X7_valueNamed_2 (Qp := Qp) (M := M) (nI i)
        rw [n_s] at st
        have n11 : ¬ nI 11 ≤ nI i := by
          rw [n_le (by decide) (by omega)]
          omega
        have ti : (nI i).toInt = (i : Int) := nI_toInt (by omega)
        rw [ti] at st
        refine st (fun _ _ => ⟨by decide, hw⟩) (fun _ _ => ⟨by decide, hw⟩) (fun _ _ => ⟨by decide, hw⟩) (fun _ _ => ⟨by decide, hw⟩) (fun _ _ => ⟨by decide, hw⟩) (fun _ _ => ⟨by decide, hw⟩) (fun _ _ => ⟨by decide, hw⟩) (fun _ _ => ⟨by decide, hw⟩) (fun _ _ => ⟨by decide, hw⟩) (fun _ _ => ⟨by decide, hw⟩) (fun _ _ => ⟨by decide, hw⟩) (fun z => absurd z n11) (fun z => nx ?_) (fun z => fin ?_)
        · have z := z.2
          rcases (show i = 0 ∨ i = 1 ∨ i = 2 ∨ i = 3 ∨ i = 4 ∨ i = 5 ∨ i = 6 ∨ i = 7 ∨ i = 8 ∨ i = 9 ∨ i = 10 by omega) with rfl | rfl | rfl | rfl | rfl | rfl | rfl | rfl | rfl | rfl | rfl <;> (simp at z; exact z)
        · have z := z.2
          rcases (show i = 0 ∨ i = 1 ∨ i = 2 ∨ i = 3 ∨ i = 4 ∨ i = 5 ∨ i = 6 ∨ i = 7 ∨ i = 8 ∨ i = 9 ∨ i = 10 by omega) with rfl | rfl | rfl | rfl | rfl | rfl | rfl | rfl | rfl | rfl | rfl <;> (simp at z; intro y; exact Bool.noConfusion (y.symm.trans z))
    exact st_X7_valueNamed_0 (lp 11 0 rfl rfl)
  · exact h.elim
theorem de_X7_valueNamed : ∀ q ∈ k_X7_valueNamed.1, decode cX7_valueNamed q.1 = .ok q.2 := by decide +kernel
theorem me_X7_valueNamed (g : gl_T) : MT g yX7_valueNamed cX7_valueNamed 2 (some .int) ⟨5, 0, 0, 107⟩ 0 0 s_X7_valueNamed := by
  intro hl
  exact eg_met_of (k := k_X7_valueNamed) (by decide) rfl ⟨Nat.le_refl _, Nat.le_refl _⟩ rfl sz_X7_valueNamed de_X7_valueNamed (fun meth hn => (fn)) (fun A s H hE => (fn)) (fun p e s m args below meth c Q A ad0 N0 S0 hK hEx hA => (fc (mt_S hl S0 hK hEx hA (me_X7_nameOf g) lm_RX7_137 ls_X7_nameOf ln_RX7 lc_X7_nameOf ⟨rfl, by decide, by decide, by decide +kernel⟩ ⟨rfl, rfl⟩ ⟨by decide, by decide⟩ (by decide)) (fc (mt_V hl S0 hK hEx hA (me_X7_isWord g) lm_RX7_78 li_X7_isWord lx_X7_isWord ln_RX7 lc_X7_isWord ⟨rfl, by decide, by decide, by decide +kernel⟩ ⟨rfl, rfl⟩ ⟨by decide, by decide⟩ (ci := 7) rfl rfl sr_X7_isWord (by decide)) (fn)))) (fun p e s m args below meth c Qc XC A ad0 N0 P S0 hK hEx hA hlk hout hPX => (fn)) (fun argv M Qp h => T_X7_valueNamed h)

theorem px_num_r (T : Nat → Int32) (n : Nat) (t : px_T) (S : List Int32) : px_num T n (.inr (t, S)) = if t.2.2 = -nI 3 then (if t.1 + 6 < t.2.1 then px_ref 2 (.inr (t, S)) else px_adv T n (.inr (t, S))) else px_ref 1 (.inr (t, S)) := rfl
def k_X7_readNumber : eg_C := ([(0, .aload_n 0, 1), (1, .getfield 19, 3), (4, .bipush (-3), 2), (6, .if_icmp .eq 10, 3), (9, .aload_n 0, 1), (10, .iconst 1, 1), (11, .invokevirtual 86, 3), (14, .iconst 0, 1), (15, .ireturn, 1), (16, .aload_n 0, 1), (17, .getfield 25, 3), (20, .aload_n 0, 1), (21, .getfield 22, 3), (24, .isub, 1), (25, .bipush 6, 2), (27, .if_icmp .le 10, 3), (30, .aload_n 0, 1), (31, .iconst 2, 1), (32, .invokevirtual 86, 3), (35, .iconst 0, 1), (36, .ireturn, 1), (37, .iconst 0, 1), (38, .istore_n 1, 1), (39, .aload_n 0, 1), (40, .getfield 22, 3), (43, .istore_n 2, 1), (44, .iload_n 2, 1), (45, .aload_n 0, 1), (46, .getfield 25, 3), (49, .if_icmp .ge 24, 3), (52, .iload_n 1, 1), (53, .bipush 10, 2), (55, .imul, 1), (56, .aload_n 0, 1), (57, .getfield 9, 3), (60, .iload_n 2, 1), (61, .iaload, 1), (62, .iadd, 1), (63, .bipush 48, 2), (65, .isub, 1), (66, .istore_n 1, 1), (67, .iinc 2 1, 3), (70, .goto (-26), 3), (73, .aload_n 0, 1), (74, .invokevirtual 64, 3), (77, .iload_n 1, 1), (78, .ireturn, 1)], [(9, 7, 0, false), (19, 7, 2, false), (22, 7, 3, false), (25, 7, 4, false)], [], [(64, 0 + 1, 0, 0, s_X7_advance), (86, 1 + 1, 0, 0, s_X7_refuse_v)], [], 1, 0, 0)
theorem mk_X7_readNumber : ∀ q ∈ k_X7_readNumber.2.2.2.1, eg_mono q.2.2.2.2 := (fc (mo_X7_advance) (fc (mo_X7_refuse_v) (fn)))
set_option maxRecDepth 100000 in
theorem st_X7_readNumber_0 {Qp : eg_P} {M : eg_M} 
  (l0 : ((eg_gi M 25 2) = (-nI 3) ∧ ((eg_gi M 25 4) - (eg_gi M 25 3)) ≤ (nI 6)) → eg_T wd k_X7_readNumber Qp 44 0 0 [some (.ref 25), some (.int (nI 0)), some (.int (eg_gi M 25 3))] [] M)
  (l1 : ((eg_gi M 25 2) = (-nI 3) ∧ ¬ ((eg_gi M 25 4) - (eg_gi M 25 3)) ≤ (nI 6)) → Qp (.inl (some (.int (nI 0)))) (k_rf1 M (nI 2)))
  (l2 : (¬ (eg_gi M 25 2) = (-nI 3)) → Qp (.inl (some (.int (nI 0)))) (k_rf1 M (nI 1))) :
  eg_T wd k_X7_readNumber Qp 0 0 0 [some (.ref 25), none, none] [] M := by
  refine eg_T_run mk_X7_readNumber (cut := [44]) 50 ?_
  refine And.intro (fun (c1 : (eg_gi M 25 2) = (-nI 3)) => ?_) (fun (c1 : ¬ (eg_gi M 25 2) = (-nI 3)) => ?_)
  · skip
    refine And.intro (fun (c2 : ((eg_gi M 25 4) - (eg_gi M 25 3)) ≤ (nI 6)) => ?_) (fun (c2 : ¬ ((eg_gi M 25 4) - (eg_gi M 25 3)) ≤ (nI 6)) => ?_)
    · skip
      show eg_T wd k_X7_readNumber Qp 44 0 0 [some (.ref 25), some (.int (nI 0)), some (.int (eg_gi M 25 3))] [] M
      exact l0 ⟨c1, c2⟩
    · skip
      refine And.intro (show (True) from ?_) ?_
      · exact trivial
      refine And.intro (fun z => absurd z (by decide)) ?_
      show Qp (.inl (some (.int (nI 0)))) (k_rf1 M (nI 2))
      exact l1 ⟨c1, c2⟩
  · skip
    refine And.intro (show (True) from ?_) ?_
    · exact trivial
    refine And.intro (fun z => absurd z (by decide)) ?_
    show Qp (.inl (some (.int (nI 0)))) (k_rf1 M (nI 1))
    exact l2 c1

set_option maxRecDepth 100000 in
theorem st_X7_readNumber_44 {Qp : eg_P} {M : eg_M} (x1 : Int32) (x2 : Int32)
  (g0 : ((eg_gi M 25 4) ≤ x2) → (eg_gi M 25 5 = 0 → ∃ p n, p ≤ n ∧ n ≤ 400 ∧ eg_gi M 25 4 = nI p ∧ eg_gi M 25 1 = nI n))
  (g1 : (¬ ((eg_gi M 25 4) ≤ x2)) → (vp_in x2 400))
  (l0 : ((eg_gi M 25 4) ≤ x2) → Qp (.inl (some (.int x1))) (k_ad M))
  (l1 : (¬ (eg_gi M 25 4) ≤ x2) → eg_T wd k_X7_readNumber Qp 44 0 0 [some (.ref 25), some (.int (((x1 * (nI 10)) + (eg_gi M 26 x2.toNatClampNeg)) - (nI 48))), some (.int (x2 + (nI 1)))] [] M) :
  eg_T wd k_X7_readNumber Qp 44 0 0 [some (.ref 25), some (.int x1), some (.int x2)] [] M := by
  refine eg_T_run mk_X7_readNumber (cut := [44]) 50 ?_
  refine And.intro (fun (c1 : (eg_gi M 25 4) ≤ x2) => ?_) (fun (c1 : ¬ (eg_gi M 25 4) ≤ x2) => ?_)
  · skip
    refine And.intro (show (eg_gi M 25 5 = 0 → ∃ p n, p ≤ n ∧ n ≤ 400 ∧ eg_gi M 25 4 = nI p ∧ eg_gi M 25 1 = nI n) from ?_) ?_
    · exact g0 c1
    refine And.intro (fun z => absurd z (by decide)) ?_
    show Qp (.inl (some (.int x1))) (k_ad M)
    exact l0 c1
  · skip
    refine And.intro (show vp_in x2 400 from ?_) ?_
    · exact g1 c1
    show eg_T wd k_X7_readNumber Qp 44 0 0 [some (.ref 25), some (.int (((x1 * (nI 10)) + (eg_gi M 26 x2.toNatClampNeg)) - (nI 48))), some (.int (x2 + (nI 1)))] [] M
    exact l1 c1

def s_X7_readNumber : eg_S := fun argv M Qp => match argv with
  | [.ref 25] => ((∃ s, k_rs M s) ∧ k_tb M) ∧ ∀ (v : Int32) (M2 : eg_M), (k_rr M M2 (px_num (eg_gi M 26) (eg_gi M 25 1).toNatClampNeg) ∧ ∀ t S, k_rs M (.inr (t, S)) → t.2.2 = -nI 3 → t.2.1 ≤ t.1 + 6 → v = px_n (eg_gi M 26) t.1 (t.2.1 - t.1)) → Qp (.inl (some (.int (v)))) M2
  | _ => False
theorem mo_X7_readNumber : eg_mono s_X7_readNumber := by
  intro argv M Q Q' h
  unfold s_X7_readNumber
  split
  · exact fun z => ⟨z.1, fun v M2 y => h _ _ (z.2 v M2 y)⟩
  · exact id
theorem sz_X7_readNumber : ∀ argv M Qp, s_X7_readNumber argv M Qp → (eg_ls0 argv).length ≤ 3 := by
  intro argv M Qp h
  unfold s_X7_readNumber at h
  split at h
  · exact Nat.le_of_ble_eq_true rfl
  · exact h.elim
theorem sr_X7_readNumber : ∀ argv M Qp, s_X7_readNumber argv M Qp → ∃ p0 As, argv = .ref p0 :: As ∧ eg_isO wd M p0 7 = true := by
  intro argv M Qp h
  unfold s_X7_readNumber at h
  split at h
  · exact ⟨_, _, rfl, rfl⟩
  · exact h.elim
set_option maxRecDepth 100000 in
set_option maxHeartbeats 1000000 in
theorem T_X7_readNumber {argv : List Value} {M : eg_M} {Qp : eg_P} (h : s_X7_readNumber argv M Qp) : eg_T wd k_X7_readNumber Qp 0 0 0 (eg_lsN 3 argv) [] M := by
  unfold s_X7_readNumber at h
  split at h
  · obtain ⟨hp, hq⟩ := h
    obtain ⟨⟨s, hs⟩, hT⟩ := hp
    have s0 := st_X7_readNumber_0 (Qp := Qp) (M := M)
    by_cases hk : eg_gi M 25 2 = -nI 3
    · obtain ⟨n, hn, eN, h⟩ := id hs
      match s, hs, h with
      | .inl (c, p), hs, h =>
        rw [h.2.2.2.2.2.1] at hk
        exact absurd hk (by decide)
      | .inr (t, S), hs, h =>
        obtain ⟨h1, h2, h3, h4, h5, h6, h7, h8, h9, h10⟩ := h
        have uni : ∀ t' S', k_rs M (.inr (t', S')) → t'.1 = t.1 ∧ t'.2.1 = t.2.1 ∧ t'.2.2 = -nI 3 := by
          intro t' S' ⟨n', hn', eN', g1, g2, g3, g4, g5, g6, _⟩
          rw [h3, n_eq (by omega) (by omega)] at g3
          rw [h4, n_eq (by omega) (by omega)] at g4
          exact ⟨g3.symm, g4.symm, by rw [← g2, hk]⟩
        have no : ∀ c p, ¬ k_rs M (.inl (c, p)) := by
          rintro c p ⟨n', hn', eN', g⟩
          have g := g.2.2.2.2.2.1
          rw [hk] at g
          exact absurd g (by decide)
        rw [h3, h4, u_sub h5, n_le (by omega) (by decide)] at s0
        by_cases h66 : t.2.1 - t.1 ≤ 6
        · refine s0 (fun _ => ?_) (fun z => absurd h66 z.2) (fun z => absurd hk z)
          have lp : ∀ r i, i + r = t.2.1 - t.1 → eg_T wd k_X7_readNumber Qp 44 0 0 [some (.ref 25), some (.int (px_n (eg_gi M 26) t.1 i)), some (.int (nI (t.1 + i)))] [] M := by
            intro r
            induction r with
            | zero =>
              intro i hi
              have st := st_X7_readNumber_44 (Qp := Qp) (M := M) (px_n (eg_gi M 26) t.1 i) (nI (t.1 + i))
              rw [h4, n_le (by omega) (by omega)] at st
              rw [← h4] at st
              refine st (fun _ => rs_ad hs) (fun z => absurd (by omega) z) (fun _ => ?_) (fun z => absurd (by omega) z)
              refine hq _ _ ⟨⟨fr_ad M, fun s' hs' => ?_⟩, fun t' S' ht' _ _ => ?_⟩
              · match s', hs' with
                | .inl (c, p), hs' => exact absurd hs' (no c p)
                | .inr (t', S'), hs' =>
                  obtain ⟨u1, u2, u3⟩ := uni t' S' hs'
                  rw [px_num_r, if_pos u3, if_neg (by rw [u1, u2]; omega)]
                  exact rs_adv hT hs'
              · obtain ⟨u1, u2, u3⟩ := uni t' S' ht'
                rw [u1, u2, show t.2.1 - t.1 = i by omega]
            | succ r ih =>
              intro i hi
              have st := st_X7_readNumber_44 (Qp := Qp) (M := M) (px_n (eg_gi M 26) t.1 i) (nI (t.1 + i))
              rw [h4, n_le (by omega) (by omega), n_in (by omega) (by decide), n_c (show t.1 + i < 2 ^ 31 by omega), n_s] at st
              exact st (fun z => absurd z (by omega)) (fun _ => by omega) (fun z => absurd z (by omega)) (fun _ => ih (i + 1) (by omega))
          have := lp _ 0 (Nat.zero_add _)
          exact this
        · refine s0 (fun z => absurd z.2 h66) (fun _ => ?_) (fun z => absurd hk z)
          refine hq _ _ ⟨⟨(rr_ref (c := 2) (by decide) (by decide)).1, fun s' hs' => ?_⟩, fun t' S' ht' _ hl => ?_⟩
          · match s', hs' with
            | .inl (c, p), hs' => exact absurd hs' (no c p)
            | .inr (t', S'), hs' =>
              obtain ⟨u1, u2, u3⟩ := uni t' S' hs'
              have := (rr_ref (M := M) (c := 2) (by decide) (by decide)).2 _ hs'
              rw [px_num_r, if_pos u3, if_pos (by rw [u1, u2]; omega)]
              exact this
          · obtain ⟨u1, u2, u3⟩ := uni t' S' ht'
            rw [u1, u2] at hl
            omega
    · refine s0 (fun z => absurd z.1 hk) (fun z => absurd z.1 hk) (fun _ => ?_)
      refine hq _ _ ⟨⟨(rr_ref (c := 1) (by decide) (by decide)).1, fun s' hs' => ?_⟩, fun t' S' ht' hk' _ => ?_⟩
      · have := (rr_ref (M := M) (c := 1) (by decide) (by decide)).2 _ hs'
        match s', hs', this with
        | .inl (c, p), hs', this => exact this
        | .inr (t', S'), hs', this =>
          rw [px_num_r, if_neg (fun z => hk (by rw [rs_k hs']; exact z))]
          exact this
      · exact absurd (by rw [rs_k ht']; exact hk') hk
    
  · exact h.elim
theorem de_X7_readNumber : ∀ q ∈ k_X7_readNumber.1, decode cX7_readNumber q.1 = .ok q.2 := by decide +kernel
theorem me_X7_readNumber (g : gl_T) : MT g yX7_readNumber cX7_readNumber 3 (some .int) ⟨2, 0, 0, 40⟩ 0 0 s_X7_readNumber := by
  intro hl
  exact eg_met_of (k := k_X7_readNumber) (by decide) rfl ⟨Nat.le_refl _, Nat.le_refl _⟩ rfl sz_X7_readNumber de_X7_readNumber (fun meth hn => (fc (eg_FL_of wd_c7 (by decide) lf_RX7_9 (fun h => absurd h (by decide))) (fc (eg_FL_of wd_c7 (by decide) lf_RX7_19 (fun h => absurd h (by decide))) (fc (eg_FL_of wd_c7 (by decide) lf_RX7_22 (fun h => absurd h (by decide))) (fc (eg_FL_of wd_c7 (by decide) lf_RX7_25 (fun h => absurd h (by decide))) (fn)))))) (fun A s H hE => (fn)) (fun p e s m args below meth c Q A ad0 N0 S0 hK hEx hA => (fc (mt_V hl S0 hK hEx hA (me_X7_advance g) lm_RX7_64 li_X7_advance lx_X7_advance ln_RX7 lc_X7_advance ⟨rfl, by decide, by decide, by decide +kernel⟩ ⟨rfl, rfl⟩ ⟨by decide, by decide⟩ (ci := 7) rfl rfl sr_X7_advance (by decide)) (fc (mt_V hl S0 hK hEx hA (me_X7_refuse_v g) lm_RX7_86 li_X7_refuse lx_X7_refuse ln_RX7 lc_X7_refuse ⟨rfl, by decide, by decide, by decide +kernel⟩ ⟨rfl, rfl⟩ ⟨by decide, by decide⟩ (ci := 7) rfl rfl sr_X7_refuse_v (by decide)) (fn)))) (fun p e s m args below meth c Qc XC A ad0 N0 P S0 hK hEx hA hlk hout hPX => (fn)) (fun argv M Qp h => T_X7_readNumber h)

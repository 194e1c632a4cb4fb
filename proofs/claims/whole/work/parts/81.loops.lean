/-! a text of rules, in plain words: its clauses (kind, steps, steps behind 'unless'), pot and rate -/
abbrev px_K : Type := Int32 × List Int32 × List Int32
abbrev px_C : Type := (Nat × Nat) ⊕ (px_T × List px_K × Int32 × Int32)
/-- the class's steps of a clause -/
def px_cs (c : px_K) : List Int32 := if c.2.2 = [] then c.2.1 else c.2.1 ++ c.2.2 ++ [-nI 10]
def px_fl (CL : List px_K) : List Int32 := CL.flatMap px_cs
def px_WW : List px_K → Nat
  | [] => 0
  | c :: CL => px_W c.2.1 + px_W c.2.2 + px_WW CL
theorem px_WW_a : ∀ A B, px_WW (A ++ B) = px_WW A + px_WW B
  | [], B => (Nat.zero_add _).symm
  | c :: A, B => by
    show px_W c.2.1 + px_W c.2.2 + px_WW (A ++ B) = px_W c.2.1 + px_W c.2.2 + px_WW A + px_WW B
    rw [px_WW_a A B]
    omega
theorem px_fl_a (A : List px_K) (c : px_K) : px_fl (A ++ [c]) = px_fl A ++ px_cs c := by
  unfold px_fl
  rw [List.flatMap_append]
  simp
/-- what a clause begins with -/
def px_hd (T : Nat → Int32) (t : px_T) : Option Nat := if px_w T 4 t = true then some 0 else if px_w T 25 t = true then some 1 else if px_w T 22 t = true then some 2 else if px_w T 23 t = true then some 3 else none
def px_sc (T : Nat → Int32) (n : Nat) (u : px_T) (X : List px_K × Int32 × Int32) : px_C := if u.2.2 = nI 59 then .inr (lx T n u.2.1, X) else .inl (1, u.1)
/-- a formula -/
def px_fo (T : Nat → Int32) (n : Nat) (t : px_T) (k : Int32) (CL : List px_K) (p r : Int32) : px_C := match px_E T n 6 (.inr (lx T n t.2.1, [])) with
  | .inl e => .inl e
  | .inr (u, P) => if px_w T 28 u = true then (match px_E T n 6 (.inr (lx T n u.2.1, [])) with
      | .inl e => .inl e
      | .inr (v, Q) => px_sc T n v (CL ++ [(k, P, Q)], p, r)) else px_sc T n u (CL ++ [(k, P, [])], p, r)
/-- a number -/
def px_nu (T : Nat → Int32) (n : Nat) (t : px_T) (b : Bool) (CL : List px_K) (p r : Int32) : px_C := if (lx T n t.2.1).2.2 = -nI 3 then (if (lx T n t.2.1).1 + 6 < (lx T n t.2.1).2.1 then .inl (2, (lx T n t.2.1).1) else px_sc T n (lx T n (lx T n t.2.1).2.1) (CL, (if b = true then px_n T (lx T n t.2.1).1 ((lx T n t.2.1).2.1 - (lx T n t.2.1).1) else p), (if b = true then r else px_n T (lx T n t.2.1).1 ((lx T n t.2.1).2.1 - (lx T n t.2.1).1)))) else .inl (1, (lx T n t.2.1).1)
/-- one clause -/
def px_cl (T : Nat → Int32) (n : Nat) (ok : Bool) (c : px_C) : px_C := match c with
  | .inl e => .inl e
  | .inr (t, CL, p, r) => match px_hd T t with
    | none => .inl (1, t.1)
    | some h => if ok = true then (match h with
      | 0 => px_fo T n t (nI 0) CL p r
      | 1 => px_fo T n t (nI 1) CL p r
      | 2 => px_nu T n t true CL p r
      | _ => px_nu T n t false CL p r) else .inl (2, t.1)
/-- its steps -/
def px_vw (c : px_C) : px_S := match c with
  | .inl e => .inl e
  | .inr (t, CL, _, _) => .inr (t, px_fl CL)
def px_pr (p : Int32) : Prop := ∃ P, P < 2 ^ 20 ∧ p = nI P
def px_ko (c : px_K) : Prop := (c.1 = nI 0 ∨ c.1 = nI 1) ∧ p_ok 31 1 c.2.1 0 ∧ (c.2.2 = [] ∨ p_ok 31 1 c.2.2 0)
/-- as it may be -/
def px_ok (T : Nat → Int32) (n : Nat) (c : px_C) : Prop := match c with
  | .inl e => 1 ≤ e.1 ∧ e.1 ≤ 3 ∧ e.2 ≤ n
  | .inr (t, CL, p, r) => px_tok T n t ∧ (px_fl CL).length ≤ t.1 ∧ 2 * px_WW CL ≤ 3 * t.1 ∧ (∀ c ∈ CL, px_ko c) ∧ px_pr p ∧ px_pr r
theorem px_cl2_l {T : Nat → Int32} {n : Nat} (hn : n ≤ 400) (hT : ∀ j, j < n → 0 ≤ T j) (b : Bool) (e : Nat × Nat) : px_cl2 T n b (.inl e) = .inl e := by
  have hE := (px_E_G hn hT 6).1 e
  have h1 : px_adv T n (.inl e) = .inl e := rfl
  have h2 : px_ul T n (.inl e) = .inl e := rfl
  have h3 : px_num T n (.inl e) = .inl e := rfl
  have h4 : px_sgn T n (nI 59) (.inl e) = .inl e := rfl
  unfold px_cl2
  rw [h1, hE, h2, h3]
  cases b
  · rw [if_neg Bool.noConfusion]
    exact h4
  · rw [if_pos rfl]
    exact h4
theorem px_w_k {T : Nat → Int32} {w : Nat} {t : px_T} (h : px_w T w t = true) : t.2.2 = -nI 2 := by
  unfold px_w at h
  rw [Bool.and_eq_true, decide_eq_true_eq] at h
  exact h.1.1
/-- a word is no end: the next token lies behind -/
theorem px_nx {T : Nat → Int32} {n : Nat} {t : px_T} (ht : px_tok T n t) (hk : ¬ t.2.2 = -nI 1) : px_tok T n (lx T n t.2.1) ∧ t.1 < (lx T n t.2.1).1 := by
  obtain ⟨h1, h2, h3⟩ := px_tok_b ht
  obtain ⟨g1, g2⟩ := px_tok_n ht
  rcases h3 with z | z
  · exact absurd z hk
  · exact ⟨g1, by omega⟩
theorem px_sgn_r (T : Nat → Int32) (n : Nat) (t : px_T) (S : List Int32) : px_sgn T n (nI 59) (.inr (t, S)) = if t.2.2 = nI 59 then .inr (lx T n t.2.1, S) else .inl (1, t.1) := rfl
theorem px_sc_ok {T : Nat → Int32} {n : Nat} {u : px_T} {CL : List px_K} {p r : Int32} (hu : px_tok T n u) (h1 : (px_fl CL).length ≤ u.1) (h2 : 2 * px_WW CL ≤ 3 * u.1) (h3 : ∀ c ∈ CL, px_ko c) (h4 : px_pr p) (h5 : px_pr r) : px_sgn T n (nI 59) (.inr (u, px_fl CL)) = px_vw (px_sc T n u (CL, p, r)) ∧ px_ok T n (px_sc T n u (CL, p, r)) ∧ ∀ v X, px_sc T n u (CL, p, r) = .inr (v, X) → u.1 < v.1 := by
  rw [px_sgn_r]
  unfold px_sc
  by_cases h : u.2.2 = nI 59
  · rw [if_pos h, if_pos h]
    obtain ⟨g1, g2⟩ := px_nx hu (by rw [h]; decide)
    refine ⟨rfl, ⟨g1, by omega, by omega, h3, h4, h5⟩, fun v X e => ?_⟩
    cases e
    exact g2
  · rw [if_neg h, if_neg h]
    refine ⟨rfl, ⟨Nat.le_of_ble_eq_true rfl, Nat.le_of_ble_eq_true rfl, ?_⟩, fun v X e => by cases e⟩
    have := px_tok_b hu
    show u.1 ≤ n
    omega
/-- reading a formula -/
theorem px_fo_eq {T : Nat → Int32} {n : Nat} (hn : n ≤ 400) (hT : ∀ j, j < n → 0 ≤ T j) {t : px_T} {CL : List px_K} {p r k : Int32} (hk : k = nI 0 ∨ k = nI 1) (ht : ¬ t.2.2 = -nI 1) (h : px_ok T n (.inr (t, CL, p, r))) : px_sgn T n (nI 59) (px_ul T n (px_E T n 6 (px_adv T n (.inr (t, px_fl CL))))) = px_vw (px_fo T n t k CL p r) ∧ px_ok T n (px_fo T n t k CL p r) ∧ ∀ v X, px_fo T n t k CL p r = .inr (v, X) → t.1 < v.1 := by
  obtain ⟨o1, o2, o3, o4, o5, o6⟩ := h
  have G := px_E_G hn hT 6
  obtain ⟨a1, a2⟩ := px_nx o1 ht
  obtain ⟨g1, g2⟩ := G.2 _ a1
  have e0 : px_adv T n (.inr (t, px_fl CL)) = .inr (lx T n t.2.1, px_fl CL) := rfl
  rw [e0, g1 (px_fl CL) (by omega)]
  unfold px_fo
  cases hf : px_E T n 6 (.inr (lx T n t.2.1, [])) with
  | inl e =>
    rw [hf] at g2
    obtain ⟨b1, b2, b3, b4⟩ := g2
    exact ⟨rfl, ⟨b1, b2, b4⟩, fun v X z => by cases z⟩
  | inr x =>
    obtain ⟨u, P⟩ := x
    rw [hf] at g2
    obtain ⟨d1, d2, d3, d4, d5⟩ := g2
    have hP : p_ok 31 1 P 0 := d5 0
    have e1 : px_ap (px_fl CL) (.inr (u, P)) = .inr (u, px_fl CL ++ P) := rfl
    rw [e1]
    dsimp only
    unfold px_ul
    have e2 : px_is T 28 (.inr (u, px_fl CL ++ P)) = px_w T 28 u := rfl
    rw [e2]
    by_cases hw : px_w T 28 u = true
    · rw [if_pos hw, if_pos hw]
      obtain ⟨c1, c2⟩ := px_nx d1 (by rw [px_w_k hw]; decide)
      obtain ⟨g3, g4⟩ := G.2 _ c1
      have e3 : px_adv T n (.inr (u, px_fl CL ++ P)) = .inr (lx T n u.2.1, px_fl CL ++ P) := rfl
      rw [e3, g3 (px_fl CL ++ P) (by rw [List.length_append]; omega)]
      cases hq : px_E T n 6 (.inr (lx T n u.2.1, [])) with
      | inl e =>
        rw [hq] at g4
        obtain ⟨b1, b2, b3, b4⟩ := g4
        exact ⟨rfl, ⟨b1, b2, b4⟩, fun v X z => by cases z⟩
      | inr x =>
        obtain ⟨v, Q⟩ := x
        rw [hq] at g4
        obtain ⟨f1, f2, f3, f4, f5⟩ := g4
        have hQ : p_ok 31 1 Q 0 := f5 0
        have hv := px_tok_b f1
        have e4 : px_ap (px_fl CL ++ P) (.inr (v, Q)) = .inr (v, px_fl CL ++ P ++ Q) := rfl
        have hl : (px_fl CL ++ P ++ Q).length + 2 ≤ v.1 := by
          rw [List.length_append, List.length_append]
          omega
        have e5 : px_fl (CL ++ [(k, P, Q)]) = px_fl CL ++ P ++ Q ++ [-nI 10] := by
          rw [px_fl_a]
          unfold px_cs
          rw [if_neg (p_ok_ne hQ)]
          simp only [List.append_assoc]
        have e6 : px_WW (CL ++ [(k, P, Q)]) = px_WW CL + (px_W P + px_W Q) := by
          rw [px_WW_a]
          rfl
        rw [e4, px_put_S (by omega), ← e5]
        dsimp only
        obtain ⟨r1, r2, r3⟩ := px_sc_ok (T := T) (n := n) (u := v) (CL := CL ++ [(k, P, Q)]) (p := p) (r := r) f1 (by rw [e5, List.length_append, List.length_singleton]; omega) (by rw [e6]; omega) (fun c hc => by
          rcases List.mem_append.mp hc with z | z
          · exact o4 c z
          · rw [List.mem_singleton.mp z]
            exact ⟨hk, hP, Or.inr hQ⟩) o5 o6
        exact ⟨r1, r2, fun v' X z => by have := r3 v' X z; omega⟩
    · rw [if_neg hw, if_neg hw]
      have e5 : px_fl (CL ++ [(k, P, [])]) = px_fl CL ++ P := by
        rw [px_fl_a]
        unfold px_cs
        rw [if_pos rfl]
      have e6 : px_WW (CL ++ [(k, P, [])]) = px_WW CL + px_W P := by
        rw [px_WW_a]
        show px_WW CL + (px_W P + 0 + 0) = _
        omega
      rw [← e5]
      obtain ⟨r1, r2, r3⟩ := px_sc_ok (T := T) (n := n) (u := u) (CL := CL ++ [(k, P, [])]) (p := p) (r := r) d1 (by rw [e5, List.length_append]; omega) (by rw [e6]; omega) (fun c hc => by
        rcases List.mem_append.mp hc with z | z
        · exact o4 c z
        · rw [List.mem_singleton.mp z]
          exact ⟨hk, hP, Or.inl rfl⟩) o5 o6
      exact ⟨r1, r2, fun v' X z => by have := r3 v' X z; omega⟩
theorem px_num_v {T : Nat → Int32} {n : Nat} (hT : ∀ j, j < n → 0 ≤ T j) {t : px_T} (ht : px_tok T n t) (h3 : t.2.2 = -nI 3) (h6 : ¬ t.1 + 6 < t.2.1) : px_pr (px_n T t.1 (t.2.1 - t.1)) := by
  have hb := px_tok_b ht
  obtain ⟨v, hv, ev⟩ := px_n_v (T := T) (b := t.1) (t.2.1 - t.1) (by omega) (fun j hj => lx_k_3 (hT _ (by omega)) (by rw [px_tok_all ht (by rw [h3]; decide) (by rw [h3]; decide) (t.1 + j) (by omega) (by omega)]; exact h3))
  refine ⟨v, Nat.lt_of_lt_of_le hv (Nat.le_trans (Nat.pow_le_pow_right (by decide) (show t.2.1 - t.1 ≤ 6 by omega)) (by decide)), ev⟩
theorem px_nu_eq {T : Nat → Int32} {n : Nat} (hT : ∀ j, j < n → 0 ≤ T j) {t : px_T} {CL : List px_K} {p r : Int32} (b : Bool) (ht : ¬ t.2.2 = -nI 1) (h : px_ok T n (.inr (t, CL, p, r))) : px_sgn T n (nI 59) (px_num T n (px_adv T n (.inr (t, px_fl CL)))) = px_vw (px_nu T n t b CL p r) ∧ px_ok T n (px_nu T n t b CL p r) ∧ ∀ v X, px_nu T n t b CL p r = .inr (v, X) → t.1 < v.1 := by
  obtain ⟨o1, o2, o3, o4, o5, o6⟩ := h
  obtain ⟨a1, a2⟩ := px_nx o1 ht
  have hb := px_tok_b a1
  have e0 : px_adv T n (.inr (t, px_fl CL)) = .inr (lx T n t.2.1, px_fl CL) := rfl
  rw [e0, px_num_r]
  unfold px_nu
  generalize lx T n t.2.1 = t1 at a1 a2 hb ⊢
  by_cases h3 : t1.2.2 = -nI 3
  · rw [if_pos h3, if_pos h3]
    by_cases h6 : t1.1 + 6 < t1.2.1
    · rw [if_pos h6, if_pos h6]
      exact ⟨rfl, ⟨Nat.le_of_ble_eq_true rfl, Nat.le_of_ble_eq_true rfl, show t1.1 ≤ n by omega⟩, fun v X z => by cases z⟩
    · rw [if_neg h6, if_neg h6]
      have hv := px_num_v hT a1 h3 h6
      obtain ⟨c1, c2⟩ := px_nx a1 (by rw [h3]; decide)
      have e1 : px_adv T n (.inr (t1, px_fl CL)) = .inr (lx T n t1.2.1, px_fl CL) := rfl
      rw [e1]
      have hp : px_pr (if b = true then px_n T t1.1 (t1.2.1 - t1.1) else p) := by
        split
        · exact hv
        · exact o5
      have hr : px_pr (if b = true then r else px_n T t1.1 (t1.2.1 - t1.1)) := by
        split
        · exact o6
        · exact hv
      obtain ⟨r1, r2, r3⟩ := px_sc_ok (T := T) (n := n) (u := lx T n t1.2.1) (CL := CL) c1 (by omega) (by omega) o4 hp hr
      exact ⟨r1, r2, fun v' X z => by have := r3 v' X z; omega⟩
  · rw [if_neg h3, if_neg h3]
    exact ⟨rfl, ⟨Nat.le_of_ble_eq_true rfl, Nat.le_of_ble_eq_true rfl, show t1.1 ≤ n by omega⟩, fun v X z => by cases z⟩
/-- a clause's steps are those of the class -/
theorem px_cl_eq {T : Nat → Int32} {n : Nat} (hn : n ≤ 400) (hT : ∀ j, j < n → 0 ≤ T j) {t : px_T} {CL : List px_K} {p r : Int32} (ok : Bool) (h : px_ok T n (.inr (t, CL, p, r))) : px_clS T n ok (.inr (t, px_fl CL)) = px_vw (px_cl T n ok (.inr (t, CL, p, r))) ∧ px_ok T n (px_cl T n ok (.inr (t, CL, p, r))) ∧ ∀ v X, px_cl T n ok (.inr (t, CL, p, r)) = .inr (v, X) → t.1 < v.1 := by
  have ht := h.1
  have hb := px_tok_b ht
  have ew : ∀ w, px_is T w (.inr (t, px_fl CL)) = px_w T w t := fun _ => rfl
  have kk : ∀ w, px_w T w t = true → ¬ t.2.2 = -nI 1 := fun w hw => by
    rw [px_w_k hw]
    decide
  unfold px_clS px_h1 px_cl
  rw [ew, ew, ew, ew]
  dsimp only
  unfold px_hd
  cases w4 : px_w T 4 t with
  | true =>
    rw [if_neg (fun z => Bool.noConfusion z.1), if_pos rfl, Bool.true_or]
    cases ok with
    | true =>
      rw [if_pos rfl]
      exact px_fo_eq hn hT (Or.inl rfl) (kk 4 w4) h
    | false =>
      rw [if_neg Bool.noConfusion]
      refine ⟨px_cl2_l hn hT _ _, ⟨Nat.le_of_ble_eq_true rfl, Nat.le_of_ble_eq_true rfl, show t.1 ≤ n by omega⟩, fun v X z => by cases z⟩
  | false =>
    rw [if_neg (show ¬ false = true from Bool.noConfusion), Bool.false_or]
    cases w25 : px_w T 25 t with
    | true =>
      rw [if_neg (fun z => Bool.noConfusion z.2.1), if_pos rfl]
      cases ok with
      | true =>
        rw [if_pos rfl]
        exact px_fo_eq hn hT (Or.inr rfl) (kk 25 w25) h
      | false =>
        rw [if_neg Bool.noConfusion]
        refine ⟨px_cl2_l hn hT _ _, ⟨Nat.le_of_ble_eq_true rfl, Nat.le_of_ble_eq_true rfl, show t.1 ≤ n by omega⟩, fun v X z => by cases z⟩
    | false =>
      rw [if_neg (show ¬ false = true from Bool.noConfusion)]
      cases w22 : px_w T 22 t with
      | true =>
        rw [if_neg (fun z => Bool.noConfusion z.2.2.1), if_pos rfl]
        cases ok with
        | true =>
          rw [if_pos rfl]
          exact px_nu_eq hT true (kk 22 w22) h
        | false =>
          rw [if_neg Bool.noConfusion]
          refine ⟨px_cl2_l hn hT _ _, ⟨Nat.le_of_ble_eq_true rfl, Nat.le_of_ble_eq_true rfl, show t.1 ≤ n by omega⟩, fun v X z => by cases z⟩
      | false =>
        rw [if_neg (show ¬ false = true from Bool.noConfusion)]
        cases w23 : px_w T 23 t with
        | true =>
          rw [if_neg (fun z => Bool.noConfusion z.2.2.2), if_pos rfl]
          cases ok with
          | true =>
            rw [if_pos rfl]
            exact px_nu_eq hT false (kk 23 w23) h
          | false =>
            rw [if_neg Bool.noConfusion]
            refine ⟨px_cl2_l hn hT _ _, ⟨Nat.le_of_ble_eq_true rfl, Nat.le_of_ble_eq_true rfl, show t.1 ≤ n by omega⟩, fun v X z => by cases z⟩
        | false =>
          rw [if_pos ⟨rfl, rfl, rfl, rfl⟩, if_neg (show ¬ false = true from Bool.noConfusion)]
          refine ⟨px_cl2_l hn hT _ _, ⟨Nat.le_of_ble_eq_true rfl, Nat.le_of_ble_eq_true rfl, show t.1 ≤ n by omega⟩, fun v X z => by cases z⟩
/-- the whole text: clause by clause, from clause i on -/
def px_mo (c : px_C) : Bool := match c with
  | .inl _ => false
  | .inr (t, _) => decide (¬ t.2.2 = -nI 1)
def px_rd (T : Nat → Int32) (n : Nat) : Nat → Nat → px_C → px_C
  | 0, _, c => c
  | f + 1, i, c => if px_mo c = true then px_rd T n f (i + 1) (px_cl T n (decide (i < 12)) c) else c
def px_all (T : Nat → Int32) (n : Nat) : px_C := px_rd T n 13 0 (.inr (lx T n 0, [], nI 100000, nI 20))
theorem px_cl_ok {T : Nat → Int32} {n : Nat} (hn : n ≤ 400) (hT : ∀ j, j < n → 0 ≤ T j) (ok : Bool) (c : px_C) (h : px_ok T n c) : px_ok T n (px_cl T n ok c) := match c, h with
  | .inl _, h => h
  | .inr (_, _, _, _), h => (px_cl_eq hn hT ok h).2.1
theorem px_rd_ok {T : Nat → Int32} {n : Nat} (hn : n ≤ 400) (hT : ∀ j, j < n → 0 ≤ T j) : ∀ f i c, px_ok T n c → px_ok T n (px_rd T n f i c)
  | 0, _, _, h => h
  | f + 1, i, c, h => by
    rw [px_rd]
    split
    · exact px_rd_ok hn hT f (i + 1) _ (px_cl_ok hn hT _ c h)
    · exact h
theorem px_0_ok (T : Nat → Int32) (n : Nat) : px_ok T n (.inr (lx T n 0, [], nI 100000, nI 20)) := ⟨⟨0, Nat.zero_le _, rfl⟩, Nat.zero_le _, Nat.zero_le _, (fun c hc => by cases hc), ⟨100000, by decide, rfl⟩, ⟨20, by decide, rfl⟩⟩
/-- the thirteenth clause is refused: no more after it -/
theorem px_rd_end (T : Nat → Int32) (n : Nat) : ∀ f i c, i + f = 13 → px_mo (px_rd T n f i c) = true → 13 ≤ i
  | 0, i, c, h, _ => by omega
  | f + 1, i, c, h, hm => by
    rw [px_rd] at hm
    split at hm
    · rename_i hc
      have := px_rd_end T n f (i + 1) _ (by omega) hm
      have e : i = 12 := by omega
      have ef : f = 0 := by omega
      subst e ef
      rw [px_rd] at hm
      have : ∀ c, px_mo (px_cl T n (decide (12 < 12)) c) = true → False := fun c z => by
        match c with
        | .inl _ => exact Bool.noConfusion z
        | .inr (t, CL, p, r) =>
          unfold px_cl at z
          dsimp only at z
          split at z
          · exact Bool.noConfusion z
          · rw [if_neg (by decide)] at z
            exact Bool.noConfusion z
      exact (this _ hm).elim
    · rename_i hc
      exact absurd hm hc

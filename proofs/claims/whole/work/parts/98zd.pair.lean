/-! PAIRS: pair, stables -/
theorem fnd_cg {f g : Nat → Int32} {x : Int32} : ∀ (r i : Nat), (∀ j, i ≤ j → j < i + r → f j = g j) → fnd f x i r = fnd g x i r
  | 0, _, _ => rfl
  | r + 1, i, h => by
    show (if f i = x then nI i else fnd f x (i + 1) r) = (if g i = x then nI i else fnd g x (i + 1) r)
    rw [h i (Nat.le_refl i) (by omega), fnd_cg r (i + 1) (fun j h1 h2 => h j (by omega) (by omega))]
theorem fm_cg {α β : Type} {f g : α → List β} : ∀ {L : List α}, (∀ a ∈ L, f a = g a) → L.flatMap f = L.flatMap g
  | [], _ => rfl
  | a :: L, h => by
    rw [List.flatMap_cons, List.flatMap_cons, h a List.mem_cons_self, fm_cg (fun b hb => h b (List.mem_cons_of_mem _ hb))]
theorem de_eq {X : eg_M} (h : r_wi X) {t o : Nat} (ht : t < 16) (ho : o < 16) : m_de X (nI t) (nI o) = g_rh X t o := by
  obtain ⟨⟨m, hm, em⟩, h2, _, h4, h5⟩ := h t ht
  unfold m_de g_rh
  rw [n_c (by omega), h2, h5 o ho, em, n_c (by omega)]
  refine fnd_cg m 0 (fun j _ hj => ?_)
  show eg_gi X 171 (nI 6 * nI t + nI j).toNatClampNeg = _
  rw [n_m, n_s, n_c (by omega)]
  exact (h4 j (by rw [em, n_c (by omega)]; omega)).1
/-- rows of the sets, as the model lays them -/
def yl (X Y : eg_M) (F S : List Nat) : Prop := (∀ i (h : i < F.length), eg_gi Y 172 i = nI F[i]) ∧ (∀ j (h : j < S.length), eg_gi Y 173 j = nI S[j]) ∧ (∀ t, eg_gi Y 170 t = eg_gi X 170 t) ∧ (∀ t, eg_gi Y 171 t = eg_gi X 171 t) ∧ (∀ x ∈ F, x < 16) ∧ (∀ x ∈ S, x < 16) ∧ (∀ x ∈ F, x ∉ S) ∧ F.Nodup ∧ S.Nodup ∧ F.length ≤ 6 ∧ S.length ≤ 6
def v16 (p : Nat → Int32) : Prop := ∀ y, y < 16 → p y = -nI 1 ∨ ∃ z, z < 16 ∧ p y = nI z
section YL
variable {X Y : eg_M} {F S : List Nat}
theorem de_Y (hY : yl X Y F S) (h : r_wi X) {t o : Nat} (ht : t < 16) (ho : o < 16) : m_de Y (nI t) (nI o) = g_rh X t o := by
  rw [← de_eq h ht ho]
  unfold m_de
  simp only [hY.2.2.1, hY.2.2.2.1]
theorem my_Y (hY : yl X Y F S) (h : r_wi X) {t o : Nat} (ht : t < 16) (ho : o < 16) : m_my Y (nI t) (nI o) = f_my (g_rh X) t o := by
  unfold m_my f_my
  rw [de_Y hY h ht ho, de_Y hY h ho ht]
theorem up2_eq {p : Nat → Int32} {t o : Nat} (ht : t < 16) (ho : o < 16) : up2 p (nI t) (nI o) = f_up p t o := by
  unfold up2 f_up
  rw [n_c (by omega), n_c (by omega)]
theorem gp_eq (hY : yl X Y F S) (h : r_wi X) : ∀ (d n : Nat) (p : Nat → Int32), n ≤ F.length → F.length < n + d → gp Y F.length S.length d n p = f_gp (g_rh X) S (F.drop n) p
  | 0, n, p, h1, h2 => by omega
  | d + 1, n, p, h1, h2 => by
    have hY' := hY
    obtain ⟨y1, y2, _, _, y5, y6, _⟩ := hY'
    have e : gp Y F.length S.length (d + 1) n p = if n = F.length then [p] else gp Y F.length S.length d (n + 1) p ++ (List.range S.length).flatMap (fun j => if p (eg_gi Y 173 j).toNatClampNeg = -nI 1 ∧ m_my Y (eg_gi Y 172 n) (eg_gi Y 173 j) = true then gp Y F.length S.length d (n + 1) (up2 p (eg_gi Y 172 n) (eg_gi Y 173 j)) else []) := rfl
    rw [e]
    by_cases q : n = F.length
    · rw [if_pos q, q, List.drop_length]
      rfl
    · have hn : n < F.length := by omega
      have f16 := y5 _ (List.getElem_mem hn)
      rw [if_neg q, List.drop_eq_getElem_cons hn]
      show _ = f_gp (g_rh X) S (F.drop (n + 1)) p ++ S.flatMap (fun o => if p o = -nI 1 ∧ f_my (g_rh X) F[n] o = true then f_gp (g_rh X) S (F.drop (n + 1)) (f_up p F[n] o) else [])
      rw [gp_eq hY h d (n + 1) p (by omega) (by omega)]
      congr 1
      conv => rhs; arg 2; rw [← rg_F S]
      rw [List.flatMap_map]
      refine fm_cg (fun j hj => ?_)
      have hj := List.mem_range.mp hj
      have s16 := y6 _ (List.getElem_mem hj)
      show (if p (eg_gi Y 173 j).toNatClampNeg = -nI 1 ∧ m_my Y (eg_gi Y 172 n) (eg_gi Y 173 j) = true then _ else []) = (if p (S.getD j 0) = -nI 1 ∧ f_my (g_rh X) F[n] (S.getD j 0) = true then f_gp (g_rh X) S (F.drop (n + 1)) (f_up p F[n] (S.getD j 0)) else [])
      rw [gD hj, y2 j hj, y1 n hn, n_c (by omega), my_Y hY h f16 s16, up2_eq f16 s16, gp_eq hY h d (n + 1) _ (by omega) (by omega)]
theorem stb_eq (hY : yl X Y F S) (h : r_wi X) {q : Nat → Int32} (hq : v16 q) : m_stb Y F.length S.length q ↔ f_st (g_rh X) F S q = true := by
  have hY' := hY
  obtain ⟨y1, y2, y3, y4, y5, y6, _⟩ := hY'
  have wl : ∀ t o, t < 16 → o < 16 → m_wl (eg_ri Y 175 q) (nI t) (nI o) = f_wd (g_rh X) q t o := fun t o ht ho => by
    have hd : ∀ a b, m_de (eg_ri Y 175 q) a b = m_de Y a b := fun a b => rfl
    unfold m_wl f_wd
    rw [n_c (by omega), ri_g, if_pos rfl, hd, hd, de_Y hY h ht ho]
    refine decide_eq_decide.mpr ?_
    rcases hq t ht with z | ⟨z, z1, z2⟩
    · exact ⟨fun _ => Or.inl z, fun _ => Or.inl z⟩
    · rw [z2, de_Y hY h ht z1, n_c (by omega)]
      exact or_congr Iff.rfl Int32.not_le
  have key : ∀ i j (hi : i < F.length) (hj : j < S.length), m_qu (eg_ri Y 175 q) i j ↔ f_bl (g_rh X) q F[i] S[j] = true := fun i j hi hj => by
    have f16 := y5 _ (List.getElem_mem hi)
    have s16 := y6 _ (List.getElem_mem hj)
    unfold m_qu f_bl
    rw [show eg_gi (eg_ri Y 175 q) 172 i = nI F[i] from y1 i hi, show eg_gi (eg_ri Y 175 q) 173 j = nI S[j] from y2 j hj, wl _ _ f16 s16, wl _ _ s16 f16, show m_my (eg_ri Y 175 q) (nI F[i]) (nI S[j]) = m_my Y (nI F[i]) (nI S[j]) from rfl, my_Y hY h f16 s16, Bool.and_eq_true, Bool.and_eq_true]
  constructor
  · intro hs
    refine List.all_eq_true.mpr (fun t ht => List.all_eq_true.mpr (fun o ho => ?_))
    obtain ⟨i, hi, rfl⟩ := List.mem_iff_getElem.mp ht
    obtain ⟨j, hj, rfl⟩ := List.mem_iff_getElem.mp ho
    have := hs i hi j hj
    rw [key i j hi hj] at this
    rw [Bool.eq_false_iff.mpr this]
    rfl
  · intro hs i hi j hj z
    have := List.all_eq_true.mp (List.all_eq_true.mp hs F[i] (List.getElem_mem hi)) S[j] (List.getElem_mem hj)
    rw [(key i j hi hj).mp z] at this
    exact Bool.noConfusion this
theorem ok_v16 (hY : yl X Y F S) {q : Nat → Int32} (hok : f_ok (g_rh X) F S q) (h0 : ∀ y, y < 16 → y ∉ F → y ∉ S → q y = -nI 1) : v16 q := fun y hy => by
  obtain ⟨_, _, _, _, y5, y6, _⟩ := hY
  by_cases a : y ∈ F
  · exact (hok.1 y a).imp id (fun ⟨o, ho, z, _⟩ => ⟨o, y6 o ho, z⟩)
  · by_cases b : y ∈ S
    · exact (hok.2 y b).imp id (fun ⟨t, ht, z, _⟩ => ⟨t, y5 t ht, z⟩)
    · exact Or.inl (h0 y hy a b)
theorem g1_cnt (hY : yl X Y F S) (h : r_wi X) : ∀ (Q : List (Nat → Int32)) (c : Nat) (g : Nat → Int32), (∀ q ∈ Q, v16 q) → (Q.foldl (m_g1 Y F.length S.length) (nI c, g)).1 = nI (c + Q.countP (f_st (g_rh X) F S))
  | [], c, g, _ => rfl
  | q :: Q, c, g, hQ => by
    rw [List.foldl_cons]
    have se := stb_eq hY h (hQ q List.mem_cons_self)
    unfold m_g1
    by_cases z : m_stb Y F.length S.length q
    · rw [if_pos z, n_s, List.countP_cons, if_pos (se.mp z)]
      have := g1_cnt hY h Q (c + 1) (m_fu Y q g F.length) (fun q hq => hQ q (List.mem_cons_of_mem _ hq))
      unfold m_g1 at this
      rw [this]
      congr 1
      omega
    · rw [if_neg z, List.countP_cons, if_neg (fun y => z (se.mpr y))]
      exact g1_cnt hY h Q c g (fun q hq => hQ q (List.mem_cons_of_mem _ hq))
/-- the best friend of t among the stable pairings of Q -/
def f_best (ρ : Nat → Nat → Int32) (F S : List Nat) (Q : List (Nat → Int32)) (r : Nat → Int32) : Prop := ∀ t ∈ F, (r t = -nI 1 ∧ ∀ q ∈ Q, f_st ρ F S q = true → q t = -nI 1) ∨ ∃ q ∈ Q, f_st ρ F S q = true ∧ r t = q t ∧ ¬ q t = -nI 1 ∧ ∀ q' ∈ Q, f_st ρ F S q' = true → q' t = -nI 1 ∨ ¬ ρ t (q' t).toNatClampNeg < ρ t (q t).toNatClampNeg
theorem fu_o {q g : Nat → Int32} {y : Nat} : ∀ k, (∀ i, i < k → ¬ y = (eg_gi Y 172 i).toNatClampNeg) → m_fu Y q g k y = g y
  | 0, _ => rfl
  | k + 1, h => by
    have ih := fu_o (q := q) (g := g) k (fun i hi => h i (by omega))
    unfold m_fu
    by_cases c : ¬ q (eg_gi Y 172 k).toNatClampNeg = -nI 1 ∧ (m_fu Y q g k (eg_gi Y 172 k).toNatClampNeg = -nI 1 ∨ m_de Y (eg_gi Y 172 k) (q (eg_gi Y 172 k).toNatClampNeg) < m_de Y (eg_gi Y 172 k) (m_fu Y q g k (eg_gi Y 172 k).toNatClampNeg))
    · rw [if_pos c]
      show (if y = (eg_gi Y 172 k).toNatClampNeg then _ else m_fu Y q g k y) = g y
      rw [if_neg (h k (by omega)), ih]
    · rw [if_neg c, ih]
theorem g1_best (hY : yl X Y F S) (h : r_wi X) (hds : m_ds Y F.length S.length) : ∀ (Q Q0 : List (Nat → Int32)) (x : Int32 × (Nat → Int32)), (∀ q ∈ Q, v16 q) → v16 x.2 → f_best (g_rh X) F S Q0 x.2 → f_best (g_rh X) F S (Q0 ++ Q) (Q.foldl (m_g1 Y F.length S.length) x).2 ∧ ∀ y, y ∉ F → (Q.foldl (m_g1 Y F.length S.length) x).2 y = x.2 y
  | [], Q0, x, _, _, hb => ⟨by rw [List.append_nil]; exact hb, fun _ _ => rfl⟩
  | q :: Q, Q0, x, hQ, hx, hb => by
    have hY' := hY
    obtain ⟨y1, y2, y3, y4, y5, y6, _⟩ := hY'
    rw [List.foldl_cons, show Q0 ++ q :: Q = (Q0 ++ [q]) ++ Q by simp]
    have hq := hQ q List.mem_cons_self
    have se := stb_eq hY h hq
    by_cases z : m_stb Y F.length S.length q
    · have e1 : m_g1 Y F.length S.length x q = (x.1 + nI 1, m_fu Y q x.2 F.length) := by
        unfold m_g1
        rw [if_pos z]
      have fuF : ∀ t ∈ F, m_fu Y q x.2 F.length t = if ¬ q t = -nI 1 ∧ (x.2 t = -nI 1 ∨ m_de Y (nI t) (q t) < m_de Y (nI t) (x.2 t)) then q t else x.2 t := fun t ht => by
        obtain ⟨i, hi, rfl⟩ := List.mem_iff_getElem.mp ht
        have f16 := y5 _ ht
        have := fu_F hds q x.2 F.length (Nat.le_refl _) i hi
        rw [y1 i hi, n_c (by omega)] at this
        rw [this]
        by_cases c : ¬ q F[i] = -nI 1 ∧ (x.2 F[i] = -nI 1 ∨ m_de Y (nI F[i]) (q F[i]) < m_de Y (nI F[i]) (x.2 F[i]))
        · rw [if_pos c, if_pos ⟨hi, c⟩]
        · rw [if_neg c, if_neg (fun w => c w.2)]
      have fuO : ∀ y, y ∉ F → m_fu Y q x.2 F.length y = x.2 y := fun y hy => fu_o _ (fun i hi e => by
        rw [y1 i hi, n_c (by have := y5 _ (List.getElem_mem hi); omega)] at e
        exact hy (by rw [e]; exact List.getElem_mem hi))
      have vx : v16 (m_fu Y q x.2 F.length) := fun y hy => by
        by_cases c : y ∈ F
        · rw [fuF y c]
          split
          · exact hq y hy
          · exact hx y hy
        · rw [fuO y c]
          exact hx y hy
      have nb : f_best (g_rh X) F S (Q0 ++ [q]) (m_fu Y q x.2 F.length) := by
        intro t ht
        have t16 := y5 t ht
        have dq : ∀ p : Nat → Int32, v16 p → ¬ p t = -nI 1 → m_de Y (nI t) (p t) = g_rh X t (p t).toNatClampNeg := fun p hp hn => by
          rcases hp t t16 with w | ⟨w, w1, w2⟩
          · exact absurd w hn
          · rw [w2, de_Y hY h t16 w1, n_c (by omega)]
        rw [fuF t ht]
        by_cases c : ¬ q t = -nI 1 ∧ (x.2 t = -nI 1 ∨ m_de Y (nI t) (q t) < m_de Y (nI t) (x.2 t))
        · rw [if_pos c]
          right
          refine ⟨q, List.mem_append_right _ (List.mem_singleton.mpr rfl), se.mp z, rfl, c.1, fun q' hq' hs' => ?_⟩
          rcases List.mem_append.mp hq' with w | w
          · rcases hb t ht with ⟨b1, b2⟩ | ⟨q2, b1, b2, b3, b4, b5⟩
            · exact Or.inl (b2 q' w hs')
            · rcases b5 q' w hs' with b | b
              · exact Or.inl b
              · right
                rcases c.2 with d | d
                · rw [b3] at d
                  exact absurd d b4
                · rw [dq q hq c.1, dq x.2 hx (by rw [b3]; exact b4), b3] at d
                  exact fun e => b (Int32.lt_trans e d)
          · rw [List.mem_singleton.mp w]
            exact Or.inr (fun e => Int32.lt_irrefl e)
        · rw [if_neg c]
          rcases hb t ht with ⟨b1, b2⟩ | ⟨q2, b1, b2, b3, b4, b5⟩
          · left
            refine ⟨b1, fun q' hq' hs' => ?_⟩
            rcases List.mem_append.mp hq' with w | w
            · exact b2 q' w hs'
            · rw [List.mem_singleton.mp w]
              exact Classical.byContradiction (fun e => c ⟨e, Or.inl b1⟩)
          · right
            refine ⟨q2, List.mem_append_left _ b1, b2, b3, b4, fun q' hq' hs' => ?_⟩
            rcases List.mem_append.mp hq' with w | w
            · exact b5 q' w hs'
            · rw [List.mem_singleton.mp w]
              by_cases e : q t = -nI 1
              · exact Or.inl e
              · right
                intro d
                refine c ⟨e, Or.inr ?_⟩
                rw [dq q hq e, dq x.2 hx (by rw [b3]; exact b4), b3]
                exact d
      obtain ⟨r1, r2⟩ := g1_best hY h hds Q (Q0 ++ [q]) (x.1 + nI 1, m_fu Y q x.2 F.length) (fun q hq => hQ q (List.mem_cons_of_mem _ hq)) vx nb
      rw [e1]
      exact ⟨r1, fun y hy => (r2 y hy).trans (fuO y hy)⟩
    · have e1 : m_g1 Y F.length S.length x q = x := by
        unfold m_g1
        rw [if_neg z]
      rw [e1]
      refine g1_best hY h hds Q (Q0 ++ [q]) x (fun q hq => hQ q (List.mem_cons_of_mem _ hq)) hx (fun t ht => ?_)
      rcases hb t ht with ⟨b1, b2⟩ | ⟨q2, b1, b2, b3, b4, b5⟩
      · left
        refine ⟨b1, fun q' hq' hs' => ?_⟩
        rcases List.mem_append.mp hq' with w | w
        · exact b2 q' w hs'
        · rw [List.mem_singleton.mp w] at hs'
          exact absurd (se.mpr hs') z
      · right
        refine ⟨q2, List.mem_append_left _ b1, b2, b3, b4, fun q' hq' hs' => ?_⟩
        rcases List.mem_append.mp hq' with w | w
        · exact b5 q' w hs'
        · rw [List.mem_singleton.mp w] at hs'
          exact absurd (se.mpr hs') z
/-- the friends of the second, by those of the first -/
theorem pw_eq (hY : yl X Y F S) {r : Nat → Int32} (hr : ∀ t ∈ F, r t = -nI 1 ∨ ∃ o ∈ S, r t = nI o) : ∀ k, k ≤ F.length → (m_pw Y r k).1 = (F.take k).countP (fun t => decide (¬ r t = -nI 1)) ∧ (∀ t ∈ F, (m_pw Y r k).2 t = r t) ∧ ∀ y, y < 16 → y ∉ F → ((m_pw Y r k).2 y = r y ∧ ∀ t ∈ F.take k, ¬ r t = nI y) ∨ ∃ t ∈ F, r t = nI y ∧ (m_pw Y r k).2 y = nI t
  | 0, _ => ⟨rfl, fun _ _ => rfl, fun y _ _ => Or.inl ⟨rfl, fun t ht => absurd ht (by rw [List.take_zero]; exact List.not_mem_nil)⟩⟩
  | k + 1, hk => by
    obtain ⟨i1, i2, i3⟩ := pw_eq hY hr k (by omega)
    have hY' := hY
    obtain ⟨y1, y2, y3, y4, y5, y6, y7, _⟩ := hY'
    have hk' : k < F.length := hk
    have fm := List.getElem_mem hk'
    have f16 := y5 _ fm
    have e : m_pw Y r (k + 1) = if (m_pw Y r k).2 (eg_gi Y 172 k).toNatClampNeg = -nI 1 then m_pw Y r k else ((m_pw Y r k).1 + 1, fun y => if y = ((m_pw Y r k).2 (eg_gi Y 172 k).toNatClampNeg).toNatClampNeg then eg_gi Y 172 k else (m_pw Y r k).2 y) := rfl
    rw [e, y1 k hk', n_c (by omega), i2 _ fm, List.take_succ_eq_append_getElem hk', List.countP_append, List.countP_cons, List.countP_nil]
    rcases hr _ fm with z | ⟨o, ho, z⟩
    · rw [if_pos z, if_neg (by rw [z]; simp)]
      refine ⟨by omega, i2, fun y hy16 hy => ?_⟩
      rcases i3 y hy16 hy with ⟨w1, w2⟩ | w
      · refine Or.inl ⟨w1, fun t ht => ?_⟩
        rcases List.mem_append.mp ht with x | x
        · exact w2 t x
        · rw [List.mem_singleton.mp x, z]
          exact fun e2 => nI_ne hy16 e2.symm
      · exact Or.inr w
    · have o16 := y6 o ho
      have hn : ¬ r F[k] = -nI 1 := by rw [z]; exact nI_ne o16
      rw [if_neg hn, if_pos (by exact decide_eq_true hn)]
      refine ⟨by show (m_pw Y r k).1 + 1 = _; omega, fun t ht => ?_, fun y hy16 hy => ?_⟩
      · show (if t = (r F[k]).toNatClampNeg then nI F[k] else (m_pw Y r k).2 t) = r t
        rw [z, n_c (by omega), if_neg (fun e => y7 t ht (by rw [e]; exact ho)), i2 t ht]
      · show (((if y = (r F[k]).toNatClampNeg then nI F[k] else (m_pw Y r k).2 y) = r y) ∧ _) ∨ _
        by_cases c : y = (r F[k]).toNatClampNeg
        · right
          refine ⟨F[k], fm, ?_, ?_⟩
          · rw [c, z, n_c (by omega)]
          · show (if y = (r F[k]).toNatClampNeg then nI F[k] else (m_pw Y r k).2 y) = nI F[k]
            rw [if_pos c]
        · rcases i3 y hy16 hy with ⟨w1, w2⟩ | ⟨t, ht, w1, w2⟩
          · left
            rw [if_neg c]
            refine ⟨w1, fun t ht => ?_⟩
            rcases List.mem_append.mp ht with x | x
            · exact w2 t x
            · rw [List.mem_singleton.mp x, z]
              intro e2
              refine c ?_
              rw [z, n_c (by omega)]
              exact (n16 o16 hy16 e2).symm
          · right
            refine ⟨t, ht, w1, ?_⟩
            show (if y = (r F[k]).toNatClampNeg then nI F[k] else (m_pw Y r k).2 y) = nI t
            rw [if_neg c]
            exact w2
end YL

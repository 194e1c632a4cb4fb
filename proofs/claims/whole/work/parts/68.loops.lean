/-! the cheapest way to give each row a column of its own: what holds of the prices -/
theorem h_pig : ∀ (k m : Nat) (f : Nat → Nat), (∀ j, j < m → f j < k) → (∀ i j, i < m → j < m → f i = f j → i = j) → m ≤ k
  | 0, m, f, h, _ => Nat.le_of_not_lt (fun z => absurd (h 0 z) (Nat.not_lt_zero _))
  | k + 1, 0, f, _, _ => Nat.zero_le _
  | k + 1, m + 1, f, h, hi => by
    have := h_pig k m (fun j => if f j = k then f m else f j) (fun j hj => ?_) (fun i j hi' hj' he => ?_)
    · omega
    · by_cases e : f j = k
      · rw [if_pos e]
        have h1 := h m (by omega)
        have h2 : ¬ f m = k := fun z => by
          have := hi j m (by omega) (by omega) (by rw [e, z])
          omega
        omega
      · rw [if_neg e]
        have := h j (by omega)
        omega
    · by_cases e : f i = k
      · by_cases e2 : f j = k
        · exact hi i j (by omega) (by omega) (by rw [e, e2])
        · rw [if_pos e, if_neg e2] at he
          have := hi m j (by omega) (by omega) he
          omega
      · by_cases e2 : f j = k
        · rw [if_neg e, if_pos e2] at he
          have := hi i m (by omega) (by omega) he
          omega
        · rw [if_neg e, if_neg e2] at he
          exact hi i j (by omega) (by omega) he
/-- what stays true while rows and columns have prices: k rows are served -/
def h_F (n k : Nat) (a : Nat → Nat → Int) (u v : Nat → Int) (p : Nat → Nat) : Prop :=
  (∀ i j, 1 ≤ i → i ≤ k → 1 ≤ j → j ≤ n → u i + v j ≤ a i j) ∧
  (∀ j, 1 ≤ j → j ≤ n → p j ≠ 0 → p j ≤ k ∧ a (p j) j = u (p j) + v j) ∧
  (∀ j, 1 ≤ j → j ≤ n → v j ≤ 0 ∧ (p j = 0 → v j = 0)) ∧
  (∀ i j, 1 ≤ i → i ≤ n → 1 ≤ j → j ≤ n → p i = p j → p i ≠ 0 → i = j) ∧
  (∀ i, 1 ≤ i → i ≤ k → ∃ j, 1 ≤ j ∧ j ≤ n ∧ p j = i)
/-- how large prices may be -/
def h_Z (n k : Nat) (u v : Nat → Int) (t : Int) : Prop :=
  (∀ j, 1 ≤ j → j ≤ n → -(345888060000 * (k : Int)) - t ≤ v j) ∧ (∀ i, 1 ≤ i → i ≤ k → -172944030000 ≤ u i ∧ u i ≤ 172944030000 + 345888060000 * (k : Int) + t)
def h_A (n m : Nat) (a : Nat → Nat → Int) : Prop := ∀ i j, 1 ≤ i → i ≤ m → 1 ≤ j → j ≤ n → -172944030000 ≤ a i j ∧ a i j ≤ 172944030000
/-- the search for row k + 1: O tells the reached columns in their order, s how many; the next is O s -/
def h_G (n k : Nat) (a : Nat → Nat → Int) (u v w : Nat → Int) (p cf O : Nat → Nat) (s : Nat) : Prop :=
  (O 0 = 0 ∧ p 0 = k + 1 ∧ (∀ i, i ≤ s → O i ≤ n) ∧ ∀ i j, i ≤ s → j ≤ s → O i = O j → i = j) ∧
  (∀ i, i < s → p (O i) ≠ 0) ∧
  (∀ i, 1 ≤ i → i ≤ s → ∃ j, j < i ∧ cf (O i) = O j ∧ a (p (O j)) (O i) = u (p (O j)) + v (O i)) ∧
  (0 < s → ∀ c, 1 ≤ c → c ≤ n → (∀ i, i < s → O i ≠ c) → (∃ j, j < s ∧ cf c = O j ∧ w c = a (p (O j)) c - u (p (O j)) - v c) ∧ ∀ j, j < s → w c ≤ a (p (O j)) c - u (p (O j)) - v c) ∧
  h_F n k a u v p ∧
  (s = 0 → u (k + 1) = 0 ∧ h_Z n k u v 0) ∧
  (0 < s → (∀ j, 1 ≤ j → j ≤ n → u (k + 1) + v j ≤ a (k + 1) j) ∧ -172944030000 ≤ u (k + 1) ∧ h_Z n k u v (u (k + 1) + 172944030000))
theorem h_free {n k : Nat} {a : Nat → Nat → Int} {u v : Nat → Int} {p : Nat → Nat} (h : h_F n k a u v p) (hk : k < n) : ∃ f, 1 ≤ f ∧ f ≤ n ∧ p f = 0 := by
  refine Classical.byContradiction (fun z => ?_)
  have hz : ∀ j, j < n → p (j + 1) ≠ 0 := fun j hj e => z ⟨j + 1, by omega, by omega, e⟩
  have := h_pig k n (fun j => p (j + 1) - 1) (fun j hj => ?_) (fun i j hi hj he => ?_)
  · omega
  · have h1 := (h.2.1 (j + 1) (by omega) (by omega) (hz j hj)).1
    have h2 := hz j hj
    omega
  · have h2 := hz j hj
    have h3 := hz i hi
    have := h.2.2.2.1 (i + 1) (j + 1) (by omega) (by omega) (by omega) (by omega) (by omega) h3
    omega
/-- the search goes one column on -/
theorem h_step {n k s y : Nat} {a : Nat → Nat → Int} {u v w u' v' w' w2 : Nat → Int} {p cf cf' O : Nat → Nat} (hk : k < n) (hA : h_A n (k + 1) a) (hG : h_G n k a u v w p cf O s) (hps : p (O s) ≠ 0)
    (hw : ∀ c, 1 ≤ c → c ≤ n → (∀ i, i ≤ s → O i ≠ c) → (w' c = a (p (O s)) c - u (p (O s)) - v c ∧ cf' c = O s ∧ (0 < s → a (p (O s)) c - u (p (O s)) - v c ≤ w c)) ∨ (0 < s ∧ w' c = w c ∧ cf' c = cf c ∧ w c ≤ a (p (O s)) c - u (p (O s)) - v c))
    (hcf : ∀ i, i ≤ s → cf' (O i) = cf (O i)) (hy : 1 ≤ y ∧ y ≤ n ∧ (∀ i, i ≤ s → O i ≠ y) ∧ ∀ c, 1 ≤ c → c ≤ n → (∀ i, i ≤ s → O i ≠ c) → w' y ≤ w' c)
    (hu : (∀ i, i ≤ s → u' (p (O i)) = u (p (O i)) + w' y) ∧ ∀ r, (∀ i, i ≤ s → p (O i) ≠ r) → u' r = u r)
    (hv : (∀ i, 1 ≤ i → i ≤ s → v' (O i) = v (O i) - w' y) ∧ ∀ c, c ≤ n → (∀ i, i ≤ s → O i ≠ c) → v' c = v c)
    (hw2 : ∀ c, 1 ≤ c → c ≤ n → (∀ i, i ≤ s → O i ≠ c) → w2 c = w' c - w' y) : h_G n k a u' v' w2 p cf' (fun i => if i = s + 1 then y else O i) (s + 1) := by
  obtain ⟨⟨hO0, hp0, hOn, hOi⟩, hpO, hch, hun, ⟨hf, htt, hvn, hinj, hall⟩, hz0, hz1⟩ := hG
  obtain ⟨hy1, hyn, hyO, hyw⟩ := hy
  have hpO' : ∀ i, i ≤ s → p (O i) ≠ 0 := fun i hi => by
    by_cases e : i = s
    · rw [e]; exact hps
    · exact hpO i (by omega)
  have hO1 : ∀ i, 1 ≤ i → i ≤ s → 1 ≤ O i := fun i h1 h2 => by
    by_cases e : O i = 0
    · have := hOi i 0 h2 (by omega) (by rw [e, hO0])
      omega
    · omega
  have hpk : ∀ i, 1 ≤ i → i ≤ s → p (O i) ≤ k := fun i h1 h2 => (htt (O i) (hO1 i h1 h2) (hOn i h2) (hpO' i h2)).1
  have hp0' : p (O 0) = k + 1 := by rw [hO0]; exact hp0
  have hpinj : ∀ i j, i ≤ s → j ≤ s → p (O i) = p (O j) → i = j := fun i j hi hj he => by
    by_cases ei : i = 0
    · by_cases ej : j = 0
      · omega
      · have := hpk j (by omega) hj
        rw [← he, ei, hp0'] at this
        omega
    · by_cases ej : j = 0
      · have := hpk i (by omega) hi
        rw [he, ej, hp0'] at this
        omega
      · exact hOi i j hi hj (hinj _ _ (hO1 i (by omega) hi) (hOn i hi) (hO1 j (by omega) hj) (hOn j hj) he (hpO' i hi))
  -- every far column's distance
  have hwle : ∀ c, 1 ≤ c → c ≤ n → (∀ i, i ≤ s → O i ≠ c) → ∀ i, i ≤ s → w' c ≤ a (p (O i)) c - u (p (O i)) - v c := by
    intro c h1 h2 h3 i hi
    by_cases e : i = s
    · subst e
      rcases hw c h1 h2 h3 with ⟨g1, -, -⟩ | ⟨-, g1, -, g2⟩ <;> omega
    · have hs : 0 < s := by omega
      have g := (hun hs c h1 h2 (fun i hi => h3 i (by omega))).2 i (by omega)
      rcases hw c h1 h2 h3 with ⟨g1, -, g2⟩ | ⟨-, g1, -, g2⟩
      · have := g2 hs
        omega
      · omega
  have hwis : ∀ c, 1 ≤ c → c ≤ n → (∀ i, i ≤ s → O i ≠ c) → ∃ j, j ≤ s ∧ cf' c = O j ∧ w' c = a (p (O j)) c - u (p (O j)) - v c := by
    intro c h1 h2 h3
    rcases hw c h1 h2 h3 with ⟨g1, g2, -⟩ | ⟨g0, g1, g2, -⟩
    · exact ⟨s, Nat.le_refl _, g2, g1⟩
    · obtain ⟨j, q1, q2, q3⟩ := (hun g0 c h1 h2 (fun i hi => h3 i (by omega))).1
      exact ⟨j, by omega, by rw [g2, q2], by rw [g1, q3]⟩
  -- how far it goes
  have hd0 : 0 < s → 0 ≤ w' y := by
    intro hs
    obtain ⟨j, q1, -, q3⟩ := hwis y hy1 hyn hyO
    by_cases e : j = 0
    · have := (hz1 hs).1 y hy1 hyn
      rw [e, hp0'] at q3
      omega
    · have := hf (p (O j)) y (Nat.pos_of_ne_zero (hpO' j q1)) (hpk j (by omega) q1) hy1 hyn
      omega
  have hs1 : ∀ j, 1 ≤ j → (∃ i, i ≤ s ∧ O i = j) → 0 < s := by
    rintro j hj ⟨i, hi, e⟩
    by_cases e0 : i = 0
    · rw [e0, hO0] at e
      omega
    · omega
  have hT : u' (k + 1) = u (k + 1) + w' y := by
    have := hu.1 0 (Nat.zero_le _)
    rw [hp0'] at this
    exact this
  have hdT : -172944030000 ≤ u (k + 1) + w' y := by
    by_cases hs : 0 < s
    · have := (hz1 hs).2.1
      have := hd0 hs
      omega
    · have hs : s = 0 := by omega
      subst hs
      obtain ⟨j, q1, -, q3⟩ := hwis y hy1 hyn hyO
      have e : j = 0 := by omega
      rw [e, hp0'] at q3
      have := hA (k + 1) y (by omega) (by omega) hy1 hyn
      have := (hvn y hy1 hyn).1
      omega
  have hub : ∀ i, u' i = u i ∨ (u' i = u i + w' y ∧ ∃ t, t ≤ s ∧ p (O t) = i) := by
    intro i
    by_cases e : ∃ t, t ≤ s ∧ p (O t) = i
    · obtain ⟨t, ht, e⟩ := e
      exact Or.inr ⟨by rw [← e]; exact hu.1 t ht, t, ht, e⟩
    · exact Or.inl (hu.2 i (fun t ht z => e ⟨t, ht, z⟩))
  have hvb : ∀ c, 1 ≤ c → c ≤ n → (v' c = v c ∧ ∀ i, i ≤ s → O i ≠ c) ∨ (v' c = v c - w' y ∧ ∃ t, t ≤ s ∧ O t = c) := by
    intro c hc1 hc
    by_cases e : ∃ t, t ≤ s ∧ O t = c
    · obtain ⟨t, ht, e⟩ := e
      have ht1 : 1 ≤ t := by
        by_cases e0 : t = 0
        · rw [e0, hO0] at e
          omega
        · omega
      exact Or.inr ⟨by rw [← e]; exact hv.1 t ht1 ht, t, ht, e⟩
    · exact Or.inl ⟨hv.2 c hc (fun t ht z => e ⟨t, ht, z⟩), fun t ht z => e ⟨t, ht, z⟩⟩
  have hF' : h_F n k a u' v' p := by
    refine ⟨fun i j h1 h2 h3 h4 => ?_, fun j h1 h2 h3 => ?_, fun j h1 h2 => ?_, hinj, hall⟩
    · have f0 := hf i j h1 h2 h3 h4
      rcases hvb j h3 h4 with ⟨e1, e2⟩ | ⟨e1, t, ht, e2⟩
      · rcases hub i with e3 | ⟨e3, t, ht, e4⟩
        · omega
        · have g1 := hwle j h3 h4 e2 t ht
          have g2 := hyw j h3 h4 e2
          rw [e4] at g1
          omega
      · have hs := hs1 j h3 ⟨t, ht, e2⟩
        have := hd0 hs
        rcases hub i with e3 | ⟨e3, -⟩ <;> omega
    · obtain ⟨g1, g2⟩ := htt j h1 h2 h3
      refine ⟨g1, ?_⟩
      rcases hvb j h1 h2 with ⟨e1, e2⟩ | ⟨e1, t, ht, e2⟩
      · rcases hub (p j) with e3 | ⟨e3, t, ht, e4⟩
        · omega
        · exfalso
          by_cases e : t = 0
          · rw [e, hp0'] at e4
            omega
          · exact e2 t ht (hinj _ _ (hO1 t (by omega) ht) (hOn t ht) h1 h2 e4 (hpO' t ht))
      · have := hu.1 t ht
        rw [e2] at this
        omega
    · obtain ⟨g1, g2⟩ := hvn j h1 h2
      rcases hvb j h1 h2 with ⟨e1, e2⟩ | ⟨e1, t, ht, e2⟩
      · exact ⟨by omega, fun z => by rw [e1]; exact g2 z⟩
      · have := hd0 (hs1 j h1 ⟨t, ht, e2⟩)
        exact ⟨by omega, fun z => absurd z (by rw [← e2]; exact hpO' t ht)⟩
  have hO' : ∀ i, i ≤ s → (fun i => if i = s + 1 then y else O i) i = O i := fun i hi => if_neg (show ¬ i = s + 1 by omega)
  have hOs : (fun i => if i = s + 1 then y else O i) (s + 1) = y := if_pos rfl
  refine ⟨⟨?_, hp0, fun i hi => ?_, fun i j hi hj he => ?_⟩, fun i hi => ?_, fun i h1 hi => ?_, fun _ c h1 h2 h3 => ?_, hF', fun z => absurd z (Nat.succ_ne_zero _), fun _ => ⟨fun j h1 h2 => ?_, by omega, fun j h1 h2 => ?_, fun i h1 h2 => ?_⟩⟩
  · rw [hO' 0 (Nat.zero_le _)]; exact hO0
  · by_cases e : i = s + 1
    · rw [e, hOs]; exact hyn
    · rw [hO' i (by omega)]; exact hOn i (by omega)
  · by_cases e : i = s + 1
    · by_cases e2 : j = s + 1
      · omega
      · rw [e, hOs, hO' j (by omega)] at he
        exact absurd he.symm (hyO j (by omega))
    · by_cases e2 : j = s + 1
      · rw [e2, hOs, hO' i (by omega)] at he
        exact absurd he (hyO i (by omega))
      · rw [hO' i (by omega), hO' j (by omega)] at he
        exact hOi i j (by omega) (by omega) he
  · rw [hO' i (by omega)]; exact hpO' i (by omega)
  · by_cases e : i = s + 1
    · obtain ⟨j, q1, q2, q3⟩ := hwis y hy1 hyn hyO
      refine ⟨j, by omega, ?_, ?_⟩
      · rw [e, hOs, hO' j q1]; exact q2
      · rw [e, hOs, hO' j q1]
        have g1 := hu.1 j q1
        have g2 := hv.2 y hyn hyO
        omega
    · obtain ⟨j, q1, q2, q3⟩ := hch i h1 (by omega)
      refine ⟨j, q1, ?_, ?_⟩
      · rw [hO' i (by omega), hO' j (by omega), hcf i (by omega)]; exact q2
      · rw [hO' i (by omega), hO' j (by omega)]
        have g1 := hu.1 j (by omega)
        have g2 := hv.1 i h1 (by omega)
        omega
  · have h4 : ∀ i, i ≤ s → O i ≠ c := fun i hi => by
      have := h3 i (by omega)
      rw [hO' i hi] at this
      exact this
    have g2 := hv.2 c h2 h4
    have g3 := hw2 c h1 h2 h4
    obtain ⟨j, q1, q2, q3⟩ := hwis c h1 h2 h4
    refine ⟨⟨j, by omega, ?_, ?_⟩, fun j hj => ?_⟩
    · rw [hO' j q1]; exact q2
    · rw [hO' j q1]
      have g1 := hu.1 j q1
      omega
    · rw [hO' j (by omega)]
      have g1 := hu.1 j (by omega)
      have g4 := hwle c h1 h2 h4 j (by omega)
      omega
  · rw [hT]
    rcases hvb j h1 h2 with ⟨e1, e2⟩ | ⟨e1, t, ht, e2⟩
    · have g1 := hwle j h1 h2 e2 0 (Nat.zero_le _)
      have g2 := hyw j h1 h2 e2
      rw [hp0'] at g1
      omega
    · have := (hz1 (hs1 j h1 ⟨t, ht, e2⟩)).1 j h1 h2
      omega
  · rw [hT]
    by_cases hs : 0 < s
    · have g1 := (hz1 hs).2.2.1 j h1 h2
      have g2 := hd0 hs
      rcases hvb j h1 h2 with ⟨e1, -⟩ | ⟨e1, -⟩ <;> omega
    · have g1 := (hz0 (by omega)).2.1 j h1 h2
      rcases hvb j h1 h2 with ⟨e1, -⟩ | ⟨e1, t, ht, e2⟩
      · omega
      · exact absurd (hs1 j h1 ⟨t, ht, e2⟩) hs
  · rw [hT]
    by_cases hs : 0 < s
    · have g1 := (hz1 hs).2.2.2 i h1 h2
      have g2 := hd0 hs
      rcases hub i with e1 | ⟨e1, -⟩ <;> omega
    · have g1 := (hz0 (by omega)).2.2 i h1 h2
      rcases hub i with e1 | ⟨e1, t, ht, e2⟩
      · omega
      · have e0 : t = 0 := by omega
        rw [e0, hp0'] at e2
        omega
/-- how many columns are reached -/
theorem h_few {n k s : Nat} {a : Nat → Nat → Int} {u v w : Nat → Int} {p cf O : Nat → Nat} (hG : h_G n k a u v w p cf O s) : s ≤ n := by
  have := h_pig (n + 1) (s + 1) O (fun j hj => ?_) (fun i j hi hj he => hG.1.2.2.2 i j (by omega) (by omega) he)
  · omega
  · have := hG.1.2.2.1 j (by omega)
    omega
/-- how large all that is computed may be -/
theorem h_big {n k s : Nat} {a : Nat → Nat → Int} {u v w : Nat → Int} {p cf O : Nat → Nat} (hk : k < n) (h8 : k < 8) (hA : h_A n (k + 1) a) (hG : h_G n k a u v w p cf O s) : (∀ j, 1 ≤ j → j ≤ n → -3112992540000 ≤ v j ∧ v j ≤ 0) ∧ (∀ i, 1 ≤ i → i ≤ k + 1 → -172944030000 ≤ u i ∧ u i ≤ 3285936570000) := by
  obtain ⟨f, f1, f2, f3⟩ := h_free hG.2.2.2.2.1 hk
  have hvf := (hG.2.2.2.2.1.2.2.1 f f1 f2).2 f3
  have haf := hA (k + 1) f (by omega) (by omega) f1 f2
  obtain ⟨-, -, -, -, hF, hz0, hz1⟩ := hG
  by_cases hs : s = 0
  · obtain ⟨g0, g1, g2⟩ := hz0 hs
    refine ⟨fun j h1 h2 => ?_, fun i h1 h2 => ?_⟩
    · have := g1 j h1 h2
      have := (hF.2.2.1 j h1 h2).1
      omega
    · by_cases e : i = k + 1
      · rw [e, g0]; omega
      · have := g2 i h1 (by omega)
        omega
  · obtain ⟨g0, g3, g1, g2⟩ := hz1 (by omega)
    have := g0 f f1 f2
    refine ⟨fun j h1 h2 => ?_, fun i h1 h2 => ?_⟩
    · have := g1 j h1 h2
      have := (hF.2.2.1 j h1 h2).1
      omega
    · by_cases e : i = k + 1
      · rw [e]; omega
      · have := g2 i h1 (by omega)
        omega
/-- the rows move along the way: x stands at O i -/
def h_Q (n k : Nat) (a : Nat → Nat → Int) (u v : Nat → Int) (p cf O p' : Nat → Nat) (i : Nat) : Prop :=
  (∀ j, j < i → p' (O j) = p (O j)) ∧
  (∀ j, 1 ≤ j → j ≤ n → j ≠ O i → p' j ≠ 0 → p' j ≤ k + 1 ∧ a (p' j) j = u (p' j) + v j) ∧
  (∀ j, 1 ≤ j → j ≤ n → j ≠ O i → p' j = 0 → v j = 0) ∧
  (∀ j j', 1 ≤ j → j ≤ n → 1 ≤ j' → j' ≤ n → j ≠ O i → j' ≠ O i → p' j = p' j' → p' j ≠ 0 → j = j') ∧
  (∀ r, 1 ≤ r → r ≤ k → ∃ j, 1 ≤ j ∧ j ≤ n ∧ j ≠ O i ∧ p' j = r) ∧
  (1 ≤ i → ∀ j, 1 ≤ j → j ≤ n → j ≠ O i → p' j ≠ k + 1) ∧
  (i = 0 → ∃ j, 1 ≤ j ∧ j ≤ n ∧ p' j = k + 1)
theorem h_move {n k s i j : Nat} {a : Nat → Nat → Int} {u v w : Nat → Int} {p cf O p' : Nat → Nat} (hG : h_G n k a u v w p cf O s) (hi : i ≤ s) (hji : j < i) (hQ : h_Q n k a u v p cf O p' i) (ht : a (p (O j)) (O i) = u (p (O j)) + v (O i)) : h_Q n k a u v p cf O (fun c => if c = O i then p' (O j) else p' c) j := by
  obtain ⟨⟨hO0, hp0, hOn, hOi⟩, hpO, -, -, ⟨hf, htt, hvn, hinj, hall⟩, -⟩ := hG
  obtain ⟨q1, q2, q3, q4, q5, q6, q7⟩ := hQ
  have hr : p' (O j) = p (O j) := q1 j hji
  have hr0 : p (O j) ≠ 0 := hpO j (by omega)
  have hij : O j ≠ O i := fun e => by
    have := hOi j i (by omega) hi e
    omega
  have hO1 : ∀ i, 1 ≤ i → i ≤ s → 1 ≤ O i := fun i h1 h2 => by
    by_cases e : O i = 0
    · have := hOi i 0 h2 (by omega) (by rw [e, hO0])
      omega
    · omega
  have hrk : 1 ≤ j → p (O j) ≤ k := fun h => (htt (O j) (hO1 j h (by omega)) (hOn j (by omega)) hr0).1
  have hr1 : p (O j) ≤ k + 1 := by
    by_cases e : j = 0
    · rw [e, hO0, hp0]; exact Nat.le_refl _
    · have := hrk (by omega)
      omega
  have pi : (fun c => if c = O i then p' (O j) else p' c) (O i) = p (O j) := by
    dsimp only
    rw [if_pos rfl, hr]
  have pn : ∀ c, c ≠ O i → (fun c => if c = O i then p' (O j) else p' c) c = p' c := fun c hc => if_neg hc
  refine ⟨fun t h => ?_, fun c h1 h2 h3 h4 => ?_, fun c h1 h2 h3 h4 => ?_, fun c c' h1 h2 h3 h4 h5 h6 h7 h8 => ?_, fun r h1 h2 => ?_, fun h0 c h1 h2 h3 => ?_, fun h0 => ?_⟩
  · rw [pn _ (fun e => by
      have := hOi t i (by omega) hi e
      omega)]
    exact q1 t (by omega)
  · by_cases e : c = O i
    · subst e
      rw [pi]
      exact ⟨hr1, ht⟩
    · rw [pn c e] at h4 ⊢
      exact q2 c h1 h2 e h4
  · by_cases e : c = O i
    · subst e
      rw [pi] at h4
      exact absurd h4 hr0
    · rw [pn c e] at h4
      exact q3 c h1 h2 e h4
  · have key : ∀ c, 1 ≤ c → c ≤ n → c ≠ O j → c ≠ O i → p' c ≠ p (O j) := by
      intro c g1 g2 g3 g4 g5
      by_cases e : j = 0
      · rw [e, hO0, hp0] at g5
        exact q6 (by omega) c g1 g2 g4 g5
      · refine g3 (q4 c (O j) g1 g2 (hO1 j (by omega) (by omega)) (hOn j (by omega)) g4 hij (by rw [g5, hr]) (by rw [g5]; exact hr0))
    by_cases e : c = O i
    · by_cases e2 : c' = O i
      · rw [e, e2]
      · subst e
        rw [pi, pn c' e2] at h7
        exact absurd h7.symm (key c' h3 h4 h6 e2)
    · by_cases e2 : c' = O i
      · subst e2
        rw [pi, pn c e] at h7
        exact absurd h7 (key c h1 h2 h5 e)
      · rw [pn c e, pn c' e2] at h7
        rw [pn c e] at h8
        exact q4 c c' h1 h2 h3 h4 e e2 h7 h8
  · obtain ⟨c, g1, g2, g3, g4⟩ := q5 r h1 h2
    by_cases e : c = O j
    · refine ⟨O i, hO1 i (by omega) hi, hOn i hi, fun z => hij z.symm, ?_⟩
      rw [pi, ← hr, ← e]
      exact g4
    · exact ⟨c, g1, g2, e, by rw [pn c g3]; exact g4⟩
  · by_cases e : c = O i
    · subst e
      rw [pi]
      have := hrk h0
      omega
    · rw [pn c e]
      exact q6 (by omega) c h1 h2 e
  · refine ⟨O i, hO1 i (by omega) hi, hOn i hi, ?_⟩
    rw [pi, h0, hO0]
    exact hp0
theorem h_first {n k s : Nat} {a : Nat → Nat → Int} {u v w : Nat → Int} {p cf O : Nat → Nat} (hG : h_G n k a u v w p cf O s) (h0 : p (O s) = 0) : 0 < s ∧ h_Q n k a u v p cf O p s := by
  obtain ⟨⟨hO0, hp0, hOn, hOi⟩, hpO, -, -, ⟨hf, htt, hvn, hinj, hall⟩, -⟩ := hG
  have hs : 0 < s := by
    refine Nat.pos_of_ne_zero (fun e => ?_)
    rw [e, hO0, hp0] at h0
    omega
  refine ⟨hs, fun _ _ => rfl, fun j h1 h2 h3 h4 => ?_, fun j h1 h2 h3 h4 => (hvn j h1 h2).2 h4, fun j j' h1 h2 h3 h4 h5 h6 h7 h8 => hinj j j' h1 h2 h3 h4 h7 h8, fun r h1 h2 => ?_, fun _ j h1 h2 h3 h4 => ?_, fun e => by omega⟩
  · obtain ⟨g1, g2⟩ := htt j h1 h2 h4
    exact ⟨by omega, g2⟩
  · obtain ⟨j, g1, g2, g3⟩ := hall r h1 h2
    refine ⟨j, g1, g2, fun e => ?_, g3⟩
    rw [← e, g3] at h0
    omega
  · have := (htt j h1 h2 (by omega)).1
    omega
/-- between two searches -/
def h_I (n k : Nat) (a : Nat → Nat → Int) (u v : Nat → Int) (p : Nat → Nat) : Prop := h_F n k a u v p ∧ h_Z n k u v 0
theorem h_last {n k s : Nat} {a : Nat → Nat → Int} {u v w : Nat → Int} {p cf O p' : Nat → Nat} (hk : k < n) (hA : h_A n (k + 1) a) (hs : 0 < s) (hG : h_G n k a u v w p cf O s) (hQ : h_Q n k a u v p cf O p' 0) : h_I n (k + 1) a u v p' := by
  obtain ⟨f, f1, f2, f3⟩ := h_free hG.2.2.2.2.1 hk
  have hvf := (hG.2.2.2.2.1.2.2.1 f f1 f2).2 f3
  have haf := hA (k + 1) f (by omega) (by omega) f1 f2
  obtain ⟨⟨hO0, hp0, hOn, hOi⟩, hpO, -, -, ⟨hf, htt, hvn, hinj, hall⟩, -, hz1⟩ := hG
  obtain ⟨q1, q2, q3, q4, q5, q6, q7⟩ := hQ
  obtain ⟨g0, g3, g1, g2⟩ := hz1 hs
  have gf := g0 f f1 f2
  have ne : ∀ j, 1 ≤ j → j ≠ O 0 := fun j h => by rw [hO0]; omega
  refine ⟨⟨fun i j h1 h2 h3 h4 => ?_, fun j h1 h2 h3 => q2 j h1 h2 (ne j h1) h3, fun j h1 h2 => ⟨(hvn j h1 h2).1, q3 j h1 h2 (ne j h1)⟩, fun i j h1 h2 h3 h4 h5 h6 => q4 i j h1 h2 h3 h4 (ne i h1) (ne j h3) h5 h6, fun i h1 h2 => ?_⟩, fun j h1 h2 => ?_, fun i h1 h2 => ?_⟩
  · by_cases e : i = k + 1
    · subst e
      exact g0 j h3 h4
    · exact hf i j h1 (by omega) h3 h4
  · by_cases e : i = k + 1
    · subst e
      exact q7 rfl
    · obtain ⟨j, r1, r2, -, r3⟩ := q5 i h1 (by omega)
      exact ⟨j, r1, r2, r3⟩
  · have := g1 j h1 h2
    omega
  · by_cases e : i = k + 1
    · subst e
      omega
    · have := g2 i h1 (by omega)
      omega
theorem h_start {n k : Nat} {a : Nat → Nat → Int} {u v w : Nat → Int} {p cf : Nat → Nat} (h : h_I n k a u v p) (h0 : p 0 = k + 1) (hu : u (k + 1) = 0) : h_G n k a u v w p cf (fun _ => 0) 0 := by
  refine ⟨⟨rfl, h0, fun i hi => Nat.zero_le _, fun i j hi hj _ => by omega⟩, fun i hi => absurd hi (Nat.not_lt_zero _), fun i h1 h2 => by omega, fun z => absurd z (Nat.lt_irrefl 0), h.1, fun _ => ⟨hu, h.2⟩, fun z => absurd z (Nat.lt_irrefl 0)⟩
theorem h_pinj {n k s : Nat} {a : Nat → Nat → Int} {u v w : Nat → Int} {p cf O : Nat → Nat} (hG : h_G n k a u v w p cf O s) (hps : p (O s) ≠ 0) : (∀ i, i ≤ s → 1 ≤ p (O i) ∧ p (O i) ≤ k + 1) ∧ ∀ i j, i ≤ s → j ≤ s → p (O i) = p (O j) → i = j := by
  obtain ⟨⟨hO0, hp0, hOn, hOi⟩, hpO, hch, hun, ⟨hf, htt, hvn, hinj, hall⟩, hz0, hz1⟩ := hG
  have hpO' : ∀ i, i ≤ s → p (O i) ≠ 0 := fun i hi => by
    by_cases e : i = s
    · rw [e]; exact hps
    · exact hpO i (by omega)
  have hO1 : ∀ i, 1 ≤ i → i ≤ s → 1 ≤ O i := fun i h1 h2 => by
    by_cases e : O i = 0
    · have := hOi i 0 h2 (by omega) (by rw [e, hO0])
      omega
    · omega
  have hpk : ∀ i, 1 ≤ i → i ≤ s → p (O i) ≤ k := fun i h1 h2 => (htt (O i) (hO1 i h1 h2) (hOn i h2) (hpO' i h2)).1
  have hp0' : p (O 0) = k + 1 := by rw [hO0]; exact hp0
  refine ⟨fun i hi => ⟨Nat.pos_of_ne_zero (hpO' i hi), ?_⟩, fun i j hi hj he => ?_⟩
  · by_cases ei : i = 0
    · rw [ei, hp0']; exact Nat.le_refl _
    · have := hpk i (by omega) hi
      omega
  · by_cases ei : i = 0
    · by_cases ej : j = 0
      · omega
      · have := hpk j (by omega) hj
        rw [← he, ei, hp0'] at this
        omega
    · by_cases ej : j = 0
      · have := hpk i (by omega) hi
        rw [he, ej, hp0'] at this
        omega
      · exact hOi i j hi hj (hinj _ _ (hO1 i (by omega) hi) (hOn i hi) (hO1 j (by omega) hj) (hOn j hj) he (hpO' i hi))
theorem l_sb {x y : Int64} (h : -4611686018427387904 < x.toInt - y.toInt ∧ x.toInt - y.toInt < 4611686018427387904) : (x - y).toInt = x.toInt - y.toInt := by
  rw [Int64.toInt_sub, Int.bmod_def]
  omega
theorem l_ad {x y : Int64} (h : -4611686018427387904 < x.toInt + y.toInt ∧ x.toInt + y.toInt < 4611686018427387904) : (x + y).toInt = x.toInt + y.toInt := by
  rw [Int64.toInt_add, Int.bmod_def]
  omega
def kh_i (U : Nat → Int64) : Nat → Int := fun i => (U i).toInt
def kh_n (P : Nat → Int32) : Nat → Nat := fun c => (P c).toNatClampNeg
/-- the class: what a row's column costs -/
def kh_a (M : eg_M) (i j : Nat) : Int := (eg_gl M (56 + 1 + (i - 1)) (eg_gi M 65 j).toNatClampNeg).toInt
/-- the class: the memory while rows find columns -/
def kh_m (M : eg_M) (U V W : Nat → Int64) (P F R : Nat → Int32) : eg_M := eg_ri (eg_ri (eg_ri (eg_rl (eg_rl (eg_rl M 66 U) 67 V) 70 W) 68 P) 69 F) 71 R
theorem eg_ext2 {M N : eg_M} (h1 : M.1 = N.1) (h2 : ∀ q j, eg_gi M q j = eg_gi N q j) (h3 : ∀ q j, eg_gl M q j = eg_gl N q j) (h4 : M.2.2.2 = N.2.2.2) : M = N := Prod.ext h1 (Prod.ext (funext fun q => funext fun j => h2 q j) (Prod.ext (funext fun q => funext fun j => h3 q j) h4))
theorem kh_g (M : eg_M) (U V W : Nat → Int64) (P F R : Nat → Int32) (q j : Nat) : eg_gi (kh_m M U V W P F R) q j = if q = 71 then R j else if q = 69 then F j else if q = 68 then P j else eg_gi M q j := by
  unfold kh_m
  rw [ri_g, ri_g, ri_g, rl_gi, rl_gi, rl_gi]
theorem kh_l (M : eg_M) (U V W : Nat → Int64) (P F R : Nat → Int32) (q j : Nat) : eg_gl (kh_m M U V W P F R) q j = if q = 70 then W j else if q = 67 then V j else if q = 66 then U j else eg_gl M q j := by
  unfold kh_m
  rw [ri_gl, ri_gl, ri_gl, rl_g, rl_g, rl_g]
theorem kh_id (M : eg_M) : kh_m M (eg_gl M 66) (eg_gl M 67) (eg_gl M 70) (eg_gi M 68) (eg_gi M 69) (eg_gi M 71) = M := by
  refine eg_ext2 rfl (fun q j => ?_) (fun q j => ?_) rfl
  · rw [kh_g]
    by_cases h1 : q = 71
    · rw [if_pos h1, h1]
    · by_cases h2 : q = 69
      · rw [if_neg h1, if_pos h2, h2]
      · by_cases h3 : q = 68
        · rw [if_neg h1, if_neg h2, if_pos h3, h3]
        · rw [if_neg h1, if_neg h2, if_neg h3]
  · rw [kh_l]
    by_cases h1 : q = 70
    · rw [if_pos h1, h1]
    · by_cases h2 : q = 67
      · rw [if_neg h1, if_pos h2, h2]
      · by_cases h3 : q = 66
        · rw [if_neg h1, if_neg h2, if_pos h3, h3]
        · rw [if_neg h1, if_neg h2, if_neg h3]
theorem kh_s71 (M : eg_M) (U V W : Nat → Int64) (P F R : Nat → Int32) (c : Nat) (x : Int32) : eg_si (kh_m M U V W P F R) 71 c x = kh_m M U V W P F (fun j => if j = c then x else R j) := by
  unfold kh_m
  rw [si_ri]
theorem kh_s68 (M : eg_M) (U V W : Nat → Int64) (P F R : Nat → Int32) (c : Nat) (x : Int32) : eg_si (kh_m M U V W P F R) 68 c x = kh_m M U V W (fun j => if j = c then x else P j) F R := by
  unfold kh_m
  rw [si_ri_n (by decide), si_ri_n (by decide), si_ri]
theorem kh_look (M : eg_M) (U V W W' : Nat → Int64) (P F F' R : Nat → Int32) : eg_ri (eg_rl (kh_m M U V W P F R) 70 W') 69 F' = kh_m M U V W' P F' R := by
  refine eg_ext2 rfl (fun q j => ?_) (fun q j => ?_) rfl
  · rw [ri_g, rl_gi, kh_g, kh_g]
    by_cases h2 : q = 69
    · rw [if_pos h2, if_neg (by omega), if_pos h2]
    · rw [if_neg h2, if_neg h2, if_neg h2]
  · rw [ri_gl, rl_g, kh_l, kh_l]
    by_cases h1 : q = 70
    · rw [if_pos h1, if_pos h1]
    · rw [if_neg h1, if_neg h1, if_neg h1]
theorem kh_move (M : eg_M) (U V W U' V' W' : Nat → Int64) (P F R : Nat → Int32) : eg_rl (eg_rl (eg_rl (kh_m M U V W P F R) 66 U') 67 V') 70 W' = kh_m M U' V' W' P F R := by
  refine eg_ext2 rfl (fun q j => ?_) (fun q j => ?_) rfl
  · rw [rl_gi, rl_gi, rl_gi, kh_g, kh_g]
  · rw [rl_g, rl_g, rl_g, kh_l, kh_l]
    by_cases h1 : q = 70
    · rw [if_pos h1, if_pos h1]
    · rw [if_neg h1, if_neg h1, if_neg h1]
      by_cases h2 : q = 67
      · rw [if_pos h2, if_pos h2]
      · rw [if_neg h2, if_neg h2, if_neg h2]
        by_cases h3 : q = 66
        · rw [if_pos h3, if_pos h3]
        · rw [if_neg h3, if_neg h3, if_neg h3]
/-- the class: k rows have columns -/
def kh_P (M : eg_M) (n k : Nat) (U V : Nat → Int64) (P : Nat → Int32) : Prop := (∀ c, 1 ≤ c → c ≤ n → eg_cn (P c) 8) ∧ h_I n k (kh_a M) (kh_i U) (kh_i V) (kh_n P) ∧ ∀ i, k < i → i ≤ 8 → U i = lN 0
def k_X5_addRow : eg_C := ([(0, .aload_n 0, 1), (1, .getfield 39, 3), (4, .ldc2_w 59, 3), (7, .invokestatic 46, 3), (10, .iconst 0, 1), (11, .istore_n 2, 1), (12, .iload_n 2, 1), (13, .aload_n 0, 1), (14, .getfield 22, 3), (17, .if_icmp .gt 16, 3), (20, .aload_n 0, 1), (21, .getfield 42, 3), (24, .iload_n 2, 1), (25, .iconst 0, 1), (26, .bastore, 1), (27, .iinc 2 1, 3), (30, .goto (-18), 3), (33, .aload_n 0, 1), (34, .getfield 33, 3), (37, .iconst 0, 1), (38, .iload_n 1, 1), (39, .iastore, 1), (40, .iconst 0, 1), (41, .istore_n 2, 1), (42, .iconst 0, 1), (43, .istore_n 3, 1), (44, .iload_n 3, 1), (45, .aload_n 0, 1), (46, .getfield 22, 3), (49, .if_icmp .gt 50, 3), (52, .aload_n 0, 1), (53, .getfield 33, 3), (56, .iload_n 2, 1), (57, .iaload, 1), (58, .ifCond .eq 41, 3), (61, .aload_n 0, 1), (62, .getfield 42, 3), (65, .iload_n 2, 1), (66, .iconst 1, 1), (67, .bastore, 1), (68, .aload_n 0, 1), (69, .iload_n 2, 1), (70, .invokevirtual 61, 3), (73, .aload_n 0, 1), (74, .invokevirtual 64, 3), (77, .istore 4, 2), (79, .aload_n 0, 1), (80, .aload_n 0, 1), (81, .getfield 39, 3), (84, .iload 4, 2), (86, .laload, 1), (87, .invokevirtual 68, 3), (90, .iload 4, 2), (92, .istore_n 2, 1), (93, .iinc 3 1, 3), (96, .goto (-52), 3), (99, .iconst 0, 1), (100, .istore_n 3, 1), (101, .iload_n 3, 1), (102, .aload_n 0, 1), (103, .getfield 22, 3), (106, .if_icmp .gt 37, 3), (109, .iload_n 2, 1), (110, .ifCond .eq 33, 3), (113, .aload_n 0, 1), (114, .getfield 33, 3), (117, .iload_n 2, 1), (118, .aload_n 0, 1), (119, .getfield 33, 3), (122, .aload_n 0, 1), (123, .getfield 36, 3), (126, .iload_n 2, 1), (127, .iaload, 1), (128, .iaload, 1), (129, .iastore, 1), (130, .aload_n 0, 1), (131, .getfield 36, 3), (134, .iload_n 2, 1), (135, .iaload, 1), (136, .istore_n 2, 1), (137, .iinc 3 1, 3), (140, .goto (-39), 3), (143, .return_, 1)], [(22, 5, 2, false), (33, 5, 5, false), (36, 5, 6, false), (39, 5, 7, false), (42, 5, 8, false)], [(59, .long (lN 1152921504606846976))], [(46 + 100000, 2, 0, 0, s_J7_fill_d0a16), (61, 1 + 1, 0, 0, s_X5_lookFrom), (64, 0 + 1, 0, 0, s_X5_nearest), (68, 1 + 1, 0, 0, s_X5_moveBy)], [], 0, 0, 0)
theorem mk_X5_addRow : ∀ q ∈ k_X5_addRow.2.2.2.1, eg_mono q.2.2.2.2 := (fc (mo_J7_fill_d0a16) (fc (mo_X5_lookFrom) (fc (mo_X5_nearest) (fc (mo_X5_moveBy) (fn)))))
set_option maxRecDepth 100000 in
theorem st_X5_addRow_0 {Qp : eg_P} {M : eg_M} (a : Int32)
  (l0 : eg_T wd k_X5_addRow Qp 12 0 0 [some (.ref 55), some (.int a), some (.int (nI 0)), none, none] [] (eg_fL M 70 33 (lN 1152921504606846976))) :
  eg_T wd k_X5_addRow Qp 0 0 0 [some (.ref 55), some (.int a), none, none, none] [] M := by
  refine eg_T_run mk_X5_addRow (cut := [12, 44, 77, 90, 101]) 86 ?_
  refine And.intro (show 33 < 2 ^ 31 by decide) ?_
  show eg_T wd k_X5_addRow Qp 12 0 0 [some (.ref 55), some (.int a), some (.int (nI 0)), none, none] [] (eg_fL M 70 33 (lN 1152921504606846976))
  exact l0

set_option maxRecDepth 100000 in
theorem st_X5_addRow_12 {Qp : eg_P} {M : eg_M} (a : Int32) (x2 : Int32) (o3 : Option Value) (o4 : Option Value)
  (g0 : (¬ ((eg_gi M 55 2) < x2)) → (vp_in x2 33))
  (l0 : ((eg_gi M 55 2) < x2) → eg_T wd k_X5_addRow Qp 44 0 0 [some (.ref 55), some (.int a), some (.int (nI 0)), some (.int (nI 0)), o4] [] (eg_si M 68 (nI 0).toNatClampNeg a))
  (l1 : (¬ (eg_gi M 55 2) < x2) → eg_T wd k_X5_addRow Qp 12 0 0 [some (.ref 55), some (.int a), some (.int (x2 + (nI 1))), o3, o4] [] (eg_si M 71 x2.toNatClampNeg (nI 0))) :
  eg_T wd k_X5_addRow Qp 12 0 0 [some (.ref 55), some (.int a), some (.int x2), o3, o4] [] M := by
  refine eg_T_run mk_X5_addRow (cut := [12, 44, 77, 90, 101]) 86 ?_
  refine And.intro (fun (c1 : (eg_gi M 55 2) < x2) => ?_) (fun (c1 : ¬ (eg_gi M 55 2) < x2) => ?_)
  · skip
    refine And.intro (show vp_in (nI 0) 33 from ?_) ?_
    · exact vp_in_nI (by decide) (by decide)
    show eg_T wd k_X5_addRow Qp 44 0 0 [some (.ref 55), some (.int a), some (.int (nI 0)), some (.int (nI 0)), o4] [] (eg_si M 68 (nI 0).toNatClampNeg a)
    exact l0 c1
  · skip
    refine And.intro (show vp_in x2 33 from ?_) ?_
    · exact g0 c1
    refine And.intro (show (nI 0) = 0 ∨ (nI 0) = 1 from ?_) ?_
    · exact Or.inl rfl
    show eg_T wd k_X5_addRow Qp 12 0 0 [some (.ref 55), some (.int a), some (.int (x2 + (nI 1))), o3, o4] [] (eg_si M 71 x2.toNatClampNeg (nI 0))
    exact l1 c1

set_option maxRecDepth 100000 in
theorem st_X5_addRow_44 {Qp : eg_P} {M : eg_M} (a : Int32) (x2 : Int32) (x3 : Int32) (o4 : Option Value)
  (g0 : (¬ ((eg_gi M 55 2) < x3)) → (vp_in x2 33))
  (g1 : (¬ ((eg_gi M 55 2) < x3)) → (¬ ((eg_gi M 68 x2.toNatClampNeg) = 0)) → (vp_in x2 33 ∧ eg_cn (eg_gi (eg_si M 71 x2.toNatClampNeg (nI 1)) 55 2) 32 ∧ (∃ r, 1 ≤ r ∧ r ≤ 8 ∧ eg_gi (eg_si M 71 x2.toNatClampNeg (nI 1)) 68 x2.toNatClampNeg = nI r) ∧ ∀ c, 1 ≤ c → c ≤ (eg_gi (eg_si M 71 x2.toNatClampNeg (nI 1)) 55 2).toNatClampNeg → vp_in (eg_gi (eg_si M 71 x2.toNatClampNeg (nI 1)) 65 c) 7))
  (g2 : (¬ ((eg_gi M 55 2) < x3)) → (¬ ((eg_gi M 68 x2.toNatClampNeg) = 0)) → (eg_cn (eg_gi (eg_ri (eg_rl (eg_si M 71 x2.toNatClampNeg (nI 1)) 70 (k_lw (eg_si M 71 x2.toNatClampNeg (nI 1)) (eg_gi (eg_si M 71 x2.toNatClampNeg (nI 1)) 68 x2.toNatClampNeg).toNatClampNeg (eg_gi (eg_si M 71 x2.toNatClampNeg (nI 1)) 55 2).toNatClampNeg)) 69 (k_lc (eg_si M 71 x2.toNatClampNeg (nI 1)) x2 (eg_gi (eg_si M 71 x2.toNatClampNeg (nI 1)) 68 x2.toNatClampNeg).toNatClampNeg (eg_gi (eg_si M 71 x2.toNatClampNeg (nI 1)) 55 2).toNatClampNeg)) 55 2) 32))
  (l0 : ((eg_gi M 55 2) < x3 ∨ (eg_gi M 68 x2.toNatClampNeg) = 0) → eg_T wd k_X5_addRow Qp 101 0 0 [some (.ref 55), some (.int a), some (.int x2), some (.int (nI 0)), o4] [] M)
  (l1 : (¬ (eg_gi M 55 2) < x3 ∧ ¬ (eg_gi M 68 x2.toNatClampNeg) = 0) → ∀ (b_1 : Nat), (k_nr (eg_ri (eg_rl (eg_si M 71 x2.toNatClampNeg (nI 1)) 70 (k_lw (eg_si M 71 x2.toNatClampNeg (nI 1)) (eg_gi (eg_si M 71 x2.toNatClampNeg (nI 1)) 68 x2.toNatClampNeg).toNatClampNeg (eg_gi (eg_si M 71 x2.toNatClampNeg (nI 1)) 55 2).toNatClampNeg)) 69 (k_lc (eg_si M 71 x2.toNatClampNeg (nI 1)) x2 (eg_gi (eg_si M 71 x2.toNatClampNeg (nI 1)) 68 x2.toNatClampNeg).toNatClampNeg (eg_gi (eg_si M 71 x2.toNatClampNeg (nI 1)) 55 2).toNatClampNeg)) (eg_gi (eg_ri (eg_rl (eg_si M 71 x2.toNatClampNeg (nI 1)) 70 (k_lw (eg_si M 71 x2.toNatClampNeg (nI 1)) (eg_gi (eg_si M 71 x2.toNatClampNeg (nI 1)) 68 x2.toNatClampNeg).toNatClampNeg (eg_gi (eg_si M 71 x2.toNatClampNeg (nI 1)) 55 2).toNatClampNeg)) 69 (k_lc (eg_si M 71 x2.toNatClampNeg (nI 1)) x2 (eg_gi (eg_si M 71 x2.toNatClampNeg (nI 1)) 68 x2.toNatClampNeg).toNatClampNeg (eg_gi (eg_si M 71 x2.toNatClampNeg (nI 1)) 55 2).toNatClampNeg)) 55 2).toNatClampNeg b_1) → eg_T wd k_X5_addRow Qp 77 0 0 [some (.ref 55), some (.int a), some (.int x2), some (.int x3), o4] [.int (nI b_1)] (eg_ri (eg_rl (eg_si M 71 x2.toNatClampNeg (nI 1)) 70 (k_lw (eg_si M 71 x2.toNatClampNeg (nI 1)) (eg_gi (eg_si M 71 x2.toNatClampNeg (nI 1)) 68 x2.toNatClampNeg).toNatClampNeg (eg_gi (eg_si M 71 x2.toNatClampNeg (nI 1)) 55 2).toNatClampNeg)) 69 (k_lc (eg_si M 71 x2.toNatClampNeg (nI 1)) x2 (eg_gi (eg_si M 71 x2.toNatClampNeg (nI 1)) 68 x2.toNatClampNeg).toNatClampNeg (eg_gi (eg_si M 71 x2.toNatClampNeg (nI 1)) 55 2).toNatClampNeg))) :
  eg_T wd k_X5_addRow Qp 44 0 0 [some (.ref 55), some (.int a), some (.int x2), some (.int x3), o4] [] M := by
  refine eg_T_run mk_X5_addRow (cut := [12, 44, 77, 90, 101]) 86 ?_
  refine And.intro (fun (c1 : (eg_gi M 55 2) < x3) => ?_) (fun (c1 : ¬ (eg_gi M 55 2) < x3) => ?_)
  · skip
    show eg_T wd k_X5_addRow Qp 101 0 0 [some (.ref 55), some (.int a), some (.int x2), some (.int (nI 0)), o4] [] M
    exact l0 (Or.inl c1)
  · skip
    refine And.intro (show vp_in x2 33 from ?_) ?_
    · exact g0 c1
    refine And.intro (fun (c2 : (eg_gi M 68 x2.toNatClampNeg) = 0) => ?_) (fun (c2 : ¬ (eg_gi M 68 x2.toNatClampNeg) = 0) => ?_)
    · skip
      show eg_T wd k_X5_addRow Qp 101 0 0 [some (.ref 55), some (.int a), some (.int x2), some (.int (nI 0)), o4] [] M
      exact l0 (Or.inr c2)
    · skip
      refine And.intro (show vp_in x2 33 from ?_) ?_
      · exact g0 c1
      refine And.intro (show (nI 1) = 0 ∨ (nI 1) = 1 from ?_) ?_
      · exact Or.inr rfl
      refine And.intro (show (vp_in x2 33 ∧ eg_cn (eg_gi (eg_si M 71 x2.toNatClampNeg (nI 1)) 55 2) 32 ∧ (∃ r, 1 ≤ r ∧ r ≤ 8 ∧ eg_gi (eg_si M 71 x2.toNatClampNeg (nI 1)) 68 x2.toNatClampNeg = nI r) ∧ ∀ c, 1 ≤ c → c ≤ (eg_gi (eg_si M 71 x2.toNatClampNeg (nI 1)) 55 2).toNatClampNeg → vp_in (eg_gi (eg_si M 71 x2.toNatClampNeg (nI 1)) 65 c) 7) from ?_) ?_
      · exact g1 c1 c2
      refine And.intro (show (eg_cn (eg_gi (eg_ri (eg_rl (eg_si M 71 x2.toNatClampNeg (nI 1)) 70 (k_lw (eg_si M 71 x2.toNatClampNeg (nI 1)) (eg_gi (eg_si M 71 x2.toNatClampNeg (nI 1)) 68 x2.toNatClampNeg).toNatClampNeg (eg_gi (eg_si M 71 x2.toNatClampNeg (nI 1)) 55 2).toNatClampNeg)) 69 (k_lc (eg_si M 71 x2.toNatClampNeg (nI 1)) x2 (eg_gi (eg_si M 71 x2.toNatClampNeg (nI 1)) 68 x2.toNatClampNeg).toNatClampNeg (eg_gi (eg_si M 71 x2.toNatClampNeg (nI 1)) 55 2).toNatClampNeg)) 55 2) 32) from ?_) ?_
      · exact g2 c1 c2
      intro b_1 ha_1
      show eg_T wd k_X5_addRow Qp 77 0 0 [some (.ref 55), some (.int a), some (.int x2), some (.int x3), o4] [.int (nI b_1)] (eg_ri (eg_rl (eg_si M 71 x2.toNatClampNeg (nI 1)) 70 (k_lw (eg_si M 71 x2.toNatClampNeg (nI 1)) (eg_gi (eg_si M 71 x2.toNatClampNeg (nI 1)) 68 x2.toNatClampNeg).toNatClampNeg (eg_gi (eg_si M 71 x2.toNatClampNeg (nI 1)) 55 2).toNatClampNeg)) 69 (k_lc (eg_si M 71 x2.toNatClampNeg (nI 1)) x2 (eg_gi (eg_si M 71 x2.toNatClampNeg (nI 1)) 68 x2.toNatClampNeg).toNatClampNeg (eg_gi (eg_si M 71 x2.toNatClampNeg (nI 1)) 55 2).toNatClampNeg))
      exact l1 ⟨c1, c2⟩ b_1 ha_1

set_option maxRecDepth 100000 in
theorem st_X5_addRow_77 {Qp : eg_P} {M : eg_M} (a : Int32) (x2 : Int32) (x3 : Int32) (o4 : Option Value) (s0 : Int32)
  (g0 : (vp_in s0 33))
  (g1 : (eg_cn (eg_gi M 55 2) 32 ∧ (∀ c, c ≤ (eg_gi M 55 2).toNatClampNeg → ¬ eg_gi M 71 c = 0 → vp_in (eg_gi M 68 c) 9) ∧ ∀ c d, c ≤ (eg_gi M 55 2).toNatClampNeg → d ≤ (eg_gi M 55 2).toNatClampNeg → ¬ eg_gi M 71 c = 0 → ¬ eg_gi M 71 d = 0 → (eg_gi M 68 c).toNatClampNeg = (eg_gi M 68 d).toNatClampNeg → c = d))
  (l0 : ∀ (u_1 : Nat → Int64), ((∀ c, c ≤ (eg_gi M 55 2).toNatClampNeg → ¬ eg_gi M 71 c = 0 → u_1 (eg_gi M 68 c).toNatClampNeg = eg_gl M 66 (eg_gi M 68 c).toNatClampNeg + (eg_gl M 70 s0.toNatClampNeg)) ∧ ∀ r, (∀ c, c ≤ (eg_gi M 55 2).toNatClampNeg → ¬ eg_gi M 71 c = 0 → ¬ (eg_gi M 68 c).toNatClampNeg = r) → u_1 r = eg_gl M 66 r) → eg_T wd k_X5_addRow Qp 90 0 0 [some (.ref 55), some (.int a), some (.int x2), some (.int x3), some (.int s0)] [] (eg_rl (eg_rl (eg_rl M 66 u_1) 67 (fun c => if c < (eg_gi M 55 2).toNatClampNeg + 1 ∧ ¬ eg_gi M 71 c = 0 then eg_gl M 67 c - (eg_gl M 70 s0.toNatClampNeg) else eg_gl M 67 c)) 70 (fun c => if c < (eg_gi M 55 2).toNatClampNeg + 1 ∧ eg_gi M 71 c = 0 then eg_gl M 70 c - (eg_gl M 70 s0.toNatClampNeg) else eg_gl M 70 c))) :
  eg_T wd k_X5_addRow Qp 77 0 0 [some (.ref 55), some (.int a), some (.int x2), some (.int x3), o4] [.int s0] M := by
  refine eg_T_run mk_X5_addRow (cut := [12, 44, 77, 90, 101]) 86 ?_
  refine And.intro (show vp_in s0 33 from ?_) ?_
  · exact g0
  refine And.intro (show (eg_cn (eg_gi M 55 2) 32 ∧ (∀ c, c ≤ (eg_gi M 55 2).toNatClampNeg → ¬ eg_gi M 71 c = 0 → vp_in (eg_gi M 68 c) 9) ∧ ∀ c d, c ≤ (eg_gi M 55 2).toNatClampNeg → d ≤ (eg_gi M 55 2).toNatClampNeg → ¬ eg_gi M 71 c = 0 → ¬ eg_gi M 71 d = 0 → (eg_gi M 68 c).toNatClampNeg = (eg_gi M 68 d).toNatClampNeg → c = d) from ?_) ?_
  · exact g1
  intro u_1 ha_1
  show eg_T wd k_X5_addRow Qp 90 0 0 [some (.ref 55), some (.int a), some (.int x2), some (.int x3), some (.int s0)] [] (eg_rl (eg_rl (eg_rl M 66 u_1) 67 (fun c => if c < (eg_gi M 55 2).toNatClampNeg + 1 ∧ ¬ eg_gi M 71 c = 0 then eg_gl M 67 c - (eg_gl M 70 s0.toNatClampNeg) else eg_gl M 67 c)) 70 (fun c => if c < (eg_gi M 55 2).toNatClampNeg + 1 ∧ eg_gi M 71 c = 0 then eg_gl M 70 c - (eg_gl M 70 s0.toNatClampNeg) else eg_gl M 70 c))
  exact l0 u_1 ha_1

set_option maxRecDepth 100000 in
theorem st_X5_addRow_90 {Qp : eg_P} {M : eg_M} (a : Int32) (x2 : Int32) (x3 : Int32) (x4 : Int32)
  (l0 : eg_T wd k_X5_addRow Qp 44 0 0 [some (.ref 55), some (.int a), some (.int x4), some (.int (x3 + (nI 1))), some (.int x4)] [] M) :
  eg_T wd k_X5_addRow Qp 90 0 0 [some (.ref 55), some (.int a), some (.int x2), some (.int x3), some (.int x4)] [] M := by
  refine eg_T_run mk_X5_addRow (cut := [12, 44, 77, 90, 101]) 86 ?_
  show eg_T wd k_X5_addRow Qp 44 0 0 [some (.ref 55), some (.int a), some (.int x4), some (.int (x3 + (nI 1))), some (.int x4)] [] M
  exact l0

set_option maxRecDepth 100000 in
theorem st_X5_addRow_101 {Qp : eg_P} {M : eg_M} (a : Int32) (x2 : Int32) (x3 : Int32) (o4 : Option Value)
  (g0 : (¬ ((eg_gi M 55 2) < x3)) → (¬ (x2 = 0)) → (vp_in x2 33))
  (g1 : (¬ ((eg_gi M 55 2) < x3)) → (¬ (x2 = 0)) → (vp_in (eg_gi M 69 x2.toNatClampNeg) 33))
  (l0 : ((eg_gi M 55 2) < x3 ∨ x2 = 0) → Qp (.inl none) M)
  (l1 : (¬ (eg_gi M 55 2) < x3 ∧ ¬ x2 = 0) → eg_T wd k_X5_addRow Qp 101 0 0 [some (.ref 55), some (.int a), some (.int (eg_gi M 69 x2.toNatClampNeg)), some (.int (x3 + (nI 1))), o4] [] (eg_si M 68 x2.toNatClampNeg (eg_gi M 68 (eg_gi M 69 x2.toNatClampNeg).toNatClampNeg))) :
  eg_T wd k_X5_addRow Qp 101 0 0 [some (.ref 55), some (.int a), some (.int x2), some (.int x3), o4] [] M := by
  refine eg_T_run mk_X5_addRow (cut := [12, 44, 77, 90, 101]) 86 ?_
  refine And.intro (fun (c1 : (eg_gi M 55 2) < x3) => ?_) (fun (c1 : ¬ (eg_gi M 55 2) < x3) => ?_)
  · skip
    show Qp (.inl none) M
    exact l0 (Or.inl c1)
  · skip
    refine And.intro (fun (c2 : x2 = 0) => ?_) (fun (c2 : ¬ x2 = 0) => ?_)
    · skip
      show Qp (.inl none) M
      exact l0 (Or.inr c2)
    · skip
      refine And.intro (show vp_in x2 33 from ?_) ?_
      · exact g0 c1 c2
      refine And.intro (show vp_in (eg_gi M 69 x2.toNatClampNeg) 33 from ?_) ?_
      · exact g1 c1 c2
      refine And.intro (show vp_in x2 33 from ?_) ?_
      · exact g0 c1 c2
      refine And.intro (show vp_in x2 33 from ?_) ?_
      · exact g0 c1 c2
      show eg_T wd k_X5_addRow Qp 101 0 0 [some (.ref 55), some (.int a), some (.int (eg_gi M 69 x2.toNatClampNeg)), some (.int (x3 + (nI 1))), o4] [] (eg_si M 68 x2.toNatClampNeg (eg_gi M 68 (eg_gi M 69 x2.toNatClampNeg).toNatClampNeg))
      exact l1 ⟨c1, c2⟩

def s_X5_addRow : eg_S := fun argv M Qp => match argv with
  | [.ref 55, .int a] => (∃ k n, k < n ∧ n ≤ 32 ∧ k < 8 ∧ a = nI (k + 1) ∧ eg_gi M 55 2 = nI n ∧ h_A n (k + 1) (kh_a M) ∧ (∀ c, 1 ≤ c → c ≤ n → vp_in (eg_gi M 65 c) 7) ∧ kh_P M n k (eg_gl M 66) (eg_gl M 67) (eg_gi M 68)) ∧ ∀ (U : Nat → Int64) (V : Nat → Int64) (W : Nat → Int64) (P : Nat → Int32) (F : Nat → Int32) (R : Nat → Int32), (kh_P M (eg_gi M 55 2).toNatClampNeg a.toNatClampNeg U V P) → Qp (.inl none) (kh_m M U V W P F R)
  | _ => False
theorem mo_X5_addRow : eg_mono s_X5_addRow := by
  intro argv M Q Q' h
  unfold s_X5_addRow
  split
  · exact fun z => ⟨z.1, fun U V W P F R y => h _ _ (z.2 U V W P F R y)⟩
  · exact id
theorem sz_X5_addRow : ∀ argv M Qp, s_X5_addRow argv M Qp → (eg_ls0 argv).length ≤ 5 := by
  intro argv M Qp h
  unfold s_X5_addRow at h
  split at h
  · exact Nat.le_of_ble_eq_true rfl
  · exact h.elim
theorem sr_X5_addRow : ∀ argv M Qp, s_X5_addRow argv M Qp → ∃ p0 As, argv = .ref p0 :: As ∧ eg_isO wd M p0 5 = true := by
  intro argv M Qp h
  unfold s_X5_addRow at h
  split at h
  · exact ⟨_, _, rfl, rfl⟩
  · exact h.elim
set_option maxRecDepth 100000 in
set_option maxHeartbeats 1000000 in
theorem T_X5_addRow {argv : List Value} {M : eg_M} {Qp : eg_P} (h : s_X5_addRow argv M Qp) : eg_T wd k_X5_addRow Qp 0 0 0 (eg_lsN 5 argv) [] M := by
  unfold s_X5_addRow at h
  split at h
  · rename_i a
    obtain ⟨hp, hq⟩ := h
    obtain ⟨k, n, hk, hn, hk8, rfl, hN, hA, hKd, hP8, hI, hU0⟩ := hp
    rw [hN, n_c (show n < 2 ^ 31 by omega), n_c (show k + 1 < 2 ^ 31 by omega)] at hq
    -- the way back
    have back : ∀ i (t : Nat) (U V W : Nat → Int64) (P P' F R : Nat → Int32) (O : Nat → Nat) (s : Nat) (o : Option Value), i + t ≤ s → 0 < s → h_G n k (kh_a M) (kh_i U) (kh_i V) (kh_i W) (kh_n P) (kh_n F) O s → (∀ c, 1 ≤ c → c ≤ n → eg_cn (F c) n) → (∀ c, c ≤ n → eg_cn (P' c) 8) → (∀ i, k + 1 < i → i ≤ 8 → U i = lN 0) → h_Q n k (kh_a M) (kh_i U) (kh_i V) (kh_n P) (kh_n F) O (kh_n P') i → eg_T wd k_X5_addRow Qp 101 0 0 [some (.ref 55), some (.int (nI (k + 1))), some (.int (nI (O i))), some (.int (nI t)), o] [] (kh_m M U V W P' F R) := by
      intro i
      induction i using Nat.strongRecOn with
      | ind i ih =>
        intro t U V W P P' F R O s o hts hs hG hF hP' hU hQ
        have hsn := h_few hG
        have hOn : O i ≤ n := hG.1.2.2.1 i (by omega)
        have st := st_X5_addRow_101 (Qp := Qp) (M := kh_m M U V W P' F R) (nI (k + 1)) (nI (O i)) (nI t) o
        have r55 : eg_gi (kh_m M U V W P' F R) 55 2 = nI n := hN
        have r69 : ∀ j, eg_gi (kh_m M U V W P' F R) 69 j = F j := fun _ => rfl
        have r68 : ∀ j, eg_gi (kh_m M U V W P' F R) 68 j = P' j := fun _ => rfl
        rw [r55, n_c (show O i < 2 ^ 31 by omega), r69, r68, n_lt (by omega) (by omega), n_in (by omega) (by decide), n_s] at st
        by_cases hi : i = 0
        · subst hi
          have hO0 : O 0 = 0 := hG.1.1
          refine st (fun _ w => absurd (by rw [hO0]; rfl) w) (fun _ w => absurd (by rw [hO0]; rfl) w) (fun _ => ?_) (fun w => absurd (by rw [hO0]; rfl) w.2)
          exact hq U V W P' F R ⟨fun c _ h2 => hP' c h2, h_last hk hA hs hG hQ, hU⟩
        · obtain ⟨j, hj, hcf, htt⟩ := hG.2.2.1 i (by omega) (by omega)
          have hO1 : 1 ≤ O i := by
            by_cases e : O i = 0
            · have := hG.1.2.2.2 i 0 (by omega) (by omega) (by rw [e, hG.1.1])
              omega
            · omega
          obtain ⟨f, hf, ef⟩ := hF (O i) hO1 hOn
          have hfj : f = O j := by
            have : kh_n F (O i) = O j := hcf
            unfold kh_n at this
            rw [ef, n_c (by omega)] at this
            exact this
          have hne : ¬ nI (O i) = 0 := nI_ne0 (by omega) (by omega)
          rw [ef, hfj, n_c (show O j < 2 ^ 31 by omega)] at st
          refine st (fun _ _ => by omega) (fun _ _ => (n_in (by omega) (by decide)).mpr (by omega)) (fun w => ?_) (fun _ => ?_)
          · rcases w with w | w
            · exact absurd w (by omega)
            · exact absurd w hne
          · rw [kh_s68]
            refine ih j hj (t + 1) U V W P _ F R O s o (by omega) hs hG hF (fun c hc => ?_) hU ?_
            · by_cases e : c = O i
              · rw [if_pos e]
                exact hP' (O j) (by omega)
              · rw [if_neg e]
                exact hP' c hc
            · have := h_move hG (show i ≤ s by omega) hj hQ htt
              have e : kh_n (fun j_1 => if j_1 = O i then P' (O j) else P' j_1) = fun c => if c = O i then kh_n P' (O j) else kh_n P' c := by
                funext c
                show (if c = O i then P' (O j) else P' c).toNatClampNeg = if c = O i then (P' (O j)).toNatClampNeg else (P' c).toNatClampNeg
                by_cases e : c = O i
                · rw [if_pos e, if_pos e]
                · rw [if_neg e, if_neg e]
              rw [e]
              exact this
    -- the search
    have lp : ∀ r s (U V W : Nat → Int64) (P F R : Nat → Int32) (O : Nat → Nat) (o : Option Value), s + r = n + 1 → h_G n k (kh_a M) (kh_i U) (kh_i V) (kh_i W) (kh_n P) (kh_n F) O s → (∀ c, c ≤ n → eg_cn (P c) 8) → (∀ i, k + 1 < i → i ≤ 8 → U i = lN 0) → (0 < s → ∀ c, 1 ≤ c → c ≤ n → eg_cn (F c) n) → (s = 0 → ∀ c, c ≤ n → W c = lN 1152921504606846976) → (∀ i, i < s → R (O i) = nI 1) → (∀ c, c ≤ n → (∀ i, i < s → O i ≠ c) → R c = nI 0) → eg_T wd k_X5_addRow Qp 44 0 0 [some (.ref 55), some (.int (nI (k + 1))), some (.int (nI (O s))), some (.int (nI s)), o] [] (kh_m M U V W P F R) := by
      intro r
      induction r with
      | zero =>
        intro s U V W P F R O o hsr hG
        have := h_few hG
        omega
      | succ r ih =>
        intro s U V W P F R O o hsr hG hP hU hF hW hR1 hR0
        have hsn := h_few hG
        have hOn : ∀ i, i ≤ s → O i ≤ n := hG.1.2.2.1
        have hOs := hOn s (Nat.le_refl _)
        obtain ⟨hvB, huB⟩ := h_big hk hk8 hA hG
        have st := st_X5_addRow_44 (Qp := Qp) (M := kh_m M U V W P F R) (nI (k + 1)) (nI (O s)) (nI s) o
        have r55 : ∀ W F R, eg_gi (kh_m M U V W P F R) 55 2 = nI n := fun _ _ _ => hN
        have r68 : ∀ W F R j, eg_gi (kh_m M U V W P F R) 68 j = P j := fun _ _ _ _ => rfl
        have r65 : ∀ W F R j, eg_gi (kh_m M U V W P F R) 65 j = eg_gi M 65 j := fun _ _ _ _ => rfl
        obtain ⟨q, hq8, eq⟩ := hP (O s) hOs
        rw [n_c (show O s < 2 ^ 31 by omega), kh_s71] at st
        generalize hRR : (fun j => if j = O s then nI 1 else R j) = R1 at st
        simp only [r55, r68, r65, eq, n_c (show q < 2 ^ 31 by omega), n_c (show n < 2 ^ 31 by omega), n_lt (show n < 2 ^ 31 by omega) (show s < 2 ^ 31 by omega)] at st
        have hqp : kh_n P (O s) = q := by
          unfold kh_n
          rw [eq, n_c (by omega)]
        have R1r : ∀ i, i ≤ s → R1 (O i) = nI 1 := fun i hi => by
          rw [← hRR]
          dsimp only
          by_cases e : O i = O s
          · rw [if_pos e]
          · rw [if_neg e]
            refine hR1 i ?_
            by_cases e2 : i = s
            · rw [e2] at e
              exact absurd rfl e
            · omega
        have R1n : ∀ c, c ≤ n → (∀ i, i ≤ s → O i ≠ c) → R1 c = nI 0 := fun c hc h => by
          rw [← hRR]
          dsimp only
          rw [if_neg (fun e => h s (Nat.le_refl _) e.symm)]
          exact hR0 c hc (fun i hi => h i (by omega))
        have R1w : ∀ c, c ≤ n → ¬ R1 c = 0 → ∃ i, i ≤ s ∧ O i = c := fun c hc h => by
          refine Classical.byContradiction (fun z => h (R1n c hc (fun i hi e => z ⟨i, hi, e⟩)))
        have n10 : ¬ nI 1 = 0 := by decide
        have vOs : vp_in (nI (O s)) 33 := (n_in (by omega) (by decide)).mpr (by omega)
        by_cases hq0 : q = 0
        · -- a column that is free
          subst hq0
          have st := st (fun _ => vOs) (fun _ w => absurd rfl w) (fun _ w => absurd rfl w) (fun _ => ?_) (fun w => absurd rfl w.2)
          · exact st
          · obtain ⟨hs, hQ⟩ := h_first hG hqp
            exact back s 0 U V W P P F R O s o (by omega) hs hG (hF hs) hP hU hQ
        · have hq1 : ¬ nI q = 0 := nI_ne0 (by omega) (by omega)
          have hps : kh_n P (O s) ≠ 0 := by rw [hqp]; exact hq0
          obtain ⟨hpr, hpi⟩ := h_pinj hG hps
          have hqk : q ≤ k + 1 := by
            have := (hpr s (Nat.le_refl _)).2
            rw [hqp] at this
            exact this
          refine st (fun _ => vOs) (fun _ _ => ⟨vOs, ⟨n, hn, rfl⟩, ⟨q, by omega, hq8, rfl⟩, hKd⟩) (fun _ _ => ⟨n, hn, hN⟩) (fun w => ?_) (fun _ b hb => ?_)
          · rcases w with w | w
            · exact absurd w (by omega)
            · exact absurd w hq1
          · generalize hWW : k_lw (kh_m M U V W P F R1) q n = W1 at hb ⊢
            generalize hFF : k_lc (kh_m M U V W P F R1) (nI (O s)) q n = F1 at hb ⊢
            rw [kh_look] at hb ⊢
            have e55 : eg_gi (kh_m M U V W1 P F1 R1) 55 2 = nI n := hN
            rw [e55, n_c (show n < 2 ^ 31 by omega)] at hb
            have hb : (b = 0 ∧ ∀ j, 1 ≤ j → j ≤ n → ¬ R1 j = 0) ∨ (1 ≤ b ∧ b ≤ n ∧ R1 b = 0 ∧ ∀ j, 1 ≤ j → j ≤ n → R1 j = 0 → W1 b ≤ W1 j) := hb
            -- the distances
            have far : ∀ c, 1 ≤ c → c ≤ n → (k_far (kh_m M U V W P F R1) q c).toInt = kh_a M q c - kh_i U q - kh_i V c ∧ -10000000000000 < kh_a M q c - kh_i U q - kh_i V c ∧ kh_a M q c - kh_i U q - kh_i V c < 10000000000000 := by
              intro c h1 h2
              have ba := hA q c (by omega) hqk h1 h2
              have bu := huB q (by omega) hqk
              have bv := hvB c h1 h2
              have e : k_far (kh_m M U V W P F R1) q c = eg_gl M (56 + 1 + (q - 1)) (eg_gi M 65 c).toNatClampNeg - U q - V c := by
                unfold k_far
                rw [kh_l, if_neg (by omega), if_neg (by omega), if_neg (by omega)]
                rfl
              have ea : kh_a M q c = (eg_gl M (56 + 1 + (q - 1)) (eg_gi M 65 c).toNatClampNeg).toInt := rfl
              have eu : kh_i U q = (U q).toInt := rfl
              have ev : kh_i V c = (V c).toInt := rfl
              have s1 : (eg_gl M (56 + 1 + (q - 1)) (eg_gi M 65 c).toNatClampNeg - U q).toInt = kh_a M q c - kh_i U q := by
                rw [l_sb (by omega), ea, eu]
              refine ⟨?_, by omega, by omega⟩
              rw [e, l_sb (by omega), s1, ev]
            have nb : ∀ c, k_nb (kh_m M U V W P F R1) q n c = true ↔ ((1 ≤ c ∧ c ≤ n) ∧ R1 c = 0 ∧ ¬ W c ≤ k_far (kh_m M U V W P F R1) q c) := fun c => by
              unfold k_nb
              exact decide_eq_true_iff
            have W1t : ∀ c, k_nb (kh_m M U V W P F R1) q n c = true → W1 c = k_far (kh_m M U V W P F R1) q c ∧ F1 c = nI (O s) := fun c h => by
              rw [← hWW, ← hFF]
              unfold k_lw k_lc
              rw [if_pos h, if_pos h]
              exact ⟨rfl, rfl⟩
            have W1f : ∀ c, ¬ k_nb (kh_m M U V W P F R1) q n c = true → W1 c = W c ∧ F1 c = F c := fun c h => by
              rw [← hWW, ← hFF]
              unfold k_lw k_lc
              rw [if_neg h, if_neg h]
              exact ⟨rfl, rfl⟩
            have hw : ∀ c, 1 ≤ c → c ≤ n → (∀ i, i ≤ s → O i ≠ c) → (kh_i W1 c = kh_a M (kh_n P (O s)) c - kh_i U (kh_n P (O s)) - kh_i V c ∧ kh_n F1 c = O s ∧ (0 < s → kh_a M (kh_n P (O s)) c - kh_i U (kh_n P (O s)) - kh_i V c ≤ kh_i W c)) ∨ (0 < s ∧ kh_i W1 c = kh_i W c ∧ kh_n F1 c = kh_n F c ∧ kh_i W c ≤ kh_a M (kh_n P (O s)) c - kh_i U (kh_n P (O s)) - kh_i V c) := by
              intro c h1 h2 h3
              rw [hqp]
              obtain ⟨f1, f2, f3⟩ := far c h1 h2
              by_cases h : k_nb (kh_m M U V W P F R1) q n c = true
              · obtain ⟨g1, g2⟩ := W1t c h
                have g3 := ((nb c).mp h).2.2
                refine Or.inl ⟨?_, ?_, fun _ => ?_⟩
                · show (W1 c).toInt = _
                  rw [g1, f1]
                · show (F1 c).toNatClampNeg = _
                  rw [g2, n_c (by omega)]
                · have := Int64.lt_iff_toInt_lt.mp (Int64.not_le.mp g3)
                  rw [f1] at this
                  exact Int.le_of_lt this
              · obtain ⟨g1, g2⟩ := W1f c h
                have g3 : W c ≤ k_far (kh_m M U V W P F R1) q c := Classical.byContradiction (fun z => h ((nb c).mpr ⟨⟨h1, h2⟩, R1n c h2 h3, z⟩))
                have g4 := Int64.le_iff_toInt_le.mp g3
                rw [f1] at g4
                refine Or.inr ⟨?_, ?_, ?_, g4⟩
                · refine Nat.pos_of_ne_zero (fun z => ?_)
                  rw [hW z c h2] at g4
                  have : (lN 1152921504606846976).toInt = 1152921504606846976 := by decide
                  omega
                · show (W1 c).toInt = (W c).toInt
                  rw [g1]
                · show (F1 c).toNatClampNeg = (F c).toNatClampNeg
                  rw [g2]
            have wB : ∀ c, 1 ≤ c → c ≤ n → (∀ i, i ≤ s → O i ≠ c) → -10000000000000 < kh_i W1 c ∧ kh_i W1 c < 10000000000000 := by
              intro c h1 h2 h3
              obtain ⟨f1, f2, f3⟩ := far c h1 h2
              rcases hw c h1 h2 h3 with ⟨g1, -, -⟩ | ⟨g0, g1, -, g3⟩
              · rw [g1, hqp]
                exact ⟨f2, f3⟩
              · obtain ⟨j, j1, -, j3⟩ := (hG.2.2.2.1 g0 c h1 h2 (fun i hi => h3 i (by omega))).1
                have b1 := hpr j (by omega)
                have ba := hA _ c b1.1 b1.2 h1 h2
                have bu := huB _ b1.1 b1.2
                have bv := hvB c h1 h2
                omega
            rcases hb with ⟨-, hb⟩ | ⟨hb1, hbn, hbR, hbm⟩
            · exfalso
              obtain ⟨f, f1, f2, f3⟩ := h_free hG.2.2.2.2.1 hk
              obtain ⟨i, hi, e⟩ := R1w f f2 (hb f f1 f2)
              have := (hpr i hi).1
              rw [e, f3] at this
              omega
            · have hyO : ∀ i, i ≤ s → O i ≠ b := fun i hi e => by
                have := R1r i hi
                rw [e, hbR] at this
                exact n10 this.symm
              have s7 := st_X5_addRow_77 (Qp := Qp) (M := kh_m M U V W1 P F1 R1) (nI (k + 1)) (nI (O s)) (nI s) o (nI b)
              have q71 : ∀ j, eg_gi (kh_m M U V W1 P F1 R1) 71 j = R1 j := fun _ => rfl
              have q68 : ∀ j, eg_gi (kh_m M U V W1 P F1 R1) 68 j = P j := fun _ => rfl
              have q66 : ∀ j, eg_gl (kh_m M U V W1 P F1 R1) 66 j = U j := fun _ => rfl
              have q67 : ∀ j, eg_gl (kh_m M U V W1 P F1 R1) 67 j = V j := fun _ => rfl
              have q70 : ∀ j, eg_gl (kh_m M U V W1 P F1 R1) 70 j = W1 j := fun _ => rfl
              rw [n_c (show b < 2 ^ 31 by omega), n_in (by omega) (by decide)] at s7
              simp only [e55, q71, q68, q66, q67, q70, kh_move, n_c (show n < 2 ^ 31 by omega)] at s7
              refine s7 (by omega) ⟨⟨n, hn, rfl⟩, fun c hc hr => ?_, fun c d hc hd hr hr' he => ?_⟩ (fun U1 hU1 => ?_)
              · obtain ⟨z, hz, ez⟩ := hP c hc
                rw [ez, n_in (by omega) (by decide)]
                omega
              · obtain ⟨i, hi, ei⟩ := R1w c hc hr
                obtain ⟨j, hj, ej⟩ := R1w d hd hr'
                have := hpi i j hi hj (by unfold kh_n; rw [ei, ej]; exact he)
                rw [← ei, ← ej, this]
              · refine st_X5_addRow_90 _ _ _ _ ?_
                rw [n_s]
                obtain ⟨hU1a, hU1b⟩ := hU1
                have wb := wB b hb1 hbn hyO
                have wbe : kh_i W1 b = (W1 b).toInt := rfl
                have hu : (∀ i, i ≤ s → kh_i U1 (kh_n P (O i)) = kh_i U (kh_n P (O i)) + kh_i W1 b) ∧ ∀ r, (∀ i, i ≤ s → kh_n P (O i) ≠ r) → kh_i U1 r = kh_i U r := by
                  refine ⟨fun i hi => ?_, fun r hr => ?_⟩
                  · have := hU1a (O i) (hOn i hi) (by rw [R1r i hi]; exact n10)
                    have bu := huB _ (hpr i hi).1 (hpr i hi).2
                    show (U1 (P (O i)).toNatClampNeg).toInt = _
                    rw [this, l_ad]
                    · rfl
                    · have : kh_i U (kh_n P (O i)) = (U (P (O i)).toNatClampNeg).toInt := rfl
                      omega
                  · show (U1 r).toInt = (U r).toInt
                    rw [hU1b r (fun c hc hr' e => ?_)]
                    obtain ⟨i, hi, ei⟩ := R1w c hc hr'
                    exact hr i hi (by unfold kh_n; rw [ei]; exact e)
                have hv : (∀ i, 1 ≤ i → i ≤ s → kh_i (fun c => if c < n + 1 ∧ ¬ R1 c = 0 then V c - W1 b else V c) (O i) = kh_i V (O i) - kh_i W1 b) ∧ ∀ c, c ≤ n → (∀ i, i ≤ s → O i ≠ c) → kh_i (fun c => if c < n + 1 ∧ ¬ R1 c = 0 then V c - W1 b else V c) c = kh_i V c := by
                  refine ⟨fun i h1 hi => ?_, fun c hc h => ?_⟩
                  · have hO1 : 1 ≤ O i := by
                      by_cases e : O i = 0
                      · have := hG.1.2.2.2 i 0 hi (by omega) (by rw [e, hG.1.1])
                        omega
                      · omega
                    have bv := hvB (O i) hO1 (hOn i hi)
                    have bve : kh_i V (O i) = (V (O i)).toInt := rfl
                    have := hOn i hi
                    show (if O i < n + 1 ∧ ¬ R1 (O i) = 0 then V (O i) - W1 b else V (O i)).toInt = _
                    rw [if_pos ⟨by omega, by rw [R1r i hi]; exact n10⟩, l_sb (by omega)]
                    rfl
                  · show (if c < n + 1 ∧ ¬ R1 c = 0 then V c - W1 b else V c).toInt = _
                    rw [if_neg (fun z => z.2 (R1n c hc h))]
                    rfl
                have hw2 : ∀ c, 1 ≤ c → c ≤ n → (∀ i, i ≤ s → O i ≠ c) → kh_i (fun c => if c < n + 1 ∧ R1 c = 0 then W1 c - W1 b else W1 c) c = kh_i W1 c - kh_i W1 b := by
                  intro c h1 h2 h3
                  have wc := wB c h1 h2 h3
                  have wce : kh_i W1 c = (W1 c).toInt := rfl
                  show (if c < n + 1 ∧ R1 c = 0 then W1 c - W1 b else W1 c).toInt = _
                  rw [if_pos ⟨by omega, R1n c h2 h3⟩, l_sb (by omega)]
                  rfl
                have hcf : ∀ i, i ≤ s → kh_n F1 (O i) = kh_n F (O i) := fun i hi => by
                  unfold kh_n
                  rw [(W1f (O i) (fun z => n10 (by rw [← R1r i hi]; exact ((nb _).mp z).2.1))).2]
                have hG' := h_step hk hA hG hps hw hcf ⟨hb1, hbn, hyO, fun c h1 h2 h3 => Int64.le_iff_toInt_le.mp (hbm c h1 h2 (R1n c h2 h3))⟩ hu hv hw2
                have eO : (fun i => if i = s + 1 then b else O i) (s + 1) = b := if_pos rfl
                have := ih (s + 1) U1 _ _ P F1 R1 (fun i => if i = s + 1 then b else O i) (some (.int (nI b))) (by omega) hG' hP (fun i h1 h2 => ?_) (fun _ c h1 h2 => ?_) (fun z => absurd z (Nat.succ_ne_zero _)) (fun i hi => ?_) (fun c hc h => ?_)
                · rw [if_pos rfl] at this
                  exact this
                · rw [hU1b i (fun c hc hr' e => ?_)]
                  · exact hU i h1 h2
                  · obtain ⟨t, ht, et⟩ := R1w c hc hr'
                    have := (hpr t ht).2
                    unfold kh_n at this
                    rw [et, e] at this
                    omega
                · by_cases h : k_nb (kh_m M U V W P F R1) q n c = true
                  · exact ⟨O s, hOs, (W1t c h).2⟩
                  · rw [(W1f c h).2]
                    by_cases hs : 0 < s
                    · exact hF hs c h1 h2
                    · exfalso
                      rcases hw c h1 h2 (fun i hi e => by
                        have : i = 0 := by omega
                        rw [this, hG.1.1] at e
                        omega) with ⟨g1, -, -⟩ | ⟨g0, -⟩
                      · obtain ⟨f1, f2, f3⟩ := far c h1 h2
                        rw [hqp] at g1
                        have g5 : (W1 c).toInt = (W c).toInt := by rw [(W1f c h).1]
                        have g6 : kh_i W1 c = (W1 c).toInt := rfl
                        rw [hW (by omega) c h2] at g5
                        have : (lN 1152921504606846976).toInt = 1152921504606846976 := by decide
                        omega
                      · exact hs g0
                · rw [if_neg (show ¬ i = s + 1 by omega)]
                  exact R1r i (by omega)
                · refine R1n c hc (fun i hi => ?_)
                  have := h i (by omega)
                  rw [if_neg (show ¬ i = s + 1 by omega)] at this
                  exact this
    -- the columns are not reached yet
    generalize hWW : (fun j => if j < 33 then lN 1152921504606846976 else eg_gl M 70 j) = W0
    have cl : ∀ i (x : Option Value × Option Value), i ≤ n + 1 → True → eg_T wd k_X5_addRow Qp 12 0 0 [some (.ref 55), some (.int (nI (k + 1))), some (.int (nI i)), x.1, x.2] [] (kh_m M (eg_gl M 66) (eg_gl M 67) W0 (eg_gi M 68) (eg_gi M 69) (fun j => if j < i then nI 0 else eg_gi M 71 j)) := by
      refine eg_for ?_
      intro i ⟨o3, o4⟩ hi _ kk
      have st := st_X5_addRow_12 (Qp := Qp) (M := kh_m M (eg_gl M 66) (eg_gl M 67) W0 (eg_gi M 68) (eg_gi M 69) (fun j => if j < i then nI 0 else eg_gi M 71 j)) (nI (k + 1)) (nI i) o3 o4
      have r55 : eg_gi (kh_m M (eg_gl M 66) (eg_gl M 67) W0 (eg_gi M 68) (eg_gi M 69) (fun j => if j < i then nI 0 else eg_gi M 71 j)) 55 2 = nI n := hN
      rw [r55, n_lt (by omega) (by omega), n_c (show i < 2 ^ 31 by omega), n_in (by omega) (by decide), n_s, kh_s68, kh_s71] at st
      refine st (fun _ => by omega) (fun w => ?_) (fun w => ?_)
      · have hin : i = n + 1 := by omega
        subst hin
        have hI' : h_I n k (kh_a M) (kh_i (eg_gl M 66)) (kh_i (eg_gl M 67)) (kh_n (fun j => if j = (nI 0).toNatClampNeg then nI (k + 1) else eg_gi M 68 j)) := by
          have e : ∀ c, 1 ≤ c → kh_n (fun j => if j = (nI 0).toNatClampNeg then nI (k + 1) else eg_gi M 68 j) c = kh_n (eg_gi M 68) c := by
            intro c hc
            show (if c = 0 then nI (k + 1) else eg_gi M 68 c).toNatClampNeg = _
            rw [if_neg (by omega)]
            rfl
          obtain ⟨⟨f1, f2, f3, f4, f5⟩, f6⟩ := hI
          refine ⟨⟨f1, fun j h1 h2 h3 => ?_, fun j h1 h2 => ?_, fun i j h1 h2 h3 h4 h5 h6 => ?_, fun i h1 h2 => ?_⟩, f6⟩
          · rw [e j h1] at h3 ⊢
            exact f2 j h1 h2 h3
          · rw [e j h1]
            exact f3 j h1 h2
          · rw [e i h1, e j h3] at h5
            rw [e i h1] at h6
            exact f4 i j h1 h2 h3 h4 h5 h6
          · obtain ⟨j, g1, g2, g3⟩ := f5 i h1 h2
            exact ⟨j, g1, g2, by rw [e j g1]; exact g3⟩
        have hp0 : kh_n (fun j => if j = (nI 0).toNatClampNeg then nI (k + 1) else eg_gi M 68 j) 0 = k + 1 := by
          show (nI (k + 1)).toNatClampNeg = _
          rw [n_c (by omega)]
        have hu0 : kh_i (eg_gl M 66) (k + 1) = 0 := by
          unfold kh_i
          rw [hU0 (k + 1) (by omega) (by omega)]
          rfl
        refine lp (n + 1) 0 _ _ _ _ _ _ (fun _ => 0) o4 (by omega) (h_start hI' hp0 hu0) (fun c hc => ?_) (fun i h1 h2 => hU0 i (by omega) h2) (fun z => absurd z (Nat.lt_irrefl 0)) (fun _ c hc => ?_) (fun i hi => absurd hi (Nat.not_lt_zero _)) (fun c hc _ => ?_)
        · by_cases e : c = 0
          · rw [if_pos (show c = (nI 0).toNatClampNeg from e)]
            exact ⟨k + 1, by omega, rfl⟩
          · rw [if_neg (show ¬ c = (nI 0).toNatClampNeg from e)]
            exact hP8 c (by omega) hc
        · rw [← hWW]
          dsimp only
          rw [if_pos (by omega)]
        · rw [if_pos (by omega)]
      · have := kk (o3, o4) (by omega) trivial
        have e : (fun j => if j = i then nI 0 else if j < i then nI 0 else eg_gi M 71 j) = fun j => if j < i + 1 then nI 0 else eg_gi M 71 j := by
          funext j
          by_cases e : j = i
          · rw [if_pos e, if_pos (by omega)]
          · rw [if_neg e]
            by_cases e2 : j < i
            · rw [if_pos e2, if_pos (by omega)]
            · rw [if_neg e2, if_neg (by omega)]
        rw [e]
        exact this
    refine st_X5_addRow_0 _ ?_
    have c0 := cl 0 (none, none) (Nat.zero_le _) trivial
    have e0 : kh_m M (eg_gl M 66) (eg_gl M 67) W0 (eg_gi M 68) (eg_gi M 69) (fun j => if j < 0 then nI 0 else eg_gi M 71 j) = eg_fL M 70 33 (lN 1152921504606846976) := by
      have e1 : (fun j => if j < 0 then nI 0 else eg_gi M 71 j) = eg_gi M 71 := by
        funext j
        rw [if_neg (Nat.not_lt_zero _)]
      have e2 : eg_fL M 70 33 (lN 1152921504606846976) = eg_rl M 70 W0 := by
        rw [← hWW]
        rfl
      rw [e1, e2, ← kh_look M (eg_gl M 66) (eg_gl M 67) (eg_gl M 70) W0 (eg_gi M 68) (eg_gi M 69) (eg_gi M 69) (eg_gi M 71), kh_id]
      exact ri_id' rfl
    rw [e0] at c0
    exact c0
    
  · exact h.elim
theorem de_X5_addRow : ∀ q ∈ k_X5_addRow.1, decode cX5_addRow q.1 = .ok q.2 := by decide +kernel
theorem me_X5_addRow (g : gl_T) : MT g yX5_addRow cX5_addRow 5 none ⟨1, 0, 0, 25⟩ 0 0 s_X5_addRow := by
  intro hl
  exact eg_met_of (k := k_X5_addRow) (by decide) rfl ⟨Nat.le_refl _, Nat.le_refl _⟩ rfl sz_X5_addRow de_X5_addRow (fun meth hn => (fc (eg_FL_of wd_c5 (by decide) lf_RX5_22 (fun h => absurd h (by decide))) (fc (eg_FL_of wd_c5 (by decide) lf_RX5_33 (fun h => absurd h (by decide))) (fc (eg_FL_of wd_c5 (by decide) lf_RX5_36 (fun h => absurd h (by decide))) (fc (eg_FL_of wd_c5 (by decide) lf_RX5_39 (fun h => absurd h (by decide))) (fc (eg_FL_of wd_c5 (by decide) lf_RX5_42 (fun h => absurd h (by decide))) (fn))))))) (fun A s H hE => (fc (List.mem_cons_of_mem _ ll_RX5_59) (fn))) (fun p e s m args below meth c Q A ad0 N0 S0 hK hEx hA => (fc (mt_S hl S0 hK hEx hA (me_J7_fill_d0a16 g) lm_RX5_46 ls_J7_fill_d0a16 ln_RJ7 lc_J7_fill_d0a16 ⟨rfl, by decide, by decide, by decide +kernel⟩ ⟨rfl, rfl⟩ ⟨by decide, by decide⟩ (by decide)) (fc (mt_V hl S0 hK hEx hA (me_X5_lookFrom g) lm_RX5_61 li_X5_lookFrom lx_X5_lookFrom ln_RX5 lc_X5_lookFrom ⟨rfl, by decide, by decide, by decide +kernel⟩ ⟨rfl, rfl⟩ ⟨by decide, by decide⟩ (ci := 5) rfl rfl sr_X5_lookFrom (by decide)) (fc (mt_V hl S0 hK hEx hA (me_X5_nearest g) lm_RX5_64 li_X5_nearest lx_X5_nearest ln_RX5 lc_X5_nearest ⟨rfl, by decide, by decide, by decide +kernel⟩ ⟨rfl, rfl⟩ ⟨by decide, by decide⟩ (ci := 5) rfl rfl sr_X5_nearest (by decide)) (fc (mt_V hl S0 hK hEx hA (me_X5_moveBy g) lm_RX5_68 li_X5_moveBy lx_X5_moveBy ln_RX5 lc_X5_moveBy ⟨rfl, by decide, by decide, by decide +kernel⟩ ⟨rfl, rfl⟩ ⟨by decide, by decide⟩ (ci := 5) rfl rfl sr_X5_moveBy (by decide)) (fn)))))) (fun p e s m args below meth c Qc XC A ad0 N0 P S0 hK hEx hA hlk hout hPX => (fn)) (fun argv M Qp h => T_X5_addRow h)

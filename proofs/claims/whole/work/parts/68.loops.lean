/-! the cheapest way to give each row a column of its own: what holds of the prices -/
theorem h_pig : ∀ (k m : Nat) (f : Nat → Nat), (∀ j, j < m → f j < k) → (∀ i j, i < m → j < m → f i = f j → i = j) → m ≤ k
  | 0, m, f, h, _ => Nat.le_of_not_lt (fun z => absurd (h 0 z) (Nat.not_lt_zero _))
  | k + 1, 0, f, _, _ => Nat.zero_le _
  | k + 1, m + 1, f, h, hi => by
    have := h_pig k m (fun j => if f j = k then f m else f j) (fun j hj => ?_) (fun i j hi' hj' he => ?_)
    · omega
    · dsimp only
      by_cases e : f j = k
      · rw [if_pos e]
        have h1 := h m (by omega)
        have h2 : ¬ f m = k := fun z => by
          have := hi j m (by omega) (by omega) (by rw [e, z])
          omega
        omega
      · rw [if_neg e]
        have := h j (by omega)
        omega
    · dsimp only at he
      by_cases e : f i = k
      · by_cases e2 : f j = k
        · exact hi i j (by omega) (by omega) (by rw [e, e2])
        · rw [if_pos e, if_neg e2] at he
          have := hi m j (by omega) (by omega) he
          omega
      · by_cases e2 : f j = k
        · rw [if_neg e, if_pos e2] at he
          have := hi i m (by omega) (by omega) he
          omega
        · rw [if_neg e, if_neg e2] at he
          exact hi i j (by omega) (by omega) he
/-- what stays true while rows and columns have prices: k rows are served -/
def h_F (n k : Nat) (a : Nat → Nat → Int) (u v : Nat → Int) (p : Nat → Nat) : Prop :=
  (∀ i j, 1 ≤ i → i ≤ k → 1 ≤ j → j ≤ n → u i + v j ≤ a i j) ∧
  (∀ j, 1 ≤ j → j ≤ n → p j ≠ 0 → p j ≤ k ∧ a (p j) j = u (p j) + v j) ∧
  (∀ j, 1 ≤ j → j ≤ n → v j ≤ 0 ∧ (p j = 0 → v j = 0)) ∧
  (∀ i j, 1 ≤ i → i ≤ n → 1 ≤ j → j ≤ n → p i = p j → p i ≠ 0 → i = j) ∧
  (∀ i, 1 ≤ i → i ≤ k → ∃ j, 1 ≤ j ∧ j ≤ n ∧ p j = i)
/-- how large prices may be -/
def h_Z (n k : Nat) (u v : Nat → Int) (t : Int) : Prop :=
  (∀ j, 1 ≤ j → j ≤ n → -(345888060000 * (k : Int)) - t ≤ v j) ∧ (∀ i, 1 ≤ i → i ≤ k → -172944030000 ≤ u i ∧ u i ≤ 172944030000 + 345888060000 * (k : Int) + t)
def h_A (n m : Nat) (a : Nat → Nat → Int) : Prop := ∀ i j, 1 ≤ i → i ≤ m → 1 ≤ j → j ≤ n → -172944030000 ≤ a i j ∧ a i j ≤ 172944030000
/-- the search for row k + 1: O tells the reached columns in their order, s how many; the next is O s -/
def h_G (n k : Nat) (a : Nat → Nat → Int) (u v w : Nat → Int) (p cf O : Nat → Nat) (s : Nat) : Prop :=
  (O 0 = 0 ∧ p 0 = k + 1 ∧ (∀ i, i ≤ s → O i ≤ n) ∧ ∀ i j, i ≤ s → j ≤ s → O i = O j → i = j) ∧
  (∀ i, i < s → p (O i) ≠ 0) ∧
  (∀ i, 1 ≤ i → i ≤ s → ∃ j, j < i ∧ cf (O i) = O j ∧ a (p (O j)) (O i) = u (p (O j)) + v (O i)) ∧
  (0 < s → ∀ c, 1 ≤ c → c ≤ n → (∀ i, i < s → O i ≠ c) → (∃ j, j < s ∧ cf c = O j ∧ w c = a (p (O j)) c - u (p (O j)) - v c) ∧ ∀ j, j < s → w c ≤ a (p (O j)) c - u (p (O j)) - v c) ∧
  h_F n k a u v p ∧
  (s = 0 → u (k + 1) = 0 ∧ h_Z n k u v 0) ∧
  (0 < s → (∀ j, 1 ≤ j → j ≤ n → u (k + 1) + v j ≤ a (k + 1) j) ∧ -172944030000 ≤ u (k + 1) ∧ h_Z n k u v (u (k + 1) + 172944030000))
theorem h_free {n k : Nat} {a : Nat → Nat → Int} {u v : Nat → Int} {p : Nat → Nat} (h : h_F n k a u v p) (hk : k < n) : ∃ f, 1 ≤ f ∧ f ≤ n ∧ p f = 0 := by
  refine Classical.byContradiction (fun z => ?_)
  have hz : ∀ j, j < n → p (j + 1) ≠ 0 := fun j hj e => z ⟨j + 1, by omega, by omega, e⟩
  have := h_pig k n (fun j => p (j + 1) - 1) (fun j hj => ?_) (fun i j hi hj he => ?_)
  · omega
  · have h1 := (h.2.1 (j + 1) (by omega) (by omega) (hz j hj)).1
    have h2 := hz j hj
    dsimp only
    omega
  · dsimp only at he
    have h2 := hz j hj
    have h3 := hz i hi
    have := h.2.2.2.1 (i + 1) (j + 1) (by omega) (by omega) (by omega) (by omega) (by omega) h3
    omega
/-- the search goes one column on -/
theorem h_step {n k s y : Nat} {a : Nat → Nat → Int} {u v w u' v' w' w2 : Nat → Int} {p cf cf' O : Nat → Nat} (hk : k < n) (hA : h_A n (k + 1) a) (hG : h_G n k a u v w p cf O s) (hps : p (O s) ≠ 0)
    (hw : ∀ c, 1 ≤ c → c ≤ n → (∀ i, i ≤ s → O i ≠ c) → (w' c = a (p (O s)) c - u (p (O s)) - v c ∧ cf' c = O s ∧ (0 < s → a (p (O s)) c - u (p (O s)) - v c ≤ w c)) ∨ (0 < s ∧ w' c = w c ∧ cf' c = cf c ∧ w c ≤ a (p (O s)) c - u (p (O s)) - v c))
    (hcf : ∀ i, i ≤ s → cf' (O i) = cf (O i)) (hy : 1 ≤ y ∧ y ≤ n ∧ (∀ i, i ≤ s → O i ≠ y) ∧ ∀ c, 1 ≤ c → c ≤ n → (∀ i, i ≤ s → O i ≠ c) → w' y ≤ w' c)
    (hu : (∀ i, i ≤ s → u' (p (O i)) = u (p (O i)) + w' y) ∧ ∀ r, (∀ i, i ≤ s → p (O i) ≠ r) → u' r = u r)
    (hv : (∀ i, i ≤ s → v' (O i) = v (O i) - w' y) ∧ ∀ c, c ≤ n → (∀ i, i ≤ s → O i ≠ c) → v' c = v c)
    (hw2 : ∀ c, 1 ≤ c → c ≤ n → (∀ i, i ≤ s → O i ≠ c) → w2 c = w' c - w' y) : h_G n k a u' v' w2 p cf' (fun i => if i = s + 1 then y else O i) (s + 1) := by
  obtain ⟨⟨hO0, hp0, hOn, hOi⟩, hpO, hch, hun, ⟨hf, htt, hvn, hinj, hall⟩, hz0, hz1⟩ := hG
  obtain ⟨hy1, hyn, hyO, hyw⟩ := hy
  have hpO' : ∀ i, i ≤ s → p (O i) ≠ 0 := fun i hi => by
    by_cases e : i = s
    · rw [e]; exact hps
    · exact hpO i (by omega)
  have hO1 : ∀ i, 1 ≤ i → i ≤ s → 1 ≤ O i := fun i h1 h2 => by
    by_cases e : O i = 0
    · have := hOi i 0 h2 (by omega) (by rw [e, hO0])
      omega
    · omega
  have hpk : ∀ i, 1 ≤ i → i ≤ s → p (O i) ≤ k := fun i h1 h2 => (htt (O i) (hO1 i h1 h2) (hOn i h2) (hpO' i h2)).1
  have hp0' : p (O 0) = k + 1 := by rw [hO0]; exact hp0
  have hpinj : ∀ i j, i ≤ s → j ≤ s → p (O i) = p (O j) → i = j := fun i j hi hj he => by
    by_cases ei : i = 0
    · by_cases ej : j = 0
      · omega
      · have := hpk j (by omega) hj
        rw [← he, ei, hp0'] at this
        omega
    · by_cases ej : j = 0
      · have := hpk i (by omega) hi
        rw [he, ej, hp0'] at this
        omega
      · exact hOi i j hi hj (hinj _ _ (hO1 i (by omega) hi) (hOn i hi) (hO1 j (by omega) hj) (hOn j hj) he (hpO' i hi))
  -- every far column's distance
  have hwle : ∀ c, 1 ≤ c → c ≤ n → (∀ i, i ≤ s → O i ≠ c) → ∀ i, i ≤ s → w' c ≤ a (p (O i)) c - u (p (O i)) - v c := by
    intro c h1 h2 h3 i hi
    by_cases e : i = s
    · subst e
      rcases hw c h1 h2 h3 with ⟨g1, -, -⟩ | ⟨-, g1, -, g2⟩ <;> omega
    · have hs : 0 < s := by omega
      have g := (hun hs c h1 h2 (fun i hi => h3 i (by omega))).2 i (by omega)
      rcases hw c h1 h2 h3 with ⟨g1, -, g2⟩ | ⟨-, g1, -, g2⟩
      · have := g2 hs
        omega
      · omega
  have hwis : ∀ c, 1 ≤ c → c ≤ n → (∀ i, i ≤ s → O i ≠ c) → ∃ j, j ≤ s ∧ cf' c = O j ∧ w' c = a (p (O j)) c - u (p (O j)) - v c := by
    intro c h1 h2 h3
    rcases hw c h1 h2 h3 with ⟨g1, g2, -⟩ | ⟨g0, g1, g2, -⟩
    · exact ⟨s, Nat.le_refl _, g2, g1⟩
    · obtain ⟨j, q1, q2, q3⟩ := (hun g0 c h1 h2 (fun i hi => h3 i (by omega))).1
      exact ⟨j, by omega, by rw [g2, q2], by rw [g1, q3]⟩
  -- how far it goes
  have hd0 : 0 < s → 0 ≤ w' y := by
    intro hs
    obtain ⟨j, q1, -, q3⟩ := hwis y hy1 hyn hyO
    by_cases e : j = 0
    · have := (hz1 hs).1 y hy1 hyn
      rw [e, hp0'] at q3
      omega
    · have := hf (p (O j)) y (Nat.pos_of_ne_zero (hpO' j q1)) (hpk j (by omega) q1) hy1 hyn
      omega
  have hs1 : ∀ j, 1 ≤ j → (∃ i, i ≤ s ∧ O i = j) → 0 < s := by
    rintro j hj ⟨i, hi, e⟩
    by_cases e0 : i = 0
    · rw [e0, hO0] at e
      omega
    · omega
  have hT : u' (k + 1) = u (k + 1) + w' y := by
    have := hu.1 0 (Nat.zero_le _)
    rw [hp0'] at this
    exact this
  have hdT : -172944030000 ≤ u (k + 1) + w' y := by
    by_cases hs : 0 < s
    · have := (hz1 hs).2.1
      have := hd0 hs
      omega
    · have hs : s = 0 := by omega
      subst hs
      obtain ⟨j, q1, -, q3⟩ := hwis y hy1 hyn hyO
      have e : j = 0 := by omega
      rw [e, hp0'] at q3
      have := hA (k + 1) y (by omega) (by omega) hy1 hyn
      have := (hvn y hy1 hyn).1
      omega
  have hub : ∀ i, u' i = u i ∨ (u' i = u i + w' y ∧ ∃ t, t ≤ s ∧ p (O t) = i) := by
    intro i
    by_cases e : ∃ t, t ≤ s ∧ p (O t) = i
    · obtain ⟨t, ht, e⟩ := e
      exact Or.inr ⟨by rw [← e]; exact hu.1 t ht, t, ht, e⟩
    · exact Or.inl (hu.2 i (fun t ht z => e ⟨t, ht, z⟩))
  have hvb : ∀ c, c ≤ n → (v' c = v c ∧ ∀ i, i ≤ s → O i ≠ c) ∨ (v' c = v c - w' y ∧ ∃ t, t ≤ s ∧ O t = c) := by
    intro c hc
    by_cases e : ∃ t, t ≤ s ∧ O t = c
    · obtain ⟨t, ht, e⟩ := e
      exact Or.inr ⟨by rw [← e]; exact hv.1 t ht, t, ht, e⟩
    · exact Or.inl ⟨hv.2 c hc (fun t ht z => e ⟨t, ht, z⟩), fun t ht z => e ⟨t, ht, z⟩⟩
  have hF' : h_F n k a u' v' p := by
    refine ⟨fun i j h1 h2 h3 h4 => ?_, fun j h1 h2 h3 => ?_, fun j h1 h2 => ?_, hinj, hall⟩
    · have f0 := hf i j h1 h2 h3 h4
      rcases hvb j h4 with ⟨e1, e2⟩ | ⟨e1, t, ht, e2⟩
      · rcases hub i with e3 | ⟨e3, t, ht, e4⟩
        · omega
        · have g1 := hwle j h3 h4 e2 t ht
          have g2 := hyw j h3 h4 e2
          rw [e4] at g1
          omega
      · have hs := hs1 j h3 ⟨t, ht, e2⟩
        have := hd0 hs
        rcases hub i with e3 | ⟨e3, -⟩ <;> omega
    · obtain ⟨g1, g2⟩ := htt j h1 h2 h3
      refine ⟨g1, ?_⟩
      rcases hvb j h2 with ⟨e1, e2⟩ | ⟨e1, t, ht, e2⟩
      · rcases hub (p j) with e3 | ⟨e3, t, ht, e4⟩
        · omega
        · exfalso
          by_cases e : t = 0
          · rw [e, hp0'] at e4
            omega
          · exact e2 t ht (hinj _ _ (hO1 t (by omega) ht) (hOn t ht) h1 h2 e4 (hpO' t ht))
      · have := hu.1 t ht
        rw [e2] at this
        omega
    · obtain ⟨g1, g2⟩ := hvn j h1 h2
      rcases hvb j h2 with ⟨e1, e2⟩ | ⟨e1, t, ht, e2⟩
      · exact ⟨by omega, fun z => by rw [e1]; exact g2 z⟩
      · have := hd0 (hs1 j h1 ⟨t, ht, e2⟩)
        exact ⟨by omega, fun z => absurd z (by rw [← e2]; exact hpO' t ht)⟩
  have hO' : ∀ i, i ≤ s → (fun i => if i = s + 1 then y else O i) i = O i := fun i hi => if_neg (show ¬ i = s + 1 by omega)
  have hOs : (fun i => if i = s + 1 then y else O i) (s + 1) = y := if_pos rfl
  refine ⟨⟨?_, hp0, fun i hi => ?_, fun i j hi hj he => ?_⟩, fun i hi => ?_, fun i h1 hi => ?_, fun _ c h1 h2 h3 => ?_, hF', fun z => absurd z (Nat.succ_ne_zero _), fun _ => ⟨fun j h1 h2 => ?_, by omega, fun j h1 h2 => ?_, fun i h1 h2 => ?_⟩⟩
  · rw [hO' 0 (Nat.zero_le _)]; exact hO0
  · by_cases e : i = s + 1
    · rw [e, hOs]; exact hyn
    · rw [hO' i (by omega)]; exact hOn i (by omega)
  · by_cases e : i = s + 1
    · by_cases e2 : j = s + 1
      · omega
      · rw [e, hOs, hO' j (by omega)] at he
        exact absurd he.symm (hyO j (by omega))
    · by_cases e2 : j = s + 1
      · rw [e2, hOs, hO' i (by omega)] at he
        exact absurd he (hyO i (by omega))
      · rw [hO' i (by omega), hO' j (by omega)] at he
        exact hOi i j (by omega) (by omega) he
  · rw [hO' i (by omega)]; exact hpO' i (by omega)
  · by_cases e : i = s + 1
    · obtain ⟨j, q1, q2, q3⟩ := hwis y hy1 hyn hyO
      refine ⟨j, by omega, ?_, ?_⟩
      · rw [e, hOs, hO' j q1]; exact q2
      · rw [e, hOs, hO' j q1]
        have g1 := hu.1 j q1
        have g2 := hv.2 y hyn hyO
        omega
    · obtain ⟨j, q1, q2, q3⟩ := hch i h1 (by omega)
      refine ⟨j, q1, ?_, ?_⟩
      · rw [hO' i (by omega), hO' j (by omega), hcf i (by omega)]; exact q2
      · rw [hO' i (by omega), hO' j (by omega)]
        have g1 := hu.1 j (by omega)
        have g2 := hv.1 i (by omega)
        omega
  · have h4 : ∀ i, i ≤ s → O i ≠ c := fun i hi => by
      have := h3 i (by omega)
      rw [hO' i hi] at this
      exact this
    have g2 := hv.2 c h2 h4
    have g3 := hw2 c h1 h2 h4
    obtain ⟨j, q1, q2, q3⟩ := hwis c h1 h2 h4
    refine ⟨⟨j, by omega, ?_, ?_⟩, fun j hj => ?_⟩
    · rw [hO' j q1]; exact q2
    · rw [hO' j q1]
      have g1 := hu.1 j q1
      omega
    · rw [hO' j (by omega)]
      have g1 := hu.1 j (by omega)
      have g4 := hwle c h1 h2 h4 j (by omega)
      omega
  · rw [hT]
    rcases hvb j h2 with ⟨e1, e2⟩ | ⟨e1, t, ht, e2⟩
    · have g1 := hwle j h1 h2 e2 0 (Nat.zero_le _)
      have g2 := hyw j h1 h2 e2
      rw [hp0'] at g1
      omega
    · have := (hz1 (hs1 j h1 ⟨t, ht, e2⟩)).1 j h1 h2
      omega
  · rw [hT]
    by_cases hs : 0 < s
    · have g1 := (hz1 hs).2.2.1 j h1 h2
      have g2 := hd0 hs
      rcases hvb j h2 with ⟨e1, -⟩ | ⟨e1, -⟩ <;> omega
    · have g1 := (hz0 (by omega)).2.1 j h1 h2
      rcases hvb j h2 with ⟨e1, -⟩ | ⟨e1, t, ht, e2⟩
      · omega
      · exact absurd (hs1 j h1 ⟨t, ht, e2⟩) hs
  · rw [hT]
    by_cases hs : 0 < s
    · have g1 := (hz1 hs).2.2.2 i h1 h2
      have g2 := hd0 hs
      rcases hub i with e1 | ⟨e1, -⟩ <;> omega
    · have g1 := (hz0 (by omega)).2.2 i h1 h2
      rcases hub i with e1 | ⟨e1, t, ht, e2⟩
      · omega
      · have e0 : t = 0 := by omega
        rw [e0, hp0'] at e2
        omega
/-- how many columns are reached -/
theorem h_few {n k s : Nat} {a : Nat → Nat → Int} {u v w : Nat → Int} {p cf O : Nat → Nat} (hG : h_G n k a u v w p cf O s) : s ≤ n := by
  have := h_pig (n + 1) (s + 1) O (fun j hj => ?_) (fun i j hi hj he => hG.1.2.2.2 i j (by omega) (by omega) he)
  · omega
  · have := hG.1.2.2.1 j (by omega)
    omega
/-- how large all that is computed may be -/
theorem h_big {n k s : Nat} {a : Nat → Nat → Int} {u v w : Nat → Int} {p cf O : Nat → Nat} (hk : k < n) (h8 : k < 8) (hA : h_A n (k + 1) a) (hG : h_G n k a u v w p cf O s) : (∀ j, 1 ≤ j → j ≤ n → -3112992540000 ≤ v j ∧ v j ≤ 0) ∧ (∀ i, 1 ≤ i → i ≤ k + 1 → -172944030000 ≤ u i ∧ u i ≤ 3285936570000) := by
  obtain ⟨f, f1, f2, f3⟩ := h_free hG.2.2.2.2.1 hk
  have hvf := (hG.2.2.2.2.1.2.2.1 f f1 f2).2 f3
  have haf := hA (k + 1) f (by omega) (by omega) f1 f2
  obtain ⟨-, -, -, -, hF, hz0, hz1⟩ := hG
  by_cases hs : s = 0
  · obtain ⟨g0, g1, g2⟩ := hz0 hs
    refine ⟨fun j h1 h2 => ?_, fun i h1 h2 => ?_⟩
    · have := g1 j h1 h2
      have := (hF.2.2.1 j h1 h2).1
      omega
    · by_cases e : i = k + 1
      · rw [e, g0]; omega
      · have := g2 i h1 (by omega)
        omega
  · obtain ⟨g0, g3, g1, g2⟩ := hz1 (by omega)
    have := g0 f f1 f2
    refine ⟨fun j h1 h2 => ?_, fun i h1 h2 => ?_⟩
    · have := g1 j h1 h2
      have := (hF.2.2.1 j h1 h2).1
      omega
    · by_cases e : i = k + 1
      · rw [e]; omega
      · have := g2 i h1 (by omega)
        omega
/-- the rows move along the way: x stands at O i -/
def h_Q (n k : Nat) (a : Nat → Nat → Int) (u v : Nat → Int) (p cf O p' : Nat → Nat) (i : Nat) : Prop :=
  (∀ j, j < i → p' (O j) = p (O j)) ∧
  (∀ j, 1 ≤ j → j ≤ n → j ≠ O i → p' j ≠ 0 → p' j ≤ k + 1 ∧ a (p' j) j = u (p' j) + v j) ∧
  (∀ j, 1 ≤ j → j ≤ n → j ≠ O i → p' j = 0 → v j = 0) ∧
  (∀ j j', 1 ≤ j → j ≤ n → 1 ≤ j' → j' ≤ n → j ≠ O i → j' ≠ O i → p' j = p' j' → p' j ≠ 0 → j = j') ∧
  (∀ r, 1 ≤ r → r ≤ k → ∃ j, 1 ≤ j ∧ j ≤ n ∧ j ≠ O i ∧ p' j = r) ∧
  (1 ≤ i → ∀ j, 1 ≤ j → j ≤ n → j ≠ O i → p' j ≠ k + 1) ∧
  (i = 0 → ∃ j, 1 ≤ j ∧ j ≤ n ∧ p' j = k + 1)
theorem h_move {n k s i j : Nat} {a : Nat → Nat → Int} {u v w : Nat → Int} {p cf O p' : Nat → Nat} (hG : h_G n k a u v w p cf O s) (hi : i ≤ s) (hji : j < i) (hQ : h_Q n k a u v p cf O p' i) (ht : a (p (O j)) (O i) = u (p (O j)) + v (O i)) : h_Q n k a u v p cf O (fun c => if c = O i then p' (O j) else p' c) j := by
  obtain ⟨⟨hO0, hp0, hOn, hOi⟩, hpO, -, -, ⟨hf, htt, hvn, hinj, hall⟩, -⟩ := hG
  obtain ⟨q1, q2, q3, q4, q5, q6, q7⟩ := hQ
  have hr : p' (O j) = p (O j) := q1 j hji
  have hr0 : p (O j) ≠ 0 := hpO j (by omega)
  have hij : O j ≠ O i := fun e => by
    have := hOi j i (by omega) hi e
    omega
  have hO1 : ∀ i, 1 ≤ i → i ≤ s → 1 ≤ O i := fun i h1 h2 => by
    by_cases e : O i = 0
    · have := hOi i 0 h2 (by omega) (by rw [e, hO0])
      omega
    · omega
  have hrk : 1 ≤ j → p (O j) ≤ k := fun h => (htt (O j) (hO1 j h (by omega)) (hOn j (by omega)) hr0).1
  have hr1 : p (O j) ≤ k + 1 := by
    by_cases e : j = 0
    · rw [e, hO0, hp0]; exact Nat.le_refl _
    · have := hrk (by omega)
      omega
  have pi : (fun c => if c = O i then p' (O j) else p' c) (O i) = p (O j) := by
    dsimp only
    rw [if_pos rfl, hr]
  have pn : ∀ c, c ≠ O i → (fun c => if c = O i then p' (O j) else p' c) c = p' c := fun c hc => if_neg hc
  refine ⟨fun t h => ?_, fun c h1 h2 h3 h4 => ?_, fun c h1 h2 h3 h4 => ?_, fun c c' h1 h2 h3 h4 h5 h6 h7 h8 => ?_, fun r h1 h2 => ?_, fun h0 c h1 h2 h3 => ?_, fun h0 => ?_⟩
  · rw [pn _ (fun e => by
      have := hOi t i (by omega) hi e
      omega)]
    exact q1 t (by omega)
  · by_cases e : c = O i
    · subst e
      rw [pi]
      exact ⟨hr1, ht⟩
    · rw [pn c e] at h4 ⊢
      exact q2 c h1 h2 e h4
  · by_cases e : c = O i
    · subst e
      rw [pi] at h4
      exact absurd h4 hr0
    · rw [pn c e] at h4
      exact q3 c h1 h2 e h4
  · have key : ∀ c, 1 ≤ c → c ≤ n → c ≠ O j → c ≠ O i → p' c ≠ p (O j) := by
      intro c g1 g2 g3 g4 g5
      by_cases e : j = 0
      · rw [e, hO0, hp0] at g5
        exact q6 (by omega) c g1 g2 g4 g5
      · refine g3 (q4 c (O j) g1 g2 (hO1 j (by omega) (by omega)) (hOn j (by omega)) g4 hij (by rw [g5, hr]) (by rw [g5]; exact hr0))
    by_cases e : c = O i
    · by_cases e2 : c' = O i
      · rw [e, e2]
      · subst e
        rw [pi, pn c' e2] at h7
        exact absurd h7.symm (key c' h3 h4 h6 e2)
    · by_cases e2 : c' = O i
      · subst e2
        rw [pi, pn c e] at h7
        exact absurd h7 (key c h1 h2 h5 e)
      · rw [pn c e, pn c' e2] at h7
        rw [pn c e] at h8
        exact q4 c c' h1 h2 h3 h4 e e2 h7 h8
  · obtain ⟨c, g1, g2, g3, g4⟩ := q5 r h1 h2
    by_cases e : c = O j
    · refine ⟨O i, hO1 i (by omega) hi, hOn i hi, fun z => hij z.symm, ?_⟩
      rw [pi, ← hr, ← e]
      exact g4
    · exact ⟨c, g1, g2, e, by rw [pn c g3]; exact g4⟩
  · by_cases e : c = O i
    · subst e
      rw [pi]
      have := hrk h0
      omega
    · rw [pn c e]
      exact q6 (by omega) c h1 h2 e
  · refine ⟨O i, hO1 i (by omega) hi, hOn i hi, ?_⟩
    rw [pi, h0, hO0]
    exact hp0
theorem h_first {n k s : Nat} {a : Nat → Nat → Int} {u v w : Nat → Int} {p cf O : Nat → Nat} (hG : h_G n k a u v w p cf O s) (h0 : p (O s) = 0) : 0 < s ∧ h_Q n k a u v p cf O p s := by
  obtain ⟨⟨hO0, hp0, hOn, hOi⟩, hpO, -, -, ⟨hf, htt, hvn, hinj, hall⟩, -⟩ := hG
  have hs : 0 < s := by
    refine Nat.pos_of_ne_zero (fun e => ?_)
    rw [e, hO0, hp0] at h0
    omega
  refine ⟨hs, fun _ _ => rfl, fun j h1 h2 h3 h4 => ?_, fun j h1 h2 h3 h4 => (hvn j h1 h2).2 h4, fun j j' h1 h2 h3 h4 h5 h6 h7 h8 => hinj j j' h1 h2 h3 h4 h7 h8, fun r h1 h2 => ?_, fun _ j h1 h2 h3 h4 => ?_, fun e => by omega⟩
  · obtain ⟨g1, g2⟩ := htt j h1 h2 h4
    exact ⟨by omega, g2⟩
  · obtain ⟨j, g1, g2, g3⟩ := hall r h1 h2
    refine ⟨j, g1, g2, fun e => ?_, g3⟩
    rw [← e, g3] at h0
    omega
  · have := (htt j h1 h2 (by omega)).1
    omega
/-- between two searches -/
def h_I (n k : Nat) (a : Nat → Nat → Int) (u v : Nat → Int) (p : Nat → Nat) : Prop := h_F n k a u v p ∧ h_Z n k u v 0
theorem h_last {n k s : Nat} {a : Nat → Nat → Int} {u v w : Nat → Int} {p cf O p' : Nat → Nat} (hk : k < n) (hA : h_A n (k + 1) a) (hs : 0 < s) (hG : h_G n k a u v w p cf O s) (hQ : h_Q n k a u v p cf O p' 0) : h_I n (k + 1) a u v p' := by
  obtain ⟨f, f1, f2, f3⟩ := h_free hG.2.2.2.2.1 hk
  have hvf := (hG.2.2.2.2.1.2.2.1 f f1 f2).2 f3
  have haf := hA (k + 1) f (by omega) (by omega) f1 f2
  obtain ⟨⟨hO0, hp0, hOn, hOi⟩, hpO, -, -, ⟨hf, htt, hvn, hinj, hall⟩, -, hz1⟩ := hG
  obtain ⟨q1, q2, q3, q4, q5, q6, q7⟩ := hQ
  obtain ⟨g0, g3, g1, g2⟩ := hz1 hs
  have gf := g0 f f1 f2
  have ne : ∀ j, 1 ≤ j → j ≠ O 0 := fun j h => by rw [hO0]; omega
  refine ⟨⟨fun i j h1 h2 h3 h4 => ?_, fun j h1 h2 h3 => q2 j h1 h2 (ne j h1) h3, fun j h1 h2 => ⟨(hvn j h1 h2).1, q3 j h1 h2 (ne j h1)⟩, fun i j h1 h2 h3 h4 h5 h6 => q4 i j h1 h2 h3 h4 (ne i h1) (ne j h3) h5 h6, fun i h1 h2 => ?_⟩, fun j h1 h2 => ?_, fun i h1 h2 => ?_⟩
  · by_cases e : i = k + 1
    · subst e
      exact g0 j h3 h4
    · exact hf i j h1 (by omega) h3 h4
  · by_cases e : i = k + 1
    · subst e
      exact q7 rfl
    · obtain ⟨j, r1, r2, -, r3⟩ := q5 i h1 (by omega)
      exact ⟨j, r1, r2, r3⟩
  · have := g1 j h1 h2
    omega
  · by_cases e : i = k + 1
    · subst e
      omega
    · have := g2 i h1 (by omega)
      omega
theorem h_start {n k : Nat} {a : Nat → Nat → Int} {u v w : Nat → Int} {p cf : Nat → Nat} (h : h_I n k a u v p) (h0 : p 0 = k + 1) (hu : u (k + 1) = 0) : h_G n k a u v w p cf (fun _ => 0) 0 := by
  refine ⟨⟨rfl, h0, fun i hi => Nat.zero_le _, fun i j hi hj _ => by omega⟩, fun i hi => absurd hi (Nat.not_lt_zero _), fun i h1 h2 => by omega, fun z => absurd z (Nat.lt_irrefl 0), h.1, fun _ => ⟨hu, h.2⟩, fun z => absurd z (Nat.lt_irrefl 0)⟩
def k_X5_addRow : eg_C := ([(0, .aload_n 0, 1), (1, .getfield 39, 3), (4, .ldc2_w 59, 3), (7, .invokestatic 46, 3), (10, .iconst 0, 1), (11, .istore_n 2, 1), (12, .iload_n 2, 1), (13, .aload_n 0, 1), (14, .getfield 22, 3), (17, .if_icmp .gt 16, 3), (20, .aload_n 0, 1), (21, .getfield 42, 3), (24, .iload_n 2, 1), (25, .iconst 0, 1), (26, .bastore, 1), (27, .iinc 2 1, 3), (30, .goto (-18), 3), (33, .aload_n 0, 1), (34, .getfield 33, 3), (37, .iconst 0, 1), (38, .iload_n 1, 1), (39, .iastore, 1), (40, .iconst 0, 1), (41, .istore_n 2, 1), (42, .iconst 0, 1), (43, .istore_n 3, 1), (44, .iload_n 3, 1), (45, .aload_n 0, 1), (46, .getfield 22, 3), (49, .if_icmp .gt 50, 3), (52, .aload_n 0, 1), (53, .getfield 33, 3), (56, .iload_n 2, 1), (57, .iaload, 1), (58, .ifCond .eq 41, 3), (61, .aload_n 0, 1), (62, .getfield 42, 3), (65, .iload_n 2, 1), (66, .iconst 1, 1), (67, .bastore, 1), (68, .aload_n 0, 1), (69, .iload_n 2, 1), (70, .invokevirtual 61, 3), (73, .aload_n 0, 1), (74, .invokevirtual 64, 3), (77, .istore 4, 2), (79, .aload_n 0, 1), (80, .aload_n 0, 1), (81, .getfield 39, 3), (84, .iload 4, 2), (86, .laload, 1), (87, .invokevirtual 68, 3), (90, .iload 4, 2), (92, .istore_n 2, 1), (93, .iinc 3 1, 3), (96, .goto (-52), 3), (99, .iconst 0, 1), (100, .istore_n 3, 1), (101, .iload_n 3, 1), (102, .aload_n 0, 1), (103, .getfield 22, 3), (106, .if_icmp .gt 37, 3), (109, .iload_n 2, 1), (110, .ifCond .eq 33, 3), (113, .aload_n 0, 1), (114, .getfield 33, 3), (117, .iload_n 2, 1), (118, .aload_n 0, 1), (119, .getfield 33, 3), (122, .aload_n 0, 1), (123, .getfield 36, 3), (126, .iload_n 2, 1), (127, .iaload, 1), (128, .iaload, 1), (129, .iastore, 1), (130, .aload_n 0, 1), (131, .getfield 36, 3), (134, .iload_n 2, 1), (135, .iaload, 1), (136, .istore_n 2, 1), (137, .iinc 3 1, 3), (140, .goto (-39), 3), (143, .return_, 1)], [(22, 5, 2, false), (33, 5, 5, false), (36, 5, 6, false), (39, 5, 7, false), (42, 5, 8, false)], [(59, .long (lN 1152921504606846976))], [(46 + 100000, 2, 0, 0, s_J7_fill_d0a16), (61, 1 + 1, 0, 0, s_X5_lookFrom), (64, 0 + 1, 0, 0, s_X5_nearest), (68, 1 + 1, 0, 0, s_X5_moveBy)], [], 0, 0, 0)
theorem mk_X5_addRow : ∀ q ∈ k_X5_addRow.2.2.2.1, eg_mono q.2.2.2.2 := (fc (mo_J7_fill_d0a16) (fc (mo_X5_lookFrom) (fc (mo_X5_nearest) (fc (mo_X5_moveBy) (fn)))))
set_option maxRecDepth 100000 in
theorem st_X5_addRow_0 {Qp : eg_P} {M : eg_M} (a : Int32)
  (l0 : eg_T wd k_X5_addRow Qp 12 0 0 [some (.ref 55), some (.int a), some (.int (nI 0)), none, none] [] (eg_fL M 70 33 (lN 1152921504606846976))) :
  eg_T wd k_X5_addRow Qp 0 0 0 [some (.ref 55), some (.int a), none, none, none] [] M := by
  refine eg_T_run mk_X5_addRow (cut := [12, 44, 77, 90, 101]) 86 ?_
  refine And.intro (show 33 < 2 ^ 31 by decide) ?_
  show eg_T wd k_X5_addRow Qp 12 0 0 [some (.ref 55), some (.int a), some (.int (nI 0)), none, none] [] (eg_fL M 70 33 (lN 1152921504606846976))
  exact l0

set_option maxRecDepth 100000 in
theorem st_X5_addRow_12 {Qp : eg_P} {M : eg_M} (a : Int32) (x2 : Int32) (o3 : Option Value) (o4 : Option Value)
  (g0 : (¬ ((eg_gi M 55 2) < x2)) → (vp_in x2 33))
  (l0 : ((eg_gi M 55 2) < x2) → eg_T wd k_X5_addRow Qp 44 0 0 [some (.ref 55), some (.int a), some (.int (nI 0)), some (.int (nI 0)), o4] [] (eg_si M 68 (nI 0).toNatClampNeg a))
  (l1 : (¬ (eg_gi M 55 2) < x2) → eg_T wd k_X5_addRow Qp 12 0 0 [some (.ref 55), some (.int a), some (.int (x2 + (nI 1))), o3, o4] [] (eg_si M 71 x2.toNatClampNeg (nI 0))) :
  eg_T wd k_X5_addRow Qp 12 0 0 [some (.ref 55), some (.int a), some (.int x2), o3, o4] [] M := by
  refine eg_T_run mk_X5_addRow (cut := [12, 44, 77, 90, 101]) 86 ?_
  refine And.intro (fun (c1 : (eg_gi M 55 2) < x2) => ?_) (fun (c1 : ¬ (eg_gi M 55 2) < x2) => ?_)
  · skip
    refine And.intro (show vp_in (nI 0) 33 from ?_) ?_
    · exact vp_in_nI (by decide) (by decide)
    show eg_T wd k_X5_addRow Qp 44 0 0 [some (.ref 55), some (.int a), some (.int (nI 0)), some (.int (nI 0)), o4] [] (eg_si M 68 (nI 0).toNatClampNeg a)
    exact l0 c1
  · skip
    refine And.intro (show vp_in x2 33 from ?_) ?_
    · exact g0 c1
    refine And.intro (show (nI 0) = 0 ∨ (nI 0) = 1 from ?_) ?_
    · exact Or.inl rfl
    show eg_T wd k_X5_addRow Qp 12 0 0 [some (.ref 55), some (.int a), some (.int (x2 + (nI 1))), o3, o4] [] (eg_si M 71 x2.toNatClampNeg (nI 0))
    exact l1 c1

set_option maxRecDepth 100000 in
theorem st_X5_addRow_44 {Qp : eg_P} {M : eg_M} (a : Int32) (x2 : Int32) (x3 : Int32) (o4 : Option Value)
  (g0 : (¬ ((eg_gi M 55 2) < x3)) → (vp_in x2 33))
  (g1 : (¬ ((eg_gi M 55 2) < x3)) → (¬ ((eg_gi M 68 x2.toNatClampNeg) = 0)) → (vp_in x2 33 ∧ eg_cn (eg_gi (eg_si M 71 x2.toNatClampNeg (nI 1)) 55 2) 32 ∧ (∃ r, 1 ≤ r ∧ r ≤ 8 ∧ eg_gi (eg_si M 71 x2.toNatClampNeg (nI 1)) 68 x2.toNatClampNeg = nI r) ∧ ∀ c, 1 ≤ c → c ≤ (eg_gi (eg_si M 71 x2.toNatClampNeg (nI 1)) 55 2).toNatClampNeg → vp_in (eg_gi (eg_si M 71 x2.toNatClampNeg (nI 1)) 65 c) 7))
  (g2 : (¬ ((eg_gi M 55 2) < x3)) → (¬ ((eg_gi M 68 x2.toNatClampNeg) = 0)) → (eg_cn (eg_gi (eg_ri (eg_rl (eg_si M 71 x2.toNatClampNeg (nI 1)) 70 (k_lw (eg_si M 71 x2.toNatClampNeg (nI 1)) (eg_gi (eg_si M 71 x2.toNatClampNeg (nI 1)) 68 x2.toNatClampNeg).toNatClampNeg (eg_gi (eg_si M 71 x2.toNatClampNeg (nI 1)) 55 2).toNatClampNeg)) 69 (k_lc (eg_si M 71 x2.toNatClampNeg (nI 1)) x2 (eg_gi (eg_si M 71 x2.toNatClampNeg (nI 1)) 68 x2.toNatClampNeg).toNatClampNeg (eg_gi (eg_si M 71 x2.toNatClampNeg (nI 1)) 55 2).toNatClampNeg)) 55 2) 32))
  (l0 : ((eg_gi M 55 2) < x3 ∨ (eg_gi M 68 x2.toNatClampNeg) = 0) → eg_T wd k_X5_addRow Qp 101 0 0 [some (.ref 55), some (.int a), some (.int x2), some (.int (nI 0)), o4] [] M)
  (l1 : (¬ (eg_gi M 55 2) < x3 ∧ ¬ (eg_gi M 68 x2.toNatClampNeg) = 0) → ∀ (b_1 : Nat), (k_nr (eg_ri (eg_rl (eg_si M 71 x2.toNatClampNeg (nI 1)) 70 (k_lw (eg_si M 71 x2.toNatClampNeg (nI 1)) (eg_gi (eg_si M 71 x2.toNatClampNeg (nI 1)) 68 x2.toNatClampNeg).toNatClampNeg (eg_gi (eg_si M 71 x2.toNatClampNeg (nI 1)) 55 2).toNatClampNeg)) 69 (k_lc (eg_si M 71 x2.toNatClampNeg (nI 1)) x2 (eg_gi (eg_si M 71 x2.toNatClampNeg (nI 1)) 68 x2.toNatClampNeg).toNatClampNeg (eg_gi (eg_si M 71 x2.toNatClampNeg (nI 1)) 55 2).toNatClampNeg)) (eg_gi (eg_ri (eg_rl (eg_si M 71 x2.toNatClampNeg (nI 1)) 70 (k_lw (eg_si M 71 x2.toNatClampNeg (nI 1)) (eg_gi (eg_si M 71 x2.toNatClampNeg (nI 1)) 68 x2.toNatClampNeg).toNatClampNeg (eg_gi (eg_si M 71 x2.toNatClampNeg (nI 1)) 55 2).toNatClampNeg)) 69 (k_lc (eg_si M 71 x2.toNatClampNeg (nI 1)) x2 (eg_gi (eg_si M 71 x2.toNatClampNeg (nI 1)) 68 x2.toNatClampNeg).toNatClampNeg (eg_gi (eg_si M 71 x2.toNatClampNeg (nI 1)) 55 2).toNatClampNeg)) 55 2).toNatClampNeg b_1) → eg_T wd k_X5_addRow Qp 77 0 0 [some (.ref 55), some (.int a), some (.int x2), some (.int x3), o4] [.int (nI b_1)] (eg_ri (eg_rl (eg_si M 71 x2.toNatClampNeg (nI 1)) 70 (k_lw (eg_si M 71 x2.toNatClampNeg (nI 1)) (eg_gi (eg_si M 71 x2.toNatClampNeg (nI 1)) 68 x2.toNatClampNeg).toNatClampNeg (eg_gi (eg_si M 71 x2.toNatClampNeg (nI 1)) 55 2).toNatClampNeg)) 69 (k_lc (eg_si M 71 x2.toNatClampNeg (nI 1)) x2 (eg_gi (eg_si M 71 x2.toNatClampNeg (nI 1)) 68 x2.toNatClampNeg).toNatClampNeg (eg_gi (eg_si M 71 x2.toNatClampNeg (nI 1)) 55 2).toNatClampNeg))) :
  eg_T wd k_X5_addRow Qp 44 0 0 [some (.ref 55), some (.int a), some (.int x2), some (.int x3), o4] [] M := by
  refine eg_T_run mk_X5_addRow (cut := [12, 44, 77, 90, 101]) 86 ?_
  refine And.intro (fun (c1 : (eg_gi M 55 2) < x3) => ?_) (fun (c1 : ¬ (eg_gi M 55 2) < x3) => ?_)
  · skip
    show eg_T wd k_X5_addRow Qp 101 0 0 [some (.ref 55), some (.int a), some (.int x2), some (.int (nI 0)), o4] [] M
    exact l0 (Or.inl c1)
  · skip
    refine And.intro (show vp_in x2 33 from ?_) ?_
    · exact g0 c1
    refine And.intro (fun (c2 : (eg_gi M 68 x2.toNatClampNeg) = 0) => ?_) (fun (c2 : ¬ (eg_gi M 68 x2.toNatClampNeg) = 0) => ?_)
    · skip
      show eg_T wd k_X5_addRow Qp 101 0 0 [some (.ref 55), some (.int a), some (.int x2), some (.int (nI 0)), o4] [] M
      exact l0 (Or.inr c2)
    · skip
      refine And.intro (show vp_in x2 33 from ?_) ?_
      · exact g0 c1
      refine And.intro (show (nI 1) = 0 ∨ (nI 1) = 1 from ?_) ?_
      · exact Or.inr rfl
      refine And.intro (show (vp_in x2 33 ∧ eg_cn (eg_gi (eg_si M 71 x2.toNatClampNeg (nI 1)) 55 2) 32 ∧ (∃ r, 1 ≤ r ∧ r ≤ 8 ∧ eg_gi (eg_si M 71 x2.toNatClampNeg (nI 1)) 68 x2.toNatClampNeg = nI r) ∧ ∀ c, 1 ≤ c → c ≤ (eg_gi (eg_si M 71 x2.toNatClampNeg (nI 1)) 55 2).toNatClampNeg → vp_in (eg_gi (eg_si M 71 x2.toNatClampNeg (nI 1)) 65 c) 7) from ?_) ?_
      · exact g1 c1 c2
      refine And.intro (show (eg_cn (eg_gi (eg_ri (eg_rl (eg_si M 71 x2.toNatClampNeg (nI 1)) 70 (k_lw (eg_si M 71 x2.toNatClampNeg (nI 1)) (eg_gi (eg_si M 71 x2.toNatClampNeg (nI 1)) 68 x2.toNatClampNeg).toNatClampNeg (eg_gi (eg_si M 71 x2.toNatClampNeg (nI 1)) 55 2).toNatClampNeg)) 69 (k_lc (eg_si M 71 x2.toNatClampNeg (nI 1)) x2 (eg_gi (eg_si M 71 x2.toNatClampNeg (nI 1)) 68 x2.toNatClampNeg).toNatClampNeg (eg_gi (eg_si M 71 x2.toNatClampNeg (nI 1)) 55 2).toNatClampNeg)) 55 2) 32) from ?_) ?_
      · exact g2 c1 c2
      intro b_1 ha_1
      show eg_T wd k_X5_addRow Qp 77 0 0 [some (.ref 55), some (.int a), some (.int x2), some (.int x3), o4] [.int (nI b_1)] (eg_ri (eg_rl (eg_si M 71 x2.toNatClampNeg (nI 1)) 70 (k_lw (eg_si M 71 x2.toNatClampNeg (nI 1)) (eg_gi (eg_si M 71 x2.toNatClampNeg (nI 1)) 68 x2.toNatClampNeg).toNatClampNeg (eg_gi (eg_si M 71 x2.toNatClampNeg (nI 1)) 55 2).toNatClampNeg)) 69 (k_lc (eg_si M 71 x2.toNatClampNeg (nI 1)) x2 (eg_gi (eg_si M 71 x2.toNatClampNeg (nI 1)) 68 x2.toNatClampNeg).toNatClampNeg (eg_gi (eg_si M 71 x2.toNatClampNeg (nI 1)) 55 2).toNatClampNeg))
      exact l1 ⟨c1, c2⟩ b_1 ha_1

set_option maxRecDepth 100000 in
theorem st_X5_addRow_77 {Qp : eg_P} {M : eg_M} (a : Int32) (x2 : Int32) (x3 : Int32) (o4 : Option Value) (s0 : Int32)
  (g0 : (vp_in s0 33))
  (g1 : (eg_cn (eg_gi M 55 2) 32 ∧ (∀ c, c ≤ (eg_gi M 55 2).toNatClampNeg → ¬ eg_gi M 71 c = 0 → vp_in (eg_gi M 68 c) 9) ∧ ∀ c d, c ≤ (eg_gi M 55 2).toNatClampNeg → d ≤ (eg_gi M 55 2).toNatClampNeg → ¬ eg_gi M 71 c = 0 → ¬ eg_gi M 71 d = 0 → (eg_gi M 68 c).toNatClampNeg = (eg_gi M 68 d).toNatClampNeg → c = d))
  (l0 : ∀ (u_1 : Nat → Int64), ((∀ c, c ≤ (eg_gi M 55 2).toNatClampNeg → ¬ eg_gi M 71 c = 0 → u_1 (eg_gi M 68 c).toNatClampNeg = eg_gl M 66 (eg_gi M 68 c).toNatClampNeg + (eg_gl M 70 s0.toNatClampNeg)) ∧ ∀ r, (∀ c, c ≤ (eg_gi M 55 2).toNatClampNeg → ¬ eg_gi M 71 c = 0 → ¬ (eg_gi M 68 c).toNatClampNeg = r) → u_1 r = eg_gl M 66 r) → eg_T wd k_X5_addRow Qp 90 0 0 [some (.ref 55), some (.int a), some (.int x2), some (.int x3), some (.int s0)] [] (eg_rl (eg_rl (eg_rl M 66 u_1) 67 (fun c => if c < (eg_gi M 55 2).toNatClampNeg + 1 ∧ ¬ eg_gi M 71 c = 0 then eg_gl M 67 c - (eg_gl M 70 s0.toNatClampNeg) else eg_gl M 67 c)) 70 (fun c => if c < (eg_gi M 55 2).toNatClampNeg + 1 ∧ eg_gi M 71 c = 0 then eg_gl M 70 c - (eg_gl M 70 s0.toNatClampNeg) else eg_gl M 70 c))) :
  eg_T wd k_X5_addRow Qp 77 0 0 [some (.ref 55), some (.int a), some (.int x2), some (.int x3), o4] [.int s0] M := by
  refine eg_T_run mk_X5_addRow (cut := [12, 44, 77, 90, 101]) 86 ?_
  refine And.intro (show vp_in s0 33 from ?_) ?_
  · exact g0
  refine And.intro (show (eg_cn (eg_gi M 55 2) 32 ∧ (∀ c, c ≤ (eg_gi M 55 2).toNatClampNeg → ¬ eg_gi M 71 c = 0 → vp_in (eg_gi M 68 c) 9) ∧ ∀ c d, c ≤ (eg_gi M 55 2).toNatClampNeg → d ≤ (eg_gi M 55 2).toNatClampNeg → ¬ eg_gi M 71 c = 0 → ¬ eg_gi M 71 d = 0 → (eg_gi M 68 c).toNatClampNeg = (eg_gi M 68 d).toNatClampNeg → c = d) from ?_) ?_
  · exact g1
  intro u_1 ha_1
  show eg_T wd k_X5_addRow Qp 90 0 0 [some (.ref 55), some (.int a), some (.int x2), some (.int x3), some (.int s0)] [] (eg_rl (eg_rl (eg_rl M 66 u_1) 67 (fun c => if c < (eg_gi M 55 2).toNatClampNeg + 1 ∧ ¬ eg_gi M 71 c = 0 then eg_gl M 67 c - (eg_gl M 70 s0.toNatClampNeg) else eg_gl M 67 c)) 70 (fun c => if c < (eg_gi M 55 2).toNatClampNeg + 1 ∧ eg_gi M 71 c = 0 then eg_gl M 70 c - (eg_gl M 70 s0.toNatClampNeg) else eg_gl M 70 c))
  exact l0 u_1 ha_1

set_option maxRecDepth 100000 in
theorem st_X5_addRow_90 {Qp : eg_P} {M : eg_M} (a : Int32) (x2 : Int32) (x3 : Int32) (x4 : Int32)
  (l0 : eg_T wd k_X5_addRow Qp 44 0 0 [some (.ref 55), some (.int a), some (.int x4), some (.int (x3 + (nI 1))), some (.int x4)] [] M) :
  eg_T wd k_X5_addRow Qp 90 0 0 [some (.ref 55), some (.int a), some (.int x2), some (.int x3), some (.int x4)] [] M := by
  refine eg_T_run mk_X5_addRow (cut := [12, 44, 77, 90, 101]) 86 ?_
  show eg_T wd k_X5_addRow Qp 44 0 0 [some (.ref 55), some (.int a), some (.int x4), some (.int (x3 + (nI 1))), some (.int x4)] [] M
  exact l0

set_option maxRecDepth 100000 in
theorem st_X5_addRow_101 {Qp : eg_P} {M : eg_M} (a : Int32) (x2 : Int32) (x3 : Int32) (o4 : Option Value)
  (g0 : (¬ ((eg_gi M 55 2) < x3)) → (¬ (x2 = 0)) → (vp_in x2 33))
  (g1 : (¬ ((eg_gi M 55 2) < x3)) → (¬ (x2 = 0)) → (vp_in (eg_gi M 69 x2.toNatClampNeg) 33))
  (l0 : ((eg_gi M 55 2) < x3 ∨ x2 = 0) → Qp (.inl none) M)
  (l1 : (¬ (eg_gi M 55 2) < x3 ∧ ¬ x2 = 0) → eg_T wd k_X5_addRow Qp 101 0 0 [some (.ref 55), some (.int a), some (.int (eg_gi M 69 x2.toNatClampNeg)), some (.int (x3 + (nI 1))), o4] [] (eg_si M 68 x2.toNatClampNeg (eg_gi M 68 (eg_gi M 69 x2.toNatClampNeg).toNatClampNeg))) :
  eg_T wd k_X5_addRow Qp 101 0 0 [some (.ref 55), some (.int a), some (.int x2), some (.int x3), o4] [] M := by
  refine eg_T_run mk_X5_addRow (cut := [12, 44, 77, 90, 101]) 86 ?_
  refine And.intro (fun (c1 : (eg_gi M 55 2) < x3) => ?_) (fun (c1 : ¬ (eg_gi M 55 2) < x3) => ?_)
  · skip
    show Qp (.inl none) M
    exact l0 (Or.inl c1)
  · skip
    refine And.intro (fun (c2 : x2 = 0) => ?_) (fun (c2 : ¬ x2 = 0) => ?_)
    · skip
      show Qp (.inl none) M
      exact l0 (Or.inr c2)
    · skip
      refine And.intro (show vp_in x2 33 from ?_) ?_
      · exact g0 c1 c2
      refine And.intro (show vp_in (eg_gi M 69 x2.toNatClampNeg) 33 from ?_) ?_
      · exact g1 c1 c2
      refine And.intro (show vp_in x2 33 from ?_) ?_
      · exact g0 c1 c2
      refine And.intro (show vp_in x2 33 from ?_) ?_
      · exact g0 c1 c2
      show eg_T wd k_X5_addRow Qp 101 0 0 [some (.ref 55), some (.int a), some (.int (eg_gi M 69 x2.toNatClampNeg)), some (.int (x3 + (nI 1))), o4] [] (eg_si M 68 x2.toNatClampNeg (eg_gi M 68 (eg_gi M 69 x2.toNatClampNeg).toNatClampNeg))
      exact l1 ⟨c1, c2⟩

def s_X5_addRow : eg_S := fun argv M Qp => match argv with
  | [.ref 55, .int a] => (True) ∧ ∀ (r : Nat), (True) → Qp (.inl none) M
  | _ => False
theorem mo_X5_addRow : eg_mono s_X5_addRow := by
  intro argv M Q Q' h
  unfold s_X5_addRow
  split
  · exact fun z => ⟨z.1, fun r y => h _ _ (z.2 r y)⟩
  · exact id
theorem sz_X5_addRow : ∀ argv M Qp, s_X5_addRow argv M Qp → (eg_ls0 argv).length ≤ 5 := by
  intro argv M Qp h
  unfold s_X5_addRow at h
  split at h
  · exact Nat.le_of_ble_eq_true rfl
  · exact h.elim
theorem sr_X5_addRow : ∀ argv M Qp, s_X5_addRow argv M Qp → ∃ p0 As, argv = .ref p0 :: As ∧ eg_isO wd M p0 5 = true := by
  intro argv M Qp h
  unfold s_X5_addRow at h
  split at h
  · exact ⟨_, _, rfl, rfl⟩
  · exact h.elim
set_option maxRecDepth 100000 in
set_option maxHeartbeats 1000000 in
theorem T_X5_addRow {argv : List Value} {M : eg_M} {Qp : eg_P} (h : s_X5_addRow argv M Qp) : eg_T wd k_X5_addRow Qp 0 0 0 (eg_lsN 5 argv) [] M := by
  unfold s_X5_addRow at h
  split at h
  · rename_i a
    obtain ⟨hp, hq⟩ := h
    sorry
    
  · exact h.elim
theorem de_X5_addRow : ∀ q ∈ k_X5_addRow.1, decode cX5_addRow q.1 = .ok q.2 := by decide +kernel
theorem me_X5_addRow (g : gl_T) : MT g yX5_addRow cX5_addRow 5 none ⟨1, 0, 0, 25⟩ 0 0 s_X5_addRow := by
  intro hl
  exact eg_met_of (k := k_X5_addRow) (by decide) rfl ⟨Nat.le_refl _, Nat.le_refl _⟩ rfl sz_X5_addRow de_X5_addRow (fun meth hn => (fc (eg_FL_of wd_c5 (by decide) lf_RX5_22 (fun h => absurd h (by decide))) (fc (eg_FL_of wd_c5 (by decide) lf_RX5_33 (fun h => absurd h (by decide))) (fc (eg_FL_of wd_c5 (by decide) lf_RX5_36 (fun h => absurd h (by decide))) (fc (eg_FL_of wd_c5 (by decide) lf_RX5_39 (fun h => absurd h (by decide))) (fc (eg_FL_of wd_c5 (by decide) lf_RX5_42 (fun h => absurd h (by decide))) (fn))))))) (fun A s H hE => (fc (List.mem_cons_of_mem _ ll_RX5_59) (fn))) (fun p e s m args below meth c Q A ad0 N0 S0 hK hEx hA => (fc (mt_S hl S0 hK hEx hA (me_J7_fill_d0a16 g) lm_RX5_46 ls_J7_fill_d0a16 ln_RJ7 lc_J7_fill_d0a16 ⟨rfl, by decide, by decide, by decide +kernel⟩ ⟨rfl, rfl⟩ ⟨by decide, by decide⟩ (by decide)) (fc (mt_V hl S0 hK hEx hA (me_X5_lookFrom g) lm_RX5_61 li_X5_lookFrom lx_X5_lookFrom ln_RX5 lc_X5_lookFrom ⟨rfl, by decide, by decide, by decide +kernel⟩ ⟨rfl, rfl⟩ ⟨by decide, by decide⟩ (ci := 5) rfl rfl sr_X5_lookFrom (by decide)) (fc (mt_V hl S0 hK hEx hA (me_X5_nearest g) lm_RX5_64 li_X5_nearest lx_X5_nearest ln_RX5 lc_X5_nearest ⟨rfl, by decide, by decide, by decide +kernel⟩ ⟨rfl, rfl⟩ ⟨by decide, by decide⟩ (ci := 5) rfl rfl sr_X5_nearest (by decide)) (fc (mt_V hl S0 hK hEx hA (me_X5_moveBy g) lm_RX5_68 li_X5_moveBy lx_X5_moveBy ln_RX5 lc_X5_moveBy ⟨rfl, by decide, by decide, by decide +kernel⟩ ⟨rfl, rfl⟩ ⟨by decide, by decide⟩ (ci := 5) rfl rfl sr_X5_moveBy (by decide)) (fn)))))) (fun p e s m args below meth c Qc XC A ad0 N0 P S0 hK hEx hA hlk hout hPX => (fn)) (fun argv M Qp h => T_X5_addRow h)

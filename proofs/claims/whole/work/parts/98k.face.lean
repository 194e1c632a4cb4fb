/-! THE FACE WITHOUT LOOPS, path by path -/
set_option maxRecDepth 100000 in
theorem au_X11_days {Qp : eg_P} {M : eg_M} (a : Int32)
  (l0 : (a < 0 ∨ ¬ a ≤ ((nI 3599) - (eg_gi M 0 8))) → Qp (.inr "java/lang/IllegalArgumentException") M)
  (l1 : (¬ a < 0 ∧ a ≤ ((nI 3599) - (eg_gi M 0 8))) → Qp (.inl (some (.int ((eg_gi M 0 8) + a)))) (eg_si M 0 8 ((eg_gi M 0 8) + a))) :
  s_X11_days [.ref 0, .int a] M Qp := by
  refine And.intro (fun (c1 : a < 0) => ?_) (fun (c1 : ¬ a < 0) => ?_)
  · skip
    show Qp (.inr "java/lang/IllegalArgumentException") M
    exact l0 (Or.inl c1)
  · skip
    refine And.intro (fun (c2 : a ≤ ((nI 3599) - (eg_gi M 0 8))) => ?_) (fun (c2 : ¬ a ≤ ((nI 3599) - (eg_gi M 0 8))) => ?_)
    · skip
      refine And.intro (fun z => absurd z (by decide)) ?_
      show Qp (.inl (some (.int ((eg_gi M 0 8) + a)))) (eg_si M 0 8 ((eg_gi M 0 8) + a))
      exact l1 ⟨c1, c2⟩
    · skip
      show Qp (.inr "java/lang/IllegalArgumentException") M
      exact l0 (Or.inr c2)

set_option maxRecDepth 100000 in
theorem au_X11_empty {Qp : eg_P} {M : eg_M} 
  (l0 : Qp (.inl none) (eg_si (eg_si M 46 0 (nI 0)) 46 5 (nI 0))) :
  s_X11_empty [.ref 0] M Qp := by
  show Qp (.inl none) (eg_si (eg_si M 46 0 (nI 0)) 46 5 (nI 0))
  exact l0

set_option maxRecDepth 100000 in
theorem au_X11_clear {Qp : eg_P} {M : eg_M} 
  (l0 : Qp (.inl none) (eg_si M 72 0 (nI 0))) :
  s_X11_clear [.ref 0] M Qp := by
  show Qp (.inl none) (eg_si M 72 0 (nI 0))
  exact l0

set_option maxRecDepth 100000 in
theorem au_X11_count {Qp : eg_P} {M : eg_M} (a : Int32)
  (l0 : (a.toInt < 0 ∨ 8 < a.toInt) → Qp (.inr "java/util/NoSuchElementException") M)
  (l1 : (¬ (a.toInt < 0 ∨ 8 < a.toInt) ∧ a.toInt = 0) → Qp (.inl (some (.int (eg_gi M 0 8)))) M)
  (l2 : (¬ (a.toInt < 0 ∨ 8 < a.toInt) ∧ (¬ a.toInt = 0 ∧ a.toInt = 1)) → Qp (.inl (some (.int (eg_gi M 2 4)))) M)
  (l3 : (¬ (a.toInt < 0 ∨ 8 < a.toInt) ∧ (¬ a.toInt = 0 ∧ (¬ a.toInt = 1 ∧ a.toInt = 2))) → Qp (.inl (some (.int (eg_gi M 7 4)))) M)
  (l4 : (¬ (a.toInt < 0 ∨ 8 < a.toInt) ∧ (¬ a.toInt = 0 ∧ (¬ a.toInt = 1 ∧ (¬ a.toInt = 2 ∧ a.toInt = 3)))) → Qp (.inl (some (.int (eg_gi M 12 10)))) M)
  (l5 : (¬ (a.toInt < 0 ∨ 8 < a.toInt) ∧ (¬ a.toInt = 0 ∧ (¬ a.toInt = 1 ∧ (¬ a.toInt = 2 ∧ (¬ a.toInt = 3 ∧ a.toInt = 4))))) → Qp (.inl (some (.int (eg_gi M 46 0)))) M)
  (l6 : (¬ (a.toInt < 0 ∨ 8 < a.toInt) ∧ (¬ a.toInt = 0 ∧ (¬ a.toInt = 1 ∧ (¬ a.toInt = 2 ∧ (¬ a.toInt = 3 ∧ (¬ a.toInt = 4 ∧ a.toInt = 5)))))) → Qp (.inl (some (.int (eg_gi M 46 5)))) M)
  (l7 : (¬ (a.toInt < 0 ∨ 8 < a.toInt) ∧ (¬ a.toInt = 0 ∧ (¬ a.toInt = 1 ∧ (¬ a.toInt = 2 ∧ (¬ a.toInt = 3 ∧ (¬ a.toInt = 4 ∧ (¬ a.toInt = 5 ∧ a.toInt = 6))))))) → Qp (.inl (some (.int (eg_gi M 72 0)))) M)
  (l8 : (¬ (a.toInt < 0 ∨ 8 < a.toInt) ∧ (¬ a.toInt = 0 ∧ (¬ a.toInt = 1 ∧ (¬ a.toInt = 2 ∧ (¬ a.toInt = 3 ∧ (¬ a.toInt = 4 ∧ (¬ a.toInt = 5 ∧ (¬ a.toInt = 6 ∧ a.toInt = 7)))))))) → Qp (.inl (some (.int (eg_gi M 23 2)))) M)
  (l9 : (¬ (a.toInt < 0 ∨ 8 < a.toInt) ∧ (¬ a.toInt = 0 ∧ (¬ a.toInt = 1 ∧ (¬ a.toInt = 2 ∧ (¬ a.toInt = 3 ∧ (¬ a.toInt = 4 ∧ (¬ a.toInt = 5 ∧ (¬ a.toInt = 6 ∧ ¬ a.toInt = 7)))))))) → Qp (.inl (some (.int (eg_gi M 23 0)))) M) :
  s_X11_count [.ref 0, .int a] M Qp := by
  refine And.intro (fun (c1 : a.toInt < 0 ∨ 8 < a.toInt) => ?_) ?_
  · skip
    show Qp (.inr "java/util/NoSuchElementException") M
    exact l0 c1
  refine And.intro (fun (c2 : a.toInt = 0) => ?_) ?_
  · skip
    refine And.intro (fun z => absurd z (by decide)) ?_
    show Qp (.inl (some (.int (eg_gi M 0 8)))) M
    exact l1 (by clear l0 l1 l2 l3 l4 l5 l6 l7 l8 l9; grind)
  refine And.intro (fun (c3 : a.toInt = 1) => ?_) ?_
  · skip
    refine And.intro (fun z => absurd z (by decide)) ?_
    show Qp (.inl (some (.int (eg_gi M 2 4)))) M
    exact l2 (by clear l0 l1 l2 l3 l4 l5 l6 l7 l8 l9; grind)
  refine And.intro (fun (c4 : a.toInt = 2) => ?_) ?_
  · skip
    refine And.intro (fun z => absurd z (by decide)) ?_
    show Qp (.inl (some (.int (eg_gi M 7 4)))) M
    exact l3 (by clear l0 l1 l2 l3 l4 l5 l6 l7 l8 l9; grind)
  refine And.intro (fun (c5 : a.toInt = 3) => ?_) ?_
  · skip
    refine And.intro (fun z => absurd z (by decide)) ?_
    show Qp (.inl (some (.int (eg_gi M 12 10)))) M
    exact l4 (by clear l0 l1 l2 l3 l4 l5 l6 l7 l8 l9; grind)
  refine And.intro (fun (c6 : a.toInt = 4) => ?_) ?_
  · skip
    refine And.intro (fun z => absurd z (by decide)) ?_
    show Qp (.inl (some (.int (eg_gi M 46 0)))) M
    exact l5 (by clear l0 l1 l2 l3 l4 l5 l6 l7 l8 l9; grind)
  refine And.intro (fun (c7 : a.toInt = 5) => ?_) ?_
  · skip
    refine And.intro (fun z => absurd z (by decide)) ?_
    show Qp (.inl (some (.int (eg_gi M 46 5)))) M
    exact l6 (by clear l0 l1 l2 l3 l4 l5 l6 l7 l8 l9; grind)
  refine And.intro (fun (c8 : a.toInt = 6) => ?_) ?_
  · skip
    refine And.intro (fun z => absurd z (by decide)) ?_
    show Qp (.inl (some (.int (eg_gi M 72 0)))) M
    exact l7 (by clear l0 l1 l2 l3 l4 l5 l6 l7 l8 l9; grind)
  refine And.intro (fun (c9 : a.toInt = 7) => ?_) ?_
  · skip
    refine And.intro (fun z => absurd z (by decide)) ?_
    show Qp (.inl (some (.int (eg_gi M 23 2)))) M
    exact l8 (by clear l0 l1 l2 l3 l4 l5 l6 l7 l8 l9; grind)
  refine And.intro (fun (c10 : a.toInt = 8) => ?_) ?_
  · skip
    refine And.intro (fun z => absurd z (by decide)) ?_
    show Qp (.inl (some (.int (eg_gi M 23 0)))) M
    exact l9 (by clear l0 l1 l2 l3 l4 l5 l6 l7 l8 l9; grind)
  exact trivial

set_option maxRecDepth 100000 in
theorem au_X11_town {Qp : eg_P} {M : eg_M} (a : Int32) (b : Int32) (c : Int32) (d : Int32)
  (g0 : (¬ (¬ (¬ a < (nI 0) ∧ ¬ (nI 999) < a))) → (¬ (¬ (¬ b < (nI 0) ∧ ¬ (nI 999) < b))) → (¬ (¬ (¬ c < (nI 1) ∧ ¬ (nI 9999) < c))) → (¬ (¬ (¬ d < (nI 1) ∧ ¬ (nI 255) < d))) → ((eg_gi M 2 4) < (nI 16)) → (vp_in (eg_gi M 2 4) 16))
  (l0 : ((¬ (¬ a < (nI 0) ∧ ¬ (nI 999) < a)) ∨ ((¬ (¬ b < (nI 0) ∧ ¬ (nI 999) < b)) ∨ ((¬ (¬ c < (nI 1) ∧ ¬ (nI 9999) < c)) ∨ ((¬ (¬ d < (nI 1) ∧ ¬ (nI 255) < d)) ∨ ¬ (eg_gi M 2 4) < (nI 16))))) → Qp (.inl (some (.int (-nI 1)))) M)
  (l1 : ((¬ a < (nI 0) ∧ ¬ (nI 999) < a) ∧ ((¬ b < (nI 0) ∧ ¬ (nI 999) < b) ∧ ((¬ c < (nI 1) ∧ ¬ (nI 9999) < c) ∧ ((¬ d < (nI 1) ∧ ¬ (nI 255) < d) ∧ (eg_gi M 2 4) < (nI 16))))) → Qp (.inl (some (.int (eg_gi M 2 4)))) (eg_si (eg_si (eg_si (eg_si (eg_si M 3 (eg_gi M 2 4).toNatClampNeg a) 4 (eg_gi M 2 4).toNatClampNeg b) 5 (eg_gi M 2 4).toNatClampNeg c) 6 (eg_gi M 2 4).toNatClampNeg d) 2 4 ((eg_gi M 2 4) + (nI 1)))) :
  s_X11_town [.ref 0, .int a, .int b, .int c, .int d] M Qp := by
  refine And.intro (show (True) from ?_) ?_
  · exact trivial
  refine And.intro (fun (c1 : (b2i (decide (¬ a < (nI 0) ∧ ¬ (nI 999) < a))) = 0) => ?_) (fun (c1 : ¬ (b2i (decide (¬ a < (nI 0) ∧ ¬ (nI 999) < a))) = 0) => ?_)
  · replace c1 := b2i_d0.mp c1
    refine And.intro (fun (c2 : (nI 0) = 0) => ?_) (fun (c2 : ¬ (nI 0) = 0) => ?_)
    · skip
      refine And.intro (fun z => absurd z (by decide)) ?_
      show Qp (.inl (some (.int (-nI 1)))) M
      exact l0 (Or.inl c1)
    · exact absurd (show (nI 0) = 0 by decide) c2
  · replace c1 := b2i_dn.mp c1
    refine And.intro (show (True) from ?_) ?_
    · exact trivial
    refine And.intro (fun (c3 : (b2i (decide (¬ b < (nI 0) ∧ ¬ (nI 999) < b))) = 0) => ?_) (fun (c3 : ¬ (b2i (decide (¬ b < (nI 0) ∧ ¬ (nI 999) < b))) = 0) => ?_)
    · replace c3 := b2i_d0.mp c3
      refine And.intro (fun (c4 : (nI 0) = 0) => ?_) (fun (c4 : ¬ (nI 0) = 0) => ?_)
      · skip
        refine And.intro (fun z => absurd z (by decide)) ?_
        show Qp (.inl (some (.int (-nI 1)))) M
        exact l0 (Or.inr (Or.inl c3))
      · exact absurd (show (nI 0) = 0 by decide) c4
    · replace c3 := b2i_dn.mp c3
      refine And.intro (show (True) from ?_) ?_
      · exact trivial
      refine And.intro (fun (c5 : (b2i (decide (¬ c < (nI 1) ∧ ¬ (nI 9999) < c))) = 0) => ?_) (fun (c5 : ¬ (b2i (decide (¬ c < (nI 1) ∧ ¬ (nI 9999) < c))) = 0) => ?_)
      · replace c5 := b2i_d0.mp c5
        refine And.intro (fun (c6 : (nI 0) = 0) => ?_) (fun (c6 : ¬ (nI 0) = 0) => ?_)
        · skip
          refine And.intro (fun z => absurd z (by decide)) ?_
          show Qp (.inl (some (.int (-nI 1)))) M
          exact l0 (Or.inr (Or.inr (Or.inl c5)))
        · exact absurd (show (nI 0) = 0 by decide) c6
      · replace c5 := b2i_dn.mp c5
        refine And.intro (show (True) from ?_) ?_
        · exact trivial
        refine And.intro (fun (c7 : (b2i (decide (¬ d < (nI 1) ∧ ¬ (nI 255) < d))) = 0) => ?_) (fun (c7 : ¬ (b2i (decide (¬ d < (nI 1) ∧ ¬ (nI 255) < d))) = 0) => ?_)
        · replace c7 := b2i_d0.mp c7
          refine And.intro (fun (c8 : (nI 0) = 0) => ?_) (fun (c8 : ¬ (nI 0) = 0) => ?_)
          · skip
            refine And.intro (fun z => absurd z (by decide)) ?_
            show Qp (.inl (some (.int (-nI 1)))) M
            exact l0 (Or.inr (Or.inr (Or.inr (Or.inl c7))))
          · exact absurd (show (nI 0) = 0 by decide) c8
        · replace c7 := b2i_dn.mp c7
          refine And.intro (fun (c9 : (nI 1) = 0) => ?_) (fun (c9 : ¬ (nI 1) = 0) => ?_)
          · exact absurd c9 (show ¬ (nI 1) = 0 by decide)
          · skip
            refine And.intro (fun (c10 : (eg_gi M 2 4) < (nI 16)) => ?_) (fun (c10 : ¬ (eg_gi M 2 4) < (nI 16)) => ?_)
            · skip
              refine And.intro (show vp_in (eg_gi M 2 4) 16 from ?_) ?_
              · exact g0 c1 c3 c5 c7 c10
              refine And.intro (show vp_in (eg_gi M 2 4) 16 from ?_) ?_
              · exact g0 c1 c3 c5 c7 c10
              refine And.intro (show vp_in (eg_gi M 2 4) 16 from ?_) ?_
              · exact g0 c1 c3 c5 c7 c10
              refine And.intro (show vp_in (eg_gi M 2 4) 16 from ?_) ?_
              · exact g0 c1 c3 c5 c7 c10
              refine And.intro (fun z => absurd z (by decide)) ?_
              refine And.intro (fun z => absurd z (by decide)) ?_
              show Qp (.inl (some (.int (eg_gi M 2 4)))) (eg_si (eg_si (eg_si (eg_si (eg_si M 3 (eg_gi M 2 4).toNatClampNeg a) 4 (eg_gi M 2 4).toNatClampNeg b) 5 (eg_gi M 2 4).toNatClampNeg c) 6 (eg_gi M 2 4).toNatClampNeg d) 2 4 ((eg_gi M 2 4) + (nI 1)))
              exact l1 ⟨(Classical.byContradiction c1), ⟨(Classical.byContradiction c3), ⟨(Classical.byContradiction c5), ⟨(Classical.byContradiction c7), c10⟩⟩⟩⟩
            · skip
              refine And.intro (fun z => absurd z (by decide)) ?_
              refine And.intro (fun z => absurd z (by decide)) ?_
              show Qp (.inl (some (.int (-nI 1)))) M
              exact l0 (Or.inr (Or.inr (Or.inr (Or.inr c10))))

set_option maxRecDepth 100000 in
theorem au_X11_back {Qp : eg_P} {M : eg_M} (a : Int32)
  (g0 : (¬ (¬ (¬ a < (nI 0) ∧ ¬ ((eg_gi M 12 10) - (nI 1)) < a))) → (vp_in a 200))
  (l0 : (¬ (¬ a < (nI 0) ∧ ¬ ((eg_gi M 12 10) - (nI 1)) < a)) → Qp (.inr "java/util/NoSuchElementException") M)
  (l1 : ((¬ a < (nI 0) ∧ ¬ ((eg_gi M 12 10) - (nI 1)) < a) ∧ (eg_gi M 21 a.toNatClampNeg) = (nI 3600)) → Qp (.inl (some (.int (nI 1)))) (eg_si (eg_si M 1 4 (-nI 1)) 21 a.toNatClampNeg (eg_gi M 0 8)))
  (l2 : ((¬ a < (nI 0) ∧ ¬ ((eg_gi M 12 10) - (nI 1)) < a) ∧ ¬ (eg_gi M 21 a.toNatClampNeg) = (nI 3600)) → Qp (.inl (some (.int (nI 0)))) (eg_si M 1 4 (-nI 1))) :
  s_X11_back [.ref 0, .int a] M Qp := by
  refine And.intro (show (True) from ?_) ?_
  · exact trivial
  refine And.intro (fun (c1 : (b2i (decide (¬ a < (nI 0) ∧ ¬ ((eg_gi M 12 10) - (nI 1)) < a))) = 0) => ?_) (fun (c1 : ¬ (b2i (decide (¬ a < (nI 0) ∧ ¬ ((eg_gi M 12 10) - (nI 1)) < a))) = 0) => ?_)
  · replace c1 := b2i_d0.mp c1
    show Qp (.inr "java/util/NoSuchElementException") M
    exact l0 c1
  · replace c1 := b2i_dn.mp c1
    refine And.intro (show vp_in a 200 from ?_) ?_
    · exact g0 c1
    refine And.intro (fun (c2 : (eg_gi M 21 a.toNatClampNeg) = (nI 3600)) => ?_) (fun (c2 : ¬ (eg_gi M 21 a.toNatClampNeg) = (nI 3600)) => ?_)
    · skip
      refine And.intro (fun (c3 : (nI 1) = 0) => ?_) (fun (c3 : ¬ (nI 1) = 0) => ?_)
      · exact absurd c3 (show ¬ (nI 1) = 0 by decide)
      · skip
        refine And.intro (show vp_in a 200 from ?_) ?_
        · exact g0 c1
        refine And.intro (fun _ => (show (nI 1) = 0 ∨ (nI 1) = 1 from ?_)) ?_
        · exact Or.inr rfl
        refine And.intro (fun _ => (show (nI 1) = 0 ∨ (nI 1) = 1 from ?_)) ?_
        · exact Or.inr rfl
        show Qp (.inl (some (.int (nI 1)))) (eg_si (eg_si M 1 4 (-nI 1)) 21 a.toNatClampNeg (eg_gi M 0 8))
        exact l1 ⟨(Classical.byContradiction c1), c2⟩
    · skip
      refine And.intro (fun (c4 : (nI 0) = 0) => ?_) (fun (c4 : ¬ (nI 0) = 0) => ?_)
      · skip
        refine And.intro (fun _ => (show (nI 0) = 0 ∨ (nI 0) = 1 from ?_)) ?_
        · exact Or.inl rfl
        refine And.intro (fun _ => (show (nI 0) = 0 ∨ (nI 0) = 1 from ?_)) ?_
        · exact Or.inl rfl
        show Qp (.inl (some (.int (nI 0)))) (eg_si M 1 4 (-nI 1))
        exact l2 ⟨(Classical.byContradiction c1), c2⟩
      · exact absurd (show (nI 0) = 0 by decide) c4

set_option maxRecDepth 100000 in
theorem au_X11_home {Qp : eg_P} {M : eg_M} (a : Int32) (b : Int32) (c : Int32) (d : Int32)
  (g0 : (¬ (¬ (¬ a < (nI 1) ∧ ¬ (nI 4) < a))) → (¬ (¬ (¬ b < (nI 0) ∧ ¬ (nI 255) < b))) → (¬ (¬ (¬ d < (nI 0) ∧ ¬ (nI 99) < d))) → ((eg_gi M 46 0) < (nI 6)) → (vp_in (eg_gi M 46 0) 6))
  (g1 : (¬ (¬ (¬ a < (nI 1) ∧ ¬ (nI 4) < a))) → (¬ (¬ (¬ b < (nI 0) ∧ ¬ (nI 255) < b))) → (¬ (¬ (¬ d < (nI 0) ∧ ¬ (nI 99) < d))) → ((eg_gi M 46 0) < (nI 6)) → (c = 0 ∨ c = 1))
  (l0 : ((¬ (¬ a < (nI 1) ∧ ¬ (nI 4) < a)) ∨ ((¬ (¬ b < (nI 0) ∧ ¬ (nI 255) < b)) ∨ ((¬ (¬ d < (nI 0) ∧ ¬ (nI 99) < d)) ∨ ¬ (eg_gi M 46 0) < (nI 6)))) → Qp (.inl (some (.int (-nI 1)))) M)
  (l1 : ((¬ a < (nI 1) ∧ ¬ (nI 4) < a) ∧ ((¬ b < (nI 0) ∧ ¬ (nI 255) < b) ∧ ((¬ d < (nI 0) ∧ ¬ (nI 99) < d) ∧ (eg_gi M 46 0) < (nI 6)))) → Qp (.inl (some (.int (eg_gi M 46 0)))) (eg_si (eg_si (eg_si (eg_si (eg_si M 47 (eg_gi M 46 0).toNatClampNeg a) 48 (eg_gi M 46 0).toNatClampNeg b) 49 (eg_gi M 46 0).toNatClampNeg c) 50 (eg_gi M 46 0).toNatClampNeg d) 46 0 ((eg_gi M 46 0) + (nI 1)))) :
  s_X11_home [.ref 0, .int a, .int b, .int c, .int d] M Qp := by
  refine And.intro (show (True) from ?_) ?_
  · exact trivial
  refine And.intro (fun (c1 : (b2i (decide (¬ a < (nI 1) ∧ ¬ (nI 4) < a))) = 0) => ?_) (fun (c1 : ¬ (b2i (decide (¬ a < (nI 1) ∧ ¬ (nI 4) < a))) = 0) => ?_)
  · replace c1 := b2i_d0.mp c1
    refine And.intro (fun (c2 : (nI 0) = 0) => ?_) (fun (c2 : ¬ (nI 0) = 0) => ?_)
    · skip
      refine And.intro (fun z => absurd z (by decide)) ?_
      show Qp (.inl (some (.int (-nI 1)))) M
      exact l0 (Or.inl c1)
    · exact absurd (show (nI 0) = 0 by decide) c2
  · replace c1 := b2i_dn.mp c1
    refine And.intro (show (True) from ?_) ?_
    · exact trivial
    refine And.intro (fun (c3 : (b2i (decide (¬ b < (nI 0) ∧ ¬ (nI 255) < b))) = 0) => ?_) (fun (c3 : ¬ (b2i (decide (¬ b < (nI 0) ∧ ¬ (nI 255) < b))) = 0) => ?_)
    · replace c3 := b2i_d0.mp c3
      refine And.intro (fun (c4 : (nI 0) = 0) => ?_) (fun (c4 : ¬ (nI 0) = 0) => ?_)
      · skip
        refine And.intro (fun z => absurd z (by decide)) ?_
        show Qp (.inl (some (.int (-nI 1)))) M
        exact l0 (Or.inr (Or.inl c3))
      · exact absurd (show (nI 0) = 0 by decide) c4
    · replace c3 := b2i_dn.mp c3
      refine And.intro (show (True) from ?_) ?_
      · exact trivial
      refine And.intro (fun (c5 : (b2i (decide (¬ d < (nI 0) ∧ ¬ (nI 99) < d))) = 0) => ?_) (fun (c5 : ¬ (b2i (decide (¬ d < (nI 0) ∧ ¬ (nI 99) < d))) = 0) => ?_)
      · replace c5 := b2i_d0.mp c5
        refine And.intro (fun (c6 : (nI 0) = 0) => ?_) (fun (c6 : ¬ (nI 0) = 0) => ?_)
        · skip
          refine And.intro (fun z => absurd z (by decide)) ?_
          show Qp (.inl (some (.int (-nI 1)))) M
          exact l0 (Or.inr (Or.inr (Or.inl c5)))
        · exact absurd (show (nI 0) = 0 by decide) c6
      · replace c5 := b2i_dn.mp c5
        refine And.intro (fun (c7 : (nI 1) = 0) => ?_) (fun (c7 : ¬ (nI 1) = 0) => ?_)
        · exact absurd c7 (show ¬ (nI 1) = 0 by decide)
        · skip
          refine And.intro (fun (c8 : (eg_gi M 46 0) < (nI 6)) => ?_) (fun (c8 : ¬ (eg_gi M 46 0) < (nI 6)) => ?_)
          · skip
            refine And.intro (show vp_in (eg_gi M 46 0) 6 from ?_) ?_
            · exact g0 c1 c3 c5 c8
            refine And.intro (show vp_in (eg_gi M 46 0) 6 from ?_) ?_
            · exact g0 c1 c3 c5 c8
            refine And.intro (show vp_in (eg_gi M 46 0) 6 from ?_) ?_
            · exact g0 c1 c3 c5 c8
            refine And.intro (show c = 0 ∨ c = 1 from ?_) ?_
            · exact g1 c1 c3 c5 c8
            refine And.intro (show vp_in (eg_gi M 46 0) 6 from ?_) ?_
            · exact g0 c1 c3 c5 c8
            refine And.intro (fun z => absurd z (by decide)) ?_
            refine And.intro (fun z => absurd z (by decide)) ?_
            show Qp (.inl (some (.int (eg_gi M 46 0)))) (eg_si (eg_si (eg_si (eg_si (eg_si M 47 (eg_gi M 46 0).toNatClampNeg a) 48 (eg_gi M 46 0).toNatClampNeg b) 49 (eg_gi M 46 0).toNatClampNeg c) 50 (eg_gi M 46 0).toNatClampNeg d) 46 0 ((eg_gi M 46 0) + (nI 1)))
            exact l1 ⟨(Classical.byContradiction c1), ⟨(Classical.byContradiction c3), ⟨(Classical.byContradiction c5), c8⟩⟩⟩
          · skip
            refine And.intro (fun z => absurd z (by decide)) ?_
            refine And.intro (fun z => absurd z (by decide)) ?_
            show Qp (.inl (some (.int (-nI 1)))) M
            exact l0 (Or.inr (Or.inr (Or.inr c8)))

set_option maxRecDepth 100000 in
theorem au_X11_guest {Qp : eg_P} {M : eg_M} (a : Int32) (b : Int32) (c : Int32)
  (g0 : (¬ (¬ (¬ a < (nI 0) ∧ ¬ (nI 255) < a))) → (¬ (¬ (¬ b < (nI 0) ∧ ¬ (nI 99) < b))) → ((eg_gi M 46 5) < (nI 8)) → (vp_in (eg_gi M 46 5) 8))
  (g1 : (¬ (¬ (¬ a < (nI 0) ∧ ¬ (nI 255) < a))) → (¬ (¬ (¬ b < (nI 0) ∧ ¬ (nI 99) < b))) → ((eg_gi M 46 5) < (nI 8)) → (c = 0 ∨ c = 1))
  (l0 : ((¬ (¬ a < (nI 0) ∧ ¬ (nI 255) < a)) ∨ ((¬ (¬ b < (nI 0) ∧ ¬ (nI 99) < b)) ∨ ¬ (eg_gi M 46 5) < (nI 8))) → Qp (.inl (some (.int (-nI 1)))) M)
  (l1 : ((¬ a < (nI 0) ∧ ¬ (nI 255) < a) ∧ ((¬ b < (nI 0) ∧ ¬ (nI 99) < b) ∧ (eg_gi M 46 5) < (nI 8))) → Qp (.inl (some (.int (eg_gi M 46 5)))) (eg_si (eg_si (eg_si (eg_si M 51 (eg_gi M 46 5).toNatClampNeg a) 52 (eg_gi M 46 5).toNatClampNeg b) 53 (eg_gi M 46 5).toNatClampNeg c) 46 5 ((eg_gi M 46 5) + (nI 1)))) :
  s_X11_guest [.ref 0, .int a, .int b, .int c] M Qp := by
  refine And.intro (show (True) from ?_) ?_
  · exact trivial
  refine And.intro (fun (c1 : (b2i (decide (¬ a < (nI 0) ∧ ¬ (nI 255) < a))) = 0) => ?_) (fun (c1 : ¬ (b2i (decide (¬ a < (nI 0) ∧ ¬ (nI 255) < a))) = 0) => ?_)
  · replace c1 := b2i_d0.mp c1
    refine And.intro (fun (c2 : (nI 0) = 0) => ?_) (fun (c2 : ¬ (nI 0) = 0) => ?_)
    · skip
      refine And.intro (fun z => absurd z (by decide)) ?_
      show Qp (.inl (some (.int (-nI 1)))) M
      exact l0 (Or.inl c1)
    · exact absurd (show (nI 0) = 0 by decide) c2
  · replace c1 := b2i_dn.mp c1
    refine And.intro (show (True) from ?_) ?_
    · exact trivial
    refine And.intro (fun (c3 : (b2i (decide (¬ b < (nI 0) ∧ ¬ (nI 99) < b))) = 0) => ?_) (fun (c3 : ¬ (b2i (decide (¬ b < (nI 0) ∧ ¬ (nI 99) < b))) = 0) => ?_)
    · replace c3 := b2i_d0.mp c3
      refine And.intro (fun (c4 : (nI 0) = 0) => ?_) (fun (c4 : ¬ (nI 0) = 0) => ?_)
      · skip
        refine And.intro (fun z => absurd z (by decide)) ?_
        show Qp (.inl (some (.int (-nI 1)))) M
        exact l0 (Or.inr (Or.inl c3))
      · exact absurd (show (nI 0) = 0 by decide) c4
    · replace c3 := b2i_dn.mp c3
      refine And.intro (fun (c5 : (nI 1) = 0) => ?_) (fun (c5 : ¬ (nI 1) = 0) => ?_)
      · exact absurd c5 (show ¬ (nI 1) = 0 by decide)
      · skip
        refine And.intro (fun (c6 : (eg_gi M 46 5) < (nI 8)) => ?_) (fun (c6 : ¬ (eg_gi M 46 5) < (nI 8)) => ?_)
        · skip
          refine And.intro (show vp_in (eg_gi M 46 5) 8 from ?_) ?_
          · exact g0 c1 c3 c6
          refine And.intro (show vp_in (eg_gi M 46 5) 8 from ?_) ?_
          · exact g0 c1 c3 c6
          refine And.intro (show vp_in (eg_gi M 46 5) 8 from ?_) ?_
          · exact g0 c1 c3 c6
          refine And.intro (show c = 0 ∨ c = 1 from ?_) ?_
          · exact g1 c1 c3 c6
          refine And.intro (fun z => absurd z (by decide)) ?_
          refine And.intro (fun z => absurd z (by decide)) ?_
          show Qp (.inl (some (.int (eg_gi M 46 5)))) (eg_si (eg_si (eg_si (eg_si M 51 (eg_gi M 46 5).toNatClampNeg a) 52 (eg_gi M 46 5).toNatClampNeg b) 53 (eg_gi M 46 5).toNatClampNeg c) 46 5 ((eg_gi M 46 5) + (nI 1)))
          exact l1 ⟨(Classical.byContradiction c1), ⟨(Classical.byContradiction c3), c6⟩⟩
        · skip
          refine And.intro (fun z => absurd z (by decide)) ?_
          refine And.intro (fun z => absurd z (by decide)) ?_
          show Qp (.inl (some (.int (-nI 1)))) M
          exact l0 (Or.inr (Or.inr c6))

set_option maxRecDepth 100000 in
theorem au_X11_lodged {Qp : eg_P} {M : eg_M} (a : Int32)
  (g0 : (¬ (¬ (¬ a < (-nI 1) ∧ ¬ ((eg_gi M 46 9) - (nI 1)) < a))) → (¬ (a = (-nI 1))) → (vp_in a 8))
  (l0 : (¬ (¬ a < (-nI 1) ∧ ¬ ((eg_gi M 46 9) - (nI 1)) < a)) → Qp (.inr "java/util/NoSuchElementException") M)
  (l1 : ((¬ a < (-nI 1) ∧ ¬ ((eg_gi M 46 9) - (nI 1)) < a) ∧ a = (-nI 1)) → Qp (.inl (some (.int (eg_gi M 46 10)))) M)
  (l2 : ((¬ a < (-nI 1) ∧ ¬ ((eg_gi M 46 9) - (nI 1)) < a) ∧ ¬ a = (-nI 1)) → Qp (.inl (some (.int (eg_gi M 54 a.toNatClampNeg)))) M) :
  s_X11_lodged [.ref 0, .int a] M Qp := by
  refine And.intro (show (True) from ?_) ?_
  · exact trivial
  refine And.intro (fun (c1 : (b2i (decide (¬ a < (-nI 1) ∧ ¬ ((eg_gi M 46 9) - (nI 1)) < a))) = 0) => ?_) (fun (c1 : ¬ (b2i (decide (¬ a < (-nI 1) ∧ ¬ ((eg_gi M 46 9) - (nI 1)) < a))) = 0) => ?_)
  · replace c1 := b2i_d0.mp c1
    show Qp (.inr "java/util/NoSuchElementException") M
    exact l0 c1
  · replace c1 := b2i_dn.mp c1
    refine And.intro (fun (c2 : a = (-nI 1)) => ?_) (fun (c2 : ¬ a = (-nI 1)) => ?_)
    · skip
      refine And.intro (fun z => absurd z (by decide)) ?_
      show Qp (.inl (some (.int (eg_gi M 46 10)))) M
      exact l1 ⟨(Classical.byContradiction c1), c2⟩
    · skip
      refine And.intro (show vp_in a 8 from ?_) ?_
      · exact g0 c1 c2
      refine And.intro (fun z => absurd z (by decide)) ?_
      show Qp (.inl (some (.int (eg_gi M 54 a.toNatClampNeg)))) M
      exact l2 ⟨(Classical.byContradiction c1), c2⟩

set_option maxRecDepth 100000 in
theorem au_X11_planned {Qp : eg_P} {M : eg_M} (a : Int32)
  (g0 : (¬ (¬ (¬ a < (-nI 1) ∧ ¬ ((eg_gi M 72 5) - (nI 1)) < a))) → (¬ (a = (-nI 1))) → (vp_in a 6))
  (l0 : (¬ (¬ a < (-nI 1) ∧ ¬ ((eg_gi M 72 5) - (nI 1)) < a)) → Qp (.inr "java/util/NoSuchElementException") M)
  (l1 : ((¬ a < (-nI 1) ∧ ¬ ((eg_gi M 72 5) - (nI 1)) < a) ∧ a = (-nI 1)) → Qp (.inl (some (.int (eg_gi M 72 6)))) M)
  (l2 : ((¬ a < (-nI 1) ∧ ¬ ((eg_gi M 72 5) - (nI 1)) < a) ∧ ¬ a = (-nI 1)) → Qp (.inl (some (.int (eg_gi M 77 a.toNatClampNeg)))) M) :
  s_X11_planned [.ref 0, .int a] M Qp := by
  refine And.intro (show (True) from ?_) ?_
  · exact trivial
  refine And.intro (fun (c1 : (b2i (decide (¬ a < (-nI 1) ∧ ¬ ((eg_gi M 72 5) - (nI 1)) < a))) = 0) => ?_) (fun (c1 : ¬ (b2i (decide (¬ a < (-nI 1) ∧ ¬ ((eg_gi M 72 5) - (nI 1)) < a))) = 0) => ?_)
  · replace c1 := b2i_d0.mp c1
    show Qp (.inr "java/util/NoSuchElementException") M
    exact l0 c1
  · replace c1 := b2i_dn.mp c1
    refine And.intro (fun (c2 : a = (-nI 1)) => ?_) (fun (c2 : ¬ a = (-nI 1)) => ?_)
    · skip
      refine And.intro (fun z => absurd z (by decide)) ?_
      show Qp (.inl (some (.int (eg_gi M 72 6)))) M
      exact l1 ⟨(Classical.byContradiction c1), c2⟩
    · skip
      refine And.intro (show vp_in a 6 from ?_) ?_
      · exact g0 c1 c2
      refine And.intro (fun z => absurd z (by decide)) ?_
      show Qp (.inl (some (.int (eg_gi M 77 a.toNatClampNeg)))) M
      exact l2 ⟨(Classical.byContradiction c1), c2⟩

set_option maxRecDepth 100000 in
theorem au_X11_friend {Qp : eg_P} {M : eg_M} (a : Int32)
  (g0 : (¬ (¬ (¬ a < (nI 0) ∧ ¬ ((eg_gi M 2 4) - (nI 1)) < a))) → (vp_in a 16))
  (l0 : (¬ (¬ a < (nI 0) ∧ ¬ ((eg_gi M 2 4) - (nI 1)) < a)) → Qp (.inr "java/util/NoSuchElementException") M)
  (l1 : (¬ a < (nI 0) ∧ ¬ ((eg_gi M 2 4) - (nI 1)) < a) → Qp (.inl (some (.int (eg_gi M 116 a.toNatClampNeg)))) M) :
  s_X11_friend [.ref 0, .int a] M Qp := by
  refine And.intro (show (True) from ?_) ?_
  · exact trivial
  refine And.intro (fun (c1 : (b2i (decide (¬ a < (nI 0) ∧ ¬ ((eg_gi M 2 4) - (nI 1)) < a))) = 0) => ?_) (fun (c1 : ¬ (b2i (decide (¬ a < (nI 0) ∧ ¬ ((eg_gi M 2 4) - (nI 1)) < a))) = 0) => ?_)
  · replace c1 := b2i_d0.mp c1
    show Qp (.inr "java/util/NoSuchElementException") M
    exact l0 c1
  · replace c1 := b2i_dn.mp c1
    refine And.intro (show vp_in a 16 from ?_) ?_
    · exact g0 c1
    refine And.intro (fun z => absurd z (by decide)) ?_
    show Qp (.inl (some (.int (eg_gi M 116 a.toNatClampNeg)))) M
    exact l1 (Classical.byContradiction c1)

set_option maxRecDepth 100000 in
theorem au_X12_town {Qp : eg_P} {M : eg_M} (a : Int32) (b : Int32) (c : Int32) (d : Int32)
  (g0 : (¬ ((eg_gi M 121 3) = (nI 16))) → (¬ (¬ (¬ a < (nI 0) ∧ ¬ (nI 999) < a))) → (¬ (¬ (¬ b < (nI 0) ∧ ¬ (nI 999) < b))) → (¬ (¬ (¬ c < (nI 1) ∧ ¬ (nI 9999) < c))) → (¬ (¬ (¬ d < (nI 1) ∧ ¬ (nI 255) < d))) → (vp_in (eg_gi M 121 3) 16))
  (l0 : ((eg_gi M 121 3) = (nI 16) ∨ ((¬ (¬ a < (nI 0) ∧ ¬ (nI 999) < a)) ∨ ((¬ (¬ b < (nI 0) ∧ ¬ (nI 999) < b)) ∨ ((¬ (¬ c < (nI 1) ∧ ¬ (nI 9999) < c)) ∨ (¬ (¬ d < (nI 1) ∧ ¬ (nI 255) < d)))))) → Qp (.inl (some (.int (-nI 1)))) (eg_si M 121 1 (nI 0)))
  (l1 : (¬ (eg_gi M 121 3) = (nI 16) ∧ ((¬ a < (nI 0) ∧ ¬ (nI 999) < a) ∧ ((¬ b < (nI 0) ∧ ¬ (nI 999) < b) ∧ ((¬ c < (nI 1) ∧ ¬ (nI 9999) < c) ∧ ((¬ d < (nI 1) ∧ ¬ (nI 255) < d)))))) → Qp (.inl (some (.int (((eg_gi M 121 3) + (nI 1)) - (nI 1))))) (eg_si (eg_si (eg_si (eg_si (eg_si (eg_si (eg_si M 121 1 (nI 0)) 123 (eg_gi M 121 3).toNatClampNeg a) 124 (eg_gi M 121 3).toNatClampNeg b) 125 (eg_gi M 121 3).toNatClampNeg c) 126 (eg_gi M 121 3).toNatClampNeg d) 170 (eg_gi M 121 3).toNatClampNeg (nI 0)) 121 3 ((eg_gi M 121 3) + (nI 1)))) :
  s_X12_town [.ref 121, .int a, .int b, .int c, .int d] M Qp := by
  refine And.intro (fun (c1 : (eg_gi M 121 3) = (nI 16)) => ?_) (fun (c1 : ¬ (eg_gi M 121 3) = (nI 16)) => ?_)
  · skip
    refine And.intro (fun z => absurd z (by decide)) ?_
    show Qp (.inl (some (.int (-nI 1)))) (eg_si M 121 1 (nI 0))
    exact l0 (Or.inl c1)
  · skip
    refine And.intro (show (True) from ?_) ?_
    · exact trivial
    refine And.intro (fun (c2 : (b2i (decide (¬ a < (nI 0) ∧ ¬ (nI 999) < a))) = 0) => ?_) (fun (c2 : ¬ (b2i (decide (¬ a < (nI 0) ∧ ¬ (nI 999) < a))) = 0) => ?_)
    · replace c2 := b2i_d0.mp c2
      refine And.intro (fun z => absurd z (by decide)) ?_
      show Qp (.inl (some (.int (-nI 1)))) (eg_si M 121 1 (nI 0))
      exact l0 (Or.inr (Or.inl c2))
    · replace c2 := b2i_dn.mp c2
      refine And.intro (show (True) from ?_) ?_
      · exact trivial
      refine And.intro (fun (c3 : (b2i (decide (¬ b < (nI 0) ∧ ¬ (nI 999) < b))) = 0) => ?_) (fun (c3 : ¬ (b2i (decide (¬ b < (nI 0) ∧ ¬ (nI 999) < b))) = 0) => ?_)
      · replace c3 := b2i_d0.mp c3
        refine And.intro (fun z => absurd z (by decide)) ?_
        show Qp (.inl (some (.int (-nI 1)))) (eg_si M 121 1 (nI 0))
        exact l0 (Or.inr (Or.inr (Or.inl c3)))
      · replace c3 := b2i_dn.mp c3
        refine And.intro (show (True) from ?_) ?_
        · exact trivial
        refine And.intro (fun (c4 : (b2i (decide (¬ c < (nI 1) ∧ ¬ (nI 9999) < c))) = 0) => ?_) (fun (c4 : ¬ (b2i (decide (¬ c < (nI 1) ∧ ¬ (nI 9999) < c))) = 0) => ?_)
        · replace c4 := b2i_d0.mp c4
          refine And.intro (fun z => absurd z (by decide)) ?_
          show Qp (.inl (some (.int (-nI 1)))) (eg_si M 121 1 (nI 0))
          exact l0 (Or.inr (Or.inr (Or.inr (Or.inl c4))))
        · replace c4 := b2i_dn.mp c4
          refine And.intro (show (True) from ?_) ?_
          · exact trivial
          refine And.intro (fun (c5 : (b2i (decide (¬ d < (nI 1) ∧ ¬ (nI 255) < d))) = 0) => ?_) (fun (c5 : ¬ (b2i (decide (¬ d < (nI 1) ∧ ¬ (nI 255) < d))) = 0) => ?_)
          · replace c5 := b2i_d0.mp c5
            refine And.intro (fun z => absurd z (by decide)) ?_
            show Qp (.inl (some (.int (-nI 1)))) (eg_si M 121 1 (nI 0))
            exact l0 (Or.inr (Or.inr (Or.inr (Or.inr c5))))
          · replace c5 := b2i_dn.mp c5
            refine And.intro (show vp_in (eg_gi M 121 3) 16 from ?_) ?_
            · exact g0 c1 c2 c3 c4 c5
            refine And.intro (show vp_in (eg_gi M 121 3) 16 from ?_) ?_
            · exact g0 c1 c2 c3 c4 c5
            refine And.intro (show vp_in (eg_gi M 121 3) 16 from ?_) ?_
            · exact g0 c1 c2 c3 c4 c5
            refine And.intro (show vp_in (eg_gi M 121 3) 16 from ?_) ?_
            · exact g0 c1 c2 c3 c4 c5
            refine And.intro (show vp_in (eg_gi M 121 3) 16 from ?_) ?_
            · exact g0 c1 c2 c3 c4 c5
            refine And.intro (fun z => absurd z (by decide)) ?_
            show Qp (.inl (some (.int (((eg_gi M 121 3) + (nI 1)) - (nI 1))))) (eg_si (eg_si (eg_si (eg_si (eg_si (eg_si (eg_si M 121 1 (nI 0)) 123 (eg_gi M 121 3).toNatClampNeg a) 124 (eg_gi M 121 3).toNatClampNeg b) 125 (eg_gi M 121 3).toNatClampNeg c) 126 (eg_gi M 121 3).toNatClampNeg d) 170 (eg_gi M 121 3).toNatClampNeg (nI 0)) 121 3 ((eg_gi M 121 3) + (nI 1)))
            exact l1 ⟨c1, ⟨(Classical.byContradiction c2), ⟨(Classical.byContradiction c3), ⟨(Classical.byContradiction c4), (Classical.byContradiction c5)⟩⟩⟩⟩

set_option maxRecDepth 100000 in
theorem au_X12_charter {Qp : eg_P} {M : eg_M} (a : Int32) (b : Int32) (c : Int32)
  (g0 : (¬ (¬ (¬ a < 0 ∧ ¬ (eg_gi (eg_si M 121 1 (nI 0)) 121 3) ≤ a))) → (¬ (¬ (¬ b < 0 ∧ ¬ (eg_gi (eg_si M 121 1 (nI 0)) 121 3) ≤ b))) → (¬ ((eg_gi M 121 4) = (nI 24))) → (¬ (a = b)) → (¬ (¬ (¬ c < (nI 0) ∧ ¬ (nI 3599) < c))) → (vp_in ((nI 2) * (eg_gi M 121 4)) 48))
  (g1 : (¬ (¬ (¬ a < 0 ∧ ¬ (eg_gi (eg_si M 121 1 (nI 0)) 121 3) ≤ a))) → (¬ (¬ (¬ b < 0 ∧ ¬ (eg_gi (eg_si M 121 1 (nI 0)) 121 3) ≤ b))) → (¬ ((eg_gi M 121 4) = (nI 24))) → (¬ (a = b)) → (¬ (¬ (¬ c < (nI 0) ∧ ¬ (nI 3599) < c))) → (vp_in (((nI 2) * (eg_gi M 121 4)) + (nI 1)) 48))
  (g2 : (¬ (¬ (¬ a < 0 ∧ ¬ (eg_gi (eg_si M 121 1 (nI 0)) 121 3) ≤ a))) → (¬ (¬ (¬ b < 0 ∧ ¬ (eg_gi (eg_si M 121 1 (nI 0)) 121 3) ≤ b))) → (¬ ((eg_gi M 121 4) = (nI 24))) → (¬ (a = b)) → (¬ (¬ (¬ c < (nI 0) ∧ ¬ (nI 3599) < c))) → (vp_in (eg_gi M 121 4) 24))
  (l0 : ((¬ (¬ a < 0 ∧ ¬ (eg_gi (eg_si M 121 1 (nI 0)) 121 3) ≤ a)) ∨ (¬ (¬ b < 0 ∧ ¬ (eg_gi (eg_si M 121 1 (nI 0)) 121 3) ≤ b))) → Qp (.inl (some (.int (nI 0)))) (eg_si (eg_si M 121 1 (nI 0)) 121 1 (nI 1)))
  (l1 : ((¬ a < 0 ∧ ¬ (eg_gi (eg_si M 121 1 (nI 0)) 121 3) ≤ a) ∧ ((¬ b < 0 ∧ ¬ (eg_gi (eg_si M 121 1 (nI 0)) 121 3) ≤ b) ∧ ((eg_gi M 121 4) = (nI 24) ∨ (a = b ∨ (¬ (¬ c < (nI 0) ∧ ¬ (nI 3599) < c)))))) → Qp (.inl (some (.int (-nI 1)))) (eg_si M 121 1 (nI 0)))
  (l2 : ((¬ a < 0 ∧ ¬ (eg_gi (eg_si M 121 1 (nI 0)) 121 3) ≤ a) ∧ ((¬ b < 0 ∧ ¬ (eg_gi (eg_si M 121 1 (nI 0)) 121 3) ≤ b) ∧ (¬ (eg_gi M 121 4) = (nI 24) ∧ (¬ a = b ∧ ((¬ c < (nI 0) ∧ ¬ (nI 3599) < c)))))) → Qp (.inl (some (.int (((eg_gi M 121 4) + (nI 1)) - (nI 1))))) (eg_si (eg_si (eg_si (eg_si (eg_si (eg_si M 121 1 (nI 0)) 127 ((nI 2) * (eg_gi M 121 4)).toNatClampNeg a) 127 (((nI 2) * (eg_gi M 121 4)) + (nI 1)).toNatClampNeg b) 128 (eg_gi M 121 4).toNatClampNeg c) 129 (eg_gi M 121 4).toNatClampNeg (eg_gi M 121 2)) 121 4 ((eg_gi M 121 4) + (nI 1)))) :
  s_X12_charter [.ref 121, .int a, .int b, .int c] M Qp := by
  refine And.intro (show (True) from ?_) ?_
  · exact trivial
  refine And.intro (fun (c1 : (b2i (decide (¬ a < 0 ∧ ¬ (eg_gi (eg_si M 121 1 (nI 0)) 121 3) ≤ a))) = 0) => ?_) (fun (c1 : ¬ (b2i (decide (¬ a < 0 ∧ ¬ (eg_gi (eg_si M 121 1 (nI 0)) 121 3) ≤ a))) = 0) => ?_)
  · replace c1 := b2i_d0.mp c1
    refine And.intro (fun z => absurd z (by decide)) ?_
    refine And.intro (fun z => absurd z (by decide)) ?_
    show Qp (.inl (some (.int (nI 0)))) (eg_si (eg_si M 121 1 (nI 0)) 121 1 (nI 1))
    exact l0 (Or.inl c1)
  · replace c1 := b2i_dn.mp c1
    refine And.intro (show (True) from ?_) ?_
    · exact trivial
    refine And.intro (fun (c2 : (b2i (decide (¬ b < 0 ∧ ¬ (eg_gi (eg_si M 121 1 (nI 0)) 121 3) ≤ b))) = 0) => ?_) (fun (c2 : ¬ (b2i (decide (¬ b < 0 ∧ ¬ (eg_gi (eg_si M 121 1 (nI 0)) 121 3) ≤ b))) = 0) => ?_)
    · replace c2 := b2i_d0.mp c2
      refine And.intro (fun z => absurd z (by decide)) ?_
      refine And.intro (fun z => absurd z (by decide)) ?_
      show Qp (.inl (some (.int (nI 0)))) (eg_si (eg_si M 121 1 (nI 0)) 121 1 (nI 1))
      exact l0 (Or.inr c2)
    · replace c2 := b2i_dn.mp c2
      refine And.intro (fun (c3 : (eg_gi M 121 4) = (nI 24)) => ?_) (fun (c3 : ¬ (eg_gi M 121 4) = (nI 24)) => ?_)
      · skip
        refine And.intro (fun z => absurd z (by decide)) ?_
        show Qp (.inl (some (.int (-nI 1)))) (eg_si M 121 1 (nI 0))
        exact l1 ⟨(Classical.byContradiction c1), ⟨(Classical.byContradiction c2), (Or.inl c3)⟩⟩
      · skip
        refine And.intro (fun (c4 : a = b) => ?_) (fun (c4 : ¬ a = b) => ?_)
        · skip
          refine And.intro (fun z => absurd z (by decide)) ?_
          show Qp (.inl (some (.int (-nI 1)))) (eg_si M 121 1 (nI 0))
          exact l1 ⟨(Classical.byContradiction c1), ⟨(Classical.byContradiction c2), (Or.inr (Or.inl c4))⟩⟩
        · skip
          refine And.intro (show (True) from ?_) ?_
          · exact trivial
          refine And.intro (fun (c5 : (b2i (decide (¬ c < (nI 0) ∧ ¬ (nI 3599) < c))) = 0) => ?_) (fun (c5 : ¬ (b2i (decide (¬ c < (nI 0) ∧ ¬ (nI 3599) < c))) = 0) => ?_)
          · replace c5 := b2i_d0.mp c5
            refine And.intro (fun z => absurd z (by decide)) ?_
            show Qp (.inl (some (.int (-nI 1)))) (eg_si M 121 1 (nI 0))
            exact l1 ⟨(Classical.byContradiction c1), ⟨(Classical.byContradiction c2), (Or.inr (Or.inr c5))⟩⟩
          · replace c5 := b2i_dn.mp c5
            refine And.intro (show vp_in ((nI 2) * (eg_gi M 121 4)) 48 from ?_) ?_
            · exact g0 c1 c2 c3 c4 c5
            refine And.intro (show vp_in (((nI 2) * (eg_gi M 121 4)) + (nI 1)) 48 from ?_) ?_
            · exact g1 c1 c2 c3 c4 c5
            refine And.intro (show vp_in (eg_gi M 121 4) 24 from ?_) ?_
            · exact g2 c1 c2 c3 c4 c5
            refine And.intro (show vp_in (eg_gi M 121 4) 24 from ?_) ?_
            · exact g2 c1 c2 c3 c4 c5
            refine And.intro (fun z => absurd z (by decide)) ?_
            show Qp (.inl (some (.int (((eg_gi M 121 4) + (nI 1)) - (nI 1))))) (eg_si (eg_si (eg_si (eg_si (eg_si (eg_si M 121 1 (nI 0)) 127 ((nI 2) * (eg_gi M 121 4)).toNatClampNeg a) 127 (((nI 2) * (eg_gi M 121 4)) + (nI 1)).toNatClampNeg b) 128 (eg_gi M 121 4).toNatClampNeg c) 129 (eg_gi M 121 4).toNatClampNeg (eg_gi M 121 2)) 121 4 ((eg_gi M 121 4) + (nI 1)))
            exact l2 ⟨(Classical.byContradiction c1), ⟨(Classical.byContradiction c2), ⟨c3, ⟨c4, (Classical.byContradiction c5)⟩⟩⟩⟩

set_option maxRecDepth 100000 in
theorem au_X12_days {Qp : eg_P} {M : eg_M} (a : Int32)
  (l0 : (a < 0 ∨ ((nI 3599) < a ∨ ¬ ((eg_gi M 121 2) + a) ≤ (nI 3599))) → Qp (.inl (some (.int (nI 0)))) (eg_si (eg_si M 121 1 (nI 0)) 121 1 (nI 1)))
  (l1 : (¬ a < 0 ∧ (¬ (nI 3599) < a ∧ ((eg_gi M 121 2) + a) ≤ (nI 3599))) → Qp (.inl (some (.int ((eg_gi M 121 2) + a)))) (eg_si (eg_si M 121 1 (nI 0)) 121 2 ((eg_gi M 121 2) + a))) :
  s_X12_days [.ref 121, .int a] M Qp := by
  refine And.intro (fun (c1 : a < 0) => ?_) (fun (c1 : ¬ a < 0) => ?_)
  · skip
    refine And.intro (fun z => absurd z (by decide)) ?_
    refine And.intro (fun z => absurd z (by decide)) ?_
    show Qp (.inl (some (.int (nI 0)))) (eg_si (eg_si M 121 1 (nI 0)) 121 1 (nI 1))
    exact l0 (Or.inl c1)
  · skip
    refine And.intro (fun (c2 : (nI 3599) < a) => ?_) (fun (c2 : ¬ (nI 3599) < a) => ?_)
    · skip
      refine And.intro (fun z => absurd z (by decide)) ?_
      refine And.intro (fun z => absurd z (by decide)) ?_
      show Qp (.inl (some (.int (nI 0)))) (eg_si (eg_si M 121 1 (nI 0)) 121 1 (nI 1))
      exact l0 (Or.inr (Or.inl c2))
    · skip
      refine And.intro (fun (c3 : ((eg_gi M 121 2) + a) ≤ (nI 3599)) => ?_) (fun (c3 : ¬ ((eg_gi M 121 2) + a) ≤ (nI 3599)) => ?_)
      · skip
        refine And.intro (fun z => absurd z (by decide)) ?_
        show Qp (.inl (some (.int ((eg_gi M 121 2) + a)))) (eg_si (eg_si M 121 1 (nI 0)) 121 2 ((eg_gi M 121 2) + a))
        exact l1 ⟨c1, ⟨c2, c3⟩⟩
      · skip
        refine And.intro (fun z => absurd z (by decide)) ?_
        refine And.intro (fun z => absurd z (by decide)) ?_
        show Qp (.inl (some (.int (nI 0)))) (eg_si (eg_si M 121 1 (nI 0)) 121 1 (nI 1))
        exact l0 (Or.inr (Or.inr c3))

set_option maxRecDepth 100000 in
theorem au_X12_event {Qp : eg_P} {M : eg_M} (a : Int32) (b : Int32) (c : Int32) (d : Int32) (e : Int32) (f : Int32) (g : Int32)
  (g0 : (¬ (a < 0)) → (¬ ((nI 2) < a)) → (¬ (¬ (¬ b < 0 ∧ ¬ (eg_gi (eg_si M 121 1 (nI 0)) 121 4) ≤ b))) → (¬ ((eg_gi M 121 5) = (nI 200))) → (¬ (¬ ((a = 0 ∧ c = 0) ∨ (¬ a = 0 ∧ ((d = 0 ∧ ((a = (nI 2) ∧ (¬ (b2i (decide (¬ c < (nI 1) ∧ ¬ (nI 99999) < c))) = 0)) ∨ (¬ a = (nI 2) ∧ (¬ (b2i (decide (¬ c < (nI 1) ∧ ¬ (nI 200) < c))) = 0 ∧ (¬ (b2i (decide (¬ e < (nI 1) ∧ ¬ (nI 30) < e))) = 0 ∧ (¬ (b2i (decide (¬ f < (nI 0) ∧ ¬ c < f))) = 0)))))) ∨ (¬ d = 0 ∧ ((d = (nI 1) ∧ ((a = (nI 2) ∧ (¬ (b2i (decide (¬ c < (nI 1) ∧ ¬ (nI 99999) < c))) = 0)) ∨ (¬ a = (nI 2) ∧ (¬ (b2i (decide (¬ c < (nI 1) ∧ ¬ (nI 200) < c))) = 0 ∧ (¬ (b2i (decide (¬ e < (nI 1) ∧ ¬ (nI 30) < e))) = 0 ∧ (¬ (b2i (decide (¬ f < (nI 0) ∧ ¬ c < f))) = 0)))))) ∨ (¬ d = (nI 1) ∧ (¬ a = (nI 2) ∧ False))))))))) → (¬ (¬ (¬ g < (nI 0) ∧ ¬ (eg_gi M 121 2) < g))) → (vp_in (eg_gi M 121 5) 200))
  (l0 : (a < 0 ∨ ((nI 2) < a ∨ (¬ (¬ b < 0 ∧ ¬ (eg_gi (eg_si M 121 1 (nI 0)) 121 4) ≤ b)))) → Qp (.inl (some (.int (nI 0)))) (eg_si (eg_si M 121 1 (nI 0)) 121 1 (nI 1)))
  (l1 : (¬ a < 0 ∧ (¬ (nI 2) < a ∧ ((¬ b < 0 ∧ ¬ (eg_gi (eg_si M 121 1 (nI 0)) 121 4) ≤ b) ∧ ((eg_gi M 121 5) = (nI 200) ∨ ((¬ ((a = 0 ∧ c = 0) ∨ (¬ a = 0 ∧ ((d = 0 ∧ ((a = (nI 2) ∧ (¬ (b2i (decide (¬ c < (nI 1) ∧ ¬ (nI 99999) < c))) = 0)) ∨ (¬ a = (nI 2) ∧ (¬ (b2i (decide (¬ c < (nI 1) ∧ ¬ (nI 200) < c))) = 0 ∧ (¬ (b2i (decide (¬ e < (nI 1) ∧ ¬ (nI 30) < e))) = 0 ∧ (¬ (b2i (decide (¬ f < (nI 0) ∧ ¬ c < f))) = 0)))))) ∨ (¬ d = 0 ∧ ((d = (nI 1) ∧ ((a = (nI 2) ∧ (¬ (b2i (decide (¬ c < (nI 1) ∧ ¬ (nI 99999) < c))) = 0)) ∨ (¬ a = (nI 2) ∧ (¬ (b2i (decide (¬ c < (nI 1) ∧ ¬ (nI 200) < c))) = 0 ∧ (¬ (b2i (decide (¬ e < (nI 1) ∧ ¬ (nI 30) < e))) = 0 ∧ (¬ (b2i (decide (¬ f < (nI 0) ∧ ¬ c < f))) = 0)))))) ∨ (¬ d = (nI 1) ∧ (¬ a = (nI 2) ∧ False)))))))) ∨ (¬ (¬ g < (nI 0) ∧ ¬ (eg_gi M 121 2) < g))))))) → Qp (.inl (some (.int (-nI 1)))) (eg_si M 121 1 (nI 0)))
  (l2 : (¬ a < 0 ∧ (¬ (nI 2) < a ∧ ((¬ b < 0 ∧ ¬ (eg_gi (eg_si M 121 1 (nI 0)) 121 4) ≤ b) ∧ (¬ (eg_gi M 121 5) = (nI 200) ∧ (((a = 0 ∧ c = 0) ∨ (¬ a = 0 ∧ ((d = 0 ∧ ((a = (nI 2) ∧ (¬ (b2i (decide (¬ c < (nI 1) ∧ ¬ (nI 99999) < c))) = 0)) ∨ (¬ a = (nI 2) ∧ (¬ (b2i (decide (¬ c < (nI 1) ∧ ¬ (nI 200) < c))) = 0 ∧ (¬ (b2i (decide (¬ e < (nI 1) ∧ ¬ (nI 30) < e))) = 0 ∧ (¬ (b2i (decide (¬ f < (nI 0) ∧ ¬ c < f))) = 0)))))) ∨ (¬ d = 0 ∧ ((d = (nI 1) ∧ ((a = (nI 2) ∧ (¬ (b2i (decide (¬ c < (nI 1) ∧ ¬ (nI 99999) < c))) = 0)) ∨ (¬ a = (nI 2) ∧ (¬ (b2i (decide (¬ c < (nI 1) ∧ ¬ (nI 200) < c))) = 0 ∧ (¬ (b2i (decide (¬ e < (nI 1) ∧ ¬ (nI 30) < e))) = 0 ∧ (¬ (b2i (decide (¬ f < (nI 0) ∧ ¬ c < f))) = 0)))))) ∨ (¬ d = (nI 1) ∧ (¬ a = (nI 2) ∧ False))))))) ∧ ((¬ g < (nI 0) ∧ ¬ (eg_gi M 121 2) < g))))))) → Qp (.inl (some (.int (((eg_gi M 121 5) + (nI 1)) - (nI 1))))) (eg_si (eg_si (eg_si (eg_si (eg_si (eg_si (eg_si (eg_si (eg_si (eg_si (eg_si M 121 1 (nI 0)) 130 (eg_gi M 121 5).toNatClampNeg a) 131 (eg_gi M 121 5).toNatClampNeg b) 132 (eg_gi M 121 5).toNatClampNeg c) 133 (eg_gi M 121 5).toNatClampNeg d) 134 (eg_gi M 121 5).toNatClampNeg e) 135 (eg_gi M 121 5).toNatClampNeg f) 136 (eg_gi M 121 5).toNatClampNeg g) 137 (eg_gi M 121 5).toNatClampNeg (eg_gi M 121 2)) 138 (eg_gi M 121 5).toNatClampNeg (-nI 1)) 121 5 ((eg_gi M 121 5) + (nI 1)))) :
  s_X12_event [.ref 121, .int a, .int b, .int c, .int d, .int e, .int f, .int g] M Qp := by
  refine And.intro (fun (c1 : a < 0) => ?_) (fun (c1 : ¬ a < 0) => ?_)
  · skip
    refine And.intro (fun z => absurd z (by decide)) ?_
    refine And.intro (fun z => absurd z (by decide)) ?_
    show Qp (.inl (some (.int (nI 0)))) (eg_si (eg_si M 121 1 (nI 0)) 121 1 (nI 1))
    exact l0 (Or.inl c1)
  · skip
    refine And.intro (fun (c2 : (nI 2) < a) => ?_) (fun (c2 : ¬ (nI 2) < a) => ?_)
    · skip
      refine And.intro (fun z => absurd z (by decide)) ?_
      refine And.intro (fun z => absurd z (by decide)) ?_
      show Qp (.inl (some (.int (nI 0)))) (eg_si (eg_si M 121 1 (nI 0)) 121 1 (nI 1))
      exact l0 (Or.inr (Or.inl c2))
    · skip
      refine And.intro (show (True) from ?_) ?_
      · exact trivial
      refine And.intro (fun (c3 : (b2i (decide (¬ b < 0 ∧ ¬ (eg_gi (eg_si M 121 1 (nI 0)) 121 4) ≤ b))) = 0) => ?_) (fun (c3 : ¬ (b2i (decide (¬ b < 0 ∧ ¬ (eg_gi (eg_si M 121 1 (nI 0)) 121 4) ≤ b))) = 0) => ?_)
      · replace c3 := b2i_d0.mp c3
        refine And.intro (fun z => absurd z (by decide)) ?_
        refine And.intro (fun z => absurd z (by decide)) ?_
        show Qp (.inl (some (.int (nI 0)))) (eg_si (eg_si M 121 1 (nI 0)) 121 1 (nI 1))
        exact l0 (Or.inr (Or.inr c3))
      · replace c3 := b2i_dn.mp c3
        refine And.intro (fun (c4 : (eg_gi M 121 5) = (nI 200)) => ?_) (fun (c4 : ¬ (eg_gi M 121 5) = (nI 200)) => ?_)
        · skip
          refine And.intro (fun z => absurd z (by decide)) ?_
          show Qp (.inl (some (.int (-nI 1)))) (eg_si M 121 1 (nI 0))
          exact l1 ⟨c1, ⟨c2, ⟨(Classical.byContradiction c3), (Or.inl c4)⟩⟩⟩
        · skip
          refine And.intro (show (True) from ?_) ?_
          · exact trivial
          refine And.intro (fun (c5 : (b2i (decide ((a = 0 ∧ c = 0) ∨ (¬ a = 0 ∧ ((d = 0 ∧ ((a = (nI 2) ∧ (¬ (b2i (decide (¬ c < (nI 1) ∧ ¬ (nI 99999) < c))) = 0)) ∨ (¬ a = (nI 2) ∧ (¬ (b2i (decide (¬ c < (nI 1) ∧ ¬ (nI 200) < c))) = 0 ∧ (¬ (b2i (decide (¬ e < (nI 1) ∧ ¬ (nI 30) < e))) = 0 ∧ (¬ (b2i (decide (¬ f < (nI 0) ∧ ¬ c < f))) = 0)))))) ∨ (¬ d = 0 ∧ ((d = (nI 1) ∧ ((a = (nI 2) ∧ (¬ (b2i (decide (¬ c < (nI 1) ∧ ¬ (nI 99999) < c))) = 0)) ∨ (¬ a = (nI 2) ∧ (¬ (b2i (decide (¬ c < (nI 1) ∧ ¬ (nI 200) < c))) = 0 ∧ (¬ (b2i (decide (¬ e < (nI 1) ∧ ¬ (nI 30) < e))) = 0 ∧ (¬ (b2i (decide (¬ f < (nI 0) ∧ ¬ c < f))) = 0)))))) ∨ (¬ d = (nI 1) ∧ (¬ a = (nI 2) ∧ False))))))))) = 0) => ?_) (fun (c5 : ¬ (b2i (decide ((a = 0 ∧ c = 0) ∨ (¬ a = 0 ∧ ((d = 0 ∧ ((a = (nI 2) ∧ (¬ (b2i (decide (¬ c < (nI 1) ∧ ¬ (nI 99999) < c))) = 0)) ∨ (¬ a = (nI 2) ∧ (¬ (b2i (decide (¬ c < (nI 1) ∧ ¬ (nI 200) < c))) = 0 ∧ (¬ (b2i (decide (¬ e < (nI 1) ∧ ¬ (nI 30) < e))) = 0 ∧ (¬ (b2i (decide (¬ f < (nI 0) ∧ ¬ c < f))) = 0)))))) ∨ (¬ d = 0 ∧ ((d = (nI 1) ∧ ((a = (nI 2) ∧ (¬ (b2i (decide (¬ c < (nI 1) ∧ ¬ (nI 99999) < c))) = 0)) ∨ (¬ a = (nI 2) ∧ (¬ (b2i (decide (¬ c < (nI 1) ∧ ¬ (nI 200) < c))) = 0 ∧ (¬ (b2i (decide (¬ e < (nI 1) ∧ ¬ (nI 30) < e))) = 0 ∧ (¬ (b2i (decide (¬ f < (nI 0) ∧ ¬ c < f))) = 0)))))) ∨ (¬ d = (nI 1) ∧ (¬ a = (nI 2) ∧ False))))))))) = 0) => ?_)
          · replace c5 := b2i_d0.mp c5
            refine And.intro (fun z => absurd z (by decide)) ?_
            show Qp (.inl (some (.int (-nI 1)))) (eg_si M 121 1 (nI 0))
            exact l1 ⟨c1, ⟨c2, ⟨(Classical.byContradiction c3), (Or.inr (Or.inl c5))⟩⟩⟩
          · replace c5 := b2i_dn.mp c5
            refine And.intro (show (True) from ?_) ?_
            · exact trivial
            refine And.intro (fun (c6 : (b2i (decide (¬ g < (nI 0) ∧ ¬ (eg_gi M 121 2) < g))) = 0) => ?_) (fun (c6 : ¬ (b2i (decide (¬ g < (nI 0) ∧ ¬ (eg_gi M 121 2) < g))) = 0) => ?_)
            · replace c6 := b2i_d0.mp c6
              refine And.intro (fun z => absurd z (by decide)) ?_
              show Qp (.inl (some (.int (-nI 1)))) (eg_si M 121 1 (nI 0))
              exact l1 ⟨c1, ⟨c2, ⟨(Classical.byContradiction c3), (Or.inr (Or.inr c6))⟩⟩⟩
            · replace c6 := b2i_dn.mp c6
              refine And.intro (show vp_in (eg_gi M 121 5) 200 from ?_) ?_
              · exact g0 c1 c2 c3 c4 c5 c6
              refine And.intro (show vp_in (eg_gi M 121 5) 200 from ?_) ?_
              · exact g0 c1 c2 c3 c4 c5 c6
              refine And.intro (show vp_in (eg_gi M 121 5) 200 from ?_) ?_
              · exact g0 c1 c2 c3 c4 c5 c6
              refine And.intro (show vp_in (eg_gi M 121 5) 200 from ?_) ?_
              · exact g0 c1 c2 c3 c4 c5 c6
              refine And.intro (show vp_in (eg_gi M 121 5) 200 from ?_) ?_
              · exact g0 c1 c2 c3 c4 c5 c6
              refine And.intro (show vp_in (eg_gi M 121 5) 200 from ?_) ?_
              · exact g0 c1 c2 c3 c4 c5 c6
              refine And.intro (show vp_in (eg_gi M 121 5) 200 from ?_) ?_
              · exact g0 c1 c2 c3 c4 c5 c6
              refine And.intro (show vp_in (eg_gi M 121 5) 200 from ?_) ?_
              · exact g0 c1 c2 c3 c4 c5 c6
              refine And.intro (show vp_in (eg_gi M 121 5) 200 from ?_) ?_
              · exact g0 c1 c2 c3 c4 c5 c6
              refine And.intro (fun z => absurd z (by decide)) ?_
              show Qp (.inl (some (.int (((eg_gi M 121 5) + (nI 1)) - (nI 1))))) (eg_si (eg_si (eg_si (eg_si (eg_si (eg_si (eg_si (eg_si (eg_si (eg_si (eg_si M 121 1 (nI 0)) 130 (eg_gi M 121 5).toNatClampNeg a) 131 (eg_gi M 121 5).toNatClampNeg b) 132 (eg_gi M 121 5).toNatClampNeg c) 133 (eg_gi M 121 5).toNatClampNeg d) 134 (eg_gi M 121 5).toNatClampNeg e) 135 (eg_gi M 121 5).toNatClampNeg f) 136 (eg_gi M 121 5).toNatClampNeg g) 137 (eg_gi M 121 5).toNatClampNeg (eg_gi M 121 2)) 138 (eg_gi M 121 5).toNatClampNeg (-nI 1)) 121 5 ((eg_gi M 121 5) + (nI 1)))
              exact l2 ⟨c1, ⟨c2, ⟨(Classical.byContradiction c3), ⟨c4, ⟨(Classical.byContradiction c5), (Classical.byContradiction c6)⟩⟩⟩⟩⟩

set_option maxRecDepth 100000 in
theorem au_X12_back {Qp : eg_P} {M : eg_M} (a : Int32)
  (g0 : (¬ (¬ (¬ a < 0 ∧ ¬ (eg_gi (eg_si M 121 1 (nI 0)) 121 5) ≤ a))) → (vp_in a 200))
  (l0 : (¬ (¬ a < 0 ∧ ¬ (eg_gi (eg_si M 121 1 (nI 0)) 121 5) ≤ a)) → Qp (.inl (some (.int (nI 0)))) (eg_si (eg_si M 121 1 (nI 0)) 121 1 (nI 1)))
  (l1 : ((¬ a < 0 ∧ ¬ (eg_gi (eg_si M 121 1 (nI 0)) 121 5) ≤ a) ∧ (eg_gi M 138 a.toNatClampNeg) = (-nI 1)) → Qp (.inl (some (.int (nI 1)))) (eg_si (eg_si M 121 1 (nI 0)) 138 a.toNatClampNeg (eg_gi M 121 2)))
  (l2 : ((¬ a < 0 ∧ ¬ (eg_gi (eg_si M 121 1 (nI 0)) 121 5) ≤ a) ∧ ¬ (eg_gi M 138 a.toNatClampNeg) = (-nI 1)) → Qp (.inl (some (.int (nI 0)))) (eg_si M 121 1 (nI 0))) :
  s_X12_back [.ref 121, .int a] M Qp := by
  refine And.intro (show (True) from ?_) ?_
  · exact trivial
  refine And.intro (fun (c1 : (b2i (decide (¬ a < 0 ∧ ¬ (eg_gi (eg_si M 121 1 (nI 0)) 121 5) ≤ a))) = 0) => ?_) (fun (c1 : ¬ (b2i (decide (¬ a < 0 ∧ ¬ (eg_gi (eg_si M 121 1 (nI 0)) 121 5) ≤ a))) = 0) => ?_)
  · replace c1 := b2i_d0.mp c1
    refine And.intro (fun _ => (show (nI 0) = 0 ∨ (nI 0) = 1 from ?_)) ?_
    · exact Or.inl rfl
    refine And.intro (fun _ => (show (nI 0) = 0 ∨ (nI 0) = 1 from ?_)) ?_
    · exact Or.inl rfl
    show Qp (.inl (some (.int (nI 0)))) (eg_si (eg_si M 121 1 (nI 0)) 121 1 (nI 1))
    exact l0 c1
  · replace c1 := b2i_dn.mp c1
    refine And.intro (show vp_in a 200 from ?_) ?_
    · exact g0 c1
    refine And.intro (fun (c2 : (eg_gi M 138 a.toNatClampNeg) = (-nI 1)) => ?_) (fun (c2 : ¬ (eg_gi M 138 a.toNatClampNeg) = (-nI 1)) => ?_)
    · skip
      refine And.intro (show vp_in a 200 from ?_) ?_
      · exact g0 c1
      refine And.intro (fun _ => (show (nI 1) = 0 ∨ (nI 1) = 1 from ?_)) ?_
      · exact Or.inr rfl
      show Qp (.inl (some (.int (nI 1)))) (eg_si (eg_si M 121 1 (nI 0)) 138 a.toNatClampNeg (eg_gi M 121 2))
      exact l1 ⟨(Classical.byContradiction c1), c2⟩
    · skip
      refine And.intro (fun _ => (show (nI 0) = 0 ∨ (nI 0) = 1 from ?_)) ?_
      · exact Or.inl rfl
      show Qp (.inl (some (.int (nI 0)))) (eg_si M 121 1 (nI 0))
      exact l2 ⟨(Classical.byContradiction c1), c2⟩

set_option maxRecDepth 100000 in
theorem au_X12_fault {Qp : eg_P} {M : eg_M} 
  (l0 : Qp (.inl (some (.int (eg_gi M 121 33)))) (eg_si M 121 1 (nI 0))) :
  s_X12_fault [.ref 121] M Qp := by
  refine And.intro (fun z => absurd z (by decide)) ?_
  show Qp (.inl (some (.int (eg_gi M 121 33)))) (eg_si M 121 1 (nI 0))
  exact l0

set_option maxRecDepth 100000 in
theorem au_X12_empty {Qp : eg_P} {M : eg_M} 
  (l0 : Qp (.inl none) (eg_si (eg_si (eg_si M 121 1 (nI 0)) 121 52 (nI 0)) 121 53 (nI 0))) :
  s_X12_empty [.ref 121] M Qp := by
  show Qp (.inl none) (eg_si (eg_si (eg_si M 121 1 (nI 0)) 121 52 (nI 0)) 121 53 (nI 0))
  exact l0

set_option maxRecDepth 100000 in
theorem au_X12_home {Qp : eg_P} {M : eg_M} (a : Int32) (b : Int32) (c : Int32) (d : Int32)
  (g0 : (¬ ((eg_gi M 121 52) = (nI 6))) → (¬ (¬ (¬ a < (nI 1) ∧ ¬ (nI 4) < a))) → (¬ (¬ (¬ b < (nI 0) ∧ ¬ (nI 255) < b))) → (¬ (¬ (¬ d < (nI 0) ∧ ¬ (nI 99) < d))) → (vp_in (eg_gi M 121 52) 6))
  (g1 : (¬ ((eg_gi M 121 52) = (nI 6))) → (¬ (¬ (¬ a < (nI 1) ∧ ¬ (nI 4) < a))) → (¬ (¬ (¬ b < (nI 0) ∧ ¬ (nI 255) < b))) → (¬ (¬ (¬ d < (nI 0) ∧ ¬ (nI 99) < d))) → (c = 0 ∨ c = 1))
  (l0 : ((eg_gi M 121 52) = (nI 6) ∨ ((¬ (¬ a < (nI 1) ∧ ¬ (nI 4) < a)) ∨ ((¬ (¬ b < (nI 0) ∧ ¬ (nI 255) < b)) ∨ (¬ (¬ d < (nI 0) ∧ ¬ (nI 99) < d))))) → Qp (.inl (some (.int (-nI 1)))) (eg_si M 121 1 (nI 0)))
  (l1 : (¬ (eg_gi M 121 52) = (nI 6) ∧ ((¬ a < (nI 1) ∧ ¬ (nI 4) < a) ∧ ((¬ b < (nI 0) ∧ ¬ (nI 255) < b) ∧ ((¬ d < (nI 0) ∧ ¬ (nI 99) < d))))) → Qp (.inl (some (.int (((eg_gi M 121 52) + (nI 1)) - (nI 1))))) (eg_si (eg_si (eg_si (eg_si (eg_si (eg_si M 121 1 (nI 0)) 155 (eg_gi M 121 52).toNatClampNeg a) 156 (eg_gi M 121 52).toNatClampNeg b) 162 (eg_gi M 121 52).toNatClampNeg c) 157 (eg_gi M 121 52).toNatClampNeg d) 121 52 ((eg_gi M 121 52) + (nI 1)))) :
  s_X12_home [.ref 121, .int a, .int b, .int c, .int d] M Qp := by
  refine And.intro (fun (c1 : (eg_gi M 121 52) = (nI 6)) => ?_) (fun (c1 : ¬ (eg_gi M 121 52) = (nI 6)) => ?_)
  · skip
    refine And.intro (fun z => absurd z (by decide)) ?_
    show Qp (.inl (some (.int (-nI 1)))) (eg_si M 121 1 (nI 0))
    exact l0 (Or.inl c1)
  · skip
    refine And.intro (show (True) from ?_) ?_
    · exact trivial
    refine And.intro (fun (c2 : (b2i (decide (¬ a < (nI 1) ∧ ¬ (nI 4) < a))) = 0) => ?_) (fun (c2 : ¬ (b2i (decide (¬ a < (nI 1) ∧ ¬ (nI 4) < a))) = 0) => ?_)
    · replace c2 := b2i_d0.mp c2
      refine And.intro (fun z => absurd z (by decide)) ?_
      show Qp (.inl (some (.int (-nI 1)))) (eg_si M 121 1 (nI 0))
      exact l0 (Or.inr (Or.inl c2))
    · replace c2 := b2i_dn.mp c2
      refine And.intro (show (True) from ?_) ?_
      · exact trivial
      refine And.intro (fun (c3 : (b2i (decide (¬ b < (nI 0) ∧ ¬ (nI 255) < b))) = 0) => ?_) (fun (c3 : ¬ (b2i (decide (¬ b < (nI 0) ∧ ¬ (nI 255) < b))) = 0) => ?_)
      · replace c3 := b2i_d0.mp c3
        refine And.intro (fun z => absurd z (by decide)) ?_
        show Qp (.inl (some (.int (-nI 1)))) (eg_si M 121 1 (nI 0))
        exact l0 (Or.inr (Or.inr (Or.inl c3)))
      · replace c3 := b2i_dn.mp c3
        refine And.intro (show (True) from ?_) ?_
        · exact trivial
        refine And.intro (fun (c4 : (b2i (decide (¬ d < (nI 0) ∧ ¬ (nI 99) < d))) = 0) => ?_) (fun (c4 : ¬ (b2i (decide (¬ d < (nI 0) ∧ ¬ (nI 99) < d))) = 0) => ?_)
        · replace c4 := b2i_d0.mp c4
          refine And.intro (fun z => absurd z (by decide)) ?_
          show Qp (.inl (some (.int (-nI 1)))) (eg_si M 121 1 (nI 0))
          exact l0 (Or.inr (Or.inr (Or.inr c4)))
        · replace c4 := b2i_dn.mp c4
          refine And.intro (show vp_in (eg_gi M 121 52) 6 from ?_) ?_
          · exact g0 c1 c2 c3 c4
          refine And.intro (show vp_in (eg_gi M 121 52) 6 from ?_) ?_
          · exact g0 c1 c2 c3 c4
          refine And.intro (show vp_in (eg_gi M 121 52) 6 from ?_) ?_
          · exact g0 c1 c2 c3 c4
          refine And.intro (show c = 0 ∨ c = 1 from ?_) ?_
          · exact g1 c1 c2 c3 c4
          refine And.intro (show vp_in (eg_gi M 121 52) 6 from ?_) ?_
          · exact g0 c1 c2 c3 c4
          refine And.intro (fun z => absurd z (by decide)) ?_
          show Qp (.inl (some (.int (((eg_gi M 121 52) + (nI 1)) - (nI 1))))) (eg_si (eg_si (eg_si (eg_si (eg_si (eg_si M 121 1 (nI 0)) 155 (eg_gi M 121 52).toNatClampNeg a) 156 (eg_gi M 121 52).toNatClampNeg b) 162 (eg_gi M 121 52).toNatClampNeg c) 157 (eg_gi M 121 52).toNatClampNeg d) 121 52 ((eg_gi M 121 52) + (nI 1)))
          exact l1 ⟨c1, ⟨(Classical.byContradiction c2), ⟨(Classical.byContradiction c3), (Classical.byContradiction c4)⟩⟩⟩

set_option maxRecDepth 100000 in
theorem au_X12_guest {Qp : eg_P} {M : eg_M} (a : Int32) (b : Int32) (c : Int32)
  (g0 : (¬ ((eg_gi M 121 53) = (nI 8))) → (¬ (¬ (¬ a < (nI 0) ∧ ¬ (nI 255) < a))) → (¬ (¬ (¬ b < (nI 0) ∧ ¬ (nI 99) < b))) → (vp_in (eg_gi M 121 53) 8))
  (g1 : (¬ ((eg_gi M 121 53) = (nI 8))) → (¬ (¬ (¬ a < (nI 0) ∧ ¬ (nI 255) < a))) → (¬ (¬ (¬ b < (nI 0) ∧ ¬ (nI 99) < b))) → (c = 0 ∨ c = 1))
  (l0 : ((eg_gi M 121 53) = (nI 8) ∨ ((¬ (¬ a < (nI 0) ∧ ¬ (nI 255) < a)) ∨ (¬ (¬ b < (nI 0) ∧ ¬ (nI 99) < b)))) → Qp (.inl (some (.int (-nI 1)))) (eg_si M 121 1 (nI 0)))
  (l1 : (¬ (eg_gi M 121 53) = (nI 8) ∧ ((¬ a < (nI 0) ∧ ¬ (nI 255) < a) ∧ ((¬ b < (nI 0) ∧ ¬ (nI 99) < b)))) → Qp (.inl (some (.int (((eg_gi M 121 53) + (nI 1)) - (nI 1))))) (eg_si (eg_si (eg_si (eg_si (eg_si M 121 1 (nI 0)) 158 (eg_gi M 121 53).toNatClampNeg a) 159 (eg_gi M 121 53).toNatClampNeg b) 163 (eg_gi M 121 53).toNatClampNeg c) 121 53 ((eg_gi M 121 53) + (nI 1)))) :
  s_X12_guest [.ref 121, .int a, .int b, .int c] M Qp := by
  refine And.intro (fun (c1 : (eg_gi M 121 53) = (nI 8)) => ?_) (fun (c1 : ¬ (eg_gi M 121 53) = (nI 8)) => ?_)
  · skip
    refine And.intro (fun z => absurd z (by decide)) ?_
    show Qp (.inl (some (.int (-nI 1)))) (eg_si M 121 1 (nI 0))
    exact l0 (Or.inl c1)
  · skip
    refine And.intro (show (True) from ?_) ?_
    · exact trivial
    refine And.intro (fun (c2 : (b2i (decide (¬ a < (nI 0) ∧ ¬ (nI 255) < a))) = 0) => ?_) (fun (c2 : ¬ (b2i (decide (¬ a < (nI 0) ∧ ¬ (nI 255) < a))) = 0) => ?_)
    · replace c2 := b2i_d0.mp c2
      refine And.intro (fun z => absurd z (by decide)) ?_
      show Qp (.inl (some (.int (-nI 1)))) (eg_si M 121 1 (nI 0))
      exact l0 (Or.inr (Or.inl c2))
    · replace c2 := b2i_dn.mp c2
      refine And.intro (show (True) from ?_) ?_
      · exact trivial
      refine And.intro (fun (c3 : (b2i (decide (¬ b < (nI 0) ∧ ¬ (nI 99) < b))) = 0) => ?_) (fun (c3 : ¬ (b2i (decide (¬ b < (nI 0) ∧ ¬ (nI 99) < b))) = 0) => ?_)
      · replace c3 := b2i_d0.mp c3
        refine And.intro (fun z => absurd z (by decide)) ?_
        show Qp (.inl (some (.int (-nI 1)))) (eg_si M 121 1 (nI 0))
        exact l0 (Or.inr (Or.inr c3))
      · replace c3 := b2i_dn.mp c3
        refine And.intro (show vp_in (eg_gi M 121 53) 8 from ?_) ?_
        · exact g0 c1 c2 c3
        refine And.intro (show vp_in (eg_gi M 121 53) 8 from ?_) ?_
        · exact g0 c1 c2 c3
        refine And.intro (show vp_in (eg_gi M 121 53) 8 from ?_) ?_
        · exact g0 c1 c2 c3
        refine And.intro (show c = 0 ∨ c = 1 from ?_) ?_
        · exact g1 c1 c2 c3
        refine And.intro (fun z => absurd z (by decide)) ?_
        show Qp (.inl (some (.int (((eg_gi M 121 53) + (nI 1)) - (nI 1))))) (eg_si (eg_si (eg_si (eg_si (eg_si M 121 1 (nI 0)) 158 (eg_gi M 121 53).toNatClampNeg a) 159 (eg_gi M 121 53).toNatClampNeg b) 163 (eg_gi M 121 53).toNatClampNeg c) 121 53 ((eg_gi M 121 53) + (nI 1)))
        exact l1 ⟨c1, ⟨(Classical.byContradiction c2), (Classical.byContradiction c3)⟩⟩

set_option maxRecDepth 100000 in
theorem au_X12_lodged {Qp : eg_P} {M : eg_M} (a : Int32)
  (g0 : (¬ ((eg_gi M 121 54) = (-nI 1))) → (¬ (a < (-nI 1))) → (a < (eg_gi M 121 54)) → (¬ (a = (-nI 1))) → (vp_in a 8))
  (l0 : ((eg_gi M 121 54) = (-nI 1) ∨ (a < (-nI 1) ∨ ¬ a < (eg_gi M 121 54))) → Qp (.inl (some (.int (nI 0)))) (eg_si (eg_si M 121 1 (nI 0)) 121 1 (nI 1)))
  (l1 : (¬ (eg_gi M 121 54) = (-nI 1) ∧ (¬ a < (-nI 1) ∧ (a < (eg_gi M 121 54) ∧ a = (-nI 1)))) → Qp (.inl (some (.int ((eg_gl M 121 55).toInt32)))) (eg_si M 121 1 (nI 0)))
  (l2 : (¬ (eg_gi M 121 54) = (-nI 1) ∧ (¬ a < (-nI 1) ∧ (a < (eg_gi M 121 54) ∧ ¬ a = (-nI 1)))) → Qp (.inl (some (.int (eg_gi M 160 a.toNatClampNeg)))) (eg_si M 121 1 (nI 0))) :
  s_X12_lodged [.ref 121, .int a] M Qp := by
  refine And.intro (fun (c1 : (eg_gi M 121 54) = (-nI 1)) => ?_) (fun (c1 : ¬ (eg_gi M 121 54) = (-nI 1)) => ?_)
  · skip
    refine And.intro (fun z => absurd z (by decide)) ?_
    refine And.intro (fun z => absurd z (by decide)) ?_
    show Qp (.inl (some (.int (nI 0)))) (eg_si (eg_si M 121 1 (nI 0)) 121 1 (nI 1))
    exact l0 (Or.inl c1)
  · skip
    refine And.intro (fun (c2 : a < (-nI 1)) => ?_) (fun (c2 : ¬ a < (-nI 1)) => ?_)
    · skip
      refine And.intro (fun z => absurd z (by decide)) ?_
      refine And.intro (fun z => absurd z (by decide)) ?_
      show Qp (.inl (some (.int (nI 0)))) (eg_si (eg_si M 121 1 (nI 0)) 121 1 (nI 1))
      exact l0 (Or.inr (Or.inl c2))
    · skip
      refine And.intro (fun (c3 : a < (eg_gi M 121 54)) => ?_) (fun (c3 : ¬ a < (eg_gi M 121 54)) => ?_)
      · skip
        refine And.intro (fun (c4 : a = (-nI 1)) => ?_) (fun (c4 : ¬ a = (-nI 1)) => ?_)
        · skip
          refine And.intro (fun z => absurd z (by decide)) ?_
          show Qp (.inl (some (.int ((eg_gl M 121 55).toInt32)))) (eg_si M 121 1 (nI 0))
          exact l1 ⟨c1, ⟨c2, ⟨c3, c4⟩⟩⟩
        · skip
          refine And.intro (show vp_in a 8 from ?_) ?_
          · exact g0 c1 c2 c3 c4
          refine And.intro (fun z => absurd z (by decide)) ?_
          show Qp (.inl (some (.int (eg_gi M 160 a.toNatClampNeg)))) (eg_si M 121 1 (nI 0))
          exact l2 ⟨c1, ⟨c2, ⟨c3, c4⟩⟩⟩
      · skip
        refine And.intro (fun z => absurd z (by decide)) ?_
        refine And.intro (fun z => absurd z (by decide)) ?_
        show Qp (.inl (some (.int (nI 0)))) (eg_si (eg_si M 121 1 (nI 0)) 121 1 (nI 1))
        exact l0 (Or.inr (Or.inr c3))

set_option maxRecDepth 100000 in
theorem au_X12_clear {Qp : eg_P} {M : eg_M} 
  (l0 : Qp (.inl none) (eg_si (eg_si M 121 1 (nI 0)) 121 65 (nI 0))) :
  s_X12_clear [.ref 121] M Qp := by
  show Qp (.inl none) (eg_si (eg_si M 121 1 (nI 0)) 121 65 (nI 0))
  exact l0

set_option maxRecDepth 100000 in
theorem au_X12_planned {Qp : eg_P} {M : eg_M} (a : Int32)
  (g0 : (¬ ((eg_gi M 121 66) = (-nI 1))) → (¬ (a < (-nI 1))) → (a < (eg_gi M 121 66)) → (¬ (a = (-nI 1))) → (vp_in a 6))
  (l0 : ((eg_gi M 121 66) = (-nI 1) ∨ (a < (-nI 1) ∨ ¬ a < (eg_gi M 121 66))) → Qp (.inl (some (.int (nI 0)))) (eg_si (eg_si M 121 1 (nI 0)) 121 1 (nI 1)))
  (l1 : (¬ (eg_gi M 121 66) = (-nI 1) ∧ (¬ a < (-nI 1) ∧ (a < (eg_gi M 121 66) ∧ a = (-nI 1)))) → Qp (.inl (some (.int (eg_gi M 121 67)))) (eg_si M 121 1 (nI 0)))
  (l2 : (¬ (eg_gi M 121 66) = (-nI 1) ∧ (¬ a < (-nI 1) ∧ (a < (eg_gi M 121 66) ∧ ¬ a = (-nI 1)))) → Qp (.inl (some (.int (eg_gi M 168 a.toNatClampNeg)))) (eg_si M 121 1 (nI 0))) :
  s_X12_planned [.ref 121, .int a] M Qp := by
  refine And.intro (fun (c1 : (eg_gi M 121 66) = (-nI 1)) => ?_) (fun (c1 : ¬ (eg_gi M 121 66) = (-nI 1)) => ?_)
  · skip
    refine And.intro (fun z => absurd z (by decide)) ?_
    refine And.intro (fun z => absurd z (by decide)) ?_
    show Qp (.inl (some (.int (nI 0)))) (eg_si (eg_si M 121 1 (nI 0)) 121 1 (nI 1))
    exact l0 (Or.inl c1)
  · skip
    refine And.intro (fun (c2 : a < (-nI 1)) => ?_) (fun (c2 : ¬ a < (-nI 1)) => ?_)
    · skip
      refine And.intro (fun z => absurd z (by decide)) ?_
      refine And.intro (fun z => absurd z (by decide)) ?_
      show Qp (.inl (some (.int (nI 0)))) (eg_si (eg_si M 121 1 (nI 0)) 121 1 (nI 1))
      exact l0 (Or.inr (Or.inl c2))
    · skip
      refine And.intro (fun (c3 : a < (eg_gi M 121 66)) => ?_) (fun (c3 : ¬ a < (eg_gi M 121 66)) => ?_)
      · skip
        refine And.intro (fun (c4 : a = (-nI 1)) => ?_) (fun (c4 : ¬ a = (-nI 1)) => ?_)
        · skip
          refine And.intro (fun z => absurd z (by decide)) ?_
          show Qp (.inl (some (.int (eg_gi M 121 67)))) (eg_si M 121 1 (nI 0))
          exact l1 ⟨c1, ⟨c2, ⟨c3, c4⟩⟩⟩
        · skip
          refine And.intro (show vp_in a 6 from ?_) ?_
          · exact g0 c1 c2 c3 c4
          refine And.intro (fun z => absurd z (by decide)) ?_
          show Qp (.inl (some (.int (eg_gi M 168 a.toNatClampNeg)))) (eg_si M 121 1 (nI 0))
          exact l2 ⟨c1, ⟨c2, ⟨c3, c4⟩⟩⟩
      · skip
        refine And.intro (fun z => absurd z (by decide)) ?_
        refine And.intro (fun z => absurd z (by decide)) ?_
        show Qp (.inl (some (.int (nI 0)))) (eg_si (eg_si M 121 1 (nI 0)) 121 1 (nI 1))
        exact l0 (Or.inr (Or.inr c3))

set_option maxRecDepth 100000 in
theorem au_X12_friend {Qp : eg_P} {M : eg_M} (a : Int32)
  (g0 : (¬ (¬ (¬ a < 0 ∧ ¬ (eg_gi (eg_si M 121 1 (nI 0)) 121 3) ≤ a))) → (¬ ((eg_gi M 121 83) = 0)) → (vp_in a 16))
  (l0 : (¬ (¬ a < 0 ∧ ¬ (eg_gi (eg_si M 121 1 (nI 0)) 121 3) ≤ a)) → Qp (.inl (some (.int (nI 0)))) (eg_si (eg_si M 121 1 (nI 0)) 121 1 (nI 1)))
  (l1 : ((¬ a < 0 ∧ ¬ (eg_gi (eg_si M 121 1 (nI 0)) 121 3) ≤ a) ∧ (eg_gi M 121 83) = 0) → Qp (.inl (some (.int (-nI 1)))) (eg_si M 121 1 (nI 0)))
  (l2 : ((¬ a < 0 ∧ ¬ (eg_gi (eg_si M 121 1 (nI 0)) 121 3) ≤ a) ∧ ¬ (eg_gi M 121 83) = 0) → Qp (.inl (some (.int (eg_gi M 174 a.toNatClampNeg)))) (eg_si M 121 1 (nI 0))) :
  s_X12_friend [.ref 121, .int a] M Qp := by
  refine And.intro (show (True) from ?_) ?_
  · exact trivial
  refine And.intro (fun (c1 : (b2i (decide (¬ a < 0 ∧ ¬ (eg_gi (eg_si M 121 1 (nI 0)) 121 3) ≤ a))) = 0) => ?_) (fun (c1 : ¬ (b2i (decide (¬ a < 0 ∧ ¬ (eg_gi (eg_si M 121 1 (nI 0)) 121 3) ≤ a))) = 0) => ?_)
  · replace c1 := b2i_d0.mp c1
    refine And.intro (fun z => absurd z (by decide)) ?_
    refine And.intro (fun z => absurd z (by decide)) ?_
    show Qp (.inl (some (.int (nI 0)))) (eg_si (eg_si M 121 1 (nI 0)) 121 1 (nI 1))
    exact l0 c1
  · replace c1 := b2i_dn.mp c1
    refine And.intro (fun (c2 : (eg_gi M 121 83) = 0) => ?_) (fun (c2 : ¬ (eg_gi M 121 83) = 0) => ?_)
    · skip
      refine And.intro (fun z => absurd z (by decide)) ?_
      show Qp (.inl (some (.int (-nI 1)))) (eg_si M 121 1 (nI 0))
      exact l1 ⟨(Classical.byContradiction c1), c2⟩
    · skip
      refine And.intro (show vp_in a 16 from ?_) ?_
      · exact g0 c1 c2
      refine And.intro (fun z => absurd z (by decide)) ?_
      show Qp (.inl (some (.int (eg_gi M 174 a.toNatClampNeg)))) (eg_si M 121 1 (nI 0))
      exact l2 ⟨(Classical.byContradiction c1), c2⟩

set_option maxRecDepth 100000 in
theorem au_X12_count {Qp : eg_P} {M : eg_M} (a : Int32)
  (l0 : (a.toInt < 0 ∨ 8 < a.toInt) → Qp (.inl (some (.int (nI 0)))) (eg_si (eg_si M 121 1 (nI 0)) 121 1 (nI 1)))
  (l1 : (¬ (a.toInt < 0 ∨ 8 < a.toInt) ∧ a.toInt = 0) → Qp (.inl (some (.int (eg_gi M 121 2)))) (eg_si M 121 1 (nI 0)))
  (l2 : (¬ (a.toInt < 0 ∨ 8 < a.toInt) ∧ (¬ a.toInt = 0 ∧ a.toInt = 1)) → Qp (.inl (some (.int (eg_gi M 121 3)))) (eg_si M 121 1 (nI 0)))
  (l3 : (¬ (a.toInt < 0 ∨ 8 < a.toInt) ∧ (¬ a.toInt = 0 ∧ (¬ a.toInt = 1 ∧ a.toInt = 2))) → Qp (.inl (some (.int (eg_gi M 121 4)))) (eg_si M 121 1 (nI 0)))
  (l4 : (¬ (a.toInt < 0 ∨ 8 < a.toInt) ∧ (¬ a.toInt = 0 ∧ (¬ a.toInt = 1 ∧ (¬ a.toInt = 2 ∧ a.toInt = 3)))) → Qp (.inl (some (.int (eg_gi M 121 5)))) (eg_si M 121 1 (nI 0)))
  (l5 : (¬ (a.toInt < 0 ∨ 8 < a.toInt) ∧ (¬ a.toInt = 0 ∧ (¬ a.toInt = 1 ∧ (¬ a.toInt = 2 ∧ (¬ a.toInt = 3 ∧ a.toInt = 4))))) → Qp (.inl (some (.int (eg_gi M 121 52)))) (eg_si M 121 1 (nI 0)))
  (l6 : (¬ (a.toInt < 0 ∨ 8 < a.toInt) ∧ (¬ a.toInt = 0 ∧ (¬ a.toInt = 1 ∧ (¬ a.toInt = 2 ∧ (¬ a.toInt = 3 ∧ (¬ a.toInt = 4 ∧ a.toInt = 5)))))) → Qp (.inl (some (.int (eg_gi M 121 53)))) (eg_si M 121 1 (nI 0)))
  (l7 : (¬ (a.toInt < 0 ∨ 8 < a.toInt) ∧ (¬ a.toInt = 0 ∧ (¬ a.toInt = 1 ∧ (¬ a.toInt = 2 ∧ (¬ a.toInt = 3 ∧ (¬ a.toInt = 4 ∧ (¬ a.toInt = 5 ∧ a.toInt = 6))))))) → Qp (.inl (some (.int (eg_gi M 121 65)))) (eg_si M 121 1 (nI 0)))
  (l8 : (¬ (a.toInt < 0 ∨ 8 < a.toInt) ∧ (¬ a.toInt = 0 ∧ (¬ a.toInt = 1 ∧ (¬ a.toInt = 2 ∧ (¬ a.toInt = 3 ∧ (¬ a.toInt = 4 ∧ (¬ a.toInt = 5 ∧ (¬ a.toInt = 6 ∧ a.toInt = 7)))))))) → Qp (.inl (some (.int (eg_gi M 121 35)))) (eg_si M 121 1 (nI 0)))
  (l9 : (¬ (a.toInt < 0 ∨ 8 < a.toInt) ∧ (¬ a.toInt = 0 ∧ (¬ a.toInt = 1 ∧ (¬ a.toInt = 2 ∧ (¬ a.toInt = 3 ∧ (¬ a.toInt = 4 ∧ (¬ a.toInt = 5 ∧ (¬ a.toInt = 6 ∧ ¬ a.toInt = 7)))))))) → Qp (.inl (some (.int (eg_gi M 121 23)))) (eg_si M 121 1 (nI 0))) :
  s_X12_count [.ref 121, .int a] M Qp := by
  refine And.intro (fun (c1 : a.toInt < 0 ∨ 8 < a.toInt) => ?_) ?_
  · skip
    refine And.intro (fun z => absurd z (by decide)) ?_
    refine And.intro (fun z => absurd z (by decide)) ?_
    show Qp (.inl (some (.int (nI 0)))) (eg_si (eg_si M 121 1 (nI 0)) 121 1 (nI 1))
    exact l0 c1
  refine And.intro (fun (c2 : a.toInt = 0) => ?_) ?_
  · skip
    refine And.intro (fun z => absurd z (by decide)) ?_
    show Qp (.inl (some (.int (eg_gi M 121 2)))) (eg_si M 121 1 (nI 0))
    exact l1 (by clear l0 l1 l2 l3 l4 l5 l6 l7 l8 l9; grind)
  refine And.intro (fun (c3 : a.toInt = 1) => ?_) ?_
  · skip
    refine And.intro (fun z => absurd z (by decide)) ?_
    show Qp (.inl (some (.int (eg_gi M 121 3)))) (eg_si M 121 1 (nI 0))
    exact l2 (by clear l0 l1 l2 l3 l4 l5 l6 l7 l8 l9; grind)
  refine And.intro (fun (c4 : a.toInt = 2) => ?_) ?_
  · skip
    refine And.intro (fun z => absurd z (by decide)) ?_
    show Qp (.inl (some (.int (eg_gi M 121 4)))) (eg_si M 121 1 (nI 0))
    exact l3 (by clear l0 l1 l2 l3 l4 l5 l6 l7 l8 l9; grind)
  refine And.intro (fun (c5 : a.toInt = 3) => ?_) ?_
  · skip
    refine And.intro (fun z => absurd z (by decide)) ?_
    show Qp (.inl (some (.int (eg_gi M 121 5)))) (eg_si M 121 1 (nI 0))
    exact l4 (by clear l0 l1 l2 l3 l4 l5 l6 l7 l8 l9; grind)
  refine And.intro (fun (c6 : a.toInt = 4) => ?_) ?_
  · skip
    refine And.intro (fun z => absurd z (by decide)) ?_
    show Qp (.inl (some (.int (eg_gi M 121 52)))) (eg_si M 121 1 (nI 0))
    exact l5 (by clear l0 l1 l2 l3 l4 l5 l6 l7 l8 l9; grind)
  refine And.intro (fun (c7 : a.toInt = 5) => ?_) ?_
  · skip
    refine And.intro (fun z => absurd z (by decide)) ?_
    show Qp (.inl (some (.int (eg_gi M 121 53)))) (eg_si M 121 1 (nI 0))
    exact l6 (by clear l0 l1 l2 l3 l4 l5 l6 l7 l8 l9; grind)
  refine And.intro (fun (c8 : a.toInt = 6) => ?_) ?_
  · skip
    refine And.intro (fun z => absurd z (by decide)) ?_
    show Qp (.inl (some (.int (eg_gi M 121 65)))) (eg_si M 121 1 (nI 0))
    exact l7 (by clear l0 l1 l2 l3 l4 l5 l6 l7 l8 l9; grind)
  refine And.intro (fun (c9 : a.toInt = 7) => ?_) ?_
  · skip
    refine And.intro (fun z => absurd z (by decide)) ?_
    show Qp (.inl (some (.int (eg_gi M 121 35)))) (eg_si M 121 1 (nI 0))
    exact l8 (by clear l0 l1 l2 l3 l4 l5 l6 l7 l8 l9; grind)
  refine And.intro (fun (c10 : a.toInt = 8) => ?_) ?_
  · skip
    refine And.intro (fun z => absurd z (by decide)) ?_
    show Qp (.inl (some (.int (eg_gi M 121 23)))) (eg_si M 121 1 (nI 0))
    exact l9 (by clear l0 l1 l2 l3 l4 l5 l6 l7 l8 l9; grind)
  exact trivial

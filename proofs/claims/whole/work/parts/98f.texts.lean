/-! THE TEXTS AT THE START: two that read otherwise are two -/
theorem va_OF_one {o n d : String} {a b t : Nat} {A : Nat → Prop} {U : State} {H : Heap} (h1 : va_OF o n d (.ref a) t A U H) (h2 : va_OF o n d (.ref b) t A U H) : a = b := by
  obtain ⟨cf, k, i, f, cell, f1, f2, f3, f4, f5, f6⟩ := h1
  obtain ⟨cf', k', i', f', cell', g1, g2, g3, g4, g5, g6⟩ := h2
  have e1 : some (cf, k, i, f) = some (cf', k', i', f') := f1.symm.trans g1
  cases e1
  have e2 : some cell = some cell' := f3.symm.trans g3
  cases e2
  have e3 : some (Value.ref a) = some (.ref b) := f5.symm.trans g5
  cases e3
  rfl
theorem va_T_one {ty : FieldType} {t N N' : Nat} {f f' : Nat → Value} {A : Nat → Prop} {U : State} {H : Heap} (hN : N < 2 ^ 31) (hN' : N' < 2 ^ 31) (h1 : va_T ty t N f A U H) (h2 : va_T ty t N' f' A U H) : N = N' ∧ ∀ j, j < N → j < N' → f j = f' j := by
  obtain ⟨cell, f1, f2, f3, f4, f5, f6, f7⟩ := h1
  obtain ⟨cell', g1, g2, g3, g4, g5, g6, g7⟩ := h2
  have e2 : some cell = some cell' := f1.symm.trans g1
  cases e2
  refine ⟨?_, fun j a b => Option.some.inj ((f6 j a).symm.trans (g6 j b))⟩
  have e3 : Int32.ofNat N = Int32.ofNat N' := f5.symm.trans g5
  have e4 := congrArg Int32.toInt e3
  have e5 : (nI N).toInt = (nI N').toInt := e4
  rw [nI_toInt hN, nI_toInt hN'] at e5
  omega
theorem vk_Sof2 {args : Array Value} {s : State} {N : Nat} {tm : Nat → Term} {len : List Nat} {byt : List (List Int32)} {A : Nat → Prop} (hN : ∀ i : Nat, i < N → len.getD i 0 < 2 ^ 31) (hex : ∀ i : Nat, i < N → (Cond.exactly (tm i) "java/lang/String").before args s = true) (hco : ∀ i : Nat, i < N → (Cond.eq (.field (tm i) "java/lang/String" "coder" "B") (.int 0)).before args s = true)
    (har : ∀ i : Nat, i < N → (Cond.arrayOf (.field (tm i) "java/lang/String" "value" "[B") .byte).before args s = true) (hle : ∀ i : Nat, i < N → (Cond.eq (.length (.field (tm i) "java/lang/String" "value" "[B")) (.int (Int32.ofNat (len.getD i 0)))).before args s = true)
    (hel : ∀ i : Nat, i < N → ∀ j : Nat, j < len.getD i 0 → (Cond.eq (.elem (.field (tm i) "java/lang/String" "value" "[B") (.int (Int32.ofNat j))) (.int ((byt.getD i []).getD j 0))).before args s = true)
    (hdf : ∀ i j : Nat, i < N → j < N → i ≠ j → len.getD i 0 ≠ len.getD j 0 ∨ ∃ q, q < len.getD i 0 ∧ q < len.getD j 0 ∧ (byt.getD i []).getD q 0 ≠ (byt.getD j []).getD q 0) (hA : ∀ a : Nat, a < s.heap.size → ¬ A a) :
    ∃ adK adV : Nat → Nat, vk_S N len byt adK adV A s s.heap ∧ ∀ i : Nat, i < N → (tm i).eval args s none [] s = some (.ref (adK i)) := by
  have h0 : ∀ i : Nat, ∃ q : Nat × Nat, i < N → (tm i).eval args s none [] s = some (.ref q.1) ∧ va_O "java/lang/String" q.1 A s s.heap ∧ va_OF "java/lang/String" "coder" "B" (.int 0) q.1 A s s.heap ∧ va_OF "java/lang/String" "value" "[B" (.ref q.2) q.1 A s s.heap ∧ va_T .byte q.2 (len.getD i 0) (fun j => .int ((byt.getD i []).getD j 0)) A s s.heap := by
    intro i
    by_cases hi : i < N
    · obtain ⟨aK, aV, hS, hE⟩ := vk_Sof (args := args) (s := s) (N := 1) (tm := fun _ => tm i) (len := [len.getD i 0]) (byt := [byt.getD i []]) (A := A) (fun j hj => by
          rw [Nat.lt_one_iff.mp hj]
          exact hN i hi) (fun _ _ => hex i hi) (fun _ _ => hco i hi) (fun _ _ => har i hi) (fun j hj => by
          rw [Nat.lt_one_iff.mp hj]
          exact hle i hi) (fun j hj q hq => by
          have e := Nat.lt_one_iff.mp hj
          subst e
          exact hel i hi q hq) (fun a b ha hb hab => absurd ((Nat.lt_one_iff.mp ha).trans (Nat.lt_one_iff.mp hb).symm) hab) hA
      obtain ⟨f1, f2, f3, f4⟩ := hS.1 0 (by decide)
      exact ⟨(aK 0, aV 0), fun _ => ⟨hE 0 (by decide), f1, f2, f3, f4⟩⟩
    · exact ⟨(0, 0), fun h => absurd h hi⟩
  obtain ⟨ad, had⟩ := Classical.axiomOfChoice h0
  refine ⟨fun i => (ad i).1, fun i => (ad i).2, ⟨fun i hi => (had i hi).2, fun i j hi hj e => ?_⟩, fun i hi => (had i hi).1⟩
  by_cases hij : i = j
  · exact hij
  · exfalso
    obtain ⟨-, -, -, v1, t1⟩ := had i hi
    obtain ⟨-, -, -, v2, t2⟩ := had j hj
    have e : (ad i).1 = (ad j).1 := e
    rw [e] at v1
    have ev := va_OF_one v1 v2
    rw [ev] at t1
    obtain ⟨l1, l2⟩ := va_T_one (hN i hi) (hN j hj) t1 t2
    rcases hdf i j hi hj hij with z | ⟨q, q1, q2, z⟩
    · exact z l1
    · have z2 : Value.int ((byt.getD i []).getD q 0) = Value.int ((byt.getD j []).getD q 0) := l2 q q1 q2
      cases hb : (byt.getD i []).getD q 0
      exact z (by injection z2)
/-- our texts all read otherwise -/
theorem tx_dif : ∀ i, i < 32 → ∀ j, j < 32 → i ≠ j → tx_len.getD i 0 ≠ tx_len.getD j 0 ∨ ∃ q, q < 45 ∧ q < tx_len.getD i 0 ∧ q < tx_len.getD j 0 ∧ (tx_byt.getD i []).getD q 0 ≠ (tx_byt.getD j []).getD q 0 := by decide +kernel

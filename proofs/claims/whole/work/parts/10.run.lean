/-! RUNS: the least predicate, unrolled -/
def eg_mono (S : eg_S) : Prop := ∀ (argv : List Value) (M : eg_M) (Q Q' : eg_P), (∀ r N, Q r N → Q' r N) → S argv M Q → S argv M Q'
theorem eg_need_mono {b : Bool} {P Q : Prop} (h : P → Q) : eg_need b P → eg_need b Q := by
  cases b with
  | true => exact h
  | false => exact id
section ER
variable {w : eg_W} {k : eg_C} {P : eg_P} {X Y : eg_X} {pc cu su n : Nat} {ls : List (Option Value)} {st : List Value} {M : eg_M}
theorem eg_to_mono (hX : ∀ pc cu su ls st M, X pc cu su ls st M → Y pc cu su ls st M) {off : Int} : eg_to X pc off cu su ls st M → eg_to Y pc off cu su ls st M := eg_need_mono (hX _ _ _ _ _ _)
theorem eg_jc_mono {op : Jvm.ClassFile.Cond} {x y : Int32} {A B A' B' : Prop} (h1 : A → A') (h2 : B → B') : eg_jc op x y A B → eg_jc op x y A' B' := by
  cases op <;> first | exact fun h => ⟨fun z => h1 (h.1 z), fun z => h2 (h.2 z)⟩ | exact fun h => ⟨fun z => h2 (h.1 z), fun z => h1 (h.2 z)⟩
theorem eg_br_mono (hX : ∀ pc cu su ls st M, X pc cu su ls st M → Y pc cu su ls st M) {op : Jvm.ClassFile.Cond} {x y : Int32} {off : Int} : eg_br X op x y pc off cu su ls st M → eg_br Y op x y pc off cu su ls st M := eg_need_mono (eg_jc_mono (hX _ _ _ _ _ _) (hX _ _ _ _ _ _))
theorem eg_sw_mono (hX : ∀ pc cu su ls st M, X pc cu su ls st M → Y pc cu su ls st M) {x : Int32} : ∀ {offs : List Int} {lo : Int}, eg_sw X pc cu su ls st M x lo offs → eg_sw Y pc cu su ls st M x lo offs := by
  intro offs
  induction offs with
  | nil => intro lo h; exact h
  | cons a t ih => intro lo h; exact ⟨fun z => eg_to_mono hX (h.1 z), ih h.2⟩
theorem eg_load_mono (hX : ∀ pc cu su ls st M, X pc cu su ls st M → Y pc cu su ls st M) {t i : Nat} : eg_load X t i pc cu su ls st M → eg_load Y t i pc cu su ls st M := by
  unfold eg_load
  cases ls.getD i none with
  | none => exact id
  | some v => exact eg_need_mono (hX _ _ _ _ _ _)
variable {P' : eg_P}
theorem eg_ret_mono (hP : ∀ r N, P r N → P' r N) {v : Option Value} : eg_ret k P cu su v M → eg_ret k P' cu su v M := eg_need_mono (hP _ _)
theorem eg_call_mono2 (hk : ∀ q ∈ k.2.2.2.1, eg_mono q.2.2.2.2) (hP : ∀ r N, P r N → P' r N) (hX : ∀ pc cu su ls st M, X pc cu su ls st M → Y pc cu su ls st M) {j : Nat} : eg_call k P X j pc cu su ls st M → eg_call k P' Y j pc cu su ls st M := by
  unfold eg_call
  cases hq : eg_lq k.2.2.2.1 j with
  | none => exact id
  | some q =>
    obtain ⟨a, b, d, S⟩ := q
    refine eg_need_mono (hk _ (eg_lq_in hq) _ _ _ _ (fun r N h => ?_))
    cases r with
    | inl v => exact hX _ _ _ _ _ _ h
    | inr E => exact hP _ _ h
theorem eg_callE_mono2 (hk : ∀ q ∈ k.2.2.2.1, eg_mono q.2.2.2.2) (hX : ∀ pc cu su ls st M, X pc cu su ls st M → Y pc cu su ls st M) {j : Nat} : eg_callE k X j pc n cu su ls st M → eg_callE k Y j pc n cu su ls st M := by
  unfold eg_callE
  cases hq : eg_lq k.2.2.2.1 j with
  | none => exact id
  | some q =>
    obtain ⟨a, b, d, S⟩ := q
    refine eg_need_mono (hk _ (eg_lq_in hq) _ _ _ _ (fun r N h => ?_))
    cases r with
    | inl v => exact hX _ _ _ _ _ _ h
    | inr E => exact h
set_option maxHeartbeats 4000000 in
theorem eg_step_mono2 (hk : ∀ q ∈ k.2.2.2.1, eg_mono q.2.2.2.2) (hP : ∀ r N, P r N → P' r N) (hX : ∀ pc cu su ls st M, X pc cu su ls st M → Y pc cu su ls st M) {i : Instr} : eg_step w k P X pc cu su ls st M i n → eg_step w k P' Y pc cu su ls st M i n := by
  cases i with
  | iconst j => exact hX _ _ _ _ _ _
  | bipush j => exact eg_need_mono (hX _ _ _ _ _ _)
  | sipush j => exact eg_need_mono (hX _ _ _ _ _ _)
  | lconst j => exact hX _ _ _ _ _ _
  | iload_n j => exact eg_load_mono hX
  | iload j => exact eg_load_mono hX
  | lload_n j => exact eg_load_mono hX
  | lload j => exact eg_load_mono hX
  | aload_n j => exact eg_load_mono hX
  | aload j => exact eg_load_mono hX
  | goto off => exact eg_to_mono hX
  | invokevirtual j => exact eg_need_mono (eg_call_mono2 hk hP hX)
  | invokestatic j => exact eg_need_mono (eg_call_mono2 hk hP hX)
  | invokespecial j => exact eg_need_mono (eg_call_mono2 hk hP hX)
  | newarray t => exact eg_need_mono (eg_callE_mono2 hk hX)
  | anewarray j => exact eg_need_mono (eg_callE_mono2 hk hX)
  | multianewarray j d => exact eg_need_mono (eg_callE_mono2 hk hX)
  | aastore => exact eg_callE_mono2 hk hX
  | ifCond op off => dsimp only [eg_step]; split <;> first | exact eg_br_mono hX | exact id
  | if_icmp op off => dsimp only [eg_step]; split <;> first | exact eg_br_mono hX | exact id
  | tableswitch d lo hi offs => dsimp only [eg_step]; split <;> first | exact fun h => ⟨fun z => eg_to_mono hX (h.1 z), eg_need_mono (eg_sw_mono hX) h.2⟩ | exact id
  | getfield j =>
    dsimp only [eg_step]
    split
    · split <;> first | exact eg_need_mono (hX _ _ _ _ _ _) | exact id
    · exact id
  | putfield j =>
    dsimp only [eg_step]
    split
    · split
      · refine eg_need_mono ?_
        split
        · split <;> first | exact hX _ _ _ _ _ _ | exact id
        · split <;> first | exact hX _ _ _ _ _ _ | exact id
        · refine eg_need_mono ?_
          split <;> first | exact hX _ _ _ _ _ _ | exact id
        · split <;> first | exact fun h => ⟨h.1, hX _ _ _ _ _ _ h.2⟩ | exact id
        · exact id
      · exact id
    · exact id
  | ireturn => dsimp only [eg_step]; split <;> first | exact eg_need_mono (fun h => ⟨h.1, eg_ret_mono hP h.2⟩) | exact id
  | lreturn => dsimp only [eg_step]; split <;> first | exact eg_need_mono (eg_ret_mono hP) | exact id
  | areturn => dsimp only [eg_step]; split <;> first | exact eg_need_mono (eg_ret_mono hP) | exact id
  | return_ => dsimp only [eg_step]; split <;> first | exact eg_need_mono (eg_ret_mono hP) | exact id
  | new j => dsimp only [eg_step]; split <;> first | exact eg_need_mono (hP _ _) | exact eg_need_mono (hX _ _ _ _ _ _) | exact id
  | idiv => dsimp only [eg_step]; split <;> first | exact fun h => ⟨h.1, hX _ _ _ _ _ _ h.2⟩ | exact id
  | irem => dsimp only [eg_step]; split <;> first | exact fun h => ⟨h.1, hX _ _ _ _ _ _ h.2⟩ | exact id
  | ldiv => dsimp only [eg_step]; split <;> first | exact fun h => ⟨h.1, hX _ _ _ _ _ _ h.2⟩ | exact id
  | lrem => dsimp only [eg_step]; split <;> first | exact fun h => ⟨h.1, hX _ _ _ _ _ _ h.2⟩ | exact id
  | iaload => dsimp only [eg_step]; split <;> first | exact eg_need_mono (fun h => ⟨h.1, hX _ _ _ _ _ _ h.2⟩) | exact id
  | laload => dsimp only [eg_step]; split <;> first | exact eg_need_mono (fun h => ⟨h.1, hX _ _ _ _ _ _ h.2⟩) | exact id
  | baload => dsimp only [eg_step]; split <;> first | exact eg_need_mono (fun h => ⟨h.1, hX _ _ _ _ _ _ h.2⟩) | exact id
  | aaload => dsimp only [eg_step]; split <;> first | exact eg_need_mono (fun h => ⟨h.1, hX _ _ _ _ _ _ h.2⟩) | exact id
  | iastore => dsimp only [eg_step]; split <;> first | exact eg_need_mono (fun h => ⟨h.1, hX _ _ _ _ _ _ h.2⟩) | exact id
  | lastore => dsimp only [eg_step]; split <;> first | exact eg_need_mono (fun h => ⟨h.1, hX _ _ _ _ _ _ h.2⟩) | exact id
  | bastore => dsimp only [eg_step]; split <;> first | exact eg_need_mono (fun h => ⟨h.1, h.2.1, hX _ _ _ _ _ _ h.2.2⟩) | exact id
  | _ => first | exact id | (dsimp only [eg_step]; split <;> first | exact hX _ _ _ _ _ _ | exact eg_need_mono (hX _ _ _ _ _ _) | exact id)
theorem eg_at_mono2 (hk : ∀ q ∈ k.2.2.2.1, eg_mono q.2.2.2.2) (hP : ∀ r N, P r N → P' r N) (hX : ∀ pc cu su ls st M, X pc cu su ls st M → Y pc cu su ls st M) : eg_at w k P X pc cu su ls st M → eg_at w k P' Y pc cu su ls st M := by
  unfold eg_at
  cases eg_lq k.1 pc with
  | none => exact id
  | some q => exact eg_need_mono (eg_step_mono2 hk hP hX)
theorem eg_at_mono (hk : ∀ q ∈ k.2.2.2.1, eg_mono q.2.2.2.2) (hX : ∀ pc cu su ls st M, X pc cu su ls st M → Y pc cu su ls st M) : eg_at w k P X pc cu su ls st M → eg_at w k P Y pc cu su ls st M := eg_at_mono2 hk (fun _ _ => id) hX
theorem eg_run_mono (hk : ∀ q ∈ k.2.2.2.1, eg_mono q.2.2.2.2) (hP : ∀ r N, P r N → P' r N) (hX : ∀ pc cu su ls st M, X pc cu su ls st M → Y pc cu su ls st M) {cut : List Nat} : ∀ (n : Nat) {pc cu su : Nat} {ls : List (Option Value)} {st : List Value} {M : eg_M}, eg_run w k P X cut n pc cu su ls st M → eg_run w k P' Y cut n pc cu su ls st M := by
  intro n
  induction n with
  | zero => intro pc cu su ls st M h; exact hX _ _ _ _ _ _ h
  | succ n ih =>
    intro pc cu su ls st M h
    refine eg_at_mono2 hk hP (fun pc cu su ls st M g => ?_) h
    cases hc : eg_in cut pc with
    | true => rw [hc, cond_true] at g; rw [cond_true]; exact hX _ _ _ _ _ _ g
    | false => rw [hc, cond_false] at g; rw [cond_false]; exact ih g
theorem eg_T_fold (hk : ∀ q ∈ k.2.2.2.1, eg_mono q.2.2.2.2) (h : eg_at w k P (eg_T w k P) pc cu su ls st M) : eg_T w k P pc cu su ls st M :=
  fun X hX => hX _ _ _ _ _ _ (eg_at_mono hk (fun _ _ _ _ _ _ hT => hT X hX) h)
/-- a stretch of instructions, and what lies behind it -/
theorem eg_T_run (hk : ∀ q ∈ k.2.2.2.1, eg_mono q.2.2.2.2) {cut : List Nat} : ∀ (n : Nat) {pc cu su : Nat} {ls : List (Option Value)} {st : List Value} {M : eg_M}, eg_run w k P (eg_T w k P) cut n pc cu su ls st M → eg_T w k P pc cu su ls st M := by
  intro n
  induction n with
  | zero => intro pc cu su ls st M h; exact h
  | succ n ih =>
    intro pc cu su ls st M h
    refine eg_T_fold hk (eg_at_mono hk (fun pc cu su ls st M g => ?_) h)
    cases hc : eg_in cut pc with
    | true => rw [hc, cond_true] at g; exact g
    | false => rw [hc, cond_false] at g; exact ih g
end ER

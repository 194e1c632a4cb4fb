/-! reading rules: tokens and steps, in plain words -/
/-- a byte's kind: a letter -2, a digit -3, else itself -/
def lx_k (c : Int32) : Int32 := if c < (nI 97) then (if c < (nI 48) then c else (if (nI 57) < c then c else (-nI 3))) else (if (nI 122) < c then (if c < (nI 48) then c else (if (nI 57) < c then c else (-nI 3))) else (-nI 2))
/-- behind blanks -/
def lx_b (T : Nat → Int32) (n : Nat) : Nat → Nat → Nat
  | 0, p => p
  | f + 1, p => if p < n ∧ (T p = nI 32 ∨ T p = nI 10) then lx_b T n f (p + 1) else p
/-- behind a run of one kind -/
def lx_e (T : Nat → Int32) (n : Nat) (k : Int32) : Nat → Nat → Nat
  | 0, p => p
  | f + 1, p => if p < n ∧ lx_k (T p) = k then lx_e T n k f (p + 1) else p
abbrev px_T : Type := Nat × Nat × Int32
/-- the token from p on: where it begins, where it ends, its kind (-1: the end) -/
def lx (T : Nat → Int32) (n p : Nat) : px_T :=
  if n ≤ lx_b T n (n - p) p then (lx_b T n (n - p) p, lx_b T n (n - p) p, -nI 1)
  else (lx_b T n (n - p) p, (if lx_k (T (lx_b T n (n - p) p)) < 0 then lx_e T n (lx_k (T (lx_b T n (n - p) p))) (n - (lx_b T n (n - p) p + 1)) (lx_b T n (n - p) p + 1) else lx_b T n (n - p) p + 1), lx_k (T (lx_b T n (n - p) p)))
theorem lx_b_le {T : Nat → Int32} {n : Nat} : ∀ f p, p ≤ lx_b T n f p ∧ (p ≤ n → lx_b T n f p ≤ n)
  | 0, p => ⟨Nat.le_refl _, fun h => h⟩
  | f + 1, p => by
    rw [lx_b]
    split
    · rename_i h
      have := lx_b_le (T := T) (n := n) f (p + 1)
      exact ⟨by omega, fun _ => this.2 (by omega)⟩
    · exact ⟨Nat.le_refl _, fun h => h⟩
theorem lx_e_le {T : Nat → Int32} {n : Nat} {k : Int32} : ∀ f p, p ≤ lx_e T n k f p ∧ (p ≤ n → lx_e T n k f p ≤ n)
  | 0, p => ⟨Nat.le_refl _, fun h => h⟩
  | f + 1, p => by
    rw [lx_e]
    split
    · rename_i h
      have := lx_e_le (T := T) (n := n) (k := k) f (p + 1)
      exact ⟨by omega, fun _ => this.2 (by omega)⟩
    · exact ⟨Nat.le_refl _, fun h => h⟩
/-- what a token is -/
theorem lx_ok {T : Nat → Int32} {n p : Nat} (hp : p ≤ n) : p ≤ (lx T n p).1 ∧ (lx T n p).1 ≤ (lx T n p).2.1 ∧ (lx T n p).2.1 ≤ n ∧ (((lx T n p).2.2 = -nI 1 ∧ (lx T n p).1 = n ∧ (lx T n p).2.1 = n) ∨ ((lx T n p).1 < (lx T n p).2.1 ∧ (lx T n p).2.2 = lx_k (T (lx T n p).1))) := by
  have h := lx_b_le (T := T) (n := n) (n - p) p
  have h2 := h.2 hp
  unfold lx
  by_cases e : n ≤ lx_b T n (n - p) p
  · rw [if_pos e]
    exact ⟨h.1, Nat.le_refl _, h2, Or.inl ⟨rfl, by dsimp only; omega, by dsimp only; omega⟩⟩
  · rw [if_neg e]
    generalize lx_b T n (n - p) p = b at h h2 e ⊢
    dsimp only
    by_cases e2 : lx_k (T b) < 0
    · rw [if_pos e2]
      have h3 := lx_e_le (T := T) (n := n) (k := lx_k (T b)) (n - (b + 1)) (b + 1)
      have h4 := h3.2 (by omega)
      exact ⟨h.1, by omega, h4, Or.inr ⟨by omega, rfl⟩⟩
    · rw [if_neg e2]
      exact ⟨h.1, by omega, by omega, Or.inr ⟨by omega, rfl⟩⟩
/-- a reader's state: a fault and its place, or the token and the steps so far -/
abbrev px_S : Type := (Nat × Nat) ⊕ (px_T × List Int32)
def px_adv (T : Nat → Int32) (n : Nat) (s : px_S) : px_S := match s with
  | .inl x => .inl x
  | .inr (t, S) => .inr (lx T n t.2.1, S)
def px_ref (c : Nat) (s : px_S) : px_S := match s with
  | .inl x => .inl x
  | .inr (t, _) => .inl (c, t.1)
def px_put (x : Int32) (s : px_S) : px_S := match s with
  | .inl x => .inl x
  | .inr (t, S) => .inr (t, if S.length < 400 then S ++ [x] else S)
def px_k (s : px_S) : Int32 := match s with
  | .inl _ => -nI 4
  | .inr (t, _) => t.2.2
/-- whether the token is the word number w among the texts -/
def px_w (T : Nat → Int32) (w : Nat) (t : px_T) : Bool := decide (t.2.2 = -nI 2 ∧ t.2.1 = t.1 + tx_len.getD w 0) && (List.range (tx_len.getD w 0)).all (fun i => decide (T (t.1 + i) = (tx_byt.getD w []).getD i 0))
def px_is (T : Nat → Int32) (w : Nat) (s : px_S) : Bool := match s with
  | .inl _ => false
  | .inr (t, _) => px_w T w t
/-- the number that a row of digits tells -/
def px_n (T : Nat → Int32) (b : Nat) : Nat → Int32
  | 0 => nI 0
  | i + 1 => px_n T b i * nI 10 + T (b + i) - nI 48
/-- the values' names, by their numbers among the texts -/
def px_vn : List Nat := [5, 7, 31, 6, 21, 2, 27, 24, 0, 29, 30]
def px_v (T : Nat → Int32) (t : px_T) : Nat → Option Nat
  | 0 => none
  | i + 1 => if px_w T (px_vn.getD (11 - (i + 1)) 0) t = true then some (11 - (i + 1)) else px_v T t i
def px_sgn (T : Nat → Int32) (n : Nat) (c : Int32) (s : px_S) : px_S := if px_k s = c then px_adv T n s else px_ref 1 s
def px_num (T : Nat → Int32) (n : Nat) (s : px_S) : px_S := match s with
  | .inl x => .inl x
  | .inr (t, S) => if t.2.2 = -nI 3 then (if t.1 + 6 < t.2.1 then px_ref 2 s else px_adv T n s) else px_ref 1 s
def px_part (T : Nat → Int32) (n : Nat) (E : px_S → px_S) (s : px_S) : px_S := match s with
  | .inl x => .inl x
  | .inr (t, S) =>
    if t.2.2 = -nI 2 then (match px_v T t 11 with
      | none => px_ref 3 s
      | some v => px_adv T n (px_put (-nI (11 + v)) s))
    else if t.2.2 = nI 40 then px_sgn T n (nI 41) (E (px_adv T n s))
    else px_put (px_n T t.1 (t.2.1 - t.1)) (px_num T n s)
def px_lp (T : Nat → Int32) (n : Nat) (q : px_S → Option Int32) (f : px_S → px_S) : Nat → px_S → px_S
  | 0, s => s
  | i + 1, s => match q s with
    | none => s
    | some x => px_lp T n q f i (px_put x (f (px_adv T n s)))
def px_q2 (a b : Nat) (x y : Int32) (s : px_S) : Option Int32 := if px_k s = nI a then some x else if px_k s = nI b then some y else none
def px_qw (T : Nat → Int32) (w : Nat) (x : Int32) (s : px_S) : Option Int32 := if px_is T w s = true then some x else none
def px_prod (T : Nat → Int32) (n : Nat) (E : px_S → px_S) (s : px_S) : px_S := px_lp T n (px_q2 42 47 (-nI 8) (-nI 9)) (px_part T n E) 400 (px_part T n E s)
def px_sum (T : Nat → Int32) (n : Nat) (E : px_S → px_S) (s : px_S) : px_S := px_lp T n (px_q2 43 45 (-nI 6) (-nI 7)) (px_prod T n E) 400 (px_prod T n E s)
/-- up to f times 'not' -/
def px_nt (T : Nat → Int32) (n : Nat) : Nat → Nat → px_S → Nat × px_S
  | 0, c, s => (c, s)
  | f + 1, c, s => if px_is T 15 s = true then px_nt T n f (c + 1) (px_adv T n s) else (c, s)
def px_cmp (T : Nat → Int32) (n : Nat) (E : px_S → px_S) (s : px_S) : px_S := match px_q2 60 61 (-nI 4) (-nI 5) s with
  | none => s
  | some x => px_put x (px_sum T n E (px_adv T n s))
def px_puts (x : Int32) : Nat → px_S → px_S
  | 0, s => s
  | c + 1, s => px_puts x c (px_put x s)
def px_not (T : Nat → Int32) (n : Nat) (E : px_S → px_S) (s : px_S) : px_S :=
  px_puts (-nI 3) (px_nt T n 6 0 s).1 (px_cmp T n E (px_sum T n E (if px_is T 15 (px_nt T n 6 0 s).2 = true then px_ref 2 (px_nt T n 6 0 s).2 else (px_nt T n 6 0 s).2)))
def px_and (T : Nat → Int32) (n : Nat) (E : px_S → px_S) (s : px_S) : px_S := px_lp T n (px_qw T 1 (-nI 2)) (px_not T n E) 400 (px_not T n E s)
def px_or (T : Nat → Int32) (n : Nat) (E : px_S → px_S) (s : px_S) : px_S := px_lp T n (px_qw T 20 (-nI 1)) (px_and T n E) 400 (px_and T n E s)
def px_E (T : Nat → Int32) (n : Nat) : Nat → px_S → px_S
  | 0, s => px_ref (if px_k s = -nI 3 ∨ px_k s = -nI 2 ∨ px_k s = nI 40 then 2 else 1) s
  | d + 1, s => px_or T n (px_E T n d) s

/-- bit t of x -/
def bit (x : Int32) (t : Nat) : Bool := decide ((x >>> (nI t &&& 31)) &&& nI 1 = nI 1)
theorem and1 (y : Int32) : y &&& nI 1 = nI 0 ∨ y &&& nI 1 = nI 1 := by
  have h : (y &&& nI 1).toBitVec.toNat = y.toBitVec.toNat % 2 := by
    rw [Int32.toBitVec_and, BitVec.toNat_and]
    exact Nat.and_one_is_mod _
  rcases Nat.mod_two_eq_zero_or_one y.toBitVec.toNat with e | e
  · left
    apply Int32.toBitVec_inj.mp
    apply BitVec.eq_of_toNat_eq
    rw [h, e]
    rfl
  · right
    apply Int32.toBitVec_inj.mp
    apply BitVec.eq_of_toNat_eq
    rw [h, e]
    rfl
theorem bit_v (x : Int32) (t : Nat) : (x >>> (nI t &&& 31)) &&& nI 1 = nI (if bit x t then 1 else 0) := by
  unfold bit
  rcases and1 (x >>> (nI t &&& 31)) with h | h
  · rw [h]
    rfl
  · rw [h]
    rfl
/-- the places of the ones among the first n -/
def ones (x : Int32) (n : Nat) : List Nat := (List.range n).filter (bit x)
theorem ones_s (x : Int32) (n : Nat) : ones x (n + 1) = if bit x n then ones x n ++ [n] else ones x n := by
  unfold ones
  rw [List.range_succ, List.filter_append]
  by_cases h : bit x n = true
  · simp [h]
  · simp [h]
theorem ones_len (x : Int32) (n : Nat) : (ones x n).length ≤ n := by
  unfold ones
  exact Nat.le_trans (List.length_filter_le _ _) (by rw [List.length_range]; exact Nat.le_refl _)
theorem ones_mono (x : Int32) {n m : Nat} (h : n ≤ m) : (ones x n).length ≤ (ones x m).length := by
  induction h with
  | refl => exact Nat.le_refl _
  | step _ ih =>
    rw [ones_s]
    split
    · rw [List.length_append]; omega
    · exact ih

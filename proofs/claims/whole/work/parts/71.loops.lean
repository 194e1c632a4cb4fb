/-! the JDK's count of ones, sixteen bits -/
def bcN (v : Nat) : Nat :=
  let a := v - ((v >>> 1) &&& 1431655765)
  let b := (a &&& 858993459) + ((a >>> 2) &&& 858993459)
  let c := (b + (b >>> 4)) &&& 252645135
  let d := c + (c >>> 8)
  (d + (d >>> 16)) &&& 63
def ppN (v : Nat) : Nat → Nat
  | 0 => 0
  | t + 1 => ppN v t + (v >>> t) % 2
theorem bcN_p0 : ∀ h, h < 8 → ∀ l, l < 256 → Nat.beq (bcN ((0 + h) * 256 + l)) (ppN ((0 + h) * 256 + l) 16) = true := by decide +kernel
theorem bcN_p1 : ∀ h, h < 8 → ∀ l, l < 256 → Nat.beq (bcN ((8 + h) * 256 + l)) (ppN ((8 + h) * 256 + l) 16) = true := by decide +kernel
theorem bcN_p2 : ∀ h, h < 8 → ∀ l, l < 256 → Nat.beq (bcN ((16 + h) * 256 + l)) (ppN ((16 + h) * 256 + l) 16) = true := by decide +kernel
theorem bcN_p3 : ∀ h, h < 8 → ∀ l, l < 256 → Nat.beq (bcN ((24 + h) * 256 + l)) (ppN ((24 + h) * 256 + l) 16) = true := by decide +kernel
theorem bcN_p4 : ∀ h, h < 8 → ∀ l, l < 256 → Nat.beq (bcN ((32 + h) * 256 + l)) (ppN ((32 + h) * 256 + l) 16) = true := by decide +kernel
theorem bcN_p5 : ∀ h, h < 8 → ∀ l, l < 256 → Nat.beq (bcN ((40 + h) * 256 + l)) (ppN ((40 + h) * 256 + l) 16) = true := by decide +kernel
theorem bcN_p6 : ∀ h, h < 8 → ∀ l, l < 256 → Nat.beq (bcN ((48 + h) * 256 + l)) (ppN ((48 + h) * 256 + l) 16) = true := by decide +kernel
theorem bcN_p7 : ∀ h, h < 8 → ∀ l, l < 256 → Nat.beq (bcN ((56 + h) * 256 + l)) (ppN ((56 + h) * 256 + l) 16) = true := by decide +kernel
theorem bcN_p8 : ∀ h, h < 8 → ∀ l, l < 256 → Nat.beq (bcN ((64 + h) * 256 + l)) (ppN ((64 + h) * 256 + l) 16) = true := by decide +kernel
theorem bcN_p9 : ∀ h, h < 8 → ∀ l, l < 256 → Nat.beq (bcN ((72 + h) * 256 + l)) (ppN ((72 + h) * 256 + l) 16) = true := by decide +kernel
theorem bcN_p10 : ∀ h, h < 8 → ∀ l, l < 256 → Nat.beq (bcN ((80 + h) * 256 + l)) (ppN ((80 + h) * 256 + l) 16) = true := by decide +kernel
theorem bcN_p11 : ∀ h, h < 8 → ∀ l, l < 256 → Nat.beq (bcN ((88 + h) * 256 + l)) (ppN ((88 + h) * 256 + l) 16) = true := by decide +kernel
theorem bcN_p12 : ∀ h, h < 8 → ∀ l, l < 256 → Nat.beq (bcN ((96 + h) * 256 + l)) (ppN ((96 + h) * 256 + l) 16) = true := by decide +kernel
theorem bcN_p13 : ∀ h, h < 8 → ∀ l, l < 256 → Nat.beq (bcN ((104 + h) * 256 + l)) (ppN ((104 + h) * 256 + l) 16) = true := by decide +kernel
theorem bcN_p14 : ∀ h, h < 8 → ∀ l, l < 256 → Nat.beq (bcN ((112 + h) * 256 + l)) (ppN ((112 + h) * 256 + l) 16) = true := by decide +kernel
theorem bcN_p15 : ∀ h, h < 8 → ∀ l, l < 256 → Nat.beq (bcN ((120 + h) * 256 + l)) (ppN ((120 + h) * 256 + l) 16) = true := by decide +kernel
theorem bcN_p16 : ∀ h, h < 8 → ∀ l, l < 256 → Nat.beq (bcN ((128 + h) * 256 + l)) (ppN ((128 + h) * 256 + l) 16) = true := by decide +kernel
theorem bcN_p17 : ∀ h, h < 8 → ∀ l, l < 256 → Nat.beq (bcN ((136 + h) * 256 + l)) (ppN ((136 + h) * 256 + l) 16) = true := by decide +kernel
theorem bcN_p18 : ∀ h, h < 8 → ∀ l, l < 256 → Nat.beq (bcN ((144 + h) * 256 + l)) (ppN ((144 + h) * 256 + l) 16) = true := by decide +kernel
theorem bcN_p19 : ∀ h, h < 8 → ∀ l, l < 256 → Nat.beq (bcN ((152 + h) * 256 + l)) (ppN ((152 + h) * 256 + l) 16) = true := by decide +kernel
theorem bcN_p20 : ∀ h, h < 8 → ∀ l, l < 256 → Nat.beq (bcN ((160 + h) * 256 + l)) (ppN ((160 + h) * 256 + l) 16) = true := by decide +kernel
theorem bcN_p21 : ∀ h, h < 8 → ∀ l, l < 256 → Nat.beq (bcN ((168 + h) * 256 + l)) (ppN ((168 + h) * 256 + l) 16) = true := by decide +kernel
theorem bcN_p22 : ∀ h, h < 8 → ∀ l, l < 256 → Nat.beq (bcN ((176 + h) * 256 + l)) (ppN ((176 + h) * 256 + l) 16) = true := by decide +kernel
theorem bcN_p23 : ∀ h, h < 8 → ∀ l, l < 256 → Nat.beq (bcN ((184 + h) * 256 + l)) (ppN ((184 + h) * 256 + l) 16) = true := by decide +kernel
theorem bcN_p24 : ∀ h, h < 8 → ∀ l, l < 256 → Nat.beq (bcN ((192 + h) * 256 + l)) (ppN ((192 + h) * 256 + l) 16) = true := by decide +kernel
theorem bcN_p25 : ∀ h, h < 8 → ∀ l, l < 256 → Nat.beq (bcN ((200 + h) * 256 + l)) (ppN ((200 + h) * 256 + l) 16) = true := by decide +kernel
theorem bcN_p26 : ∀ h, h < 8 → ∀ l, l < 256 → Nat.beq (bcN ((208 + h) * 256 + l)) (ppN ((208 + h) * 256 + l) 16) = true := by decide +kernel
theorem bcN_p27 : ∀ h, h < 8 → ∀ l, l < 256 → Nat.beq (bcN ((216 + h) * 256 + l)) (ppN ((216 + h) * 256 + l) 16) = true := by decide +kernel
theorem bcN_p28 : ∀ h, h < 8 → ∀ l, l < 256 → Nat.beq (bcN ((224 + h) * 256 + l)) (ppN ((224 + h) * 256 + l) 16) = true := by decide +kernel
theorem bcN_p29 : ∀ h, h < 8 → ∀ l, l < 256 → Nat.beq (bcN ((232 + h) * 256 + l)) (ppN ((232 + h) * 256 + l) 16) = true := by decide +kernel
theorem bcN_p30 : ∀ h, h < 8 → ∀ l, l < 256 → Nat.beq (bcN ((240 + h) * 256 + l)) (ppN ((240 + h) * 256 + l) 16) = true := by decide +kernel
theorem bcN_p31 : ∀ h, h < 8 → ∀ l, l < 256 → Nat.beq (bcN ((248 + h) * 256 + l)) (ppN ((248 + h) * 256 + l) 16) = true := by decide +kernel
theorem bcN_pp {h l : Nat} (hh : h < 256) (hl : l < 256) : bcN (h * 256 + l) = ppN (h * 256 + l) 16 := by
  have key : ∀ i, i < 32 → ∀ h, h < 8 → bcN ((8 * i + h) * 256 + l) = ppN ((8 * i + h) * 256 + l) 16 := by
    intro i hi h hh
    rcases (show i = 0 ∨ i = 1 ∨ i = 2 ∨ i = 3 ∨ i = 4 ∨ i = 5 ∨ i = 6 ∨ i = 7 ∨ i = 8 ∨ i = 9 ∨ i = 10 ∨ i = 11 ∨ i = 12 ∨ i = 13 ∨ i = 14 ∨ i = 15 ∨ i = 16 ∨ i = 17 ∨ i = 18 ∨ i = 19 ∨ i = 20 ∨ i = 21 ∨ i = 22 ∨ i = 23 ∨ i = 24 ∨ i = 25 ∨ i = 26 ∨ i = 27 ∨ i = 28 ∨ i = 29 ∨ i = 30 ∨ i = 31 by omega) with rfl | rfl | rfl | rfl | rfl | rfl | rfl | rfl | rfl | rfl | rfl | rfl | rfl | rfl | rfl | rfl | rfl | rfl | rfl | rfl | rfl | rfl | rfl | rfl | rfl | rfl | rfl | rfl | rfl | rfl | rfl | rfl
    · exact Nat.eq_of_beq_eq_true (bcN_p0 h hh l hl)
    · exact Nat.eq_of_beq_eq_true (bcN_p1 h hh l hl)
    · exact Nat.eq_of_beq_eq_true (bcN_p2 h hh l hl)
    · exact Nat.eq_of_beq_eq_true (bcN_p3 h hh l hl)
    · exact Nat.eq_of_beq_eq_true (bcN_p4 h hh l hl)
    · exact Nat.eq_of_beq_eq_true (bcN_p5 h hh l hl)
    · exact Nat.eq_of_beq_eq_true (bcN_p6 h hh l hl)
    · exact Nat.eq_of_beq_eq_true (bcN_p7 h hh l hl)
    · exact Nat.eq_of_beq_eq_true (bcN_p8 h hh l hl)
    · exact Nat.eq_of_beq_eq_true (bcN_p9 h hh l hl)
    · exact Nat.eq_of_beq_eq_true (bcN_p10 h hh l hl)
    · exact Nat.eq_of_beq_eq_true (bcN_p11 h hh l hl)
    · exact Nat.eq_of_beq_eq_true (bcN_p12 h hh l hl)
    · exact Nat.eq_of_beq_eq_true (bcN_p13 h hh l hl)
    · exact Nat.eq_of_beq_eq_true (bcN_p14 h hh l hl)
    · exact Nat.eq_of_beq_eq_true (bcN_p15 h hh l hl)
    · exact Nat.eq_of_beq_eq_true (bcN_p16 h hh l hl)
    · exact Nat.eq_of_beq_eq_true (bcN_p17 h hh l hl)
    · exact Nat.eq_of_beq_eq_true (bcN_p18 h hh l hl)
    · exact Nat.eq_of_beq_eq_true (bcN_p19 h hh l hl)
    · exact Nat.eq_of_beq_eq_true (bcN_p20 h hh l hl)
    · exact Nat.eq_of_beq_eq_true (bcN_p21 h hh l hl)
    · exact Nat.eq_of_beq_eq_true (bcN_p22 h hh l hl)
    · exact Nat.eq_of_beq_eq_true (bcN_p23 h hh l hl)
    · exact Nat.eq_of_beq_eq_true (bcN_p24 h hh l hl)
    · exact Nat.eq_of_beq_eq_true (bcN_p25 h hh l hl)
    · exact Nat.eq_of_beq_eq_true (bcN_p26 h hh l hl)
    · exact Nat.eq_of_beq_eq_true (bcN_p27 h hh l hl)
    · exact Nat.eq_of_beq_eq_true (bcN_p28 h hh l hl)
    · exact Nat.eq_of_beq_eq_true (bcN_p29 h hh l hl)
    · exact Nat.eq_of_beq_eq_true (bcN_p30 h hh l hl)
    · exact Nat.eq_of_beq_eq_true (bcN_p31 h hh l hl)
  have := key (h / 8) (by omega) (h % 8) (by omega)
  rw [show 8 * (h / 8) + h % 8 = h by omega] at this
  exact this
theorem u_t {a : Nat} (h : a < 2 ^ 31) : (nI a).toBitVec.toNat = a := by
  have e : ∀ n, (nI n).toBitVec = BitVec.ofNat 32 n := fun _ => rfl
  rw [e, BitVec.toNat_ofNat, Nat.mod_eq_of_lt (by omega)]
theorem u_and (a b : Nat) (ha : a < 2 ^ 31) (hb : b < 2 ^ 31) : nI a &&& nI b = nI (a &&& b) := by
  apply Int32.toBitVec_inj.mp
  apply BitVec.eq_of_toNat_eq
  rw [Int32.toBitVec_and, BitVec.toNat_and, u_t ha, u_t hb, u_t (Nat.lt_of_le_of_lt Nat.and_le_left ha)]
theorem u_sub {a b : Nat} (h : b ≤ a) : nI a - nI b = nI (a - b) := by
  obtain ⟨c, rfl⟩ := Nat.exists_eq_add_of_le h
  rw [Nat.add_comm b c, n_sb, Nat.add_sub_cancel]
theorem u_sh (a k : Nat) (ha : a < 2 ^ 31) (hk : k < 32) : ((nI a).toUInt32 >>> ((nI k).toUInt32 &&& Int32.toUInt32 31)).toInt32 = nI (a >>> k) := by
  apply Int32.toBitVec_inj.mp
  apply BitVec.eq_of_toNat_eq
  have h2 : ∀ k, k < 32 → (((nI k).toUInt32 &&& Int32.toUInt32 31).toBitVec % 32).toNat = k := by decide
  have e1 : ((nI a).toUInt32 >>> ((nI k).toUInt32 &&& Int32.toUInt32 31)).toInt32.toBitVec = (nI a).toBitVec >>> (((nI k).toUInt32 &&& Int32.toUInt32 31).toBitVec % 32).toNat := rfl
  rw [e1, h2 k hk, BitVec.toNat_ushiftRight, u_t ha, u_t (Nat.lt_of_le_of_lt (Nat.shiftRight_le a k) ha)]
theorem bc_N {v : Nat} (h : v < 65536) : bc (nI v) = nI (bcN v) := by
  have b1 : v - ((v >>> 1) &&& 1431655765) ≤ v := Nat.sub_le _ _
  have c1 : (v >>> 1) &&& 1431655765 ≤ v := Nat.le_trans Nat.and_le_left (Nat.shiftRight_le v 1)
  unfold bc bcN
  dsimp only
  rw [u_sh v 1 (by omega) (by decide), u_and _ _ (by omega) (by decide), u_sub c1]
  generalize v - ((v >>> 1) &&& 1431655765) = a at b1 ⊢
  have b2 : a &&& 858993459 ≤ a := Nat.and_le_left
  have b3 : (a >>> 2) &&& 858993459 ≤ a := Nat.le_trans Nat.and_le_left (Nat.shiftRight_le a 2)
  have b4 : a >>> 2 ≤ a := Nat.shiftRight_le a 2
  rw [u_and a _ (by omega) (by decide), u_sh a 2 (by omega) (by decide), u_and _ _ (by omega) (by decide), n_s]
  have b5 : (a &&& 858993459) + ((a >>> 2) &&& 858993459) ≤ 2 * a := by omega
  generalize (a &&& 858993459) + ((a >>> 2) &&& 858993459) = b at b5 ⊢
  have b6 : b >>> 4 ≤ b := Nat.shiftRight_le b 4
  rw [u_sh b 4 (by omega) (by decide), n_s, u_and (b + b >>> 4) _ (by omega) (by decide)]
  have b7 : (b + b >>> 4) &&& 252645135 ≤ b + b >>> 4 := Nat.and_le_left
  generalize (b + b >>> 4) &&& 252645135 = c at b7 ⊢
  have b8 : c >>> 8 ≤ c := Nat.shiftRight_le c 8
  rw [u_sh c 8 (by omega) (by decide), n_s]
  generalize hd : c + c >>> 8 = d
  have b9 : d >>> 16 ≤ d := Nat.shiftRight_le d 16
  rw [u_sh d 16 (by omega) (by decide), n_s, u_and _ _ (by omega) (by decide)]
theorem u_sar (a k : Nat) (ha : a < 2 ^ 31) (hk : k < 32) : (nI a >>> (nI k &&& 31)) = nI (a >>> k) := by
  apply Int32.toBitVec_inj.mp
  apply BitVec.eq_of_toNat_eq
  have h2 : ∀ k, k < 32 → (((nI k) &&& 31).toBitVec.smod 32).toNat = k := by decide
  rw [Int32.toBitVec_shiftRight]
  have e2 : ∀ (x y : BitVec 32), BitVec.sshiftRight' x y = x.sshiftRight y.toNat := fun _ _ => rfl
  rw [e2, h2 k hk, BitVec.sshiftRight_eq_of_msb_false, BitVec.toNat_ushiftRight, u_t ha, u_t (Nat.lt_of_le_of_lt (Nat.shiftRight_le a k) ha)]
  rw [BitVec.msb_eq_decide, u_t ha]
  exact decide_eq_false (by omega)
theorem bit_N {v t : Nat} (hv : v < 2 ^ 31) (ht : t < 32) : bit (nI v) t = decide ((v >>> t) % 2 = 1) := by
  unfold bit
  have h1 : v >>> t ≤ v := Nat.shiftRight_le v t
  rw [u_sar v t hv ht, u_and _ _ (by omega) (by decide), Nat.and_one_is_mod]
  exact decide_eq_decide.mpr (n_eq (by omega) (by decide))
theorem ones_N {v : Nat} (hv : v < 2 ^ 31) : ∀ n, n ≤ 32 → (ones (nI v) n).length = ppN v n
  | 0, _ => rfl
  | n + 1, hn => by
    rw [ones_s, bit_N hv (by omega), ppN, ← ones_N hv n (by omega)]
    by_cases h : (v >>> n) % 2 = 1
    · rw [decide_eq_true h, if_pos rfl, List.length_append, h]
      rfl
    · rw [decide_eq_false h, if_neg Bool.noConfusion]
      omega
theorem bc_16 {v : Nat} (h : v < 65536) : bc (nI v) = nI (ones (nI v) 16).length := by
  have e := bcN_pp (h := v / 256) (l := v % 256) (by omega) (by omega)
  rw [show v / 256 * 256 + v % 256 = v by omega] at e
  rw [bc_N h, e, ones_N (by omega) 16 (by decide)]

/-! WHAT THE STATEMENT SAYS OF THE TEXTS -/
def na_F : List Cond := Jvm.Free.XT.flat (Jvm.Cond.and given_1 narrow_1)
def na_rep : List (String × Nat × Nat) := [(RX7, 157, 308), (RX7, 117, 333), (RX7, 151, 281), (RX11, 84, 55), (RX7, 76, 193), (RX7, 141, 233), (RX7, 147, 262), (RX7, 143, 243), (RX11, 292, 123), (RX11, 298, 384), (RX11, 294, 142), (RX11, 217, 446), (RX11, 91, 98), (RX11, 296, 356), (RX11, 290, 39), (RX7, 119, 226), (RX11, 288, 556), (RX11, 229, 471), (RX11, 255, 514), (RX11, 300, 399), (RX7, 112, 340), (RX7, 149, 271), (RX7, 82, 202), (RX7, 85, 218), (RX7, 155, 299), (RX7, 83, 209), (RX11, 132, 159), (RX7, 153, 291), (RX7, 93, 346), (RX7, 159, 315), (RX7, 161, 325), (RX7, 145, 253)]
def na_tm (i : Nat) : Term := .string (na_rep.getD i ("", 0, 0)).1 (na_rep.getD i ("", 0, 0)).2.1
def na_p (i : Nat) : Nat := (na_rep.getD i ("", 0, 0)).2.2
theorem na_ex : ∀ i, i < 32 → na_F[na_p i]? = some (Cond.exactly (na_tm i) "java/lang/String") := by decide +kernel
theorem na_co : ∀ i, i < 32 → na_F[na_p i + 1]? = some (Cond.eq (.field (na_tm i) "java/lang/String" "coder" "B") (.int 0)) := by decide +kernel
theorem na_ar : ∀ i, i < 32 → na_F[na_p i + 2]? = some (Cond.arrayOf (.field (na_tm i) "java/lang/String" "value" "[B") .byte) := by decide +kernel
theorem na_le : ∀ i, i < 32 → na_F[na_p i + 3]? = some (Cond.eq (.length (.field (na_tm i) "java/lang/String" "value" "[B")) (.int (Int32.ofNat (tx_len.getD i 0)))) := by decide +kernel
theorem na_el : ∀ i, i < 32 → ∀ j, j < tx_len.getD i 0 → na_F[na_p i + 4 + j]? = some (Cond.eq (.elem (.field (na_tm i) "java/lang/String" "value" "[B") (.int (Int32.ofNat j))) (.int ((tx_byt.getD i []).getD j 0))) := by decide +kernel
/-- where the tables speak of the text's entry; where the other entry is said to be the same (0: it is the first) -/
def na_ref : List (Nat × Nat) := [(829, 0), (843, 0), (892, 0), (1234, 0), (1243, 0), (1264, 0), (1294, 0), (778, 0), (848, 0), (880, 0), (1071, 0), (1076, 0), (1081, 0), (920, 0), (973, 0), (974, 0), (975, 0), (1037, 0), (1036, 0), (1035, 0), (992, 0), (1012, 0), (1013, 0), (1014, 0), (1015, 0), (1016, 0), (1017, 0), (1018, 0), (1019, 0), (1020, 0), (1021, 0), (1022, 0), (1303, 593), (1304, 604), (1305, 614), (1306, 624), (1307, 635), (1308, 646), (1309, 655), (1310, 665), (1311, 673), (1312, 684), (1313, 693), (1682, 738), (1711, 746), (1712, 753), (1652, 703), (1659, 713), (1660, 721), (1661, 730), (1713, 764)]
theorem na_sr : ∀ z, z < 51 → (tx_tab[z]?).map (fun q => Cond.stringRef q.1 q.2.1 q.2.2.1) = tables_1[(na_ref.getD z (0, 0)).1]? := by decide +kernel
theorem na_eq : ∀ z, z < 51 → ∀ q, tx_tab[z]? = some q → ((na_ref.getD z (0, 0)).2 = 0 ∧ na_tm q.2.2.2 = .string q.1 q.2.1) ∨ na_F[(na_ref.getD z (0, 0)).2]? = some (Cond.eq (na_tm q.2.2.2) (.string q.1 q.2.1)) := by
  have h : ∀ z, z < 51 → (match tx_tab[z]? with
    | some q => decide (((na_ref.getD z (0, 0)).2 = 0 ∧ na_tm q.2.2.2 = .string q.1 q.2.1) ∨ na_F[(na_ref.getD z (0, 0)).2]? = some (Cond.eq (na_tm q.2.2.2) (.string q.1 q.2.1)))
    | none => true) = true := by decide +kernel
  intro z hz q hq
  have := h z hz
  rw [hq] at this
  exact of_decide_eq_true this
theorem va_eqR2 {args : Array Value} {s : State} {t u : Term} {a : Nat} (ht : t.eval args s none [] s = some (.ref a)) (h : (Cond.eq t u).before args s = true) : u.eval args s none [] s = some (.ref a) := by
  cases hv : u.eval args s none [] s with
  | none => simp [Cond.before, Cond.holds, Cond.value, hv, ht] at h
  | some w =>
    simp only [Cond.before, Cond.holds, Cond.value, hv, ht] at h
    cases w <;> simp_all
/-- the texts at the start -/
theorem st_texts {args : Array Value} {s : State} {A : Nat → Prop} (hgv : (Jvm.Cond.and given_1 narrow_1).before args s = true) (hts : ∀ w ∈ tables_1, w.before args s = true) (hA : ∀ a : Nat, a < s.heap.size → ¬ A a) : ∃ adK adV : Nat → Nat, vk_S 32 tx_len tx_byt adK adV A s s.heap ∧ ∀ q ∈ tx_tab, vk_R q.1 q.2.1 q.2.2.1 (adK q.2.2.2) s := by
  have hF : ∀ w ∈ na_F, w.before args s = true := flat_of_before _ hgv
  have at' : ∀ {i : Nat} {w : Cond}, na_F[i]? = some w → w.before args s = true := fun h => hF _ (List.mem_of_getElem? h)
  obtain ⟨adK, adV, hS, hE⟩ := vk_Sof2 (args := args) (s := s) (N := 32) (tm := na_tm) (len := tx_len) (byt := tx_byt) (A := A) (by decide +kernel) (fun i hi => at' (na_ex i hi)) (fun i hi => at' (na_co i hi)) (fun i hi => at' (na_ar i hi)) (fun i hi => at' (na_le i hi)) (fun i hi j hj => at' (na_el i hi j hj)) (fun i j hi hj hij => (tx_dif i hi j hj hij).imp id (fun ⟨q, _, h⟩ => ⟨q, h⟩)) hA
  refine ⟨adK, adV, hS, fun q hq => ?_⟩
  obtain ⟨z, hz⟩ := List.getElem?_of_mem hq
  have hz51 : z < 51 := by
    have := (List.getElem?_eq_some_iff.mp hz).1
    exact this
  have h1 := na_sr z hz51
  rw [hz] at h1
  have h2 : (Cond.stringRef q.1 q.2.1 q.2.2.1).before args s = true := hts _ (List.mem_of_getElem? h1.symm)
  have hn : q.2.2.2 < 32 := (show ∀ q ∈ tx_tab, q.2.2.2 < 32 by decide +kernel) q hq
  refine vk_R.of h2 ?_
  rcases na_eq z hz51 q hz with ⟨_, h3⟩ | h3
  · rw [← h3]
    exact hE _ hn
  · exact va_eqR2 (hE _ hn) (at' h3)

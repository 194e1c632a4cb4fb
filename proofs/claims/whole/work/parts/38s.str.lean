/-! TEXTS: their length, their signs -/
theorem lf_RJ0_9 : Cond.fieldLink RJ0 9 "java/lang/String" "value" "[B" ∈ GT := gt_at 13 gt_9 rfl rfl
theorem lf_RJ0_15 : Cond.fieldLink RJ0 15 "java/lang/String" "coder" "B" ∈ GT := gt_at 14 gt_9 rfl rfl
theorem lf_RJ0_38 : Cond.fieldLink RJ0 38 "java/lang/String" "COMPACT_STRINGS" "Z" ∈ GT := gt_at 213 gt_4 rfl rfl
theorem lf_RJ0_1053 : Cond.fieldLink RJ0 1053 "jdk/internal/util/Preconditions" "SIOOBE_FORMATTER" "Ljava/util/function/BiFunction;" ∈ GT := gt_at 229 gt_4 rfl rfl
/-- it answers v, and changes nothing -/
def tx_Q (v : Option Value) : Array Value → State → Outcome → State → Prop := fun _ st oc t => oc = .returned v ∧ t.heap = st.heap
def tx_P (g : gl_T) (argv : List Value) : Array Value → State → Prop := va_Pc argv (fun U => wx g.2.2.2.1 g.2.2.2.2 (fun q => U.heap.size ≤ q) U U.heap)
theorem tx_blind {g : gl_T} {argv : List Value} : FrameBlind (tx_P g argv) := by
  intro a U f mk q
  obtain ⟨q0, q1⟩ := q
  exact ⟨q0, (wx_ok _ _).1 _ U (U.calling f mk a) _ (State.WarmedH.refl U) q1⟩
theorem tx_st {g : gl_T} {s U : State} {H : Heap} (hw : wx g.2.2.2.1 g.2.2.2.2 (fun q => H.size ≤ q) s H) (hU : U.heap = H) (hW : s.WarmedH U.vm) : wx g.2.2.2.1 g.2.2.2.2 (fun q => U.heap.size ≤ q) U U.heap := by
  rw [hU]
  exact (wx_ok _ _).1 _ s U _ hW hw
theorem tx_mem {l : List Int32} {k : Nat} (h : k < l.length) : l.getD k 0 ∈ l := by
  rw [List.getD_eq_getElem?_getD, List.getElem?_eq_getElem h]
  exact List.getElem_mem _
section TXC
variable {p : Program} {l : Launch} {e : Env} {R : Room} {s : State} {m : MethodId} {args : Array Value} {below : List Frame} {meth : Method} {c : Code} {H : Heap} {locs : List Loc} {cells slots : Nat} {Q : State → Prop} {pc : Nat} {ls : Array Slot} {st0 rest : List Value} {a : Array Value}
theorem tx_call {v : Option Value} (run : va_Run p l e R s m args below meth c H locs cells slots 0 0 (F0 m pc ls st0) rest (tx_Q v a) (fun _ => False)) (kk : W p l e R s m args below meth c H locs cells slots Q (F0 m (pc + 3) ls (v.toList ++ rest))) : W p l e R s m args below meth c H locs cells slots Q (F0 m pc ls st0) := by
  intro T hT X
  obtain ⟨v', st₀, t, T', L, h0, X', hL, e1, e2, ⟨hv, hh⟩, st⟩ := run T hT X
  have hL0 : L = [] := by
    cases L with
    | nil => rfl
    | cons x L => exact (hL x List.mem_cons_self).elim
  subst hL0
  rw [List.append_nil] at X'
  cases hv
  obtain ⟨t2, a1, b1⟩ := kk T' (by rw [e1, hh, h0]) X'
  exact ⟨t2, st t2 a1, b1⟩
end TXC
/-- every text: its length is that of its bytes; its bytes are signs -/
theorem tx_all : ∀ i, i < 32 → (tx_len.getD i 0 = (tx_byt.getD i []).length ∧ tx_len.getD i 0 < 100 ∧ ∀ b ∈ tx_byt.getD i [], ((b &&& 255).toUInt32 % 65536).toInt32 = b ∧ narrow .char (.int b) = .int b) := by decide +kernel
theorem tx_hG {own : String} {j : Nat} {C : String} {y : MethodName} {bytes : ByteArray} {maxL : Nat} {ret : Option FieldType} {x : Cond} (h1 : Cond.methodLink own j y ∈ GT) (h2 : Cond.instanceMethod y ∈ GT) (h3 : Cond.selects C y y ∈ GT) (h4 : Cond.initialized C ∈ GT) (h5 : Cond.code y bytes maxL ret ∈ GT) : GoodIn (x :: GT) (wsV own j C y (Cond.code y bytes maxL ret :: GT)) := fun w hw => by
  have hg : w ∈ GT := by
    unfold wsV at hw
    simp only [List.mem_append, List.mem_cons, List.not_mem_nil, or_false] at hw
    rcases hw with (e | e | e | e) | e | e
    · rw [e]; exact h1
    · rw [e]; exact h2
    · rw [e]; exact h3
    · rw [e]; exact h4
    · rw [e]; exact h5
    · exact e
  exact ⟨List.mem_cons_of_mem _ hg, good_of_word (gt_good w hg)⟩
set_option maxHeartbeats 1000000 in
theorem tx_coder (g : gl_T) (i : Nat) (hi : i < 32) : Met g.1 yJ0_coder_7d493 (Cond.code yJ0_coder_7d493 cJ0_coder_7d493 1 (some .byte) :: GT) ⟨0, 0, 0, 0⟩ (tx_P g [.ref (g.2.2.2.1 i)]) (tx_Q (some (.int 0))) 0 0 (fun _ => False) := by
  refine Met.ofW (cc := cJ0_coder_7d493) (maxL := 1) (ret := some .byte) (by decide) rfl ?_
  intro p e s m args below meth c s₁ B hml hv
  obtain ⟨rfl, hE⟩ := hv
  have hx := B.exec
  have hb := B.bytes
  have hr := B.returns
  have hts := atoms_spec (ws := Cond.code yJ0_coder_7d493 cJ0_coder_7d493 1 (some .byte) :: GT) B.pre
  have hown : s.vm.findClass RJ0 = some m.cls := findClass_of_methodNamed B.named
  have hlocks := B.notSynchronized
  have hS : va_S (fun q => s.heap.size ≤ q) s.heap s.heap [] := va_S.rf
  have hl := lv_entry ([.ref (g.2.2.2.1 i)]) (n := 1) (Nat.le_of_ble_eq_true rfl)
  rw [lg_entry_eq]
  generalize (lg_sl ([.ref (g.2.2.2.1 i)]) ++ List.replicate (1 - (lg_sl ([.ref (g.2.2.2.1 i)])).length) Slot.unset).toArray = ls at hl ⊢
  have hl : lv_has ls 1 [(0, .ref (g.2.2.2.1 i))] := hl
  refine va_gets hx hb hE.2.2.2.2.2.1 hS hown (hts _ (List.mem_cons_of_mem _ lf_RJ0_38)) (fun _ z => z) (show decode cJ0_coder_7d493 0 = .ok (.getstatic 38, 3) by decide +kernel) ?_
  refine lv_if_eq hx hb (show decode cJ0_coder_7d493 3 = .ok (.ifCond .eq 10, 3) by decide +kernel) (tgt := 13) rfl (fun z => absurd z (by decide)) (fun _ => ?_)
  refine lv_aload_n hx hb (show decode cJ0_coder_7d493 6 = .ok (.aload_n 0, 1) by decide +kernel) rfl (lv_at hl 0 rfl) ?_
  refine vk_getf hx hb (hE.1.1 i hi).2.1 hS hown (hts _ (List.mem_cons_of_mem _ lf_RJ0_15)) (fun _ z => z) (show decode cJ0_coder_7d493 7 = .ok (.getfield 15, 3) by decide +kernel) ?_
  refine lv_goto hx hb (show decode cJ0_coder_7d493 10 = .ok (.goto 4, 3) by decide +kernel) (tgt := 14) rfl ?_
  exact W.zret hx hb hr rfl (fun t ht hW => ⟨rfl, ht⟩) (fun q hq => by cases hq) (show decode cJ0_coder_7d493 14 = .ok (.ireturn, 1) by decide +kernel)
set_option maxHeartbeats 1000000 in
theorem tx_latin (g : gl_T) (i : Nat) (hi : i < 32) : Met g.1 yJ0_isLatin1_aae02 (Cond.code yJ0_isLatin1_aae02 cJ0_isLatin1_aae02 1 (some .boolean) :: GT) ⟨0, 0, 0, 0⟩ (tx_P g [.ref (g.2.2.2.1 i)]) (tx_Q (some (.int 1))) 0 0 (fun _ => False) := by
  refine Met.ofW (cc := cJ0_isLatin1_aae02) (maxL := 1) (ret := some .boolean) (by decide) rfl ?_
  intro p e s m args below meth c s₁ B hml hv
  obtain ⟨rfl, hE⟩ := hv
  have hx := B.exec
  have hb := B.bytes
  have hr := B.returns
  have hts := atoms_spec (ws := Cond.code yJ0_isLatin1_aae02 cJ0_isLatin1_aae02 1 (some .boolean) :: GT) B.pre
  have hown : s.vm.findClass RJ0 = some m.cls := findClass_of_methodNamed B.named
  have hlocks := B.notSynchronized
  have hS : va_S (fun q => s.heap.size ≤ q) s.heap s.heap [] := va_S.rf
  have hl := lv_entry ([.ref (g.2.2.2.1 i)]) (n := 1) (Nat.le_of_ble_eq_true rfl)
  rw [lg_entry_eq]
  generalize (lg_sl ([.ref (g.2.2.2.1 i)]) ++ List.replicate (1 - (lg_sl ([.ref (g.2.2.2.1 i)])).length) Slot.unset).toArray = ls at hl ⊢
  have hl : lv_has ls 1 [(0, .ref (g.2.2.2.1 i))] := hl
  refine va_gets hx hb hE.2.2.2.2.2.1 hS hown (hts _ (List.mem_cons_of_mem _ lf_RJ0_38)) (fun _ z => z) (show decode cJ0_isLatin1_aae02 0 = .ok (.getstatic 38, 3) by decide +kernel) ?_
  refine lv_if_eq hx hb (show decode cJ0_isLatin1_aae02 3 = .ok (.ifCond .eq 14, 3) by decide +kernel) (tgt := 17) rfl (fun z => absurd z (by decide)) (fun _ => ?_)
  refine lv_aload_n hx hb (show decode cJ0_isLatin1_aae02 6 = .ok (.aload_n 0, 1) by decide +kernel) rfl (lv_at hl 0 rfl) ?_
  refine vk_getf hx hb (hE.1.1 i hi).2.1 hS hown (hts _ (List.mem_cons_of_mem _ lf_RJ0_15)) (fun _ z => z) (show decode cJ0_isLatin1_aae02 7 = .ok (.getfield 15, 3) by decide +kernel) ?_
  refine lv_if_ne hx hb (show decode cJ0_isLatin1_aae02 10 = .ok (.ifCond .ne 7, 3) by decide +kernel) (tgt := 17) rfl (fun z => absurd rfl z) (fun _ => ?_)
  refine lv_iconst hx hb (show decode cJ0_isLatin1_aae02 13 = .ok (.iconst 1, 1) by decide +kernel) (v := 1) (by decide) ?_
  refine lv_goto hx hb (show decode cJ0_isLatin1_aae02 14 = .ok (.goto 4, 3) by decide +kernel) (tgt := 18) rfl ?_
  exact W.zret hx hb hr rfl (fun t ht hW => ⟨rfl, ht⟩) (fun q hq => by cases hq) (show decode cJ0_isLatin1_aae02 18 = .ok (.ireturn, 1) by decide +kernel)
set_option maxHeartbeats 1000000 in
theorem tx_pre (g : gl_T) (k n : Nat) (hk : k < n) (hn : n < 100) (v : Value) (hv : v.category = 1) : Met g.1 yJ3_checkIndex_8e157 (Cond.code yJ3_checkIndex_8e157 cJ3_checkIndex_8e157 3 (some .int) :: GT) ⟨0, 0, 0, 0⟩ (tx_P g [.int (nI k), .int (nI n), v]) (tx_Q (some (.int (nI k)))) 0 0 (fun _ => False) := by
  refine Met.ofW (cc := cJ3_checkIndex_8e157) (maxL := 3) (ret := some .int) (by decide) rfl ?_
  intro p e s m args below meth c s₁ B hml hv0
  obtain ⟨rfl, hE⟩ := hv0
  have hx := B.exec
  have hb := B.bytes
  have hr := B.returns
  have hlocks := B.notSynchronized
  have hlen : (lg_sl ([.int (nI k), .int (nI n), v])).length ≤ 3 := by
    show (([Slot.val (.int (nI k))] ++ ([Slot.val (.int (nI n))] ++ ((if v.category = 2 then [Slot.val v, Slot.second] else [Slot.val v]) ++ [])))).length ≤ 3
    rw [if_neg (by omega)]
    exact Nat.le_refl _
  have hl := lv_entry ([.int (nI k), .int (nI n), v]) (n := 3) hlen
  rw [lg_entry_eq]
  generalize (lg_sl ([.int (nI k), .int (nI n), v]) ++ List.replicate (3 - (lg_sl ([.int (nI k), .int (nI n), v])).length) Slot.unset).toArray = ls at hl ⊢
  have h0 : ls[0]? = some (.val (.int (nI k))) := hl.2.2 (0, .int (nI k)) (by simp [lv_args])
  have h1 : ls[1]? = some (.val (.int (nI n))) := hl.2.2 (1, .int (nI n)) (by simp [lv_args, Value.category])
  refine lv_iload_n hx hb (show decode cJ3_checkIndex_8e157 0 = .ok (.iload_n 0, 1) by decide +kernel) rfl h0 ?_
  refine lv_if_lt hx hb (show decode cJ3_checkIndex_8e157 1 = .ok (.ifCond .lt 8, 3) by decide +kernel) (tgt := 9) rfl (fun z => absurd z (nI_pos (by omega))) (fun _ => ?_)
  refine lv_iload_n hx hb (show decode cJ3_checkIndex_8e157 4 = .ok (.iload_n 0, 1) by decide +kernel) rfl h0 ?_
  refine lv_iload_n hx hb (show decode cJ3_checkIndex_8e157 5 = .ok (.iload_n 1, 1) by decide +kernel) rfl h1 ?_
  refine lv_icmp_lt hx hb (show decode cJ3_checkIndex_8e157 6 = .ok (.if_icmp .lt 10, 3) by decide +kernel) (tgt := 16) rfl (fun _ => ?_) (fun z => absurd ((n_lt (by omega) (by omega)).mpr hk) z)
  refine lv_iload_n hx hb (show decode cJ3_checkIndex_8e157 16 = .ok (.iload_n 0, 1) by decide +kernel) rfl h0 ?_
  exact W.iret hx hb hr (fun t ht hW => ⟨rfl, ht⟩) (fun q hq => by cases hq) (show decode cJ3_checkIndex_8e157 17 = .ok (.ireturn, 1) by decide +kernel)
set_option maxHeartbeats 1000000 in
theorem tx_check (g : gl_T) (k n : Nat) (hk : k < n) (hn : n < 100) : Met g.1 yJ0_checkIndex_df160 (Cond.code yJ0_checkIndex_df160 cJ0_checkIndex_df160 2 none :: GT) ⟨1, 0, 0, 22⟩ (tx_P g [.int (nI k), .int (nI n)]) (tx_Q none) 0 0 (fun _ => False) := by
  refine Met.ofW (cc := cJ0_checkIndex_df160) (maxL := 2) (ret := none) (by decide) rfl ?_
  intro p e s m args below meth c s₁ B hml hv
  obtain ⟨rfl, hE⟩ := hv
  have hx := B.exec
  have hb := B.bytes
  have hr := B.returns
  have hts := atoms_spec (ws := Cond.code yJ0_checkIndex_df160 cJ0_checkIndex_df160 2 none :: GT) B.pre
  have hown : s.vm.findClass RJ0 = some m.cls := findClass_of_methodNamed B.named
  have hlocks := B.notSynchronized
  have hS : va_S (fun q => s.heap.size ≤ q) s.heap s.heap [] := va_S.rf
  have hl := lv_entry ([.int (nI k), .int (nI n)]) (n := 2) (Nat.le_of_ble_eq_true rfl)
  rw [lg_entry_eq]
  generalize (lg_sl ([.int (nI k), .int (nI n)]) ++ List.replicate (2 - (lg_sl ([.int (nI k), .int (nI n)])).length) Slot.unset).toArray = ls at hl ⊢
  have hl : lv_has ls 2 [(0, .int (nI k)), (1, .int (nI n))] := hl
  have hfix : CallFix p m c cJ0_checkIndex_df160 2 s [Value.int (nI k), Value.int (nI n)].toArray (Cond.code yJ0_checkIndex_df160 cJ0_checkIndex_df160 2 none :: GT) RJ0 := ⟨hx, hb, hml, hown, hts⟩
  have go : ∀ v : Value, v.category = 1 → va_Z RJ3 "SIOOBE_FORMATTER" "Ljava/util/function/BiFunction;" v (fun q => s.heap.size ≤ q) s s.heap → W p g.1 e (headSpec (Cond.code yJ0_checkIndex_df160 cJ0_checkIndex_df160 2 none :: GT) ⟨1, 0, 0, 22⟩).room s m [Value.int (nI k), Value.int (nI n)].toArray below meth c s.heap [] 0 0 (MQ below (tx_Q none) [Value.int (nI k), Value.int (nI n)].toArray s 0 0 (fun _ => False)) (F0 m 0 ls []) := by
    intro v hv hZ
    refine lv_iload_n hx hb (show decode cJ0_checkIndex_df160 0 = .ok (.iload_n 0, 1) by decide +kernel) rfl (lv_at hl 0 rfl) ?_
    refine lv_iload_n hx hb (show decode cJ0_checkIndex_df160 1 = .ok (.iload_n 1, 1) by decide +kernel) rfl (lv_at hl 1 rfl) ?_
    refine va_gets hx hb hZ hS hown (hts _ (List.mem_cons_of_mem _ lf_RJ0_1053)) (fun _ z => z) (show decode cJ0_checkIndex_df160 2 = .ok (.getstatic 1053, 3) by decide +kernel) ?_
    have run := va_runS (l := g.1) (e := e) (below := below) (meth := meth) (R := ⟨1, 0, 0, 22⟩) (H := s.heap) (locs := []) (cells := 0) (slots := 0) (As := [.int (nI k), .int (nI n), v]) (rest := []) (g := F0 m 5 ls [v, .int (nI n), .int (nI k)]) hfix (tx_pre g k n hk hn v hv) ⟨callB_of (rm := ⟨0, 0, 0, 0⟩) (mc := 0) (ms := 0) 3 hts (gt_goodIn lc_J3_checkIndex_8e157) rfl rfl rfl (hts _ (List.mem_cons_of_mem _ ln_RJ3)) (hts _ (List.mem_cons_of_mem _ lm_RJ0_1059)) ⟨by decide, by decide, by decide +kernel⟩ ⟨by decide, by decide⟩, hts _ (List.mem_cons_of_mem _ ls_J3_checkIndex_8e157)⟩ ⟨tx_blind, fun U hU hW => ⟨rfl, tx_st hE hU hW⟩⟩ rfl rfl hl.1 rfl (show 2 * 0 + 0 ≤ 8 by decide) (show decode cJ0_checkIndex_df160 5 = .ok (.invokestatic 1059, 3) by decide +kernel) ⟨by decide, by decide⟩
    refine tx_call run ?_
    refine lv_pop hx hb (show decode cJ0_checkIndex_df160 8 = .ok (.pop, 1) by decide +kernel) rfl ?_
    exact W.vret hx hb hr (fun t ht hW => ⟨rfl, ht⟩) (fun q hq => by cases hq) (show decode cJ0_checkIndex_df160 9 = .ok (.return_, 1) by decide +kernel)
  rcases hE.2.2.2.2.2.2.1 with hZ | ⟨t, hZ⟩
  · exact go .null rfl hZ
  · exact go (.ref t) rfl hZ
set_option maxHeartbeats 1000000 in
theorem tx_at1 (g : gl_T) (i k : Nat) (hi : i < 32) (hk : k < tx_len.getD i 0) : Met g.1 yJ1_charAt_3b067 (Cond.code yJ1_charAt_3b067 cJ1_charAt_3b067 2 (some .char) :: GT) ⟨2, 0, 0, 43⟩ (tx_P g [.ref (g.2.2.2.2 i), .int (nI k)]) (tx_Q (some (.int ((tx_byt.getD i []).getD k 0)))) 0 0 (fun _ => False) := by
  obtain ⟨a1, a2, a3⟩ := tx_all i hi
  have hbk : (tx_byt.getD i []).getD k 0 ∈ tx_byt.getD i [] := tx_mem (by omega)
  obtain ⟨b1, b2⟩ := a3 _ hbk
  refine Met.ofW (cc := cJ1_charAt_3b067) (maxL := 2) (ret := some .char) (by decide) rfl ?_
  intro p e s m args below meth c s₁ B hml hv
  obtain ⟨rfl, hE⟩ := hv
  have hx := B.exec
  have hb := B.bytes
  have hr := B.returns
  have hts := atoms_spec (ws := Cond.code yJ1_charAt_3b067 cJ1_charAt_3b067 2 (some .char) :: GT) B.pre
  have hown : s.vm.findClass RJ1 = some m.cls := findClass_of_methodNamed B.named
  have hlocks := B.notSynchronized
  have hS : va_S (fun q => s.heap.size ≤ q) s.heap s.heap [] := va_S.rf
  have hl := lv_entry ([.ref (g.2.2.2.2 i), .int (nI k)]) (n := 2) (Nat.le_of_ble_eq_true rfl)
  rw [lg_entry_eq]
  generalize (lg_sl ([.ref (g.2.2.2.2 i), .int (nI k)]) ++ List.replicate (2 - (lg_sl ([.ref (g.2.2.2.2 i), .int (nI k)])).length) Slot.unset).toArray = ls at hl ⊢
  have hl : lv_has ls 2 [(0, .ref (g.2.2.2.2 i)), (1, .int (nI k))] := hl
  have hfix : CallFix p m c cJ1_charAt_3b067 2 s [Value.ref (g.2.2.2.2 i), Value.int (nI k)].toArray (Cond.code yJ1_charAt_3b067 cJ1_charAt_3b067 2 (some .char) :: GT) RJ1 := ⟨hx, hb, hml, hown, hts⟩
  have hT := (hE.1.1 i hi).2.2.2
  refine lv_iload_n hx hb (show decode cJ1_charAt_3b067 0 = .ok (.iload_n 1, 1) by decide +kernel) rfl (lv_at hl 1 rfl) ?_
  refine lv_aload_n hx hb (show decode cJ1_charAt_3b067 1 = .ok (.aload_n 0, 1) by decide +kernel) rfl (lv_at hl 0 rfl) ?_
  refine va_tlen hx hb hT hS (v := nI (tx_len.getD i 0)) rfl (show decode cJ1_charAt_3b067 2 = .ok (.arraylength, 1) by decide +kernel) ?_
  have run := va_runS (l := g.1) (e := e) (below := below) (meth := meth) (R := ⟨2, 0, 0, 43⟩) (H := s.heap) (locs := []) (cells := 0) (slots := 0) (As := [.int (nI k), .int (nI (tx_len.getD i 0))]) (rest := []) (g := F0 m 3 ls [.int (nI (tx_len.getD i 0)), .int (nI k)]) hfix (tx_check g k (tx_len.getD i 0) hk a2) ⟨callB_of (rm := ⟨1, 0, 0, 22⟩) (mc := 0) (ms := 0) 2 hts (gt_goodIn lc_J0_checkIndex_df160) rfl rfl rfl (hts _ (List.mem_cons_of_mem _ ln_RJ0)) (hts _ (List.mem_cons_of_mem _ lm_RJ1_9)) ⟨by decide, by decide, by decide +kernel⟩ ⟨by decide, by decide⟩, hts _ (List.mem_cons_of_mem _ ls_J0_checkIndex_df160)⟩ ⟨tx_blind, fun U hU hW => ⟨rfl, tx_st hE hU hW⟩⟩ rfl rfl hl.1 rfl (show 2 * 0 + 0 ≤ 8 by decide) (show decode cJ1_charAt_3b067 3 = .ok (.invokestatic 9, 3) by decide +kernel) ⟨by decide, by decide⟩
  refine tx_call run ?_
  refine lv_aload_n hx hb (show decode cJ1_charAt_3b067 6 = .ok (.aload_n 0, 1) by decide +kernel) rfl (lv_at hl 0 rfl) ?_
  refine lv_iload_n hx hb (show decode cJ1_charAt_3b067 7 = .ok (.iload_n 1, 1) by decide +kernel) rfl (lv_at hl 1 rfl) ?_
  refine va_tb hx hb hT hS (vp_in_nI hk (by omega)) (v := .int ((tx_byt.getD i []).getD k 0)) (by rw [n_c (by omega)]) (show decode cJ1_charAt_3b067 8 = .ok (.baload, 1) by decide +kernel) ?_
  refine lv_sipush hx hb (show decode cJ1_charAt_3b067 9 = .ok (.sipush 255, 3) by decide +kernel) (v := 255) (by decide) ?_
  refine lv_iand hx hb (show decode cJ1_charAt_3b067 12 = .ok (.iand, 1) by decide +kernel) ?_
  refine lv_i2c hx hb (show decode cJ1_charAt_3b067 13 = .ok (.i2c, 1) by decide +kernel) b1 ?_
  exact W.zret hx hb hr b2 (fun t ht hW => ⟨rfl, ht⟩) (fun q hq => by cases hq) (show decode cJ1_charAt_3b067 14 = .ok (.ireturn, 1) by decide +kernel)
set_option maxHeartbeats 1000000 in
theorem tx_at (g : gl_T) (i k : Nat) (hi : i < 32) (hk : k < tx_len.getD i 0) : Met g.1 yJ0_charAt_5068e (Cond.code yJ0_charAt_5068e cJ0_charAt_5068e 2 (some .char) :: GT) ⟨3, 0, 0, 64⟩ (tx_P g [.ref (g.2.2.2.1 i), .int (nI k)]) (tx_Q (some (.int ((tx_byt.getD i []).getD k 0)))) 0 0 (fun _ => False) := by
  obtain ⟨a1, a2, a3⟩ := tx_all i hi
  have hbk : (tx_byt.getD i []).getD k 0 ∈ tx_byt.getD i [] := tx_mem (by omega)
  obtain ⟨b1, b2⟩ := a3 _ hbk
  refine Met.ofW (cc := cJ0_charAt_5068e) (maxL := 2) (ret := some .char) (by decide) rfl ?_
  intro p e s m args below meth c s₁ B hml hv
  obtain ⟨rfl, hE⟩ := hv
  have hx := B.exec
  have hb := B.bytes
  have hr := B.returns
  have hts := atoms_spec (ws := Cond.code yJ0_charAt_5068e cJ0_charAt_5068e 2 (some .char) :: GT) B.pre
  have hown : s.vm.findClass RJ0 = some m.cls := findClass_of_methodNamed B.named
  have hlocks := B.notSynchronized
  have hS : va_S (fun q => s.heap.size ≤ q) s.heap s.heap [] := va_S.rf
  have hl := lv_entry ([.ref (g.2.2.2.1 i), .int (nI k)]) (n := 2) (Nat.le_of_ble_eq_true rfl)
  rw [lg_entry_eq]
  generalize (lg_sl ([.ref (g.2.2.2.1 i), .int (nI k)]) ++ List.replicate (2 - (lg_sl ([.ref (g.2.2.2.1 i), .int (nI k)])).length) Slot.unset).toArray = ls at hl ⊢
  have hl : lv_has ls 2 [(0, .ref (g.2.2.2.1 i)), (1, .int (nI k))] := hl
  have hfix : CallFix p m c cJ0_charAt_5068e 2 s [Value.ref (g.2.2.2.1 i), Value.int (nI k)].toArray (Cond.code yJ0_charAt_5068e cJ0_charAt_5068e 2 (some .char) :: GT) RJ0 := ⟨hx, hb, hml, hown, hts⟩
  refine lv_aload_n hx hb (show decode cJ0_charAt_5068e 0 = .ok (.aload_n 0, 1) by decide +kernel) rfl (lv_at hl 0 rfl) ?_
  have run := va_runV (l := g.1) (e := e) (below := below) (meth := meth) (R := ⟨3, 0, 0, 64⟩) (H := s.heap) (locs := []) (cells := 0) (slots := 0) (b := g.2.2.2.1 i) (As := []) (rest := []) (g := F0 m 1 ls [.ref (g.2.2.2.1 i)]) hfix (tx_latin g i hi) (cwV (rm := ⟨0, 0, 0, 0⟩) 0 hts (tx_hG lm_RJ0_492 li_J0_isLatin1_aae02 lx_J0_isLatin1_aae02 ln_RJ0 lc_J0_isLatin1_aae02) rfl rfl rfl ⟨rfl, by decide, by decide, by decide +kernel⟩ ⟨by decide, by decide⟩) ⟨tx_blind, vk_recv hE.1 hi hS, fun U hU hW => ⟨rfl, tx_st hE hU hW⟩⟩ rfl rfl hl.1 rfl (show 2 * 0 + 0 ≤ 8 by decide) (show decode cJ0_charAt_5068e 1 = .ok (.invokevirtual 492, 3) by decide +kernel) ⟨by decide, by decide⟩
  refine tx_call run ?_
  refine lv_if_eq hx hb (show decode cJ0_charAt_5068e 4 = .ok (.ifCond .eq 12, 3) by decide +kernel) (tgt := 16) rfl (fun z => absurd z (by decide)) (fun _ => ?_)
  refine lv_aload_n hx hb (show decode cJ0_charAt_5068e 7 = .ok (.aload_n 0, 1) by decide +kernel) rfl (lv_at hl 0 rfl) ?_
  refine vk_getf hx hb (hE.1.1 i hi).2.2.1 hS hown (hts _ (List.mem_cons_of_mem _ lf_RJ0_9)) (fun _ z => z) (show decode cJ0_charAt_5068e 8 = .ok (.getfield 9, 3) by decide +kernel) ?_
  refine lv_iload_n hx hb (show decode cJ0_charAt_5068e 11 = .ok (.iload_n 1, 1) by decide +kernel) rfl (lv_at hl 1 rfl) ?_
  have run := va_runS (l := g.1) (e := e) (below := below) (meth := meth) (R := ⟨3, 0, 0, 64⟩) (H := s.heap) (locs := []) (cells := 0) (slots := 0) (As := [.ref (g.2.2.2.2 i), .int (nI k)]) (rest := []) (g := F0 m 12 ls [.int (nI k), .ref (g.2.2.2.2 i)]) hfix (tx_at1 g i k hi hk) ⟨callB_of (rm := ⟨2, 0, 0, 43⟩) (mc := 0) (ms := 0) 2 hts (gt_goodIn lc_J1_charAt_3b067) rfl rfl rfl (hts _ (List.mem_cons_of_mem _ ln_RJ1)) (hts _ (List.mem_cons_of_mem _ lm_RJ0_495)) ⟨by decide, by decide, by decide +kernel⟩ ⟨by decide, by decide⟩, hts _ (List.mem_cons_of_mem _ ls_J1_charAt_3b067)⟩ ⟨tx_blind, fun U hU hW => ⟨rfl, tx_st hE hU hW⟩⟩ rfl rfl hl.1 rfl (show 2 * 0 + 0 ≤ 8 by decide) (show decode cJ0_charAt_5068e 12 = .ok (.invokestatic 495, 3) by decide +kernel) ⟨by decide, by decide⟩
  refine tx_call run ?_
  exact W.zret hx hb hr b2 (fun t ht hW => ⟨rfl, ht⟩) (fun q hq => by cases hq) (show decode cJ0_charAt_5068e 15 = .ok (.ireturn, 1) by decide +kernel)
set_option maxHeartbeats 1000000 in
theorem tx_length (g : gl_T) (i : Nat) (hi : i < 32) : Met g.1 yJ0_length_8abf5 (Cond.code yJ0_length_8abf5 cJ0_length_8abf5 1 (some .int) :: GT) ⟨1, 0, 0, 20⟩ (tx_P g [.ref (g.2.2.2.1 i)]) (tx_Q (some (.int (nI (tx_len.getD i 0))))) 0 0 (fun _ => False) := by
  obtain ⟨a1, a2, a3⟩ := tx_all i hi
  refine Met.ofW (cc := cJ0_length_8abf5) (maxL := 1) (ret := some .int) (by decide) rfl ?_
  intro p e s m args below meth c s₁ B hml hv
  obtain ⟨rfl, hE⟩ := hv
  have hx := B.exec
  have hb := B.bytes
  have hr := B.returns
  have hts := atoms_spec (ws := Cond.code yJ0_length_8abf5 cJ0_length_8abf5 1 (some .int) :: GT) B.pre
  have hown : s.vm.findClass RJ0 = some m.cls := findClass_of_methodNamed B.named
  have hlocks := B.notSynchronized
  have hS : va_S (fun q => s.heap.size ≤ q) s.heap s.heap [] := va_S.rf
  have hl := lv_entry ([.ref (g.2.2.2.1 i)]) (n := 1) (Nat.le_of_ble_eq_true rfl)
  rw [lg_entry_eq]
  generalize (lg_sl ([.ref (g.2.2.2.1 i)]) ++ List.replicate (1 - (lg_sl ([.ref (g.2.2.2.1 i)])).length) Slot.unset).toArray = ls at hl ⊢
  have hl : lv_has ls 1 [(0, .ref (g.2.2.2.1 i))] := hl
  have hfix : CallFix p m c cJ0_length_8abf5 1 s [Value.ref (g.2.2.2.1 i)].toArray (Cond.code yJ0_length_8abf5 cJ0_length_8abf5 1 (some .int) :: GT) RJ0 := ⟨hx, hb, hml, hown, hts⟩
  refine lv_aload_n hx hb (show decode cJ0_length_8abf5 0 = .ok (.aload_n 0, 1) by decide +kernel) rfl (lv_at hl 0 rfl) ?_
  refine vk_getf hx hb (hE.1.1 i hi).2.2.1 hS hown (hts _ (List.mem_cons_of_mem _ lf_RJ0_9)) (fun _ z => z) (show decode cJ0_length_8abf5 1 = .ok (.getfield 9, 3) by decide +kernel) ?_
  refine va_tlen hx hb (hE.1.1 i hi).2.2.2 hS (v := nI (tx_len.getD i 0)) rfl (show decode cJ0_length_8abf5 4 = .ok (.arraylength, 1) by decide +kernel) ?_
  refine lv_aload_n hx hb (show decode cJ0_length_8abf5 5 = .ok (.aload_n 0, 1) by decide +kernel) rfl (lv_at hl 0 rfl) ?_
  have run := va_runV (l := g.1) (e := e) (below := below) (meth := meth) (R := ⟨1, 0, 0, 20⟩) (H := s.heap) (locs := []) (cells := 0) (slots := 0) (b := g.2.2.2.1 i) (As := []) (rest := [.int (nI (tx_len.getD i 0))]) (g := F0 m 6 ls [.ref (g.2.2.2.1 i), .int (nI (tx_len.getD i 0))]) hfix (tx_coder g i hi) (cwV (rm := ⟨0, 0, 0, 0⟩) 0 hts (tx_hG lm_RJ0_335 li_J0_coder_7d493 lx_J0_coder_7d493 ln_RJ0 lc_J0_coder_7d493) rfl rfl rfl ⟨rfl, by decide, by decide, by decide +kernel⟩ ⟨by decide, by decide⟩) ⟨tx_blind, vk_recv hE.1 hi hS, fun U hU hW => ⟨rfl, tx_st hE hU hW⟩⟩ rfl rfl hl.1 rfl (show 2 * 0 + 1 ≤ 8 by decide) (show decode cJ0_length_8abf5 6 = .ok (.invokevirtual 335, 3) by decide +kernel) ⟨by decide, by decide⟩
  refine tx_call run ?_
  refine lv_ishr hx hb (show decode cJ0_length_8abf5 9 = .ok (.ishr, 1) by decide +kernel) ?_
  have e0 : ∀ n, n < 100 → nI n >>> ((0 : Int32) &&& 31) = nI n := by decide +kernel
  refine W.eq (g2 := F0 m 10 ls [.int (nI (tx_len.getD i 0))]) (by rw [e0 _ a2]) ?_
  exact W.iret hx hb hr (fun t ht hW => ⟨rfl, ht⟩) (fun q hq => by cases hq) (show decode cJ0_length_8abf5 10 = .ok (.ireturn, 1) by decide +kernel)
/-! as calls of the engine -/
def s_len : eg_S := fun argv M Qp => match argv with
  | [.retAddr i] => i < 32 ∧ Qp (.inl (some (.int (nI (tx_len.getD i 0))))) M
  | _ => False
def s_chr : eg_S := fun argv M Qp => match argv with
  | [.retAddr i, .int k] => (i < 32 ∧ vp_in k (tx_len.getD i 0)) ∧ Qp (.inl (some (.int ((tx_byt.getD i []).getD k.toNatClampNeg 0)))) M
  | _ => False
theorem mo_len : eg_mono s_len := by
  intro argv M Q Q' h
  unfold s_len
  split
  · exact fun z => ⟨z.1, h _ _ z.2⟩
  · exact id
theorem mo_chr : eg_mono s_chr := by
  intro argv M Q Q' h
  unfold s_chr
  split
  · exact fun z => ⟨z.1, h _ _ z.2⟩
  · exact id
section TXM
variable {g : gl_T} {p : Program} {e : Env} {R : Room} {s : State} {m : MethodId} {args : Array Value} {below : List Frame} {meth : Method} {c : Code} {Q : State → Prop} {A : Nat → Prop} {nL N0 : Nat} {ad0 : Nat → Nat} {cc : ByteArray} {own : String} {x : Cond} {j : Nat}
set_option maxHeartbeats 1000000 in
theorem mt_len (S0 : CallFix p m c cc nL s args (x :: GT) own) (hEx : wx g.2.2.2.1 g.2.2.2.2 A s s.heap) (hA : ∀ q, s.heap.size ≤ q → A q) (h1 : Cond.methodLink own j yJ0_length_8abf5 ∈ GT) (hR : 1 + 1 ≤ R.frames ∧ 8 + (1 + 11) + 20 ≤ R.locals) (hj : j < 100000) : eg_CK p g.1 e R s m args below meth c Q wd g.2.1 vwCl g.2.2.1 g.2.2.2.1 A nL ad0 N0 cc (j, 1, 0, 0, s_len) := by
  refine ⟨fun _ => ?_, fun z => absurd z (Nat.not_le.mpr hj), fun z => absurd z (show ¬ 200000 ≤ j by omega)⟩
  show eg_CF _ _ _ _ _ _ _ _ _ _ _ _ _ _ _ _ _ _ _ _ _ (.invokevirtual j) 1 0 0 s_len
  intro pc cu su ls rest argv M Qp hd hn hwt hc hs hS ad H locs arr hH hL hav hrv kk kx
  unfold s_len at hS
  split at hS
  · rename_i i
    obtain ⟨hi, hS⟩ := hS
    have hsum := eg_sum (ad := ad) (adK := g.2.2.2.1) hwt
    have hw : wx g.2.2.2.1 g.2.2.2.2 (fun q => H.size ≤ q) s H := (wx_ok _ _).2.2 A _ s H (fun q hq => hA q (Nat.le_trans hH.2.2.1.1 hq)) ((wx_ok _ _).2.1 A s s.heap H hEx hH.2.2.1.2.1)
    have run := va_runV (l := g.1) (e := e) (below := below) (meth := meth) (R := R) (H := H) (locs := locs) (cells := cu) (slots := su) (b := g.2.2.2.1 i) (As := []) (rest := rest.map (eg_cv ad g.2.2.2.1)) (g := F0 m pc arr (.ref (g.2.2.2.1 i) :: rest.map (eg_cv ad g.2.2.2.1))) S0 (tx_length g i hi) (cwV (rm := ⟨1, 0, 0, 20⟩) 0 S0.2.2.2.2 (tx_hG h1 li_J0_length_8abf5 lx_J0_length_8abf5 ln_RJ0 lc_J0_length_8abf5) rfl rfl rfl ⟨rfl, by decide, by decide, by decide +kernel⟩ hR) ⟨tx_blind, vk_recv (A := A) hEx.1 hi hH.2.2.1, fun U hU hW => ⟨rfl, tx_st hw hU hW⟩⟩ rfl rfl hL.1 rfl (lv_room hsum) hd ⟨hc, hs⟩
    exact tx_call run (kk (some (.int (nI (tx_len.getD i 0)))) M ad H locs hS hH ⟨fun _ _ => rfl, Nat.le_refl _⟩ (fun u hu => by cases List.mem_singleton.mp hu; trivial))
  · exact hS.elim
set_option maxHeartbeats 1000000 in
theorem mt_chr (S0 : CallFix p m c cc nL s args (x :: GT) own) (hEx : wx g.2.2.2.1 g.2.2.2.2 A s s.heap) (hA : ∀ q, s.heap.size ≤ q → A q) (h1 : Cond.methodLink own j yJ0_charAt_5068e ∈ GT) (hR : 3 + 1 ≤ R.frames ∧ 8 + (2 + 11) + 64 ≤ R.locals) (hj : j < 100000) : eg_CK p g.1 e R s m args below meth c Q wd g.2.1 vwCl g.2.2.1 g.2.2.2.1 A nL ad0 N0 cc (j, 2, 0, 0, s_chr) := by
  refine ⟨fun _ => ?_, fun z => absurd z (Nat.not_le.mpr hj), fun z => absurd z (show ¬ 200000 ≤ j by omega)⟩
  show eg_CF _ _ _ _ _ _ _ _ _ _ _ _ _ _ _ _ _ _ _ _ _ (.invokevirtual j) 2 0 0 s_chr
  intro pc cu su ls rest argv M Qp hd hn hwt hc hs hS ad H locs arr hH hL hav hrv kk kx
  unfold s_chr at hS
  split at hS
  · rename_i i k
    obtain ⟨⟨hi, hk0⟩, hS⟩ := hS
    obtain ⟨k, hk, rfl⟩ := vp_in_of hk0 (by have := (tx_all i hi).2.1; omega)
    have hk100 := (tx_all i hi).2.1
    rw [n_c (by omega)] at hS
    have hsum := eg_sum (ad := ad) (adK := g.2.2.2.1) hwt
    have hw : wx g.2.2.2.1 g.2.2.2.2 (fun q => H.size ≤ q) s H := (wx_ok _ _).2.2 A _ s H (fun q hq => hA q (Nat.le_trans hH.2.2.1.1 hq)) ((wx_ok _ _).2.1 A s s.heap H hEx hH.2.2.1.2.1)
    have run := va_runV (l := g.1) (e := e) (below := below) (meth := meth) (R := R) (H := H) (locs := locs) (cells := cu) (slots := su) (b := g.2.2.2.1 i) (As := [.int (nI k)]) (rest := rest.map (eg_cv ad g.2.2.2.1)) (g := F0 m pc arr (.int (nI k) :: .ref (g.2.2.2.1 i) :: rest.map (eg_cv ad g.2.2.2.1))) S0 (tx_at g i k hi hk) (cwV (rm := ⟨3, 0, 0, 64⟩) 1 S0.2.2.2.2 (tx_hG h1 li_J0_charAt_5068e lx_J0_charAt_5068e ln_RJ0 lc_J0_charAt_5068e) rfl rfl rfl ⟨rfl, by decide, by decide, by decide +kernel⟩ hR) ⟨tx_blind, vk_recv (A := A) hEx.1 hi hH.2.2.1, fun U hU hW => ⟨rfl, tx_st hw hU hW⟩⟩ rfl rfl hL.1 rfl (lv_room hsum) hd ⟨hc, hs⟩
    exact tx_call run (kk (some (.int ((tx_byt.getD i []).getD k 0))) M ad H locs hS hH ⟨fun _ _ => rfl, Nat.le_refl _⟩ (fun u hu => by cases List.mem_singleton.mp hu; trivial))
  · exact hS.elim
end TXM

/-! THE ENGINE IS RIGHT, instruction by instruction -/
section EC
variable {p : Program} {l : Launch} {e : Env} {R : Room} {s : State} {m : MethodId} {args : Array Value} {below : List Frame} {meth : Method} {c : Code} {Q : State → Prop}
variable {cc : ByteArray} {own er : String} {Ts : List Cond} {w : eg_W} {D : va_G} {cl : List vw_C} {aC : Nat → ClassId} {adK : Nat → Nat} {A : Nat → Prop} {nL N0 : Nat} {ad0 : Nat → Nat}
variable {pc cu su : Nat} {ls : List (Option Value)} {st : List Value} {M : eg_M} {k : eg_C} {P : eg_P}
theorem eg_lq_in {α : Type} : ∀ {t : List (Nat × α)} {k : Nat} {x : α}, eg_lq t k = some x → (k, x) ∈ t := by
  intro t
  induction t with
  | nil => intro k x h; cases h
  | cons q t ih =>
    intro k x h
    unfold eg_lq at h
    cases hq : Nat.beq q.1 k with
    | true =>
      rw [hq, cond_true] at h
      have e1 : q.1 = k := Nat.eq_of_beq_eq_true hq
      have e2 : q.2 = x := Option.some.inj h
      rw [← e1, ← e2]
      exact List.mem_cons_self
    | false =>
      rw [hq, cond_false] at h
      exact List.mem_cons_of_mem _ (ih h)
theorem eg_szok1 {i : Instr} {n z : Nat} (h : eg_szok i n = true) (hz : eg_sz i = z + 1) : n = z + 1 := by
  unfold eg_szok at h
  rw [hz] at h
  exact Nat.eq_of_beq_eq_true h
/-- the field's place in its object, as the machine's rows want it -/
theorem eg_obj_at {ad : Nat → Nat} {p0 ci : Nat} (h : eg_isO w M p0 ci = true) : (eg_ws w aC adK ad M)[p0]? = some (ad p0, .inr (ci, (List.range (w.2.2.2 ci)).map (fun k => eg_cv ad adK (eg_fld w M p0 ci k)))) := by
  obtain ⟨h0, hc⟩ := eg_isO_out h
  rw [eg_ws_get (eg_lt_of h0 (by omega)), eg_ent_o h0 hc]
theorem eg_fs_at {ad : Nat → Nat} {p0 ci j n : Nat} (hj : j < n) : ((List.range n).map (fun k => eg_cv ad adK (eg_fld w M p0 ci k)))[j]? = some (eg_cv ad adK (eg_fld w M p0 ci j)) := by
  rw [List.getElem?_map, List.getElem?_range hj]
  rfl
theorem eg_s_get (hx : p.tables.exec = Jvm.exec) (hb : c.code = cc) (hts : ∀ w ∈ Ts, w.before args s = true) (hown : s.vm.findClass own = some m.cls) (hK : va_K D cl (eg_tys er aC) s) {j p0 : Nat} {q : Nat × Nat × Bool} {r : List Value} (hq : eg_FL own Ts meth cl w j q) (hd : decode cc pc = .ok (.getfield j, 3)) (ho : eg_isO w M p0 q.1 = true)
    (h : eg_G p l e R s m args below meth c Q w D cl aC adK A nL ad0 N0 (pc + 3) cu su ls (eg_fld w M p0 q.1 q.2.1 :: r) M) : eg_G p l e R s m args below meth c Q w D cl aC adK A nL ad0 N0 pc cu su ls (.ref p0 :: r) M := by
  intro ad H locs arr hH hL hst
  obtain ⟨C, T, N, ty, h1, h2, h3, h4, h5, -⟩ := hq
  have hi := eg_isO_out ho
  exact va_get (D := D) (v := eg_cv ad adK (eg_fld w M p0 q.1 q.2.1)) hx hb hts h4 hown hK hH.1 p0 (eg_obj_at ho) h1 q.2.1 h3 (hts _ h5) (fun _ z => z) (eg_fs_at (by omega)) hd (h ad H locs arr hH hL (eg_wc (eg_fld_wv hH.2.2.2.1 hi.1 hi.2) (eg_w1 hst).2))
/-- a field is written, v into the memory N -/
theorem eg_s_put (hx : p.tables.exec = Jvm.exec) (hb : c.code = cc) (hts : ∀ w ∈ Ts, w.before args s = true) (hown : s.vm.findClass own = some m.cls) (hK : va_K D cl (eg_tys er aC) s) {j p0 : Nat} {q : Nat × Nat × Bool} {v : Value} {r : List Value} (hq : eg_FL own Ts meth cl w j q) (hd : decode cc pc = .ok (.putfield j, 3)) (ho : eg_isO w M p0 q.1 = true) (hw : q.2.2 = true)
    {N : eg_M} (hN1 : N.1 = M.1) (hN2 : ∀ q, q ≠ p0 → N.2.1 q = M.2.1 q ∧ N.2.2.1 q = M.2.2.1 q ∧ N.2.2.2 q = M.2.2.2 q) (hN3 : ∀ i, i ≠ q.2.1 → eg_fld w N p0 q.1 i = eg_fld w M p0 q.1 i) (hN4 : eg_fld w N p0 q.1 q.2.1 = v) (hN5 : eg_wv (eg_N w M) v → eg_wf w M → eg_wf w N)
    (hty : ∀ (ad adK : Nat → Nat) (ty : FieldType), w.2.2.1 q.1 q.2.1 = eg_ft ty → narrow ty (eg_cv ad adK v) = eg_cv ad adK v ∧ fits ty (eg_cv ad adK v) = true)
    (h : eg_G p l e R s m args below meth c Q w D cl aC adK A nL ad0 N0 (pc + 3) cu su ls r N) : eg_G p l e R s m args below meth c Q w D cl aC adK A nL ad0 N0 pc cu su ls (v :: .ref p0 :: r) M := by
  intro ad H locs arr hH hL hst
  obtain ⟨C, T, NN, ty, h1, h2, h3, h4, h5, h6, h7, h8, h9⟩ := hq
  have hi := eg_isO_out ho
  have hv := eg_w1 hst
  have hr := (eg_w1 hv.2).2
  have hNN : eg_N w N = eg_N w M := eg_N_of hN1
  have hws : eg_ws w aC adK ad N = (eg_ws w aC adK ad M).set p0 (ad p0, .inr (q.1, ((List.range (w.2.2.2 q.1)).map (fun k => eg_cv ad adK (eg_fld w M p0 q.1 k))).set q.2.1 (eg_cv ad adK v))) := eg_ws_put hN1 hN2 hi.1 hi.2 hN3 hN4
  have kk : ∀ (H1 : Heap) (locs1 : List Loc), va_P D cl ((eg_ws w aC adK ad M).set p0 (ad p0, .inr (q.1, ((List.range (w.2.2.2 q.1)).map (fun k => eg_cv ad adK (eg_fld w M p0 q.1 k))).set q.2.1 (eg_cv ad adK v)))) H1 → va_D A ((eg_ws w aC adK ad M).set p0 (ad p0, .inr (q.1, ((List.range (w.2.2.2 q.1)).map (fun k => eg_cv ad adK (eg_fld w M p0 q.1 k))).set q.2.1 (eg_cv ad adK v)))) → va_S A s.heap H1 locs1 → W p l e R s m args below meth c H1 locs1 cu su Q (F0 m (pc + 3) arr (r.map (eg_cv ad adK))) := by
    intro H1 locs1 g1 g2 g3
    rw [← hws] at g1 g2
    exact h ad H1 locs1 arr ⟨g1, g2, g3, hN5 hv.1 hH.2.2.2.1, by rw [hNN]; exact hH.2.2.2.2⟩ (by rw [hNN]; exact hL) (by rw [hNN]; exact hr)
  obtain ⟨t1, t2⟩ := hty ad adK (ty q.2.1) h8
  have hlen : q.2.1 < ((List.range (w.2.2.2 q.1)).map (fun k => eg_cv ad adK (eg_fld w M p0 q.1 k))).length := by rw [List.length_map, List.length_range, h2]; exact h3
  rcases h9 hw with hf | ⟨hf, hin, hdecl⟩
  · exact va_put (D := D) (ty := ty q.2.1) hx hb hts h4 ty h6 h7 hown hK hH.1 hH.2.1 hH.2.2.1 p0 (eg_obj_at ho) h1 q.2.1 h3 (hts _ h5) (fun _ z => z) hf (h6 _ h3) t1 t2 hlen hd kk
  · exact va_putF (D := D) (ty := ty q.2.1) hx hb hts h4 ty h6 h7 hown hK hH.1 hH.2.1 hH.2.2.1 p0 (eg_obj_at ho) h1 q.2.1 h3 (hts _ h5) (fun _ z => z) hf hin hdecl (h6 _ h3) t1 t2 hlen hd kk
theorem eg_ft0 {t : FieldType} (h : 0 = eg_ft t) : t = .int := by cases t <;> first | rfl | cases h
theorem eg_ft1 {t : FieldType} (h : 1 = eg_ft t) : t = .long := by cases t <;> first | rfl | cases h
theorem eg_ft3 {t : FieldType} (h : 3 = eg_ft t) : t = .boolean := by cases t <;> first | rfl | cases h
theorem eg_ft2 {t : FieldType} (h : 2 = eg_ft t) : (∃ n, t = .object n) ∨ ∃ u, t = .array u := by
  cases t with
  | object n => exact Or.inl ⟨n, rfl⟩
  | array u => exact Or.inr ⟨u, rfl⟩
  | _ => cases h
theorem eg_fld_si {p0 ci i j : Nat} {v : Int32} (h : i ≠ j) : eg_fld w (eg_si M p0 j v) p0 ci i = eg_fld w M p0 ci i := by
  unfold eg_fld eg_ref
  rw [eg_sh_of (M := M) (N := eg_si M p0 j v) rfl, eg_gi_si, if_neg (fun z => h z.2)]
  rfl
theorem eg_fld_sl {p0 ci i j : Nat} {v : Int64} (h : i ≠ j) : eg_fld w (eg_sl M p0 j v) p0 ci i = eg_fld w M p0 ci i := by
  unfold eg_fld eg_ref
  rw [eg_sh_of (M := M) (N := eg_sl M p0 j v) rfl, eg_gl_sl, if_neg (fun z => h z.2)]
  rfl
theorem eg_fld_sr {p0 ci i j : Nat} {v : Option Nat} (h : i ≠ j) : eg_fld w (eg_sr M p0 j v) p0 ci i = eg_fld w M p0 ci i := by
  unfold eg_fld eg_ref
  rw [eg_sh_of (M := M) (N := eg_sr M p0 j v) rfl, eg_gr_sr, if_neg (fun z => h z.2)]
  rfl
theorem eg_fits_obj (n : String) (a : Nat) : narrow (.object n) (.ref a) = .ref a ∧ fits (.object n) (.ref a) = true := ⟨rfl, rfl⟩
theorem eg_fits_arr (t : FieldType) (a : Nat) : narrow (.array t) (.ref a) = .ref a ∧ fits (.array t) (.ref a) = true := ⟨rfl, rfl⟩
theorem eg_s_putfield (hx : p.tables.exec = Jvm.exec) (hb : c.code = cc) (hts : ∀ w ∈ Ts, w.before args s = true) (hown : s.vm.findClass own = some m.cls) (hK : va_K D cl (eg_tys er aC) s) (hfl : ∀ q ∈ k.2.1, eg_FL own Ts meth cl w q.1 q.2) {j : Nat} (hd : decode cc pc = .ok (.putfield j, 3))
    (h : eg_step w k P (eg_G p l e R s m args below meth c Q w D cl aC adK A nL ad0 N0) pc cu su ls st M (.putfield j) 3) : eg_G p l e R s m args below meth c Q w D cl aC adK A nL ad0 N0 pc cu su ls st M := by
  dsimp only [eg_step] at h
  split at h
  · rename_i v p0 r
    split at h
    · rename_i q hq
      have hF := hfl _ (eg_lq_in hq)
      replace h := eg_need_out h
      obtain ⟨h0, h⟩ := h
      rw [Bool.and_eq_true] at h0
      obtain ⟨ho, hw⟩ := h0
      split at h
      · rename_i hk
        split at h
        · rename_i x
          exact eg_s_put (N := eg_si M p0 q.2.1 x) hx hb hts hown hK hF hd ho hw rfl (fun z hz => ⟨eg_up_ne hz, rfl, rfl⟩) (fun i hi => eg_fld_si hi) (by unfold eg_fld; rw [hk]; show Value.int (eg_gi (eg_si M p0 q.2.1 x) p0 q.2.1) = _; rw [eg_gi_si, if_pos ⟨rfl, rfl⟩]) (fun _ z => eg_wf_i z)
            (fun ad adK ty hty => by rw [hk] at hty; rw [eg_ft0 hty]; exact ⟨rfl, rfl⟩) h
        · exact h.elim
      · rename_i hk
        split at h
        · rename_i x
          exact eg_s_put (N := eg_sl M p0 q.2.1 x) hx hb hts hown hK hF hd ho hw rfl (fun z hz => ⟨rfl, eg_up_ne hz, rfl⟩) (fun i hi => eg_fld_sl hi) (by unfold eg_fld; rw [hk]; show Value.long (eg_gl (eg_sl M p0 q.2.1 x) p0 q.2.1) = _; rw [eg_gl_sl, if_pos ⟨rfl, rfl⟩]) (fun _ z => eg_wf_l z)
            (fun ad adK ty hty => by rw [hk] at hty; rw [eg_ft1 hty]; exact ⟨rfl, rfl⟩) h
        · exact h.elim
      · rename_i hk
        replace h := eg_need_out h
        obtain ⟨hnone, h⟩ := h
        split at h
        · rename_i x
          refine eg_s_put (N := eg_sr M p0 q.2.1 (some x)) hx hb hts hown hK hF hd ho hw rfl (fun z hz => ⟨rfl, rfl, eg_up_ne hz⟩) (fun i hi => eg_fld_sr hi) ?_ (fun g z => eg_wf_r z g) (fun ad adK ty hty => ?_) h
          · unfold eg_fld
            rw [hk]
            show eg_rv (eg_ref (eg_sh w (eg_sr M p0 q.2.1 (some x)) p0) (eg_sr M p0 q.2.1 (some x)) p0 q.2.1) = _
            unfold eg_ref
            rw [eg_sh_of (M := M) (N := eg_sr M p0 q.2.1 (some x)) rfl, Option.isNone_iff_eq_none.mp hnone]
            show eg_rv (eg_gr (eg_sr M p0 q.2.1 (some x)) p0 q.2.1) = _
            rw [eg_gr_sr, if_pos ⟨rfl, rfl⟩]
            rfl
          · rw [hk] at hty
            rcases eg_ft2 hty with ⟨z, e⟩ | ⟨z, e⟩
            · rw [e]; exact eg_fits_obj z (ad x)
            · rw [e]; exact eg_fits_arr z (ad x)
        · exact h.elim
      · rename_i hk
        split at h
        · rename_i x
          refine eg_s_put (N := eg_si M p0 q.2.1 x) hx hb hts hown hK hF hd ho hw rfl (fun z hz => ⟨eg_up_ne hz, rfl, rfl⟩) (fun i hi => eg_fld_si hi) (by unfold eg_fld; rw [hk]; show Value.int (eg_gi (eg_si M p0 q.2.1 x) p0 q.2.1) = _; rw [eg_gi_si, if_pos ⟨rfl, rfl⟩]) (fun _ z => eg_wf_i z)
            (fun ad adK ty hty => ?_) h.2
          rw [hk] at hty
          rw [eg_ft3 hty]
          rcases h.1 with e | e <;> subst e <;> exact ⟨rfl, rfl⟩
        · exact h.elim
      · exact h.elim
    · exact h.elim
  · exact h.elim
/-- the instructions that the second theorem has -/
def eg_rest (i : Instr) : Bool := match i with
  | .arraylength => true
  | .iaload => true
  | .laload => true
  | .baload => true
  | .aaload => true
  | .iastore => true
  | .lastore => true
  | .bastore => true
  | .tableswitch _ _ _ _ => true
  | .invokevirtual _ => true
  | .invokestatic _ => true
  | .invokespecial _ => true
  | .new _ => true
  | .newarray _ => true
  | .anewarray _ => true
  | .multianewarray _ _ => true
  | .aastore => true
  | .ireturn => true
  | .lreturn => true
  | .areturn => true
  | .return_ => true
  | _ => false
theorem eg_ldcSW {p : Program} {l : Launch} {e : Env} {R : Room} {s : State} {m : MethodId} {args : Array Value} {below : List Frame} {meth : Method} {c : Code} {H : Heap} {locs : List Loc} {cells slots : Nat} {Q : State → Prop} {cc : ByteArray} {pc : Nat} {ls : Array Slot} {rest : List Value} (hexec : p.tables.exec = Jvm.exec) (hb : c.code = cc) {own tx : String} {index q : Nat} (hown : s.vm.findClass own = some m.cls) (hZ : vk_R own index tx q s) (hdg : decode cc pc = .ok (.ldc_w index, 3))
    (k : W p l e R s m args below meth c H locs cells slots Q (F0 m (pc + 3) ls (.ref q :: rest))) : W p l e R s m args below meth c H locs cells slots Q (F0 m pc ls rest) := by
  intro T hT X
  obtain ⟨t, a1, b1⟩ := k T hT X
  exact ⟨t, X.ldcStringW hexec hown (text := tx) (a := q) hZ.1 hZ.2 (g := F0 m pc ls rest) rfl (by rw [hb]; exact hdg) t a1, b1⟩
set_option maxHeartbeats 4000000 in
theorem eg_close1 (hx : p.tables.exec = Jvm.exec) (hb : c.code = cc) (hts : ∀ w ∈ Ts, w.before args s = true) (hown : s.vm.findClass own = some m.cls) (hK : va_K D cl (eg_tys er aC) s) (hfl : ∀ q ∈ k.2.1, eg_FL own Ts meth cl w q.1 q.2) (hkc : ∀ q ∈ k.2.2.1, eg_KC own Ts adK s q.1 q.2)
    {i : Instr} {n : Nat} (hd : decode cc pc = .ok (i, n)) (hz : eg_szok i n = true) (h : eg_step w k P (eg_G p l e R s m args below meth c Q w D cl aC adK A nL ad0 N0) pc cu su ls st M i n) (hrest : ∀ j : Instr, eg_rest j = true → i = j → eg_G p l e R s m args below meth c Q w D cl aC adK A nL ad0 N0 pc cu su ls st M) : eg_G p l e R s m args below meth c Q w D cl aC adK A nL ad0 N0 pc cu su ls st M := by
  cases i with
  | iadd =>
    cases eg_szok1 hz rfl
    dsimp only [eg_step] at h
    split at h
    · intro ad H locs arr hH hL hst
      exact lv_iadd hx hb hd (h ad H locs arr hH hL (eg_wc trivial (eg_w1 (eg_w1 hst).2).2))
    · exact h.elim
  | isub =>
    cases eg_szok1 hz rfl
    dsimp only [eg_step] at h
    split at h
    · intro ad H locs arr hH hL hst
      exact lv_isub hx hb hd (h ad H locs arr hH hL (eg_wc trivial (eg_w1 (eg_w1 hst).2).2))
    · exact h.elim
  | imul =>
    cases eg_szok1 hz rfl
    dsimp only [eg_step] at h
    split at h
    · intro ad H locs arr hH hL hst
      exact lv_imul hx hb hd (h ad H locs arr hH hL (eg_wc trivial (eg_w1 (eg_w1 hst).2).2))
    · exact h.elim
  | iand =>
    cases eg_szok1 hz rfl
    dsimp only [eg_step] at h
    split at h
    · intro ad H locs arr hH hL hst
      exact lv_iand hx hb hd (h ad H locs arr hH hL (eg_wc trivial (eg_w1 (eg_w1 hst).2).2))
    · exact h.elim
  | ior =>
    cases eg_szok1 hz rfl
    dsimp only [eg_step] at h
    split at h
    · intro ad H locs arr hH hL hst
      exact lv_ior hx hb hd (h ad H locs arr hH hL (eg_wc trivial (eg_w1 (eg_w1 hst).2).2))
    · exact h.elim
  | ixor =>
    cases eg_szok1 hz rfl
    dsimp only [eg_step] at h
    split at h
    · intro ad H locs arr hH hL hst
      exact lv_ixor hx hb hd (h ad H locs arr hH hL (eg_wc trivial (eg_w1 (eg_w1 hst).2).2))
    · exact h.elim
  | ishl =>
    cases eg_szok1 hz rfl
    dsimp only [eg_step] at h
    split at h
    · intro ad H locs arr hH hL hst
      exact lv_ishl hx hb hd (h ad H locs arr hH hL (eg_wc trivial (eg_w1 (eg_w1 hst).2).2))
    · exact h.elim
  | ishr =>
    cases eg_szok1 hz rfl
    dsimp only [eg_step] at h
    split at h
    · intro ad H locs arr hH hL hst
      exact lv_ishr hx hb hd (h ad H locs arr hH hL (eg_wc trivial (eg_w1 (eg_w1 hst).2).2))
    · exact h.elim
  | iushr =>
    cases eg_szok1 hz rfl
    dsimp only [eg_step] at h
    split at h
    · intro ad H locs arr hH hL hst
      exact lv_iushr hx hb hd rfl (h ad H locs arr hH hL (eg_wc trivial (eg_w1 (eg_w1 hst).2).2))
    · exact h.elim
  | idiv =>
    cases eg_szok1 hz rfl
    dsimp only [eg_step] at h
    split at h
    · intro ad H locs arr hH hL hst
      exact lv_idiv hx hb hd h.1 (h.2 ad H locs arr hH hL (eg_wc trivial (eg_w1 (eg_w1 hst).2).2))
    · exact h.elim
  | irem =>
    cases eg_szok1 hz rfl
    dsimp only [eg_step] at h
    split at h
    · intro ad H locs arr hH hL hst
      exact lv_irem hx hb hd h.1 (h.2 ad H locs arr hH hL (eg_wc trivial (eg_w1 (eg_w1 hst).2).2))
    · exact h.elim
  | ladd =>
    cases eg_szok1 hz rfl
    dsimp only [eg_step] at h
    split at h
    · intro ad H locs arr hH hL hst
      exact lv_ladd hx hb hd (h ad H locs arr hH hL (eg_wc trivial (eg_w1 (eg_w1 hst).2).2))
    · exact h.elim
  | lsub =>
    cases eg_szok1 hz rfl
    dsimp only [eg_step] at h
    split at h
    · intro ad H locs arr hH hL hst
      exact lv_lsub hx hb hd (h ad H locs arr hH hL (eg_wc trivial (eg_w1 (eg_w1 hst).2).2))
    · exact h.elim
  | lmul =>
    cases eg_szok1 hz rfl
    dsimp only [eg_step] at h
    split at h
    · intro ad H locs arr hH hL hst
      exact lv_lmul hx hb hd (h ad H locs arr hH hL (eg_wc trivial (eg_w1 (eg_w1 hst).2).2))
    · exact h.elim
  | land =>
    cases eg_szok1 hz rfl
    dsimp only [eg_step] at h
    split at h
    · intro ad H locs arr hH hL hst
      exact lv_land hx hb hd (h ad H locs arr hH hL (eg_wc trivial (eg_w1 (eg_w1 hst).2).2))
    · exact h.elim
  | lor =>
    cases eg_szok1 hz rfl
    dsimp only [eg_step] at h
    split at h
    · intro ad H locs arr hH hL hst
      exact lv_lor hx hb hd (h ad H locs arr hH hL (eg_wc trivial (eg_w1 (eg_w1 hst).2).2))
    · exact h.elim
  | ldiv =>
    cases eg_szok1 hz rfl
    dsimp only [eg_step] at h
    split at h
    · intro ad H locs arr hH hL hst
      exact lv_ldiv hx hb hd h.1 (h.2 ad H locs arr hH hL (eg_wc trivial (eg_w1 (eg_w1 hst).2).2))
    · exact h.elim
  | lrem =>
    cases eg_szok1 hz rfl
    dsimp only [eg_step] at h
    split at h
    · intro ad H locs arr hH hL hst
      exact lv_lrem hx hb hd h.1 (h.2 ad H locs arr hH hL (eg_wc trivial (eg_w1 (eg_w1 hst).2).2))
    · exact h.elim
  | lshl =>
    cases eg_szok1 hz rfl
    dsimp only [eg_step] at h
    split at h
    · intro ad H locs arr hH hL hst
      exact lv_lshl hx hb hd rfl (h ad H locs arr hH hL (eg_wc trivial (eg_w1 (eg_w1 hst).2).2))
    · exact h.elim
  | lshr =>
    cases eg_szok1 hz rfl
    dsimp only [eg_step] at h
    split at h
    · intro ad H locs arr hH hL hst
      exact lv_lshr hx hb hd rfl (h ad H locs arr hH hL (eg_wc trivial (eg_w1 (eg_w1 hst).2).2))
    · exact h.elim
  | lushr =>
    cases eg_szok1 hz rfl
    dsimp only [eg_step] at h
    split at h
    · intro ad H locs arr hH hL hst
      exact lv_lushr hx hb hd rfl (h ad H locs arr hH hL (eg_wc trivial (eg_w1 (eg_w1 hst).2).2))
    · exact h.elim
  | lcmp =>
    cases eg_szok1 hz rfl
    dsimp only [eg_step] at h
    split at h
    · intro ad H locs arr hH hL hst
      exact W.lcmp hx hb hd (h ad H locs arr hH hL (eg_wc trivial (eg_w1 (eg_w1 hst).2).2))
    · exact h.elim
  | i2l =>
    cases eg_szok1 hz rfl
    dsimp only [eg_step] at h
    split at h
    · intro ad H locs arr hH hL hst
      exact lv_i2l hx hb hd rfl (h ad H locs arr hH hL (eg_wc trivial (eg_w1 hst).2))
    · exact h.elim
  | l2i =>
    cases eg_szok1 hz rfl
    dsimp only [eg_step] at h
    split at h
    · intro ad H locs arr hH hL hst
      exact lv_l2i hx hb hd rfl (h ad H locs arr hH hL (eg_wc trivial (eg_w1 hst).2))
    · exact h.elim
  | ineg =>
    cases eg_szok1 hz rfl
    dsimp only [eg_step] at h
    split at h
    · intro ad H locs arr hH hL hst
      exact lv_ineg hx hb hd (h ad H locs arr hH hL (eg_wc trivial (eg_w1 hst).2))
    · exact h.elim
  | ifnull off =>
    cases eg_szok1 hz rfl
    dsimp only [eg_step] at h
    split at h
    · intro ad H locs arr hH hL hst
      exact lv_ifnull hx hb hd (h ad H locs arr hH hL (eg_w1 hst).2)
    · exact h.elim
  | iconst z =>
    cases eg_szok1 hz rfl
    intro ad H locs arr hH hL hst
    exact lv_iconst hx hb hd (eg_ci_ok z) (h ad H locs arr hH hL (eg_wc trivial hst))
  | bipush z =>
    cases eg_szok1 hz rfl
    replace h := eg_need_out h
    intro ad H locs arr hH hL hst
    exact lv_bipush hx hb hd (eg_bi_ok h.1) (h.2 ad H locs arr hH hL (eg_wc trivial hst))
  | sipush z =>
    cases eg_szok1 hz rfl
    replace h := eg_need_out h
    intro ad H locs arr hH hL hst
    exact lv_sipush hx hb hd (eg_si_ok h.1) (h.2 ad H locs arr hH hL (eg_wc trivial hst))
  | lconst z =>
    cases eg_szok1 hz rfl
    intro ad H locs arr hH hL hst
    exact lv_lconst hx hb hd rfl (h ad H locs arr hH hL (eg_wc trivial hst))
  | iload z =>
    cases eg_szok1 hz rfl
    exact eg_s_iload hx hb (Or.inl hd) (fun _ _ => rfl) (fun f q => by rw [hd] at q; cases q) h
  | iload_n z =>
    cases eg_szok1 hz rfl
    exact eg_s_iload hx hb (Or.inr ⟨z, hd, rfl⟩) (fun f q => by rw [hd] at q; cases q) (fun _ _ => rfl) h
  | lload z =>
    cases eg_szok1 hz rfl
    exact eg_s_lload hx hb (Or.inl hd) (fun _ _ => rfl) (fun f q => by rw [hd] at q; cases q) h
  | lload_n z =>
    cases eg_szok1 hz rfl
    exact eg_s_lload hx hb (Or.inr ⟨z, hd, rfl⟩) (fun f q => by rw [hd] at q; cases q) (fun _ _ => rfl) h
  | aload z =>
    cases eg_szok1 hz rfl
    exact eg_s_aload hx hb (Or.inl hd) (fun _ _ => rfl) (fun f q => by rw [hd] at q; cases q) h
  | aload_n z =>
    cases eg_szok1 hz rfl
    exact eg_s_aload hx hb (Or.inr ⟨z, hd, rfl⟩) (fun f q => by rw [hd] at q; cases q) (fun _ _ => rfl) h
  | istore z =>
    cases eg_szok1 hz rfl
    dsimp only [eg_step] at h
    split at h
    · rename_i x r
      replace h := eg_need_out h
      intro ad H locs arr hH hL hst
      have hi : z < nL := by rw [← hL.2.2.1]; exact Nat.blt_eq.mp h.1
      exact lv_istore hx hb hd hL.has hi rfl (fun ls' hl' => h.2 ad H locs ls' hH (hL.store1 hi (eg_w1 hst).1 hl') (eg_w1 hst).2)
    · exact h.elim
  | istore_n z =>
    cases eg_szok1 hz rfl
    dsimp only [eg_step] at h
    split at h
    · rename_i x r
      replace h := eg_need_out h
      intro ad H locs arr hH hL hst
      have hi : z.val < nL := by rw [← hL.2.2.1]; exact Nat.blt_eq.mp h.1
      exact lv_istore_n hx hb hd rfl hL.has hi rfl (fun ls' hl' => h.2 ad H locs ls' hH (hL.store1 hi (eg_w1 hst).1 hl') (eg_w1 hst).2)
    · exact h.elim
  | astore z =>
    cases eg_szok1 hz rfl
    dsimp only [eg_step] at h
    split at h
    · rename_i x r
      replace h := eg_need_out h
      intro ad H locs arr hH hL hst
      have hi : z < nL := by rw [← hL.2.2.1]; exact Nat.blt_eq.mp h.1
      exact lv_astore hx hb hd hL.has hi rfl (fun ls' hl' => h.2 ad H locs ls' hH (hL.store1 hi (eg_w1 hst).1 hl') (eg_w1 hst).2)
    · exact h.elim
  | astore_n z =>
    cases eg_szok1 hz rfl
    dsimp only [eg_step] at h
    split at h
    · rename_i x r
      replace h := eg_need_out h
      intro ad H locs arr hH hL hst
      have hi : z.val < nL := by rw [← hL.2.2.1]; exact Nat.blt_eq.mp h.1
      exact lv_astore_n hx hb hd rfl hL.has hi rfl (fun ls' hl' => h.2 ad H locs ls' hH (hL.store1 hi (eg_w1 hst).1 hl') (eg_w1 hst).2)
    · exact h.elim
  | lstore z =>
    cases eg_szok1 hz rfl
    dsimp only [eg_step] at h
    split at h
    · rename_i x r
      replace h := eg_need_out h
      intro ad H locs arr hH hL hst
      have hi : z + 1 < nL := by rw [← hL.2.2.1]; exact Nat.blt_eq.mp h.1
      exact lv_lstore hx hb hd hL.has hi rfl (fun ls' hl' => h.2 ad H locs ls' hH (hL.store2 hi (eg_w1 hst).1 hl') (eg_w1 hst).2)
    · exact h.elim
  | lstore_n z =>
    cases eg_szok1 hz rfl
    dsimp only [eg_step] at h
    split at h
    · rename_i x r
      replace h := eg_need_out h
      intro ad H locs arr hH hL hst
      have hi : z.val + 1 < nL := by rw [← hL.2.2.1]; exact Nat.blt_eq.mp h.1
      exact lv_lstore_n hx hb hd rfl hL.has hi rfl (fun ls' hl' => h.2 ad H locs ls' hH (hL.store2 hi (eg_w1 hst).1 hl') (eg_w1 hst).2)
    · exact h.elim
  | iinc z d =>
    cases eg_szok1 hz rfl
    dsimp only [eg_step] at h
    split at h
    · rename_i x hv
      replace h := eg_need_out h
      intro ad H locs arr hH hL hst
      have hi : z < nL := by rw [← hL.2.2.1]; exact Nat.blt_eq.mp h.1
      obtain ⟨y, hy⟩ := List.getElem?_of_mem (eg_pr_in (ad := ad) (adK := adK) hL.2.2.1 hv)
      exact lv_iinc (v := x + eg_ci d) hx hb hd hL.has hy (by rw [eg_ci_ok]) hi rfl (fun ls' hl' => h.2 ad H locs ls' hH (hL.store1 (v := .int (x + eg_ci d)) hi trivial hl') hst)
    · exact h.elim
  | dup =>
    cases eg_szok1 hz rfl
    dsimp only [eg_step] at h
    split at h
    · intro ad H locs arr hH hL hst
      exact lv_dup hx hb hd rfl (h ad H locs arr hH hL (eg_wc trivial hst))
    · intro ad H locs arr hH hL hst
      exact lv_dup hx hb hd rfl (h ad H locs arr hH hL (eg_wc (eg_w1 hst).1 hst))
    · exact h.elim
  | dup_x1 =>
    cases eg_szok1 hz rfl
    dsimp only [eg_step] at h
    split at h
    · intro ad H locs arr hH hL hst
      exact lv_dup_x1 hx hb hd rfl rfl (h ad H locs arr hH hL (eg_wc trivial (eg_wc (eg_w1 (eg_w1 hst).2).1 (eg_wc trivial (eg_w1 (eg_w1 hst).2).2))))
    · intro ad H locs arr hH hL hst
      exact lv_dup_x1 hx hb hd rfl rfl (h ad H locs arr hH hL (eg_wc trivial (eg_wc trivial (eg_wc trivial (eg_w1 (eg_w1 hst).2).2))))
    · exact h.elim
  | dup_x2 =>
    cases eg_szok1 hz rfl
    dsimp only [eg_step] at h
    split at h
    · intro ad H locs arr hH hL hst
      have g := eg_w1 (eg_w1 (eg_w1 hst).2).2
      exact lv_dup_x2 hx hb hd rfl rfl rfl (h ad H locs arr hH hL (eg_wc trivial (eg_wc trivial (eg_wc g.1 (eg_wc trivial g.2)))))
    · exact h.elim
  | dup2 =>
    cases eg_szok1 hz rfl
    dsimp only [eg_step] at h
    split at h
    · intro ad H locs arr hH hL hst
      exact lv_dup2_11 hx hb hd rfl rfl (h ad H locs arr hH hL (eg_wc trivial (eg_wc (eg_w1 (eg_w1 hst).2).1 hst)))
    · intro ad H locs arr hH hL hst
      exact lv_dup2_2 hx hb hd rfl (h ad H locs arr hH hL (eg_wc trivial hst))
    · exact h.elim
  | goto off =>
    cases eg_szok1 hz rfl
    obtain ⟨tgt, ht, h⟩ := eg_to_out h
    intro ad H locs arr hH hL hst
    exact lv_goto hx hb hd ht (h ad H locs arr hH hL hst)
  | ifCond op off =>
    cases eg_szok1 hz rfl
    dsimp only [eg_step] at h
    split at h
    · rename_i x r
      obtain ⟨tgt, ht, h⟩ := eg_br_out h
      intro ad H locs arr hH hL hst
      cases op with
      | eq => exact lv_if_eq hx hb hd ht (fun z => h.1 z ad H locs arr hH hL (eg_w1 hst).2) (fun z => h.2 z ad H locs arr hH hL (eg_w1 hst).2)
      | ne => exact lv_if_ne hx hb hd ht (fun z => h.2 z ad H locs arr hH hL (eg_w1 hst).2) (fun z => h.1 z ad H locs arr hH hL (eg_w1 hst).2)
      | lt => exact lv_if_lt hx hb hd ht (fun z => h.1 z ad H locs arr hH hL (eg_w1 hst).2) (fun z => h.2 z ad H locs arr hH hL (eg_w1 hst).2)
      | ge => exact lv_if_ge hx hb hd ht (fun z => h.1 z ad H locs arr hH hL (eg_w1 hst).2) (fun z => h.2 z ad H locs arr hH hL (eg_w1 hst).2)
      | gt => exact lv_if_gt hx hb hd ht (fun z => h.1 z ad H locs arr hH hL (eg_w1 hst).2) (fun z => h.2 z ad H locs arr hH hL (eg_w1 hst).2)
      | le => exact lv_if_le hx hb hd ht (fun z => h.1 z ad H locs arr hH hL (eg_w1 hst).2) (fun z => h.2 z ad H locs arr hH hL (eg_w1 hst).2)
    · exact h.elim
  | if_icmp op off =>
    cases eg_szok1 hz rfl
    dsimp only [eg_step] at h
    split at h
    · rename_i y x r
      obtain ⟨tgt, ht, h⟩ := eg_br_out h
      intro ad H locs arr hH hL hst
      have hst := (eg_w1 (eg_w1 hst).2).2
      cases op with
      | eq => exact lv_icmp_eq hx hb hd ht (fun z => h.1 z ad H locs arr hH hL hst) (fun z => h.2 z ad H locs arr hH hL hst)
      | ne => exact lv_icmp_ne hx hb hd ht (fun z => h.2 z ad H locs arr hH hL hst) (fun z => h.1 z ad H locs arr hH hL hst)
      | lt => exact lv_icmp_lt hx hb hd ht (fun z => h.1 z ad H locs arr hH hL hst) (fun z => h.2 z ad H locs arr hH hL hst)
      | ge => exact lv_icmp_ge hx hb hd ht (fun z => h.1 z ad H locs arr hH hL hst) (fun z => h.2 z ad H locs arr hH hL hst)
      | gt => exact lv_icmp_gt hx hb hd ht (fun z => h.1 z ad H locs arr hH hL hst) (fun z => h.2 z ad H locs arr hH hL hst)
      | le => exact lv_icmp_le hx hb hd ht (fun z => h.1 z ad H locs arr hH hL hst) (fun z => h.2 z ad H locs arr hH hL hst)
    · exact h.elim
  | getfield j =>
    cases eg_szok1 hz rfl
    dsimp only [eg_step] at h
    split at h
    · split at h
      · rename_i q hq
        replace h := eg_need_out h
        exact eg_s_get hx hb hts hown hK (hfl _ (eg_lq_in hq)) hd h.1 h.2
      · exact h.elim
    · exact h.elim
  | putfield j =>
    cases eg_szok1 hz rfl
    exact eg_s_putfield hx hb hts hown hK hfl hd h
  | ldc j =>
    cases eg_szok1 hz rfl
    dsimp only [eg_step] at h
    split at h
    · rename_i x hv
      intro ad H locs arr hH hL hst
      exact lv_ldc hx hb hown (hts _ (hkc _ (eg_lq_in hv))) hd (h ad H locs arr hH hL (eg_wc trivial hst))
    · rename_i x hv
      intro ad H locs arr hH hL hst
      obtain ⟨tx, ht⟩ := hkc _ (eg_lq_in hv)
      exact va_ldcS hx hb hown ht hd (h ad H locs arr hH hL (eg_wc trivial hst))
    · exact h.elim
  | ldc_w j =>
    cases eg_szok1 hz rfl
    dsimp only [eg_step] at h
    split at h
    · rename_i x hv
      intro ad H locs arr hH hL hst
      exact lv_ldcw hx hb hown (hts _ (hkc _ (eg_lq_in hv))) hd (h ad H locs arr hH hL (eg_wc trivial hst))
    · rename_i x hv
      intro ad H locs arr hH hL hst
      obtain ⟨tx, ht⟩ := hkc _ (eg_lq_in hv)
      exact eg_ldcSW hx hb hown ht hd (h ad H locs arr hH hL (eg_wc trivial hst))
    · exact h.elim
  | ldc2_w j =>
    cases eg_szok1 hz rfl
    dsimp only [eg_step] at h
    split at h
    · rename_i x hv
      intro ad H locs arr hH hL hst
      exact lv_ldc2 hx hb hown (hts _ (hkc _ (eg_lq_in hv))) hd (h ad H locs arr hH hL (eg_wc trivial hst))
    · exact h.elim
  | _ => first | exact hrest _ rfl rfl | exact h.elim

end EC

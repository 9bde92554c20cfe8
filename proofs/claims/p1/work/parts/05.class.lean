theorem dX0_docAt_0 : decode cX0_docAt 0 = .ok (.iload_n 1, 1) := by decide +kernel
theorem dX0_docAt_1 : decode cX0_docAt 1 = .ok (.ifCond .lt 21, 3) := by decide +kernel
theorem dX0_docAt_4 : decode cX0_docAt 4 = .ok (.iload_n 1, 1) := by decide +kernel
theorem dX0_docAt_5 : decode cX0_docAt 5 = .ok (.aload_n 0, 1) := by decide +kernel
theorem dX0_docAt_6 : decode cX0_docAt 6 = .ok (.getfield 7, 3) := by decide +kernel
theorem dX0_docAt_9 : decode cX0_docAt 9 = .ok (.arraylength, 1) := by decide +kernel
theorem dX0_docAt_10 : decode cX0_docAt 10 = .ok (.if_icmp .ge 12, 3) := by decide +kernel
theorem dX0_docAt_22 : decode cX0_docAt 22 = .ok (.aconst_null, 1) := by decide +kernel
theorem dX0_docAt_23 : decode cX0_docAt 23 = .ok (.areturn, 1) := by decide +kernel
def mwX0_docAt : List Cond := .code yX0_docAt cX0_docAt 2 (some (.object "PatternGate$Doc")) :: ([.fieldLink RX0 7 "PatternGate$Book" "docs" "[LPatternGate$Doc;"] ++ wsX00)
theorem fin_X0_docAt_X0 : ∀ w ∈ wsX00, w ∈ mwX0_docAt := fun w h => List.mem_cons_of_mem _ (List.mem_append_right _ h)
set_option maxHeartbeats 4000000 in
set_option maxRecDepth 100000 in
/-- docAt on a book without any: null -/
theorem c_docAt (l : Launch) (dC : Nat → ClassId) (dI : Nat → Nat → Nat) (b d0 p0 : Nat) (cD cP : ClassId) (i : Int32) : Met l yX0_docAt mwX0_docAt ({ frames := 0, cells := 0, slots := 0, locals := 0 }) (va_Pc [.ref b, .int i] (fun U => va_P (dC, dI) vwCl ([(b, .inr (0, [.ref d0, .ref p0, .null])), (d0, .inl (cD, 0, .inr (.inr (.inr (.inr (fun _ => none)))))), (p0, .inl (cP, 0, .inr (.inr (.inr (.inr (fun _ => none))))))]) U.heap ∧ va_K (dC, dI) vwCl ([(cD, .object "PatternGate$Doc"), (cP, .object "PatternGate$Pattern")]) U)) (va_Sq (fun o => o = none)) 0 0 (fun _ => False) := by
  refine Met.ofW (cc := cX0_docAt) (maxL := 2) (ret := (some (.object "PatternGate$Doc"))) (by decide +kernel) rfl ?_
  intro p e s m args below meth c s₁ B hml hv
  obtain ⟨rfl, hP, hK⟩ := hv
  have hx := B.exec
  have hb := B.bytes
  have hr := B.returns
  have hts := atoms_spec (ws := mwX0_docAt) B.pre
  have hown : s.vm.findClass RX0 = some m.cls := findClass_of_methodNamed B.named
  have hlocks := B.notSynchronized
  have hP : va_P (dC, dI) vwCl [(b, .inr (0, [.ref d0, .ref p0, .null])), (d0, .inl (cD, 0, .inr (.inr (.inr (.inr (fun _ => none)))))), (p0, .inl (cP, 0, .inr (.inr (.inr (.inr (fun _ => none))))))] s.heap := hP
  have hK : va_K (dC, dI) vwCl [(cD, .object "PatternGate$Doc"), (cP, .object "PatternGate$Pattern")] s := hK
  generalize hH : s.heap = H at hP ⊢
  have hl := lv_entry ([.ref b, .int i]) (n := 2) (Nat.le_of_ble_eq_true rfl)
  rw [lg_entry_eq]
  generalize (lg_sl ([.ref b, .int i]) ++ List.replicate (2 - (lg_sl ([.ref b, .int i])).length) Slot.unset).toArray = ls at hl ⊢
  have hl : lv_has ls 2 [(0, .ref b), (1, .int i)] := hl
  refine lv_iload_n hx hb dX0_docAt_0 rfl (lv_at hl 1 rfl) ?_
  refine lv_if_lt (tgt := 22) hx hb dX0_docAt_1 (by decide) (fun k_1 => ?_) (fun k_1 => ?_)
  · refine lv_null hx hb dX0_docAt_22 ?_
    exact W.aret hx hb hr (Or.inl ⟨_, rfl⟩) (Or.inl rfl) (fun t ht hW => ⟨none, rfl, rfl, ht.trans hH.symm⟩) t_nil dX0_docAt_23
  · refine lv_iload_n hx hb dX0_docAt_4 rfl (lv_at hl 1 rfl) ?_
    refine lv_aload_n hx hb dX0_docAt_5 rfl (lv_at hl 0 rfl) ?_
    refine va_get (D := (dC, dI)) (ci := 0) (v := .ref d0) (C := RX0) (T := TX0) (N := 3) hx hb hts fin_X0_docAt_X0 hown hK hP 0 rfl rfl 0 (by decide) (hts (.fieldLink RX0 7 "PatternGate$Book" "docs" "[LPatternGate$Doc;") (List.mem_of_getElem? (i := 1) (by decide +kernel))) (fun _ h9 => h9) rfl dX0_docAt_6 ?_
    refine va_alen (v := 0) hx hb hK hP 1 0 rfl rfl rfl dX0_docAt_9 ?_
    refine lv_icmp_ge (tgt := 22) hx hb dX0_docAt_10 (by decide) (fun k_2 => ?_) (fun k_2 => absurd (zz_ge k_1) k_2)
    refine lv_null hx hb dX0_docAt_22 ?_
    exact W.aret hx hb hr (Or.inl ⟨_, rfl⟩) (Or.inl rfl) (fun t ht hW => ⟨none, rfl, rfl, ht.trans hH.symm⟩) t_nil dX0_docAt_23
theorem dX0_patternAt_0 : decode cX0_patternAt 0 = .ok (.iload_n 1, 1) := by decide +kernel
theorem dX0_patternAt_1 : decode cX0_patternAt 1 = .ok (.ifCond .lt 21, 3) := by decide +kernel
theorem dX0_patternAt_4 : decode cX0_patternAt 4 = .ok (.iload_n 1, 1) := by decide +kernel
theorem dX0_patternAt_5 : decode cX0_patternAt 5 = .ok (.aload_n 0, 1) := by decide +kernel
theorem dX0_patternAt_6 : decode cX0_patternAt 6 = .ok (.getfield 13, 3) := by decide +kernel
theorem dX0_patternAt_9 : decode cX0_patternAt 9 = .ok (.arraylength, 1) := by decide +kernel
theorem dX0_patternAt_10 : decode cX0_patternAt 10 = .ok (.if_icmp .ge 12, 3) := by decide +kernel
theorem dX0_patternAt_22 : decode cX0_patternAt 22 = .ok (.aconst_null, 1) := by decide +kernel
theorem dX0_patternAt_23 : decode cX0_patternAt 23 = .ok (.areturn, 1) := by decide +kernel
def mwX0_patternAt : List Cond := .code yX0_patternAt cX0_patternAt 2 (some (.object "PatternGate$Pattern")) :: ([.fieldLink RX0 13 "PatternGate$Book" "patterns" "[LPatternGate$Pattern;"] ++ wsX00)
theorem fin_X0_patternAt_X0 : ∀ w ∈ wsX00, w ∈ mwX0_patternAt := fun w h => List.mem_cons_of_mem _ (List.mem_append_right _ h)
set_option maxHeartbeats 4000000 in
set_option maxRecDepth 100000 in
/-- patternAt on a book without any: null -/
theorem c_patternAt (l : Launch) (dC : Nat → ClassId) (dI : Nat → Nat → Nat) (b d0 p0 : Nat) (cD cP : ClassId) (i : Int32) : Met l yX0_patternAt mwX0_patternAt ({ frames := 0, cells := 0, slots := 0, locals := 0 }) (va_Pc [.ref b, .int i] (fun U => va_P (dC, dI) vwCl ([(b, .inr (0, [.ref d0, .ref p0, .null])), (d0, .inl (cD, 0, .inr (.inr (.inr (.inr (fun _ => none)))))), (p0, .inl (cP, 0, .inr (.inr (.inr (.inr (fun _ => none))))))]) U.heap ∧ va_K (dC, dI) vwCl ([(cD, .object "PatternGate$Doc"), (cP, .object "PatternGate$Pattern")]) U)) (va_Sq (fun o => o = none)) 0 0 (fun _ => False) := by
  refine Met.ofW (cc := cX0_patternAt) (maxL := 2) (ret := (some (.object "PatternGate$Pattern"))) (by decide +kernel) rfl ?_
  intro p e s m args below meth c s₁ B hml hv
  obtain ⟨rfl, hP, hK⟩ := hv
  have hx := B.exec
  have hb := B.bytes
  have hr := B.returns
  have hts := atoms_spec (ws := mwX0_patternAt) B.pre
  have hown : s.vm.findClass RX0 = some m.cls := findClass_of_methodNamed B.named
  have hlocks := B.notSynchronized
  have hP : va_P (dC, dI) vwCl [(b, .inr (0, [.ref d0, .ref p0, .null])), (d0, .inl (cD, 0, .inr (.inr (.inr (.inr (fun _ => none)))))), (p0, .inl (cP, 0, .inr (.inr (.inr (.inr (fun _ => none))))))] s.heap := hP
  have hK : va_K (dC, dI) vwCl [(cD, .object "PatternGate$Doc"), (cP, .object "PatternGate$Pattern")] s := hK
  generalize hH : s.heap = H at hP ⊢
  have hl := lv_entry ([.ref b, .int i]) (n := 2) (Nat.le_of_ble_eq_true rfl)
  rw [lg_entry_eq]
  generalize (lg_sl ([.ref b, .int i]) ++ List.replicate (2 - (lg_sl ([.ref b, .int i])).length) Slot.unset).toArray = ls at hl ⊢
  have hl : lv_has ls 2 [(0, .ref b), (1, .int i)] := hl
  refine lv_iload_n hx hb dX0_patternAt_0 rfl (lv_at hl 1 rfl) ?_
  refine lv_if_lt (tgt := 22) hx hb dX0_patternAt_1 (by decide) (fun k_1 => ?_) (fun k_1 => ?_)
  · refine lv_null hx hb dX0_patternAt_22 ?_
    exact W.aret hx hb hr (Or.inl ⟨_, rfl⟩) (Or.inl rfl) (fun t ht hW => ⟨none, rfl, rfl, ht.trans hH.symm⟩) t_nil dX0_patternAt_23
  · refine lv_iload_n hx hb dX0_patternAt_4 rfl (lv_at hl 1 rfl) ?_
    refine lv_aload_n hx hb dX0_patternAt_5 rfl (lv_at hl 0 rfl) ?_
    refine va_get (D := (dC, dI)) (ci := 0) (v := .ref p0) (C := RX0) (T := TX0) (N := 3) hx hb hts fin_X0_patternAt_X0 hown hK hP 0 rfl rfl 1 (by decide) (hts (.fieldLink RX0 13 "PatternGate$Book" "patterns" "[LPatternGate$Pattern;") (List.mem_of_getElem? (i := 1) (by decide +kernel))) (fun _ h9 => h9) rfl dX0_patternAt_6 ?_
    refine va_alen (v := 0) hx hb hK hP 2 1 rfl rfl rfl dX0_patternAt_9 ?_
    refine lv_icmp_ge (tgt := 22) hx hb dX0_patternAt_10 (by decide) (fun k_2 => ?_) (fun k_2 => absurd (zz_ge k_1) k_2)
    refine lv_null hx hb dX0_patternAt_22 ?_
    exact W.aret hx hb hr (Or.inl ⟨_, rfl⟩) (Or.inl rfl) (fun t ht hW => ⟨none, rfl, rfl, ht.trans hH.symm⟩) t_nil dX0_patternAt_23
theorem dX0_listBits_0 : decode cX0_listBits 0 = .ok (.iconst 0, 1) := by decide +kernel
theorem dX0_listBits_1 : decode cX0_listBits 1 = .ok (.istore_n 2, 1) := by decide +kernel
theorem dX0_listBits_2 : decode cX0_listBits 2 = .ok (.iconst 0, 1) := by decide +kernel
theorem dX0_listBits_3 : decode cX0_listBits 3 = .ok (.istore_n 3, 1) := by decide +kernel
theorem dX0_listBits_4 : decode cX0_listBits 4 = .ok (.iload_n 3, 1) := by decide +kernel
theorem dX0_listBits_5 : decode cX0_listBits 5 = .ok (.aload_n 0, 1) := by decide +kernel
theorem dX0_listBits_6 : decode cX0_listBits 6 = .ok (.getfield 7, 3) := by decide +kernel
theorem dX0_listBits_9 : decode cX0_listBits 9 = .ok (.arraylength, 1) := by decide +kernel
theorem dX0_listBits_10 : decode cX0_listBits 10 = .ok (.if_icmp .ge 37, 3) := by decide +kernel
theorem dX0_listBits_47 : decode cX0_listBits 47 = .ok (.iload_n 2, 1) := by decide +kernel
theorem dX0_listBits_48 : decode cX0_listBits 48 = .ok (.ireturn, 1) := by decide +kernel
def mwX0_listBits : List Cond := .code yX0_listBits cX0_listBits 4 (some .int) :: ([.fieldLink RX0 7 "PatternGate$Book" "docs" "[LPatternGate$Doc;"] ++ wsX00)
theorem fin_X0_listBits_X0 : ∀ w ∈ wsX00, w ∈ mwX0_listBits := fun w h => List.mem_cons_of_mem _ (List.mem_append_right _ h)
set_option maxHeartbeats 4000000 in
set_option maxRecDepth 100000 in
/-- listBits of a book without DOCUMENTS: 0 -/
theorem c_listBits (l : Launch) (dC : Nat → ClassId) (dI : Nat → Nat → Nat) (b d0 p0 : Nat) (cD cP : ClassId) (i : Int32) : Met l yX0_listBits mwX0_listBits ({ frames := 0, cells := 0, slots := 0, locals := 0 }) (va_Pc [.ref b, .int i] (fun U => va_P (dC, dI) vwCl ([(b, .inr (0, [.ref d0, .ref p0, .null])), (d0, .inl (cD, 0, .inr (.inr (.inr (.inr (fun _ => none)))))), (p0, .inl (cP, 0, .inr (.inr (.inr (.inr (fun _ => none))))))]) U.heap ∧ va_K (dC, dI) vwCl ([(cD, .object "PatternGate$Doc"), (cP, .object "PatternGate$Pattern")]) U)) (vp_Si (fun o => o = 0)) 0 0 (fun _ => False) := by
  refine Met.ofW (cc := cX0_listBits) (maxL := 4) (ret := (some .int)) (by decide +kernel) rfl ?_
  intro p e s m args below meth c s₁ B hml hv
  obtain ⟨rfl, hP, hK⟩ := hv
  have hx := B.exec
  have hb := B.bytes
  have hr := B.returns
  have hts := atoms_spec (ws := mwX0_listBits) B.pre
  have hown : s.vm.findClass RX0 = some m.cls := findClass_of_methodNamed B.named
  have hlocks := B.notSynchronized
  have hP : va_P (dC, dI) vwCl [(b, .inr (0, [.ref d0, .ref p0, .null])), (d0, .inl (cD, 0, .inr (.inr (.inr (.inr (fun _ => none)))))), (p0, .inl (cP, 0, .inr (.inr (.inr (.inr (fun _ => none))))))] s.heap := hP
  have hK : va_K (dC, dI) vwCl [(cD, .object "PatternGate$Doc"), (cP, .object "PatternGate$Pattern")] s := hK
  generalize hH : s.heap = H at hP ⊢
  have hl := lv_entry ([.ref b, .int i]) (n := 4) (Nat.le_of_ble_eq_true rfl)
  rw [lg_entry_eq]
  generalize (lg_sl ([.ref b, .int i]) ++ List.replicate (4 - (lg_sl ([.ref b, .int i])).length) Slot.unset).toArray = ls at hl ⊢
  have hl : lv_has ls 4 [(0, .ref b), (1, .int i)] := hl
  refine lv_iconst (v := 0) hx hb dX0_listBits_0 (by decide) ?_
  refine lv_istore_n (lv' := [(2, .int 0), (0, .ref b), (1, .int i)]) hx hb dX0_listBits_1 rfl hl (by decide) rfl (fun ls hl => ?_)
  refine lv_iconst (v := 0) hx hb dX0_listBits_2 (by decide) ?_
  refine lv_istore_n (lv' := [(3, .int 0), (2, .int 0), (0, .ref b), (1, .int i)]) hx hb dX0_listBits_3 rfl hl (by decide) rfl (fun ls hl => ?_)
  refine lv_iload_n hx hb dX0_listBits_4 rfl (lv_at hl 0 rfl) ?_
  refine lv_aload_n hx hb dX0_listBits_5 rfl (lv_at hl 2 rfl) ?_
  refine va_get (D := (dC, dI)) (ci := 0) (v := .ref d0) (C := RX0) (T := TX0) (N := 3) hx hb hts fin_X0_listBits_X0 hown hK hP 0 rfl rfl 0 (by decide) (hts (.fieldLink RX0 7 "PatternGate$Book" "docs" "[LPatternGate$Doc;") (List.mem_of_getElem? (i := 1) (by decide +kernel))) (fun _ h9 => h9) rfl dX0_listBits_6 ?_
  refine va_alen (v := 0) hx hb hK hP 1 0 rfl rfl rfl dX0_listBits_9 ?_
  refine lv_icmp_ge (tgt := 47) hx hb dX0_listBits_10 (by decide) (fun k_1 => ?_) (fun k_1 => absurd (by decide) k_1)
  refine lv_iload_n hx hb dX0_listBits_47 rfl (lv_at hl 1 rfl) ?_
  exact W.iret hx hb hr (fun t ht hW => ⟨_, rfl, rfl, ht.trans hH.symm⟩) t_nil dX0_listBits_48
theorem dX0_allLetters_0 : decode cX0_allLetters 0 = .ok (.iconst 0, 1) := by decide +kernel
theorem dX0_allLetters_1 : decode cX0_allLetters 1 = .ok (.istore_n 1, 1) := by decide +kernel
theorem dX0_allLetters_2 : decode cX0_allLetters 2 = .ok (.iconst 0, 1) := by decide +kernel
theorem dX0_allLetters_3 : decode cX0_allLetters 3 = .ok (.istore_n 2, 1) := by decide +kernel
theorem dX0_allLetters_4 : decode cX0_allLetters 4 = .ok (.iload_n 2, 1) := by decide +kernel
theorem dX0_allLetters_5 : decode cX0_allLetters 5 = .ok (.aload_n 0, 1) := by decide +kernel
theorem dX0_allLetters_6 : decode cX0_allLetters 6 = .ok (.getfield 7, 3) := by decide +kernel
theorem dX0_allLetters_9 : decode cX0_allLetters 9 = .ok (.arraylength, 1) := by decide +kernel
theorem dX0_allLetters_10 : decode cX0_allLetters 10 = .ok (.if_icmp .ge 35, 3) := by decide +kernel
theorem dX0_allLetters_45 : decode cX0_allLetters 45 = .ok (.iload_n 1, 1) := by decide +kernel
theorem dX0_allLetters_46 : decode cX0_allLetters 46 = .ok (.ireturn, 1) := by decide +kernel
def mwX0_allLetters : List Cond := .code yX0_allLetters cX0_allLetters 3 (some .int) :: ([.fieldLink RX0 7 "PatternGate$Book" "docs" "[LPatternGate$Doc;"] ++ wsX00)
theorem fin_X0_allLetters_X0 : ∀ w ∈ wsX00, w ∈ mwX0_allLetters := fun w h => List.mem_cons_of_mem _ (List.mem_append_right _ h)
set_option maxHeartbeats 4000000 in
set_option maxRecDepth 100000 in
/-- allLetters of a book without DOCUMENTS: 0 -/
theorem c_allLetters (l : Launch) (dC : Nat → ClassId) (dI : Nat → Nat → Nat) (b d0 p0 : Nat) (cD cP : ClassId) : Met l yX0_allLetters mwX0_allLetters ({ frames := 0, cells := 0, slots := 0, locals := 0 }) (va_Pc [.ref b] (fun U => va_P (dC, dI) vwCl ([(b, .inr (0, [.ref d0, .ref p0, .null])), (d0, .inl (cD, 0, .inr (.inr (.inr (.inr (fun _ => none)))))), (p0, .inl (cP, 0, .inr (.inr (.inr (.inr (fun _ => none))))))]) U.heap ∧ va_K (dC, dI) vwCl ([(cD, .object "PatternGate$Doc"), (cP, .object "PatternGate$Pattern")]) U)) (vp_Si (fun o => o = 0)) 0 0 (fun _ => False) := by
  refine Met.ofW (cc := cX0_allLetters) (maxL := 3) (ret := (some .int)) (by decide +kernel) rfl ?_
  intro p e s m args below meth c s₁ B hml hv
  obtain ⟨rfl, hP, hK⟩ := hv
  have hx := B.exec
  have hb := B.bytes
  have hr := B.returns
  have hts := atoms_spec (ws := mwX0_allLetters) B.pre
  have hown : s.vm.findClass RX0 = some m.cls := findClass_of_methodNamed B.named
  have hlocks := B.notSynchronized
  have hP : va_P (dC, dI) vwCl [(b, .inr (0, [.ref d0, .ref p0, .null])), (d0, .inl (cD, 0, .inr (.inr (.inr (.inr (fun _ => none)))))), (p0, .inl (cP, 0, .inr (.inr (.inr (.inr (fun _ => none))))))] s.heap := hP
  have hK : va_K (dC, dI) vwCl [(cD, .object "PatternGate$Doc"), (cP, .object "PatternGate$Pattern")] s := hK
  generalize hH : s.heap = H at hP ⊢
  have hl := lv_entry ([.ref b]) (n := 3) (Nat.le_of_ble_eq_true rfl)
  rw [lg_entry_eq]
  generalize (lg_sl ([.ref b]) ++ List.replicate (3 - (lg_sl ([.ref b])).length) Slot.unset).toArray = ls at hl ⊢
  have hl : lv_has ls 3 [(0, .ref b)] := hl
  refine lv_iconst (v := 0) hx hb dX0_allLetters_0 (by decide) ?_
  refine lv_istore_n (lv' := [(1, .int 0), (0, .ref b)]) hx hb dX0_allLetters_1 rfl hl (by decide) rfl (fun ls hl => ?_)
  refine lv_iconst (v := 0) hx hb dX0_allLetters_2 (by decide) ?_
  refine lv_istore_n (lv' := [(2, .int 0), (1, .int 0), (0, .ref b)]) hx hb dX0_allLetters_3 rfl hl (by decide) rfl (fun ls hl => ?_)
  refine lv_iload_n hx hb dX0_allLetters_4 rfl (lv_at hl 0 rfl) ?_
  refine lv_aload_n hx hb dX0_allLetters_5 rfl (lv_at hl 2 rfl) ?_
  refine va_get (D := (dC, dI)) (ci := 0) (v := .ref d0) (C := RX0) (T := TX0) (N := 3) hx hb hts fin_X0_allLetters_X0 hown hK hP 0 rfl rfl 0 (by decide) (hts (.fieldLink RX0 7 "PatternGate$Book" "docs" "[LPatternGate$Doc;") (List.mem_of_getElem? (i := 1) (by decide +kernel))) (fun _ h9 => h9) rfl dX0_allLetters_6 ?_
  refine va_alen (v := 0) hx hb hK hP 1 0 rfl rfl rfl dX0_allLetters_9 ?_
  refine lv_icmp_ge (tgt := 45) hx hb dX0_allLetters_10 (by decide) (fun k_1 => ?_) (fun k_1 => absurd (by decide) k_1)
  refine lv_iload_n hx hb dX0_allLetters_45 rfl (lv_at hl 1 rfl) ?_
  exact W.iret hx hb hr (fun t ht hW => ⟨_, rfl, rfl, ht.trans hH.symm⟩) t_nil dX0_allLetters_46
theorem dX0_allTriples_0 : decode cX0_allTriples 0 = .ok (.iconst 0, 1) := by decide +kernel
theorem dX0_allTriples_1 : decode cX0_allTriples 1 = .ok (.istore_n 1, 1) := by decide +kernel
theorem dX0_allTriples_2 : decode cX0_allTriples 2 = .ok (.iconst 0, 1) := by decide +kernel
theorem dX0_allTriples_3 : decode cX0_allTriples 3 = .ok (.istore_n 2, 1) := by decide +kernel
theorem dX0_allTriples_4 : decode cX0_allTriples 4 = .ok (.iload_n 2, 1) := by decide +kernel
theorem dX0_allTriples_5 : decode cX0_allTriples 5 = .ok (.aload_n 0, 1) := by decide +kernel
theorem dX0_allTriples_6 : decode cX0_allTriples 6 = .ok (.getfield 7, 3) := by decide +kernel
theorem dX0_allTriples_9 : decode cX0_allTriples 9 = .ok (.arraylength, 1) := by decide +kernel
theorem dX0_allTriples_10 : decode cX0_allTriples 10 = .ok (.if_icmp .ge 74, 3) := by decide +kernel
theorem dX0_allTriples_84 : decode cX0_allTriples 84 = .ok (.iload_n 1, 1) := by decide +kernel
theorem dX0_allTriples_85 : decode cX0_allTriples 85 = .ok (.ireturn, 1) := by decide +kernel
def mwX0_allTriples : List Cond := .code yX0_allTriples cX0_allTriples 5 (some .int) :: ([.fieldLink RX0 7 "PatternGate$Book" "docs" "[LPatternGate$Doc;"] ++ wsX00)
theorem fin_X0_allTriples_X0 : ∀ w ∈ wsX00, w ∈ mwX0_allTriples := fun w h => List.mem_cons_of_mem _ (List.mem_append_right _ h)
set_option maxHeartbeats 4000000 in
set_option maxRecDepth 100000 in
/-- allTriples of a book without DOCUMENTS: 0 -/
theorem c_allTriples (l : Launch) (dC : Nat → ClassId) (dI : Nat → Nat → Nat) (b d0 p0 : Nat) (cD cP : ClassId) : Met l yX0_allTriples mwX0_allTriples ({ frames := 0, cells := 0, slots := 0, locals := 0 }) (va_Pc [.ref b] (fun U => va_P (dC, dI) vwCl ([(b, .inr (0, [.ref d0, .ref p0, .null])), (d0, .inl (cD, 0, .inr (.inr (.inr (.inr (fun _ => none)))))), (p0, .inl (cP, 0, .inr (.inr (.inr (.inr (fun _ => none))))))]) U.heap ∧ va_K (dC, dI) vwCl ([(cD, .object "PatternGate$Doc"), (cP, .object "PatternGate$Pattern")]) U)) (vp_Si (fun o => o = 0)) 0 0 (fun _ => False) := by
  refine Met.ofW (cc := cX0_allTriples) (maxL := 5) (ret := (some .int)) (by decide +kernel) rfl ?_
  intro p e s m args below meth c s₁ B hml hv
  obtain ⟨rfl, hP, hK⟩ := hv
  have hx := B.exec
  have hb := B.bytes
  have hr := B.returns
  have hts := atoms_spec (ws := mwX0_allTriples) B.pre
  have hown : s.vm.findClass RX0 = some m.cls := findClass_of_methodNamed B.named
  have hlocks := B.notSynchronized
  have hP : va_P (dC, dI) vwCl [(b, .inr (0, [.ref d0, .ref p0, .null])), (d0, .inl (cD, 0, .inr (.inr (.inr (.inr (fun _ => none)))))), (p0, .inl (cP, 0, .inr (.inr (.inr (.inr (fun _ => none))))))] s.heap := hP
  have hK : va_K (dC, dI) vwCl [(cD, .object "PatternGate$Doc"), (cP, .object "PatternGate$Pattern")] s := hK
  generalize hH : s.heap = H at hP ⊢
  have hl := lv_entry ([.ref b]) (n := 5) (Nat.le_of_ble_eq_true rfl)
  rw [lg_entry_eq]
  generalize (lg_sl ([.ref b]) ++ List.replicate (5 - (lg_sl ([.ref b])).length) Slot.unset).toArray = ls at hl ⊢
  have hl : lv_has ls 5 [(0, .ref b)] := hl
  refine lv_iconst (v := 0) hx hb dX0_allTriples_0 (by decide) ?_
  refine lv_istore_n (lv' := [(1, .int 0), (0, .ref b)]) hx hb dX0_allTriples_1 rfl hl (by decide) rfl (fun ls hl => ?_)
  refine lv_iconst (v := 0) hx hb dX0_allTriples_2 (by decide) ?_
  refine lv_istore_n (lv' := [(2, .int 0), (1, .int 0), (0, .ref b)]) hx hb dX0_allTriples_3 rfl hl (by decide) rfl (fun ls hl => ?_)
  refine lv_iload_n hx hb dX0_allTriples_4 rfl (lv_at hl 0 rfl) ?_
  refine lv_aload_n hx hb dX0_allTriples_5 rfl (lv_at hl 2 rfl) ?_
  refine va_get (D := (dC, dI)) (ci := 0) (v := .ref d0) (C := RX0) (T := TX0) (N := 3) hx hb hts fin_X0_allTriples_X0 hown hK hP 0 rfl rfl 0 (by decide) (hts (.fieldLink RX0 7 "PatternGate$Book" "docs" "[LPatternGate$Doc;") (List.mem_of_getElem? (i := 1) (by decide +kernel))) (fun _ h9 => h9) rfl dX0_allTriples_6 ?_
  refine va_alen (v := 0) hx hb hK hP 1 0 rfl rfl rfl dX0_allTriples_9 ?_
  refine lv_icmp_ge (tgt := 84) hx hb dX0_allTriples_10 (by decide) (fun k_1 => ?_) (fun k_1 => absurd (by decide) k_1)
  refine lv_iload_n hx hb dX0_allTriples_84 rfl (lv_at hl 1 rfl) ?_
  exact W.iret hx hb hr (fun t ht hW => ⟨_, rfl, rfl, ht.trans hH.symm⟩) t_nil dX0_allTriples_85
theorem dX9_isLetter_0 : decode cX9_isLetter 0 = .ok (.iload_n 0, 1) := by decide +kernel
theorem dX9_isLetter_1 : decode cX9_isLetter 1 = .ok (.ifCond .lt 13, 3) := by decide +kernel
theorem dX9_isLetter_4 : decode cX9_isLetter 4 = .ok (.iload_n 0, 1) := by decide +kernel
theorem dX9_isLetter_5 : decode cX9_isLetter 5 = .ok (.bipush 26, 2) := by decide +kernel
theorem dX9_isLetter_7 : decode cX9_isLetter 7 = .ok (.if_icmp .ge 7, 3) := by decide +kernel
theorem dX9_isLetter_10 : decode cX9_isLetter 10 = .ok (.iconst 1, 1) := by decide +kernel
theorem dX9_isLetter_11 : decode cX9_isLetter 11 = .ok (.goto 4, 3) := by decide +kernel
theorem dX9_isLetter_14 : decode cX9_isLetter 14 = .ok (.iconst 0, 1) := by decide +kernel
theorem dX9_isLetter_15 : decode cX9_isLetter 15 = .ok (.ireturn, 1) := by decide +kernel
def mwX9_isLetter : List Cond := .code yX9_isLetter cX9_isLetter 1 (some .boolean) :: ([])
set_option maxHeartbeats 4000000 in
set_option maxRecDepth 100000 in
/-- isLetter: 0 or 1 -/
theorem c_isLetter (l : Launch) (dC : Nat → ClassId) (dI : Nat → Nat → Nat) (i : Int32) : Met l yX9_isLetter mwX9_isLetter ({ frames := 0, cells := 0, slots := 0, locals := 0 }) (va_Pc [.int i] (fun _ => True)) (vp_Si (fun o => o = 0 ∨ o = 1)) 0 0 (fun _ => False) := by
  refine Met.ofW (cc := cX9_isLetter) (maxL := 1) (ret := (some .boolean)) (by decide +kernel) rfl ?_
  intro p e s m args below meth c s₁ B hml hv
  obtain ⟨rfl, -⟩ := hv
  have hx := B.exec
  have hb := B.bytes
  have hr := B.returns
  have hts := atoms_spec (ws := mwX9_isLetter) B.pre
  have hown : s.vm.findClass RX9 = some m.cls := findClass_of_methodNamed B.named
  have hlocks := B.notSynchronized
  have hl := lv_entry ([.int i]) (n := 1) (Nat.le_of_ble_eq_true rfl)
  rw [lg_entry_eq]
  generalize (lg_sl ([.int i]) ++ List.replicate (1 - (lg_sl ([.int i])).length) Slot.unset).toArray = ls at hl ⊢
  have hl : lv_has ls 1 [(0, .int i)] := hl
  refine lv_iload_n hx hb dX9_isLetter_0 rfl (lv_at hl 0 rfl) ?_
  refine lv_if_lt (tgt := 14) hx hb dX9_isLetter_1 (by decide) (fun k_1 => ?_) (fun k_1 => ?_)
  · refine lv_iconst (v := 0) hx hb dX9_isLetter_14 (by decide) ?_
    exact W.zret hx hb hr rfl (fun t ht hW => ⟨_, rfl, Or.inl rfl, ht⟩) t_nil dX9_isLetter_15
  · refine lv_iload_n hx hb dX9_isLetter_4 rfl (lv_at hl 0 rfl) ?_
    refine lv_bipush (v := 26) hx hb dX9_isLetter_5 (by decide) ?_
    refine lv_icmp_ge (tgt := 14) hx hb dX9_isLetter_7 (by decide) (fun k_2 => ?_) (fun k_2 => ?_)
    · refine lv_iconst (v := 0) hx hb dX9_isLetter_14 (by decide) ?_
      exact W.zret hx hb hr rfl (fun t ht hW => ⟨_, rfl, Or.inl rfl, ht⟩) t_nil dX9_isLetter_15
    · refine lv_iconst (v := 1) hx hb dX9_isLetter_10 (by decide) ?_
      refine lv_goto (tgt := 15) hx hb dX9_isLetter_11 (by decide) ?_
      exact W.zret hx hb hr rfl (fun t ht hW => ⟨_, rfl, Or.inr rfl, ht⟩) t_nil dX9_isLetter_15
theorem dX9_isTriple_0 : decode cX9_isTriple 0 = .ok (.iload_n 0, 1) := by decide +kernel
theorem dX9_isTriple_1 : decode cX9_isTriple 1 = .ok (.ifCond .lt 14, 3) := by decide +kernel
theorem dX9_isTriple_4 : decode cX9_isTriple 4 = .ok (.iload_n 0, 1) := by decide +kernel
theorem dX9_isTriple_5 : decode cX9_isTriple 5 = .ok (.sipush 17576, 3) := by decide +kernel
theorem dX9_isTriple_8 : decode cX9_isTriple 8 = .ok (.if_icmp .ge 7, 3) := by decide +kernel
theorem dX9_isTriple_11 : decode cX9_isTriple 11 = .ok (.iconst 1, 1) := by decide +kernel
theorem dX9_isTriple_12 : decode cX9_isTriple 12 = .ok (.goto 4, 3) := by decide +kernel
theorem dX9_isTriple_15 : decode cX9_isTriple 15 = .ok (.iconst 0, 1) := by decide +kernel
theorem dX9_isTriple_16 : decode cX9_isTriple 16 = .ok (.ireturn, 1) := by decide +kernel
def mwX9_isTriple : List Cond := .code yX9_isTriple cX9_isTriple 1 (some .boolean) :: ([])
set_option maxHeartbeats 4000000 in
set_option maxRecDepth 100000 in
/-- isTriple: 0 or 1 -/
theorem c_isTriple (l : Launch) (dC : Nat → ClassId) (dI : Nat → Nat → Nat) (i : Int32) : Met l yX9_isTriple mwX9_isTriple ({ frames := 0, cells := 0, slots := 0, locals := 0 }) (va_Pc [.int i] (fun _ => True)) (vp_Si (fun o => o = 0 ∨ o = 1)) 0 0 (fun _ => False) := by
  refine Met.ofW (cc := cX9_isTriple) (maxL := 1) (ret := (some .boolean)) (by decide +kernel) rfl ?_
  intro p e s m args below meth c s₁ B hml hv
  obtain ⟨rfl, -⟩ := hv
  have hx := B.exec
  have hb := B.bytes
  have hr := B.returns
  have hts := atoms_spec (ws := mwX9_isTriple) B.pre
  have hown : s.vm.findClass RX9 = some m.cls := findClass_of_methodNamed B.named
  have hlocks := B.notSynchronized
  have hl := lv_entry ([.int i]) (n := 1) (Nat.le_of_ble_eq_true rfl)
  rw [lg_entry_eq]
  generalize (lg_sl ([.int i]) ++ List.replicate (1 - (lg_sl ([.int i])).length) Slot.unset).toArray = ls at hl ⊢
  have hl : lv_has ls 1 [(0, .int i)] := hl
  refine lv_iload_n hx hb dX9_isTriple_0 rfl (lv_at hl 0 rfl) ?_
  refine lv_if_lt (tgt := 15) hx hb dX9_isTriple_1 (by decide) (fun k_1 => ?_) (fun k_1 => ?_)
  · refine lv_iconst (v := 0) hx hb dX9_isTriple_15 (by decide) ?_
    exact W.zret hx hb hr rfl (fun t ht hW => ⟨_, rfl, Or.inl rfl, ht⟩) t_nil dX9_isTriple_16
  · refine lv_iload_n hx hb dX9_isTriple_4 rfl (lv_at hl 0 rfl) ?_
    refine lv_sipush (v := 17576) hx hb dX9_isTriple_5 (by decide) ?_
    refine lv_icmp_ge (tgt := 15) hx hb dX9_isTriple_8 (by decide) (fun k_2 => ?_) (fun k_2 => ?_)
    · refine lv_iconst (v := 0) hx hb dX9_isTriple_15 (by decide) ?_
      exact W.zret hx hb hr rfl (fun t ht hW => ⟨_, rfl, Or.inl rfl, ht⟩) t_nil dX9_isTriple_16
    · refine lv_iconst (v := 1) hx hb dX9_isTriple_11 (by decide) ?_
      refine lv_goto (tgt := 16) hx hb dX9_isTriple_12 (by decide) ?_
      exact W.zret hx hb hr rfl (fun t ht hW => ⟨_, rfl, Or.inr rfl, ht⟩) t_nil dX9_isTriple_16
theorem dJ6_bitCount_0f7a4_0 : decode cJ6_bitCount_0f7a4 0 = .ok (.iload_n 0, 1) := by decide +kernel
theorem dJ6_bitCount_0f7a4_1 : decode cJ6_bitCount_0f7a4 1 = .ok (.iload_n 0, 1) := by decide +kernel
theorem dJ6_bitCount_0f7a4_2 : decode cJ6_bitCount_0f7a4 2 = .ok (.iconst 1, 1) := by decide +kernel
theorem dJ6_bitCount_0f7a4_3 : decode cJ6_bitCount_0f7a4 3 = .ok (.iushr, 1) := by decide +kernel
theorem dJ6_bitCount_0f7a4_4 : decode cJ6_bitCount_0f7a4 4 = .ok (.ldc_w 265, 3) := by decide +kernel
theorem dJ6_bitCount_0f7a4_7 : decode cJ6_bitCount_0f7a4 7 = .ok (.iand, 1) := by decide +kernel
theorem dJ6_bitCount_0f7a4_8 : decode cJ6_bitCount_0f7a4 8 = .ok (.isub, 1) := by decide +kernel
theorem dJ6_bitCount_0f7a4_9 : decode cJ6_bitCount_0f7a4 9 = .ok (.istore_n 0, 1) := by decide +kernel
theorem dJ6_bitCount_0f7a4_10 : decode cJ6_bitCount_0f7a4 10 = .ok (.iload_n 0, 1) := by decide +kernel
theorem dJ6_bitCount_0f7a4_11 : decode cJ6_bitCount_0f7a4 11 = .ok (.ldc_w 266, 3) := by decide +kernel
theorem dJ6_bitCount_0f7a4_14 : decode cJ6_bitCount_0f7a4 14 = .ok (.iand, 1) := by decide +kernel
theorem dJ6_bitCount_0f7a4_15 : decode cJ6_bitCount_0f7a4 15 = .ok (.iload_n 0, 1) := by decide +kernel
theorem dJ6_bitCount_0f7a4_16 : decode cJ6_bitCount_0f7a4 16 = .ok (.iconst 2, 1) := by decide +kernel
theorem dJ6_bitCount_0f7a4_17 : decode cJ6_bitCount_0f7a4 17 = .ok (.iushr, 1) := by decide +kernel
theorem dJ6_bitCount_0f7a4_18 : decode cJ6_bitCount_0f7a4 18 = .ok (.ldc_w 266, 3) := by decide +kernel
theorem dJ6_bitCount_0f7a4_21 : decode cJ6_bitCount_0f7a4 21 = .ok (.iand, 1) := by decide +kernel
theorem dJ6_bitCount_0f7a4_22 : decode cJ6_bitCount_0f7a4 22 = .ok (.iadd, 1) := by decide +kernel
theorem dJ6_bitCount_0f7a4_23 : decode cJ6_bitCount_0f7a4 23 = .ok (.istore_n 0, 1) := by decide +kernel
theorem dJ6_bitCount_0f7a4_24 : decode cJ6_bitCount_0f7a4 24 = .ok (.iload_n 0, 1) := by decide +kernel
theorem dJ6_bitCount_0f7a4_25 : decode cJ6_bitCount_0f7a4 25 = .ok (.iload_n 0, 1) := by decide +kernel
theorem dJ6_bitCount_0f7a4_26 : decode cJ6_bitCount_0f7a4 26 = .ok (.iconst 4, 1) := by decide +kernel
theorem dJ6_bitCount_0f7a4_27 : decode cJ6_bitCount_0f7a4 27 = .ok (.iushr, 1) := by decide +kernel
theorem dJ6_bitCount_0f7a4_28 : decode cJ6_bitCount_0f7a4 28 = .ok (.iadd, 1) := by decide +kernel
theorem dJ6_bitCount_0f7a4_29 : decode cJ6_bitCount_0f7a4 29 = .ok (.ldc_w 267, 3) := by decide +kernel
theorem dJ6_bitCount_0f7a4_32 : decode cJ6_bitCount_0f7a4 32 = .ok (.iand, 1) := by decide +kernel
theorem dJ6_bitCount_0f7a4_33 : decode cJ6_bitCount_0f7a4 33 = .ok (.istore_n 0, 1) := by decide +kernel
theorem dJ6_bitCount_0f7a4_34 : decode cJ6_bitCount_0f7a4 34 = .ok (.iload_n 0, 1) := by decide +kernel
theorem dJ6_bitCount_0f7a4_35 : decode cJ6_bitCount_0f7a4 35 = .ok (.iload_n 0, 1) := by decide +kernel
theorem dJ6_bitCount_0f7a4_36 : decode cJ6_bitCount_0f7a4 36 = .ok (.bipush 8, 2) := by decide +kernel
theorem dJ6_bitCount_0f7a4_38 : decode cJ6_bitCount_0f7a4 38 = .ok (.iushr, 1) := by decide +kernel
theorem dJ6_bitCount_0f7a4_39 : decode cJ6_bitCount_0f7a4 39 = .ok (.iadd, 1) := by decide +kernel
theorem dJ6_bitCount_0f7a4_40 : decode cJ6_bitCount_0f7a4 40 = .ok (.istore_n 0, 1) := by decide +kernel
theorem dJ6_bitCount_0f7a4_41 : decode cJ6_bitCount_0f7a4 41 = .ok (.iload_n 0, 1) := by decide +kernel
theorem dJ6_bitCount_0f7a4_42 : decode cJ6_bitCount_0f7a4 42 = .ok (.iload_n 0, 1) := by decide +kernel
theorem dJ6_bitCount_0f7a4_43 : decode cJ6_bitCount_0f7a4 43 = .ok (.bipush 16, 2) := by decide +kernel
theorem dJ6_bitCount_0f7a4_45 : decode cJ6_bitCount_0f7a4 45 = .ok (.iushr, 1) := by decide +kernel
theorem dJ6_bitCount_0f7a4_46 : decode cJ6_bitCount_0f7a4 46 = .ok (.iadd, 1) := by decide +kernel
theorem dJ6_bitCount_0f7a4_47 : decode cJ6_bitCount_0f7a4 47 = .ok (.istore_n 0, 1) := by decide +kernel
theorem dJ6_bitCount_0f7a4_48 : decode cJ6_bitCount_0f7a4 48 = .ok (.iload_n 0, 1) := by decide +kernel
theorem dJ6_bitCount_0f7a4_49 : decode cJ6_bitCount_0f7a4 49 = .ok (.bipush 63, 2) := by decide +kernel
theorem dJ6_bitCount_0f7a4_51 : decode cJ6_bitCount_0f7a4 51 = .ok (.iand, 1) := by decide +kernel
theorem dJ6_bitCount_0f7a4_52 : decode cJ6_bitCount_0f7a4 52 = .ok (.ireturn, 1) := by decide +kernel
def mwJ6_bitCount_0f7a4 : List Cond := .code yJ6_bitCount_0f7a4 cJ6_bitCount_0f7a4 1 (some .int) :: ([.constant RJ6 265 (1431655765), .constant RJ6 266 (858993459), .constant RJ6 267 (252645135)])
set_option maxHeartbeats 4000000 in
set_option maxRecDepth 100000 in
/-- Integer.bitCount(0): 0 -/
theorem c_bitCount (l : Launch) (dC : Nat → ClassId) (dI : Nat → Nat → Nat)  : Met l yJ6_bitCount_0f7a4 mwJ6_bitCount_0f7a4 ({ frames := 0, cells := 0, slots := 0, locals := 0 }) (va_Pc [.int 0] (fun _ => True)) (vp_Si (fun o => o = 0)) 0 0 (fun _ => False) := by
  refine Met.ofW (cc := cJ6_bitCount_0f7a4) (maxL := 1) (ret := (some .int)) (by decide +kernel) rfl ?_
  intro p e s m args below meth c s₁ B hml hv
  obtain ⟨rfl, -⟩ := hv
  have hx := B.exec
  have hb := B.bytes
  have hr := B.returns
  have hts := atoms_spec (ws := mwJ6_bitCount_0f7a4) B.pre
  have hown : s.vm.findClass RJ6 = some m.cls := findClass_of_methodNamed B.named
  have hlocks := B.notSynchronized
  have hl := lv_entry ([.int 0]) (n := 1) (Nat.le_of_ble_eq_true rfl)
  rw [lg_entry_eq]
  generalize (lg_sl ([.int 0]) ++ List.replicate (1 - (lg_sl ([.int 0])).length) Slot.unset).toArray = ls at hl ⊢
  have hl : lv_has ls 1 [(0, .int 0)] := hl
  refine lv_iload_n hx hb dJ6_bitCount_0f7a4_0 rfl (lv_at hl 0 rfl) ?_
  refine lv_iload_n hx hb dJ6_bitCount_0f7a4_1 rfl (lv_at hl 0 rfl) ?_
  refine lv_iconst (v := 1) hx hb dJ6_bitCount_0f7a4_2 (by decide) ?_
  refine lv_iushr (v := 0) hx hb dJ6_bitCount_0f7a4_3 (by decide) ?_
  refine lv_ldcw hx hb hown (hts (.constant RJ6 265 (1431655765)) (List.mem_of_getElem? (i := 1) (by decide +kernel))) dJ6_bitCount_0f7a4_4 ?_
  refine lv_iand hx hb dJ6_bitCount_0f7a4_7 ?_
  refine lv_topi (fun y_1 ey_1 => ?_)
  obtain rfl : y_1 = 0 := ey_1.trans (by first | rfl | decide)
  refine lv_isub hx hb dJ6_bitCount_0f7a4_8 ?_
  refine lv_topi (fun y_2 ey_2 => ?_)
  obtain rfl : y_2 = 0 := ey_2.trans (by first | rfl | decide)
  refine lv_istore_n (lv' := [(0, .int 0)]) hx hb dJ6_bitCount_0f7a4_9 rfl hl (by decide) rfl (fun ls hl => ?_)
  refine lv_iload_n hx hb dJ6_bitCount_0f7a4_10 rfl (lv_at hl 0 rfl) ?_
  refine lv_ldcw hx hb hown (hts (.constant RJ6 266 (858993459)) (List.mem_of_getElem? (i := 2) (by decide +kernel))) dJ6_bitCount_0f7a4_11 ?_
  refine lv_iand hx hb dJ6_bitCount_0f7a4_14 ?_
  refine lv_topi (fun y_3 ey_3 => ?_)
  obtain rfl : y_3 = 0 := ey_3.trans (by first | rfl | decide)
  refine lv_iload_n hx hb dJ6_bitCount_0f7a4_15 rfl (lv_at hl 0 rfl) ?_
  refine lv_iconst (v := 2) hx hb dJ6_bitCount_0f7a4_16 (by decide) ?_
  refine lv_iushr (v := 0) hx hb dJ6_bitCount_0f7a4_17 (by decide) ?_
  refine lv_ldcw hx hb hown (hts (.constant RJ6 266 (858993459)) (List.mem_of_getElem? (i := 2) (by decide +kernel))) dJ6_bitCount_0f7a4_18 ?_
  refine lv_iand hx hb dJ6_bitCount_0f7a4_21 ?_
  refine lv_topi (fun y_4 ey_4 => ?_)
  obtain rfl : y_4 = 0 := ey_4.trans (by first | rfl | decide)
  refine lv_iadd hx hb dJ6_bitCount_0f7a4_22 ?_
  refine lv_topi (fun y_5 ey_5 => ?_)
  obtain rfl : y_5 = 0 := ey_5.trans (by first | rfl | decide)
  refine lv_istore_n (lv' := [(0, .int 0)]) hx hb dJ6_bitCount_0f7a4_23 rfl hl (by decide) rfl (fun ls hl => ?_)
  refine lv_iload_n hx hb dJ6_bitCount_0f7a4_24 rfl (lv_at hl 0 rfl) ?_
  refine lv_iload_n hx hb dJ6_bitCount_0f7a4_25 rfl (lv_at hl 0 rfl) ?_
  refine lv_iconst (v := 4) hx hb dJ6_bitCount_0f7a4_26 (by decide) ?_
  refine lv_iushr (v := 0) hx hb dJ6_bitCount_0f7a4_27 (by decide) ?_
  refine lv_iadd hx hb dJ6_bitCount_0f7a4_28 ?_
  refine lv_topi (fun y_6 ey_6 => ?_)
  obtain rfl : y_6 = 0 := ey_6.trans (by first | rfl | decide)
  refine lv_ldcw hx hb hown (hts (.constant RJ6 267 (252645135)) (List.mem_of_getElem? (i := 3) (by decide +kernel))) dJ6_bitCount_0f7a4_29 ?_
  refine lv_iand hx hb dJ6_bitCount_0f7a4_32 ?_
  refine lv_topi (fun y_7 ey_7 => ?_)
  obtain rfl : y_7 = 0 := ey_7.trans (by first | rfl | decide)
  refine lv_istore_n (lv' := [(0, .int 0)]) hx hb dJ6_bitCount_0f7a4_33 rfl hl (by decide) rfl (fun ls hl => ?_)
  refine lv_iload_n hx hb dJ6_bitCount_0f7a4_34 rfl (lv_at hl 0 rfl) ?_
  refine lv_iload_n hx hb dJ6_bitCount_0f7a4_35 rfl (lv_at hl 0 rfl) ?_
  refine lv_bipush (v := 8) hx hb dJ6_bitCount_0f7a4_36 (by decide) ?_
  refine lv_iushr (v := 0) hx hb dJ6_bitCount_0f7a4_38 (by decide) ?_
  refine lv_iadd hx hb dJ6_bitCount_0f7a4_39 ?_
  refine lv_topi (fun y_8 ey_8 => ?_)
  obtain rfl : y_8 = 0 := ey_8.trans (by first | rfl | decide)
  refine lv_istore_n (lv' := [(0, .int 0)]) hx hb dJ6_bitCount_0f7a4_40 rfl hl (by decide) rfl (fun ls hl => ?_)
  refine lv_iload_n hx hb dJ6_bitCount_0f7a4_41 rfl (lv_at hl 0 rfl) ?_
  refine lv_iload_n hx hb dJ6_bitCount_0f7a4_42 rfl (lv_at hl 0 rfl) ?_
  refine lv_bipush (v := 16) hx hb dJ6_bitCount_0f7a4_43 (by decide) ?_
  refine lv_iushr (v := 0) hx hb dJ6_bitCount_0f7a4_45 (by decide) ?_
  refine lv_iadd hx hb dJ6_bitCount_0f7a4_46 ?_
  refine lv_topi (fun y_9 ey_9 => ?_)
  obtain rfl : y_9 = 0 := ey_9.trans (by first | rfl | decide)
  refine lv_istore_n (lv' := [(0, .int 0)]) hx hb dJ6_bitCount_0f7a4_47 rfl hl (by decide) rfl (fun ls hl => ?_)
  refine lv_iload_n hx hb dJ6_bitCount_0f7a4_48 rfl (lv_at hl 0 rfl) ?_
  refine lv_bipush (v := 63) hx hb dJ6_bitCount_0f7a4_49 (by decide) ?_
  refine lv_iand hx hb dJ6_bitCount_0f7a4_51 ?_
  refine lv_topi (fun y_10 ey_10 => ?_)
  obtain rfl : y_10 = 0 := ey_10.trans (by first | rfl | decide)
  exact W.iret hx hb hr (fun t ht hW => ⟨_, rfl, rfl, ht⟩) t_nil dJ6_bitCount_0f7a4_52
theorem dX9_answer_0 : decode cX9_answer 0 = .ok (.aload_n 0, 1) := by decide +kernel
theorem dX9_answer_1 : decode cX9_answer 1 = .ok (.iconst 0, 1) := by decide +kernel
theorem dX9_answer_2 : decode cX9_answer 2 = .ok (.putfield 70, 3) := by decide +kernel
theorem dX9_answer_5 : decode cX9_answer 5 = .ok (.iload_n 1, 1) := by decide +kernel
theorem dX9_answer_6 : decode cX9_answer 6 = .ok (.ireturn, 1) := by decide +kernel
def mwX9_answer : List Cond := .code yX9_answer cX9_answer 2 (some .int) :: ([.fieldLink RX9 70 "PatternGate" "lastStatus" "I"] ++ wsX90)
theorem fin_X9_answer_X9 : ∀ w ∈ wsX90, w ∈ mwX9_answer := fun w h => List.mem_cons_of_mem _ (List.mem_append_right _ h)
set_option maxHeartbeats 4000000 in
set_option maxRecDepth 100000 in
/-- answer -/
theorem c_answer (l : Launch) (dC : Nat → ClassId) (dI : Nat → Nat → Nat) (x : Nat) (q : Nat → Nat) (a0 a1 a2 a3 : Int32) (a4 : Nat) (a5 a6 : Int32) (sz : Nat) (v : Int32) : Met l yX9_answer mwX9_answer ({ frames := 0, cells := 0, slots := 0, locals := 0 }) (va_Pc [.ref x, .int v] (fun U => U.heap.size = sz ∧ va_P (dC, dI) vwCl ([(x, .inr (9, gF q a0 a1 a2 a3 a4 a5 a6))]) U.heap ∧ va_K (dC, dI) vwCl ([]) U ∧ va_D (fun _ => True) ([(x, .inr (9, gF q a0 a1 a2 a3 a4 a5 a6))]))) (va_Qi (fun (o : Int32) (_ : Unit) => o = v) (fun _ _ => True) (va_A ([(x, .inr (9, gF q a0 a1 a2 a3 a4 a5 a6))]) sz)) 0 0 (va_A ([(x, .inr (9, gF q a0 a1 a2 a3 a4 a5 a6))]) sz) := by
  refine Met.ofW (cc := cX9_answer) (maxL := 2) (ret := (some .int)) (by decide +kernel) rfl ?_
  intro p e s m args below meth c s₁ B hml hv
  obtain ⟨rfl, hsz, hP, hK, hD0⟩ := hv
  have hx := B.exec
  have hb := B.bytes
  have hr := B.returns
  have hts := atoms_spec (ws := mwX9_answer) B.pre
  have hown : s.vm.findClass RX9 = some m.cls := findClass_of_methodNamed B.named
  have hlocks := B.notSynchronized
  subst hsz
  have hD := hD0.self (sz := s.heap.size)
  generalize hAe : va_A ([(x, .inr (9, gF q a0 a1 a2 a3 a4 a5 a6))]) s.heap.size = A at hD ⊢
  have hA : ∀ q : Nat, s.heap.size ≤ q → A q := fun q h => by rw [← hAe]; exact Or.inr h
  have hP : va_P (dC, dI) vwCl [(x, .inr (9, gF q a0 a1 a2 a3 a4 a5 a6))] s.heap := hP
  have hD : va_D A [(x, .inr (9, gF q a0 a1 a2 a3 a4 a5 a6))] := hD
  have hK : va_K (dC, dI) vwCl [] s := hK
  generalize hH : s.heap = H at hP ⊢
  have hS : va_S A s.heap H [] := by rw [← hH]; exact va_S.rf
  have hl := lv_entry ([.ref x, .int v]) (n := 2) (Nat.le_of_ble_eq_true rfl)
  rw [lg_entry_eq]
  generalize (lg_sl ([.ref x, .int v]) ++ List.replicate (2 - (lg_sl ([.ref x, .int v])).length) Slot.unset).toArray = ls at hl ⊢
  have hl : lv_has ls 2 [(0, .ref x), (1, .int v)] := hl
  refine lv_aload_n hx hb dX9_answer_0 rfl (lv_at hl 0 rfl) ?_
  refine lv_iconst (v := 0) hx hb dX9_answer_1 (by decide) ?_
  refine va_put (D := (dC, dI)) (ci := 9) (v := .int 0) (ty := .int) (C := RX9) (T := TX9) (N := 16) hx hb hts fin_X9_answer_X9 tyX9 tyX9_ok nmX9 hown hK hP hD hS 0 rfl rfl 0 (by decide) (hts (.fieldLink RX9 70 "PatternGate" "lastStatus" "I") (List.mem_of_getElem? (i := 1) (by decide +kernel))) (fun _ h9 => h9) rfl (by decide +kernel) rfl rfl (Nat.le_of_ble_eq_true rfl) dX9_answer_2 (fun H locs hP hD hS => ?_)
  have hP : va_P (dC, dI) vwCl [(x, .inr (9, gF q 0 a1 a2 a3 a4 a5 a6))] H := hP
  have hD : va_D A [(x, .inr (9, gF q 0 a1 a2 a3 a4 a5 a6))] := hD
  refine lv_iload_n hx hb dX9_answer_5 rfl (lv_at hl 1 rfl) ?_
  exact W.iret hx hb hr (fun t ht hW => ⟨⟨_, (), rfl, rfl, trivial⟩, hS.F ht⟩) hS.2.2 dX9_answer_6
theorem dX9_refuse_0 : decode cX9_refuse 0 = .ok (.aload_n 0, 1) := by decide +kernel
theorem dX9_refuse_1 : decode cX9_refuse 1 = .ok (.iload_n 1, 1) := by decide +kernel
theorem dX9_refuse_2 : decode cX9_refuse 2 = .ok (.putfield 70, 3) := by decide +kernel
theorem dX9_refuse_5 : decode cX9_refuse 5 = .ok (.iconst (-1), 1) := by decide +kernel
theorem dX9_refuse_6 : decode cX9_refuse 6 = .ok (.ireturn, 1) := by decide +kernel
def mwX9_refuse : List Cond := .code yX9_refuse cX9_refuse 2 (some .int) :: ([.fieldLink RX9 70 "PatternGate" "lastStatus" "I"] ++ wsX90)
theorem fin_X9_refuse_X9 : ∀ w ∈ wsX90, w ∈ mwX9_refuse := fun w h => List.mem_cons_of_mem _ (List.mem_append_right _ h)
set_option maxHeartbeats 4000000 in
set_option maxRecDepth 100000 in
/-- refuse -/
theorem c_refuse (l : Launch) (dC : Nat → ClassId) (dI : Nat → Nat → Nat) (x : Nat) (q : Nat → Nat) (a0 a1 a2 a3 : Int32) (a4 : Nat) (a5 a6 : Int32) (sz : Nat) (v : Int32) : Met l yX9_refuse mwX9_refuse ({ frames := 0, cells := 0, slots := 0, locals := 0 }) (va_Pc [.ref x, .int v] (fun U => U.heap.size = sz ∧ va_P (dC, dI) vwCl ([(x, .inr (9, gF q a0 a1 a2 a3 a4 a5 a6))]) U.heap ∧ va_K (dC, dI) vwCl ([]) U ∧ va_D (fun _ => True) ([(x, .inr (9, gF q a0 a1 a2 a3 a4 a5 a6))]))) (va_Qi (fun (o : Int32) (_ : Unit) => o = (-1)) (fun _ _ => True) (va_A ([(x, .inr (9, gF q a0 a1 a2 a3 a4 a5 a6))]) sz)) 0 0 (va_A ([(x, .inr (9, gF q a0 a1 a2 a3 a4 a5 a6))]) sz) := by
  refine Met.ofW (cc := cX9_refuse) (maxL := 2) (ret := (some .int)) (by decide +kernel) rfl ?_
  intro p e s m args below meth c s₁ B hml hv
  obtain ⟨rfl, hsz, hP, hK, hD0⟩ := hv
  have hx := B.exec
  have hb := B.bytes
  have hr := B.returns
  have hts := atoms_spec (ws := mwX9_refuse) B.pre
  have hown : s.vm.findClass RX9 = some m.cls := findClass_of_methodNamed B.named
  have hlocks := B.notSynchronized
  subst hsz
  have hD := hD0.self (sz := s.heap.size)
  generalize hAe : va_A ([(x, .inr (9, gF q a0 a1 a2 a3 a4 a5 a6))]) s.heap.size = A at hD ⊢
  have hA : ∀ q : Nat, s.heap.size ≤ q → A q := fun q h => by rw [← hAe]; exact Or.inr h
  have hP : va_P (dC, dI) vwCl [(x, .inr (9, gF q a0 a1 a2 a3 a4 a5 a6))] s.heap := hP
  have hD : va_D A [(x, .inr (9, gF q a0 a1 a2 a3 a4 a5 a6))] := hD
  have hK : va_K (dC, dI) vwCl [] s := hK
  generalize hH : s.heap = H at hP ⊢
  have hS : va_S A s.heap H [] := by rw [← hH]; exact va_S.rf
  have hl := lv_entry ([.ref x, .int v]) (n := 2) (Nat.le_of_ble_eq_true rfl)
  rw [lg_entry_eq]
  generalize (lg_sl ([.ref x, .int v]) ++ List.replicate (2 - (lg_sl ([.ref x, .int v])).length) Slot.unset).toArray = ls at hl ⊢
  have hl : lv_has ls 2 [(0, .ref x), (1, .int v)] := hl
  refine lv_aload_n hx hb dX9_refuse_0 rfl (lv_at hl 0 rfl) ?_
  refine lv_iload_n hx hb dX9_refuse_1 rfl (lv_at hl 1 rfl) ?_
  refine va_put (D := (dC, dI)) (ci := 9) (v := .int v) (ty := .int) (C := RX9) (T := TX9) (N := 16) hx hb hts fin_X9_refuse_X9 tyX9 tyX9_ok nmX9 hown hK hP hD hS 0 rfl rfl 0 (by decide) (hts (.fieldLink RX9 70 "PatternGate" "lastStatus" "I") (List.mem_of_getElem? (i := 1) (by decide +kernel))) (fun _ h9 => h9) rfl (by decide +kernel) rfl rfl (Nat.le_of_ble_eq_true rfl) dX9_refuse_2 (fun H locs hP hD hS => ?_)
  have hP : va_P (dC, dI) vwCl [(x, .inr (9, gF q v a1 a2 a3 a4 a5 a6))] H := hP
  have hD : va_D A [(x, .inr (9, gF q v a1 a2 a3 a4 a5 a6))] := hD
  refine lv_iconst (v := (-1)) hx hb dX9_refuse_5 (by decide) ?_
  exact W.iret hx hb hr (fun t ht hW => ⟨⟨_, (), rfl, rfl, trivial⟩, hS.F ht⟩) hS.2.2 dX9_refuse_6

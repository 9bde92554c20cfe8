theorem dX6_read_0 : decode cX6_read 0 = .ok (.aload_n 0, 1) := by decide +kernel
theorem dX6_read_1 : decode cX6_read 1 = .ok (.iconst 0, 1) := by decide +kernel
theorem dX6_read_2 : decode cX6_read 2 = .ok (.putfield 22, 3) := by decide +kernel
theorem dX6_read_5 : decode cX6_read 5 = .ok (.aload_n 0, 1) := by decide +kernel
theorem dX6_read_6 : decode cX6_read 6 = .ok (.iconst (-1), 1) := by decide +kernel
theorem dX6_read_7 : decode cX6_read 7 = .ok (.putfield 26, 3) := by decide +kernel
theorem dX6_read_10 : decode cX6_read 10 = .ok (.aload_n 0, 1) := by decide +kernel
theorem dX6_read_11 : decode cX6_read 11 = .ok (.iconst 0, 1) := by decide +kernel
theorem dX6_read_12 : decode cX6_read 12 = .ok (.putfield 29, 3) := by decide +kernel
theorem dX6_read_15 : decode cX6_read 15 = .ok (.aload_n 0, 1) := by decide +kernel
theorem dX6_read_16 : decode cX6_read 16 = .ok (.iconst 0, 1) := by decide +kernel
theorem dX6_read_17 : decode cX6_read 17 = .ok (.putfield 32, 3) := by decide +kernel
theorem dX6_read_20 : decode cX6_read 20 = .ok (.aload_n 0, 1) := by decide +kernel
theorem dX6_read_21 : decode cX6_read 21 = .ok (.iconst 0, 1) := by decide +kernel
theorem dX6_read_22 : decode cX6_read 22 = .ok (.putfield 35, 3) := by decide +kernel
theorem dX6_read_25 : decode cX6_read 25 = .ok (.aload_n 0, 1) := by decide +kernel
theorem dX6_read_26 : decode cX6_read 26 = .ok (.iload_n 3, 1) := by decide +kernel
theorem dX6_read_27 : decode cX6_read 27 = .ok (.putfield 38, 3) := by decide +kernel
theorem dX6_read_30 : decode cX6_read 30 = .ok (.aload_n 0, 1) := by decide +kernel
theorem dX6_read_31 : decode cX6_read 31 = .ok (.iload 4, 2) := by decide +kernel
theorem dX6_read_33 : decode cX6_read 33 = .ok (.putfield 41, 3) := by decide +kernel
theorem dX6_read_36 : decode cX6_read 36 = .ok (.aload_n 0, 1) := by decide +kernel
theorem dX6_read_37 : decode cX6_read 37 = .ok (.iconst 0, 1) := by decide +kernel
theorem dX6_read_38 : decode cX6_read 38 = .ok (.putfield 44, 3) := by decide +kernel
theorem dX6_read_41 : decode cX6_read 41 = .ok (.iload_n 2, 1) := by decide +kernel
theorem dX6_read_42 : decode cX6_read 42 = .ok (.aload_n 1, 1) := by decide +kernel
theorem dX6_read_43 : decode cX6_read 43 = .ok (.arraylength, 1) := by decide +kernel
theorem dX6_read_44 : decode cX6_read 44 = .ok (.invokestatic 47, 3) := by decide +kernel
theorem dX6_read_47 : decode cX6_read 47 = .ok (.istore 5, 2) := by decide +kernel
theorem dX6_read_49 : decode cX6_read 49 = .ok (.iconst 0, 1) := by decide +kernel
theorem dX6_read_50 : decode cX6_read 50 = .ok (.istore 6, 2) := by decide +kernel
theorem dX6_read_52 : decode cX6_read 52 = .ok (.iload 6, 2) := by decide +kernel
theorem dX6_read_54 : decode cX6_read 54 = .ok (.iload 5, 2) := by decide +kernel
theorem dX6_read_56 : decode cX6_read 56 = .ok (.if_icmp .ge 112, 3) := by decide +kernel
theorem dX6_read_168 : decode cX6_read 168 = .ok (.aload_n 0, 1) := by decide +kernel
theorem dX6_read_169 : decode cX6_read 169 = .ok (.getfield 22, 3) := by decide +kernel
theorem dX6_read_172 : decode cX6_read 172 = .ok (.ifCond .ne 17, 3) := by decide +kernel
theorem dX6_read_175 : decode cX6_read 175 = .ok (.aload_n 0, 1) := by decide +kernel
theorem dX6_read_176 : decode cX6_read 176 = .ok (.getfield 44, 3) := by decide +kernel
theorem dX6_read_179 : decode cX6_read 179 = .ok (.ifCond .eq 10, 3) := by decide +kernel
theorem dX6_read_189 : decode cX6_read 189 = .ok (.aload_n 0, 1) := by decide +kernel
theorem dX6_read_190 : decode cX6_read 190 = .ok (.getfield 22, 3) := by decide +kernel
theorem dX6_read_193 : decode cX6_read 193 = .ok (.ifCond .ne 7, 3) := by decide +kernel
theorem dX6_read_196 : decode cX6_read 196 = .ok (.iconst 1, 1) := by decide +kernel
theorem dX6_read_197 : decode cX6_read 197 = .ok (.goto 4, 3) := by decide +kernel
theorem dX6_read_201 : decode cX6_read 201 = .ok (.ireturn, 1) := by decide +kernel
def mwX6_read : List Cond := .code yX6_read cX6_read 8 (some .boolean) :: ([.fieldLink RX6 22 "PatternGate$Reader" "faultKind" "I", .fieldLink RX6 26 "PatternGate$Reader" "faultPlace" "I", .fieldLink RX6 29 "PatternGate$Reader" "lines" "I", .fieldLink RX6 32 "PatternGate$Reader" "newDocs" "I", .fieldLink RX6 35 "PatternGate$Reader" "newPatterns" "I", .fieldLink RX6 38 "PatternGate$Reader" "docsAhead" "I", .fieldLink RX6 41 "PatternGate$Reader" "patternsAhead" "I", .fieldLink RX6 44 "PatternGate$Reader" "wanted" "I", .methodLink RX6 47 Lib.Math.min.name, .static Lib.Math.min.name, .initialized "java/lang/Math", .code Lib.Math.min.name Lib.Math.min.code 2 (some .int)] ++ wsX60)
theorem fin_X6_read_X6 : ∀ w ∈ wsX60, w ∈ mwX6_read := fun w h => List.mem_cons_of_mem _ (List.mem_append_right _ h)
set_option maxHeartbeats 4000000 in
set_option maxRecDepth 100000 in
/-- read: no bytes, no FAULT -/
theorem c_read (l : Launch) (dC : Nat → ClassId) (dI : Nat → Nat → Nat) (rd ta : Nat) (r : Nat → Nat) (a0 a1 a2 a3 a4 a5 a6 a7 : Int32) (cT : ClassId) (f : Nat → Int32) (sz : Nat) (i2 i3 : Int32) : Met l yX6_read mwX6_read ({ frames := 1, cells := 0, slots := 0, locals := 60 }) (va_Pc [.ref rd, .ref ta, .int 0, .int i2, .int i3] (fun U => U.heap.size = sz ∧ va_P (dC, dI) vwCl ([(rd, .inr (6, rF r a0 a1 a2 a3 a4 a5 a6 a7)), (ta, .inl (cT, 900, .inl f))]) U.heap ∧ va_K (dC, dI) vwCl ([(cT, .int)]) U ∧ va_D (fun _ => True) ([(rd, .inr (6, rF r a0 a1 a2 a3 a4 a5 a6 a7)), (ta, .inl (cT, 900, .inl f))]))) (va_Qi (fun (o : Int32) (_ : Unit) => o = 1) (fun _ t => va_P (dC, dI) vwCl [(rd, .inr (6, rF r 0 (-1) 0 0 0 i2 i3 0)), (ta, .inl (cT, 900, .inl f))] t.heap ∧ va_K (dC, dI) vwCl [(cT, .int)] t ∧ va_D (va_A ([(rd, .inr (6, rF r a0 a1 a2 a3 a4 a5 a6 a7)), (ta, .inl (cT, 900, .inl f))]) sz) [(rd, .inr (6, rF r 0 (-1) 0 0 0 i2 i3 0)), (ta, .inl (cT, 900, .inl f))]) (va_A ([(rd, .inr (6, rF r a0 a1 a2 a3 a4 a5 a6 a7)), (ta, .inl (cT, 900, .inl f))]) sz)) 0 0 (va_A ([(rd, .inr (6, rF r a0 a1 a2 a3 a4 a5 a6 a7)), (ta, .inl (cT, 900, .inl f))]) sz) := by
  refine Met.ofW (cc := cX6_read) (maxL := 8) (ret := (some .boolean)) (by decide +kernel) rfl ?_
  intro p e s m args below meth c s₁ B hml hv
  obtain ⟨rfl, hsz, hP, hK, hD0⟩ := hv
  have hx := B.exec
  have hb := B.bytes
  have hr := B.returns
  have hts := atoms_spec (ws := mwX6_read) B.pre
  have hown : s.vm.findClass RX6 = some m.cls := findClass_of_methodNamed B.named
  have hlocks := B.notSynchronized
  subst hsz
  have hD := hD0.self (sz := s.heap.size)
  generalize hAe : va_A ([(rd, .inr (6, rF r a0 a1 a2 a3 a4 a5 a6 a7)), (ta, .inl (cT, 900, .inl f))]) s.heap.size = A at hD ⊢
  have hA : ∀ q : Nat, s.heap.size ≤ q → A q := fun q h => by rw [← hAe]; exact Or.inr h
  have hP : va_P (dC, dI) vwCl [(rd, .inr (6, rF r a0 a1 a2 a3 a4 a5 a6 a7)), (ta, .inl (cT, 900, .inl f))] s.heap := hP
  have hD : va_D A [(rd, .inr (6, rF r a0 a1 a2 a3 a4 a5 a6 a7)), (ta, .inl (cT, 900, .inl f))] := hD
  have hK : va_K (dC, dI) vwCl [(cT, .int)] s := hK
  generalize hH : s.heap = H at hP ⊢
  have hS : va_S A s.heap H [] := by rw [← hH]; exact va_S.rf
  have hl := lv_entry ([.ref rd, .ref ta, .int 0, .int i2, .int i3]) (n := 8) (Nat.le_of_ble_eq_true rfl)
  rw [lg_entry_eq]
  generalize (lg_sl ([.ref rd, .ref ta, .int 0, .int i2, .int i3]) ++ List.replicate (8 - (lg_sl ([.ref rd, .ref ta, .int 0, .int i2, .int i3])).length) Slot.unset).toArray = ls at hl ⊢
  have hl : lv_has ls 8 [(0, .ref rd), (1, .ref ta), (2, .int 0), (3, .int i2), (4, .int i3)] := hl
  refine lv_aload_n hx hb dX6_read_0 rfl (lv_at hl 0 rfl) ?_
  refine lv_iconst (v := 0) hx hb dX6_read_1 (by decide) ?_
  refine va_put (D := (dC, dI)) (ci := 6) (v := .int 0) (ty := .int) (C := RX6) (T := TX6) (N := 11) hx hb hts fin_X6_read_X6 tyX6 tyX6_ok nmX6 hown hK hP hD hS 0 rfl rfl 0 (by decide) (hts (.fieldLink RX6 22 "PatternGate$Reader" "faultKind" "I") (List.mem_of_getElem? (i := 1) (by decide +kernel))) (fun _ h9 => h9) rfl (by decide +kernel) rfl rfl (Nat.le_of_ble_eq_true rfl) dX6_read_2 (fun H locs hP hD hS => ?_)
  have hP : va_P (dC, dI) vwCl [(rd, .inr (6, rF r 0 a1 a2 a3 a4 a5 a6 a7)), (ta, .inl (cT, 900, .inl f))] H := hP
  have hD : va_D A [(rd, .inr (6, rF r 0 a1 a2 a3 a4 a5 a6 a7)), (ta, .inl (cT, 900, .inl f))] := hD
  refine lv_aload_n hx hb dX6_read_5 rfl (lv_at hl 0 rfl) ?_
  refine lv_iconst (v := (-1)) hx hb dX6_read_6 (by decide) ?_
  refine va_put (D := (dC, dI)) (ci := 6) (v := .int (-1)) (ty := .int) (C := RX6) (T := TX6) (N := 11) hx hb hts fin_X6_read_X6 tyX6 tyX6_ok nmX6 hown hK hP hD hS 0 rfl rfl 1 (by decide) (hts (.fieldLink RX6 26 "PatternGate$Reader" "faultPlace" "I") (List.mem_of_getElem? (i := 2) (by decide +kernel))) (fun _ h9 => h9) rfl (by decide +kernel) rfl rfl (Nat.le_of_ble_eq_true rfl) dX6_read_7 (fun H locs hP hD hS => ?_)
  have hP : va_P (dC, dI) vwCl [(rd, .inr (6, rF r 0 (-1) a2 a3 a4 a5 a6 a7)), (ta, .inl (cT, 900, .inl f))] H := hP
  have hD : va_D A [(rd, .inr (6, rF r 0 (-1) a2 a3 a4 a5 a6 a7)), (ta, .inl (cT, 900, .inl f))] := hD
  refine lv_aload_n hx hb dX6_read_10 rfl (lv_at hl 0 rfl) ?_
  refine lv_iconst (v := 0) hx hb dX6_read_11 (by decide) ?_
  refine va_put (D := (dC, dI)) (ci := 6) (v := .int 0) (ty := .int) (C := RX6) (T := TX6) (N := 11) hx hb hts fin_X6_read_X6 tyX6 tyX6_ok nmX6 hown hK hP hD hS 0 rfl rfl 2 (by decide) (hts (.fieldLink RX6 29 "PatternGate$Reader" "lines" "I") (List.mem_of_getElem? (i := 3) (by decide +kernel))) (fun _ h9 => h9) rfl (by decide +kernel) rfl rfl (Nat.le_of_ble_eq_true rfl) dX6_read_12 (fun H locs hP hD hS => ?_)
  have hP : va_P (dC, dI) vwCl [(rd, .inr (6, rF r 0 (-1) 0 a3 a4 a5 a6 a7)), (ta, .inl (cT, 900, .inl f))] H := hP
  have hD : va_D A [(rd, .inr (6, rF r 0 (-1) 0 a3 a4 a5 a6 a7)), (ta, .inl (cT, 900, .inl f))] := hD
  refine lv_aload_n hx hb dX6_read_15 rfl (lv_at hl 0 rfl) ?_
  refine lv_iconst (v := 0) hx hb dX6_read_16 (by decide) ?_
  refine va_put (D := (dC, dI)) (ci := 6) (v := .int 0) (ty := .int) (C := RX6) (T := TX6) (N := 11) hx hb hts fin_X6_read_X6 tyX6 tyX6_ok nmX6 hown hK hP hD hS 0 rfl rfl 3 (by decide) (hts (.fieldLink RX6 32 "PatternGate$Reader" "newDocs" "I") (List.mem_of_getElem? (i := 4) (by decide +kernel))) (fun _ h9 => h9) rfl (by decide +kernel) rfl rfl (Nat.le_of_ble_eq_true rfl) dX6_read_17 (fun H locs hP hD hS => ?_)
  have hP : va_P (dC, dI) vwCl [(rd, .inr (6, rF r 0 (-1) 0 0 a4 a5 a6 a7)), (ta, .inl (cT, 900, .inl f))] H := hP
  have hD : va_D A [(rd, .inr (6, rF r 0 (-1) 0 0 a4 a5 a6 a7)), (ta, .inl (cT, 900, .inl f))] := hD
  refine lv_aload_n hx hb dX6_read_20 rfl (lv_at hl 0 rfl) ?_
  refine lv_iconst (v := 0) hx hb dX6_read_21 (by decide) ?_
  refine va_put (D := (dC, dI)) (ci := 6) (v := .int 0) (ty := .int) (C := RX6) (T := TX6) (N := 11) hx hb hts fin_X6_read_X6 tyX6 tyX6_ok nmX6 hown hK hP hD hS 0 rfl rfl 4 (by decide) (hts (.fieldLink RX6 35 "PatternGate$Reader" "newPatterns" "I") (List.mem_of_getElem? (i := 5) (by decide +kernel))) (fun _ h9 => h9) rfl (by decide +kernel) rfl rfl (Nat.le_of_ble_eq_true rfl) dX6_read_22 (fun H locs hP hD hS => ?_)
  have hP : va_P (dC, dI) vwCl [(rd, .inr (6, rF r 0 (-1) 0 0 0 a5 a6 a7)), (ta, .inl (cT, 900, .inl f))] H := hP
  have hD : va_D A [(rd, .inr (6, rF r 0 (-1) 0 0 0 a5 a6 a7)), (ta, .inl (cT, 900, .inl f))] := hD
  refine lv_aload_n hx hb dX6_read_25 rfl (lv_at hl 0 rfl) ?_
  refine lv_iload_n hx hb dX6_read_26 rfl (lv_at hl 3 rfl) ?_
  refine va_put (D := (dC, dI)) (ci := 6) (v := .int i2) (ty := .int) (C := RX6) (T := TX6) (N := 11) hx hb hts fin_X6_read_X6 tyX6 tyX6_ok nmX6 hown hK hP hD hS 0 rfl rfl 8 (by decide) (hts (.fieldLink RX6 38 "PatternGate$Reader" "docsAhead" "I") (List.mem_of_getElem? (i := 6) (by decide +kernel))) (fun _ h9 => h9) rfl (by decide +kernel) rfl rfl (Nat.le_of_ble_eq_true rfl) dX6_read_27 (fun H locs hP hD hS => ?_)
  have hP : va_P (dC, dI) vwCl [(rd, .inr (6, rF r 0 (-1) 0 0 0 i2 a6 a7)), (ta, .inl (cT, 900, .inl f))] H := hP
  have hD : va_D A [(rd, .inr (6, rF r 0 (-1) 0 0 0 i2 a6 a7)), (ta, .inl (cT, 900, .inl f))] := hD
  refine lv_aload_n hx hb dX6_read_30 rfl (lv_at hl 0 rfl) ?_
  refine lv_iload hx hb dX6_read_31 (lv_at hl 4 rfl) ?_
  refine va_put (D := (dC, dI)) (ci := 6) (v := .int i3) (ty := .int) (C := RX6) (T := TX6) (N := 11) hx hb hts fin_X6_read_X6 tyX6 tyX6_ok nmX6 hown hK hP hD hS 0 rfl rfl 9 (by decide) (hts (.fieldLink RX6 41 "PatternGate$Reader" "patternsAhead" "I") (List.mem_of_getElem? (i := 7) (by decide +kernel))) (fun _ h9 => h9) rfl (by decide +kernel) rfl rfl (Nat.le_of_ble_eq_true rfl) dX6_read_33 (fun H locs hP hD hS => ?_)
  have hP : va_P (dC, dI) vwCl [(rd, .inr (6, rF r 0 (-1) 0 0 0 i2 i3 a7)), (ta, .inl (cT, 900, .inl f))] H := hP
  have hD : va_D A [(rd, .inr (6, rF r 0 (-1) 0 0 0 i2 i3 a7)), (ta, .inl (cT, 900, .inl f))] := hD
  refine lv_aload_n hx hb dX6_read_36 rfl (lv_at hl 0 rfl) ?_
  refine lv_iconst (v := 0) hx hb dX6_read_37 (by decide) ?_
  refine va_put (D := (dC, dI)) (ci := 6) (v := .int 0) (ty := .int) (C := RX6) (T := TX6) (N := 11) hx hb hts fin_X6_read_X6 tyX6 tyX6_ok nmX6 hown hK hP hD hS 0 rfl rfl 10 (by decide) (hts (.fieldLink RX6 44 "PatternGate$Reader" "wanted" "I") (List.mem_of_getElem? (i := 8) (by decide +kernel))) (fun _ h9 => h9) rfl (by decide +kernel) rfl rfl (Nat.le_of_ble_eq_true rfl) dX6_read_38 (fun H locs hP hD hS => ?_)
  have hP : va_P (dC, dI) vwCl [(rd, .inr (6, rF r 0 (-1) 0 0 0 i2 i3 0)), (ta, .inl (cT, 900, .inl f))] H := hP
  have hD : va_D A [(rd, .inr (6, rF r 0 (-1) 0 0 0 i2 i3 0)), (ta, .inl (cT, 900, .inl f))] := hD
  refine lv_iload_n hx hb dX6_read_41 rfl (lv_at hl 2 rfl) ?_
  refine lv_aload_n hx hb dX6_read_42 rfl (lv_at hl 1 rfl) ?_
  refine va_alen (v := 900) hx hb hK hP 1 0 rfl rfl rfl dX6_read_43 ?_
  refine va_mmin hx hb (hml.trans hl.1.symm) hown (hts (.methodLink RX6 47 Lib.Math.min.name) (List.mem_of_getElem? (i := 9) (by decide +kernel))) (hts (.static Lib.Math.min.name) (List.mem_of_getElem? (i := 10) (by decide +kernel))) (hts (.initialized "java/lang/Math") (List.mem_of_getElem? (i := 11) (by decide +kernel))) (hts (.code Lib.Math.min.name Lib.Math.min.code 2 (some .int)) (List.mem_of_getElem? (i := 12) (by decide +kernel))) (Nat.le_of_ble_eq_true rfl) (Nat.le_of_ble_eq_true rfl) (Nat.le_of_ble_eq_true rfl) (Nat.le_of_ble_eq_true rfl) dX6_read_44 ?_
  refine lv_topi (fun y_1 ey_1 => ?_)
  obtain rfl : y_1 = 0 := ey_1.trans (by first | rfl | decide)
  refine lv_istore (lv' := [(5, .int 0), (0, .ref rd), (1, .ref ta), (2, .int 0), (3, .int i2), (4, .int i3)]) hx hb dX6_read_47 hl (by decide) rfl (fun ls hl => ?_)
  refine lv_iconst (v := 0) hx hb dX6_read_49 (by decide) ?_
  refine lv_istore (lv' := [(6, .int 0), (5, .int 0), (0, .ref rd), (1, .ref ta), (2, .int 0), (3, .int i2), (4, .int i3)]) hx hb dX6_read_50 hl (by decide) rfl (fun ls hl => ?_)
  refine lv_iload hx hb dX6_read_52 (lv_at hl 0 rfl) ?_
  refine lv_iload hx hb dX6_read_54 (lv_at hl 1 rfl) ?_
  refine lv_icmp_ge (tgt := 168) hx hb dX6_read_56 (by decide) (fun k_2 => ?_) (fun k_2 => absurd (by decide) k_2)
  refine lv_aload_n hx hb dX6_read_168 rfl (lv_at hl 2 rfl) ?_
  refine va_get (D := (dC, dI)) (ci := 6) (v := .int 0) (C := RX6) (T := TX6) (N := 11) hx hb hts fin_X6_read_X6 hown hK hP 0 rfl rfl 0 (by decide) (hts (.fieldLink RX6 22 "PatternGate$Reader" "faultKind" "I") (List.mem_of_getElem? (i := 1) (by decide +kernel))) (fun _ h9 => h9) rfl dX6_read_169 ?_
  refine lv_if_ne (tgt := 189) hx hb dX6_read_172 (by decide) (fun k_3 => absurd (by decide) k_3) (fun k_3 => ?_)
  refine lv_aload_n hx hb dX6_read_175 rfl (lv_at hl 2 rfl) ?_
  refine va_get (D := (dC, dI)) (ci := 6) (v := .int 0) (C := RX6) (T := TX6) (N := 11) hx hb hts fin_X6_read_X6 hown hK hP 0 rfl rfl 10 (by decide) (hts (.fieldLink RX6 44 "PatternGate$Reader" "wanted" "I") (List.mem_of_getElem? (i := 8) (by decide +kernel))) (fun _ h9 => h9) rfl dX6_read_176 ?_
  refine lv_if_eq (tgt := 189) hx hb dX6_read_179 (by decide) (fun k_4 => ?_) (fun k_4 => absurd (by decide) k_4)
  refine lv_aload_n hx hb dX6_read_189 rfl (lv_at hl 2 rfl) ?_
  refine va_get (D := (dC, dI)) (ci := 6) (v := .int 0) (C := RX6) (T := TX6) (N := 11) hx hb hts fin_X6_read_X6 hown hK hP 0 rfl rfl 0 (by decide) (hts (.fieldLink RX6 22 "PatternGate$Reader" "faultKind" "I") (List.mem_of_getElem? (i := 1) (by decide +kernel))) (fun _ h9 => h9) rfl dX6_read_190 ?_
  refine lv_if_ne (tgt := 200) hx hb dX6_read_193 (by decide) (fun k_5 => absurd (by decide) k_5) (fun k_5 => ?_)
  refine lv_iconst (v := 1) hx hb dX6_read_196 (by decide) ?_
  refine lv_goto (tgt := 201) hx hb dX6_read_197 (by decide) ?_
  have hP9 := hP.sub (ws' := [(rd, .inr (6, rF r 0 (-1) 0 0 0 i2 i3 0)), (ta, .inl (cT, 900, .inl f))]) [0, 1] rfl
  have hD9 := hD.sub (ws' := [(rd, .inr (6, rF r 0 (-1) 0 0 0 i2 i3 0)), (ta, .inl (cT, 900, .inl f))]) [0, 1] (by decide) rfl
  have hK9 := hK.sub (tys' := [(cT, .int)]) [0] rfl
  exact W.zret hx hb hr rfl (fun t ht hW => ⟨⟨_, (), rfl, rfl, by rw [ht]; exact hP9, va_K.moved hW.alike hK9, hD9⟩, hS.F ht⟩) hS.2.2 dX6_read_201
theorem dX9_readTape_0 : decode cX9_readTape 0 = .ok (.aload_n 0, 1) := by decide +kernel
theorem dX9_readTape_1 : decode cX9_readTape 1 = .ok (.getfield 43, 3) := by decide +kernel
theorem dX9_readTape_4 : decode cX9_readTape 4 = .ok (.aload_n 0, 1) := by decide +kernel
theorem dX9_readTape_5 : decode cX9_readTape 5 = .ok (.getfield 9, 3) := by decide +kernel
theorem dX9_readTape_8 : decode cX9_readTape 8 = .ok (.iload_n 1, 1) := by decide +kernel
theorem dX9_readTape_9 : decode cX9_readTape 9 = .ok (.iload_n 2, 1) := by decide +kernel
theorem dX9_readTape_10 : decode cX9_readTape 10 = .ok (.iload_n 3, 1) := by decide +kernel
theorem dX9_readTape_11 : decode cX9_readTape 11 = .ok (.invokevirtual 293, 3) := by decide +kernel
theorem dX9_readTape_14 : decode cX9_readTape 14 = .ok (.istore 4, 2) := by decide +kernel
theorem dX9_readTape_16 : decode cX9_readTape 16 = .ok (.aload_n 0, 1) := by decide +kernel
theorem dX9_readTape_17 : decode cX9_readTape 17 = .ok (.aload_n 0, 1) := by decide +kernel
theorem dX9_readTape_18 : decode cX9_readTape 18 = .ok (.getfield 43, 3) := by decide +kernel
theorem dX9_readTape_21 : decode cX9_readTape 21 = .ok (.getfield 297, 3) := by decide +kernel
theorem dX9_readTape_24 : decode cX9_readTape 24 = .ok (.putfield 13, 3) := by decide +kernel
theorem dX9_readTape_27 : decode cX9_readTape 27 = .ok (.aload_n 0, 1) := by decide +kernel
theorem dX9_readTape_28 : decode cX9_readTape 28 = .ok (.aload_n 0, 1) := by decide +kernel
theorem dX9_readTape_29 : decode cX9_readTape 29 = .ok (.getfield 43, 3) := by decide +kernel
theorem dX9_readTape_32 : decode cX9_readTape 32 = .ok (.getfield 298, 3) := by decide +kernel
theorem dX9_readTape_35 : decode cX9_readTape 35 = .ok (.putfield 17, 3) := by decide +kernel
theorem dX9_readTape_38 : decode cX9_readTape 38 = .ok (.aload_n 0, 1) := by decide +kernel
theorem dX9_readTape_39 : decode cX9_readTape 39 = .ok (.iconst 0, 1) := by decide +kernel
theorem dX9_readTape_40 : decode cX9_readTape 40 = .ok (.putfield 73, 3) := by decide +kernel
theorem dX9_readTape_43 : decode cX9_readTape 43 = .ok (.iload 4, 2) := by decide +kernel
theorem dX9_readTape_45 : decode cX9_readTape 45 = .ok (.ireturn, 1) := by decide +kernel
def mwX9_readTape : List Cond := .code yX9_readTape cX9_readTape 5 (some .boolean) :: ([.fieldLink RX9 43 "PatternGate" "reader" "LPatternGate$Reader;", .fieldLink RX9 9 "PatternGate" "tape" "[I", .code yX6_read cX6_read 8 (some .boolean), .fieldLink RX6 22 "PatternGate$Reader" "faultKind" "I", .fieldLink RX6 26 "PatternGate$Reader" "faultPlace" "I", .fieldLink RX6 29 "PatternGate$Reader" "lines" "I", .fieldLink RX6 32 "PatternGate$Reader" "newDocs" "I", .fieldLink RX6 35 "PatternGate$Reader" "newPatterns" "I", .fieldLink RX6 38 "PatternGate$Reader" "docsAhead" "I", .fieldLink RX6 41 "PatternGate$Reader" "patternsAhead" "I", .fieldLink RX6 44 "PatternGate$Reader" "wanted" "I", .methodLink RX6 47 Lib.Math.min.name, .static Lib.Math.min.name, .initialized "java/lang/Math", .code Lib.Math.min.name Lib.Math.min.code 2 (some .int), .methodLink RX9 293 yX6_read, .instanceMethod yX6_read, .selects RX6 yX6_read yX6_read, .initialized RX6, .fieldLink RX9 297 "PatternGate$Reader" "faultKind" "I", .fieldLink RX9 13 "PatternGate" "faultKind" "I", .fieldLink RX9 298 "PatternGate$Reader" "faultPlace" "I", .fieldLink RX9 17 "PatternGate" "faultPlace" "I", .fieldLink RX9 73 "PatternGate" "taped" "I"] ++ wsX90 ++ wsX60)
theorem fin_X9_readTape_X6 : ∀ w ∈ wsX60, w ∈ mwX9_readTape := fun w h => List.mem_cons_of_mem _ (List.mem_append_right _ h)
theorem fin_X9_readTape_X9 : ∀ w ∈ wsX90, w ∈ mwX9_readTape := fun w h => List.mem_cons_of_mem _ (List.mem_append_left _ (List.mem_append_right _ h))
set_option maxRecDepth 20000 in
theorem mg_X9_readTape_X6_read_293 : GoodIn mwX9_readTape (wsV RX9 293 RX6 yX6_read mwX6_read) := goodIn_r _ [16, 17, 18, 19, 3, 4, 5, 6, 7, 8, 9, 10, 11, 12, 13, 14, 15, 41, 42, 43, 44, 45, 46, 47, 48, 49, 50, 51] (by decide +kernel) (by decide +kernel)
set_option maxHeartbeats 4000000 in
set_option maxRecDepth 100000 in
/-- readTape: no bytes, no FAULT -/
theorem c_readTape (l : Launch) (dC : Nat → ClassId) (dI : Nat → Nat → Nat) (x : Nat) (q : Nat → Nat) (a0 a1 a2 a3 : Int32) (a4 : Nat) (a5 a6 : Int32) (cT : ClassId) (f : Nat → Int32) (r : Nat → Nat) (b0 b1 b2 b3 b4 b5 b6 b7 : Int32) (sz : Nat) (i2 i3 : Int32) : Met l yX9_readTape mwX9_readTape ({ frames := 2, cells := 0, slots := 0, locals := 120 }) (va_Pc [.ref x, .int 0, .int i2, .int i3] (fun U => U.heap.size = sz ∧ va_P (dC, dI) vwCl ([(x, .inr (9, gF q a0 a1 a2 a3 a4 a5 a6)), (q 0, .inl (cT, 900, .inl f)), (q 3, .inr (6, rF r b0 b1 b2 b3 b4 b5 b6 b7))]) U.heap ∧ va_K (dC, dI) vwCl ([(cT, .int)]) U ∧ va_D (fun _ => True) ([(x, .inr (9, gF q a0 a1 a2 a3 a4 a5 a6)), (q 0, .inl (cT, 900, .inl f)), (q 3, .inr (6, rF r b0 b1 b2 b3 b4 b5 b6 b7))]))) (va_Qi (fun (o : Int32) (_ : Unit) => o = 1) (fun _ t => va_P (dC, dI) vwCl [(x, .inr (9, gF q a0 0 0 (-1) a4 a5 a6)), (q 0, .inl (cT, 900, .inl f)), (q 3, .inr (6, rF r 0 (-1) 0 0 0 i2 i3 0))] t.heap ∧ va_K (dC, dI) vwCl [(cT, .int)] t ∧ va_D (va_A ([(x, .inr (9, gF q a0 a1 a2 a3 a4 a5 a6)), (q 0, .inl (cT, 900, .inl f)), (q 3, .inr (6, rF r b0 b1 b2 b3 b4 b5 b6 b7))]) sz) [(x, .inr (9, gF q a0 0 0 (-1) a4 a5 a6)), (q 0, .inl (cT, 900, .inl f)), (q 3, .inr (6, rF r 0 (-1) 0 0 0 i2 i3 0))]) (va_A ([(x, .inr (9, gF q a0 a1 a2 a3 a4 a5 a6)), (q 0, .inl (cT, 900, .inl f)), (q 3, .inr (6, rF r b0 b1 b2 b3 b4 b5 b6 b7))]) sz)) 0 0 (va_A ([(x, .inr (9, gF q a0 a1 a2 a3 a4 a5 a6)), (q 0, .inl (cT, 900, .inl f)), (q 3, .inr (6, rF r b0 b1 b2 b3 b4 b5 b6 b7))]) sz) := by
  refine Met.ofW (cc := cX9_readTape) (maxL := 5) (ret := (some .boolean)) (by decide +kernel) rfl ?_
  intro p e s m args below meth c s₁ B hml hv
  obtain ⟨rfl, hsz, hP, hK, hD0⟩ := hv
  have hx := B.exec
  have hb := B.bytes
  have hr := B.returns
  have hts := atoms_spec (ws := mwX9_readTape) B.pre
  have hown : s.vm.findClass RX9 = some m.cls := findClass_of_methodNamed B.named
  have hlocks := B.notSynchronized
  subst hsz
  have hD := hD0.self (sz := s.heap.size)
  generalize hAe : va_A ([(x, .inr (9, gF q a0 a1 a2 a3 a4 a5 a6)), (q 0, .inl (cT, 900, .inl f)), (q 3, .inr (6, rF r b0 b1 b2 b3 b4 b5 b6 b7))]) s.heap.size = A at hD ⊢
  have hA : ∀ q : Nat, s.heap.size ≤ q → A q := fun q h => by rw [← hAe]; exact Or.inr h
  have hP : va_P (dC, dI) vwCl [(x, .inr (9, gF q a0 a1 a2 a3 a4 a5 a6)), (q 0, .inl (cT, 900, .inl f)), (q 3, .inr (6, rF r b0 b1 b2 b3 b4 b5 b6 b7))] s.heap := hP
  have hD : va_D A [(x, .inr (9, gF q a0 a1 a2 a3 a4 a5 a6)), (q 0, .inl (cT, 900, .inl f)), (q 3, .inr (6, rF r b0 b1 b2 b3 b4 b5 b6 b7))] := hD
  have hK : va_K (dC, dI) vwCl [(cT, .int)] s := hK
  generalize hH : s.heap = H at hP ⊢
  have hS : va_S A s.heap H [] := by rw [← hH]; exact va_S.rf
  have hl := lv_entry ([.ref x, .int 0, .int i2, .int i3]) (n := 5) (Nat.le_of_ble_eq_true rfl)
  rw [lg_entry_eq]
  generalize (lg_sl ([.ref x, .int 0, .int i2, .int i3]) ++ List.replicate (5 - (lg_sl ([.ref x, .int 0, .int i2, .int i3])).length) Slot.unset).toArray = ls at hl ⊢
  have hl : lv_has ls 5 [(0, .ref x), (1, .int 0), (2, .int i2), (3, .int i3)] := hl
  refine lv_aload_n hx hb dX9_readTape_0 rfl (lv_at hl 0 rfl) ?_
  refine va_get (D := (dC, dI)) (ci := 9) (v := .ref (q 3)) (C := RX9) (T := TX9) (N := 16) hx hb hts fin_X9_readTape_X9 hown hK hP 0 rfl rfl 10 (by decide) (hts (.fieldLink RX9 43 "PatternGate" "reader" "LPatternGate$Reader;") (List.mem_of_getElem? (i := 1) (by decide +kernel))) (fun _ h9 => h9) rfl dX9_readTape_1 ?_
  refine lv_aload_n hx hb dX9_readTape_4 rfl (lv_at hl 0 rfl) ?_
  refine va_get (D := (dC, dI)) (ci := 9) (v := .ref (q 0)) (C := RX9) (T := TX9) (N := 16) hx hb hts fin_X9_readTape_X9 hown hK hP 0 rfl rfl 1 (by decide) (hts (.fieldLink RX9 9 "PatternGate" "tape" "[I") (List.mem_of_getElem? (i := 2) (by decide +kernel))) (fun _ h9 => h9) rfl dX9_readTape_5 ?_
  refine lv_iload_n hx hb dX9_readTape_8 rfl (lv_at hl 1 rfl) ?_
  refine lv_iload_n hx hb dX9_readTape_9 rfl (lv_at hl 2 rfl) ?_
  refine lv_iload_n hx hb dX9_readTape_10 rfl (lv_at hl 3 rfl) ?_
  have hPc := hP.sub (ws' := [(q 3, .inr (6, rF r b0 b1 b2 b3 b4 b5 b6 b7)), (q 0, .inl (cT, 900, .inl f))]) [2, 1] rfl
  have hKc := hK.sub (tys' := [(cT, .int)]) [0] rfl
  have hDc := hD.sub (ws' := [(q 3, .inr (6, rF r b0 b1 b2 b3 b4 b5 b6 b7)), (q 0, .inl (cT, 900, .inl f))]) [2, 1] (by decide) rfl
  have hFc := va_free (wc := [(q 3, .inr (6, rF r b0 b1 b2 b3 b4 b5 b6 b7)), (q 0, .inl (cT, 900, .inl f))]) hD hS hA [2, 1] rfl
  refine va_calli (va_runV (As := [.ref (q 0), .int 0, .int i2, .int i3]) (rest := []) ⟨hx, hb, hml, hown, hts⟩ (c_read l dC dI (q 3) (q 0) r b0 b1 b2 b3 b4 b5 b6 b7 cT f H.size i2 i3) (cwV 4 hts mg_X9_readTape_X6_read_293 rfl rfl rfl (by decide +kernel) ⟨Nat.le_of_ble_eq_true rfl, Nat.le_of_ble_eq_true rfl⟩) ⟨fun a U g mk q => by obtain ⟨q0, q1, qP, qK, qD⟩ := q; exact ⟨q0, q1, qP, va_K.moved (u := U) (U := U.calling g mk a) (Vm.Alike.refl U.vm) qK, qD⟩, va_recv hKc hPc (ci := 6) (q0 := 0) rfl rfl, fun U hU hW => ⟨rfl, by rw [hU], by rw [hU]; exact hPc, va_K.moved hW.alike hKc, hDc.weaken (fun _ _ _ _ => trivial)⟩⟩ rfl rfl hl.1 rfl (lv_room (Nat.le_of_ble_eq_true rfl)) dX9_readTape_11 ⟨Nat.le_of_ble_eq_true rfl, Nat.le_of_ble_eq_true rfl⟩) hS (fun q _ h => hFc q h) hFc (fun r_2 u t H1 locs ht hvm hw hB hz1 hk1 hS => ?_)
  obtain ⟨hP1, hK1, hD1⟩ := hB
  rw [ht] at hP1
  subst hw
  obtain ⟨hP, hD⟩ := va_join (wr := [(x, .inr (9, gF q a0 a1 a2 a3 a4 a5 a6))]) (w1 := [(q 3, .inr (6, rF r 0 (-1) 0 0 0 i2 i3 0)), (q 0, .inl (cT, 900, .inl f))]) hP hD [2, 1] [0] rfl rfl (by decide) (by decide) hk1 hFc hP1 hD1
  generalize H1 = H at hP hS ⊢
  have hP : va_P (dC, dI) vwCl [(x, .inr (9, gF q a0 a1 a2 a3 a4 a5 a6)), (q 3, .inr (6, rF r 0 (-1) 0 0 0 i2 i3 0)), (q 0, .inl (cT, 900, .inl f))] H := hP
  have hD : va_D A [(x, .inr (9, gF q a0 a1 a2 a3 a4 a5 a6)), (q 3, .inr (6, rF r 0 (-1) 0 0 0 i2 i3 0)), (q 0, .inl (cT, 900, .inl f))] := hD
  refine lv_istore (lv' := [(4, .int 1), (0, .ref x), (1, .int 0), (2, .int i2), (3, .int i3)]) hx hb dX9_readTape_14 hl (by decide) rfl (fun ls hl => ?_)
  refine lv_aload_n hx hb dX9_readTape_16 rfl (lv_at hl 1 rfl) ?_
  refine lv_aload_n hx hb dX9_readTape_17 rfl (lv_at hl 1 rfl) ?_
  refine va_get (D := (dC, dI)) (ci := 9) (v := .ref (q 3)) (C := RX9) (T := TX9) (N := 16) hx hb hts fin_X9_readTape_X9 hown hK hP 0 rfl rfl 10 (by decide) (hts (.fieldLink RX9 43 "PatternGate" "reader" "LPatternGate$Reader;") (List.mem_of_getElem? (i := 1) (by decide +kernel))) (fun _ h9 => h9) rfl dX9_readTape_18 ?_
  refine va_get (D := (dC, dI)) (ci := 6) (v := .int 0) (C := RX6) (T := TX6) (N := 11) hx hb hts fin_X9_readTape_X6 hown hK hP 1 rfl rfl 0 (by decide) (hts (.fieldLink RX9 297 "PatternGate$Reader" "faultKind" "I") (List.mem_of_getElem? (i := 20) (by decide +kernel))) (fun _ h9 => h9) rfl dX9_readTape_21 ?_
  refine va_put (D := (dC, dI)) (ci := 9) (v := .int 0) (ty := .int) (C := RX9) (T := TX9) (N := 16) hx hb hts fin_X9_readTape_X9 tyX9 tyX9_ok nmX9 hown hK hP hD hS 0 rfl rfl 3 (by decide) (hts (.fieldLink RX9 13 "PatternGate" "faultKind" "I") (List.mem_of_getElem? (i := 21) (by decide +kernel))) (fun _ h9 => h9) rfl (by decide +kernel) rfl rfl (Nat.le_of_ble_eq_true rfl) dX9_readTape_24 (fun H locs hP hD hS => ?_)
  have hP : va_P (dC, dI) vwCl [(x, .inr (9, gF q a0 a1 0 a3 a4 a5 a6)), (q 3, .inr (6, rF r 0 (-1) 0 0 0 i2 i3 0)), (q 0, .inl (cT, 900, .inl f))] H := hP
  have hD : va_D A [(x, .inr (9, gF q a0 a1 0 a3 a4 a5 a6)), (q 3, .inr (6, rF r 0 (-1) 0 0 0 i2 i3 0)), (q 0, .inl (cT, 900, .inl f))] := hD
  refine lv_aload_n hx hb dX9_readTape_27 rfl (lv_at hl 1 rfl) ?_
  refine lv_aload_n hx hb dX9_readTape_28 rfl (lv_at hl 1 rfl) ?_
  refine va_get (D := (dC, dI)) (ci := 9) (v := .ref (q 3)) (C := RX9) (T := TX9) (N := 16) hx hb hts fin_X9_readTape_X9 hown hK hP 0 rfl rfl 10 (by decide) (hts (.fieldLink RX9 43 "PatternGate" "reader" "LPatternGate$Reader;") (List.mem_of_getElem? (i := 1) (by decide +kernel))) (fun _ h9 => h9) rfl dX9_readTape_29 ?_
  refine va_get (D := (dC, dI)) (ci := 6) (v := .int (-1)) (C := RX6) (T := TX6) (N := 11) hx hb hts fin_X9_readTape_X6 hown hK hP 1 rfl rfl 1 (by decide) (hts (.fieldLink RX9 298 "PatternGate$Reader" "faultPlace" "I") (List.mem_of_getElem? (i := 22) (by decide +kernel))) (fun _ h9 => h9) rfl dX9_readTape_32 ?_
  refine va_put (D := (dC, dI)) (ci := 9) (v := .int (-1)) (ty := .int) (C := RX9) (T := TX9) (N := 16) hx hb hts fin_X9_readTape_X9 tyX9 tyX9_ok nmX9 hown hK hP hD hS 0 rfl rfl 4 (by decide) (hts (.fieldLink RX9 17 "PatternGate" "faultPlace" "I") (List.mem_of_getElem? (i := 23) (by decide +kernel))) (fun _ h9 => h9) rfl (by decide +kernel) rfl rfl (Nat.le_of_ble_eq_true rfl) dX9_readTape_35 (fun H locs hP hD hS => ?_)
  have hP : va_P (dC, dI) vwCl [(x, .inr (9, gF q a0 a1 0 (-1) a4 a5 a6)), (q 3, .inr (6, rF r 0 (-1) 0 0 0 i2 i3 0)), (q 0, .inl (cT, 900, .inl f))] H := hP
  have hD : va_D A [(x, .inr (9, gF q a0 a1 0 (-1) a4 a5 a6)), (q 3, .inr (6, rF r 0 (-1) 0 0 0 i2 i3 0)), (q 0, .inl (cT, 900, .inl f))] := hD
  refine lv_aload_n hx hb dX9_readTape_38 rfl (lv_at hl 1 rfl) ?_
  refine lv_iconst (v := 0) hx hb dX9_readTape_39 (by decide) ?_
  refine va_put (D := (dC, dI)) (ci := 9) (v := .int 0) (ty := .int) (C := RX9) (T := TX9) (N := 16) hx hb hts fin_X9_readTape_X9 tyX9 tyX9_ok nmX9 hown hK hP hD hS 0 rfl rfl 2 (by decide) (hts (.fieldLink RX9 73 "PatternGate" "taped" "I") (List.mem_of_getElem? (i := 24) (by decide +kernel))) (fun _ h9 => h9) rfl (by decide +kernel) rfl rfl (Nat.le_of_ble_eq_true rfl) dX9_readTape_40 (fun H locs hP hD hS => ?_)
  have hP : va_P (dC, dI) vwCl [(x, .inr (9, gF q a0 0 0 (-1) a4 a5 a6)), (q 3, .inr (6, rF r 0 (-1) 0 0 0 i2 i3 0)), (q 0, .inl (cT, 900, .inl f))] H := hP
  have hD : va_D A [(x, .inr (9, gF q a0 0 0 (-1) a4 a5 a6)), (q 3, .inr (6, rF r 0 (-1) 0 0 0 i2 i3 0)), (q 0, .inl (cT, 900, .inl f))] := hD
  refine lv_iload hx hb dX9_readTape_43 (lv_at hl 0 rfl) ?_
  have hP9 := hP.sub (ws' := [(x, .inr (9, gF q a0 0 0 (-1) a4 a5 a6)), (q 0, .inl (cT, 900, .inl f)), (q 3, .inr (6, rF r 0 (-1) 0 0 0 i2 i3 0))]) [0, 2, 1] rfl
  have hD9 := hD.sub (ws' := [(x, .inr (9, gF q a0 0 0 (-1) a4 a5 a6)), (q 0, .inl (cT, 900, .inl f)), (q 3, .inr (6, rF r 0 (-1) 0 0 0 i2 i3 0))]) [0, 2, 1] (by decide) rfl
  have hK9 := hK.sub (tys' := [(cT, .int)]) [0] rfl
  exact W.zret hx hb hr rfl (fun t ht hW => ⟨⟨_, (), rfl, rfl, by rw [ht]; exact hP9, va_K.moved hW.alike hK9, hD9⟩, hS.F ht⟩) hS.2.2 dX9_readTape_45
theorem dX0_init_0 : decode cX0_init 0 = .ok (.aload_n 0, 1) := by decide +kernel
theorem dX0_init_1 : decode cX0_init 1 = .ok (.invokespecial 1, 3) := by decide +kernel
theorem dX0_init_4 : decode cX0_init 4 = .ok (.aload_n 0, 1) := by decide +kernel
theorem dX0_init_5 : decode cX0_init 5 = .ok (.aload_n 1, 1) := by decide +kernel
theorem dX0_init_6 : decode cX0_init 6 = .ok (.putfield 7, 3) := by decide +kernel
theorem dX0_init_9 : decode cX0_init 9 = .ok (.aload_n 0, 1) := by decide +kernel
theorem dX0_init_10 : decode cX0_init 10 = .ok (.aload_n 2, 1) := by decide +kernel
theorem dX0_init_11 : decode cX0_init 11 = .ok (.putfield 13, 3) := by decide +kernel
theorem dX0_init_14 : decode cX0_init 14 = .ok (.aload_n 0, 1) := by decide +kernel
theorem dX0_init_15 : decode cX0_init 15 = .ok (.aload_n 3, 1) := by decide +kernel
theorem dX0_init_16 : decode cX0_init 16 = .ok (.putfield 17, 3) := by decide +kernel
theorem dX0_init_19 : decode cX0_init 19 = .ok (.return_, 1) := by decide +kernel
def mwX0_init : List Cond := .code yX0_init cX0_init 4 none :: ([.methodLink RX0 1 objectInit, .instanceMethod objectInit, .code objectInit ⟨#[0xb1]⟩ 1 none, .fieldLink RX0 7 "PatternGate$Book" "docs" "[LPatternGate$Doc;", .fieldLink RX0 13 "PatternGate$Book" "patterns" "[LPatternGate$Pattern;", .fieldLink RX0 17 "PatternGate$Book" "earlier" "LPatternGate$Book;"] ++ wsX00)
theorem fin_X0_init_X0 : ∀ w ∈ wsX00, w ∈ mwX0_init := fun w h => List.mem_cons_of_mem _ (List.mem_append_right _ h)
set_option maxHeartbeats 4000000 in
set_option maxRecDepth 100000 in
/-- Book(..) -/
theorem c_Book0 (l : Launch) (dC : Nat → ClassId) (dI : Nat → Nat → Nat) (nb d1 p1 sz : Nat) : Met l yX0_init mwX0_init ({ frames := 1, cells := 0, slots := 0, locals := 60 }) (va_Pc [.ref nb, .ref d1, .ref p1, .null] (fun U => U.heap.size = sz ∧ va_P (dC, dI) vwCl ([(nb, .inr (0, [.null, .null, .null]))]) U.heap ∧ va_K (dC, dI) vwCl ([]) U ∧ va_D (fun _ => True) ([(nb, .inr (0, [.null, .null, .null]))]))) (va_Qv (fun (_ : Unit) => True) (fun _ t => va_P (dC, dI) vwCl [(nb, .inr (0, [.ref d1, .ref p1, .null]))] t.heap ∧ va_K (dC, dI) vwCl [] t ∧ va_D (va_A ([(nb, .inr (0, [.null, .null, .null]))]) sz) [(nb, .inr (0, [.ref d1, .ref p1, .null]))]) (va_A ([(nb, .inr (0, [.null, .null, .null]))]) sz)) 0 0 (va_A ([(nb, .inr (0, [.null, .null, .null]))]) sz) := by
  refine Met.ofW (cc := cX0_init) (maxL := 4) (ret := none) (by decide +kernel) rfl ?_
  intro p e s m args below meth c s₁ B hml hv
  obtain ⟨rfl, hsz, hP, hK, hD0⟩ := hv
  have hx := B.exec
  have hb := B.bytes
  have hr := B.returns
  have hts := atoms_spec (ws := mwX0_init) B.pre
  have hown : s.vm.findClass RX0 = some m.cls := findClass_of_methodNamed B.named
  have hlocks := B.notSynchronized
  have hin : meth.name = "<init>" := (name_of_methodNamed B.named B.method).1
  subst hsz
  have hD := hD0.self (sz := s.heap.size)
  generalize hAe : va_A ([(nb, .inr (0, [.null, .null, .null]))]) s.heap.size = A at hD ⊢
  have hA : ∀ q : Nat, s.heap.size ≤ q → A q := fun q h => by rw [← hAe]; exact Or.inr h
  have hP : va_P (dC, dI) vwCl [(nb, .inr (0, [.null, .null, .null]))] s.heap := hP
  have hD : va_D A [(nb, .inr (0, [.null, .null, .null]))] := hD
  have hK : va_K (dC, dI) vwCl [] s := hK
  generalize hH : s.heap = H at hP ⊢
  have hS : va_S A s.heap H [] := by rw [← hH]; exact va_S.rf
  have hl := lv_entry ([.ref nb, .ref d1, .ref p1, .null]) (n := 4) (Nat.le_of_ble_eq_true rfl)
  rw [lg_entry_eq]
  generalize (lg_sl ([.ref nb, .ref d1, .ref p1, .null]) ++ List.replicate (4 - (lg_sl ([.ref nb, .ref d1, .ref p1, .null])).length) Slot.unset).toArray = ls at hl ⊢
  have hl : lv_has ls 4 [(0, .ref nb), (1, .ref d1), (2, .ref p1), (3, .null)] := hl
  refine lv_aload_n hx hb dX0_init_0 rfl (lv_at hl 0 rfl) ?_
  refine W.objInit hx hb hown (hts (.methodLink RX0 1 objectInit) (List.mem_of_getElem? (i := 1) (by decide +kernel))) (hts (.instanceMethod objectInit) (List.mem_of_getElem? (i := 2) (by decide +kernel))) (hts (.code objectInit ⟨#[0xb1]⟩ 1 none) (List.mem_of_getElem? (i := 3) (by decide +kernel))) rfl (by rw [hml]; exact hl.1) rfl dX0_init_1 (Nat.le_of_ble_eq_true rfl) (Nat.le_of_ble_eq_true rfl) ?_
  refine W.eq (g2 := F0 m 4 ls []) rfl ?_
  refine lv_aload_n hx hb dX0_init_4 rfl (lv_at hl 0 rfl) ?_
  refine lv_aload_n hx hb dX0_init_5 rfl (lv_at hl 1 rfl) ?_
  refine va_putF (D := (dC, dI)) (ci := 0) (v := .ref d1) (ty := .array (.object "PatternGate$Doc")) (C := RX0) (T := TX0) (N := 3) hx hb hts fin_X0_init_X0 tyX0 tyX0_ok nmX0 hown hK hP hD hS 0 rfl rfl 0 (by decide) (hts (.fieldLink RX0 7 "PatternGate$Book" "docs" "[LPatternGate$Doc;") (List.mem_of_getElem? (i := 4) (by decide +kernel))) (fun _ h9 => h9) rfl hin rfl (by decide +kernel) rfl rfl (Nat.le_of_ble_eq_true rfl) dX0_init_6 (fun H locs hP hD hS => ?_)
  have hP : va_P (dC, dI) vwCl [(nb, .inr (0, [.ref d1, .null, .null]))] H := hP
  have hD : va_D A [(nb, .inr (0, [.ref d1, .null, .null]))] := hD
  refine lv_aload_n hx hb dX0_init_9 rfl (lv_at hl 0 rfl) ?_
  refine lv_aload_n hx hb dX0_init_10 rfl (lv_at hl 2 rfl) ?_
  refine va_putF (D := (dC, dI)) (ci := 0) (v := .ref p1) (ty := .array (.object "PatternGate$Pattern")) (C := RX0) (T := TX0) (N := 3) hx hb hts fin_X0_init_X0 tyX0 tyX0_ok nmX0 hown hK hP hD hS 0 rfl rfl 1 (by decide) (hts (.fieldLink RX0 13 "PatternGate$Book" "patterns" "[LPatternGate$Pattern;") (List.mem_of_getElem? (i := 5) (by decide +kernel))) (fun _ h9 => h9) rfl hin rfl (by decide +kernel) rfl rfl (Nat.le_of_ble_eq_true rfl) dX0_init_11 (fun H locs hP hD hS => ?_)
  have hP : va_P (dC, dI) vwCl [(nb, .inr (0, [.ref d1, .ref p1, .null]))] H := hP
  have hD : va_D A [(nb, .inr (0, [.ref d1, .ref p1, .null]))] := hD
  refine lv_aload_n hx hb dX0_init_14 rfl (lv_at hl 0 rfl) ?_
  refine lv_aload_nN hx hb dX0_init_15 rfl (lv_at hl 3 rfl) ?_
  refine va_putF (D := (dC, dI)) (ci := 0) (v := .null) (ty := .object "PatternGate$Book") (C := RX0) (T := TX0) (N := 3) hx hb hts fin_X0_init_X0 tyX0 tyX0_ok nmX0 hown hK hP hD hS 0 rfl rfl 2 (by decide) (hts (.fieldLink RX0 17 "PatternGate$Book" "earlier" "LPatternGate$Book;") (List.mem_of_getElem? (i := 6) (by decide +kernel))) (fun _ h9 => h9) rfl hin rfl (by decide +kernel) rfl rfl (Nat.le_of_ble_eq_true rfl) dX0_init_16 (fun H locs hP hD hS => ?_)
  have hP : va_P (dC, dI) vwCl [(nb, .inr (0, [.ref d1, .ref p1, .null]))] H := hP
  have hD : va_D A [(nb, .inr (0, [.ref d1, .ref p1, .null]))] := hD
  have hP9 := hP.sub (ws' := [(nb, .inr (0, [.ref d1, .ref p1, .null]))]) [0] rfl
  have hD9 := hD.sub (ws' := [(nb, .inr (0, [.ref d1, .ref p1, .null]))]) [0] (by decide) rfl
  have hK9 := hK.sub (tys' := []) [] rfl
  exact W.vret hx hb hr (fun t ht hW => ⟨⟨(), rfl, trivial, by rw [ht]; exact hP9, va_K.moved hW.alike hK9, hD9⟩, hS.F ht⟩) hS.2.2 dX0_init_19
def mwX0_inite : List Cond := .code yX0_init cX0_init 4 none :: ([.methodLink RX0 1 objectInit, .instanceMethod objectInit, .code objectInit ⟨#[0xb1]⟩ 1 none, .fieldLink RX0 7 "PatternGate$Book" "docs" "[LPatternGate$Doc;", .fieldLink RX0 13 "PatternGate$Book" "patterns" "[LPatternGate$Pattern;", .fieldLink RX0 17 "PatternGate$Book" "earlier" "LPatternGate$Book;"] ++ wsX00)
theorem fin_X0_inite_X0 : ∀ w ∈ wsX00, w ∈ mwX0_inite := fun w h => List.mem_cons_of_mem _ (List.mem_append_right _ h)
set_option maxHeartbeats 4000000 in
set_option maxRecDepth 100000 in
/-- Book(..) -/
theorem c_Book1 (l : Launch) (dC : Nat → ClassId) (dI : Nat → Nat → Nat) (nb d1 p1 e1 sz : Nat) : Met l yX0_init mwX0_inite ({ frames := 1, cells := 0, slots := 0, locals := 60 }) (va_Pc [.ref nb, .ref d1, .ref p1, .ref e1] (fun U => U.heap.size = sz ∧ va_P (dC, dI) vwCl ([(nb, .inr (0, [.null, .null, .null]))]) U.heap ∧ va_K (dC, dI) vwCl ([]) U ∧ va_D (fun _ => True) ([(nb, .inr (0, [.null, .null, .null]))]))) (va_Qv (fun (_ : Unit) => True) (fun _ t => va_P (dC, dI) vwCl [(nb, .inr (0, [.ref d1, .ref p1, .ref e1]))] t.heap ∧ va_K (dC, dI) vwCl [] t ∧ va_D (va_A ([(nb, .inr (0, [.null, .null, .null]))]) sz) [(nb, .inr (0, [.ref d1, .ref p1, .ref e1]))]) (va_A ([(nb, .inr (0, [.null, .null, .null]))]) sz)) 0 0 (va_A ([(nb, .inr (0, [.null, .null, .null]))]) sz) := by
  refine Met.ofW (cc := cX0_init) (maxL := 4) (ret := none) (by decide +kernel) rfl ?_
  intro p e s m args below meth c s₁ B hml hv
  obtain ⟨rfl, hsz, hP, hK, hD0⟩ := hv
  have hx := B.exec
  have hb := B.bytes
  have hr := B.returns
  have hts := atoms_spec (ws := mwX0_inite) B.pre
  have hown : s.vm.findClass RX0 = some m.cls := findClass_of_methodNamed B.named
  have hlocks := B.notSynchronized
  have hin : meth.name = "<init>" := (name_of_methodNamed B.named B.method).1
  subst hsz
  have hD := hD0.self (sz := s.heap.size)
  generalize hAe : va_A ([(nb, .inr (0, [.null, .null, .null]))]) s.heap.size = A at hD ⊢
  have hA : ∀ q : Nat, s.heap.size ≤ q → A q := fun q h => by rw [← hAe]; exact Or.inr h
  have hP : va_P (dC, dI) vwCl [(nb, .inr (0, [.null, .null, .null]))] s.heap := hP
  have hD : va_D A [(nb, .inr (0, [.null, .null, .null]))] := hD
  have hK : va_K (dC, dI) vwCl [] s := hK
  generalize hH : s.heap = H at hP ⊢
  have hS : va_S A s.heap H [] := by rw [← hH]; exact va_S.rf
  have hl := lv_entry ([.ref nb, .ref d1, .ref p1, .ref e1]) (n := 4) (Nat.le_of_ble_eq_true rfl)
  rw [lg_entry_eq]
  generalize (lg_sl ([.ref nb, .ref d1, .ref p1, .ref e1]) ++ List.replicate (4 - (lg_sl ([.ref nb, .ref d1, .ref p1, .ref e1])).length) Slot.unset).toArray = ls at hl ⊢
  have hl : lv_has ls 4 [(0, .ref nb), (1, .ref d1), (2, .ref p1), (3, .ref e1)] := hl
  refine lv_aload_n hx hb dX0_init_0 rfl (lv_at hl 0 rfl) ?_
  refine W.objInit hx hb hown (hts (.methodLink RX0 1 objectInit) (List.mem_of_getElem? (i := 1) (by decide +kernel))) (hts (.instanceMethod objectInit) (List.mem_of_getElem? (i := 2) (by decide +kernel))) (hts (.code objectInit ⟨#[0xb1]⟩ 1 none) (List.mem_of_getElem? (i := 3) (by decide +kernel))) rfl (by rw [hml]; exact hl.1) rfl dX0_init_1 (Nat.le_of_ble_eq_true rfl) (Nat.le_of_ble_eq_true rfl) ?_
  refine W.eq (g2 := F0 m 4 ls []) rfl ?_
  refine lv_aload_n hx hb dX0_init_4 rfl (lv_at hl 0 rfl) ?_
  refine lv_aload_n hx hb dX0_init_5 rfl (lv_at hl 1 rfl) ?_
  refine va_putF (D := (dC, dI)) (ci := 0) (v := .ref d1) (ty := .array (.object "PatternGate$Doc")) (C := RX0) (T := TX0) (N := 3) hx hb hts fin_X0_inite_X0 tyX0 tyX0_ok nmX0 hown hK hP hD hS 0 rfl rfl 0 (by decide) (hts (.fieldLink RX0 7 "PatternGate$Book" "docs" "[LPatternGate$Doc;") (List.mem_of_getElem? (i := 4) (by decide +kernel))) (fun _ h9 => h9) rfl hin rfl (by decide +kernel) rfl rfl (Nat.le_of_ble_eq_true rfl) dX0_init_6 (fun H locs hP hD hS => ?_)
  have hP : va_P (dC, dI) vwCl [(nb, .inr (0, [.ref d1, .null, .null]))] H := hP
  have hD : va_D A [(nb, .inr (0, [.ref d1, .null, .null]))] := hD
  refine lv_aload_n hx hb dX0_init_9 rfl (lv_at hl 0 rfl) ?_
  refine lv_aload_n hx hb dX0_init_10 rfl (lv_at hl 2 rfl) ?_
  refine va_putF (D := (dC, dI)) (ci := 0) (v := .ref p1) (ty := .array (.object "PatternGate$Pattern")) (C := RX0) (T := TX0) (N := 3) hx hb hts fin_X0_inite_X0 tyX0 tyX0_ok nmX0 hown hK hP hD hS 0 rfl rfl 1 (by decide) (hts (.fieldLink RX0 13 "PatternGate$Book" "patterns" "[LPatternGate$Pattern;") (List.mem_of_getElem? (i := 5) (by decide +kernel))) (fun _ h9 => h9) rfl hin rfl (by decide +kernel) rfl rfl (Nat.le_of_ble_eq_true rfl) dX0_init_11 (fun H locs hP hD hS => ?_)
  have hP : va_P (dC, dI) vwCl [(nb, .inr (0, [.ref d1, .ref p1, .null]))] H := hP
  have hD : va_D A [(nb, .inr (0, [.ref d1, .ref p1, .null]))] := hD
  refine lv_aload_n hx hb dX0_init_14 rfl (lv_at hl 0 rfl) ?_
  refine lv_aload_n hx hb dX0_init_15 rfl (lv_at hl 3 rfl) ?_
  refine va_putF (D := (dC, dI)) (ci := 0) (v := .ref e1) (ty := .object "PatternGate$Book") (C := RX0) (T := TX0) (N := 3) hx hb hts fin_X0_inite_X0 tyX0 tyX0_ok nmX0 hown hK hP hD hS 0 rfl rfl 2 (by decide) (hts (.fieldLink RX0 17 "PatternGate$Book" "earlier" "LPatternGate$Book;") (List.mem_of_getElem? (i := 6) (by decide +kernel))) (fun _ h9 => h9) rfl hin rfl (by decide +kernel) rfl rfl (Nat.le_of_ble_eq_true rfl) dX0_init_16 (fun H locs hP hD hS => ?_)
  have hP : va_P (dC, dI) vwCl [(nb, .inr (0, [.ref d1, .ref p1, .ref e1]))] H := hP
  have hD : va_D A [(nb, .inr (0, [.ref d1, .ref p1, .ref e1]))] := hD
  have hP9 := hP.sub (ws' := [(nb, .inr (0, [.ref d1, .ref p1, .ref e1]))]) [0] rfl
  have hD9 := hD.sub (ws' := [(nb, .inr (0, [.ref d1, .ref p1, .ref e1]))]) [0] (by decide) rfl
  have hK9 := hK.sub (tys' := []) [] rfl
  exact W.vret hx hb hr (fun t ht hW => ⟨⟨(), rfl, trivial, by rw [ht]; exact hP9, va_K.moved hW.alike hK9, hD9⟩, hS.F ht⟩) hS.2.2 dX0_init_19
theorem dX9_bookBehind_0 : decode cX9_bookBehind 0 = .ok (.aload_n 1, 1) := by decide +kernel
theorem dX9_bookBehind_1 : decode cX9_bookBehind 1 = .ok (.arraylength, 1) := by decide +kernel
theorem dX9_bookBehind_2 : decode cX9_bookBehind 2 = .ok (.aload_n 0, 1) := by decide +kernel
theorem dX9_bookBehind_3 : decode cX9_bookBehind 3 = .ok (.getfield 43, 3) := by decide +kernel
theorem dX9_bookBehind_6 : decode cX9_bookBehind 6 = .ok (.getfield 299, 3) := by decide +kernel
theorem dX9_bookBehind_9 : decode cX9_bookBehind 9 = .ok (.iadd, 1) := by decide +kernel
theorem dX9_bookBehind_10 : decode cX9_bookBehind 10 = .ok (.anewarray 22, 3) := by decide +kernel
theorem dX9_bookBehind_13 : decode cX9_bookBehind 13 = .ok (.astore_n 3, 1) := by decide +kernel
theorem dX9_bookBehind_14 : decode cX9_bookBehind 14 = .ok (.aload_n 2, 1) := by decide +kernel
theorem dX9_bookBehind_15 : decode cX9_bookBehind 15 = .ok (.arraylength, 1) := by decide +kernel
theorem dX9_bookBehind_16 : decode cX9_bookBehind 16 = .ok (.aload_n 0, 1) := by decide +kernel
theorem dX9_bookBehind_17 : decode cX9_bookBehind 17 = .ok (.getfield 43, 3) := by decide +kernel
theorem dX9_bookBehind_20 : decode cX9_bookBehind 20 = .ok (.getfield 302, 3) := by decide +kernel
theorem dX9_bookBehind_23 : decode cX9_bookBehind 23 = .ok (.iadd, 1) := by decide +kernel
theorem dX9_bookBehind_24 : decode cX9_bookBehind 24 = .ok (.anewarray 24, 3) := by decide +kernel
theorem dX9_bookBehind_27 : decode cX9_bookBehind 27 = .ok (.astore 4, 2) := by decide +kernel
theorem dX9_bookBehind_29 : decode cX9_bookBehind 29 = .ok (.aload_n 1, 1) := by decide +kernel
theorem dX9_bookBehind_30 : decode cX9_bookBehind 30 = .ok (.iconst 0, 1) := by decide +kernel
theorem dX9_bookBehind_31 : decode cX9_bookBehind 31 = .ok (.aload_n 3, 1) := by decide +kernel
theorem dX9_bookBehind_32 : decode cX9_bookBehind 32 = .ok (.iconst 0, 1) := by decide +kernel
theorem dX9_bookBehind_33 : decode cX9_bookBehind 33 = .ok (.aload_n 1, 1) := by decide +kernel
theorem dX9_bookBehind_34 : decode cX9_bookBehind 34 = .ok (.arraylength, 1) := by decide +kernel
theorem dX9_bookBehind_35 : decode cX9_bookBehind 35 = .ok (.invokestatic 255, 3) := by decide +kernel
theorem dX9_bookBehind_38 : decode cX9_bookBehind 38 = .ok (.aload_n 2, 1) := by decide +kernel
theorem dX9_bookBehind_39 : decode cX9_bookBehind 39 = .ok (.iconst 0, 1) := by decide +kernel
theorem dX9_bookBehind_40 : decode cX9_bookBehind 40 = .ok (.aload 4, 2) := by decide +kernel
theorem dX9_bookBehind_42 : decode cX9_bookBehind 42 = .ok (.iconst 0, 1) := by decide +kernel
theorem dX9_bookBehind_43 : decode cX9_bookBehind 43 = .ok (.aload_n 2, 1) := by decide +kernel
theorem dX9_bookBehind_44 : decode cX9_bookBehind 44 = .ok (.arraylength, 1) := by decide +kernel
theorem dX9_bookBehind_45 : decode cX9_bookBehind 45 = .ok (.invokestatic 255, 3) := by decide +kernel
theorem dX9_bookBehind_48 : decode cX9_bookBehind 48 = .ok (.aload_n 1, 1) := by decide +kernel
theorem dX9_bookBehind_49 : decode cX9_bookBehind 49 = .ok (.arraylength, 1) := by decide +kernel
theorem dX9_bookBehind_50 : decode cX9_bookBehind 50 = .ok (.istore 5, 2) := by decide +kernel
theorem dX9_bookBehind_52 : decode cX9_bookBehind 52 = .ok (.aload_n 2, 1) := by decide +kernel
theorem dX9_bookBehind_53 : decode cX9_bookBehind 53 = .ok (.arraylength, 1) := by decide +kernel
theorem dX9_bookBehind_54 : decode cX9_bookBehind 54 = .ok (.istore 6, 2) := by decide +kernel
theorem dX9_bookBehind_56 : decode cX9_bookBehind 56 = .ok (.iconst 0, 1) := by decide +kernel
theorem dX9_bookBehind_57 : decode cX9_bookBehind 57 = .ok (.istore 7, 2) := by decide +kernel
theorem dX9_bookBehind_59 : decode cX9_bookBehind 59 = .ok (.iload 7, 2) := by decide +kernel
theorem dX9_bookBehind_61 : decode cX9_bookBehind 61 = .ok (.aload_n 0, 1) := by decide +kernel
theorem dX9_bookBehind_62 : decode cX9_bookBehind 62 = .ok (.getfield 43, 3) := by decide +kernel
theorem dX9_bookBehind_65 : decode cX9_bookBehind 65 = .ok (.getfield 107, 3) := by decide +kernel
theorem dX9_bookBehind_68 : decode cX9_bookBehind 68 = .ok (.if_icmp .ge 109, 3) := by decide +kernel
theorem dX9_bookBehind_177 : decode cX9_bookBehind 177 = .ok (.new 20, 3) := by decide +kernel
theorem dX9_bookBehind_180 : decode cX9_bookBehind 180 = .ok (.dup, 1) := by decide +kernel
theorem dX9_bookBehind_181 : decode cX9_bookBehind 181 = .ok (.aload_n 3, 1) := by decide +kernel
theorem dX9_bookBehind_182 : decode cX9_bookBehind 182 = .ok (.aload 4, 2) := by decide +kernel
theorem dX9_bookBehind_184 : decode cX9_bookBehind 184 = .ok (.aload_n 0, 1) := by decide +kernel
theorem dX9_bookBehind_185 : decode cX9_bookBehind 185 = .ok (.getfield 29, 3) := by decide +kernel
theorem dX9_bookBehind_188 : decode cX9_bookBehind 188 = .ok (.invokespecial 26, 3) := by decide +kernel
theorem dX9_bookBehind_191 : decode cX9_bookBehind 191 = .ok (.areturn, 1) := by decide +kernel
def mwX9_bookBehind : List Cond := .code yX9_bookBehind cX9_bookBehind 10 (some (.object "PatternGate$Book")) :: ([.fieldLink RX9 43 "PatternGate" "reader" "LPatternGate$Reader;", .fieldLink RX9 299 "PatternGate$Reader" "newDocs" "I", .classLink RX9 22 RX2, .fieldLink RX9 302 "PatternGate$Reader" "newPatterns" "I", .classLink RX9 24 RX5, .methodLink RX9 255 arraycopyName, .native arraycopyName, .static arraycopyName, .initialized "java/lang/System", .fieldLink RX9 107 "PatternGate$Reader" "lines" "I", .classLink RX9 20 RX0, .instantiable RX0 3, .initialized RX0, .fieldLink RX9 29 "PatternGate" "book" "LPatternGate$Book;", .code yX0_init cX0_init 4 none, .methodLink RX0 1 objectInit, .instanceMethod objectInit, .code objectInit ⟨#[0xb1]⟩ 1 none, .fieldLink RX0 7 "PatternGate$Book" "docs" "[LPatternGate$Doc;", .fieldLink RX0 13 "PatternGate$Book" "patterns" "[LPatternGate$Pattern;", .fieldLink RX0 17 "PatternGate$Book" "earlier" "LPatternGate$Book;", .methodLink RX9 26 yX0_init, .instanceMethod yX0_init] ++ wsX90 ++ wsX60 ++ wsX00)
theorem fin_X9_bookBehind_X0 : ∀ w ∈ wsX00, w ∈ mwX9_bookBehind := fun w h => List.mem_cons_of_mem _ (List.mem_append_right _ h)
theorem fin_X9_bookBehind_X6 : ∀ w ∈ wsX60, w ∈ mwX9_bookBehind := fun w h => List.mem_cons_of_mem _ (List.mem_append_left _ (List.mem_append_right _ h))
theorem fin_X9_bookBehind_X9 : ∀ w ∈ wsX90, w ∈ mwX9_bookBehind := fun w h => List.mem_cons_of_mem _ (List.mem_append_left _ (List.mem_append_left _ (List.mem_append_right _ h)))
set_option maxRecDepth 20000 in
theorem mg_X9_bookBehind_X0_init_26 : GoodIn mwX9_bookBehind mwX0_inite := goodIn_r _ [15, 16, 17, 18, 19, 20, 21, 51, 52, 53] (by decide +kernel) (by decide +kernel)
set_option maxHeartbeats 4000000 in
set_option maxRecDepth 100000 in
/-- bookBehind: nothing comes -/
theorem c_bookBehind (l : Launch) (dC : Nat → ClassId) (dI : Nat → Nat → Nat) (x : Nat) (q : Nat → Nat) (a0 a1 a2 a3 : Int32) (a4 : Nat) (a5 a6 : Int32) (r : Nat → Nat) (b0 b1 b5 b6 b7 : Int32) (d1 p1 : Nat) (cD1 cP1 : ClassId) (f1 f2 : Nat → Option Nat) (sz : Nat) : Met l yX9_bookBehind mwX9_bookBehind ({ frames := 2, cells := 3, slots := 3, locals := 120 }) (va_Pc [.ref x, .ref d1, .ref p1] (fun U => U.heap.size = sz ∧ va_P (dC, dI) vwCl ([(x, .inr (9, gF q a0 a1 a2 a3 a4 a5 a6)), (q 3, .inr (6, rF r b0 b1 0 0 0 b5 b6 b7)), (d1, .inl (cD1, 0, .inr (.inr (.inr (.inr f1))))), (p1, .inl (cP1, 0, .inr (.inr (.inr (.inr f2)))))]) U.heap ∧ va_K (dC, dI) vwCl ([(cD1, .object "PatternGate$Doc"), (cP1, .object "PatternGate$Pattern")]) U ∧ va_D (fun _ => True) ([(x, .inr (9, gF q a0 a1 a2 a3 a4 a5 a6)), (q 3, .inr (6, rF r b0 b1 0 0 0 b5 b6 b7)), (d1, .inl (cD1, 0, .inr (.inr (.inr (.inr f1))))), (p1, .inl (cP1, 0, .inr (.inr (.inr (.inr f2)))))]) ∧ va_AO "PatternGate$Doc" U ∧ va_AO "PatternGate$Pattern" U)) (va_Qr (fun (_ : Unit) => True) (fun _ a t => ∃ (nd np : Nat) (cn cp : ClassId) (f3 f4 : Nat → Option Nat), va_P (dC, dI) vwCl [(x, .inr (9, gF q a0 a1 a2 a3 a4 a5 a6)), (q 3, .inr (6, rF r b0 b1 0 0 0 b5 b6 b7)), (d1, .inl (cD1, 0, .inr (.inr (.inr (.inr f1))))), (p1, .inl (cP1, 0, .inr (.inr (.inr (.inr f2))))), (nd, .inl (cn, 0, .inr (.inr (.inr (.inr f3))))), (np, .inl (cp, 0, .inr (.inr (.inr (.inr f4))))), (a, .inr (0, [.ref nd, .ref np, .ref a4]))] t.heap ∧ va_K (dC, dI) vwCl [(cD1, .object "PatternGate$Doc"), (cP1, .object "PatternGate$Pattern"), (cn, .object "PatternGate$Doc"), (cp, .object "PatternGate$Pattern")] t ∧ va_D (va_A ([(x, .inr (9, gF q a0 a1 a2 a3 a4 a5 a6)), (q 3, .inr (6, rF r b0 b1 0 0 0 b5 b6 b7)), (d1, .inl (cD1, 0, .inr (.inr (.inr (.inr f1))))), (p1, .inl (cP1, 0, .inr (.inr (.inr (.inr f2)))))]) sz) [(x, .inr (9, gF q a0 a1 a2 a3 a4 a5 a6)), (q 3, .inr (6, rF r b0 b1 0 0 0 b5 b6 b7)), (d1, .inl (cD1, 0, .inr (.inr (.inr (.inr f1))))), (p1, .inl (cP1, 0, .inr (.inr (.inr (.inr f2))))), (nd, .inl (cn, 0, .inr (.inr (.inr (.inr f3))))), (np, .inl (cp, 0, .inr (.inr (.inr (.inr f4))))), (a, .inr (0, [.ref nd, .ref np, .ref a4]))]) (va_A ([(x, .inr (9, gF q a0 a1 a2 a3 a4 a5 a6)), (q 3, .inr (6, rF r b0 b1 0 0 0 b5 b6 b7)), (d1, .inl (cD1, 0, .inr (.inr (.inr (.inr f1))))), (p1, .inl (cP1, 0, .inr (.inr (.inr (.inr f2)))))]) sz)) 3 3 (va_A ([(x, .inr (9, gF q a0 a1 a2 a3 a4 a5 a6)), (q 3, .inr (6, rF r b0 b1 0 0 0 b5 b6 b7)), (d1, .inl (cD1, 0, .inr (.inr (.inr (.inr f1))))), (p1, .inl (cP1, 0, .inr (.inr (.inr (.inr f2)))))]) sz) := by
  refine Met.ofW (cc := cX9_bookBehind) (maxL := 10) (ret := (some (.object "PatternGate$Book"))) (by decide +kernel) rfl ?_
  intro p e s m args below meth c s₁ B hml hv
  obtain ⟨rfl, hsz, hP, hK, hD0, hAO2, hAO5⟩ := hv
  have hx := B.exec
  have hb := B.bytes
  have hr := B.returns
  have hts := atoms_spec (ws := mwX9_bookBehind) B.pre
  have hown : s.vm.findClass RX9 = some m.cls := findClass_of_methodNamed B.named
  have hlocks := B.notSynchronized
  subst hsz
  have hD := hD0.self (sz := s.heap.size)
  generalize hAe : va_A ([(x, .inr (9, gF q a0 a1 a2 a3 a4 a5 a6)), (q 3, .inr (6, rF r b0 b1 0 0 0 b5 b6 b7)), (d1, .inl (cD1, 0, .inr (.inr (.inr (.inr f1))))), (p1, .inl (cP1, 0, .inr (.inr (.inr (.inr f2)))))]) s.heap.size = A at hD ⊢
  have hA : ∀ q : Nat, s.heap.size ≤ q → A q := fun q h => by rw [← hAe]; exact Or.inr h
  have hP : va_P (dC, dI) vwCl [(x, .inr (9, gF q a0 a1 a2 a3 a4 a5 a6)), (q 3, .inr (6, rF r b0 b1 0 0 0 b5 b6 b7)), (d1, .inl (cD1, 0, .inr (.inr (.inr (.inr f1))))), (p1, .inl (cP1, 0, .inr (.inr (.inr (.inr f2)))))] s.heap := hP
  have hD : va_D A [(x, .inr (9, gF q a0 a1 a2 a3 a4 a5 a6)), (q 3, .inr (6, rF r b0 b1 0 0 0 b5 b6 b7)), (d1, .inl (cD1, 0, .inr (.inr (.inr (.inr f1))))), (p1, .inl (cP1, 0, .inr (.inr (.inr (.inr f2)))))] := hD
  have hK : va_K (dC, dI) vwCl [(cD1, .object "PatternGate$Doc"), (cP1, .object "PatternGate$Pattern")] s := hK
  generalize hH : s.heap = H at hP ⊢
  have hS : va_S A s.heap H [] := by rw [← hH]; exact va_S.rf
  have hl := lv_entry ([.ref x, .ref d1, .ref p1]) (n := 10) (Nat.le_of_ble_eq_true rfl)
  rw [lg_entry_eq]
  generalize (lg_sl ([.ref x, .ref d1, .ref p1]) ++ List.replicate (10 - (lg_sl ([.ref x, .ref d1, .ref p1])).length) Slot.unset).toArray = ls at hl ⊢
  have hl : lv_has ls 10 [(0, .ref x), (1, .ref d1), (2, .ref p1)] := hl
  refine lv_aload_n hx hb dX9_bookBehind_0 rfl (lv_at hl 1 rfl) ?_
  refine va_alen (v := 0) hx hb hK hP 2 0 rfl rfl rfl dX9_bookBehind_1 ?_
  refine lv_aload_n hx hb dX9_bookBehind_2 rfl (lv_at hl 0 rfl) ?_
  refine va_get (D := (dC, dI)) (ci := 9) (v := .ref (q 3)) (C := RX9) (T := TX9) (N := 16) hx hb hts fin_X9_bookBehind_X9 hown hK hP 0 rfl rfl 10 (by decide) (hts (.fieldLink RX9 43 "PatternGate" "reader" "LPatternGate$Reader;") (List.mem_of_getElem? (i := 1) (by decide +kernel))) (fun _ h9 => h9) rfl dX9_bookBehind_3 ?_
  refine va_get (D := (dC, dI)) (ci := 6) (v := .int 0) (C := RX6) (T := TX6) (N := 11) hx hb hts fin_X9_bookBehind_X6 hown hK hP 1 rfl rfl 3 (by decide) (hts (.fieldLink RX9 299 "PatternGate$Reader" "newDocs" "I") (List.mem_of_getElem? (i := 2) (by decide +kernel))) (fun _ h9 => h9) rfl dX9_bookBehind_6 ?_
  refine lv_iadd hx hb dX9_bookBehind_9 ?_
  refine lv_topi (fun y_1 ey_1 => ?_)
  obtain rfl : y_1 = 0 := ey_1.trans (by first | rfl | decide)
  refine va_newq (C := "PatternGate$Doc") (n := 0) (N' := 0) hx hb hown (hts (.classLink RX9 22 RX2) (List.mem_of_getElem? (i := 3) (by decide +kernel))) hAO2 hK hP hD hS hA (by decide) (by decide) (Nat.le_of_ble_eq_true rfl) (Nat.le_of_ble_eq_true rfl) (Nat.le_of_ble_eq_true rfl) dX9_bookBehind_10 (fun q_2 c_3 H hK hP hD hS => ?_)
  have hP : va_P (dC, dI) vwCl [(x, .inr (9, gF q a0 a1 a2 a3 a4 a5 a6)), (q 3, .inr (6, rF r b0 b1 0 0 0 b5 b6 b7)), (d1, .inl (cD1, 0, .inr (.inr (.inr (.inr f1))))), (p1, .inl (cP1, 0, .inr (.inr (.inr (.inr f2))))), (q_2, .inl (c_3, 0, .inr (.inr (.inr (.inr (fun _ => none))))))] H := hP
  have hD : va_D A [(x, .inr (9, gF q a0 a1 a2 a3 a4 a5 a6)), (q 3, .inr (6, rF r b0 b1 0 0 0 b5 b6 b7)), (d1, .inl (cD1, 0, .inr (.inr (.inr (.inr f1))))), (p1, .inl (cP1, 0, .inr (.inr (.inr (.inr f2))))), (q_2, .inl (c_3, 0, .inr (.inr (.inr (.inr (fun _ => none))))))] := hD
  have hK : va_K (dC, dI) vwCl [(cD1, .object "PatternGate$Doc"), (cP1, .object "PatternGate$Pattern"), (c_3, .object "PatternGate$Doc")] s := hK
  refine W.widen (k := 1) (n := 0) (by omega) (by omega) ?_
  refine lv_astore_n (lv' := [(3, .ref q_2), (0, .ref x), (1, .ref d1), (2, .ref p1)]) hx hb dX9_bookBehind_13 rfl hl (by decide) rfl (fun ls hl => ?_)
  refine lv_aload_n hx hb dX9_bookBehind_14 rfl (lv_at hl 3 rfl) ?_
  refine va_alen (v := 0) hx hb hK hP 3 1 rfl rfl rfl dX9_bookBehind_15 ?_
  refine lv_aload_n hx hb dX9_bookBehind_16 rfl (lv_at hl 1 rfl) ?_
  refine va_get (D := (dC, dI)) (ci := 9) (v := .ref (q 3)) (C := RX9) (T := TX9) (N := 16) hx hb hts fin_X9_bookBehind_X9 hown hK hP 0 rfl rfl 10 (by decide) (hts (.fieldLink RX9 43 "PatternGate" "reader" "LPatternGate$Reader;") (List.mem_of_getElem? (i := 1) (by decide +kernel))) (fun _ h9 => h9) rfl dX9_bookBehind_17 ?_
  refine va_get (D := (dC, dI)) (ci := 6) (v := .int 0) (C := RX6) (T := TX6) (N := 11) hx hb hts fin_X9_bookBehind_X6 hown hK hP 1 rfl rfl 4 (by decide) (hts (.fieldLink RX9 302 "PatternGate$Reader" "newPatterns" "I") (List.mem_of_getElem? (i := 4) (by decide +kernel))) (fun _ h9 => h9) rfl dX9_bookBehind_20 ?_
  refine lv_iadd hx hb dX9_bookBehind_23 ?_
  refine lv_topi (fun y_4 ey_4 => ?_)
  obtain rfl : y_4 = 0 := ey_4.trans (by first | rfl | decide)
  refine va_newq (C := "PatternGate$Pattern") (n := 0) (N' := 0) hx hb hown (hts (.classLink RX9 24 RX5) (List.mem_of_getElem? (i := 5) (by decide +kernel))) hAO5 hK hP hD hS hA (by decide) (by decide) (Nat.le_of_ble_eq_true rfl) (Nat.le_of_ble_eq_true rfl) (Nat.le_of_ble_eq_true rfl) dX9_bookBehind_24 (fun q_5 c_6 H hK hP hD hS => ?_)
  have hP : va_P (dC, dI) vwCl [(x, .inr (9, gF q a0 a1 a2 a3 a4 a5 a6)), (q 3, .inr (6, rF r b0 b1 0 0 0 b5 b6 b7)), (d1, .inl (cD1, 0, .inr (.inr (.inr (.inr f1))))), (p1, .inl (cP1, 0, .inr (.inr (.inr (.inr f2))))), (q_2, .inl (c_3, 0, .inr (.inr (.inr (.inr (fun _ => none)))))), (q_5, .inl (c_6, 0, .inr (.inr (.inr (.inr (fun _ => none))))))] H := hP
  have hD : va_D A [(x, .inr (9, gF q a0 a1 a2 a3 a4 a5 a6)), (q 3, .inr (6, rF r b0 b1 0 0 0 b5 b6 b7)), (d1, .inl (cD1, 0, .inr (.inr (.inr (.inr f1))))), (p1, .inl (cP1, 0, .inr (.inr (.inr (.inr f2))))), (q_2, .inl (c_3, 0, .inr (.inr (.inr (.inr (fun _ => none)))))), (q_5, .inl (c_6, 0, .inr (.inr (.inr (.inr (fun _ => none))))))] := hD
  have hK : va_K (dC, dI) vwCl [(cD1, .object "PatternGate$Doc"), (cP1, .object "PatternGate$Pattern"), (c_3, .object "PatternGate$Doc"), (c_6, .object "PatternGate$Pattern")] s := hK
  refine W.widen (k := 2) (n := 0) (by omega) (by omega) ?_
  refine lv_astore (lv' := [(4, .ref q_5), (3, .ref q_2), (0, .ref x), (1, .ref d1), (2, .ref p1)]) hx hb dX9_bookBehind_27 hl (by decide) rfl (fun ls hl => ?_)
  refine lv_aload_n hx hb dX9_bookBehind_29 rfl (lv_at hl 3 rfl) ?_
  refine lv_iconst (v := 0) hx hb dX9_bookBehind_30 (by decide) ?_
  refine lv_aload_n hx hb dX9_bookBehind_31 rfl (lv_at hl 1 rfl) ?_
  refine lv_iconst (v := 0) hx hb dX9_bookBehind_32 (by decide) ?_
  refine lv_aload_n hx hb dX9_bookBehind_33 rfl (lv_at hl 3 rfl) ?_
  refine va_alen (v := 0) hx hb hK hP 2 0 rfl rfl rfl dX9_bookBehind_34 ?_
  refine va_copyq (C := "PatternGate$Doc") hx hb (hml.trans hl.1.symm) hown (hts (.methodLink RX9 255 arraycopyName) (List.mem_of_getElem? (i := 6) (by decide +kernel))) (hts (.native arraycopyName) (List.mem_of_getElem? (i := 7) (by decide +kernel))) (hts (.static arraycopyName) (List.mem_of_getElem? (i := 8) (by decide +kernel))) (hts (.initialized "java/lang/System") (List.mem_of_getElem? (i := 9) (by decide +kernel))) hK hP hD hS 2 4 0 2 rfl rfl rfl rfl (by decide) (by decide) (by decide) (by decide) (by decide) (fun i hi => absurd hi (by show ¬ i < 0; omega)) (fun c1 c2 h1 h2 => vb_asgS c1 c2 h1 h2) (Nat.le_of_ble_eq_true rfl) (by decide +kernel) dX9_bookBehind_35 (fun H locs hP hD hS => ?_)
  generalize hf_f_7 : va_cpy _ _ _ _ _ = f_7 at hP hD
  have hP : va_P (dC, dI) vwCl [(x, .inr (9, gF q a0 a1 a2 a3 a4 a5 a6)), (q 3, .inr (6, rF r b0 b1 0 0 0 b5 b6 b7)), (d1, .inl (cD1, 0, .inr (.inr (.inr (.inr f1))))), (p1, .inl (cP1, 0, .inr (.inr (.inr (.inr f2))))), (q_2, .inl (c_3, 0, .inr (.inr (.inr (.inr f_7))))), (q_5, .inl (c_6, 0, .inr (.inr (.inr (.inr (fun _ => none))))))] H := hP
  have hD : va_D A [(x, .inr (9, gF q a0 a1 a2 a3 a4 a5 a6)), (q 3, .inr (6, rF r b0 b1 0 0 0 b5 b6 b7)), (d1, .inl (cD1, 0, .inr (.inr (.inr (.inr f1))))), (p1, .inl (cP1, 0, .inr (.inr (.inr (.inr f2))))), (q_2, .inl (c_3, 0, .inr (.inr (.inr (.inr f_7))))), (q_5, .inl (c_6, 0, .inr (.inr (.inr (.inr (fun _ => none))))))] := hD
  refine lv_aload_n hx hb dX9_bookBehind_38 rfl (lv_at hl 4 rfl) ?_
  refine lv_iconst (v := 0) hx hb dX9_bookBehind_39 (by decide) ?_
  refine lv_aload hx hb dX9_bookBehind_40 (lv_at hl 0 rfl) ?_
  refine lv_iconst (v := 0) hx hb dX9_bookBehind_42 (by decide) ?_
  refine lv_aload_n hx hb dX9_bookBehind_43 rfl (lv_at hl 4 rfl) ?_
  refine va_alen (v := 0) hx hb hK hP 3 1 rfl rfl rfl dX9_bookBehind_44 ?_
  refine va_copyq (C := "PatternGate$Pattern") hx hb (hml.trans hl.1.symm) hown (hts (.methodLink RX9 255 arraycopyName) (List.mem_of_getElem? (i := 6) (by decide +kernel))) (hts (.native arraycopyName) (List.mem_of_getElem? (i := 7) (by decide +kernel))) (hts (.static arraycopyName) (List.mem_of_getElem? (i := 8) (by decide +kernel))) (hts (.initialized "java/lang/System") (List.mem_of_getElem? (i := 9) (by decide +kernel))) hK hP hD hS 3 5 1 3 rfl rfl rfl rfl (by decide) (by decide) (by decide) (by decide) (by decide) (fun i hi => absurd hi (by show ¬ i < 0; omega)) (fun c1 c2 h1 h2 => vb_asgS c1 c2 h1 h2) (Nat.le_of_ble_eq_true rfl) (by decide +kernel) dX9_bookBehind_45 (fun H locs hP hD hS => ?_)
  generalize hf_f_8 : va_cpy _ _ _ _ _ = f_8 at hP hD
  have hP : va_P (dC, dI) vwCl [(x, .inr (9, gF q a0 a1 a2 a3 a4 a5 a6)), (q 3, .inr (6, rF r b0 b1 0 0 0 b5 b6 b7)), (d1, .inl (cD1, 0, .inr (.inr (.inr (.inr f1))))), (p1, .inl (cP1, 0, .inr (.inr (.inr (.inr f2))))), (q_2, .inl (c_3, 0, .inr (.inr (.inr (.inr f_7))))), (q_5, .inl (c_6, 0, .inr (.inr (.inr (.inr f_8)))))] H := hP
  have hD : va_D A [(x, .inr (9, gF q a0 a1 a2 a3 a4 a5 a6)), (q 3, .inr (6, rF r b0 b1 0 0 0 b5 b6 b7)), (d1, .inl (cD1, 0, .inr (.inr (.inr (.inr f1))))), (p1, .inl (cP1, 0, .inr (.inr (.inr (.inr f2))))), (q_2, .inl (c_3, 0, .inr (.inr (.inr (.inr f_7))))), (q_5, .inl (c_6, 0, .inr (.inr (.inr (.inr f_8)))))] := hD
  refine lv_aload_n hx hb dX9_bookBehind_48 rfl (lv_at hl 3 rfl) ?_
  refine va_alen (v := 0) hx hb hK hP 2 0 rfl rfl rfl dX9_bookBehind_49 ?_
  refine lv_istore (lv' := [(5, .int 0), (4, .ref q_5), (3, .ref q_2), (0, .ref x), (1, .ref d1), (2, .ref p1)]) hx hb dX9_bookBehind_50 hl (by decide) rfl (fun ls hl => ?_)
  refine lv_aload_n hx hb dX9_bookBehind_52 rfl (lv_at hl 5 rfl) ?_
  refine va_alen (v := 0) hx hb hK hP 3 1 rfl rfl rfl dX9_bookBehind_53 ?_
  refine lv_istore (lv' := [(6, .int 0), (5, .int 0), (4, .ref q_5), (3, .ref q_2), (0, .ref x), (1, .ref d1), (2, .ref p1)]) hx hb dX9_bookBehind_54 hl (by decide) rfl (fun ls hl => ?_)
  refine lv_iconst (v := 0) hx hb dX9_bookBehind_56 (by decide) ?_
  refine lv_istore (lv' := [(7, .int 0), (6, .int 0), (5, .int 0), (4, .ref q_5), (3, .ref q_2), (0, .ref x), (1, .ref d1), (2, .ref p1)]) hx hb dX9_bookBehind_57 hl (by decide) rfl (fun ls hl => ?_)
  refine lv_iload hx hb dX9_bookBehind_59 (lv_at hl 0 rfl) ?_
  refine lv_aload_n hx hb dX9_bookBehind_61 rfl (lv_at hl 5 rfl) ?_
  refine va_get (D := (dC, dI)) (ci := 9) (v := .ref (q 3)) (C := RX9) (T := TX9) (N := 16) hx hb hts fin_X9_bookBehind_X9 hown hK hP 0 rfl rfl 10 (by decide) (hts (.fieldLink RX9 43 "PatternGate" "reader" "LPatternGate$Reader;") (List.mem_of_getElem? (i := 1) (by decide +kernel))) (fun _ h9 => h9) rfl dX9_bookBehind_62 ?_
  refine va_get (D := (dC, dI)) (ci := 6) (v := .int 0) (C := RX6) (T := TX6) (N := 11) hx hb hts fin_X9_bookBehind_X6 hown hK hP 1 rfl rfl 2 (by decide) (hts (.fieldLink RX9 107 "PatternGate$Reader" "lines" "I") (List.mem_of_getElem? (i := 10) (by decide +kernel))) (fun _ h9 => h9) rfl dX9_bookBehind_65 ?_
  refine lv_icmp_ge (tgt := 177) hx hb dX9_bookBehind_68 (by decide) (fun k_9 => ?_) (fun k_9 => absurd (by decide) k_9)
  refine va_new (ci := 0) (fs := [.null, .null, .null]) (C := RX0) (T := TX0) (N := 3) hx hb hts fin_X9_bookBehind_X0 tyX0 tyX0_ok hown (hts (.classLink RX9 20 RX0) (List.mem_of_getElem? (i := 11) (by decide +kernel))) (hts (.instantiable RX0 3) (List.mem_of_getElem? (i := 12) (by decide +kernel))) (hts (.initialized RX0) (List.mem_of_getElem? (i := 13) (by decide +kernel))) hK hP hD hS hA rfl (fun j hj => by rcases (show j = 0 ∨ j = 1 ∨ j = 2 by omega) with rfl | rfl | rfl <;> rfl) (Nat.le_of_ble_eq_true rfl) (Nat.le_of_ble_eq_true rfl) dX9_bookBehind_177 (fun q_10 H hP hD hS => ?_)
  have hP : va_P (dC, dI) vwCl [(x, .inr (9, gF q a0 a1 a2 a3 a4 a5 a6)), (q 3, .inr (6, rF r b0 b1 0 0 0 b5 b6 b7)), (d1, .inl (cD1, 0, .inr (.inr (.inr (.inr f1))))), (p1, .inl (cP1, 0, .inr (.inr (.inr (.inr f2))))), (q_2, .inl (c_3, 0, .inr (.inr (.inr (.inr f_7))))), (q_5, .inl (c_6, 0, .inr (.inr (.inr (.inr f_8))))), (q_10, .inr (0, [.null, .null, .null]))] H := hP
  have hD : va_D A [(x, .inr (9, gF q a0 a1 a2 a3 a4 a5 a6)), (q 3, .inr (6, rF r b0 b1 0 0 0 b5 b6 b7)), (d1, .inl (cD1, 0, .inr (.inr (.inr (.inr f1))))), (p1, .inl (cP1, 0, .inr (.inr (.inr (.inr f2))))), (q_2, .inl (c_3, 0, .inr (.inr (.inr (.inr f_7))))), (q_5, .inl (c_6, 0, .inr (.inr (.inr (.inr f_8))))), (q_10, .inr (0, [.null, .null, .null]))] := hD
  refine W.widen (k := 3) (n := 3) (by omega) (by omega) ?_
  refine lv_dup hx hb dX9_bookBehind_180 rfl ?_
  refine lv_aload_n hx hb dX9_bookBehind_181 rfl (lv_at hl 4 rfl) ?_
  refine lv_aload hx hb dX9_bookBehind_182 (lv_at hl 3 rfl) ?_
  refine lv_aload_n hx hb dX9_bookBehind_184 rfl (lv_at hl 5 rfl) ?_
  refine va_get (D := (dC, dI)) (ci := 9) (v := .ref a4) (C := RX9) (T := TX9) (N := 16) hx hb hts fin_X9_bookBehind_X9 hown hK hP 0 rfl rfl 5 (by decide) (hts (.fieldLink RX9 29 "PatternGate" "book" "LPatternGate$Book;") (List.mem_of_getElem? (i := 14) (by decide +kernel))) (fun _ h9 => h9) rfl dX9_bookBehind_185 ?_
  have hPc := hP.sub (ws' := [(q_10, .inr (0, [.null, .null, .null]))]) [6] rfl
  have hKc := hK.sub (tys' := []) [] rfl
  have hDc := hD.sub (ws' := [(q_10, .inr (0, [.null, .null, .null]))]) [6] (by decide) rfl
  have hFc := va_free (wc := [(q_10, .inr (0, [.null, .null, .null]))]) hD hS hA [6] rfl
  refine va_callv (va_runI (As := [.ref q_2, .ref q_5, .ref a4]) (rest := [.ref q_10]) ⟨hx, hb, hml, hown, hts⟩ (c_Book1 l dC dI q_10 q_2 q_5 a4 H.size) (cwI 3 hts mg_X9_bookBehind_X0_init_26 rfl rfl rfl (hts (.initialized RX0) (List.mem_of_getElem? (i := 13) (by decide +kernel))) (hts (.methodLink RX9 26 yX0_init) (List.mem_of_getElem? (i := 22) (by decide +kernel))) (hts (.instanceMethod yX0_init) (List.mem_of_getElem? (i := 23) (by decide +kernel))) rfl (by decide +kernel) ⟨Nat.le_of_ble_eq_true rfl, Nat.le_of_ble_eq_true rfl⟩) ⟨fun a U g mk q => by obtain ⟨q0, q1, qP, qK, qD⟩ := q; exact ⟨q0, q1, qP, va_K.moved (u := U) (U := U.calling g mk a) (Vm.Alike.refl U.vm) qK, qD⟩, fun U hU hW => ⟨rfl, by rw [hU], by rw [hU]; exact hPc, va_K.moved hW.alike hKc, hDc.weaken (fun _ _ _ _ => trivial)⟩⟩ rfl rfl hl.1 rfl (lv_room (Nat.le_of_ble_eq_true rfl)) dX9_bookBehind_188 ⟨Nat.le_of_ble_eq_true rfl, Nat.le_of_ble_eq_true rfl⟩) hS (fun q _ h => hFc q h) hFc (fun u t H1 locs ht hvm hw hB hz1 hk1 hS => ?_)
  obtain ⟨hP1, hK1, hD1⟩ := hB
  rw [ht] at hP1
  obtain ⟨hP, hD⟩ := va_join (wr := [(x, .inr (9, gF q a0 a1 a2 a3 a4 a5 a6)), (q 3, .inr (6, rF r b0 b1 0 0 0 b5 b6 b7)), (d1, .inl (cD1, 0, .inr (.inr (.inr (.inr f1))))), (p1, .inl (cP1, 0, .inr (.inr (.inr (.inr f2))))), (q_2, .inl (c_3, 0, .inr (.inr (.inr (.inr f_7))))), (q_5, .inl (c_6, 0, .inr (.inr (.inr (.inr f_8)))))]) (w1 := [(q_10, .inr (0, [.ref q_2, .ref q_5, .ref a4]))]) hP hD [6] [0, 1, 2, 3, 4, 5] rfl rfl (by decide) (by decide) hk1 hFc hP1 hD1
  generalize H1 = H at hP hS ⊢
  have hP : va_P (dC, dI) vwCl [(x, .inr (9, gF q a0 a1 a2 a3 a4 a5 a6)), (q 3, .inr (6, rF r b0 b1 0 0 0 b5 b6 b7)), (d1, .inl (cD1, 0, .inr (.inr (.inr (.inr f1))))), (p1, .inl (cP1, 0, .inr (.inr (.inr (.inr f2))))), (q_2, .inl (c_3, 0, .inr (.inr (.inr (.inr f_7))))), (q_5, .inl (c_6, 0, .inr (.inr (.inr (.inr f_8))))), (q_10, .inr (0, [.ref q_2, .ref q_5, .ref a4]))] H := hP
  have hD : va_D A [(x, .inr (9, gF q a0 a1 a2 a3 a4 a5 a6)), (q 3, .inr (6, rF r b0 b1 0 0 0 b5 b6 b7)), (d1, .inl (cD1, 0, .inr (.inr (.inr (.inr f1))))), (p1, .inl (cP1, 0, .inr (.inr (.inr (.inr f2))))), (q_2, .inl (c_3, 0, .inr (.inr (.inr (.inr f_7))))), (q_5, .inl (c_6, 0, .inr (.inr (.inr (.inr f_8))))), (q_10, .inr (0, [.ref q_2, .ref q_5, .ref a4]))] := hD
  refine W.widen (k := 3) (n := 3) (by omega) (by omega) ?_
  have hP9 := hP.sub (ws' := [(x, .inr (9, gF q a0 a1 a2 a3 a4 a5 a6)), (q 3, .inr (6, rF r b0 b1 0 0 0 b5 b6 b7)), (d1, .inl (cD1, 0, .inr (.inr (.inr (.inr f1))))), (p1, .inl (cP1, 0, .inr (.inr (.inr (.inr f2))))), (q_2, .inl (c_3, 0, .inr (.inr (.inr (.inr f_7))))), (q_5, .inl (c_6, 0, .inr (.inr (.inr (.inr f_8))))), (q_10, .inr (0, [.ref q_2, .ref q_5, .ref a4]))]) [0, 1, 2, 3, 4, 5, 6] rfl
  have hD9 := hD.sub (ws' := [(x, .inr (9, gF q a0 a1 a2 a3 a4 a5 a6)), (q 3, .inr (6, rF r b0 b1 0 0 0 b5 b6 b7)), (d1, .inl (cD1, 0, .inr (.inr (.inr (.inr f1))))), (p1, .inl (cP1, 0, .inr (.inr (.inr (.inr f2))))), (q_2, .inl (c_3, 0, .inr (.inr (.inr (.inr f_7))))), (q_5, .inl (c_6, 0, .inr (.inr (.inr (.inr f_8))))), (q_10, .inr (0, [.ref q_2, .ref q_5, .ref a4]))]) [0, 1, 2, 3, 4, 5, 6] (by decide) rfl
  have hK9 := hK.sub (tys' := [(cD1, .object "PatternGate$Doc"), (cP1, .object "PatternGate$Pattern"), (c_3, .object "PatternGate$Doc"), (c_6, .object "PatternGate$Pattern")]) [0, 1, 2, 3] rfl
  exact W.aret hx hb hr (Or.inl ⟨_, rfl⟩) (Or.inr ⟨_, rfl⟩) (fun t ht hW => ⟨⟨(), _, rfl, trivial, q_2, q_5, c_3, c_6, f_7, f_8, by rw [ht]; exact hP9, va_K.moved hW.alike hK9, hD9⟩, hS.F ht⟩) hS.2.2 dX9_bookBehind_191
theorem dX9_act_0 : decode cX9_act 0 = .ok (.aload_n 0, 1) := by decide +kernel
theorem dX9_act_1 : decode cX9_act 1 = .ok (.aload_n 1, 1) := by decide +kernel
theorem dX9_act_2 : decode cX9_act 2 = .ok (.putfield 29, 3) := by decide +kernel
theorem dX9_act_5 : decode cX9_act 5 = .ok (.aload_n 0, 1) := by decide +kernel
theorem dX9_act_6 : decode cX9_act 6 = .ok (.aload_n 0, 1) := by decide +kernel
theorem dX9_act_7 : decode cX9_act 7 = .ok (.getfield 117, 3) := by decide +kernel
theorem dX9_act_10 : decode cX9_act 10 = .ok (.iconst 1, 1) := by decide +kernel
theorem dX9_act_11 : decode cX9_act 11 = .ok (.iadd, 1) := by decide +kernel
theorem dX9_act_12 : decode cX9_act 12 = .ok (.bipush 8, 2) := by decide +kernel
theorem dX9_act_14 : decode cX9_act 14 = .ok (.invokestatic 323, 3) := by decide +kernel
theorem dX9_act_17 : decode cX9_act 17 = .ok (.putfield 117, 3) := by decide +kernel
theorem dX9_act_20 : decode cX9_act 20 = .ok (.return_, 1) := by decide +kernel
def mwX9_act : List Cond := .code yX9_act cX9_act 2 none :: ([.fieldLink RX9 29 "PatternGate" "book" "LPatternGate$Book;", .fieldLink RX9 117 "PatternGate" "undoable" "I", .methodLink RX9 323 Lib.Math.min.name, .static Lib.Math.min.name, .initialized "java/lang/Math", .code Lib.Math.min.name Lib.Math.min.code 2 (some .int)] ++ wsX90)
theorem fin_X9_act_X9 : ∀ w ∈ wsX90, w ∈ mwX9_act := fun w h => List.mem_cons_of_mem _ (List.mem_append_right _ h)
set_option maxHeartbeats 4000000 in
set_option maxRecDepth 100000 in
/-- act: the first ACT -/
theorem c_act (l : Launch) (dC : Nat → ClassId) (dI : Nat → Nat → Nat) (x : Nat) (q : Nat → Nat) (a0 a1 a2 a3 : Int32) (a4 : Nat) (a6 : Int32) (sz nb : Nat) : Met l yX9_act mwX9_act ({ frames := 1, cells := 0, slots := 0, locals := 60 }) (va_Pc [.ref x, .ref nb] (fun U => U.heap.size = sz ∧ va_P (dC, dI) vwCl ([(x, .inr (9, gF q a0 a1 a2 a3 a4 0 a6))]) U.heap ∧ va_K (dC, dI) vwCl ([]) U ∧ va_D (fun _ => True) ([(x, .inr (9, gF q a0 a1 a2 a3 a4 0 a6))]))) (va_Qv (fun (_ : Unit) => True) (fun _ t => va_P (dC, dI) vwCl [(x, .inr (9, gF q a0 a1 a2 a3 nb 1 a6))] t.heap ∧ va_K (dC, dI) vwCl [] t ∧ va_D (va_A ([(x, .inr (9, gF q a0 a1 a2 a3 a4 0 a6))]) sz) [(x, .inr (9, gF q a0 a1 a2 a3 nb 1 a6))]) (va_A ([(x, .inr (9, gF q a0 a1 a2 a3 a4 0 a6))]) sz)) 0 0 (va_A ([(x, .inr (9, gF q a0 a1 a2 a3 a4 0 a6))]) sz) := by
  refine Met.ofW (cc := cX9_act) (maxL := 2) (ret := none) (by decide +kernel) rfl ?_
  intro p e s m args below meth c s₁ B hml hv
  obtain ⟨rfl, hsz, hP, hK, hD0⟩ := hv
  have hx := B.exec
  have hb := B.bytes
  have hr := B.returns
  have hts := atoms_spec (ws := mwX9_act) B.pre
  have hown : s.vm.findClass RX9 = some m.cls := findClass_of_methodNamed B.named
  have hlocks := B.notSynchronized
  subst hsz
  have hD := hD0.self (sz := s.heap.size)
  generalize hAe : va_A ([(x, .inr (9, gF q a0 a1 a2 a3 a4 0 a6))]) s.heap.size = A at hD ⊢
  have hA : ∀ q : Nat, s.heap.size ≤ q → A q := fun q h => by rw [← hAe]; exact Or.inr h
  have hP : va_P (dC, dI) vwCl [(x, .inr (9, gF q a0 a1 a2 a3 a4 0 a6))] s.heap := hP
  have hD : va_D A [(x, .inr (9, gF q a0 a1 a2 a3 a4 0 a6))] := hD
  have hK : va_K (dC, dI) vwCl [] s := hK
  generalize hH : s.heap = H at hP ⊢
  have hS : va_S A s.heap H [] := by rw [← hH]; exact va_S.rf
  have hl := lv_entry ([.ref x, .ref nb]) (n := 2) (Nat.le_of_ble_eq_true rfl)
  rw [lg_entry_eq]
  generalize (lg_sl ([.ref x, .ref nb]) ++ List.replicate (2 - (lg_sl ([.ref x, .ref nb])).length) Slot.unset).toArray = ls at hl ⊢
  have hl : lv_has ls 2 [(0, .ref x), (1, .ref nb)] := hl
  refine lv_aload_n hx hb dX9_act_0 rfl (lv_at hl 0 rfl) ?_
  refine lv_aload_n hx hb dX9_act_1 rfl (lv_at hl 1 rfl) ?_
  refine va_put (D := (dC, dI)) (ci := 9) (v := .ref nb) (ty := .object "PatternGate$Book") (C := RX9) (T := TX9) (N := 16) hx hb hts fin_X9_act_X9 tyX9 tyX9_ok nmX9 hown hK hP hD hS 0 rfl rfl 5 (by decide) (hts (.fieldLink RX9 29 "PatternGate" "book" "LPatternGate$Book;") (List.mem_of_getElem? (i := 1) (by decide +kernel))) (fun _ h9 => h9) rfl (by decide +kernel) rfl rfl (Nat.le_of_ble_eq_true rfl) dX9_act_2 (fun H locs hP hD hS => ?_)
  have hP : va_P (dC, dI) vwCl [(x, .inr (9, gF q a0 a1 a2 a3 nb 0 a6))] H := hP
  have hD : va_D A [(x, .inr (9, gF q a0 a1 a2 a3 nb 0 a6))] := hD
  refine lv_aload_n hx hb dX9_act_5 rfl (lv_at hl 0 rfl) ?_
  refine lv_aload_n hx hb dX9_act_6 rfl (lv_at hl 0 rfl) ?_
  refine va_get (D := (dC, dI)) (ci := 9) (v := .int 0) (C := RX9) (T := TX9) (N := 16) hx hb hts fin_X9_act_X9 hown hK hP 0 rfl rfl 6 (by decide) (hts (.fieldLink RX9 117 "PatternGate" "undoable" "I") (List.mem_of_getElem? (i := 2) (by decide +kernel))) (fun _ h9 => h9) rfl dX9_act_7 ?_
  refine lv_iconst (v := 1) hx hb dX9_act_10 (by decide) ?_
  refine lv_iadd hx hb dX9_act_11 ?_
  refine lv_topi (fun y_1 ey_1 => ?_)
  obtain rfl : y_1 = 1 := ey_1.trans (by first | rfl | decide)
  refine lv_bipush (v := 8) hx hb dX9_act_12 (by decide) ?_
  refine va_mmin hx hb (hml.trans hl.1.symm) hown (hts (.methodLink RX9 323 Lib.Math.min.name) (List.mem_of_getElem? (i := 3) (by decide +kernel))) (hts (.static Lib.Math.min.name) (List.mem_of_getElem? (i := 4) (by decide +kernel))) (hts (.initialized "java/lang/Math") (List.mem_of_getElem? (i := 5) (by decide +kernel))) (hts (.code Lib.Math.min.name Lib.Math.min.code 2 (some .int)) (List.mem_of_getElem? (i := 6) (by decide +kernel))) (Nat.le_of_ble_eq_true rfl) (Nat.le_of_ble_eq_true rfl) (Nat.le_of_ble_eq_true rfl) (Nat.le_of_ble_eq_true rfl) dX9_act_14 ?_
  refine lv_topi (fun y_2 ey_2 => ?_)
  obtain rfl : y_2 = 1 := ey_2.trans (by first | rfl | decide)
  refine va_put (D := (dC, dI)) (ci := 9) (v := .int 1) (ty := .int) (C := RX9) (T := TX9) (N := 16) hx hb hts fin_X9_act_X9 tyX9 tyX9_ok nmX9 hown hK hP hD hS 0 rfl rfl 6 (by decide) (hts (.fieldLink RX9 117 "PatternGate" "undoable" "I") (List.mem_of_getElem? (i := 2) (by decide +kernel))) (fun _ h9 => h9) rfl (by decide +kernel) rfl rfl (Nat.le_of_ble_eq_true rfl) dX9_act_17 (fun H locs hP hD hS => ?_)
  have hP : va_P (dC, dI) vwCl [(x, .inr (9, gF q a0 a1 a2 a3 nb 1 a6))] H := hP
  have hD : va_D A [(x, .inr (9, gF q a0 a1 a2 a3 nb 1 a6))] := hD
  have hP9 := hP.sub (ws' := [(x, .inr (9, gF q a0 a1 a2 a3 nb 1 a6))]) [0] rfl
  have hD9 := hD.sub (ws' := [(x, .inr (9, gF q a0 a1 a2 a3 nb 1 a6))]) [0] (by decide) rfl
  have hK9 := hK.sub (tys' := []) [] rfl
  exact W.vret hx hb hr (fun t ht hW => ⟨⟨(), rfl, trivial, by rw [ht]; exact hP9, va_K.moved hW.alike hK9, hD9⟩, hS.F ht⟩) hS.2.2 dX9_act_20
theorem dX9_load_0 : decode cX9_load 0 = .ok (.iload_n 1, 1) := by decide +kernel
theorem dX9_load_1 : decode cX9_load 1 = .ok (.ifCond .lt 11, 3) := by decide +kernel
theorem dX9_load_4 : decode cX9_load 4 = .ok (.iload_n 1, 1) := by decide +kernel
theorem dX9_load_5 : decode cX9_load 5 = .ok (.aload_n 0, 1) := by decide +kernel
theorem dX9_load_6 : decode cX9_load 6 = .ok (.getfield 73, 3) := by decide +kernel
theorem dX9_load_9 : decode cX9_load 9 = .ok (.if_icmp .le 9, 3) := by decide +kernel
theorem dX9_load_12 : decode cX9_load 12 = .ok (.aload_n 0, 1) := by decide +kernel
theorem dX9_load_13 : decode cX9_load 13 = .ok (.iconst 1, 1) := by decide +kernel
theorem dX9_load_14 : decode cX9_load 14 = .ok (.invokevirtual 80, 3) := by decide +kernel
theorem dX9_load_17 : decode cX9_load 17 = .ok (.ireturn, 1) := by decide +kernel
theorem dX9_load_18 : decode cX9_load 18 = .ok (.aload_n 0, 1) := by decide +kernel
theorem dX9_load_19 : decode cX9_load 19 = .ok (.iload_n 1, 1) := by decide +kernel
theorem dX9_load_20 : decode cX9_load 20 = .ok (.iconst 0, 1) := by decide +kernel
theorem dX9_load_21 : decode cX9_load 21 = .ok (.iconst 0, 1) := by decide +kernel
theorem dX9_load_22 : decode cX9_load 22 = .ok (.invokevirtual 84, 3) := by decide +kernel
theorem dX9_load_25 : decode cX9_load 25 = .ok (.ifCond .ne 10, 3) := by decide +kernel
theorem dX9_load_35 : decode cX9_load 35 = .ok (.aload_n 0, 1) := by decide +kernel
theorem dX9_load_36 : decode cX9_load 36 = .ok (.aload_n 0, 1) := by decide +kernel
theorem dX9_load_37 : decode cX9_load 37 = .ok (.iconst 0, 1) := by decide +kernel
theorem dX9_load_38 : decode cX9_load 38 = .ok (.anewarray 22, 3) := by decide +kernel
theorem dX9_load_41 : decode cX9_load 41 = .ok (.iconst 0, 1) := by decide +kernel
theorem dX9_load_42 : decode cX9_load 42 = .ok (.anewarray 24, 3) := by decide +kernel
theorem dX9_load_45 : decode cX9_load 45 = .ok (.invokevirtual 88, 3) := by decide +kernel
theorem dX9_load_48 : decode cX9_load 48 = .ok (.invokevirtual 92, 3) := by decide +kernel
theorem dX9_load_51 : decode cX9_load 51 = .ok (.aload_n 0, 1) := by decide +kernel
theorem dX9_load_52 : decode cX9_load 52 = .ok (.aload_n 0, 1) := by decide +kernel
theorem dX9_load_53 : decode cX9_load 53 = .ok (.getfield 29, 3) := by decide +kernel
theorem dX9_load_56 : decode cX9_load 56 = .ok (.getfield 96, 3) := by decide +kernel
theorem dX9_load_59 : decode cX9_load 59 = .ok (.arraylength, 1) := by decide +kernel
theorem dX9_load_60 : decode cX9_load 60 = .ok (.invokevirtual 100, 3) := by decide +kernel
theorem dX9_load_63 : decode cX9_load 63 = .ok (.ireturn, 1) := by decide +kernel
def mwX9_load : List Cond := .code yX9_load cX9_load 2 (some .int) :: ([.code yX9_refuse cX9_refuse 2 (some .int), .fieldLink RX9 70 "PatternGate" "lastStatus" "I", .methodLink RX9 80 yX9_refuse, .instanceMethod yX9_refuse, .selects RX9 yX9_refuse yX9_refuse, .initialized RX9, .fieldLink RX9 73 "PatternGate" "taped" "I", .code yX9_readTape cX9_readTape 5 (some .boolean), .fieldLink RX9 43 "PatternGate" "reader" "LPatternGate$Reader;", .fieldLink RX9 9 "PatternGate" "tape" "[I", .code yX6_read cX6_read 8 (some .boolean), .fieldLink RX6 22 "PatternGate$Reader" "faultKind" "I", .fieldLink RX6 26 "PatternGate$Reader" "faultPlace" "I", .fieldLink RX6 29 "PatternGate$Reader" "lines" "I", .fieldLink RX6 32 "PatternGate$Reader" "newDocs" "I", .fieldLink RX6 35 "PatternGate$Reader" "newPatterns" "I", .fieldLink RX6 38 "PatternGate$Reader" "docsAhead" "I", .fieldLink RX6 41 "PatternGate$Reader" "patternsAhead" "I", .fieldLink RX6 44 "PatternGate$Reader" "wanted" "I", .methodLink RX6 47 Lib.Math.min.name, .static Lib.Math.min.name, .initialized "java/lang/Math", .code Lib.Math.min.name Lib.Math.min.code 2 (some .int), .methodLink RX9 293 yX6_read, .instanceMethod yX6_read, .selects RX6 yX6_read yX6_read, .initialized RX6, .fieldLink RX9 297 "PatternGate$Reader" "faultKind" "I", .fieldLink RX9 13 "PatternGate" "faultKind" "I", .fieldLink RX9 298 "PatternGate$Reader" "faultPlace" "I", .fieldLink RX9 17 "PatternGate" "faultPlace" "I", .methodLink RX9 84 yX9_readTape, .instanceMethod yX9_readTape, .selects RX9 yX9_readTape yX9_readTape, .classLink RX9 22 RX2, .classLink RX9 24 RX5, .code yX9_bookBehind cX9_bookBehind 10 (some (.object "PatternGate$Book")), .fieldLink RX9 299 "PatternGate$Reader" "newDocs" "I", .fieldLink RX9 302 "PatternGate$Reader" "newPatterns" "I", .methodLink RX9 255 arraycopyName, .native arraycopyName, .static arraycopyName, .initialized "java/lang/System", .fieldLink RX9 107 "PatternGate$Reader" "lines" "I", .classLink RX9 20 RX0, .instantiable RX0 3, .initialized RX0, .fieldLink RX9 29 "PatternGate" "book" "LPatternGate$Book;", .code yX0_init cX0_init 4 none, .methodLink RX0 1 objectInit, .instanceMethod objectInit, .code objectInit ⟨#[0xb1]⟩ 1 none, .fieldLink RX0 7 "PatternGate$Book" "docs" "[LPatternGate$Doc;", .fieldLink RX0 13 "PatternGate$Book" "patterns" "[LPatternGate$Pattern;", .fieldLink RX0 17 "PatternGate$Book" "earlier" "LPatternGate$Book;", .methodLink RX9 26 yX0_init, .instanceMethod yX0_init, .methodLink RX9 88 yX9_bookBehind, .instanceMethod yX9_bookBehind, .selects RX9 yX9_bookBehind yX9_bookBehind, .code yX9_act cX9_act 2 none, .fieldLink RX9 117 "PatternGate" "undoable" "I", .methodLink RX9 323 Lib.Math.min.name, .methodLink RX9 92 yX9_act, .instanceMethod yX9_act, .selects RX9 yX9_act yX9_act, .fieldLink RX9 96 "PatternGate$Book" "docs" "[LPatternGate$Doc;", .code yX9_answer cX9_answer 2 (some .int), .methodLink RX9 100 yX9_answer, .instanceMethod yX9_answer, .selects RX9 yX9_answer yX9_answer] ++ wsX90 ++ wsX60 ++ wsX00)
theorem fin_X9_load_X0 : ∀ w ∈ wsX00, w ∈ mwX9_load := fun w h => List.mem_cons_of_mem _ (List.mem_append_right _ h)
theorem fin_X9_load_X9 : ∀ w ∈ wsX90, w ∈ mwX9_load := fun w h => List.mem_cons_of_mem _ (List.mem_append_left _ (List.mem_append_left _ (List.mem_append_right _ h)))
set_option maxRecDepth 20000 in
theorem mg_X9_load_X9_refuse_80 : GoodIn mwX9_load (wsV RX9 80 RX9 yX9_refuse mwX9_refuse) := goodIn_r _ [3, 4, 5, 6, 1, 2, 72, 73, 74, 75, 76, 77, 78, 79, 80, 81, 82, 83, 84, 85, 86, 87] (by decide +kernel) (by decide +kernel)
set_option maxRecDepth 20000 in
theorem mg_X9_load_X9_readTape_84 : GoodIn mwX9_load (wsV RX9 84 RX9 yX9_readTape mwX9_readTape) := goodIn_r _ [32, 33, 34, 6, 8, 9, 10, 11, 12, 13, 14, 15, 16, 17, 18, 19, 20, 21, 22, 23, 24, 25, 26, 27, 28, 29, 30, 31, 7, 72, 73, 74, 75, 76, 77, 78, 79, 80, 81, 82, 83, 84, 85, 86, 87, 88, 89, 90, 91, 92, 93, 94, 95, 96, 97, 98] (by decide +kernel) (by decide +kernel)
set_option maxRecDepth 20000 in
theorem mg_X9_load_X9_bookBehind_88 : GoodIn mwX9_load (wsV RX9 88 RX9 yX9_bookBehind mwX9_bookBehind) := goodIn_r _ [58, 59, 60, 6, 37, 9, 38, 35, 39, 36, 40, 41, 42, 43, 44, 45, 46, 47, 48, 49, 50, 51, 52, 53, 54, 55, 56, 57, 72, 73, 74, 75, 76, 77, 78, 79, 80, 81, 82, 83, 84, 85, 86, 87, 88, 89, 90, 91, 92, 93, 94, 95, 96, 97, 98, 99, 100, 101] (by decide +kernel) (by decide +kernel)
set_option maxRecDepth 20000 in
theorem mg_X9_load_X9_act_92 : GoodIn mwX9_load (wsV RX9 92 RX9 yX9_act mwX9_act) := goodIn_r _ [64, 65, 66, 6, 61, 48, 62, 63, 21, 22, 23, 72, 73, 74, 75, 76, 77, 78, 79, 80, 81, 82, 83, 84, 85, 86, 87] (by decide +kernel) (by decide +kernel)
set_option maxRecDepth 20000 in
theorem mg_X9_load_X9_answer_100 : GoodIn mwX9_load (wsV RX9 100 RX9 yX9_answer mwX9_answer) := goodIn_r _ [69, 70, 71, 6, 68, 2, 72, 73, 74, 75, 76, 77, 78, 79, 80, 81, 82, 83, 84, 85, 86, 87] (by decide +kernel) (by decide +kernel)
set_option maxHeartbeats 4000000 in
set_option maxRecDepth 100000 in
/-- load on a new object -/
theorem c_load (l : Launch) (dC : Nat → ClassId) (dI : Nat → Nat → Nat) (x : Nat) (q : Nat → Nat) (b d0 p0 : Nat) (cT cD cP cB cU : ClassId) (r : Nat → Nat) (sz : Nat) (i0 : Int32) : Met l yX9_load mwX9_load ({ frames := 3, cells := 5, slots := 3, locals := 180 }) (va_Pc [.ref x, .int i0] (fun U => U.heap.size = sz ∧ va_P (dC, dI) vwCl (gW x q b d0 p0 cT cD cP cB cU r) U.heap ∧ va_K (dC, dI) vwCl (gT cT cD cP cB cU) U ∧ va_D (fun _ => True) (gW x q b d0 p0 cT cD cP cB cU r) ∧ va_AO "PatternGate$Doc" U ∧ va_AO "PatternGate$Pattern" U)) (va_Qi (fun (o : Int32) (_ : Unit) => o = s_load i0) (fun _ _ => True) (va_A (gW x q b d0 p0 cT cD cP cB cU r) sz)) 5 3 (va_A (gW x q b d0 p0 cT cD cP cB cU r) sz) := by
  refine Met.ofW (cc := cX9_load) (maxL := 2) (ret := (some .int)) (by decide +kernel) rfl ?_
  intro p e s m args below meth c s₁ B hml hv
  obtain ⟨rfl, hsz, hP, hK, hD0, hAO2, hAO5⟩ := hv
  have hx := B.exec
  have hb := B.bytes
  have hr := B.returns
  have hts := atoms_spec (ws := mwX9_load) B.pre
  have hown : s.vm.findClass RX9 = some m.cls := findClass_of_methodNamed B.named
  have hlocks := B.notSynchronized
  subst hsz
  have hD := hD0.self (sz := s.heap.size)
  generalize hAe : va_A (gW x q b d0 p0 cT cD cP cB cU r) s.heap.size = A at hD ⊢
  have hA : ∀ q : Nat, s.heap.size ≤ q → A q := fun q h => by rw [← hAe]; exact Or.inr h
  have hP : va_P (dC, dI) vwCl [(x, .inr (9, gF q 0 0 (-1) (-1) b 0 0)), (q 0, .inl (cT, 900, .inl (fun _ => 0))), (b, .inr (0, [.ref d0, .ref p0, .null])), (d0, .inl (cD, 0, .inr (.inr (.inr (.inr (fun _ => none)))))), (p0, .inl (cP, 0, .inr (.inr (.inr (.inr (fun _ => none)))))), (q 1, .inl (cB, 3, .inr (.inr (.inr (.inr (fun _ => none)))))), (q 2, .inl (cU, 3, .inl (fun _ => 0))), (q 3, .inr (6, rF r 0 0 0 0 0 0 0 0))] s.heap := hP
  have hD : va_D A [(x, .inr (9, gF q 0 0 (-1) (-1) b 0 0)), (q 0, .inl (cT, 900, .inl (fun _ => 0))), (b, .inr (0, [.ref d0, .ref p0, .null])), (d0, .inl (cD, 0, .inr (.inr (.inr (.inr (fun _ => none)))))), (p0, .inl (cP, 0, .inr (.inr (.inr (.inr (fun _ => none)))))), (q 1, .inl (cB, 3, .inr (.inr (.inr (.inr (fun _ => none)))))), (q 2, .inl (cU, 3, .inl (fun _ => 0))), (q 3, .inr (6, rF r 0 0 0 0 0 0 0 0))] := hD
  have hK : va_K (dC, dI) vwCl [(cT, .int), (cD, .object "PatternGate$Doc"), (cP, .object "PatternGate$Pattern"), (cB, .object "PatternGate$Book"), (cU, .int)] s := hK
  generalize hH : s.heap = H at hP ⊢
  have hS : va_S A s.heap H [] := by rw [← hH]; exact va_S.rf
  have hl := lv_entry ([.ref x, .int i0]) (n := 2) (Nat.le_of_ble_eq_true rfl)
  rw [lg_entry_eq]
  generalize (lg_sl ([.ref x, .int i0]) ++ List.replicate (2 - (lg_sl ([.ref x, .int i0])).length) Slot.unset).toArray = ls at hl ⊢
  have hl : lv_has ls 2 [(0, .ref x), (1, .int i0)] := hl
  refine lv_iload_n hx hb dX9_load_0 rfl (lv_at hl 1 rfl) ?_
  refine lv_if_lt (tgt := 12) hx hb dX9_load_1 (by decide) (fun k_1 => ?_) (fun k_1 => ?_)
  · refine lv_aload_n hx hb dX9_load_12 rfl (lv_at hl 0 rfl) ?_
    refine lv_iconst (v := 1) hx hb dX9_load_13 (by decide) ?_
    have hPc := hP.sub (ws' := [(x, .inr (9, gF q 0 0 (-1) (-1) b 0 0))]) [0] rfl
    have hKc := hK.sub (tys' := []) [] rfl
    have hDc := hD.sub (ws' := [(x, .inr (9, gF q 0 0 (-1) (-1) b 0 0))]) [0] (by decide) rfl
    have hFc := va_free (wc := [(x, .inr (9, gF q 0 0 (-1) (-1) b 0 0))]) hD hS hA [0] rfl
    refine va_calli (va_runV (As := [.int 1]) (rest := []) ⟨hx, hb, hml, hown, hts⟩ (c_refuse l dC dI x q 0 0 (-1) (-1) b 0 0 H.size 1) (cwV 1 hts mg_X9_load_X9_refuse_80 rfl rfl rfl (by decide +kernel) ⟨Nat.le_of_ble_eq_true rfl, Nat.le_of_ble_eq_true rfl⟩) ⟨fun a U g mk q => by obtain ⟨q0, q1, qP, qK, qD⟩ := q; exact ⟨q0, q1, qP, va_K.moved (u := U) (U := U.calling g mk a) (Vm.Alike.refl U.vm) qK, qD⟩, va_recv hKc hPc (ci := 9) (q0 := 0) rfl rfl, fun U hU hW => ⟨rfl, by rw [hU], by rw [hU]; exact hPc, va_K.moved hW.alike hKc, hDc.weaken (fun _ _ _ _ => trivial)⟩⟩ rfl rfl hl.1 rfl (lv_room (Nat.le_of_ble_eq_true rfl)) dX9_load_14 ⟨Nat.le_of_ble_eq_true rfl, Nat.le_of_ble_eq_true rfl⟩) hS (fun q _ h => hFc q h) hFc (fun r_3 u t H1 locs ht hvm hw hB hz1 hk1 hS => ?_)
    refine W.widen (k := 5) (n := 3) (by omega) (by omega) ?_
    exact W.iret hx hb hr (fun t ht hW => ⟨⟨_, (), rfl, (hw.trans (s_load_lt k_1).symm), trivial⟩, hS.F ht⟩) hS.2.2 dX9_load_17
  · refine lv_iload_n hx hb dX9_load_4 rfl (lv_at hl 1 rfl) ?_
    refine lv_aload_n hx hb dX9_load_5 rfl (lv_at hl 0 rfl) ?_
    refine va_get (D := (dC, dI)) (ci := 9) (v := .int 0) (C := RX9) (T := TX9) (N := 16) hx hb hts fin_X9_load_X9 hown hK hP 0 rfl rfl 2 (by decide) (hts (.fieldLink RX9 73 "PatternGate" "taped" "I") (List.mem_of_getElem? (i := 7) (by decide +kernel))) (fun _ h9 => h9) rfl dX9_load_6 ?_
    refine lv_icmp_le (tgt := 18) hx hb dX9_load_9 (by decide) (fun k_4 => ?_) (fun k_4 => ?_)
    · obtain rfl : i0 = 0 := zz_le (zz_ge k_1) k_4
      refine lv_aload_n hx hb dX9_load_18 rfl (lv_at hl 0 rfl) ?_
      refine lv_iload_n hx hb dX9_load_19 rfl (lv_at hl 1 rfl) ?_
      refine lv_iconst (v := 0) hx hb dX9_load_20 (by decide) ?_
      refine lv_iconst (v := 0) hx hb dX9_load_21 (by decide) ?_
      have hPc := hP.sub (ws' := [(x, .inr (9, gF q 0 0 (-1) (-1) b 0 0)), (q 0, .inl (cT, 900, .inl (fun _ => 0))), (q 3, .inr (6, rF r 0 0 0 0 0 0 0 0))]) [0, 1, 7] rfl
      have hKc := hK.sub (tys' := [(cT, .int)]) [0] rfl
      have hDc := hD.sub (ws' := [(x, .inr (9, gF q 0 0 (-1) (-1) b 0 0)), (q 0, .inl (cT, 900, .inl (fun _ => 0))), (q 3, .inr (6, rF r 0 0 0 0 0 0 0 0))]) [0, 1, 7] (by decide) rfl
      have hFc := va_free (wc := [(x, .inr (9, gF q 0 0 (-1) (-1) b 0 0)), (q 0, .inl (cT, 900, .inl (fun _ => 0))), (q 3, .inr (6, rF r 0 0 0 0 0 0 0 0))]) hD hS hA [0, 1, 7] rfl
      refine va_calli (va_runV (As := [.int 0, .int 0, .int 0]) (rest := []) ⟨hx, hb, hml, hown, hts⟩ (c_readTape l dC dI x q 0 0 (-1) (-1) b 0 0 cT (fun _ => 0) r 0 0 0 0 0 0 0 0 H.size 0 0) (cwV 3 hts mg_X9_load_X9_readTape_84 rfl rfl rfl (by decide +kernel) ⟨Nat.le_of_ble_eq_true rfl, Nat.le_of_ble_eq_true rfl⟩) ⟨fun a U g mk q => by obtain ⟨q0, q1, qP, qK, qD⟩ := q; exact ⟨q0, q1, qP, va_K.moved (u := U) (U := U.calling g mk a) (Vm.Alike.refl U.vm) qK, qD⟩, va_recv hKc hPc (ci := 9) (q0 := 0) rfl rfl, fun U hU hW => ⟨rfl, by rw [hU], by rw [hU]; exact hPc, va_K.moved hW.alike hKc, hDc.weaken (fun _ _ _ _ => trivial)⟩⟩ rfl rfl hl.1 rfl (lv_room (Nat.le_of_ble_eq_true rfl)) dX9_load_22 ⟨Nat.le_of_ble_eq_true rfl, Nat.le_of_ble_eq_true rfl⟩) hS (fun q _ h => hFc q h) hFc (fun r_6 u t H1 locs ht hvm hw hB hz1 hk1 hS => ?_)
      obtain ⟨hP1, hK1, hD1⟩ := hB
      rw [ht] at hP1
      subst hw
      obtain ⟨hP, hD⟩ := va_join (wr := [(b, .inr (0, [.ref d0, .ref p0, .null])), (d0, .inl (cD, 0, .inr (.inr (.inr (.inr (fun _ => none)))))), (p0, .inl (cP, 0, .inr (.inr (.inr (.inr (fun _ => none)))))), (q 1, .inl (cB, 3, .inr (.inr (.inr (.inr (fun _ => none)))))), (q 2, .inl (cU, 3, .inl (fun _ => 0)))]) (w1 := [(x, .inr (9, gF q 0 0 0 (-1) b 0 0)), (q 0, .inl (cT, 900, .inl (fun _ => 0))), (q 3, .inr (6, rF r 0 (-1) 0 0 0 0 0 0))]) hP hD [0, 1, 7] [2, 3, 4, 5, 6] rfl rfl (by decide) (by decide) hk1 hFc hP1 hD1
      generalize H1 = H at hP hS ⊢
      have hP : va_P (dC, dI) vwCl [(b, .inr (0, [.ref d0, .ref p0, .null])), (d0, .inl (cD, 0, .inr (.inr (.inr (.inr (fun _ => none)))))), (p0, .inl (cP, 0, .inr (.inr (.inr (.inr (fun _ => none)))))), (q 1, .inl (cB, 3, .inr (.inr (.inr (.inr (fun _ => none)))))), (q 2, .inl (cU, 3, .inl (fun _ => 0))), (x, .inr (9, gF q 0 0 0 (-1) b 0 0)), (q 0, .inl (cT, 900, .inl (fun _ => 0))), (q 3, .inr (6, rF r 0 (-1) 0 0 0 0 0 0))] H := hP
      have hD : va_D A [(b, .inr (0, [.ref d0, .ref p0, .null])), (d0, .inl (cD, 0, .inr (.inr (.inr (.inr (fun _ => none)))))), (p0, .inl (cP, 0, .inr (.inr (.inr (.inr (fun _ => none)))))), (q 1, .inl (cB, 3, .inr (.inr (.inr (.inr (fun _ => none)))))), (q 2, .inl (cU, 3, .inl (fun _ => 0))), (x, .inr (9, gF q 0 0 0 (-1) b 0 0)), (q 0, .inl (cT, 900, .inl (fun _ => 0))), (q 3, .inr (6, rF r 0 (-1) 0 0 0 0 0 0))] := hD
      refine lv_if_ne (tgt := 35) hx hb dX9_load_25 (by decide) (fun k_7 => ?_) (fun k_7 => absurd k_7 (by decide))
      refine lv_aload_n hx hb dX9_load_35 rfl (lv_at hl 0 rfl) ?_
      refine lv_aload_n hx hb dX9_load_36 rfl (lv_at hl 0 rfl) ?_
      refine lv_iconst (v := 0) hx hb dX9_load_37 (by decide) ?_
      refine va_newq (C := "PatternGate$Doc") (n := 0) (N' := 0) hx hb hown (hts (.classLink RX9 22 RX2) (List.mem_of_getElem? (i := 35) (by decide +kernel))) hAO2 hK hP hD hS hA (by decide) (by decide) (Nat.le_of_ble_eq_true rfl) (Nat.le_of_ble_eq_true rfl) (Nat.le_of_ble_eq_true rfl) dX9_load_38 (fun q_8 c_9 H hK hP hD hS => ?_)
      have hP : va_P (dC, dI) vwCl [(b, .inr (0, [.ref d0, .ref p0, .null])), (d0, .inl (cD, 0, .inr (.inr (.inr (.inr (fun _ => none)))))), (p0, .inl (cP, 0, .inr (.inr (.inr (.inr (fun _ => none)))))), (q 1, .inl (cB, 3, .inr (.inr (.inr (.inr (fun _ => none)))))), (q 2, .inl (cU, 3, .inl (fun _ => 0))), (x, .inr (9, gF q 0 0 0 (-1) b 0 0)), (q 0, .inl (cT, 900, .inl (fun _ => 0))), (q 3, .inr (6, rF r 0 (-1) 0 0 0 0 0 0)), (q_8, .inl (c_9, 0, .inr (.inr (.inr (.inr (fun _ => none))))))] H := hP
      have hD : va_D A [(b, .inr (0, [.ref d0, .ref p0, .null])), (d0, .inl (cD, 0, .inr (.inr (.inr (.inr (fun _ => none)))))), (p0, .inl (cP, 0, .inr (.inr (.inr (.inr (fun _ => none)))))), (q 1, .inl (cB, 3, .inr (.inr (.inr (.inr (fun _ => none)))))), (q 2, .inl (cU, 3, .inl (fun _ => 0))), (x, .inr (9, gF q 0 0 0 (-1) b 0 0)), (q 0, .inl (cT, 900, .inl (fun _ => 0))), (q 3, .inr (6, rF r 0 (-1) 0 0 0 0 0 0)), (q_8, .inl (c_9, 0, .inr (.inr (.inr (.inr (fun _ => none))))))] := hD
      have hK : va_K (dC, dI) vwCl [(cT, .int), (cD, .object "PatternGate$Doc"), (cP, .object "PatternGate$Pattern"), (cB, .object "PatternGate$Book"), (cU, .int), (c_9, .object "PatternGate$Doc")] s := hK
      refine W.widen (k := 1) (n := 0) (by omega) (by omega) ?_
      refine lv_iconst (v := 0) hx hb dX9_load_41 (by decide) ?_
      refine va_newq (C := "PatternGate$Pattern") (n := 0) (N' := 0) hx hb hown (hts (.classLink RX9 24 RX5) (List.mem_of_getElem? (i := 36) (by decide +kernel))) hAO5 hK hP hD hS hA (by decide) (by decide) (Nat.le_of_ble_eq_true rfl) (Nat.le_of_ble_eq_true rfl) (Nat.le_of_ble_eq_true rfl) dX9_load_42 (fun q_10 c_11 H hK hP hD hS => ?_)
      have hP : va_P (dC, dI) vwCl [(b, .inr (0, [.ref d0, .ref p0, .null])), (d0, .inl (cD, 0, .inr (.inr (.inr (.inr (fun _ => none)))))), (p0, .inl (cP, 0, .inr (.inr (.inr (.inr (fun _ => none)))))), (q 1, .inl (cB, 3, .inr (.inr (.inr (.inr (fun _ => none)))))), (q 2, .inl (cU, 3, .inl (fun _ => 0))), (x, .inr (9, gF q 0 0 0 (-1) b 0 0)), (q 0, .inl (cT, 900, .inl (fun _ => 0))), (q 3, .inr (6, rF r 0 (-1) 0 0 0 0 0 0)), (q_8, .inl (c_9, 0, .inr (.inr (.inr (.inr (fun _ => none)))))), (q_10, .inl (c_11, 0, .inr (.inr (.inr (.inr (fun _ => none))))))] H := hP
      have hD : va_D A [(b, .inr (0, [.ref d0, .ref p0, .null])), (d0, .inl (cD, 0, .inr (.inr (.inr (.inr (fun _ => none)))))), (p0, .inl (cP, 0, .inr (.inr (.inr (.inr (fun _ => none)))))), (q 1, .inl (cB, 3, .inr (.inr (.inr (.inr (fun _ => none)))))), (q 2, .inl (cU, 3, .inl (fun _ => 0))), (x, .inr (9, gF q 0 0 0 (-1) b 0 0)), (q 0, .inl (cT, 900, .inl (fun _ => 0))), (q 3, .inr (6, rF r 0 (-1) 0 0 0 0 0 0)), (q_8, .inl (c_9, 0, .inr (.inr (.inr (.inr (fun _ => none)))))), (q_10, .inl (c_11, 0, .inr (.inr (.inr (.inr (fun _ => none))))))] := hD
      have hK : va_K (dC, dI) vwCl [(cT, .int), (cD, .object "PatternGate$Doc"), (cP, .object "PatternGate$Pattern"), (cB, .object "PatternGate$Book"), (cU, .int), (c_9, .object "PatternGate$Doc"), (c_11, .object "PatternGate$Pattern")] s := hK
      refine W.widen (k := 2) (n := 0) (by omega) (by omega) ?_
      have hPc := hP.sub (ws' := [(x, .inr (9, gF q 0 0 0 (-1) b 0 0)), (q 3, .inr (6, rF r 0 (-1) 0 0 0 0 0 0)), (q_8, .inl (c_9, 0, .inr (.inr (.inr (.inr (fun _ => none)))))), (q_10, .inl (c_11, 0, .inr (.inr (.inr (.inr (fun _ => none))))))]) [5, 7, 8, 9] rfl
      have hKc := hK.sub (tys' := [(c_9, .object "PatternGate$Doc"), (c_11, .object "PatternGate$Pattern")]) [5, 6] rfl
      have hDc := hD.sub (ws' := [(x, .inr (9, gF q 0 0 0 (-1) b 0 0)), (q 3, .inr (6, rF r 0 (-1) 0 0 0 0 0 0)), (q_8, .inl (c_9, 0, .inr (.inr (.inr (.inr (fun _ => none)))))), (q_10, .inl (c_11, 0, .inr (.inr (.inr (.inr (fun _ => none))))))]) [5, 7, 8, 9] (by decide) rfl
      have hFc := va_free (wc := [(x, .inr (9, gF q 0 0 0 (-1) b 0 0)), (q 3, .inr (6, rF r 0 (-1) 0 0 0 0 0 0)), (q_8, .inl (c_9, 0, .inr (.inr (.inr (.inr (fun _ => none)))))), (q_10, .inl (c_11, 0, .inr (.inr (.inr (.inr (fun _ => none))))))]) hD hS hA [5, 7, 8, 9] rfl
      refine va_callr (va_runV (As := [.ref q_8, .ref q_10]) (rest := [.ref x]) ⟨hx, hb, hml, hown, hts⟩ (c_bookBehind l dC dI x q 0 0 0 (-1) b 0 0 r 0 (-1) 0 0 0 q_8 q_10 c_9 c_11 (fun _ => none) (fun _ => none) H.size) (cwV 2 hts mg_X9_load_X9_bookBehind_88 rfl rfl rfl (by decide +kernel) ⟨Nat.le_of_ble_eq_true rfl, Nat.le_of_ble_eq_true rfl⟩) ⟨fun a U g mk q => by obtain ⟨q0, q1, qP, qK, qD, qE0, qE1⟩ := q; exact ⟨q0, q1, qP, va_K.moved (u := U) (U := U.calling g mk a) (Vm.Alike.refl U.vm) qK, qD, va_AO.moved (u := U) (U := U.calling g mk a) (Vm.Alike.refl U.vm) qE0, va_AO.moved (u := U) (U := U.calling g mk a) (Vm.Alike.refl U.vm) qE1⟩, va_recv hKc hPc (ci := 9) (q0 := 0) rfl rfl, fun U hU hW => ⟨rfl, by rw [hU], by rw [hU]; exact hPc, va_K.moved hW.alike hKc, hDc.weaken (fun _ _ _ _ => trivial), va_AO.moved hW.alike hAO2, va_AO.moved hW.alike hAO5⟩⟩ rfl rfl hl.1 rfl (lv_room (Nat.le_of_ble_eq_true rfl)) dX9_load_45 ⟨Nat.le_of_ble_eq_true rfl, Nat.le_of_ble_eq_true rfl⟩) hS (fun q _ h => hFc q h) hFc (fun u r_13 t H1 locs ht hvm hw hB hz1 hk1 hS => ?_)
      obtain ⟨d_14, p_15, c_16, c_17, f_18, f_19, hP1, hK1, hD1⟩ := hB
      rw [ht] at hP1
      have hK1 := va_K.moved hvm.symm hK1
      obtain ⟨hP, hD⟩ := va_join (wr := [(b, .inr (0, [.ref d0, .ref p0, .null])), (d0, .inl (cD, 0, .inr (.inr (.inr (.inr (fun _ => none)))))), (p0, .inl (cP, 0, .inr (.inr (.inr (.inr (fun _ => none)))))), (q 1, .inl (cB, 3, .inr (.inr (.inr (.inr (fun _ => none)))))), (q 2, .inl (cU, 3, .inl (fun _ => 0))), (q 0, .inl (cT, 900, .inl (fun _ => 0)))]) (w1 := [(x, .inr (9, gF q 0 0 0 (-1) b 0 0)), (q 3, .inr (6, rF r 0 (-1) 0 0 0 0 0 0)), (q_8, .inl (c_9, 0, .inr (.inr (.inr (.inr (fun _ => none)))))), (q_10, .inl (c_11, 0, .inr (.inr (.inr (.inr (fun _ => none)))))), (d_14, .inl (c_16, 0, .inr (.inr (.inr (.inr f_18))))), (p_15, .inl (c_17, 0, .inr (.inr (.inr (.inr f_19))))), (r_13, .inr (0, [.ref d_14, .ref p_15, .ref b]))]) hP hD [5, 7, 8, 9] [0, 1, 2, 3, 4, 6] rfl rfl (by decide) (by decide) hk1 hFc hP1 hD1
      generalize H1 = H at hP hS ⊢
      have hP : va_P (dC, dI) vwCl [(b, .inr (0, [.ref d0, .ref p0, .null])), (d0, .inl (cD, 0, .inr (.inr (.inr (.inr (fun _ => none)))))), (p0, .inl (cP, 0, .inr (.inr (.inr (.inr (fun _ => none)))))), (q 1, .inl (cB, 3, .inr (.inr (.inr (.inr (fun _ => none)))))), (q 2, .inl (cU, 3, .inl (fun _ => 0))), (q 0, .inl (cT, 900, .inl (fun _ => 0))), (x, .inr (9, gF q 0 0 0 (-1) b 0 0)), (q 3, .inr (6, rF r 0 (-1) 0 0 0 0 0 0)), (q_8, .inl (c_9, 0, .inr (.inr (.inr (.inr (fun _ => none)))))), (q_10, .inl (c_11, 0, .inr (.inr (.inr (.inr (fun _ => none)))))), (d_14, .inl (c_16, 0, .inr (.inr (.inr (.inr f_18))))), (p_15, .inl (c_17, 0, .inr (.inr (.inr (.inr f_19))))), (r_13, .inr (0, [.ref d_14, .ref p_15, .ref b]))] H := hP
      have hD : va_D A [(b, .inr (0, [.ref d0, .ref p0, .null])), (d0, .inl (cD, 0, .inr (.inr (.inr (.inr (fun _ => none)))))), (p0, .inl (cP, 0, .inr (.inr (.inr (.inr (fun _ => none)))))), (q 1, .inl (cB, 3, .inr (.inr (.inr (.inr (fun _ => none)))))), (q 2, .inl (cU, 3, .inl (fun _ => 0))), (q 0, .inl (cT, 900, .inl (fun _ => 0))), (x, .inr (9, gF q 0 0 0 (-1) b 0 0)), (q 3, .inr (6, rF r 0 (-1) 0 0 0 0 0 0)), (q_8, .inl (c_9, 0, .inr (.inr (.inr (.inr (fun _ => none)))))), (q_10, .inl (c_11, 0, .inr (.inr (.inr (.inr (fun _ => none)))))), (d_14, .inl (c_16, 0, .inr (.inr (.inr (.inr f_18))))), (p_15, .inl (c_17, 0, .inr (.inr (.inr (.inr f_19))))), (r_13, .inr (0, [.ref d_14, .ref p_15, .ref b]))] := hD
      have hK := (hK.sub (tys' := [(cT, .int), (cD, .object "PatternGate$Doc"), (cP, .object "PatternGate$Pattern"), (cB, .object "PatternGate$Book"), (cU, .int)]) [0, 1, 2, 3, 4] rfl).app hK1
      have hK : va_K (dC, dI) vwCl [(cT, .int), (cD, .object "PatternGate$Doc"), (cP, .object "PatternGate$Pattern"), (cB, .object "PatternGate$Book"), (cU, .int), (c_9, .object "PatternGate$Doc"), (c_11, .object "PatternGate$Pattern"), (c_16, .object "PatternGate$Doc"), (c_17, .object "PatternGate$Pattern")] s := hK
      refine W.widen (k := 5) (n := 3) (by omega) (by omega) ?_
      have hPc := hP.sub (ws' := [(x, .inr (9, gF q 0 0 0 (-1) b 0 0))]) [6] rfl
      have hKc := hK.sub (tys' := []) [] rfl
      have hDc := hD.sub (ws' := [(x, .inr (9, gF q 0 0 0 (-1) b 0 0))]) [6] (by decide) rfl
      have hFc := va_free (wc := [(x, .inr (9, gF q 0 0 0 (-1) b 0 0))]) hD hS hA [6] rfl
      refine va_callv (va_runV (As := [.ref r_13]) (rest := []) ⟨hx, hb, hml, hown, hts⟩ (c_act l dC dI x q 0 0 0 (-1) b 0 H.size r_13) (cwV 1 hts mg_X9_load_X9_act_92 rfl rfl rfl (by decide +kernel) ⟨Nat.le_of_ble_eq_true rfl, Nat.le_of_ble_eq_true rfl⟩) ⟨fun a U g mk q => by obtain ⟨q0, q1, qP, qK, qD⟩ := q; exact ⟨q0, q1, qP, va_K.moved (u := U) (U := U.calling g mk a) (Vm.Alike.refl U.vm) qK, qD⟩, va_recv hKc hPc (ci := 9) (q0 := 0) rfl rfl, fun U hU hW => ⟨rfl, by rw [hU], by rw [hU]; exact hPc, va_K.moved hW.alike hKc, hDc.weaken (fun _ _ _ _ => trivial)⟩⟩ rfl rfl hl.1 rfl (lv_room (Nat.le_of_ble_eq_true rfl)) dX9_load_48 ⟨Nat.le_of_ble_eq_true rfl, Nat.le_of_ble_eq_true rfl⟩) hS (fun q _ h => hFc q h) hFc (fun u t H1 locs ht hvm hw hB hz1 hk1 hS => ?_)
      obtain ⟨hP1, hK1, hD1⟩ := hB
      rw [ht] at hP1
      obtain ⟨hP, hD⟩ := va_join (wr := [(b, .inr (0, [.ref d0, .ref p0, .null])), (d0, .inl (cD, 0, .inr (.inr (.inr (.inr (fun _ => none)))))), (p0, .inl (cP, 0, .inr (.inr (.inr (.inr (fun _ => none)))))), (q 1, .inl (cB, 3, .inr (.inr (.inr (.inr (fun _ => none)))))), (q 2, .inl (cU, 3, .inl (fun _ => 0))), (q 0, .inl (cT, 900, .inl (fun _ => 0))), (q 3, .inr (6, rF r 0 (-1) 0 0 0 0 0 0)), (q_8, .inl (c_9, 0, .inr (.inr (.inr (.inr (fun _ => none)))))), (q_10, .inl (c_11, 0, .inr (.inr (.inr (.inr (fun _ => none)))))), (d_14, .inl (c_16, 0, .inr (.inr (.inr (.inr f_18))))), (p_15, .inl (c_17, 0, .inr (.inr (.inr (.inr f_19))))), (r_13, .inr (0, [.ref d_14, .ref p_15, .ref b]))]) (w1 := [(x, .inr (9, gF q 0 0 0 (-1) r_13 1 0))]) hP hD [6] [0, 1, 2, 3, 4, 5, 7, 8, 9, 10, 11, 12] rfl rfl (by decide) (by decide) hk1 hFc hP1 hD1
      generalize H1 = H at hP hS ⊢
      have hP : va_P (dC, dI) vwCl [(b, .inr (0, [.ref d0, .ref p0, .null])), (d0, .inl (cD, 0, .inr (.inr (.inr (.inr (fun _ => none)))))), (p0, .inl (cP, 0, .inr (.inr (.inr (.inr (fun _ => none)))))), (q 1, .inl (cB, 3, .inr (.inr (.inr (.inr (fun _ => none)))))), (q 2, .inl (cU, 3, .inl (fun _ => 0))), (q 0, .inl (cT, 900, .inl (fun _ => 0))), (q 3, .inr (6, rF r 0 (-1) 0 0 0 0 0 0)), (q_8, .inl (c_9, 0, .inr (.inr (.inr (.inr (fun _ => none)))))), (q_10, .inl (c_11, 0, .inr (.inr (.inr (.inr (fun _ => none)))))), (d_14, .inl (c_16, 0, .inr (.inr (.inr (.inr f_18))))), (p_15, .inl (c_17, 0, .inr (.inr (.inr (.inr f_19))))), (r_13, .inr (0, [.ref d_14, .ref p_15, .ref b])), (x, .inr (9, gF q 0 0 0 (-1) r_13 1 0))] H := hP
      have hD : va_D A [(b, .inr (0, [.ref d0, .ref p0, .null])), (d0, .inl (cD, 0, .inr (.inr (.inr (.inr (fun _ => none)))))), (p0, .inl (cP, 0, .inr (.inr (.inr (.inr (fun _ => none)))))), (q 1, .inl (cB, 3, .inr (.inr (.inr (.inr (fun _ => none)))))), (q 2, .inl (cU, 3, .inl (fun _ => 0))), (q 0, .inl (cT, 900, .inl (fun _ => 0))), (q 3, .inr (6, rF r 0 (-1) 0 0 0 0 0 0)), (q_8, .inl (c_9, 0, .inr (.inr (.inr (.inr (fun _ => none)))))), (q_10, .inl (c_11, 0, .inr (.inr (.inr (.inr (fun _ => none)))))), (d_14, .inl (c_16, 0, .inr (.inr (.inr (.inr f_18))))), (p_15, .inl (c_17, 0, .inr (.inr (.inr (.inr f_19))))), (r_13, .inr (0, [.ref d_14, .ref p_15, .ref b])), (x, .inr (9, gF q 0 0 0 (-1) r_13 1 0))] := hD
      refine lv_aload_n hx hb dX9_load_51 rfl (lv_at hl 0 rfl) ?_
      refine lv_aload_n hx hb dX9_load_52 rfl (lv_at hl 0 rfl) ?_
      refine va_get (D := (dC, dI)) (ci := 9) (v := .ref r_13) (C := RX9) (T := TX9) (N := 16) hx hb hts fin_X9_load_X9 hown hK hP 12 rfl rfl 5 (by decide) (hts (.fieldLink RX9 29 "PatternGate" "book" "LPatternGate$Book;") (List.mem_of_getElem? (i := 48) (by decide +kernel))) (fun _ h9 => h9) rfl dX9_load_53 ?_
      refine va_get (D := (dC, dI)) (ci := 0) (v := .ref d_14) (C := RX0) (T := TX0) (N := 3) hx hb hts fin_X9_load_X0 hown hK hP 11 rfl rfl 0 (by decide) (hts (.fieldLink RX9 96 "PatternGate$Book" "docs" "[LPatternGate$Doc;") (List.mem_of_getElem? (i := 67) (by decide +kernel))) (fun _ h9 => h9) rfl dX9_load_56 ?_
      refine va_alen (v := 0) hx hb hK hP 9 7 rfl rfl rfl dX9_load_59 ?_
      have hPc := hP.sub (ws' := [(x, .inr (9, gF q 0 0 0 (-1) r_13 1 0))]) [12] rfl
      have hKc := hK.sub (tys' := []) [] rfl
      have hDc := hD.sub (ws' := [(x, .inr (9, gF q 0 0 0 (-1) r_13 1 0))]) [12] (by decide) rfl
      have hFc := va_free (wc := [(x, .inr (9, gF q 0 0 0 (-1) r_13 1 0))]) hD hS hA [12] rfl
      refine va_calli (va_runV (As := [.int 0]) (rest := []) ⟨hx, hb, hml, hown, hts⟩ (c_answer l dC dI x q 0 0 0 (-1) r_13 1 0 H.size 0) (cwV 1 hts mg_X9_load_X9_answer_100 rfl rfl rfl (by decide +kernel) ⟨Nat.le_of_ble_eq_true rfl, Nat.le_of_ble_eq_true rfl⟩) ⟨fun a U g mk q => by obtain ⟨q0, q1, qP, qK, qD⟩ := q; exact ⟨q0, q1, qP, va_K.moved (u := U) (U := U.calling g mk a) (Vm.Alike.refl U.vm) qK, qD⟩, va_recv hKc hPc (ci := 9) (q0 := 0) rfl rfl, fun U hU hW => ⟨rfl, by rw [hU], by rw [hU]; exact hPc, va_K.moved hW.alike hKc, hDc.weaken (fun _ _ _ _ => trivial)⟩⟩ rfl rfl hl.1 rfl (lv_room (Nat.le_of_ble_eq_true rfl)) dX9_load_60 ⟨Nat.le_of_ble_eq_true rfl, Nat.le_of_ble_eq_true rfl⟩) hS (fun q _ h => hFc q h) hFc (fun r_23 u t H1 locs ht hvm hw hB hz1 hk1 hS => ?_)
      refine W.widen (k := 5) (n := 3) (by omega) (by omega) ?_
      exact W.iret hx hb hr (fun t ht hW => ⟨⟨_, (), rfl, (hw.trans rfl), trivial⟩, hS.F ht⟩) hS.2.2 dX9_load_63
    · refine lv_aload_n hx hb dX9_load_12 rfl (lv_at hl 0 rfl) ?_
      refine lv_iconst (v := 1) hx hb dX9_load_13 (by decide) ?_
      have hPc := hP.sub (ws' := [(x, .inr (9, gF q 0 0 (-1) (-1) b 0 0))]) [0] rfl
      have hKc := hK.sub (tys' := []) [] rfl
      have hDc := hD.sub (ws' := [(x, .inr (9, gF q 0 0 (-1) (-1) b 0 0))]) [0] (by decide) rfl
      have hFc := va_free (wc := [(x, .inr (9, gF q 0 0 (-1) (-1) b 0 0))]) hD hS hA [0] rfl
      refine va_calli (va_runV (As := [.int 1]) (rest := []) ⟨hx, hb, hml, hown, hts⟩ (c_refuse l dC dI x q 0 0 (-1) (-1) b 0 0 H.size 1) (cwV 1 hts mg_X9_load_X9_refuse_80 rfl rfl rfl (by decide +kernel) ⟨Nat.le_of_ble_eq_true rfl, Nat.le_of_ble_eq_true rfl⟩) ⟨fun a U g mk q => by obtain ⟨q0, q1, qP, qK, qD⟩ := q; exact ⟨q0, q1, qP, va_K.moved (u := U) (U := U.calling g mk a) (Vm.Alike.refl U.vm) qK, qD⟩, va_recv hKc hPc (ci := 9) (q0 := 0) rfl rfl, fun U hU hW => ⟨rfl, by rw [hU], by rw [hU]; exact hPc, va_K.moved hW.alike hKc, hDc.weaken (fun _ _ _ _ => trivial)⟩⟩ rfl rfl hl.1 rfl (lv_room (Nat.le_of_ble_eq_true rfl)) dX9_load_14 ⟨Nat.le_of_ble_eq_true rfl, Nat.le_of_ble_eq_true rfl⟩) hS (fun q _ h => hFc q h) hFc (fun r_25 u t H1 locs ht hvm hw hB hz1 hk1 hS => ?_)
      refine W.widen (k := 5) (n := 3) (by omega) (by omega) ?_
      exact W.iret hx hb hr (fun t ht hW => ⟨⟨_, (), rfl, (hw.trans (s_load_gt k_4).symm), trivial⟩, hS.F ht⟩) hS.2.2 dX9_load_17
theorem dX9_more_0 : decode cX9_more 0 = .ok (.iload_n 1, 1) := by decide +kernel
theorem dX9_more_1 : decode cX9_more 1 = .ok (.ifCond .lt 11, 3) := by decide +kernel
theorem dX9_more_4 : decode cX9_more 4 = .ok (.iload_n 1, 1) := by decide +kernel
theorem dX9_more_5 : decode cX9_more 5 = .ok (.aload_n 0, 1) := by decide +kernel
theorem dX9_more_6 : decode cX9_more 6 = .ok (.getfield 73, 3) := by decide +kernel
theorem dX9_more_9 : decode cX9_more 9 = .ok (.if_icmp .le 9, 3) := by decide +kernel
theorem dX9_more_12 : decode cX9_more 12 = .ok (.aload_n 0, 1) := by decide +kernel
theorem dX9_more_13 : decode cX9_more 13 = .ok (.iconst 1, 1) := by decide +kernel
theorem dX9_more_14 : decode cX9_more 14 = .ok (.invokevirtual 80, 3) := by decide +kernel
theorem dX9_more_17 : decode cX9_more 17 = .ok (.ireturn, 1) := by decide +kernel
theorem dX9_more_18 : decode cX9_more 18 = .ok (.aload_n 0, 1) := by decide +kernel
theorem dX9_more_19 : decode cX9_more 19 = .ok (.iload_n 1, 1) := by decide +kernel
theorem dX9_more_20 : decode cX9_more 20 = .ok (.aload_n 0, 1) := by decide +kernel
theorem dX9_more_21 : decode cX9_more 21 = .ok (.getfield 29, 3) := by decide +kernel
theorem dX9_more_24 : decode cX9_more 24 = .ok (.getfield 96, 3) := by decide +kernel
theorem dX9_more_27 : decode cX9_more 27 = .ok (.arraylength, 1) := by decide +kernel
theorem dX9_more_28 : decode cX9_more 28 = .ok (.aload_n 0, 1) := by decide +kernel
theorem dX9_more_29 : decode cX9_more 29 = .ok (.getfield 29, 3) := by decide +kernel
theorem dX9_more_32 : decode cX9_more 32 = .ok (.getfield 103, 3) := by decide +kernel
theorem dX9_more_35 : decode cX9_more 35 = .ok (.arraylength, 1) := by decide +kernel
theorem dX9_more_36 : decode cX9_more 36 = .ok (.invokevirtual 84, 3) := by decide +kernel
theorem dX9_more_39 : decode cX9_more 39 = .ok (.ifCond .ne 10, 3) := by decide +kernel
theorem dX9_more_49 : decode cX9_more 49 = .ok (.aload_n 0, 1) := by decide +kernel
theorem dX9_more_50 : decode cX9_more 50 = .ok (.aload_n 0, 1) := by decide +kernel
theorem dX9_more_51 : decode cX9_more 51 = .ok (.aload_n 0, 1) := by decide +kernel
theorem dX9_more_52 : decode cX9_more 52 = .ok (.getfield 29, 3) := by decide +kernel
theorem dX9_more_55 : decode cX9_more 55 = .ok (.getfield 96, 3) := by decide +kernel
theorem dX9_more_58 : decode cX9_more 58 = .ok (.aload_n 0, 1) := by decide +kernel
theorem dX9_more_59 : decode cX9_more 59 = .ok (.getfield 29, 3) := by decide +kernel
theorem dX9_more_62 : decode cX9_more 62 = .ok (.getfield 103, 3) := by decide +kernel
theorem dX9_more_65 : decode cX9_more 65 = .ok (.invokevirtual 88, 3) := by decide +kernel
theorem dX9_more_68 : decode cX9_more 68 = .ok (.invokevirtual 92, 3) := by decide +kernel
theorem dX9_more_71 : decode cX9_more 71 = .ok (.aload_n 0, 1) := by decide +kernel
theorem dX9_more_72 : decode cX9_more 72 = .ok (.aload_n 0, 1) := by decide +kernel
theorem dX9_more_73 : decode cX9_more 73 = .ok (.getfield 43, 3) := by decide +kernel
theorem dX9_more_76 : decode cX9_more 76 = .ok (.getfield 107, 3) := by decide +kernel
theorem dX9_more_79 : decode cX9_more 79 = .ok (.invokevirtual 100, 3) := by decide +kernel
theorem dX9_more_82 : decode cX9_more 82 = .ok (.ireturn, 1) := by decide +kernel
def mwX9_more : List Cond := .code yX9_more cX9_more 2 (some .int) :: ([.code yX9_refuse cX9_refuse 2 (some .int), .fieldLink RX9 70 "PatternGate" "lastStatus" "I", .methodLink RX9 80 yX9_refuse, .instanceMethod yX9_refuse, .selects RX9 yX9_refuse yX9_refuse, .initialized RX9, .fieldLink RX9 73 "PatternGate" "taped" "I", .fieldLink RX9 29 "PatternGate" "book" "LPatternGate$Book;", .fieldLink RX9 96 "PatternGate$Book" "docs" "[LPatternGate$Doc;", .fieldLink RX9 103 "PatternGate$Book" "patterns" "[LPatternGate$Pattern;", .code yX9_readTape cX9_readTape 5 (some .boolean), .fieldLink RX9 43 "PatternGate" "reader" "LPatternGate$Reader;", .fieldLink RX9 9 "PatternGate" "tape" "[I", .code yX6_read cX6_read 8 (some .boolean), .fieldLink RX6 22 "PatternGate$Reader" "faultKind" "I", .fieldLink RX6 26 "PatternGate$Reader" "faultPlace" "I", .fieldLink RX6 29 "PatternGate$Reader" "lines" "I", .fieldLink RX6 32 "PatternGate$Reader" "newDocs" "I", .fieldLink RX6 35 "PatternGate$Reader" "newPatterns" "I", .fieldLink RX6 38 "PatternGate$Reader" "docsAhead" "I", .fieldLink RX6 41 "PatternGate$Reader" "patternsAhead" "I", .fieldLink RX6 44 "PatternGate$Reader" "wanted" "I", .methodLink RX6 47 Lib.Math.min.name, .static Lib.Math.min.name, .initialized "java/lang/Math", .code Lib.Math.min.name Lib.Math.min.code 2 (some .int), .methodLink RX9 293 yX6_read, .instanceMethod yX6_read, .selects RX6 yX6_read yX6_read, .initialized RX6, .fieldLink RX9 297 "PatternGate$Reader" "faultKind" "I", .fieldLink RX9 13 "PatternGate" "faultKind" "I", .fieldLink RX9 298 "PatternGate$Reader" "faultPlace" "I", .fieldLink RX9 17 "PatternGate" "faultPlace" "I", .methodLink RX9 84 yX9_readTape, .instanceMethod yX9_readTape, .selects RX9 yX9_readTape yX9_readTape, .code yX9_bookBehind cX9_bookBehind 10 (some (.object "PatternGate$Book")), .fieldLink RX9 299 "PatternGate$Reader" "newDocs" "I", .classLink RX9 22 RX2, .fieldLink RX9 302 "PatternGate$Reader" "newPatterns" "I", .classLink RX9 24 RX5, .methodLink RX9 255 arraycopyName, .native arraycopyName, .static arraycopyName, .initialized "java/lang/System", .fieldLink RX9 107 "PatternGate$Reader" "lines" "I", .classLink RX9 20 RX0, .instantiable RX0 3, .initialized RX0, .code yX0_init cX0_init 4 none, .methodLink RX0 1 objectInit, .instanceMethod objectInit, .code objectInit ⟨#[0xb1]⟩ 1 none, .fieldLink RX0 7 "PatternGate$Book" "docs" "[LPatternGate$Doc;", .fieldLink RX0 13 "PatternGate$Book" "patterns" "[LPatternGate$Pattern;", .fieldLink RX0 17 "PatternGate$Book" "earlier" "LPatternGate$Book;", .methodLink RX9 26 yX0_init, .instanceMethod yX0_init, .methodLink RX9 88 yX9_bookBehind, .instanceMethod yX9_bookBehind, .selects RX9 yX9_bookBehind yX9_bookBehind, .code yX9_act cX9_act 2 none, .fieldLink RX9 117 "PatternGate" "undoable" "I", .methodLink RX9 323 Lib.Math.min.name, .methodLink RX9 92 yX9_act, .instanceMethod yX9_act, .selects RX9 yX9_act yX9_act, .code yX9_answer cX9_answer 2 (some .int), .methodLink RX9 100 yX9_answer, .instanceMethod yX9_answer, .selects RX9 yX9_answer yX9_answer] ++ wsX90 ++ wsX00 ++ wsX60)
theorem fin_X9_more_X0 : ∀ w ∈ wsX00, w ∈ mwX9_more := fun w h => List.mem_cons_of_mem _ (List.mem_append_left _ (List.mem_append_right _ h))
theorem fin_X9_more_X6 : ∀ w ∈ wsX60, w ∈ mwX9_more := fun w h => List.mem_cons_of_mem _ (List.mem_append_right _ h)
theorem fin_X9_more_X9 : ∀ w ∈ wsX90, w ∈ mwX9_more := fun w h => List.mem_cons_of_mem _ (List.mem_append_left _ (List.mem_append_left _ (List.mem_append_right _ h)))
set_option maxRecDepth 20000 in
theorem mg_X9_more_X9_refuse_80 : GoodIn mwX9_more (wsV RX9 80 RX9 yX9_refuse mwX9_refuse) := goodIn_r _ [3, 4, 5, 6, 1, 2, 73, 74, 75, 76, 77, 78, 79, 80, 81, 82, 83, 84, 85, 86, 87, 88] (by decide +kernel) (by decide +kernel)
set_option maxRecDepth 20000 in
theorem mg_X9_more_X9_readTape_84 : GoodIn mwX9_more (wsV RX9 84 RX9 yX9_readTape mwX9_readTape) := goodIn_r _ [35, 36, 37, 6, 11, 12, 13, 14, 15, 16, 17, 18, 19, 20, 21, 22, 23, 24, 25, 26, 27, 28, 29, 30, 31, 32, 33, 34, 7, 73, 74, 75, 76, 77, 78, 79, 80, 81, 82, 83, 84, 85, 86, 87, 88, 92, 93, 94, 95, 96, 97, 98, 99, 100, 101, 102] (by decide +kernel) (by decide +kernel)
set_option maxRecDepth 20000 in
theorem mg_X9_more_X9_bookBehind_88 : GoodIn mwX9_more (wsV RX9 88 RX9 yX9_bookBehind mwX9_bookBehind) := goodIn_r _ [60, 61, 62, 6, 38, 12, 39, 40, 41, 42, 43, 44, 45, 46, 47, 48, 49, 50, 8, 51, 52, 53, 54, 55, 56, 57, 58, 59, 73, 74, 75, 76, 77, 78, 79, 80, 81, 82, 83, 84, 85, 86, 87, 88, 92, 93, 94, 95, 96, 97, 98, 99, 100, 101, 102, 89, 90, 91] (by decide +kernel) (by decide +kernel)
set_option maxRecDepth 20000 in
theorem mg_X9_more_X9_act_92 : GoodIn mwX9_more (wsV RX9 92 RX9 yX9_act mwX9_act) := goodIn_r _ [66, 67, 68, 6, 63, 8, 64, 65, 24, 25, 26, 73, 74, 75, 76, 77, 78, 79, 80, 81, 82, 83, 84, 85, 86, 87, 88] (by decide +kernel) (by decide +kernel)
set_option maxRecDepth 20000 in
theorem mg_X9_more_X9_answer_100 : GoodIn mwX9_more (wsV RX9 100 RX9 yX9_answer mwX9_answer) := goodIn_r _ [70, 71, 72, 6, 69, 2, 73, 74, 75, 76, 77, 78, 79, 80, 81, 82, 83, 84, 85, 86, 87, 88] (by decide +kernel) (by decide +kernel)
set_option maxHeartbeats 4000000 in
set_option maxRecDepth 100000 in
/-- more on a new object -/
theorem c_more (l : Launch) (dC : Nat → ClassId) (dI : Nat → Nat → Nat) (x : Nat) (q : Nat → Nat) (b d0 p0 : Nat) (cT cD cP cB cU : ClassId) (r : Nat → Nat) (sz : Nat) (i0 : Int32) : Met l yX9_more mwX9_more ({ frames := 3, cells := 3, slots := 3, locals := 180 }) (va_Pc [.ref x, .int i0] (fun U => U.heap.size = sz ∧ va_P (dC, dI) vwCl (gW x q b d0 p0 cT cD cP cB cU r) U.heap ∧ va_K (dC, dI) vwCl (gT cT cD cP cB cU) U ∧ va_D (fun _ => True) (gW x q b d0 p0 cT cD cP cB cU r) ∧ va_AO "PatternGate$Doc" U ∧ va_AO "PatternGate$Pattern" U)) (va_Qi (fun (o : Int32) (_ : Unit) => o = s_load i0) (fun _ _ => True) (va_A (gW x q b d0 p0 cT cD cP cB cU r) sz)) 3 3 (va_A (gW x q b d0 p0 cT cD cP cB cU r) sz) := by
  refine Met.ofW (cc := cX9_more) (maxL := 2) (ret := (some .int)) (by decide +kernel) rfl ?_
  intro p e s m args below meth c s₁ B hml hv
  obtain ⟨rfl, hsz, hP, hK, hD0, hAO2, hAO5⟩ := hv
  have hx := B.exec
  have hb := B.bytes
  have hr := B.returns
  have hts := atoms_spec (ws := mwX9_more) B.pre
  have hown : s.vm.findClass RX9 = some m.cls := findClass_of_methodNamed B.named
  have hlocks := B.notSynchronized
  subst hsz
  have hD := hD0.self (sz := s.heap.size)
  generalize hAe : va_A (gW x q b d0 p0 cT cD cP cB cU r) s.heap.size = A at hD ⊢
  have hA : ∀ q : Nat, s.heap.size ≤ q → A q := fun q h => by rw [← hAe]; exact Or.inr h
  have hP : va_P (dC, dI) vwCl [(x, .inr (9, gF q 0 0 (-1) (-1) b 0 0)), (q 0, .inl (cT, 900, .inl (fun _ => 0))), (b, .inr (0, [.ref d0, .ref p0, .null])), (d0, .inl (cD, 0, .inr (.inr (.inr (.inr (fun _ => none)))))), (p0, .inl (cP, 0, .inr (.inr (.inr (.inr (fun _ => none)))))), (q 1, .inl (cB, 3, .inr (.inr (.inr (.inr (fun _ => none)))))), (q 2, .inl (cU, 3, .inl (fun _ => 0))), (q 3, .inr (6, rF r 0 0 0 0 0 0 0 0))] s.heap := hP
  have hD : va_D A [(x, .inr (9, gF q 0 0 (-1) (-1) b 0 0)), (q 0, .inl (cT, 900, .inl (fun _ => 0))), (b, .inr (0, [.ref d0, .ref p0, .null])), (d0, .inl (cD, 0, .inr (.inr (.inr (.inr (fun _ => none)))))), (p0, .inl (cP, 0, .inr (.inr (.inr (.inr (fun _ => none)))))), (q 1, .inl (cB, 3, .inr (.inr (.inr (.inr (fun _ => none)))))), (q 2, .inl (cU, 3, .inl (fun _ => 0))), (q 3, .inr (6, rF r 0 0 0 0 0 0 0 0))] := hD
  have hK : va_K (dC, dI) vwCl [(cT, .int), (cD, .object "PatternGate$Doc"), (cP, .object "PatternGate$Pattern"), (cB, .object "PatternGate$Book"), (cU, .int)] s := hK
  generalize hH : s.heap = H at hP ⊢
  have hS : va_S A s.heap H [] := by rw [← hH]; exact va_S.rf
  have hl := lv_entry ([.ref x, .int i0]) (n := 2) (Nat.le_of_ble_eq_true rfl)
  rw [lg_entry_eq]
  generalize (lg_sl ([.ref x, .int i0]) ++ List.replicate (2 - (lg_sl ([.ref x, .int i0])).length) Slot.unset).toArray = ls at hl ⊢
  have hl : lv_has ls 2 [(0, .ref x), (1, .int i0)] := hl
  refine lv_iload_n hx hb dX9_more_0 rfl (lv_at hl 1 rfl) ?_
  refine lv_if_lt (tgt := 12) hx hb dX9_more_1 (by decide) (fun k_1 => ?_) (fun k_1 => ?_)
  · refine lv_aload_n hx hb dX9_more_12 rfl (lv_at hl 0 rfl) ?_
    refine lv_iconst (v := 1) hx hb dX9_more_13 (by decide) ?_
    have hPc := hP.sub (ws' := [(x, .inr (9, gF q 0 0 (-1) (-1) b 0 0))]) [0] rfl
    have hKc := hK.sub (tys' := []) [] rfl
    have hDc := hD.sub (ws' := [(x, .inr (9, gF q 0 0 (-1) (-1) b 0 0))]) [0] (by decide) rfl
    have hFc := va_free (wc := [(x, .inr (9, gF q 0 0 (-1) (-1) b 0 0))]) hD hS hA [0] rfl
    refine va_calli (va_runV (As := [.int 1]) (rest := []) ⟨hx, hb, hml, hown, hts⟩ (c_refuse l dC dI x q 0 0 (-1) (-1) b 0 0 H.size 1) (cwV 1 hts mg_X9_more_X9_refuse_80 rfl rfl rfl (by decide +kernel) ⟨Nat.le_of_ble_eq_true rfl, Nat.le_of_ble_eq_true rfl⟩) ⟨fun a U g mk q => by obtain ⟨q0, q1, qP, qK, qD⟩ := q; exact ⟨q0, q1, qP, va_K.moved (u := U) (U := U.calling g mk a) (Vm.Alike.refl U.vm) qK, qD⟩, va_recv hKc hPc (ci := 9) (q0 := 0) rfl rfl, fun U hU hW => ⟨rfl, by rw [hU], by rw [hU]; exact hPc, va_K.moved hW.alike hKc, hDc.weaken (fun _ _ _ _ => trivial)⟩⟩ rfl rfl hl.1 rfl (lv_room (Nat.le_of_ble_eq_true rfl)) dX9_more_14 ⟨Nat.le_of_ble_eq_true rfl, Nat.le_of_ble_eq_true rfl⟩) hS (fun q _ h => hFc q h) hFc (fun r_3 u t H1 locs ht hvm hw hB hz1 hk1 hS => ?_)
    refine W.widen (k := 3) (n := 3) (by omega) (by omega) ?_
    exact W.iret hx hb hr (fun t ht hW => ⟨⟨_, (), rfl, (hw.trans (s_load_lt k_1).symm), trivial⟩, hS.F ht⟩) hS.2.2 dX9_more_17
  · refine lv_iload_n hx hb dX9_more_4 rfl (lv_at hl 1 rfl) ?_
    refine lv_aload_n hx hb dX9_more_5 rfl (lv_at hl 0 rfl) ?_
    refine va_get (D := (dC, dI)) (ci := 9) (v := .int 0) (C := RX9) (T := TX9) (N := 16) hx hb hts fin_X9_more_X9 hown hK hP 0 rfl rfl 2 (by decide) (hts (.fieldLink RX9 73 "PatternGate" "taped" "I") (List.mem_of_getElem? (i := 7) (by decide +kernel))) (fun _ h9 => h9) rfl dX9_more_6 ?_
    refine lv_icmp_le (tgt := 18) hx hb dX9_more_9 (by decide) (fun k_4 => ?_) (fun k_4 => ?_)
    · obtain rfl : i0 = 0 := zz_le (zz_ge k_1) k_4
      refine lv_aload_n hx hb dX9_more_18 rfl (lv_at hl 0 rfl) ?_
      refine lv_iload_n hx hb dX9_more_19 rfl (lv_at hl 1 rfl) ?_
      refine lv_aload_n hx hb dX9_more_20 rfl (lv_at hl 0 rfl) ?_
      refine va_get (D := (dC, dI)) (ci := 9) (v := .ref b) (C := RX9) (T := TX9) (N := 16) hx hb hts fin_X9_more_X9 hown hK hP 0 rfl rfl 5 (by decide) (hts (.fieldLink RX9 29 "PatternGate" "book" "LPatternGate$Book;") (List.mem_of_getElem? (i := 8) (by decide +kernel))) (fun _ h9 => h9) rfl dX9_more_21 ?_
      refine va_get (D := (dC, dI)) (ci := 0) (v := .ref d0) (C := RX0) (T := TX0) (N := 3) hx hb hts fin_X9_more_X0 hown hK hP 2 rfl rfl 0 (by decide) (hts (.fieldLink RX9 96 "PatternGate$Book" "docs" "[LPatternGate$Doc;") (List.mem_of_getElem? (i := 9) (by decide +kernel))) (fun _ h9 => h9) rfl dX9_more_24 ?_
      refine va_alen (v := 0) hx hb hK hP 3 1 rfl rfl rfl dX9_more_27 ?_
      refine lv_aload_n hx hb dX9_more_28 rfl (lv_at hl 0 rfl) ?_
      refine va_get (D := (dC, dI)) (ci := 9) (v := .ref b) (C := RX9) (T := TX9) (N := 16) hx hb hts fin_X9_more_X9 hown hK hP 0 rfl rfl 5 (by decide) (hts (.fieldLink RX9 29 "PatternGate" "book" "LPatternGate$Book;") (List.mem_of_getElem? (i := 8) (by decide +kernel))) (fun _ h9 => h9) rfl dX9_more_29 ?_
      refine va_get (D := (dC, dI)) (ci := 0) (v := .ref p0) (C := RX0) (T := TX0) (N := 3) hx hb hts fin_X9_more_X0 hown hK hP 2 rfl rfl 1 (by decide) (hts (.fieldLink RX9 103 "PatternGate$Book" "patterns" "[LPatternGate$Pattern;") (List.mem_of_getElem? (i := 10) (by decide +kernel))) (fun _ h9 => h9) rfl dX9_more_32 ?_
      refine va_alen (v := 0) hx hb hK hP 4 2 rfl rfl rfl dX9_more_35 ?_
      have hPc := hP.sub (ws' := [(x, .inr (9, gF q 0 0 (-1) (-1) b 0 0)), (q 0, .inl (cT, 900, .inl (fun _ => 0))), (q 3, .inr (6, rF r 0 0 0 0 0 0 0 0))]) [0, 1, 7] rfl
      have hKc := hK.sub (tys' := [(cT, .int)]) [0] rfl
      have hDc := hD.sub (ws' := [(x, .inr (9, gF q 0 0 (-1) (-1) b 0 0)), (q 0, .inl (cT, 900, .inl (fun _ => 0))), (q 3, .inr (6, rF r 0 0 0 0 0 0 0 0))]) [0, 1, 7] (by decide) rfl
      have hFc := va_free (wc := [(x, .inr (9, gF q 0 0 (-1) (-1) b 0 0)), (q 0, .inl (cT, 900, .inl (fun _ => 0))), (q 3, .inr (6, rF r 0 0 0 0 0 0 0 0))]) hD hS hA [0, 1, 7] rfl
      refine va_calli (va_runV (As := [.int 0, .int 0, .int 0]) (rest := []) ⟨hx, hb, hml, hown, hts⟩ (c_readTape l dC dI x q 0 0 (-1) (-1) b 0 0 cT (fun _ => 0) r 0 0 0 0 0 0 0 0 H.size 0 0) (cwV 3 hts mg_X9_more_X9_readTape_84 rfl rfl rfl (by decide +kernel) ⟨Nat.le_of_ble_eq_true rfl, Nat.le_of_ble_eq_true rfl⟩) ⟨fun a U g mk q => by obtain ⟨q0, q1, qP, qK, qD⟩ := q; exact ⟨q0, q1, qP, va_K.moved (u := U) (U := U.calling g mk a) (Vm.Alike.refl U.vm) qK, qD⟩, va_recv hKc hPc (ci := 9) (q0 := 0) rfl rfl, fun U hU hW => ⟨rfl, by rw [hU], by rw [hU]; exact hPc, va_K.moved hW.alike hKc, hDc.weaken (fun _ _ _ _ => trivial)⟩⟩ rfl rfl hl.1 rfl (lv_room (Nat.le_of_ble_eq_true rfl)) dX9_more_36 ⟨Nat.le_of_ble_eq_true rfl, Nat.le_of_ble_eq_true rfl⟩) hS (fun q _ h => hFc q h) hFc (fun r_6 u t H1 locs ht hvm hw hB hz1 hk1 hS => ?_)
      obtain ⟨hP1, hK1, hD1⟩ := hB
      rw [ht] at hP1
      subst hw
      obtain ⟨hP, hD⟩ := va_join (wr := [(b, .inr (0, [.ref d0, .ref p0, .null])), (d0, .inl (cD, 0, .inr (.inr (.inr (.inr (fun _ => none)))))), (p0, .inl (cP, 0, .inr (.inr (.inr (.inr (fun _ => none)))))), (q 1, .inl (cB, 3, .inr (.inr (.inr (.inr (fun _ => none)))))), (q 2, .inl (cU, 3, .inl (fun _ => 0)))]) (w1 := [(x, .inr (9, gF q 0 0 0 (-1) b 0 0)), (q 0, .inl (cT, 900, .inl (fun _ => 0))), (q 3, .inr (6, rF r 0 (-1) 0 0 0 0 0 0))]) hP hD [0, 1, 7] [2, 3, 4, 5, 6] rfl rfl (by decide) (by decide) hk1 hFc hP1 hD1
      generalize H1 = H at hP hS ⊢
      have hP : va_P (dC, dI) vwCl [(b, .inr (0, [.ref d0, .ref p0, .null])), (d0, .inl (cD, 0, .inr (.inr (.inr (.inr (fun _ => none)))))), (p0, .inl (cP, 0, .inr (.inr (.inr (.inr (fun _ => none)))))), (q 1, .inl (cB, 3, .inr (.inr (.inr (.inr (fun _ => none)))))), (q 2, .inl (cU, 3, .inl (fun _ => 0))), (x, .inr (9, gF q 0 0 0 (-1) b 0 0)), (q 0, .inl (cT, 900, .inl (fun _ => 0))), (q 3, .inr (6, rF r 0 (-1) 0 0 0 0 0 0))] H := hP
      have hD : va_D A [(b, .inr (0, [.ref d0, .ref p0, .null])), (d0, .inl (cD, 0, .inr (.inr (.inr (.inr (fun _ => none)))))), (p0, .inl (cP, 0, .inr (.inr (.inr (.inr (fun _ => none)))))), (q 1, .inl (cB, 3, .inr (.inr (.inr (.inr (fun _ => none)))))), (q 2, .inl (cU, 3, .inl (fun _ => 0))), (x, .inr (9, gF q 0 0 0 (-1) b 0 0)), (q 0, .inl (cT, 900, .inl (fun _ => 0))), (q 3, .inr (6, rF r 0 (-1) 0 0 0 0 0 0))] := hD
      refine lv_if_ne (tgt := 49) hx hb dX9_more_39 (by decide) (fun k_7 => ?_) (fun k_7 => absurd k_7 (by decide))
      refine lv_aload_n hx hb dX9_more_49 rfl (lv_at hl 0 rfl) ?_
      refine lv_aload_n hx hb dX9_more_50 rfl (lv_at hl 0 rfl) ?_
      refine lv_aload_n hx hb dX9_more_51 rfl (lv_at hl 0 rfl) ?_
      refine va_get (D := (dC, dI)) (ci := 9) (v := .ref b) (C := RX9) (T := TX9) (N := 16) hx hb hts fin_X9_more_X9 hown hK hP 5 rfl rfl 5 (by decide) (hts (.fieldLink RX9 29 "PatternGate" "book" "LPatternGate$Book;") (List.mem_of_getElem? (i := 8) (by decide +kernel))) (fun _ h9 => h9) rfl dX9_more_52 ?_
      refine va_get (D := (dC, dI)) (ci := 0) (v := .ref d0) (C := RX0) (T := TX0) (N := 3) hx hb hts fin_X9_more_X0 hown hK hP 0 rfl rfl 0 (by decide) (hts (.fieldLink RX9 96 "PatternGate$Book" "docs" "[LPatternGate$Doc;") (List.mem_of_getElem? (i := 9) (by decide +kernel))) (fun _ h9 => h9) rfl dX9_more_55 ?_
      refine lv_aload_n hx hb dX9_more_58 rfl (lv_at hl 0 rfl) ?_
      refine va_get (D := (dC, dI)) (ci := 9) (v := .ref b) (C := RX9) (T := TX9) (N := 16) hx hb hts fin_X9_more_X9 hown hK hP 5 rfl rfl 5 (by decide) (hts (.fieldLink RX9 29 "PatternGate" "book" "LPatternGate$Book;") (List.mem_of_getElem? (i := 8) (by decide +kernel))) (fun _ h9 => h9) rfl dX9_more_59 ?_
      refine va_get (D := (dC, dI)) (ci := 0) (v := .ref p0) (C := RX0) (T := TX0) (N := 3) hx hb hts fin_X9_more_X0 hown hK hP 0 rfl rfl 1 (by decide) (hts (.fieldLink RX9 103 "PatternGate$Book" "patterns" "[LPatternGate$Pattern;") (List.mem_of_getElem? (i := 10) (by decide +kernel))) (fun _ h9 => h9) rfl dX9_more_62 ?_
      have hPc := hP.sub (ws' := [(x, .inr (9, gF q 0 0 0 (-1) b 0 0)), (q 3, .inr (6, rF r 0 (-1) 0 0 0 0 0 0)), (d0, .inl (cD, 0, .inr (.inr (.inr (.inr (fun _ => none)))))), (p0, .inl (cP, 0, .inr (.inr (.inr (.inr (fun _ => none))))))]) [5, 7, 1, 2] rfl
      have hKc := hK.sub (tys' := [(cD, .object "PatternGate$Doc"), (cP, .object "PatternGate$Pattern")]) [1, 2] rfl
      have hDc := hD.sub (ws' := [(x, .inr (9, gF q 0 0 0 (-1) b 0 0)), (q 3, .inr (6, rF r 0 (-1) 0 0 0 0 0 0)), (d0, .inl (cD, 0, .inr (.inr (.inr (.inr (fun _ => none)))))), (p0, .inl (cP, 0, .inr (.inr (.inr (.inr (fun _ => none))))))]) [5, 7, 1, 2] (by decide) rfl
      have hFc := va_free (wc := [(x, .inr (9, gF q 0 0 0 (-1) b 0 0)), (q 3, .inr (6, rF r 0 (-1) 0 0 0 0 0 0)), (d0, .inl (cD, 0, .inr (.inr (.inr (.inr (fun _ => none)))))), (p0, .inl (cP, 0, .inr (.inr (.inr (.inr (fun _ => none))))))]) hD hS hA [5, 7, 1, 2] rfl
      refine va_callr (va_runV (As := [.ref d0, .ref p0]) (rest := [.ref x]) ⟨hx, hb, hml, hown, hts⟩ (c_bookBehind l dC dI x q 0 0 0 (-1) b 0 0 r 0 (-1) 0 0 0 d0 p0 cD cP (fun _ => none) (fun _ => none) H.size) (cwV 2 hts mg_X9_more_X9_bookBehind_88 rfl rfl rfl (by decide +kernel) ⟨Nat.le_of_ble_eq_true rfl, Nat.le_of_ble_eq_true rfl⟩) ⟨fun a U g mk q => by obtain ⟨q0, q1, qP, qK, qD, qE0, qE1⟩ := q; exact ⟨q0, q1, qP, va_K.moved (u := U) (U := U.calling g mk a) (Vm.Alike.refl U.vm) qK, qD, va_AO.moved (u := U) (U := U.calling g mk a) (Vm.Alike.refl U.vm) qE0, va_AO.moved (u := U) (U := U.calling g mk a) (Vm.Alike.refl U.vm) qE1⟩, va_recv hKc hPc (ci := 9) (q0 := 0) rfl rfl, fun U hU hW => ⟨rfl, by rw [hU], by rw [hU]; exact hPc, va_K.moved hW.alike hKc, hDc.weaken (fun _ _ _ _ => trivial), va_AO.moved hW.alike hAO2, va_AO.moved hW.alike hAO5⟩⟩ rfl rfl hl.1 rfl (lv_room (Nat.le_of_ble_eq_true rfl)) dX9_more_65 ⟨Nat.le_of_ble_eq_true rfl, Nat.le_of_ble_eq_true rfl⟩) hS (fun q _ h => hFc q h) hFc (fun u r_9 t H1 locs ht hvm hw hB hz1 hk1 hS => ?_)
      obtain ⟨d_10, p_11, c_12, c_13, f_14, f_15, hP1, hK1, hD1⟩ := hB
      rw [ht] at hP1
      have hK1 := va_K.moved hvm.symm hK1
      obtain ⟨hP, hD⟩ := va_join (wr := [(b, .inr (0, [.ref d0, .ref p0, .null])), (q 1, .inl (cB, 3, .inr (.inr (.inr (.inr (fun _ => none)))))), (q 2, .inl (cU, 3, .inl (fun _ => 0))), (q 0, .inl (cT, 900, .inl (fun _ => 0)))]) (w1 := [(x, .inr (9, gF q 0 0 0 (-1) b 0 0)), (q 3, .inr (6, rF r 0 (-1) 0 0 0 0 0 0)), (d0, .inl (cD, 0, .inr (.inr (.inr (.inr (fun _ => none)))))), (p0, .inl (cP, 0, .inr (.inr (.inr (.inr (fun _ => none)))))), (d_10, .inl (c_12, 0, .inr (.inr (.inr (.inr f_14))))), (p_11, .inl (c_13, 0, .inr (.inr (.inr (.inr f_15))))), (r_9, .inr (0, [.ref d_10, .ref p_11, .ref b]))]) hP hD [5, 7, 1, 2] [0, 3, 4, 6] rfl rfl (by decide) (by decide) hk1 hFc hP1 hD1
      generalize H1 = H at hP hS ⊢
      have hP : va_P (dC, dI) vwCl [(b, .inr (0, [.ref d0, .ref p0, .null])), (q 1, .inl (cB, 3, .inr (.inr (.inr (.inr (fun _ => none)))))), (q 2, .inl (cU, 3, .inl (fun _ => 0))), (q 0, .inl (cT, 900, .inl (fun _ => 0))), (x, .inr (9, gF q 0 0 0 (-1) b 0 0)), (q 3, .inr (6, rF r 0 (-1) 0 0 0 0 0 0)), (d0, .inl (cD, 0, .inr (.inr (.inr (.inr (fun _ => none)))))), (p0, .inl (cP, 0, .inr (.inr (.inr (.inr (fun _ => none)))))), (d_10, .inl (c_12, 0, .inr (.inr (.inr (.inr f_14))))), (p_11, .inl (c_13, 0, .inr (.inr (.inr (.inr f_15))))), (r_9, .inr (0, [.ref d_10, .ref p_11, .ref b]))] H := hP
      have hD : va_D A [(b, .inr (0, [.ref d0, .ref p0, .null])), (q 1, .inl (cB, 3, .inr (.inr (.inr (.inr (fun _ => none)))))), (q 2, .inl (cU, 3, .inl (fun _ => 0))), (q 0, .inl (cT, 900, .inl (fun _ => 0))), (x, .inr (9, gF q 0 0 0 (-1) b 0 0)), (q 3, .inr (6, rF r 0 (-1) 0 0 0 0 0 0)), (d0, .inl (cD, 0, .inr (.inr (.inr (.inr (fun _ => none)))))), (p0, .inl (cP, 0, .inr (.inr (.inr (.inr (fun _ => none)))))), (d_10, .inl (c_12, 0, .inr (.inr (.inr (.inr f_14))))), (p_11, .inl (c_13, 0, .inr (.inr (.inr (.inr f_15))))), (r_9, .inr (0, [.ref d_10, .ref p_11, .ref b]))] := hD
      have hK := (hK.sub (tys' := [(cT, .int), (cB, .object "PatternGate$Book"), (cU, .int)]) [0, 3, 4] rfl).app hK1
      have hK : va_K (dC, dI) vwCl [(cT, .int), (cB, .object "PatternGate$Book"), (cU, .int), (cD, .object "PatternGate$Doc"), (cP, .object "PatternGate$Pattern"), (c_12, .object "PatternGate$Doc"), (c_13, .object "PatternGate$Pattern")] s := hK
      refine W.widen (k := 3) (n := 3) (by omega) (by omega) ?_
      have hPc := hP.sub (ws' := [(x, .inr (9, gF q 0 0 0 (-1) b 0 0))]) [4] rfl
      have hKc := hK.sub (tys' := []) [] rfl
      have hDc := hD.sub (ws' := [(x, .inr (9, gF q 0 0 0 (-1) b 0 0))]) [4] (by decide) rfl
      have hFc := va_free (wc := [(x, .inr (9, gF q 0 0 0 (-1) b 0 0))]) hD hS hA [4] rfl
      refine va_callv (va_runV (As := [.ref r_9]) (rest := []) ⟨hx, hb, hml, hown, hts⟩ (c_act l dC dI x q 0 0 0 (-1) b 0 H.size r_9) (cwV 1 hts mg_X9_more_X9_act_92 rfl rfl rfl (by decide +kernel) ⟨Nat.le_of_ble_eq_true rfl, Nat.le_of_ble_eq_true rfl⟩) ⟨fun a U g mk q => by obtain ⟨q0, q1, qP, qK, qD⟩ := q; exact ⟨q0, q1, qP, va_K.moved (u := U) (U := U.calling g mk a) (Vm.Alike.refl U.vm) qK, qD⟩, va_recv hKc hPc (ci := 9) (q0 := 0) rfl rfl, fun U hU hW => ⟨rfl, by rw [hU], by rw [hU]; exact hPc, va_K.moved hW.alike hKc, hDc.weaken (fun _ _ _ _ => trivial)⟩⟩ rfl rfl hl.1 rfl (lv_room (Nat.le_of_ble_eq_true rfl)) dX9_more_68 ⟨Nat.le_of_ble_eq_true rfl, Nat.le_of_ble_eq_true rfl⟩) hS (fun q _ h => hFc q h) hFc (fun u t H1 locs ht hvm hw hB hz1 hk1 hS => ?_)
      obtain ⟨hP1, hK1, hD1⟩ := hB
      rw [ht] at hP1
      obtain ⟨hP, hD⟩ := va_join (wr := [(b, .inr (0, [.ref d0, .ref p0, .null])), (q 1, .inl (cB, 3, .inr (.inr (.inr (.inr (fun _ => none)))))), (q 2, .inl (cU, 3, .inl (fun _ => 0))), (q 0, .inl (cT, 900, .inl (fun _ => 0))), (q 3, .inr (6, rF r 0 (-1) 0 0 0 0 0 0)), (d0, .inl (cD, 0, .inr (.inr (.inr (.inr (fun _ => none)))))), (p0, .inl (cP, 0, .inr (.inr (.inr (.inr (fun _ => none)))))), (d_10, .inl (c_12, 0, .inr (.inr (.inr (.inr f_14))))), (p_11, .inl (c_13, 0, .inr (.inr (.inr (.inr f_15))))), (r_9, .inr (0, [.ref d_10, .ref p_11, .ref b]))]) (w1 := [(x, .inr (9, gF q 0 0 0 (-1) r_9 1 0))]) hP hD [4] [0, 1, 2, 3, 5, 6, 7, 8, 9, 10] rfl rfl (by decide) (by decide) hk1 hFc hP1 hD1
      generalize H1 = H at hP hS ⊢
      have hP : va_P (dC, dI) vwCl [(b, .inr (0, [.ref d0, .ref p0, .null])), (q 1, .inl (cB, 3, .inr (.inr (.inr (.inr (fun _ => none)))))), (q 2, .inl (cU, 3, .inl (fun _ => 0))), (q 0, .inl (cT, 900, .inl (fun _ => 0))), (q 3, .inr (6, rF r 0 (-1) 0 0 0 0 0 0)), (d0, .inl (cD, 0, .inr (.inr (.inr (.inr (fun _ => none)))))), (p0, .inl (cP, 0, .inr (.inr (.inr (.inr (fun _ => none)))))), (d_10, .inl (c_12, 0, .inr (.inr (.inr (.inr f_14))))), (p_11, .inl (c_13, 0, .inr (.inr (.inr (.inr f_15))))), (r_9, .inr (0, [.ref d_10, .ref p_11, .ref b])), (x, .inr (9, gF q 0 0 0 (-1) r_9 1 0))] H := hP
      have hD : va_D A [(b, .inr (0, [.ref d0, .ref p0, .null])), (q 1, .inl (cB, 3, .inr (.inr (.inr (.inr (fun _ => none)))))), (q 2, .inl (cU, 3, .inl (fun _ => 0))), (q 0, .inl (cT, 900, .inl (fun _ => 0))), (q 3, .inr (6, rF r 0 (-1) 0 0 0 0 0 0)), (d0, .inl (cD, 0, .inr (.inr (.inr (.inr (fun _ => none)))))), (p0, .inl (cP, 0, .inr (.inr (.inr (.inr (fun _ => none)))))), (d_10, .inl (c_12, 0, .inr (.inr (.inr (.inr f_14))))), (p_11, .inl (c_13, 0, .inr (.inr (.inr (.inr f_15))))), (r_9, .inr (0, [.ref d_10, .ref p_11, .ref b])), (x, .inr (9, gF q 0 0 0 (-1) r_9 1 0))] := hD
      refine lv_aload_n hx hb dX9_more_71 rfl (lv_at hl 0 rfl) ?_
      refine lv_aload_n hx hb dX9_more_72 rfl (lv_at hl 0 rfl) ?_
      refine va_get (D := (dC, dI)) (ci := 9) (v := .ref (q 3)) (C := RX9) (T := TX9) (N := 16) hx hb hts fin_X9_more_X9 hown hK hP 10 rfl rfl 10 (by decide) (hts (.fieldLink RX9 43 "PatternGate" "reader" "LPatternGate$Reader;") (List.mem_of_getElem? (i := 12) (by decide +kernel))) (fun _ h9 => h9) rfl dX9_more_73 ?_
      refine va_get (D := (dC, dI)) (ci := 6) (v := .int 0) (C := RX6) (T := TX6) (N := 11) hx hb hts fin_X9_more_X6 hown hK hP 4 rfl rfl 2 (by decide) (hts (.fieldLink RX9 107 "PatternGate$Reader" "lines" "I") (List.mem_of_getElem? (i := 47) (by decide +kernel))) (fun _ h9 => h9) rfl dX9_more_76 ?_
      have hPc := hP.sub (ws' := [(x, .inr (9, gF q 0 0 0 (-1) r_9 1 0))]) [10] rfl
      have hKc := hK.sub (tys' := []) [] rfl
      have hDc := hD.sub (ws' := [(x, .inr (9, gF q 0 0 0 (-1) r_9 1 0))]) [10] (by decide) rfl
      have hFc := va_free (wc := [(x, .inr (9, gF q 0 0 0 (-1) r_9 1 0))]) hD hS hA [10] rfl
      refine va_calli (va_runV (As := [.int 0]) (rest := []) ⟨hx, hb, hml, hown, hts⟩ (c_answer l dC dI x q 0 0 0 (-1) r_9 1 0 H.size 0) (cwV 1 hts mg_X9_more_X9_answer_100 rfl rfl rfl (by decide +kernel) ⟨Nat.le_of_ble_eq_true rfl, Nat.le_of_ble_eq_true rfl⟩) ⟨fun a U g mk q => by obtain ⟨q0, q1, qP, qK, qD⟩ := q; exact ⟨q0, q1, qP, va_K.moved (u := U) (U := U.calling g mk a) (Vm.Alike.refl U.vm) qK, qD⟩, va_recv hKc hPc (ci := 9) (q0 := 0) rfl rfl, fun U hU hW => ⟨rfl, by rw [hU], by rw [hU]; exact hPc, va_K.moved hW.alike hKc, hDc.weaken (fun _ _ _ _ => trivial)⟩⟩ rfl rfl hl.1 rfl (lv_room (Nat.le_of_ble_eq_true rfl)) dX9_more_79 ⟨Nat.le_of_ble_eq_true rfl, Nat.le_of_ble_eq_true rfl⟩) hS (fun q _ h => hFc q h) hFc (fun r_19 u t H1 locs ht hvm hw hB hz1 hk1 hS => ?_)
      refine W.widen (k := 3) (n := 3) (by omega) (by omega) ?_
      exact W.iret hx hb hr (fun t ht hW => ⟨⟨_, (), rfl, (hw.trans rfl), trivial⟩, hS.F ht⟩) hS.2.2 dX9_more_82
    · refine lv_aload_n hx hb dX9_more_12 rfl (lv_at hl 0 rfl) ?_
      refine lv_iconst (v := 1) hx hb dX9_more_13 (by decide) ?_
      have hPc := hP.sub (ws' := [(x, .inr (9, gF q 0 0 (-1) (-1) b 0 0))]) [0] rfl
      have hKc := hK.sub (tys' := []) [] rfl
      have hDc := hD.sub (ws' := [(x, .inr (9, gF q 0 0 (-1) (-1) b 0 0))]) [0] (by decide) rfl
      have hFc := va_free (wc := [(x, .inr (9, gF q 0 0 (-1) (-1) b 0 0))]) hD hS hA [0] rfl
      refine va_calli (va_runV (As := [.int 1]) (rest := []) ⟨hx, hb, hml, hown, hts⟩ (c_refuse l dC dI x q 0 0 (-1) (-1) b 0 0 H.size 1) (cwV 1 hts mg_X9_more_X9_refuse_80 rfl rfl rfl (by decide +kernel) ⟨Nat.le_of_ble_eq_true rfl, Nat.le_of_ble_eq_true rfl⟩) ⟨fun a U g mk q => by obtain ⟨q0, q1, qP, qK, qD⟩ := q; exact ⟨q0, q1, qP, va_K.moved (u := U) (U := U.calling g mk a) (Vm.Alike.refl U.vm) qK, qD⟩, va_recv hKc hPc (ci := 9) (q0 := 0) rfl rfl, fun U hU hW => ⟨rfl, by rw [hU], by rw [hU]; exact hPc, va_K.moved hW.alike hKc, hDc.weaken (fun _ _ _ _ => trivial)⟩⟩ rfl rfl hl.1 rfl (lv_room (Nat.le_of_ble_eq_true rfl)) dX9_more_14 ⟨Nat.le_of_ble_eq_true rfl, Nat.le_of_ble_eq_true rfl⟩) hS (fun q _ h => hFc q h) hFc (fun r_21 u t H1 locs ht hvm hw hB hz1 hk1 hS => ?_)
      refine W.widen (k := 3) (n := 3) (by omega) (by omega) ?_
      exact W.iret hx hb hr (fun t ht hW => ⟨⟨_, (), rfl, (hw.trans (s_load_gt k_4).symm), trivial⟩, hS.F ht⟩) hS.2.2 dX9_more_17

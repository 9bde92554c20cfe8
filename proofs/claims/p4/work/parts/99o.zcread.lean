theorem rd_back {t : Int → Int} {s a b : RSt} {y o : Int} {J : Prop} (hL : Ld t s a) (hq : (y = 0 → Ld t a b) ∧ (y ≠ 0 → Ld t a (zOut o))) (hj : y ≠ 0 ∨ J) : y ≠ 0 ∧ Ld t s (zOut o) ∨ y = 0 ∧ (J ∧ Ld t s b) := by
  by_cases q : y = 0
  · exact Or.inr ⟨q, hj.resolve_left (fun h => h q), hL.tr (hq.1 q)⟩
  · exact Or.inl ⟨q, hL.tr (hq.2 q)⟩
def mwX6_readq : List Cond := .code yX6_read cX6_read 8 (some .boolean) :: (([.fieldLink RX6 22 "PatternGate$Reader" "faultKind" "I", .fieldLink RX6 26 "PatternGate$Reader" "faultPlace" "I", .fieldLink RX6 29 "PatternGate$Reader" "lines" "I", .fieldLink RX6 32 "PatternGate$Reader" "newDocs" "I", .fieldLink RX6 35 "PatternGate$Reader" "newPatterns" "I", .fieldLink RX6 38 "PatternGate$Reader" "docsAhead" "I", .fieldLink RX6 41 "PatternGate$Reader" "patternsAhead" "I", .fieldLink RX6 44 "PatternGate$Reader" "wanted" "I", .methodLink RX6 47 Lib.Math.min.name, .static Lib.Math.min.name, .initialized "java/lang/Math", .code Lib.Math.min.name Lib.Math.min.code 2 (some .int), .methodLink RX6 71 yX6_fail, .instanceMethod yX6_fail, .selects RX6 yX6_fail yX6_fail, .initialized RX6, .initialized RX9, .static yX9_isSmall, .methodLink RX6 67 yX6_readSemicolon, .instanceMethod yX6_readSemicolon, .selects RX6 yX6_readSemicolon yX6_readSemicolon, .methodLink RX6 64 yX6_readQuote, .instanceMethod yX6_readQuote, .selects RX6 yX6_readQuote yX6_readQuote, .methodLink RX6 61 Lib.Math.max.name, .static Lib.Math.max.name, .code Lib.Math.max.name Lib.Math.max.code 2 (some .int), .methodLink RX6 57 yX6_readWord, .instanceMethod yX6_readWord, .selects RX6 yX6_readWord yX6_readWord] : List Cond) ++ (wsX60 ++ (mwX6_fail ++ (mwX9_isSmallwq ++ (mwX6_readSemicolonq ++ (mwX6_readQuoteq ++ (mwX6_readWordq)))))))
theorem fin_X6_readq_X6 : ∀ w ∈ wsX60, w ∈ mwX6_readq := fun w h => List.mem_cons_of_mem _ (List.mem_append_right _ (List.mem_append_left _ h))
set_option maxRecDepth 100000 in
theorem gd_mwX6_readSemicolonq : mwX6_readSemicolonq.all goodWord = true := by decide +kernel
set_option maxRecDepth 100000 in
theorem gd_mwX6_readQuoteq : mwX6_readQuoteq.all goodWord = true := by decide +kernel
set_option maxRecDepth 100000 in
theorem gd_mwX6_readWordq : mwX6_readWordq.all goodWord = true := by decide +kernel
set_option maxRecDepth 20000 in
theorem mg_X6_readq_X6_fail_71 : GoodIn mwX6_readq (wsV RX6 71 RX6 yX6_fail mwX6_fail) := gi_app (A := [.methodLink RX6 71 yX6_fail, .instanceMethod yX6_fail, .selects RX6 yX6_fail yX6_fail, .initialized RX6]) (goodIn_r _ [13, 14, 15, 16] (by decide +kernel) (by decide +kernel)) (gi_sub gd_mwX6_fail (fun w h => List.mem_cons_of_mem _ (List.mem_append_right _ (List.mem_append_right _ (List.mem_append_left _ h)))))
set_option maxRecDepth 20000 in
theorem mg_X6_readq_X9_isSmall_53 : GoodIn mwX6_readq mwX9_isSmallwq := gi_sub gd_mwX9_isSmallwq (fun w h => List.mem_cons_of_mem _ (List.mem_append_right _ (List.mem_append_right _ (List.mem_append_right _ (List.mem_append_left _ h)))))
set_option maxRecDepth 20000 in
theorem mg_X6_readq_X6_readSemicolon_67 : GoodIn mwX6_readq (wsV RX6 67 RX6 yX6_readSemicolon mwX6_readSemicolonq) := gi_app (A := [.methodLink RX6 67 yX6_readSemicolon, .instanceMethod yX6_readSemicolon, .selects RX6 yX6_readSemicolon yX6_readSemicolon, .initialized RX6]) (goodIn_r _ [19, 20, 21, 16] (by decide +kernel) (by decide +kernel)) (gi_sub gd_mwX6_readSemicolonq (fun w h => List.mem_cons_of_mem _ (List.mem_append_right _ (List.mem_append_right _ (List.mem_append_right _ (List.mem_append_right _ (List.mem_append_left _ h)))))))
set_option maxRecDepth 20000 in
theorem mg_X6_readq_X6_readQuote_64 : GoodIn mwX6_readq (wsV RX6 64 RX6 yX6_readQuote mwX6_readQuoteq) := gi_app (A := [.methodLink RX6 64 yX6_readQuote, .instanceMethod yX6_readQuote, .selects RX6 yX6_readQuote yX6_readQuote, .initialized RX6]) (goodIn_r _ [22, 23, 24, 16] (by decide +kernel) (by decide +kernel)) (gi_sub gd_mwX6_readQuoteq (fun w h => List.mem_cons_of_mem _ (List.mem_append_right _ (List.mem_append_right _ (List.mem_append_right _ (List.mem_append_right _ (List.mem_append_right _ (List.mem_append_left _ h))))))))
set_option maxRecDepth 20000 in
theorem mg_X6_readq_X6_readWord_57 : GoodIn mwX6_readq (wsV RX6 57 RX6 yX6_readWord mwX6_readWordq) := gi_app (A := [.methodLink RX6 57 yX6_readWord, .instanceMethod yX6_readWord, .selects RX6 yX6_readWord yX6_readWord, .initialized RX6]) (goodIn_r _ [28, 29, 30, 16] (by decide +kernel) (by decide +kernel)) (gi_sub gd_mwX6_readWordq (fun w h => List.mem_cons_of_mem _ (List.mem_append_right _ (List.mem_append_right _ (List.mem_append_right _ (List.mem_append_right _ (List.mem_append_right _ (List.mem_append_right _ (h)))))))))
set_option maxHeartbeats 4000000 in
set_option maxRecDepth 100000 in
/-- Reader.read: what it reads -/
theorem s_read_q (l : Launch) (dC : Nat → ClassId) (dI : Nat → Nat → Nat) (rd : Nat) (r : Nat → Nat) (a0 a1 a2 a3 a4 a5 a6 a7 : Int32) (ba kb : Nat) (cb cb0 cb1 cb2 : ClassId) (fb fb0 fb1 fb2 : Nat → Int32) (sz : Nat) (i2 i3 i4 : Int32) (hkb : kb ≤ 900) (h2 : 0 ≤ i2.toInt ∧ i2.toInt ≤ kb) (h3 : 0 ≤ i3.toInt ∧ i3.toInt ≤ 10) (h4 : 0 ≤ i4.toInt ∧ i4.toInt ≤ 8) (hpos : ∀ z : Int, 0 ≤ z → 0 ≤ vI fb z) : Met l yX6_read mwX6_readq ({ frames := 6, cells := 0, slots := 0, locals := 360 }) (va_Pc [.ref rd, .ref ba, .int i2, .int i3, .int i4] (fun U => U.heap.size = sz ∧ va_P (dC, dI) vwCl ([(rd, .inr (6, rF r a0 a1 a2 a3 a4 a5 a6 a7)), (ba, .inl (cb, kb, .inl fb)), (r 0, .inl (cb0, 18, .inl fb0)), (r 1, .inl (cb1, 18, .inl fb1)), (r 2, .inl (cb2, 18, .inl fb2))]) U.heap ∧ va_K (dC, dI) vwCl ([(cb, .int), (cb0, .int), (cb1, .int), (cb2, .boolean)]) U ∧ va_D (fun _ => True) ([(rd, .inr (6, rF r a0 a1 a2 a3 a4 a5 a6 a7)), (ba, .inl (cb, kb, .inl fb)), (r 0, .inl (cb0, 18, .inl fb0)), (r 1, .inl (cb1, 18, .inl fb1)), (r 2, .inl (cb2, 18, .inl fb2))]) ∧ va_Nw (.methodLinkNest RX6 53 yX9_isSmall "PatternGate") U ∧ sR2 (va_A ([(rd, .inr (6, rF r a0 a1 a2 a3 a4 a5 a6 a7)), (ba, .inl (cb, kb, .inl fb)), (r 0, .inl (cb0, 18, .inl fb0)), (r 1, .inl (cb1, 18, .inl fb1)), (r 2, .inl (cb2, 18, .inl fb2))]) sz) U U.heap)) (va_Qi (fun (o9 : Int32) (u : Int32) => o9 = u ∧ (u = 0 ∨ u = 1)) (fun u t => ∃ (y0 y1 y2 y3 y4 y7 : Int32) (f0 f1 f2 : Nat → Int32), (u = 0 ∧ Ld (tc fb i2.toInt) (zTop 0 0 i3.toInt i4.toInt) (zOut (-1)) ∨ u = 1 ∧ rJ f0 f1 f2 901 y2 y3 y4 i3 i4 y7 ∧ Ld (tc fb i2.toInt) (zTop 0 0 i3.toInt i4.toInt) (zOut (i3.toInt + y3.toInt))) ∧ va_P (dC, dI) vwCl [(rd, .inr (6, rF r y0 y1 y2 y3 y4 i3 i4 y7)), (ba, .inl (cb, kb, .inl fb)), (r 0, .inl (cb0, 18, .inl f0)), (r 1, .inl (cb1, 18, .inl f1)), (r 2, .inl (cb2, 18, .inl f2))] t.heap ∧ va_K (dC, dI) vwCl [(cb, .int), (cb0, .int), (cb1, .int), (cb2, .boolean)] t ∧ va_D (va_A ([(rd, .inr (6, rF r a0 a1 a2 a3 a4 a5 a6 a7)), (ba, .inl (cb, kb, .inl fb)), (r 0, .inl (cb0, 18, .inl fb0)), (r 1, .inl (cb1, 18, .inl fb1)), (r 2, .inl (cb2, 18, .inl fb2))]) sz) [(rd, .inr (6, rF r y0 y1 y2 y3 y4 i3 i4 y7)), (ba, .inl (cb, kb, .inl fb)), (r 0, .inl (cb0, 18, .inl f0)), (r 1, .inl (cb1, 18, .inl f1)), (r 2, .inl (cb2, 18, .inl f2))]) (va_A ([(rd, .inr (6, rF r a0 a1 a2 a3 a4 a5 a6 a7)), (ba, .inl (cb, kb, .inl fb)), (r 0, .inl (cb0, 18, .inl fb0)), (r 1, .inl (cb1, 18, .inl fb1)), (r 2, .inl (cb2, 18, .inl fb2))]) sz)) 0 0 (va_A ([(rd, .inr (6, rF r a0 a1 a2 a3 a4 a5 a6 a7)), (ba, .inl (cb, kb, .inl fb)), (r 0, .inl (cb0, 18, .inl fb0)), (r 1, .inl (cb1, 18, .inl fb1)), (r 2, .inl (cb2, 18, .inl fb2))]) sz) := by
  refine Met.ofW (cc := cX6_read) (maxL := 8) (ret := (some .boolean)) (by decide +kernel) rfl ?_
  intro p e s m args below meth c s₁ B hml hv
  obtain ⟨rfl, hsz, hP, hK, hD0, hN53, hSR⟩ := hv
  have hx := B.exec
  have hb := B.bytes
  have hr := B.returns
  have hts := atoms_spec (ws := mwX6_readq) B.pre
  have hown : s.vm.findClass RX6 = some m.cls := findClass_of_methodNamed B.named
  have hlocks := B.notSynchronized
  subst hsz
  have hD := hD0.self (sz := s.heap.size)
  generalize hAe : va_A ([(rd, .inr (6, rF r a0 a1 a2 a3 a4 a5 a6 a7)), (ba, .inl (cb, kb, .inl fb)), (r 0, .inl (cb0, 18, .inl fb0)), (r 1, .inl (cb1, 18, .inl fb1)), (r 2, .inl (cb2, 18, .inl fb2))]) s.heap.size = A at hD hSR ⊢
  have hA : ∀ q : Nat, s.heap.size ≤ q → A q := fun q h => by rw [← hAe]; exact Or.inr h
  have hP : va_P (dC, dI) vwCl [(rd, .inr (6, rF r a0 a1 a2 a3 a4 a5 a6 a7)), (ba, .inl (cb, kb, .inl fb)), (r 0, .inl (cb0, 18, .inl fb0)), (r 1, .inl (cb1, 18, .inl fb1)), (r 2, .inl (cb2, 18, .inl fb2))] s.heap := hP
  have hD : va_D A [(rd, .inr (6, rF r a0 a1 a2 a3 a4 a5 a6 a7)), (ba, .inl (cb, kb, .inl fb)), (r 0, .inl (cb0, 18, .inl fb0)), (r 1, .inl (cb1, 18, .inl fb1)), (r 2, .inl (cb2, 18, .inl fb2))] := hD
  have hK : va_K (dC, dI) vwCl [(cb, .int), (cb0, .int), (cb1, .int), (cb2, .boolean)] s := hK
  generalize hH : s.heap = H at hP ⊢
  have hS : va_S A s.heap H [] := by rw [← hH]; exact va_S.rf
  have hl := lv_entry ([.ref rd, .ref ba, .int i2, .int i3, .int i4]) (n := 8) (Nat.le_of_ble_eq_true rfl)
  rw [lg_entry_eq]
  generalize (lg_sl ([.ref rd, .ref ba, .int i2, .int i3, .int i4]) ++ List.replicate (8 - (lg_sl ([.ref rd, .ref ba, .int i2, .int i3, .int i4])).length) Slot.unset).toArray = ls at hl ⊢
  have hl : lv_has ls 8 [(0, .ref rd), (1, .ref ba), (2, .int i2), (3, .int i3), (4, .int i4)] := hl
  have rg_i2 := i_rng i2
  have rg_i3 := i_rng i3
  have rg_i4 := i_rng i4
  have rkb : (kb : Int) ≤ 900 := by omega
  refine lv_aload_n hx hb dX6_read_0 rfl (lv_at hl 0 rfl) ?_
  refine lv_iconst (v := 0) hx hb dX6_read_1 (by decide) ?_
  refine va_put (D := (dC, dI)) (ci := 6) (v := .int 0) (ty := .int) (C := RX6) (T := TX6) (N := 11) hx hb hts fin_X6_readq_X6 tyX6 tyX6_ok nmX6 hown hK hP hD hS 0 rfl rfl 0 (by decide) (hts (.fieldLink RX6 22 "PatternGate$Reader" "faultKind" "I") (List.mem_of_getElem? (i := 1) (by decide +kernel))) (fun _ h9 => h9) rfl (by decide +kernel) rfl rfl (Nat.le_of_ble_eq_true rfl) dX6_read_2 (fun H locs hP hD hS => ?_)
  have hP : va_P (dC, dI) vwCl [(rd, .inr (6, rF r 0 a1 a2 a3 a4 a5 a6 a7)), (ba, .inl (cb, kb, .inl fb)), (r 0, .inl (cb0, 18, .inl fb0)), (r 1, .inl (cb1, 18, .inl fb1)), (r 2, .inl (cb2, 18, .inl fb2))] H := hP
  have hD : va_D A [(rd, .inr (6, rF r 0 a1 a2 a3 a4 a5 a6 a7)), (ba, .inl (cb, kb, .inl fb)), (r 0, .inl (cb0, 18, .inl fb0)), (r 1, .inl (cb1, 18, .inl fb1)), (r 2, .inl (cb2, 18, .inl fb2))] := hD
  refine lv_aload_n hx hb dX6_read_5 rfl (lv_at hl 0 rfl) ?_
  refine lv_iconst (v := (-1)) hx hb dX6_read_6 (by decide) ?_
  refine va_put (D := (dC, dI)) (ci := 6) (v := .int (-1)) (ty := .int) (C := RX6) (T := TX6) (N := 11) hx hb hts fin_X6_readq_X6 tyX6 tyX6_ok nmX6 hown hK hP hD hS 0 rfl rfl 1 (by decide) (hts (.fieldLink RX6 26 "PatternGate$Reader" "faultPlace" "I") (List.mem_of_getElem? (i := 2) (by decide +kernel))) (fun _ h9 => h9) rfl (by decide +kernel) rfl rfl (Nat.le_of_ble_eq_true rfl) dX6_read_7 (fun H locs hP hD hS => ?_)
  have hP : va_P (dC, dI) vwCl [(rd, .inr (6, rF r 0 (-1) a2 a3 a4 a5 a6 a7)), (ba, .inl (cb, kb, .inl fb)), (r 0, .inl (cb0, 18, .inl fb0)), (r 1, .inl (cb1, 18, .inl fb1)), (r 2, .inl (cb2, 18, .inl fb2))] H := hP
  have hD : va_D A [(rd, .inr (6, rF r 0 (-1) a2 a3 a4 a5 a6 a7)), (ba, .inl (cb, kb, .inl fb)), (r 0, .inl (cb0, 18, .inl fb0)), (r 1, .inl (cb1, 18, .inl fb1)), (r 2, .inl (cb2, 18, .inl fb2))] := hD
  refine lv_aload_n hx hb dX6_read_10 rfl (lv_at hl 0 rfl) ?_
  refine lv_iconst (v := 0) hx hb dX6_read_11 (by decide) ?_
  refine va_put (D := (dC, dI)) (ci := 6) (v := .int 0) (ty := .int) (C := RX6) (T := TX6) (N := 11) hx hb hts fin_X6_readq_X6 tyX6 tyX6_ok nmX6 hown hK hP hD hS 0 rfl rfl 2 (by decide) (hts (.fieldLink RX6 29 "PatternGate$Reader" "lines" "I") (List.mem_of_getElem? (i := 3) (by decide +kernel))) (fun _ h9 => h9) rfl (by decide +kernel) rfl rfl (Nat.le_of_ble_eq_true rfl) dX6_read_12 (fun H locs hP hD hS => ?_)
  have hP : va_P (dC, dI) vwCl [(rd, .inr (6, rF r 0 (-1) 0 a3 a4 a5 a6 a7)), (ba, .inl (cb, kb, .inl fb)), (r 0, .inl (cb0, 18, .inl fb0)), (r 1, .inl (cb1, 18, .inl fb1)), (r 2, .inl (cb2, 18, .inl fb2))] H := hP
  have hD : va_D A [(rd, .inr (6, rF r 0 (-1) 0 a3 a4 a5 a6 a7)), (ba, .inl (cb, kb, .inl fb)), (r 0, .inl (cb0, 18, .inl fb0)), (r 1, .inl (cb1, 18, .inl fb1)), (r 2, .inl (cb2, 18, .inl fb2))] := hD
  refine lv_aload_n hx hb dX6_read_15 rfl (lv_at hl 0 rfl) ?_
  refine lv_iconst (v := 0) hx hb dX6_read_16 (by decide) ?_
  refine va_put (D := (dC, dI)) (ci := 6) (v := .int 0) (ty := .int) (C := RX6) (T := TX6) (N := 11) hx hb hts fin_X6_readq_X6 tyX6 tyX6_ok nmX6 hown hK hP hD hS 0 rfl rfl 3 (by decide) (hts (.fieldLink RX6 32 "PatternGate$Reader" "newDocs" "I") (List.mem_of_getElem? (i := 4) (by decide +kernel))) (fun _ h9 => h9) rfl (by decide +kernel) rfl rfl (Nat.le_of_ble_eq_true rfl) dX6_read_17 (fun H locs hP hD hS => ?_)
  have hP : va_P (dC, dI) vwCl [(rd, .inr (6, rF r 0 (-1) 0 0 a4 a5 a6 a7)), (ba, .inl (cb, kb, .inl fb)), (r 0, .inl (cb0, 18, .inl fb0)), (r 1, .inl (cb1, 18, .inl fb1)), (r 2, .inl (cb2, 18, .inl fb2))] H := hP
  have hD : va_D A [(rd, .inr (6, rF r 0 (-1) 0 0 a4 a5 a6 a7)), (ba, .inl (cb, kb, .inl fb)), (r 0, .inl (cb0, 18, .inl fb0)), (r 1, .inl (cb1, 18, .inl fb1)), (r 2, .inl (cb2, 18, .inl fb2))] := hD
  refine lv_aload_n hx hb dX6_read_20 rfl (lv_at hl 0 rfl) ?_
  refine lv_iconst (v := 0) hx hb dX6_read_21 (by decide) ?_
  refine va_put (D := (dC, dI)) (ci := 6) (v := .int 0) (ty := .int) (C := RX6) (T := TX6) (N := 11) hx hb hts fin_X6_readq_X6 tyX6 tyX6_ok nmX6 hown hK hP hD hS 0 rfl rfl 4 (by decide) (hts (.fieldLink RX6 35 "PatternGate$Reader" "newPatterns" "I") (List.mem_of_getElem? (i := 5) (by decide +kernel))) (fun _ h9 => h9) rfl (by decide +kernel) rfl rfl (Nat.le_of_ble_eq_true rfl) dX6_read_22 (fun H locs hP hD hS => ?_)
  have hP : va_P (dC, dI) vwCl [(rd, .inr (6, rF r 0 (-1) 0 0 0 a5 a6 a7)), (ba, .inl (cb, kb, .inl fb)), (r 0, .inl (cb0, 18, .inl fb0)), (r 1, .inl (cb1, 18, .inl fb1)), (r 2, .inl (cb2, 18, .inl fb2))] H := hP
  have hD : va_D A [(rd, .inr (6, rF r 0 (-1) 0 0 0 a5 a6 a7)), (ba, .inl (cb, kb, .inl fb)), (r 0, .inl (cb0, 18, .inl fb0)), (r 1, .inl (cb1, 18, .inl fb1)), (r 2, .inl (cb2, 18, .inl fb2))] := hD
  refine lv_aload_n hx hb dX6_read_25 rfl (lv_at hl 0 rfl) ?_
  refine lv_iload_n hx hb dX6_read_26 rfl (lv_at hl 3 rfl) ?_
  refine va_put (D := (dC, dI)) (ci := 6) (v := .int i3) (ty := .int) (C := RX6) (T := TX6) (N := 11) hx hb hts fin_X6_readq_X6 tyX6 tyX6_ok nmX6 hown hK hP hD hS 0 rfl rfl 8 (by decide) (hts (.fieldLink RX6 38 "PatternGate$Reader" "docsAhead" "I") (List.mem_of_getElem? (i := 6) (by decide +kernel))) (fun _ h9 => h9) rfl (by decide +kernel) rfl rfl (Nat.le_of_ble_eq_true rfl) dX6_read_27 (fun H locs hP hD hS => ?_)
  have hP : va_P (dC, dI) vwCl [(rd, .inr (6, rF r 0 (-1) 0 0 0 i3 a6 a7)), (ba, .inl (cb, kb, .inl fb)), (r 0, .inl (cb0, 18, .inl fb0)), (r 1, .inl (cb1, 18, .inl fb1)), (r 2, .inl (cb2, 18, .inl fb2))] H := hP
  have hD : va_D A [(rd, .inr (6, rF r 0 (-1) 0 0 0 i3 a6 a7)), (ba, .inl (cb, kb, .inl fb)), (r 0, .inl (cb0, 18, .inl fb0)), (r 1, .inl (cb1, 18, .inl fb1)), (r 2, .inl (cb2, 18, .inl fb2))] := hD
  refine lv_aload_n hx hb dX6_read_30 rfl (lv_at hl 0 rfl) ?_
  refine lv_iload hx hb dX6_read_31 (lv_at hl 4 rfl) ?_
  refine va_put (D := (dC, dI)) (ci := 6) (v := .int i4) (ty := .int) (C := RX6) (T := TX6) (N := 11) hx hb hts fin_X6_readq_X6 tyX6 tyX6_ok nmX6 hown hK hP hD hS 0 rfl rfl 9 (by decide) (hts (.fieldLink RX6 41 "PatternGate$Reader" "patternsAhead" "I") (List.mem_of_getElem? (i := 7) (by decide +kernel))) (fun _ h9 => h9) rfl (by decide +kernel) rfl rfl (Nat.le_of_ble_eq_true rfl) dX6_read_33 (fun H locs hP hD hS => ?_)
  have hP : va_P (dC, dI) vwCl [(rd, .inr (6, rF r 0 (-1) 0 0 0 i3 i4 a7)), (ba, .inl (cb, kb, .inl fb)), (r 0, .inl (cb0, 18, .inl fb0)), (r 1, .inl (cb1, 18, .inl fb1)), (r 2, .inl (cb2, 18, .inl fb2))] H := hP
  have hD : va_D A [(rd, .inr (6, rF r 0 (-1) 0 0 0 i3 i4 a7)), (ba, .inl (cb, kb, .inl fb)), (r 0, .inl (cb0, 18, .inl fb0)), (r 1, .inl (cb1, 18, .inl fb1)), (r 2, .inl (cb2, 18, .inl fb2))] := hD
  refine lv_aload_n hx hb dX6_read_36 rfl (lv_at hl 0 rfl) ?_
  refine lv_iconst (v := 0) hx hb dX6_read_37 (by decide) ?_
  refine va_put (D := (dC, dI)) (ci := 6) (v := .int 0) (ty := .int) (C := RX6) (T := TX6) (N := 11) hx hb hts fin_X6_readq_X6 tyX6 tyX6_ok nmX6 hown hK hP hD hS 0 rfl rfl 10 (by decide) (hts (.fieldLink RX6 44 "PatternGate$Reader" "wanted" "I") (List.mem_of_getElem? (i := 8) (by decide +kernel))) (fun _ h9 => h9) rfl (by decide +kernel) rfl rfl (Nat.le_of_ble_eq_true rfl) dX6_read_38 (fun H locs hP hD hS => ?_)
  have hP : va_P (dC, dI) vwCl [(rd, .inr (6, rF r 0 (-1) 0 0 0 i3 i4 0)), (ba, .inl (cb, kb, .inl fb)), (r 0, .inl (cb0, 18, .inl fb0)), (r 1, .inl (cb1, 18, .inl fb1)), (r 2, .inl (cb2, 18, .inl fb2))] H := hP
  have hD : va_D A [(rd, .inr (6, rF r 0 (-1) 0 0 0 i3 i4 0)), (ba, .inl (cb, kb, .inl fb)), (r 0, .inl (cb0, 18, .inl fb0)), (r 1, .inl (cb1, 18, .inl fb1)), (r 2, .inl (cb2, 18, .inl fb2))] := hD
  refine lv_iload_n hx hb dX6_read_41 rfl (lv_at hl 2 rfl) ?_
  refine lv_aload_n hx hb dX6_read_42 rfl (lv_at hl 1 rfl) ?_
  refine va_alen hx hb hK hP 1 0 rfl rfl rfl dX6_read_43 ?_
  refine lv_topi (fun y_1 ey_1 => ?_)
  have ty_1 : y_1.toInt = (kb : Int) := i_len ey_1 (by omega)
  refine va_mmin hx hb (hml.trans hl.1.symm) hown (hts (.methodLink RX6 47 Lib.Math.min.name) (List.mem_of_getElem? (i := 9) (by decide +kernel))) (hts (.static Lib.Math.min.name) (List.mem_of_getElem? (i := 10) (by decide +kernel))) (hts (.initialized "java/lang/Math") (List.mem_of_getElem? (i := 11) (by decide +kernel))) (hts (.code Lib.Math.min.name Lib.Math.min.code 2 (some .int)) (List.mem_of_getElem? (i := 12) (by decide +kernel))) (Nat.le_of_ble_eq_true rfl) (Nat.le_of_ble_eq_true rfl) (Nat.le_of_ble_eq_true rfl) (Nat.le_of_ble_eq_true rfl) dX6_read_44 ?_
  refine lv_topi (fun y_2 ey_2 => ?_)
  have ty_2 := i_min (a := i2.toInt) (b := y_1.toInt) rfl rfl ey_2
  refine lv_istore (lv' := [(5, .int y_2), (0, .ref rd), (1, .ref ba), (2, .int i2), (3, .int i3), (4, .int i4)]) hx hb dX6_read_47 hl (by decide) rfl (fun ls hl => ?_)
  refine lv_iconst (v := 0) hx hb dX6_read_49 (by decide) ?_
  refine lv_istore (lv' := [(6, .int 0), (5, .int y_2), (0, .ref rd), (1, .ref ba), (2, .int i2), (3, .int i3), (4, .int i4)]) hx hb dX6_read_50 hl (by decide) rfl (fun ls hl => ?_)
  have loop52 : ∀ (lm52 : Nat) (ax fa fv fl fd fq fw : Int32) (gb : Nat → Int32) (ge : Nat → Int32) (gi : Nat → Int32), (0 ≤ ax.toInt ∧ ax.toInt ≤ 901) → (fa.toInt ≠ 0 ∧ Ld (tc fb y_2.toInt) (zTop 0 0 i3.toInt i4.toInt) (zOut (-1)) ∨ fa.toInt = 0 ∧ (rJ gb ge gi ax.toInt fl fd fq i3 i4 fw ∧ Ld (tc fb y_2.toInt) (zTop 0 0 i3.toInt i4.toInt) (zTop ax.toInt fw.toInt (i3.toInt + fd.toInt) (i4.toInt + fq.toInt)))) → ((y_2.toInt - ax.toInt).toNat) < lm52 → ∀ (H : Heap) (locs : List Loc) (ls : Array Slot), va_P (dC, dI) vwCl [(rd, .inr (6, rF r fa fv fl fd fq i3 i4 fw)), (ba, .inl (cb, kb, .inl fb)), (r 0, .inl (cb0, 18, .inl gb)), (r 1, .inl (cb1, 18, .inl ge)), (r 2, .inl (cb2, 18, .inl gi))] H → va_D A [(rd, .inr (6, rF r fa fv fl fd fq i3 i4 fw)), (ba, .inl (cb, kb, .inl fb)), (r 0, .inl (cb0, 18, .inl gb)), (r 1, .inl (cb1, 18, .inl ge)), (r 2, .inl (cb2, 18, .inl gi))] → va_S A s.heap H locs → lv_has ls 8 [(6, .int ax), (5, .int y_2), (0, .ref rd), (1, .ref ba), (2, .int i2), (3, .int i3), (4, .int i4)] → W p l e (headSpec mwX6_readq ({ frames := 6, cells := 0, slots := 0, locals := 360 })).room s m ([.ref rd, .ref ba, .int i2, .int i3, .int i4]).toArray below meth c H locs 0 0 (MQ below (va_Qi (fun (o9 : Int32) (u : Int32) => o9 = u ∧ (u = 0 ∨ u = 1)) (fun u t => ∃ (y0 y1 y2 y3 y4 y7 : Int32) (f0 f1 f2 : Nat → Int32), (u = 0 ∧ Ld (tc fb i2.toInt) (zTop 0 0 i3.toInt i4.toInt) (zOut (-1)) ∨ u = 1 ∧ rJ f0 f1 f2 901 y2 y3 y4 i3 i4 y7 ∧ Ld (tc fb i2.toInt) (zTop 0 0 i3.toInt i4.toInt) (zOut (i3.toInt + y3.toInt))) ∧ va_P (dC, dI) vwCl [(rd, .inr (6, rF r y0 y1 y2 y3 y4 i3 i4 y7)), (ba, .inl (cb, kb, .inl fb)), (r 0, .inl (cb0, 18, .inl f0)), (r 1, .inl (cb1, 18, .inl f1)), (r 2, .inl (cb2, 18, .inl f2))] t.heap ∧ va_K (dC, dI) vwCl [(cb, .int), (cb0, .int), (cb1, .int), (cb2, .boolean)] t ∧ va_D A [(rd, .inr (6, rF r y0 y1 y2 y3 y4 i3 i4 y7)), (ba, .inl (cb, kb, .inl fb)), (r 0, .inl (cb0, 18, .inl f0)), (r 1, .inl (cb1, 18, .inl f1)), (r 2, .inl (cb2, 18, .inl f2))]) A) ([.ref rd, .ref ba, .int i2, .int i3, .int i4]).toArray s 0 0 A) (F0 m 52 ls []) := by
    intro lm52
    induction lm52 with
    | zero => intro ax fa fv fl fd fq fw gb ge gi v52_0 v52_1 hm52; exact absurd hm52 (Nat.not_lt_zero _)
    | succ lm52 ih52 =>
      intro ax fa fv fl fd fq fw gb ge gi v52_0 v52_1 hm52 H locs ls hP hD hS hl
      have rg_ax := i_rng ax
      have rg_fa := i_rng fa
      have rg_fv := i_rng fv
      have rg_fl := i_rng fl
      have rg_fd := i_rng fd
      have rg_fq := i_rng fq
      have rg_fw := i_rng fw
      refine lv_iload hx hb dX6_read_52 (lv_at hl 0 rfl) ?_
      refine lv_iload hx hb dX6_read_54 (lv_at hl 1 rfl) ?_
      refine lv_icmp_ge (tgt := 168) hx hb dX6_read_56 (by decide) (fun k_3 => ?_) (fun k_3 => ?_)
      · have tk_3 := c_ge (a := ax.toInt) (b := y_2.toInt) rfl rfl k_3
        refine lv_aload_n hx hb dX6_read_168 rfl (lv_at hl 2 rfl) ?_
        refine va_get (D := (dC, dI)) (ci := 6) (v := .int fa) (C := RX6) (T := TX6) (N := 11) hx hb hts fin_X6_readq_X6 hown hK hP 0 rfl rfl 0 (by decide) (hts (.fieldLink RX6 22 "PatternGate$Reader" "faultKind" "I") (List.mem_of_getElem? (i := 1) (by decide +kernel))) (fun _ h9 => h9) rfl dX6_read_169 ?_
        refine lv_if_ne (tgt := 189) hx hb dX6_read_172 (by decide) (fun k_4 => ?_) (fun k_4 => ?_)
        · have tk_4 := c_ne (a := fa.toInt) (b := 0) rfl (by decide) k_4
          refine lv_aload_n hx hb dX6_read_189 rfl (lv_at hl 2 rfl) ?_
          refine va_get (D := (dC, dI)) (ci := 6) (v := .int fa) (C := RX6) (T := TX6) (N := 11) hx hb hts fin_X6_readq_X6 hown hK hP 0 rfl rfl 0 (by decide) (hts (.fieldLink RX6 22 "PatternGate$Reader" "faultKind" "I") (List.mem_of_getElem? (i := 1) (by decide +kernel))) (fun _ h9 => h9) rfl dX6_read_190 ?_
          refine lv_if_ne (tgt := 200) hx hb dX6_read_193 (by decide) (fun k_5 => ?_) (fun k_5 => absurd k_5 k_4)
          have tk_5 := c_ne (a := fa.toInt) (b := 0) rfl (by decide) k_5
          refine lv_iconst (v := 0) hx hb dX6_read_200 (by decide) ?_
          have hP9 := hP.sub (ws' := [(rd, .inr (6, rF r fa fv fl fd fq i3 i4 fw)), (ba, .inl (cb, kb, .inl fb)), (r 0, .inl (cb0, 18, .inl gb)), (r 1, .inl (cb1, 18, .inl ge)), (r 2, .inl (cb2, 18, .inl gi))]) [0, 1, 2, 3, 4] rfl
          have hD9 := hD.sub (ws' := [(rd, .inr (6, rF r fa fv fl fd fq i3 i4 fw)), (ba, .inl (cb, kb, .inl fb)), (r 0, .inl (cb0, 18, .inl gb)), (r 1, .inl (cb1, 18, .inl ge)), (r 2, .inl (cb2, 18, .inl gi))]) [0, 1, 2, 3, 4] (by decide) rfl
          have hK9 := hK.sub (tys' := [(cb, .int), (cb0, .int), (cb1, .int), (cb2, .boolean)]) [0, 1, 2, 3] rfl
          exact W.zret hx hb hr rfl (fun t ht hW => ⟨⟨_, 0, rfl, ⟨rfl, by decide⟩, fa, fv, fl, fd, fq, fw, gb, ge, gi, (Or.inl ⟨rfl, by rw [show i2.toInt = y_2.toInt by omega]; exact (v52_1.resolve_right (fun h => absurd h.1 (by omega))).2⟩), by rw [ht]; exact hP9, va_K.moved hW.alike hK9, hD9⟩, hS.F ht⟩) hS.2.2 dX6_read_201
        · have tk_4 := c_eq (a := fa.toInt) (b := 0) rfl (by decide) k_4
          refine lv_aload_n hx hb dX6_read_175 rfl (lv_at hl 2 rfl) ?_
          refine va_get (D := (dC, dI)) (ci := 6) (v := .int fw) (C := RX6) (T := TX6) (N := 11) hx hb hts fin_X6_readq_X6 hown hK hP 0 rfl rfl 10 (by decide) (hts (.fieldLink RX6 44 "PatternGate$Reader" "wanted" "I") (List.mem_of_getElem? (i := 8) (by decide +kernel))) (fun _ h9 => h9) rfl dX6_read_176 ?_
          refine lv_if_eq (tgt := 189) hx hb dX6_read_179 (by decide) (fun k_6 => ?_) (fun k_6 => ?_)
          · have tk_6 := c_eq (a := fw.toInt) (b := 0) rfl (by decide) k_6
            refine lv_aload_n hx hb dX6_read_189 rfl (lv_at hl 2 rfl) ?_
            refine va_get (D := (dC, dI)) (ci := 6) (v := .int fa) (C := RX6) (T := TX6) (N := 11) hx hb hts fin_X6_readq_X6 hown hK hP 0 rfl rfl 0 (by decide) (hts (.fieldLink RX6 22 "PatternGate$Reader" "faultKind" "I") (List.mem_of_getElem? (i := 1) (by decide +kernel))) (fun _ h9 => h9) rfl dX6_read_190 ?_
            refine lv_if_ne (tgt := 200) hx hb dX6_read_193 (by decide) (fun k_7 => absurd k_4 k_7) (fun k_7 => ?_)
            have tk_7 := c_eq (a := fa.toInt) (b := 0) rfl (by decide) k_7
            refine lv_iconst (v := 1) hx hb dX6_read_196 (by decide) ?_
            refine lv_goto (tgt := 201) hx hb dX6_read_197 (by decide) ?_
            have hP9 := hP.sub (ws' := [(rd, .inr (6, rF r fa fv fl fd fq i3 i4 fw)), (ba, .inl (cb, kb, .inl fb)), (r 0, .inl (cb0, 18, .inl gb)), (r 1, .inl (cb1, 18, .inl ge)), (r 2, .inl (cb2, 18, .inl gi))]) [0, 1, 2, 3, 4] rfl
            have hD9 := hD.sub (ws' := [(rd, .inr (6, rF r fa fv fl fd fq i3 i4 fw)), (ba, .inl (cb, kb, .inl fb)), (r 0, .inl (cb0, 18, .inl gb)), (r 1, .inl (cb1, 18, .inl ge)), (r 2, .inl (cb2, 18, .inl gi))]) [0, 1, 2, 3, 4] (by decide) rfl
            have hK9 := hK.sub (tys' := [(cb, .int), (cb0, .int), (cb1, .int), (cb2, .boolean)]) [0, 1, 2, 3] rfl
            exact W.zret hx hb hr rfl (fun t ht hW => ⟨⟨_, 1, rfl, ⟨rfl, by decide⟩, fa, fv, fl, fd, fq, fw, gb, ge, gi, (Or.inr ⟨rfl, (v52_1.resolve_left (fun h => h.1 (by omega))).2.1.mono (by omega), by have h9 := (v52_1.resolve_left (fun h => h.1 (by omega))).2.2; rw [show fw.toInt = 0 by omega] at h9; rw [show i2.toInt = y_2.toInt by omega]; exact h9.tr (mv_end (tc_end (by omega)))⟩), by rw [ht]; exact hP9, va_K.moved hW.alike hK9, hD9⟩, hS.F ht⟩) hS.2.2 dX6_read_201
          · have tk_6 := c_ne (a := fw.toInt) (b := 0) rfl (by decide) k_6
            refine lv_aload_n hx hb dX6_read_182 rfl (lv_at hl 2 rfl) ?_
            refine lv_iconst (v := 2) hx hb dX6_read_183 (by decide) ?_
            refine lv_iload hx hb dX6_read_184 (lv_at hl 1 rfl) ?_
            have hPc := hP.sub (ws' := [(rd, .inr (6, rF r fa fv fl fd fq i3 i4 fw))]) [0] rfl
            have hKc := hK.sub (tys' := []) [] rfl
            have hDc := hD.sub (ws' := [(rd, .inr (6, rF r fa fv fl fd fq i3 i4 fw))]) [0] (by decide) rfl
            have hFc := va_free (wc := [(rd, .inr (6, rF r fa fv fl fd fq i3 i4 fw))]) hD hS hA [0] rfl
            refine va_callv (va_runV (As := [.int 2, .int y_2]) (rest := []) ⟨hx, hb, hml, hown, hts⟩ (s_fail l dC dI rd r fa fv fl fd fq i3 i4 fw H.size 2 y_2) (cwV 2 hts mg_X6_readq_X6_fail_71 rfl rfl rfl (by decide +kernel) ⟨Nat.le_of_ble_eq_true rfl, Nat.le_of_ble_eq_true rfl⟩) ⟨fun a U g mk q => by obtain ⟨q0, q1, qP, qK, qD⟩ := q; exact ⟨q0, q1, qP, va_K.moved (u := U) (U := U.calling g mk a) (Vm.Alike.refl U.vm) qK, qD⟩, va_recv hKc hPc (ci := 6) (q0 := 0) rfl rfl, fun U hU hW => ⟨rfl, by rw [hU], by rw [hU]; exact hPc, va_K.moved hW.alike hKc, hDc.weaken (fun _ _ _ _ => trivial)⟩⟩ rfl rfl hl.1 rfl (lv_room (Nat.le_of_ble_eq_true rfl)) dX6_read_186 ⟨Nat.le_of_ble_eq_true rfl, Nat.le_of_ble_eq_true rfl⟩) hS (fun q _ h => hFc q h) hFc (fun u t H1 locs ht hvm hw hB hz1 hk1 hS => ?_)
            obtain ⟨hP1, hK1, hD1⟩ := hB
            rw [ht] at hP1
            obtain ⟨hP, hD⟩ := va_join (wr := [(ba, .inl (cb, kb, .inl fb)), (r 0, .inl (cb0, 18, .inl gb)), (r 1, .inl (cb1, 18, .inl ge)), (r 2, .inl (cb2, 18, .inl gi))]) (w1 := [(rd, .inr (6, rF r 2 y_2 fl fd fq i3 i4 fw))]) hP hD [0] [1, 2, 3, 4] rfl rfl (by decide) (by decide) hk1 hFc hP1 hD1
            generalize H1 = H at hP hS ⊢
            have hP : va_P (dC, dI) vwCl [(ba, .inl (cb, kb, .inl fb)), (r 0, .inl (cb0, 18, .inl gb)), (r 1, .inl (cb1, 18, .inl ge)), (r 2, .inl (cb2, 18, .inl gi)), (rd, .inr (6, rF r 2 y_2 fl fd fq i3 i4 fw))] H := hP
            have hD : va_D A [(ba, .inl (cb, kb, .inl fb)), (r 0, .inl (cb0, 18, .inl gb)), (r 1, .inl (cb1, 18, .inl ge)), (r 2, .inl (cb2, 18, .inl gi)), (rd, .inr (6, rF r 2 y_2 fl fd fq i3 i4 fw))] := hD
            refine lv_aload_n hx hb dX6_read_189 rfl (lv_at hl 2 rfl) ?_
            refine va_get (D := (dC, dI)) (ci := 6) (v := .int 2) (C := RX6) (T := TX6) (N := 11) hx hb hts fin_X6_readq_X6 hown hK hP 4 rfl rfl 0 (by decide) (hts (.fieldLink RX6 22 "PatternGate$Reader" "faultKind" "I") (List.mem_of_getElem? (i := 1) (by decide +kernel))) (fun _ h9 => h9) rfl dX6_read_190 ?_
            refine lv_if_ne (tgt := 200) hx hb dX6_read_193 (by decide) (fun k_10 => ?_) (fun k_10 => absurd k_10 (by decide))
            have tk_10 := c_ne (a := 2) (b := 0) (by decide) (by decide) k_10
            refine lv_iconst (v := 0) hx hb dX6_read_200 (by decide) ?_
            have hP9 := hP.sub (ws' := [(rd, .inr (6, rF r 2 y_2 fl fd fq i3 i4 fw)), (ba, .inl (cb, kb, .inl fb)), (r 0, .inl (cb0, 18, .inl gb)), (r 1, .inl (cb1, 18, .inl ge)), (r 2, .inl (cb2, 18, .inl gi))]) [4, 0, 1, 2, 3] rfl
            have hD9 := hD.sub (ws' := [(rd, .inr (6, rF r 2 y_2 fl fd fq i3 i4 fw)), (ba, .inl (cb, kb, .inl fb)), (r 0, .inl (cb0, 18, .inl gb)), (r 1, .inl (cb1, 18, .inl ge)), (r 2, .inl (cb2, 18, .inl gi))]) [4, 0, 1, 2, 3] (by decide) rfl
            have hK9 := hK.sub (tys' := [(cb, .int), (cb0, .int), (cb1, .int), (cb2, .boolean)]) [0, 1, 2, 3] rfl
            exact W.zret hx hb hr rfl (fun t ht hW => ⟨⟨_, 0, rfl, ⟨rfl, by decide⟩, 2, y_2, fl, fd, fq, fw, gb, ge, gi, (Or.inl ⟨rfl, by have h9 := (v52_1.resolve_left (fun h => h.1 (by omega))).2.2; rw [show i2.toInt = y_2.toInt by omega]; exact h9.tr (mv_endf (tc_end (by omega)) (by omega))⟩), by rw [ht]; exact hP9, va_K.moved hW.alike hK9, hD9⟩, hS.F ht⟩) hS.2.2 dX6_read_201
      · have tk_3 := c_nge (a := ax.toInt) (b := y_2.toInt) rfl rfl k_3
        refine lv_aload_n hx hb dX6_read_59 rfl (lv_at hl 2 rfl) ?_
        refine va_get (D := (dC, dI)) (ci := 6) (v := .int fa) (C := RX6) (T := TX6) (N := 11) hx hb hts fin_X6_readq_X6 hown hK hP 0 rfl rfl 0 (by decide) (hts (.fieldLink RX6 22 "PatternGate$Reader" "faultKind" "I") (List.mem_of_getElem? (i := 1) (by decide +kernel))) (fun _ h9 => h9) rfl dX6_read_60 ?_
        refine lv_if_ne (tgt := 168) hx hb dX6_read_63 (by decide) (fun k_11 => ?_) (fun k_11 => ?_)
        · have tk_11 := c_ne (a := fa.toInt) (b := 0) rfl (by decide) k_11
          refine lv_aload_n hx hb dX6_read_168 rfl (lv_at hl 2 rfl) ?_
          refine va_get (D := (dC, dI)) (ci := 6) (v := .int fa) (C := RX6) (T := TX6) (N := 11) hx hb hts fin_X6_readq_X6 hown hK hP 0 rfl rfl 0 (by decide) (hts (.fieldLink RX6 22 "PatternGate$Reader" "faultKind" "I") (List.mem_of_getElem? (i := 1) (by decide +kernel))) (fun _ h9 => h9) rfl dX6_read_169 ?_
          refine lv_if_ne (tgt := 189) hx hb dX6_read_172 (by decide) (fun k_12 => ?_) (fun k_12 => absurd k_12 k_11)
          have tk_12 := c_ne (a := fa.toInt) (b := 0) rfl (by decide) k_12
          refine lv_aload_n hx hb dX6_read_189 rfl (lv_at hl 2 rfl) ?_
          refine va_get (D := (dC, dI)) (ci := 6) (v := .int fa) (C := RX6) (T := TX6) (N := 11) hx hb hts fin_X6_readq_X6 hown hK hP 0 rfl rfl 0 (by decide) (hts (.fieldLink RX6 22 "PatternGate$Reader" "faultKind" "I") (List.mem_of_getElem? (i := 1) (by decide +kernel))) (fun _ h9 => h9) rfl dX6_read_190 ?_
          refine lv_if_ne (tgt := 200) hx hb dX6_read_193 (by decide) (fun k_13 => ?_) (fun k_13 => absurd k_13 k_12)
          have tk_13 := c_ne (a := fa.toInt) (b := 0) rfl (by decide) k_13
          refine lv_iconst (v := 0) hx hb dX6_read_200 (by decide) ?_
          have hP9 := hP.sub (ws' := [(rd, .inr (6, rF r fa fv fl fd fq i3 i4 fw)), (ba, .inl (cb, kb, .inl fb)), (r 0, .inl (cb0, 18, .inl gb)), (r 1, .inl (cb1, 18, .inl ge)), (r 2, .inl (cb2, 18, .inl gi))]) [0, 1, 2, 3, 4] rfl
          have hD9 := hD.sub (ws' := [(rd, .inr (6, rF r fa fv fl fd fq i3 i4 fw)), (ba, .inl (cb, kb, .inl fb)), (r 0, .inl (cb0, 18, .inl gb)), (r 1, .inl (cb1, 18, .inl ge)), (r 2, .inl (cb2, 18, .inl gi))]) [0, 1, 2, 3, 4] (by decide) rfl
          have hK9 := hK.sub (tys' := [(cb, .int), (cb0, .int), (cb1, .int), (cb2, .boolean)]) [0, 1, 2, 3] rfl
          exact W.zret hx hb hr rfl (fun t ht hW => ⟨⟨_, 0, rfl, ⟨rfl, by decide⟩, fa, fv, fl, fd, fq, fw, gb, ge, gi, (Or.inl ⟨rfl, by rw [show i2.toInt = y_2.toInt by omega]; exact (v52_1.resolve_right (fun h => absurd h.1 (by omega))).2⟩), by rw [ht]; exact hP9, va_K.moved hW.alike hK9, hD9⟩, hS.F ht⟩) hS.2.2 dX6_read_201
        · have tk_11 := c_eq (a := fa.toInt) (b := 0) rfl (by decide) k_11
          have hJL := (v52_1.resolve_left (fun h => h.1 (by omega))).2
          have hJ := hJL.1
          have hLd := hJL.2
          obtain ⟨-, j2, j3, j4, j5, j6, j7, j8, j9, j10⟩ := id hJ
          have hps9 := tc_pos (n := y_2.toInt) (k := ax.toInt) hpos (by omega) (by omega)
          refine lv_aload_n hx hb dX6_read_66 rfl (lv_at hl 3 rfl) ?_
          refine lv_iload hx hb dX6_read_67 (lv_at hl 0 rfl) ?_
          refine va_iald hx hb hK hP 1 0 rfl rfl (i := ax) (vp_of (a := ax.toInt) rfl (by omega) (by omega)) dX6_read_69 ?_
          refine lv_topi (fun y_14 ey_14 => ?_)
          have rg_y_14 := i_rng y_14
          have wy_14 := tc_ld (n := y_2.toInt) ey_14 (by omega)
          have rg_y_14 := i_rng y_14
          refine lv_istore (lv' := [(7, .int y_14), (6, .int ax), (5, .int y_2), (0, .ref rd), (1, .ref ba), (2, .int i2), (3, .int i3), (4, .int i4)]) hx hb dX6_read_70 hl (by decide) rfl (fun ls hl => ?_)
          refine lv_iload hx hb dX6_read_72 (lv_at hl 0 rfl) ?_
          have hPc := hP.sub (ws' := []) [] rfl
          have hKc := hK.sub (tys' := []) [] rfl
          have hDc := hD.sub (ws' := []) [] (by decide) rfl
          have hFc := va_free (wc := []) hD hS hA [] rfl
          refine va_calli (va_runSN (As := [.int y_14]) (rest := []) ⟨hx, hb, hml, hown, hts⟩ (s_isSmallW_q l dC dI H.size y_14) ⟨va_cnB 1 hts mg_X6_readq_X9_isSmall_53 rfl rfl rfl hN53 (hts (.initialized RX9) (List.mem_of_getElem? (i := 17) (by decide +kernel))) (by decide +kernel) ⟨Nat.le_of_ble_eq_true rfl, Nat.le_of_ble_eq_true rfl⟩, (hts (.static yX9_isSmall) (List.mem_of_getElem? (i := 18) (by decide +kernel))), trivial⟩ ⟨fun a U g mk q => by obtain ⟨q0, q1, qP, qK, qD⟩ := q; exact ⟨q0, q1, qP, va_K.moved (u := U) (U := U.calling g mk a) (Vm.Alike.refl U.vm) qK, qD⟩, fun U hU hW => ⟨rfl, by rw [hU], by rw [hU]; exact hPc, va_K.moved hW.alike hKc, hDc.weaken (fun _ _ _ _ => trivial)⟩⟩ rfl rfl hl.1 rfl (lv_room (Nat.le_of_ble_eq_true rfl)) dX6_read_74 ⟨Nat.le_of_ble_eq_true rfl, Nat.le_of_ble_eq_true rfl⟩) hS (fun q _ h => hFc q h) hFc (fun r_16 u t H1 locs ht hvm hw hB hz1 hk1 hS => ?_)
          have hr_16 := hw
          obtain ⟨hP, hD⟩ := va_join (wr := [(rd, .inr (6, rF r fa fv fl fd fq i3 i4 fw)), (ba, .inl (cb, kb, .inl fb)), (r 0, .inl (cb0, 18, .inl gb)), (r 1, .inl (cb1, 18, .inl ge)), (r 2, .inl (cb2, 18, .inl gi))]) (w1 := []) hP hD [] [0, 1, 2, 3, 4] rfl rfl (by decide) (by decide) hk1 hFc (fun k q h => by simp at h) ⟨fun i j p q h => by simp at h, fun k q h => by simp at h⟩
          generalize H1 = H at hP hS ⊢
          have hP : va_P (dC, dI) vwCl [(rd, .inr (6, rF r fa fv fl fd fq i3 i4 fw)), (ba, .inl (cb, kb, .inl fb)), (r 0, .inl (cb0, 18, .inl gb)), (r 1, .inl (cb1, 18, .inl ge)), (r 2, .inl (cb2, 18, .inl gi))] H := hP
          have hD : va_D A [(rd, .inr (6, rF r fa fv fl fd fq i3 i4 fw)), (ba, .inl (cb, kb, .inl fb)), (r 0, .inl (cb0, 18, .inl gb)), (r 1, .inl (cb1, 18, .inl ge)), (r 2, .inl (cb2, 18, .inl gi))] := hD
          refine lv_if_eq (tgt := 99) hx hb dX6_read_77 (by decide) (fun k_17 => ?_) (fun k_17 => ?_)
          · have tk_17 := c_eq (a := r_16.toInt) (b := 0) rfl (by decide) k_17
            refine lv_iload hx hb dX6_read_99 (lv_at hl 0 rfl) ?_
            refine lv_bipush (v := 34) hx hb dX6_read_101 (by decide) ?_
            refine lv_icmp_ne (tgt := 125) hx hb dX6_read_103 (by decide) (fun k_18 => ?_) (fun k_18 => ?_)
            · have tk_18 := c_ne (a := y_14.toInt) (b := 34) rfl (by decide) k_18
              refine lv_iload hx hb dX6_read_125 (lv_at hl 0 rfl) ?_
              refine lv_bipush (v := 59) hx hb dX6_read_127 (by decide) ?_
              refine lv_icmp_ne (tgt := 141) hx hb dX6_read_129 (by decide) (fun k_19 => ?_) (fun k_19 => ?_)
              · have tk_19 := c_ne (a := y_14.toInt) (b := 59) rfl (by decide) k_19
                refine lv_iload hx hb dX6_read_141 (lv_at hl 0 rfl) ?_
                refine lv_bipush (v := 32) hx hb dX6_read_143 (by decide) ?_
                refine lv_icmp_eq (tgt := 162) hx hb dX6_read_145 (by decide) (fun k_20 => ?_) (fun k_20 => ?_)
                · have tk_20 := c_eq (a := y_14.toInt) (b := 32) rfl (by decide) k_20
                  obtain ⟨y_21, ey_21⟩ : ∃ y : Int32, y = ax + 1 := ⟨_, rfl⟩
                  first | have ty_21 := i_add (a := ax.toInt) (b := 1) rfl (by decide) ey_21 (by omega) (by omega) | skip
                  refine lv_iinc (v := y_21) (lv' := [(6, .int y_21), (7, .int y_14), (5, .int y_2), (0, .ref rd), (1, .ref ba), (2, .int i2), (3, .int i3), (4, .int i4)]) hx hb dX6_read_162 hl (k := 1) rfl (by rw [ey_21]; rfl) (by decide) rfl (fun ls hl => ?_)
                  refine lv_goto (tgt := 52) hx hb dX6_read_165 (by decide) ?_
                  exact ih52 y_21 fa fv fl fd fq fw gb ge gi (by first | omega | assumption | decide) (Or.inr ⟨by omega, hJ.mono (by omega), by rw [show y_21.toInt = ax.toInt + 1 by omega]; exact hLd.tr (mv_sp (by omega))⟩) (by omega) _ _ ls hP hD hS (lv_sub hl [0, 2, 3, 4, 5, 6, 7] rfl)
                · have tk_20 := c_ne (a := y_14.toInt) (b := 32) rfl (by decide) k_20
                  refine lv_iload hx hb dX6_read_148 (lv_at hl 0 rfl) ?_
                  refine lv_bipush (v := 10) hx hb dX6_read_150 (by decide) ?_
                  refine lv_icmp_eq (tgt := 162) hx hb dX6_read_152 (by decide) (fun k_22 => ?_) (fun k_22 => ?_)
                  · have tk_22 := c_eq (a := y_14.toInt) (b := 10) rfl (by decide) k_22
                    obtain ⟨y_23, ey_23⟩ : ∃ y : Int32, y = ax + 1 := ⟨_, rfl⟩
                    first | have ty_23 := i_add (a := ax.toInt) (b := 1) rfl (by decide) ey_23 (by omega) (by omega) | skip
                    refine lv_iinc (v := y_23) (lv' := [(6, .int y_23), (7, .int y_14), (5, .int y_2), (0, .ref rd), (1, .ref ba), (2, .int i2), (3, .int i3), (4, .int i4)]) hx hb dX6_read_162 hl (k := 1) rfl (by rw [ey_23]; rfl) (by decide) rfl (fun ls hl => ?_)
                    refine lv_goto (tgt := 52) hx hb dX6_read_165 (by decide) ?_
                    exact ih52 y_23 fa fv fl fd fq fw gb ge gi (by first | omega | assumption | decide) (Or.inr ⟨by omega, hJ.mono (by omega), by rw [show y_23.toInt = ax.toInt + 1 by omega]; exact hLd.tr (mv_sp (by omega))⟩) (by omega) _ _ ls hP hD hS (lv_sub hl [0, 2, 3, 4, 5, 6, 7] rfl)
                  · have tk_22 := c_ne (a := y_14.toInt) (b := 10) rfl (by decide) k_22
                    refine lv_aload_n hx hb dX6_read_155 rfl (lv_at hl 3 rfl) ?_
                    refine lv_iconst (v := 1) hx hb dX6_read_156 (by decide) ?_
                    refine lv_iload hx hb dX6_read_157 (lv_at hl 1 rfl) ?_
                    have hPc := hP.sub (ws' := [(rd, .inr (6, rF r fa fv fl fd fq i3 i4 fw))]) [0] rfl
                    have hKc := hK.sub (tys' := []) [] rfl
                    have hDc := hD.sub (ws' := [(rd, .inr (6, rF r fa fv fl fd fq i3 i4 fw))]) [0] (by decide) rfl
                    have hFc := va_free (wc := [(rd, .inr (6, rF r fa fv fl fd fq i3 i4 fw))]) hD hS hA [0] rfl
                    refine va_callv (va_runV (As := [.int 1, .int ax]) (rest := []) ⟨hx, hb, hml, hown, hts⟩ (s_fail l dC dI rd r fa fv fl fd fq i3 i4 fw H.size 1 ax) (cwV 2 hts mg_X6_readq_X6_fail_71 rfl rfl rfl (by decide +kernel) ⟨Nat.le_of_ble_eq_true rfl, Nat.le_of_ble_eq_true rfl⟩) ⟨fun a U g mk q => by obtain ⟨q0, q1, qP, qK, qD⟩ := q; exact ⟨q0, q1, qP, va_K.moved (u := U) (U := U.calling g mk a) (Vm.Alike.refl U.vm) qK, qD⟩, va_recv hKc hPc (ci := 6) (q0 := 0) rfl rfl, fun U hU hW => ⟨rfl, by rw [hU], by rw [hU]; exact hPc, va_K.moved hW.alike hKc, hDc.weaken (fun _ _ _ _ => trivial)⟩⟩ rfl rfl hl.1 rfl (lv_room (Nat.le_of_ble_eq_true rfl)) dX6_read_159 ⟨Nat.le_of_ble_eq_true rfl, Nat.le_of_ble_eq_true rfl⟩) hS (fun q _ h => hFc q h) hFc (fun u t H1 locs ht hvm hw hB hz1 hk1 hS => ?_)
                    obtain ⟨hP1, hK1, hD1⟩ := hB
                    rw [ht] at hP1
                    obtain ⟨hP, hD⟩ := va_join (wr := [(ba, .inl (cb, kb, .inl fb)), (r 0, .inl (cb0, 18, .inl gb)), (r 1, .inl (cb1, 18, .inl ge)), (r 2, .inl (cb2, 18, .inl gi))]) (w1 := [(rd, .inr (6, rF r 1 ax fl fd fq i3 i4 fw))]) hP hD [0] [1, 2, 3, 4] rfl rfl (by decide) (by decide) hk1 hFc hP1 hD1
                    generalize H1 = H at hP hS ⊢
                    have hP : va_P (dC, dI) vwCl [(ba, .inl (cb, kb, .inl fb)), (r 0, .inl (cb0, 18, .inl gb)), (r 1, .inl (cb1, 18, .inl ge)), (r 2, .inl (cb2, 18, .inl gi)), (rd, .inr (6, rF r 1 ax fl fd fq i3 i4 fw))] H := hP
                    have hD : va_D A [(ba, .inl (cb, kb, .inl fb)), (r 0, .inl (cb0, 18, .inl gb)), (r 1, .inl (cb1, 18, .inl ge)), (r 2, .inl (cb2, 18, .inl gi)), (rd, .inr (6, rF r 1 ax fl fd fq i3 i4 fw))] := hD
                    obtain ⟨y_26, ey_26⟩ : ∃ y : Int32, y = ax + 1 := ⟨_, rfl⟩
                    first | have ty_26 := i_add (a := ax.toInt) (b := 1) rfl (by decide) ey_26 (by omega) (by omega) | skip
                    refine lv_iinc (v := y_26) (lv' := [(6, .int y_26), (7, .int y_14), (5, .int y_2), (0, .ref rd), (1, .ref ba), (2, .int i2), (3, .int i3), (4, .int i4)]) hx hb dX6_read_162 hl (k := 1) rfl (by rw [ey_26]; rfl) (by decide) rfl (fun ls hl => ?_)
                    refine lv_goto (tgt := 52) hx hb dX6_read_165 (by decide) ?_
                    have lit_26 : (1 : Int32).toInt = 1 := by decide
                    exact ih52 y_26 1 ax fl fd fq fw gb ge gi (by first | omega | assumption | decide) (Or.inl ⟨by decide, hLd.tr (mv_bad (by unfold isSm; omega) (by omega) (by omega) (by omega) (by omega) (by omega))⟩) (by omega) _ _ ls (hP.sub [4, 0, 1, 2, 3] rfl) (hD.sub [4, 0, 1, 2, 3] (by decide) rfl) hS (lv_sub hl [0, 2, 3, 4, 5, 6, 7] rfl)
              · have tk_19 := c_eq (a := y_14.toInt) (b := 59) rfl (by decide) k_19
                refine lv_aload_n hx hb dX6_read_132 rfl (lv_at hl 3 rfl) ?_
                refine lv_iload hx hb dX6_read_133 (lv_at hl 1 rfl) ?_
                have hPc := hP.sub (ws' := [(rd, .inr (6, rF r fa fv fl fd fq i3 i4 fw))]) [0] rfl
                have hKc := hK.sub (tys' := []) [] rfl
                have hDc := hD.sub (ws' := [(rd, .inr (6, rF r fa fv fl fd fq i3 i4 fw))]) [0] (by decide) rfl
                have hFc := va_free (wc := [(rd, .inr (6, rF r fa fv fl fd fq i3 i4 fw))]) hD hS hA [0] rfl
                refine va_callv (va_runV (As := [.int ax]) (rest := []) ⟨hx, hb, hml, hown, hts⟩ (s_readSemicolon_q l dC dI rd r fa fv fl fd fq i3 i4 fw H.size ax) (cwV 1 hts mg_X6_readq_X6_readSemicolon_67 rfl rfl rfl (by decide +kernel) ⟨Nat.le_of_ble_eq_true rfl, Nat.le_of_ble_eq_true rfl⟩) ⟨fun a U g mk q => by obtain ⟨q0, q1, qP, qK, qD⟩ := q; exact ⟨q0, q1, qP, va_K.moved (u := U) (U := U.calling g mk a) (Vm.Alike.refl U.vm) qK, qD⟩, va_recv hKc hPc (ci := 6) (q0 := 0) rfl rfl, fun U hU hW => ⟨rfl, by rw [hU], by rw [hU]; exact hPc, va_K.moved hW.alike hKc, hDc.weaken (fun _ _ _ _ => trivial)⟩⟩ rfl rfl hl.1 rfl (lv_room (Nat.le_of_ble_eq_true rfl)) dX6_read_135 ⟨Nat.le_of_ble_eq_true rfl, Nat.le_of_ble_eq_true rfl⟩) hS (fun q _ h => hFc q h) hFc (fun u t H1 locs ht hvm hw hB hz1 hk1 hS => ?_)
                obtain ⟨y_30, y_31, hsy_30, hP1, hK1, hD1⟩ := hB
                rw [ht] at hP1
                have rg_y_30 := i_rng y_30
                obtain ⟨hP, hD⟩ := va_join (wr := [(ba, .inl (cb, kb, .inl fb)), (r 0, .inl (cb0, 18, .inl gb)), (r 1, .inl (cb1, 18, .inl ge)), (r 2, .inl (cb2, 18, .inl gi))]) (w1 := [(rd, .inr (6, rF r y_30 y_31 fl fd fq i3 i4 0))]) hP hD [0] [1, 2, 3, 4] rfl rfl (by decide) (by decide) hk1 hFc hP1 hD1
                generalize H1 = H at hP hS ⊢
                have hP : va_P (dC, dI) vwCl [(ba, .inl (cb, kb, .inl fb)), (r 0, .inl (cb0, 18, .inl gb)), (r 1, .inl (cb1, 18, .inl ge)), (r 2, .inl (cb2, 18, .inl gi)), (rd, .inr (6, rF r y_30 y_31 fl fd fq i3 i4 0))] H := hP
                have hD : va_D A [(ba, .inl (cb, kb, .inl fb)), (r 0, .inl (cb0, 18, .inl gb)), (r 1, .inl (cb1, 18, .inl ge)), (r 2, .inl (cb2, 18, .inl gi)), (rd, .inr (6, rF r y_30 y_31 fl fd fq i3 i4 0))] := hD
                refine lv_goto (tgt := 162) hx hb dX6_read_138 (by decide) ?_
                obtain ⟨y_32, ey_32⟩ : ∃ y : Int32, y = ax + 1 := ⟨_, rfl⟩
                first | have ty_32 := i_add (a := ax.toInt) (b := 1) rfl (by decide) ey_32 (by omega) (by omega) | skip
                refine lv_iinc (v := y_32) (lv' := [(6, .int y_32), (7, .int y_14), (5, .int y_2), (0, .ref rd), (1, .ref ba), (2, .int i2), (3, .int i3), (4, .int i4)]) hx hb dX6_read_162 hl (k := 1) rfl (by rw [ey_32]; rfl) (by decide) rfl (fun ls hl => ?_)
                refine lv_goto (tgt := 52) hx hb dX6_read_165 (by decide) ?_
                have lit_32 : (0 : Int32).toInt = 0 := by decide
                exact ih52 y_32 y_30 y_31 fl fd fq 0 gb ge gi (by first | omega | assumption | decide) (by rcases hsy_30 with ⟨h8, h9⟩ | ⟨h8, h9⟩; exact Or.inr ⟨by rw [h9]; omega, hJ.semi.mono (by omega), by rw [show y_32.toInt = ax.toInt + 1 by omega, show (0 : Int32).toInt = 0 by decide]; have h7 := hLd; rw [h8] at h7; exact h7.tr (mv_sc (by omega))⟩; exact Or.inl ⟨by rw [h9]; decide, hLd.tr (mv_scf (by omega) h8)⟩) (by omega) _ _ ls (hP.sub [4, 0, 1, 2, 3] rfl) (hD.sub [4, 0, 1, 2, 3] (by decide) rfl) hS (lv_sub hl [0, 2, 3, 4, 5, 6, 7] rfl)
            · have tk_18 := c_eq (a := y_14.toInt) (b := 34) rfl (by decide) k_18
              refine lv_iload hx hb dX6_read_106 (lv_at hl 1 rfl) ?_
              refine lv_aload_n hx hb dX6_read_108 rfl (lv_at hl 3 rfl) ?_
              refine lv_aload_n hx hb dX6_read_109 rfl (lv_at hl 4 rfl) ?_
              refine lv_iload hx hb dX6_read_110 (lv_at hl 1 rfl) ?_
              refine lv_iload hx hb dX6_read_112 (lv_at hl 2 rfl) ?_
              have hPc := hP.sub (ws' := [(rd, .inr (6, rF r fa fv fl fd fq i3 i4 fw)), (ba, .inl (cb, kb, .inl fb)), (r 0, .inl (cb0, 18, .inl gb)), (r 1, .inl (cb1, 18, .inl ge)), (r 2, .inl (cb2, 18, .inl gi))]) [0, 1, 2, 3, 4] rfl
              have hKc := hK.sub (tys' := [(cb, .int), (cb0, .int), (cb1, .int), (cb2, .boolean)]) [0, 1, 2, 3] rfl
              have hDc := hD.sub (ws' := [(rd, .inr (6, rF r fa fv fl fd fq i3 i4 fw)), (ba, .inl (cb, kb, .inl fb)), (r 0, .inl (cb0, 18, .inl gb)), (r 1, .inl (cb1, 18, .inl ge)), (r 2, .inl (cb2, 18, .inl gi))]) [0, 1, 2, 3, 4] (by decide) rfl
              have hFc := va_free (wc := [(rd, .inr (6, rF r fa fv fl fd fq i3 i4 fw)), (ba, .inl (cb, kb, .inl fb)), (r 0, .inl (cb0, 18, .inl gb)), (r 1, .inl (cb1, 18, .inl ge)), (r 2, .inl (cb2, 18, .inl gi))]) hD hS hA [0, 1, 2, 3, 4] rfl
              refine va_calli (va_runV (As := [.ref ba, .int ax, .int y_2]) (rest := [.int ax]) ⟨hx, hb, hml, hown, hts⟩ (s_readQuote_q l dC dI rd r fa fv fl fd fq i3 i4 fw ba kb cb cb0 cb1 cb2 fb gb ge gi H.size ax y_2 (by omega) (by omega) (by omega) hJ (by omega)) (cwV 3 hts mg_X6_readq_X6_readQuote_64 rfl rfl rfl (by decide +kernel) ⟨Nat.le_of_ble_eq_true rfl, Nat.le_of_ble_eq_true rfl⟩) ⟨fun a U g mk q => by obtain ⟨q0, q1, qP, qK, qD, qE0⟩ := q; exact ⟨q0, q1, qP, va_K.moved (u := U) (U := U.calling g mk a) (Vm.Alike.refl U.vm) qK, qD, va_Nw.same rfl (rfl : U.vm = (U.calling g mk a).vm) qE0⟩, va_recv hKc hPc (ci := 6) (q0 := 0) rfl rfl, fun U hU hW => ⟨rfl, by rw [hU], by rw [hU]; exact hPc, va_K.moved hW.alike hKc, hDc.weaken (fun _ _ _ _ => trivial), va_Nw.warmM hW hN53⟩⟩ rfl rfl hl.1 rfl (lv_room (Nat.le_of_ble_eq_true rfl)) dX6_read_114 ⟨Nat.le_of_ble_eq_true rfl, Nat.le_of_ble_eq_true rfl⟩) hS (fun q _ h => hFc q h) hFc (fun r_35 u t H1 locs ht hvm hw hB hz1 hk1 hS => ?_)
              obtain ⟨hu9, hr_35⟩ := hw
              obtain ⟨y_36, y_37, y_38, y_39, y_40, y_41, f_42, f_43, f_44, hJ9, qr_35, hP1, hK1, hD1⟩ := hB
              rw [← hu9] at hJ9 qr_35
              rw [ht] at hP1
              have rg_y_36 := i_rng y_36
              have rg_y_37 := i_rng y_37
              have rg_y_38 := i_rng y_38
              have rg_y_39 := i_rng y_39
              have rg_y_40 := i_rng y_40
              have rg_y_41 := i_rng y_41
              have rg_r_35 := i_rng r_35
              obtain ⟨hP, hD⟩ := va_join (wr := []) (w1 := [(rd, .inr (6, rF r y_36 y_37 y_38 y_39 y_40 i3 i4 y_41)), (ba, .inl (cb, kb, .inl fb)), (r 0, .inl (cb0, 18, .inl f_42)), (r 1, .inl (cb1, 18, .inl f_43)), (r 2, .inl (cb2, 18, .inl f_44))]) hP hD [0, 1, 2, 3, 4] [] rfl rfl (by decide) (by decide) hk1 hFc hP1 hD1
              generalize H1 = H at hP hS ⊢
              have hP : va_P (dC, dI) vwCl [(rd, .inr (6, rF r y_36 y_37 y_38 y_39 y_40 i3 i4 y_41)), (ba, .inl (cb, kb, .inl fb)), (r 0, .inl (cb0, 18, .inl f_42)), (r 1, .inl (cb1, 18, .inl f_43)), (r 2, .inl (cb2, 18, .inl f_44))] H := hP
              have hD : va_D A [(rd, .inr (6, rF r y_36 y_37 y_38 y_39 y_40 i3 i4 y_41)), (ba, .inl (cb, kb, .inl fb)), (r 0, .inl (cb0, 18, .inl f_42)), (r 1, .inl (cb1, 18, .inl f_43)), (r 2, .inl (cb2, 18, .inl f_44))] := hD
              refine va_mmax hx hb (hml.trans hl.1.symm) hown (hts (.methodLink RX6 61 Lib.Math.max.name) (List.mem_of_getElem? (i := 25) (by decide +kernel))) (hts (.static Lib.Math.max.name) (List.mem_of_getElem? (i := 26) (by decide +kernel))) (hts (.initialized "java/lang/Math") (List.mem_of_getElem? (i := 11) (by decide +kernel))) (hts (.code Lib.Math.max.name Lib.Math.max.code 2 (some .int)) (List.mem_of_getElem? (i := 27) (by decide +kernel))) (Nat.le_of_ble_eq_true rfl) (Nat.le_of_ble_eq_true rfl) (Nat.le_of_ble_eq_true rfl) (Nat.le_of_ble_eq_true rfl) dX6_read_117 ?_
              refine lv_topi (fun y_45 ey_45 => ?_)
              have ty_45 := i_max (a := ax.toInt) (b := r_35.toInt) rfl rfl ey_45
              refine lv_istore (lv' := [(6, .int y_45), (7, .int y_14), (5, .int y_2), (0, .ref rd), (1, .ref ba), (2, .int i2), (3, .int i3), (4, .int i4)]) hx hb dX6_read_120 hl (by decide) rfl (fun ls hl => ?_)
              refine lv_goto (tgt := 162) hx hb dX6_read_122 (by decide) ?_
              obtain ⟨y_46, ey_46⟩ : ∃ y : Int32, y = y_45 + 1 := ⟨_, rfl⟩
              first | have ty_46 := i_add (a := y_45.toInt) (b := 1) rfl (by decide) ey_46 (by omega) (by omega) | skip
              refine lv_iinc (v := y_46) (lv' := [(6, .int y_46), (7, .int y_14), (5, .int y_2), (0, .ref rd), (1, .ref ba), (2, .int i2), (3, .int i3), (4, .int i4)]) hx hb dX6_read_162 hl (k := 0) rfl (by rw [ey_46]; rfl) (by decide) rfl (fun ls hl => ?_)
              refine lv_goto (tgt := 52) hx hb dX6_read_165 (by decide) ?_
              exact ih52 y_46 y_36 y_37 y_38 y_39 y_40 y_41 f_42 f_43 f_44 (by first | omega | assumption | decide) (by rw [show y_46.toInt = r_35.toInt + 1 by omega]; exact rd_back hLd qr_35 (hJ9.imp_right (fun h => h.mono (by omega)))) (by omega) _ _ ls hP hD hS (lv_sub hl [0, 2, 3, 4, 5, 6, 7] rfl)
          · have tk_17 := c_ne (a := r_16.toInt) (b := 0) rfl (by decide) k_17
            refine lv_iload hx hb dX6_read_80 (lv_at hl 1 rfl) ?_
            refine lv_aload_n hx hb dX6_read_82 rfl (lv_at hl 3 rfl) ?_
            refine lv_aload_n hx hb dX6_read_83 rfl (lv_at hl 4 rfl) ?_
            refine lv_iload hx hb dX6_read_84 (lv_at hl 1 rfl) ?_
            refine lv_iload hx hb dX6_read_86 (lv_at hl 2 rfl) ?_
            have hPc := hP.sub (ws' := [(rd, .inr (6, rF r fa fv fl fd fq i3 i4 fw)), (ba, .inl (cb, kb, .inl fb))]) [0, 1] rfl
            have hKc := hK.sub (tys' := [(cb, .int)]) [0] rfl
            have hDc := hD.sub (ws' := [(rd, .inr (6, rF r fa fv fl fd fq i3 i4 fw)), (ba, .inl (cb, kb, .inl fb))]) [0, 1] (by decide) rfl
            have hFc := va_free (wc := [(rd, .inr (6, rF r fa fv fl fd fq i3 i4 fw)), (ba, .inl (cb, kb, .inl fb))]) hD hS hA [0, 1] rfl
            refine va_calli (va_runV (As := [.ref ba, .int ax, .int y_2]) (rest := [.int ax]) ⟨hx, hb, hml, hown, hts⟩ (s_readWord_q l dC dI rd r fa fv fl fd fq i3 i4 fw ba kb cb fb H.size ax y_2 (by omega) (by omega) (by omega) (by omega) (by omega) (by omega) (by omega) (by unfold isSm; omega)) (cwV 3 hts mg_X6_readq_X6_readWord_57 rfl rfl rfl (by decide +kernel) ⟨Nat.le_of_ble_eq_true rfl, Nat.le_of_ble_eq_true rfl⟩) ⟨fun a U g mk q => by obtain ⟨q0, q1, qP, qK, qD, qE0, qE1⟩ := q; exact ⟨q0, q1, qP, va_K.moved (u := U) (U := U.calling g mk a) (Vm.Alike.refl U.vm) qK, qD, va_Nw.same rfl (rfl : U.vm = (U.calling g mk a).vm) qE0, sR2.call qE1⟩, va_recv hKc hPc (ci := 6) (q0 := 0) rfl rfl, fun U hU hW => ⟨rfl, by rw [hU], by rw [hU]; exact hPc, va_K.moved hW.alike hKc, hDc.weaken (fun _ _ _ _ => trivial), va_Nw.warmM hW hN53, sR2.to hSR hS hFc hW hU⟩⟩ rfl rfl hl.1 rfl (lv_room (Nat.le_of_ble_eq_true rfl)) dX6_read_88 ⟨Nat.le_of_ble_eq_true rfl, Nat.le_of_ble_eq_true rfl⟩) hS (fun q _ h => hFc q h) hFc (fun r_48 u t H1 locs ht hvm hw hB hz1 hk1 hS => ?_)
            obtain ⟨hu9, hr_48⟩ := hw
            obtain ⟨y_49, y_50, y_51, hy_51, qr_48, hP1, hK1, hD1⟩ := hB
            rw [← hu9] at qr_48
            rw [ht] at hP1
            have rg_y_49 := i_rng y_49
            have rg_y_51 := i_rng y_51
            have rg_r_48 := i_rng r_48
            obtain ⟨hP, hD⟩ := va_join (wr := [(r 0, .inl (cb0, 18, .inl gb)), (r 1, .inl (cb1, 18, .inl ge)), (r 2, .inl (cb2, 18, .inl gi))]) (w1 := [(rd, .inr (6, rF r y_49 y_50 fl fd fq i3 i4 y_51)), (ba, .inl (cb, kb, .inl fb))]) hP hD [0, 1] [2, 3, 4] rfl rfl (by decide) (by decide) hk1 hFc hP1 hD1
            generalize H1 = H at hP hS ⊢
            have hP : va_P (dC, dI) vwCl [(r 0, .inl (cb0, 18, .inl gb)), (r 1, .inl (cb1, 18, .inl ge)), (r 2, .inl (cb2, 18, .inl gi)), (rd, .inr (6, rF r y_49 y_50 fl fd fq i3 i4 y_51)), (ba, .inl (cb, kb, .inl fb))] H := hP
            have hD : va_D A [(r 0, .inl (cb0, 18, .inl gb)), (r 1, .inl (cb1, 18, .inl ge)), (r 2, .inl (cb2, 18, .inl gi)), (rd, .inr (6, rF r y_49 y_50 fl fd fq i3 i4 y_51)), (ba, .inl (cb, kb, .inl fb))] := hD
            refine va_mmax hx hb (hml.trans hl.1.symm) hown (hts (.methodLink RX6 61 Lib.Math.max.name) (List.mem_of_getElem? (i := 25) (by decide +kernel))) (hts (.static Lib.Math.max.name) (List.mem_of_getElem? (i := 26) (by decide +kernel))) (hts (.initialized "java/lang/Math") (List.mem_of_getElem? (i := 11) (by decide +kernel))) (hts (.code Lib.Math.max.name Lib.Math.max.code 2 (some .int)) (List.mem_of_getElem? (i := 27) (by decide +kernel))) (Nat.le_of_ble_eq_true rfl) (Nat.le_of_ble_eq_true rfl) (Nat.le_of_ble_eq_true rfl) (Nat.le_of_ble_eq_true rfl) dX6_read_91 ?_
            refine lv_topi (fun y_52 ey_52 => ?_)
            have ty_52 := i_max (a := ax.toInt) (b := r_48.toInt) rfl rfl ey_52
            refine lv_istore (lv' := [(6, .int y_52), (7, .int y_14), (5, .int y_2), (0, .ref rd), (1, .ref ba), (2, .int i2), (3, .int i3), (4, .int i4)]) hx hb dX6_read_94 hl (by decide) rfl (fun ls hl => ?_)
            refine lv_goto (tgt := 162) hx hb dX6_read_96 (by decide) ?_
            obtain ⟨y_53, ey_53⟩ : ∃ y : Int32, y = y_52 + 1 := ⟨_, rfl⟩
            first | have ty_53 := i_add (a := y_52.toInt) (b := 1) rfl (by decide) ey_53 (by omega) (by omega) | skip
            refine lv_iinc (v := y_53) (lv' := [(6, .int y_53), (7, .int y_14), (5, .int y_2), (0, .ref rd), (1, .ref ba), (2, .int i2), (3, .int i3), (4, .int i4)]) hx hb dX6_read_162 hl (k := 0) rfl (by rw [ey_53]; rfl) (by decide) rfl (fun ls hl => ?_)
            refine lv_goto (tgt := 52) hx hb dX6_read_165 (by decide) ?_
            exact ih52 y_53 y_49 y_50 fl fd fq y_51 gb ge gi (by first | omega | assumption | decide) (by have h9 := (hJ.word hy_51).imp_right (fun h => h.mono (show ax.toInt ≤ r_48.toInt + 1 by omega)); rw [show y_53.toInt = r_48.toInt + 1 by omega]; exact rd_back hLd qr_48 h9) (by omega) _ _ ls (hP.sub [3, 4, 0, 1, 2] rfl) (hD.sub [3, 4, 0, 1, 2] (by decide) rfl) hS (lv_sub hl [0, 2, 3, 4, 5, 6, 7] rfl)
  have lit_53 : (0 : Int32).toInt = 0 := by decide
  have lit_54 : (0 : Int32).toInt = 0 := by decide
  have lit_55 : ((-1) : Int32).toInt = (-1) := by decide
  have lit_56 : (0 : Int32).toInt = 0 := by decide
  have lit_57 : (0 : Int32).toInt = 0 := by decide
  have lit_58 : (0 : Int32).toInt = 0 := by decide
  have lit_59 : (0 : Int32).toInt = 0 := by decide
  exact loop52 _ 0 0 (-1) 0 0 0 0 fb0 fb1 fb2 (by first | omega | assumption | decide) (Or.inr ⟨by decide, rJ.zero h3 h4, by rw [show (0 : Int32).toInt = 0 by decide, show i3.toInt + 0 = i3.toInt by omega, show i4.toInt + 0 = i4.toInt by omega]; exact Ld.rf⟩) (Nat.lt_succ_self _) _ _ ls hP hD hS (lv_sub hl [0, 1, 2, 3, 4, 5, 6] rfl)
def mwX9_readTapeq : List Cond := .code yX9_readTape cX9_readTape 5 (some .boolean) :: (([.fieldLink RX9 43 "PatternGate" "reader" "LPatternGate$Reader;", .fieldLink RX9 9 "PatternGate" "tape" "[I", .methodLink RX9 293 yX6_read, .instanceMethod yX6_read, .selects RX6 yX6_read yX6_read, .initialized RX6, .fieldLink RX9 297 "PatternGate$Reader" "faultKind" "I", .fieldLink RX9 13 "PatternGate" "faultKind" "I", .fieldLink RX9 298 "PatternGate$Reader" "faultPlace" "I", .fieldLink RX9 17 "PatternGate" "faultPlace" "I", .fieldLink RX9 73 "PatternGate" "taped" "I"] : List Cond) ++ (wsX90 ++ (wsX60 ++ (mwX6_readq))))
theorem fin_X9_readTapeq_X6 : ∀ w ∈ wsX60, w ∈ mwX9_readTapeq := fun w h => List.mem_cons_of_mem _ (List.mem_append_right _ (List.mem_append_right _ (List.mem_append_left _ h)))
theorem fin_X9_readTapeq_X9 : ∀ w ∈ wsX90, w ∈ mwX9_readTapeq := fun w h => List.mem_cons_of_mem _ (List.mem_append_right _ (List.mem_append_left _ h))
set_option maxRecDepth 100000 in
theorem gd_mwX6_readq : mwX6_readq.all goodWord = true := by decide +kernel
set_option maxRecDepth 20000 in
theorem mg_X9_readTapeq_X6_read_293 : GoodIn mwX9_readTapeq (wsV RX9 293 RX6 yX6_read mwX6_readq) := gi_app (A := [.methodLink RX9 293 yX6_read, .instanceMethod yX6_read, .selects RX6 yX6_read yX6_read, .initialized RX6]) (goodIn_r _ [3, 4, 5, 6] (by decide +kernel) (by decide +kernel)) (gi_sub gd_mwX6_readq (fun w h => List.mem_cons_of_mem _ (List.mem_append_right _ (List.mem_append_right _ (List.mem_append_right _ (h))))))
set_option maxHeartbeats 4000000 in
set_option maxRecDepth 100000 in
/-- gate: readTape: what it reads -/
theorem s_g_readTape_q (l : Launch) (dC : Nat → ClassId) (dI : Nat → Nat → Nat) (gt tp bk mb mu rd cm wk pp so ty : Nat) (st9 td fk fpl un mk : Int32) (r : Nat → Nat) (q0 q1 q2 q3 q4 q5 q6 q7 : Int32) (ctp cb0 cb1 cb2 : ClassId) (ftp fb0 fb1 fb2 : Nat → Int32) (sz : Nat) (i2 i3 i4 : Int32) (h2 : 0 ≤ i2.toInt ∧ i2.toInt ≤ 900) (h3 : 0 ≤ i3.toInt ∧ i3.toInt ≤ 10) (h4 : 0 ≤ i4.toInt ∧ i4.toInt ≤ 8) (hpos : ∀ z : Int, 0 ≤ z → 0 ≤ vI ftp z) : Met l yX9_readTape mwX9_readTapeq ({ frames := 7, cells := 0, slots := 0, locals := 420 }) (va_Pc [.ref gt, .int i2, .int i3, .int i4] (fun U => U.heap.size = sz ∧ va_P (dC, dI) vwCl ([(gt, .inr (9, [.int st9, .ref tp, .int td, .int fk, .int fpl, .ref bk, .int un, .ref mb, .ref mu, .int mk, .ref rd, .ref cm, .ref wk, .ref pp, .ref so, .ref ty])), (tp, .inl (ctp, 900, .inl ftp)), (rd, .inr (6, rF r q0 q1 q2 q3 q4 q5 q6 q7)), (r 0, .inl (cb0, 18, .inl fb0)), (r 1, .inl (cb1, 18, .inl fb1)), (r 2, .inl (cb2, 18, .inl fb2))]) U.heap ∧ va_K (dC, dI) vwCl ([(ctp, .int), (cb0, .int), (cb1, .int), (cb2, .boolean)]) U ∧ va_D (fun _ => True) ([(gt, .inr (9, [.int st9, .ref tp, .int td, .int fk, .int fpl, .ref bk, .int un, .ref mb, .ref mu, .int mk, .ref rd, .ref cm, .ref wk, .ref pp, .ref so, .ref ty])), (tp, .inl (ctp, 900, .inl ftp)), (rd, .inr (6, rF r q0 q1 q2 q3 q4 q5 q6 q7)), (r 0, .inl (cb0, 18, .inl fb0)), (r 1, .inl (cb1, 18, .inl fb1)), (r 2, .inl (cb2, 18, .inl fb2))]) ∧ va_Nw (.methodLinkNest RX6 53 yX9_isSmall "PatternGate") U ∧ sR2 (va_A ([(gt, .inr (9, [.int st9, .ref tp, .int td, .int fk, .int fpl, .ref bk, .int un, .ref mb, .ref mu, .int mk, .ref rd, .ref cm, .ref wk, .ref pp, .ref so, .ref ty])), (tp, .inl (ctp, 900, .inl ftp)), (rd, .inr (6, rF r q0 q1 q2 q3 q4 q5 q6 q7)), (r 0, .inl (cb0, 18, .inl fb0)), (r 1, .inl (cb1, 18, .inl fb1)), (r 2, .inl (cb2, 18, .inl fb2))]) sz) U U.heap)) (va_Qi (fun (o9 : Int32) (u : Int32) => o9 = u ∧ (u = 0 ∨ u = 1)) (fun u t => ∃ (y0 y1 y2 y3 y4 y7 : Int32) (f0 f1 f2 : Nat → Int32), (u = 0 ∧ Ld (tc ftp i2.toInt) (zTop 0 0 i3.toInt i4.toInt) (zOut (-1)) ∨ u = 1 ∧ rJ f0 f1 f2 901 y2 y3 y4 i3 i4 y7 ∧ Ld (tc ftp i2.toInt) (zTop 0 0 i3.toInt i4.toInt) (zOut (i3.toInt + y3.toInt))) ∧ va_P (dC, dI) vwCl [(gt, .inr (9, [.int st9, .ref tp, .int 0, .int y0, .int y1, .ref bk, .int un, .ref mb, .ref mu, .int mk, .ref rd, .ref cm, .ref wk, .ref pp, .ref so, .ref ty])), (tp, .inl (ctp, 900, .inl ftp)), (rd, .inr (6, rF r y0 y1 y2 y3 y4 i3 i4 y7)), (r 0, .inl (cb0, 18, .inl f0)), (r 1, .inl (cb1, 18, .inl f1)), (r 2, .inl (cb2, 18, .inl f2))] t.heap ∧ va_K (dC, dI) vwCl [(ctp, .int), (cb0, .int), (cb1, .int), (cb2, .boolean)] t ∧ va_D (va_A ([(gt, .inr (9, [.int st9, .ref tp, .int td, .int fk, .int fpl, .ref bk, .int un, .ref mb, .ref mu, .int mk, .ref rd, .ref cm, .ref wk, .ref pp, .ref so, .ref ty])), (tp, .inl (ctp, 900, .inl ftp)), (rd, .inr (6, rF r q0 q1 q2 q3 q4 q5 q6 q7)), (r 0, .inl (cb0, 18, .inl fb0)), (r 1, .inl (cb1, 18, .inl fb1)), (r 2, .inl (cb2, 18, .inl fb2))]) sz) [(gt, .inr (9, [.int st9, .ref tp, .int 0, .int y0, .int y1, .ref bk, .int un, .ref mb, .ref mu, .int mk, .ref rd, .ref cm, .ref wk, .ref pp, .ref so, .ref ty])), (tp, .inl (ctp, 900, .inl ftp)), (rd, .inr (6, rF r y0 y1 y2 y3 y4 i3 i4 y7)), (r 0, .inl (cb0, 18, .inl f0)), (r 1, .inl (cb1, 18, .inl f1)), (r 2, .inl (cb2, 18, .inl f2))]) (va_A ([(gt, .inr (9, [.int st9, .ref tp, .int td, .int fk, .int fpl, .ref bk, .int un, .ref mb, .ref mu, .int mk, .ref rd, .ref cm, .ref wk, .ref pp, .ref so, .ref ty])), (tp, .inl (ctp, 900, .inl ftp)), (rd, .inr (6, rF r q0 q1 q2 q3 q4 q5 q6 q7)), (r 0, .inl (cb0, 18, .inl fb0)), (r 1, .inl (cb1, 18, .inl fb1)), (r 2, .inl (cb2, 18, .inl fb2))]) sz)) 0 0 (va_A ([(gt, .inr (9, [.int st9, .ref tp, .int td, .int fk, .int fpl, .ref bk, .int un, .ref mb, .ref mu, .int mk, .ref rd, .ref cm, .ref wk, .ref pp, .ref so, .ref ty])), (tp, .inl (ctp, 900, .inl ftp)), (rd, .inr (6, rF r q0 q1 q2 q3 q4 q5 q6 q7)), (r 0, .inl (cb0, 18, .inl fb0)), (r 1, .inl (cb1, 18, .inl fb1)), (r 2, .inl (cb2, 18, .inl fb2))]) sz) := by
  refine Met.ofW (cc := cX9_readTape) (maxL := 5) (ret := (some .boolean)) (by decide +kernel) rfl ?_
  intro p e s m args below meth c s₁ B hml hv
  obtain ⟨rfl, hsz, hP, hK, hD0, hN53, hSR⟩ := hv
  have hx := B.exec
  have hb := B.bytes
  have hr := B.returns
  have hts := atoms_spec (ws := mwX9_readTapeq) B.pre
  have hown : s.vm.findClass RX9 = some m.cls := findClass_of_methodNamed B.named
  have hlocks := B.notSynchronized
  subst hsz
  have hD := hD0.self (sz := s.heap.size)
  generalize hAe : va_A ([(gt, .inr (9, [.int st9, .ref tp, .int td, .int fk, .int fpl, .ref bk, .int un, .ref mb, .ref mu, .int mk, .ref rd, .ref cm, .ref wk, .ref pp, .ref so, .ref ty])), (tp, .inl (ctp, 900, .inl ftp)), (rd, .inr (6, rF r q0 q1 q2 q3 q4 q5 q6 q7)), (r 0, .inl (cb0, 18, .inl fb0)), (r 1, .inl (cb1, 18, .inl fb1)), (r 2, .inl (cb2, 18, .inl fb2))]) s.heap.size = A at hD hSR ⊢
  have hA : ∀ q : Nat, s.heap.size ≤ q → A q := fun q h => by rw [← hAe]; exact Or.inr h
  have hP : va_P (dC, dI) vwCl [(gt, .inr (9, [.int st9, .ref tp, .int td, .int fk, .int fpl, .ref bk, .int un, .ref mb, .ref mu, .int mk, .ref rd, .ref cm, .ref wk, .ref pp, .ref so, .ref ty])), (tp, .inl (ctp, 900, .inl ftp)), (rd, .inr (6, rF r q0 q1 q2 q3 q4 q5 q6 q7)), (r 0, .inl (cb0, 18, .inl fb0)), (r 1, .inl (cb1, 18, .inl fb1)), (r 2, .inl (cb2, 18, .inl fb2))] s.heap := hP
  have hD : va_D A [(gt, .inr (9, [.int st9, .ref tp, .int td, .int fk, .int fpl, .ref bk, .int un, .ref mb, .ref mu, .int mk, .ref rd, .ref cm, .ref wk, .ref pp, .ref so, .ref ty])), (tp, .inl (ctp, 900, .inl ftp)), (rd, .inr (6, rF r q0 q1 q2 q3 q4 q5 q6 q7)), (r 0, .inl (cb0, 18, .inl fb0)), (r 1, .inl (cb1, 18, .inl fb1)), (r 2, .inl (cb2, 18, .inl fb2))] := hD
  have hK : va_K (dC, dI) vwCl [(ctp, .int), (cb0, .int), (cb1, .int), (cb2, .boolean)] s := hK
  generalize hH : s.heap = H at hP ⊢
  have hS : va_S A s.heap H [] := by rw [← hH]; exact va_S.rf
  have hl := lv_entry ([.ref gt, .int i2, .int i3, .int i4]) (n := 5) (Nat.le_of_ble_eq_true rfl)
  rw [lg_entry_eq]
  generalize (lg_sl ([.ref gt, .int i2, .int i3, .int i4]) ++ List.replicate (5 - (lg_sl ([.ref gt, .int i2, .int i3, .int i4])).length) Slot.unset).toArray = ls at hl ⊢
  have hl : lv_has ls 5 [(0, .ref gt), (1, .int i2), (2, .int i3), (3, .int i4)] := hl
  have rg_i2 := i_rng i2
  have rg_i3 := i_rng i3
  have rg_i4 := i_rng i4
  refine lv_aload_n hx hb dX9_readTape_0 rfl (lv_at hl 0 rfl) ?_
  refine va_get (D := (dC, dI)) (ci := 9) (v := .ref rd) (C := RX9) (T := TX9) (N := 16) hx hb hts fin_X9_readTapeq_X9 hown hK hP 0 rfl rfl 10 (by decide) (hts (.fieldLink RX9 43 "PatternGate" "reader" "LPatternGate$Reader;") (List.mem_of_getElem? (i := 1) (by decide +kernel))) (fun _ h9 => h9) rfl dX9_readTape_1 ?_
  refine lv_aload_n hx hb dX9_readTape_4 rfl (lv_at hl 0 rfl) ?_
  refine va_get (D := (dC, dI)) (ci := 9) (v := .ref tp) (C := RX9) (T := TX9) (N := 16) hx hb hts fin_X9_readTapeq_X9 hown hK hP 0 rfl rfl 1 (by decide) (hts (.fieldLink RX9 9 "PatternGate" "tape" "[I") (List.mem_of_getElem? (i := 2) (by decide +kernel))) (fun _ h9 => h9) rfl dX9_readTape_5 ?_
  refine lv_iload_n hx hb dX9_readTape_8 rfl (lv_at hl 1 rfl) ?_
  refine lv_iload_n hx hb dX9_readTape_9 rfl (lv_at hl 2 rfl) ?_
  refine lv_iload_n hx hb dX9_readTape_10 rfl (lv_at hl 3 rfl) ?_
  have hPc := hP.sub (ws' := [(rd, .inr (6, rF r q0 q1 q2 q3 q4 q5 q6 q7)), (tp, .inl (ctp, 900, .inl ftp)), (r 0, .inl (cb0, 18, .inl fb0)), (r 1, .inl (cb1, 18, .inl fb1)), (r 2, .inl (cb2, 18, .inl fb2))]) [2, 1, 3, 4, 5] rfl
  have hKc := hK.sub (tys' := [(ctp, .int), (cb0, .int), (cb1, .int), (cb2, .boolean)]) [0, 1, 2, 3] rfl
  have hDc := hD.sub (ws' := [(rd, .inr (6, rF r q0 q1 q2 q3 q4 q5 q6 q7)), (tp, .inl (ctp, 900, .inl ftp)), (r 0, .inl (cb0, 18, .inl fb0)), (r 1, .inl (cb1, 18, .inl fb1)), (r 2, .inl (cb2, 18, .inl fb2))]) [2, 1, 3, 4, 5] (by decide) rfl
  have hFc := va_free (wc := [(rd, .inr (6, rF r q0 q1 q2 q3 q4 q5 q6 q7)), (tp, .inl (ctp, 900, .inl ftp)), (r 0, .inl (cb0, 18, .inl fb0)), (r 1, .inl (cb1, 18, .inl fb1)), (r 2, .inl (cb2, 18, .inl fb2))]) hD hS hA [2, 1, 3, 4, 5] rfl
  refine va_calli (va_runV (As := [.ref tp, .int i2, .int i3, .int i4]) (rest := []) ⟨hx, hb, hml, hown, hts⟩ (s_read_q l dC dI rd r q0 q1 q2 q3 q4 q5 q6 q7 tp 900 ctp cb0 cb1 cb2 ftp fb0 fb1 fb2 H.size i2 i3 i4 (by omega) (by omega) (by omega) (by omega) hpos) (cwV 4 hts mg_X9_readTapeq_X6_read_293 rfl rfl rfl (by decide +kernel) ⟨Nat.le_of_ble_eq_true rfl, Nat.le_of_ble_eq_true rfl⟩) ⟨fun a U g mk q => by obtain ⟨q0, q1, qP, qK, qD, qE0, qE1⟩ := q; exact ⟨q0, q1, qP, va_K.moved (u := U) (U := U.calling g mk a) (Vm.Alike.refl U.vm) qK, qD, va_Nw.same rfl (rfl : U.vm = (U.calling g mk a).vm) qE0, sR2.call qE1⟩, va_recv hKc hPc (ci := 6) (q0 := 0) rfl rfl, fun U hU hW => ⟨rfl, by rw [hU], by rw [hU]; exact hPc, va_K.moved hW.alike hKc, hDc.weaken (fun _ _ _ _ => trivial), va_Nw.warmM hW hN53, sR2.to hSR hS hFc hW hU⟩⟩ rfl rfl hl.1 rfl (lv_room (Nat.le_of_ble_eq_true rfl)) dX9_readTape_11 ⟨Nat.le_of_ble_eq_true rfl, Nat.le_of_ble_eq_true rfl⟩) hS (fun q _ h => hFc q h) hFc (fun r_2 u t H1 locs ht hvm hw hB hz1 hk1 hS => ?_)
  obtain ⟨hu9, hr_2⟩ := hw
  obtain ⟨y_3, y_4, y_5, y_6, y_7, y_8, f_9, f_10, f_11, hJ9, hP1, hK1, hD1⟩ := hB
  rw [← hu9] at hJ9 hr_2
  rw [ht] at hP1
  obtain ⟨hP, hD⟩ := va_join (wr := [(gt, .inr (9, [.int st9, .ref tp, .int td, .int fk, .int fpl, .ref bk, .int un, .ref mb, .ref mu, .int mk, .ref rd, .ref cm, .ref wk, .ref pp, .ref so, .ref ty]))]) (w1 := [(rd, .inr (6, rF r y_3 y_4 y_5 y_6 y_7 i3 i4 y_8)), (tp, .inl (ctp, 900, .inl ftp)), (r 0, .inl (cb0, 18, .inl f_9)), (r 1, .inl (cb1, 18, .inl f_10)), (r 2, .inl (cb2, 18, .inl f_11))]) hP hD [2, 1, 3, 4, 5] [0] rfl rfl (by decide) (by decide) hk1 hFc hP1 hD1
  generalize H1 = H at hP hS ⊢
  have hP : va_P (dC, dI) vwCl [(gt, .inr (9, [.int st9, .ref tp, .int td, .int fk, .int fpl, .ref bk, .int un, .ref mb, .ref mu, .int mk, .ref rd, .ref cm, .ref wk, .ref pp, .ref so, .ref ty])), (rd, .inr (6, rF r y_3 y_4 y_5 y_6 y_7 i3 i4 y_8)), (tp, .inl (ctp, 900, .inl ftp)), (r 0, .inl (cb0, 18, .inl f_9)), (r 1, .inl (cb1, 18, .inl f_10)), (r 2, .inl (cb2, 18, .inl f_11))] H := hP
  have hD : va_D A [(gt, .inr (9, [.int st9, .ref tp, .int td, .int fk, .int fpl, .ref bk, .int un, .ref mb, .ref mu, .int mk, .ref rd, .ref cm, .ref wk, .ref pp, .ref so, .ref ty])), (rd, .inr (6, rF r y_3 y_4 y_5 y_6 y_7 i3 i4 y_8)), (tp, .inl (ctp, 900, .inl ftp)), (r 0, .inl (cb0, 18, .inl f_9)), (r 1, .inl (cb1, 18, .inl f_10)), (r 2, .inl (cb2, 18, .inl f_11))] := hD
  refine lv_istore (lv' := [(4, .int r_2), (0, .ref gt), (1, .int i2), (2, .int i3), (3, .int i4)]) hx hb dX9_readTape_14 hl (by decide) rfl (fun ls hl => ?_)
  refine lv_aload_n hx hb dX9_readTape_16 rfl (lv_at hl 1 rfl) ?_
  refine lv_aload_n hx hb dX9_readTape_17 rfl (lv_at hl 1 rfl) ?_
  refine va_get (D := (dC, dI)) (ci := 9) (v := .ref rd) (C := RX9) (T := TX9) (N := 16) hx hb hts fin_X9_readTapeq_X9 hown hK hP 0 rfl rfl 10 (by decide) (hts (.fieldLink RX9 43 "PatternGate" "reader" "LPatternGate$Reader;") (List.mem_of_getElem? (i := 1) (by decide +kernel))) (fun _ h9 => h9) rfl dX9_readTape_18 ?_
  refine va_get (D := (dC, dI)) (ci := 6) (v := .int y_3) (C := RX6) (T := TX6) (N := 11) hx hb hts fin_X9_readTapeq_X6 hown hK hP 1 rfl rfl 0 (by decide) (hts (.fieldLink RX9 297 "PatternGate$Reader" "faultKind" "I") (List.mem_of_getElem? (i := 7) (by decide +kernel))) (fun _ h9 => h9) rfl dX9_readTape_21 ?_
  refine va_put (D := (dC, dI)) (ci := 9) (v := .int y_3) (ty := .int) (C := RX9) (T := TX9) (N := 16) hx hb hts fin_X9_readTapeq_X9 tyX9 tyX9_ok nmX9 hown hK hP hD hS 0 rfl rfl 3 (by decide) (hts (.fieldLink RX9 13 "PatternGate" "faultKind" "I") (List.mem_of_getElem? (i := 8) (by decide +kernel))) (fun _ h9 => h9) rfl (by decide +kernel) rfl rfl (Nat.le_of_ble_eq_true rfl) dX9_readTape_24 (fun H locs hP hD hS => ?_)
  have hP : va_P (dC, dI) vwCl [(gt, .inr (9, [.int st9, .ref tp, .int td, .int y_3, .int fpl, .ref bk, .int un, .ref mb, .ref mu, .int mk, .ref rd, .ref cm, .ref wk, .ref pp, .ref so, .ref ty])), (rd, .inr (6, rF r y_3 y_4 y_5 y_6 y_7 i3 i4 y_8)), (tp, .inl (ctp, 900, .inl ftp)), (r 0, .inl (cb0, 18, .inl f_9)), (r 1, .inl (cb1, 18, .inl f_10)), (r 2, .inl (cb2, 18, .inl f_11))] H := hP
  have hD : va_D A [(gt, .inr (9, [.int st9, .ref tp, .int td, .int y_3, .int fpl, .ref bk, .int un, .ref mb, .ref mu, .int mk, .ref rd, .ref cm, .ref wk, .ref pp, .ref so, .ref ty])), (rd, .inr (6, rF r y_3 y_4 y_5 y_6 y_7 i3 i4 y_8)), (tp, .inl (ctp, 900, .inl ftp)), (r 0, .inl (cb0, 18, .inl f_9)), (r 1, .inl (cb1, 18, .inl f_10)), (r 2, .inl (cb2, 18, .inl f_11))] := hD
  refine lv_aload_n hx hb dX9_readTape_27 rfl (lv_at hl 1 rfl) ?_
  refine lv_aload_n hx hb dX9_readTape_28 rfl (lv_at hl 1 rfl) ?_
  refine va_get (D := (dC, dI)) (ci := 9) (v := .ref rd) (C := RX9) (T := TX9) (N := 16) hx hb hts fin_X9_readTapeq_X9 hown hK hP 0 rfl rfl 10 (by decide) (hts (.fieldLink RX9 43 "PatternGate" "reader" "LPatternGate$Reader;") (List.mem_of_getElem? (i := 1) (by decide +kernel))) (fun _ h9 => h9) rfl dX9_readTape_29 ?_
  refine va_get (D := (dC, dI)) (ci := 6) (v := .int y_4) (C := RX6) (T := TX6) (N := 11) hx hb hts fin_X9_readTapeq_X6 hown hK hP 1 rfl rfl 1 (by decide) (hts (.fieldLink RX9 298 "PatternGate$Reader" "faultPlace" "I") (List.mem_of_getElem? (i := 9) (by decide +kernel))) (fun _ h9 => h9) rfl dX9_readTape_32 ?_
  refine va_put (D := (dC, dI)) (ci := 9) (v := .int y_4) (ty := .int) (C := RX9) (T := TX9) (N := 16) hx hb hts fin_X9_readTapeq_X9 tyX9 tyX9_ok nmX9 hown hK hP hD hS 0 rfl rfl 4 (by decide) (hts (.fieldLink RX9 17 "PatternGate" "faultPlace" "I") (List.mem_of_getElem? (i := 10) (by decide +kernel))) (fun _ h9 => h9) rfl (by decide +kernel) rfl rfl (Nat.le_of_ble_eq_true rfl) dX9_readTape_35 (fun H locs hP hD hS => ?_)
  have hP : va_P (dC, dI) vwCl [(gt, .inr (9, [.int st9, .ref tp, .int td, .int y_3, .int y_4, .ref bk, .int un, .ref mb, .ref mu, .int mk, .ref rd, .ref cm, .ref wk, .ref pp, .ref so, .ref ty])), (rd, .inr (6, rF r y_3 y_4 y_5 y_6 y_7 i3 i4 y_8)), (tp, .inl (ctp, 900, .inl ftp)), (r 0, .inl (cb0, 18, .inl f_9)), (r 1, .inl (cb1, 18, .inl f_10)), (r 2, .inl (cb2, 18, .inl f_11))] H := hP
  have hD : va_D A [(gt, .inr (9, [.int st9, .ref tp, .int td, .int y_3, .int y_4, .ref bk, .int un, .ref mb, .ref mu, .int mk, .ref rd, .ref cm, .ref wk, .ref pp, .ref so, .ref ty])), (rd, .inr (6, rF r y_3 y_4 y_5 y_6 y_7 i3 i4 y_8)), (tp, .inl (ctp, 900, .inl ftp)), (r 0, .inl (cb0, 18, .inl f_9)), (r 1, .inl (cb1, 18, .inl f_10)), (r 2, .inl (cb2, 18, .inl f_11))] := hD
  refine lv_aload_n hx hb dX9_readTape_38 rfl (lv_at hl 1 rfl) ?_
  refine lv_iconst (v := 0) hx hb dX9_readTape_39 (by decide) ?_
  refine va_put (D := (dC, dI)) (ci := 9) (v := .int 0) (ty := .int) (C := RX9) (T := TX9) (N := 16) hx hb hts fin_X9_readTapeq_X9 tyX9 tyX9_ok nmX9 hown hK hP hD hS 0 rfl rfl 2 (by decide) (hts (.fieldLink RX9 73 "PatternGate" "taped" "I") (List.mem_of_getElem? (i := 11) (by decide +kernel))) (fun _ h9 => h9) rfl (by decide +kernel) rfl rfl (Nat.le_of_ble_eq_true rfl) dX9_readTape_40 (fun H locs hP hD hS => ?_)
  have hP : va_P (dC, dI) vwCl [(gt, .inr (9, [.int st9, .ref tp, .int 0, .int y_3, .int y_4, .ref bk, .int un, .ref mb, .ref mu, .int mk, .ref rd, .ref cm, .ref wk, .ref pp, .ref so, .ref ty])), (rd, .inr (6, rF r y_3 y_4 y_5 y_6 y_7 i3 i4 y_8)), (tp, .inl (ctp, 900, .inl ftp)), (r 0, .inl (cb0, 18, .inl f_9)), (r 1, .inl (cb1, 18, .inl f_10)), (r 2, .inl (cb2, 18, .inl f_11))] H := hP
  have hD : va_D A [(gt, .inr (9, [.int st9, .ref tp, .int 0, .int y_3, .int y_4, .ref bk, .int un, .ref mb, .ref mu, .int mk, .ref rd, .ref cm, .ref wk, .ref pp, .ref so, .ref ty])), (rd, .inr (6, rF r y_3 y_4 y_5 y_6 y_7 i3 i4 y_8)), (tp, .inl (ctp, 900, .inl ftp)), (r 0, .inl (cb0, 18, .inl f_9)), (r 1, .inl (cb1, 18, .inl f_10)), (r 2, .inl (cb2, 18, .inl f_11))] := hD
  refine lv_iload hx hb dX9_readTape_43 (lv_at hl 0 rfl) ?_
  have hP9 := hP.sub (ws' := [(gt, .inr (9, [.int st9, .ref tp, .int 0, .int y_3, .int y_4, .ref bk, .int un, .ref mb, .ref mu, .int mk, .ref rd, .ref cm, .ref wk, .ref pp, .ref so, .ref ty])), (tp, .inl (ctp, 900, .inl ftp)), (rd, .inr (6, rF r y_3 y_4 y_5 y_6 y_7 i3 i4 y_8)), (r 0, .inl (cb0, 18, .inl f_9)), (r 1, .inl (cb1, 18, .inl f_10)), (r 2, .inl (cb2, 18, .inl f_11))]) [0, 2, 1, 3, 4, 5] rfl
  have hD9 := hD.sub (ws' := [(gt, .inr (9, [.int st9, .ref tp, .int 0, .int y_3, .int y_4, .ref bk, .int un, .ref mb, .ref mu, .int mk, .ref rd, .ref cm, .ref wk, .ref pp, .ref so, .ref ty])), (tp, .inl (ctp, 900, .inl ftp)), (rd, .inr (6, rF r y_3 y_4 y_5 y_6 y_7 i3 i4 y_8)), (r 0, .inl (cb0, 18, .inl f_9)), (r 1, .inl (cb1, 18, .inl f_10)), (r 2, .inl (cb2, 18, .inl f_11))]) [0, 2, 1, 3, 4, 5] (by decide) rfl
  have hK9 := hK.sub (tys' := [(ctp, .int), (cb0, .int), (cb1, .int), (cb2, .boolean)]) [0, 1, 2, 3] rfl
  exact W.zret hx hb hr (z_nar (by assumption)) (fun t ht hW => ⟨⟨_, r_2, rfl, ⟨rfl, by assumption⟩, y_3, y_4, y_5, y_6, y_7, y_8, f_9, f_10, f_11, hJ9, by rw [ht]; exact hP9, va_K.moved hW.alike hK9, hD9⟩, hS.F ht⟩) hS.2.2 dX9_readTape_45

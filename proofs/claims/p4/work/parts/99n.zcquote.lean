def mwX6_readQuoteq : List Cond := .code yX6_readQuote cX6_readQuote 6 (some .int) :: (([.fieldLink RX6 44 "PatternGate$Reader" "wanted" "I", .methodLink RX6 93 yX6_endOfDoc, .instanceMethod yX6_endOfDoc, .selects RX6 yX6_endOfDoc yX6_endOfDoc, .initialized RX6, .fieldLink RX6 22 "PatternGate$Reader" "faultKind" "I", .fieldLink RX6 29 "PatternGate$Reader" "lines" "I", .fieldLink RX6 11 "PatternGate$Reader" "begins" "[I", .fieldLink RX6 15 "PatternGate$Reader" "ends" "[I", .fieldLink RX6 18 "PatternGate$Reader" "isPattern" "[Z", .fieldLink RX6 32 "PatternGate$Reader" "newDocs" "I", .fieldLink RX6 35 "PatternGate$Reader" "newPatterns" "I", .methodLink RX6 96 yX6_endOfPattern, .instanceMethod yX6_endOfPattern, .selects RX6 yX6_endOfPattern yX6_endOfPattern, .methodLink RX6 71 yX6_fail, .instanceMethod yX6_fail, .selects RX6 yX6_fail yX6_fail] : List Cond) ++ (wsX60 ++ (mwX6_endOfDocq ++ (mwX6_endOfPatternq ++ (mwX6_fail)))))
theorem fin_X6_readQuoteq_X6 : ∀ w ∈ wsX60, w ∈ mwX6_readQuoteq := fun w h => List.mem_cons_of_mem _ (List.mem_append_right _ (List.mem_append_left _ h))
set_option maxRecDepth 100000 in
theorem gd_mwX6_endOfDocq : mwX6_endOfDocq.all goodWord = true := by decide +kernel
set_option maxRecDepth 100000 in
theorem gd_mwX6_endOfPatternq : mwX6_endOfPatternq.all goodWord = true := by decide +kernel
set_option maxRecDepth 20000 in
theorem mg_X6_readQuoteq_X6_endOfDoc_93 : GoodIn mwX6_readQuoteq (wsV RX6 93 RX6 yX6_endOfDoc mwX6_endOfDocq) := gi_app (A := [.methodLink RX6 93 yX6_endOfDoc, .instanceMethod yX6_endOfDoc, .selects RX6 yX6_endOfDoc yX6_endOfDoc, .initialized RX6]) (goodIn_r _ [2, 3, 4, 5] (by decide +kernel) (by decide +kernel)) (gi_sub gd_mwX6_endOfDocq (fun w h => List.mem_cons_of_mem _ (List.mem_append_right _ (List.mem_append_right _ (List.mem_append_left _ h)))))
set_option maxRecDepth 20000 in
theorem mg_X6_readQuoteq_X6_endOfPattern_96 : GoodIn mwX6_readQuoteq (wsV RX6 96 RX6 yX6_endOfPattern mwX6_endOfPatternq) := gi_app (A := [.methodLink RX6 96 yX6_endOfPattern, .instanceMethod yX6_endOfPattern, .selects RX6 yX6_endOfPattern yX6_endOfPattern, .initialized RX6]) (goodIn_r _ [13, 14, 15, 5] (by decide +kernel) (by decide +kernel)) (gi_sub gd_mwX6_endOfPatternq (fun w h => List.mem_cons_of_mem _ (List.mem_append_right _ (List.mem_append_right _ (List.mem_append_right _ (List.mem_append_left _ h))))))
set_option maxRecDepth 20000 in
theorem mg_X6_readQuoteq_X6_fail_71 : GoodIn mwX6_readQuoteq (wsV RX6 71 RX6 yX6_fail mwX6_fail) := gi_app (A := [.methodLink RX6 71 yX6_fail, .instanceMethod yX6_fail, .selects RX6 yX6_fail yX6_fail, .initialized RX6]) (goodIn_r _ [16, 17, 18, 5] (by decide +kernel) (by decide +kernel)) (gi_sub gd_mwX6_fail (fun w h => List.mem_cons_of_mem _ (List.mem_append_right _ (List.mem_append_right _ (List.mem_append_right _ (List.mem_append_right _ (h)))))))
set_option maxHeartbeats 4000000 in
set_option maxRecDepth 100000 in
/-- Reader.readQuote: what it reads -/
theorem s_readQuote_q (l : Launch) (dC : Nat → ClassId) (dI : Nat → Nat → Nat) (rd : Nat) (r : Nat → Nat) (a0 a1 a2 a3 a4 a5 a6 a7 : Int32) (ba kb : Nat) (cb cb0 cb1 cb2 : ClassId) (fb fb0 fb1 fb2 : Nat → Int32) (sz : Nat) (i1 i2 : Int32) (hkb : kb ≤ 900) (h1 : 0 ≤ i1.toInt ∧ i1.toInt < i2.toInt ∧ i2.toInt ≤ kb) (h0 : a0.toInt = 0) (hJ : rJ fb0 fb1 fb2 i1.toInt a2 a3 a4 a5 a6 a7) (hq : (tc fb i2.toInt) i1.toInt = 34) : Met l yX6_readQuote mwX6_readQuoteq ({ frames := 3, cells := 0, slots := 0, locals := 180 }) (va_Pc [.ref rd, .ref ba, .int i1, .int i2] (fun U => U.heap.size = sz ∧ va_P (dC, dI) vwCl ([(rd, .inr (6, rF r a0 a1 a2 a3 a4 a5 a6 a7)), (ba, .inl (cb, kb, .inl fb)), (r 0, .inl (cb0, 18, .inl fb0)), (r 1, .inl (cb1, 18, .inl fb1)), (r 2, .inl (cb2, 18, .inl fb2))]) U.heap ∧ va_K (dC, dI) vwCl ([(cb, .int), (cb0, .int), (cb1, .int), (cb2, .boolean)]) U ∧ va_D (fun _ => True) ([(rd, .inr (6, rF r a0 a1 a2 a3 a4 a5 a6 a7)), (ba, .inl (cb, kb, .inl fb)), (r 0, .inl (cb0, 18, .inl fb0)), (r 1, .inl (cb1, 18, .inl fb1)), (r 2, .inl (cb2, 18, .inl fb2))]) ∧ va_Nw (.methodLinkNest RX6 53 yX9_isSmall "PatternGate") U)) (va_Qi (fun (o9 : Int32) (u : Int32) => o9 = u ∧ i1.toInt ≤ o9.toInt ∧ o9.toInt ≤ i2.toInt) (fun u t => ∃ (y0 y1 y2 y3 y4 y7 : Int32) (f0 f1 f2 : Nat → Int32), (y0.toInt ≠ 0 ∨ rJ f0 f1 f2 u.toInt y2 y3 y4 a5 a6 y7) ∧ rW (tc fb i2.toInt) i1.toInt u.toInt a7.toInt y0.toInt y7.toInt (a5.toInt + a3.toInt) (a6.toInt + a4.toInt) (a5.toInt + y3.toInt) (a6.toInt + y4.toInt) ∧ va_P (dC, dI) vwCl [(rd, .inr (6, rF r y0 y1 y2 y3 y4 a5 a6 y7)), (ba, .inl (cb, kb, .inl fb)), (r 0, .inl (cb0, 18, .inl f0)), (r 1, .inl (cb1, 18, .inl f1)), (r 2, .inl (cb2, 18, .inl f2))] t.heap ∧ va_K (dC, dI) vwCl [(cb, .int), (cb0, .int), (cb1, .int), (cb2, .boolean)] t ∧ va_D (va_A ([(rd, .inr (6, rF r a0 a1 a2 a3 a4 a5 a6 a7)), (ba, .inl (cb, kb, .inl fb)), (r 0, .inl (cb0, 18, .inl fb0)), (r 1, .inl (cb1, 18, .inl fb1)), (r 2, .inl (cb2, 18, .inl fb2))]) sz) [(rd, .inr (6, rF r y0 y1 y2 y3 y4 a5 a6 y7)), (ba, .inl (cb, kb, .inl fb)), (r 0, .inl (cb0, 18, .inl f0)), (r 1, .inl (cb1, 18, .inl f1)), (r 2, .inl (cb2, 18, .inl f2))]) (va_A ([(rd, .inr (6, rF r a0 a1 a2 a3 a4 a5 a6 a7)), (ba, .inl (cb, kb, .inl fb)), (r 0, .inl (cb0, 18, .inl fb0)), (r 1, .inl (cb1, 18, .inl fb1)), (r 2, .inl (cb2, 18, .inl fb2))]) sz)) 0 0 (va_A ([(rd, .inr (6, rF r a0 a1 a2 a3 a4 a5 a6 a7)), (ba, .inl (cb, kb, .inl fb)), (r 0, .inl (cb0, 18, .inl fb0)), (r 1, .inl (cb1, 18, .inl fb1)), (r 2, .inl (cb2, 18, .inl fb2))]) sz) := by
  refine Met.ofW (cc := cX6_readQuote) (maxL := 6) (ret := (some .int)) (by decide +kernel) rfl ?_
  intro p e s m args below meth c s₁ B hml hv
  obtain ⟨rfl, hsz, hP, hK, hD0, hN53⟩ := hv
  have hx := B.exec
  have hb := B.bytes
  have hr := B.returns
  have hts := atoms_spec (ws := mwX6_readQuoteq) B.pre
  have hown : s.vm.findClass RX6 = some m.cls := findClass_of_methodNamed B.named
  have hlocks := B.notSynchronized
  subst hsz
  have hD := hD0.self (sz := s.heap.size)
  generalize hAe : va_A ([(rd, .inr (6, rF r a0 a1 a2 a3 a4 a5 a6 a7)), (ba, .inl (cb, kb, .inl fb)), (r 0, .inl (cb0, 18, .inl fb0)), (r 1, .inl (cb1, 18, .inl fb1)), (r 2, .inl (cb2, 18, .inl fb2))]) s.heap.size = A at hD ⊢
  have hA : ∀ q : Nat, s.heap.size ≤ q → A q := fun q h => by rw [← hAe]; exact Or.inr h
  have hP : va_P (dC, dI) vwCl [(rd, .inr (6, rF r a0 a1 a2 a3 a4 a5 a6 a7)), (ba, .inl (cb, kb, .inl fb)), (r 0, .inl (cb0, 18, .inl fb0)), (r 1, .inl (cb1, 18, .inl fb1)), (r 2, .inl (cb2, 18, .inl fb2))] s.heap := hP
  have hD : va_D A [(rd, .inr (6, rF r a0 a1 a2 a3 a4 a5 a6 a7)), (ba, .inl (cb, kb, .inl fb)), (r 0, .inl (cb0, 18, .inl fb0)), (r 1, .inl (cb1, 18, .inl fb1)), (r 2, .inl (cb2, 18, .inl fb2))] := hD
  have hK : va_K (dC, dI) vwCl [(cb, .int), (cb0, .int), (cb1, .int), (cb2, .boolean)] s := hK
  generalize hH : s.heap = H at hP ⊢
  have hS : va_S A s.heap H [] := by rw [← hH]; exact va_S.rf
  have hl := lv_entry ([.ref rd, .ref ba, .int i1, .int i2]) (n := 6) (Nat.le_of_ble_eq_true rfl)
  rw [lg_entry_eq]
  generalize (lg_sl ([.ref rd, .ref ba, .int i1, .int i2]) ++ List.replicate (6 - (lg_sl ([.ref rd, .ref ba, .int i1, .int i2])).length) Slot.unset).toArray = ls at hl ⊢
  have hl : lv_has ls 6 [(0, .ref rd), (1, .ref ba), (2, .int i1), (3, .int i2)] := hl
  have rg_i1 := i_rng i1
  have rg_i2 := i_rng i2
  obtain ⟨-, j2, j3, j4, j5, j6, j7, j8, j9, j10⟩ := id hJ
  have ra2 := i_rng a2
  have ra3 := i_rng a3
  have ra4 := i_rng a4
  have ra5 := i_rng a5
  have ra6 := i_rng a6
  have ra7 := i_rng a7
  refine lv_aload_n hx hb dX6_readQuote_0 rfl (lv_at hl 0 rfl) ?_
  refine va_get (D := (dC, dI)) (ci := 6) (v := .int a7) (C := RX6) (T := TX6) (N := 11) hx hb hts fin_X6_readQuoteq_X6 hown hK hP 0 rfl rfl 10 (by decide) (hts (.fieldLink RX6 44 "PatternGate$Reader" "wanted" "I") (List.mem_of_getElem? (i := 1) (by decide +kernel))) (fun _ h9 => h9) rfl dX6_readQuote_1 ?_
  refine lv_iconst (v := 1) hx hb dX6_readQuote_4 (by decide) ?_
  refine lv_icmp_eq (tgt := 24) hx hb dX6_readQuote_5 (by decide) (fun k_1 => ?_) (fun k_1 => ?_)
  · have tk_1 := c_eq (a := a7.toInt) (b := 1) rfl (by decide) k_1
    refine lv_aload_n hx hb dX6_readQuote_24 rfl (lv_at hl 0 rfl) ?_
    refine va_get (D := (dC, dI)) (ci := 6) (v := .int a7) (C := RX6) (T := TX6) (N := 11) hx hb hts fin_X6_readQuoteq_X6 hown hK hP 0 rfl rfl 10 (by decide) (hts (.fieldLink RX6 44 "PatternGate$Reader" "wanted" "I") (List.mem_of_getElem? (i := 1) (by decide +kernel))) (fun _ h9 => h9) rfl dX6_readQuote_25 ?_
    refine lv_iconst (v := 1) hx hb dX6_readQuote_28 (by decide) ?_
    refine lv_icmp_ne (tgt := 36) hx hb dX6_readQuote_29 (by decide) (fun k_2 => absurd k_1 k_2) (fun k_2 => ?_)
    have tk_2 := c_eq (a := a7.toInt) (b := 1) rfl (by decide) k_2
    refine lv_iconst (v := 1) hx hb dX6_readQuote_32 (by decide) ?_
    refine lv_goto (tgt := 37) hx hb dX6_readQuote_33 (by decide) ?_
    refine lv_istore (lv' := [(4, .int 1), (0, .ref rd), (1, .ref ba), (2, .int i1), (3, .int i2)]) hx hb dX6_readQuote_37 hl (by decide) rfl (fun ls hl => ?_)
    refine lv_iload hx hb dX6_readQuote_39 (lv_at hl 0 rfl) ?_
    refine lv_if_eq (tgt := 56) hx hb dX6_readQuote_41 (by decide) (fun k_3 => absurd k_3 (by decide)) (fun k_3 => ?_)
    have tk_3 := c_ne (a := 1) (b := 0) (by decide) (by decide) k_3
    refine lv_aload_n hx hb dX6_readQuote_44 rfl (lv_at hl 1 rfl) ?_
    refine lv_aload_n hx hb dX6_readQuote_45 rfl (lv_at hl 2 rfl) ?_
    refine lv_iload_n hx hb dX6_readQuote_46 rfl (lv_at hl 3 rfl) ?_
    refine lv_iconst (v := 1) hx hb dX6_readQuote_47 (by decide) ?_
    refine lv_iadd hx hb dX6_readQuote_48 ?_
    refine lv_topi (fun y_4 ey_4 => ?_)
    first | have ty_4 := i_add (a := i1.toInt) (b := 1) rfl (by decide) ey_4 (by omega) (by omega) | skip
    refine lv_iload_n hx hb dX6_readQuote_49 rfl (lv_at hl 4 rfl) ?_
    have hPc := hP.sub (ws' := [(rd, .inr (6, rF r a0 a1 a2 a3 a4 a5 a6 a7)), (ba, .inl (cb, kb, .inl fb))]) [0, 1] rfl
    have hKc := hK.sub (tys' := [(cb, .int)]) [0] rfl
    have hDc := hD.sub (ws' := [(rd, .inr (6, rF r a0 a1 a2 a3 a4 a5 a6 a7)), (ba, .inl (cb, kb, .inl fb))]) [0, 1] (by decide) rfl
    have hFc := va_free (wc := [(rd, .inr (6, rF r a0 a1 a2 a3 a4 a5 a6 a7)), (ba, .inl (cb, kb, .inl fb))]) hD hS hA [0, 1] rfl
    refine va_calli (va_runV (As := [.ref ba, .int y_4, .int i2]) (rest := []) ⟨hx, hb, hml, hown, hts⟩ (s_endOfDoc_q l dC dI rd r a0 a1 a2 a3 a4 a5 a6 a7 ba kb cb fb H.size y_4 i2 (by first | omega | decide | (have l0 := Int32.toInt_zero; omega)) (by first | omega | decide | (have l0 := Int32.toInt_zero; omega)) (by first | omega | decide | (have l0 := Int32.toInt_zero; omega)) (by first | omega | decide | (have l0 := Int32.toInt_zero; omega)) (by first | omega | decide | (have l0 := Int32.toInt_zero; omega))) (cwV 3 hts mg_X6_readQuoteq_X6_endOfDoc_93 rfl rfl rfl (by decide +kernel) ⟨Nat.le_of_ble_eq_true rfl, Nat.le_of_ble_eq_true rfl⟩) ⟨fun a U g mk q => by obtain ⟨q0, q1, qP, qK, qD, qE0⟩ := q; exact ⟨q0, q1, qP, va_K.moved (u := U) (U := U.calling g mk a) (Vm.Alike.refl U.vm) qK, qD, va_Nw.same rfl (rfl : U.vm = (U.calling g mk a).vm) qE0⟩, va_recv hKc hPc (ci := 6) (q0 := 0) rfl rfl, fun U hU hW => ⟨rfl, by rw [hU], by rw [hU]; exact hPc, va_K.moved hW.alike hKc, hDc.weaken (fun _ _ _ _ => trivial), va_Nw.warmM hW hN53⟩⟩ rfl rfl hl.1 rfl (lv_room (Nat.le_of_ble_eq_true rfl)) dX6_readQuote_50 ⟨Nat.le_of_ble_eq_true rfl, Nat.le_of_ble_eq_true rfl⟩) hS (fun q _ h => hFc q h) hFc (fun r_6 u t H1 locs ht hvm hw hB hz1 hk1 hS => ?_)
    obtain ⟨hu9, hr_6⟩ := hw
    obtain ⟨y_7, y_8, qr_6, hP1, hK1, hD1⟩ := hB
    rw [← hu9] at qr_6
    rw [ht] at hP1
    have rg_r_6 := i_rng r_6
    have rg_y_7 := i_rng y_7
    obtain ⟨hP, hD⟩ := va_join (wr := [(r 0, .inl (cb0, 18, .inl fb0)), (r 1, .inl (cb1, 18, .inl fb1)), (r 2, .inl (cb2, 18, .inl fb2))]) (w1 := [(rd, .inr (6, rF r y_7 y_8 a2 a3 a4 a5 a6 a7)), (ba, .inl (cb, kb, .inl fb))]) hP hD [0, 1] [2, 3, 4] rfl rfl (by decide) (by decide) hk1 hFc hP1 hD1
    generalize H1 = H at hP hS ⊢
    have hP : va_P (dC, dI) vwCl [(r 0, .inl (cb0, 18, .inl fb0)), (r 1, .inl (cb1, 18, .inl fb1)), (r 2, .inl (cb2, 18, .inl fb2)), (rd, .inr (6, rF r y_7 y_8 a2 a3 a4 a5 a6 a7)), (ba, .inl (cb, kb, .inl fb))] H := hP
    have hD : va_D A [(r 0, .inl (cb0, 18, .inl fb0)), (r 1, .inl (cb1, 18, .inl fb1)), (r 2, .inl (cb2, 18, .inl fb2)), (rd, .inr (6, rF r y_7 y_8 a2 a3 a4 a5 a6 a7)), (ba, .inl (cb, kb, .inl fb))] := hD
    refine lv_goto (tgt := 65) hx hb dX6_readQuote_53 (by decide) ?_
    refine lv_istore (lv' := [(5, .int r_6), (4, .int 1), (0, .ref rd), (1, .ref ba), (2, .int i1), (3, .int i2)]) hx hb dX6_readQuote_65 hl (by decide) rfl (fun ls hl => ?_)
    refine lv_aload_n hx hb dX6_readQuote_67 rfl (lv_at hl 2 rfl) ?_
    refine va_get (D := (dC, dI)) (ci := 6) (v := .int y_7) (C := RX6) (T := TX6) (N := 11) hx hb hts fin_X6_readQuoteq_X6 hown hK hP 3 rfl rfl 0 (by decide) (hts (.fieldLink RX6 22 "PatternGate$Reader" "faultKind" "I") (List.mem_of_getElem? (i := 6) (by decide +kernel))) (fun _ h9 => h9) rfl dX6_readQuote_68 ?_
    refine lv_if_ne (tgt := 178) hx hb dX6_readQuote_71 (by decide) (fun k_9 => ?_) (fun k_9 => ?_)
    · have tk_9 := c_ne (a := y_7.toInt) (b := 0) rfl (by decide) k_9
      refine lv_iload hx hb dX6_readQuote_178 (lv_at hl 0 rfl) ?_
      have hP9 := hP.sub (ws' := [(rd, .inr (6, rF r y_7 y_8 a2 a3 a4 a5 a6 a7)), (ba, .inl (cb, kb, .inl fb)), (r 0, .inl (cb0, 18, .inl fb0)), (r 1, .inl (cb1, 18, .inl fb1)), (r 2, .inl (cb2, 18, .inl fb2))]) [3, 4, 0, 1, 2] rfl
      have hD9 := hD.sub (ws' := [(rd, .inr (6, rF r y_7 y_8 a2 a3 a4 a5 a6 a7)), (ba, .inl (cb, kb, .inl fb)), (r 0, .inl (cb0, 18, .inl fb0)), (r 1, .inl (cb1, 18, .inl fb1)), (r 2, .inl (cb2, 18, .inl fb2))]) [3, 4, 0, 1, 2] (by decide) rfl
      have hK9 := hK.sub (tys' := [(cb, .int), (cb0, .int), (cb1, .int), (cb2, .boolean)]) [0, 1, 2, 3] rfl
      exact W.iret hx hb hr (fun t ht hW => ⟨⟨_, r_6, rfl, ⟨rfl, by omega⟩, y_7, y_8, a2, a3, a4, a7, fb0, fb1, fb2, (by first | exact Or.inl (by omega) | (exfalso; omega)), (by first | exact (rW_f (a1 := 1) (by have h9 := qr_6.2 (by omega) (a5.toInt + a3.toInt) (a6.toInt + a4.toInt); rw [show y_4.toInt = i1.toInt + 1 by omega] at h9; exact (mv_qd hq).tr h9) (by omega) (by omega)) | (exfalso; omega)), by rw [ht]; exact hP9, va_K.moved hW.alike hK9, hD9⟩, hS.F ht⟩) hS.2.2 dX6_readQuote_180
    · have tk_9 := c_eq (a := y_7.toInt) (b := 0) rfl (by decide) k_9
      refine lv_aload_n hx hb dX6_readQuote_74 rfl (lv_at hl 2 rfl) ?_
      refine va_get (D := (dC, dI)) (ci := 6) (v := .int a2) (C := RX6) (T := TX6) (N := 11) hx hb hts fin_X6_readQuoteq_X6 hown hK hP 3 rfl rfl 2 (by decide) (hts (.fieldLink RX6 29 "PatternGate$Reader" "lines" "I") (List.mem_of_getElem? (i := 7) (by decide +kernel))) (fun _ h9 => h9) rfl dX6_readQuote_75 ?_
      refine lv_bipush (v := 18) hx hb dX6_readQuote_78 (by decide) ?_
      refine lv_icmp_ge (tgt := 178) hx hb dX6_readQuote_80 (by decide) (fun k_10 => ?_) (fun k_10 => ?_)
      · have tk_10 := c_ge (a := a2.toInt) (b := 18) rfl (by decide) k_10
        refine lv_iload hx hb dX6_readQuote_178 (lv_at hl 0 rfl) ?_
        have hP9 := hP.sub (ws' := [(rd, .inr (6, rF r y_7 y_8 a2 a3 a4 a5 a6 a7)), (ba, .inl (cb, kb, .inl fb)), (r 0, .inl (cb0, 18, .inl fb0)), (r 1, .inl (cb1, 18, .inl fb1)), (r 2, .inl (cb2, 18, .inl fb2))]) [3, 4, 0, 1, 2] rfl
        have hD9 := hD.sub (ws' := [(rd, .inr (6, rF r y_7 y_8 a2 a3 a4 a5 a6 a7)), (ba, .inl (cb, kb, .inl fb)), (r 0, .inl (cb0, 18, .inl fb0)), (r 1, .inl (cb1, 18, .inl fb1)), (r 2, .inl (cb2, 18, .inl fb2))]) [3, 4, 0, 1, 2] (by decide) rfl
        have hK9 := hK.sub (tys' := [(cb, .int), (cb0, .int), (cb1, .int), (cb2, .boolean)]) [0, 1, 2, 3] rfl
        exact W.iret hx hb hr (fun t ht hW => ⟨⟨_, r_6, rfl, ⟨rfl, by omega⟩, y_7, y_8, a2, a3, a4, a7, fb0, fb1, fb2, (by first | exact Or.inl (by omega) | (exfalso; omega)), (by first | exact (rW_f (a1 := 1) (by have h9 := qr_6.2 (by omega) (a5.toInt + a3.toInt) (a6.toInt + a4.toInt); rw [show y_4.toInt = i1.toInt + 1 by omega] at h9; exact (mv_qd hq).tr h9) (by omega) (by omega)) | (exfalso; omega)), by rw [ht]; exact hP9, va_K.moved hW.alike hK9, hD9⟩, hS.F ht⟩) hS.2.2 dX6_readQuote_180
      · have tk_10 := c_nge (a := a2.toInt) (b := 18) rfl (by decide) k_10
        refine lv_aload_n hx hb dX6_readQuote_83 rfl (lv_at hl 2 rfl) ?_
        refine va_get (D := (dC, dI)) (ci := 6) (v := .ref (r 0)) (C := RX6) (T := TX6) (N := 11) hx hb hts fin_X6_readQuoteq_X6 hown hK hP 3 rfl rfl 5 (by decide) (hts (.fieldLink RX6 11 "PatternGate$Reader" "begins" "[I") (List.mem_of_getElem? (i := 8) (by decide +kernel))) (fun _ h9 => h9) rfl dX6_readQuote_84 ?_
        refine lv_aload_n hx hb dX6_readQuote_87 rfl (lv_at hl 2 rfl) ?_
        refine va_get (D := (dC, dI)) (ci := 6) (v := .int a2) (C := RX6) (T := TX6) (N := 11) hx hb hts fin_X6_readQuoteq_X6 hown hK hP 3 rfl rfl 2 (by decide) (hts (.fieldLink RX6 29 "PatternGate$Reader" "lines" "I") (List.mem_of_getElem? (i := 7) (by decide +kernel))) (fun _ h9 => h9) rfl dX6_readQuote_88 ?_
        refine lv_iload_n hx hb dX6_readQuote_91 rfl (lv_at hl 4 rfl) ?_
        refine lv_iconst (v := 1) hx hb dX6_readQuote_92 (by decide) ?_
        refine lv_iadd hx hb dX6_readQuote_93 ?_
        refine lv_topi (fun y_11 ey_11 => ?_)
        first | have ty_11 := i_add (a := i1.toInt) (b := 1) rfl (by decide) ey_11 (by omega) (by omega) | skip
        refine va_iast hx hb hK hP hD hS 0 1 rfl rfl (i := a2) (vp_of (a := a2.toInt) rfl (by omega) (by omega)) dX6_readQuote_94 (fun H locs hP hD hS => ?_)
        generalize hf_f_12 : upd fb0 _ _ = f_12 at hP hD
        have hP : va_P (dC, dI) vwCl [(r 0, .inl (cb0, 18, .inl f_12)), (r 1, .inl (cb1, 18, .inl fb1)), (r 2, .inl (cb2, 18, .inl fb2)), (rd, .inr (6, rF r y_7 y_8 a2 a3 a4 a5 a6 a7)), (ba, .inl (cb, kb, .inl fb))] H := hP
        have hD : va_D A [(r 0, .inl (cb0, 18, .inl f_12)), (r 1, .inl (cb1, 18, .inl fb1)), (r 2, .inl (cb2, 18, .inl fb2)), (rd, .inr (6, rF r y_7 y_8 a2 a3 a4 a5 a6 a7)), (ba, .inl (cb, kb, .inl fb))] := hD
        refine lv_aload_n hx hb dX6_readQuote_95 rfl (lv_at hl 2 rfl) ?_
        refine va_get (D := (dC, dI)) (ci := 6) (v := .ref (r 1)) (C := RX6) (T := TX6) (N := 11) hx hb hts fin_X6_readQuoteq_X6 hown hK hP 3 rfl rfl 6 (by decide) (hts (.fieldLink RX6 15 "PatternGate$Reader" "ends" "[I") (List.mem_of_getElem? (i := 9) (by decide +kernel))) (fun _ h9 => h9) rfl dX6_readQuote_96 ?_
        refine lv_aload_n hx hb dX6_readQuote_99 rfl (lv_at hl 2 rfl) ?_
        refine va_get (D := (dC, dI)) (ci := 6) (v := .int a2) (C := RX6) (T := TX6) (N := 11) hx hb hts fin_X6_readQuoteq_X6 hown hK hP 3 rfl rfl 2 (by decide) (hts (.fieldLink RX6 29 "PatternGate$Reader" "lines" "I") (List.mem_of_getElem? (i := 7) (by decide +kernel))) (fun _ h9 => h9) rfl dX6_readQuote_100 ?_
        refine lv_iload hx hb dX6_readQuote_103 (lv_at hl 0 rfl) ?_
        refine va_iast hx hb hK hP hD hS 1 2 rfl rfl (i := a2) (vp_of (a := a2.toInt) rfl (by omega) (by omega)) dX6_readQuote_105 (fun H locs hP hD hS => ?_)
        generalize hf_f_13 : upd fb1 _ _ = f_13 at hP hD
        have hP : va_P (dC, dI) vwCl [(r 0, .inl (cb0, 18, .inl f_12)), (r 1, .inl (cb1, 18, .inl f_13)), (r 2, .inl (cb2, 18, .inl fb2)), (rd, .inr (6, rF r y_7 y_8 a2 a3 a4 a5 a6 a7)), (ba, .inl (cb, kb, .inl fb))] H := hP
        have hD : va_D A [(r 0, .inl (cb0, 18, .inl f_12)), (r 1, .inl (cb1, 18, .inl f_13)), (r 2, .inl (cb2, 18, .inl fb2)), (rd, .inr (6, rF r y_7 y_8 a2 a3 a4 a5 a6 a7)), (ba, .inl (cb, kb, .inl fb))] := hD
        refine lv_aload_n hx hb dX6_readQuote_106 rfl (lv_at hl 2 rfl) ?_
        refine va_get (D := (dC, dI)) (ci := 6) (v := .ref (r 2)) (C := RX6) (T := TX6) (N := 11) hx hb hts fin_X6_readQuoteq_X6 hown hK hP 3 rfl rfl 7 (by decide) (hts (.fieldLink RX6 18 "PatternGate$Reader" "isPattern" "[Z") (List.mem_of_getElem? (i := 10) (by decide +kernel))) (fun _ h9 => h9) rfl dX6_readQuote_107 ?_
        refine lv_aload_n hx hb dX6_readQuote_110 rfl (lv_at hl 2 rfl) ?_
        refine va_get (D := (dC, dI)) (ci := 6) (v := .int a2) (C := RX6) (T := TX6) (N := 11) hx hb hts fin_X6_readQuoteq_X6 hown hK hP 3 rfl rfl 2 (by decide) (hts (.fieldLink RX6 29 "PatternGate$Reader" "lines" "I") (List.mem_of_getElem? (i := 7) (by decide +kernel))) (fun _ h9 => h9) rfl dX6_readQuote_111 ?_
        refine lv_iload hx hb dX6_readQuote_114 (lv_at hl 1 rfl) ?_
        refine lv_if_ne (tgt := 123) hx hb dX6_readQuote_116 (by decide) (fun k_14 => ?_) (fun k_14 => absurd k_14 (by decide))
        have tk_14 := c_ne (a := 1) (b := 0) (by decide) (by decide) k_14
        refine lv_iconst (v := 0) hx hb dX6_readQuote_123 (by decide) ?_
        refine va_zast hx hb hK hP hD hS 2 3 rfl rfl (i := a2) (vp_of (a := a2.toInt) rfl (by omega) (by omega)) dX6_readQuote_124 (fun H locs hP hD hS => ?_)
        generalize hf_f_15 : upd fb2 _ _ = f_15 at hP hD
        have hP : va_P (dC, dI) vwCl [(r 0, .inl (cb0, 18, .inl f_12)), (r 1, .inl (cb1, 18, .inl f_13)), (r 2, .inl (cb2, 18, .inl f_15)), (rd, .inr (6, rF r y_7 y_8 a2 a3 a4 a5 a6 a7)), (ba, .inl (cb, kb, .inl fb))] H := hP
        have hD : va_D A [(r 0, .inl (cb0, 18, .inl f_12)), (r 1, .inl (cb1, 18, .inl f_13)), (r 2, .inl (cb2, 18, .inl f_15)), (rd, .inr (6, rF r y_7 y_8 a2 a3 a4 a5 a6 a7)), (ba, .inl (cb, kb, .inl fb))] := hD
        refine lv_aload_n hx hb dX6_readQuote_125 rfl (lv_at hl 2 rfl) ?_
        refine lv_dup hx hb dX6_readQuote_126 rfl ?_
        refine va_get (D := (dC, dI)) (ci := 6) (v := .int a2) (C := RX6) (T := TX6) (N := 11) hx hb hts fin_X6_readQuoteq_X6 hown hK hP 3 rfl rfl 2 (by decide) (hts (.fieldLink RX6 29 "PatternGate$Reader" "lines" "I") (List.mem_of_getElem? (i := 7) (by decide +kernel))) (fun _ h9 => h9) rfl dX6_readQuote_127 ?_
        refine lv_iconst (v := 1) hx hb dX6_readQuote_130 (by decide) ?_
        refine lv_iadd hx hb dX6_readQuote_131 ?_
        refine lv_topi (fun y_16 ey_16 => ?_)
        first | have ty_16 := i_add (a := a2.toInt) (b := 1) rfl (by decide) ey_16 (by omega) (by omega) | skip
        refine va_put (D := (dC, dI)) (ci := 6) (v := .int y_16) (ty := .int) (C := RX6) (T := TX6) (N := 11) hx hb hts fin_X6_readQuoteq_X6 tyX6 tyX6_ok nmX6 hown hK hP hD hS 3 rfl rfl 2 (by decide) (hts (.fieldLink RX6 29 "PatternGate$Reader" "lines" "I") (List.mem_of_getElem? (i := 7) (by decide +kernel))) (fun _ h9 => h9) rfl (by decide +kernel) rfl rfl (Nat.le_of_ble_eq_true rfl) dX6_readQuote_132 (fun H locs hP hD hS => ?_)
        have hP : va_P (dC, dI) vwCl [(r 0, .inl (cb0, 18, .inl f_12)), (r 1, .inl (cb1, 18, .inl f_13)), (r 2, .inl (cb2, 18, .inl f_15)), (rd, .inr (6, rF r y_7 y_8 y_16 a3 a4 a5 a6 a7)), (ba, .inl (cb, kb, .inl fb))] H := hP
        have hD : va_D A [(r 0, .inl (cb0, 18, .inl f_12)), (r 1, .inl (cb1, 18, .inl f_13)), (r 2, .inl (cb2, 18, .inl f_15)), (rd, .inr (6, rF r y_7 y_8 y_16 a3 a4 a5 a6 a7)), (ba, .inl (cb, kb, .inl fb))] := hD
        refine lv_aload_n hx hb dX6_readQuote_135 rfl (lv_at hl 2 rfl) ?_
        refine lv_dup hx hb dX6_readQuote_136 rfl ?_
        refine va_get (D := (dC, dI)) (ci := 6) (v := .int a3) (C := RX6) (T := TX6) (N := 11) hx hb hts fin_X6_readQuoteq_X6 hown hK hP 3 rfl rfl 3 (by decide) (hts (.fieldLink RX6 32 "PatternGate$Reader" "newDocs" "I") (List.mem_of_getElem? (i := 11) (by decide +kernel))) (fun _ h9 => h9) rfl dX6_readQuote_137 ?_
        refine lv_iload hx hb dX6_readQuote_140 (lv_at hl 1 rfl) ?_
        refine lv_if_eq (tgt := 149) hx hb dX6_readQuote_142 (by decide) (fun k_17 => absurd k_17 (by decide)) (fun k_17 => ?_)
        have tk_17 := c_ne (a := 1) (b := 0) (by decide) (by decide) k_17
        refine lv_iconst (v := 1) hx hb dX6_readQuote_145 (by decide) ?_
        refine lv_goto (tgt := 150) hx hb dX6_readQuote_146 (by decide) ?_
        refine lv_iadd hx hb dX6_readQuote_150 ?_
        refine lv_topi (fun y_18 ey_18 => ?_)
        first | have ty_18 := i_add (a := a3.toInt) (b := 1) rfl (by decide) ey_18 (by omega) (by omega) | skip
        refine va_put (D := (dC, dI)) (ci := 6) (v := .int y_18) (ty := .int) (C := RX6) (T := TX6) (N := 11) hx hb hts fin_X6_readQuoteq_X6 tyX6 tyX6_ok nmX6 hown hK hP hD hS 3 rfl rfl 3 (by decide) (hts (.fieldLink RX6 32 "PatternGate$Reader" "newDocs" "I") (List.mem_of_getElem? (i := 11) (by decide +kernel))) (fun _ h9 => h9) rfl (by decide +kernel) rfl rfl (Nat.le_of_ble_eq_true rfl) dX6_readQuote_151 (fun H locs hP hD hS => ?_)
        have hP : va_P (dC, dI) vwCl [(r 0, .inl (cb0, 18, .inl f_12)), (r 1, .inl (cb1, 18, .inl f_13)), (r 2, .inl (cb2, 18, .inl f_15)), (rd, .inr (6, rF r y_7 y_8 y_16 y_18 a4 a5 a6 a7)), (ba, .inl (cb, kb, .inl fb))] H := hP
        have hD : va_D A [(r 0, .inl (cb0, 18, .inl f_12)), (r 1, .inl (cb1, 18, .inl f_13)), (r 2, .inl (cb2, 18, .inl f_15)), (rd, .inr (6, rF r y_7 y_8 y_16 y_18 a4 a5 a6 a7)), (ba, .inl (cb, kb, .inl fb))] := hD
        refine lv_aload_n hx hb dX6_readQuote_154 rfl (lv_at hl 2 rfl) ?_
        refine lv_dup hx hb dX6_readQuote_155 rfl ?_
        refine va_get (D := (dC, dI)) (ci := 6) (v := .int a4) (C := RX6) (T := TX6) (N := 11) hx hb hts fin_X6_readQuoteq_X6 hown hK hP 3 rfl rfl 4 (by decide) (hts (.fieldLink RX6 35 "PatternGate$Reader" "newPatterns" "I") (List.mem_of_getElem? (i := 12) (by decide +kernel))) (fun _ h9 => h9) rfl dX6_readQuote_156 ?_
        refine lv_iload hx hb dX6_readQuote_159 (lv_at hl 1 rfl) ?_
        refine lv_if_eq (tgt := 168) hx hb dX6_readQuote_161 (by decide) (fun k_19 => absurd k_19 (by decide)) (fun k_19 => ?_)
        have tk_19 := c_ne (a := 1) (b := 0) (by decide) (by decide) k_19
        refine lv_iconst (v := 0) hx hb dX6_readQuote_164 (by decide) ?_
        refine lv_goto (tgt := 169) hx hb dX6_readQuote_165 (by decide) ?_
        refine lv_iadd hx hb dX6_readQuote_169 ?_
        refine lv_topi (fun y_20 ey_20 => ?_)
        first | have ty_20 := i_add (a := a4.toInt) (b := 0) rfl (by decide) ey_20 (by omega) (by omega) | skip
        refine va_put (D := (dC, dI)) (ci := 6) (v := .int y_20) (ty := .int) (C := RX6) (T := TX6) (N := 11) hx hb hts fin_X6_readQuoteq_X6 tyX6 tyX6_ok nmX6 hown hK hP hD hS 3 rfl rfl 4 (by decide) (hts (.fieldLink RX6 35 "PatternGate$Reader" "newPatterns" "I") (List.mem_of_getElem? (i := 12) (by decide +kernel))) (fun _ h9 => h9) rfl (by decide +kernel) rfl rfl (Nat.le_of_ble_eq_true rfl) dX6_readQuote_170 (fun H locs hP hD hS => ?_)
        have hP : va_P (dC, dI) vwCl [(r 0, .inl (cb0, 18, .inl f_12)), (r 1, .inl (cb1, 18, .inl f_13)), (r 2, .inl (cb2, 18, .inl f_15)), (rd, .inr (6, rF r y_7 y_8 y_16 y_18 y_20 a5 a6 a7)), (ba, .inl (cb, kb, .inl fb))] H := hP
        have hD : va_D A [(r 0, .inl (cb0, 18, .inl f_12)), (r 1, .inl (cb1, 18, .inl f_13)), (r 2, .inl (cb2, 18, .inl f_15)), (rd, .inr (6, rF r y_7 y_8 y_16 y_18 y_20 a5 a6 a7)), (ba, .inl (cb, kb, .inl fb))] := hD
        refine lv_aload_n hx hb dX6_readQuote_173 rfl (lv_at hl 2 rfl) ?_
        refine lv_iconst (v := 3) hx hb dX6_readQuote_174 (by decide) ?_
        refine va_put (D := (dC, dI)) (ci := 6) (v := .int 3) (ty := .int) (C := RX6) (T := TX6) (N := 11) hx hb hts fin_X6_readQuoteq_X6 tyX6 tyX6_ok nmX6 hown hK hP hD hS 3 rfl rfl 10 (by decide) (hts (.fieldLink RX6 44 "PatternGate$Reader" "wanted" "I") (List.mem_of_getElem? (i := 1) (by decide +kernel))) (fun _ h9 => h9) rfl (by decide +kernel) rfl rfl (Nat.le_of_ble_eq_true rfl) dX6_readQuote_175 (fun H locs hP hD hS => ?_)
        have hP : va_P (dC, dI) vwCl [(r 0, .inl (cb0, 18, .inl f_12)), (r 1, .inl (cb1, 18, .inl f_13)), (r 2, .inl (cb2, 18, .inl f_15)), (rd, .inr (6, rF r y_7 y_8 y_16 y_18 y_20 a5 a6 3)), (ba, .inl (cb, kb, .inl fb))] H := hP
        have hD : va_D A [(r 0, .inl (cb0, 18, .inl f_12)), (r 1, .inl (cb1, 18, .inl f_13)), (r 2, .inl (cb2, 18, .inl f_15)), (rd, .inr (6, rF r y_7 y_8 y_16 y_18 y_20 a5 a6 3)), (ba, .inl (cb, kb, .inl fb))] := hD
        refine lv_iload hx hb dX6_readQuote_178 (lv_at hl 0 rfl) ?_
        have hP9 := hP.sub (ws' := [(rd, .inr (6, rF r y_7 y_8 y_16 y_18 y_20 a5 a6 3)), (ba, .inl (cb, kb, .inl fb)), (r 0, .inl (cb0, 18, .inl f_12)), (r 1, .inl (cb1, 18, .inl f_13)), (r 2, .inl (cb2, 18, .inl f_15))]) [3, 4, 0, 1, 2] rfl
        have hD9 := hD.sub (ws' := [(rd, .inr (6, rF r y_7 y_8 y_16 y_18 y_20 a5 a6 3)), (ba, .inl (cb, kb, .inl fb)), (r 0, .inl (cb0, 18, .inl f_12)), (r 1, .inl (cb1, 18, .inl f_13)), (r 2, .inl (cb2, 18, .inl f_15))]) [3, 4, 0, 1, 2] (by decide) rfl
        have hK9 := hK.sub (tys' := [(cb, .int), (cb0, .int), (cb1, .int), (cb2, .boolean)]) [0, 1, 2, 3] rfl
        have lit_20 : (3 : Int32).toInt = 3 := by decide
        exact W.iret hx hb hr (fun t ht hW => ⟨⟨_, r_6, rfl, ⟨rfl, by omega⟩, y_7, y_8, y_16, y_18, y_20, 3, f_12, f_13, f_15, (Or.inr (rJ.line hJ hf_f_12 hf_f_13 hf_f_15 (by omega) (by omega) (by omega) (by omega) (by omega) (by decide) (Or.inl ⟨by omega, rfl, by omega, by omega, by omega⟩))), (rW_o (a1 := 1) (w1 := 3) (by have h9 := qr_6.1 (by omega) (a5.toInt + a3.toInt) (a6.toInt + a4.toInt); rw [show y_4.toInt = i1.toInt + 1 by omega] at h9; exact (mv_qd hq).tr h9) (by omega) rfl (by decide) (by omega) (by omega) (by omega)), by rw [ht]; exact hP9, va_K.moved hW.alike hK9, hD9⟩, hS.F ht⟩) hS.2.2 dX6_readQuote_180
  · have tk_1 := c_ne (a := a7.toInt) (b := 1) rfl (by decide) k_1
    refine lv_aload_n hx hb dX6_readQuote_8 rfl (lv_at hl 0 rfl) ?_
    refine va_get (D := (dC, dI)) (ci := 6) (v := .int a7) (C := RX6) (T := TX6) (N := 11) hx hb hts fin_X6_readQuoteq_X6 hown hK hP 0 rfl rfl 10 (by decide) (hts (.fieldLink RX6 44 "PatternGate$Reader" "wanted" "I") (List.mem_of_getElem? (i := 1) (by decide +kernel))) (fun _ h9 => h9) rfl dX6_readQuote_9 ?_
    refine lv_iconst (v := 2) hx hb dX6_readQuote_12 (by decide) ?_
    refine lv_icmp_eq (tgt := 24) hx hb dX6_readQuote_13 (by decide) (fun k_22 => ?_) (fun k_22 => ?_)
    · have tk_22 := c_eq (a := a7.toInt) (b := 2) rfl (by decide) k_22
      refine lv_aload_n hx hb dX6_readQuote_24 rfl (lv_at hl 0 rfl) ?_
      refine va_get (D := (dC, dI)) (ci := 6) (v := .int a7) (C := RX6) (T := TX6) (N := 11) hx hb hts fin_X6_readQuoteq_X6 hown hK hP 0 rfl rfl 10 (by decide) (hts (.fieldLink RX6 44 "PatternGate$Reader" "wanted" "I") (List.mem_of_getElem? (i := 1) (by decide +kernel))) (fun _ h9 => h9) rfl dX6_readQuote_25 ?_
      refine lv_iconst (v := 1) hx hb dX6_readQuote_28 (by decide) ?_
      refine lv_icmp_ne (tgt := 36) hx hb dX6_readQuote_29 (by decide) (fun k_23 => ?_) (fun k_23 => absurd k_23 k_1)
      have tk_23 := c_ne (a := a7.toInt) (b := 1) rfl (by decide) k_23
      refine lv_iconst (v := 0) hx hb dX6_readQuote_36 (by decide) ?_
      refine lv_istore (lv' := [(4, .int 0), (0, .ref rd), (1, .ref ba), (2, .int i1), (3, .int i2)]) hx hb dX6_readQuote_37 hl (by decide) rfl (fun ls hl => ?_)
      refine lv_iload hx hb dX6_readQuote_39 (lv_at hl 0 rfl) ?_
      refine lv_if_eq (tgt := 56) hx hb dX6_readQuote_41 (by decide) (fun k_24 => ?_) (fun k_24 => absurd (by decide) k_24)
      have tk_24 := c_eq (a := 0) (b := 0) (by decide) (by decide) k_24
      refine lv_aload_n hx hb dX6_readQuote_56 rfl (lv_at hl 1 rfl) ?_
      refine lv_aload_n hx hb dX6_readQuote_57 rfl (lv_at hl 2 rfl) ?_
      refine lv_iload_n hx hb dX6_readQuote_58 rfl (lv_at hl 3 rfl) ?_
      refine lv_iconst (v := 1) hx hb dX6_readQuote_59 (by decide) ?_
      refine lv_iadd hx hb dX6_readQuote_60 ?_
      refine lv_topi (fun y_25 ey_25 => ?_)
      first | have ty_25 := i_add (a := i1.toInt) (b := 1) rfl (by decide) ey_25 (by omega) (by omega) | skip
      refine lv_iload_n hx hb dX6_readQuote_61 rfl (lv_at hl 4 rfl) ?_
      have hPc := hP.sub (ws' := [(rd, .inr (6, rF r a0 a1 a2 a3 a4 a5 a6 a7)), (ba, .inl (cb, kb, .inl fb))]) [0, 1] rfl
      have hKc := hK.sub (tys' := [(cb, .int)]) [0] rfl
      have hDc := hD.sub (ws' := [(rd, .inr (6, rF r a0 a1 a2 a3 a4 a5 a6 a7)), (ba, .inl (cb, kb, .inl fb))]) [0, 1] (by decide) rfl
      have hFc := va_free (wc := [(rd, .inr (6, rF r a0 a1 a2 a3 a4 a5 a6 a7)), (ba, .inl (cb, kb, .inl fb))]) hD hS hA [0, 1] rfl
      refine va_calli (va_runV (As := [.ref ba, .int y_25, .int i2]) (rest := []) ⟨hx, hb, hml, hown, hts⟩ (s_endOfPattern_q l dC dI rd r a0 a1 a2 a3 a4 a5 a6 a7 ba kb cb fb H.size y_25 i2 (by first | omega | decide | (have l0 := Int32.toInt_zero; omega)) (by first | omega | decide | (have l0 := Int32.toInt_zero; omega)) (by first | omega | decide | (have l0 := Int32.toInt_zero; omega)) (by first | omega | decide | (have l0 := Int32.toInt_zero; omega)) (by first | omega | decide | (have l0 := Int32.toInt_zero; omega))) (cwV 3 hts mg_X6_readQuoteq_X6_endOfPattern_96 rfl rfl rfl (by decide +kernel) ⟨Nat.le_of_ble_eq_true rfl, Nat.le_of_ble_eq_true rfl⟩) ⟨fun a U g mk q => by obtain ⟨q0, q1, qP, qK, qD, qE0⟩ := q; exact ⟨q0, q1, qP, va_K.moved (u := U) (U := U.calling g mk a) (Vm.Alike.refl U.vm) qK, qD, va_Nw.same rfl (rfl : U.vm = (U.calling g mk a).vm) qE0⟩, va_recv hKc hPc (ci := 6) (q0 := 0) rfl rfl, fun U hU hW => ⟨rfl, by rw [hU], by rw [hU]; exact hPc, va_K.moved hW.alike hKc, hDc.weaken (fun _ _ _ _ => trivial), va_Nw.warmM hW hN53⟩⟩ rfl rfl hl.1 rfl (lv_room (Nat.le_of_ble_eq_true rfl)) dX6_readQuote_62 ⟨Nat.le_of_ble_eq_true rfl, Nat.le_of_ble_eq_true rfl⟩) hS (fun q _ h => hFc q h) hFc (fun r_27 u t H1 locs ht hvm hw hB hz1 hk1 hS => ?_)
      obtain ⟨hu9, hr_27⟩ := hw
      obtain ⟨y_28, y_29, qr_27, hP1, hK1, hD1⟩ := hB
      rw [← hu9] at qr_27
      rw [ht] at hP1
      have rg_r_27 := i_rng r_27
      have rg_y_28 := i_rng y_28
      obtain ⟨hP, hD⟩ := va_join (wr := [(r 0, .inl (cb0, 18, .inl fb0)), (r 1, .inl (cb1, 18, .inl fb1)), (r 2, .inl (cb2, 18, .inl fb2))]) (w1 := [(rd, .inr (6, rF r y_28 y_29 a2 a3 a4 a5 a6 a7)), (ba, .inl (cb, kb, .inl fb))]) hP hD [0, 1] [2, 3, 4] rfl rfl (by decide) (by decide) hk1 hFc hP1 hD1
      generalize H1 = H at hP hS ⊢
      have hP : va_P (dC, dI) vwCl [(r 0, .inl (cb0, 18, .inl fb0)), (r 1, .inl (cb1, 18, .inl fb1)), (r 2, .inl (cb2, 18, .inl fb2)), (rd, .inr (6, rF r y_28 y_29 a2 a3 a4 a5 a6 a7)), (ba, .inl (cb, kb, .inl fb))] H := hP
      have hD : va_D A [(r 0, .inl (cb0, 18, .inl fb0)), (r 1, .inl (cb1, 18, .inl fb1)), (r 2, .inl (cb2, 18, .inl fb2)), (rd, .inr (6, rF r y_28 y_29 a2 a3 a4 a5 a6 a7)), (ba, .inl (cb, kb, .inl fb))] := hD
      refine lv_istore (lv' := [(5, .int r_27), (4, .int 0), (0, .ref rd), (1, .ref ba), (2, .int i1), (3, .int i2)]) hx hb dX6_readQuote_65 hl (by decide) rfl (fun ls hl => ?_)
      refine lv_aload_n hx hb dX6_readQuote_67 rfl (lv_at hl 2 rfl) ?_
      refine va_get (D := (dC, dI)) (ci := 6) (v := .int y_28) (C := RX6) (T := TX6) (N := 11) hx hb hts fin_X6_readQuoteq_X6 hown hK hP 3 rfl rfl 0 (by decide) (hts (.fieldLink RX6 22 "PatternGate$Reader" "faultKind" "I") (List.mem_of_getElem? (i := 6) (by decide +kernel))) (fun _ h9 => h9) rfl dX6_readQuote_68 ?_
      refine lv_if_ne (tgt := 178) hx hb dX6_readQuote_71 (by decide) (fun k_30 => ?_) (fun k_30 => ?_)
      · have tk_30 := c_ne (a := y_28.toInt) (b := 0) rfl (by decide) k_30
        refine lv_iload hx hb dX6_readQuote_178 (lv_at hl 0 rfl) ?_
        have hP9 := hP.sub (ws' := [(rd, .inr (6, rF r y_28 y_29 a2 a3 a4 a5 a6 a7)), (ba, .inl (cb, kb, .inl fb)), (r 0, .inl (cb0, 18, .inl fb0)), (r 1, .inl (cb1, 18, .inl fb1)), (r 2, .inl (cb2, 18, .inl fb2))]) [3, 4, 0, 1, 2] rfl
        have hD9 := hD.sub (ws' := [(rd, .inr (6, rF r y_28 y_29 a2 a3 a4 a5 a6 a7)), (ba, .inl (cb, kb, .inl fb)), (r 0, .inl (cb0, 18, .inl fb0)), (r 1, .inl (cb1, 18, .inl fb1)), (r 2, .inl (cb2, 18, .inl fb2))]) [3, 4, 0, 1, 2] (by decide) rfl
        have hK9 := hK.sub (tys' := [(cb, .int), (cb0, .int), (cb1, .int), (cb2, .boolean)]) [0, 1, 2, 3] rfl
        exact W.iret hx hb hr (fun t ht hW => ⟨⟨_, r_27, rfl, ⟨rfl, by omega⟩, y_28, y_29, a2, a3, a4, a7, fb0, fb1, fb2, (by first | exact Or.inl (by omega) | (exfalso; omega)), (by first | exact (rW_f (a1 := 2) (by have h9 := qr_27.2 (by omega) (a5.toInt + a3.toInt) (a6.toInt + a4.toInt); rw [show y_25.toInt = i1.toInt + 1 by omega] at h9; exact (mv_qp hq).tr h9) (by omega) (by omega)) | (exfalso; omega)), by rw [ht]; exact hP9, va_K.moved hW.alike hK9, hD9⟩, hS.F ht⟩) hS.2.2 dX6_readQuote_180
      · have tk_30 := c_eq (a := y_28.toInt) (b := 0) rfl (by decide) k_30
        refine lv_aload_n hx hb dX6_readQuote_74 rfl (lv_at hl 2 rfl) ?_
        refine va_get (D := (dC, dI)) (ci := 6) (v := .int a2) (C := RX6) (T := TX6) (N := 11) hx hb hts fin_X6_readQuoteq_X6 hown hK hP 3 rfl rfl 2 (by decide) (hts (.fieldLink RX6 29 "PatternGate$Reader" "lines" "I") (List.mem_of_getElem? (i := 7) (by decide +kernel))) (fun _ h9 => h9) rfl dX6_readQuote_75 ?_
        refine lv_bipush (v := 18) hx hb dX6_readQuote_78 (by decide) ?_
        refine lv_icmp_ge (tgt := 178) hx hb dX6_readQuote_80 (by decide) (fun k_31 => ?_) (fun k_31 => ?_)
        · have tk_31 := c_ge (a := a2.toInt) (b := 18) rfl (by decide) k_31
          refine lv_iload hx hb dX6_readQuote_178 (lv_at hl 0 rfl) ?_
          have hP9 := hP.sub (ws' := [(rd, .inr (6, rF r y_28 y_29 a2 a3 a4 a5 a6 a7)), (ba, .inl (cb, kb, .inl fb)), (r 0, .inl (cb0, 18, .inl fb0)), (r 1, .inl (cb1, 18, .inl fb1)), (r 2, .inl (cb2, 18, .inl fb2))]) [3, 4, 0, 1, 2] rfl
          have hD9 := hD.sub (ws' := [(rd, .inr (6, rF r y_28 y_29 a2 a3 a4 a5 a6 a7)), (ba, .inl (cb, kb, .inl fb)), (r 0, .inl (cb0, 18, .inl fb0)), (r 1, .inl (cb1, 18, .inl fb1)), (r 2, .inl (cb2, 18, .inl fb2))]) [3, 4, 0, 1, 2] (by decide) rfl
          have hK9 := hK.sub (tys' := [(cb, .int), (cb0, .int), (cb1, .int), (cb2, .boolean)]) [0, 1, 2, 3] rfl
          exact W.iret hx hb hr (fun t ht hW => ⟨⟨_, r_27, rfl, ⟨rfl, by omega⟩, y_28, y_29, a2, a3, a4, a7, fb0, fb1, fb2, (by first | exact Or.inl (by omega) | (exfalso; omega)), (by first | exact (rW_f (a1 := 2) (by have h9 := qr_27.2 (by omega) (a5.toInt + a3.toInt) (a6.toInt + a4.toInt); rw [show y_25.toInt = i1.toInt + 1 by omega] at h9; exact (mv_qp hq).tr h9) (by omega) (by omega)) | (exfalso; omega)), by rw [ht]; exact hP9, va_K.moved hW.alike hK9, hD9⟩, hS.F ht⟩) hS.2.2 dX6_readQuote_180
        · have tk_31 := c_nge (a := a2.toInt) (b := 18) rfl (by decide) k_31
          refine lv_aload_n hx hb dX6_readQuote_83 rfl (lv_at hl 2 rfl) ?_
          refine va_get (D := (dC, dI)) (ci := 6) (v := .ref (r 0)) (C := RX6) (T := TX6) (N := 11) hx hb hts fin_X6_readQuoteq_X6 hown hK hP 3 rfl rfl 5 (by decide) (hts (.fieldLink RX6 11 "PatternGate$Reader" "begins" "[I") (List.mem_of_getElem? (i := 8) (by decide +kernel))) (fun _ h9 => h9) rfl dX6_readQuote_84 ?_
          refine lv_aload_n hx hb dX6_readQuote_87 rfl (lv_at hl 2 rfl) ?_
          refine va_get (D := (dC, dI)) (ci := 6) (v := .int a2) (C := RX6) (T := TX6) (N := 11) hx hb hts fin_X6_readQuoteq_X6 hown hK hP 3 rfl rfl 2 (by decide) (hts (.fieldLink RX6 29 "PatternGate$Reader" "lines" "I") (List.mem_of_getElem? (i := 7) (by decide +kernel))) (fun _ h9 => h9) rfl dX6_readQuote_88 ?_
          refine lv_iload_n hx hb dX6_readQuote_91 rfl (lv_at hl 4 rfl) ?_
          refine lv_iconst (v := 1) hx hb dX6_readQuote_92 (by decide) ?_
          refine lv_iadd hx hb dX6_readQuote_93 ?_
          refine lv_topi (fun y_32 ey_32 => ?_)
          first | have ty_32 := i_add (a := i1.toInt) (b := 1) rfl (by decide) ey_32 (by omega) (by omega) | skip
          refine va_iast hx hb hK hP hD hS 0 1 rfl rfl (i := a2) (vp_of (a := a2.toInt) rfl (by omega) (by omega)) dX6_readQuote_94 (fun H locs hP hD hS => ?_)
          generalize hf_f_33 : upd fb0 _ _ = f_33 at hP hD
          have hP : va_P (dC, dI) vwCl [(r 0, .inl (cb0, 18, .inl f_33)), (r 1, .inl (cb1, 18, .inl fb1)), (r 2, .inl (cb2, 18, .inl fb2)), (rd, .inr (6, rF r y_28 y_29 a2 a3 a4 a5 a6 a7)), (ba, .inl (cb, kb, .inl fb))] H := hP
          have hD : va_D A [(r 0, .inl (cb0, 18, .inl f_33)), (r 1, .inl (cb1, 18, .inl fb1)), (r 2, .inl (cb2, 18, .inl fb2)), (rd, .inr (6, rF r y_28 y_29 a2 a3 a4 a5 a6 a7)), (ba, .inl (cb, kb, .inl fb))] := hD
          refine lv_aload_n hx hb dX6_readQuote_95 rfl (lv_at hl 2 rfl) ?_
          refine va_get (D := (dC, dI)) (ci := 6) (v := .ref (r 1)) (C := RX6) (T := TX6) (N := 11) hx hb hts fin_X6_readQuoteq_X6 hown hK hP 3 rfl rfl 6 (by decide) (hts (.fieldLink RX6 15 "PatternGate$Reader" "ends" "[I") (List.mem_of_getElem? (i := 9) (by decide +kernel))) (fun _ h9 => h9) rfl dX6_readQuote_96 ?_
          refine lv_aload_n hx hb dX6_readQuote_99 rfl (lv_at hl 2 rfl) ?_
          refine va_get (D := (dC, dI)) (ci := 6) (v := .int a2) (C := RX6) (T := TX6) (N := 11) hx hb hts fin_X6_readQuoteq_X6 hown hK hP 3 rfl rfl 2 (by decide) (hts (.fieldLink RX6 29 "PatternGate$Reader" "lines" "I") (List.mem_of_getElem? (i := 7) (by decide +kernel))) (fun _ h9 => h9) rfl dX6_readQuote_100 ?_
          refine lv_iload hx hb dX6_readQuote_103 (lv_at hl 0 rfl) ?_
          refine va_iast hx hb hK hP hD hS 1 2 rfl rfl (i := a2) (vp_of (a := a2.toInt) rfl (by omega) (by omega)) dX6_readQuote_105 (fun H locs hP hD hS => ?_)
          generalize hf_f_34 : upd fb1 _ _ = f_34 at hP hD
          have hP : va_P (dC, dI) vwCl [(r 0, .inl (cb0, 18, .inl f_33)), (r 1, .inl (cb1, 18, .inl f_34)), (r 2, .inl (cb2, 18, .inl fb2)), (rd, .inr (6, rF r y_28 y_29 a2 a3 a4 a5 a6 a7)), (ba, .inl (cb, kb, .inl fb))] H := hP
          have hD : va_D A [(r 0, .inl (cb0, 18, .inl f_33)), (r 1, .inl (cb1, 18, .inl f_34)), (r 2, .inl (cb2, 18, .inl fb2)), (rd, .inr (6, rF r y_28 y_29 a2 a3 a4 a5 a6 a7)), (ba, .inl (cb, kb, .inl fb))] := hD
          refine lv_aload_n hx hb dX6_readQuote_106 rfl (lv_at hl 2 rfl) ?_
          refine va_get (D := (dC, dI)) (ci := 6) (v := .ref (r 2)) (C := RX6) (T := TX6) (N := 11) hx hb hts fin_X6_readQuoteq_X6 hown hK hP 3 rfl rfl 7 (by decide) (hts (.fieldLink RX6 18 "PatternGate$Reader" "isPattern" "[Z") (List.mem_of_getElem? (i := 10) (by decide +kernel))) (fun _ h9 => h9) rfl dX6_readQuote_107 ?_
          refine lv_aload_n hx hb dX6_readQuote_110 rfl (lv_at hl 2 rfl) ?_
          refine va_get (D := (dC, dI)) (ci := 6) (v := .int a2) (C := RX6) (T := TX6) (N := 11) hx hb hts fin_X6_readQuoteq_X6 hown hK hP 3 rfl rfl 2 (by decide) (hts (.fieldLink RX6 29 "PatternGate$Reader" "lines" "I") (List.mem_of_getElem? (i := 7) (by decide +kernel))) (fun _ h9 => h9) rfl dX6_readQuote_111 ?_
          refine lv_iload hx hb dX6_readQuote_114 (lv_at hl 1 rfl) ?_
          refine lv_if_ne (tgt := 123) hx hb dX6_readQuote_116 (by decide) (fun k_35 => absurd (by decide) k_35) (fun k_35 => ?_)
          have tk_35 := c_eq (a := 0) (b := 0) (by decide) (by decide) k_35
          refine lv_iconst (v := 1) hx hb dX6_readQuote_119 (by decide) ?_
          refine lv_goto (tgt := 124) hx hb dX6_readQuote_120 (by decide) ?_
          refine va_zast hx hb hK hP hD hS 2 3 rfl rfl (i := a2) (vp_of (a := a2.toInt) rfl (by omega) (by omega)) dX6_readQuote_124 (fun H locs hP hD hS => ?_)
          generalize hf_f_36 : upd fb2 _ _ = f_36 at hP hD
          have hP : va_P (dC, dI) vwCl [(r 0, .inl (cb0, 18, .inl f_33)), (r 1, .inl (cb1, 18, .inl f_34)), (r 2, .inl (cb2, 18, .inl f_36)), (rd, .inr (6, rF r y_28 y_29 a2 a3 a4 a5 a6 a7)), (ba, .inl (cb, kb, .inl fb))] H := hP
          have hD : va_D A [(r 0, .inl (cb0, 18, .inl f_33)), (r 1, .inl (cb1, 18, .inl f_34)), (r 2, .inl (cb2, 18, .inl f_36)), (rd, .inr (6, rF r y_28 y_29 a2 a3 a4 a5 a6 a7)), (ba, .inl (cb, kb, .inl fb))] := hD
          refine lv_aload_n hx hb dX6_readQuote_125 rfl (lv_at hl 2 rfl) ?_
          refine lv_dup hx hb dX6_readQuote_126 rfl ?_
          refine va_get (D := (dC, dI)) (ci := 6) (v := .int a2) (C := RX6) (T := TX6) (N := 11) hx hb hts fin_X6_readQuoteq_X6 hown hK hP 3 rfl rfl 2 (by decide) (hts (.fieldLink RX6 29 "PatternGate$Reader" "lines" "I") (List.mem_of_getElem? (i := 7) (by decide +kernel))) (fun _ h9 => h9) rfl dX6_readQuote_127 ?_
          refine lv_iconst (v := 1) hx hb dX6_readQuote_130 (by decide) ?_
          refine lv_iadd hx hb dX6_readQuote_131 ?_
          refine lv_topi (fun y_37 ey_37 => ?_)
          first | have ty_37 := i_add (a := a2.toInt) (b := 1) rfl (by decide) ey_37 (by omega) (by omega) | skip
          refine va_put (D := (dC, dI)) (ci := 6) (v := .int y_37) (ty := .int) (C := RX6) (T := TX6) (N := 11) hx hb hts fin_X6_readQuoteq_X6 tyX6 tyX6_ok nmX6 hown hK hP hD hS 3 rfl rfl 2 (by decide) (hts (.fieldLink RX6 29 "PatternGate$Reader" "lines" "I") (List.mem_of_getElem? (i := 7) (by decide +kernel))) (fun _ h9 => h9) rfl (by decide +kernel) rfl rfl (Nat.le_of_ble_eq_true rfl) dX6_readQuote_132 (fun H locs hP hD hS => ?_)
          have hP : va_P (dC, dI) vwCl [(r 0, .inl (cb0, 18, .inl f_33)), (r 1, .inl (cb1, 18, .inl f_34)), (r 2, .inl (cb2, 18, .inl f_36)), (rd, .inr (6, rF r y_28 y_29 y_37 a3 a4 a5 a6 a7)), (ba, .inl (cb, kb, .inl fb))] H := hP
          have hD : va_D A [(r 0, .inl (cb0, 18, .inl f_33)), (r 1, .inl (cb1, 18, .inl f_34)), (r 2, .inl (cb2, 18, .inl f_36)), (rd, .inr (6, rF r y_28 y_29 y_37 a3 a4 a5 a6 a7)), (ba, .inl (cb, kb, .inl fb))] := hD
          refine lv_aload_n hx hb dX6_readQuote_135 rfl (lv_at hl 2 rfl) ?_
          refine lv_dup hx hb dX6_readQuote_136 rfl ?_
          refine va_get (D := (dC, dI)) (ci := 6) (v := .int a3) (C := RX6) (T := TX6) (N := 11) hx hb hts fin_X6_readQuoteq_X6 hown hK hP 3 rfl rfl 3 (by decide) (hts (.fieldLink RX6 32 "PatternGate$Reader" "newDocs" "I") (List.mem_of_getElem? (i := 11) (by decide +kernel))) (fun _ h9 => h9) rfl dX6_readQuote_137 ?_
          refine lv_iload hx hb dX6_readQuote_140 (lv_at hl 1 rfl) ?_
          refine lv_if_eq (tgt := 149) hx hb dX6_readQuote_142 (by decide) (fun k_38 => ?_) (fun k_38 => absurd (by decide) k_38)
          have tk_38 := c_eq (a := 0) (b := 0) (by decide) (by decide) k_38
          refine lv_iconst (v := 0) hx hb dX6_readQuote_149 (by decide) ?_
          refine lv_iadd hx hb dX6_readQuote_150 ?_
          refine lv_topi (fun y_39 ey_39 => ?_)
          first | have ty_39 := i_add (a := a3.toInt) (b := 0) rfl (by decide) ey_39 (by omega) (by omega) | skip
          refine va_put (D := (dC, dI)) (ci := 6) (v := .int y_39) (ty := .int) (C := RX6) (T := TX6) (N := 11) hx hb hts fin_X6_readQuoteq_X6 tyX6 tyX6_ok nmX6 hown hK hP hD hS 3 rfl rfl 3 (by decide) (hts (.fieldLink RX6 32 "PatternGate$Reader" "newDocs" "I") (List.mem_of_getElem? (i := 11) (by decide +kernel))) (fun _ h9 => h9) rfl (by decide +kernel) rfl rfl (Nat.le_of_ble_eq_true rfl) dX6_readQuote_151 (fun H locs hP hD hS => ?_)
          have hP : va_P (dC, dI) vwCl [(r 0, .inl (cb0, 18, .inl f_33)), (r 1, .inl (cb1, 18, .inl f_34)), (r 2, .inl (cb2, 18, .inl f_36)), (rd, .inr (6, rF r y_28 y_29 y_37 y_39 a4 a5 a6 a7)), (ba, .inl (cb, kb, .inl fb))] H := hP
          have hD : va_D A [(r 0, .inl (cb0, 18, .inl f_33)), (r 1, .inl (cb1, 18, .inl f_34)), (r 2, .inl (cb2, 18, .inl f_36)), (rd, .inr (6, rF r y_28 y_29 y_37 y_39 a4 a5 a6 a7)), (ba, .inl (cb, kb, .inl fb))] := hD
          refine lv_aload_n hx hb dX6_readQuote_154 rfl (lv_at hl 2 rfl) ?_
          refine lv_dup hx hb dX6_readQuote_155 rfl ?_
          refine va_get (D := (dC, dI)) (ci := 6) (v := .int a4) (C := RX6) (T := TX6) (N := 11) hx hb hts fin_X6_readQuoteq_X6 hown hK hP 3 rfl rfl 4 (by decide) (hts (.fieldLink RX6 35 "PatternGate$Reader" "newPatterns" "I") (List.mem_of_getElem? (i := 12) (by decide +kernel))) (fun _ h9 => h9) rfl dX6_readQuote_156 ?_
          refine lv_iload hx hb dX6_readQuote_159 (lv_at hl 1 rfl) ?_
          refine lv_if_eq (tgt := 168) hx hb dX6_readQuote_161 (by decide) (fun k_40 => ?_) (fun k_40 => absurd (by decide) k_40)
          have tk_40 := c_eq (a := 0) (b := 0) (by decide) (by decide) k_40
          refine lv_iconst (v := 1) hx hb dX6_readQuote_168 (by decide) ?_
          refine lv_iadd hx hb dX6_readQuote_169 ?_
          refine lv_topi (fun y_41 ey_41 => ?_)
          first | have ty_41 := i_add (a := a4.toInt) (b := 1) rfl (by decide) ey_41 (by omega) (by omega) | skip
          refine va_put (D := (dC, dI)) (ci := 6) (v := .int y_41) (ty := .int) (C := RX6) (T := TX6) (N := 11) hx hb hts fin_X6_readQuoteq_X6 tyX6 tyX6_ok nmX6 hown hK hP hD hS 3 rfl rfl 4 (by decide) (hts (.fieldLink RX6 35 "PatternGate$Reader" "newPatterns" "I") (List.mem_of_getElem? (i := 12) (by decide +kernel))) (fun _ h9 => h9) rfl (by decide +kernel) rfl rfl (Nat.le_of_ble_eq_true rfl) dX6_readQuote_170 (fun H locs hP hD hS => ?_)
          have hP : va_P (dC, dI) vwCl [(r 0, .inl (cb0, 18, .inl f_33)), (r 1, .inl (cb1, 18, .inl f_34)), (r 2, .inl (cb2, 18, .inl f_36)), (rd, .inr (6, rF r y_28 y_29 y_37 y_39 y_41 a5 a6 a7)), (ba, .inl (cb, kb, .inl fb))] H := hP
          have hD : va_D A [(r 0, .inl (cb0, 18, .inl f_33)), (r 1, .inl (cb1, 18, .inl f_34)), (r 2, .inl (cb2, 18, .inl f_36)), (rd, .inr (6, rF r y_28 y_29 y_37 y_39 y_41 a5 a6 a7)), (ba, .inl (cb, kb, .inl fb))] := hD
          refine lv_aload_n hx hb dX6_readQuote_173 rfl (lv_at hl 2 rfl) ?_
          refine lv_iconst (v := 3) hx hb dX6_readQuote_174 (by decide) ?_
          refine va_put (D := (dC, dI)) (ci := 6) (v := .int 3) (ty := .int) (C := RX6) (T := TX6) (N := 11) hx hb hts fin_X6_readQuoteq_X6 tyX6 tyX6_ok nmX6 hown hK hP hD hS 3 rfl rfl 10 (by decide) (hts (.fieldLink RX6 44 "PatternGate$Reader" "wanted" "I") (List.mem_of_getElem? (i := 1) (by decide +kernel))) (fun _ h9 => h9) rfl (by decide +kernel) rfl rfl (Nat.le_of_ble_eq_true rfl) dX6_readQuote_175 (fun H locs hP hD hS => ?_)
          have hP : va_P (dC, dI) vwCl [(r 0, .inl (cb0, 18, .inl f_33)), (r 1, .inl (cb1, 18, .inl f_34)), (r 2, .inl (cb2, 18, .inl f_36)), (rd, .inr (6, rF r y_28 y_29 y_37 y_39 y_41 a5 a6 3)), (ba, .inl (cb, kb, .inl fb))] H := hP
          have hD : va_D A [(r 0, .inl (cb0, 18, .inl f_33)), (r 1, .inl (cb1, 18, .inl f_34)), (r 2, .inl (cb2, 18, .inl f_36)), (rd, .inr (6, rF r y_28 y_29 y_37 y_39 y_41 a5 a6 3)), (ba, .inl (cb, kb, .inl fb))] := hD
          refine lv_iload hx hb dX6_readQuote_178 (lv_at hl 0 rfl) ?_
          have hP9 := hP.sub (ws' := [(rd, .inr (6, rF r y_28 y_29 y_37 y_39 y_41 a5 a6 3)), (ba, .inl (cb, kb, .inl fb)), (r 0, .inl (cb0, 18, .inl f_33)), (r 1, .inl (cb1, 18, .inl f_34)), (r 2, .inl (cb2, 18, .inl f_36))]) [3, 4, 0, 1, 2] rfl
          have hD9 := hD.sub (ws' := [(rd, .inr (6, rF r y_28 y_29 y_37 y_39 y_41 a5 a6 3)), (ba, .inl (cb, kb, .inl fb)), (r 0, .inl (cb0, 18, .inl f_33)), (r 1, .inl (cb1, 18, .inl f_34)), (r 2, .inl (cb2, 18, .inl f_36))]) [3, 4, 0, 1, 2] (by decide) rfl
          have hK9 := hK.sub (tys' := [(cb, .int), (cb0, .int), (cb1, .int), (cb2, .boolean)]) [0, 1, 2, 3] rfl
          have lit_41 : (3 : Int32).toInt = 3 := by decide
          exact W.iret hx hb hr (fun t ht hW => ⟨⟨_, r_27, rfl, ⟨rfl, by omega⟩, y_28, y_29, y_37, y_39, y_41, 3, f_33, f_34, f_36, (Or.inr (rJ.line hJ hf_f_33 hf_f_34 hf_f_36 (by omega) (by omega) (by omega) (by omega) (by omega) (by decide) (Or.inr ⟨by omega, rfl, by omega, by omega⟩))), (rW_o (a1 := 2) (w1 := 3) (by have h9 := qr_27.1 (by omega) (a5.toInt + a3.toInt) (a6.toInt + a4.toInt); rw [show y_25.toInt = i1.toInt + 1 by omega] at h9; exact (mv_qp hq).tr h9) (by omega) rfl (by decide) (by omega) (by omega) (by omega)), by rw [ht]; exact hP9, va_K.moved hW.alike hK9, hD9⟩, hS.F ht⟩) hS.2.2 dX6_readQuote_180
    · have tk_22 := c_ne (a := a7.toInt) (b := 2) rfl (by decide) k_22
      refine lv_aload_n hx hb dX6_readQuote_16 rfl (lv_at hl 0 rfl) ?_
      refine lv_iconst (v := 2) hx hb dX6_readQuote_17 (by decide) ?_
      refine lv_iload_n hx hb dX6_readQuote_18 rfl (lv_at hl 2 rfl) ?_
      have hPc := hP.sub (ws' := [(rd, .inr (6, rF r a0 a1 a2 a3 a4 a5 a6 a7))]) [0] rfl
      have hKc := hK.sub (tys' := []) [] rfl
      have hDc := hD.sub (ws' := [(rd, .inr (6, rF r a0 a1 a2 a3 a4 a5 a6 a7))]) [0] (by decide) rfl
      have hFc := va_free (wc := [(rd, .inr (6, rF r a0 a1 a2 a3 a4 a5 a6 a7))]) hD hS hA [0] rfl
      refine va_callv (va_runV (As := [.int 2, .int i1]) (rest := []) ⟨hx, hb, hml, hown, hts⟩ (s_fail l dC dI rd r a0 a1 a2 a3 a4 a5 a6 a7 H.size 2 i1) (cwV 2 hts mg_X6_readQuoteq_X6_fail_71 rfl rfl rfl (by decide +kernel) ⟨Nat.le_of_ble_eq_true rfl, Nat.le_of_ble_eq_true rfl⟩) ⟨fun a U g mk q => by obtain ⟨q0, q1, qP, qK, qD⟩ := q; exact ⟨q0, q1, qP, va_K.moved (u := U) (U := U.calling g mk a) (Vm.Alike.refl U.vm) qK, qD⟩, va_recv hKc hPc (ci := 6) (q0 := 0) rfl rfl, fun U hU hW => ⟨rfl, by rw [hU], by rw [hU]; exact hPc, va_K.moved hW.alike hKc, hDc.weaken (fun _ _ _ _ => trivial)⟩⟩ rfl rfl hl.1 rfl (lv_room (Nat.le_of_ble_eq_true rfl)) dX6_readQuote_19 ⟨Nat.le_of_ble_eq_true rfl, Nat.le_of_ble_eq_true rfl⟩) hS (fun q _ h => hFc q h) hFc (fun u t H1 locs ht hvm hw hB hz1 hk1 hS => ?_)
      obtain ⟨hP1, hK1, hD1⟩ := hB
      rw [ht] at hP1
      obtain ⟨hP, hD⟩ := va_join (wr := [(ba, .inl (cb, kb, .inl fb)), (r 0, .inl (cb0, 18, .inl fb0)), (r 1, .inl (cb1, 18, .inl fb1)), (r 2, .inl (cb2, 18, .inl fb2))]) (w1 := [(rd, .inr (6, rF r 2 i1 a2 a3 a4 a5 a6 a7))]) hP hD [0] [1, 2, 3, 4] rfl rfl (by decide) (by decide) hk1 hFc hP1 hD1
      generalize H1 = H at hP hS ⊢
      have hP : va_P (dC, dI) vwCl [(ba, .inl (cb, kb, .inl fb)), (r 0, .inl (cb0, 18, .inl fb0)), (r 1, .inl (cb1, 18, .inl fb1)), (r 2, .inl (cb2, 18, .inl fb2)), (rd, .inr (6, rF r 2 i1 a2 a3 a4 a5 a6 a7))] H := hP
      have hD : va_D A [(ba, .inl (cb, kb, .inl fb)), (r 0, .inl (cb0, 18, .inl fb0)), (r 1, .inl (cb1, 18, .inl fb1)), (r 2, .inl (cb2, 18, .inl fb2)), (rd, .inr (6, rF r 2 i1 a2 a3 a4 a5 a6 a7))] := hD
      refine lv_iload_n hx hb dX6_readQuote_22 rfl (lv_at hl 2 rfl) ?_
      have hP9 := hP.sub (ws' := [(rd, .inr (6, rF r 2 i1 a2 a3 a4 a5 a6 a7)), (ba, .inl (cb, kb, .inl fb)), (r 0, .inl (cb0, 18, .inl fb0)), (r 1, .inl (cb1, 18, .inl fb1)), (r 2, .inl (cb2, 18, .inl fb2))]) [4, 0, 1, 2, 3] rfl
      have hD9 := hD.sub (ws' := [(rd, .inr (6, rF r 2 i1 a2 a3 a4 a5 a6 a7)), (ba, .inl (cb, kb, .inl fb)), (r 0, .inl (cb0, 18, .inl fb0)), (r 1, .inl (cb1, 18, .inl fb1)), (r 2, .inl (cb2, 18, .inl fb2))]) [4, 0, 1, 2, 3] (by decide) rfl
      have hK9 := hK.sub (tys' := [(cb, .int), (cb0, .int), (cb1, .int), (cb2, .boolean)]) [0, 1, 2, 3] rfl
      have lit_44 : (2 : Int32).toInt = 2 := by decide
      exact W.iret hx hb hr (fun t ht hW => ⟨⟨_, i1, rfl, ⟨rfl, by omega⟩, 2, i1, a2, a3, a4, a7, fb0, fb1, fb2, (Or.inl (by decide)), (rW_f (mv_qf hq (show a7.toInt ≠ 1 by omega) (by omega)) rfl (by decide)), by rw [ht]; exact hP9, va_K.moved hW.alike hK9, hD9⟩, hS.F ht⟩) hS.2.2 dX6_readQuote_23

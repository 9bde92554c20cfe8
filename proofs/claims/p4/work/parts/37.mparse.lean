def mwX10_isAtomAtmd1 : List Cond := .code yX10_isAtomAt cX10_isAtomAt 3 (some .boolean) :: ([.fieldLink RX10 130 "PatternGateModel" "end" "I", .code yX10_byteAt cX10_byteAt 2 (some .int), .fieldLink RX10 114 "PatternGateModel" "size" "I", .fieldLink RX10 18 "PatternGateModel" "text" "[B", .methodLink RX10 133 yX10_byteAt, .instanceMethod yX10_byteAt, .selects RX10 yX10_byteAt yX10_byteAt, .initialized RX10, .fieldLink RX10 151 "PatternGateModel" "spots" "I", .code yX10_isSetAt cX10_isSetAt 3 (some .boolean), .code yX10_isSmall cX10_isSmall 1 (some .boolean), .methodLink RX10 137 yX10_isSmall, .static yX10_isSmall, .code yX10_failsAt cX10_failsAt 3 (some .boolean), .fieldLink RX10 117 "PatternGateModel" "faults" "I", .fieldLink RX10 21 "PatternGateModel" "faultPlace" "I", .methodLink RX10 126 yX10_failsAt, .instanceMethod yX10_failsAt, .selects RX10 yX10_failsAt yX10_failsAt, .code yX10_has cX10_has 2 (some .boolean), .methodLink RX10 170 yX10_has, .static yX10_has, .methodLink RX10 166 yX10_isSetAt, .instanceMethod yX10_isSetAt, .selects RX10 yX10_isSetAt yX10_isSetAt, .code yX10_isPatternAt cX10_isPatternAt 2 (some .boolean), .code yX10_isBranchAt cX10_isBranchAt 3 (some .boolean), .code yX10_isAtomSign cX10_isAtomSign 2 (some .boolean), .methodLink RX10 160 yX10_isAtomSign, .instanceMethod yX10_isAtomSign, .selects RX10 yX10_isAtomSign yX10_isAtomSign, .code yX10_isAtomAt cX10_isAtomAt 3 (some .boolean), .methodLink RX10 163 yX10_isAtomAt, .instanceMethod yX10_isAtomAt, .selects RX10 yX10_isAtomAt yX10_isAtomAt, .methodLink RX10 157 yX10_isBranchAt, .instanceMethod yX10_isBranchAt, .selects RX10 yX10_isBranchAt yX10_isBranchAt, .methodLink RX10 154 yX10_isPatternAt, .instanceMethod yX10_isPatternAt, .selects RX10 yX10_isPatternAt yX10_isPatternAt] ++ wsX100)
theorem fin_X10_isAtomAtmd1_X10 : ∀ w ∈ wsX100, w ∈ mwX10_isAtomAtmd1 := fun w h => List.mem_cons_of_mem _ (List.mem_append_right _ h)
set_option maxRecDepth 20000 in
theorem mg_X10_isAtomAtmd1_X10_byteAt_133 : GoodIn mwX10_isAtomAtmd1 (wsV RX10 133 RX10 yX10_byteAt mwX10_byteAtm) := goodIn_r _ [5, 6, 7, 8, 2, 3, 4, 42, 43, 44, 45, 46, 47, 48, 49, 50, 51, 52, 53, 54, 55, 56, 57, 58, 59, 60, 61, 62, 63, 64, 65, 66, 67, 68, 69, 70, 71, 72, 73, 74, 75, 76, 77, 78, 79, 80, 81, 82, 83, 84, 85, 86, 87, 88, 89] (by decide +kernel) (by decide +kernel)
set_option maxRecDepth 20000 in
theorem mg_X10_isAtomAtmd1_X10_isSetAt_166 : GoodIn mwX10_isAtomAtmd1 (wsV RX10 166 RX10 yX10_isSetAt mwX10_isSetAtm) := goodIn_r _ [23, 24, 25, 8, 10, 1, 2, 3, 4, 5, 6, 7, 8, 11, 12, 13, 14, 15, 16, 17, 18, 19, 20, 21, 22, 42, 43, 44, 45, 46, 47, 48, 49, 50, 51, 52, 53, 54, 55, 56, 57, 58, 59, 60, 61, 62, 63, 64, 65, 66, 67, 68, 69, 70, 71, 72, 73, 74, 75, 76, 77, 78, 79, 80, 81, 82, 83, 84, 85, 86, 87, 88, 89] (by decide +kernel) (by decide +kernel)
set_option maxRecDepth 20000 in
theorem mg_X10_isAtomAtmd1_X10_failsAt_126 : GoodIn mwX10_isAtomAtmd1 (wsV RX10 126 RX10 yX10_failsAt mwX10_failsAtm) := goodIn_r _ [17, 18, 19, 8, 14, 15, 16, 42, 43, 44, 45, 46, 47, 48, 49, 50, 51, 52, 53, 54, 55, 56, 57, 58, 59, 60, 61, 62, 63, 64, 65, 66, 67, 68, 69, 70, 71, 72, 73, 74, 75, 76, 77, 78, 79, 80, 81, 82, 83, 84, 85, 86, 87, 88, 89] (by decide +kernel) (by decide +kernel)
set_option maxRecDepth 20000 in
theorem mg_X10_isAtomAtmd1_X10_isPatternAt_154 : GoodIn mwX10_isAtomAtmd1 (wsV RX10 154 RX10 yX10_isPatternAt mwX10_isPatternAtmd2) := goodIn_r _ [39, 40, 41, 8, 26, 27, 1, 2, 3, 4, 5, 6, 7, 8, 28, 11, 12, 13, 29, 30, 31, 0, 9, 10, 14, 15, 16, 17, 18, 19, 20, 21, 22, 23, 24, 25, 26, 33, 34, 35, 36, 37, 38, 39, 40, 41, 42, 43, 44, 45, 46, 47, 48, 49, 50, 51, 52, 53, 54, 55, 56, 57, 58, 59, 60, 61, 62, 63, 64, 65, 66, 67, 68, 69, 70, 71, 72, 73, 74, 75, 76, 77, 78, 79, 80, 81, 82, 83, 84, 85, 86, 87, 88, 89] (by decide +kernel) (by decide +kernel)
set_option maxHeartbeats 4000000 in
set_option maxRecDepth 100000 in
theorem m_isAtomAt1 (l : Launch) (dC : Nat → ClassId) (dI : Nat → Nat → Nat) (ad : Nat → Nat) (kc : Nat → ClassId) (x0 x1 x2 x3 x4 x5 x6 x7 x8 x9 x10 x11 x12 x13 x14 x15 x16 x17 x18 x19 x20 x21 : Int32) (f0 f1 f2 f3 f4 f5 f6 f7 f8 f9 f10 f11 f12 f13 f14 f15 f16 f17 f18 f19 f20 f21 : Nat → Int32) (fL : Nat → Nat → Int64) (fN : Nat → Nat → Int32) (fP : Nat → Nat → Nat) (fM : Nat → Nat → Int32) (fO : Nat → Nat → Int32) (sz : Nat) (i1 : Int32) (q0 : 0 ≤ x7.toInt) (q1 : x7.toInt ≤ x4.toInt) (q2 : x4.toInt ≤ 900) (q3 : 0 ≤ x11.toInt) (q4 : x11.toInt ≤ 24) (q5 : i1.toInt = 1) (q6 : isAt (tx f2 x4.toInt x7.toInt)) : Met l yX10_isAtomAt mwX10_isAtomAtmd1 ({ frames := 14, cells := 0, slots := 0, locals := 840 }) (va_Pc [.ref (ad 0), .int i1] (fun U => U.heap.size = sz ∧ va_P (dC, dI) vwCl (mW ad kc x0 x1 x2 x3 x4 x5 x6 x7 x8 x9 x10 x11 x12 x13 x14 x15 x16 x17 x18 x19 x20 x21 f0 f1 f2 f3 f4 f5 f6 f7 f8 f9 f10 f11 f12 f13 f14 f15 f16 f17 f18 f19 f20 f21 fL fN fP fM fO) U.heap ∧ va_K (dC, dI) vwCl (mT kc) U ∧ va_D (fun _ => True) (mW ad kc x0 x1 x2 x3 x4 x5 x6 x7 x8 x9 x10 x11 x12 x13 x14 x15 x16 x17 x18 x19 x20 x21 f0 f1 f2 f3 f4 f5 f6 f7 f8 f9 f10 f11 f12 f13 f14 f15 f16 f17 f18 f19 f20 f21 fL fN fP fM fO))) (va_Qi (fun (o9 u9 : Int32) => o9 = u9) (fun (o9 : Int32) t => ∃ (y7 y8 y9 y11 : Int32), (x7.toInt ≤ y7.toInt) ∧ (y7.toInt ≤ x4.toInt) ∧ (x11.toInt ≤ y11.toInt) ∧ (y11.toInt ≤ 24) ∧ (o9.toInt = 1 ∧ (pAtom (tx f2 x4.toInt) (pSub (tx f2 x4.toInt) 4) x7.toInt y7.toInt (y11.toInt - x11.toInt) ∧ x11.toInt < y11.toInt ∧ x7.toInt < y7.toInt) ∨ o9.toInt = 0) ∧ va_P (dC, dI) vwCl (mW ad kc x0 x1 x2 x3 x4 x5 x6 y7 y8 y9 x10 y11 x12 x13 x14 x15 x16 x17 x18 x19 x20 x21 f0 f1 f2 f3 f4 f5 f6 f7 f8 f9 f10 f11 f12 f13 f14 f15 f16 f17 f18 f19 f20 f21 fL fN fP fM fO) t.heap ∧ va_K (dC, dI) vwCl (mT kc) t ∧ va_D (va_A (mW ad kc x0 x1 x2 x3 x4 x5 x6 x7 x8 x9 x10 x11 x12 x13 x14 x15 x16 x17 x18 x19 x20 x21 f0 f1 f2 f3 f4 f5 f6 f7 f8 f9 f10 f11 f12 f13 f14 f15 f16 f17 f18 f19 f20 f21 fL fN fP fM fO) sz) (mW ad kc x0 x1 x2 x3 x4 x5 x6 y7 y8 y9 x10 y11 x12 x13 x14 x15 x16 x17 x18 x19 x20 x21 f0 f1 f2 f3 f4 f5 f6 f7 f8 f9 f10 f11 f12 f13 f14 f15 f16 f17 f18 f19 f20 f21 fL fN fP fM fO)) (va_A (mW ad kc x0 x1 x2 x3 x4 x5 x6 x7 x8 x9 x10 x11 x12 x13 x14 x15 x16 x17 x18 x19 x20 x21 f0 f1 f2 f3 f4 f5 f6 f7 f8 f9 f10 f11 f12 f13 f14 f15 f16 f17 f18 f19 f20 f21 fL fN fP fM fO) sz)) 0 0 (va_A (mW ad kc x0 x1 x2 x3 x4 x5 x6 x7 x8 x9 x10 x11 x12 x13 x14 x15 x16 x17 x18 x19 x20 x21 f0 f1 f2 f3 f4 f5 f6 f7 f8 f9 f10 f11 f12 f13 f14 f15 f16 f17 f18 f19 f20 f21 fL fN fP fM fO) sz) := by
  refine Met.ofW (cc := cX10_isAtomAt) (maxL := 3) (ret := (some .boolean)) (by decide +kernel) rfl ?_
  intro p e s m args below meth c s₁ B hml hv
  obtain ⟨rfl, hsz, hP, hK, hD0⟩ := hv
  have hx := B.exec
  have hb := B.bytes
  have hr := B.returns
  have hts := atoms_spec (ws := mwX10_isAtomAtmd1) B.pre
  have hown : s.vm.findClass RX10 = some m.cls := findClass_of_methodNamed B.named
  have hlocks := B.notSynchronized
  subst hsz
  have hD := hD0.self (sz := s.heap.size)
  generalize hAe : va_A (mW ad kc x0 x1 x2 x3 x4 x5 x6 x7 x8 x9 x10 x11 x12 x13 x14 x15 x16 x17 x18 x19 x20 x21 f0 f1 f2 f3 f4 f5 f6 f7 f8 f9 f10 f11 f12 f13 f14 f15 f16 f17 f18 f19 f20 f21 fL fN fP fM fO) s.heap.size = A at hD ⊢
  have hA : ∀ q : Nat, s.heap.size ≤ q → A q := fun q h => by rw [← hAe]; exact Or.inr h
  have hP : va_P (dC, dI) vwCl (mW ad kc x0 x1 x2 x3 x4 x5 x6 x7 x8 x9 x10 x11 x12 x13 x14 x15 x16 x17 x18 x19 x20 x21 f0 f1 f2 f3 f4 f5 f6 f7 f8 f9 f10 f11 f12 f13 f14 f15 f16 f17 f18 f19 f20 f21 fL fN fP fM fO) s.heap := hP
  have hD : va_D A (mW ad kc x0 x1 x2 x3 x4 x5 x6 x7 x8 x9 x10 x11 x12 x13 x14 x15 x16 x17 x18 x19 x20 x21 f0 f1 f2 f3 f4 f5 f6 f7 f8 f9 f10 f11 f12 f13 f14 f15 f16 f17 f18 f19 f20 f21 fL fN fP fM fO) := hD
  have hK : va_K (dC, dI) vwCl (mT kc) s := hK
  generalize hH : s.heap = H at hP ⊢
  have hS : va_S A s.heap H [] := by rw [← hH]; exact va_S.rf
  have hl := lv_entry ([.ref (ad 0), .int i1]) (n := 3) (Nat.le_of_ble_eq_true rfl)
  rw [lg_entry_eq]
  generalize (lg_sl ([.ref (ad 0), .int i1]) ++ List.replicate (3 - (lg_sl ([.ref (ad 0), .int i1])).length) Slot.unset).toArray = ls at hl ⊢
  have hl : lv_has ls 3 [(0, .ref (ad 0)), (1, .int i1)] := hl
  have rg_i1 := i_rng i1
  unfold isAt at q6
  refine lv_aload_n hx hb dX10_isAtomAt_0 rfl (lv_at hl 0 rfl) ?_
  refine lv_aload_n hx hb dX10_isAtomAt_1 rfl (lv_at hl 0 rfl) ?_
  refine va_get (D := (dC, dI)) (ci := 10) (v := .int x7) (C := RX10) (T := TX10) (N := 48) hx hb hts fin_X10_isAtomAtmd1_X10 hown hK hP 0 rfl rfl 10 (by decide) (hts (.fieldLink RX10 130 "PatternGateModel" "end" "I") (List.mem_of_getElem? (i := 1) (by decide +kernel))) (fun _ h9 => h9) rfl dX10_isAtomAt_2 ?_
  refine vp_callSi (W.runV (As := [.int x7]) (rest := []) ⟨hx, hb, hml, hown, hts⟩ (m_byteAt l dC dI ad kc x0 x1 x2 x3 x4 x5 x6 x7 x8 x9 x10 x11 x12 x13 x14 x15 x16 x17 x18 x19 x20 x21 f0 f1 f2 f3 f4 f5 f6 f7 f8 f9 f10 f11 f12 f13 f14 f15 f16 f17 f18 f19 f20 f21 fL fN fP fM fO x7 (by first | omega | assumption | decide | (have l0 := Int32.toInt_zero; omega)) (by first | omega | assumption | decide | (have l0 := Int32.toInt_zero; omega))) (cwV 1 hts mg_X10_isAtomAtmd1_X10_byteAt_133 rfl rfl rfl (by decide +kernel) ⟨Nat.le_of_ble_eq_true rfl, Nat.le_of_ble_eq_true rfl⟩) ⟨fun a U g mk q => by obtain ⟨q0, qP, qK⟩ := q; exact ⟨q0, qP, va_K.moved (u := U) (U := U.calling g mk a) (Vm.Alike.refl U.vm) qK⟩, va_recv hK hP (ci := 10) (q0 := 0) rfl rfl, fun U hU hW => ⟨rfl, by rw [hU]; exact hP, va_K.moved hW.alike hK⟩⟩ rfl rfl hl.1 rfl (lv_room (Nat.le_of_ble_eq_true rfl)) dX10_isAtomAt_5 ⟨Nat.le_of_ble_eq_true rfl, Nat.le_of_ble_eq_true rfl⟩) (fun r_1 hr_1 => ?_)
  have rg_r_1 := i_rng r_1
  refine lv_istore_n (lv' := [(2, .int r_1), (0, .ref (ad 0)), (1, .int i1)]) hx hb dX10_isAtomAt_8 rfl hl (by decide) rfl (fun ls hl => ?_)
  refine lv_iload_n hx hb dX10_isAtomAt_9 rfl (lv_at hl 0 rfl) ?_
  refine lv_bipush (v := 40) hx hb dX10_isAtomAt_10 (by decide) ?_
  refine lv_icmp_ne (tgt := 87) hx hb dX10_isAtomAt_12 (by decide) (fun k_2 => ?_) (fun k_2 => ?_)
  · have tk_2 := c_ne (a := r_1.toInt) (b := 40) rfl (by decide) k_2
    refine lv_aload_n hx hb dX10_isAtomAt_87 rfl (lv_at hl 1 rfl) ?_
    refine va_get (D := (dC, dI)) (ci := 10) (v := .int x11) (C := RX10) (T := TX10) (N := 48) hx hb hts fin_X10_isAtomAtmd1_X10 hown hK hP 0 rfl rfl 14 (by decide) (hts (.fieldLink RX10 151 "PatternGateModel" "spots" "I") (List.mem_of_getElem? (i := 9) (by decide +kernel))) (fun _ h9 => h9) rfl dX10_isAtomAt_88 ?_
    refine lv_bipush (v := 24) hx hb dX10_isAtomAt_91 (by decide) ?_
    refine lv_icmp_ne (tgt := 106) hx hb dX10_isAtomAt_93 (by decide) (fun k_3 => ?_) (fun k_3 => ?_)
    · have tk_3 := c_ne (a := x11.toInt) (b := 24) rfl (by decide) k_3
      refine lv_aload_n hx hb dX10_isAtomAt_106 rfl (lv_at hl 1 rfl) ?_
      refine lv_dup hx hb dX10_isAtomAt_107 rfl ?_
      refine va_get (D := (dC, dI)) (ci := 10) (v := .int x11) (C := RX10) (T := TX10) (N := 48) hx hb hts fin_X10_isAtomAtmd1_X10 hown hK hP 0 rfl rfl 14 (by decide) (hts (.fieldLink RX10 151 "PatternGateModel" "spots" "I") (List.mem_of_getElem? (i := 9) (by decide +kernel))) (fun _ h9 => h9) rfl dX10_isAtomAt_108 ?_
      refine lv_iconst (v := 1) hx hb dX10_isAtomAt_111 (by decide) ?_
      refine lv_iadd hx hb dX10_isAtomAt_112 ?_
      refine lv_topi (fun y_4 ey_4 => ?_)
      first | have ty_4 := i_add (a := x11.toInt) (b := 1) rfl (by decide) ey_4 (by omega) (by omega) | skip
      refine va_put (D := (dC, dI)) (ci := 10) (v := .int y_4) (ty := .int) (C := RX10) (T := TX10) (N := 48) hx hb hts fin_X10_isAtomAtmd1_X10 tyX10 tyX10_ok nmX10 hown hK hP hD hS 0 rfl rfl 14 (by decide) (hts (.fieldLink RX10 151 "PatternGateModel" "spots" "I") (List.mem_of_getElem? (i := 9) (by decide +kernel))) (fun _ h9 => h9) rfl (by decide +kernel) rfl rfl (Nat.le_of_ble_eq_true rfl) dX10_isAtomAt_113 (fun H locs hP hD hS => ?_)
      have hP : va_P (dC, dI) vwCl (mW ad kc x0 x1 x2 x3 x4 x5 x6 x7 x8 x9 x10 y_4 x12 x13 x14 x15 x16 x17 x18 x19 x20 x21 f0 f1 f2 f3 f4 f5 f6 f7 f8 f9 f10 f11 f12 f13 f14 f15 f16 f17 f18 f19 f20 f21 fL fN fP fM fO) H := hP
      have hD : va_D A (mW ad kc x0 x1 x2 x3 x4 x5 x6 x7 x8 x9 x10 y_4 x12 x13 x14 x15 x16 x17 x18 x19 x20 x21 f0 f1 f2 f3 f4 f5 f6 f7 f8 f9 f10 f11 f12 f13 f14 f15 f16 f17 f18 f19 f20 f21 fL fN fP fM fO) := hD
      refine lv_aload_n hx hb dX10_isAtomAt_116 rfl (lv_at hl 1 rfl) ?_
      refine lv_dup hx hb dX10_isAtomAt_117 rfl ?_
      refine va_get (D := (dC, dI)) (ci := 10) (v := .int x7) (C := RX10) (T := TX10) (N := 48) hx hb hts fin_X10_isAtomAtmd1_X10 hown hK hP 0 rfl rfl 10 (by decide) (hts (.fieldLink RX10 130 "PatternGateModel" "end" "I") (List.mem_of_getElem? (i := 1) (by decide +kernel))) (fun _ h9 => h9) rfl dX10_isAtomAt_118 ?_
      refine lv_iconst (v := 1) hx hb dX10_isAtomAt_121 (by decide) ?_
      refine lv_iadd hx hb dX10_isAtomAt_122 ?_
      refine lv_topi (fun y_5 ey_5 => ?_)
      first | have ty_5 := i_add (a := x7.toInt) (b := 1) rfl (by decide) ey_5 (by omega) (by omega) | skip
      refine va_put (D := (dC, dI)) (ci := 10) (v := .int y_5) (ty := .int) (C := RX10) (T := TX10) (N := 48) hx hb hts fin_X10_isAtomAtmd1_X10 tyX10 tyX10_ok nmX10 hown hK hP hD hS 0 rfl rfl 10 (by decide) (hts (.fieldLink RX10 130 "PatternGateModel" "end" "I") (List.mem_of_getElem? (i := 1) (by decide +kernel))) (fun _ h9 => h9) rfl (by decide +kernel) rfl rfl (Nat.le_of_ble_eq_true rfl) dX10_isAtomAt_123 (fun H locs hP hD hS => ?_)
      have hP : va_P (dC, dI) vwCl (mW ad kc x0 x1 x2 x3 x4 x5 x6 y_5 x8 x9 x10 y_4 x12 x13 x14 x15 x16 x17 x18 x19 x20 x21 f0 f1 f2 f3 f4 f5 f6 f7 f8 f9 f10 f11 f12 f13 f14 f15 f16 f17 f18 f19 f20 f21 fL fN fP fM fO) H := hP
      have hD : va_D A (mW ad kc x0 x1 x2 x3 x4 x5 x6 y_5 x8 x9 x10 y_4 x12 x13 x14 x15 x16 x17 x18 x19 x20 x21 f0 f1 f2 f3 f4 f5 f6 f7 f8 f9 f10 f11 f12 f13 f14 f15 f16 f17 f18 f19 f20 f21 fL fN fP fM fO) := hD
      refine lv_iload_n hx hb dX10_isAtomAt_126 rfl (lv_at hl 0 rfl) ?_
      refine lv_bipush (v := 91) hx hb dX10_isAtomAt_127 (by decide) ?_
      refine lv_icmp_ne (tgt := 139) hx hb dX10_isAtomAt_129 (by decide) (fun k_6 => ?_) (fun k_6 => ?_)
      · have tk_6 := c_ne (a := r_1.toInt) (b := 91) rfl (by decide) k_6
        refine lv_iconst (v := 1) hx hb dX10_isAtomAt_139 (by decide) ?_
        refine lv_goto (tgt := 144) hx hb dX10_isAtomAt_140 (by decide) ?_
        have lit_6 : (1 : Int32).toInt = 1 := by decide
        exact W.zret hx hb hr (z_nar (by first | assumption | decide | exact z_of (by omega))) (fun t ht hW => ⟨⟨_, _, rfl, rfl, y_5, x8, x9, y_4, (by first | omega | assumption | rfl | decide), (by first | omega | assumption | rfl | decide), (by first | omega | assumption | rfl | decide), (by first | omega | assumption | rfl | decide), (Or.inl ⟨by decide, ⟨Or.inl ⟨by unfold isSm; omega, by omega, by omega⟩, by omega, by omega⟩⟩), by rw [ht]; exact hP, va_K.moved hW.alike hK, hD⟩, hS.F ht⟩) hS.2.2 dX10_isAtomAt_144
      · have tk_6 := c_eq (a := r_1.toInt) (b := 91) rfl (by decide) k_6
        refine lv_aload_n hx hb dX10_isAtomAt_132 rfl (lv_at hl 1 rfl) ?_
        have hFc := m_free hD hS hA
        refine va_calli (va_runV (As := []) (rest := []) ⟨hx, hb, hml, hown, hts⟩ (m_isSetAt l dC dI ad kc x0 x1 x2 x3 x4 x5 x6 y_5 x8 x9 x10 y_4 x12 x13 x14 x15 x16 x17 x18 x19 x20 x21 f0 f1 f2 f3 f4 f5 f6 f7 f8 f9 f10 f11 f12 f13 f14 f15 f16 f17 f18 f19 f20 f21 fL fN fP fM fO H.size (by first | omega | assumption | decide | (have l0 := Int32.toInt_zero; omega)) (by first | omega | assumption | decide | (have l0 := Int32.toInt_zero; omega)) (by first | omega | assumption | decide | (have l0 := Int32.toInt_zero; omega))) (cwV 0 hts mg_X10_isAtomAtmd1_X10_isSetAt_166 rfl rfl rfl (by decide +kernel) ⟨Nat.le_of_ble_eq_true rfl, Nat.le_of_ble_eq_true rfl⟩) ⟨fun a U g mk q => by obtain ⟨q0, q1, qP, qK, qD⟩ := q; exact ⟨q0, q1, qP, va_K.moved (u := U) (U := U.calling g mk a) (Vm.Alike.refl U.vm) qK, qD⟩, va_recv hK hP (ci := 10) (q0 := 0) rfl rfl, fun U hU hW => ⟨rfl, by rw [hU], by rw [hU]; exact hP, va_K.moved hW.alike hK, hD.weaken (fun _ _ _ _ => trivial)⟩⟩ rfl rfl hl.1 rfl (lv_room (Nat.le_of_ble_eq_true rfl)) dX10_isAtomAt_133 ⟨Nat.le_of_ble_eq_true rfl, Nat.le_of_ble_eq_true rfl⟩) hS (fun q _ h => hFc q h) hFc (fun r_8 u t H1 locs ht hvm hw hB hz1 hk1 hS => ?_)
        subst hw
        obtain ⟨x_9, x_10, x_11, hr_8_0, hr_8_1, hr_8_2, hP, hK1, hD1⟩ := hB
        rw [ht] at hP
        have hD := hD1.weaken (fun k q _ h => hFc q.1 h)
        generalize H1 = H at hP hS ⊢
        have rg_x_9 := i_rng x_9
        have rg_x_10 := i_rng x_10
        have rg_x_11 := i_rng x_11
        have rg_r_8 := i_rng r_8
        have hP : va_P (dC, dI) vwCl (mW ad kc x0 x1 x2 x3 x4 x5 x6 x_9 x_10 x_11 x10 y_4 x12 x13 x14 x15 x16 x17 x18 x19 x20 x21 f0 f1 f2 f3 f4 f5 f6 f7 f8 f9 f10 f11 f12 f13 f14 f15 f16 f17 f18 f19 f20 f21 fL fN fP fM fO) H := hP
        have hD : va_D A (mW ad kc x0 x1 x2 x3 x4 x5 x6 x_9 x_10 x_11 x10 y_4 x12 x13 x14 x15 x16 x17 x18 x19 x20 x21 f0 f1 f2 f3 f4 f5 f6 f7 f8 f9 f10 f11 f12 f13 f14 f15 f16 f17 f18 f19 f20 f21 fL fN fP fM fO) := hD
        refine lv_if_eq (tgt := 143) hx hb dX10_isAtomAt_136 (by decide) (fun k_12 => ?_) (fun k_12 => ?_)
        · have tk_12 := c_eq (a := r_8.toInt) (b := 0) rfl (by decide) k_12
          refine lv_iconst (v := 0) hx hb dX10_isAtomAt_143 (by decide) ?_
          have lit_12 : (0 : Int32).toInt = 0 := by decide
          exact W.zret hx hb hr (z_nar (by first | assumption | decide | exact z_of (by omega))) (fun t ht hW => ⟨⟨_, _, rfl, rfl, x_9, x_10, x_11, y_4, (by first | omega | assumption | rfl | decide), (by first | omega | assumption | rfl | decide), (by first | omega | assumption | rfl | decide), (by first | omega | assumption | rfl | decide), (Or.inr (by first | omega | decide)), by rw [ht]; exact hP, va_K.moved hW.alike hK, hD⟩, hS.F ht⟩) hS.2.2 dX10_isAtomAt_144
        · have tk_12 := c_ne (a := r_8.toInt) (b := 0) rfl (by decide) k_12
          have hT := tf_t hr_8_2 (by omega)
          refine lv_iconst (v := 1) hx hb dX10_isAtomAt_139 (by decide) ?_
          refine lv_goto (tgt := 144) hx hb dX10_isAtomAt_140 (by decide) ?_
          have lit_13 : (1 : Int32).toInt = 1 := by decide
          exact W.zret hx hb hr (z_nar (by first | assumption | decide | exact z_of (by omega))) (fun t ht hW => ⟨⟨_, _, rfl, rfl, x_9, x_10, x_11, y_4, (by first | omega | assumption | rfl | decide), (by first | omega | assumption | rfl | decide), (by first | omega | assumption | rfl | decide), (by first | omega | assumption | rfl | decide), (Or.inl ⟨by decide, ⟨Or.inr (Or.inl ⟨by omega, by rw [← show y_5.toInt = x7.toInt + 1 by omega]; exact hT.1, by omega⟩), by omega, by omega⟩⟩), by rw [ht]; exact hP, va_K.moved hW.alike hK, hD⟩, hS.F ht⟩) hS.2.2 dX10_isAtomAt_144
    · have tk_3 := c_eq (a := x11.toInt) (b := 24) rfl (by decide) k_3
      refine lv_aload_n hx hb dX10_isAtomAt_96 rfl (lv_at hl 1 rfl) ?_
      refine lv_iconst (v := 4) hx hb dX10_isAtomAt_97 (by decide) ?_
      refine lv_aload_n hx hb dX10_isAtomAt_98 rfl (lv_at hl 1 rfl) ?_
      refine va_get (D := (dC, dI)) (ci := 10) (v := .int x7) (C := RX10) (T := TX10) (N := 48) hx hb hts fin_X10_isAtomAtmd1_X10 hown hK hP 0 rfl rfl 10 (by decide) (hts (.fieldLink RX10 130 "PatternGateModel" "end" "I") (List.mem_of_getElem? (i := 1) (by decide +kernel))) (fun _ h9 => h9) rfl dX10_isAtomAt_99 ?_
      have hFc := m_free hD hS hA
      refine va_calli (va_runV (As := [.int 4, .int x7]) (rest := []) ⟨hx, hb, hml, hown, hts⟩ (m_failsAt l dC dI ad kc x0 x1 x2 x3 x4 x5 x6 x7 x8 x9 x10 x11 x12 x13 x14 x15 x16 x17 x18 x19 x20 x21 f0 f1 f2 f3 f4 f5 f6 f7 f8 f9 f10 f11 f12 f13 f14 f15 f16 f17 f18 f19 f20 f21 fL fN fP fM fO H.size 4 x7 ) (cwV 2 hts mg_X10_isAtomAtmd1_X10_failsAt_126 rfl rfl rfl (by decide +kernel) ⟨Nat.le_of_ble_eq_true rfl, Nat.le_of_ble_eq_true rfl⟩) ⟨fun a U g mk q => by obtain ⟨q0, q1, qP, qK, qD⟩ := q; exact ⟨q0, q1, qP, va_K.moved (u := U) (U := U.calling g mk a) (Vm.Alike.refl U.vm) qK, qD⟩, va_recv hK hP (ci := 10) (q0 := 0) rfl rfl, fun U hU hW => ⟨rfl, by rw [hU], by rw [hU]; exact hP, va_K.moved hW.alike hK, hD.weaken (fun _ _ _ _ => trivial)⟩⟩ rfl rfl hl.1 rfl (lv_room (Nat.le_of_ble_eq_true rfl)) dX10_isAtomAt_102 ⟨Nat.le_of_ble_eq_true rfl, Nat.le_of_ble_eq_true rfl⟩) hS (fun q _ h => hFc q h) hFc (fun r_15 u t H1 locs ht hvm hw hB hz1 hk1 hS => ?_)
      subst hw
      obtain ⟨x_16, x_17, hr_15_0, hP, hK1, hD1⟩ := hB
      rw [ht] at hP
      have hD := hD1.weaken (fun k q _ h => hFc q.1 h)
      generalize H1 = H at hP hS ⊢
      have rg_x_16 := i_rng x_16
      have rg_x_17 := i_rng x_17
      have rg_r_15 := i_rng r_15
      have hP : va_P (dC, dI) vwCl (mW ad kc x0 x1 x2 x3 x4 x5 x6 x7 x_16 x_17 x10 x11 x12 x13 x14 x15 x16 x17 x18 x19 x20 x21 f0 f1 f2 f3 f4 f5 f6 f7 f8 f9 f10 f11 f12 f13 f14 f15 f16 f17 f18 f19 f20 f21 fL fN fP fM fO) H := hP
      have hD : va_D A (mW ad kc x0 x1 x2 x3 x4 x5 x6 x7 x_16 x_17 x10 x11 x12 x13 x14 x15 x16 x17 x18 x19 x20 x21 f0 f1 f2 f3 f4 f5 f6 f7 f8 f9 f10 f11 f12 f13 f14 f15 f16 f17 f18 f19 f20 f21 fL fN fP fM fO) := hD
      exact W.zret hx hb hr (z_nar (by first | assumption | decide | exact z_of (by omega))) (fun t ht hW => ⟨⟨_, _, rfl, rfl, x7, x_16, x_17, x11, (by first | omega | assumption | rfl | decide), (by first | omega | assumption | rfl | decide), (by first | omega | assumption | rfl | decide), (by first | omega | assumption | rfl | decide), (Or.inr (by first | omega | decide)), by rw [ht]; exact hP, va_K.moved hW.alike hK, hD⟩, hS.F ht⟩) hS.2.2 dX10_isAtomAt_105
  · have tk_2 := c_eq (a := r_1.toInt) (b := 40) rfl (by decide) k_2
    refine lv_iload_n hx hb dX10_isAtomAt_15 rfl (lv_at hl 2 rfl) ?_
    refine lv_iconst (v := 5) hx hb dX10_isAtomAt_16 (by decide) ?_
    refine lv_icmp_ne (tgt := 30) hx hb dX10_isAtomAt_17 (by decide) (fun k_18 => ?_) (fun k_18 => ?_)
    · have tk_18 := c_ne (a := i1.toInt) (b := 5) rfl (by decide) k_18
      refine lv_aload_n hx hb dX10_isAtomAt_30 rfl (lv_at hl 1 rfl) ?_
      refine lv_dup hx hb dX10_isAtomAt_31 rfl ?_
      refine va_get (D := (dC, dI)) (ci := 10) (v := .int x7) (C := RX10) (T := TX10) (N := 48) hx hb hts fin_X10_isAtomAtmd1_X10 hown hK hP 0 rfl rfl 10 (by decide) (hts (.fieldLink RX10 130 "PatternGateModel" "end" "I") (List.mem_of_getElem? (i := 1) (by decide +kernel))) (fun _ h9 => h9) rfl dX10_isAtomAt_32 ?_
      refine lv_iconst (v := 1) hx hb dX10_isAtomAt_35 (by decide) ?_
      refine lv_iadd hx hb dX10_isAtomAt_36 ?_
      refine lv_topi (fun y_19 ey_19 => ?_)
      first | have ty_19 := i_add (a := x7.toInt) (b := 1) rfl (by decide) ey_19 (by omega) (by omega) | skip
      refine va_put (D := (dC, dI)) (ci := 10) (v := .int y_19) (ty := .int) (C := RX10) (T := TX10) (N := 48) hx hb hts fin_X10_isAtomAtmd1_X10 tyX10 tyX10_ok nmX10 hown hK hP hD hS 0 rfl rfl 10 (by decide) (hts (.fieldLink RX10 130 "PatternGateModel" "end" "I") (List.mem_of_getElem? (i := 1) (by decide +kernel))) (fun _ h9 => h9) rfl (by decide +kernel) rfl rfl (Nat.le_of_ble_eq_true rfl) dX10_isAtomAt_37 (fun H locs hP hD hS => ?_)
      have hP : va_P (dC, dI) vwCl (mW ad kc x0 x1 x2 x3 x4 x5 x6 y_19 x8 x9 x10 x11 x12 x13 x14 x15 x16 x17 x18 x19 x20 x21 f0 f1 f2 f3 f4 f5 f6 f7 f8 f9 f10 f11 f12 f13 f14 f15 f16 f17 f18 f19 f20 f21 fL fN fP fM fO) H := hP
      have hD : va_D A (mW ad kc x0 x1 x2 x3 x4 x5 x6 y_19 x8 x9 x10 x11 x12 x13 x14 x15 x16 x17 x18 x19 x20 x21 f0 f1 f2 f3 f4 f5 f6 f7 f8 f9 f10 f11 f12 f13 f14 f15 f16 f17 f18 f19 f20 f21 fL fN fP fM fO) := hD
      refine lv_aload_n hx hb dX10_isAtomAt_40 rfl (lv_at hl 1 rfl) ?_
      refine lv_iload_n hx hb dX10_isAtomAt_41 rfl (lv_at hl 2 rfl) ?_
      refine lv_iconst (v := 1) hx hb dX10_isAtomAt_42 (by decide) ?_
      refine lv_iadd hx hb dX10_isAtomAt_43 ?_
      refine lv_topi (fun y_20 ey_20 => ?_)
      first | have ty_20 := i_add (a := i1.toInt) (b := 1) rfl (by decide) ey_20 (by omega) (by omega) | skip
      have hFc := m_free hD hS hA
      refine va_calli (va_runV (As := [.int y_20]) (rest := []) ⟨hx, hb, hml, hown, hts⟩ (m_isPatternAt2 l dC dI ad kc x0 x1 x2 x3 x4 x5 x6 y_19 x8 x9 x10 x11 x12 x13 x14 x15 x16 x17 x18 x19 x20 x21 f0 f1 f2 f3 f4 f5 f6 f7 f8 f9 f10 f11 f12 f13 f14 f15 f16 f17 f18 f19 f20 f21 fL fN fP fM fO H.size y_20 (by first | omega | assumption | decide | (have l0 := Int32.toInt_zero; omega)) (by first | omega | assumption | decide | (have l0 := Int32.toInt_zero; omega)) (by first | omega | assumption | decide | (have l0 := Int32.toInt_zero; omega)) (by first | omega | assumption | decide | (have l0 := Int32.toInt_zero; omega)) (by first | omega | assumption | decide | (have l0 := Int32.toInt_zero; omega)) (by first | omega | assumption | decide | (have l0 := Int32.toInt_zero; omega))) (cwV 1 hts mg_X10_isAtomAtmd1_X10_isPatternAt_154 rfl rfl rfl (by decide +kernel) ⟨Nat.le_of_ble_eq_true rfl, Nat.le_of_ble_eq_true rfl⟩) ⟨fun a U g mk q => by obtain ⟨q0, q1, qP, qK, qD⟩ := q; exact ⟨q0, q1, qP, va_K.moved (u := U) (U := U.calling g mk a) (Vm.Alike.refl U.vm) qK, qD⟩, va_recv hK hP (ci := 10) (q0 := 0) rfl rfl, fun U hU hW => ⟨rfl, by rw [hU], by rw [hU]; exact hP, va_K.moved hW.alike hK, hD.weaken (fun _ _ _ _ => trivial)⟩⟩ rfl rfl hl.1 rfl (lv_room (Nat.le_of_ble_eq_true rfl)) dX10_isAtomAt_44 ⟨Nat.le_of_ble_eq_true rfl, Nat.le_of_ble_eq_true rfl⟩) hS (fun q _ h => hFc q h) hFc (fun r_21 u t H1 locs ht hvm hw hB hz1 hk1 hS => ?_)
      subst hw
      obtain ⟨x_22, x_23, x_24, x_25, hr_21_0, hr_21_1, hr_21_2, hr_21_3, hr_21_4, hP, hK1, hD1⟩ := hB
      rw [ht] at hP
      have hD := hD1.weaken (fun k q _ h => hFc q.1 h)
      generalize H1 = H at hP hS ⊢
      have rg_x_22 := i_rng x_22
      have rg_x_23 := i_rng x_23
      have rg_x_24 := i_rng x_24
      have rg_x_25 := i_rng x_25
      have rg_r_21 := i_rng r_21
      have hP : va_P (dC, dI) vwCl (mW ad kc x0 x1 x2 x3 x4 x5 x6 x_22 x_23 x_24 x10 x_25 x12 x13 x14 x15 x16 x17 x18 x19 x20 x21 f0 f1 f2 f3 f4 f5 f6 f7 f8 f9 f10 f11 f12 f13 f14 f15 f16 f17 f18 f19 f20 f21 fL fN fP fM fO) H := hP
      have hD : va_D A (mW ad kc x0 x1 x2 x3 x4 x5 x6 x_22 x_23 x_24 x10 x_25 x12 x13 x14 x15 x16 x17 x18 x19 x20 x21 f0 f1 f2 f3 f4 f5 f6 f7 f8 f9 f10 f11 f12 f13 f14 f15 f16 f17 f18 f19 f20 f21 fL fN fP fM fO) := hD
      refine lv_if_ne (tgt := 52) hx hb dX10_isAtomAt_47 (by decide) (fun k_26 => ?_) (fun k_26 => ?_)
      · have tk_26 := c_ne (a := r_21.toInt) (b := 0) rfl (by decide) k_26
        have hT := tf_t hr_21_4 (by omega)
        refine lv_aload_n hx hb dX10_isAtomAt_52 rfl (lv_at hl 1 rfl) ?_
        refine lv_aload_n hx hb dX10_isAtomAt_53 rfl (lv_at hl 1 rfl) ?_
        refine va_get (D := (dC, dI)) (ci := 10) (v := .int x_22) (C := RX10) (T := TX10) (N := 48) hx hb hts fin_X10_isAtomAtmd1_X10 hown hK hP 0 rfl rfl 10 (by decide) (hts (.fieldLink RX10 130 "PatternGateModel" "end" "I") (List.mem_of_getElem? (i := 1) (by decide +kernel))) (fun _ h9 => h9) rfl dX10_isAtomAt_54 ?_
        refine vp_callSi (W.runV (As := [.int x_22]) (rest := []) ⟨hx, hb, hml, hown, hts⟩ (m_byteAt l dC dI ad kc x0 x1 x2 x3 x4 x5 x6 x_22 x_23 x_24 x10 x_25 x12 x13 x14 x15 x16 x17 x18 x19 x20 x21 f0 f1 f2 f3 f4 f5 f6 f7 f8 f9 f10 f11 f12 f13 f14 f15 f16 f17 f18 f19 f20 f21 fL fN fP fM fO x_22 (by first | omega | assumption | decide | (have l0 := Int32.toInt_zero; omega)) (by first | omega | assumption | decide | (have l0 := Int32.toInt_zero; omega))) (cwV 1 hts mg_X10_isAtomAtmd1_X10_byteAt_133 rfl rfl rfl (by decide +kernel) ⟨Nat.le_of_ble_eq_true rfl, Nat.le_of_ble_eq_true rfl⟩) ⟨fun a U g mk q => by obtain ⟨q0, qP, qK⟩ := q; exact ⟨q0, qP, va_K.moved (u := U) (U := U.calling g mk a) (Vm.Alike.refl U.vm) qK⟩, va_recv hK hP (ci := 10) (q0 := 0) rfl rfl, fun U hU hW => ⟨rfl, by rw [hU]; exact hP, va_K.moved hW.alike hK⟩⟩ rfl rfl hl.1 rfl (lv_room (Nat.le_of_ble_eq_true rfl)) dX10_isAtomAt_57 ⟨Nat.le_of_ble_eq_true rfl, Nat.le_of_ble_eq_true rfl⟩) (fun r_27 hr_27 => ?_)
        have rg_r_27 := i_rng r_27
        refine lv_bipush (v := 41) hx hb dX10_isAtomAt_60 (by decide) ?_
        refine lv_icmp_eq (tgt := 75) hx hb dX10_isAtomAt_62 (by decide) (fun k_28 => ?_) (fun k_28 => ?_)
        · have tk_28 := c_eq (a := r_27.toInt) (b := 41) rfl (by decide) k_28
          refine lv_aload_n hx hb dX10_isAtomAt_75 rfl (lv_at hl 1 rfl) ?_
          refine lv_dup hx hb dX10_isAtomAt_76 rfl ?_
          refine va_get (D := (dC, dI)) (ci := 10) (v := .int x_22) (C := RX10) (T := TX10) (N := 48) hx hb hts fin_X10_isAtomAtmd1_X10 hown hK hP 0 rfl rfl 10 (by decide) (hts (.fieldLink RX10 130 "PatternGateModel" "end" "I") (List.mem_of_getElem? (i := 1) (by decide +kernel))) (fun _ h9 => h9) rfl dX10_isAtomAt_77 ?_
          refine lv_iconst (v := 1) hx hb dX10_isAtomAt_80 (by decide) ?_
          refine lv_iadd hx hb dX10_isAtomAt_81 ?_
          refine lv_topi (fun y_29 ey_29 => ?_)
          first | have ty_29 := i_add (a := x_22.toInt) (b := 1) rfl (by decide) ey_29 (by omega) (by omega) | skip
          refine va_put (D := (dC, dI)) (ci := 10) (v := .int y_29) (ty := .int) (C := RX10) (T := TX10) (N := 48) hx hb hts fin_X10_isAtomAtmd1_X10 tyX10 tyX10_ok nmX10 hown hK hP hD hS 0 rfl rfl 10 (by decide) (hts (.fieldLink RX10 130 "PatternGateModel" "end" "I") (List.mem_of_getElem? (i := 1) (by decide +kernel))) (fun _ h9 => h9) rfl (by decide +kernel) rfl rfl (Nat.le_of_ble_eq_true rfl) dX10_isAtomAt_82 (fun H locs hP hD hS => ?_)
          have hP : va_P (dC, dI) vwCl (mW ad kc x0 x1 x2 x3 x4 x5 x6 y_29 x_23 x_24 x10 x_25 x12 x13 x14 x15 x16 x17 x18 x19 x20 x21 f0 f1 f2 f3 f4 f5 f6 f7 f8 f9 f10 f11 f12 f13 f14 f15 f16 f17 f18 f19 f20 f21 fL fN fP fM fO) H := hP
          have hD : va_D A (mW ad kc x0 x1 x2 x3 x4 x5 x6 y_29 x_23 x_24 x10 x_25 x12 x13 x14 x15 x16 x17 x18 x19 x20 x21 f0 f1 f2 f3 f4 f5 f6 f7 f8 f9 f10 f11 f12 f13 f14 f15 f16 f17 f18 f19 f20 f21 fL fN fP fM fO) := hD
          refine lv_iconst (v := 1) hx hb dX10_isAtomAt_85 (by decide) ?_
          have lit_29 : (1 : Int32).toInt = 1 := by decide
          exact W.zret hx hb hr (z_nar (by first | assumption | decide | exact z_of (by omega))) (fun t ht hW => ⟨⟨_, _, rfl, rfl, y_29, x_23, x_24, x_25, (by first | omega | assumption | rfl | decide), (by first | omega | assumption | rfl | decide), (by first | omega | assumption | rfl | decide), (by first | omega | assumption | rfl | decide), (Or.inl ⟨by decide, ⟨Or.inr (Or.inr ⟨by omega, by rw [show y_29.toInt - 1 = x_22.toInt by omega, ← show y_19.toInt = x7.toInt + 1 by omega]; exact hT.1, by rw [show y_29.toInt - 1 = x_22.toInt by omega]; omega⟩), by omega, by omega⟩⟩), by rw [ht]; exact hP, va_K.moved hW.alike hK, hD⟩, hS.F ht⟩) hS.2.2 dX10_isAtomAt_86
        · have tk_28 := c_ne (a := r_27.toInt) (b := 41) rfl (by decide) k_28
          refine lv_aload_n hx hb dX10_isAtomAt_65 rfl (lv_at hl 1 rfl) ?_
          refine lv_iconst (v := 1) hx hb dX10_isAtomAt_66 (by decide) ?_
          refine lv_aload_n hx hb dX10_isAtomAt_67 rfl (lv_at hl 1 rfl) ?_
          refine va_get (D := (dC, dI)) (ci := 10) (v := .int x_22) (C := RX10) (T := TX10) (N := 48) hx hb hts fin_X10_isAtomAtmd1_X10 hown hK hP 0 rfl rfl 10 (by decide) (hts (.fieldLink RX10 130 "PatternGateModel" "end" "I") (List.mem_of_getElem? (i := 1) (by decide +kernel))) (fun _ h9 => h9) rfl dX10_isAtomAt_68 ?_
          have hFc := m_free hD hS hA
          refine va_calli (va_runV (As := [.int 1, .int x_22]) (rest := []) ⟨hx, hb, hml, hown, hts⟩ (m_failsAt l dC dI ad kc x0 x1 x2 x3 x4 x5 x6 x_22 x_23 x_24 x10 x_25 x12 x13 x14 x15 x16 x17 x18 x19 x20 x21 f0 f1 f2 f3 f4 f5 f6 f7 f8 f9 f10 f11 f12 f13 f14 f15 f16 f17 f18 f19 f20 f21 fL fN fP fM fO H.size 1 x_22 ) (cwV 2 hts mg_X10_isAtomAtmd1_X10_failsAt_126 rfl rfl rfl (by decide +kernel) ⟨Nat.le_of_ble_eq_true rfl, Nat.le_of_ble_eq_true rfl⟩) ⟨fun a U g mk q => by obtain ⟨q0, q1, qP, qK, qD⟩ := q; exact ⟨q0, q1, qP, va_K.moved (u := U) (U := U.calling g mk a) (Vm.Alike.refl U.vm) qK, qD⟩, va_recv hK hP (ci := 10) (q0 := 0) rfl rfl, fun U hU hW => ⟨rfl, by rw [hU], by rw [hU]; exact hP, va_K.moved hW.alike hK, hD.weaken (fun _ _ _ _ => trivial)⟩⟩ rfl rfl hl.1 rfl (lv_room (Nat.le_of_ble_eq_true rfl)) dX10_isAtomAt_71 ⟨Nat.le_of_ble_eq_true rfl, Nat.le_of_ble_eq_true rfl⟩) hS (fun q _ h => hFc q h) hFc (fun r_31 u t H1 locs ht hvm hw hB hz1 hk1 hS => ?_)
          subst hw
          obtain ⟨x_32, x_33, hr_31_0, hP, hK1, hD1⟩ := hB
          rw [ht] at hP
          have hD := hD1.weaken (fun k q _ h => hFc q.1 h)
          generalize H1 = H at hP hS ⊢
          have rg_x_32 := i_rng x_32
          have rg_x_33 := i_rng x_33
          have rg_r_31 := i_rng r_31
          have hP : va_P (dC, dI) vwCl (mW ad kc x0 x1 x2 x3 x4 x5 x6 x_22 x_32 x_33 x10 x_25 x12 x13 x14 x15 x16 x17 x18 x19 x20 x21 f0 f1 f2 f3 f4 f5 f6 f7 f8 f9 f10 f11 f12 f13 f14 f15 f16 f17 f18 f19 f20 f21 fL fN fP fM fO) H := hP
          have hD : va_D A (mW ad kc x0 x1 x2 x3 x4 x5 x6 x_22 x_32 x_33 x10 x_25 x12 x13 x14 x15 x16 x17 x18 x19 x20 x21 f0 f1 f2 f3 f4 f5 f6 f7 f8 f9 f10 f11 f12 f13 f14 f15 f16 f17 f18 f19 f20 f21 fL fN fP fM fO) := hD
          exact W.zret hx hb hr (z_nar (by first | assumption | decide | exact z_of (by omega))) (fun t ht hW => ⟨⟨_, _, rfl, rfl, x_22, x_32, x_33, x_25, (by first | omega | assumption | rfl | decide), (by first | omega | assumption | rfl | decide), (by first | omega | assumption | rfl | decide), (by first | omega | assumption | rfl | decide), (Or.inr (by first | omega | decide)), by rw [ht]; exact hP, va_K.moved hW.alike hK, hD⟩, hS.F ht⟩) hS.2.2 dX10_isAtomAt_74
      · have tk_26 := c_eq (a := r_21.toInt) (b := 0) rfl (by decide) k_26
        refine lv_iconst (v := 0) hx hb dX10_isAtomAt_50 (by decide) ?_
        have lit_33 : (0 : Int32).toInt = 0 := by decide
        exact W.zret hx hb hr (z_nar (by first | assumption | decide | exact z_of (by omega))) (fun t ht hW => ⟨⟨_, _, rfl, rfl, x_22, x_23, x_24, x_25, (by first | omega | assumption | rfl | decide), (by first | omega | assumption | rfl | decide), (by first | omega | assumption | rfl | decide), (by first | omega | assumption | rfl | decide), (Or.inr (by first | omega | decide)), by rw [ht]; exact hP, va_K.moved hW.alike hK, hD⟩, hS.F ht⟩) hS.2.2 dX10_isAtomAt_51
    · have tk_18 := c_eq (a := i1.toInt) (b := 5) rfl (by decide) k_18
      refine lv_aload_n hx hb dX10_isAtomAt_20 rfl (lv_at hl 1 rfl) ?_
      refine lv_iconst (v := 4) hx hb dX10_isAtomAt_21 (by decide) ?_
      refine lv_aload_n hx hb dX10_isAtomAt_22 rfl (lv_at hl 1 rfl) ?_
      refine va_get (D := (dC, dI)) (ci := 10) (v := .int x7) (C := RX10) (T := TX10) (N := 48) hx hb hts fin_X10_isAtomAtmd1_X10 hown hK hP 0 rfl rfl 10 (by decide) (hts (.fieldLink RX10 130 "PatternGateModel" "end" "I") (List.mem_of_getElem? (i := 1) (by decide +kernel))) (fun _ h9 => h9) rfl dX10_isAtomAt_23 ?_
      have hFc := m_free hD hS hA
      refine va_calli (va_runV (As := [.int 4, .int x7]) (rest := []) ⟨hx, hb, hml, hown, hts⟩ (m_failsAt l dC dI ad kc x0 x1 x2 x3 x4 x5 x6 x7 x8 x9 x10 x11 x12 x13 x14 x15 x16 x17 x18 x19 x20 x21 f0 f1 f2 f3 f4 f5 f6 f7 f8 f9 f10 f11 f12 f13 f14 f15 f16 f17 f18 f19 f20 f21 fL fN fP fM fO H.size 4 x7 ) (cwV 2 hts mg_X10_isAtomAtmd1_X10_failsAt_126 rfl rfl rfl (by decide +kernel) ⟨Nat.le_of_ble_eq_true rfl, Nat.le_of_ble_eq_true rfl⟩) ⟨fun a U g mk q => by obtain ⟨q0, q1, qP, qK, qD⟩ := q; exact ⟨q0, q1, qP, va_K.moved (u := U) (U := U.calling g mk a) (Vm.Alike.refl U.vm) qK, qD⟩, va_recv hK hP (ci := 10) (q0 := 0) rfl rfl, fun U hU hW => ⟨rfl, by rw [hU], by rw [hU]; exact hP, va_K.moved hW.alike hK, hD.weaken (fun _ _ _ _ => trivial)⟩⟩ rfl rfl hl.1 rfl (lv_room (Nat.le_of_ble_eq_true rfl)) dX10_isAtomAt_26 ⟨Nat.le_of_ble_eq_true rfl, Nat.le_of_ble_eq_true rfl⟩) hS (fun q _ h => hFc q h) hFc (fun r_35 u t H1 locs ht hvm hw hB hz1 hk1 hS => ?_)
      subst hw
      obtain ⟨x_36, x_37, hr_35_0, hP, hK1, hD1⟩ := hB
      rw [ht] at hP
      have hD := hD1.weaken (fun k q _ h => hFc q.1 h)
      generalize H1 = H at hP hS ⊢
      have rg_x_36 := i_rng x_36
      have rg_x_37 := i_rng x_37
      have rg_r_35 := i_rng r_35
      have hP : va_P (dC, dI) vwCl (mW ad kc x0 x1 x2 x3 x4 x5 x6 x7 x_36 x_37 x10 x11 x12 x13 x14 x15 x16 x17 x18 x19 x20 x21 f0 f1 f2 f3 f4 f5 f6 f7 f8 f9 f10 f11 f12 f13 f14 f15 f16 f17 f18 f19 f20 f21 fL fN fP fM fO) H := hP
      have hD : va_D A (mW ad kc x0 x1 x2 x3 x4 x5 x6 x7 x_36 x_37 x10 x11 x12 x13 x14 x15 x16 x17 x18 x19 x20 x21 f0 f1 f2 f3 f4 f5 f6 f7 f8 f9 f10 f11 f12 f13 f14 f15 f16 f17 f18 f19 f20 f21 fL fN fP fM fO) := hD
      exact W.zret hx hb hr (z_nar (by first | assumption | decide | exact z_of (by omega))) (fun t ht hW => ⟨⟨_, _, rfl, rfl, x7, x_36, x_37, x11, (by first | omega | assumption | rfl | decide), (by first | omega | assumption | rfl | decide), (by first | omega | assumption | rfl | decide), (by first | omega | assumption | rfl | decide), (Or.inr (by first | omega | decide)), by rw [ht]; exact hP, va_K.moved hW.alike hK, hD⟩, hS.F ht⟩) hS.2.2 dX10_isAtomAt_29
def mwX10_isBranchAtmd1 : List Cond := .code yX10_isBranchAt cX10_isBranchAt 3 (some .boolean) :: ([.fieldLink RX10 130 "PatternGateModel" "end" "I", .code yX10_byteAt cX10_byteAt 2 (some .int), .fieldLink RX10 114 "PatternGateModel" "size" "I", .fieldLink RX10 18 "PatternGateModel" "text" "[B", .methodLink RX10 133 yX10_byteAt, .instanceMethod yX10_byteAt, .selects RX10 yX10_byteAt yX10_byteAt, .initialized RX10, .code yX10_isAtomSign cX10_isAtomSign 2 (some .boolean), .code yX10_isSmall cX10_isSmall 1 (some .boolean), .methodLink RX10 137 yX10_isSmall, .static yX10_isSmall, .methodLink RX10 160 yX10_isAtomSign, .instanceMethod yX10_isAtomSign, .selects RX10 yX10_isAtomSign yX10_isAtomSign, .code yX10_isAtomAt cX10_isAtomAt 3 (some .boolean), .fieldLink RX10 151 "PatternGateModel" "spots" "I", .code yX10_isSetAt cX10_isSetAt 3 (some .boolean), .code yX10_failsAt cX10_failsAt 3 (some .boolean), .fieldLink RX10 117 "PatternGateModel" "faults" "I", .fieldLink RX10 21 "PatternGateModel" "faultPlace" "I", .methodLink RX10 126 yX10_failsAt, .instanceMethod yX10_failsAt, .selects RX10 yX10_failsAt yX10_failsAt, .code yX10_has cX10_has 2 (some .boolean), .methodLink RX10 170 yX10_has, .static yX10_has, .methodLink RX10 166 yX10_isSetAt, .instanceMethod yX10_isSetAt, .selects RX10 yX10_isSetAt yX10_isSetAt, .code yX10_isPatternAt cX10_isPatternAt 2 (some .boolean), .code yX10_isBranchAt cX10_isBranchAt 3 (some .boolean), .methodLink RX10 163 yX10_isAtomAt, .instanceMethod yX10_isAtomAt, .selects RX10 yX10_isAtomAt yX10_isAtomAt, .methodLink RX10 157 yX10_isBranchAt, .instanceMethod yX10_isBranchAt, .selects RX10 yX10_isBranchAt yX10_isBranchAt, .methodLink RX10 154 yX10_isPatternAt, .instanceMethod yX10_isPatternAt, .selects RX10 yX10_isPatternAt yX10_isPatternAt] ++ wsX100)
theorem fin_X10_isBranchAtmd1_X10 : ∀ w ∈ wsX100, w ∈ mwX10_isBranchAtmd1 := fun w h => List.mem_cons_of_mem _ (List.mem_append_right _ h)
set_option maxRecDepth 20000 in
theorem mg_X10_isBranchAtmd1_X10_byteAt_133 : GoodIn mwX10_isBranchAtmd1 (wsV RX10 133 RX10 yX10_byteAt mwX10_byteAtm) := goodIn_r _ [5, 6, 7, 8, 2, 3, 4, 42, 43, 44, 45, 46, 47, 48, 49, 50, 51, 52, 53, 54, 55, 56, 57, 58, 59, 60, 61, 62, 63, 64, 65, 66, 67, 68, 69, 70, 71, 72, 73, 74, 75, 76, 77, 78, 79, 80, 81, 82, 83, 84, 85, 86, 87, 88, 89] (by decide +kernel) (by decide +kernel)
set_option maxRecDepth 20000 in
theorem mg_X10_isBranchAtmd1_X10_isAtomSign_160 : GoodIn mwX10_isBranchAtmd1 (wsV RX10 160 RX10 yX10_isAtomSign mwX10_isAtomSignm) := goodIn_r _ [13, 14, 15, 8, 9, 10, 11, 12, 8] (by decide +kernel) (by decide +kernel)
set_option maxRecDepth 20000 in
theorem mg_X10_isBranchAtmd1_X10_isAtomAt_163 : GoodIn mwX10_isBranchAtmd1 (wsV RX10 163 RX10 yX10_isAtomAt mwX10_isAtomAtmd1) := goodIn_r _ [33, 34, 35, 8, 16, 1, 2, 3, 4, 5, 6, 7, 8, 17, 18, 10, 11, 12, 19, 20, 21, 22, 23, 24, 25, 26, 27, 28, 29, 30, 31, 0, 9, 13, 14, 15, 16, 33, 34, 35, 36, 37, 38, 39, 40, 41, 42, 43, 44, 45, 46, 47, 48, 49, 50, 51, 52, 53, 54, 55, 56, 57, 58, 59, 60, 61, 62, 63, 64, 65, 66, 67, 68, 69, 70, 71, 72, 73, 74, 75, 76, 77, 78, 79, 80, 81, 82, 83, 84, 85, 86, 87, 88, 89] (by decide +kernel) (by decide +kernel)
set_option maxRecDepth 20000 in
theorem mg_X10_isBranchAtmd1_X10_failsAt_126 : GoodIn mwX10_isBranchAtmd1 (wsV RX10 126 RX10 yX10_failsAt mwX10_failsAtm) := goodIn_r _ [22, 23, 24, 8, 19, 20, 21, 42, 43, 44, 45, 46, 47, 48, 49, 50, 51, 52, 53, 54, 55, 56, 57, 58, 59, 60, 61, 62, 63, 64, 65, 66, 67, 68, 69, 70, 71, 72, 73, 74, 75, 76, 77, 78, 79, 80, 81, 82, 83, 84, 85, 86, 87, 88, 89] (by decide +kernel) (by decide +kernel)
set_option maxHeartbeats 4000000 in
set_option maxRecDepth 100000 in
theorem m_isBranchAt1 (l : Launch) (dC : Nat → ClassId) (dI : Nat → Nat → Nat) (ad : Nat → Nat) (kc : Nat → ClassId) (x0 x1 x2 x3 x4 x5 x6 x7 x8 x9 x10 x11 x12 x13 x14 x15 x16 x17 x18 x19 x20 x21 : Int32) (f0 f1 f2 f3 f4 f5 f6 f7 f8 f9 f10 f11 f12 f13 f14 f15 f16 f17 f18 f19 f20 f21 : Nat → Int32) (fL : Nat → Nat → Int64) (fN : Nat → Nat → Int32) (fP : Nat → Nat → Nat) (fM : Nat → Nat → Int32) (fO : Nat → Nat → Int32) (sz : Nat) (i1 : Int32) (q0 : 0 ≤ x7.toInt) (q1 : x7.toInt ≤ x4.toInt) (q2 : x4.toInt ≤ 900) (q3 : 0 ≤ x11.toInt) (q4 : x11.toInt ≤ 24) (q5 : i1.toInt = 1) : Met l yX10_isBranchAt mwX10_isBranchAtmd1 ({ frames := 15, cells := 0, slots := 0, locals := 900 }) (va_Pc [.ref (ad 0), .int i1] (fun U => U.heap.size = sz ∧ va_P (dC, dI) vwCl (mW ad kc x0 x1 x2 x3 x4 x5 x6 x7 x8 x9 x10 x11 x12 x13 x14 x15 x16 x17 x18 x19 x20 x21 f0 f1 f2 f3 f4 f5 f6 f7 f8 f9 f10 f11 f12 f13 f14 f15 f16 f17 f18 f19 f20 f21 fL fN fP fM fO) U.heap ∧ va_K (dC, dI) vwCl (mT kc) U ∧ va_D (fun _ => True) (mW ad kc x0 x1 x2 x3 x4 x5 x6 x7 x8 x9 x10 x11 x12 x13 x14 x15 x16 x17 x18 x19 x20 x21 f0 f1 f2 f3 f4 f5 f6 f7 f8 f9 f10 f11 f12 f13 f14 f15 f16 f17 f18 f19 f20 f21 fL fN fP fM fO))) (va_Qi (fun (o9 u9 : Int32) => o9 = u9) (fun (o9 : Int32) t => ∃ (y7 y8 y9 y11 : Int32), (x7.toInt ≤ y7.toInt) ∧ (y7.toInt ≤ x4.toInt) ∧ (x11.toInt ≤ y11.toInt) ∧ (y11.toInt ≤ 24) ∧ (o9.toInt = 1 ∧ (pBranch (tx f2 x4.toInt) (pSub (tx f2 x4.toInt) 4) x7.toInt y7.toInt (y11.toInt - x11.toInt) ∧ x11.toInt < y11.toInt ∧ x7.toInt < y7.toInt) ∨ o9.toInt = 0) ∧ va_P (dC, dI) vwCl (mW ad kc x0 x1 x2 x3 x4 x5 x6 y7 y8 y9 x10 y11 x12 x13 x14 x15 x16 x17 x18 x19 x20 x21 f0 f1 f2 f3 f4 f5 f6 f7 f8 f9 f10 f11 f12 f13 f14 f15 f16 f17 f18 f19 f20 f21 fL fN fP fM fO) t.heap ∧ va_K (dC, dI) vwCl (mT kc) t ∧ va_D (va_A (mW ad kc x0 x1 x2 x3 x4 x5 x6 x7 x8 x9 x10 x11 x12 x13 x14 x15 x16 x17 x18 x19 x20 x21 f0 f1 f2 f3 f4 f5 f6 f7 f8 f9 f10 f11 f12 f13 f14 f15 f16 f17 f18 f19 f20 f21 fL fN fP fM fO) sz) (mW ad kc x0 x1 x2 x3 x4 x5 x6 y7 y8 y9 x10 y11 x12 x13 x14 x15 x16 x17 x18 x19 x20 x21 f0 f1 f2 f3 f4 f5 f6 f7 f8 f9 f10 f11 f12 f13 f14 f15 f16 f17 f18 f19 f20 f21 fL fN fP fM fO)) (va_A (mW ad kc x0 x1 x2 x3 x4 x5 x6 x7 x8 x9 x10 x11 x12 x13 x14 x15 x16 x17 x18 x19 x20 x21 f0 f1 f2 f3 f4 f5 f6 f7 f8 f9 f10 f11 f12 f13 f14 f15 f16 f17 f18 f19 f20 f21 fL fN fP fM fO) sz)) 0 0 (va_A (mW ad kc x0 x1 x2 x3 x4 x5 x6 x7 x8 x9 x10 x11 x12 x13 x14 x15 x16 x17 x18 x19 x20 x21 f0 f1 f2 f3 f4 f5 f6 f7 f8 f9 f10 f11 f12 f13 f14 f15 f16 f17 f18 f19 f20 f21 fL fN fP fM fO) sz) := by
  refine Met.ofW (cc := cX10_isBranchAt) (maxL := 3) (ret := (some .boolean)) (by decide +kernel) rfl ?_
  intro p e s m args below meth c s₁ B hml hv
  obtain ⟨rfl, hsz, hP, hK, hD0⟩ := hv
  have hx := B.exec
  have hb := B.bytes
  have hr := B.returns
  have hts := atoms_spec (ws := mwX10_isBranchAtmd1) B.pre
  have hown : s.vm.findClass RX10 = some m.cls := findClass_of_methodNamed B.named
  have hlocks := B.notSynchronized
  subst hsz
  have hD := hD0.self (sz := s.heap.size)
  generalize hAe : va_A (mW ad kc x0 x1 x2 x3 x4 x5 x6 x7 x8 x9 x10 x11 x12 x13 x14 x15 x16 x17 x18 x19 x20 x21 f0 f1 f2 f3 f4 f5 f6 f7 f8 f9 f10 f11 f12 f13 f14 f15 f16 f17 f18 f19 f20 f21 fL fN fP fM fO) s.heap.size = A at hD ⊢
  have hA : ∀ q : Nat, s.heap.size ≤ q → A q := fun q h => by rw [← hAe]; exact Or.inr h
  have hP : va_P (dC, dI) vwCl (mW ad kc x0 x1 x2 x3 x4 x5 x6 x7 x8 x9 x10 x11 x12 x13 x14 x15 x16 x17 x18 x19 x20 x21 f0 f1 f2 f3 f4 f5 f6 f7 f8 f9 f10 f11 f12 f13 f14 f15 f16 f17 f18 f19 f20 f21 fL fN fP fM fO) s.heap := hP
  have hD : va_D A (mW ad kc x0 x1 x2 x3 x4 x5 x6 x7 x8 x9 x10 x11 x12 x13 x14 x15 x16 x17 x18 x19 x20 x21 f0 f1 f2 f3 f4 f5 f6 f7 f8 f9 f10 f11 f12 f13 f14 f15 f16 f17 f18 f19 f20 f21 fL fN fP fM fO) := hD
  have hK : va_K (dC, dI) vwCl (mT kc) s := hK
  generalize hH : s.heap = H at hP ⊢
  have hS : va_S A s.heap H [] := by rw [← hH]; exact va_S.rf
  have hl := lv_entry ([.ref (ad 0), .int i1]) (n := 3) (Nat.le_of_ble_eq_true rfl)
  rw [lg_entry_eq]
  generalize (lg_sl ([.ref (ad 0), .int i1]) ++ List.replicate (3 - (lg_sl ([.ref (ad 0), .int i1])).length) Slot.unset).toArray = ls at hl ⊢
  have hl : lv_has ls 3 [(0, .ref (ad 0)), (1, .int i1)] := hl
  have rg_i1 := i_rng i1
  refine lv_aload_n hx hb dX10_isBranchAt_0 rfl (lv_at hl 0 rfl) ?_
  refine lv_aload_n hx hb dX10_isBranchAt_1 rfl (lv_at hl 0 rfl) ?_
  refine lv_aload_n hx hb dX10_isBranchAt_2 rfl (lv_at hl 0 rfl) ?_
  refine va_get (D := (dC, dI)) (ci := 10) (v := .int x7) (C := RX10) (T := TX10) (N := 48) hx hb hts fin_X10_isBranchAtmd1_X10 hown hK hP 0 rfl rfl 10 (by decide) (hts (.fieldLink RX10 130 "PatternGateModel" "end" "I") (List.mem_of_getElem? (i := 1) (by decide +kernel))) (fun _ h9 => h9) rfl dX10_isBranchAt_3 ?_
  refine vp_callSi (W.runV (As := [.int x7]) (rest := [.ref (ad 0)]) ⟨hx, hb, hml, hown, hts⟩ (m_byteAt l dC dI ad kc x0 x1 x2 x3 x4 x5 x6 x7 x8 x9 x10 x11 x12 x13 x14 x15 x16 x17 x18 x19 x20 x21 f0 f1 f2 f3 f4 f5 f6 f7 f8 f9 f10 f11 f12 f13 f14 f15 f16 f17 f18 f19 f20 f21 fL fN fP fM fO x7 (by first | omega | assumption | decide | (have l0 := Int32.toInt_zero; omega)) (by first | omega | assumption | decide | (have l0 := Int32.toInt_zero; omega))) (cwV 1 hts mg_X10_isBranchAtmd1_X10_byteAt_133 rfl rfl rfl (by decide +kernel) ⟨Nat.le_of_ble_eq_true rfl, Nat.le_of_ble_eq_true rfl⟩) ⟨fun a U g mk q => by obtain ⟨q0, qP, qK⟩ := q; exact ⟨q0, qP, va_K.moved (u := U) (U := U.calling g mk a) (Vm.Alike.refl U.vm) qK⟩, va_recv hK hP (ci := 10) (q0 := 0) rfl rfl, fun U hU hW => ⟨rfl, by rw [hU]; exact hP, va_K.moved hW.alike hK⟩⟩ rfl rfl hl.1 rfl (lv_room (Nat.le_of_ble_eq_true rfl)) dX10_isBranchAt_6 ⟨Nat.le_of_ble_eq_true rfl, Nat.le_of_ble_eq_true rfl⟩) (fun r_1 hr_1 => ?_)
  have rg_r_1 := i_rng r_1
  refine vp_callSi (W.runV (As := [.int r_1]) (rest := []) ⟨hx, hb, hml, hown, hts⟩ (m_isAtomSign l dC dI ad kc x0 x1 x2 x3 x4 x5 x6 x7 x8 x9 x10 x11 x12 x13 x14 x15 x16 x17 x18 x19 x20 x21 f0 f1 f2 f3 f4 f5 f6 f7 f8 f9 f10 f11 f12 f13 f14 f15 f16 f17 f18 f19 f20 f21 fL fN fP fM fO r_1 ) (cwV 1 hts mg_X10_isBranchAtmd1_X10_isAtomSign_160 rfl rfl rfl (by decide +kernel) ⟨Nat.le_of_ble_eq_true rfl, Nat.le_of_ble_eq_true rfl⟩) ⟨fun a U g mk q => by obtain ⟨q0, qP, qK⟩ := q; exact ⟨q0, qP, va_K.moved (u := U) (U := U.calling g mk a) (Vm.Alike.refl U.vm) qK⟩, va_recv hK hP (ci := 10) (q0 := 0) rfl rfl, fun U hU hW => ⟨rfl, by rw [hU]; exact hP, va_K.moved hW.alike hK⟩⟩ rfl rfl hl.1 rfl (lv_room (Nat.le_of_ble_eq_true rfl)) dX10_isBranchAt_9 ⟨Nat.le_of_ble_eq_true rfl, Nat.le_of_ble_eq_true rfl⟩) (fun r_2 hr_2 => ?_)
  have rg_r_2 := i_rng r_2
  refine lv_if_ne (tgt := 25) hx hb dX10_isBranchAt_12 (by decide) (fun k_3 => ?_) (fun k_3 => ?_)
  · have tk_3 := c_ne (a := r_2.toInt) (b := 0) rfl (by decide) k_3
    have hAt := tf2_t hr_2 (by omega)
    rw [hr_1.1] at hAt
    have loop25 : ∀ (lm25 : Nat) (ea fa fb sa : Int32), (x7.toInt ≤ ea.toInt) → (ea.toInt ≤ x4.toInt) → (x11.toInt ≤ sa.toInt) → (sa.toInt ≤ 24) → (brI (tx f2 x4.toInt) (pSub (tx f2 x4.toInt) 4) x7.toInt ea.toInt x11.toInt sa.toInt) → ((x4.toInt - ea.toInt).toNat) < lm25 → ∀ (H : Heap) (locs : List Loc) (ls : Array Slot), va_P (dC, dI) vwCl (mW ad kc x0 x1 x2 x3 x4 x5 x6 ea fa fb x10 sa x12 x13 x14 x15 x16 x17 x18 x19 x20 x21 f0 f1 f2 f3 f4 f5 f6 f7 f8 f9 f10 f11 f12 f13 f14 f15 f16 f17 f18 f19 f20 f21 fL fN fP fM fO) H → va_D A (mW ad kc x0 x1 x2 x3 x4 x5 x6 ea fa fb x10 sa x12 x13 x14 x15 x16 x17 x18 x19 x20 x21 f0 f1 f2 f3 f4 f5 f6 f7 f8 f9 f10 f11 f12 f13 f14 f15 f16 f17 f18 f19 f20 f21 fL fN fP fM fO) → va_S A s.heap H locs → lv_has ls 3 [(0, .ref (ad 0)), (1, .int i1)] → W p l e (headSpec mwX10_isBranchAtmd1 ({ frames := 15, cells := 0, slots := 0, locals := 900 })).room s m ([.ref (ad 0), .int i1]).toArray below meth c H locs 0 0 (MQ below (va_Qi (fun (o9 u9 : Int32) => o9 = u9) (fun (o9 : Int32) t => ∃ (y7 y8 y9 y11 : Int32), (x7.toInt ≤ y7.toInt) ∧ (y7.toInt ≤ x4.toInt) ∧ (x11.toInt ≤ y11.toInt) ∧ (y11.toInt ≤ 24) ∧ (o9.toInt = 1 ∧ (pBranch (tx f2 x4.toInt) (pSub (tx f2 x4.toInt) 4) x7.toInt y7.toInt (y11.toInt - x11.toInt) ∧ x11.toInt < y11.toInt ∧ x7.toInt < y7.toInt) ∨ o9.toInt = 0) ∧ va_P (dC, dI) vwCl (mW ad kc x0 x1 x2 x3 x4 x5 x6 y7 y8 y9 x10 y11 x12 x13 x14 x15 x16 x17 x18 x19 x20 x21 f0 f1 f2 f3 f4 f5 f6 f7 f8 f9 f10 f11 f12 f13 f14 f15 f16 f17 f18 f19 f20 f21 fL fN fP fM fO) t.heap ∧ va_K (dC, dI) vwCl (mT kc) t ∧ va_D A (mW ad kc x0 x1 x2 x3 x4 x5 x6 y7 y8 y9 x10 y11 x12 x13 x14 x15 x16 x17 x18 x19 x20 x21 f0 f1 f2 f3 f4 f5 f6 f7 f8 f9 f10 f11 f12 f13 f14 f15 f16 f17 f18 f19 f20 f21 fL fN fP fM fO)) A) ([.ref (ad 0), .int i1]).toArray s 0 0 A) (F0 m 25 ls []) := by
      intro lm25
      induction lm25 with
      | zero => intro ea fa fb sa v25_0 v25_1 v25_2 v25_3 v25_4 hm25; exact absurd hm25 (Nat.not_lt_zero _)
      | succ lm25 ih25 =>
        intro ea fa fb sa v25_0 v25_1 v25_2 v25_3 v25_4 hm25 H locs ls hP hD hS hl
        have rg_ea := i_rng ea
        have rg_fa := i_rng fa
        have rg_fb := i_rng fb
        have rg_sa := i_rng sa
        refine lv_aload_n hx hb dX10_isBranchAt_25 rfl (lv_at hl 0 rfl) ?_
        refine lv_aload_n hx hb dX10_isBranchAt_26 rfl (lv_at hl 0 rfl) ?_
        refine lv_aload_n hx hb dX10_isBranchAt_27 rfl (lv_at hl 0 rfl) ?_
        refine va_get (D := (dC, dI)) (ci := 10) (v := .int ea) (C := RX10) (T := TX10) (N := 48) hx hb hts fin_X10_isBranchAtmd1_X10 hown hK hP 0 rfl rfl 10 (by decide) (hts (.fieldLink RX10 130 "PatternGateModel" "end" "I") (List.mem_of_getElem? (i := 1) (by decide +kernel))) (fun _ h9 => h9) rfl dX10_isBranchAt_28 ?_
        refine vp_callSi (W.runV (As := [.int ea]) (rest := [.ref (ad 0)]) ⟨hx, hb, hml, hown, hts⟩ (m_byteAt l dC dI ad kc x0 x1 x2 x3 x4 x5 x6 ea fa fb x10 sa x12 x13 x14 x15 x16 x17 x18 x19 x20 x21 f0 f1 f2 f3 f4 f5 f6 f7 f8 f9 f10 f11 f12 f13 f14 f15 f16 f17 f18 f19 f20 f21 fL fN fP fM fO ea (by first | omega | assumption | decide | (have l0 := Int32.toInt_zero; omega)) (by first | omega | assumption | decide | (have l0 := Int32.toInt_zero; omega))) (cwV 1 hts mg_X10_isBranchAtmd1_X10_byteAt_133 rfl rfl rfl (by decide +kernel) ⟨Nat.le_of_ble_eq_true rfl, Nat.le_of_ble_eq_true rfl⟩) ⟨fun a U g mk q => by obtain ⟨q0, qP, qK⟩ := q; exact ⟨q0, qP, va_K.moved (u := U) (U := U.calling g mk a) (Vm.Alike.refl U.vm) qK⟩, va_recv hK hP (ci := 10) (q0 := 0) rfl rfl, fun U hU hW => ⟨rfl, by rw [hU]; exact hP, va_K.moved hW.alike hK⟩⟩ rfl rfl hl.1 rfl (lv_room (Nat.le_of_ble_eq_true rfl)) dX10_isBranchAt_31 ⟨Nat.le_of_ble_eq_true rfl, Nat.le_of_ble_eq_true rfl⟩) (fun r_4 hr_4 => ?_)
        have rg_r_4 := i_rng r_4
        refine vp_callSi (W.runV (As := [.int r_4]) (rest := []) ⟨hx, hb, hml, hown, hts⟩ (m_isAtomSign l dC dI ad kc x0 x1 x2 x3 x4 x5 x6 ea fa fb x10 sa x12 x13 x14 x15 x16 x17 x18 x19 x20 x21 f0 f1 f2 f3 f4 f5 f6 f7 f8 f9 f10 f11 f12 f13 f14 f15 f16 f17 f18 f19 f20 f21 fL fN fP fM fO r_4 ) (cwV 1 hts mg_X10_isBranchAtmd1_X10_isAtomSign_160 rfl rfl rfl (by decide +kernel) ⟨Nat.le_of_ble_eq_true rfl, Nat.le_of_ble_eq_true rfl⟩) ⟨fun a U g mk q => by obtain ⟨q0, qP, qK⟩ := q; exact ⟨q0, qP, va_K.moved (u := U) (U := U.calling g mk a) (Vm.Alike.refl U.vm) qK⟩, va_recv hK hP (ci := 10) (q0 := 0) rfl rfl, fun U hU hW => ⟨rfl, by rw [hU]; exact hP, va_K.moved hW.alike hK⟩⟩ rfl rfl hl.1 rfl (lv_room (Nat.le_of_ble_eq_true rfl)) dX10_isBranchAt_34 ⟨Nat.le_of_ble_eq_true rfl, Nat.le_of_ble_eq_true rfl⟩) (fun r_5 hr_5 => ?_)
        have rg_r_5 := i_rng r_5
        refine lv_if_eq (tgt := 94) hx hb dX10_isBranchAt_37 (by decide) (fun k_6 => ?_) (fun k_6 => ?_)
        · have tk_6 := c_eq (a := r_5.toInt) (b := 0) rfl (by decide) k_6
          have hNA := tf2_f hr_5 (by omega)
          rw [hr_4.1] at hNA
          refine lv_iconst (v := 1) hx hb dX10_isBranchAt_94 (by decide) ?_
          have lit_6 : (1 : Int32).toInt = 1 := by decide
          exact W.zret hx hb hr (z_nar (by first | assumption | decide | exact z_of (by omega))) (fun t ht hW => ⟨⟨_, _, rfl, rfl, ea, fa, fb, sa, (by first | omega | assumption | rfl | decide), (by first | omega | assumption | rfl | decide), (by first | omega | assumption | rfl | decide), (by first | omega | assumption | rfl | decide), (Or.inl ⟨by decide, br_end v25_4 hAt hNA⟩), by rw [ht]; exact hP, va_K.moved hW.alike hK, hD⟩, hS.F ht⟩) hS.2.2 dX10_isBranchAt_95
        · have tk_6 := c_ne (a := r_5.toInt) (b := 0) rfl (by decide) k_6
          have hIA := tf2_t hr_5 (by omega)
          rw [hr_4.1] at hIA
          refine lv_aload_n hx hb dX10_isBranchAt_40 rfl (lv_at hl 0 rfl) ?_
          refine lv_iload_n hx hb dX10_isBranchAt_41 rfl (lv_at hl 1 rfl) ?_
          have hFc := m_free hD hS hA
          refine va_calli (va_runV (As := [.int i1]) (rest := []) ⟨hx, hb, hml, hown, hts⟩ (m_isAtomAt1 l dC dI ad kc x0 x1 x2 x3 x4 x5 x6 ea fa fb x10 sa x12 x13 x14 x15 x16 x17 x18 x19 x20 x21 f0 f1 f2 f3 f4 f5 f6 f7 f8 f9 f10 f11 f12 f13 f14 f15 f16 f17 f18 f19 f20 f21 fL fN fP fM fO H.size i1 (by first | omega | assumption | decide | (have l0 := Int32.toInt_zero; omega)) (by first | omega | assumption | decide | (have l0 := Int32.toInt_zero; omega)) (by first | omega | assumption | decide | (have l0 := Int32.toInt_zero; omega)) (by first | omega | assumption | decide | (have l0 := Int32.toInt_zero; omega)) (by first | omega | assumption | decide | (have l0 := Int32.toInt_zero; omega)) (by first | omega | assumption | decide | (have l0 := Int32.toInt_zero; omega)) (by first | omega | assumption | decide | (have l0 := Int32.toInt_zero; omega))) (cwV 1 hts mg_X10_isBranchAtmd1_X10_isAtomAt_163 rfl rfl rfl (by decide +kernel) ⟨Nat.le_of_ble_eq_true rfl, Nat.le_of_ble_eq_true rfl⟩) ⟨fun a U g mk q => by obtain ⟨q0, q1, qP, qK, qD⟩ := q; exact ⟨q0, q1, qP, va_K.moved (u := U) (U := U.calling g mk a) (Vm.Alike.refl U.vm) qK, qD⟩, va_recv hK hP (ci := 10) (q0 := 0) rfl rfl, fun U hU hW => ⟨rfl, by rw [hU], by rw [hU]; exact hP, va_K.moved hW.alike hK, hD.weaken (fun _ _ _ _ => trivial)⟩⟩ rfl rfl hl.1 rfl (lv_room (Nat.le_of_ble_eq_true rfl)) dX10_isBranchAt_42 ⟨Nat.le_of_ble_eq_true rfl, Nat.le_of_ble_eq_true rfl⟩) hS (fun q _ h => hFc q h) hFc (fun r_8 u t H1 locs ht hvm hw hB hz1 hk1 hS => ?_)
          subst hw
          obtain ⟨x_9, x_10, x_11, x_12, hr_8_0, hr_8_1, hr_8_2, hr_8_3, hr_8_4, hP, hK1, hD1⟩ := hB
          rw [ht] at hP
          have hD := hD1.weaken (fun k q _ h => hFc q.1 h)
          generalize H1 = H at hP hS ⊢
          have rg_x_9 := i_rng x_9
          have rg_x_10 := i_rng x_10
          have rg_x_11 := i_rng x_11
          have rg_x_12 := i_rng x_12
          have rg_r_8 := i_rng r_8
          have hP : va_P (dC, dI) vwCl (mW ad kc x0 x1 x2 x3 x4 x5 x6 x_9 x_10 x_11 x10 x_12 x12 x13 x14 x15 x16 x17 x18 x19 x20 x21 f0 f1 f2 f3 f4 f5 f6 f7 f8 f9 f10 f11 f12 f13 f14 f15 f16 f17 f18 f19 f20 f21 fL fN fP fM fO) H := hP
          have hD : va_D A (mW ad kc x0 x1 x2 x3 x4 x5 x6 x_9 x_10 x_11 x10 x_12 x12 x13 x14 x15 x16 x17 x18 x19 x20 x21 f0 f1 f2 f3 f4 f5 f6 f7 f8 f9 f10 f11 f12 f13 f14 f15 f16 f17 f18 f19 f20 f21 fL fN fP fM fO) := hD
          refine lv_if_ne (tgt := 50) hx hb dX10_isBranchAt_45 (by decide) (fun k_13 => ?_) (fun k_13 => ?_)
          · have tk_13 := c_ne (a := r_8.toInt) (b := 0) rfl (by decide) k_13
            have hT := tf_t hr_8_4 (by omega)
            refine lv_aload_n hx hb dX10_isBranchAt_50 rfl (lv_at hl 0 rfl) ?_
            refine lv_aload_n hx hb dX10_isBranchAt_51 rfl (lv_at hl 0 rfl) ?_
            refine va_get (D := (dC, dI)) (ci := 10) (v := .int x_9) (C := RX10) (T := TX10) (N := 48) hx hb hts fin_X10_isBranchAtmd1_X10 hown hK hP 0 rfl rfl 10 (by decide) (hts (.fieldLink RX10 130 "PatternGateModel" "end" "I") (List.mem_of_getElem? (i := 1) (by decide +kernel))) (fun _ h9 => h9) rfl dX10_isBranchAt_52 ?_
            refine vp_callSi (W.runV (As := [.int x_9]) (rest := []) ⟨hx, hb, hml, hown, hts⟩ (m_byteAt l dC dI ad kc x0 x1 x2 x3 x4 x5 x6 x_9 x_10 x_11 x10 x_12 x12 x13 x14 x15 x16 x17 x18 x19 x20 x21 f0 f1 f2 f3 f4 f5 f6 f7 f8 f9 f10 f11 f12 f13 f14 f15 f16 f17 f18 f19 f20 f21 fL fN fP fM fO x_9 (by first | omega | assumption | decide | (have l0 := Int32.toInt_zero; omega)) (by first | omega | assumption | decide | (have l0 := Int32.toInt_zero; omega))) (cwV 1 hts mg_X10_isBranchAtmd1_X10_byteAt_133 rfl rfl rfl (by decide +kernel) ⟨Nat.le_of_ble_eq_true rfl, Nat.le_of_ble_eq_true rfl⟩) ⟨fun a U g mk q => by obtain ⟨q0, qP, qK⟩ := q; exact ⟨q0, qP, va_K.moved (u := U) (U := U.calling g mk a) (Vm.Alike.refl U.vm) qK⟩, va_recv hK hP (ci := 10) (q0 := 0) rfl rfl, fun U hU hW => ⟨rfl, by rw [hU]; exact hP, va_K.moved hW.alike hK⟩⟩ rfl rfl hl.1 rfl (lv_room (Nat.le_of_ble_eq_true rfl)) dX10_isBranchAt_55 ⟨Nat.le_of_ble_eq_true rfl, Nat.le_of_ble_eq_true rfl⟩) (fun r_14 hr_14 => ?_)
            have rg_r_14 := i_rng r_14
            refine lv_istore_n (lv' := [(2, .int r_14), (0, .ref (ad 0)), (1, .int i1)]) hx hb dX10_isBranchAt_58 rfl hl (by decide) rfl (fun ls hl => ?_)
            refine lv_aload_n hx hb dX10_isBranchAt_59 rfl (lv_at hl 1 rfl) ?_
            refine lv_dup hx hb dX10_isBranchAt_60 rfl ?_
            refine va_get (D := (dC, dI)) (ci := 10) (v := .int x_9) (C := RX10) (T := TX10) (N := 48) hx hb hts fin_X10_isBranchAtmd1_X10 hown hK hP 0 rfl rfl 10 (by decide) (hts (.fieldLink RX10 130 "PatternGateModel" "end" "I") (List.mem_of_getElem? (i := 1) (by decide +kernel))) (fun _ h9 => h9) rfl dX10_isBranchAt_61 ?_
            refine lv_iload_n hx hb dX10_isBranchAt_64 rfl (lv_at hl 0 rfl) ?_
            refine lv_bipush (v := 42) hx hb dX10_isBranchAt_65 (by decide) ?_
            refine lv_icmp_eq (tgt := 82) hx hb dX10_isBranchAt_67 (by decide) (fun k_15 => ?_) (fun k_15 => ?_)
            · have tk_15 := c_eq (a := r_14.toInt) (b := 42) rfl (by decide) k_15
              refine lv_iconst (v := 1) hx hb dX10_isBranchAt_82 (by decide) ?_
              refine lv_goto (tgt := 87) hx hb dX10_isBranchAt_83 (by decide) ?_
              refine lv_iadd hx hb dX10_isBranchAt_87 ?_
              refine lv_topi (fun y_16 ey_16 => ?_)
              first | have ty_16 := i_add (a := x_9.toInt) (b := 1) rfl (by decide) ey_16 (by omega) (by omega) | skip
              refine va_put (D := (dC, dI)) (ci := 10) (v := .int y_16) (ty := .int) (C := RX10) (T := TX10) (N := 48) hx hb hts fin_X10_isBranchAtmd1_X10 tyX10 tyX10_ok nmX10 hown hK hP hD hS 0 rfl rfl 10 (by decide) (hts (.fieldLink RX10 130 "PatternGateModel" "end" "I") (List.mem_of_getElem? (i := 1) (by decide +kernel))) (fun _ h9 => h9) rfl (by decide +kernel) rfl rfl (Nat.le_of_ble_eq_true rfl) dX10_isBranchAt_88 (fun H locs hP hD hS => ?_)
              have hP : va_P (dC, dI) vwCl (mW ad kc x0 x1 x2 x3 x4 x5 x6 y_16 x_10 x_11 x10 x_12 x12 x13 x14 x15 x16 x17 x18 x19 x20 x21 f0 f1 f2 f3 f4 f5 f6 f7 f8 f9 f10 f11 f12 f13 f14 f15 f16 f17 f18 f19 f20 f21 fL fN fP fM fO) H := hP
              have hD : va_D A (mW ad kc x0 x1 x2 x3 x4 x5 x6 y_16 x_10 x_11 x10 x_12 x12 x13 x14 x15 x16 x17 x18 x19 x20 x21 f0 f1 f2 f3 f4 f5 f6 f7 f8 f9 f10 f11 f12 f13 f14 f15 f16 f17 f18 f19 f20 f21 fL fN fP fM fO) := hD
              refine lv_goto (tgt := 25) hx hb dX10_isBranchAt_91 (by decide) ?_
              exact ih25 y_16 x_10 x_11 x_12 (by first | omega | assumption | decide) (by first | omega | assumption | decide) (by first | omega | assumption | decide) (by first | omega | assumption | decide) (by first | exact br_q v25_4 hT.1 (by omega) (by omega) (by omega) (by unfold isQu; omega) | exact br_n v25_4 hT.1 (by omega) (by omega) (by omega) (by unfold isQu; omega)) (by omega) _ _ ls hP hD hS (lv_sub hl [1, 2] rfl)
            · have tk_15 := c_ne (a := r_14.toInt) (b := 42) rfl (by decide) k_15
              refine lv_iload_n hx hb dX10_isBranchAt_70 rfl (lv_at hl 0 rfl) ?_
              refine lv_bipush (v := 43) hx hb dX10_isBranchAt_71 (by decide) ?_
              refine lv_icmp_eq (tgt := 82) hx hb dX10_isBranchAt_73 (by decide) (fun k_17 => ?_) (fun k_17 => ?_)
              · have tk_17 := c_eq (a := r_14.toInt) (b := 43) rfl (by decide) k_17
                refine lv_iconst (v := 1) hx hb dX10_isBranchAt_82 (by decide) ?_
                refine lv_goto (tgt := 87) hx hb dX10_isBranchAt_83 (by decide) ?_
                refine lv_iadd hx hb dX10_isBranchAt_87 ?_
                refine lv_topi (fun y_18 ey_18 => ?_)
                first | have ty_18 := i_add (a := x_9.toInt) (b := 1) rfl (by decide) ey_18 (by omega) (by omega) | skip
                refine va_put (D := (dC, dI)) (ci := 10) (v := .int y_18) (ty := .int) (C := RX10) (T := TX10) (N := 48) hx hb hts fin_X10_isBranchAtmd1_X10 tyX10 tyX10_ok nmX10 hown hK hP hD hS 0 rfl rfl 10 (by decide) (hts (.fieldLink RX10 130 "PatternGateModel" "end" "I") (List.mem_of_getElem? (i := 1) (by decide +kernel))) (fun _ h9 => h9) rfl (by decide +kernel) rfl rfl (Nat.le_of_ble_eq_true rfl) dX10_isBranchAt_88 (fun H locs hP hD hS => ?_)
                have hP : va_P (dC, dI) vwCl (mW ad kc x0 x1 x2 x3 x4 x5 x6 y_18 x_10 x_11 x10 x_12 x12 x13 x14 x15 x16 x17 x18 x19 x20 x21 f0 f1 f2 f3 f4 f5 f6 f7 f8 f9 f10 f11 f12 f13 f14 f15 f16 f17 f18 f19 f20 f21 fL fN fP fM fO) H := hP
                have hD : va_D A (mW ad kc x0 x1 x2 x3 x4 x5 x6 y_18 x_10 x_11 x10 x_12 x12 x13 x14 x15 x16 x17 x18 x19 x20 x21 f0 f1 f2 f3 f4 f5 f6 f7 f8 f9 f10 f11 f12 f13 f14 f15 f16 f17 f18 f19 f20 f21 fL fN fP fM fO) := hD
                refine lv_goto (tgt := 25) hx hb dX10_isBranchAt_91 (by decide) ?_
                exact ih25 y_18 x_10 x_11 x_12 (by first | omega | assumption | decide) (by first | omega | assumption | decide) (by first | omega | assumption | decide) (by first | omega | assumption | decide) (by first | exact br_q v25_4 hT.1 (by omega) (by omega) (by omega) (by unfold isQu; omega) | exact br_n v25_4 hT.1 (by omega) (by omega) (by omega) (by unfold isQu; omega)) (by omega) _ _ ls hP hD hS (lv_sub hl [1, 2] rfl)
              · have tk_17 := c_ne (a := r_14.toInt) (b := 43) rfl (by decide) k_17
                refine lv_iload_n hx hb dX10_isBranchAt_76 rfl (lv_at hl 0 rfl) ?_
                refine lv_bipush (v := 63) hx hb dX10_isBranchAt_77 (by decide) ?_
                refine lv_icmp_ne (tgt := 86) hx hb dX10_isBranchAt_79 (by decide) (fun k_19 => ?_) (fun k_19 => ?_)
                · have tk_19 := c_ne (a := r_14.toInt) (b := 63) rfl (by decide) k_19
                  refine lv_iconst (v := 0) hx hb dX10_isBranchAt_86 (by decide) ?_
                  refine lv_iadd hx hb dX10_isBranchAt_87 ?_
                  refine lv_topi (fun y_20 ey_20 => ?_)
                  first | have ty_20 := i_add (a := x_9.toInt) (b := 0) rfl (by decide) ey_20 (by omega) (by omega) | skip
                  refine va_put (D := (dC, dI)) (ci := 10) (v := .int y_20) (ty := .int) (C := RX10) (T := TX10) (N := 48) hx hb hts fin_X10_isBranchAtmd1_X10 tyX10 tyX10_ok nmX10 hown hK hP hD hS 0 rfl rfl 10 (by decide) (hts (.fieldLink RX10 130 "PatternGateModel" "end" "I") (List.mem_of_getElem? (i := 1) (by decide +kernel))) (fun _ h9 => h9) rfl (by decide +kernel) rfl rfl (Nat.le_of_ble_eq_true rfl) dX10_isBranchAt_88 (fun H locs hP hD hS => ?_)
                  have hP : va_P (dC, dI) vwCl (mW ad kc x0 x1 x2 x3 x4 x5 x6 y_20 x_10 x_11 x10 x_12 x12 x13 x14 x15 x16 x17 x18 x19 x20 x21 f0 f1 f2 f3 f4 f5 f6 f7 f8 f9 f10 f11 f12 f13 f14 f15 f16 f17 f18 f19 f20 f21 fL fN fP fM fO) H := hP
                  have hD : va_D A (mW ad kc x0 x1 x2 x3 x4 x5 x6 y_20 x_10 x_11 x10 x_12 x12 x13 x14 x15 x16 x17 x18 x19 x20 x21 f0 f1 f2 f3 f4 f5 f6 f7 f8 f9 f10 f11 f12 f13 f14 f15 f16 f17 f18 f19 f20 f21 fL fN fP fM fO) := hD
                  refine lv_goto (tgt := 25) hx hb dX10_isBranchAt_91 (by decide) ?_
                  exact ih25 y_20 x_10 x_11 x_12 (by first | omega | assumption | decide) (by first | omega | assumption | decide) (by first | omega | assumption | decide) (by first | omega | assumption | decide) (by first | exact br_q v25_4 hT.1 (by omega) (by omega) (by omega) (by unfold isQu; omega) | exact br_n v25_4 hT.1 (by omega) (by omega) (by omega) (by unfold isQu; omega)) (by omega) _ _ ls hP hD hS (lv_sub hl [1, 2] rfl)
                · have tk_19 := c_eq (a := r_14.toInt) (b := 63) rfl (by decide) k_19
                  refine lv_iconst (v := 1) hx hb dX10_isBranchAt_82 (by decide) ?_
                  refine lv_goto (tgt := 87) hx hb dX10_isBranchAt_83 (by decide) ?_
                  refine lv_iadd hx hb dX10_isBranchAt_87 ?_
                  refine lv_topi (fun y_21 ey_21 => ?_)
                  first | have ty_21 := i_add (a := x_9.toInt) (b := 1) rfl (by decide) ey_21 (by omega) (by omega) | skip
                  refine va_put (D := (dC, dI)) (ci := 10) (v := .int y_21) (ty := .int) (C := RX10) (T := TX10) (N := 48) hx hb hts fin_X10_isBranchAtmd1_X10 tyX10 tyX10_ok nmX10 hown hK hP hD hS 0 rfl rfl 10 (by decide) (hts (.fieldLink RX10 130 "PatternGateModel" "end" "I") (List.mem_of_getElem? (i := 1) (by decide +kernel))) (fun _ h9 => h9) rfl (by decide +kernel) rfl rfl (Nat.le_of_ble_eq_true rfl) dX10_isBranchAt_88 (fun H locs hP hD hS => ?_)
                  have hP : va_P (dC, dI) vwCl (mW ad kc x0 x1 x2 x3 x4 x5 x6 y_21 x_10 x_11 x10 x_12 x12 x13 x14 x15 x16 x17 x18 x19 x20 x21 f0 f1 f2 f3 f4 f5 f6 f7 f8 f9 f10 f11 f12 f13 f14 f15 f16 f17 f18 f19 f20 f21 fL fN fP fM fO) H := hP
                  have hD : va_D A (mW ad kc x0 x1 x2 x3 x4 x5 x6 y_21 x_10 x_11 x10 x_12 x12 x13 x14 x15 x16 x17 x18 x19 x20 x21 f0 f1 f2 f3 f4 f5 f6 f7 f8 f9 f10 f11 f12 f13 f14 f15 f16 f17 f18 f19 f20 f21 fL fN fP fM fO) := hD
                  refine lv_goto (tgt := 25) hx hb dX10_isBranchAt_91 (by decide) ?_
                  exact ih25 y_21 x_10 x_11 x_12 (by first | omega | assumption | decide) (by first | omega | assumption | decide) (by first | omega | assumption | decide) (by first | omega | assumption | decide) (by first | exact br_q v25_4 hT.1 (by omega) (by omega) (by omega) (by unfold isQu; omega) | exact br_n v25_4 hT.1 (by omega) (by omega) (by omega) (by unfold isQu; omega)) (by omega) _ _ ls hP hD hS (lv_sub hl [1, 2] rfl)
          · have tk_13 := c_eq (a := r_8.toInt) (b := 0) rfl (by decide) k_13
            refine lv_iconst (v := 0) hx hb dX10_isBranchAt_48 (by decide) ?_
            have lit_21 : (0 : Int32).toInt = 0 := by decide
            exact W.zret hx hb hr (z_nar (by first | assumption | decide | exact z_of (by omega))) (fun t ht hW => ⟨⟨_, _, rfl, rfl, x_9, x_10, x_11, x_12, (by first | omega | assumption | rfl | decide), (by first | omega | assumption | rfl | decide), (by first | omega | assumption | rfl | decide), (by first | omega | assumption | rfl | decide), (Or.inr (by first | omega | decide)), by rw [ht]; exact hP, va_K.moved hW.alike hK, hD⟩, hS.F ht⟩) hS.2.2 dX10_isBranchAt_49
    exact loop25 _ x7 x8 x9 x11 (by first | omega | assumption | decide) (by first | omega | assumption | decide) (by first | omega | assumption | decide) (by first | omega | assumption | decide) (Or.inl ⟨rfl, rfl⟩) (Nat.lt_succ_self _) _ _ ls hP hD hS (lv_sub hl [0, 1] rfl)
  · have tk_3 := c_eq (a := r_2.toInt) (b := 0) rfl (by decide) k_3
    refine lv_aload_n hx hb dX10_isBranchAt_15 rfl (lv_at hl 0 rfl) ?_
    refine lv_iconst (v := 1) hx hb dX10_isBranchAt_16 (by decide) ?_
    refine lv_aload_n hx hb dX10_isBranchAt_17 rfl (lv_at hl 0 rfl) ?_
    refine va_get (D := (dC, dI)) (ci := 10) (v := .int x7) (C := RX10) (T := TX10) (N := 48) hx hb hts fin_X10_isBranchAtmd1_X10 hown hK hP 0 rfl rfl 10 (by decide) (hts (.fieldLink RX10 130 "PatternGateModel" "end" "I") (List.mem_of_getElem? (i := 1) (by decide +kernel))) (fun _ h9 => h9) rfl dX10_isBranchAt_18 ?_
    have hFc := m_free hD hS hA
    refine va_calli (va_runV (As := [.int 1, .int x7]) (rest := []) ⟨hx, hb, hml, hown, hts⟩ (m_failsAt l dC dI ad kc x0 x1 x2 x3 x4 x5 x6 x7 x8 x9 x10 x11 x12 x13 x14 x15 x16 x17 x18 x19 x20 x21 f0 f1 f2 f3 f4 f5 f6 f7 f8 f9 f10 f11 f12 f13 f14 f15 f16 f17 f18 f19 f20 f21 fL fN fP fM fO H.size 1 x7 ) (cwV 2 hts mg_X10_isBranchAtmd1_X10_failsAt_126 rfl rfl rfl (by decide +kernel) ⟨Nat.le_of_ble_eq_true rfl, Nat.le_of_ble_eq_true rfl⟩) ⟨fun a U g mk q => by obtain ⟨q0, q1, qP, qK, qD⟩ := q; exact ⟨q0, q1, qP, va_K.moved (u := U) (U := U.calling g mk a) (Vm.Alike.refl U.vm) qK, qD⟩, va_recv hK hP (ci := 10) (q0 := 0) rfl rfl, fun U hU hW => ⟨rfl, by rw [hU], by rw [hU]; exact hP, va_K.moved hW.alike hK, hD.weaken (fun _ _ _ _ => trivial)⟩⟩ rfl rfl hl.1 rfl (lv_room (Nat.le_of_ble_eq_true rfl)) dX10_isBranchAt_21 ⟨Nat.le_of_ble_eq_true rfl, Nat.le_of_ble_eq_true rfl⟩) hS (fun q _ h => hFc q h) hFc (fun r_23 u t H1 locs ht hvm hw hB hz1 hk1 hS => ?_)
    subst hw
    obtain ⟨x_24, x_25, hr_23_0, hP, hK1, hD1⟩ := hB
    rw [ht] at hP
    have hD := hD1.weaken (fun k q _ h => hFc q.1 h)
    generalize H1 = H at hP hS ⊢
    have rg_x_24 := i_rng x_24
    have rg_x_25 := i_rng x_25
    have rg_r_23 := i_rng r_23
    have hP : va_P (dC, dI) vwCl (mW ad kc x0 x1 x2 x3 x4 x5 x6 x7 x_24 x_25 x10 x11 x12 x13 x14 x15 x16 x17 x18 x19 x20 x21 f0 f1 f2 f3 f4 f5 f6 f7 f8 f9 f10 f11 f12 f13 f14 f15 f16 f17 f18 f19 f20 f21 fL fN fP fM fO) H := hP
    have hD : va_D A (mW ad kc x0 x1 x2 x3 x4 x5 x6 x7 x_24 x_25 x10 x11 x12 x13 x14 x15 x16 x17 x18 x19 x20 x21 f0 f1 f2 f3 f4 f5 f6 f7 f8 f9 f10 f11 f12 f13 f14 f15 f16 f17 f18 f19 f20 f21 fL fN fP fM fO) := hD
    exact W.zret hx hb hr (z_nar (by first | assumption | decide | exact z_of (by omega))) (fun t ht hW => ⟨⟨_, _, rfl, rfl, x7, x_24, x_25, x11, (by first | omega | assumption | rfl | decide), (by first | omega | assumption | rfl | decide), (by first | omega | assumption | rfl | decide), (by first | omega | assumption | rfl | decide), (Or.inr (by first | omega | decide)), by rw [ht]; exact hP, va_K.moved hW.alike hK, hD⟩, hS.F ht⟩) hS.2.2 dX10_isBranchAt_24
def mwX10_isPatternAtmd1 : List Cond := .code yX10_isPatternAt cX10_isPatternAt 2 (some .boolean) :: ([.code yX10_isBranchAt cX10_isBranchAt 3 (some .boolean), .fieldLink RX10 130 "PatternGateModel" "end" "I", .code yX10_byteAt cX10_byteAt 2 (some .int), .fieldLink RX10 114 "PatternGateModel" "size" "I", .fieldLink RX10 18 "PatternGateModel" "text" "[B", .methodLink RX10 133 yX10_byteAt, .instanceMethod yX10_byteAt, .selects RX10 yX10_byteAt yX10_byteAt, .initialized RX10, .code yX10_isAtomSign cX10_isAtomSign 2 (some .boolean), .code yX10_isSmall cX10_isSmall 1 (some .boolean), .methodLink RX10 137 yX10_isSmall, .static yX10_isSmall, .methodLink RX10 160 yX10_isAtomSign, .instanceMethod yX10_isAtomSign, .selects RX10 yX10_isAtomSign yX10_isAtomSign, .code yX10_isAtomAt cX10_isAtomAt 3 (some .boolean), .fieldLink RX10 151 "PatternGateModel" "spots" "I", .code yX10_isSetAt cX10_isSetAt 3 (some .boolean), .code yX10_failsAt cX10_failsAt 3 (some .boolean), .fieldLink RX10 117 "PatternGateModel" "faults" "I", .fieldLink RX10 21 "PatternGateModel" "faultPlace" "I", .methodLink RX10 126 yX10_failsAt, .instanceMethod yX10_failsAt, .selects RX10 yX10_failsAt yX10_failsAt, .code yX10_has cX10_has 2 (some .boolean), .methodLink RX10 170 yX10_has, .static yX10_has, .methodLink RX10 166 yX10_isSetAt, .instanceMethod yX10_isSetAt, .selects RX10 yX10_isSetAt yX10_isSetAt, .code yX10_isPatternAt cX10_isPatternAt 2 (some .boolean), .methodLink RX10 163 yX10_isAtomAt, .instanceMethod yX10_isAtomAt, .selects RX10 yX10_isAtomAt yX10_isAtomAt, .methodLink RX10 157 yX10_isBranchAt, .instanceMethod yX10_isBranchAt, .selects RX10 yX10_isBranchAt yX10_isBranchAt, .methodLink RX10 154 yX10_isPatternAt, .instanceMethod yX10_isPatternAt, .selects RX10 yX10_isPatternAt yX10_isPatternAt] ++ wsX100)
theorem fin_X10_isPatternAtmd1_X10 : ∀ w ∈ wsX100, w ∈ mwX10_isPatternAtmd1 := fun w h => List.mem_cons_of_mem _ (List.mem_append_right _ h)
set_option maxRecDepth 20000 in
theorem mg_X10_isPatternAtmd1_X10_isBranchAt_157 : GoodIn mwX10_isPatternAtmd1 (wsV RX10 157 RX10 yX10_isBranchAt mwX10_isBranchAtmd1) := goodIn_r _ [36, 37, 38, 9, 1, 2, 3, 4, 5, 6, 7, 8, 9, 10, 11, 12, 13, 14, 15, 16, 17, 18, 19, 20, 21, 22, 23, 24, 25, 26, 27, 28, 29, 30, 31, 0, 1, 33, 34, 35, 36, 37, 38, 39, 40, 41, 42, 43, 44, 45, 46, 47, 48, 49, 50, 51, 52, 53, 54, 55, 56, 57, 58, 59, 60, 61, 62, 63, 64, 65, 66, 67, 68, 69, 70, 71, 72, 73, 74, 75, 76, 77, 78, 79, 80, 81, 82, 83, 84, 85, 86, 87, 88, 89] (by decide +kernel) (by decide +kernel)
set_option maxRecDepth 20000 in
theorem mg_X10_isPatternAtmd1_X10_byteAt_133 : GoodIn mwX10_isPatternAtmd1 (wsV RX10 133 RX10 yX10_byteAt mwX10_byteAtm) := goodIn_r _ [6, 7, 8, 9, 3, 4, 5, 42, 43, 44, 45, 46, 47, 48, 49, 50, 51, 52, 53, 54, 55, 56, 57, 58, 59, 60, 61, 62, 63, 64, 65, 66, 67, 68, 69, 70, 71, 72, 73, 74, 75, 76, 77, 78, 79, 80, 81, 82, 83, 84, 85, 86, 87, 88, 89] (by decide +kernel) (by decide +kernel)
set_option maxHeartbeats 4000000 in
set_option maxRecDepth 100000 in
theorem m_isPatternAt1 (l : Launch) (dC : Nat → ClassId) (dI : Nat → Nat → Nat) (ad : Nat → Nat) (kc : Nat → ClassId) (x0 x1 x2 x3 x4 x5 x6 x7 x8 x9 x10 x11 x12 x13 x14 x15 x16 x17 x18 x19 x20 x21 : Int32) (f0 f1 f2 f3 f4 f5 f6 f7 f8 f9 f10 f11 f12 f13 f14 f15 f16 f17 f18 f19 f20 f21 : Nat → Int32) (fL : Nat → Nat → Int64) (fN : Nat → Nat → Int32) (fP : Nat → Nat → Nat) (fM : Nat → Nat → Int32) (fO : Nat → Nat → Int32) (sz : Nat) (i1 : Int32) (q0 : 0 ≤ x7.toInt) (q1 : x7.toInt ≤ x4.toInt) (q2 : x4.toInt ≤ 900) (q3 : 0 ≤ x11.toInt) (q4 : x11.toInt ≤ 24) (q5 : i1.toInt = 1) : Met l yX10_isPatternAt mwX10_isPatternAtmd1 ({ frames := 16, cells := 0, slots := 0, locals := 960 }) (va_Pc [.ref (ad 0), .int i1] (fun U => U.heap.size = sz ∧ va_P (dC, dI) vwCl (mW ad kc x0 x1 x2 x3 x4 x5 x6 x7 x8 x9 x10 x11 x12 x13 x14 x15 x16 x17 x18 x19 x20 x21 f0 f1 f2 f3 f4 f5 f6 f7 f8 f9 f10 f11 f12 f13 f14 f15 f16 f17 f18 f19 f20 f21 fL fN fP fM fO) U.heap ∧ va_K (dC, dI) vwCl (mT kc) U ∧ va_D (fun _ => True) (mW ad kc x0 x1 x2 x3 x4 x5 x6 x7 x8 x9 x10 x11 x12 x13 x14 x15 x16 x17 x18 x19 x20 x21 f0 f1 f2 f3 f4 f5 f6 f7 f8 f9 f10 f11 f12 f13 f14 f15 f16 f17 f18 f19 f20 f21 fL fN fP fM fO))) (va_Qi (fun (o9 u9 : Int32) => o9 = u9) (fun (o9 : Int32) t => ∃ (y7 y8 y9 y11 : Int32), (x7.toInt ≤ y7.toInt) ∧ (y7.toInt ≤ x4.toInt) ∧ (x11.toInt ≤ y11.toInt) ∧ (y11.toInt ≤ 24) ∧ (o9.toInt = 1 ∧ (pPat (tx f2 x4.toInt) 4 x7.toInt y7.toInt (y11.toInt - x11.toInt) ∧ x11.toInt < y11.toInt ∧ x7.toInt < y7.toInt) ∨ o9.toInt = 0) ∧ va_P (dC, dI) vwCl (mW ad kc x0 x1 x2 x3 x4 x5 x6 y7 y8 y9 x10 y11 x12 x13 x14 x15 x16 x17 x18 x19 x20 x21 f0 f1 f2 f3 f4 f5 f6 f7 f8 f9 f10 f11 f12 f13 f14 f15 f16 f17 f18 f19 f20 f21 fL fN fP fM fO) t.heap ∧ va_K (dC, dI) vwCl (mT kc) t ∧ va_D (va_A (mW ad kc x0 x1 x2 x3 x4 x5 x6 x7 x8 x9 x10 x11 x12 x13 x14 x15 x16 x17 x18 x19 x20 x21 f0 f1 f2 f3 f4 f5 f6 f7 f8 f9 f10 f11 f12 f13 f14 f15 f16 f17 f18 f19 f20 f21 fL fN fP fM fO) sz) (mW ad kc x0 x1 x2 x3 x4 x5 x6 y7 y8 y9 x10 y11 x12 x13 x14 x15 x16 x17 x18 x19 x20 x21 f0 f1 f2 f3 f4 f5 f6 f7 f8 f9 f10 f11 f12 f13 f14 f15 f16 f17 f18 f19 f20 f21 fL fN fP fM fO)) (va_A (mW ad kc x0 x1 x2 x3 x4 x5 x6 x7 x8 x9 x10 x11 x12 x13 x14 x15 x16 x17 x18 x19 x20 x21 f0 f1 f2 f3 f4 f5 f6 f7 f8 f9 f10 f11 f12 f13 f14 f15 f16 f17 f18 f19 f20 f21 fL fN fP fM fO) sz)) 0 0 (va_A (mW ad kc x0 x1 x2 x3 x4 x5 x6 x7 x8 x9 x10 x11 x12 x13 x14 x15 x16 x17 x18 x19 x20 x21 f0 f1 f2 f3 f4 f5 f6 f7 f8 f9 f10 f11 f12 f13 f14 f15 f16 f17 f18 f19 f20 f21 fL fN fP fM fO) sz) := by
  refine Met.ofW (cc := cX10_isPatternAt) (maxL := 2) (ret := (some .boolean)) (by decide +kernel) rfl ?_
  intro p e s m args below meth c s₁ B hml hv
  obtain ⟨rfl, hsz, hP, hK, hD0⟩ := hv
  have hx := B.exec
  have hb := B.bytes
  have hr := B.returns
  have hts := atoms_spec (ws := mwX10_isPatternAtmd1) B.pre
  have hown : s.vm.findClass RX10 = some m.cls := findClass_of_methodNamed B.named
  have hlocks := B.notSynchronized
  subst hsz
  have hD := hD0.self (sz := s.heap.size)
  generalize hAe : va_A (mW ad kc x0 x1 x2 x3 x4 x5 x6 x7 x8 x9 x10 x11 x12 x13 x14 x15 x16 x17 x18 x19 x20 x21 f0 f1 f2 f3 f4 f5 f6 f7 f8 f9 f10 f11 f12 f13 f14 f15 f16 f17 f18 f19 f20 f21 fL fN fP fM fO) s.heap.size = A at hD ⊢
  have hA : ∀ q : Nat, s.heap.size ≤ q → A q := fun q h => by rw [← hAe]; exact Or.inr h
  have hP : va_P (dC, dI) vwCl (mW ad kc x0 x1 x2 x3 x4 x5 x6 x7 x8 x9 x10 x11 x12 x13 x14 x15 x16 x17 x18 x19 x20 x21 f0 f1 f2 f3 f4 f5 f6 f7 f8 f9 f10 f11 f12 f13 f14 f15 f16 f17 f18 f19 f20 f21 fL fN fP fM fO) s.heap := hP
  have hD : va_D A (mW ad kc x0 x1 x2 x3 x4 x5 x6 x7 x8 x9 x10 x11 x12 x13 x14 x15 x16 x17 x18 x19 x20 x21 f0 f1 f2 f3 f4 f5 f6 f7 f8 f9 f10 f11 f12 f13 f14 f15 f16 f17 f18 f19 f20 f21 fL fN fP fM fO) := hD
  have hK : va_K (dC, dI) vwCl (mT kc) s := hK
  generalize hH : s.heap = H at hP ⊢
  have hS : va_S A s.heap H [] := by rw [← hH]; exact va_S.rf
  have hl := lv_entry ([.ref (ad 0), .int i1]) (n := 2) (Nat.le_of_ble_eq_true rfl)
  rw [lg_entry_eq]
  generalize (lg_sl ([.ref (ad 0), .int i1]) ++ List.replicate (2 - (lg_sl ([.ref (ad 0), .int i1])).length) Slot.unset).toArray = ls at hl ⊢
  have hl : lv_has ls 2 [(0, .ref (ad 0)), (1, .int i1)] := hl
  have rg_i1 := i_rng i1
  refine lv_aload_n hx hb dX10_isPatternAt_0 rfl (lv_at hl 0 rfl) ?_
  refine lv_iload_n hx hb dX10_isPatternAt_1 rfl (lv_at hl 1 rfl) ?_
  have hFc := m_free hD hS hA
  refine va_calli (va_runV (As := [.int i1]) (rest := []) ⟨hx, hb, hml, hown, hts⟩ (m_isBranchAt1 l dC dI ad kc x0 x1 x2 x3 x4 x5 x6 x7 x8 x9 x10 x11 x12 x13 x14 x15 x16 x17 x18 x19 x20 x21 f0 f1 f2 f3 f4 f5 f6 f7 f8 f9 f10 f11 f12 f13 f14 f15 f16 f17 f18 f19 f20 f21 fL fN fP fM fO H.size i1 (by first | omega | assumption | decide | (have l0 := Int32.toInt_zero; omega)) (by first | omega | assumption | decide | (have l0 := Int32.toInt_zero; omega)) (by first | omega | assumption | decide | (have l0 := Int32.toInt_zero; omega)) (by first | omega | assumption | decide | (have l0 := Int32.toInt_zero; omega)) (by first | omega | assumption | decide | (have l0 := Int32.toInt_zero; omega)) (by first | omega | assumption | decide | (have l0 := Int32.toInt_zero; omega))) (cwV 1 hts mg_X10_isPatternAtmd1_X10_isBranchAt_157 rfl rfl rfl (by decide +kernel) ⟨Nat.le_of_ble_eq_true rfl, Nat.le_of_ble_eq_true rfl⟩) ⟨fun a U g mk q => by obtain ⟨q0, q1, qP, qK, qD⟩ := q; exact ⟨q0, q1, qP, va_K.moved (u := U) (U := U.calling g mk a) (Vm.Alike.refl U.vm) qK, qD⟩, va_recv hK hP (ci := 10) (q0 := 0) rfl rfl, fun U hU hW => ⟨rfl, by rw [hU], by rw [hU]; exact hP, va_K.moved hW.alike hK, hD.weaken (fun _ _ _ _ => trivial)⟩⟩ rfl rfl hl.1 rfl (lv_room (Nat.le_of_ble_eq_true rfl)) dX10_isPatternAt_2 ⟨Nat.le_of_ble_eq_true rfl, Nat.le_of_ble_eq_true rfl⟩) hS (fun q _ h => hFc q h) hFc (fun r_1 u t H1 locs ht hvm hw hB hz1 hk1 hS => ?_)
  subst hw
  obtain ⟨x_2, x_3, x_4, x_5, hr_1_0, hr_1_1, hr_1_2, hr_1_3, hr_1_4, hP, hK1, hD1⟩ := hB
  rw [ht] at hP
  have hD := hD1.weaken (fun k q _ h => hFc q.1 h)
  generalize H1 = H at hP hS ⊢
  have rg_x_2 := i_rng x_2
  have rg_x_3 := i_rng x_3
  have rg_x_4 := i_rng x_4
  have rg_x_5 := i_rng x_5
  have rg_r_1 := i_rng r_1
  have hP : va_P (dC, dI) vwCl (mW ad kc x0 x1 x2 x3 x4 x5 x6 x_2 x_3 x_4 x10 x_5 x12 x13 x14 x15 x16 x17 x18 x19 x20 x21 f0 f1 f2 f3 f4 f5 f6 f7 f8 f9 f10 f11 f12 f13 f14 f15 f16 f17 f18 f19 f20 f21 fL fN fP fM fO) H := hP
  have hD : va_D A (mW ad kc x0 x1 x2 x3 x4 x5 x6 x_2 x_3 x_4 x10 x_5 x12 x13 x14 x15 x16 x17 x18 x19 x20 x21 f0 f1 f2 f3 f4 f5 f6 f7 f8 f9 f10 f11 f12 f13 f14 f15 f16 f17 f18 f19 f20 f21 fL fN fP fM fO) := hD
  refine lv_if_ne (tgt := 10) hx hb dX10_isPatternAt_5 (by decide) (fun k_6 => ?_) (fun k_6 => ?_)
  · have tk_6 := c_ne (a := r_1.toInt) (b := 0) rfl (by decide) k_6
    have hT := tf_t hr_1_4 (by omega)
    have loop10 : ∀ (lm10 : Nat) (ea fa fb sa : Int32), (x7.toInt ≤ ea.toInt) → (ea.toInt ≤ x4.toInt) → (x11.toInt ≤ sa.toInt) → (sa.toInt ≤ 24) → (paI (tx f2 x4.toInt) (pSub (tx f2 x4.toInt) 4) x7.toInt ea.toInt x11.toInt sa.toInt) → ((x4.toInt - ea.toInt).toNat) < lm10 → ∀ (H : Heap) (locs : List Loc) (ls : Array Slot), va_P (dC, dI) vwCl (mW ad kc x0 x1 x2 x3 x4 x5 x6 ea fa fb x10 sa x12 x13 x14 x15 x16 x17 x18 x19 x20 x21 f0 f1 f2 f3 f4 f5 f6 f7 f8 f9 f10 f11 f12 f13 f14 f15 f16 f17 f18 f19 f20 f21 fL fN fP fM fO) H → va_D A (mW ad kc x0 x1 x2 x3 x4 x5 x6 ea fa fb x10 sa x12 x13 x14 x15 x16 x17 x18 x19 x20 x21 f0 f1 f2 f3 f4 f5 f6 f7 f8 f9 f10 f11 f12 f13 f14 f15 f16 f17 f18 f19 f20 f21 fL fN fP fM fO) → va_S A s.heap H locs → lv_has ls 2 [(0, .ref (ad 0)), (1, .int i1)] → W p l e (headSpec mwX10_isPatternAtmd1 ({ frames := 16, cells := 0, slots := 0, locals := 960 })).room s m ([.ref (ad 0), .int i1]).toArray below meth c H locs 0 0 (MQ below (va_Qi (fun (o9 u9 : Int32) => o9 = u9) (fun (o9 : Int32) t => ∃ (y7 y8 y9 y11 : Int32), (x7.toInt ≤ y7.toInt) ∧ (y7.toInt ≤ x4.toInt) ∧ (x11.toInt ≤ y11.toInt) ∧ (y11.toInt ≤ 24) ∧ (o9.toInt = 1 ∧ (pPat (tx f2 x4.toInt) 4 x7.toInt y7.toInt (y11.toInt - x11.toInt) ∧ x11.toInt < y11.toInt ∧ x7.toInt < y7.toInt) ∨ o9.toInt = 0) ∧ va_P (dC, dI) vwCl (mW ad kc x0 x1 x2 x3 x4 x5 x6 y7 y8 y9 x10 y11 x12 x13 x14 x15 x16 x17 x18 x19 x20 x21 f0 f1 f2 f3 f4 f5 f6 f7 f8 f9 f10 f11 f12 f13 f14 f15 f16 f17 f18 f19 f20 f21 fL fN fP fM fO) t.heap ∧ va_K (dC, dI) vwCl (mT kc) t ∧ va_D A (mW ad kc x0 x1 x2 x3 x4 x5 x6 y7 y8 y9 x10 y11 x12 x13 x14 x15 x16 x17 x18 x19 x20 x21 f0 f1 f2 f3 f4 f5 f6 f7 f8 f9 f10 f11 f12 f13 f14 f15 f16 f17 f18 f19 f20 f21 fL fN fP fM fO)) A) ([.ref (ad 0), .int i1]).toArray s 0 0 A) (F0 m 10 ls []) := by
      intro lm10
      induction lm10 with
      | zero => intro ea fa fb sa v10_0 v10_1 v10_2 v10_3 v10_4 hm10; exact absurd hm10 (Nat.not_lt_zero _)
      | succ lm10 ih10 =>
        intro ea fa fb sa v10_0 v10_1 v10_2 v10_3 v10_4 hm10 H locs ls hP hD hS hl
        have rg_ea := i_rng ea
        have rg_fa := i_rng fa
        have rg_fb := i_rng fb
        have rg_sa := i_rng sa
        refine lv_aload_n hx hb dX10_isPatternAt_10 rfl (lv_at hl 0 rfl) ?_
        refine lv_aload_n hx hb dX10_isPatternAt_11 rfl (lv_at hl 0 rfl) ?_
        refine va_get (D := (dC, dI)) (ci := 10) (v := .int ea) (C := RX10) (T := TX10) (N := 48) hx hb hts fin_X10_isPatternAtmd1_X10 hown hK hP 0 rfl rfl 10 (by decide) (hts (.fieldLink RX10 130 "PatternGateModel" "end" "I") (List.mem_of_getElem? (i := 2) (by decide +kernel))) (fun _ h9 => h9) rfl dX10_isPatternAt_12 ?_
        refine vp_callSi (W.runV (As := [.int ea]) (rest := []) ⟨hx, hb, hml, hown, hts⟩ (m_byteAt l dC dI ad kc x0 x1 x2 x3 x4 x5 x6 ea fa fb x10 sa x12 x13 x14 x15 x16 x17 x18 x19 x20 x21 f0 f1 f2 f3 f4 f5 f6 f7 f8 f9 f10 f11 f12 f13 f14 f15 f16 f17 f18 f19 f20 f21 fL fN fP fM fO ea (by first | omega | assumption | decide | (have l0 := Int32.toInt_zero; omega)) (by first | omega | assumption | decide | (have l0 := Int32.toInt_zero; omega))) (cwV 1 hts mg_X10_isPatternAtmd1_X10_byteAt_133 rfl rfl rfl (by decide +kernel) ⟨Nat.le_of_ble_eq_true rfl, Nat.le_of_ble_eq_true rfl⟩) ⟨fun a U g mk q => by obtain ⟨q0, qP, qK⟩ := q; exact ⟨q0, qP, va_K.moved (u := U) (U := U.calling g mk a) (Vm.Alike.refl U.vm) qK⟩, va_recv hK hP (ci := 10) (q0 := 0) rfl rfl, fun U hU hW => ⟨rfl, by rw [hU]; exact hP, va_K.moved hW.alike hK⟩⟩ rfl rfl hl.1 rfl (lv_room (Nat.le_of_ble_eq_true rfl)) dX10_isPatternAt_15 ⟨Nat.le_of_ble_eq_true rfl, Nat.le_of_ble_eq_true rfl⟩) (fun r_7 hr_7 => ?_)
        have rg_r_7 := i_rng r_7
        refine lv_bipush (v := 124) hx hb dX10_isPatternAt_18 (by decide) ?_
        refine lv_icmp_ne (tgt := 43) hx hb dX10_isPatternAt_20 (by decide) (fun k_8 => ?_) (fun k_8 => ?_)
        · have tk_8 := c_ne (a := r_7.toInt) (b := 124) rfl (by decide) k_8
          refine lv_iconst (v := 1) hx hb dX10_isPatternAt_43 (by decide) ?_
          have lit_8 : (1 : Int32).toInt = 1 := by decide
          exact W.zret hx hb hr (z_nar (by first | assumption | decide | exact z_of (by omega))) (fun t ht hW => ⟨⟨_, _, rfl, rfl, ea, fa, fb, sa, (by first | omega | assumption | rfl | decide), (by first | omega | assumption | rfl | decide), (by first | omega | assumption | rfl | decide), (by first | omega | assumption | rfl | decide), (Or.inl ⟨by decide, pa_end v10_4 (by omega)⟩), by rw [ht]; exact hP, va_K.moved hW.alike hK, hD⟩, hS.F ht⟩) hS.2.2 dX10_isPatternAt_44
        · have tk_8 := c_eq (a := r_7.toInt) (b := 124) rfl (by decide) k_8
          refine lv_aload_n hx hb dX10_isPatternAt_23 rfl (lv_at hl 0 rfl) ?_
          refine lv_dup hx hb dX10_isPatternAt_24 rfl ?_
          refine va_get (D := (dC, dI)) (ci := 10) (v := .int ea) (C := RX10) (T := TX10) (N := 48) hx hb hts fin_X10_isPatternAtmd1_X10 hown hK hP 0 rfl rfl 10 (by decide) (hts (.fieldLink RX10 130 "PatternGateModel" "end" "I") (List.mem_of_getElem? (i := 2) (by decide +kernel))) (fun _ h9 => h9) rfl dX10_isPatternAt_25 ?_
          refine lv_iconst (v := 1) hx hb dX10_isPatternAt_28 (by decide) ?_
          refine lv_iadd hx hb dX10_isPatternAt_29 ?_
          refine lv_topi (fun y_10 ey_10 => ?_)
          first | have ty_10 := i_add (a := ea.toInt) (b := 1) rfl (by decide) ey_10 (by omega) (by omega) | skip
          refine va_put (D := (dC, dI)) (ci := 10) (v := .int y_10) (ty := .int) (C := RX10) (T := TX10) (N := 48) hx hb hts fin_X10_isPatternAtmd1_X10 tyX10 tyX10_ok nmX10 hown hK hP hD hS 0 rfl rfl 10 (by decide) (hts (.fieldLink RX10 130 "PatternGateModel" "end" "I") (List.mem_of_getElem? (i := 2) (by decide +kernel))) (fun _ h9 => h9) rfl (by decide +kernel) rfl rfl (Nat.le_of_ble_eq_true rfl) dX10_isPatternAt_30 (fun H locs hP hD hS => ?_)
          have hP : va_P (dC, dI) vwCl (mW ad kc x0 x1 x2 x3 x4 x5 x6 y_10 fa fb x10 sa x12 x13 x14 x15 x16 x17 x18 x19 x20 x21 f0 f1 f2 f3 f4 f5 f6 f7 f8 f9 f10 f11 f12 f13 f14 f15 f16 f17 f18 f19 f20 f21 fL fN fP fM fO) H := hP
          have hD : va_D A (mW ad kc x0 x1 x2 x3 x4 x5 x6 y_10 fa fb x10 sa x12 x13 x14 x15 x16 x17 x18 x19 x20 x21 f0 f1 f2 f3 f4 f5 f6 f7 f8 f9 f10 f11 f12 f13 f14 f15 f16 f17 f18 f19 f20 f21 fL fN fP fM fO) := hD
          refine lv_aload_n hx hb dX10_isPatternAt_33 rfl (lv_at hl 0 rfl) ?_
          refine lv_iload_n hx hb dX10_isPatternAt_34 rfl (lv_at hl 1 rfl) ?_
          have hFc := m_free hD hS hA
          refine va_calli (va_runV (As := [.int i1]) (rest := []) ⟨hx, hb, hml, hown, hts⟩ (m_isBranchAt1 l dC dI ad kc x0 x1 x2 x3 x4 x5 x6 y_10 fa fb x10 sa x12 x13 x14 x15 x16 x17 x18 x19 x20 x21 f0 f1 f2 f3 f4 f5 f6 f7 f8 f9 f10 f11 f12 f13 f14 f15 f16 f17 f18 f19 f20 f21 fL fN fP fM fO H.size i1 (by first | omega | assumption | decide | (have l0 := Int32.toInt_zero; omega)) (by first | omega | assumption | decide | (have l0 := Int32.toInt_zero; omega)) (by first | omega | assumption | decide | (have l0 := Int32.toInt_zero; omega)) (by first | omega | assumption | decide | (have l0 := Int32.toInt_zero; omega)) (by first | omega | assumption | decide | (have l0 := Int32.toInt_zero; omega)) (by first | omega | assumption | decide | (have l0 := Int32.toInt_zero; omega))) (cwV 1 hts mg_X10_isPatternAtmd1_X10_isBranchAt_157 rfl rfl rfl (by decide +kernel) ⟨Nat.le_of_ble_eq_true rfl, Nat.le_of_ble_eq_true rfl⟩) ⟨fun a U g mk q => by obtain ⟨q0, q1, qP, qK, qD⟩ := q; exact ⟨q0, q1, qP, va_K.moved (u := U) (U := U.calling g mk a) (Vm.Alike.refl U.vm) qK, qD⟩, va_recv hK hP (ci := 10) (q0 := 0) rfl rfl, fun U hU hW => ⟨rfl, by rw [hU], by rw [hU]; exact hP, va_K.moved hW.alike hK, hD.weaken (fun _ _ _ _ => trivial)⟩⟩ rfl rfl hl.1 rfl (lv_room (Nat.le_of_ble_eq_true rfl)) dX10_isPatternAt_35 ⟨Nat.le_of_ble_eq_true rfl, Nat.le_of_ble_eq_true rfl⟩) hS (fun q _ h => hFc q h) hFc (fun r_11 u t H1 locs ht hvm hw hB hz1 hk1 hS => ?_)
          subst hw
          obtain ⟨x_12, x_13, x_14, x_15, hr_11_0, hr_11_1, hr_11_2, hr_11_3, hr_11_4, hP, hK1, hD1⟩ := hB
          rw [ht] at hP
          have hD := hD1.weaken (fun k q _ h => hFc q.1 h)
          generalize H1 = H at hP hS ⊢
          have rg_x_12 := i_rng x_12
          have rg_x_13 := i_rng x_13
          have rg_x_14 := i_rng x_14
          have rg_x_15 := i_rng x_15
          have rg_r_11 := i_rng r_11
          have hP : va_P (dC, dI) vwCl (mW ad kc x0 x1 x2 x3 x4 x5 x6 x_12 x_13 x_14 x10 x_15 x12 x13 x14 x15 x16 x17 x18 x19 x20 x21 f0 f1 f2 f3 f4 f5 f6 f7 f8 f9 f10 f11 f12 f13 f14 f15 f16 f17 f18 f19 f20 f21 fL fN fP fM fO) H := hP
          have hD : va_D A (mW ad kc x0 x1 x2 x3 x4 x5 x6 x_12 x_13 x_14 x10 x_15 x12 x13 x14 x15 x16 x17 x18 x19 x20 x21 f0 f1 f2 f3 f4 f5 f6 f7 f8 f9 f10 f11 f12 f13 f14 f15 f16 f17 f18 f19 f20 f21 fL fN fP fM fO) := hD
          refine lv_if_ne (tgt := 10) hx hb dX10_isPatternAt_38 (by decide) (fun k_16 => ?_) (fun k_16 => ?_)
          · have tk_16 := c_ne (a := r_11.toInt) (b := 0) rfl (by decide) k_16
            have hT := tf_t hr_11_4 (by omega)
            exact ih10 x_12 x_13 x_14 x_15 (by first | omega | assumption | decide) (by first | omega | assumption | decide) (by first | omega | assumption | decide) (by first | omega | assumption | decide) (pa_add v10_4 (by omega) (by omega) hT) (by omega) _ _ ls hP hD hS (lv_sub hl [0, 1] rfl)
          · have tk_16 := c_eq (a := r_11.toInt) (b := 0) rfl (by decide) k_16
            refine lv_iconst (v := 0) hx hb dX10_isPatternAt_41 (by decide) ?_
            have lit_16 : (0 : Int32).toInt = 0 := by decide
            exact W.zret hx hb hr (z_nar (by first | assumption | decide | exact z_of (by omega))) (fun t ht hW => ⟨⟨_, _, rfl, rfl, x_12, x_13, x_14, x_15, (by first | omega | assumption | rfl | decide), (by first | omega | assumption | rfl | decide), (by first | omega | assumption | rfl | decide), (by first | omega | assumption | rfl | decide), (Or.inr (by first | omega | decide)), by rw [ht]; exact hP, va_K.moved hW.alike hK, hD⟩, hS.F ht⟩) hS.2.2 dX10_isPatternAt_42
    exact loop10 _ x_2 x_3 x_4 x_5 (by first | omega | assumption | decide) (by first | omega | assumption | decide) (by first | omega | assumption | decide) (by first | omega | assumption | decide) (pa_one hT) (Nat.lt_succ_self _) _ _ ls hP hD hS (lv_sub hl [0, 1] rfl)
  · have tk_6 := c_eq (a := r_1.toInt) (b := 0) rfl (by decide) k_6
    refine lv_iconst (v := 0) hx hb dX10_isPatternAt_8 (by decide) ?_
    have lit_17 : (0 : Int32).toInt = 0 := by decide
    exact W.zret hx hb hr (z_nar (by first | assumption | decide | exact z_of (by omega))) (fun t ht hW => ⟨⟨_, _, rfl, rfl, x_2, x_3, x_4, x_5, (by first | omega | assumption | rfl | decide), (by first | omega | assumption | rfl | decide), (by first | omega | assumption | rfl | decide), (by first | omega | assumption | rfl | decide), (Or.inr (by first | omega | decide)), by rw [ht]; exact hP, va_K.moved hW.alike hK, hD⟩, hS.F ht⟩) hS.2.2 dX10_isPatternAt_9
def mwX10_isAtomAtmd0 : List Cond := .code yX10_isAtomAt cX10_isAtomAt 3 (some .boolean) :: ([.fieldLink RX10 130 "PatternGateModel" "end" "I", .code yX10_byteAt cX10_byteAt 2 (some .int), .fieldLink RX10 114 "PatternGateModel" "size" "I", .fieldLink RX10 18 "PatternGateModel" "text" "[B", .methodLink RX10 133 yX10_byteAt, .instanceMethod yX10_byteAt, .selects RX10 yX10_byteAt yX10_byteAt, .initialized RX10, .fieldLink RX10 151 "PatternGateModel" "spots" "I", .code yX10_isSetAt cX10_isSetAt 3 (some .boolean), .code yX10_isSmall cX10_isSmall 1 (some .boolean), .methodLink RX10 137 yX10_isSmall, .static yX10_isSmall, .code yX10_failsAt cX10_failsAt 3 (some .boolean), .fieldLink RX10 117 "PatternGateModel" "faults" "I", .fieldLink RX10 21 "PatternGateModel" "faultPlace" "I", .methodLink RX10 126 yX10_failsAt, .instanceMethod yX10_failsAt, .selects RX10 yX10_failsAt yX10_failsAt, .code yX10_has cX10_has 2 (some .boolean), .methodLink RX10 170 yX10_has, .static yX10_has, .methodLink RX10 166 yX10_isSetAt, .instanceMethod yX10_isSetAt, .selects RX10 yX10_isSetAt yX10_isSetAt, .code yX10_isPatternAt cX10_isPatternAt 2 (some .boolean), .code yX10_isBranchAt cX10_isBranchAt 3 (some .boolean), .code yX10_isAtomSign cX10_isAtomSign 2 (some .boolean), .methodLink RX10 160 yX10_isAtomSign, .instanceMethod yX10_isAtomSign, .selects RX10 yX10_isAtomSign yX10_isAtomSign, .code yX10_isAtomAt cX10_isAtomAt 3 (some .boolean), .methodLink RX10 163 yX10_isAtomAt, .instanceMethod yX10_isAtomAt, .selects RX10 yX10_isAtomAt yX10_isAtomAt, .methodLink RX10 157 yX10_isBranchAt, .instanceMethod yX10_isBranchAt, .selects RX10 yX10_isBranchAt yX10_isBranchAt, .methodLink RX10 154 yX10_isPatternAt, .instanceMethod yX10_isPatternAt, .selects RX10 yX10_isPatternAt yX10_isPatternAt] ++ wsX100)
theorem fin_X10_isAtomAtmd0_X10 : ∀ w ∈ wsX100, w ∈ mwX10_isAtomAtmd0 := fun w h => List.mem_cons_of_mem _ (List.mem_append_right _ h)
set_option maxRecDepth 20000 in
theorem mg_X10_isAtomAtmd0_X10_byteAt_133 : GoodIn mwX10_isAtomAtmd0 (wsV RX10 133 RX10 yX10_byteAt mwX10_byteAtm) := goodIn_r _ [5, 6, 7, 8, 2, 3, 4, 42, 43, 44, 45, 46, 47, 48, 49, 50, 51, 52, 53, 54, 55, 56, 57, 58, 59, 60, 61, 62, 63, 64, 65, 66, 67, 68, 69, 70, 71, 72, 73, 74, 75, 76, 77, 78, 79, 80, 81, 82, 83, 84, 85, 86, 87, 88, 89] (by decide +kernel) (by decide +kernel)
set_option maxRecDepth 20000 in
theorem mg_X10_isAtomAtmd0_X10_isSetAt_166 : GoodIn mwX10_isAtomAtmd0 (wsV RX10 166 RX10 yX10_isSetAt mwX10_isSetAtm) := goodIn_r _ [23, 24, 25, 8, 10, 1, 2, 3, 4, 5, 6, 7, 8, 11, 12, 13, 14, 15, 16, 17, 18, 19, 20, 21, 22, 42, 43, 44, 45, 46, 47, 48, 49, 50, 51, 52, 53, 54, 55, 56, 57, 58, 59, 60, 61, 62, 63, 64, 65, 66, 67, 68, 69, 70, 71, 72, 73, 74, 75, 76, 77, 78, 79, 80, 81, 82, 83, 84, 85, 86, 87, 88, 89] (by decide +kernel) (by decide +kernel)
set_option maxRecDepth 20000 in
theorem mg_X10_isAtomAtmd0_X10_failsAt_126 : GoodIn mwX10_isAtomAtmd0 (wsV RX10 126 RX10 yX10_failsAt mwX10_failsAtm) := goodIn_r _ [17, 18, 19, 8, 14, 15, 16, 42, 43, 44, 45, 46, 47, 48, 49, 50, 51, 52, 53, 54, 55, 56, 57, 58, 59, 60, 61, 62, 63, 64, 65, 66, 67, 68, 69, 70, 71, 72, 73, 74, 75, 76, 77, 78, 79, 80, 81, 82, 83, 84, 85, 86, 87, 88, 89] (by decide +kernel) (by decide +kernel)
set_option maxRecDepth 20000 in
theorem mg_X10_isAtomAtmd0_X10_isPatternAt_154 : GoodIn mwX10_isAtomAtmd0 (wsV RX10 154 RX10 yX10_isPatternAt mwX10_isPatternAtmd1) := goodIn_r _ [39, 40, 41, 8, 26, 27, 1, 2, 3, 4, 5, 6, 7, 8, 28, 11, 12, 13, 29, 30, 31, 0, 9, 10, 14, 15, 16, 17, 18, 19, 20, 21, 22, 23, 24, 25, 26, 33, 34, 35, 36, 37, 38, 39, 40, 41, 42, 43, 44, 45, 46, 47, 48, 49, 50, 51, 52, 53, 54, 55, 56, 57, 58, 59, 60, 61, 62, 63, 64, 65, 66, 67, 68, 69, 70, 71, 72, 73, 74, 75, 76, 77, 78, 79, 80, 81, 82, 83, 84, 85, 86, 87, 88, 89] (by decide +kernel) (by decide +kernel)
set_option maxHeartbeats 4000000 in
set_option maxRecDepth 100000 in
theorem m_isAtomAt0 (l : Launch) (dC : Nat → ClassId) (dI : Nat → Nat → Nat) (ad : Nat → Nat) (kc : Nat → ClassId) (x0 x1 x2 x3 x4 x5 x6 x7 x8 x9 x10 x11 x12 x13 x14 x15 x16 x17 x18 x19 x20 x21 : Int32) (f0 f1 f2 f3 f4 f5 f6 f7 f8 f9 f10 f11 f12 f13 f14 f15 f16 f17 f18 f19 f20 f21 : Nat → Int32) (fL : Nat → Nat → Int64) (fN : Nat → Nat → Int32) (fP : Nat → Nat → Nat) (fM : Nat → Nat → Int32) (fO : Nat → Nat → Int32) (sz : Nat) (i1 : Int32) (q0 : 0 ≤ x7.toInt) (q1 : x7.toInt ≤ x4.toInt) (q2 : x4.toInt ≤ 900) (q3 : 0 ≤ x11.toInt) (q4 : x11.toInt ≤ 24) (q5 : i1.toInt = 0) (q6 : isAt (tx f2 x4.toInt x7.toInt)) : Met l yX10_isAtomAt mwX10_isAtomAtmd0 ({ frames := 17, cells := 0, slots := 0, locals := 1020 }) (va_Pc [.ref (ad 0), .int i1] (fun U => U.heap.size = sz ∧ va_P (dC, dI) vwCl (mW ad kc x0 x1 x2 x3 x4 x5 x6 x7 x8 x9 x10 x11 x12 x13 x14 x15 x16 x17 x18 x19 x20 x21 f0 f1 f2 f3 f4 f5 f6 f7 f8 f9 f10 f11 f12 f13 f14 f15 f16 f17 f18 f19 f20 f21 fL fN fP fM fO) U.heap ∧ va_K (dC, dI) vwCl (mT kc) U ∧ va_D (fun _ => True) (mW ad kc x0 x1 x2 x3 x4 x5 x6 x7 x8 x9 x10 x11 x12 x13 x14 x15 x16 x17 x18 x19 x20 x21 f0 f1 f2 f3 f4 f5 f6 f7 f8 f9 f10 f11 f12 f13 f14 f15 f16 f17 f18 f19 f20 f21 fL fN fP fM fO))) (va_Qi (fun (o9 u9 : Int32) => o9 = u9) (fun (o9 : Int32) t => ∃ (y7 y8 y9 y11 : Int32), (x7.toInt ≤ y7.toInt) ∧ (y7.toInt ≤ x4.toInt) ∧ (x11.toInt ≤ y11.toInt) ∧ (y11.toInt ≤ 24) ∧ (o9.toInt = 1 ∧ (pAtom (tx f2 x4.toInt) (pSub (tx f2 x4.toInt) 5) x7.toInt y7.toInt (y11.toInt - x11.toInt) ∧ x11.toInt < y11.toInt ∧ x7.toInt < y7.toInt) ∨ o9.toInt = 0) ∧ va_P (dC, dI) vwCl (mW ad kc x0 x1 x2 x3 x4 x5 x6 y7 y8 y9 x10 y11 x12 x13 x14 x15 x16 x17 x18 x19 x20 x21 f0 f1 f2 f3 f4 f5 f6 f7 f8 f9 f10 f11 f12 f13 f14 f15 f16 f17 f18 f19 f20 f21 fL fN fP fM fO) t.heap ∧ va_K (dC, dI) vwCl (mT kc) t ∧ va_D (va_A (mW ad kc x0 x1 x2 x3 x4 x5 x6 x7 x8 x9 x10 x11 x12 x13 x14 x15 x16 x17 x18 x19 x20 x21 f0 f1 f2 f3 f4 f5 f6 f7 f8 f9 f10 f11 f12 f13 f14 f15 f16 f17 f18 f19 f20 f21 fL fN fP fM fO) sz) (mW ad kc x0 x1 x2 x3 x4 x5 x6 y7 y8 y9 x10 y11 x12 x13 x14 x15 x16 x17 x18 x19 x20 x21 f0 f1 f2 f3 f4 f5 f6 f7 f8 f9 f10 f11 f12 f13 f14 f15 f16 f17 f18 f19 f20 f21 fL fN fP fM fO)) (va_A (mW ad kc x0 x1 x2 x3 x4 x5 x6 x7 x8 x9 x10 x11 x12 x13 x14 x15 x16 x17 x18 x19 x20 x21 f0 f1 f2 f3 f4 f5 f6 f7 f8 f9 f10 f11 f12 f13 f14 f15 f16 f17 f18 f19 f20 f21 fL fN fP fM fO) sz)) 0 0 (va_A (mW ad kc x0 x1 x2 x3 x4 x5 x6 x7 x8 x9 x10 x11 x12 x13 x14 x15 x16 x17 x18 x19 x20 x21 f0 f1 f2 f3 f4 f5 f6 f7 f8 f9 f10 f11 f12 f13 f14 f15 f16 f17 f18 f19 f20 f21 fL fN fP fM fO) sz) := by
  refine Met.ofW (cc := cX10_isAtomAt) (maxL := 3) (ret := (some .boolean)) (by decide +kernel) rfl ?_
  intro p e s m args below meth c s₁ B hml hv
  obtain ⟨rfl, hsz, hP, hK, hD0⟩ := hv
  have hx := B.exec
  have hb := B.bytes
  have hr := B.returns
  have hts := atoms_spec (ws := mwX10_isAtomAtmd0) B.pre
  have hown : s.vm.findClass RX10 = some m.cls := findClass_of_methodNamed B.named
  have hlocks := B.notSynchronized
  subst hsz
  have hD := hD0.self (sz := s.heap.size)
  generalize hAe : va_A (mW ad kc x0 x1 x2 x3 x4 x5 x6 x7 x8 x9 x10 x11 x12 x13 x14 x15 x16 x17 x18 x19 x20 x21 f0 f1 f2 f3 f4 f5 f6 f7 f8 f9 f10 f11 f12 f13 f14 f15 f16 f17 f18 f19 f20 f21 fL fN fP fM fO) s.heap.size = A at hD ⊢
  have hA : ∀ q : Nat, s.heap.size ≤ q → A q := fun q h => by rw [← hAe]; exact Or.inr h
  have hP : va_P (dC, dI) vwCl (mW ad kc x0 x1 x2 x3 x4 x5 x6 x7 x8 x9 x10 x11 x12 x13 x14 x15 x16 x17 x18 x19 x20 x21 f0 f1 f2 f3 f4 f5 f6 f7 f8 f9 f10 f11 f12 f13 f14 f15 f16 f17 f18 f19 f20 f21 fL fN fP fM fO) s.heap := hP
  have hD : va_D A (mW ad kc x0 x1 x2 x3 x4 x5 x6 x7 x8 x9 x10 x11 x12 x13 x14 x15 x16 x17 x18 x19 x20 x21 f0 f1 f2 f3 f4 f5 f6 f7 f8 f9 f10 f11 f12 f13 f14 f15 f16 f17 f18 f19 f20 f21 fL fN fP fM fO) := hD
  have hK : va_K (dC, dI) vwCl (mT kc) s := hK
  generalize hH : s.heap = H at hP ⊢
  have hS : va_S A s.heap H [] := by rw [← hH]; exact va_S.rf
  have hl := lv_entry ([.ref (ad 0), .int i1]) (n := 3) (Nat.le_of_ble_eq_true rfl)
  rw [lg_entry_eq]
  generalize (lg_sl ([.ref (ad 0), .int i1]) ++ List.replicate (3 - (lg_sl ([.ref (ad 0), .int i1])).length) Slot.unset).toArray = ls at hl ⊢
  have hl : lv_has ls 3 [(0, .ref (ad 0)), (1, .int i1)] := hl
  have rg_i1 := i_rng i1
  unfold isAt at q6
  refine lv_aload_n hx hb dX10_isAtomAt_0 rfl (lv_at hl 0 rfl) ?_
  refine lv_aload_n hx hb dX10_isAtomAt_1 rfl (lv_at hl 0 rfl) ?_
  refine va_get (D := (dC, dI)) (ci := 10) (v := .int x7) (C := RX10) (T := TX10) (N := 48) hx hb hts fin_X10_isAtomAtmd0_X10 hown hK hP 0 rfl rfl 10 (by decide) (hts (.fieldLink RX10 130 "PatternGateModel" "end" "I") (List.mem_of_getElem? (i := 1) (by decide +kernel))) (fun _ h9 => h9) rfl dX10_isAtomAt_2 ?_
  refine vp_callSi (W.runV (As := [.int x7]) (rest := []) ⟨hx, hb, hml, hown, hts⟩ (m_byteAt l dC dI ad kc x0 x1 x2 x3 x4 x5 x6 x7 x8 x9 x10 x11 x12 x13 x14 x15 x16 x17 x18 x19 x20 x21 f0 f1 f2 f3 f4 f5 f6 f7 f8 f9 f10 f11 f12 f13 f14 f15 f16 f17 f18 f19 f20 f21 fL fN fP fM fO x7 (by first | omega | assumption | decide | (have l0 := Int32.toInt_zero; omega)) (by first | omega | assumption | decide | (have l0 := Int32.toInt_zero; omega))) (cwV 1 hts mg_X10_isAtomAtmd0_X10_byteAt_133 rfl rfl rfl (by decide +kernel) ⟨Nat.le_of_ble_eq_true rfl, Nat.le_of_ble_eq_true rfl⟩) ⟨fun a U g mk q => by obtain ⟨q0, qP, qK⟩ := q; exact ⟨q0, qP, va_K.moved (u := U) (U := U.calling g mk a) (Vm.Alike.refl U.vm) qK⟩, va_recv hK hP (ci := 10) (q0 := 0) rfl rfl, fun U hU hW => ⟨rfl, by rw [hU]; exact hP, va_K.moved hW.alike hK⟩⟩ rfl rfl hl.1 rfl (lv_room (Nat.le_of_ble_eq_true rfl)) dX10_isAtomAt_5 ⟨Nat.le_of_ble_eq_true rfl, Nat.le_of_ble_eq_true rfl⟩) (fun r_1 hr_1 => ?_)
  have rg_r_1 := i_rng r_1
  refine lv_istore_n (lv' := [(2, .int r_1), (0, .ref (ad 0)), (1, .int i1)]) hx hb dX10_isAtomAt_8 rfl hl (by decide) rfl (fun ls hl => ?_)
  refine lv_iload_n hx hb dX10_isAtomAt_9 rfl (lv_at hl 0 rfl) ?_
  refine lv_bipush (v := 40) hx hb dX10_isAtomAt_10 (by decide) ?_
  refine lv_icmp_ne (tgt := 87) hx hb dX10_isAtomAt_12 (by decide) (fun k_2 => ?_) (fun k_2 => ?_)
  · have tk_2 := c_ne (a := r_1.toInt) (b := 40) rfl (by decide) k_2
    refine lv_aload_n hx hb dX10_isAtomAt_87 rfl (lv_at hl 1 rfl) ?_
    refine va_get (D := (dC, dI)) (ci := 10) (v := .int x11) (C := RX10) (T := TX10) (N := 48) hx hb hts fin_X10_isAtomAtmd0_X10 hown hK hP 0 rfl rfl 14 (by decide) (hts (.fieldLink RX10 151 "PatternGateModel" "spots" "I") (List.mem_of_getElem? (i := 9) (by decide +kernel))) (fun _ h9 => h9) rfl dX10_isAtomAt_88 ?_
    refine lv_bipush (v := 24) hx hb dX10_isAtomAt_91 (by decide) ?_
    refine lv_icmp_ne (tgt := 106) hx hb dX10_isAtomAt_93 (by decide) (fun k_3 => ?_) (fun k_3 => ?_)
    · have tk_3 := c_ne (a := x11.toInt) (b := 24) rfl (by decide) k_3
      refine lv_aload_n hx hb dX10_isAtomAt_106 rfl (lv_at hl 1 rfl) ?_
      refine lv_dup hx hb dX10_isAtomAt_107 rfl ?_
      refine va_get (D := (dC, dI)) (ci := 10) (v := .int x11) (C := RX10) (T := TX10) (N := 48) hx hb hts fin_X10_isAtomAtmd0_X10 hown hK hP 0 rfl rfl 14 (by decide) (hts (.fieldLink RX10 151 "PatternGateModel" "spots" "I") (List.mem_of_getElem? (i := 9) (by decide +kernel))) (fun _ h9 => h9) rfl dX10_isAtomAt_108 ?_
      refine lv_iconst (v := 1) hx hb dX10_isAtomAt_111 (by decide) ?_
      refine lv_iadd hx hb dX10_isAtomAt_112 ?_
      refine lv_topi (fun y_4 ey_4 => ?_)
      first | have ty_4 := i_add (a := x11.toInt) (b := 1) rfl (by decide) ey_4 (by omega) (by omega) | skip
      refine va_put (D := (dC, dI)) (ci := 10) (v := .int y_4) (ty := .int) (C := RX10) (T := TX10) (N := 48) hx hb hts fin_X10_isAtomAtmd0_X10 tyX10 tyX10_ok nmX10 hown hK hP hD hS 0 rfl rfl 14 (by decide) (hts (.fieldLink RX10 151 "PatternGateModel" "spots" "I") (List.mem_of_getElem? (i := 9) (by decide +kernel))) (fun _ h9 => h9) rfl (by decide +kernel) rfl rfl (Nat.le_of_ble_eq_true rfl) dX10_isAtomAt_113 (fun H locs hP hD hS => ?_)
      have hP : va_P (dC, dI) vwCl (mW ad kc x0 x1 x2 x3 x4 x5 x6 x7 x8 x9 x10 y_4 x12 x13 x14 x15 x16 x17 x18 x19 x20 x21 f0 f1 f2 f3 f4 f5 f6 f7 f8 f9 f10 f11 f12 f13 f14 f15 f16 f17 f18 f19 f20 f21 fL fN fP fM fO) H := hP
      have hD : va_D A (mW ad kc x0 x1 x2 x3 x4 x5 x6 x7 x8 x9 x10 y_4 x12 x13 x14 x15 x16 x17 x18 x19 x20 x21 f0 f1 f2 f3 f4 f5 f6 f7 f8 f9 f10 f11 f12 f13 f14 f15 f16 f17 f18 f19 f20 f21 fL fN fP fM fO) := hD
      refine lv_aload_n hx hb dX10_isAtomAt_116 rfl (lv_at hl 1 rfl) ?_
      refine lv_dup hx hb dX10_isAtomAt_117 rfl ?_
      refine va_get (D := (dC, dI)) (ci := 10) (v := .int x7) (C := RX10) (T := TX10) (N := 48) hx hb hts fin_X10_isAtomAtmd0_X10 hown hK hP 0 rfl rfl 10 (by decide) (hts (.fieldLink RX10 130 "PatternGateModel" "end" "I") (List.mem_of_getElem? (i := 1) (by decide +kernel))) (fun _ h9 => h9) rfl dX10_isAtomAt_118 ?_
      refine lv_iconst (v := 1) hx hb dX10_isAtomAt_121 (by decide) ?_
      refine lv_iadd hx hb dX10_isAtomAt_122 ?_
      refine lv_topi (fun y_5 ey_5 => ?_)
      first | have ty_5 := i_add (a := x7.toInt) (b := 1) rfl (by decide) ey_5 (by omega) (by omega) | skip
      refine va_put (D := (dC, dI)) (ci := 10) (v := .int y_5) (ty := .int) (C := RX10) (T := TX10) (N := 48) hx hb hts fin_X10_isAtomAtmd0_X10 tyX10 tyX10_ok nmX10 hown hK hP hD hS 0 rfl rfl 10 (by decide) (hts (.fieldLink RX10 130 "PatternGateModel" "end" "I") (List.mem_of_getElem? (i := 1) (by decide +kernel))) (fun _ h9 => h9) rfl (by decide +kernel) rfl rfl (Nat.le_of_ble_eq_true rfl) dX10_isAtomAt_123 (fun H locs hP hD hS => ?_)
      have hP : va_P (dC, dI) vwCl (mW ad kc x0 x1 x2 x3 x4 x5 x6 y_5 x8 x9 x10 y_4 x12 x13 x14 x15 x16 x17 x18 x19 x20 x21 f0 f1 f2 f3 f4 f5 f6 f7 f8 f9 f10 f11 f12 f13 f14 f15 f16 f17 f18 f19 f20 f21 fL fN fP fM fO) H := hP
      have hD : va_D A (mW ad kc x0 x1 x2 x3 x4 x5 x6 y_5 x8 x9 x10 y_4 x12 x13 x14 x15 x16 x17 x18 x19 x20 x21 f0 f1 f2 f3 f4 f5 f6 f7 f8 f9 f10 f11 f12 f13 f14 f15 f16 f17 f18 f19 f20 f21 fL fN fP fM fO) := hD
      refine lv_iload_n hx hb dX10_isAtomAt_126 rfl (lv_at hl 0 rfl) ?_
      refine lv_bipush (v := 91) hx hb dX10_isAtomAt_127 (by decide) ?_
      refine lv_icmp_ne (tgt := 139) hx hb dX10_isAtomAt_129 (by decide) (fun k_6 => ?_) (fun k_6 => ?_)
      · have tk_6 := c_ne (a := r_1.toInt) (b := 91) rfl (by decide) k_6
        refine lv_iconst (v := 1) hx hb dX10_isAtomAt_139 (by decide) ?_
        refine lv_goto (tgt := 144) hx hb dX10_isAtomAt_140 (by decide) ?_
        have lit_6 : (1 : Int32).toInt = 1 := by decide
        exact W.zret hx hb hr (z_nar (by first | assumption | decide | exact z_of (by omega))) (fun t ht hW => ⟨⟨_, _, rfl, rfl, y_5, x8, x9, y_4, (by first | omega | assumption | rfl | decide), (by first | omega | assumption | rfl | decide), (by first | omega | assumption | rfl | decide), (by first | omega | assumption | rfl | decide), (Or.inl ⟨by decide, ⟨Or.inl ⟨by unfold isSm; omega, by omega, by omega⟩, by omega, by omega⟩⟩), by rw [ht]; exact hP, va_K.moved hW.alike hK, hD⟩, hS.F ht⟩) hS.2.2 dX10_isAtomAt_144
      · have tk_6 := c_eq (a := r_1.toInt) (b := 91) rfl (by decide) k_6
        refine lv_aload_n hx hb dX10_isAtomAt_132 rfl (lv_at hl 1 rfl) ?_
        have hFc := m_free hD hS hA
        refine va_calli (va_runV (As := []) (rest := []) ⟨hx, hb, hml, hown, hts⟩ (m_isSetAt l dC dI ad kc x0 x1 x2 x3 x4 x5 x6 y_5 x8 x9 x10 y_4 x12 x13 x14 x15 x16 x17 x18 x19 x20 x21 f0 f1 f2 f3 f4 f5 f6 f7 f8 f9 f10 f11 f12 f13 f14 f15 f16 f17 f18 f19 f20 f21 fL fN fP fM fO H.size (by first | omega | assumption | decide | (have l0 := Int32.toInt_zero; omega)) (by first | omega | assumption | decide | (have l0 := Int32.toInt_zero; omega)) (by first | omega | assumption | decide | (have l0 := Int32.toInt_zero; omega))) (cwV 0 hts mg_X10_isAtomAtmd0_X10_isSetAt_166 rfl rfl rfl (by decide +kernel) ⟨Nat.le_of_ble_eq_true rfl, Nat.le_of_ble_eq_true rfl⟩) ⟨fun a U g mk q => by obtain ⟨q0, q1, qP, qK, qD⟩ := q; exact ⟨q0, q1, qP, va_K.moved (u := U) (U := U.calling g mk a) (Vm.Alike.refl U.vm) qK, qD⟩, va_recv hK hP (ci := 10) (q0 := 0) rfl rfl, fun U hU hW => ⟨rfl, by rw [hU], by rw [hU]; exact hP, va_K.moved hW.alike hK, hD.weaken (fun _ _ _ _ => trivial)⟩⟩ rfl rfl hl.1 rfl (lv_room (Nat.le_of_ble_eq_true rfl)) dX10_isAtomAt_133 ⟨Nat.le_of_ble_eq_true rfl, Nat.le_of_ble_eq_true rfl⟩) hS (fun q _ h => hFc q h) hFc (fun r_8 u t H1 locs ht hvm hw hB hz1 hk1 hS => ?_)
        subst hw
        obtain ⟨x_9, x_10, x_11, hr_8_0, hr_8_1, hr_8_2, hP, hK1, hD1⟩ := hB
        rw [ht] at hP
        have hD := hD1.weaken (fun k q _ h => hFc q.1 h)
        generalize H1 = H at hP hS ⊢
        have rg_x_9 := i_rng x_9
        have rg_x_10 := i_rng x_10
        have rg_x_11 := i_rng x_11
        have rg_r_8 := i_rng r_8
        have hP : va_P (dC, dI) vwCl (mW ad kc x0 x1 x2 x3 x4 x5 x6 x_9 x_10 x_11 x10 y_4 x12 x13 x14 x15 x16 x17 x18 x19 x20 x21 f0 f1 f2 f3 f4 f5 f6 f7 f8 f9 f10 f11 f12 f13 f14 f15 f16 f17 f18 f19 f20 f21 fL fN fP fM fO) H := hP
        have hD : va_D A (mW ad kc x0 x1 x2 x3 x4 x5 x6 x_9 x_10 x_11 x10 y_4 x12 x13 x14 x15 x16 x17 x18 x19 x20 x21 f0 f1 f2 f3 f4 f5 f6 f7 f8 f9 f10 f11 f12 f13 f14 f15 f16 f17 f18 f19 f20 f21 fL fN fP fM fO) := hD
        refine lv_if_eq (tgt := 143) hx hb dX10_isAtomAt_136 (by decide) (fun k_12 => ?_) (fun k_12 => ?_)
        · have tk_12 := c_eq (a := r_8.toInt) (b := 0) rfl (by decide) k_12
          refine lv_iconst (v := 0) hx hb dX10_isAtomAt_143 (by decide) ?_
          have lit_12 : (0 : Int32).toInt = 0 := by decide
          exact W.zret hx hb hr (z_nar (by first | assumption | decide | exact z_of (by omega))) (fun t ht hW => ⟨⟨_, _, rfl, rfl, x_9, x_10, x_11, y_4, (by first | omega | assumption | rfl | decide), (by first | omega | assumption | rfl | decide), (by first | omega | assumption | rfl | decide), (by first | omega | assumption | rfl | decide), (Or.inr (by first | omega | decide)), by rw [ht]; exact hP, va_K.moved hW.alike hK, hD⟩, hS.F ht⟩) hS.2.2 dX10_isAtomAt_144
        · have tk_12 := c_ne (a := r_8.toInt) (b := 0) rfl (by decide) k_12
          have hT := tf_t hr_8_2 (by omega)
          refine lv_iconst (v := 1) hx hb dX10_isAtomAt_139 (by decide) ?_
          refine lv_goto (tgt := 144) hx hb dX10_isAtomAt_140 (by decide) ?_
          have lit_13 : (1 : Int32).toInt = 1 := by decide
          exact W.zret hx hb hr (z_nar (by first | assumption | decide | exact z_of (by omega))) (fun t ht hW => ⟨⟨_, _, rfl, rfl, x_9, x_10, x_11, y_4, (by first | omega | assumption | rfl | decide), (by first | omega | assumption | rfl | decide), (by first | omega | assumption | rfl | decide), (by first | omega | assumption | rfl | decide), (Or.inl ⟨by decide, ⟨Or.inr (Or.inl ⟨by omega, by rw [← show y_5.toInt = x7.toInt + 1 by omega]; exact hT.1, by omega⟩), by omega, by omega⟩⟩), by rw [ht]; exact hP, va_K.moved hW.alike hK, hD⟩, hS.F ht⟩) hS.2.2 dX10_isAtomAt_144
    · have tk_3 := c_eq (a := x11.toInt) (b := 24) rfl (by decide) k_3
      refine lv_aload_n hx hb dX10_isAtomAt_96 rfl (lv_at hl 1 rfl) ?_
      refine lv_iconst (v := 4) hx hb dX10_isAtomAt_97 (by decide) ?_
      refine lv_aload_n hx hb dX10_isAtomAt_98 rfl (lv_at hl 1 rfl) ?_
      refine va_get (D := (dC, dI)) (ci := 10) (v := .int x7) (C := RX10) (T := TX10) (N := 48) hx hb hts fin_X10_isAtomAtmd0_X10 hown hK hP 0 rfl rfl 10 (by decide) (hts (.fieldLink RX10 130 "PatternGateModel" "end" "I") (List.mem_of_getElem? (i := 1) (by decide +kernel))) (fun _ h9 => h9) rfl dX10_isAtomAt_99 ?_
      have hFc := m_free hD hS hA
      refine va_calli (va_runV (As := [.int 4, .int x7]) (rest := []) ⟨hx, hb, hml, hown, hts⟩ (m_failsAt l dC dI ad kc x0 x1 x2 x3 x4 x5 x6 x7 x8 x9 x10 x11 x12 x13 x14 x15 x16 x17 x18 x19 x20 x21 f0 f1 f2 f3 f4 f5 f6 f7 f8 f9 f10 f11 f12 f13 f14 f15 f16 f17 f18 f19 f20 f21 fL fN fP fM fO H.size 4 x7 ) (cwV 2 hts mg_X10_isAtomAtmd0_X10_failsAt_126 rfl rfl rfl (by decide +kernel) ⟨Nat.le_of_ble_eq_true rfl, Nat.le_of_ble_eq_true rfl⟩) ⟨fun a U g mk q => by obtain ⟨q0, q1, qP, qK, qD⟩ := q; exact ⟨q0, q1, qP, va_K.moved (u := U) (U := U.calling g mk a) (Vm.Alike.refl U.vm) qK, qD⟩, va_recv hK hP (ci := 10) (q0 := 0) rfl rfl, fun U hU hW => ⟨rfl, by rw [hU], by rw [hU]; exact hP, va_K.moved hW.alike hK, hD.weaken (fun _ _ _ _ => trivial)⟩⟩ rfl rfl hl.1 rfl (lv_room (Nat.le_of_ble_eq_true rfl)) dX10_isAtomAt_102 ⟨Nat.le_of_ble_eq_true rfl, Nat.le_of_ble_eq_true rfl⟩) hS (fun q _ h => hFc q h) hFc (fun r_15 u t H1 locs ht hvm hw hB hz1 hk1 hS => ?_)
      subst hw
      obtain ⟨x_16, x_17, hr_15_0, hP, hK1, hD1⟩ := hB
      rw [ht] at hP
      have hD := hD1.weaken (fun k q _ h => hFc q.1 h)
      generalize H1 = H at hP hS ⊢
      have rg_x_16 := i_rng x_16
      have rg_x_17 := i_rng x_17
      have rg_r_15 := i_rng r_15
      have hP : va_P (dC, dI) vwCl (mW ad kc x0 x1 x2 x3 x4 x5 x6 x7 x_16 x_17 x10 x11 x12 x13 x14 x15 x16 x17 x18 x19 x20 x21 f0 f1 f2 f3 f4 f5 f6 f7 f8 f9 f10 f11 f12 f13 f14 f15 f16 f17 f18 f19 f20 f21 fL fN fP fM fO) H := hP
      have hD : va_D A (mW ad kc x0 x1 x2 x3 x4 x5 x6 x7 x_16 x_17 x10 x11 x12 x13 x14 x15 x16 x17 x18 x19 x20 x21 f0 f1 f2 f3 f4 f5 f6 f7 f8 f9 f10 f11 f12 f13 f14 f15 f16 f17 f18 f19 f20 f21 fL fN fP fM fO) := hD
      exact W.zret hx hb hr (z_nar (by first | assumption | decide | exact z_of (by omega))) (fun t ht hW => ⟨⟨_, _, rfl, rfl, x7, x_16, x_17, x11, (by first | omega | assumption | rfl | decide), (by first | omega | assumption | rfl | decide), (by first | omega | assumption | rfl | decide), (by first | omega | assumption | rfl | decide), (Or.inr (by first | omega | decide)), by rw [ht]; exact hP, va_K.moved hW.alike hK, hD⟩, hS.F ht⟩) hS.2.2 dX10_isAtomAt_105
  · have tk_2 := c_eq (a := r_1.toInt) (b := 40) rfl (by decide) k_2
    refine lv_iload_n hx hb dX10_isAtomAt_15 rfl (lv_at hl 2 rfl) ?_
    refine lv_iconst (v := 5) hx hb dX10_isAtomAt_16 (by decide) ?_
    refine lv_icmp_ne (tgt := 30) hx hb dX10_isAtomAt_17 (by decide) (fun k_18 => ?_) (fun k_18 => ?_)
    · have tk_18 := c_ne (a := i1.toInt) (b := 5) rfl (by decide) k_18
      refine lv_aload_n hx hb dX10_isAtomAt_30 rfl (lv_at hl 1 rfl) ?_
      refine lv_dup hx hb dX10_isAtomAt_31 rfl ?_
      refine va_get (D := (dC, dI)) (ci := 10) (v := .int x7) (C := RX10) (T := TX10) (N := 48) hx hb hts fin_X10_isAtomAtmd0_X10 hown hK hP 0 rfl rfl 10 (by decide) (hts (.fieldLink RX10 130 "PatternGateModel" "end" "I") (List.mem_of_getElem? (i := 1) (by decide +kernel))) (fun _ h9 => h9) rfl dX10_isAtomAt_32 ?_
      refine lv_iconst (v := 1) hx hb dX10_isAtomAt_35 (by decide) ?_
      refine lv_iadd hx hb dX10_isAtomAt_36 ?_
      refine lv_topi (fun y_19 ey_19 => ?_)
      first | have ty_19 := i_add (a := x7.toInt) (b := 1) rfl (by decide) ey_19 (by omega) (by omega) | skip
      refine va_put (D := (dC, dI)) (ci := 10) (v := .int y_19) (ty := .int) (C := RX10) (T := TX10) (N := 48) hx hb hts fin_X10_isAtomAtmd0_X10 tyX10 tyX10_ok nmX10 hown hK hP hD hS 0 rfl rfl 10 (by decide) (hts (.fieldLink RX10 130 "PatternGateModel" "end" "I") (List.mem_of_getElem? (i := 1) (by decide +kernel))) (fun _ h9 => h9) rfl (by decide +kernel) rfl rfl (Nat.le_of_ble_eq_true rfl) dX10_isAtomAt_37 (fun H locs hP hD hS => ?_)
      have hP : va_P (dC, dI) vwCl (mW ad kc x0 x1 x2 x3 x4 x5 x6 y_19 x8 x9 x10 x11 x12 x13 x14 x15 x16 x17 x18 x19 x20 x21 f0 f1 f2 f3 f4 f5 f6 f7 f8 f9 f10 f11 f12 f13 f14 f15 f16 f17 f18 f19 f20 f21 fL fN fP fM fO) H := hP
      have hD : va_D A (mW ad kc x0 x1 x2 x3 x4 x5 x6 y_19 x8 x9 x10 x11 x12 x13 x14 x15 x16 x17 x18 x19 x20 x21 f0 f1 f2 f3 f4 f5 f6 f7 f8 f9 f10 f11 f12 f13 f14 f15 f16 f17 f18 f19 f20 f21 fL fN fP fM fO) := hD
      refine lv_aload_n hx hb dX10_isAtomAt_40 rfl (lv_at hl 1 rfl) ?_
      refine lv_iload_n hx hb dX10_isAtomAt_41 rfl (lv_at hl 2 rfl) ?_
      refine lv_iconst (v := 1) hx hb dX10_isAtomAt_42 (by decide) ?_
      refine lv_iadd hx hb dX10_isAtomAt_43 ?_
      refine lv_topi (fun y_20 ey_20 => ?_)
      first | have ty_20 := i_add (a := i1.toInt) (b := 1) rfl (by decide) ey_20 (by omega) (by omega) | skip
      have hFc := m_free hD hS hA
      refine va_calli (va_runV (As := [.int y_20]) (rest := []) ⟨hx, hb, hml, hown, hts⟩ (m_isPatternAt1 l dC dI ad kc x0 x1 x2 x3 x4 x5 x6 y_19 x8 x9 x10 x11 x12 x13 x14 x15 x16 x17 x18 x19 x20 x21 f0 f1 f2 f3 f4 f5 f6 f7 f8 f9 f10 f11 f12 f13 f14 f15 f16 f17 f18 f19 f20 f21 fL fN fP fM fO H.size y_20 (by first | omega | assumption | decide | (have l0 := Int32.toInt_zero; omega)) (by first | omega | assumption | decide | (have l0 := Int32.toInt_zero; omega)) (by first | omega | assumption | decide | (have l0 := Int32.toInt_zero; omega)) (by first | omega | assumption | decide | (have l0 := Int32.toInt_zero; omega)) (by first | omega | assumption | decide | (have l0 := Int32.toInt_zero; omega)) (by first | omega | assumption | decide | (have l0 := Int32.toInt_zero; omega))) (cwV 1 hts mg_X10_isAtomAtmd0_X10_isPatternAt_154 rfl rfl rfl (by decide +kernel) ⟨Nat.le_of_ble_eq_true rfl, Nat.le_of_ble_eq_true rfl⟩) ⟨fun a U g mk q => by obtain ⟨q0, q1, qP, qK, qD⟩ := q; exact ⟨q0, q1, qP, va_K.moved (u := U) (U := U.calling g mk a) (Vm.Alike.refl U.vm) qK, qD⟩, va_recv hK hP (ci := 10) (q0 := 0) rfl rfl, fun U hU hW => ⟨rfl, by rw [hU], by rw [hU]; exact hP, va_K.moved hW.alike hK, hD.weaken (fun _ _ _ _ => trivial)⟩⟩ rfl rfl hl.1 rfl (lv_room (Nat.le_of_ble_eq_true rfl)) dX10_isAtomAt_44 ⟨Nat.le_of_ble_eq_true rfl, Nat.le_of_ble_eq_true rfl⟩) hS (fun q _ h => hFc q h) hFc (fun r_21 u t H1 locs ht hvm hw hB hz1 hk1 hS => ?_)
      subst hw
      obtain ⟨x_22, x_23, x_24, x_25, hr_21_0, hr_21_1, hr_21_2, hr_21_3, hr_21_4, hP, hK1, hD1⟩ := hB
      rw [ht] at hP
      have hD := hD1.weaken (fun k q _ h => hFc q.1 h)
      generalize H1 = H at hP hS ⊢
      have rg_x_22 := i_rng x_22
      have rg_x_23 := i_rng x_23
      have rg_x_24 := i_rng x_24
      have rg_x_25 := i_rng x_25
      have rg_r_21 := i_rng r_21
      have hP : va_P (dC, dI) vwCl (mW ad kc x0 x1 x2 x3 x4 x5 x6 x_22 x_23 x_24 x10 x_25 x12 x13 x14 x15 x16 x17 x18 x19 x20 x21 f0 f1 f2 f3 f4 f5 f6 f7 f8 f9 f10 f11 f12 f13 f14 f15 f16 f17 f18 f19 f20 f21 fL fN fP fM fO) H := hP
      have hD : va_D A (mW ad kc x0 x1 x2 x3 x4 x5 x6 x_22 x_23 x_24 x10 x_25 x12 x13 x14 x15 x16 x17 x18 x19 x20 x21 f0 f1 f2 f3 f4 f5 f6 f7 f8 f9 f10 f11 f12 f13 f14 f15 f16 f17 f18 f19 f20 f21 fL fN fP fM fO) := hD
      refine lv_if_ne (tgt := 52) hx hb dX10_isAtomAt_47 (by decide) (fun k_26 => ?_) (fun k_26 => ?_)
      · have tk_26 := c_ne (a := r_21.toInt) (b := 0) rfl (by decide) k_26
        have hT := tf_t hr_21_4 (by omega)
        refine lv_aload_n hx hb dX10_isAtomAt_52 rfl (lv_at hl 1 rfl) ?_
        refine lv_aload_n hx hb dX10_isAtomAt_53 rfl (lv_at hl 1 rfl) ?_
        refine va_get (D := (dC, dI)) (ci := 10) (v := .int x_22) (C := RX10) (T := TX10) (N := 48) hx hb hts fin_X10_isAtomAtmd0_X10 hown hK hP 0 rfl rfl 10 (by decide) (hts (.fieldLink RX10 130 "PatternGateModel" "end" "I") (List.mem_of_getElem? (i := 1) (by decide +kernel))) (fun _ h9 => h9) rfl dX10_isAtomAt_54 ?_
        refine vp_callSi (W.runV (As := [.int x_22]) (rest := []) ⟨hx, hb, hml, hown, hts⟩ (m_byteAt l dC dI ad kc x0 x1 x2 x3 x4 x5 x6 x_22 x_23 x_24 x10 x_25 x12 x13 x14 x15 x16 x17 x18 x19 x20 x21 f0 f1 f2 f3 f4 f5 f6 f7 f8 f9 f10 f11 f12 f13 f14 f15 f16 f17 f18 f19 f20 f21 fL fN fP fM fO x_22 (by first | omega | assumption | decide | (have l0 := Int32.toInt_zero; omega)) (by first | omega | assumption | decide | (have l0 := Int32.toInt_zero; omega))) (cwV 1 hts mg_X10_isAtomAtmd0_X10_byteAt_133 rfl rfl rfl (by decide +kernel) ⟨Nat.le_of_ble_eq_true rfl, Nat.le_of_ble_eq_true rfl⟩) ⟨fun a U g mk q => by obtain ⟨q0, qP, qK⟩ := q; exact ⟨q0, qP, va_K.moved (u := U) (U := U.calling g mk a) (Vm.Alike.refl U.vm) qK⟩, va_recv hK hP (ci := 10) (q0 := 0) rfl rfl, fun U hU hW => ⟨rfl, by rw [hU]; exact hP, va_K.moved hW.alike hK⟩⟩ rfl rfl hl.1 rfl (lv_room (Nat.le_of_ble_eq_true rfl)) dX10_isAtomAt_57 ⟨Nat.le_of_ble_eq_true rfl, Nat.le_of_ble_eq_true rfl⟩) (fun r_27 hr_27 => ?_)
        have rg_r_27 := i_rng r_27
        refine lv_bipush (v := 41) hx hb dX10_isAtomAt_60 (by decide) ?_
        refine lv_icmp_eq (tgt := 75) hx hb dX10_isAtomAt_62 (by decide) (fun k_28 => ?_) (fun k_28 => ?_)
        · have tk_28 := c_eq (a := r_27.toInt) (b := 41) rfl (by decide) k_28
          refine lv_aload_n hx hb dX10_isAtomAt_75 rfl (lv_at hl 1 rfl) ?_
          refine lv_dup hx hb dX10_isAtomAt_76 rfl ?_
          refine va_get (D := (dC, dI)) (ci := 10) (v := .int x_22) (C := RX10) (T := TX10) (N := 48) hx hb hts fin_X10_isAtomAtmd0_X10 hown hK hP 0 rfl rfl 10 (by decide) (hts (.fieldLink RX10 130 "PatternGateModel" "end" "I") (List.mem_of_getElem? (i := 1) (by decide +kernel))) (fun _ h9 => h9) rfl dX10_isAtomAt_77 ?_
          refine lv_iconst (v := 1) hx hb dX10_isAtomAt_80 (by decide) ?_
          refine lv_iadd hx hb dX10_isAtomAt_81 ?_
          refine lv_topi (fun y_29 ey_29 => ?_)
          first | have ty_29 := i_add (a := x_22.toInt) (b := 1) rfl (by decide) ey_29 (by omega) (by omega) | skip
          refine va_put (D := (dC, dI)) (ci := 10) (v := .int y_29) (ty := .int) (C := RX10) (T := TX10) (N := 48) hx hb hts fin_X10_isAtomAtmd0_X10 tyX10 tyX10_ok nmX10 hown hK hP hD hS 0 rfl rfl 10 (by decide) (hts (.fieldLink RX10 130 "PatternGateModel" "end" "I") (List.mem_of_getElem? (i := 1) (by decide +kernel))) (fun _ h9 => h9) rfl (by decide +kernel) rfl rfl (Nat.le_of_ble_eq_true rfl) dX10_isAtomAt_82 (fun H locs hP hD hS => ?_)
          have hP : va_P (dC, dI) vwCl (mW ad kc x0 x1 x2 x3 x4 x5 x6 y_29 x_23 x_24 x10 x_25 x12 x13 x14 x15 x16 x17 x18 x19 x20 x21 f0 f1 f2 f3 f4 f5 f6 f7 f8 f9 f10 f11 f12 f13 f14 f15 f16 f17 f18 f19 f20 f21 fL fN fP fM fO) H := hP
          have hD : va_D A (mW ad kc x0 x1 x2 x3 x4 x5 x6 y_29 x_23 x_24 x10 x_25 x12 x13 x14 x15 x16 x17 x18 x19 x20 x21 f0 f1 f2 f3 f4 f5 f6 f7 f8 f9 f10 f11 f12 f13 f14 f15 f16 f17 f18 f19 f20 f21 fL fN fP fM fO) := hD
          refine lv_iconst (v := 1) hx hb dX10_isAtomAt_85 (by decide) ?_
          have lit_29 : (1 : Int32).toInt = 1 := by decide
          exact W.zret hx hb hr (z_nar (by first | assumption | decide | exact z_of (by omega))) (fun t ht hW => ⟨⟨_, _, rfl, rfl, y_29, x_23, x_24, x_25, (by first | omega | assumption | rfl | decide), (by first | omega | assumption | rfl | decide), (by first | omega | assumption | rfl | decide), (by first | omega | assumption | rfl | decide), (Or.inl ⟨by decide, ⟨Or.inr (Or.inr ⟨by omega, by rw [show y_29.toInt - 1 = x_22.toInt by omega, ← show y_19.toInt = x7.toInt + 1 by omega]; exact hT.1, by rw [show y_29.toInt - 1 = x_22.toInt by omega]; omega⟩), by omega, by omega⟩⟩), by rw [ht]; exact hP, va_K.moved hW.alike hK, hD⟩, hS.F ht⟩) hS.2.2 dX10_isAtomAt_86
        · have tk_28 := c_ne (a := r_27.toInt) (b := 41) rfl (by decide) k_28
          refine lv_aload_n hx hb dX10_isAtomAt_65 rfl (lv_at hl 1 rfl) ?_
          refine lv_iconst (v := 1) hx hb dX10_isAtomAt_66 (by decide) ?_
          refine lv_aload_n hx hb dX10_isAtomAt_67 rfl (lv_at hl 1 rfl) ?_
          refine va_get (D := (dC, dI)) (ci := 10) (v := .int x_22) (C := RX10) (T := TX10) (N := 48) hx hb hts fin_X10_isAtomAtmd0_X10 hown hK hP 0 rfl rfl 10 (by decide) (hts (.fieldLink RX10 130 "PatternGateModel" "end" "I") (List.mem_of_getElem? (i := 1) (by decide +kernel))) (fun _ h9 => h9) rfl dX10_isAtomAt_68 ?_
          have hFc := m_free hD hS hA
          refine va_calli (va_runV (As := [.int 1, .int x_22]) (rest := []) ⟨hx, hb, hml, hown, hts⟩ (m_failsAt l dC dI ad kc x0 x1 x2 x3 x4 x5 x6 x_22 x_23 x_24 x10 x_25 x12 x13 x14 x15 x16 x17 x18 x19 x20 x21 f0 f1 f2 f3 f4 f5 f6 f7 f8 f9 f10 f11 f12 f13 f14 f15 f16 f17 f18 f19 f20 f21 fL fN fP fM fO H.size 1 x_22 ) (cwV 2 hts mg_X10_isAtomAtmd0_X10_failsAt_126 rfl rfl rfl (by decide +kernel) ⟨Nat.le_of_ble_eq_true rfl, Nat.le_of_ble_eq_true rfl⟩) ⟨fun a U g mk q => by obtain ⟨q0, q1, qP, qK, qD⟩ := q; exact ⟨q0, q1, qP, va_K.moved (u := U) (U := U.calling g mk a) (Vm.Alike.refl U.vm) qK, qD⟩, va_recv hK hP (ci := 10) (q0 := 0) rfl rfl, fun U hU hW => ⟨rfl, by rw [hU], by rw [hU]; exact hP, va_K.moved hW.alike hK, hD.weaken (fun _ _ _ _ => trivial)⟩⟩ rfl rfl hl.1 rfl (lv_room (Nat.le_of_ble_eq_true rfl)) dX10_isAtomAt_71 ⟨Nat.le_of_ble_eq_true rfl, Nat.le_of_ble_eq_true rfl⟩) hS (fun q _ h => hFc q h) hFc (fun r_31 u t H1 locs ht hvm hw hB hz1 hk1 hS => ?_)
          subst hw
          obtain ⟨x_32, x_33, hr_31_0, hP, hK1, hD1⟩ := hB
          rw [ht] at hP
          have hD := hD1.weaken (fun k q _ h => hFc q.1 h)
          generalize H1 = H at hP hS ⊢
          have rg_x_32 := i_rng x_32
          have rg_x_33 := i_rng x_33
          have rg_r_31 := i_rng r_31
          have hP : va_P (dC, dI) vwCl (mW ad kc x0 x1 x2 x3 x4 x5 x6 x_22 x_32 x_33 x10 x_25 x12 x13 x14 x15 x16 x17 x18 x19 x20 x21 f0 f1 f2 f3 f4 f5 f6 f7 f8 f9 f10 f11 f12 f13 f14 f15 f16 f17 f18 f19 f20 f21 fL fN fP fM fO) H := hP
          have hD : va_D A (mW ad kc x0 x1 x2 x3 x4 x5 x6 x_22 x_32 x_33 x10 x_25 x12 x13 x14 x15 x16 x17 x18 x19 x20 x21 f0 f1 f2 f3 f4 f5 f6 f7 f8 f9 f10 f11 f12 f13 f14 f15 f16 f17 f18 f19 f20 f21 fL fN fP fM fO) := hD
          exact W.zret hx hb hr (z_nar (by first | assumption | decide | exact z_of (by omega))) (fun t ht hW => ⟨⟨_, _, rfl, rfl, x_22, x_32, x_33, x_25, (by first | omega | assumption | rfl | decide), (by first | omega | assumption | rfl | decide), (by first | omega | assumption | rfl | decide), (by first | omega | assumption | rfl | decide), (Or.inr (by first | omega | decide)), by rw [ht]; exact hP, va_K.moved hW.alike hK, hD⟩, hS.F ht⟩) hS.2.2 dX10_isAtomAt_74
      · have tk_26 := c_eq (a := r_21.toInt) (b := 0) rfl (by decide) k_26
        refine lv_iconst (v := 0) hx hb dX10_isAtomAt_50 (by decide) ?_
        have lit_33 : (0 : Int32).toInt = 0 := by decide
        exact W.zret hx hb hr (z_nar (by first | assumption | decide | exact z_of (by omega))) (fun t ht hW => ⟨⟨_, _, rfl, rfl, x_22, x_23, x_24, x_25, (by first | omega | assumption | rfl | decide), (by first | omega | assumption | rfl | decide), (by first | omega | assumption | rfl | decide), (by first | omega | assumption | rfl | decide), (Or.inr (by first | omega | decide)), by rw [ht]; exact hP, va_K.moved hW.alike hK, hD⟩, hS.F ht⟩) hS.2.2 dX10_isAtomAt_51
    · have tk_18 := c_eq (a := i1.toInt) (b := 5) rfl (by decide) k_18
      refine lv_aload_n hx hb dX10_isAtomAt_20 rfl (lv_at hl 1 rfl) ?_
      refine lv_iconst (v := 4) hx hb dX10_isAtomAt_21 (by decide) ?_
      refine lv_aload_n hx hb dX10_isAtomAt_22 rfl (lv_at hl 1 rfl) ?_
      refine va_get (D := (dC, dI)) (ci := 10) (v := .int x7) (C := RX10) (T := TX10) (N := 48) hx hb hts fin_X10_isAtomAtmd0_X10 hown hK hP 0 rfl rfl 10 (by decide) (hts (.fieldLink RX10 130 "PatternGateModel" "end" "I") (List.mem_of_getElem? (i := 1) (by decide +kernel))) (fun _ h9 => h9) rfl dX10_isAtomAt_23 ?_
      have hFc := m_free hD hS hA
      refine va_calli (va_runV (As := [.int 4, .int x7]) (rest := []) ⟨hx, hb, hml, hown, hts⟩ (m_failsAt l dC dI ad kc x0 x1 x2 x3 x4 x5 x6 x7 x8 x9 x10 x11 x12 x13 x14 x15 x16 x17 x18 x19 x20 x21 f0 f1 f2 f3 f4 f5 f6 f7 f8 f9 f10 f11 f12 f13 f14 f15 f16 f17 f18 f19 f20 f21 fL fN fP fM fO H.size 4 x7 ) (cwV 2 hts mg_X10_isAtomAtmd0_X10_failsAt_126 rfl rfl rfl (by decide +kernel) ⟨Nat.le_of_ble_eq_true rfl, Nat.le_of_ble_eq_true rfl⟩) ⟨fun a U g mk q => by obtain ⟨q0, q1, qP, qK, qD⟩ := q; exact ⟨q0, q1, qP, va_K.moved (u := U) (U := U.calling g mk a) (Vm.Alike.refl U.vm) qK, qD⟩, va_recv hK hP (ci := 10) (q0 := 0) rfl rfl, fun U hU hW => ⟨rfl, by rw [hU], by rw [hU]; exact hP, va_K.moved hW.alike hK, hD.weaken (fun _ _ _ _ => trivial)⟩⟩ rfl rfl hl.1 rfl (lv_room (Nat.le_of_ble_eq_true rfl)) dX10_isAtomAt_26 ⟨Nat.le_of_ble_eq_true rfl, Nat.le_of_ble_eq_true rfl⟩) hS (fun q _ h => hFc q h) hFc (fun r_35 u t H1 locs ht hvm hw hB hz1 hk1 hS => ?_)
      subst hw
      obtain ⟨x_36, x_37, hr_35_0, hP, hK1, hD1⟩ := hB
      rw [ht] at hP
      have hD := hD1.weaken (fun k q _ h => hFc q.1 h)
      generalize H1 = H at hP hS ⊢
      have rg_x_36 := i_rng x_36
      have rg_x_37 := i_rng x_37
      have rg_r_35 := i_rng r_35
      have hP : va_P (dC, dI) vwCl (mW ad kc x0 x1 x2 x3 x4 x5 x6 x7 x_36 x_37 x10 x11 x12 x13 x14 x15 x16 x17 x18 x19 x20 x21 f0 f1 f2 f3 f4 f5 f6 f7 f8 f9 f10 f11 f12 f13 f14 f15 f16 f17 f18 f19 f20 f21 fL fN fP fM fO) H := hP
      have hD : va_D A (mW ad kc x0 x1 x2 x3 x4 x5 x6 x7 x_36 x_37 x10 x11 x12 x13 x14 x15 x16 x17 x18 x19 x20 x21 f0 f1 f2 f3 f4 f5 f6 f7 f8 f9 f10 f11 f12 f13 f14 f15 f16 f17 f18 f19 f20 f21 fL fN fP fM fO) := hD
      exact W.zret hx hb hr (z_nar (by first | assumption | decide | exact z_of (by omega))) (fun t ht hW => ⟨⟨_, _, rfl, rfl, x7, x_36, x_37, x11, (by first | omega | assumption | rfl | decide), (by first | omega | assumption | rfl | decide), (by first | omega | assumption | rfl | decide), (by first | omega | assumption | rfl | decide), (Or.inr (by first | omega | decide)), by rw [ht]; exact hP, va_K.moved hW.alike hK, hD⟩, hS.F ht⟩) hS.2.2 dX10_isAtomAt_29
def mwX10_isBranchAtmd0 : List Cond := .code yX10_isBranchAt cX10_isBranchAt 3 (some .boolean) :: ([.fieldLink RX10 130 "PatternGateModel" "end" "I", .code yX10_byteAt cX10_byteAt 2 (some .int), .fieldLink RX10 114 "PatternGateModel" "size" "I", .fieldLink RX10 18 "PatternGateModel" "text" "[B", .methodLink RX10 133 yX10_byteAt, .instanceMethod yX10_byteAt, .selects RX10 yX10_byteAt yX10_byteAt, .initialized RX10, .code yX10_isAtomSign cX10_isAtomSign 2 (some .boolean), .code yX10_isSmall cX10_isSmall 1 (some .boolean), .methodLink RX10 137 yX10_isSmall, .static yX10_isSmall, .methodLink RX10 160 yX10_isAtomSign, .instanceMethod yX10_isAtomSign, .selects RX10 yX10_isAtomSign yX10_isAtomSign, .code yX10_isAtomAt cX10_isAtomAt 3 (some .boolean), .fieldLink RX10 151 "PatternGateModel" "spots" "I", .code yX10_isSetAt cX10_isSetAt 3 (some .boolean), .code yX10_failsAt cX10_failsAt 3 (some .boolean), .fieldLink RX10 117 "PatternGateModel" "faults" "I", .fieldLink RX10 21 "PatternGateModel" "faultPlace" "I", .methodLink RX10 126 yX10_failsAt, .instanceMethod yX10_failsAt, .selects RX10 yX10_failsAt yX10_failsAt, .code yX10_has cX10_has 2 (some .boolean), .methodLink RX10 170 yX10_has, .static yX10_has, .methodLink RX10 166 yX10_isSetAt, .instanceMethod yX10_isSetAt, .selects RX10 yX10_isSetAt yX10_isSetAt, .code yX10_isPatternAt cX10_isPatternAt 2 (some .boolean), .code yX10_isBranchAt cX10_isBranchAt 3 (some .boolean), .methodLink RX10 163 yX10_isAtomAt, .instanceMethod yX10_isAtomAt, .selects RX10 yX10_isAtomAt yX10_isAtomAt, .methodLink RX10 157 yX10_isBranchAt, .instanceMethod yX10_isBranchAt, .selects RX10 yX10_isBranchAt yX10_isBranchAt, .methodLink RX10 154 yX10_isPatternAt, .instanceMethod yX10_isPatternAt, .selects RX10 yX10_isPatternAt yX10_isPatternAt] ++ wsX100)
theorem fin_X10_isBranchAtmd0_X10 : ∀ w ∈ wsX100, w ∈ mwX10_isBranchAtmd0 := fun w h => List.mem_cons_of_mem _ (List.mem_append_right _ h)
set_option maxRecDepth 20000 in
theorem mg_X10_isBranchAtmd0_X10_byteAt_133 : GoodIn mwX10_isBranchAtmd0 (wsV RX10 133 RX10 yX10_byteAt mwX10_byteAtm) := goodIn_r _ [5, 6, 7, 8, 2, 3, 4, 42, 43, 44, 45, 46, 47, 48, 49, 50, 51, 52, 53, 54, 55, 56, 57, 58, 59, 60, 61, 62, 63, 64, 65, 66, 67, 68, 69, 70, 71, 72, 73, 74, 75, 76, 77, 78, 79, 80, 81, 82, 83, 84, 85, 86, 87, 88, 89] (by decide +kernel) (by decide +kernel)
set_option maxRecDepth 20000 in
theorem mg_X10_isBranchAtmd0_X10_isAtomSign_160 : GoodIn mwX10_isBranchAtmd0 (wsV RX10 160 RX10 yX10_isAtomSign mwX10_isAtomSignm) := goodIn_r _ [13, 14, 15, 8, 9, 10, 11, 12, 8] (by decide +kernel) (by decide +kernel)
set_option maxRecDepth 20000 in
theorem mg_X10_isBranchAtmd0_X10_isAtomAt_163 : GoodIn mwX10_isBranchAtmd0 (wsV RX10 163 RX10 yX10_isAtomAt mwX10_isAtomAtmd0) := goodIn_r _ [33, 34, 35, 8, 16, 1, 2, 3, 4, 5, 6, 7, 8, 17, 18, 10, 11, 12, 19, 20, 21, 22, 23, 24, 25, 26, 27, 28, 29, 30, 31, 0, 9, 13, 14, 15, 16, 33, 34, 35, 36, 37, 38, 39, 40, 41, 42, 43, 44, 45, 46, 47, 48, 49, 50, 51, 52, 53, 54, 55, 56, 57, 58, 59, 60, 61, 62, 63, 64, 65, 66, 67, 68, 69, 70, 71, 72, 73, 74, 75, 76, 77, 78, 79, 80, 81, 82, 83, 84, 85, 86, 87, 88, 89] (by decide +kernel) (by decide +kernel)
set_option maxRecDepth 20000 in
theorem mg_X10_isBranchAtmd0_X10_failsAt_126 : GoodIn mwX10_isBranchAtmd0 (wsV RX10 126 RX10 yX10_failsAt mwX10_failsAtm) := goodIn_r _ [22, 23, 24, 8, 19, 20, 21, 42, 43, 44, 45, 46, 47, 48, 49, 50, 51, 52, 53, 54, 55, 56, 57, 58, 59, 60, 61, 62, 63, 64, 65, 66, 67, 68, 69, 70, 71, 72, 73, 74, 75, 76, 77, 78, 79, 80, 81, 82, 83, 84, 85, 86, 87, 88, 89] (by decide +kernel) (by decide +kernel)
set_option maxHeartbeats 4000000 in
set_option maxRecDepth 100000 in
theorem m_isBranchAt0 (l : Launch) (dC : Nat → ClassId) (dI : Nat → Nat → Nat) (ad : Nat → Nat) (kc : Nat → ClassId) (x0 x1 x2 x3 x4 x5 x6 x7 x8 x9 x10 x11 x12 x13 x14 x15 x16 x17 x18 x19 x20 x21 : Int32) (f0 f1 f2 f3 f4 f5 f6 f7 f8 f9 f10 f11 f12 f13 f14 f15 f16 f17 f18 f19 f20 f21 : Nat → Int32) (fL : Nat → Nat → Int64) (fN : Nat → Nat → Int32) (fP : Nat → Nat → Nat) (fM : Nat → Nat → Int32) (fO : Nat → Nat → Int32) (sz : Nat) (i1 : Int32) (q0 : 0 ≤ x7.toInt) (q1 : x7.toInt ≤ x4.toInt) (q2 : x4.toInt ≤ 900) (q3 : 0 ≤ x11.toInt) (q4 : x11.toInt ≤ 24) (q5 : i1.toInt = 0) : Met l yX10_isBranchAt mwX10_isBranchAtmd0 ({ frames := 18, cells := 0, slots := 0, locals := 1080 }) (va_Pc [.ref (ad 0), .int i1] (fun U => U.heap.size = sz ∧ va_P (dC, dI) vwCl (mW ad kc x0 x1 x2 x3 x4 x5 x6 x7 x8 x9 x10 x11 x12 x13 x14 x15 x16 x17 x18 x19 x20 x21 f0 f1 f2 f3 f4 f5 f6 f7 f8 f9 f10 f11 f12 f13 f14 f15 f16 f17 f18 f19 f20 f21 fL fN fP fM fO) U.heap ∧ va_K (dC, dI) vwCl (mT kc) U ∧ va_D (fun _ => True) (mW ad kc x0 x1 x2 x3 x4 x5 x6 x7 x8 x9 x10 x11 x12 x13 x14 x15 x16 x17 x18 x19 x20 x21 f0 f1 f2 f3 f4 f5 f6 f7 f8 f9 f10 f11 f12 f13 f14 f15 f16 f17 f18 f19 f20 f21 fL fN fP fM fO))) (va_Qi (fun (o9 u9 : Int32) => o9 = u9) (fun (o9 : Int32) t => ∃ (y7 y8 y9 y11 : Int32), (x7.toInt ≤ y7.toInt) ∧ (y7.toInt ≤ x4.toInt) ∧ (x11.toInt ≤ y11.toInt) ∧ (y11.toInt ≤ 24) ∧ (o9.toInt = 1 ∧ (pBranch (tx f2 x4.toInt) (pSub (tx f2 x4.toInt) 5) x7.toInt y7.toInt (y11.toInt - x11.toInt) ∧ x11.toInt < y11.toInt ∧ x7.toInt < y7.toInt) ∨ o9.toInt = 0) ∧ va_P (dC, dI) vwCl (mW ad kc x0 x1 x2 x3 x4 x5 x6 y7 y8 y9 x10 y11 x12 x13 x14 x15 x16 x17 x18 x19 x20 x21 f0 f1 f2 f3 f4 f5 f6 f7 f8 f9 f10 f11 f12 f13 f14 f15 f16 f17 f18 f19 f20 f21 fL fN fP fM fO) t.heap ∧ va_K (dC, dI) vwCl (mT kc) t ∧ va_D (va_A (mW ad kc x0 x1 x2 x3 x4 x5 x6 x7 x8 x9 x10 x11 x12 x13 x14 x15 x16 x17 x18 x19 x20 x21 f0 f1 f2 f3 f4 f5 f6 f7 f8 f9 f10 f11 f12 f13 f14 f15 f16 f17 f18 f19 f20 f21 fL fN fP fM fO) sz) (mW ad kc x0 x1 x2 x3 x4 x5 x6 y7 y8 y9 x10 y11 x12 x13 x14 x15 x16 x17 x18 x19 x20 x21 f0 f1 f2 f3 f4 f5 f6 f7 f8 f9 f10 f11 f12 f13 f14 f15 f16 f17 f18 f19 f20 f21 fL fN fP fM fO)) (va_A (mW ad kc x0 x1 x2 x3 x4 x5 x6 x7 x8 x9 x10 x11 x12 x13 x14 x15 x16 x17 x18 x19 x20 x21 f0 f1 f2 f3 f4 f5 f6 f7 f8 f9 f10 f11 f12 f13 f14 f15 f16 f17 f18 f19 f20 f21 fL fN fP fM fO) sz)) 0 0 (va_A (mW ad kc x0 x1 x2 x3 x4 x5 x6 x7 x8 x9 x10 x11 x12 x13 x14 x15 x16 x17 x18 x19 x20 x21 f0 f1 f2 f3 f4 f5 f6 f7 f8 f9 f10 f11 f12 f13 f14 f15 f16 f17 f18 f19 f20 f21 fL fN fP fM fO) sz) := by
  refine Met.ofW (cc := cX10_isBranchAt) (maxL := 3) (ret := (some .boolean)) (by decide +kernel) rfl ?_
  intro p e s m args below meth c s₁ B hml hv
  obtain ⟨rfl, hsz, hP, hK, hD0⟩ := hv
  have hx := B.exec
  have hb := B.bytes
  have hr := B.returns
  have hts := atoms_spec (ws := mwX10_isBranchAtmd0) B.pre
  have hown : s.vm.findClass RX10 = some m.cls := findClass_of_methodNamed B.named
  have hlocks := B.notSynchronized
  subst hsz
  have hD := hD0.self (sz := s.heap.size)
  generalize hAe : va_A (mW ad kc x0 x1 x2 x3 x4 x5 x6 x7 x8 x9 x10 x11 x12 x13 x14 x15 x16 x17 x18 x19 x20 x21 f0 f1 f2 f3 f4 f5 f6 f7 f8 f9 f10 f11 f12 f13 f14 f15 f16 f17 f18 f19 f20 f21 fL fN fP fM fO) s.heap.size = A at hD ⊢
  have hA : ∀ q : Nat, s.heap.size ≤ q → A q := fun q h => by rw [← hAe]; exact Or.inr h
  have hP : va_P (dC, dI) vwCl (mW ad kc x0 x1 x2 x3 x4 x5 x6 x7 x8 x9 x10 x11 x12 x13 x14 x15 x16 x17 x18 x19 x20 x21 f0 f1 f2 f3 f4 f5 f6 f7 f8 f9 f10 f11 f12 f13 f14 f15 f16 f17 f18 f19 f20 f21 fL fN fP fM fO) s.heap := hP
  have hD : va_D A (mW ad kc x0 x1 x2 x3 x4 x5 x6 x7 x8 x9 x10 x11 x12 x13 x14 x15 x16 x17 x18 x19 x20 x21 f0 f1 f2 f3 f4 f5 f6 f7 f8 f9 f10 f11 f12 f13 f14 f15 f16 f17 f18 f19 f20 f21 fL fN fP fM fO) := hD
  have hK : va_K (dC, dI) vwCl (mT kc) s := hK
  generalize hH : s.heap = H at hP ⊢
  have hS : va_S A s.heap H [] := by rw [← hH]; exact va_S.rf
  have hl := lv_entry ([.ref (ad 0), .int i1]) (n := 3) (Nat.le_of_ble_eq_true rfl)
  rw [lg_entry_eq]
  generalize (lg_sl ([.ref (ad 0), .int i1]) ++ List.replicate (3 - (lg_sl ([.ref (ad 0), .int i1])).length) Slot.unset).toArray = ls at hl ⊢
  have hl : lv_has ls 3 [(0, .ref (ad 0)), (1, .int i1)] := hl
  have rg_i1 := i_rng i1
  refine lv_aload_n hx hb dX10_isBranchAt_0 rfl (lv_at hl 0 rfl) ?_
  refine lv_aload_n hx hb dX10_isBranchAt_1 rfl (lv_at hl 0 rfl) ?_
  refine lv_aload_n hx hb dX10_isBranchAt_2 rfl (lv_at hl 0 rfl) ?_
  refine va_get (D := (dC, dI)) (ci := 10) (v := .int x7) (C := RX10) (T := TX10) (N := 48) hx hb hts fin_X10_isBranchAtmd0_X10 hown hK hP 0 rfl rfl 10 (by decide) (hts (.fieldLink RX10 130 "PatternGateModel" "end" "I") (List.mem_of_getElem? (i := 1) (by decide +kernel))) (fun _ h9 => h9) rfl dX10_isBranchAt_3 ?_
  refine vp_callSi (W.runV (As := [.int x7]) (rest := [.ref (ad 0)]) ⟨hx, hb, hml, hown, hts⟩ (m_byteAt l dC dI ad kc x0 x1 x2 x3 x4 x5 x6 x7 x8 x9 x10 x11 x12 x13 x14 x15 x16 x17 x18 x19 x20 x21 f0 f1 f2 f3 f4 f5 f6 f7 f8 f9 f10 f11 f12 f13 f14 f15 f16 f17 f18 f19 f20 f21 fL fN fP fM fO x7 (by first | omega | assumption | decide | (have l0 := Int32.toInt_zero; omega)) (by first | omega | assumption | decide | (have l0 := Int32.toInt_zero; omega))) (cwV 1 hts mg_X10_isBranchAtmd0_X10_byteAt_133 rfl rfl rfl (by decide +kernel) ⟨Nat.le_of_ble_eq_true rfl, Nat.le_of_ble_eq_true rfl⟩) ⟨fun a U g mk q => by obtain ⟨q0, qP, qK⟩ := q; exact ⟨q0, qP, va_K.moved (u := U) (U := U.calling g mk a) (Vm.Alike.refl U.vm) qK⟩, va_recv hK hP (ci := 10) (q0 := 0) rfl rfl, fun U hU hW => ⟨rfl, by rw [hU]; exact hP, va_K.moved hW.alike hK⟩⟩ rfl rfl hl.1 rfl (lv_room (Nat.le_of_ble_eq_true rfl)) dX10_isBranchAt_6 ⟨Nat.le_of_ble_eq_true rfl, Nat.le_of_ble_eq_true rfl⟩) (fun r_1 hr_1 => ?_)
  have rg_r_1 := i_rng r_1
  refine vp_callSi (W.runV (As := [.int r_1]) (rest := []) ⟨hx, hb, hml, hown, hts⟩ (m_isAtomSign l dC dI ad kc x0 x1 x2 x3 x4 x5 x6 x7 x8 x9 x10 x11 x12 x13 x14 x15 x16 x17 x18 x19 x20 x21 f0 f1 f2 f3 f4 f5 f6 f7 f8 f9 f10 f11 f12 f13 f14 f15 f16 f17 f18 f19 f20 f21 fL fN fP fM fO r_1 ) (cwV 1 hts mg_X10_isBranchAtmd0_X10_isAtomSign_160 rfl rfl rfl (by decide +kernel) ⟨Nat.le_of_ble_eq_true rfl, Nat.le_of_ble_eq_true rfl⟩) ⟨fun a U g mk q => by obtain ⟨q0, qP, qK⟩ := q; exact ⟨q0, qP, va_K.moved (u := U) (U := U.calling g mk a) (Vm.Alike.refl U.vm) qK⟩, va_recv hK hP (ci := 10) (q0 := 0) rfl rfl, fun U hU hW => ⟨rfl, by rw [hU]; exact hP, va_K.moved hW.alike hK⟩⟩ rfl rfl hl.1 rfl (lv_room (Nat.le_of_ble_eq_true rfl)) dX10_isBranchAt_9 ⟨Nat.le_of_ble_eq_true rfl, Nat.le_of_ble_eq_true rfl⟩) (fun r_2 hr_2 => ?_)
  have rg_r_2 := i_rng r_2
  refine lv_if_ne (tgt := 25) hx hb dX10_isBranchAt_12 (by decide) (fun k_3 => ?_) (fun k_3 => ?_)
  · have tk_3 := c_ne (a := r_2.toInt) (b := 0) rfl (by decide) k_3
    have hAt := tf2_t hr_2 (by omega)
    rw [hr_1.1] at hAt
    have loop25 : ∀ (lm25 : Nat) (ea fa fb sa : Int32), (x7.toInt ≤ ea.toInt) → (ea.toInt ≤ x4.toInt) → (x11.toInt ≤ sa.toInt) → (sa.toInt ≤ 24) → (brI (tx f2 x4.toInt) (pSub (tx f2 x4.toInt) 5) x7.toInt ea.toInt x11.toInt sa.toInt) → ((x4.toInt - ea.toInt).toNat) < lm25 → ∀ (H : Heap) (locs : List Loc) (ls : Array Slot), va_P (dC, dI) vwCl (mW ad kc x0 x1 x2 x3 x4 x5 x6 ea fa fb x10 sa x12 x13 x14 x15 x16 x17 x18 x19 x20 x21 f0 f1 f2 f3 f4 f5 f6 f7 f8 f9 f10 f11 f12 f13 f14 f15 f16 f17 f18 f19 f20 f21 fL fN fP fM fO) H → va_D A (mW ad kc x0 x1 x2 x3 x4 x5 x6 ea fa fb x10 sa x12 x13 x14 x15 x16 x17 x18 x19 x20 x21 f0 f1 f2 f3 f4 f5 f6 f7 f8 f9 f10 f11 f12 f13 f14 f15 f16 f17 f18 f19 f20 f21 fL fN fP fM fO) → va_S A s.heap H locs → lv_has ls 3 [(0, .ref (ad 0)), (1, .int i1)] → W p l e (headSpec mwX10_isBranchAtmd0 ({ frames := 18, cells := 0, slots := 0, locals := 1080 })).room s m ([.ref (ad 0), .int i1]).toArray below meth c H locs 0 0 (MQ below (va_Qi (fun (o9 u9 : Int32) => o9 = u9) (fun (o9 : Int32) t => ∃ (y7 y8 y9 y11 : Int32), (x7.toInt ≤ y7.toInt) ∧ (y7.toInt ≤ x4.toInt) ∧ (x11.toInt ≤ y11.toInt) ∧ (y11.toInt ≤ 24) ∧ (o9.toInt = 1 ∧ (pBranch (tx f2 x4.toInt) (pSub (tx f2 x4.toInt) 5) x7.toInt y7.toInt (y11.toInt - x11.toInt) ∧ x11.toInt < y11.toInt ∧ x7.toInt < y7.toInt) ∨ o9.toInt = 0) ∧ va_P (dC, dI) vwCl (mW ad kc x0 x1 x2 x3 x4 x5 x6 y7 y8 y9 x10 y11 x12 x13 x14 x15 x16 x17 x18 x19 x20 x21 f0 f1 f2 f3 f4 f5 f6 f7 f8 f9 f10 f11 f12 f13 f14 f15 f16 f17 f18 f19 f20 f21 fL fN fP fM fO) t.heap ∧ va_K (dC, dI) vwCl (mT kc) t ∧ va_D A (mW ad kc x0 x1 x2 x3 x4 x5 x6 y7 y8 y9 x10 y11 x12 x13 x14 x15 x16 x17 x18 x19 x20 x21 f0 f1 f2 f3 f4 f5 f6 f7 f8 f9 f10 f11 f12 f13 f14 f15 f16 f17 f18 f19 f20 f21 fL fN fP fM fO)) A) ([.ref (ad 0), .int i1]).toArray s 0 0 A) (F0 m 25 ls []) := by
      intro lm25
      induction lm25 with
      | zero => intro ea fa fb sa v25_0 v25_1 v25_2 v25_3 v25_4 hm25; exact absurd hm25 (Nat.not_lt_zero _)
      | succ lm25 ih25 =>
        intro ea fa fb sa v25_0 v25_1 v25_2 v25_3 v25_4 hm25 H locs ls hP hD hS hl
        have rg_ea := i_rng ea
        have rg_fa := i_rng fa
        have rg_fb := i_rng fb
        have rg_sa := i_rng sa
        refine lv_aload_n hx hb dX10_isBranchAt_25 rfl (lv_at hl 0 rfl) ?_
        refine lv_aload_n hx hb dX10_isBranchAt_26 rfl (lv_at hl 0 rfl) ?_
        refine lv_aload_n hx hb dX10_isBranchAt_27 rfl (lv_at hl 0 rfl) ?_
        refine va_get (D := (dC, dI)) (ci := 10) (v := .int ea) (C := RX10) (T := TX10) (N := 48) hx hb hts fin_X10_isBranchAtmd0_X10 hown hK hP 0 rfl rfl 10 (by decide) (hts (.fieldLink RX10 130 "PatternGateModel" "end" "I") (List.mem_of_getElem? (i := 1) (by decide +kernel))) (fun _ h9 => h9) rfl dX10_isBranchAt_28 ?_
        refine vp_callSi (W.runV (As := [.int ea]) (rest := [.ref (ad 0)]) ⟨hx, hb, hml, hown, hts⟩ (m_byteAt l dC dI ad kc x0 x1 x2 x3 x4 x5 x6 ea fa fb x10 sa x12 x13 x14 x15 x16 x17 x18 x19 x20 x21 f0 f1 f2 f3 f4 f5 f6 f7 f8 f9 f10 f11 f12 f13 f14 f15 f16 f17 f18 f19 f20 f21 fL fN fP fM fO ea (by first | omega | assumption | decide | (have l0 := Int32.toInt_zero; omega)) (by first | omega | assumption | decide | (have l0 := Int32.toInt_zero; omega))) (cwV 1 hts mg_X10_isBranchAtmd0_X10_byteAt_133 rfl rfl rfl (by decide +kernel) ⟨Nat.le_of_ble_eq_true rfl, Nat.le_of_ble_eq_true rfl⟩) ⟨fun a U g mk q => by obtain ⟨q0, qP, qK⟩ := q; exact ⟨q0, qP, va_K.moved (u := U) (U := U.calling g mk a) (Vm.Alike.refl U.vm) qK⟩, va_recv hK hP (ci := 10) (q0 := 0) rfl rfl, fun U hU hW => ⟨rfl, by rw [hU]; exact hP, va_K.moved hW.alike hK⟩⟩ rfl rfl hl.1 rfl (lv_room (Nat.le_of_ble_eq_true rfl)) dX10_isBranchAt_31 ⟨Nat.le_of_ble_eq_true rfl, Nat.le_of_ble_eq_true rfl⟩) (fun r_4 hr_4 => ?_)
        have rg_r_4 := i_rng r_4
        refine vp_callSi (W.runV (As := [.int r_4]) (rest := []) ⟨hx, hb, hml, hown, hts⟩ (m_isAtomSign l dC dI ad kc x0 x1 x2 x3 x4 x5 x6 ea fa fb x10 sa x12 x13 x14 x15 x16 x17 x18 x19 x20 x21 f0 f1 f2 f3 f4 f5 f6 f7 f8 f9 f10 f11 f12 f13 f14 f15 f16 f17 f18 f19 f20 f21 fL fN fP fM fO r_4 ) (cwV 1 hts mg_X10_isBranchAtmd0_X10_isAtomSign_160 rfl rfl rfl (by decide +kernel) ⟨Nat.le_of_ble_eq_true rfl, Nat.le_of_ble_eq_true rfl⟩) ⟨fun a U g mk q => by obtain ⟨q0, qP, qK⟩ := q; exact ⟨q0, qP, va_K.moved (u := U) (U := U.calling g mk a) (Vm.Alike.refl U.vm) qK⟩, va_recv hK hP (ci := 10) (q0 := 0) rfl rfl, fun U hU hW => ⟨rfl, by rw [hU]; exact hP, va_K.moved hW.alike hK⟩⟩ rfl rfl hl.1 rfl (lv_room (Nat.le_of_ble_eq_true rfl)) dX10_isBranchAt_34 ⟨Nat.le_of_ble_eq_true rfl, Nat.le_of_ble_eq_true rfl⟩) (fun r_5 hr_5 => ?_)
        have rg_r_5 := i_rng r_5
        refine lv_if_eq (tgt := 94) hx hb dX10_isBranchAt_37 (by decide) (fun k_6 => ?_) (fun k_6 => ?_)
        · have tk_6 := c_eq (a := r_5.toInt) (b := 0) rfl (by decide) k_6
          have hNA := tf2_f hr_5 (by omega)
          rw [hr_4.1] at hNA
          refine lv_iconst (v := 1) hx hb dX10_isBranchAt_94 (by decide) ?_
          have lit_6 : (1 : Int32).toInt = 1 := by decide
          exact W.zret hx hb hr (z_nar (by first | assumption | decide | exact z_of (by omega))) (fun t ht hW => ⟨⟨_, _, rfl, rfl, ea, fa, fb, sa, (by first | omega | assumption | rfl | decide), (by first | omega | assumption | rfl | decide), (by first | omega | assumption | rfl | decide), (by first | omega | assumption | rfl | decide), (Or.inl ⟨by decide, br_end v25_4 hAt hNA⟩), by rw [ht]; exact hP, va_K.moved hW.alike hK, hD⟩, hS.F ht⟩) hS.2.2 dX10_isBranchAt_95
        · have tk_6 := c_ne (a := r_5.toInt) (b := 0) rfl (by decide) k_6
          have hIA := tf2_t hr_5 (by omega)
          rw [hr_4.1] at hIA
          refine lv_aload_n hx hb dX10_isBranchAt_40 rfl (lv_at hl 0 rfl) ?_
          refine lv_iload_n hx hb dX10_isBranchAt_41 rfl (lv_at hl 1 rfl) ?_
          have hFc := m_free hD hS hA
          refine va_calli (va_runV (As := [.int i1]) (rest := []) ⟨hx, hb, hml, hown, hts⟩ (m_isAtomAt0 l dC dI ad kc x0 x1 x2 x3 x4 x5 x6 ea fa fb x10 sa x12 x13 x14 x15 x16 x17 x18 x19 x20 x21 f0 f1 f2 f3 f4 f5 f6 f7 f8 f9 f10 f11 f12 f13 f14 f15 f16 f17 f18 f19 f20 f21 fL fN fP fM fO H.size i1 (by first | omega | assumption | decide | (have l0 := Int32.toInt_zero; omega)) (by first | omega | assumption | decide | (have l0 := Int32.toInt_zero; omega)) (by first | omega | assumption | decide | (have l0 := Int32.toInt_zero; omega)) (by first | omega | assumption | decide | (have l0 := Int32.toInt_zero; omega)) (by first | omega | assumption | decide | (have l0 := Int32.toInt_zero; omega)) (by first | omega | assumption | decide | (have l0 := Int32.toInt_zero; omega)) (by first | omega | assumption | decide | (have l0 := Int32.toInt_zero; omega))) (cwV 1 hts mg_X10_isBranchAtmd0_X10_isAtomAt_163 rfl rfl rfl (by decide +kernel) ⟨Nat.le_of_ble_eq_true rfl, Nat.le_of_ble_eq_true rfl⟩) ⟨fun a U g mk q => by obtain ⟨q0, q1, qP, qK, qD⟩ := q; exact ⟨q0, q1, qP, va_K.moved (u := U) (U := U.calling g mk a) (Vm.Alike.refl U.vm) qK, qD⟩, va_recv hK hP (ci := 10) (q0 := 0) rfl rfl, fun U hU hW => ⟨rfl, by rw [hU], by rw [hU]; exact hP, va_K.moved hW.alike hK, hD.weaken (fun _ _ _ _ => trivial)⟩⟩ rfl rfl hl.1 rfl (lv_room (Nat.le_of_ble_eq_true rfl)) dX10_isBranchAt_42 ⟨Nat.le_of_ble_eq_true rfl, Nat.le_of_ble_eq_true rfl⟩) hS (fun q _ h => hFc q h) hFc (fun r_8 u t H1 locs ht hvm hw hB hz1 hk1 hS => ?_)
          subst hw
          obtain ⟨x_9, x_10, x_11, x_12, hr_8_0, hr_8_1, hr_8_2, hr_8_3, hr_8_4, hP, hK1, hD1⟩ := hB
          rw [ht] at hP
          have hD := hD1.weaken (fun k q _ h => hFc q.1 h)
          generalize H1 = H at hP hS ⊢
          have rg_x_9 := i_rng x_9
          have rg_x_10 := i_rng x_10
          have rg_x_11 := i_rng x_11
          have rg_x_12 := i_rng x_12
          have rg_r_8 := i_rng r_8
          have hP : va_P (dC, dI) vwCl (mW ad kc x0 x1 x2 x3 x4 x5 x6 x_9 x_10 x_11 x10 x_12 x12 x13 x14 x15 x16 x17 x18 x19 x20 x21 f0 f1 f2 f3 f4 f5 f6 f7 f8 f9 f10 f11 f12 f13 f14 f15 f16 f17 f18 f19 f20 f21 fL fN fP fM fO) H := hP
          have hD : va_D A (mW ad kc x0 x1 x2 x3 x4 x5 x6 x_9 x_10 x_11 x10 x_12 x12 x13 x14 x15 x16 x17 x18 x19 x20 x21 f0 f1 f2 f3 f4 f5 f6 f7 f8 f9 f10 f11 f12 f13 f14 f15 f16 f17 f18 f19 f20 f21 fL fN fP fM fO) := hD
          refine lv_if_ne (tgt := 50) hx hb dX10_isBranchAt_45 (by decide) (fun k_13 => ?_) (fun k_13 => ?_)
          · have tk_13 := c_ne (a := r_8.toInt) (b := 0) rfl (by decide) k_13
            have hT := tf_t hr_8_4 (by omega)
            refine lv_aload_n hx hb dX10_isBranchAt_50 rfl (lv_at hl 0 rfl) ?_
            refine lv_aload_n hx hb dX10_isBranchAt_51 rfl (lv_at hl 0 rfl) ?_
            refine va_get (D := (dC, dI)) (ci := 10) (v := .int x_9) (C := RX10) (T := TX10) (N := 48) hx hb hts fin_X10_isBranchAtmd0_X10 hown hK hP 0 rfl rfl 10 (by decide) (hts (.fieldLink RX10 130 "PatternGateModel" "end" "I") (List.mem_of_getElem? (i := 1) (by decide +kernel))) (fun _ h9 => h9) rfl dX10_isBranchAt_52 ?_
            refine vp_callSi (W.runV (As := [.int x_9]) (rest := []) ⟨hx, hb, hml, hown, hts⟩ (m_byteAt l dC dI ad kc x0 x1 x2 x3 x4 x5 x6 x_9 x_10 x_11 x10 x_12 x12 x13 x14 x15 x16 x17 x18 x19 x20 x21 f0 f1 f2 f3 f4 f5 f6 f7 f8 f9 f10 f11 f12 f13 f14 f15 f16 f17 f18 f19 f20 f21 fL fN fP fM fO x_9 (by first | omega | assumption | decide | (have l0 := Int32.toInt_zero; omega)) (by first | omega | assumption | decide | (have l0 := Int32.toInt_zero; omega))) (cwV 1 hts mg_X10_isBranchAtmd0_X10_byteAt_133 rfl rfl rfl (by decide +kernel) ⟨Nat.le_of_ble_eq_true rfl, Nat.le_of_ble_eq_true rfl⟩) ⟨fun a U g mk q => by obtain ⟨q0, qP, qK⟩ := q; exact ⟨q0, qP, va_K.moved (u := U) (U := U.calling g mk a) (Vm.Alike.refl U.vm) qK⟩, va_recv hK hP (ci := 10) (q0 := 0) rfl rfl, fun U hU hW => ⟨rfl, by rw [hU]; exact hP, va_K.moved hW.alike hK⟩⟩ rfl rfl hl.1 rfl (lv_room (Nat.le_of_ble_eq_true rfl)) dX10_isBranchAt_55 ⟨Nat.le_of_ble_eq_true rfl, Nat.le_of_ble_eq_true rfl⟩) (fun r_14 hr_14 => ?_)
            have rg_r_14 := i_rng r_14
            refine lv_istore_n (lv' := [(2, .int r_14), (0, .ref (ad 0)), (1, .int i1)]) hx hb dX10_isBranchAt_58 rfl hl (by decide) rfl (fun ls hl => ?_)
            refine lv_aload_n hx hb dX10_isBranchAt_59 rfl (lv_at hl 1 rfl) ?_
            refine lv_dup hx hb dX10_isBranchAt_60 rfl ?_
            refine va_get (D := (dC, dI)) (ci := 10) (v := .int x_9) (C := RX10) (T := TX10) (N := 48) hx hb hts fin_X10_isBranchAtmd0_X10 hown hK hP 0 rfl rfl 10 (by decide) (hts (.fieldLink RX10 130 "PatternGateModel" "end" "I") (List.mem_of_getElem? (i := 1) (by decide +kernel))) (fun _ h9 => h9) rfl dX10_isBranchAt_61 ?_
            refine lv_iload_n hx hb dX10_isBranchAt_64 rfl (lv_at hl 0 rfl) ?_
            refine lv_bipush (v := 42) hx hb dX10_isBranchAt_65 (by decide) ?_
            refine lv_icmp_eq (tgt := 82) hx hb dX10_isBranchAt_67 (by decide) (fun k_15 => ?_) (fun k_15 => ?_)
            · have tk_15 := c_eq (a := r_14.toInt) (b := 42) rfl (by decide) k_15
              refine lv_iconst (v := 1) hx hb dX10_isBranchAt_82 (by decide) ?_
              refine lv_goto (tgt := 87) hx hb dX10_isBranchAt_83 (by decide) ?_
              refine lv_iadd hx hb dX10_isBranchAt_87 ?_
              refine lv_topi (fun y_16 ey_16 => ?_)
              first | have ty_16 := i_add (a := x_9.toInt) (b := 1) rfl (by decide) ey_16 (by omega) (by omega) | skip
              refine va_put (D := (dC, dI)) (ci := 10) (v := .int y_16) (ty := .int) (C := RX10) (T := TX10) (N := 48) hx hb hts fin_X10_isBranchAtmd0_X10 tyX10 tyX10_ok nmX10 hown hK hP hD hS 0 rfl rfl 10 (by decide) (hts (.fieldLink RX10 130 "PatternGateModel" "end" "I") (List.mem_of_getElem? (i := 1) (by decide +kernel))) (fun _ h9 => h9) rfl (by decide +kernel) rfl rfl (Nat.le_of_ble_eq_true rfl) dX10_isBranchAt_88 (fun H locs hP hD hS => ?_)
              have hP : va_P (dC, dI) vwCl (mW ad kc x0 x1 x2 x3 x4 x5 x6 y_16 x_10 x_11 x10 x_12 x12 x13 x14 x15 x16 x17 x18 x19 x20 x21 f0 f1 f2 f3 f4 f5 f6 f7 f8 f9 f10 f11 f12 f13 f14 f15 f16 f17 f18 f19 f20 f21 fL fN fP fM fO) H := hP
              have hD : va_D A (mW ad kc x0 x1 x2 x3 x4 x5 x6 y_16 x_10 x_11 x10 x_12 x12 x13 x14 x15 x16 x17 x18 x19 x20 x21 f0 f1 f2 f3 f4 f5 f6 f7 f8 f9 f10 f11 f12 f13 f14 f15 f16 f17 f18 f19 f20 f21 fL fN fP fM fO) := hD
              refine lv_goto (tgt := 25) hx hb dX10_isBranchAt_91 (by decide) ?_
              exact ih25 y_16 x_10 x_11 x_12 (by first | omega | assumption | decide) (by first | omega | assumption | decide) (by first | omega | assumption | decide) (by first | omega | assumption | decide) (by first | exact br_q v25_4 hT.1 (by omega) (by omega) (by omega) (by unfold isQu; omega) | exact br_n v25_4 hT.1 (by omega) (by omega) (by omega) (by unfold isQu; omega)) (by omega) _ _ ls hP hD hS (lv_sub hl [1, 2] rfl)
            · have tk_15 := c_ne (a := r_14.toInt) (b := 42) rfl (by decide) k_15
              refine lv_iload_n hx hb dX10_isBranchAt_70 rfl (lv_at hl 0 rfl) ?_
              refine lv_bipush (v := 43) hx hb dX10_isBranchAt_71 (by decide) ?_
              refine lv_icmp_eq (tgt := 82) hx hb dX10_isBranchAt_73 (by decide) (fun k_17 => ?_) (fun k_17 => ?_)
              · have tk_17 := c_eq (a := r_14.toInt) (b := 43) rfl (by decide) k_17
                refine lv_iconst (v := 1) hx hb dX10_isBranchAt_82 (by decide) ?_
                refine lv_goto (tgt := 87) hx hb dX10_isBranchAt_83 (by decide) ?_
                refine lv_iadd hx hb dX10_isBranchAt_87 ?_
                refine lv_topi (fun y_18 ey_18 => ?_)
                first | have ty_18 := i_add (a := x_9.toInt) (b := 1) rfl (by decide) ey_18 (by omega) (by omega) | skip
                refine va_put (D := (dC, dI)) (ci := 10) (v := .int y_18) (ty := .int) (C := RX10) (T := TX10) (N := 48) hx hb hts fin_X10_isBranchAtmd0_X10 tyX10 tyX10_ok nmX10 hown hK hP hD hS 0 rfl rfl 10 (by decide) (hts (.fieldLink RX10 130 "PatternGateModel" "end" "I") (List.mem_of_getElem? (i := 1) (by decide +kernel))) (fun _ h9 => h9) rfl (by decide +kernel) rfl rfl (Nat.le_of_ble_eq_true rfl) dX10_isBranchAt_88 (fun H locs hP hD hS => ?_)
                have hP : va_P (dC, dI) vwCl (mW ad kc x0 x1 x2 x3 x4 x5 x6 y_18 x_10 x_11 x10 x_12 x12 x13 x14 x15 x16 x17 x18 x19 x20 x21 f0 f1 f2 f3 f4 f5 f6 f7 f8 f9 f10 f11 f12 f13 f14 f15 f16 f17 f18 f19 f20 f21 fL fN fP fM fO) H := hP
                have hD : va_D A (mW ad kc x0 x1 x2 x3 x4 x5 x6 y_18 x_10 x_11 x10 x_12 x12 x13 x14 x15 x16 x17 x18 x19 x20 x21 f0 f1 f2 f3 f4 f5 f6 f7 f8 f9 f10 f11 f12 f13 f14 f15 f16 f17 f18 f19 f20 f21 fL fN fP fM fO) := hD
                refine lv_goto (tgt := 25) hx hb dX10_isBranchAt_91 (by decide) ?_
                exact ih25 y_18 x_10 x_11 x_12 (by first | omega | assumption | decide) (by first | omega | assumption | decide) (by first | omega | assumption | decide) (by first | omega | assumption | decide) (by first | exact br_q v25_4 hT.1 (by omega) (by omega) (by omega) (by unfold isQu; omega) | exact br_n v25_4 hT.1 (by omega) (by omega) (by omega) (by unfold isQu; omega)) (by omega) _ _ ls hP hD hS (lv_sub hl [1, 2] rfl)
              · have tk_17 := c_ne (a := r_14.toInt) (b := 43) rfl (by decide) k_17
                refine lv_iload_n hx hb dX10_isBranchAt_76 rfl (lv_at hl 0 rfl) ?_
                refine lv_bipush (v := 63) hx hb dX10_isBranchAt_77 (by decide) ?_
                refine lv_icmp_ne (tgt := 86) hx hb dX10_isBranchAt_79 (by decide) (fun k_19 => ?_) (fun k_19 => ?_)
                · have tk_19 := c_ne (a := r_14.toInt) (b := 63) rfl (by decide) k_19
                  refine lv_iconst (v := 0) hx hb dX10_isBranchAt_86 (by decide) ?_
                  refine lv_iadd hx hb dX10_isBranchAt_87 ?_
                  refine lv_topi (fun y_20 ey_20 => ?_)
                  first | have ty_20 := i_add (a := x_9.toInt) (b := 0) rfl (by decide) ey_20 (by omega) (by omega) | skip
                  refine va_put (D := (dC, dI)) (ci := 10) (v := .int y_20) (ty := .int) (C := RX10) (T := TX10) (N := 48) hx hb hts fin_X10_isBranchAtmd0_X10 tyX10 tyX10_ok nmX10 hown hK hP hD hS 0 rfl rfl 10 (by decide) (hts (.fieldLink RX10 130 "PatternGateModel" "end" "I") (List.mem_of_getElem? (i := 1) (by decide +kernel))) (fun _ h9 => h9) rfl (by decide +kernel) rfl rfl (Nat.le_of_ble_eq_true rfl) dX10_isBranchAt_88 (fun H locs hP hD hS => ?_)
                  have hP : va_P (dC, dI) vwCl (mW ad kc x0 x1 x2 x3 x4 x5 x6 y_20 x_10 x_11 x10 x_12 x12 x13 x14 x15 x16 x17 x18 x19 x20 x21 f0 f1 f2 f3 f4 f5 f6 f7 f8 f9 f10 f11 f12 f13 f14 f15 f16 f17 f18 f19 f20 f21 fL fN fP fM fO) H := hP
                  have hD : va_D A (mW ad kc x0 x1 x2 x3 x4 x5 x6 y_20 x_10 x_11 x10 x_12 x12 x13 x14 x15 x16 x17 x18 x19 x20 x21 f0 f1 f2 f3 f4 f5 f6 f7 f8 f9 f10 f11 f12 f13 f14 f15 f16 f17 f18 f19 f20 f21 fL fN fP fM fO) := hD
                  refine lv_goto (tgt := 25) hx hb dX10_isBranchAt_91 (by decide) ?_
                  exact ih25 y_20 x_10 x_11 x_12 (by first | omega | assumption | decide) (by first | omega | assumption | decide) (by first | omega | assumption | decide) (by first | omega | assumption | decide) (by first | exact br_q v25_4 hT.1 (by omega) (by omega) (by omega) (by unfold isQu; omega) | exact br_n v25_4 hT.1 (by omega) (by omega) (by omega) (by unfold isQu; omega)) (by omega) _ _ ls hP hD hS (lv_sub hl [1, 2] rfl)
                · have tk_19 := c_eq (a := r_14.toInt) (b := 63) rfl (by decide) k_19
                  refine lv_iconst (v := 1) hx hb dX10_isBranchAt_82 (by decide) ?_
                  refine lv_goto (tgt := 87) hx hb dX10_isBranchAt_83 (by decide) ?_
                  refine lv_iadd hx hb dX10_isBranchAt_87 ?_
                  refine lv_topi (fun y_21 ey_21 => ?_)
                  first | have ty_21 := i_add (a := x_9.toInt) (b := 1) rfl (by decide) ey_21 (by omega) (by omega) | skip
                  refine va_put (D := (dC, dI)) (ci := 10) (v := .int y_21) (ty := .int) (C := RX10) (T := TX10) (N := 48) hx hb hts fin_X10_isBranchAtmd0_X10 tyX10 tyX10_ok nmX10 hown hK hP hD hS 0 rfl rfl 10 (by decide) (hts (.fieldLink RX10 130 "PatternGateModel" "end" "I") (List.mem_of_getElem? (i := 1) (by decide +kernel))) (fun _ h9 => h9) rfl (by decide +kernel) rfl rfl (Nat.le_of_ble_eq_true rfl) dX10_isBranchAt_88 (fun H locs hP hD hS => ?_)
                  have hP : va_P (dC, dI) vwCl (mW ad kc x0 x1 x2 x3 x4 x5 x6 y_21 x_10 x_11 x10 x_12 x12 x13 x14 x15 x16 x17 x18 x19 x20 x21 f0 f1 f2 f3 f4 f5 f6 f7 f8 f9 f10 f11 f12 f13 f14 f15 f16 f17 f18 f19 f20 f21 fL fN fP fM fO) H := hP
                  have hD : va_D A (mW ad kc x0 x1 x2 x3 x4 x5 x6 y_21 x_10 x_11 x10 x_12 x12 x13 x14 x15 x16 x17 x18 x19 x20 x21 f0 f1 f2 f3 f4 f5 f6 f7 f8 f9 f10 f11 f12 f13 f14 f15 f16 f17 f18 f19 f20 f21 fL fN fP fM fO) := hD
                  refine lv_goto (tgt := 25) hx hb dX10_isBranchAt_91 (by decide) ?_
                  exact ih25 y_21 x_10 x_11 x_12 (by first | omega | assumption | decide) (by first | omega | assumption | decide) (by first | omega | assumption | decide) (by first | omega | assumption | decide) (by first | exact br_q v25_4 hT.1 (by omega) (by omega) (by omega) (by unfold isQu; omega) | exact br_n v25_4 hT.1 (by omega) (by omega) (by omega) (by unfold isQu; omega)) (by omega) _ _ ls hP hD hS (lv_sub hl [1, 2] rfl)
          · have tk_13 := c_eq (a := r_8.toInt) (b := 0) rfl (by decide) k_13
            refine lv_iconst (v := 0) hx hb dX10_isBranchAt_48 (by decide) ?_
            have lit_21 : (0 : Int32).toInt = 0 := by decide
            exact W.zret hx hb hr (z_nar (by first | assumption | decide | exact z_of (by omega))) (fun t ht hW => ⟨⟨_, _, rfl, rfl, x_9, x_10, x_11, x_12, (by first | omega | assumption | rfl | decide), (by first | omega | assumption | rfl | decide), (by first | omega | assumption | rfl | decide), (by first | omega | assumption | rfl | decide), (Or.inr (by first | omega | decide)), by rw [ht]; exact hP, va_K.moved hW.alike hK, hD⟩, hS.F ht⟩) hS.2.2 dX10_isBranchAt_49
    exact loop25 _ x7 x8 x9 x11 (by first | omega | assumption | decide) (by first | omega | assumption | decide) (by first | omega | assumption | decide) (by first | omega | assumption | decide) (Or.inl ⟨rfl, rfl⟩) (Nat.lt_succ_self _) _ _ ls hP hD hS (lv_sub hl [0, 1] rfl)
  · have tk_3 := c_eq (a := r_2.toInt) (b := 0) rfl (by decide) k_3
    refine lv_aload_n hx hb dX10_isBranchAt_15 rfl (lv_at hl 0 rfl) ?_
    refine lv_iconst (v := 1) hx hb dX10_isBranchAt_16 (by decide) ?_
    refine lv_aload_n hx hb dX10_isBranchAt_17 rfl (lv_at hl 0 rfl) ?_
    refine va_get (D := (dC, dI)) (ci := 10) (v := .int x7) (C := RX10) (T := TX10) (N := 48) hx hb hts fin_X10_isBranchAtmd0_X10 hown hK hP 0 rfl rfl 10 (by decide) (hts (.fieldLink RX10 130 "PatternGateModel" "end" "I") (List.mem_of_getElem? (i := 1) (by decide +kernel))) (fun _ h9 => h9) rfl dX10_isBranchAt_18 ?_
    have hFc := m_free hD hS hA
    refine va_calli (va_runV (As := [.int 1, .int x7]) (rest := []) ⟨hx, hb, hml, hown, hts⟩ (m_failsAt l dC dI ad kc x0 x1 x2 x3 x4 x5 x6 x7 x8 x9 x10 x11 x12 x13 x14 x15 x16 x17 x18 x19 x20 x21 f0 f1 f2 f3 f4 f5 f6 f7 f8 f9 f10 f11 f12 f13 f14 f15 f16 f17 f18 f19 f20 f21 fL fN fP fM fO H.size 1 x7 ) (cwV 2 hts mg_X10_isBranchAtmd0_X10_failsAt_126 rfl rfl rfl (by decide +kernel) ⟨Nat.le_of_ble_eq_true rfl, Nat.le_of_ble_eq_true rfl⟩) ⟨fun a U g mk q => by obtain ⟨q0, q1, qP, qK, qD⟩ := q; exact ⟨q0, q1, qP, va_K.moved (u := U) (U := U.calling g mk a) (Vm.Alike.refl U.vm) qK, qD⟩, va_recv hK hP (ci := 10) (q0 := 0) rfl rfl, fun U hU hW => ⟨rfl, by rw [hU], by rw [hU]; exact hP, va_K.moved hW.alike hK, hD.weaken (fun _ _ _ _ => trivial)⟩⟩ rfl rfl hl.1 rfl (lv_room (Nat.le_of_ble_eq_true rfl)) dX10_isBranchAt_21 ⟨Nat.le_of_ble_eq_true rfl, Nat.le_of_ble_eq_true rfl⟩) hS (fun q _ h => hFc q h) hFc (fun r_23 u t H1 locs ht hvm hw hB hz1 hk1 hS => ?_)
    subst hw
    obtain ⟨x_24, x_25, hr_23_0, hP, hK1, hD1⟩ := hB
    rw [ht] at hP
    have hD := hD1.weaken (fun k q _ h => hFc q.1 h)
    generalize H1 = H at hP hS ⊢
    have rg_x_24 := i_rng x_24
    have rg_x_25 := i_rng x_25
    have rg_r_23 := i_rng r_23
    have hP : va_P (dC, dI) vwCl (mW ad kc x0 x1 x2 x3 x4 x5 x6 x7 x_24 x_25 x10 x11 x12 x13 x14 x15 x16 x17 x18 x19 x20 x21 f0 f1 f2 f3 f4 f5 f6 f7 f8 f9 f10 f11 f12 f13 f14 f15 f16 f17 f18 f19 f20 f21 fL fN fP fM fO) H := hP
    have hD : va_D A (mW ad kc x0 x1 x2 x3 x4 x5 x6 x7 x_24 x_25 x10 x11 x12 x13 x14 x15 x16 x17 x18 x19 x20 x21 f0 f1 f2 f3 f4 f5 f6 f7 f8 f9 f10 f11 f12 f13 f14 f15 f16 f17 f18 f19 f20 f21 fL fN fP fM fO) := hD
    exact W.zret hx hb hr (z_nar (by first | assumption | decide | exact z_of (by omega))) (fun t ht hW => ⟨⟨_, _, rfl, rfl, x7, x_24, x_25, x11, (by first | omega | assumption | rfl | decide), (by first | omega | assumption | rfl | decide), (by first | omega | assumption | rfl | decide), (by first | omega | assumption | rfl | decide), (Or.inr (by first | omega | decide)), by rw [ht]; exact hP, va_K.moved hW.alike hK, hD⟩, hS.F ht⟩) hS.2.2 dX10_isBranchAt_24
def mwX10_isPatternAtmd0 : List Cond := .code yX10_isPatternAt cX10_isPatternAt 2 (some .boolean) :: ([.code yX10_isBranchAt cX10_isBranchAt 3 (some .boolean), .fieldLink RX10 130 "PatternGateModel" "end" "I", .code yX10_byteAt cX10_byteAt 2 (some .int), .fieldLink RX10 114 "PatternGateModel" "size" "I", .fieldLink RX10 18 "PatternGateModel" "text" "[B", .methodLink RX10 133 yX10_byteAt, .instanceMethod yX10_byteAt, .selects RX10 yX10_byteAt yX10_byteAt, .initialized RX10, .code yX10_isAtomSign cX10_isAtomSign 2 (some .boolean), .code yX10_isSmall cX10_isSmall 1 (some .boolean), .methodLink RX10 137 yX10_isSmall, .static yX10_isSmall, .methodLink RX10 160 yX10_isAtomSign, .instanceMethod yX10_isAtomSign, .selects RX10 yX10_isAtomSign yX10_isAtomSign, .code yX10_isAtomAt cX10_isAtomAt 3 (some .boolean), .fieldLink RX10 151 "PatternGateModel" "spots" "I", .code yX10_isSetAt cX10_isSetAt 3 (some .boolean), .code yX10_failsAt cX10_failsAt 3 (some .boolean), .fieldLink RX10 117 "PatternGateModel" "faults" "I", .fieldLink RX10 21 "PatternGateModel" "faultPlace" "I", .methodLink RX10 126 yX10_failsAt, .instanceMethod yX10_failsAt, .selects RX10 yX10_failsAt yX10_failsAt, .code yX10_has cX10_has 2 (some .boolean), .methodLink RX10 170 yX10_has, .static yX10_has, .methodLink RX10 166 yX10_isSetAt, .instanceMethod yX10_isSetAt, .selects RX10 yX10_isSetAt yX10_isSetAt, .code yX10_isPatternAt cX10_isPatternAt 2 (some .boolean), .methodLink RX10 163 yX10_isAtomAt, .instanceMethod yX10_isAtomAt, .selects RX10 yX10_isAtomAt yX10_isAtomAt, .methodLink RX10 157 yX10_isBranchAt, .instanceMethod yX10_isBranchAt, .selects RX10 yX10_isBranchAt yX10_isBranchAt, .methodLink RX10 154 yX10_isPatternAt, .instanceMethod yX10_isPatternAt, .selects RX10 yX10_isPatternAt yX10_isPatternAt] ++ wsX100)
theorem fin_X10_isPatternAtmd0_X10 : ∀ w ∈ wsX100, w ∈ mwX10_isPatternAtmd0 := fun w h => List.mem_cons_of_mem _ (List.mem_append_right _ h)
set_option maxRecDepth 20000 in
theorem mg_X10_isPatternAtmd0_X10_isBranchAt_157 : GoodIn mwX10_isPatternAtmd0 (wsV RX10 157 RX10 yX10_isBranchAt mwX10_isBranchAtmd0) := goodIn_r _ [36, 37, 38, 9, 1, 2, 3, 4, 5, 6, 7, 8, 9, 10, 11, 12, 13, 14, 15, 16, 17, 18, 19, 20, 21, 22, 23, 24, 25, 26, 27, 28, 29, 30, 31, 0, 1, 33, 34, 35, 36, 37, 38, 39, 40, 41, 42, 43, 44, 45, 46, 47, 48, 49, 50, 51, 52, 53, 54, 55, 56, 57, 58, 59, 60, 61, 62, 63, 64, 65, 66, 67, 68, 69, 70, 71, 72, 73, 74, 75, 76, 77, 78, 79, 80, 81, 82, 83, 84, 85, 86, 87, 88, 89] (by decide +kernel) (by decide +kernel)
set_option maxRecDepth 20000 in
theorem mg_X10_isPatternAtmd0_X10_byteAt_133 : GoodIn mwX10_isPatternAtmd0 (wsV RX10 133 RX10 yX10_byteAt mwX10_byteAtm) := goodIn_r _ [6, 7, 8, 9, 3, 4, 5, 42, 43, 44, 45, 46, 47, 48, 49, 50, 51, 52, 53, 54, 55, 56, 57, 58, 59, 60, 61, 62, 63, 64, 65, 66, 67, 68, 69, 70, 71, 72, 73, 74, 75, 76, 77, 78, 79, 80, 81, 82, 83, 84, 85, 86, 87, 88, 89] (by decide +kernel) (by decide +kernel)
set_option maxHeartbeats 4000000 in
set_option maxRecDepth 100000 in
theorem m_isPatternAt0 (l : Launch) (dC : Nat → ClassId) (dI : Nat → Nat → Nat) (ad : Nat → Nat) (kc : Nat → ClassId) (x0 x1 x2 x3 x4 x5 x6 x7 x8 x9 x10 x11 x12 x13 x14 x15 x16 x17 x18 x19 x20 x21 : Int32) (f0 f1 f2 f3 f4 f5 f6 f7 f8 f9 f10 f11 f12 f13 f14 f15 f16 f17 f18 f19 f20 f21 : Nat → Int32) (fL : Nat → Nat → Int64) (fN : Nat → Nat → Int32) (fP : Nat → Nat → Nat) (fM : Nat → Nat → Int32) (fO : Nat → Nat → Int32) (sz : Nat) (i1 : Int32) (q0 : 0 ≤ x7.toInt) (q1 : x7.toInt ≤ x4.toInt) (q2 : x4.toInt ≤ 900) (q3 : 0 ≤ x11.toInt) (q4 : x11.toInt ≤ 24) (q5 : i1.toInt = 0) : Met l yX10_isPatternAt mwX10_isPatternAtmd0 ({ frames := 19, cells := 0, slots := 0, locals := 1140 }) (va_Pc [.ref (ad 0), .int i1] (fun U => U.heap.size = sz ∧ va_P (dC, dI) vwCl (mW ad kc x0 x1 x2 x3 x4 x5 x6 x7 x8 x9 x10 x11 x12 x13 x14 x15 x16 x17 x18 x19 x20 x21 f0 f1 f2 f3 f4 f5 f6 f7 f8 f9 f10 f11 f12 f13 f14 f15 f16 f17 f18 f19 f20 f21 fL fN fP fM fO) U.heap ∧ va_K (dC, dI) vwCl (mT kc) U ∧ va_D (fun _ => True) (mW ad kc x0 x1 x2 x3 x4 x5 x6 x7 x8 x9 x10 x11 x12 x13 x14 x15 x16 x17 x18 x19 x20 x21 f0 f1 f2 f3 f4 f5 f6 f7 f8 f9 f10 f11 f12 f13 f14 f15 f16 f17 f18 f19 f20 f21 fL fN fP fM fO))) (va_Qi (fun (o9 u9 : Int32) => o9 = u9) (fun (o9 : Int32) t => ∃ (y7 y8 y9 y11 : Int32), (x7.toInt ≤ y7.toInt) ∧ (y7.toInt ≤ x4.toInt) ∧ (x11.toInt ≤ y11.toInt) ∧ (y11.toInt ≤ 24) ∧ (o9.toInt = 1 ∧ (pPat (tx f2 x4.toInt) 5 x7.toInt y7.toInt (y11.toInt - x11.toInt) ∧ x11.toInt < y11.toInt ∧ x7.toInt < y7.toInt) ∨ o9.toInt = 0) ∧ va_P (dC, dI) vwCl (mW ad kc x0 x1 x2 x3 x4 x5 x6 y7 y8 y9 x10 y11 x12 x13 x14 x15 x16 x17 x18 x19 x20 x21 f0 f1 f2 f3 f4 f5 f6 f7 f8 f9 f10 f11 f12 f13 f14 f15 f16 f17 f18 f19 f20 f21 fL fN fP fM fO) t.heap ∧ va_K (dC, dI) vwCl (mT kc) t ∧ va_D (va_A (mW ad kc x0 x1 x2 x3 x4 x5 x6 x7 x8 x9 x10 x11 x12 x13 x14 x15 x16 x17 x18 x19 x20 x21 f0 f1 f2 f3 f4 f5 f6 f7 f8 f9 f10 f11 f12 f13 f14 f15 f16 f17 f18 f19 f20 f21 fL fN fP fM fO) sz) (mW ad kc x0 x1 x2 x3 x4 x5 x6 y7 y8 y9 x10 y11 x12 x13 x14 x15 x16 x17 x18 x19 x20 x21 f0 f1 f2 f3 f4 f5 f6 f7 f8 f9 f10 f11 f12 f13 f14 f15 f16 f17 f18 f19 f20 f21 fL fN fP fM fO)) (va_A (mW ad kc x0 x1 x2 x3 x4 x5 x6 x7 x8 x9 x10 x11 x12 x13 x14 x15 x16 x17 x18 x19 x20 x21 f0 f1 f2 f3 f4 f5 f6 f7 f8 f9 f10 f11 f12 f13 f14 f15 f16 f17 f18 f19 f20 f21 fL fN fP fM fO) sz)) 0 0 (va_A (mW ad kc x0 x1 x2 x3 x4 x5 x6 x7 x8 x9 x10 x11 x12 x13 x14 x15 x16 x17 x18 x19 x20 x21 f0 f1 f2 f3 f4 f5 f6 f7 f8 f9 f10 f11 f12 f13 f14 f15 f16 f17 f18 f19 f20 f21 fL fN fP fM fO) sz) := by
  refine Met.ofW (cc := cX10_isPatternAt) (maxL := 2) (ret := (some .boolean)) (by decide +kernel) rfl ?_
  intro p e s m args below meth c s₁ B hml hv
  obtain ⟨rfl, hsz, hP, hK, hD0⟩ := hv
  have hx := B.exec
  have hb := B.bytes
  have hr := B.returns
  have hts := atoms_spec (ws := mwX10_isPatternAtmd0) B.pre
  have hown : s.vm.findClass RX10 = some m.cls := findClass_of_methodNamed B.named
  have hlocks := B.notSynchronized
  subst hsz
  have hD := hD0.self (sz := s.heap.size)
  generalize hAe : va_A (mW ad kc x0 x1 x2 x3 x4 x5 x6 x7 x8 x9 x10 x11 x12 x13 x14 x15 x16 x17 x18 x19 x20 x21 f0 f1 f2 f3 f4 f5 f6 f7 f8 f9 f10 f11 f12 f13 f14 f15 f16 f17 f18 f19 f20 f21 fL fN fP fM fO) s.heap.size = A at hD ⊢
  have hA : ∀ q : Nat, s.heap.size ≤ q → A q := fun q h => by rw [← hAe]; exact Or.inr h
  have hP : va_P (dC, dI) vwCl (mW ad kc x0 x1 x2 x3 x4 x5 x6 x7 x8 x9 x10 x11 x12 x13 x14 x15 x16 x17 x18 x19 x20 x21 f0 f1 f2 f3 f4 f5 f6 f7 f8 f9 f10 f11 f12 f13 f14 f15 f16 f17 f18 f19 f20 f21 fL fN fP fM fO) s.heap := hP
  have hD : va_D A (mW ad kc x0 x1 x2 x3 x4 x5 x6 x7 x8 x9 x10 x11 x12 x13 x14 x15 x16 x17 x18 x19 x20 x21 f0 f1 f2 f3 f4 f5 f6 f7 f8 f9 f10 f11 f12 f13 f14 f15 f16 f17 f18 f19 f20 f21 fL fN fP fM fO) := hD
  have hK : va_K (dC, dI) vwCl (mT kc) s := hK
  generalize hH : s.heap = H at hP ⊢
  have hS : va_S A s.heap H [] := by rw [← hH]; exact va_S.rf
  have hl := lv_entry ([.ref (ad 0), .int i1]) (n := 2) (Nat.le_of_ble_eq_true rfl)
  rw [lg_entry_eq]
  generalize (lg_sl ([.ref (ad 0), .int i1]) ++ List.replicate (2 - (lg_sl ([.ref (ad 0), .int i1])).length) Slot.unset).toArray = ls at hl ⊢
  have hl : lv_has ls 2 [(0, .ref (ad 0)), (1, .int i1)] := hl
  have rg_i1 := i_rng i1
  refine lv_aload_n hx hb dX10_isPatternAt_0 rfl (lv_at hl 0 rfl) ?_
  refine lv_iload_n hx hb dX10_isPatternAt_1 rfl (lv_at hl 1 rfl) ?_
  have hFc := m_free hD hS hA
  refine va_calli (va_runV (As := [.int i1]) (rest := []) ⟨hx, hb, hml, hown, hts⟩ (m_isBranchAt0 l dC dI ad kc x0 x1 x2 x3 x4 x5 x6 x7 x8 x9 x10 x11 x12 x13 x14 x15 x16 x17 x18 x19 x20 x21 f0 f1 f2 f3 f4 f5 f6 f7 f8 f9 f10 f11 f12 f13 f14 f15 f16 f17 f18 f19 f20 f21 fL fN fP fM fO H.size i1 (by first | omega | assumption | decide | (have l0 := Int32.toInt_zero; omega)) (by first | omega | assumption | decide | (have l0 := Int32.toInt_zero; omega)) (by first | omega | assumption | decide | (have l0 := Int32.toInt_zero; omega)) (by first | omega | assumption | decide | (have l0 := Int32.toInt_zero; omega)) (by first | omega | assumption | decide | (have l0 := Int32.toInt_zero; omega)) (by first | omega | assumption | decide | (have l0 := Int32.toInt_zero; omega))) (cwV 1 hts mg_X10_isPatternAtmd0_X10_isBranchAt_157 rfl rfl rfl (by decide +kernel) ⟨Nat.le_of_ble_eq_true rfl, Nat.le_of_ble_eq_true rfl⟩) ⟨fun a U g mk q => by obtain ⟨q0, q1, qP, qK, qD⟩ := q; exact ⟨q0, q1, qP, va_K.moved (u := U) (U := U.calling g mk a) (Vm.Alike.refl U.vm) qK, qD⟩, va_recv hK hP (ci := 10) (q0 := 0) rfl rfl, fun U hU hW => ⟨rfl, by rw [hU], by rw [hU]; exact hP, va_K.moved hW.alike hK, hD.weaken (fun _ _ _ _ => trivial)⟩⟩ rfl rfl hl.1 rfl (lv_room (Nat.le_of_ble_eq_true rfl)) dX10_isPatternAt_2 ⟨Nat.le_of_ble_eq_true rfl, Nat.le_of_ble_eq_true rfl⟩) hS (fun q _ h => hFc q h) hFc (fun r_1 u t H1 locs ht hvm hw hB hz1 hk1 hS => ?_)
  subst hw
  obtain ⟨x_2, x_3, x_4, x_5, hr_1_0, hr_1_1, hr_1_2, hr_1_3, hr_1_4, hP, hK1, hD1⟩ := hB
  rw [ht] at hP
  have hD := hD1.weaken (fun k q _ h => hFc q.1 h)
  generalize H1 = H at hP hS ⊢
  have rg_x_2 := i_rng x_2
  have rg_x_3 := i_rng x_3
  have rg_x_4 := i_rng x_4
  have rg_x_5 := i_rng x_5
  have rg_r_1 := i_rng r_1
  have hP : va_P (dC, dI) vwCl (mW ad kc x0 x1 x2 x3 x4 x5 x6 x_2 x_3 x_4 x10 x_5 x12 x13 x14 x15 x16 x17 x18 x19 x20 x21 f0 f1 f2 f3 f4 f5 f6 f7 f8 f9 f10 f11 f12 f13 f14 f15 f16 f17 f18 f19 f20 f21 fL fN fP fM fO) H := hP
  have hD : va_D A (mW ad kc x0 x1 x2 x3 x4 x5 x6 x_2 x_3 x_4 x10 x_5 x12 x13 x14 x15 x16 x17 x18 x19 x20 x21 f0 f1 f2 f3 f4 f5 f6 f7 f8 f9 f10 f11 f12 f13 f14 f15 f16 f17 f18 f19 f20 f21 fL fN fP fM fO) := hD
  refine lv_if_ne (tgt := 10) hx hb dX10_isPatternAt_5 (by decide) (fun k_6 => ?_) (fun k_6 => ?_)
  · have tk_6 := c_ne (a := r_1.toInt) (b := 0) rfl (by decide) k_6
    have hT := tf_t hr_1_4 (by omega)
    have loop10 : ∀ (lm10 : Nat) (ea fa fb sa : Int32), (x7.toInt ≤ ea.toInt) → (ea.toInt ≤ x4.toInt) → (x11.toInt ≤ sa.toInt) → (sa.toInt ≤ 24) → (paI (tx f2 x4.toInt) (pSub (tx f2 x4.toInt) 5) x7.toInt ea.toInt x11.toInt sa.toInt) → ((x4.toInt - ea.toInt).toNat) < lm10 → ∀ (H : Heap) (locs : List Loc) (ls : Array Slot), va_P (dC, dI) vwCl (mW ad kc x0 x1 x2 x3 x4 x5 x6 ea fa fb x10 sa x12 x13 x14 x15 x16 x17 x18 x19 x20 x21 f0 f1 f2 f3 f4 f5 f6 f7 f8 f9 f10 f11 f12 f13 f14 f15 f16 f17 f18 f19 f20 f21 fL fN fP fM fO) H → va_D A (mW ad kc x0 x1 x2 x3 x4 x5 x6 ea fa fb x10 sa x12 x13 x14 x15 x16 x17 x18 x19 x20 x21 f0 f1 f2 f3 f4 f5 f6 f7 f8 f9 f10 f11 f12 f13 f14 f15 f16 f17 f18 f19 f20 f21 fL fN fP fM fO) → va_S A s.heap H locs → lv_has ls 2 [(0, .ref (ad 0)), (1, .int i1)] → W p l e (headSpec mwX10_isPatternAtmd0 ({ frames := 19, cells := 0, slots := 0, locals := 1140 })).room s m ([.ref (ad 0), .int i1]).toArray below meth c H locs 0 0 (MQ below (va_Qi (fun (o9 u9 : Int32) => o9 = u9) (fun (o9 : Int32) t => ∃ (y7 y8 y9 y11 : Int32), (x7.toInt ≤ y7.toInt) ∧ (y7.toInt ≤ x4.toInt) ∧ (x11.toInt ≤ y11.toInt) ∧ (y11.toInt ≤ 24) ∧ (o9.toInt = 1 ∧ (pPat (tx f2 x4.toInt) 5 x7.toInt y7.toInt (y11.toInt - x11.toInt) ∧ x11.toInt < y11.toInt ∧ x7.toInt < y7.toInt) ∨ o9.toInt = 0) ∧ va_P (dC, dI) vwCl (mW ad kc x0 x1 x2 x3 x4 x5 x6 y7 y8 y9 x10 y11 x12 x13 x14 x15 x16 x17 x18 x19 x20 x21 f0 f1 f2 f3 f4 f5 f6 f7 f8 f9 f10 f11 f12 f13 f14 f15 f16 f17 f18 f19 f20 f21 fL fN fP fM fO) t.heap ∧ va_K (dC, dI) vwCl (mT kc) t ∧ va_D A (mW ad kc x0 x1 x2 x3 x4 x5 x6 y7 y8 y9 x10 y11 x12 x13 x14 x15 x16 x17 x18 x19 x20 x21 f0 f1 f2 f3 f4 f5 f6 f7 f8 f9 f10 f11 f12 f13 f14 f15 f16 f17 f18 f19 f20 f21 fL fN fP fM fO)) A) ([.ref (ad 0), .int i1]).toArray s 0 0 A) (F0 m 10 ls []) := by
      intro lm10
      induction lm10 with
      | zero => intro ea fa fb sa v10_0 v10_1 v10_2 v10_3 v10_4 hm10; exact absurd hm10 (Nat.not_lt_zero _)
      | succ lm10 ih10 =>
        intro ea fa fb sa v10_0 v10_1 v10_2 v10_3 v10_4 hm10 H locs ls hP hD hS hl
        have rg_ea := i_rng ea
        have rg_fa := i_rng fa
        have rg_fb := i_rng fb
        have rg_sa := i_rng sa
        refine lv_aload_n hx hb dX10_isPatternAt_10 rfl (lv_at hl 0 rfl) ?_
        refine lv_aload_n hx hb dX10_isPatternAt_11 rfl (lv_at hl 0 rfl) ?_
        refine va_get (D := (dC, dI)) (ci := 10) (v := .int ea) (C := RX10) (T := TX10) (N := 48) hx hb hts fin_X10_isPatternAtmd0_X10 hown hK hP 0 rfl rfl 10 (by decide) (hts (.fieldLink RX10 130 "PatternGateModel" "end" "I") (List.mem_of_getElem? (i := 2) (by decide +kernel))) (fun _ h9 => h9) rfl dX10_isPatternAt_12 ?_
        refine vp_callSi (W.runV (As := [.int ea]) (rest := []) ⟨hx, hb, hml, hown, hts⟩ (m_byteAt l dC dI ad kc x0 x1 x2 x3 x4 x5 x6 ea fa fb x10 sa x12 x13 x14 x15 x16 x17 x18 x19 x20 x21 f0 f1 f2 f3 f4 f5 f6 f7 f8 f9 f10 f11 f12 f13 f14 f15 f16 f17 f18 f19 f20 f21 fL fN fP fM fO ea (by first | omega | assumption | decide | (have l0 := Int32.toInt_zero; omega)) (by first | omega | assumption | decide | (have l0 := Int32.toInt_zero; omega))) (cwV 1 hts mg_X10_isPatternAtmd0_X10_byteAt_133 rfl rfl rfl (by decide +kernel) ⟨Nat.le_of_ble_eq_true rfl, Nat.le_of_ble_eq_true rfl⟩) ⟨fun a U g mk q => by obtain ⟨q0, qP, qK⟩ := q; exact ⟨q0, qP, va_K.moved (u := U) (U := U.calling g mk a) (Vm.Alike.refl U.vm) qK⟩, va_recv hK hP (ci := 10) (q0 := 0) rfl rfl, fun U hU hW => ⟨rfl, by rw [hU]; exact hP, va_K.moved hW.alike hK⟩⟩ rfl rfl hl.1 rfl (lv_room (Nat.le_of_ble_eq_true rfl)) dX10_isPatternAt_15 ⟨Nat.le_of_ble_eq_true rfl, Nat.le_of_ble_eq_true rfl⟩) (fun r_7 hr_7 => ?_)
        have rg_r_7 := i_rng r_7
        refine lv_bipush (v := 124) hx hb dX10_isPatternAt_18 (by decide) ?_
        refine lv_icmp_ne (tgt := 43) hx hb dX10_isPatternAt_20 (by decide) (fun k_8 => ?_) (fun k_8 => ?_)
        · have tk_8 := c_ne (a := r_7.toInt) (b := 124) rfl (by decide) k_8
          refine lv_iconst (v := 1) hx hb dX10_isPatternAt_43 (by decide) ?_
          have lit_8 : (1 : Int32).toInt = 1 := by decide
          exact W.zret hx hb hr (z_nar (by first | assumption | decide | exact z_of (by omega))) (fun t ht hW => ⟨⟨_, _, rfl, rfl, ea, fa, fb, sa, (by first | omega | assumption | rfl | decide), (by first | omega | assumption | rfl | decide), (by first | omega | assumption | rfl | decide), (by first | omega | assumption | rfl | decide), (Or.inl ⟨by decide, pa_end v10_4 (by omega)⟩), by rw [ht]; exact hP, va_K.moved hW.alike hK, hD⟩, hS.F ht⟩) hS.2.2 dX10_isPatternAt_44
        · have tk_8 := c_eq (a := r_7.toInt) (b := 124) rfl (by decide) k_8
          refine lv_aload_n hx hb dX10_isPatternAt_23 rfl (lv_at hl 0 rfl) ?_
          refine lv_dup hx hb dX10_isPatternAt_24 rfl ?_
          refine va_get (D := (dC, dI)) (ci := 10) (v := .int ea) (C := RX10) (T := TX10) (N := 48) hx hb hts fin_X10_isPatternAtmd0_X10 hown hK hP 0 rfl rfl 10 (by decide) (hts (.fieldLink RX10 130 "PatternGateModel" "end" "I") (List.mem_of_getElem? (i := 2) (by decide +kernel))) (fun _ h9 => h9) rfl dX10_isPatternAt_25 ?_
          refine lv_iconst (v := 1) hx hb dX10_isPatternAt_28 (by decide) ?_
          refine lv_iadd hx hb dX10_isPatternAt_29 ?_
          refine lv_topi (fun y_10 ey_10 => ?_)
          first | have ty_10 := i_add (a := ea.toInt) (b := 1) rfl (by decide) ey_10 (by omega) (by omega) | skip
          refine va_put (D := (dC, dI)) (ci := 10) (v := .int y_10) (ty := .int) (C := RX10) (T := TX10) (N := 48) hx hb hts fin_X10_isPatternAtmd0_X10 tyX10 tyX10_ok nmX10 hown hK hP hD hS 0 rfl rfl 10 (by decide) (hts (.fieldLink RX10 130 "PatternGateModel" "end" "I") (List.mem_of_getElem? (i := 2) (by decide +kernel))) (fun _ h9 => h9) rfl (by decide +kernel) rfl rfl (Nat.le_of_ble_eq_true rfl) dX10_isPatternAt_30 (fun H locs hP hD hS => ?_)
          have hP : va_P (dC, dI) vwCl (mW ad kc x0 x1 x2 x3 x4 x5 x6 y_10 fa fb x10 sa x12 x13 x14 x15 x16 x17 x18 x19 x20 x21 f0 f1 f2 f3 f4 f5 f6 f7 f8 f9 f10 f11 f12 f13 f14 f15 f16 f17 f18 f19 f20 f21 fL fN fP fM fO) H := hP
          have hD : va_D A (mW ad kc x0 x1 x2 x3 x4 x5 x6 y_10 fa fb x10 sa x12 x13 x14 x15 x16 x17 x18 x19 x20 x21 f0 f1 f2 f3 f4 f5 f6 f7 f8 f9 f10 f11 f12 f13 f14 f15 f16 f17 f18 f19 f20 f21 fL fN fP fM fO) := hD
          refine lv_aload_n hx hb dX10_isPatternAt_33 rfl (lv_at hl 0 rfl) ?_
          refine lv_iload_n hx hb dX10_isPatternAt_34 rfl (lv_at hl 1 rfl) ?_
          have hFc := m_free hD hS hA
          refine va_calli (va_runV (As := [.int i1]) (rest := []) ⟨hx, hb, hml, hown, hts⟩ (m_isBranchAt0 l dC dI ad kc x0 x1 x2 x3 x4 x5 x6 y_10 fa fb x10 sa x12 x13 x14 x15 x16 x17 x18 x19 x20 x21 f0 f1 f2 f3 f4 f5 f6 f7 f8 f9 f10 f11 f12 f13 f14 f15 f16 f17 f18 f19 f20 f21 fL fN fP fM fO H.size i1 (by first | omega | assumption | decide | (have l0 := Int32.toInt_zero; omega)) (by first | omega | assumption | decide | (have l0 := Int32.toInt_zero; omega)) (by first | omega | assumption | decide | (have l0 := Int32.toInt_zero; omega)) (by first | omega | assumption | decide | (have l0 := Int32.toInt_zero; omega)) (by first | omega | assumption | decide | (have l0 := Int32.toInt_zero; omega)) (by first | omega | assumption | decide | (have l0 := Int32.toInt_zero; omega))) (cwV 1 hts mg_X10_isPatternAtmd0_X10_isBranchAt_157 rfl rfl rfl (by decide +kernel) ⟨Nat.le_of_ble_eq_true rfl, Nat.le_of_ble_eq_true rfl⟩) ⟨fun a U g mk q => by obtain ⟨q0, q1, qP, qK, qD⟩ := q; exact ⟨q0, q1, qP, va_K.moved (u := U) (U := U.calling g mk a) (Vm.Alike.refl U.vm) qK, qD⟩, va_recv hK hP (ci := 10) (q0 := 0) rfl rfl, fun U hU hW => ⟨rfl, by rw [hU], by rw [hU]; exact hP, va_K.moved hW.alike hK, hD.weaken (fun _ _ _ _ => trivial)⟩⟩ rfl rfl hl.1 rfl (lv_room (Nat.le_of_ble_eq_true rfl)) dX10_isPatternAt_35 ⟨Nat.le_of_ble_eq_true rfl, Nat.le_of_ble_eq_true rfl⟩) hS (fun q _ h => hFc q h) hFc (fun r_11 u t H1 locs ht hvm hw hB hz1 hk1 hS => ?_)
          subst hw
          obtain ⟨x_12, x_13, x_14, x_15, hr_11_0, hr_11_1, hr_11_2, hr_11_3, hr_11_4, hP, hK1, hD1⟩ := hB
          rw [ht] at hP
          have hD := hD1.weaken (fun k q _ h => hFc q.1 h)
          generalize H1 = H at hP hS ⊢
          have rg_x_12 := i_rng x_12
          have rg_x_13 := i_rng x_13
          have rg_x_14 := i_rng x_14
          have rg_x_15 := i_rng x_15
          have rg_r_11 := i_rng r_11
          have hP : va_P (dC, dI) vwCl (mW ad kc x0 x1 x2 x3 x4 x5 x6 x_12 x_13 x_14 x10 x_15 x12 x13 x14 x15 x16 x17 x18 x19 x20 x21 f0 f1 f2 f3 f4 f5 f6 f7 f8 f9 f10 f11 f12 f13 f14 f15 f16 f17 f18 f19 f20 f21 fL fN fP fM fO) H := hP
          have hD : va_D A (mW ad kc x0 x1 x2 x3 x4 x5 x6 x_12 x_13 x_14 x10 x_15 x12 x13 x14 x15 x16 x17 x18 x19 x20 x21 f0 f1 f2 f3 f4 f5 f6 f7 f8 f9 f10 f11 f12 f13 f14 f15 f16 f17 f18 f19 f20 f21 fL fN fP fM fO) := hD
          refine lv_if_ne (tgt := 10) hx hb dX10_isPatternAt_38 (by decide) (fun k_16 => ?_) (fun k_16 => ?_)
          · have tk_16 := c_ne (a := r_11.toInt) (b := 0) rfl (by decide) k_16
            have hT := tf_t hr_11_4 (by omega)
            exact ih10 x_12 x_13 x_14 x_15 (by first | omega | assumption | decide) (by first | omega | assumption | decide) (by first | omega | assumption | decide) (by first | omega | assumption | decide) (pa_add v10_4 (by omega) (by omega) hT) (by omega) _ _ ls hP hD hS (lv_sub hl [0, 1] rfl)
          · have tk_16 := c_eq (a := r_11.toInt) (b := 0) rfl (by decide) k_16
            refine lv_iconst (v := 0) hx hb dX10_isPatternAt_41 (by decide) ?_
            have lit_16 : (0 : Int32).toInt = 0 := by decide
            exact W.zret hx hb hr (z_nar (by first | assumption | decide | exact z_of (by omega))) (fun t ht hW => ⟨⟨_, _, rfl, rfl, x_12, x_13, x_14, x_15, (by first | omega | assumption | rfl | decide), (by first | omega | assumption | rfl | decide), (by first | omega | assumption | rfl | decide), (by first | omega | assumption | rfl | decide), (Or.inr (by first | omega | decide)), by rw [ht]; exact hP, va_K.moved hW.alike hK, hD⟩, hS.F ht⟩) hS.2.2 dX10_isPatternAt_42
    exact loop10 _ x_2 x_3 x_4 x_5 (by first | omega | assumption | decide) (by first | omega | assumption | decide) (by first | omega | assumption | decide) (by first | omega | assumption | decide) (pa_one hT) (Nat.lt_succ_self _) _ _ ls hP hD hS (lv_sub hl [0, 1] rfl)
  · have tk_6 := c_eq (a := r_1.toInt) (b := 0) rfl (by decide) k_6
    refine lv_iconst (v := 0) hx hb dX10_isPatternAt_8 (by decide) ?_
    have lit_17 : (0 : Int32).toInt = 0 := by decide
    exact W.zret hx hb hr (z_nar (by first | assumption | decide | exact z_of (by omega))) (fun t ht hW => ⟨⟨_, _, rfl, rfl, x_2, x_3, x_4, x_5, (by first | omega | assumption | rfl | decide), (by first | omega | assumption | rfl | decide), (by first | omega | assumption | rfl | decide), (by first | omega | assumption | rfl | decide), (Or.inr (by first | omega | decide)), by rw [ht]; exact hP, va_K.moved hW.alike hK, hD⟩, hS.F ht⟩) hS.2.2 dX10_isPatternAt_9

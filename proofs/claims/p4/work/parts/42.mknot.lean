def mwX10_itemKnotmk2 : List Cond := .code yX10_itemKnot cX10_itemKnot 4 (some .int) :: ([.code yX10_knot cX10_knot 2 (some .int), .fieldLink RX10 28 "PatternGateModel" "kind" "[I", .fieldLink RX10 223 "PatternGateModel" "knots" "I", .fieldLink RX10 31 "PatternGateModel" "first" "[I", .fieldLink RX10 34 "PatternGateModel" "next" "[I", .fieldLink RX10 43 "PatternGateModel" "sign" "[I", .methodLink RX10 226 yX10_knot, .instanceMethod yX10_knot, .selects RX10 yX10_knot yX10_knot, .initialized RX10, .code yX10_signAt cX10_signAt 1 (some .int), .fieldLink RX10 217 "PatternGateModel" "reached" "I", .fieldLink RX10 8 "PatternGateModel" "all" "[I", .fieldLink RX10 220 "PatternGateModel" "pattern0" "I", .methodLink RX10 236 yX10_signAt, .instanceMethod yX10_signAt, .selects RX10 yX10_signAt yX10_signAt, .code yX10_spotKnot cX10_spotKnot 3 (some .int), .fieldLink RX10 40 "PatternGateModel" "spot" "[I", .fieldLink RX10 248 "PatternGateModel" "spotMany" "I", .fieldLink RX10 37 "PatternGateModel" "letters" "[I", .constant RX10 251 (67108863), .methodLink RX10 245 yX10_spotKnot, .instanceMethod yX10_spotKnot, .selects RX10 yX10_spotKnot yX10_spotKnot, .code yX10_joins cX10_joins 4 (some .int), .methodLink RX10 232 yX10_joins, .instanceMethod yX10_joins, .selects RX10 yX10_joins yX10_joins, .code yX10_patternKnot cX10_patternKnot 3 (some .int), .code yX10_branchKnot cX10_branchKnot 3 (some .int), .code yX10_itemKnot cX10_itemKnot 4 (some .int), .methodLink RX10 239 yX10_itemKnot, .instanceMethod yX10_itemKnot, .selects RX10 yX10_itemKnot yX10_itemKnot, .methodLink RX10 229 yX10_branchKnot, .instanceMethod yX10_branchKnot, .selects RX10 yX10_branchKnot yX10_branchKnot, .methodLink RX10 242 yX10_patternKnot, .instanceMethod yX10_patternKnot, .selects RX10 yX10_patternKnot yX10_patternKnot] ++ wsX100)
theorem fin_X10_itemKnotmk2_X10 : ∀ w ∈ wsX100, w ∈ mwX10_itemKnotmk2 := fun w h => List.mem_cons_of_mem _ (List.mem_append_right _ h)
set_option maxRecDepth 20000 in
theorem mg_X10_itemKnotmk2_X10_knot_226 : GoodIn mwX10_itemKnotmk2 (wsV RX10 226 RX10 yX10_knot mwX10_knotm) := goodIn_r _ [7, 8, 9, 10, 1, 2, 3, 4, 5, 6, 42, 43, 44, 45, 46, 47, 48, 49, 50, 51, 52, 53, 54, 55, 56, 57, 58, 59, 60, 61, 62, 63, 64, 65, 66, 67, 68, 69, 70, 71, 72, 73, 74, 75, 76, 77, 78, 79, 80, 81, 82, 83, 84, 85, 86, 87, 88, 89] (by decide +kernel) (by decide +kernel)
set_option maxRecDepth 20000 in
theorem mg_X10_itemKnotmk2_X10_signAt_236 : GoodIn mwX10_itemKnotmk2 (wsV RX10 236 RX10 yX10_signAt mwX10_signAtm) := goodIn_r _ [15, 16, 17, 10, 11, 12, 13, 14, 42, 43, 44, 45, 46, 47, 48, 49, 50, 51, 52, 53, 54, 55, 56, 57, 58, 59, 60, 61, 62, 63, 64, 65, 66, 67, 68, 69, 70, 71, 72, 73, 74, 75, 76, 77, 78, 79, 80, 81, 82, 83, 84, 85, 86, 87, 88, 89] (by decide +kernel) (by decide +kernel)
set_option maxRecDepth 20000 in
theorem mg_X10_itemKnotmk2_X10_spotKnot_245 : GoodIn mwX10_itemKnotmk2 (wsV RX10 245 RX10 yX10_spotKnot mwX10_spotKnotm) := goodIn_r _ [23, 24, 25, 10, 18, 1, 2, 3, 4, 5, 6, 7, 8, 9, 10, 19, 20, 21, 12, 11, 13, 14, 15, 16, 17, 22, 42, 43, 44, 45, 46, 47, 48, 49, 50, 51, 52, 53, 54, 55, 56, 57, 58, 59, 60, 61, 62, 63, 64, 65, 66, 67, 68, 69, 70, 71, 72, 73, 74, 75, 76, 77, 78, 79, 80, 81, 82, 83, 84, 85, 86, 87, 88, 89] (by decide +kernel) (by decide +kernel)
set_option maxRecDepth 20000 in
theorem mg_X10_itemKnotmk2_X10_joins_232 : GoodIn mwX10_itemKnotmk2 (wsV RX10 232 RX10 yX10_joins mwX10_joinsm) := goodIn_r _ [27, 28, 29, 10, 26, 5, 4, 42, 43, 44, 45, 46, 47, 48, 49, 50, 51, 52, 53, 54, 55, 56, 57, 58, 59, 60, 61, 62, 63, 64, 65, 66, 67, 68, 69, 70, 71, 72, 73, 74, 75, 76, 77, 78, 79, 80, 81, 82, 83, 84, 85, 86, 87, 88, 89] (by decide +kernel) (by decide +kernel)
set_option maxRecDepth 20000 in
theorem mg_X10_itemKnotmk2_X10_patternKnot_242 : GoodIn mwX10_itemKnotmk2 (wsV RX10 242 RX10 yX10_patternKnot mwX10_patternKnotmk1) := goodIn_r _ [39, 40, 41, 10, 30, 1, 2, 3, 4, 5, 6, 7, 8, 9, 10, 31, 11, 12, 13, 14, 15, 16, 17, 0, 18, 19, 20, 21, 22, 23, 24, 25, 26, 27, 28, 29, 30, 33, 34, 35, 36, 37, 38, 39, 40, 41, 42, 43, 44, 45, 46, 47, 48, 49, 50, 51, 52, 53, 54, 55, 56, 57, 58, 59, 60, 61, 62, 63, 64, 65, 66, 67, 68, 69, 70, 71, 72, 73, 74, 75, 76, 77, 78, 79, 80, 81, 82, 83, 84, 85, 86, 87, 88, 89] (by decide +kernel) (by decide +kernel)
set_option maxHeartbeats 4000000 in
set_option maxRecDepth 100000 in
theorem m_itemKnot2 (l : Launch) (dC : Nat → ClassId) (dI : Nat → Nat → Nat) (ad : Nat → Nat) (kc : Nat → ClassId) (x0 x1 x2 x3 x4 x5 x6 x7 x8 x9 x10 x11 x12 x13 x14 x15 x16 x17 x18 x19 x20 x21 : Int32) (f0 f1 f2 f3 f4 f5 f6 f7 f8 f9 f10 f11 f12 f13 f14 f15 f16 f17 f18 f19 f20 f21 : Nat → Int32) (fL : Nat → Nat → Int64) (fN : Nat → Nat → Int32) (fP : Nat → Nat → Nat) (fM : Nat → Nat → Int32) (fO : Nat → Nat → Int32) (sz : Nat) (bb : Int) (mm : Int) (q0 : 0 ≤ x12.toInt) (q1 : 0 ≤ x13.toInt) (q2 : bb ≤ 900) (q3 : 0 ≤ x14.toInt) (q4 : x14.toInt < 8) (q5 : vI f0 (612 + x14.toInt) ≤ 900) (q6 : 0 ≤ x15.toInt) (q7 : x15.toInt + mm ≤ 24) (q8 : pItem (tp f0 x14.toInt) (pSub (tp f0 x14.toInt) 2) x13.toInt bb mm) (q9 : x12.toInt + 8 * mm ≤ 1600) : Met l yX10_itemKnot mwX10_itemKnotmk2 ({ frames := 8, cells := 0, slots := 0, locals := 480 }) (va_Pc [.ref (ad 0)] (fun U => U.heap.size = sz ∧ va_P (dC, dI) vwCl (mW ad kc x0 x1 x2 x3 x4 x5 x6 x7 x8 x9 x10 x11 x12 x13 x14 x15 x16 x17 x18 x19 x20 x21 f0 f1 f2 f3 f4 f5 f6 f7 f8 f9 f10 f11 f12 f13 f14 f15 f16 f17 f18 f19 f20 f21 fL fN fP fM fO) U.heap ∧ va_K (dC, dI) vwCl (mT kc) U ∧ va_D (fun _ => True) (mW ad kc x0 x1 x2 x3 x4 x5 x6 x7 x8 x9 x10 x11 x12 x13 x14 x15 x16 x17 x18 x19 x20 x21 f0 f1 f2 f3 f4 f5 f6 f7 f8 f9 f10 f11 f12 f13 f14 f15 f16 f17 f18 f19 f20 f21 fL fN fP fM fO))) (va_Qi (fun (o9 u9 : Int32) => o9 = u9) (fun (o9 : Int32) t => ∃ (y12 y13 y15 : Int32) (g3 g4 g5 g6 g7 g8 : Nat → Int32), (o9.toInt = x12.toInt) ∧ (y13.toInt = bb) ∧ (y15.toInt = x15.toInt + mm) ∧ (x12.toInt + 2 ≤ y12.toInt ∧ y12.toInt ≤ x12.toInt + 8 * mm) ∧ (tItem (mV g3 g4 g5 g7) (tSub (mV g3 g4 g5 g7) 2) x12.toInt y12.toInt mm) ∧ (∀ (q : Nat) (z : Int), 0 ≤ z → z < x12.toInt → (mV g3 g4 g5 g7) q z = (mV f3 f4 f5 f7) q z) ∧ ((mV g3 g4 g5 g7) 2 x12.toInt = -1) ∧ va_P (dC, dI) vwCl (mW ad kc x0 x1 x2 x3 x4 x5 x6 x7 x8 x9 x10 x11 y12 y13 x14 y15 x16 x17 x18 x19 x20 x21 f0 f1 f2 g3 g4 g5 g6 g7 g8 f9 f10 f11 f12 f13 f14 f15 f16 f17 f18 f19 f20 f21 fL fN fP fM fO) t.heap ∧ va_K (dC, dI) vwCl (mT kc) t ∧ va_D (va_A (mW ad kc x0 x1 x2 x3 x4 x5 x6 x7 x8 x9 x10 x11 x12 x13 x14 x15 x16 x17 x18 x19 x20 x21 f0 f1 f2 f3 f4 f5 f6 f7 f8 f9 f10 f11 f12 f13 f14 f15 f16 f17 f18 f19 f20 f21 fL fN fP fM fO) sz) (mW ad kc x0 x1 x2 x3 x4 x5 x6 x7 x8 x9 x10 x11 y12 y13 x14 y15 x16 x17 x18 x19 x20 x21 f0 f1 f2 g3 g4 g5 g6 g7 g8 f9 f10 f11 f12 f13 f14 f15 f16 f17 f18 f19 f20 f21 fL fN fP fM fO)) (va_A (mW ad kc x0 x1 x2 x3 x4 x5 x6 x7 x8 x9 x10 x11 x12 x13 x14 x15 x16 x17 x18 x19 x20 x21 f0 f1 f2 f3 f4 f5 f6 f7 f8 f9 f10 f11 f12 f13 f14 f15 f16 f17 f18 f19 f20 f21 fL fN fP fM fO) sz)) 0 0 (va_A (mW ad kc x0 x1 x2 x3 x4 x5 x6 x7 x8 x9 x10 x11 x12 x13 x14 x15 x16 x17 x18 x19 x20 x21 f0 f1 f2 f3 f4 f5 f6 f7 f8 f9 f10 f11 f12 f13 f14 f15 f16 f17 f18 f19 f20 f21 fL fN fP fM fO) sz) := by
  refine Met.ofW (cc := cX10_itemKnot) (maxL := 4) (ret := (some .int)) (by decide +kernel) rfl ?_
  intro p e s m args below meth c s₁ B hml hv
  obtain ⟨rfl, hsz, hP, hK, hD0⟩ := hv
  have hx := B.exec
  have hb := B.bytes
  have hr := B.returns
  have hts := atoms_spec (ws := mwX10_itemKnotmk2) B.pre
  have hown : s.vm.findClass RX10 = some m.cls := findClass_of_methodNamed B.named
  have hlocks := B.notSynchronized
  subst hsz
  have hD := hD0.self (sz := s.heap.size)
  generalize hAe : va_A (mW ad kc x0 x1 x2 x3 x4 x5 x6 x7 x8 x9 x10 x11 x12 x13 x14 x15 x16 x17 x18 x19 x20 x21 f0 f1 f2 f3 f4 f5 f6 f7 f8 f9 f10 f11 f12 f13 f14 f15 f16 f17 f18 f19 f20 f21 fL fN fP fM fO) s.heap.size = A at hD ⊢
  have hA : ∀ q : Nat, s.heap.size ≤ q → A q := fun q h => by rw [← hAe]; exact Or.inr h
  have hP : va_P (dC, dI) vwCl (mW ad kc x0 x1 x2 x3 x4 x5 x6 x7 x8 x9 x10 x11 x12 x13 x14 x15 x16 x17 x18 x19 x20 x21 f0 f1 f2 f3 f4 f5 f6 f7 f8 f9 f10 f11 f12 f13 f14 f15 f16 f17 f18 f19 f20 f21 fL fN fP fM fO) s.heap := hP
  have hD : va_D A (mW ad kc x0 x1 x2 x3 x4 x5 x6 x7 x8 x9 x10 x11 x12 x13 x14 x15 x16 x17 x18 x19 x20 x21 f0 f1 f2 f3 f4 f5 f6 f7 f8 f9 f10 f11 f12 f13 f14 f15 f16 f17 f18 f19 f20 f21 fL fN fP fM fO) := hD
  have hK : va_K (dC, dI) vwCl (mT kc) s := hK
  generalize hH : s.heap = H at hP ⊢
  have hS : va_S A s.heap H [] := by rw [← hH]; exact va_S.rf
  have hl := lv_entry ([.ref (ad 0)]) (n := 4) (Nat.le_of_ble_eq_true rfl)
  rw [lg_entry_eq]
  generalize (lg_sl ([.ref (ad 0)]) ++ List.replicate (4 - (lg_sl ([.ref (ad 0)])).length) Slot.unset).toArray = ls at hl ⊢
  have hl : lv_has ls 4 [(0, .ref (ad 0))] := hl
  obtain ⟨ee, hAx, hQ⟩ := it_un q8
  have hps := pos_item (pos_sub 2) q8
  have hmo := mono_atom (mono_sub 2) hAx
  refine lv_aload_n hx hb dX10_itemKnot_0 rfl (lv_at hl 0 rfl) ?_
  refine lv_iconst (v := 1) hx hb dX10_itemKnot_1 (by decide) ?_
  have hFc := m_free hD hS hA
  refine va_calli (va_runV (As := [.int 1]) (rest := []) ⟨hx, hb, hml, hown, hts⟩ (m_knot l dC dI ad kc x0 x1 x2 x3 x4 x5 x6 x7 x8 x9 x10 x11 x12 x13 x14 x15 x16 x17 x18 x19 x20 x21 f0 f1 f2 f3 f4 f5 f6 f7 f8 f9 f10 f11 f12 f13 f14 f15 f16 f17 f18 f19 f20 f21 fL fN fP fM fO H.size 1 (by first | omega | assumption | decide | (have l0 := Int32.toInt_zero; omega)) (by first | omega | assumption | decide | (have l0 := Int32.toInt_zero; omega))) (cwV 1 hts mg_X10_itemKnotmk2_X10_knot_226 rfl rfl rfl (by decide +kernel) ⟨Nat.le_of_ble_eq_true rfl, Nat.le_of_ble_eq_true rfl⟩) ⟨fun a U g mk q => by obtain ⟨q0, q1, qP, qK, qD⟩ := q; exact ⟨q0, q1, qP, va_K.moved (u := U) (U := U.calling g mk a) (Vm.Alike.refl U.vm) qK, qD⟩, va_recv hK hP (ci := 10) (q0 := 0) rfl rfl, fun U hU hW => ⟨rfl, by rw [hU], by rw [hU]; exact hP, va_K.moved hW.alike hK, hD.weaken (fun _ _ _ _ => trivial)⟩⟩ rfl rfl hl.1 rfl (lv_room (Nat.le_of_ble_eq_true rfl)) dX10_itemKnot_2 ⟨Nat.le_of_ble_eq_true rfl, Nat.le_of_ble_eq_true rfl⟩) hS (fun q _ h => hFc q h) hFc (fun r_1 u t H1 locs ht hvm hw hB hz1 hk1 hS => ?_)
  subst hw
  obtain ⟨x_2, f_3, f_4, f_5, f_6, hr_1_0, hr_1_1, hr_1_2, hr_1_3, hP, hK1, hD1⟩ := hB
  rw [ht] at hP
  have hD := hD1.weaken (fun k q _ h => hFc q.1 h)
  generalize H1 = H at hP hS ⊢
  have rg_x_2 := i_rng x_2
  have rg_r_1 := i_rng r_1
  have hP : va_P (dC, dI) vwCl (mW ad kc x0 x1 x2 x3 x4 x5 x6 x7 x8 x9 x10 x11 x_2 x13 x14 x15 x16 x17 x18 x19 x20 x21 f0 f1 f2 f_3 f_4 f_5 f6 f7 f_6 f9 f10 f11 f12 f13 f14 f15 f16 f17 f18 f19 f20 f21 fL fN fP fM fO) H := hP
  have hD : va_D A (mW ad kc x0 x1 x2 x3 x4 x5 x6 x7 x8 x9 x10 x11 x_2 x13 x14 x15 x16 x17 x18 x19 x20 x21 f0 f1 f2 f_3 f_4 f_5 f6 f7 f_6 f9 f10 f11 f12 f13 f14 f15 f16 f17 f18 f19 f20 f21 fL fN fP fM fO) := hD
  refine lv_istore_n (lv' := [(1, .int r_1), (0, .ref (ad 0))]) hx hb dX10_itemKnot_5 rfl hl (by decide) rfl (fun ls hl => ?_)
  refine lv_aload_n hx hb dX10_itemKnot_6 rfl (lv_at hl 1 rfl) ?_
  refine vp_callSi (W.runV (As := []) (rest := []) ⟨hx, hb, hml, hown, hts⟩ (m_signAt l dC dI ad kc x0 x1 x2 x3 x4 x5 x6 x7 x8 x9 x10 x11 x_2 x13 x14 x15 x16 x17 x18 x19 x20 x21 f0 f1 f2 f_3 f_4 f_5 f6 f7 f_6 f9 f10 f11 f12 f13 f14 f15 f16 f17 f18 f19 f20 f21 fL fN fP fM fO (by first | omega | assumption | decide | (have l0 := Int32.toInt_zero; omega)) (by first | omega | assumption | decide | (have l0 := Int32.toInt_zero; omega)) (by first | omega | assumption | decide | (have l0 := Int32.toInt_zero; omega)) (by first | omega | assumption | decide | (have l0 := Int32.toInt_zero; omega)) (by first | omega | assumption | decide | (have l0 := Int32.toInt_zero; omega))) (cwV 0 hts mg_X10_itemKnotmk2_X10_signAt_236 rfl rfl rfl (by decide +kernel) ⟨Nat.le_of_ble_eq_true rfl, Nat.le_of_ble_eq_true rfl⟩) ⟨fun a U g mk q => by obtain ⟨q0, qP, qK⟩ := q; exact ⟨q0, qP, va_K.moved (u := U) (U := U.calling g mk a) (Vm.Alike.refl U.vm) qK⟩, va_recv hK hP (ci := 10) (q0 := 0) rfl rfl, fun U hU hW => ⟨rfl, by rw [hU]; exact hP, va_K.moved hW.alike hK⟩⟩ rfl rfl hl.1 rfl (lv_room (Nat.le_of_ble_eq_true rfl)) dX10_itemKnot_7 ⟨Nat.le_of_ble_eq_true rfl, Nat.le_of_ble_eq_true rfl⟩) (fun r_7 hr_7 => ?_)
  have rg_r_7 := i_rng r_7
  refine lv_istore_n (lv' := [(2, .int r_7), (1, .int r_1), (0, .ref (ad 0))]) hx hb dX10_itemKnot_10 rfl hl (by decide) rfl (fun ls hl => ?_)
  refine lv_aload_n hx hb dX10_itemKnot_11 rfl (lv_at hl 2 rfl) ?_
  refine lv_dup hx hb dX10_itemKnot_12 rfl ?_
  refine va_get (D := (dC, dI)) (ci := 10) (v := .int x13) (C := RX10) (T := TX10) (N := 48) hx hb hts fin_X10_itemKnotmk2_X10 hown hK hP 0 rfl rfl 22 (by decide) (hts (.fieldLink RX10 217 "PatternGateModel" "reached" "I") (List.mem_of_getElem? (i := 12) (by decide +kernel))) (fun _ h9 => h9) rfl dX10_itemKnot_13 ?_
  refine lv_iconst (v := 1) hx hb dX10_itemKnot_16 (by decide) ?_
  refine lv_iadd hx hb dX10_itemKnot_17 ?_
  refine lv_topi (fun y_8 ey_8 => ?_)
  first | have ty_8 := i_add (a := x13.toInt) (b := 1) rfl (by decide) ey_8 (by omega) (by omega) | skip
  refine va_put (D := (dC, dI)) (ci := 10) (v := .int y_8) (ty := .int) (C := RX10) (T := TX10) (N := 48) hx hb hts fin_X10_itemKnotmk2_X10 tyX10 tyX10_ok nmX10 hown hK hP hD hS 0 rfl rfl 22 (by decide) (hts (.fieldLink RX10 217 "PatternGateModel" "reached" "I") (List.mem_of_getElem? (i := 12) (by decide +kernel))) (fun _ h9 => h9) rfl (by decide +kernel) rfl rfl (Nat.le_of_ble_eq_true rfl) dX10_itemKnot_18 (fun H locs hP hD hS => ?_)
  have hP : va_P (dC, dI) vwCl (mW ad kc x0 x1 x2 x3 x4 x5 x6 x7 x8 x9 x10 x11 x_2 y_8 x14 x15 x16 x17 x18 x19 x20 x21 f0 f1 f2 f_3 f_4 f_5 f6 f7 f_6 f9 f10 f11 f12 f13 f14 f15 f16 f17 f18 f19 f20 f21 fL fN fP fM fO) H := hP
  have hD : va_D A (mW ad kc x0 x1 x2 x3 x4 x5 x6 x7 x8 x9 x10 x11 x_2 y_8 x14 x15 x16 x17 x18 x19 x20 x21 f0 f1 f2 f_3 f_4 f_5 f6 f7 f_6 f9 f10 f11 f12 f13 f14 f15 f16 f17 f18 f19 f20 f21 fL fN fP fM fO) := hD
  refine lv_iload_n hx hb dX10_itemKnot_21 rfl (lv_at hl 0 rfl) ?_
  refine lv_bipush (v := 40) hx hb dX10_itemKnot_22 (by decide) ?_
  refine lv_icmp_ne (tgt := 51) hx hb dX10_itemKnot_24 (by decide) (fun k_9 => ?_) (fun k_9 => ?_)
  · have tk_9 := c_ne (a := r_7.toInt) (b := 40) rfl (by decide) k_9
    rw [hr_7] at tk_9
    have hA9 := at_s hAx tk_9
    refine lv_aload_n hx hb dX10_itemKnot_51 rfl (lv_at hl 2 rfl) ?_
    refine lv_iload_n hx hb dX10_itemKnot_52 rfl (lv_at hl 1 rfl) ?_
    refine lv_iconst (v := (-1)) hx hb dX10_itemKnot_53 (by decide) ?_
    refine lv_aload_n hx hb dX10_itemKnot_54 rfl (lv_at hl 2 rfl) ?_
    refine lv_iload_n hx hb dX10_itemKnot_55 rfl (lv_at hl 0 rfl) ?_
    have hFc := m_free hD hS hA
    refine va_calli (va_runV (As := [.int r_7]) (rest := [.int (-1), .int r_1, .ref (ad 0)]) ⟨hx, hb, hml, hown, hts⟩ (m_spotKnot l dC dI ad kc x0 x1 x2 x3 x4 x5 x6 x7 x8 x9 x10 x11 x_2 y_8 x14 x15 x16 x17 x18 x19 x20 x21 f0 f1 f2 f_3 f_4 f_5 f6 f7 f_6 f9 f10 f11 f12 f13 f14 f15 f16 f17 f18 f19 f20 f21 fL fN fP fM fO H.size r_7 (by first | omega | assumption | decide | (have l0 := Int32.toInt_zero; omega)) (by first | omega | assumption | decide | (have l0 := Int32.toInt_zero; omega)) (by first | omega | assumption | decide | (have l0 := Int32.toInt_zero; omega)) (by first | omega | assumption | decide | (have l0 := Int32.toInt_zero; omega)) (by first | omega | assumption | decide | (have l0 := Int32.toInt_zero; omega)) (by first | omega | assumption | decide | (have l0 := Int32.toInt_zero; omega)) (by first | omega | assumption | decide | (have l0 := Int32.toInt_zero; omega)) (fun h9 => by rcases hA9.2.2 with q9 | q9; exact absurd (hr_7.symm.trans h9) q9.1; exact ⟨ee - 1, by omega, by rw [show y_8.toInt = x13.toInt + 1 by omega]; exact q9.2⟩) (by first | omega | assumption | decide | (have l0 := Int32.toInt_zero; omega)) (by first | omega | assumption | decide | (have l0 := Int32.toInt_zero; omega))) (cwV 1 hts mg_X10_itemKnotmk2_X10_spotKnot_245 rfl rfl rfl (by decide +kernel) ⟨Nat.le_of_ble_eq_true rfl, Nat.le_of_ble_eq_true rfl⟩) ⟨fun a U g mk q => by obtain ⟨q0, q1, qP, qK, qD⟩ := q; exact ⟨q0, q1, qP, va_K.moved (u := U) (U := U.calling g mk a) (Vm.Alike.refl U.vm) qK, qD⟩, va_recv hK hP (ci := 10) (q0 := 0) rfl rfl, fun U hU hW => ⟨rfl, by rw [hU], by rw [hU]; exact hP, va_K.moved hW.alike hK, hD.weaken (fun _ _ _ _ => trivial)⟩⟩ rfl rfl hl.1 rfl (lv_room (Nat.le_of_ble_eq_true rfl)) dX10_itemKnot_56 ⟨Nat.le_of_ble_eq_true rfl, Nat.le_of_ble_eq_true rfl⟩) hS (fun q _ h => hFc q h) hFc (fun r_10 u t H1 locs ht hvm hw hB hz1 hk1 hS => ?_)
    subst hw
    obtain ⟨x_11, x_12, x_13, f_14, f_15, f_16, f_17, f_18, f_19, hr_10_0, hr_10_1, hr_10_2, hr_10_3, hr_10_4, hr_10_5, hr_10_6, hr_10_7, hP, hK1, hD1⟩ := hB
    rw [ht] at hP
    have hD := hD1.weaken (fun k q _ h => hFc q.1 h)
    generalize H1 = H at hP hS ⊢
    have rg_x_11 := i_rng x_11
    have rg_x_12 := i_rng x_12
    have rg_x_13 := i_rng x_13
    have rg_r_10 := i_rng r_10
    have hP : va_P (dC, dI) vwCl (mW ad kc x0 x1 x2 x3 x4 x5 x6 x7 x8 x9 x10 x11 x_11 x_12 x14 x_13 x16 x17 x18 x19 x20 x21 f0 f1 f2 f_14 f_15 f_16 f_17 f_18 f_19 f9 f10 f11 f12 f13 f14 f15 f16 f17 f18 f19 f20 f21 fL fN fP fM fO) H := hP
    have hD : va_D A (mW ad kc x0 x1 x2 x3 x4 x5 x6 x7 x8 x9 x10 x11 x_11 x_12 x14 x_13 x16 x17 x18 x19 x20 x21 f0 f1 f2 f_14 f_15 f_16 f_17 f_18 f_19 f9 f10 f11 f12 f13 f14 f15 f16 f17 f18 f19 f20 f21 fL fN fP fM fO) := hD
    rw [show x_2.toInt = x12.toInt + 1 by omega] at hr_10_4 hr_10_5 hr_10_6
    have hee := sp_e hA9.2.2 hr_7 (show y_8.toInt = x13.toInt + 1 by omega) hr_10_1
    have hFc := m_free hD hS hA
    refine va_calli (va_runV (As := [.int r_1, .int (-1), .int r_10]) (rest := []) ⟨hx, hb, hml, hown, hts⟩ (m_joins l dC dI ad kc x0 x1 x2 x3 x4 x5 x6 x7 x8 x9 x10 x11 x_11 x_12 x14 x_13 x16 x17 x18 x19 x20 x21 f0 f1 f2 f_14 f_15 f_16 f_17 f_18 f_19 f9 f10 f11 f12 f13 f14 f15 f16 f17 f18 f19 f20 f21 fL fN fP fM fO H.size r_1 (-1) r_10 (by first | omega | assumption | decide | (have l0 := Int32.toInt_zero; omega)) (by first | omega | assumption | decide | (have l0 := Int32.toInt_zero; omega)) (by first | omega | assumption | decide | (have l0 := Int32.toInt_zero; omega)) (by first | omega | assumption | decide | (have l0 := Int32.toInt_zero; omega))) (cwV 3 hts mg_X10_itemKnotmk2_X10_joins_232 rfl rfl rfl (by decide +kernel) ⟨Nat.le_of_ble_eq_true rfl, Nat.le_of_ble_eq_true rfl⟩) ⟨fun a U g mk q => by obtain ⟨q0, q1, qP, qK, qD⟩ := q; exact ⟨q0, q1, qP, va_K.moved (u := U) (U := U.calling g mk a) (Vm.Alike.refl U.vm) qK, qD⟩, va_recv hK hP (ci := 10) (q0 := 0) rfl rfl, fun U hU hW => ⟨rfl, by rw [hU], by rw [hU]; exact hP, va_K.moved hW.alike hK, hD.weaken (fun _ _ _ _ => trivial)⟩⟩ rfl rfl hl.1 rfl (lv_room (Nat.le_of_ble_eq_true rfl)) dX10_itemKnot_59 ⟨Nat.le_of_ble_eq_true rfl, Nat.le_of_ble_eq_true rfl⟩) hS (fun q _ h => hFc q h) hFc (fun r_20 u t H1 locs ht hvm hw hB hz1 hk1 hS => ?_)
    subst hw
    obtain ⟨f_21, f_22, hr_20_0, hr_20_1, hP, hK1, hD1⟩ := hB
    rw [ht] at hP
    have hD := hD1.weaken (fun k q _ h => hFc q.1 h)
    generalize H1 = H at hP hS ⊢
    have rg_r_20 := i_rng r_20
    have hP : va_P (dC, dI) vwCl (mW ad kc x0 x1 x2 x3 x4 x5 x6 x7 x8 x9 x10 x11 x_11 x_12 x14 x_13 x16 x17 x18 x19 x20 x21 f0 f1 f2 f_14 f_21 f_22 f_17 f_18 f_19 f9 f10 f11 f12 f13 f14 f15 f16 f17 f18 f19 f20 f21 fL fN fP fM fO) H := hP
    have hD : va_D A (mW ad kc x0 x1 x2 x3 x4 x5 x6 x7 x8 x9 x10 x11 x_11 x_12 x14 x_13 x16 x17 x18 x19 x20 x21 f0 f1 f2 f_14 f_21 f_22 f_17 f_18 f_19 f9 f10 f11 f12 f13 f14 f15 f16 f17 f18 f19 f20 f21 fL fN fP fM fO) := hD
    rw [show r_1.toInt = x12.toInt by omega, show ((-1) : Int32).toInt = -1 by decide, show r_10.toInt = x12.toInt + 1 by omega] at hr_20_1
    have hE := it_end (V0 := (mV f3 f4 f5 f7)) (V1 := (mV f_3 f_4 f_5 f7)) (V2 := (mV f_14 f_15 f_16 f_18)) (V3 := (mV f_14 f_21 f_22 f_18)) (k := x12.toInt) (hi := x_11.toInt) (m := 1) (d := 2) (by omega) (hr_1_2.1.trans (by decide)) hr_1_2.2.2 hr_1_3 (Or.inl hr_10_4) hr_10_6 hr_10_5 hr_20_1
    refine lv_pop hx hb dX10_itemKnot_62 rfl ?_
    refine lv_aload_n hx hb dX10_itemKnot_63 rfl (lv_at hl 2 rfl) ?_
    refine vp_callSi (W.runV (As := []) (rest := []) ⟨hx, hb, hml, hown, hts⟩ (m_signAt l dC dI ad kc x0 x1 x2 x3 x4 x5 x6 x7 x8 x9 x10 x11 x_11 x_12 x14 x_13 x16 x17 x18 x19 x20 x21 f0 f1 f2 f_14 f_21 f_22 f_17 f_18 f_19 f9 f10 f11 f12 f13 f14 f15 f16 f17 f18 f19 f20 f21 fL fN fP fM fO (by first | omega | assumption | decide | (have l0 := Int32.toInt_zero; omega)) (by first | omega | assumption | decide | (have l0 := Int32.toInt_zero; omega)) (by first | omega | assumption | decide | (have l0 := Int32.toInt_zero; omega)) (by first | omega | assumption | decide | (have l0 := Int32.toInt_zero; omega)) (by first | omega | assumption | decide | (have l0 := Int32.toInt_zero; omega))) (cwV 0 hts mg_X10_itemKnotmk2_X10_signAt_236 rfl rfl rfl (by decide +kernel) ⟨Nat.le_of_ble_eq_true rfl, Nat.le_of_ble_eq_true rfl⟩) ⟨fun a U g mk q => by obtain ⟨q0, qP, qK⟩ := q; exact ⟨q0, qP, va_K.moved (u := U) (U := U.calling g mk a) (Vm.Alike.refl U.vm) qK⟩, va_recv hK hP (ci := 10) (q0 := 0) rfl rfl, fun U hU hW => ⟨rfl, by rw [hU]; exact hP, va_K.moved hW.alike hK⟩⟩ rfl rfl hl.1 rfl (lv_room (Nat.le_of_ble_eq_true rfl)) dX10_itemKnot_64 ⟨Nat.le_of_ble_eq_true rfl, Nat.le_of_ble_eq_true rfl⟩) (fun r_23 hr_23 => ?_)
    have rg_r_23 := i_rng r_23
    rw [show x_12.toInt = ee by omega] at hr_23
    unfold isQu at hQ
    rw [← hr_23] at hQ
    refine lv_istore_n (lv' := [(3, .int r_23), (2, .int r_7), (1, .int r_1), (0, .ref (ad 0))]) hx hb dX10_itemKnot_67 rfl hl (by decide) rfl (fun ls hl => ?_)
    refine lv_iload_n hx hb dX10_itemKnot_68 rfl (lv_at hl 0 rfl) ?_
    refine lv_bipush (v := 42) hx hb dX10_itemKnot_69 (by decide) ?_
    refine lv_icmp_eq (tgt := 86) hx hb dX10_itemKnot_71 (by decide) (fun k_24 => ?_) (fun k_24 => ?_)
    · have tk_24 := c_eq (a := r_23.toInt) (b := 42) rfl (by decide) k_24
      refine lv_aload_n hx hb dX10_itemKnot_86 rfl (lv_at hl 3 rfl) ?_
      refine va_get (D := (dC, dI)) (ci := 10) (v := .ref (ad 9)) (C := RX10) (T := TX10) (N := 48) hx hb hts fin_X10_itemKnotmk2_X10 hown hK hP 0 rfl rfl 20 (by decide) (hts (.fieldLink RX10 43 "PatternGateModel" "sign" "[I") (List.mem_of_getElem? (i := 6) (by decide +kernel))) (fun _ h9 => h9) rfl dX10_itemKnot_87 ?_
      refine lv_iload_n hx hb dX10_itemKnot_90 rfl (lv_at hl 2 rfl) ?_
      refine lv_iload_n hx hb dX10_itemKnot_91 rfl (lv_at hl 0 rfl) ?_
      refine va_iast hx hb hK hP hD hS 9 8 rfl rfl (i := r_1) (vp_of (a := r_1.toInt) rfl (by omega) (by omega)) dX10_itemKnot_92 (fun H locs hP hD hS => ?_)
      generalize hf_f_25 : upd f_19 _ _ = f_25 at hP hD
      have hP : va_P (dC, dI) vwCl (mW ad kc x0 x1 x2 x3 x4 x5 x6 x7 x8 x9 x10 x11 x_11 x_12 x14 x_13 x16 x17 x18 x19 x20 x21 f0 f1 f2 f_14 f_21 f_22 f_17 f_18 f_25 f9 f10 f11 f12 f13 f14 f15 f16 f17 f18 f19 f20 f21 fL fN fP fM fO) H := hP
      have hD : va_D A (mW ad kc x0 x1 x2 x3 x4 x5 x6 x7 x8 x9 x10 x11 x_11 x_12 x14 x_13 x16 x17 x18 x19 x20 x21 f0 f1 f2 f_14 f_21 f_22 f_17 f_18 f_25 f9 f10 f11 f12 f13 f14 f15 f16 f17 f18 f19 f20 f21 fL fN fP fM fO) := hD
      refine lv_aload_n hx hb dX10_itemKnot_93 rfl (lv_at hl 3 rfl) ?_
      refine lv_dup hx hb dX10_itemKnot_94 rfl ?_
      refine va_get (D := (dC, dI)) (ci := 10) (v := .int x_12) (C := RX10) (T := TX10) (N := 48) hx hb hts fin_X10_itemKnotmk2_X10 hown hK hP 0 rfl rfl 22 (by decide) (hts (.fieldLink RX10 217 "PatternGateModel" "reached" "I") (List.mem_of_getElem? (i := 12) (by decide +kernel))) (fun _ h9 => h9) rfl dX10_itemKnot_95 ?_
      refine lv_iconst (v := 1) hx hb dX10_itemKnot_98 (by decide) ?_
      refine lv_iadd hx hb dX10_itemKnot_99 ?_
      refine lv_topi (fun y_26 ey_26 => ?_)
      first | have ty_26 := i_add (a := x_12.toInt) (b := 1) rfl (by decide) ey_26 (by omega) (by omega) | skip
      refine va_put (D := (dC, dI)) (ci := 10) (v := .int y_26) (ty := .int) (C := RX10) (T := TX10) (N := 48) hx hb hts fin_X10_itemKnotmk2_X10 tyX10 tyX10_ok nmX10 hown hK hP hD hS 0 rfl rfl 22 (by decide) (hts (.fieldLink RX10 217 "PatternGateModel" "reached" "I") (List.mem_of_getElem? (i := 12) (by decide +kernel))) (fun _ h9 => h9) rfl (by decide +kernel) rfl rfl (Nat.le_of_ble_eq_true rfl) dX10_itemKnot_100 (fun H locs hP hD hS => ?_)
      have hP : va_P (dC, dI) vwCl (mW ad kc x0 x1 x2 x3 x4 x5 x6 x7 x8 x9 x10 x11 x_11 y_26 x14 x_13 x16 x17 x18 x19 x20 x21 f0 f1 f2 f_14 f_21 f_22 f_17 f_18 f_25 f9 f10 f11 f12 f13 f14 f15 f16 f17 f18 f19 f20 f21 fL fN fP fM fO) H := hP
      have hD : va_D A (mW ad kc x0 x1 x2 x3 x4 x5 x6 x7 x8 x9 x10 x11 x_11 y_26 x14 x_13 x16 x17 x18 x19 x20 x21 f0 f1 f2 f_14 f_21 f_22 f_17 f_18 f_25 f9 f10 f11 f12 f13 f14 f15 f16 f17 f18 f19 f20 f21 fL fN fP fM fO) := hD
      refine lv_iload_n hx hb dX10_itemKnot_103 rfl (lv_at hl 2 rfl) ?_
      exact W.iret hx hb hr (fun t ht hW => ⟨⟨_, _, rfl, rfl, x_11, y_26, x_13, f_14, f_21, f_22, f_17, f_18, f_25, (by first | omega | assumption | rfl | decide), (by first | omega | assumption | rfl | decide), (by first | omega | assumption | rfl | decide), (by first | omega | assumption | rfl | decide), (by rw [show mm = 1 from hA9.1]; exact hE.1), hE.2.2, hE.2.1, by rw [ht]; exact hP, va_K.moved hW.alike hK, hD⟩, hS.F ht⟩) hS.2.2 dX10_itemKnot_104
    · have tk_24 := c_ne (a := r_23.toInt) (b := 42) rfl (by decide) k_24
      refine lv_iload_n hx hb dX10_itemKnot_74 rfl (lv_at hl 0 rfl) ?_
      refine lv_bipush (v := 43) hx hb dX10_itemKnot_75 (by decide) ?_
      refine lv_icmp_eq (tgt := 86) hx hb dX10_itemKnot_77 (by decide) (fun k_27 => ?_) (fun k_27 => ?_)
      · have tk_27 := c_eq (a := r_23.toInt) (b := 43) rfl (by decide) k_27
        refine lv_aload_n hx hb dX10_itemKnot_86 rfl (lv_at hl 3 rfl) ?_
        refine va_get (D := (dC, dI)) (ci := 10) (v := .ref (ad 9)) (C := RX10) (T := TX10) (N := 48) hx hb hts fin_X10_itemKnotmk2_X10 hown hK hP 0 rfl rfl 20 (by decide) (hts (.fieldLink RX10 43 "PatternGateModel" "sign" "[I") (List.mem_of_getElem? (i := 6) (by decide +kernel))) (fun _ h9 => h9) rfl dX10_itemKnot_87 ?_
        refine lv_iload_n hx hb dX10_itemKnot_90 rfl (lv_at hl 2 rfl) ?_
        refine lv_iload_n hx hb dX10_itemKnot_91 rfl (lv_at hl 0 rfl) ?_
        refine va_iast hx hb hK hP hD hS 9 8 rfl rfl (i := r_1) (vp_of (a := r_1.toInt) rfl (by omega) (by omega)) dX10_itemKnot_92 (fun H locs hP hD hS => ?_)
        generalize hf_f_28 : upd f_19 _ _ = f_28 at hP hD
        have hP : va_P (dC, dI) vwCl (mW ad kc x0 x1 x2 x3 x4 x5 x6 x7 x8 x9 x10 x11 x_11 x_12 x14 x_13 x16 x17 x18 x19 x20 x21 f0 f1 f2 f_14 f_21 f_22 f_17 f_18 f_28 f9 f10 f11 f12 f13 f14 f15 f16 f17 f18 f19 f20 f21 fL fN fP fM fO) H := hP
        have hD : va_D A (mW ad kc x0 x1 x2 x3 x4 x5 x6 x7 x8 x9 x10 x11 x_11 x_12 x14 x_13 x16 x17 x18 x19 x20 x21 f0 f1 f2 f_14 f_21 f_22 f_17 f_18 f_28 f9 f10 f11 f12 f13 f14 f15 f16 f17 f18 f19 f20 f21 fL fN fP fM fO) := hD
        refine lv_aload_n hx hb dX10_itemKnot_93 rfl (lv_at hl 3 rfl) ?_
        refine lv_dup hx hb dX10_itemKnot_94 rfl ?_
        refine va_get (D := (dC, dI)) (ci := 10) (v := .int x_12) (C := RX10) (T := TX10) (N := 48) hx hb hts fin_X10_itemKnotmk2_X10 hown hK hP 0 rfl rfl 22 (by decide) (hts (.fieldLink RX10 217 "PatternGateModel" "reached" "I") (List.mem_of_getElem? (i := 12) (by decide +kernel))) (fun _ h9 => h9) rfl dX10_itemKnot_95 ?_
        refine lv_iconst (v := 1) hx hb dX10_itemKnot_98 (by decide) ?_
        refine lv_iadd hx hb dX10_itemKnot_99 ?_
        refine lv_topi (fun y_29 ey_29 => ?_)
        first | have ty_29 := i_add (a := x_12.toInt) (b := 1) rfl (by decide) ey_29 (by omega) (by omega) | skip
        refine va_put (D := (dC, dI)) (ci := 10) (v := .int y_29) (ty := .int) (C := RX10) (T := TX10) (N := 48) hx hb hts fin_X10_itemKnotmk2_X10 tyX10 tyX10_ok nmX10 hown hK hP hD hS 0 rfl rfl 22 (by decide) (hts (.fieldLink RX10 217 "PatternGateModel" "reached" "I") (List.mem_of_getElem? (i := 12) (by decide +kernel))) (fun _ h9 => h9) rfl (by decide +kernel) rfl rfl (Nat.le_of_ble_eq_true rfl) dX10_itemKnot_100 (fun H locs hP hD hS => ?_)
        have hP : va_P (dC, dI) vwCl (mW ad kc x0 x1 x2 x3 x4 x5 x6 x7 x8 x9 x10 x11 x_11 y_29 x14 x_13 x16 x17 x18 x19 x20 x21 f0 f1 f2 f_14 f_21 f_22 f_17 f_18 f_28 f9 f10 f11 f12 f13 f14 f15 f16 f17 f18 f19 f20 f21 fL fN fP fM fO) H := hP
        have hD : va_D A (mW ad kc x0 x1 x2 x3 x4 x5 x6 x7 x8 x9 x10 x11 x_11 y_29 x14 x_13 x16 x17 x18 x19 x20 x21 f0 f1 f2 f_14 f_21 f_22 f_17 f_18 f_28 f9 f10 f11 f12 f13 f14 f15 f16 f17 f18 f19 f20 f21 fL fN fP fM fO) := hD
        refine lv_iload_n hx hb dX10_itemKnot_103 rfl (lv_at hl 2 rfl) ?_
        exact W.iret hx hb hr (fun t ht hW => ⟨⟨_, _, rfl, rfl, x_11, y_29, x_13, f_14, f_21, f_22, f_17, f_18, f_28, (by first | omega | assumption | rfl | decide), (by first | omega | assumption | rfl | decide), (by first | omega | assumption | rfl | decide), (by first | omega | assumption | rfl | decide), (by rw [show mm = 1 from hA9.1]; exact hE.1), hE.2.2, hE.2.1, by rw [ht]; exact hP, va_K.moved hW.alike hK, hD⟩, hS.F ht⟩) hS.2.2 dX10_itemKnot_104
      · have tk_27 := c_ne (a := r_23.toInt) (b := 43) rfl (by decide) k_27
        refine lv_iload_n hx hb dX10_itemKnot_80 rfl (lv_at hl 0 rfl) ?_
        refine lv_bipush (v := 63) hx hb dX10_itemKnot_81 (by decide) ?_
        refine lv_icmp_ne (tgt := 103) hx hb dX10_itemKnot_83 (by decide) (fun k_30 => ?_) (fun k_30 => ?_)
        · have tk_30 := c_ne (a := r_23.toInt) (b := 63) rfl (by decide) k_30
          refine lv_iload_n hx hb dX10_itemKnot_103 rfl (lv_at hl 2 rfl) ?_
          exact W.iret hx hb hr (fun t ht hW => ⟨⟨_, _, rfl, rfl, x_11, x_12, x_13, f_14, f_21, f_22, f_17, f_18, f_19, (by first | omega | assumption | rfl | decide), (by first | omega | assumption | rfl | decide), (by first | omega | assumption | rfl | decide), (by first | omega | assumption | rfl | decide), (by rw [show mm = 1 from hA9.1]; exact hE.1), hE.2.2, hE.2.1, by rw [ht]; exact hP, va_K.moved hW.alike hK, hD⟩, hS.F ht⟩) hS.2.2 dX10_itemKnot_104
        · have tk_30 := c_eq (a := r_23.toInt) (b := 63) rfl (by decide) k_30
          refine lv_aload_n hx hb dX10_itemKnot_86 rfl (lv_at hl 3 rfl) ?_
          refine va_get (D := (dC, dI)) (ci := 10) (v := .ref (ad 9)) (C := RX10) (T := TX10) (N := 48) hx hb hts fin_X10_itemKnotmk2_X10 hown hK hP 0 rfl rfl 20 (by decide) (hts (.fieldLink RX10 43 "PatternGateModel" "sign" "[I") (List.mem_of_getElem? (i := 6) (by decide +kernel))) (fun _ h9 => h9) rfl dX10_itemKnot_87 ?_
          refine lv_iload_n hx hb dX10_itemKnot_90 rfl (lv_at hl 2 rfl) ?_
          refine lv_iload_n hx hb dX10_itemKnot_91 rfl (lv_at hl 0 rfl) ?_
          refine va_iast hx hb hK hP hD hS 9 8 rfl rfl (i := r_1) (vp_of (a := r_1.toInt) rfl (by omega) (by omega)) dX10_itemKnot_92 (fun H locs hP hD hS => ?_)
          generalize hf_f_31 : upd f_19 _ _ = f_31 at hP hD
          have hP : va_P (dC, dI) vwCl (mW ad kc x0 x1 x2 x3 x4 x5 x6 x7 x8 x9 x10 x11 x_11 x_12 x14 x_13 x16 x17 x18 x19 x20 x21 f0 f1 f2 f_14 f_21 f_22 f_17 f_18 f_31 f9 f10 f11 f12 f13 f14 f15 f16 f17 f18 f19 f20 f21 fL fN fP fM fO) H := hP
          have hD : va_D A (mW ad kc x0 x1 x2 x3 x4 x5 x6 x7 x8 x9 x10 x11 x_11 x_12 x14 x_13 x16 x17 x18 x19 x20 x21 f0 f1 f2 f_14 f_21 f_22 f_17 f_18 f_31 f9 f10 f11 f12 f13 f14 f15 f16 f17 f18 f19 f20 f21 fL fN fP fM fO) := hD
          refine lv_aload_n hx hb dX10_itemKnot_93 rfl (lv_at hl 3 rfl) ?_
          refine lv_dup hx hb dX10_itemKnot_94 rfl ?_
          refine va_get (D := (dC, dI)) (ci := 10) (v := .int x_12) (C := RX10) (T := TX10) (N := 48) hx hb hts fin_X10_itemKnotmk2_X10 hown hK hP 0 rfl rfl 22 (by decide) (hts (.fieldLink RX10 217 "PatternGateModel" "reached" "I") (List.mem_of_getElem? (i := 12) (by decide +kernel))) (fun _ h9 => h9) rfl dX10_itemKnot_95 ?_
          refine lv_iconst (v := 1) hx hb dX10_itemKnot_98 (by decide) ?_
          refine lv_iadd hx hb dX10_itemKnot_99 ?_
          refine lv_topi (fun y_32 ey_32 => ?_)
          first | have ty_32 := i_add (a := x_12.toInt) (b := 1) rfl (by decide) ey_32 (by omega) (by omega) | skip
          refine va_put (D := (dC, dI)) (ci := 10) (v := .int y_32) (ty := .int) (C := RX10) (T := TX10) (N := 48) hx hb hts fin_X10_itemKnotmk2_X10 tyX10 tyX10_ok nmX10 hown hK hP hD hS 0 rfl rfl 22 (by decide) (hts (.fieldLink RX10 217 "PatternGateModel" "reached" "I") (List.mem_of_getElem? (i := 12) (by decide +kernel))) (fun _ h9 => h9) rfl (by decide +kernel) rfl rfl (Nat.le_of_ble_eq_true rfl) dX10_itemKnot_100 (fun H locs hP hD hS => ?_)
          have hP : va_P (dC, dI) vwCl (mW ad kc x0 x1 x2 x3 x4 x5 x6 x7 x8 x9 x10 x11 x_11 y_32 x14 x_13 x16 x17 x18 x19 x20 x21 f0 f1 f2 f_14 f_21 f_22 f_17 f_18 f_31 f9 f10 f11 f12 f13 f14 f15 f16 f17 f18 f19 f20 f21 fL fN fP fM fO) H := hP
          have hD : va_D A (mW ad kc x0 x1 x2 x3 x4 x5 x6 x7 x8 x9 x10 x11 x_11 y_32 x14 x_13 x16 x17 x18 x19 x20 x21 f0 f1 f2 f_14 f_21 f_22 f_17 f_18 f_31 f9 f10 f11 f12 f13 f14 f15 f16 f17 f18 f19 f20 f21 fL fN fP fM fO) := hD
          refine lv_iload_n hx hb dX10_itemKnot_103 rfl (lv_at hl 2 rfl) ?_
          exact W.iret hx hb hr (fun t ht hW => ⟨⟨_, _, rfl, rfl, x_11, y_32, x_13, f_14, f_21, f_22, f_17, f_18, f_31, (by first | omega | assumption | rfl | decide), (by first | omega | assumption | rfl | decide), (by first | omega | assumption | rfl | decide), (by first | omega | assumption | rfl | decide), (by rw [show mm = 1 from hA9.1]; exact hE.1), hE.2.2, hE.2.1, by rw [ht]; exact hP, va_K.moved hW.alike hK, hD⟩, hS.F ht⟩) hS.2.2 dX10_itemKnot_104
  · have tk_9 := c_eq (a := r_7.toInt) (b := 40) rfl (by decide) k_9
    rw [hr_7] at tk_9
    have hA9 := at_p hAx tk_9
    refine lv_aload_n hx hb dX10_itemKnot_27 rfl (lv_at hl 2 rfl) ?_
    refine lv_iload_n hx hb dX10_itemKnot_28 rfl (lv_at hl 1 rfl) ?_
    refine lv_iconst (v := (-1)) hx hb dX10_itemKnot_29 (by decide) ?_
    refine lv_aload_n hx hb dX10_itemKnot_30 rfl (lv_at hl 2 rfl) ?_
    have hFc := m_free hD hS hA
    refine va_calli (va_runV (As := []) (rest := [.int (-1), .int r_1, .ref (ad 0)]) ⟨hx, hb, hml, hown, hts⟩ (m_patternKnot1 l dC dI ad kc x0 x1 x2 x3 x4 x5 x6 x7 x8 x9 x10 x11 x_2 y_8 x14 x15 x16 x17 x18 x19 x20 x21 f0 f1 f2 f_3 f_4 f_5 f6 f7 f_6 f9 f10 f11 f12 f13 f14 f15 f16 f17 f18 f19 f20 f21 fL fN fP fM fO H.size (ee - 1) mm (by first | omega | assumption | decide | (have l0 := Int32.toInt_zero; omega)) (by first | omega | assumption | decide | (have l0 := Int32.toInt_zero; omega)) (by first | omega | assumption | decide | (have l0 := Int32.toInt_zero; omega)) (by first | omega | assumption | decide | (have l0 := Int32.toInt_zero; omega)) (by first | omega | assumption | decide | (have l0 := Int32.toInt_zero; omega)) (by first | omega | assumption | decide | (have l0 := Int32.toInt_zero; omega)) (by first | omega | assumption | decide | (have l0 := Int32.toInt_zero; omega)) (by first | omega | assumption | decide | (have l0 := Int32.toInt_zero; omega)) (by rw [show y_8.toInt = x13.toInt + 1 by omega]; exact hA9.1) (Or.inr (Or.inr hA9.2)) (by first | omega | assumption | decide | (have l0 := Int32.toInt_zero; omega))) (cwV 0 hts mg_X10_itemKnotmk2_X10_patternKnot_242 rfl rfl rfl (by decide +kernel) ⟨Nat.le_of_ble_eq_true rfl, Nat.le_of_ble_eq_true rfl⟩) ⟨fun a U g mk q => by obtain ⟨q0, q1, qP, qK, qD⟩ := q; exact ⟨q0, q1, qP, va_K.moved (u := U) (U := U.calling g mk a) (Vm.Alike.refl U.vm) qK, qD⟩, va_recv hK hP (ci := 10) (q0 := 0) rfl rfl, fun U hU hW => ⟨rfl, by rw [hU], by rw [hU]; exact hP, va_K.moved hW.alike hK, hD.weaken (fun _ _ _ _ => trivial)⟩⟩ rfl rfl hl.1 rfl (lv_room (Nat.le_of_ble_eq_true rfl)) dX10_itemKnot_31 ⟨Nat.le_of_ble_eq_true rfl, Nat.le_of_ble_eq_true rfl⟩) hS (fun q _ h => hFc q h) hFc (fun r_33 u t H1 locs ht hvm hw hB hz1 hk1 hS => ?_)
    subst hw
    obtain ⟨x_34, x_35, x_36, f_37, f_38, f_39, f_40, f_41, f_42, hr_33_0, hr_33_1, hr_33_2, hr_33_3, hr_33_4, hr_33_5, hr_33_6, hP, hK1, hD1⟩ := hB
    rw [ht] at hP
    have hD := hD1.weaken (fun k q _ h => hFc q.1 h)
    generalize H1 = H at hP hS ⊢
    have rg_x_34 := i_rng x_34
    have rg_x_35 := i_rng x_35
    have rg_x_36 := i_rng x_36
    have rg_r_33 := i_rng r_33
    have hP : va_P (dC, dI) vwCl (mW ad kc x0 x1 x2 x3 x4 x5 x6 x7 x8 x9 x10 x11 x_34 x_35 x14 x_36 x16 x17 x18 x19 x20 x21 f0 f1 f2 f_37 f_38 f_39 f_40 f_41 f_42 f9 f10 f11 f12 f13 f14 f15 f16 f17 f18 f19 f20 f21 fL fN fP fM fO) H := hP
    have hD : va_D A (mW ad kc x0 x1 x2 x3 x4 x5 x6 x7 x8 x9 x10 x11 x_34 x_35 x14 x_36 x16 x17 x18 x19 x20 x21 f0 f1 f2 f_37 f_38 f_39 f_40 f_41 f_42 f9 f10 f11 f12 f13 f14 f15 f16 f17 f18 f19 f20 f21 fL fN fP fM fO) := hD
    rw [show x_2.toInt = x12.toInt + 1 by omega] at hr_33_4 hr_33_5 hr_33_6
    have hFc := m_free hD hS hA
    refine va_calli (va_runV (As := [.int r_1, .int (-1), .int r_33]) (rest := []) ⟨hx, hb, hml, hown, hts⟩ (m_joins l dC dI ad kc x0 x1 x2 x3 x4 x5 x6 x7 x8 x9 x10 x11 x_34 x_35 x14 x_36 x16 x17 x18 x19 x20 x21 f0 f1 f2 f_37 f_38 f_39 f_40 f_41 f_42 f9 f10 f11 f12 f13 f14 f15 f16 f17 f18 f19 f20 f21 fL fN fP fM fO H.size r_1 (-1) r_33 (by first | omega | assumption | decide | (have l0 := Int32.toInt_zero; omega)) (by first | omega | assumption | decide | (have l0 := Int32.toInt_zero; omega)) (by first | omega | assumption | decide | (have l0 := Int32.toInt_zero; omega)) (by first | omega | assumption | decide | (have l0 := Int32.toInt_zero; omega))) (cwV 3 hts mg_X10_itemKnotmk2_X10_joins_232 rfl rfl rfl (by decide +kernel) ⟨Nat.le_of_ble_eq_true rfl, Nat.le_of_ble_eq_true rfl⟩) ⟨fun a U g mk q => by obtain ⟨q0, q1, qP, qK, qD⟩ := q; exact ⟨q0, q1, qP, va_K.moved (u := U) (U := U.calling g mk a) (Vm.Alike.refl U.vm) qK, qD⟩, va_recv hK hP (ci := 10) (q0 := 0) rfl rfl, fun U hU hW => ⟨rfl, by rw [hU], by rw [hU]; exact hP, va_K.moved hW.alike hK, hD.weaken (fun _ _ _ _ => trivial)⟩⟩ rfl rfl hl.1 rfl (lv_room (Nat.le_of_ble_eq_true rfl)) dX10_itemKnot_34 ⟨Nat.le_of_ble_eq_true rfl, Nat.le_of_ble_eq_true rfl⟩) hS (fun q _ h => hFc q h) hFc (fun r_43 u t H1 locs ht hvm hw hB hz1 hk1 hS => ?_)
    subst hw
    obtain ⟨f_44, f_45, hr_43_0, hr_43_1, hP, hK1, hD1⟩ := hB
    rw [ht] at hP
    have hD := hD1.weaken (fun k q _ h => hFc q.1 h)
    generalize H1 = H at hP hS ⊢
    have rg_r_43 := i_rng r_43
    have hP : va_P (dC, dI) vwCl (mW ad kc x0 x1 x2 x3 x4 x5 x6 x7 x8 x9 x10 x11 x_34 x_35 x14 x_36 x16 x17 x18 x19 x20 x21 f0 f1 f2 f_37 f_44 f_45 f_40 f_41 f_42 f9 f10 f11 f12 f13 f14 f15 f16 f17 f18 f19 f20 f21 fL fN fP fM fO) H := hP
    have hD : va_D A (mW ad kc x0 x1 x2 x3 x4 x5 x6 x7 x8 x9 x10 x11 x_34 x_35 x14 x_36 x16 x17 x18 x19 x20 x21 f0 f1 f2 f_37 f_44 f_45 f_40 f_41 f_42 f9 f10 f11 f12 f13 f14 f15 f16 f17 f18 f19 f20 f21 fL fN fP fM fO) := hD
    rw [show r_1.toInt = x12.toInt by omega, show ((-1) : Int32).toInt = -1 by decide, show r_33.toInt = x12.toInt + 1 by omega] at hr_43_1
    have hE := it_end (V0 := (mV f3 f4 f5 f7)) (V1 := (mV f_3 f_4 f_5 f7)) (V2 := (mV f_37 f_38 f_39 f_41)) (V3 := (mV f_37 f_44 f_45 f_41)) (k := x12.toInt) (hi := x_34.toInt) (m := mm) (d := 2) (by omega) (hr_1_2.1.trans (by decide)) hr_1_2.2.2 hr_1_3 (Or.inr hr_33_4) hr_33_6 hr_33_5 hr_43_1
    refine lv_pop hx hb dX10_itemKnot_37 rfl ?_
    refine lv_aload_n hx hb dX10_itemKnot_38 rfl (lv_at hl 2 rfl) ?_
    refine lv_dup hx hb dX10_itemKnot_39 rfl ?_
    refine va_get (D := (dC, dI)) (ci := 10) (v := .int x_35) (C := RX10) (T := TX10) (N := 48) hx hb hts fin_X10_itemKnotmk2_X10 hown hK hP 0 rfl rfl 22 (by decide) (hts (.fieldLink RX10 217 "PatternGateModel" "reached" "I") (List.mem_of_getElem? (i := 12) (by decide +kernel))) (fun _ h9 => h9) rfl dX10_itemKnot_40 ?_
    refine lv_iconst (v := 1) hx hb dX10_itemKnot_43 (by decide) ?_
    refine lv_iadd hx hb dX10_itemKnot_44 ?_
    refine lv_topi (fun y_46 ey_46 => ?_)
    first | have ty_46 := i_add (a := x_35.toInt) (b := 1) rfl (by decide) ey_46 (by omega) (by omega) | skip
    refine va_put (D := (dC, dI)) (ci := 10) (v := .int y_46) (ty := .int) (C := RX10) (T := TX10) (N := 48) hx hb hts fin_X10_itemKnotmk2_X10 tyX10 tyX10_ok nmX10 hown hK hP hD hS 0 rfl rfl 22 (by decide) (hts (.fieldLink RX10 217 "PatternGateModel" "reached" "I") (List.mem_of_getElem? (i := 12) (by decide +kernel))) (fun _ h9 => h9) rfl (by decide +kernel) rfl rfl (Nat.le_of_ble_eq_true rfl) dX10_itemKnot_45 (fun H locs hP hD hS => ?_)
    have hP : va_P (dC, dI) vwCl (mW ad kc x0 x1 x2 x3 x4 x5 x6 x7 x8 x9 x10 x11 x_34 y_46 x14 x_36 x16 x17 x18 x19 x20 x21 f0 f1 f2 f_37 f_44 f_45 f_40 f_41 f_42 f9 f10 f11 f12 f13 f14 f15 f16 f17 f18 f19 f20 f21 fL fN fP fM fO) H := hP
    have hD : va_D A (mW ad kc x0 x1 x2 x3 x4 x5 x6 x7 x8 x9 x10 x11 x_34 y_46 x14 x_36 x16 x17 x18 x19 x20 x21 f0 f1 f2 f_37 f_44 f_45 f_40 f_41 f_42 f9 f10 f11 f12 f13 f14 f15 f16 f17 f18 f19 f20 f21 fL fN fP fM fO) := hD
    refine lv_goto (tgt := 63) hx hb dX10_itemKnot_48 (by decide) ?_
    refine lv_aload_n hx hb dX10_itemKnot_63 rfl (lv_at hl 2 rfl) ?_
    refine vp_callSi (W.runV (As := []) (rest := []) ⟨hx, hb, hml, hown, hts⟩ (m_signAt l dC dI ad kc x0 x1 x2 x3 x4 x5 x6 x7 x8 x9 x10 x11 x_34 y_46 x14 x_36 x16 x17 x18 x19 x20 x21 f0 f1 f2 f_37 f_44 f_45 f_40 f_41 f_42 f9 f10 f11 f12 f13 f14 f15 f16 f17 f18 f19 f20 f21 fL fN fP fM fO (by first | omega | assumption | decide | (have l0 := Int32.toInt_zero; omega)) (by first | omega | assumption | decide | (have l0 := Int32.toInt_zero; omega)) (by first | omega | assumption | decide | (have l0 := Int32.toInt_zero; omega)) (by first | omega | assumption | decide | (have l0 := Int32.toInt_zero; omega)) (by first | omega | assumption | decide | (have l0 := Int32.toInt_zero; omega))) (cwV 0 hts mg_X10_itemKnotmk2_X10_signAt_236 rfl rfl rfl (by decide +kernel) ⟨Nat.le_of_ble_eq_true rfl, Nat.le_of_ble_eq_true rfl⟩) ⟨fun a U g mk q => by obtain ⟨q0, qP, qK⟩ := q; exact ⟨q0, qP, va_K.moved (u := U) (U := U.calling g mk a) (Vm.Alike.refl U.vm) qK⟩, va_recv hK hP (ci := 10) (q0 := 0) rfl rfl, fun U hU hW => ⟨rfl, by rw [hU]; exact hP, va_K.moved hW.alike hK⟩⟩ rfl rfl hl.1 rfl (lv_room (Nat.le_of_ble_eq_true rfl)) dX10_itemKnot_64 ⟨Nat.le_of_ble_eq_true rfl, Nat.le_of_ble_eq_true rfl⟩) (fun r_47 hr_47 => ?_)
    have rg_r_47 := i_rng r_47
    rw [show y_46.toInt = ee by omega] at hr_47
    unfold isQu at hQ
    rw [← hr_47] at hQ
    refine lv_istore_n (lv' := [(3, .int r_47), (2, .int r_7), (1, .int r_1), (0, .ref (ad 0))]) hx hb dX10_itemKnot_67 rfl hl (by decide) rfl (fun ls hl => ?_)
    refine lv_iload_n hx hb dX10_itemKnot_68 rfl (lv_at hl 0 rfl) ?_
    refine lv_bipush (v := 42) hx hb dX10_itemKnot_69 (by decide) ?_
    refine lv_icmp_eq (tgt := 86) hx hb dX10_itemKnot_71 (by decide) (fun k_48 => ?_) (fun k_48 => ?_)
    · have tk_48 := c_eq (a := r_47.toInt) (b := 42) rfl (by decide) k_48
      refine lv_aload_n hx hb dX10_itemKnot_86 rfl (lv_at hl 3 rfl) ?_
      refine va_get (D := (dC, dI)) (ci := 10) (v := .ref (ad 9)) (C := RX10) (T := TX10) (N := 48) hx hb hts fin_X10_itemKnotmk2_X10 hown hK hP 0 rfl rfl 20 (by decide) (hts (.fieldLink RX10 43 "PatternGateModel" "sign" "[I") (List.mem_of_getElem? (i := 6) (by decide +kernel))) (fun _ h9 => h9) rfl dX10_itemKnot_87 ?_
      refine lv_iload_n hx hb dX10_itemKnot_90 rfl (lv_at hl 2 rfl) ?_
      refine lv_iload_n hx hb dX10_itemKnot_91 rfl (lv_at hl 0 rfl) ?_
      refine va_iast hx hb hK hP hD hS 9 8 rfl rfl (i := r_1) (vp_of (a := r_1.toInt) rfl (by omega) (by omega)) dX10_itemKnot_92 (fun H locs hP hD hS => ?_)
      generalize hf_f_49 : upd f_42 _ _ = f_49 at hP hD
      have hP : va_P (dC, dI) vwCl (mW ad kc x0 x1 x2 x3 x4 x5 x6 x7 x8 x9 x10 x11 x_34 y_46 x14 x_36 x16 x17 x18 x19 x20 x21 f0 f1 f2 f_37 f_44 f_45 f_40 f_41 f_49 f9 f10 f11 f12 f13 f14 f15 f16 f17 f18 f19 f20 f21 fL fN fP fM fO) H := hP
      have hD : va_D A (mW ad kc x0 x1 x2 x3 x4 x5 x6 x7 x8 x9 x10 x11 x_34 y_46 x14 x_36 x16 x17 x18 x19 x20 x21 f0 f1 f2 f_37 f_44 f_45 f_40 f_41 f_49 f9 f10 f11 f12 f13 f14 f15 f16 f17 f18 f19 f20 f21 fL fN fP fM fO) := hD
      refine lv_aload_n hx hb dX10_itemKnot_93 rfl (lv_at hl 3 rfl) ?_
      refine lv_dup hx hb dX10_itemKnot_94 rfl ?_
      refine va_get (D := (dC, dI)) (ci := 10) (v := .int y_46) (C := RX10) (T := TX10) (N := 48) hx hb hts fin_X10_itemKnotmk2_X10 hown hK hP 0 rfl rfl 22 (by decide) (hts (.fieldLink RX10 217 "PatternGateModel" "reached" "I") (List.mem_of_getElem? (i := 12) (by decide +kernel))) (fun _ h9 => h9) rfl dX10_itemKnot_95 ?_
      refine lv_iconst (v := 1) hx hb dX10_itemKnot_98 (by decide) ?_
      refine lv_iadd hx hb dX10_itemKnot_99 ?_
      refine lv_topi (fun y_50 ey_50 => ?_)
      first | have ty_50 := i_add (a := y_46.toInt) (b := 1) rfl (by decide) ey_50 (by omega) (by omega) | skip
      refine va_put (D := (dC, dI)) (ci := 10) (v := .int y_50) (ty := .int) (C := RX10) (T := TX10) (N := 48) hx hb hts fin_X10_itemKnotmk2_X10 tyX10 tyX10_ok nmX10 hown hK hP hD hS 0 rfl rfl 22 (by decide) (hts (.fieldLink RX10 217 "PatternGateModel" "reached" "I") (List.mem_of_getElem? (i := 12) (by decide +kernel))) (fun _ h9 => h9) rfl (by decide +kernel) rfl rfl (Nat.le_of_ble_eq_true rfl) dX10_itemKnot_100 (fun H locs hP hD hS => ?_)
      have hP : va_P (dC, dI) vwCl (mW ad kc x0 x1 x2 x3 x4 x5 x6 x7 x8 x9 x10 x11 x_34 y_50 x14 x_36 x16 x17 x18 x19 x20 x21 f0 f1 f2 f_37 f_44 f_45 f_40 f_41 f_49 f9 f10 f11 f12 f13 f14 f15 f16 f17 f18 f19 f20 f21 fL fN fP fM fO) H := hP
      have hD : va_D A (mW ad kc x0 x1 x2 x3 x4 x5 x6 x7 x8 x9 x10 x11 x_34 y_50 x14 x_36 x16 x17 x18 x19 x20 x21 f0 f1 f2 f_37 f_44 f_45 f_40 f_41 f_49 f9 f10 f11 f12 f13 f14 f15 f16 f17 f18 f19 f20 f21 fL fN fP fM fO) := hD
      refine lv_iload_n hx hb dX10_itemKnot_103 rfl (lv_at hl 2 rfl) ?_
      exact W.iret hx hb hr (fun t ht hW => ⟨⟨_, _, rfl, rfl, x_34, y_50, x_36, f_37, f_44, f_45, f_40, f_41, f_49, (by first | omega | assumption | rfl | decide), (by first | omega | assumption | rfl | decide), (by first | omega | assumption | rfl | decide), (by first | omega | assumption | rfl | decide), hE.1, hE.2.2, hE.2.1, by rw [ht]; exact hP, va_K.moved hW.alike hK, hD⟩, hS.F ht⟩) hS.2.2 dX10_itemKnot_104
    · have tk_48 := c_ne (a := r_47.toInt) (b := 42) rfl (by decide) k_48
      refine lv_iload_n hx hb dX10_itemKnot_74 rfl (lv_at hl 0 rfl) ?_
      refine lv_bipush (v := 43) hx hb dX10_itemKnot_75 (by decide) ?_
      refine lv_icmp_eq (tgt := 86) hx hb dX10_itemKnot_77 (by decide) (fun k_51 => ?_) (fun k_51 => ?_)
      · have tk_51 := c_eq (a := r_47.toInt) (b := 43) rfl (by decide) k_51
        refine lv_aload_n hx hb dX10_itemKnot_86 rfl (lv_at hl 3 rfl) ?_
        refine va_get (D := (dC, dI)) (ci := 10) (v := .ref (ad 9)) (C := RX10) (T := TX10) (N := 48) hx hb hts fin_X10_itemKnotmk2_X10 hown hK hP 0 rfl rfl 20 (by decide) (hts (.fieldLink RX10 43 "PatternGateModel" "sign" "[I") (List.mem_of_getElem? (i := 6) (by decide +kernel))) (fun _ h9 => h9) rfl dX10_itemKnot_87 ?_
        refine lv_iload_n hx hb dX10_itemKnot_90 rfl (lv_at hl 2 rfl) ?_
        refine lv_iload_n hx hb dX10_itemKnot_91 rfl (lv_at hl 0 rfl) ?_
        refine va_iast hx hb hK hP hD hS 9 8 rfl rfl (i := r_1) (vp_of (a := r_1.toInt) rfl (by omega) (by omega)) dX10_itemKnot_92 (fun H locs hP hD hS => ?_)
        generalize hf_f_52 : upd f_42 _ _ = f_52 at hP hD
        have hP : va_P (dC, dI) vwCl (mW ad kc x0 x1 x2 x3 x4 x5 x6 x7 x8 x9 x10 x11 x_34 y_46 x14 x_36 x16 x17 x18 x19 x20 x21 f0 f1 f2 f_37 f_44 f_45 f_40 f_41 f_52 f9 f10 f11 f12 f13 f14 f15 f16 f17 f18 f19 f20 f21 fL fN fP fM fO) H := hP
        have hD : va_D A (mW ad kc x0 x1 x2 x3 x4 x5 x6 x7 x8 x9 x10 x11 x_34 y_46 x14 x_36 x16 x17 x18 x19 x20 x21 f0 f1 f2 f_37 f_44 f_45 f_40 f_41 f_52 f9 f10 f11 f12 f13 f14 f15 f16 f17 f18 f19 f20 f21 fL fN fP fM fO) := hD
        refine lv_aload_n hx hb dX10_itemKnot_93 rfl (lv_at hl 3 rfl) ?_
        refine lv_dup hx hb dX10_itemKnot_94 rfl ?_
        refine va_get (D := (dC, dI)) (ci := 10) (v := .int y_46) (C := RX10) (T := TX10) (N := 48) hx hb hts fin_X10_itemKnotmk2_X10 hown hK hP 0 rfl rfl 22 (by decide) (hts (.fieldLink RX10 217 "PatternGateModel" "reached" "I") (List.mem_of_getElem? (i := 12) (by decide +kernel))) (fun _ h9 => h9) rfl dX10_itemKnot_95 ?_
        refine lv_iconst (v := 1) hx hb dX10_itemKnot_98 (by decide) ?_
        refine lv_iadd hx hb dX10_itemKnot_99 ?_
        refine lv_topi (fun y_53 ey_53 => ?_)
        first | have ty_53 := i_add (a := y_46.toInt) (b := 1) rfl (by decide) ey_53 (by omega) (by omega) | skip
        refine va_put (D := (dC, dI)) (ci := 10) (v := .int y_53) (ty := .int) (C := RX10) (T := TX10) (N := 48) hx hb hts fin_X10_itemKnotmk2_X10 tyX10 tyX10_ok nmX10 hown hK hP hD hS 0 rfl rfl 22 (by decide) (hts (.fieldLink RX10 217 "PatternGateModel" "reached" "I") (List.mem_of_getElem? (i := 12) (by decide +kernel))) (fun _ h9 => h9) rfl (by decide +kernel) rfl rfl (Nat.le_of_ble_eq_true rfl) dX10_itemKnot_100 (fun H locs hP hD hS => ?_)
        have hP : va_P (dC, dI) vwCl (mW ad kc x0 x1 x2 x3 x4 x5 x6 x7 x8 x9 x10 x11 x_34 y_53 x14 x_36 x16 x17 x18 x19 x20 x21 f0 f1 f2 f_37 f_44 f_45 f_40 f_41 f_52 f9 f10 f11 f12 f13 f14 f15 f16 f17 f18 f19 f20 f21 fL fN fP fM fO) H := hP
        have hD : va_D A (mW ad kc x0 x1 x2 x3 x4 x5 x6 x7 x8 x9 x10 x11 x_34 y_53 x14 x_36 x16 x17 x18 x19 x20 x21 f0 f1 f2 f_37 f_44 f_45 f_40 f_41 f_52 f9 f10 f11 f12 f13 f14 f15 f16 f17 f18 f19 f20 f21 fL fN fP fM fO) := hD
        refine lv_iload_n hx hb dX10_itemKnot_103 rfl (lv_at hl 2 rfl) ?_
        exact W.iret hx hb hr (fun t ht hW => ⟨⟨_, _, rfl, rfl, x_34, y_53, x_36, f_37, f_44, f_45, f_40, f_41, f_52, (by first | omega | assumption | rfl | decide), (by first | omega | assumption | rfl | decide), (by first | omega | assumption | rfl | decide), (by first | omega | assumption | rfl | decide), hE.1, hE.2.2, hE.2.1, by rw [ht]; exact hP, va_K.moved hW.alike hK, hD⟩, hS.F ht⟩) hS.2.2 dX10_itemKnot_104
      · have tk_51 := c_ne (a := r_47.toInt) (b := 43) rfl (by decide) k_51
        refine lv_iload_n hx hb dX10_itemKnot_80 rfl (lv_at hl 0 rfl) ?_
        refine lv_bipush (v := 63) hx hb dX10_itemKnot_81 (by decide) ?_
        refine lv_icmp_ne (tgt := 103) hx hb dX10_itemKnot_83 (by decide) (fun k_54 => ?_) (fun k_54 => ?_)
        · have tk_54 := c_ne (a := r_47.toInt) (b := 63) rfl (by decide) k_54
          refine lv_iload_n hx hb dX10_itemKnot_103 rfl (lv_at hl 2 rfl) ?_
          exact W.iret hx hb hr (fun t ht hW => ⟨⟨_, _, rfl, rfl, x_34, y_46, x_36, f_37, f_44, f_45, f_40, f_41, f_42, (by first | omega | assumption | rfl | decide), (by first | omega | assumption | rfl | decide), (by first | omega | assumption | rfl | decide), (by first | omega | assumption | rfl | decide), hE.1, hE.2.2, hE.2.1, by rw [ht]; exact hP, va_K.moved hW.alike hK, hD⟩, hS.F ht⟩) hS.2.2 dX10_itemKnot_104
        · have tk_54 := c_eq (a := r_47.toInt) (b := 63) rfl (by decide) k_54
          refine lv_aload_n hx hb dX10_itemKnot_86 rfl (lv_at hl 3 rfl) ?_
          refine va_get (D := (dC, dI)) (ci := 10) (v := .ref (ad 9)) (C := RX10) (T := TX10) (N := 48) hx hb hts fin_X10_itemKnotmk2_X10 hown hK hP 0 rfl rfl 20 (by decide) (hts (.fieldLink RX10 43 "PatternGateModel" "sign" "[I") (List.mem_of_getElem? (i := 6) (by decide +kernel))) (fun _ h9 => h9) rfl dX10_itemKnot_87 ?_
          refine lv_iload_n hx hb dX10_itemKnot_90 rfl (lv_at hl 2 rfl) ?_
          refine lv_iload_n hx hb dX10_itemKnot_91 rfl (lv_at hl 0 rfl) ?_
          refine va_iast hx hb hK hP hD hS 9 8 rfl rfl (i := r_1) (vp_of (a := r_1.toInt) rfl (by omega) (by omega)) dX10_itemKnot_92 (fun H locs hP hD hS => ?_)
          generalize hf_f_55 : upd f_42 _ _ = f_55 at hP hD
          have hP : va_P (dC, dI) vwCl (mW ad kc x0 x1 x2 x3 x4 x5 x6 x7 x8 x9 x10 x11 x_34 y_46 x14 x_36 x16 x17 x18 x19 x20 x21 f0 f1 f2 f_37 f_44 f_45 f_40 f_41 f_55 f9 f10 f11 f12 f13 f14 f15 f16 f17 f18 f19 f20 f21 fL fN fP fM fO) H := hP
          have hD : va_D A (mW ad kc x0 x1 x2 x3 x4 x5 x6 x7 x8 x9 x10 x11 x_34 y_46 x14 x_36 x16 x17 x18 x19 x20 x21 f0 f1 f2 f_37 f_44 f_45 f_40 f_41 f_55 f9 f10 f11 f12 f13 f14 f15 f16 f17 f18 f19 f20 f21 fL fN fP fM fO) := hD
          refine lv_aload_n hx hb dX10_itemKnot_93 rfl (lv_at hl 3 rfl) ?_
          refine lv_dup hx hb dX10_itemKnot_94 rfl ?_
          refine va_get (D := (dC, dI)) (ci := 10) (v := .int y_46) (C := RX10) (T := TX10) (N := 48) hx hb hts fin_X10_itemKnotmk2_X10 hown hK hP 0 rfl rfl 22 (by decide) (hts (.fieldLink RX10 217 "PatternGateModel" "reached" "I") (List.mem_of_getElem? (i := 12) (by decide +kernel))) (fun _ h9 => h9) rfl dX10_itemKnot_95 ?_
          refine lv_iconst (v := 1) hx hb dX10_itemKnot_98 (by decide) ?_
          refine lv_iadd hx hb dX10_itemKnot_99 ?_
          refine lv_topi (fun y_56 ey_56 => ?_)
          first | have ty_56 := i_add (a := y_46.toInt) (b := 1) rfl (by decide) ey_56 (by omega) (by omega) | skip
          refine va_put (D := (dC, dI)) (ci := 10) (v := .int y_56) (ty := .int) (C := RX10) (T := TX10) (N := 48) hx hb hts fin_X10_itemKnotmk2_X10 tyX10 tyX10_ok nmX10 hown hK hP hD hS 0 rfl rfl 22 (by decide) (hts (.fieldLink RX10 217 "PatternGateModel" "reached" "I") (List.mem_of_getElem? (i := 12) (by decide +kernel))) (fun _ h9 => h9) rfl (by decide +kernel) rfl rfl (Nat.le_of_ble_eq_true rfl) dX10_itemKnot_100 (fun H locs hP hD hS => ?_)
          have hP : va_P (dC, dI) vwCl (mW ad kc x0 x1 x2 x3 x4 x5 x6 x7 x8 x9 x10 x11 x_34 y_56 x14 x_36 x16 x17 x18 x19 x20 x21 f0 f1 f2 f_37 f_44 f_45 f_40 f_41 f_55 f9 f10 f11 f12 f13 f14 f15 f16 f17 f18 f19 f20 f21 fL fN fP fM fO) H := hP
          have hD : va_D A (mW ad kc x0 x1 x2 x3 x4 x5 x6 x7 x8 x9 x10 x11 x_34 y_56 x14 x_36 x16 x17 x18 x19 x20 x21 f0 f1 f2 f_37 f_44 f_45 f_40 f_41 f_55 f9 f10 f11 f12 f13 f14 f15 f16 f17 f18 f19 f20 f21 fL fN fP fM fO) := hD
          refine lv_iload_n hx hb dX10_itemKnot_103 rfl (lv_at hl 2 rfl) ?_
          exact W.iret hx hb hr (fun t ht hW => ⟨⟨_, _, rfl, rfl, x_34, y_56, x_36, f_37, f_44, f_45, f_40, f_41, f_55, (by first | omega | assumption | rfl | decide), (by first | omega | assumption | rfl | decide), (by first | omega | assumption | rfl | decide), (by first | omega | assumption | rfl | decide), hE.1, hE.2.2, hE.2.1, by rw [ht]; exact hP, va_K.moved hW.alike hK, hD⟩, hS.F ht⟩) hS.2.2 dX10_itemKnot_104
def mwX10_branchKnotmk2 : List Cond := .code yX10_branchKnot cX10_branchKnot 3 (some .int) :: ([.code yX10_knot cX10_knot 2 (some .int), .fieldLink RX10 28 "PatternGateModel" "kind" "[I", .fieldLink RX10 223 "PatternGateModel" "knots" "I", .fieldLink RX10 31 "PatternGateModel" "first" "[I", .fieldLink RX10 34 "PatternGateModel" "next" "[I", .fieldLink RX10 43 "PatternGateModel" "sign" "[I", .methodLink RX10 226 yX10_knot, .instanceMethod yX10_knot, .selects RX10 yX10_knot yX10_knot, .initialized RX10, .code yX10_signAt cX10_signAt 1 (some .int), .fieldLink RX10 217 "PatternGateModel" "reached" "I", .fieldLink RX10 8 "PatternGateModel" "all" "[I", .fieldLink RX10 220 "PatternGateModel" "pattern0" "I", .methodLink RX10 236 yX10_signAt, .instanceMethod yX10_signAt, .selects RX10 yX10_signAt yX10_signAt, .code yX10_itemKnot cX10_itemKnot 4 (some .int), .code yX10_spotKnot cX10_spotKnot 3 (some .int), .fieldLink RX10 40 "PatternGateModel" "spot" "[I", .fieldLink RX10 248 "PatternGateModel" "spotMany" "I", .fieldLink RX10 37 "PatternGateModel" "letters" "[I", .constant RX10 251 (67108863), .methodLink RX10 245 yX10_spotKnot, .instanceMethod yX10_spotKnot, .selects RX10 yX10_spotKnot yX10_spotKnot, .code yX10_joins cX10_joins 4 (some .int), .methodLink RX10 232 yX10_joins, .instanceMethod yX10_joins, .selects RX10 yX10_joins yX10_joins, .code yX10_patternKnot cX10_patternKnot 3 (some .int), .code yX10_branchKnot cX10_branchKnot 3 (some .int), .methodLink RX10 239 yX10_itemKnot, .instanceMethod yX10_itemKnot, .selects RX10 yX10_itemKnot yX10_itemKnot, .methodLink RX10 229 yX10_branchKnot, .instanceMethod yX10_branchKnot, .selects RX10 yX10_branchKnot yX10_branchKnot, .methodLink RX10 242 yX10_patternKnot, .instanceMethod yX10_patternKnot, .selects RX10 yX10_patternKnot yX10_patternKnot] ++ wsX100)
set_option maxRecDepth 20000 in
theorem mg_X10_branchKnotmk2_X10_knot_226 : GoodIn mwX10_branchKnotmk2 (wsV RX10 226 RX10 yX10_knot mwX10_knotm) := goodIn_r _ [7, 8, 9, 10, 1, 2, 3, 4, 5, 6, 42, 43, 44, 45, 46, 47, 48, 49, 50, 51, 52, 53, 54, 55, 56, 57, 58, 59, 60, 61, 62, 63, 64, 65, 66, 67, 68, 69, 70, 71, 72, 73, 74, 75, 76, 77, 78, 79, 80, 81, 82, 83, 84, 85, 86, 87, 88, 89] (by decide +kernel) (by decide +kernel)
set_option maxRecDepth 20000 in
theorem mg_X10_branchKnotmk2_X10_signAt_236 : GoodIn mwX10_branchKnotmk2 (wsV RX10 236 RX10 yX10_signAt mwX10_signAtm) := goodIn_r _ [15, 16, 17, 10, 11, 12, 13, 14, 42, 43, 44, 45, 46, 47, 48, 49, 50, 51, 52, 53, 54, 55, 56, 57, 58, 59, 60, 61, 62, 63, 64, 65, 66, 67, 68, 69, 70, 71, 72, 73, 74, 75, 76, 77, 78, 79, 80, 81, 82, 83, 84, 85, 86, 87, 88, 89] (by decide +kernel) (by decide +kernel)
set_option maxRecDepth 20000 in
theorem mg_X10_branchKnotmk2_X10_itemKnot_239 : GoodIn mwX10_branchKnotmk2 (wsV RX10 239 RX10 yX10_itemKnot mwX10_itemKnotmk2) := goodIn_r _ [33, 34, 35, 10, 18, 1, 2, 3, 4, 5, 6, 7, 8, 9, 10, 11, 12, 13, 14, 15, 16, 17, 19, 20, 21, 22, 23, 24, 25, 26, 27, 28, 29, 30, 31, 0, 18, 33, 34, 35, 36, 37, 38, 39, 40, 41, 42, 43, 44, 45, 46, 47, 48, 49, 50, 51, 52, 53, 54, 55, 56, 57, 58, 59, 60, 61, 62, 63, 64, 65, 66, 67, 68, 69, 70, 71, 72, 73, 74, 75, 76, 77, 78, 79, 80, 81, 82, 83, 84, 85, 86, 87, 88, 89] (by decide +kernel) (by decide +kernel)
set_option maxRecDepth 20000 in
theorem mg_X10_branchKnotmk2_X10_joins_232 : GoodIn mwX10_branchKnotmk2 (wsV RX10 232 RX10 yX10_joins mwX10_joinsm) := goodIn_r _ [28, 29, 30, 10, 27, 5, 4, 42, 43, 44, 45, 46, 47, 48, 49, 50, 51, 52, 53, 54, 55, 56, 57, 58, 59, 60, 61, 62, 63, 64, 65, 66, 67, 68, 69, 70, 71, 72, 73, 74, 75, 76, 77, 78, 79, 80, 81, 82, 83, 84, 85, 86, 87, 88, 89] (by decide +kernel) (by decide +kernel)
set_option maxHeartbeats 4000000 in
set_option maxRecDepth 100000 in
theorem m_branchKnot2 (l : Launch) (dC : Nat → ClassId) (dI : Nat → Nat → Nat) (ad : Nat → Nat) (kc : Nat → ClassId) (x0 x1 x2 x3 x4 x5 x6 x7 x8 x9 x10 x11 x12 x13 x14 x15 x16 x17 x18 x19 x20 x21 : Int32) (f0 f1 f2 f3 f4 f5 f6 f7 f8 f9 f10 f11 f12 f13 f14 f15 f16 f17 f18 f19 f20 f21 : Nat → Int32) (fL : Nat → Nat → Int64) (fN : Nat → Nat → Int32) (fP : Nat → Nat → Nat) (fM : Nat → Nat → Int32) (fO : Nat → Nat → Int32) (sz : Nat) (bb : Int) (mm : Int) (q0 : 0 ≤ x12.toInt) (q1 : 0 ≤ x13.toInt) (q2 : bb ≤ 900) (q3 : 0 ≤ x14.toInt) (q4 : x14.toInt < 8) (q5 : vI f0 (612 + x14.toInt) ≤ 900) (q6 : 0 ≤ x15.toInt) (q7 : x15.toInt + mm ≤ 24) (q8 : pBranch (tp f0 x14.toInt) (pSub (tp f0 x14.toInt) 2) x13.toInt bb mm) (q9 : isEn ((tp f0 x14.toInt) bb)) (q10 : x12.toInt + 9 * mm ≤ 1600) : Met l yX10_branchKnot mwX10_branchKnotmk2 ({ frames := 9, cells := 0, slots := 0, locals := 540 }) (va_Pc [.ref (ad 0)] (fun U => U.heap.size = sz ∧ va_P (dC, dI) vwCl (mW ad kc x0 x1 x2 x3 x4 x5 x6 x7 x8 x9 x10 x11 x12 x13 x14 x15 x16 x17 x18 x19 x20 x21 f0 f1 f2 f3 f4 f5 f6 f7 f8 f9 f10 f11 f12 f13 f14 f15 f16 f17 f18 f19 f20 f21 fL fN fP fM fO) U.heap ∧ va_K (dC, dI) vwCl (mT kc) U ∧ va_D (fun _ => True) (mW ad kc x0 x1 x2 x3 x4 x5 x6 x7 x8 x9 x10 x11 x12 x13 x14 x15 x16 x17 x18 x19 x20 x21 f0 f1 f2 f3 f4 f5 f6 f7 f8 f9 f10 f11 f12 f13 f14 f15 f16 f17 f18 f19 f20 f21 fL fN fP fM fO))) (va_Qi (fun (o9 u9 : Int32) => o9 = u9) (fun (o9 : Int32) t => ∃ (y12 y13 y15 : Int32) (g3 g4 g5 g6 g7 g8 : Nat → Int32), (o9.toInt = x12.toInt) ∧ (y13.toInt = bb) ∧ (y15.toInt = x15.toInt + mm) ∧ (x12.toInt + 2 ≤ y12.toInt ∧ y12.toInt ≤ x12.toInt + 9 * mm) ∧ (tBranch (mV g3 g4 g5 g7) (tSub (mV g3 g4 g5 g7) 2) x12.toInt y12.toInt mm) ∧ (∀ (q : Nat) (z : Int), 0 ≤ z → z < x12.toInt → (mV g3 g4 g5 g7) q z = (mV f3 f4 f5 f7) q z) ∧ ((mV g3 g4 g5 g7) 2 x12.toInt = -1) ∧ va_P (dC, dI) vwCl (mW ad kc x0 x1 x2 x3 x4 x5 x6 x7 x8 x9 x10 x11 y12 y13 x14 y15 x16 x17 x18 x19 x20 x21 f0 f1 f2 g3 g4 g5 g6 g7 g8 f9 f10 f11 f12 f13 f14 f15 f16 f17 f18 f19 f20 f21 fL fN fP fM fO) t.heap ∧ va_K (dC, dI) vwCl (mT kc) t ∧ va_D (va_A (mW ad kc x0 x1 x2 x3 x4 x5 x6 x7 x8 x9 x10 x11 x12 x13 x14 x15 x16 x17 x18 x19 x20 x21 f0 f1 f2 f3 f4 f5 f6 f7 f8 f9 f10 f11 f12 f13 f14 f15 f16 f17 f18 f19 f20 f21 fL fN fP fM fO) sz) (mW ad kc x0 x1 x2 x3 x4 x5 x6 x7 x8 x9 x10 x11 y12 y13 x14 y15 x16 x17 x18 x19 x20 x21 f0 f1 f2 g3 g4 g5 g6 g7 g8 f9 f10 f11 f12 f13 f14 f15 f16 f17 f18 f19 f20 f21 fL fN fP fM fO)) (va_A (mW ad kc x0 x1 x2 x3 x4 x5 x6 x7 x8 x9 x10 x11 x12 x13 x14 x15 x16 x17 x18 x19 x20 x21 f0 f1 f2 f3 f4 f5 f6 f7 f8 f9 f10 f11 f12 f13 f14 f15 f16 f17 f18 f19 f20 f21 fL fN fP fM fO) sz)) 0 0 (va_A (mW ad kc x0 x1 x2 x3 x4 x5 x6 x7 x8 x9 x10 x11 x12 x13 x14 x15 x16 x17 x18 x19 x20 x21 f0 f1 f2 f3 f4 f5 f6 f7 f8 f9 f10 f11 f12 f13 f14 f15 f16 f17 f18 f19 f20 f21 fL fN fP fM fO) sz) := by
  refine Met.ofW (cc := cX10_branchKnot) (maxL := 3) (ret := (some .int)) (by decide +kernel) rfl ?_
  intro p e s m args below meth c s₁ B hml hv
  obtain ⟨rfl, hsz, hP, hK, hD0⟩ := hv
  have hx := B.exec
  have hb := B.bytes
  have hr := B.returns
  have hts := atoms_spec (ws := mwX10_branchKnotmk2) B.pre
  have hown : s.vm.findClass RX10 = some m.cls := findClass_of_methodNamed B.named
  have hlocks := B.notSynchronized
  subst hsz
  have hD := hD0.self (sz := s.heap.size)
  generalize hAe : va_A (mW ad kc x0 x1 x2 x3 x4 x5 x6 x7 x8 x9 x10 x11 x12 x13 x14 x15 x16 x17 x18 x19 x20 x21 f0 f1 f2 f3 f4 f5 f6 f7 f8 f9 f10 f11 f12 f13 f14 f15 f16 f17 f18 f19 f20 f21 fL fN fP fM fO) s.heap.size = A at hD ⊢
  have hA : ∀ q : Nat, s.heap.size ≤ q → A q := fun q h => by rw [← hAe]; exact Or.inr h
  have hP : va_P (dC, dI) vwCl (mW ad kc x0 x1 x2 x3 x4 x5 x6 x7 x8 x9 x10 x11 x12 x13 x14 x15 x16 x17 x18 x19 x20 x21 f0 f1 f2 f3 f4 f5 f6 f7 f8 f9 f10 f11 f12 f13 f14 f15 f16 f17 f18 f19 f20 f21 fL fN fP fM fO) s.heap := hP
  have hD : va_D A (mW ad kc x0 x1 x2 x3 x4 x5 x6 x7 x8 x9 x10 x11 x12 x13 x14 x15 x16 x17 x18 x19 x20 x21 f0 f1 f2 f3 f4 f5 f6 f7 f8 f9 f10 f11 f12 f13 f14 f15 f16 f17 f18 f19 f20 f21 fL fN fP fM fO) := hD
  have hK : va_K (dC, dI) vwCl (mT kc) s := hK
  generalize hH : s.heap = H at hP ⊢
  have hS : va_S A s.heap H [] := by rw [← hH]; exact va_S.rf
  have hl := lv_entry ([.ref (ad 0)]) (n := 3) (Nat.le_of_ble_eq_true rfl)
  rw [lg_entry_eq]
  generalize (lg_sl ([.ref (ad 0)]) ++ List.replicate (3 - (lg_sl ([.ref (ad 0)])).length) Slot.unset).toArray = ls at hl ⊢
  have hl : lv_has ls 3 [(0, .ref (ad 0))] := hl
  have hps := pos_branch (pos_sub 2) q8
  have hmo := mono_branch (mono_sub 2) q8
  refine lv_aload_n hx hb dX10_branchKnot_0 rfl (lv_at hl 0 rfl) ?_
  refine lv_iconst (v := 2) hx hb dX10_branchKnot_1 (by decide) ?_
  have hFc := m_free hD hS hA
  refine va_calli (va_runV (As := [.int 2]) (rest := []) ⟨hx, hb, hml, hown, hts⟩ (m_knot l dC dI ad kc x0 x1 x2 x3 x4 x5 x6 x7 x8 x9 x10 x11 x12 x13 x14 x15 x16 x17 x18 x19 x20 x21 f0 f1 f2 f3 f4 f5 f6 f7 f8 f9 f10 f11 f12 f13 f14 f15 f16 f17 f18 f19 f20 f21 fL fN fP fM fO H.size 2 (by first | omega | assumption | decide | (have l0 := Int32.toInt_zero; omega)) (by first | omega | assumption | decide | (have l0 := Int32.toInt_zero; omega))) (cwV 1 hts mg_X10_branchKnotmk2_X10_knot_226 rfl rfl rfl (by decide +kernel) ⟨Nat.le_of_ble_eq_true rfl, Nat.le_of_ble_eq_true rfl⟩) ⟨fun a U g mk q => by obtain ⟨q0, q1, qP, qK, qD⟩ := q; exact ⟨q0, q1, qP, va_K.moved (u := U) (U := U.calling g mk a) (Vm.Alike.refl U.vm) qK, qD⟩, va_recv hK hP (ci := 10) (q0 := 0) rfl rfl, fun U hU hW => ⟨rfl, by rw [hU], by rw [hU]; exact hP, va_K.moved hW.alike hK, hD.weaken (fun _ _ _ _ => trivial)⟩⟩ rfl rfl hl.1 rfl (lv_room (Nat.le_of_ble_eq_true rfl)) dX10_branchKnot_2 ⟨Nat.le_of_ble_eq_true rfl, Nat.le_of_ble_eq_true rfl⟩) hS (fun q _ h => hFc q h) hFc (fun r_1 u t H1 locs ht hvm hw hB hz1 hk1 hS => ?_)
  subst hw
  obtain ⟨x_2, f_3, f_4, f_5, f_6, hr_1_0, hr_1_1, hr_1_2, hr_1_3, hP, hK1, hD1⟩ := hB
  rw [ht] at hP
  have hD := hD1.weaken (fun k q _ h => hFc q.1 h)
  generalize H1 = H at hP hS ⊢
  have rg_x_2 := i_rng x_2
  have rg_r_1 := i_rng r_1
  have hP : va_P (dC, dI) vwCl (mW ad kc x0 x1 x2 x3 x4 x5 x6 x7 x8 x9 x10 x11 x_2 x13 x14 x15 x16 x17 x18 x19 x20 x21 f0 f1 f2 f_3 f_4 f_5 f6 f7 f_6 f9 f10 f11 f12 f13 f14 f15 f16 f17 f18 f19 f20 f21 fL fN fP fM fO) H := hP
  have hD : va_D A (mW ad kc x0 x1 x2 x3 x4 x5 x6 x7 x8 x9 x10 x11 x_2 x13 x14 x15 x16 x17 x18 x19 x20 x21 f0 f1 f2 f_3 f_4 f_5 f6 f7 f_6 f9 f10 f11 f12 f13 f14 f15 f16 f17 f18 f19 f20 f21 fL fN fP fM fO) := hD
  refine lv_istore_n (lv' := [(1, .int r_1), (0, .ref (ad 0))]) hx hb dX10_branchKnot_5 rfl hl (by decide) rfl (fun ls hl => ?_)
  refine lv_iconst (v := (-1)) hx hb dX10_branchKnot_6 (by decide) ?_
  refine lv_istore_n (lv' := [(2, .int (-1)), (1, .int r_1), (0, .ref (ad 0))]) hx hb dX10_branchKnot_7 rfl hl (by decide) rfl (fun ls hl => ?_)
  have loop8 : ∀ (lm8 : Nat) (la kn ra sm : Int32) (ga gb gc gd ge gf : Nat → Int32), (x12.toInt + 1 ≤ kn.toInt) → (kn.toInt ≤ x12.toInt + 1 + 8 * (sm.toInt - x15.toInt)) → (x13.toInt ≤ ra.toInt ∧ ra.toInt ≤ bb) → (x15.toInt ≤ sm.toInt ∧ sm.toInt ≤ x15.toInt + mm) → (-1 ≤ la.toInt ∧ la.toInt < kn.toInt) → (ckI (tp f0 x14.toInt) (pSub (tp f0 x14.toInt) 2) ra.toInt bb (mm - (sm.toInt - x15.toInt))) → (bkI (mV f3 f4 f5 f7) (mV ga gb gc ge) (fun V => tItem V (tSub V 2)) 2 x12.toInt la.toInt kn.toInt (sm.toInt - x15.toInt)) → ((bb - ra.toInt).toNat) < lm8 → ∀ (H : Heap) (locs : List Loc) (ls : Array Slot), va_P (dC, dI) vwCl (mW ad kc x0 x1 x2 x3 x4 x5 x6 x7 x8 x9 x10 x11 kn ra x14 sm x16 x17 x18 x19 x20 x21 f0 f1 f2 ga gb gc gd ge gf f9 f10 f11 f12 f13 f14 f15 f16 f17 f18 f19 f20 f21 fL fN fP fM fO) H → va_D A (mW ad kc x0 x1 x2 x3 x4 x5 x6 x7 x8 x9 x10 x11 kn ra x14 sm x16 x17 x18 x19 x20 x21 f0 f1 f2 ga gb gc gd ge gf f9 f10 f11 f12 f13 f14 f15 f16 f17 f18 f19 f20 f21 fL fN fP fM fO) → va_S A s.heap H locs → lv_has ls 3 [(2, .int la), (1, .int r_1), (0, .ref (ad 0))] → W p l e (headSpec mwX10_branchKnotmk2 ({ frames := 9, cells := 0, slots := 0, locals := 540 })).room s m ([.ref (ad 0)]).toArray below meth c H locs 0 0 (MQ below (va_Qi (fun (o9 u9 : Int32) => o9 = u9) (fun (o9 : Int32) t => ∃ (y12 y13 y15 : Int32) (g3 g4 g5 g6 g7 g8 : Nat → Int32), (o9.toInt = x12.toInt) ∧ (y13.toInt = bb) ∧ (y15.toInt = x15.toInt + mm) ∧ (x12.toInt + 2 ≤ y12.toInt ∧ y12.toInt ≤ x12.toInt + 9 * mm) ∧ (tBranch (mV g3 g4 g5 g7) (tSub (mV g3 g4 g5 g7) 2) x12.toInt y12.toInt mm) ∧ (∀ (q : Nat) (z : Int), 0 ≤ z → z < x12.toInt → (mV g3 g4 g5 g7) q z = (mV f3 f4 f5 f7) q z) ∧ ((mV g3 g4 g5 g7) 2 x12.toInt = -1) ∧ va_P (dC, dI) vwCl (mW ad kc x0 x1 x2 x3 x4 x5 x6 x7 x8 x9 x10 x11 y12 y13 x14 y15 x16 x17 x18 x19 x20 x21 f0 f1 f2 g3 g4 g5 g6 g7 g8 f9 f10 f11 f12 f13 f14 f15 f16 f17 f18 f19 f20 f21 fL fN fP fM fO) t.heap ∧ va_K (dC, dI) vwCl (mT kc) t ∧ va_D A (mW ad kc x0 x1 x2 x3 x4 x5 x6 x7 x8 x9 x10 x11 y12 y13 x14 y15 x16 x17 x18 x19 x20 x21 f0 f1 f2 g3 g4 g5 g6 g7 g8 f9 f10 f11 f12 f13 f14 f15 f16 f17 f18 f19 f20 f21 fL fN fP fM fO)) A) ([.ref (ad 0)]).toArray s 0 0 A) (F0 m 8 ls []) := by
    intro lm8
    induction lm8 with
    | zero => intro la kn ra sm ga gb gc gd ge gf v8_0 v8_1 v8_2 v8_3 v8_4 v8_5 v8_6 hm8; exact absurd hm8 (Nat.not_lt_zero _)
    | succ lm8 ih8 =>
      intro la kn ra sm ga gb gc gd ge gf v8_0 v8_1 v8_2 v8_3 v8_4 v8_5 v8_6 hm8 H locs ls hP hD hS hl
      have rg_la := i_rng la
      have rg_kn := i_rng kn
      have rg_ra := i_rng ra
      have rg_sm := i_rng sm
      refine lv_aload_n hx hb dX10_branchKnot_8 rfl (lv_at hl 2 rfl) ?_
      refine vp_callSi (W.runV (As := []) (rest := []) ⟨hx, hb, hml, hown, hts⟩ (m_signAt l dC dI ad kc x0 x1 x2 x3 x4 x5 x6 x7 x8 x9 x10 x11 kn ra x14 sm x16 x17 x18 x19 x20 x21 f0 f1 f2 ga gb gc gd ge gf f9 f10 f11 f12 f13 f14 f15 f16 f17 f18 f19 f20 f21 fL fN fP fM fO (by first | omega | assumption | decide | (have l0 := Int32.toInt_zero; omega)) (by first | omega | assumption | decide | (have l0 := Int32.toInt_zero; omega)) (by first | omega | assumption | decide | (have l0 := Int32.toInt_zero; omega)) (by first | omega | assumption | decide | (have l0 := Int32.toInt_zero; omega)) (by first | omega | assumption | decide | (have l0 := Int32.toInt_zero; omega))) (cwV 0 hts mg_X10_branchKnotmk2_X10_signAt_236 rfl rfl rfl (by decide +kernel) ⟨Nat.le_of_ble_eq_true rfl, Nat.le_of_ble_eq_true rfl⟩) ⟨fun a U g mk q => by obtain ⟨q0, qP, qK⟩ := q; exact ⟨q0, qP, va_K.moved (u := U) (U := U.calling g mk a) (Vm.Alike.refl U.vm) qK⟩, va_recv hK hP (ci := 10) (q0 := 0) rfl rfl, fun U hU hW => ⟨rfl, by rw [hU]; exact hP, va_K.moved hW.alike hK⟩⟩ rfl rfl hl.1 rfl (lv_room (Nat.le_of_ble_eq_true rfl)) dX10_branchKnot_9 ⟨Nat.le_of_ble_eq_true rfl, Nat.le_of_ble_eq_true rfl⟩) (fun r_7 hr_7 => ?_)
      have rg_r_7 := i_rng r_7
      refine lv_iconst (v := (-1)) hx hb dX10_branchKnot_12 (by decide) ?_
      refine lv_icmp_eq (tgt := 48) hx hb dX10_branchKnot_13 (by decide) (fun k_8 => ?_) (fun k_8 => ?_)
      · have tk_8 := c_eq (a := r_7.toInt) (b := (-1)) rfl (by decide) k_8
        have hX := ck_exit v8_5 (en_of hr_7.symm (by omega))
        have hZ := bk_end v8_6 (by omega)
        rw [show sm.toInt - x15.toInt = mm by omega] at hZ
        refine lv_iload_n hx hb dX10_branchKnot_48 rfl (lv_at hl 1 rfl) ?_
        exact W.iret hx hb hr (fun t ht hW => ⟨⟨_, _, rfl, rfl, kn, ra, sm, ga, gb, gc, gd, ge, gf, (by first | omega | assumption | rfl | decide), (by first | omega | assumption | rfl | decide), (by first | omega | assumption | rfl | decide), ⟨by have h7 := tm_branch (tm_sub 2) (V := (mV ga gb gc ge)) hZ.1; obtain ⟨-, -, n7, la7, h8⟩ := hZ.1; have h9 := tm_sib (hm_item 2 _) n7 h8; omega, by omega⟩, hZ.1, hZ.2.2, hZ.2.1, by rw [ht]; exact hP, va_K.moved hW.alike hK, hD⟩, hS.F ht⟩) hS.2.2 dX10_branchKnot_49
      · have tk_8 := c_ne (a := r_7.toInt) (b := (-1)) rfl (by decide) k_8
        refine lv_aload_n hx hb dX10_branchKnot_16 rfl (lv_at hl 2 rfl) ?_
        refine vp_callSi (W.runV (As := []) (rest := []) ⟨hx, hb, hml, hown, hts⟩ (m_signAt l dC dI ad kc x0 x1 x2 x3 x4 x5 x6 x7 x8 x9 x10 x11 kn ra x14 sm x16 x17 x18 x19 x20 x21 f0 f1 f2 ga gb gc gd ge gf f9 f10 f11 f12 f13 f14 f15 f16 f17 f18 f19 f20 f21 fL fN fP fM fO (by first | omega | assumption | decide | (have l0 := Int32.toInt_zero; omega)) (by first | omega | assumption | decide | (have l0 := Int32.toInt_zero; omega)) (by first | omega | assumption | decide | (have l0 := Int32.toInt_zero; omega)) (by first | omega | assumption | decide | (have l0 := Int32.toInt_zero; omega)) (by first | omega | assumption | decide | (have l0 := Int32.toInt_zero; omega))) (cwV 0 hts mg_X10_branchKnotmk2_X10_signAt_236 rfl rfl rfl (by decide +kernel) ⟨Nat.le_of_ble_eq_true rfl, Nat.le_of_ble_eq_true rfl⟩) ⟨fun a U g mk q => by obtain ⟨q0, qP, qK⟩ := q; exact ⟨q0, qP, va_K.moved (u := U) (U := U.calling g mk a) (Vm.Alike.refl U.vm) qK⟩, va_recv hK hP (ci := 10) (q0 := 0) rfl rfl, fun U hU hW => ⟨rfl, by rw [hU]; exact hP, va_K.moved hW.alike hK⟩⟩ rfl rfl hl.1 rfl (lv_room (Nat.le_of_ble_eq_true rfl)) dX10_branchKnot_17 ⟨Nat.le_of_ble_eq_true rfl, Nat.le_of_ble_eq_true rfl⟩) (fun r_9 hr_9 => ?_)
        have rg_r_9 := i_rng r_9
        refine lv_bipush (v := 124) hx hb dX10_branchKnot_20 (by decide) ?_
        refine lv_icmp_eq (tgt := 48) hx hb dX10_branchKnot_22 (by decide) (fun k_10 => ?_) (fun k_10 => ?_)
        · have tk_10 := c_eq (a := r_9.toInt) (b := 124) rfl (by decide) k_10
          have hX := ck_exit v8_5 (en_of hr_9.symm (by omega))
          have hZ := bk_end v8_6 (by omega)
          rw [show sm.toInt - x15.toInt = mm by omega] at hZ
          refine lv_iload_n hx hb dX10_branchKnot_48 rfl (lv_at hl 1 rfl) ?_
          exact W.iret hx hb hr (fun t ht hW => ⟨⟨_, _, rfl, rfl, kn, ra, sm, ga, gb, gc, gd, ge, gf, (by first | omega | assumption | rfl | decide), (by first | omega | assumption | rfl | decide), (by first | omega | assumption | rfl | decide), ⟨by have h7 := tm_branch (tm_sub 2) (V := (mV ga gb gc ge)) hZ.1; obtain ⟨-, -, n7, la7, h8⟩ := hZ.1; have h9 := tm_sib (hm_item 2 _) n7 h8; omega, by omega⟩, hZ.1, hZ.2.2, hZ.2.1, by rw [ht]; exact hP, va_K.moved hW.alike hK, hD⟩, hS.F ht⟩) hS.2.2 dX10_branchKnot_49
        · have tk_10 := c_ne (a := r_9.toInt) (b := 124) rfl (by decide) k_10
          refine lv_aload_n hx hb dX10_branchKnot_25 rfl (lv_at hl 2 rfl) ?_
          refine vp_callSi (W.runV (As := []) (rest := []) ⟨hx, hb, hml, hown, hts⟩ (m_signAt l dC dI ad kc x0 x1 x2 x3 x4 x5 x6 x7 x8 x9 x10 x11 kn ra x14 sm x16 x17 x18 x19 x20 x21 f0 f1 f2 ga gb gc gd ge gf f9 f10 f11 f12 f13 f14 f15 f16 f17 f18 f19 f20 f21 fL fN fP fM fO (by first | omega | assumption | decide | (have l0 := Int32.toInt_zero; omega)) (by first | omega | assumption | decide | (have l0 := Int32.toInt_zero; omega)) (by first | omega | assumption | decide | (have l0 := Int32.toInt_zero; omega)) (by first | omega | assumption | decide | (have l0 := Int32.toInt_zero; omega)) (by first | omega | assumption | decide | (have l0 := Int32.toInt_zero; omega))) (cwV 0 hts mg_X10_branchKnotmk2_X10_signAt_236 rfl rfl rfl (by decide +kernel) ⟨Nat.le_of_ble_eq_true rfl, Nat.le_of_ble_eq_true rfl⟩) ⟨fun a U g mk q => by obtain ⟨q0, qP, qK⟩ := q; exact ⟨q0, qP, va_K.moved (u := U) (U := U.calling g mk a) (Vm.Alike.refl U.vm) qK⟩, va_recv hK hP (ci := 10) (q0 := 0) rfl rfl, fun U hU hW => ⟨rfl, by rw [hU]; exact hP, va_K.moved hW.alike hK⟩⟩ rfl rfl hl.1 rfl (lv_room (Nat.le_of_ble_eq_true rfl)) dX10_branchKnot_26 ⟨Nat.le_of_ble_eq_true rfl, Nat.le_of_ble_eq_true rfl⟩) (fun r_11 hr_11 => ?_)
          have rg_r_11 := i_rng r_11
          refine lv_bipush (v := 41) hx hb dX10_branchKnot_29 (by decide) ?_
          refine lv_icmp_eq (tgt := 48) hx hb dX10_branchKnot_31 (by decide) (fun k_12 => ?_) (fun k_12 => ?_)
          · have tk_12 := c_eq (a := r_11.toInt) (b := 41) rfl (by decide) k_12
            have hX := ck_exit v8_5 (en_of hr_11.symm (by omega))
            have hZ := bk_end v8_6 (by omega)
            rw [show sm.toInt - x15.toInt = mm by omega] at hZ
            refine lv_iload_n hx hb dX10_branchKnot_48 rfl (lv_at hl 1 rfl) ?_
            exact W.iret hx hb hr (fun t ht hW => ⟨⟨_, _, rfl, rfl, kn, ra, sm, ga, gb, gc, gd, ge, gf, (by first | omega | assumption | rfl | decide), (by first | omega | assumption | rfl | decide), (by first | omega | assumption | rfl | decide), ⟨by have h7 := tm_branch (tm_sub 2) (V := (mV ga gb gc ge)) hZ.1; obtain ⟨-, -, n7, la7, h8⟩ := hZ.1; have h9 := tm_sib (hm_item 2 _) n7 h8; omega, by omega⟩, hZ.1, hZ.2.2, hZ.2.1, by rw [ht]; exact hP, va_K.moved hW.alike hK, hD⟩, hS.F ht⟩) hS.2.2 dX10_branchKnot_49
          · have tk_12 := c_ne (a := r_11.toInt) (b := 41) rfl (by decide) k_12
            obtain ⟨b9, m9, hI9, hC9, hb1, hb2, hb3, hb4⟩ := ck_cont v8_5 q9 (by unfold isEn; rw [← hr_11]; have z9 := hr_9; have z8 := hr_7; omega)
            refine lv_aload_n hx hb dX10_branchKnot_34 rfl (lv_at hl 2 rfl) ?_
            refine lv_iload_n hx hb dX10_branchKnot_35 rfl (lv_at hl 1 rfl) ?_
            refine lv_iload_n hx hb dX10_branchKnot_36 rfl (lv_at hl 0 rfl) ?_
            refine lv_aload_n hx hb dX10_branchKnot_37 rfl (lv_at hl 2 rfl) ?_
            have hFc := m_free hD hS hA
            refine va_calli (va_runV (As := []) (rest := [.int la, .int r_1, .ref (ad 0)]) ⟨hx, hb, hml, hown, hts⟩ (m_itemKnot2 l dC dI ad kc x0 x1 x2 x3 x4 x5 x6 x7 x8 x9 x10 x11 kn ra x14 sm x16 x17 x18 x19 x20 x21 f0 f1 f2 ga gb gc gd ge gf f9 f10 f11 f12 f13 f14 f15 f16 f17 f18 f19 f20 f21 fL fN fP fM fO H.size b9 m9 (by first | omega | assumption | decide | (have l0 := Int32.toInt_zero; omega)) (by first | omega | assumption | decide | (have l0 := Int32.toInt_zero; omega)) (by first | omega | assumption | decide | (have l0 := Int32.toInt_zero; omega)) (by first | omega | assumption | decide | (have l0 := Int32.toInt_zero; omega)) (by first | omega | assumption | decide | (have l0 := Int32.toInt_zero; omega)) (by first | omega | assumption | decide | (have l0 := Int32.toInt_zero; omega)) (by first | omega | assumption | decide | (have l0 := Int32.toInt_zero; omega)) (by first | omega | assumption | decide | (have l0 := Int32.toInt_zero; omega)) (by first | omega | assumption | decide | (have l0 := Int32.toInt_zero; omega)) (by first | omega | assumption | decide | (have l0 := Int32.toInt_zero; omega))) (cwV 0 hts mg_X10_branchKnotmk2_X10_itemKnot_239 rfl rfl rfl (by decide +kernel) ⟨Nat.le_of_ble_eq_true rfl, Nat.le_of_ble_eq_true rfl⟩) ⟨fun a U g mk q => by obtain ⟨q0, q1, qP, qK, qD⟩ := q; exact ⟨q0, q1, qP, va_K.moved (u := U) (U := U.calling g mk a) (Vm.Alike.refl U.vm) qK, qD⟩, va_recv hK hP (ci := 10) (q0 := 0) rfl rfl, fun U hU hW => ⟨rfl, by rw [hU], by rw [hU]; exact hP, va_K.moved hW.alike hK, hD.weaken (fun _ _ _ _ => trivial)⟩⟩ rfl rfl hl.1 rfl (lv_room (Nat.le_of_ble_eq_true rfl)) dX10_branchKnot_38 ⟨Nat.le_of_ble_eq_true rfl, Nat.le_of_ble_eq_true rfl⟩) hS (fun q _ h => hFc q h) hFc (fun r_13 u t H1 locs ht hvm hw hB hz1 hk1 hS => ?_)
            subst hw
            obtain ⟨x_14, x_15, x_16, f_17, f_18, f_19, f_20, f_21, f_22, hr_13_0, hr_13_1, hr_13_2, hr_13_3, hr_13_4, hr_13_5, hr_13_6, hP, hK1, hD1⟩ := hB
            rw [ht] at hP
            have hD := hD1.weaken (fun k q _ h => hFc q.1 h)
            generalize H1 = H at hP hS ⊢
            have rg_x_14 := i_rng x_14
            have rg_x_15 := i_rng x_15
            have rg_x_16 := i_rng x_16
            have rg_r_13 := i_rng r_13
            have hP : va_P (dC, dI) vwCl (mW ad kc x0 x1 x2 x3 x4 x5 x6 x7 x8 x9 x10 x11 x_14 x_15 x14 x_16 x16 x17 x18 x19 x20 x21 f0 f1 f2 f_17 f_18 f_19 f_20 f_21 f_22 f9 f10 f11 f12 f13 f14 f15 f16 f17 f18 f19 f20 f21 fL fN fP fM fO) H := hP
            have hD : va_D A (mW ad kc x0 x1 x2 x3 x4 x5 x6 x7 x8 x9 x10 x11 x_14 x_15 x14 x_16 x16 x17 x18 x19 x20 x21 f0 f1 f2 f_17 f_18 f_19 f_20 f_21 f_22 f9 f10 f11 f12 f13 f14 f15 f16 f17 f18 f19 f20 f21 fL fN fP fM fO) := hD
            have hFc := m_free hD hS hA
            refine va_calli (va_runV (As := [.int r_1, .int la, .int r_13]) (rest := []) ⟨hx, hb, hml, hown, hts⟩ (m_joins l dC dI ad kc x0 x1 x2 x3 x4 x5 x6 x7 x8 x9 x10 x11 x_14 x_15 x14 x_16 x16 x17 x18 x19 x20 x21 f0 f1 f2 f_17 f_18 f_19 f_20 f_21 f_22 f9 f10 f11 f12 f13 f14 f15 f16 f17 f18 f19 f20 f21 fL fN fP fM fO H.size r_1 la r_13 (by first | omega | assumption | decide | (have l0 := Int32.toInt_zero; omega)) (by first | omega | assumption | decide | (have l0 := Int32.toInt_zero; omega)) (by first | omega | assumption | decide | (have l0 := Int32.toInt_zero; omega)) (by first | omega | assumption | decide | (have l0 := Int32.toInt_zero; omega))) (cwV 3 hts mg_X10_branchKnotmk2_X10_joins_232 rfl rfl rfl (by decide +kernel) ⟨Nat.le_of_ble_eq_true rfl, Nat.le_of_ble_eq_true rfl⟩) ⟨fun a U g mk q => by obtain ⟨q0, q1, qP, qK, qD⟩ := q; exact ⟨q0, q1, qP, va_K.moved (u := U) (U := U.calling g mk a) (Vm.Alike.refl U.vm) qK, qD⟩, va_recv hK hP (ci := 10) (q0 := 0) rfl rfl, fun U hU hW => ⟨rfl, by rw [hU], by rw [hU]; exact hP, va_K.moved hW.alike hK, hD.weaken (fun _ _ _ _ => trivial)⟩⟩ rfl rfl hl.1 rfl (lv_room (Nat.le_of_ble_eq_true rfl)) dX10_branchKnot_41 ⟨Nat.le_of_ble_eq_true rfl, Nat.le_of_ble_eq_true rfl⟩) hS (fun q _ h => hFc q h) hFc (fun r_23 u t H1 locs ht hvm hw hB hz1 hk1 hS => ?_)
            subst hw
            obtain ⟨f_24, f_25, hr_23_0, hr_23_1, hP, hK1, hD1⟩ := hB
            rw [ht] at hP
            have hD := hD1.weaken (fun k q _ h => hFc q.1 h)
            generalize H1 = H at hP hS ⊢
            have rg_r_23 := i_rng r_23
            have hP : va_P (dC, dI) vwCl (mW ad kc x0 x1 x2 x3 x4 x5 x6 x7 x8 x9 x10 x11 x_14 x_15 x14 x_16 x16 x17 x18 x19 x20 x21 f0 f1 f2 f_17 f_24 f_25 f_20 f_21 f_22 f9 f10 f11 f12 f13 f14 f15 f16 f17 f18 f19 f20 f21 fL fN fP fM fO) H := hP
            have hD : va_D A (mW ad kc x0 x1 x2 x3 x4 x5 x6 x7 x8 x9 x10 x11 x_14 x_15 x14 x_16 x16 x17 x18 x19 x20 x21 f0 f1 f2 f_17 f_24 f_25 f_20 f_21 f_22 f9 f10 f11 f12 f13 f14 f15 f16 f17 f18 f19 f20 f21 fL fN fP fM fO) := hD
            rw [show r_1.toInt = x12.toInt by omega, show r_13.toInt = kn.toInt by omega] at hr_23_1
            have hB := bk_step (V2 := (mV f_17 f_24 f_25 f_21)) (hm_item 2) (hR_item 2) (by omega) v8_6 hr_13_4 hr_13_6 hr_13_5 hr_23_1 (by omega)
            refine lv_istore_n (lv' := [(2, .int r_23), (1, .int r_1), (0, .ref (ad 0))]) hx hb dX10_branchKnot_44 rfl hl (by decide) rfl (fun ls hl => ?_)
            refine lv_goto (tgt := 8) hx hb dX10_branchKnot_45 (by decide) ?_
            exact ih8 r_23 x_14 x_15 x_16 f_17 f_24 f_25 f_20 f_21 f_22 (by first | omega | assumption | decide) (by first | omega | assumption | decide) (by first | omega | assumption | decide) (by first | omega | assumption | decide) (by first | omega | assumption | decide) (by rw [show x_15.toInt = b9 by omega, show mm - (x_16.toInt - x15.toInt) = mm - (sm.toInt - x15.toInt) - m9 by omega]; exact hC9) (by rw [show x_16.toInt - x15.toInt = sm.toInt - x15.toInt + m9 by omega, show r_23.toInt = kn.toInt by omega]; exact hB) (by omega) _ _ ls hP hD hS (lv_sub hl [0, 1, 2] rfl)
  have lit_25 : ((-1) : Int32).toInt = (-1) := by decide
  exact loop8 _ (-1) x_2 x13 x15 f_3 f_4 f_5 f6 f7 f_6 (by first | omega | assumption | decide) (by first | omega | assumption | decide) (by first | omega | assumption | decide) (by first | omega | assumption | decide) (by first | omega | assumption | decide) (by rw [show mm - (x15.toInt - x15.toInt) = mm by omega]; exact ck_init q8) (bk_init (hr_1_2.1.trans (by decide)) hr_1_2.2.2 hr_1_3 (by decide) (by omega) (by omega)) (Nat.lt_succ_self _) _ _ ls hP hD hS (lv_sub hl [0, 1, 2] rfl)
def mwX10_patternKnotmk2 : List Cond := .code yX10_patternKnot cX10_patternKnot 3 (some .int) :: ([.code yX10_knot cX10_knot 2 (some .int), .fieldLink RX10 28 "PatternGateModel" "kind" "[I", .fieldLink RX10 223 "PatternGateModel" "knots" "I", .fieldLink RX10 31 "PatternGateModel" "first" "[I", .fieldLink RX10 34 "PatternGateModel" "next" "[I", .fieldLink RX10 43 "PatternGateModel" "sign" "[I", .methodLink RX10 226 yX10_knot, .instanceMethod yX10_knot, .selects RX10 yX10_knot yX10_knot, .initialized RX10, .code yX10_branchKnot cX10_branchKnot 3 (some .int), .code yX10_signAt cX10_signAt 1 (some .int), .fieldLink RX10 217 "PatternGateModel" "reached" "I", .fieldLink RX10 8 "PatternGateModel" "all" "[I", .fieldLink RX10 220 "PatternGateModel" "pattern0" "I", .methodLink RX10 236 yX10_signAt, .instanceMethod yX10_signAt, .selects RX10 yX10_signAt yX10_signAt, .code yX10_itemKnot cX10_itemKnot 4 (some .int), .code yX10_spotKnot cX10_spotKnot 3 (some .int), .fieldLink RX10 40 "PatternGateModel" "spot" "[I", .fieldLink RX10 248 "PatternGateModel" "spotMany" "I", .fieldLink RX10 37 "PatternGateModel" "letters" "[I", .constant RX10 251 (67108863), .methodLink RX10 245 yX10_spotKnot, .instanceMethod yX10_spotKnot, .selects RX10 yX10_spotKnot yX10_spotKnot, .code yX10_joins cX10_joins 4 (some .int), .methodLink RX10 232 yX10_joins, .instanceMethod yX10_joins, .selects RX10 yX10_joins yX10_joins, .code yX10_patternKnot cX10_patternKnot 3 (some .int), .methodLink RX10 239 yX10_itemKnot, .instanceMethod yX10_itemKnot, .selects RX10 yX10_itemKnot yX10_itemKnot, .methodLink RX10 229 yX10_branchKnot, .instanceMethod yX10_branchKnot, .selects RX10 yX10_branchKnot yX10_branchKnot, .methodLink RX10 242 yX10_patternKnot, .instanceMethod yX10_patternKnot, .selects RX10 yX10_patternKnot yX10_patternKnot] ++ wsX100)
theorem fin_X10_patternKnotmk2_X10 : ∀ w ∈ wsX100, w ∈ mwX10_patternKnotmk2 := fun w h => List.mem_cons_of_mem _ (List.mem_append_right _ h)
set_option maxRecDepth 20000 in
theorem mg_X10_patternKnotmk2_X10_knot_226 : GoodIn mwX10_patternKnotmk2 (wsV RX10 226 RX10 yX10_knot mwX10_knotm) := goodIn_r _ [7, 8, 9, 10, 1, 2, 3, 4, 5, 6, 42, 43, 44, 45, 46, 47, 48, 49, 50, 51, 52, 53, 54, 55, 56, 57, 58, 59, 60, 61, 62, 63, 64, 65, 66, 67, 68, 69, 70, 71, 72, 73, 74, 75, 76, 77, 78, 79, 80, 81, 82, 83, 84, 85, 86, 87, 88, 89] (by decide +kernel) (by decide +kernel)
set_option maxRecDepth 20000 in
theorem mg_X10_patternKnotmk2_X10_branchKnot_229 : GoodIn mwX10_patternKnotmk2 (wsV RX10 229 RX10 yX10_branchKnot mwX10_branchKnotmk2) := goodIn_r _ [36, 37, 38, 10, 11, 1, 2, 3, 4, 5, 6, 7, 8, 9, 10, 12, 13, 14, 15, 16, 17, 18, 19, 20, 21, 22, 23, 24, 25, 26, 27, 28, 29, 30, 31, 0, 11, 33, 34, 35, 36, 37, 38, 39, 40, 41, 42, 43, 44, 45, 46, 47, 48, 49, 50, 51, 52, 53, 54, 55, 56, 57, 58, 59, 60, 61, 62, 63, 64, 65, 66, 67, 68, 69, 70, 71, 72, 73, 74, 75, 76, 77, 78, 79, 80, 81, 82, 83, 84, 85, 86, 87, 88, 89] (by decide +kernel) (by decide +kernel)
set_option maxRecDepth 20000 in
theorem mg_X10_patternKnotmk2_X10_joins_232 : GoodIn mwX10_patternKnotmk2 (wsV RX10 232 RX10 yX10_joins mwX10_joinsm) := goodIn_r _ [29, 30, 31, 10, 28, 5, 4, 42, 43, 44, 45, 46, 47, 48, 49, 50, 51, 52, 53, 54, 55, 56, 57, 58, 59, 60, 61, 62, 63, 64, 65, 66, 67, 68, 69, 70, 71, 72, 73, 74, 75, 76, 77, 78, 79, 80, 81, 82, 83, 84, 85, 86, 87, 88, 89] (by decide +kernel) (by decide +kernel)
set_option maxRecDepth 20000 in
theorem mg_X10_patternKnotmk2_X10_signAt_236 : GoodIn mwX10_patternKnotmk2 (wsV RX10 236 RX10 yX10_signAt mwX10_signAtm) := goodIn_r _ [16, 17, 18, 10, 12, 13, 14, 15, 42, 43, 44, 45, 46, 47, 48, 49, 50, 51, 52, 53, 54, 55, 56, 57, 58, 59, 60, 61, 62, 63, 64, 65, 66, 67, 68, 69, 70, 71, 72, 73, 74, 75, 76, 77, 78, 79, 80, 81, 82, 83, 84, 85, 86, 87, 88, 89] (by decide +kernel) (by decide +kernel)
set_option maxHeartbeats 4000000 in
set_option maxRecDepth 100000 in
theorem m_patternKnot2 (l : Launch) (dC : Nat → ClassId) (dI : Nat → Nat → Nat) (ad : Nat → Nat) (kc : Nat → ClassId) (x0 x1 x2 x3 x4 x5 x6 x7 x8 x9 x10 x11 x12 x13 x14 x15 x16 x17 x18 x19 x20 x21 : Int32) (f0 f1 f2 f3 f4 f5 f6 f7 f8 f9 f10 f11 f12 f13 f14 f15 f16 f17 f18 f19 f20 f21 : Nat → Int32) (fL : Nat → Nat → Int64) (fN : Nat → Nat → Int32) (fP : Nat → Nat → Nat) (fM : Nat → Nat → Int32) (fO : Nat → Nat → Int32) (sz : Nat) (bb : Int) (mm : Int) (q0 : 0 ≤ x12.toInt) (q1 : 0 ≤ x13.toInt) (q2 : bb ≤ 900) (q3 : 0 ≤ x14.toInt) (q4 : x14.toInt < 8) (q5 : vI f0 (612 + x14.toInt) ≤ 900) (q6 : 0 ≤ x15.toInt) (q7 : x15.toInt + mm ≤ 24) (q8 : pPat (tp f0 x14.toInt) 2 x13.toInt bb mm) (q9 : isEn ((tp f0 x14.toInt) bb)) (q10 : x12.toInt + 10 * mm ≤ 1600) : Met l yX10_patternKnot mwX10_patternKnotmk2 ({ frames := 10, cells := 0, slots := 0, locals := 600 }) (va_Pc [.ref (ad 0)] (fun U => U.heap.size = sz ∧ va_P (dC, dI) vwCl (mW ad kc x0 x1 x2 x3 x4 x5 x6 x7 x8 x9 x10 x11 x12 x13 x14 x15 x16 x17 x18 x19 x20 x21 f0 f1 f2 f3 f4 f5 f6 f7 f8 f9 f10 f11 f12 f13 f14 f15 f16 f17 f18 f19 f20 f21 fL fN fP fM fO) U.heap ∧ va_K (dC, dI) vwCl (mT kc) U ∧ va_D (fun _ => True) (mW ad kc x0 x1 x2 x3 x4 x5 x6 x7 x8 x9 x10 x11 x12 x13 x14 x15 x16 x17 x18 x19 x20 x21 f0 f1 f2 f3 f4 f5 f6 f7 f8 f9 f10 f11 f12 f13 f14 f15 f16 f17 f18 f19 f20 f21 fL fN fP fM fO))) (va_Qi (fun (o9 u9 : Int32) => o9 = u9) (fun (o9 : Int32) t => ∃ (y12 y13 y15 : Int32) (g3 g4 g5 g6 g7 g8 : Nat → Int32), (o9.toInt = x12.toInt) ∧ (y13.toInt = bb) ∧ (y15.toInt = x15.toInt + mm) ∧ (x12.toInt + 2 ≤ y12.toInt ∧ y12.toInt ≤ x12.toInt + 10 * mm) ∧ (tPat (mV g3 g4 g5 g7) 2 x12.toInt y12.toInt mm) ∧ (∀ (q : Nat) (z : Int), 0 ≤ z → z < x12.toInt → (mV g3 g4 g5 g7) q z = (mV f3 f4 f5 f7) q z) ∧ ((mV g3 g4 g5 g7) 2 x12.toInt = -1) ∧ va_P (dC, dI) vwCl (mW ad kc x0 x1 x2 x3 x4 x5 x6 x7 x8 x9 x10 x11 y12 y13 x14 y15 x16 x17 x18 x19 x20 x21 f0 f1 f2 g3 g4 g5 g6 g7 g8 f9 f10 f11 f12 f13 f14 f15 f16 f17 f18 f19 f20 f21 fL fN fP fM fO) t.heap ∧ va_K (dC, dI) vwCl (mT kc) t ∧ va_D (va_A (mW ad kc x0 x1 x2 x3 x4 x5 x6 x7 x8 x9 x10 x11 x12 x13 x14 x15 x16 x17 x18 x19 x20 x21 f0 f1 f2 f3 f4 f5 f6 f7 f8 f9 f10 f11 f12 f13 f14 f15 f16 f17 f18 f19 f20 f21 fL fN fP fM fO) sz) (mW ad kc x0 x1 x2 x3 x4 x5 x6 x7 x8 x9 x10 x11 y12 y13 x14 y15 x16 x17 x18 x19 x20 x21 f0 f1 f2 g3 g4 g5 g6 g7 g8 f9 f10 f11 f12 f13 f14 f15 f16 f17 f18 f19 f20 f21 fL fN fP fM fO)) (va_A (mW ad kc x0 x1 x2 x3 x4 x5 x6 x7 x8 x9 x10 x11 x12 x13 x14 x15 x16 x17 x18 x19 x20 x21 f0 f1 f2 f3 f4 f5 f6 f7 f8 f9 f10 f11 f12 f13 f14 f15 f16 f17 f18 f19 f20 f21 fL fN fP fM fO) sz)) 0 0 (va_A (mW ad kc x0 x1 x2 x3 x4 x5 x6 x7 x8 x9 x10 x11 x12 x13 x14 x15 x16 x17 x18 x19 x20 x21 f0 f1 f2 f3 f4 f5 f6 f7 f8 f9 f10 f11 f12 f13 f14 f15 f16 f17 f18 f19 f20 f21 fL fN fP fM fO) sz) := by
  refine Met.ofW (cc := cX10_patternKnot) (maxL := 3) (ret := (some .int)) (by decide +kernel) rfl ?_
  intro p e s m args below meth c s₁ B hml hv
  obtain ⟨rfl, hsz, hP, hK, hD0⟩ := hv
  have hx := B.exec
  have hb := B.bytes
  have hr := B.returns
  have hts := atoms_spec (ws := mwX10_patternKnotmk2) B.pre
  have hown : s.vm.findClass RX10 = some m.cls := findClass_of_methodNamed B.named
  have hlocks := B.notSynchronized
  subst hsz
  have hD := hD0.self (sz := s.heap.size)
  generalize hAe : va_A (mW ad kc x0 x1 x2 x3 x4 x5 x6 x7 x8 x9 x10 x11 x12 x13 x14 x15 x16 x17 x18 x19 x20 x21 f0 f1 f2 f3 f4 f5 f6 f7 f8 f9 f10 f11 f12 f13 f14 f15 f16 f17 f18 f19 f20 f21 fL fN fP fM fO) s.heap.size = A at hD ⊢
  have hA : ∀ q : Nat, s.heap.size ≤ q → A q := fun q h => by rw [← hAe]; exact Or.inr h
  have hP : va_P (dC, dI) vwCl (mW ad kc x0 x1 x2 x3 x4 x5 x6 x7 x8 x9 x10 x11 x12 x13 x14 x15 x16 x17 x18 x19 x20 x21 f0 f1 f2 f3 f4 f5 f6 f7 f8 f9 f10 f11 f12 f13 f14 f15 f16 f17 f18 f19 f20 f21 fL fN fP fM fO) s.heap := hP
  have hD : va_D A (mW ad kc x0 x1 x2 x3 x4 x5 x6 x7 x8 x9 x10 x11 x12 x13 x14 x15 x16 x17 x18 x19 x20 x21 f0 f1 f2 f3 f4 f5 f6 f7 f8 f9 f10 f11 f12 f13 f14 f15 f16 f17 f18 f19 f20 f21 fL fN fP fM fO) := hD
  have hK : va_K (dC, dI) vwCl (mT kc) s := hK
  generalize hH : s.heap = H at hP ⊢
  have hS : va_S A s.heap H [] := by rw [← hH]; exact va_S.rf
  have hl := lv_entry ([.ref (ad 0)]) (n := 3) (Nat.le_of_ble_eq_true rfl)
  rw [lg_entry_eq]
  generalize (lg_sl ([.ref (ad 0)]) ++ List.replicate (3 - (lg_sl ([.ref (ad 0)])).length) Slot.unset).toArray = ls at hl ⊢
  have hl : lv_has ls 3 [(0, .ref (ad 0))] := hl
  have hps := pos_pat 2 _ _ _ q8
  have hmo := mono_pat 2 _ _ _ q8
  refine lv_aload_n hx hb dX10_patternKnot_0 rfl (lv_at hl 0 rfl) ?_
  refine lv_iconst (v := 3) hx hb dX10_patternKnot_1 (by decide) ?_
  have hFc := m_free hD hS hA
  refine va_calli (va_runV (As := [.int 3]) (rest := []) ⟨hx, hb, hml, hown, hts⟩ (m_knot l dC dI ad kc x0 x1 x2 x3 x4 x5 x6 x7 x8 x9 x10 x11 x12 x13 x14 x15 x16 x17 x18 x19 x20 x21 f0 f1 f2 f3 f4 f5 f6 f7 f8 f9 f10 f11 f12 f13 f14 f15 f16 f17 f18 f19 f20 f21 fL fN fP fM fO H.size 3 (by first | omega | assumption | decide | (have l0 := Int32.toInt_zero; omega)) (by first | omega | assumption | decide | (have l0 := Int32.toInt_zero; omega))) (cwV 1 hts mg_X10_patternKnotmk2_X10_knot_226 rfl rfl rfl (by decide +kernel) ⟨Nat.le_of_ble_eq_true rfl, Nat.le_of_ble_eq_true rfl⟩) ⟨fun a U g mk q => by obtain ⟨q0, q1, qP, qK, qD⟩ := q; exact ⟨q0, q1, qP, va_K.moved (u := U) (U := U.calling g mk a) (Vm.Alike.refl U.vm) qK, qD⟩, va_recv hK hP (ci := 10) (q0 := 0) rfl rfl, fun U hU hW => ⟨rfl, by rw [hU], by rw [hU]; exact hP, va_K.moved hW.alike hK, hD.weaken (fun _ _ _ _ => trivial)⟩⟩ rfl rfl hl.1 rfl (lv_room (Nat.le_of_ble_eq_true rfl)) dX10_patternKnot_2 ⟨Nat.le_of_ble_eq_true rfl, Nat.le_of_ble_eq_true rfl⟩) hS (fun q _ h => hFc q h) hFc (fun r_1 u t H1 locs ht hvm hw hB hz1 hk1 hS => ?_)
  subst hw
  obtain ⟨x_2, f_3, f_4, f_5, f_6, hr_1_0, hr_1_1, hr_1_2, hr_1_3, hP, hK1, hD1⟩ := hB
  rw [ht] at hP
  have hD := hD1.weaken (fun k q _ h => hFc q.1 h)
  generalize H1 = H at hP hS ⊢
  have rg_x_2 := i_rng x_2
  have rg_r_1 := i_rng r_1
  have hP : va_P (dC, dI) vwCl (mW ad kc x0 x1 x2 x3 x4 x5 x6 x7 x8 x9 x10 x11 x_2 x13 x14 x15 x16 x17 x18 x19 x20 x21 f0 f1 f2 f_3 f_4 f_5 f6 f7 f_6 f9 f10 f11 f12 f13 f14 f15 f16 f17 f18 f19 f20 f21 fL fN fP fM fO) H := hP
  have hD : va_D A (mW ad kc x0 x1 x2 x3 x4 x5 x6 x7 x8 x9 x10 x11 x_2 x13 x14 x15 x16 x17 x18 x19 x20 x21 f0 f1 f2 f_3 f_4 f_5 f6 f7 f_6 f9 f10 f11 f12 f13 f14 f15 f16 f17 f18 f19 f20 f21 fL fN fP fM fO) := hD
  refine lv_istore_n (lv' := [(1, .int r_1), (0, .ref (ad 0))]) hx hb dX10_patternKnot_5 rfl hl (by decide) rfl (fun ls hl => ?_)
  refine lv_aload_n hx hb dX10_patternKnot_6 rfl (lv_at hl 1 rfl) ?_
  refine lv_iload_n hx hb dX10_patternKnot_7 rfl (lv_at hl 0 rfl) ?_
  refine lv_iconst (v := (-1)) hx hb dX10_patternKnot_8 (by decide) ?_
  rw [pPat_eq] at q8
  obtain ⟨⟨n7, hp7⟩, hp8⟩ := q8
  obtain ⟨b8, m8, hI8, hE8, hC8, hb1, hb2, hb3, hb4⟩ := ba_one hp7 q9
  have hB0 := bk_init (V0 := (mV f3 f4 f5 f7)) (R := (fun V => tBranch V (tSub V 2))) (w := 3) (s := 0) (kn := x12.toInt + 1) (la := -1) (hr_1_2.1.trans (by decide)) hr_1_2.2.2 hr_1_3 rfl rfl rfl
  refine lv_aload_n hx hb dX10_patternKnot_9 rfl (lv_at hl 1 rfl) ?_
  have hFc := m_free hD hS hA
  refine va_calli (va_runV (As := []) (rest := [.int (-1), .int r_1, .ref (ad 0)]) ⟨hx, hb, hml, hown, hts⟩ (m_branchKnot2 l dC dI ad kc x0 x1 x2 x3 x4 x5 x6 x7 x8 x9 x10 x11 x_2 x13 x14 x15 x16 x17 x18 x19 x20 x21 f0 f1 f2 f_3 f_4 f_5 f6 f7 f_6 f9 f10 f11 f12 f13 f14 f15 f16 f17 f18 f19 f20 f21 fL fN fP fM fO H.size b8 m8 (by first | omega | assumption | decide | (have l0 := Int32.toInt_zero; omega)) (by first | omega | assumption | decide | (have l0 := Int32.toInt_zero; omega)) (by first | omega | assumption | decide | (have l0 := Int32.toInt_zero; omega)) (by first | omega | assumption | decide | (have l0 := Int32.toInt_zero; omega)) (by first | omega | assumption | decide | (have l0 := Int32.toInt_zero; omega)) (by first | omega | assumption | decide | (have l0 := Int32.toInt_zero; omega)) (by first | omega | assumption | decide | (have l0 := Int32.toInt_zero; omega)) (by first | omega | assumption | decide | (have l0 := Int32.toInt_zero; omega)) (by first | omega | assumption | decide | (have l0 := Int32.toInt_zero; omega)) (by first | omega | assumption | decide | (have l0 := Int32.toInt_zero; omega)) (by first | omega | assumption | decide | (have l0 := Int32.toInt_zero; omega))) (cwV 0 hts mg_X10_patternKnotmk2_X10_branchKnot_229 rfl rfl rfl (by decide +kernel) ⟨Nat.le_of_ble_eq_true rfl, Nat.le_of_ble_eq_true rfl⟩) ⟨fun a U g mk q => by obtain ⟨q0, q1, qP, qK, qD⟩ := q; exact ⟨q0, q1, qP, va_K.moved (u := U) (U := U.calling g mk a) (Vm.Alike.refl U.vm) qK, qD⟩, va_recv hK hP (ci := 10) (q0 := 0) rfl rfl, fun U hU hW => ⟨rfl, by rw [hU], by rw [hU]; exact hP, va_K.moved hW.alike hK, hD.weaken (fun _ _ _ _ => trivial)⟩⟩ rfl rfl hl.1 rfl (lv_room (Nat.le_of_ble_eq_true rfl)) dX10_patternKnot_10 ⟨Nat.le_of_ble_eq_true rfl, Nat.le_of_ble_eq_true rfl⟩) hS (fun q _ h => hFc q h) hFc (fun r_7 u t H1 locs ht hvm hw hB hz1 hk1 hS => ?_)
  subst hw
  obtain ⟨x_8, x_9, x_10, f_11, f_12, f_13, f_14, f_15, f_16, hr_7_0, hr_7_1, hr_7_2, hr_7_3, hr_7_4, hr_7_5, hr_7_6, hP, hK1, hD1⟩ := hB
  rw [ht] at hP
  have hD := hD1.weaken (fun k q _ h => hFc q.1 h)
  generalize H1 = H at hP hS ⊢
  have rg_x_8 := i_rng x_8
  have rg_x_9 := i_rng x_9
  have rg_x_10 := i_rng x_10
  have rg_r_7 := i_rng r_7
  have hP : va_P (dC, dI) vwCl (mW ad kc x0 x1 x2 x3 x4 x5 x6 x7 x8 x9 x10 x11 x_8 x_9 x14 x_10 x16 x17 x18 x19 x20 x21 f0 f1 f2 f_11 f_12 f_13 f_14 f_15 f_16 f9 f10 f11 f12 f13 f14 f15 f16 f17 f18 f19 f20 f21 fL fN fP fM fO) H := hP
  have hD : va_D A (mW ad kc x0 x1 x2 x3 x4 x5 x6 x7 x8 x9 x10 x11 x_8 x_9 x14 x_10 x16 x17 x18 x19 x20 x21 f0 f1 f2 f_11 f_12 f_13 f_14 f_15 f_16 f9 f10 f11 f12 f13 f14 f15 f16 f17 f18 f19 f20 f21 fL fN fP fM fO) := hD
  rw [show x_2.toInt = x12.toInt + 1 by omega] at hr_7_4 hr_7_5 hr_7_6
  have hFc := m_free hD hS hA
  refine va_calli (va_runV (As := [.int r_1, .int (-1), .int r_7]) (rest := []) ⟨hx, hb, hml, hown, hts⟩ (m_joins l dC dI ad kc x0 x1 x2 x3 x4 x5 x6 x7 x8 x9 x10 x11 x_8 x_9 x14 x_10 x16 x17 x18 x19 x20 x21 f0 f1 f2 f_11 f_12 f_13 f_14 f_15 f_16 f9 f10 f11 f12 f13 f14 f15 f16 f17 f18 f19 f20 f21 fL fN fP fM fO H.size r_1 (-1) r_7 (by first | omega | assumption | decide | (have l0 := Int32.toInt_zero; omega)) (by first | omega | assumption | decide | (have l0 := Int32.toInt_zero; omega)) (by first | omega | assumption | decide | (have l0 := Int32.toInt_zero; omega)) (by first | omega | assumption | decide | (have l0 := Int32.toInt_zero; omega))) (cwV 3 hts mg_X10_patternKnotmk2_X10_joins_232 rfl rfl rfl (by decide +kernel) ⟨Nat.le_of_ble_eq_true rfl, Nat.le_of_ble_eq_true rfl⟩) ⟨fun a U g mk q => by obtain ⟨q0, q1, qP, qK, qD⟩ := q; exact ⟨q0, q1, qP, va_K.moved (u := U) (U := U.calling g mk a) (Vm.Alike.refl U.vm) qK, qD⟩, va_recv hK hP (ci := 10) (q0 := 0) rfl rfl, fun U hU hW => ⟨rfl, by rw [hU], by rw [hU]; exact hP, va_K.moved hW.alike hK, hD.weaken (fun _ _ _ _ => trivial)⟩⟩ rfl rfl hl.1 rfl (lv_room (Nat.le_of_ble_eq_true rfl)) dX10_patternKnot_13 ⟨Nat.le_of_ble_eq_true rfl, Nat.le_of_ble_eq_true rfl⟩) hS (fun q _ h => hFc q h) hFc (fun r_17 u t H1 locs ht hvm hw hB hz1 hk1 hS => ?_)
  subst hw
  obtain ⟨f_18, f_19, hr_17_0, hr_17_1, hP, hK1, hD1⟩ := hB
  rw [ht] at hP
  have hD := hD1.weaken (fun k q _ h => hFc q.1 h)
  generalize H1 = H at hP hS ⊢
  have rg_r_17 := i_rng r_17
  have hP : va_P (dC, dI) vwCl (mW ad kc x0 x1 x2 x3 x4 x5 x6 x7 x8 x9 x10 x11 x_8 x_9 x14 x_10 x16 x17 x18 x19 x20 x21 f0 f1 f2 f_11 f_18 f_19 f_14 f_15 f_16 f9 f10 f11 f12 f13 f14 f15 f16 f17 f18 f19 f20 f21 fL fN fP fM fO) H := hP
  have hD : va_D A (mW ad kc x0 x1 x2 x3 x4 x5 x6 x7 x8 x9 x10 x11 x_8 x_9 x14 x_10 x16 x17 x18 x19 x20 x21 f0 f1 f2 f_11 f_18 f_19 f_14 f_15 f_16 f9 f10 f11 f12 f13 f14 f15 f16 f17 f18 f19 f20 f21 fL fN fP fM fO) := hD
  rw [show r_1.toInt = x12.toInt by omega, show ((-1) : Int32).toInt = -1 by decide, show r_7.toInt = x12.toInt + 1 by omega] at hr_17_1
  have hB := bk_step (V2 := (mV f_11 f_18 f_19 f_15)) (hm_branch 2) (hR_branch 2) (by omega) hB0 hr_7_4 hr_7_6 hr_7_5 hr_17_1 (by omega)
  refine lv_istore_n (lv' := [(2, .int r_17), (1, .int r_1), (0, .ref (ad 0))]) hx hb dX10_patternKnot_16 rfl hl (by decide) rfl (fun ls hl => ?_)
  have loop17 : ∀ (lm17 : Nat) (la kn ra sm : Int32) (ga gb gc gd ge gf : Nat → Int32), (x12.toInt + 3 ≤ kn.toInt) → (kn.toInt ≤ x12.toInt + 1 + 9 * (sm.toInt - x15.toInt)) → (x13.toInt ≤ ra.toInt ∧ ra.toInt ≤ bb) → (x15.toInt + 1 ≤ sm.toInt ∧ sm.toInt ≤ x15.toInt + mm) → (-1 ≤ la.toInt ∧ la.toInt < kn.toInt) → (baI (tp f0 x14.toInt) (pSub (tp f0 x14.toInt) 2) ra.toInt bb (mm - (sm.toInt - x15.toInt))) → (bkI (mV f3 f4 f5 f7) (mV ga gb gc ge) (fun V => tBranch V (tSub V 2)) 3 x12.toInt la.toInt kn.toInt (sm.toInt - x15.toInt)) → ((bb - ra.toInt).toNat) < lm17 → ∀ (H : Heap) (locs : List Loc) (ls : Array Slot), va_P (dC, dI) vwCl (mW ad kc x0 x1 x2 x3 x4 x5 x6 x7 x8 x9 x10 x11 kn ra x14 sm x16 x17 x18 x19 x20 x21 f0 f1 f2 ga gb gc gd ge gf f9 f10 f11 f12 f13 f14 f15 f16 f17 f18 f19 f20 f21 fL fN fP fM fO) H → va_D A (mW ad kc x0 x1 x2 x3 x4 x5 x6 x7 x8 x9 x10 x11 kn ra x14 sm x16 x17 x18 x19 x20 x21 f0 f1 f2 ga gb gc gd ge gf f9 f10 f11 f12 f13 f14 f15 f16 f17 f18 f19 f20 f21 fL fN fP fM fO) → va_S A s.heap H locs → lv_has ls 3 [(2, .int la), (1, .int r_1), (0, .ref (ad 0))] → W p l e (headSpec mwX10_patternKnotmk2 ({ frames := 10, cells := 0, slots := 0, locals := 600 })).room s m ([.ref (ad 0)]).toArray below meth c H locs 0 0 (MQ below (va_Qi (fun (o9 u9 : Int32) => o9 = u9) (fun (o9 : Int32) t => ∃ (y12 y13 y15 : Int32) (g3 g4 g5 g6 g7 g8 : Nat → Int32), (o9.toInt = x12.toInt) ∧ (y13.toInt = bb) ∧ (y15.toInt = x15.toInt + mm) ∧ (x12.toInt + 2 ≤ y12.toInt ∧ y12.toInt ≤ x12.toInt + 10 * mm) ∧ (tPat (mV g3 g4 g5 g7) 2 x12.toInt y12.toInt mm) ∧ (∀ (q : Nat) (z : Int), 0 ≤ z → z < x12.toInt → (mV g3 g4 g5 g7) q z = (mV f3 f4 f5 f7) q z) ∧ ((mV g3 g4 g5 g7) 2 x12.toInt = -1) ∧ va_P (dC, dI) vwCl (mW ad kc x0 x1 x2 x3 x4 x5 x6 x7 x8 x9 x10 x11 y12 y13 x14 y15 x16 x17 x18 x19 x20 x21 f0 f1 f2 g3 g4 g5 g6 g7 g8 f9 f10 f11 f12 f13 f14 f15 f16 f17 f18 f19 f20 f21 fL fN fP fM fO) t.heap ∧ va_K (dC, dI) vwCl (mT kc) t ∧ va_D A (mW ad kc x0 x1 x2 x3 x4 x5 x6 x7 x8 x9 x10 x11 y12 y13 x14 y15 x16 x17 x18 x19 x20 x21 f0 f1 f2 g3 g4 g5 g6 g7 g8 f9 f10 f11 f12 f13 f14 f15 f16 f17 f18 f19 f20 f21 fL fN fP fM fO)) A) ([.ref (ad 0)]).toArray s 0 0 A) (F0 m 17 ls []) := by
    intro lm17
    induction lm17 with
    | zero => intro la kn ra sm ga gb gc gd ge gf v17_0 v17_1 v17_2 v17_3 v17_4 v17_5 v17_6 hm17; exact absurd hm17 (Nat.not_lt_zero _)
    | succ lm17 ih17 =>
      intro la kn ra sm ga gb gc gd ge gf v17_0 v17_1 v17_2 v17_3 v17_4 v17_5 v17_6 hm17 H locs ls hP hD hS hl
      have rg_la := i_rng la
      have rg_kn := i_rng kn
      have rg_ra := i_rng ra
      have rg_sm := i_rng sm
      refine lv_aload_n hx hb dX10_patternKnot_17 rfl (lv_at hl 2 rfl) ?_
      refine vp_callSi (W.runV (As := []) (rest := []) ⟨hx, hb, hml, hown, hts⟩ (m_signAt l dC dI ad kc x0 x1 x2 x3 x4 x5 x6 x7 x8 x9 x10 x11 kn ra x14 sm x16 x17 x18 x19 x20 x21 f0 f1 f2 ga gb gc gd ge gf f9 f10 f11 f12 f13 f14 f15 f16 f17 f18 f19 f20 f21 fL fN fP fM fO (by first | omega | assumption | decide | (have l0 := Int32.toInt_zero; omega)) (by first | omega | assumption | decide | (have l0 := Int32.toInt_zero; omega)) (by first | omega | assumption | decide | (have l0 := Int32.toInt_zero; omega)) (by first | omega | assumption | decide | (have l0 := Int32.toInt_zero; omega)) (by first | omega | assumption | decide | (have l0 := Int32.toInt_zero; omega))) (cwV 0 hts mg_X10_patternKnotmk2_X10_signAt_236 rfl rfl rfl (by decide +kernel) ⟨Nat.le_of_ble_eq_true rfl, Nat.le_of_ble_eq_true rfl⟩) ⟨fun a U g mk q => by obtain ⟨q0, qP, qK⟩ := q; exact ⟨q0, qP, va_K.moved (u := U) (U := U.calling g mk a) (Vm.Alike.refl U.vm) qK⟩, va_recv hK hP (ci := 10) (q0 := 0) rfl rfl, fun U hU hW => ⟨rfl, by rw [hU]; exact hP, va_K.moved hW.alike hK⟩⟩ rfl rfl hl.1 rfl (lv_room (Nat.le_of_ble_eq_true rfl)) dX10_patternKnot_18 ⟨Nat.le_of_ble_eq_true rfl, Nat.le_of_ble_eq_true rfl⟩) (fun r_20 hr_20 => ?_)
      have rg_r_20 := i_rng r_20
      refine lv_bipush (v := 124) hx hb dX10_patternKnot_21 (by decide) ?_
      refine lv_icmp_ne (tgt := 50) hx hb dX10_patternKnot_23 (by decide) (fun k_21 => ?_) (fun k_21 => ?_)
      · have tk_21 := c_ne (a := r_20.toInt) (b := 124) rfl (by decide) k_21
        rw [hr_20] at tk_21
        have hX := ba_exit v17_5 tk_21
        have hZ := bk_end v17_6 (by omega)
        rw [show sm.toInt - x15.toInt = mm by omega] at hZ
        refine lv_iload_n hx hb dX10_patternKnot_50 rfl (lv_at hl 1 rfl) ?_
        exact W.iret hx hb hr (fun t ht hW => ⟨⟨_, _, rfl, rfl, kn, ra, sm, ga, gb, gc, gd, ge, gf, (by first | omega | assumption | rfl | decide), (by first | omega | assumption | rfl | decide), (by first | omega | assumption | rfl | decide), (by first | omega | assumption | rfl | decide), (by rw [tPat_eq]; exact hZ.1), hZ.2.2, hZ.2.1, by rw [ht]; exact hP, va_K.moved hW.alike hK, hD⟩, hS.F ht⟩) hS.2.2 dX10_patternKnot_51
      · have tk_21 := c_eq (a := r_20.toInt) (b := 124) rfl (by decide) k_21
        rw [hr_20] at tk_21
        obtain ⟨b9, m9, hI9, hE9, hC9, hb5, hb6, hb7, hb8⟩ := ba_cont v17_5 q9 hp8 tk_21
        refine lv_aload_n hx hb dX10_patternKnot_26 rfl (lv_at hl 2 rfl) ?_
        refine lv_dup hx hb dX10_patternKnot_27 rfl ?_
        refine va_get (D := (dC, dI)) (ci := 10) (v := .int ra) (C := RX10) (T := TX10) (N := 48) hx hb hts fin_X10_patternKnotmk2_X10 hown hK hP 0 rfl rfl 22 (by decide) (hts (.fieldLink RX10 217 "PatternGateModel" "reached" "I") (List.mem_of_getElem? (i := 13) (by decide +kernel))) (fun _ h9 => h9) rfl dX10_patternKnot_28 ?_
        refine lv_iconst (v := 1) hx hb dX10_patternKnot_31 (by decide) ?_
        refine lv_iadd hx hb dX10_patternKnot_32 ?_
        refine lv_topi (fun y_22 ey_22 => ?_)
        first | have ty_22 := i_add (a := ra.toInt) (b := 1) rfl (by decide) ey_22 (by omega) (by omega) | skip
        refine va_put (D := (dC, dI)) (ci := 10) (v := .int y_22) (ty := .int) (C := RX10) (T := TX10) (N := 48) hx hb hts fin_X10_patternKnotmk2_X10 tyX10 tyX10_ok nmX10 hown hK hP hD hS 0 rfl rfl 22 (by decide) (hts (.fieldLink RX10 217 "PatternGateModel" "reached" "I") (List.mem_of_getElem? (i := 13) (by decide +kernel))) (fun _ h9 => h9) rfl (by decide +kernel) rfl rfl (Nat.le_of_ble_eq_true rfl) dX10_patternKnot_33 (fun H locs hP hD hS => ?_)
        have hP : va_P (dC, dI) vwCl (mW ad kc x0 x1 x2 x3 x4 x5 x6 x7 x8 x9 x10 x11 kn y_22 x14 sm x16 x17 x18 x19 x20 x21 f0 f1 f2 ga gb gc gd ge gf f9 f10 f11 f12 f13 f14 f15 f16 f17 f18 f19 f20 f21 fL fN fP fM fO) H := hP
        have hD : va_D A (mW ad kc x0 x1 x2 x3 x4 x5 x6 x7 x8 x9 x10 x11 kn y_22 x14 sm x16 x17 x18 x19 x20 x21 f0 f1 f2 ga gb gc gd ge gf f9 f10 f11 f12 f13 f14 f15 f16 f17 f18 f19 f20 f21 fL fN fP fM fO) := hD
        refine lv_aload_n hx hb dX10_patternKnot_36 rfl (lv_at hl 2 rfl) ?_
        refine lv_iload_n hx hb dX10_patternKnot_37 rfl (lv_at hl 1 rfl) ?_
        refine lv_iload_n hx hb dX10_patternKnot_38 rfl (lv_at hl 0 rfl) ?_
        refine lv_aload_n hx hb dX10_patternKnot_39 rfl (lv_at hl 2 rfl) ?_
        have hFc := m_free hD hS hA
        refine va_calli (va_runV (As := []) (rest := [.int la, .int r_1, .ref (ad 0)]) ⟨hx, hb, hml, hown, hts⟩ (m_branchKnot2 l dC dI ad kc x0 x1 x2 x3 x4 x5 x6 x7 x8 x9 x10 x11 kn y_22 x14 sm x16 x17 x18 x19 x20 x21 f0 f1 f2 ga gb gc gd ge gf f9 f10 f11 f12 f13 f14 f15 f16 f17 f18 f19 f20 f21 fL fN fP fM fO H.size b9 m9 (by first | omega | assumption | decide | (have l0 := Int32.toInt_zero; omega)) (by first | omega | assumption | decide | (have l0 := Int32.toInt_zero; omega)) (by first | omega | assumption | decide | (have l0 := Int32.toInt_zero; omega)) (by first | omega | assumption | decide | (have l0 := Int32.toInt_zero; omega)) (by first | omega | assumption | decide | (have l0 := Int32.toInt_zero; omega)) (by first | omega | assumption | decide | (have l0 := Int32.toInt_zero; omega)) (by first | omega | assumption | decide | (have l0 := Int32.toInt_zero; omega)) (by first | omega | assumption | decide | (have l0 := Int32.toInt_zero; omega)) (by rw [show y_22.toInt = ra.toInt + 1 by omega]; exact hI9) (by first | omega | assumption | decide | (have l0 := Int32.toInt_zero; omega)) (by first | omega | assumption | decide | (have l0 := Int32.toInt_zero; omega))) (cwV 0 hts mg_X10_patternKnotmk2_X10_branchKnot_229 rfl rfl rfl (by decide +kernel) ⟨Nat.le_of_ble_eq_true rfl, Nat.le_of_ble_eq_true rfl⟩) ⟨fun a U g mk q => by obtain ⟨q0, q1, qP, qK, qD⟩ := q; exact ⟨q0, q1, qP, va_K.moved (u := U) (U := U.calling g mk a) (Vm.Alike.refl U.vm) qK, qD⟩, va_recv hK hP (ci := 10) (q0 := 0) rfl rfl, fun U hU hW => ⟨rfl, by rw [hU], by rw [hU]; exact hP, va_K.moved hW.alike hK, hD.weaken (fun _ _ _ _ => trivial)⟩⟩ rfl rfl hl.1 rfl (lv_room (Nat.le_of_ble_eq_true rfl)) dX10_patternKnot_40 ⟨Nat.le_of_ble_eq_true rfl, Nat.le_of_ble_eq_true rfl⟩) hS (fun q _ h => hFc q h) hFc (fun r_23 u t H1 locs ht hvm hw hB hz1 hk1 hS => ?_)
        subst hw
        obtain ⟨x_24, x_25, x_26, f_27, f_28, f_29, f_30, f_31, f_32, hr_23_0, hr_23_1, hr_23_2, hr_23_3, hr_23_4, hr_23_5, hr_23_6, hP, hK1, hD1⟩ := hB
        rw [ht] at hP
        have hD := hD1.weaken (fun k q _ h => hFc q.1 h)
        generalize H1 = H at hP hS ⊢
        have rg_x_24 := i_rng x_24
        have rg_x_25 := i_rng x_25
        have rg_x_26 := i_rng x_26
        have rg_r_23 := i_rng r_23
        have hP : va_P (dC, dI) vwCl (mW ad kc x0 x1 x2 x3 x4 x5 x6 x7 x8 x9 x10 x11 x_24 x_25 x14 x_26 x16 x17 x18 x19 x20 x21 f0 f1 f2 f_27 f_28 f_29 f_30 f_31 f_32 f9 f10 f11 f12 f13 f14 f15 f16 f17 f18 f19 f20 f21 fL fN fP fM fO) H := hP
        have hD : va_D A (mW ad kc x0 x1 x2 x3 x4 x5 x6 x7 x8 x9 x10 x11 x_24 x_25 x14 x_26 x16 x17 x18 x19 x20 x21 f0 f1 f2 f_27 f_28 f_29 f_30 f_31 f_32 f9 f10 f11 f12 f13 f14 f15 f16 f17 f18 f19 f20 f21 fL fN fP fM fO) := hD
        have hFc := m_free hD hS hA
        refine va_calli (va_runV (As := [.int r_1, .int la, .int r_23]) (rest := []) ⟨hx, hb, hml, hown, hts⟩ (m_joins l dC dI ad kc x0 x1 x2 x3 x4 x5 x6 x7 x8 x9 x10 x11 x_24 x_25 x14 x_26 x16 x17 x18 x19 x20 x21 f0 f1 f2 f_27 f_28 f_29 f_30 f_31 f_32 f9 f10 f11 f12 f13 f14 f15 f16 f17 f18 f19 f20 f21 fL fN fP fM fO H.size r_1 la r_23 (by first | omega | assumption | decide | (have l0 := Int32.toInt_zero; omega)) (by first | omega | assumption | decide | (have l0 := Int32.toInt_zero; omega)) (by first | omega | assumption | decide | (have l0 := Int32.toInt_zero; omega)) (by first | omega | assumption | decide | (have l0 := Int32.toInt_zero; omega))) (cwV 3 hts mg_X10_patternKnotmk2_X10_joins_232 rfl rfl rfl (by decide +kernel) ⟨Nat.le_of_ble_eq_true rfl, Nat.le_of_ble_eq_true rfl⟩) ⟨fun a U g mk q => by obtain ⟨q0, q1, qP, qK, qD⟩ := q; exact ⟨q0, q1, qP, va_K.moved (u := U) (U := U.calling g mk a) (Vm.Alike.refl U.vm) qK, qD⟩, va_recv hK hP (ci := 10) (q0 := 0) rfl rfl, fun U hU hW => ⟨rfl, by rw [hU], by rw [hU]; exact hP, va_K.moved hW.alike hK, hD.weaken (fun _ _ _ _ => trivial)⟩⟩ rfl rfl hl.1 rfl (lv_room (Nat.le_of_ble_eq_true rfl)) dX10_patternKnot_43 ⟨Nat.le_of_ble_eq_true rfl, Nat.le_of_ble_eq_true rfl⟩) hS (fun q _ h => hFc q h) hFc (fun r_33 u t H1 locs ht hvm hw hB hz1 hk1 hS => ?_)
        subst hw
        obtain ⟨f_34, f_35, hr_33_0, hr_33_1, hP, hK1, hD1⟩ := hB
        rw [ht] at hP
        have hD := hD1.weaken (fun k q _ h => hFc q.1 h)
        generalize H1 = H at hP hS ⊢
        have rg_r_33 := i_rng r_33
        have hP : va_P (dC, dI) vwCl (mW ad kc x0 x1 x2 x3 x4 x5 x6 x7 x8 x9 x10 x11 x_24 x_25 x14 x_26 x16 x17 x18 x19 x20 x21 f0 f1 f2 f_27 f_34 f_35 f_30 f_31 f_32 f9 f10 f11 f12 f13 f14 f15 f16 f17 f18 f19 f20 f21 fL fN fP fM fO) H := hP
        have hD : va_D A (mW ad kc x0 x1 x2 x3 x4 x5 x6 x7 x8 x9 x10 x11 x_24 x_25 x14 x_26 x16 x17 x18 x19 x20 x21 f0 f1 f2 f_27 f_34 f_35 f_30 f_31 f_32 f9 f10 f11 f12 f13 f14 f15 f16 f17 f18 f19 f20 f21 fL fN fP fM fO) := hD
        rw [show r_1.toInt = x12.toInt by omega, show r_23.toInt = kn.toInt by omega] at hr_33_1
        have hB := bk_step (V2 := (mV f_27 f_34 f_35 f_31)) (hm_branch 2) (hR_branch 2) (by omega) v17_6 hr_23_4 hr_23_6 hr_23_5 hr_33_1 (by omega)
        refine lv_istore_n (lv' := [(2, .int r_33), (1, .int r_1), (0, .ref (ad 0))]) hx hb dX10_patternKnot_46 rfl hl (by decide) rfl (fun ls hl => ?_)
        refine lv_goto (tgt := 17) hx hb dX10_patternKnot_47 (by decide) ?_
        exact ih17 r_33 x_24 x_25 x_26 f_27 f_34 f_35 f_30 f_31 f_32 (by first | omega | assumption | decide) (by first | omega | assumption | decide) (by first | omega | assumption | decide) (by first | omega | assumption | decide) (by first | omega | assumption | decide) (by rw [show x_25.toInt = b9 by omega, show mm - (x_26.toInt - x15.toInt) = mm - (sm.toInt - x15.toInt) - m9 by omega]; exact hC9) (by rw [show x_26.toInt - x15.toInt = sm.toInt - x15.toInt + m9 by omega, show r_33.toInt = kn.toInt by omega]; exact hB) (by omega) _ _ ls hP hD hS (lv_sub hl [0, 1, 2] rfl)
  exact loop17 _ r_17 x_8 x_9 x_10 f_11 f_18 f_19 f_14 f_15 f_16 (by first | omega | assumption | decide) (by first | omega | assumption | decide) (by first | omega | assumption | decide) (by first | omega | assumption | decide) (by first | omega | assumption | decide) (by rw [show x_9.toInt = b8 by omega, show mm - (x_10.toInt - x15.toInt) = mm - m8 by omega]; exact hC8) (by rw [show x_10.toInt - x15.toInt = 0 + m8 by omega, show r_17.toInt = x12.toInt + 1 by omega]; exact hB) (Nat.lt_succ_self _) _ _ ls hP hD hS (lv_sub hl [0, 1, 2] rfl)
def mwX10_itemKnotmk3 : List Cond := .code yX10_itemKnot cX10_itemKnot 4 (some .int) :: ([.code yX10_knot cX10_knot 2 (some .int), .fieldLink RX10 28 "PatternGateModel" "kind" "[I", .fieldLink RX10 223 "PatternGateModel" "knots" "I", .fieldLink RX10 31 "PatternGateModel" "first" "[I", .fieldLink RX10 34 "PatternGateModel" "next" "[I", .fieldLink RX10 43 "PatternGateModel" "sign" "[I", .methodLink RX10 226 yX10_knot, .instanceMethod yX10_knot, .selects RX10 yX10_knot yX10_knot, .initialized RX10, .code yX10_signAt cX10_signAt 1 (some .int), .fieldLink RX10 217 "PatternGateModel" "reached" "I", .fieldLink RX10 8 "PatternGateModel" "all" "[I", .fieldLink RX10 220 "PatternGateModel" "pattern0" "I", .methodLink RX10 236 yX10_signAt, .instanceMethod yX10_signAt, .selects RX10 yX10_signAt yX10_signAt, .code yX10_spotKnot cX10_spotKnot 3 (some .int), .fieldLink RX10 40 "PatternGateModel" "spot" "[I", .fieldLink RX10 248 "PatternGateModel" "spotMany" "I", .fieldLink RX10 37 "PatternGateModel" "letters" "[I", .constant RX10 251 (67108863), .methodLink RX10 245 yX10_spotKnot, .instanceMethod yX10_spotKnot, .selects RX10 yX10_spotKnot yX10_spotKnot, .code yX10_joins cX10_joins 4 (some .int), .methodLink RX10 232 yX10_joins, .instanceMethod yX10_joins, .selects RX10 yX10_joins yX10_joins, .code yX10_patternKnot cX10_patternKnot 3 (some .int), .code yX10_branchKnot cX10_branchKnot 3 (some .int), .code yX10_itemKnot cX10_itemKnot 4 (some .int), .methodLink RX10 239 yX10_itemKnot, .instanceMethod yX10_itemKnot, .selects RX10 yX10_itemKnot yX10_itemKnot, .methodLink RX10 229 yX10_branchKnot, .instanceMethod yX10_branchKnot, .selects RX10 yX10_branchKnot yX10_branchKnot, .methodLink RX10 242 yX10_patternKnot, .instanceMethod yX10_patternKnot, .selects RX10 yX10_patternKnot yX10_patternKnot] ++ wsX100)
theorem fin_X10_itemKnotmk3_X10 : ∀ w ∈ wsX100, w ∈ mwX10_itemKnotmk3 := fun w h => List.mem_cons_of_mem _ (List.mem_append_right _ h)
set_option maxRecDepth 20000 in
theorem mg_X10_itemKnotmk3_X10_knot_226 : GoodIn mwX10_itemKnotmk3 (wsV RX10 226 RX10 yX10_knot mwX10_knotm) := goodIn_r _ [7, 8, 9, 10, 1, 2, 3, 4, 5, 6, 42, 43, 44, 45, 46, 47, 48, 49, 50, 51, 52, 53, 54, 55, 56, 57, 58, 59, 60, 61, 62, 63, 64, 65, 66, 67, 68, 69, 70, 71, 72, 73, 74, 75, 76, 77, 78, 79, 80, 81, 82, 83, 84, 85, 86, 87, 88, 89] (by decide +kernel) (by decide +kernel)
set_option maxRecDepth 20000 in
theorem mg_X10_itemKnotmk3_X10_signAt_236 : GoodIn mwX10_itemKnotmk3 (wsV RX10 236 RX10 yX10_signAt mwX10_signAtm) := goodIn_r _ [15, 16, 17, 10, 11, 12, 13, 14, 42, 43, 44, 45, 46, 47, 48, 49, 50, 51, 52, 53, 54, 55, 56, 57, 58, 59, 60, 61, 62, 63, 64, 65, 66, 67, 68, 69, 70, 71, 72, 73, 74, 75, 76, 77, 78, 79, 80, 81, 82, 83, 84, 85, 86, 87, 88, 89] (by decide +kernel) (by decide +kernel)
set_option maxRecDepth 20000 in
theorem mg_X10_itemKnotmk3_X10_spotKnot_245 : GoodIn mwX10_itemKnotmk3 (wsV RX10 245 RX10 yX10_spotKnot mwX10_spotKnotm) := goodIn_r _ [23, 24, 25, 10, 18, 1, 2, 3, 4, 5, 6, 7, 8, 9, 10, 19, 20, 21, 12, 11, 13, 14, 15, 16, 17, 22, 42, 43, 44, 45, 46, 47, 48, 49, 50, 51, 52, 53, 54, 55, 56, 57, 58, 59, 60, 61, 62, 63, 64, 65, 66, 67, 68, 69, 70, 71, 72, 73, 74, 75, 76, 77, 78, 79, 80, 81, 82, 83, 84, 85, 86, 87, 88, 89] (by decide +kernel) (by decide +kernel)
set_option maxRecDepth 20000 in
theorem mg_X10_itemKnotmk3_X10_joins_232 : GoodIn mwX10_itemKnotmk3 (wsV RX10 232 RX10 yX10_joins mwX10_joinsm) := goodIn_r _ [27, 28, 29, 10, 26, 5, 4, 42, 43, 44, 45, 46, 47, 48, 49, 50, 51, 52, 53, 54, 55, 56, 57, 58, 59, 60, 61, 62, 63, 64, 65, 66, 67, 68, 69, 70, 71, 72, 73, 74, 75, 76, 77, 78, 79, 80, 81, 82, 83, 84, 85, 86, 87, 88, 89] (by decide +kernel) (by decide +kernel)
set_option maxRecDepth 20000 in
theorem mg_X10_itemKnotmk3_X10_patternKnot_242 : GoodIn mwX10_itemKnotmk3 (wsV RX10 242 RX10 yX10_patternKnot mwX10_patternKnotmk2) := goodIn_r _ [39, 40, 41, 10, 30, 1, 2, 3, 4, 5, 6, 7, 8, 9, 10, 31, 11, 12, 13, 14, 15, 16, 17, 0, 18, 19, 20, 21, 22, 23, 24, 25, 26, 27, 28, 29, 30, 33, 34, 35, 36, 37, 38, 39, 40, 41, 42, 43, 44, 45, 46, 47, 48, 49, 50, 51, 52, 53, 54, 55, 56, 57, 58, 59, 60, 61, 62, 63, 64, 65, 66, 67, 68, 69, 70, 71, 72, 73, 74, 75, 76, 77, 78, 79, 80, 81, 82, 83, 84, 85, 86, 87, 88, 89] (by decide +kernel) (by decide +kernel)
set_option maxHeartbeats 4000000 in
set_option maxRecDepth 100000 in
theorem m_itemKnot3 (l : Launch) (dC : Nat → ClassId) (dI : Nat → Nat → Nat) (ad : Nat → Nat) (kc : Nat → ClassId) (x0 x1 x2 x3 x4 x5 x6 x7 x8 x9 x10 x11 x12 x13 x14 x15 x16 x17 x18 x19 x20 x21 : Int32) (f0 f1 f2 f3 f4 f5 f6 f7 f8 f9 f10 f11 f12 f13 f14 f15 f16 f17 f18 f19 f20 f21 : Nat → Int32) (fL : Nat → Nat → Int64) (fN : Nat → Nat → Int32) (fP : Nat → Nat → Nat) (fM : Nat → Nat → Int32) (fO : Nat → Nat → Int32) (sz : Nat) (bb : Int) (mm : Int) (q0 : 0 ≤ x12.toInt) (q1 : 0 ≤ x13.toInt) (q2 : bb ≤ 900) (q3 : 0 ≤ x14.toInt) (q4 : x14.toInt < 8) (q5 : vI f0 (612 + x14.toInt) ≤ 900) (q6 : 0 ≤ x15.toInt) (q7 : x15.toInt + mm ≤ 24) (q8 : pItem (tp f0 x14.toInt) (pSub (tp f0 x14.toInt) 3) x13.toInt bb mm) (q9 : x12.toInt + 11 * mm ≤ 1600) : Met l yX10_itemKnot mwX10_itemKnotmk3 ({ frames := 11, cells := 0, slots := 0, locals := 660 }) (va_Pc [.ref (ad 0)] (fun U => U.heap.size = sz ∧ va_P (dC, dI) vwCl (mW ad kc x0 x1 x2 x3 x4 x5 x6 x7 x8 x9 x10 x11 x12 x13 x14 x15 x16 x17 x18 x19 x20 x21 f0 f1 f2 f3 f4 f5 f6 f7 f8 f9 f10 f11 f12 f13 f14 f15 f16 f17 f18 f19 f20 f21 fL fN fP fM fO) U.heap ∧ va_K (dC, dI) vwCl (mT kc) U ∧ va_D (fun _ => True) (mW ad kc x0 x1 x2 x3 x4 x5 x6 x7 x8 x9 x10 x11 x12 x13 x14 x15 x16 x17 x18 x19 x20 x21 f0 f1 f2 f3 f4 f5 f6 f7 f8 f9 f10 f11 f12 f13 f14 f15 f16 f17 f18 f19 f20 f21 fL fN fP fM fO))) (va_Qi (fun (o9 u9 : Int32) => o9 = u9) (fun (o9 : Int32) t => ∃ (y12 y13 y15 : Int32) (g3 g4 g5 g6 g7 g8 : Nat → Int32), (o9.toInt = x12.toInt) ∧ (y13.toInt = bb) ∧ (y15.toInt = x15.toInt + mm) ∧ (x12.toInt + 2 ≤ y12.toInt ∧ y12.toInt ≤ x12.toInt + 11 * mm) ∧ (tItem (mV g3 g4 g5 g7) (tSub (mV g3 g4 g5 g7) 3) x12.toInt y12.toInt mm) ∧ (∀ (q : Nat) (z : Int), 0 ≤ z → z < x12.toInt → (mV g3 g4 g5 g7) q z = (mV f3 f4 f5 f7) q z) ∧ ((mV g3 g4 g5 g7) 2 x12.toInt = -1) ∧ va_P (dC, dI) vwCl (mW ad kc x0 x1 x2 x3 x4 x5 x6 x7 x8 x9 x10 x11 y12 y13 x14 y15 x16 x17 x18 x19 x20 x21 f0 f1 f2 g3 g4 g5 g6 g7 g8 f9 f10 f11 f12 f13 f14 f15 f16 f17 f18 f19 f20 f21 fL fN fP fM fO) t.heap ∧ va_K (dC, dI) vwCl (mT kc) t ∧ va_D (va_A (mW ad kc x0 x1 x2 x3 x4 x5 x6 x7 x8 x9 x10 x11 x12 x13 x14 x15 x16 x17 x18 x19 x20 x21 f0 f1 f2 f3 f4 f5 f6 f7 f8 f9 f10 f11 f12 f13 f14 f15 f16 f17 f18 f19 f20 f21 fL fN fP fM fO) sz) (mW ad kc x0 x1 x2 x3 x4 x5 x6 x7 x8 x9 x10 x11 y12 y13 x14 y15 x16 x17 x18 x19 x20 x21 f0 f1 f2 g3 g4 g5 g6 g7 g8 f9 f10 f11 f12 f13 f14 f15 f16 f17 f18 f19 f20 f21 fL fN fP fM fO)) (va_A (mW ad kc x0 x1 x2 x3 x4 x5 x6 x7 x8 x9 x10 x11 x12 x13 x14 x15 x16 x17 x18 x19 x20 x21 f0 f1 f2 f3 f4 f5 f6 f7 f8 f9 f10 f11 f12 f13 f14 f15 f16 f17 f18 f19 f20 f21 fL fN fP fM fO) sz)) 0 0 (va_A (mW ad kc x0 x1 x2 x3 x4 x5 x6 x7 x8 x9 x10 x11 x12 x13 x14 x15 x16 x17 x18 x19 x20 x21 f0 f1 f2 f3 f4 f5 f6 f7 f8 f9 f10 f11 f12 f13 f14 f15 f16 f17 f18 f19 f20 f21 fL fN fP fM fO) sz) := by
  refine Met.ofW (cc := cX10_itemKnot) (maxL := 4) (ret := (some .int)) (by decide +kernel) rfl ?_
  intro p e s m args below meth c s₁ B hml hv
  obtain ⟨rfl, hsz, hP, hK, hD0⟩ := hv
  have hx := B.exec
  have hb := B.bytes
  have hr := B.returns
  have hts := atoms_spec (ws := mwX10_itemKnotmk3) B.pre
  have hown : s.vm.findClass RX10 = some m.cls := findClass_of_methodNamed B.named
  have hlocks := B.notSynchronized
  subst hsz
  have hD := hD0.self (sz := s.heap.size)
  generalize hAe : va_A (mW ad kc x0 x1 x2 x3 x4 x5 x6 x7 x8 x9 x10 x11 x12 x13 x14 x15 x16 x17 x18 x19 x20 x21 f0 f1 f2 f3 f4 f5 f6 f7 f8 f9 f10 f11 f12 f13 f14 f15 f16 f17 f18 f19 f20 f21 fL fN fP fM fO) s.heap.size = A at hD ⊢
  have hA : ∀ q : Nat, s.heap.size ≤ q → A q := fun q h => by rw [← hAe]; exact Or.inr h
  have hP : va_P (dC, dI) vwCl (mW ad kc x0 x1 x2 x3 x4 x5 x6 x7 x8 x9 x10 x11 x12 x13 x14 x15 x16 x17 x18 x19 x20 x21 f0 f1 f2 f3 f4 f5 f6 f7 f8 f9 f10 f11 f12 f13 f14 f15 f16 f17 f18 f19 f20 f21 fL fN fP fM fO) s.heap := hP
  have hD : va_D A (mW ad kc x0 x1 x2 x3 x4 x5 x6 x7 x8 x9 x10 x11 x12 x13 x14 x15 x16 x17 x18 x19 x20 x21 f0 f1 f2 f3 f4 f5 f6 f7 f8 f9 f10 f11 f12 f13 f14 f15 f16 f17 f18 f19 f20 f21 fL fN fP fM fO) := hD
  have hK : va_K (dC, dI) vwCl (mT kc) s := hK
  generalize hH : s.heap = H at hP ⊢
  have hS : va_S A s.heap H [] := by rw [← hH]; exact va_S.rf
  have hl := lv_entry ([.ref (ad 0)]) (n := 4) (Nat.le_of_ble_eq_true rfl)
  rw [lg_entry_eq]
  generalize (lg_sl ([.ref (ad 0)]) ++ List.replicate (4 - (lg_sl ([.ref (ad 0)])).length) Slot.unset).toArray = ls at hl ⊢
  have hl : lv_has ls 4 [(0, .ref (ad 0))] := hl
  obtain ⟨ee, hAx, hQ⟩ := it_un q8
  have hps := pos_item (pos_sub 3) q8
  have hmo := mono_atom (mono_sub 3) hAx
  refine lv_aload_n hx hb dX10_itemKnot_0 rfl (lv_at hl 0 rfl) ?_
  refine lv_iconst (v := 1) hx hb dX10_itemKnot_1 (by decide) ?_
  have hFc := m_free hD hS hA
  refine va_calli (va_runV (As := [.int 1]) (rest := []) ⟨hx, hb, hml, hown, hts⟩ (m_knot l dC dI ad kc x0 x1 x2 x3 x4 x5 x6 x7 x8 x9 x10 x11 x12 x13 x14 x15 x16 x17 x18 x19 x20 x21 f0 f1 f2 f3 f4 f5 f6 f7 f8 f9 f10 f11 f12 f13 f14 f15 f16 f17 f18 f19 f20 f21 fL fN fP fM fO H.size 1 (by first | omega | assumption | decide | (have l0 := Int32.toInt_zero; omega)) (by first | omega | assumption | decide | (have l0 := Int32.toInt_zero; omega))) (cwV 1 hts mg_X10_itemKnotmk3_X10_knot_226 rfl rfl rfl (by decide +kernel) ⟨Nat.le_of_ble_eq_true rfl, Nat.le_of_ble_eq_true rfl⟩) ⟨fun a U g mk q => by obtain ⟨q0, q1, qP, qK, qD⟩ := q; exact ⟨q0, q1, qP, va_K.moved (u := U) (U := U.calling g mk a) (Vm.Alike.refl U.vm) qK, qD⟩, va_recv hK hP (ci := 10) (q0 := 0) rfl rfl, fun U hU hW => ⟨rfl, by rw [hU], by rw [hU]; exact hP, va_K.moved hW.alike hK, hD.weaken (fun _ _ _ _ => trivial)⟩⟩ rfl rfl hl.1 rfl (lv_room (Nat.le_of_ble_eq_true rfl)) dX10_itemKnot_2 ⟨Nat.le_of_ble_eq_true rfl, Nat.le_of_ble_eq_true rfl⟩) hS (fun q _ h => hFc q h) hFc (fun r_1 u t H1 locs ht hvm hw hB hz1 hk1 hS => ?_)
  subst hw
  obtain ⟨x_2, f_3, f_4, f_5, f_6, hr_1_0, hr_1_1, hr_1_2, hr_1_3, hP, hK1, hD1⟩ := hB
  rw [ht] at hP
  have hD := hD1.weaken (fun k q _ h => hFc q.1 h)
  generalize H1 = H at hP hS ⊢
  have rg_x_2 := i_rng x_2
  have rg_r_1 := i_rng r_1
  have hP : va_P (dC, dI) vwCl (mW ad kc x0 x1 x2 x3 x4 x5 x6 x7 x8 x9 x10 x11 x_2 x13 x14 x15 x16 x17 x18 x19 x20 x21 f0 f1 f2 f_3 f_4 f_5 f6 f7 f_6 f9 f10 f11 f12 f13 f14 f15 f16 f17 f18 f19 f20 f21 fL fN fP fM fO) H := hP
  have hD : va_D A (mW ad kc x0 x1 x2 x3 x4 x5 x6 x7 x8 x9 x10 x11 x_2 x13 x14 x15 x16 x17 x18 x19 x20 x21 f0 f1 f2 f_3 f_4 f_5 f6 f7 f_6 f9 f10 f11 f12 f13 f14 f15 f16 f17 f18 f19 f20 f21 fL fN fP fM fO) := hD
  refine lv_istore_n (lv' := [(1, .int r_1), (0, .ref (ad 0))]) hx hb dX10_itemKnot_5 rfl hl (by decide) rfl (fun ls hl => ?_)
  refine lv_aload_n hx hb dX10_itemKnot_6 rfl (lv_at hl 1 rfl) ?_
  refine vp_callSi (W.runV (As := []) (rest := []) ⟨hx, hb, hml, hown, hts⟩ (m_signAt l dC dI ad kc x0 x1 x2 x3 x4 x5 x6 x7 x8 x9 x10 x11 x_2 x13 x14 x15 x16 x17 x18 x19 x20 x21 f0 f1 f2 f_3 f_4 f_5 f6 f7 f_6 f9 f10 f11 f12 f13 f14 f15 f16 f17 f18 f19 f20 f21 fL fN fP fM fO (by first | omega | assumption | decide | (have l0 := Int32.toInt_zero; omega)) (by first | omega | assumption | decide | (have l0 := Int32.toInt_zero; omega)) (by first | omega | assumption | decide | (have l0 := Int32.toInt_zero; omega)) (by first | omega | assumption | decide | (have l0 := Int32.toInt_zero; omega)) (by first | omega | assumption | decide | (have l0 := Int32.toInt_zero; omega))) (cwV 0 hts mg_X10_itemKnotmk3_X10_signAt_236 rfl rfl rfl (by decide +kernel) ⟨Nat.le_of_ble_eq_true rfl, Nat.le_of_ble_eq_true rfl⟩) ⟨fun a U g mk q => by obtain ⟨q0, qP, qK⟩ := q; exact ⟨q0, qP, va_K.moved (u := U) (U := U.calling g mk a) (Vm.Alike.refl U.vm) qK⟩, va_recv hK hP (ci := 10) (q0 := 0) rfl rfl, fun U hU hW => ⟨rfl, by rw [hU]; exact hP, va_K.moved hW.alike hK⟩⟩ rfl rfl hl.1 rfl (lv_room (Nat.le_of_ble_eq_true rfl)) dX10_itemKnot_7 ⟨Nat.le_of_ble_eq_true rfl, Nat.le_of_ble_eq_true rfl⟩) (fun r_7 hr_7 => ?_)
  have rg_r_7 := i_rng r_7
  refine lv_istore_n (lv' := [(2, .int r_7), (1, .int r_1), (0, .ref (ad 0))]) hx hb dX10_itemKnot_10 rfl hl (by decide) rfl (fun ls hl => ?_)
  refine lv_aload_n hx hb dX10_itemKnot_11 rfl (lv_at hl 2 rfl) ?_
  refine lv_dup hx hb dX10_itemKnot_12 rfl ?_
  refine va_get (D := (dC, dI)) (ci := 10) (v := .int x13) (C := RX10) (T := TX10) (N := 48) hx hb hts fin_X10_itemKnotmk3_X10 hown hK hP 0 rfl rfl 22 (by decide) (hts (.fieldLink RX10 217 "PatternGateModel" "reached" "I") (List.mem_of_getElem? (i := 12) (by decide +kernel))) (fun _ h9 => h9) rfl dX10_itemKnot_13 ?_
  refine lv_iconst (v := 1) hx hb dX10_itemKnot_16 (by decide) ?_
  refine lv_iadd hx hb dX10_itemKnot_17 ?_
  refine lv_topi (fun y_8 ey_8 => ?_)
  first | have ty_8 := i_add (a := x13.toInt) (b := 1) rfl (by decide) ey_8 (by omega) (by omega) | skip
  refine va_put (D := (dC, dI)) (ci := 10) (v := .int y_8) (ty := .int) (C := RX10) (T := TX10) (N := 48) hx hb hts fin_X10_itemKnotmk3_X10 tyX10 tyX10_ok nmX10 hown hK hP hD hS 0 rfl rfl 22 (by decide) (hts (.fieldLink RX10 217 "PatternGateModel" "reached" "I") (List.mem_of_getElem? (i := 12) (by decide +kernel))) (fun _ h9 => h9) rfl (by decide +kernel) rfl rfl (Nat.le_of_ble_eq_true rfl) dX10_itemKnot_18 (fun H locs hP hD hS => ?_)
  have hP : va_P (dC, dI) vwCl (mW ad kc x0 x1 x2 x3 x4 x5 x6 x7 x8 x9 x10 x11 x_2 y_8 x14 x15 x16 x17 x18 x19 x20 x21 f0 f1 f2 f_3 f_4 f_5 f6 f7 f_6 f9 f10 f11 f12 f13 f14 f15 f16 f17 f18 f19 f20 f21 fL fN fP fM fO) H := hP
  have hD : va_D A (mW ad kc x0 x1 x2 x3 x4 x5 x6 x7 x8 x9 x10 x11 x_2 y_8 x14 x15 x16 x17 x18 x19 x20 x21 f0 f1 f2 f_3 f_4 f_5 f6 f7 f_6 f9 f10 f11 f12 f13 f14 f15 f16 f17 f18 f19 f20 f21 fL fN fP fM fO) := hD
  refine lv_iload_n hx hb dX10_itemKnot_21 rfl (lv_at hl 0 rfl) ?_
  refine lv_bipush (v := 40) hx hb dX10_itemKnot_22 (by decide) ?_
  refine lv_icmp_ne (tgt := 51) hx hb dX10_itemKnot_24 (by decide) (fun k_9 => ?_) (fun k_9 => ?_)
  · have tk_9 := c_ne (a := r_7.toInt) (b := 40) rfl (by decide) k_9
    rw [hr_7] at tk_9
    have hA9 := at_s hAx tk_9
    refine lv_aload_n hx hb dX10_itemKnot_51 rfl (lv_at hl 2 rfl) ?_
    refine lv_iload_n hx hb dX10_itemKnot_52 rfl (lv_at hl 1 rfl) ?_
    refine lv_iconst (v := (-1)) hx hb dX10_itemKnot_53 (by decide) ?_
    refine lv_aload_n hx hb dX10_itemKnot_54 rfl (lv_at hl 2 rfl) ?_
    refine lv_iload_n hx hb dX10_itemKnot_55 rfl (lv_at hl 0 rfl) ?_
    have hFc := m_free hD hS hA
    refine va_calli (va_runV (As := [.int r_7]) (rest := [.int (-1), .int r_1, .ref (ad 0)]) ⟨hx, hb, hml, hown, hts⟩ (m_spotKnot l dC dI ad kc x0 x1 x2 x3 x4 x5 x6 x7 x8 x9 x10 x11 x_2 y_8 x14 x15 x16 x17 x18 x19 x20 x21 f0 f1 f2 f_3 f_4 f_5 f6 f7 f_6 f9 f10 f11 f12 f13 f14 f15 f16 f17 f18 f19 f20 f21 fL fN fP fM fO H.size r_7 (by first | omega | assumption | decide | (have l0 := Int32.toInt_zero; omega)) (by first | omega | assumption | decide | (have l0 := Int32.toInt_zero; omega)) (by first | omega | assumption | decide | (have l0 := Int32.toInt_zero; omega)) (by first | omega | assumption | decide | (have l0 := Int32.toInt_zero; omega)) (by first | omega | assumption | decide | (have l0 := Int32.toInt_zero; omega)) (by first | omega | assumption | decide | (have l0 := Int32.toInt_zero; omega)) (by first | omega | assumption | decide | (have l0 := Int32.toInt_zero; omega)) (fun h9 => by rcases hA9.2.2 with q9 | q9; exact absurd (hr_7.symm.trans h9) q9.1; exact ⟨ee - 1, by omega, by rw [show y_8.toInt = x13.toInt + 1 by omega]; exact q9.2⟩) (by first | omega | assumption | decide | (have l0 := Int32.toInt_zero; omega)) (by first | omega | assumption | decide | (have l0 := Int32.toInt_zero; omega))) (cwV 1 hts mg_X10_itemKnotmk3_X10_spotKnot_245 rfl rfl rfl (by decide +kernel) ⟨Nat.le_of_ble_eq_true rfl, Nat.le_of_ble_eq_true rfl⟩) ⟨fun a U g mk q => by obtain ⟨q0, q1, qP, qK, qD⟩ := q; exact ⟨q0, q1, qP, va_K.moved (u := U) (U := U.calling g mk a) (Vm.Alike.refl U.vm) qK, qD⟩, va_recv hK hP (ci := 10) (q0 := 0) rfl rfl, fun U hU hW => ⟨rfl, by rw [hU], by rw [hU]; exact hP, va_K.moved hW.alike hK, hD.weaken (fun _ _ _ _ => trivial)⟩⟩ rfl rfl hl.1 rfl (lv_room (Nat.le_of_ble_eq_true rfl)) dX10_itemKnot_56 ⟨Nat.le_of_ble_eq_true rfl, Nat.le_of_ble_eq_true rfl⟩) hS (fun q _ h => hFc q h) hFc (fun r_10 u t H1 locs ht hvm hw hB hz1 hk1 hS => ?_)
    subst hw
    obtain ⟨x_11, x_12, x_13, f_14, f_15, f_16, f_17, f_18, f_19, hr_10_0, hr_10_1, hr_10_2, hr_10_3, hr_10_4, hr_10_5, hr_10_6, hr_10_7, hP, hK1, hD1⟩ := hB
    rw [ht] at hP
    have hD := hD1.weaken (fun k q _ h => hFc q.1 h)
    generalize H1 = H at hP hS ⊢
    have rg_x_11 := i_rng x_11
    have rg_x_12 := i_rng x_12
    have rg_x_13 := i_rng x_13
    have rg_r_10 := i_rng r_10
    have hP : va_P (dC, dI) vwCl (mW ad kc x0 x1 x2 x3 x4 x5 x6 x7 x8 x9 x10 x11 x_11 x_12 x14 x_13 x16 x17 x18 x19 x20 x21 f0 f1 f2 f_14 f_15 f_16 f_17 f_18 f_19 f9 f10 f11 f12 f13 f14 f15 f16 f17 f18 f19 f20 f21 fL fN fP fM fO) H := hP
    have hD : va_D A (mW ad kc x0 x1 x2 x3 x4 x5 x6 x7 x8 x9 x10 x11 x_11 x_12 x14 x_13 x16 x17 x18 x19 x20 x21 f0 f1 f2 f_14 f_15 f_16 f_17 f_18 f_19 f9 f10 f11 f12 f13 f14 f15 f16 f17 f18 f19 f20 f21 fL fN fP fM fO) := hD
    rw [show x_2.toInt = x12.toInt + 1 by omega] at hr_10_4 hr_10_5 hr_10_6
    have hee := sp_e hA9.2.2 hr_7 (show y_8.toInt = x13.toInt + 1 by omega) hr_10_1
    have hFc := m_free hD hS hA
    refine va_calli (va_runV (As := [.int r_1, .int (-1), .int r_10]) (rest := []) ⟨hx, hb, hml, hown, hts⟩ (m_joins l dC dI ad kc x0 x1 x2 x3 x4 x5 x6 x7 x8 x9 x10 x11 x_11 x_12 x14 x_13 x16 x17 x18 x19 x20 x21 f0 f1 f2 f_14 f_15 f_16 f_17 f_18 f_19 f9 f10 f11 f12 f13 f14 f15 f16 f17 f18 f19 f20 f21 fL fN fP fM fO H.size r_1 (-1) r_10 (by first | omega | assumption | decide | (have l0 := Int32.toInt_zero; omega)) (by first | omega | assumption | decide | (have l0 := Int32.toInt_zero; omega)) (by first | omega | assumption | decide | (have l0 := Int32.toInt_zero; omega)) (by first | omega | assumption | decide | (have l0 := Int32.toInt_zero; omega))) (cwV 3 hts mg_X10_itemKnotmk3_X10_joins_232 rfl rfl rfl (by decide +kernel) ⟨Nat.le_of_ble_eq_true rfl, Nat.le_of_ble_eq_true rfl⟩) ⟨fun a U g mk q => by obtain ⟨q0, q1, qP, qK, qD⟩ := q; exact ⟨q0, q1, qP, va_K.moved (u := U) (U := U.calling g mk a) (Vm.Alike.refl U.vm) qK, qD⟩, va_recv hK hP (ci := 10) (q0 := 0) rfl rfl, fun U hU hW => ⟨rfl, by rw [hU], by rw [hU]; exact hP, va_K.moved hW.alike hK, hD.weaken (fun _ _ _ _ => trivial)⟩⟩ rfl rfl hl.1 rfl (lv_room (Nat.le_of_ble_eq_true rfl)) dX10_itemKnot_59 ⟨Nat.le_of_ble_eq_true rfl, Nat.le_of_ble_eq_true rfl⟩) hS (fun q _ h => hFc q h) hFc (fun r_20 u t H1 locs ht hvm hw hB hz1 hk1 hS => ?_)
    subst hw
    obtain ⟨f_21, f_22, hr_20_0, hr_20_1, hP, hK1, hD1⟩ := hB
    rw [ht] at hP
    have hD := hD1.weaken (fun k q _ h => hFc q.1 h)
    generalize H1 = H at hP hS ⊢
    have rg_r_20 := i_rng r_20
    have hP : va_P (dC, dI) vwCl (mW ad kc x0 x1 x2 x3 x4 x5 x6 x7 x8 x9 x10 x11 x_11 x_12 x14 x_13 x16 x17 x18 x19 x20 x21 f0 f1 f2 f_14 f_21 f_22 f_17 f_18 f_19 f9 f10 f11 f12 f13 f14 f15 f16 f17 f18 f19 f20 f21 fL fN fP fM fO) H := hP
    have hD : va_D A (mW ad kc x0 x1 x2 x3 x4 x5 x6 x7 x8 x9 x10 x11 x_11 x_12 x14 x_13 x16 x17 x18 x19 x20 x21 f0 f1 f2 f_14 f_21 f_22 f_17 f_18 f_19 f9 f10 f11 f12 f13 f14 f15 f16 f17 f18 f19 f20 f21 fL fN fP fM fO) := hD
    rw [show r_1.toInt = x12.toInt by omega, show ((-1) : Int32).toInt = -1 by decide, show r_10.toInt = x12.toInt + 1 by omega] at hr_20_1
    have hE := it_end (V0 := (mV f3 f4 f5 f7)) (V1 := (mV f_3 f_4 f_5 f7)) (V2 := (mV f_14 f_15 f_16 f_18)) (V3 := (mV f_14 f_21 f_22 f_18)) (k := x12.toInt) (hi := x_11.toInt) (m := 1) (d := 3) (by omega) (hr_1_2.1.trans (by decide)) hr_1_2.2.2 hr_1_3 (Or.inl hr_10_4) hr_10_6 hr_10_5 hr_20_1
    refine lv_pop hx hb dX10_itemKnot_62 rfl ?_
    refine lv_aload_n hx hb dX10_itemKnot_63 rfl (lv_at hl 2 rfl) ?_
    refine vp_callSi (W.runV (As := []) (rest := []) ⟨hx, hb, hml, hown, hts⟩ (m_signAt l dC dI ad kc x0 x1 x2 x3 x4 x5 x6 x7 x8 x9 x10 x11 x_11 x_12 x14 x_13 x16 x17 x18 x19 x20 x21 f0 f1 f2 f_14 f_21 f_22 f_17 f_18 f_19 f9 f10 f11 f12 f13 f14 f15 f16 f17 f18 f19 f20 f21 fL fN fP fM fO (by first | omega | assumption | decide | (have l0 := Int32.toInt_zero; omega)) (by first | omega | assumption | decide | (have l0 := Int32.toInt_zero; omega)) (by first | omega | assumption | decide | (have l0 := Int32.toInt_zero; omega)) (by first | omega | assumption | decide | (have l0 := Int32.toInt_zero; omega)) (by first | omega | assumption | decide | (have l0 := Int32.toInt_zero; omega))) (cwV 0 hts mg_X10_itemKnotmk3_X10_signAt_236 rfl rfl rfl (by decide +kernel) ⟨Nat.le_of_ble_eq_true rfl, Nat.le_of_ble_eq_true rfl⟩) ⟨fun a U g mk q => by obtain ⟨q0, qP, qK⟩ := q; exact ⟨q0, qP, va_K.moved (u := U) (U := U.calling g mk a) (Vm.Alike.refl U.vm) qK⟩, va_recv hK hP (ci := 10) (q0 := 0) rfl rfl, fun U hU hW => ⟨rfl, by rw [hU]; exact hP, va_K.moved hW.alike hK⟩⟩ rfl rfl hl.1 rfl (lv_room (Nat.le_of_ble_eq_true rfl)) dX10_itemKnot_64 ⟨Nat.le_of_ble_eq_true rfl, Nat.le_of_ble_eq_true rfl⟩) (fun r_23 hr_23 => ?_)
    have rg_r_23 := i_rng r_23
    rw [show x_12.toInt = ee by omega] at hr_23
    unfold isQu at hQ
    rw [← hr_23] at hQ
    refine lv_istore_n (lv' := [(3, .int r_23), (2, .int r_7), (1, .int r_1), (0, .ref (ad 0))]) hx hb dX10_itemKnot_67 rfl hl (by decide) rfl (fun ls hl => ?_)
    refine lv_iload_n hx hb dX10_itemKnot_68 rfl (lv_at hl 0 rfl) ?_
    refine lv_bipush (v := 42) hx hb dX10_itemKnot_69 (by decide) ?_
    refine lv_icmp_eq (tgt := 86) hx hb dX10_itemKnot_71 (by decide) (fun k_24 => ?_) (fun k_24 => ?_)
    · have tk_24 := c_eq (a := r_23.toInt) (b := 42) rfl (by decide) k_24
      refine lv_aload_n hx hb dX10_itemKnot_86 rfl (lv_at hl 3 rfl) ?_
      refine va_get (D := (dC, dI)) (ci := 10) (v := .ref (ad 9)) (C := RX10) (T := TX10) (N := 48) hx hb hts fin_X10_itemKnotmk3_X10 hown hK hP 0 rfl rfl 20 (by decide) (hts (.fieldLink RX10 43 "PatternGateModel" "sign" "[I") (List.mem_of_getElem? (i := 6) (by decide +kernel))) (fun _ h9 => h9) rfl dX10_itemKnot_87 ?_
      refine lv_iload_n hx hb dX10_itemKnot_90 rfl (lv_at hl 2 rfl) ?_
      refine lv_iload_n hx hb dX10_itemKnot_91 rfl (lv_at hl 0 rfl) ?_
      refine va_iast hx hb hK hP hD hS 9 8 rfl rfl (i := r_1) (vp_of (a := r_1.toInt) rfl (by omega) (by omega)) dX10_itemKnot_92 (fun H locs hP hD hS => ?_)
      generalize hf_f_25 : upd f_19 _ _ = f_25 at hP hD
      have hP : va_P (dC, dI) vwCl (mW ad kc x0 x1 x2 x3 x4 x5 x6 x7 x8 x9 x10 x11 x_11 x_12 x14 x_13 x16 x17 x18 x19 x20 x21 f0 f1 f2 f_14 f_21 f_22 f_17 f_18 f_25 f9 f10 f11 f12 f13 f14 f15 f16 f17 f18 f19 f20 f21 fL fN fP fM fO) H := hP
      have hD : va_D A (mW ad kc x0 x1 x2 x3 x4 x5 x6 x7 x8 x9 x10 x11 x_11 x_12 x14 x_13 x16 x17 x18 x19 x20 x21 f0 f1 f2 f_14 f_21 f_22 f_17 f_18 f_25 f9 f10 f11 f12 f13 f14 f15 f16 f17 f18 f19 f20 f21 fL fN fP fM fO) := hD
      refine lv_aload_n hx hb dX10_itemKnot_93 rfl (lv_at hl 3 rfl) ?_
      refine lv_dup hx hb dX10_itemKnot_94 rfl ?_
      refine va_get (D := (dC, dI)) (ci := 10) (v := .int x_12) (C := RX10) (T := TX10) (N := 48) hx hb hts fin_X10_itemKnotmk3_X10 hown hK hP 0 rfl rfl 22 (by decide) (hts (.fieldLink RX10 217 "PatternGateModel" "reached" "I") (List.mem_of_getElem? (i := 12) (by decide +kernel))) (fun _ h9 => h9) rfl dX10_itemKnot_95 ?_
      refine lv_iconst (v := 1) hx hb dX10_itemKnot_98 (by decide) ?_
      refine lv_iadd hx hb dX10_itemKnot_99 ?_
      refine lv_topi (fun y_26 ey_26 => ?_)
      first | have ty_26 := i_add (a := x_12.toInt) (b := 1) rfl (by decide) ey_26 (by omega) (by omega) | skip
      refine va_put (D := (dC, dI)) (ci := 10) (v := .int y_26) (ty := .int) (C := RX10) (T := TX10) (N := 48) hx hb hts fin_X10_itemKnotmk3_X10 tyX10 tyX10_ok nmX10 hown hK hP hD hS 0 rfl rfl 22 (by decide) (hts (.fieldLink RX10 217 "PatternGateModel" "reached" "I") (List.mem_of_getElem? (i := 12) (by decide +kernel))) (fun _ h9 => h9) rfl (by decide +kernel) rfl rfl (Nat.le_of_ble_eq_true rfl) dX10_itemKnot_100 (fun H locs hP hD hS => ?_)
      have hP : va_P (dC, dI) vwCl (mW ad kc x0 x1 x2 x3 x4 x5 x6 x7 x8 x9 x10 x11 x_11 y_26 x14 x_13 x16 x17 x18 x19 x20 x21 f0 f1 f2 f_14 f_21 f_22 f_17 f_18 f_25 f9 f10 f11 f12 f13 f14 f15 f16 f17 f18 f19 f20 f21 fL fN fP fM fO) H := hP
      have hD : va_D A (mW ad kc x0 x1 x2 x3 x4 x5 x6 x7 x8 x9 x10 x11 x_11 y_26 x14 x_13 x16 x17 x18 x19 x20 x21 f0 f1 f2 f_14 f_21 f_22 f_17 f_18 f_25 f9 f10 f11 f12 f13 f14 f15 f16 f17 f18 f19 f20 f21 fL fN fP fM fO) := hD
      refine lv_iload_n hx hb dX10_itemKnot_103 rfl (lv_at hl 2 rfl) ?_
      exact W.iret hx hb hr (fun t ht hW => ⟨⟨_, _, rfl, rfl, x_11, y_26, x_13, f_14, f_21, f_22, f_17, f_18, f_25, (by first | omega | assumption | rfl | decide), (by first | omega | assumption | rfl | decide), (by first | omega | assumption | rfl | decide), (by first | omega | assumption | rfl | decide), (by rw [show mm = 1 from hA9.1]; exact hE.1), hE.2.2, hE.2.1, by rw [ht]; exact hP, va_K.moved hW.alike hK, hD⟩, hS.F ht⟩) hS.2.2 dX10_itemKnot_104
    · have tk_24 := c_ne (a := r_23.toInt) (b := 42) rfl (by decide) k_24
      refine lv_iload_n hx hb dX10_itemKnot_74 rfl (lv_at hl 0 rfl) ?_
      refine lv_bipush (v := 43) hx hb dX10_itemKnot_75 (by decide) ?_
      refine lv_icmp_eq (tgt := 86) hx hb dX10_itemKnot_77 (by decide) (fun k_27 => ?_) (fun k_27 => ?_)
      · have tk_27 := c_eq (a := r_23.toInt) (b := 43) rfl (by decide) k_27
        refine lv_aload_n hx hb dX10_itemKnot_86 rfl (lv_at hl 3 rfl) ?_
        refine va_get (D := (dC, dI)) (ci := 10) (v := .ref (ad 9)) (C := RX10) (T := TX10) (N := 48) hx hb hts fin_X10_itemKnotmk3_X10 hown hK hP 0 rfl rfl 20 (by decide) (hts (.fieldLink RX10 43 "PatternGateModel" "sign" "[I") (List.mem_of_getElem? (i := 6) (by decide +kernel))) (fun _ h9 => h9) rfl dX10_itemKnot_87 ?_
        refine lv_iload_n hx hb dX10_itemKnot_90 rfl (lv_at hl 2 rfl) ?_
        refine lv_iload_n hx hb dX10_itemKnot_91 rfl (lv_at hl 0 rfl) ?_
        refine va_iast hx hb hK hP hD hS 9 8 rfl rfl (i := r_1) (vp_of (a := r_1.toInt) rfl (by omega) (by omega)) dX10_itemKnot_92 (fun H locs hP hD hS => ?_)
        generalize hf_f_28 : upd f_19 _ _ = f_28 at hP hD
        have hP : va_P (dC, dI) vwCl (mW ad kc x0 x1 x2 x3 x4 x5 x6 x7 x8 x9 x10 x11 x_11 x_12 x14 x_13 x16 x17 x18 x19 x20 x21 f0 f1 f2 f_14 f_21 f_22 f_17 f_18 f_28 f9 f10 f11 f12 f13 f14 f15 f16 f17 f18 f19 f20 f21 fL fN fP fM fO) H := hP
        have hD : va_D A (mW ad kc x0 x1 x2 x3 x4 x5 x6 x7 x8 x9 x10 x11 x_11 x_12 x14 x_13 x16 x17 x18 x19 x20 x21 f0 f1 f2 f_14 f_21 f_22 f_17 f_18 f_28 f9 f10 f11 f12 f13 f14 f15 f16 f17 f18 f19 f20 f21 fL fN fP fM fO) := hD
        refine lv_aload_n hx hb dX10_itemKnot_93 rfl (lv_at hl 3 rfl) ?_
        refine lv_dup hx hb dX10_itemKnot_94 rfl ?_
        refine va_get (D := (dC, dI)) (ci := 10) (v := .int x_12) (C := RX10) (T := TX10) (N := 48) hx hb hts fin_X10_itemKnotmk3_X10 hown hK hP 0 rfl rfl 22 (by decide) (hts (.fieldLink RX10 217 "PatternGateModel" "reached" "I") (List.mem_of_getElem? (i := 12) (by decide +kernel))) (fun _ h9 => h9) rfl dX10_itemKnot_95 ?_
        refine lv_iconst (v := 1) hx hb dX10_itemKnot_98 (by decide) ?_
        refine lv_iadd hx hb dX10_itemKnot_99 ?_
        refine lv_topi (fun y_29 ey_29 => ?_)
        first | have ty_29 := i_add (a := x_12.toInt) (b := 1) rfl (by decide) ey_29 (by omega) (by omega) | skip
        refine va_put (D := (dC, dI)) (ci := 10) (v := .int y_29) (ty := .int) (C := RX10) (T := TX10) (N := 48) hx hb hts fin_X10_itemKnotmk3_X10 tyX10 tyX10_ok nmX10 hown hK hP hD hS 0 rfl rfl 22 (by decide) (hts (.fieldLink RX10 217 "PatternGateModel" "reached" "I") (List.mem_of_getElem? (i := 12) (by decide +kernel))) (fun _ h9 => h9) rfl (by decide +kernel) rfl rfl (Nat.le_of_ble_eq_true rfl) dX10_itemKnot_100 (fun H locs hP hD hS => ?_)
        have hP : va_P (dC, dI) vwCl (mW ad kc x0 x1 x2 x3 x4 x5 x6 x7 x8 x9 x10 x11 x_11 y_29 x14 x_13 x16 x17 x18 x19 x20 x21 f0 f1 f2 f_14 f_21 f_22 f_17 f_18 f_28 f9 f10 f11 f12 f13 f14 f15 f16 f17 f18 f19 f20 f21 fL fN fP fM fO) H := hP
        have hD : va_D A (mW ad kc x0 x1 x2 x3 x4 x5 x6 x7 x8 x9 x10 x11 x_11 y_29 x14 x_13 x16 x17 x18 x19 x20 x21 f0 f1 f2 f_14 f_21 f_22 f_17 f_18 f_28 f9 f10 f11 f12 f13 f14 f15 f16 f17 f18 f19 f20 f21 fL fN fP fM fO) := hD
        refine lv_iload_n hx hb dX10_itemKnot_103 rfl (lv_at hl 2 rfl) ?_
        exact W.iret hx hb hr (fun t ht hW => ⟨⟨_, _, rfl, rfl, x_11, y_29, x_13, f_14, f_21, f_22, f_17, f_18, f_28, (by first | omega | assumption | rfl | decide), (by first | omega | assumption | rfl | decide), (by first | omega | assumption | rfl | decide), (by first | omega | assumption | rfl | decide), (by rw [show mm = 1 from hA9.1]; exact hE.1), hE.2.2, hE.2.1, by rw [ht]; exact hP, va_K.moved hW.alike hK, hD⟩, hS.F ht⟩) hS.2.2 dX10_itemKnot_104
      · have tk_27 := c_ne (a := r_23.toInt) (b := 43) rfl (by decide) k_27
        refine lv_iload_n hx hb dX10_itemKnot_80 rfl (lv_at hl 0 rfl) ?_
        refine lv_bipush (v := 63) hx hb dX10_itemKnot_81 (by decide) ?_
        refine lv_icmp_ne (tgt := 103) hx hb dX10_itemKnot_83 (by decide) (fun k_30 => ?_) (fun k_30 => ?_)
        · have tk_30 := c_ne (a := r_23.toInt) (b := 63) rfl (by decide) k_30
          refine lv_iload_n hx hb dX10_itemKnot_103 rfl (lv_at hl 2 rfl) ?_
          exact W.iret hx hb hr (fun t ht hW => ⟨⟨_, _, rfl, rfl, x_11, x_12, x_13, f_14, f_21, f_22, f_17, f_18, f_19, (by first | omega | assumption | rfl | decide), (by first | omega | assumption | rfl | decide), (by first | omega | assumption | rfl | decide), (by first | omega | assumption | rfl | decide), (by rw [show mm = 1 from hA9.1]; exact hE.1), hE.2.2, hE.2.1, by rw [ht]; exact hP, va_K.moved hW.alike hK, hD⟩, hS.F ht⟩) hS.2.2 dX10_itemKnot_104
        · have tk_30 := c_eq (a := r_23.toInt) (b := 63) rfl (by decide) k_30
          refine lv_aload_n hx hb dX10_itemKnot_86 rfl (lv_at hl 3 rfl) ?_
          refine va_get (D := (dC, dI)) (ci := 10) (v := .ref (ad 9)) (C := RX10) (T := TX10) (N := 48) hx hb hts fin_X10_itemKnotmk3_X10 hown hK hP 0 rfl rfl 20 (by decide) (hts (.fieldLink RX10 43 "PatternGateModel" "sign" "[I") (List.mem_of_getElem? (i := 6) (by decide +kernel))) (fun _ h9 => h9) rfl dX10_itemKnot_87 ?_
          refine lv_iload_n hx hb dX10_itemKnot_90 rfl (lv_at hl 2 rfl) ?_
          refine lv_iload_n hx hb dX10_itemKnot_91 rfl (lv_at hl 0 rfl) ?_
          refine va_iast hx hb hK hP hD hS 9 8 rfl rfl (i := r_1) (vp_of (a := r_1.toInt) rfl (by omega) (by omega)) dX10_itemKnot_92 (fun H locs hP hD hS => ?_)
          generalize hf_f_31 : upd f_19 _ _ = f_31 at hP hD
          have hP : va_P (dC, dI) vwCl (mW ad kc x0 x1 x2 x3 x4 x5 x6 x7 x8 x9 x10 x11 x_11 x_12 x14 x_13 x16 x17 x18 x19 x20 x21 f0 f1 f2 f_14 f_21 f_22 f_17 f_18 f_31 f9 f10 f11 f12 f13 f14 f15 f16 f17 f18 f19 f20 f21 fL fN fP fM fO) H := hP
          have hD : va_D A (mW ad kc x0 x1 x2 x3 x4 x5 x6 x7 x8 x9 x10 x11 x_11 x_12 x14 x_13 x16 x17 x18 x19 x20 x21 f0 f1 f2 f_14 f_21 f_22 f_17 f_18 f_31 f9 f10 f11 f12 f13 f14 f15 f16 f17 f18 f19 f20 f21 fL fN fP fM fO) := hD
          refine lv_aload_n hx hb dX10_itemKnot_93 rfl (lv_at hl 3 rfl) ?_
          refine lv_dup hx hb dX10_itemKnot_94 rfl ?_
          refine va_get (D := (dC, dI)) (ci := 10) (v := .int x_12) (C := RX10) (T := TX10) (N := 48) hx hb hts fin_X10_itemKnotmk3_X10 hown hK hP 0 rfl rfl 22 (by decide) (hts (.fieldLink RX10 217 "PatternGateModel" "reached" "I") (List.mem_of_getElem? (i := 12) (by decide +kernel))) (fun _ h9 => h9) rfl dX10_itemKnot_95 ?_
          refine lv_iconst (v := 1) hx hb dX10_itemKnot_98 (by decide) ?_
          refine lv_iadd hx hb dX10_itemKnot_99 ?_
          refine lv_topi (fun y_32 ey_32 => ?_)
          first | have ty_32 := i_add (a := x_12.toInt) (b := 1) rfl (by decide) ey_32 (by omega) (by omega) | skip
          refine va_put (D := (dC, dI)) (ci := 10) (v := .int y_32) (ty := .int) (C := RX10) (T := TX10) (N := 48) hx hb hts fin_X10_itemKnotmk3_X10 tyX10 tyX10_ok nmX10 hown hK hP hD hS 0 rfl rfl 22 (by decide) (hts (.fieldLink RX10 217 "PatternGateModel" "reached" "I") (List.mem_of_getElem? (i := 12) (by decide +kernel))) (fun _ h9 => h9) rfl (by decide +kernel) rfl rfl (Nat.le_of_ble_eq_true rfl) dX10_itemKnot_100 (fun H locs hP hD hS => ?_)
          have hP : va_P (dC, dI) vwCl (mW ad kc x0 x1 x2 x3 x4 x5 x6 x7 x8 x9 x10 x11 x_11 y_32 x14 x_13 x16 x17 x18 x19 x20 x21 f0 f1 f2 f_14 f_21 f_22 f_17 f_18 f_31 f9 f10 f11 f12 f13 f14 f15 f16 f17 f18 f19 f20 f21 fL fN fP fM fO) H := hP
          have hD : va_D A (mW ad kc x0 x1 x2 x3 x4 x5 x6 x7 x8 x9 x10 x11 x_11 y_32 x14 x_13 x16 x17 x18 x19 x20 x21 f0 f1 f2 f_14 f_21 f_22 f_17 f_18 f_31 f9 f10 f11 f12 f13 f14 f15 f16 f17 f18 f19 f20 f21 fL fN fP fM fO) := hD
          refine lv_iload_n hx hb dX10_itemKnot_103 rfl (lv_at hl 2 rfl) ?_
          exact W.iret hx hb hr (fun t ht hW => ⟨⟨_, _, rfl, rfl, x_11, y_32, x_13, f_14, f_21, f_22, f_17, f_18, f_31, (by first | omega | assumption | rfl | decide), (by first | omega | assumption | rfl | decide), (by first | omega | assumption | rfl | decide), (by first | omega | assumption | rfl | decide), (by rw [show mm = 1 from hA9.1]; exact hE.1), hE.2.2, hE.2.1, by rw [ht]; exact hP, va_K.moved hW.alike hK, hD⟩, hS.F ht⟩) hS.2.2 dX10_itemKnot_104
  · have tk_9 := c_eq (a := r_7.toInt) (b := 40) rfl (by decide) k_9
    rw [hr_7] at tk_9
    have hA9 := at_p hAx tk_9
    refine lv_aload_n hx hb dX10_itemKnot_27 rfl (lv_at hl 2 rfl) ?_
    refine lv_iload_n hx hb dX10_itemKnot_28 rfl (lv_at hl 1 rfl) ?_
    refine lv_iconst (v := (-1)) hx hb dX10_itemKnot_29 (by decide) ?_
    refine lv_aload_n hx hb dX10_itemKnot_30 rfl (lv_at hl 2 rfl) ?_
    have hFc := m_free hD hS hA
    refine va_calli (va_runV (As := []) (rest := [.int (-1), .int r_1, .ref (ad 0)]) ⟨hx, hb, hml, hown, hts⟩ (m_patternKnot2 l dC dI ad kc x0 x1 x2 x3 x4 x5 x6 x7 x8 x9 x10 x11 x_2 y_8 x14 x15 x16 x17 x18 x19 x20 x21 f0 f1 f2 f_3 f_4 f_5 f6 f7 f_6 f9 f10 f11 f12 f13 f14 f15 f16 f17 f18 f19 f20 f21 fL fN fP fM fO H.size (ee - 1) mm (by first | omega | assumption | decide | (have l0 := Int32.toInt_zero; omega)) (by first | omega | assumption | decide | (have l0 := Int32.toInt_zero; omega)) (by first | omega | assumption | decide | (have l0 := Int32.toInt_zero; omega)) (by first | omega | assumption | decide | (have l0 := Int32.toInt_zero; omega)) (by first | omega | assumption | decide | (have l0 := Int32.toInt_zero; omega)) (by first | omega | assumption | decide | (have l0 := Int32.toInt_zero; omega)) (by first | omega | assumption | decide | (have l0 := Int32.toInt_zero; omega)) (by first | omega | assumption | decide | (have l0 := Int32.toInt_zero; omega)) (by rw [show y_8.toInt = x13.toInt + 1 by omega]; exact hA9.1) (Or.inr (Or.inr hA9.2)) (by first | omega | assumption | decide | (have l0 := Int32.toInt_zero; omega))) (cwV 0 hts mg_X10_itemKnotmk3_X10_patternKnot_242 rfl rfl rfl (by decide +kernel) ⟨Nat.le_of_ble_eq_true rfl, Nat.le_of_ble_eq_true rfl⟩) ⟨fun a U g mk q => by obtain ⟨q0, q1, qP, qK, qD⟩ := q; exact ⟨q0, q1, qP, va_K.moved (u := U) (U := U.calling g mk a) (Vm.Alike.refl U.vm) qK, qD⟩, va_recv hK hP (ci := 10) (q0 := 0) rfl rfl, fun U hU hW => ⟨rfl, by rw [hU], by rw [hU]; exact hP, va_K.moved hW.alike hK, hD.weaken (fun _ _ _ _ => trivial)⟩⟩ rfl rfl hl.1 rfl (lv_room (Nat.le_of_ble_eq_true rfl)) dX10_itemKnot_31 ⟨Nat.le_of_ble_eq_true rfl, Nat.le_of_ble_eq_true rfl⟩) hS (fun q _ h => hFc q h) hFc (fun r_33 u t H1 locs ht hvm hw hB hz1 hk1 hS => ?_)
    subst hw
    obtain ⟨x_34, x_35, x_36, f_37, f_38, f_39, f_40, f_41, f_42, hr_33_0, hr_33_1, hr_33_2, hr_33_3, hr_33_4, hr_33_5, hr_33_6, hP, hK1, hD1⟩ := hB
    rw [ht] at hP
    have hD := hD1.weaken (fun k q _ h => hFc q.1 h)
    generalize H1 = H at hP hS ⊢
    have rg_x_34 := i_rng x_34
    have rg_x_35 := i_rng x_35
    have rg_x_36 := i_rng x_36
    have rg_r_33 := i_rng r_33
    have hP : va_P (dC, dI) vwCl (mW ad kc x0 x1 x2 x3 x4 x5 x6 x7 x8 x9 x10 x11 x_34 x_35 x14 x_36 x16 x17 x18 x19 x20 x21 f0 f1 f2 f_37 f_38 f_39 f_40 f_41 f_42 f9 f10 f11 f12 f13 f14 f15 f16 f17 f18 f19 f20 f21 fL fN fP fM fO) H := hP
    have hD : va_D A (mW ad kc x0 x1 x2 x3 x4 x5 x6 x7 x8 x9 x10 x11 x_34 x_35 x14 x_36 x16 x17 x18 x19 x20 x21 f0 f1 f2 f_37 f_38 f_39 f_40 f_41 f_42 f9 f10 f11 f12 f13 f14 f15 f16 f17 f18 f19 f20 f21 fL fN fP fM fO) := hD
    rw [show x_2.toInt = x12.toInt + 1 by omega] at hr_33_4 hr_33_5 hr_33_6
    have hFc := m_free hD hS hA
    refine va_calli (va_runV (As := [.int r_1, .int (-1), .int r_33]) (rest := []) ⟨hx, hb, hml, hown, hts⟩ (m_joins l dC dI ad kc x0 x1 x2 x3 x4 x5 x6 x7 x8 x9 x10 x11 x_34 x_35 x14 x_36 x16 x17 x18 x19 x20 x21 f0 f1 f2 f_37 f_38 f_39 f_40 f_41 f_42 f9 f10 f11 f12 f13 f14 f15 f16 f17 f18 f19 f20 f21 fL fN fP fM fO H.size r_1 (-1) r_33 (by first | omega | assumption | decide | (have l0 := Int32.toInt_zero; omega)) (by first | omega | assumption | decide | (have l0 := Int32.toInt_zero; omega)) (by first | omega | assumption | decide | (have l0 := Int32.toInt_zero; omega)) (by first | omega | assumption | decide | (have l0 := Int32.toInt_zero; omega))) (cwV 3 hts mg_X10_itemKnotmk3_X10_joins_232 rfl rfl rfl (by decide +kernel) ⟨Nat.le_of_ble_eq_true rfl, Nat.le_of_ble_eq_true rfl⟩) ⟨fun a U g mk q => by obtain ⟨q0, q1, qP, qK, qD⟩ := q; exact ⟨q0, q1, qP, va_K.moved (u := U) (U := U.calling g mk a) (Vm.Alike.refl U.vm) qK, qD⟩, va_recv hK hP (ci := 10) (q0 := 0) rfl rfl, fun U hU hW => ⟨rfl, by rw [hU], by rw [hU]; exact hP, va_K.moved hW.alike hK, hD.weaken (fun _ _ _ _ => trivial)⟩⟩ rfl rfl hl.1 rfl (lv_room (Nat.le_of_ble_eq_true rfl)) dX10_itemKnot_34 ⟨Nat.le_of_ble_eq_true rfl, Nat.le_of_ble_eq_true rfl⟩) hS (fun q _ h => hFc q h) hFc (fun r_43 u t H1 locs ht hvm hw hB hz1 hk1 hS => ?_)
    subst hw
    obtain ⟨f_44, f_45, hr_43_0, hr_43_1, hP, hK1, hD1⟩ := hB
    rw [ht] at hP
    have hD := hD1.weaken (fun k q _ h => hFc q.1 h)
    generalize H1 = H at hP hS ⊢
    have rg_r_43 := i_rng r_43
    have hP : va_P (dC, dI) vwCl (mW ad kc x0 x1 x2 x3 x4 x5 x6 x7 x8 x9 x10 x11 x_34 x_35 x14 x_36 x16 x17 x18 x19 x20 x21 f0 f1 f2 f_37 f_44 f_45 f_40 f_41 f_42 f9 f10 f11 f12 f13 f14 f15 f16 f17 f18 f19 f20 f21 fL fN fP fM fO) H := hP
    have hD : va_D A (mW ad kc x0 x1 x2 x3 x4 x5 x6 x7 x8 x9 x10 x11 x_34 x_35 x14 x_36 x16 x17 x18 x19 x20 x21 f0 f1 f2 f_37 f_44 f_45 f_40 f_41 f_42 f9 f10 f11 f12 f13 f14 f15 f16 f17 f18 f19 f20 f21 fL fN fP fM fO) := hD
    rw [show r_1.toInt = x12.toInt by omega, show ((-1) : Int32).toInt = -1 by decide, show r_33.toInt = x12.toInt + 1 by omega] at hr_43_1
    have hE := it_end (V0 := (mV f3 f4 f5 f7)) (V1 := (mV f_3 f_4 f_5 f7)) (V2 := (mV f_37 f_38 f_39 f_41)) (V3 := (mV f_37 f_44 f_45 f_41)) (k := x12.toInt) (hi := x_34.toInt) (m := mm) (d := 3) (by omega) (hr_1_2.1.trans (by decide)) hr_1_2.2.2 hr_1_3 (Or.inr hr_33_4) hr_33_6 hr_33_5 hr_43_1
    refine lv_pop hx hb dX10_itemKnot_37 rfl ?_
    refine lv_aload_n hx hb dX10_itemKnot_38 rfl (lv_at hl 2 rfl) ?_
    refine lv_dup hx hb dX10_itemKnot_39 rfl ?_
    refine va_get (D := (dC, dI)) (ci := 10) (v := .int x_35) (C := RX10) (T := TX10) (N := 48) hx hb hts fin_X10_itemKnotmk3_X10 hown hK hP 0 rfl rfl 22 (by decide) (hts (.fieldLink RX10 217 "PatternGateModel" "reached" "I") (List.mem_of_getElem? (i := 12) (by decide +kernel))) (fun _ h9 => h9) rfl dX10_itemKnot_40 ?_
    refine lv_iconst (v := 1) hx hb dX10_itemKnot_43 (by decide) ?_
    refine lv_iadd hx hb dX10_itemKnot_44 ?_
    refine lv_topi (fun y_46 ey_46 => ?_)
    first | have ty_46 := i_add (a := x_35.toInt) (b := 1) rfl (by decide) ey_46 (by omega) (by omega) | skip
    refine va_put (D := (dC, dI)) (ci := 10) (v := .int y_46) (ty := .int) (C := RX10) (T := TX10) (N := 48) hx hb hts fin_X10_itemKnotmk3_X10 tyX10 tyX10_ok nmX10 hown hK hP hD hS 0 rfl rfl 22 (by decide) (hts (.fieldLink RX10 217 "PatternGateModel" "reached" "I") (List.mem_of_getElem? (i := 12) (by decide +kernel))) (fun _ h9 => h9) rfl (by decide +kernel) rfl rfl (Nat.le_of_ble_eq_true rfl) dX10_itemKnot_45 (fun H locs hP hD hS => ?_)
    have hP : va_P (dC, dI) vwCl (mW ad kc x0 x1 x2 x3 x4 x5 x6 x7 x8 x9 x10 x11 x_34 y_46 x14 x_36 x16 x17 x18 x19 x20 x21 f0 f1 f2 f_37 f_44 f_45 f_40 f_41 f_42 f9 f10 f11 f12 f13 f14 f15 f16 f17 f18 f19 f20 f21 fL fN fP fM fO) H := hP
    have hD : va_D A (mW ad kc x0 x1 x2 x3 x4 x5 x6 x7 x8 x9 x10 x11 x_34 y_46 x14 x_36 x16 x17 x18 x19 x20 x21 f0 f1 f2 f_37 f_44 f_45 f_40 f_41 f_42 f9 f10 f11 f12 f13 f14 f15 f16 f17 f18 f19 f20 f21 fL fN fP fM fO) := hD
    refine lv_goto (tgt := 63) hx hb dX10_itemKnot_48 (by decide) ?_
    refine lv_aload_n hx hb dX10_itemKnot_63 rfl (lv_at hl 2 rfl) ?_
    refine vp_callSi (W.runV (As := []) (rest := []) ⟨hx, hb, hml, hown, hts⟩ (m_signAt l dC dI ad kc x0 x1 x2 x3 x4 x5 x6 x7 x8 x9 x10 x11 x_34 y_46 x14 x_36 x16 x17 x18 x19 x20 x21 f0 f1 f2 f_37 f_44 f_45 f_40 f_41 f_42 f9 f10 f11 f12 f13 f14 f15 f16 f17 f18 f19 f20 f21 fL fN fP fM fO (by first | omega | assumption | decide | (have l0 := Int32.toInt_zero; omega)) (by first | omega | assumption | decide | (have l0 := Int32.toInt_zero; omega)) (by first | omega | assumption | decide | (have l0 := Int32.toInt_zero; omega)) (by first | omega | assumption | decide | (have l0 := Int32.toInt_zero; omega)) (by first | omega | assumption | decide | (have l0 := Int32.toInt_zero; omega))) (cwV 0 hts mg_X10_itemKnotmk3_X10_signAt_236 rfl rfl rfl (by decide +kernel) ⟨Nat.le_of_ble_eq_true rfl, Nat.le_of_ble_eq_true rfl⟩) ⟨fun a U g mk q => by obtain ⟨q0, qP, qK⟩ := q; exact ⟨q0, qP, va_K.moved (u := U) (U := U.calling g mk a) (Vm.Alike.refl U.vm) qK⟩, va_recv hK hP (ci := 10) (q0 := 0) rfl rfl, fun U hU hW => ⟨rfl, by rw [hU]; exact hP, va_K.moved hW.alike hK⟩⟩ rfl rfl hl.1 rfl (lv_room (Nat.le_of_ble_eq_true rfl)) dX10_itemKnot_64 ⟨Nat.le_of_ble_eq_true rfl, Nat.le_of_ble_eq_true rfl⟩) (fun r_47 hr_47 => ?_)
    have rg_r_47 := i_rng r_47
    rw [show y_46.toInt = ee by omega] at hr_47
    unfold isQu at hQ
    rw [← hr_47] at hQ
    refine lv_istore_n (lv' := [(3, .int r_47), (2, .int r_7), (1, .int r_1), (0, .ref (ad 0))]) hx hb dX10_itemKnot_67 rfl hl (by decide) rfl (fun ls hl => ?_)
    refine lv_iload_n hx hb dX10_itemKnot_68 rfl (lv_at hl 0 rfl) ?_
    refine lv_bipush (v := 42) hx hb dX10_itemKnot_69 (by decide) ?_
    refine lv_icmp_eq (tgt := 86) hx hb dX10_itemKnot_71 (by decide) (fun k_48 => ?_) (fun k_48 => ?_)
    · have tk_48 := c_eq (a := r_47.toInt) (b := 42) rfl (by decide) k_48
      refine lv_aload_n hx hb dX10_itemKnot_86 rfl (lv_at hl 3 rfl) ?_
      refine va_get (D := (dC, dI)) (ci := 10) (v := .ref (ad 9)) (C := RX10) (T := TX10) (N := 48) hx hb hts fin_X10_itemKnotmk3_X10 hown hK hP 0 rfl rfl 20 (by decide) (hts (.fieldLink RX10 43 "PatternGateModel" "sign" "[I") (List.mem_of_getElem? (i := 6) (by decide +kernel))) (fun _ h9 => h9) rfl dX10_itemKnot_87 ?_
      refine lv_iload_n hx hb dX10_itemKnot_90 rfl (lv_at hl 2 rfl) ?_
      refine lv_iload_n hx hb dX10_itemKnot_91 rfl (lv_at hl 0 rfl) ?_
      refine va_iast hx hb hK hP hD hS 9 8 rfl rfl (i := r_1) (vp_of (a := r_1.toInt) rfl (by omega) (by omega)) dX10_itemKnot_92 (fun H locs hP hD hS => ?_)
      generalize hf_f_49 : upd f_42 _ _ = f_49 at hP hD
      have hP : va_P (dC, dI) vwCl (mW ad kc x0 x1 x2 x3 x4 x5 x6 x7 x8 x9 x10 x11 x_34 y_46 x14 x_36 x16 x17 x18 x19 x20 x21 f0 f1 f2 f_37 f_44 f_45 f_40 f_41 f_49 f9 f10 f11 f12 f13 f14 f15 f16 f17 f18 f19 f20 f21 fL fN fP fM fO) H := hP
      have hD : va_D A (mW ad kc x0 x1 x2 x3 x4 x5 x6 x7 x8 x9 x10 x11 x_34 y_46 x14 x_36 x16 x17 x18 x19 x20 x21 f0 f1 f2 f_37 f_44 f_45 f_40 f_41 f_49 f9 f10 f11 f12 f13 f14 f15 f16 f17 f18 f19 f20 f21 fL fN fP fM fO) := hD
      refine lv_aload_n hx hb dX10_itemKnot_93 rfl (lv_at hl 3 rfl) ?_
      refine lv_dup hx hb dX10_itemKnot_94 rfl ?_
      refine va_get (D := (dC, dI)) (ci := 10) (v := .int y_46) (C := RX10) (T := TX10) (N := 48) hx hb hts fin_X10_itemKnotmk3_X10 hown hK hP 0 rfl rfl 22 (by decide) (hts (.fieldLink RX10 217 "PatternGateModel" "reached" "I") (List.mem_of_getElem? (i := 12) (by decide +kernel))) (fun _ h9 => h9) rfl dX10_itemKnot_95 ?_
      refine lv_iconst (v := 1) hx hb dX10_itemKnot_98 (by decide) ?_
      refine lv_iadd hx hb dX10_itemKnot_99 ?_
      refine lv_topi (fun y_50 ey_50 => ?_)
      first | have ty_50 := i_add (a := y_46.toInt) (b := 1) rfl (by decide) ey_50 (by omega) (by omega) | skip
      refine va_put (D := (dC, dI)) (ci := 10) (v := .int y_50) (ty := .int) (C := RX10) (T := TX10) (N := 48) hx hb hts fin_X10_itemKnotmk3_X10 tyX10 tyX10_ok nmX10 hown hK hP hD hS 0 rfl rfl 22 (by decide) (hts (.fieldLink RX10 217 "PatternGateModel" "reached" "I") (List.mem_of_getElem? (i := 12) (by decide +kernel))) (fun _ h9 => h9) rfl (by decide +kernel) rfl rfl (Nat.le_of_ble_eq_true rfl) dX10_itemKnot_100 (fun H locs hP hD hS => ?_)
      have hP : va_P (dC, dI) vwCl (mW ad kc x0 x1 x2 x3 x4 x5 x6 x7 x8 x9 x10 x11 x_34 y_50 x14 x_36 x16 x17 x18 x19 x20 x21 f0 f1 f2 f_37 f_44 f_45 f_40 f_41 f_49 f9 f10 f11 f12 f13 f14 f15 f16 f17 f18 f19 f20 f21 fL fN fP fM fO) H := hP
      have hD : va_D A (mW ad kc x0 x1 x2 x3 x4 x5 x6 x7 x8 x9 x10 x11 x_34 y_50 x14 x_36 x16 x17 x18 x19 x20 x21 f0 f1 f2 f_37 f_44 f_45 f_40 f_41 f_49 f9 f10 f11 f12 f13 f14 f15 f16 f17 f18 f19 f20 f21 fL fN fP fM fO) := hD
      refine lv_iload_n hx hb dX10_itemKnot_103 rfl (lv_at hl 2 rfl) ?_
      exact W.iret hx hb hr (fun t ht hW => ⟨⟨_, _, rfl, rfl, x_34, y_50, x_36, f_37, f_44, f_45, f_40, f_41, f_49, (by first | omega | assumption | rfl | decide), (by first | omega | assumption | rfl | decide), (by first | omega | assumption | rfl | decide), (by first | omega | assumption | rfl | decide), hE.1, hE.2.2, hE.2.1, by rw [ht]; exact hP, va_K.moved hW.alike hK, hD⟩, hS.F ht⟩) hS.2.2 dX10_itemKnot_104
    · have tk_48 := c_ne (a := r_47.toInt) (b := 42) rfl (by decide) k_48
      refine lv_iload_n hx hb dX10_itemKnot_74 rfl (lv_at hl 0 rfl) ?_
      refine lv_bipush (v := 43) hx hb dX10_itemKnot_75 (by decide) ?_
      refine lv_icmp_eq (tgt := 86) hx hb dX10_itemKnot_77 (by decide) (fun k_51 => ?_) (fun k_51 => ?_)
      · have tk_51 := c_eq (a := r_47.toInt) (b := 43) rfl (by decide) k_51
        refine lv_aload_n hx hb dX10_itemKnot_86 rfl (lv_at hl 3 rfl) ?_
        refine va_get (D := (dC, dI)) (ci := 10) (v := .ref (ad 9)) (C := RX10) (T := TX10) (N := 48) hx hb hts fin_X10_itemKnotmk3_X10 hown hK hP 0 rfl rfl 20 (by decide) (hts (.fieldLink RX10 43 "PatternGateModel" "sign" "[I") (List.mem_of_getElem? (i := 6) (by decide +kernel))) (fun _ h9 => h9) rfl dX10_itemKnot_87 ?_
        refine lv_iload_n hx hb dX10_itemKnot_90 rfl (lv_at hl 2 rfl) ?_
        refine lv_iload_n hx hb dX10_itemKnot_91 rfl (lv_at hl 0 rfl) ?_
        refine va_iast hx hb hK hP hD hS 9 8 rfl rfl (i := r_1) (vp_of (a := r_1.toInt) rfl (by omega) (by omega)) dX10_itemKnot_92 (fun H locs hP hD hS => ?_)
        generalize hf_f_52 : upd f_42 _ _ = f_52 at hP hD
        have hP : va_P (dC, dI) vwCl (mW ad kc x0 x1 x2 x3 x4 x5 x6 x7 x8 x9 x10 x11 x_34 y_46 x14 x_36 x16 x17 x18 x19 x20 x21 f0 f1 f2 f_37 f_44 f_45 f_40 f_41 f_52 f9 f10 f11 f12 f13 f14 f15 f16 f17 f18 f19 f20 f21 fL fN fP fM fO) H := hP
        have hD : va_D A (mW ad kc x0 x1 x2 x3 x4 x5 x6 x7 x8 x9 x10 x11 x_34 y_46 x14 x_36 x16 x17 x18 x19 x20 x21 f0 f1 f2 f_37 f_44 f_45 f_40 f_41 f_52 f9 f10 f11 f12 f13 f14 f15 f16 f17 f18 f19 f20 f21 fL fN fP fM fO) := hD
        refine lv_aload_n hx hb dX10_itemKnot_93 rfl (lv_at hl 3 rfl) ?_
        refine lv_dup hx hb dX10_itemKnot_94 rfl ?_
        refine va_get (D := (dC, dI)) (ci := 10) (v := .int y_46) (C := RX10) (T := TX10) (N := 48) hx hb hts fin_X10_itemKnotmk3_X10 hown hK hP 0 rfl rfl 22 (by decide) (hts (.fieldLink RX10 217 "PatternGateModel" "reached" "I") (List.mem_of_getElem? (i := 12) (by decide +kernel))) (fun _ h9 => h9) rfl dX10_itemKnot_95 ?_
        refine lv_iconst (v := 1) hx hb dX10_itemKnot_98 (by decide) ?_
        refine lv_iadd hx hb dX10_itemKnot_99 ?_
        refine lv_topi (fun y_53 ey_53 => ?_)
        first | have ty_53 := i_add (a := y_46.toInt) (b := 1) rfl (by decide) ey_53 (by omega) (by omega) | skip
        refine va_put (D := (dC, dI)) (ci := 10) (v := .int y_53) (ty := .int) (C := RX10) (T := TX10) (N := 48) hx hb hts fin_X10_itemKnotmk3_X10 tyX10 tyX10_ok nmX10 hown hK hP hD hS 0 rfl rfl 22 (by decide) (hts (.fieldLink RX10 217 "PatternGateModel" "reached" "I") (List.mem_of_getElem? (i := 12) (by decide +kernel))) (fun _ h9 => h9) rfl (by decide +kernel) rfl rfl (Nat.le_of_ble_eq_true rfl) dX10_itemKnot_100 (fun H locs hP hD hS => ?_)
        have hP : va_P (dC, dI) vwCl (mW ad kc x0 x1 x2 x3 x4 x5 x6 x7 x8 x9 x10 x11 x_34 y_53 x14 x_36 x16 x17 x18 x19 x20 x21 f0 f1 f2 f_37 f_44 f_45 f_40 f_41 f_52 f9 f10 f11 f12 f13 f14 f15 f16 f17 f18 f19 f20 f21 fL fN fP fM fO) H := hP
        have hD : va_D A (mW ad kc x0 x1 x2 x3 x4 x5 x6 x7 x8 x9 x10 x11 x_34 y_53 x14 x_36 x16 x17 x18 x19 x20 x21 f0 f1 f2 f_37 f_44 f_45 f_40 f_41 f_52 f9 f10 f11 f12 f13 f14 f15 f16 f17 f18 f19 f20 f21 fL fN fP fM fO) := hD
        refine lv_iload_n hx hb dX10_itemKnot_103 rfl (lv_at hl 2 rfl) ?_
        exact W.iret hx hb hr (fun t ht hW => ⟨⟨_, _, rfl, rfl, x_34, y_53, x_36, f_37, f_44, f_45, f_40, f_41, f_52, (by first | omega | assumption | rfl | decide), (by first | omega | assumption | rfl | decide), (by first | omega | assumption | rfl | decide), (by first | omega | assumption | rfl | decide), hE.1, hE.2.2, hE.2.1, by rw [ht]; exact hP, va_K.moved hW.alike hK, hD⟩, hS.F ht⟩) hS.2.2 dX10_itemKnot_104
      · have tk_51 := c_ne (a := r_47.toInt) (b := 43) rfl (by decide) k_51
        refine lv_iload_n hx hb dX10_itemKnot_80 rfl (lv_at hl 0 rfl) ?_
        refine lv_bipush (v := 63) hx hb dX10_itemKnot_81 (by decide) ?_
        refine lv_icmp_ne (tgt := 103) hx hb dX10_itemKnot_83 (by decide) (fun k_54 => ?_) (fun k_54 => ?_)
        · have tk_54 := c_ne (a := r_47.toInt) (b := 63) rfl (by decide) k_54
          refine lv_iload_n hx hb dX10_itemKnot_103 rfl (lv_at hl 2 rfl) ?_
          exact W.iret hx hb hr (fun t ht hW => ⟨⟨_, _, rfl, rfl, x_34, y_46, x_36, f_37, f_44, f_45, f_40, f_41, f_42, (by first | omega | assumption | rfl | decide), (by first | omega | assumption | rfl | decide), (by first | omega | assumption | rfl | decide), (by first | omega | assumption | rfl | decide), hE.1, hE.2.2, hE.2.1, by rw [ht]; exact hP, va_K.moved hW.alike hK, hD⟩, hS.F ht⟩) hS.2.2 dX10_itemKnot_104
        · have tk_54 := c_eq (a := r_47.toInt) (b := 63) rfl (by decide) k_54
          refine lv_aload_n hx hb dX10_itemKnot_86 rfl (lv_at hl 3 rfl) ?_
          refine va_get (D := (dC, dI)) (ci := 10) (v := .ref (ad 9)) (C := RX10) (T := TX10) (N := 48) hx hb hts fin_X10_itemKnotmk3_X10 hown hK hP 0 rfl rfl 20 (by decide) (hts (.fieldLink RX10 43 "PatternGateModel" "sign" "[I") (List.mem_of_getElem? (i := 6) (by decide +kernel))) (fun _ h9 => h9) rfl dX10_itemKnot_87 ?_
          refine lv_iload_n hx hb dX10_itemKnot_90 rfl (lv_at hl 2 rfl) ?_
          refine lv_iload_n hx hb dX10_itemKnot_91 rfl (lv_at hl 0 rfl) ?_
          refine va_iast hx hb hK hP hD hS 9 8 rfl rfl (i := r_1) (vp_of (a := r_1.toInt) rfl (by omega) (by omega)) dX10_itemKnot_92 (fun H locs hP hD hS => ?_)
          generalize hf_f_55 : upd f_42 _ _ = f_55 at hP hD
          have hP : va_P (dC, dI) vwCl (mW ad kc x0 x1 x2 x3 x4 x5 x6 x7 x8 x9 x10 x11 x_34 y_46 x14 x_36 x16 x17 x18 x19 x20 x21 f0 f1 f2 f_37 f_44 f_45 f_40 f_41 f_55 f9 f10 f11 f12 f13 f14 f15 f16 f17 f18 f19 f20 f21 fL fN fP fM fO) H := hP
          have hD : va_D A (mW ad kc x0 x1 x2 x3 x4 x5 x6 x7 x8 x9 x10 x11 x_34 y_46 x14 x_36 x16 x17 x18 x19 x20 x21 f0 f1 f2 f_37 f_44 f_45 f_40 f_41 f_55 f9 f10 f11 f12 f13 f14 f15 f16 f17 f18 f19 f20 f21 fL fN fP fM fO) := hD
          refine lv_aload_n hx hb dX10_itemKnot_93 rfl (lv_at hl 3 rfl) ?_
          refine lv_dup hx hb dX10_itemKnot_94 rfl ?_
          refine va_get (D := (dC, dI)) (ci := 10) (v := .int y_46) (C := RX10) (T := TX10) (N := 48) hx hb hts fin_X10_itemKnotmk3_X10 hown hK hP 0 rfl rfl 22 (by decide) (hts (.fieldLink RX10 217 "PatternGateModel" "reached" "I") (List.mem_of_getElem? (i := 12) (by decide +kernel))) (fun _ h9 => h9) rfl dX10_itemKnot_95 ?_
          refine lv_iconst (v := 1) hx hb dX10_itemKnot_98 (by decide) ?_
          refine lv_iadd hx hb dX10_itemKnot_99 ?_
          refine lv_topi (fun y_56 ey_56 => ?_)
          first | have ty_56 := i_add (a := y_46.toInt) (b := 1) rfl (by decide) ey_56 (by omega) (by omega) | skip
          refine va_put (D := (dC, dI)) (ci := 10) (v := .int y_56) (ty := .int) (C := RX10) (T := TX10) (N := 48) hx hb hts fin_X10_itemKnotmk3_X10 tyX10 tyX10_ok nmX10 hown hK hP hD hS 0 rfl rfl 22 (by decide) (hts (.fieldLink RX10 217 "PatternGateModel" "reached" "I") (List.mem_of_getElem? (i := 12) (by decide +kernel))) (fun _ h9 => h9) rfl (by decide +kernel) rfl rfl (Nat.le_of_ble_eq_true rfl) dX10_itemKnot_100 (fun H locs hP hD hS => ?_)
          have hP : va_P (dC, dI) vwCl (mW ad kc x0 x1 x2 x3 x4 x5 x6 x7 x8 x9 x10 x11 x_34 y_56 x14 x_36 x16 x17 x18 x19 x20 x21 f0 f1 f2 f_37 f_44 f_45 f_40 f_41 f_55 f9 f10 f11 f12 f13 f14 f15 f16 f17 f18 f19 f20 f21 fL fN fP fM fO) H := hP
          have hD : va_D A (mW ad kc x0 x1 x2 x3 x4 x5 x6 x7 x8 x9 x10 x11 x_34 y_56 x14 x_36 x16 x17 x18 x19 x20 x21 f0 f1 f2 f_37 f_44 f_45 f_40 f_41 f_55 f9 f10 f11 f12 f13 f14 f15 f16 f17 f18 f19 f20 f21 fL fN fP fM fO) := hD
          refine lv_iload_n hx hb dX10_itemKnot_103 rfl (lv_at hl 2 rfl) ?_
          exact W.iret hx hb hr (fun t ht hW => ⟨⟨_, _, rfl, rfl, x_34, y_56, x_36, f_37, f_44, f_45, f_40, f_41, f_55, (by first | omega | assumption | rfl | decide), (by first | omega | assumption | rfl | decide), (by first | omega | assumption | rfl | decide), (by first | omega | assumption | rfl | decide), hE.1, hE.2.2, hE.2.1, by rw [ht]; exact hP, va_K.moved hW.alike hK, hD⟩, hS.F ht⟩) hS.2.2 dX10_itemKnot_104
def mwX10_branchKnotmk3 : List Cond := .code yX10_branchKnot cX10_branchKnot 3 (some .int) :: ([.code yX10_knot cX10_knot 2 (some .int), .fieldLink RX10 28 "PatternGateModel" "kind" "[I", .fieldLink RX10 223 "PatternGateModel" "knots" "I", .fieldLink RX10 31 "PatternGateModel" "first" "[I", .fieldLink RX10 34 "PatternGateModel" "next" "[I", .fieldLink RX10 43 "PatternGateModel" "sign" "[I", .methodLink RX10 226 yX10_knot, .instanceMethod yX10_knot, .selects RX10 yX10_knot yX10_knot, .initialized RX10, .code yX10_signAt cX10_signAt 1 (some .int), .fieldLink RX10 217 "PatternGateModel" "reached" "I", .fieldLink RX10 8 "PatternGateModel" "all" "[I", .fieldLink RX10 220 "PatternGateModel" "pattern0" "I", .methodLink RX10 236 yX10_signAt, .instanceMethod yX10_signAt, .selects RX10 yX10_signAt yX10_signAt, .code yX10_itemKnot cX10_itemKnot 4 (some .int), .code yX10_spotKnot cX10_spotKnot 3 (some .int), .fieldLink RX10 40 "PatternGateModel" "spot" "[I", .fieldLink RX10 248 "PatternGateModel" "spotMany" "I", .fieldLink RX10 37 "PatternGateModel" "letters" "[I", .constant RX10 251 (67108863), .methodLink RX10 245 yX10_spotKnot, .instanceMethod yX10_spotKnot, .selects RX10 yX10_spotKnot yX10_spotKnot, .code yX10_joins cX10_joins 4 (some .int), .methodLink RX10 232 yX10_joins, .instanceMethod yX10_joins, .selects RX10 yX10_joins yX10_joins, .code yX10_patternKnot cX10_patternKnot 3 (some .int), .code yX10_branchKnot cX10_branchKnot 3 (some .int), .methodLink RX10 239 yX10_itemKnot, .instanceMethod yX10_itemKnot, .selects RX10 yX10_itemKnot yX10_itemKnot, .methodLink RX10 229 yX10_branchKnot, .instanceMethod yX10_branchKnot, .selects RX10 yX10_branchKnot yX10_branchKnot, .methodLink RX10 242 yX10_patternKnot, .instanceMethod yX10_patternKnot, .selects RX10 yX10_patternKnot yX10_patternKnot] ++ wsX100)
set_option maxRecDepth 20000 in
theorem mg_X10_branchKnotmk3_X10_knot_226 : GoodIn mwX10_branchKnotmk3 (wsV RX10 226 RX10 yX10_knot mwX10_knotm) := goodIn_r _ [7, 8, 9, 10, 1, 2, 3, 4, 5, 6, 42, 43, 44, 45, 46, 47, 48, 49, 50, 51, 52, 53, 54, 55, 56, 57, 58, 59, 60, 61, 62, 63, 64, 65, 66, 67, 68, 69, 70, 71, 72, 73, 74, 75, 76, 77, 78, 79, 80, 81, 82, 83, 84, 85, 86, 87, 88, 89] (by decide +kernel) (by decide +kernel)
set_option maxRecDepth 20000 in
theorem mg_X10_branchKnotmk3_X10_signAt_236 : GoodIn mwX10_branchKnotmk3 (wsV RX10 236 RX10 yX10_signAt mwX10_signAtm) := goodIn_r _ [15, 16, 17, 10, 11, 12, 13, 14, 42, 43, 44, 45, 46, 47, 48, 49, 50, 51, 52, 53, 54, 55, 56, 57, 58, 59, 60, 61, 62, 63, 64, 65, 66, 67, 68, 69, 70, 71, 72, 73, 74, 75, 76, 77, 78, 79, 80, 81, 82, 83, 84, 85, 86, 87, 88, 89] (by decide +kernel) (by decide +kernel)
set_option maxRecDepth 20000 in
theorem mg_X10_branchKnotmk3_X10_itemKnot_239 : GoodIn mwX10_branchKnotmk3 (wsV RX10 239 RX10 yX10_itemKnot mwX10_itemKnotmk3) := goodIn_r _ [33, 34, 35, 10, 18, 1, 2, 3, 4, 5, 6, 7, 8, 9, 10, 11, 12, 13, 14, 15, 16, 17, 19, 20, 21, 22, 23, 24, 25, 26, 27, 28, 29, 30, 31, 0, 18, 33, 34, 35, 36, 37, 38, 39, 40, 41, 42, 43, 44, 45, 46, 47, 48, 49, 50, 51, 52, 53, 54, 55, 56, 57, 58, 59, 60, 61, 62, 63, 64, 65, 66, 67, 68, 69, 70, 71, 72, 73, 74, 75, 76, 77, 78, 79, 80, 81, 82, 83, 84, 85, 86, 87, 88, 89] (by decide +kernel) (by decide +kernel)
set_option maxRecDepth 20000 in
theorem mg_X10_branchKnotmk3_X10_joins_232 : GoodIn mwX10_branchKnotmk3 (wsV RX10 232 RX10 yX10_joins mwX10_joinsm) := goodIn_r _ [28, 29, 30, 10, 27, 5, 4, 42, 43, 44, 45, 46, 47, 48, 49, 50, 51, 52, 53, 54, 55, 56, 57, 58, 59, 60, 61, 62, 63, 64, 65, 66, 67, 68, 69, 70, 71, 72, 73, 74, 75, 76, 77, 78, 79, 80, 81, 82, 83, 84, 85, 86, 87, 88, 89] (by decide +kernel) (by decide +kernel)
set_option maxHeartbeats 4000000 in
set_option maxRecDepth 100000 in
theorem m_branchKnot3 (l : Launch) (dC : Nat → ClassId) (dI : Nat → Nat → Nat) (ad : Nat → Nat) (kc : Nat → ClassId) (x0 x1 x2 x3 x4 x5 x6 x7 x8 x9 x10 x11 x12 x13 x14 x15 x16 x17 x18 x19 x20 x21 : Int32) (f0 f1 f2 f3 f4 f5 f6 f7 f8 f9 f10 f11 f12 f13 f14 f15 f16 f17 f18 f19 f20 f21 : Nat → Int32) (fL : Nat → Nat → Int64) (fN : Nat → Nat → Int32) (fP : Nat → Nat → Nat) (fM : Nat → Nat → Int32) (fO : Nat → Nat → Int32) (sz : Nat) (bb : Int) (mm : Int) (q0 : 0 ≤ x12.toInt) (q1 : 0 ≤ x13.toInt) (q2 : bb ≤ 900) (q3 : 0 ≤ x14.toInt) (q4 : x14.toInt < 8) (q5 : vI f0 (612 + x14.toInt) ≤ 900) (q6 : 0 ≤ x15.toInt) (q7 : x15.toInt + mm ≤ 24) (q8 : pBranch (tp f0 x14.toInt) (pSub (tp f0 x14.toInt) 3) x13.toInt bb mm) (q9 : isEn ((tp f0 x14.toInt) bb)) (q10 : x12.toInt + 12 * mm ≤ 1600) : Met l yX10_branchKnot mwX10_branchKnotmk3 ({ frames := 12, cells := 0, slots := 0, locals := 720 }) (va_Pc [.ref (ad 0)] (fun U => U.heap.size = sz ∧ va_P (dC, dI) vwCl (mW ad kc x0 x1 x2 x3 x4 x5 x6 x7 x8 x9 x10 x11 x12 x13 x14 x15 x16 x17 x18 x19 x20 x21 f0 f1 f2 f3 f4 f5 f6 f7 f8 f9 f10 f11 f12 f13 f14 f15 f16 f17 f18 f19 f20 f21 fL fN fP fM fO) U.heap ∧ va_K (dC, dI) vwCl (mT kc) U ∧ va_D (fun _ => True) (mW ad kc x0 x1 x2 x3 x4 x5 x6 x7 x8 x9 x10 x11 x12 x13 x14 x15 x16 x17 x18 x19 x20 x21 f0 f1 f2 f3 f4 f5 f6 f7 f8 f9 f10 f11 f12 f13 f14 f15 f16 f17 f18 f19 f20 f21 fL fN fP fM fO))) (va_Qi (fun (o9 u9 : Int32) => o9 = u9) (fun (o9 : Int32) t => ∃ (y12 y13 y15 : Int32) (g3 g4 g5 g6 g7 g8 : Nat → Int32), (o9.toInt = x12.toInt) ∧ (y13.toInt = bb) ∧ (y15.toInt = x15.toInt + mm) ∧ (x12.toInt + 2 ≤ y12.toInt ∧ y12.toInt ≤ x12.toInt + 12 * mm) ∧ (tBranch (mV g3 g4 g5 g7) (tSub (mV g3 g4 g5 g7) 3) x12.toInt y12.toInt mm) ∧ (∀ (q : Nat) (z : Int), 0 ≤ z → z < x12.toInt → (mV g3 g4 g5 g7) q z = (mV f3 f4 f5 f7) q z) ∧ ((mV g3 g4 g5 g7) 2 x12.toInt = -1) ∧ va_P (dC, dI) vwCl (mW ad kc x0 x1 x2 x3 x4 x5 x6 x7 x8 x9 x10 x11 y12 y13 x14 y15 x16 x17 x18 x19 x20 x21 f0 f1 f2 g3 g4 g5 g6 g7 g8 f9 f10 f11 f12 f13 f14 f15 f16 f17 f18 f19 f20 f21 fL fN fP fM fO) t.heap ∧ va_K (dC, dI) vwCl (mT kc) t ∧ va_D (va_A (mW ad kc x0 x1 x2 x3 x4 x5 x6 x7 x8 x9 x10 x11 x12 x13 x14 x15 x16 x17 x18 x19 x20 x21 f0 f1 f2 f3 f4 f5 f6 f7 f8 f9 f10 f11 f12 f13 f14 f15 f16 f17 f18 f19 f20 f21 fL fN fP fM fO) sz) (mW ad kc x0 x1 x2 x3 x4 x5 x6 x7 x8 x9 x10 x11 y12 y13 x14 y15 x16 x17 x18 x19 x20 x21 f0 f1 f2 g3 g4 g5 g6 g7 g8 f9 f10 f11 f12 f13 f14 f15 f16 f17 f18 f19 f20 f21 fL fN fP fM fO)) (va_A (mW ad kc x0 x1 x2 x3 x4 x5 x6 x7 x8 x9 x10 x11 x12 x13 x14 x15 x16 x17 x18 x19 x20 x21 f0 f1 f2 f3 f4 f5 f6 f7 f8 f9 f10 f11 f12 f13 f14 f15 f16 f17 f18 f19 f20 f21 fL fN fP fM fO) sz)) 0 0 (va_A (mW ad kc x0 x1 x2 x3 x4 x5 x6 x7 x8 x9 x10 x11 x12 x13 x14 x15 x16 x17 x18 x19 x20 x21 f0 f1 f2 f3 f4 f5 f6 f7 f8 f9 f10 f11 f12 f13 f14 f15 f16 f17 f18 f19 f20 f21 fL fN fP fM fO) sz) := by
  refine Met.ofW (cc := cX10_branchKnot) (maxL := 3) (ret := (some .int)) (by decide +kernel) rfl ?_
  intro p e s m args below meth c s₁ B hml hv
  obtain ⟨rfl, hsz, hP, hK, hD0⟩ := hv
  have hx := B.exec
  have hb := B.bytes
  have hr := B.returns
  have hts := atoms_spec (ws := mwX10_branchKnotmk3) B.pre
  have hown : s.vm.findClass RX10 = some m.cls := findClass_of_methodNamed B.named
  have hlocks := B.notSynchronized
  subst hsz
  have hD := hD0.self (sz := s.heap.size)
  generalize hAe : va_A (mW ad kc x0 x1 x2 x3 x4 x5 x6 x7 x8 x9 x10 x11 x12 x13 x14 x15 x16 x17 x18 x19 x20 x21 f0 f1 f2 f3 f4 f5 f6 f7 f8 f9 f10 f11 f12 f13 f14 f15 f16 f17 f18 f19 f20 f21 fL fN fP fM fO) s.heap.size = A at hD ⊢
  have hA : ∀ q : Nat, s.heap.size ≤ q → A q := fun q h => by rw [← hAe]; exact Or.inr h
  have hP : va_P (dC, dI) vwCl (mW ad kc x0 x1 x2 x3 x4 x5 x6 x7 x8 x9 x10 x11 x12 x13 x14 x15 x16 x17 x18 x19 x20 x21 f0 f1 f2 f3 f4 f5 f6 f7 f8 f9 f10 f11 f12 f13 f14 f15 f16 f17 f18 f19 f20 f21 fL fN fP fM fO) s.heap := hP
  have hD : va_D A (mW ad kc x0 x1 x2 x3 x4 x5 x6 x7 x8 x9 x10 x11 x12 x13 x14 x15 x16 x17 x18 x19 x20 x21 f0 f1 f2 f3 f4 f5 f6 f7 f8 f9 f10 f11 f12 f13 f14 f15 f16 f17 f18 f19 f20 f21 fL fN fP fM fO) := hD
  have hK : va_K (dC, dI) vwCl (mT kc) s := hK
  generalize hH : s.heap = H at hP ⊢
  have hS : va_S A s.heap H [] := by rw [← hH]; exact va_S.rf
  have hl := lv_entry ([.ref (ad 0)]) (n := 3) (Nat.le_of_ble_eq_true rfl)
  rw [lg_entry_eq]
  generalize (lg_sl ([.ref (ad 0)]) ++ List.replicate (3 - (lg_sl ([.ref (ad 0)])).length) Slot.unset).toArray = ls at hl ⊢
  have hl : lv_has ls 3 [(0, .ref (ad 0))] := hl
  have hps := pos_branch (pos_sub 3) q8
  have hmo := mono_branch (mono_sub 3) q8
  refine lv_aload_n hx hb dX10_branchKnot_0 rfl (lv_at hl 0 rfl) ?_
  refine lv_iconst (v := 2) hx hb dX10_branchKnot_1 (by decide) ?_
  have hFc := m_free hD hS hA
  refine va_calli (va_runV (As := [.int 2]) (rest := []) ⟨hx, hb, hml, hown, hts⟩ (m_knot l dC dI ad kc x0 x1 x2 x3 x4 x5 x6 x7 x8 x9 x10 x11 x12 x13 x14 x15 x16 x17 x18 x19 x20 x21 f0 f1 f2 f3 f4 f5 f6 f7 f8 f9 f10 f11 f12 f13 f14 f15 f16 f17 f18 f19 f20 f21 fL fN fP fM fO H.size 2 (by first | omega | assumption | decide | (have l0 := Int32.toInt_zero; omega)) (by first | omega | assumption | decide | (have l0 := Int32.toInt_zero; omega))) (cwV 1 hts mg_X10_branchKnotmk3_X10_knot_226 rfl rfl rfl (by decide +kernel) ⟨Nat.le_of_ble_eq_true rfl, Nat.le_of_ble_eq_true rfl⟩) ⟨fun a U g mk q => by obtain ⟨q0, q1, qP, qK, qD⟩ := q; exact ⟨q0, q1, qP, va_K.moved (u := U) (U := U.calling g mk a) (Vm.Alike.refl U.vm) qK, qD⟩, va_recv hK hP (ci := 10) (q0 := 0) rfl rfl, fun U hU hW => ⟨rfl, by rw [hU], by rw [hU]; exact hP, va_K.moved hW.alike hK, hD.weaken (fun _ _ _ _ => trivial)⟩⟩ rfl rfl hl.1 rfl (lv_room (Nat.le_of_ble_eq_true rfl)) dX10_branchKnot_2 ⟨Nat.le_of_ble_eq_true rfl, Nat.le_of_ble_eq_true rfl⟩) hS (fun q _ h => hFc q h) hFc (fun r_1 u t H1 locs ht hvm hw hB hz1 hk1 hS => ?_)
  subst hw
  obtain ⟨x_2, f_3, f_4, f_5, f_6, hr_1_0, hr_1_1, hr_1_2, hr_1_3, hP, hK1, hD1⟩ := hB
  rw [ht] at hP
  have hD := hD1.weaken (fun k q _ h => hFc q.1 h)
  generalize H1 = H at hP hS ⊢
  have rg_x_2 := i_rng x_2
  have rg_r_1 := i_rng r_1
  have hP : va_P (dC, dI) vwCl (mW ad kc x0 x1 x2 x3 x4 x5 x6 x7 x8 x9 x10 x11 x_2 x13 x14 x15 x16 x17 x18 x19 x20 x21 f0 f1 f2 f_3 f_4 f_5 f6 f7 f_6 f9 f10 f11 f12 f13 f14 f15 f16 f17 f18 f19 f20 f21 fL fN fP fM fO) H := hP
  have hD : va_D A (mW ad kc x0 x1 x2 x3 x4 x5 x6 x7 x8 x9 x10 x11 x_2 x13 x14 x15 x16 x17 x18 x19 x20 x21 f0 f1 f2 f_3 f_4 f_5 f6 f7 f_6 f9 f10 f11 f12 f13 f14 f15 f16 f17 f18 f19 f20 f21 fL fN fP fM fO) := hD
  refine lv_istore_n (lv' := [(1, .int r_1), (0, .ref (ad 0))]) hx hb dX10_branchKnot_5 rfl hl (by decide) rfl (fun ls hl => ?_)
  refine lv_iconst (v := (-1)) hx hb dX10_branchKnot_6 (by decide) ?_
  refine lv_istore_n (lv' := [(2, .int (-1)), (1, .int r_1), (0, .ref (ad 0))]) hx hb dX10_branchKnot_7 rfl hl (by decide) rfl (fun ls hl => ?_)
  have loop8 : ∀ (lm8 : Nat) (la kn ra sm : Int32) (ga gb gc gd ge gf : Nat → Int32), (x12.toInt + 1 ≤ kn.toInt) → (kn.toInt ≤ x12.toInt + 1 + 11 * (sm.toInt - x15.toInt)) → (x13.toInt ≤ ra.toInt ∧ ra.toInt ≤ bb) → (x15.toInt ≤ sm.toInt ∧ sm.toInt ≤ x15.toInt + mm) → (-1 ≤ la.toInt ∧ la.toInt < kn.toInt) → (ckI (tp f0 x14.toInt) (pSub (tp f0 x14.toInt) 3) ra.toInt bb (mm - (sm.toInt - x15.toInt))) → (bkI (mV f3 f4 f5 f7) (mV ga gb gc ge) (fun V => tItem V (tSub V 3)) 2 x12.toInt la.toInt kn.toInt (sm.toInt - x15.toInt)) → ((bb - ra.toInt).toNat) < lm8 → ∀ (H : Heap) (locs : List Loc) (ls : Array Slot), va_P (dC, dI) vwCl (mW ad kc x0 x1 x2 x3 x4 x5 x6 x7 x8 x9 x10 x11 kn ra x14 sm x16 x17 x18 x19 x20 x21 f0 f1 f2 ga gb gc gd ge gf f9 f10 f11 f12 f13 f14 f15 f16 f17 f18 f19 f20 f21 fL fN fP fM fO) H → va_D A (mW ad kc x0 x1 x2 x3 x4 x5 x6 x7 x8 x9 x10 x11 kn ra x14 sm x16 x17 x18 x19 x20 x21 f0 f1 f2 ga gb gc gd ge gf f9 f10 f11 f12 f13 f14 f15 f16 f17 f18 f19 f20 f21 fL fN fP fM fO) → va_S A s.heap H locs → lv_has ls 3 [(2, .int la), (1, .int r_1), (0, .ref (ad 0))] → W p l e (headSpec mwX10_branchKnotmk3 ({ frames := 12, cells := 0, slots := 0, locals := 720 })).room s m ([.ref (ad 0)]).toArray below meth c H locs 0 0 (MQ below (va_Qi (fun (o9 u9 : Int32) => o9 = u9) (fun (o9 : Int32) t => ∃ (y12 y13 y15 : Int32) (g3 g4 g5 g6 g7 g8 : Nat → Int32), (o9.toInt = x12.toInt) ∧ (y13.toInt = bb) ∧ (y15.toInt = x15.toInt + mm) ∧ (x12.toInt + 2 ≤ y12.toInt ∧ y12.toInt ≤ x12.toInt + 12 * mm) ∧ (tBranch (mV g3 g4 g5 g7) (tSub (mV g3 g4 g5 g7) 3) x12.toInt y12.toInt mm) ∧ (∀ (q : Nat) (z : Int), 0 ≤ z → z < x12.toInt → (mV g3 g4 g5 g7) q z = (mV f3 f4 f5 f7) q z) ∧ ((mV g3 g4 g5 g7) 2 x12.toInt = -1) ∧ va_P (dC, dI) vwCl (mW ad kc x0 x1 x2 x3 x4 x5 x6 x7 x8 x9 x10 x11 y12 y13 x14 y15 x16 x17 x18 x19 x20 x21 f0 f1 f2 g3 g4 g5 g6 g7 g8 f9 f10 f11 f12 f13 f14 f15 f16 f17 f18 f19 f20 f21 fL fN fP fM fO) t.heap ∧ va_K (dC, dI) vwCl (mT kc) t ∧ va_D A (mW ad kc x0 x1 x2 x3 x4 x5 x6 x7 x8 x9 x10 x11 y12 y13 x14 y15 x16 x17 x18 x19 x20 x21 f0 f1 f2 g3 g4 g5 g6 g7 g8 f9 f10 f11 f12 f13 f14 f15 f16 f17 f18 f19 f20 f21 fL fN fP fM fO)) A) ([.ref (ad 0)]).toArray s 0 0 A) (F0 m 8 ls []) := by
    intro lm8
    induction lm8 with
    | zero => intro la kn ra sm ga gb gc gd ge gf v8_0 v8_1 v8_2 v8_3 v8_4 v8_5 v8_6 hm8; exact absurd hm8 (Nat.not_lt_zero _)
    | succ lm8 ih8 =>
      intro la kn ra sm ga gb gc gd ge gf v8_0 v8_1 v8_2 v8_3 v8_4 v8_5 v8_6 hm8 H locs ls hP hD hS hl
      have rg_la := i_rng la
      have rg_kn := i_rng kn
      have rg_ra := i_rng ra
      have rg_sm := i_rng sm
      refine lv_aload_n hx hb dX10_branchKnot_8 rfl (lv_at hl 2 rfl) ?_
      refine vp_callSi (W.runV (As := []) (rest := []) ⟨hx, hb, hml, hown, hts⟩ (m_signAt l dC dI ad kc x0 x1 x2 x3 x4 x5 x6 x7 x8 x9 x10 x11 kn ra x14 sm x16 x17 x18 x19 x20 x21 f0 f1 f2 ga gb gc gd ge gf f9 f10 f11 f12 f13 f14 f15 f16 f17 f18 f19 f20 f21 fL fN fP fM fO (by first | omega | assumption | decide | (have l0 := Int32.toInt_zero; omega)) (by first | omega | assumption | decide | (have l0 := Int32.toInt_zero; omega)) (by first | omega | assumption | decide | (have l0 := Int32.toInt_zero; omega)) (by first | omega | assumption | decide | (have l0 := Int32.toInt_zero; omega)) (by first | omega | assumption | decide | (have l0 := Int32.toInt_zero; omega))) (cwV 0 hts mg_X10_branchKnotmk3_X10_signAt_236 rfl rfl rfl (by decide +kernel) ⟨Nat.le_of_ble_eq_true rfl, Nat.le_of_ble_eq_true rfl⟩) ⟨fun a U g mk q => by obtain ⟨q0, qP, qK⟩ := q; exact ⟨q0, qP, va_K.moved (u := U) (U := U.calling g mk a) (Vm.Alike.refl U.vm) qK⟩, va_recv hK hP (ci := 10) (q0 := 0) rfl rfl, fun U hU hW => ⟨rfl, by rw [hU]; exact hP, va_K.moved hW.alike hK⟩⟩ rfl rfl hl.1 rfl (lv_room (Nat.le_of_ble_eq_true rfl)) dX10_branchKnot_9 ⟨Nat.le_of_ble_eq_true rfl, Nat.le_of_ble_eq_true rfl⟩) (fun r_7 hr_7 => ?_)
      have rg_r_7 := i_rng r_7
      refine lv_iconst (v := (-1)) hx hb dX10_branchKnot_12 (by decide) ?_
      refine lv_icmp_eq (tgt := 48) hx hb dX10_branchKnot_13 (by decide) (fun k_8 => ?_) (fun k_8 => ?_)
      · have tk_8 := c_eq (a := r_7.toInt) (b := (-1)) rfl (by decide) k_8
        have hX := ck_exit v8_5 (en_of hr_7.symm (by omega))
        have hZ := bk_end v8_6 (by omega)
        rw [show sm.toInt - x15.toInt = mm by omega] at hZ
        refine lv_iload_n hx hb dX10_branchKnot_48 rfl (lv_at hl 1 rfl) ?_
        exact W.iret hx hb hr (fun t ht hW => ⟨⟨_, _, rfl, rfl, kn, ra, sm, ga, gb, gc, gd, ge, gf, (by first | omega | assumption | rfl | decide), (by first | omega | assumption | rfl | decide), (by first | omega | assumption | rfl | decide), ⟨by have h7 := tm_branch (tm_sub 3) (V := (mV ga gb gc ge)) hZ.1; obtain ⟨-, -, n7, la7, h8⟩ := hZ.1; have h9 := tm_sib (hm_item 3 _) n7 h8; omega, by omega⟩, hZ.1, hZ.2.2, hZ.2.1, by rw [ht]; exact hP, va_K.moved hW.alike hK, hD⟩, hS.F ht⟩) hS.2.2 dX10_branchKnot_49
      · have tk_8 := c_ne (a := r_7.toInt) (b := (-1)) rfl (by decide) k_8
        refine lv_aload_n hx hb dX10_branchKnot_16 rfl (lv_at hl 2 rfl) ?_
        refine vp_callSi (W.runV (As := []) (rest := []) ⟨hx, hb, hml, hown, hts⟩ (m_signAt l dC dI ad kc x0 x1 x2 x3 x4 x5 x6 x7 x8 x9 x10 x11 kn ra x14 sm x16 x17 x18 x19 x20 x21 f0 f1 f2 ga gb gc gd ge gf f9 f10 f11 f12 f13 f14 f15 f16 f17 f18 f19 f20 f21 fL fN fP fM fO (by first | omega | assumption | decide | (have l0 := Int32.toInt_zero; omega)) (by first | omega | assumption | decide | (have l0 := Int32.toInt_zero; omega)) (by first | omega | assumption | decide | (have l0 := Int32.toInt_zero; omega)) (by first | omega | assumption | decide | (have l0 := Int32.toInt_zero; omega)) (by first | omega | assumption | decide | (have l0 := Int32.toInt_zero; omega))) (cwV 0 hts mg_X10_branchKnotmk3_X10_signAt_236 rfl rfl rfl (by decide +kernel) ⟨Nat.le_of_ble_eq_true rfl, Nat.le_of_ble_eq_true rfl⟩) ⟨fun a U g mk q => by obtain ⟨q0, qP, qK⟩ := q; exact ⟨q0, qP, va_K.moved (u := U) (U := U.calling g mk a) (Vm.Alike.refl U.vm) qK⟩, va_recv hK hP (ci := 10) (q0 := 0) rfl rfl, fun U hU hW => ⟨rfl, by rw [hU]; exact hP, va_K.moved hW.alike hK⟩⟩ rfl rfl hl.1 rfl (lv_room (Nat.le_of_ble_eq_true rfl)) dX10_branchKnot_17 ⟨Nat.le_of_ble_eq_true rfl, Nat.le_of_ble_eq_true rfl⟩) (fun r_9 hr_9 => ?_)
        have rg_r_9 := i_rng r_9
        refine lv_bipush (v := 124) hx hb dX10_branchKnot_20 (by decide) ?_
        refine lv_icmp_eq (tgt := 48) hx hb dX10_branchKnot_22 (by decide) (fun k_10 => ?_) (fun k_10 => ?_)
        · have tk_10 := c_eq (a := r_9.toInt) (b := 124) rfl (by decide) k_10
          have hX := ck_exit v8_5 (en_of hr_9.symm (by omega))
          have hZ := bk_end v8_6 (by omega)
          rw [show sm.toInt - x15.toInt = mm by omega] at hZ
          refine lv_iload_n hx hb dX10_branchKnot_48 rfl (lv_at hl 1 rfl) ?_
          exact W.iret hx hb hr (fun t ht hW => ⟨⟨_, _, rfl, rfl, kn, ra, sm, ga, gb, gc, gd, ge, gf, (by first | omega | assumption | rfl | decide), (by first | omega | assumption | rfl | decide), (by first | omega | assumption | rfl | decide), ⟨by have h7 := tm_branch (tm_sub 3) (V := (mV ga gb gc ge)) hZ.1; obtain ⟨-, -, n7, la7, h8⟩ := hZ.1; have h9 := tm_sib (hm_item 3 _) n7 h8; omega, by omega⟩, hZ.1, hZ.2.2, hZ.2.1, by rw [ht]; exact hP, va_K.moved hW.alike hK, hD⟩, hS.F ht⟩) hS.2.2 dX10_branchKnot_49
        · have tk_10 := c_ne (a := r_9.toInt) (b := 124) rfl (by decide) k_10
          refine lv_aload_n hx hb dX10_branchKnot_25 rfl (lv_at hl 2 rfl) ?_
          refine vp_callSi (W.runV (As := []) (rest := []) ⟨hx, hb, hml, hown, hts⟩ (m_signAt l dC dI ad kc x0 x1 x2 x3 x4 x5 x6 x7 x8 x9 x10 x11 kn ra x14 sm x16 x17 x18 x19 x20 x21 f0 f1 f2 ga gb gc gd ge gf f9 f10 f11 f12 f13 f14 f15 f16 f17 f18 f19 f20 f21 fL fN fP fM fO (by first | omega | assumption | decide | (have l0 := Int32.toInt_zero; omega)) (by first | omega | assumption | decide | (have l0 := Int32.toInt_zero; omega)) (by first | omega | assumption | decide | (have l0 := Int32.toInt_zero; omega)) (by first | omega | assumption | decide | (have l0 := Int32.toInt_zero; omega)) (by first | omega | assumption | decide | (have l0 := Int32.toInt_zero; omega))) (cwV 0 hts mg_X10_branchKnotmk3_X10_signAt_236 rfl rfl rfl (by decide +kernel) ⟨Nat.le_of_ble_eq_true rfl, Nat.le_of_ble_eq_true rfl⟩) ⟨fun a U g mk q => by obtain ⟨q0, qP, qK⟩ := q; exact ⟨q0, qP, va_K.moved (u := U) (U := U.calling g mk a) (Vm.Alike.refl U.vm) qK⟩, va_recv hK hP (ci := 10) (q0 := 0) rfl rfl, fun U hU hW => ⟨rfl, by rw [hU]; exact hP, va_K.moved hW.alike hK⟩⟩ rfl rfl hl.1 rfl (lv_room (Nat.le_of_ble_eq_true rfl)) dX10_branchKnot_26 ⟨Nat.le_of_ble_eq_true rfl, Nat.le_of_ble_eq_true rfl⟩) (fun r_11 hr_11 => ?_)
          have rg_r_11 := i_rng r_11
          refine lv_bipush (v := 41) hx hb dX10_branchKnot_29 (by decide) ?_
          refine lv_icmp_eq (tgt := 48) hx hb dX10_branchKnot_31 (by decide) (fun k_12 => ?_) (fun k_12 => ?_)
          · have tk_12 := c_eq (a := r_11.toInt) (b := 41) rfl (by decide) k_12
            have hX := ck_exit v8_5 (en_of hr_11.symm (by omega))
            have hZ := bk_end v8_6 (by omega)
            rw [show sm.toInt - x15.toInt = mm by omega] at hZ
            refine lv_iload_n hx hb dX10_branchKnot_48 rfl (lv_at hl 1 rfl) ?_
            exact W.iret hx hb hr (fun t ht hW => ⟨⟨_, _, rfl, rfl, kn, ra, sm, ga, gb, gc, gd, ge, gf, (by first | omega | assumption | rfl | decide), (by first | omega | assumption | rfl | decide), (by first | omega | assumption | rfl | decide), ⟨by have h7 := tm_branch (tm_sub 3) (V := (mV ga gb gc ge)) hZ.1; obtain ⟨-, -, n7, la7, h8⟩ := hZ.1; have h9 := tm_sib (hm_item 3 _) n7 h8; omega, by omega⟩, hZ.1, hZ.2.2, hZ.2.1, by rw [ht]; exact hP, va_K.moved hW.alike hK, hD⟩, hS.F ht⟩) hS.2.2 dX10_branchKnot_49
          · have tk_12 := c_ne (a := r_11.toInt) (b := 41) rfl (by decide) k_12
            obtain ⟨b9, m9, hI9, hC9, hb1, hb2, hb3, hb4⟩ := ck_cont v8_5 q9 (by unfold isEn; rw [← hr_11]; have z9 := hr_9; have z8 := hr_7; omega)
            refine lv_aload_n hx hb dX10_branchKnot_34 rfl (lv_at hl 2 rfl) ?_
            refine lv_iload_n hx hb dX10_branchKnot_35 rfl (lv_at hl 1 rfl) ?_
            refine lv_iload_n hx hb dX10_branchKnot_36 rfl (lv_at hl 0 rfl) ?_
            refine lv_aload_n hx hb dX10_branchKnot_37 rfl (lv_at hl 2 rfl) ?_
            have hFc := m_free hD hS hA
            refine va_calli (va_runV (As := []) (rest := [.int la, .int r_1, .ref (ad 0)]) ⟨hx, hb, hml, hown, hts⟩ (m_itemKnot3 l dC dI ad kc x0 x1 x2 x3 x4 x5 x6 x7 x8 x9 x10 x11 kn ra x14 sm x16 x17 x18 x19 x20 x21 f0 f1 f2 ga gb gc gd ge gf f9 f10 f11 f12 f13 f14 f15 f16 f17 f18 f19 f20 f21 fL fN fP fM fO H.size b9 m9 (by first | omega | assumption | decide | (have l0 := Int32.toInt_zero; omega)) (by first | omega | assumption | decide | (have l0 := Int32.toInt_zero; omega)) (by first | omega | assumption | decide | (have l0 := Int32.toInt_zero; omega)) (by first | omega | assumption | decide | (have l0 := Int32.toInt_zero; omega)) (by first | omega | assumption | decide | (have l0 := Int32.toInt_zero; omega)) (by first | omega | assumption | decide | (have l0 := Int32.toInt_zero; omega)) (by first | omega | assumption | decide | (have l0 := Int32.toInt_zero; omega)) (by first | omega | assumption | decide | (have l0 := Int32.toInt_zero; omega)) (by first | omega | assumption | decide | (have l0 := Int32.toInt_zero; omega)) (by first | omega | assumption | decide | (have l0 := Int32.toInt_zero; omega))) (cwV 0 hts mg_X10_branchKnotmk3_X10_itemKnot_239 rfl rfl rfl (by decide +kernel) ⟨Nat.le_of_ble_eq_true rfl, Nat.le_of_ble_eq_true rfl⟩) ⟨fun a U g mk q => by obtain ⟨q0, q1, qP, qK, qD⟩ := q; exact ⟨q0, q1, qP, va_K.moved (u := U) (U := U.calling g mk a) (Vm.Alike.refl U.vm) qK, qD⟩, va_recv hK hP (ci := 10) (q0 := 0) rfl rfl, fun U hU hW => ⟨rfl, by rw [hU], by rw [hU]; exact hP, va_K.moved hW.alike hK, hD.weaken (fun _ _ _ _ => trivial)⟩⟩ rfl rfl hl.1 rfl (lv_room (Nat.le_of_ble_eq_true rfl)) dX10_branchKnot_38 ⟨Nat.le_of_ble_eq_true rfl, Nat.le_of_ble_eq_true rfl⟩) hS (fun q _ h => hFc q h) hFc (fun r_13 u t H1 locs ht hvm hw hB hz1 hk1 hS => ?_)
            subst hw
            obtain ⟨x_14, x_15, x_16, f_17, f_18, f_19, f_20, f_21, f_22, hr_13_0, hr_13_1, hr_13_2, hr_13_3, hr_13_4, hr_13_5, hr_13_6, hP, hK1, hD1⟩ := hB
            rw [ht] at hP
            have hD := hD1.weaken (fun k q _ h => hFc q.1 h)
            generalize H1 = H at hP hS ⊢
            have rg_x_14 := i_rng x_14
            have rg_x_15 := i_rng x_15
            have rg_x_16 := i_rng x_16
            have rg_r_13 := i_rng r_13
            have hP : va_P (dC, dI) vwCl (mW ad kc x0 x1 x2 x3 x4 x5 x6 x7 x8 x9 x10 x11 x_14 x_15 x14 x_16 x16 x17 x18 x19 x20 x21 f0 f1 f2 f_17 f_18 f_19 f_20 f_21 f_22 f9 f10 f11 f12 f13 f14 f15 f16 f17 f18 f19 f20 f21 fL fN fP fM fO) H := hP
            have hD : va_D A (mW ad kc x0 x1 x2 x3 x4 x5 x6 x7 x8 x9 x10 x11 x_14 x_15 x14 x_16 x16 x17 x18 x19 x20 x21 f0 f1 f2 f_17 f_18 f_19 f_20 f_21 f_22 f9 f10 f11 f12 f13 f14 f15 f16 f17 f18 f19 f20 f21 fL fN fP fM fO) := hD
            have hFc := m_free hD hS hA
            refine va_calli (va_runV (As := [.int r_1, .int la, .int r_13]) (rest := []) ⟨hx, hb, hml, hown, hts⟩ (m_joins l dC dI ad kc x0 x1 x2 x3 x4 x5 x6 x7 x8 x9 x10 x11 x_14 x_15 x14 x_16 x16 x17 x18 x19 x20 x21 f0 f1 f2 f_17 f_18 f_19 f_20 f_21 f_22 f9 f10 f11 f12 f13 f14 f15 f16 f17 f18 f19 f20 f21 fL fN fP fM fO H.size r_1 la r_13 (by first | omega | assumption | decide | (have l0 := Int32.toInt_zero; omega)) (by first | omega | assumption | decide | (have l0 := Int32.toInt_zero; omega)) (by first | omega | assumption | decide | (have l0 := Int32.toInt_zero; omega)) (by first | omega | assumption | decide | (have l0 := Int32.toInt_zero; omega))) (cwV 3 hts mg_X10_branchKnotmk3_X10_joins_232 rfl rfl rfl (by decide +kernel) ⟨Nat.le_of_ble_eq_true rfl, Nat.le_of_ble_eq_true rfl⟩) ⟨fun a U g mk q => by obtain ⟨q0, q1, qP, qK, qD⟩ := q; exact ⟨q0, q1, qP, va_K.moved (u := U) (U := U.calling g mk a) (Vm.Alike.refl U.vm) qK, qD⟩, va_recv hK hP (ci := 10) (q0 := 0) rfl rfl, fun U hU hW => ⟨rfl, by rw [hU], by rw [hU]; exact hP, va_K.moved hW.alike hK, hD.weaken (fun _ _ _ _ => trivial)⟩⟩ rfl rfl hl.1 rfl (lv_room (Nat.le_of_ble_eq_true rfl)) dX10_branchKnot_41 ⟨Nat.le_of_ble_eq_true rfl, Nat.le_of_ble_eq_true rfl⟩) hS (fun q _ h => hFc q h) hFc (fun r_23 u t H1 locs ht hvm hw hB hz1 hk1 hS => ?_)
            subst hw
            obtain ⟨f_24, f_25, hr_23_0, hr_23_1, hP, hK1, hD1⟩ := hB
            rw [ht] at hP
            have hD := hD1.weaken (fun k q _ h => hFc q.1 h)
            generalize H1 = H at hP hS ⊢
            have rg_r_23 := i_rng r_23
            have hP : va_P (dC, dI) vwCl (mW ad kc x0 x1 x2 x3 x4 x5 x6 x7 x8 x9 x10 x11 x_14 x_15 x14 x_16 x16 x17 x18 x19 x20 x21 f0 f1 f2 f_17 f_24 f_25 f_20 f_21 f_22 f9 f10 f11 f12 f13 f14 f15 f16 f17 f18 f19 f20 f21 fL fN fP fM fO) H := hP
            have hD : va_D A (mW ad kc x0 x1 x2 x3 x4 x5 x6 x7 x8 x9 x10 x11 x_14 x_15 x14 x_16 x16 x17 x18 x19 x20 x21 f0 f1 f2 f_17 f_24 f_25 f_20 f_21 f_22 f9 f10 f11 f12 f13 f14 f15 f16 f17 f18 f19 f20 f21 fL fN fP fM fO) := hD
            rw [show r_1.toInt = x12.toInt by omega, show r_13.toInt = kn.toInt by omega] at hr_23_1
            have hB := bk_step (V2 := (mV f_17 f_24 f_25 f_21)) (hm_item 3) (hR_item 3) (by omega) v8_6 hr_13_4 hr_13_6 hr_13_5 hr_23_1 (by omega)
            refine lv_istore_n (lv' := [(2, .int r_23), (1, .int r_1), (0, .ref (ad 0))]) hx hb dX10_branchKnot_44 rfl hl (by decide) rfl (fun ls hl => ?_)
            refine lv_goto (tgt := 8) hx hb dX10_branchKnot_45 (by decide) ?_
            exact ih8 r_23 x_14 x_15 x_16 f_17 f_24 f_25 f_20 f_21 f_22 (by first | omega | assumption | decide) (by first | omega | assumption | decide) (by first | omega | assumption | decide) (by first | omega | assumption | decide) (by first | omega | assumption | decide) (by rw [show x_15.toInt = b9 by omega, show mm - (x_16.toInt - x15.toInt) = mm - (sm.toInt - x15.toInt) - m9 by omega]; exact hC9) (by rw [show x_16.toInt - x15.toInt = sm.toInt - x15.toInt + m9 by omega, show r_23.toInt = kn.toInt by omega]; exact hB) (by omega) _ _ ls hP hD hS (lv_sub hl [0, 1, 2] rfl)
  have lit_25 : ((-1) : Int32).toInt = (-1) := by decide
  exact loop8 _ (-1) x_2 x13 x15 f_3 f_4 f_5 f6 f7 f_6 (by first | omega | assumption | decide) (by first | omega | assumption | decide) (by first | omega | assumption | decide) (by first | omega | assumption | decide) (by first | omega | assumption | decide) (by rw [show mm - (x15.toInt - x15.toInt) = mm by omega]; exact ck_init q8) (bk_init (hr_1_2.1.trans (by decide)) hr_1_2.2.2 hr_1_3 (by decide) (by omega) (by omega)) (Nat.lt_succ_self _) _ _ ls hP hD hS (lv_sub hl [0, 1, 2] rfl)
def mwX10_patternKnotmk3 : List Cond := .code yX10_patternKnot cX10_patternKnot 3 (some .int) :: ([.code yX10_knot cX10_knot 2 (some .int), .fieldLink RX10 28 "PatternGateModel" "kind" "[I", .fieldLink RX10 223 "PatternGateModel" "knots" "I", .fieldLink RX10 31 "PatternGateModel" "first" "[I", .fieldLink RX10 34 "PatternGateModel" "next" "[I", .fieldLink RX10 43 "PatternGateModel" "sign" "[I", .methodLink RX10 226 yX10_knot, .instanceMethod yX10_knot, .selects RX10 yX10_knot yX10_knot, .initialized RX10, .code yX10_branchKnot cX10_branchKnot 3 (some .int), .code yX10_signAt cX10_signAt 1 (some .int), .fieldLink RX10 217 "PatternGateModel" "reached" "I", .fieldLink RX10 8 "PatternGateModel" "all" "[I", .fieldLink RX10 220 "PatternGateModel" "pattern0" "I", .methodLink RX10 236 yX10_signAt, .instanceMethod yX10_signAt, .selects RX10 yX10_signAt yX10_signAt, .code yX10_itemKnot cX10_itemKnot 4 (some .int), .code yX10_spotKnot cX10_spotKnot 3 (some .int), .fieldLink RX10 40 "PatternGateModel" "spot" "[I", .fieldLink RX10 248 "PatternGateModel" "spotMany" "I", .fieldLink RX10 37 "PatternGateModel" "letters" "[I", .constant RX10 251 (67108863), .methodLink RX10 245 yX10_spotKnot, .instanceMethod yX10_spotKnot, .selects RX10 yX10_spotKnot yX10_spotKnot, .code yX10_joins cX10_joins 4 (some .int), .methodLink RX10 232 yX10_joins, .instanceMethod yX10_joins, .selects RX10 yX10_joins yX10_joins, .code yX10_patternKnot cX10_patternKnot 3 (some .int), .methodLink RX10 239 yX10_itemKnot, .instanceMethod yX10_itemKnot, .selects RX10 yX10_itemKnot yX10_itemKnot, .methodLink RX10 229 yX10_branchKnot, .instanceMethod yX10_branchKnot, .selects RX10 yX10_branchKnot yX10_branchKnot, .methodLink RX10 242 yX10_patternKnot, .instanceMethod yX10_patternKnot, .selects RX10 yX10_patternKnot yX10_patternKnot] ++ wsX100)
theorem fin_X10_patternKnotmk3_X10 : ∀ w ∈ wsX100, w ∈ mwX10_patternKnotmk3 := fun w h => List.mem_cons_of_mem _ (List.mem_append_right _ h)
set_option maxRecDepth 20000 in
theorem mg_X10_patternKnotmk3_X10_knot_226 : GoodIn mwX10_patternKnotmk3 (wsV RX10 226 RX10 yX10_knot mwX10_knotm) := goodIn_r _ [7, 8, 9, 10, 1, 2, 3, 4, 5, 6, 42, 43, 44, 45, 46, 47, 48, 49, 50, 51, 52, 53, 54, 55, 56, 57, 58, 59, 60, 61, 62, 63, 64, 65, 66, 67, 68, 69, 70, 71, 72, 73, 74, 75, 76, 77, 78, 79, 80, 81, 82, 83, 84, 85, 86, 87, 88, 89] (by decide +kernel) (by decide +kernel)
set_option maxRecDepth 20000 in
theorem mg_X10_patternKnotmk3_X10_branchKnot_229 : GoodIn mwX10_patternKnotmk3 (wsV RX10 229 RX10 yX10_branchKnot mwX10_branchKnotmk3) := goodIn_r _ [36, 37, 38, 10, 11, 1, 2, 3, 4, 5, 6, 7, 8, 9, 10, 12, 13, 14, 15, 16, 17, 18, 19, 20, 21, 22, 23, 24, 25, 26, 27, 28, 29, 30, 31, 0, 11, 33, 34, 35, 36, 37, 38, 39, 40, 41, 42, 43, 44, 45, 46, 47, 48, 49, 50, 51, 52, 53, 54, 55, 56, 57, 58, 59, 60, 61, 62, 63, 64, 65, 66, 67, 68, 69, 70, 71, 72, 73, 74, 75, 76, 77, 78, 79, 80, 81, 82, 83, 84, 85, 86, 87, 88, 89] (by decide +kernel) (by decide +kernel)
set_option maxRecDepth 20000 in
theorem mg_X10_patternKnotmk3_X10_joins_232 : GoodIn mwX10_patternKnotmk3 (wsV RX10 232 RX10 yX10_joins mwX10_joinsm) := goodIn_r _ [29, 30, 31, 10, 28, 5, 4, 42, 43, 44, 45, 46, 47, 48, 49, 50, 51, 52, 53, 54, 55, 56, 57, 58, 59, 60, 61, 62, 63, 64, 65, 66, 67, 68, 69, 70, 71, 72, 73, 74, 75, 76, 77, 78, 79, 80, 81, 82, 83, 84, 85, 86, 87, 88, 89] (by decide +kernel) (by decide +kernel)
set_option maxRecDepth 20000 in
theorem mg_X10_patternKnotmk3_X10_signAt_236 : GoodIn mwX10_patternKnotmk3 (wsV RX10 236 RX10 yX10_signAt mwX10_signAtm) := goodIn_r _ [16, 17, 18, 10, 12, 13, 14, 15, 42, 43, 44, 45, 46, 47, 48, 49, 50, 51, 52, 53, 54, 55, 56, 57, 58, 59, 60, 61, 62, 63, 64, 65, 66, 67, 68, 69, 70, 71, 72, 73, 74, 75, 76, 77, 78, 79, 80, 81, 82, 83, 84, 85, 86, 87, 88, 89] (by decide +kernel) (by decide +kernel)
set_option maxHeartbeats 4000000 in
set_option maxRecDepth 100000 in
theorem m_patternKnot3 (l : Launch) (dC : Nat → ClassId) (dI : Nat → Nat → Nat) (ad : Nat → Nat) (kc : Nat → ClassId) (x0 x1 x2 x3 x4 x5 x6 x7 x8 x9 x10 x11 x12 x13 x14 x15 x16 x17 x18 x19 x20 x21 : Int32) (f0 f1 f2 f3 f4 f5 f6 f7 f8 f9 f10 f11 f12 f13 f14 f15 f16 f17 f18 f19 f20 f21 : Nat → Int32) (fL : Nat → Nat → Int64) (fN : Nat → Nat → Int32) (fP : Nat → Nat → Nat) (fM : Nat → Nat → Int32) (fO : Nat → Nat → Int32) (sz : Nat) (bb : Int) (mm : Int) (q0 : 0 ≤ x12.toInt) (q1 : 0 ≤ x13.toInt) (q2 : bb ≤ 900) (q3 : 0 ≤ x14.toInt) (q4 : x14.toInt < 8) (q5 : vI f0 (612 + x14.toInt) ≤ 900) (q6 : 0 ≤ x15.toInt) (q7 : x15.toInt + mm ≤ 24) (q8 : pPat (tp f0 x14.toInt) 3 x13.toInt bb mm) (q9 : isEn ((tp f0 x14.toInt) bb)) (q10 : x12.toInt + 13 * mm ≤ 1600) : Met l yX10_patternKnot mwX10_patternKnotmk3 ({ frames := 13, cells := 0, slots := 0, locals := 780 }) (va_Pc [.ref (ad 0)] (fun U => U.heap.size = sz ∧ va_P (dC, dI) vwCl (mW ad kc x0 x1 x2 x3 x4 x5 x6 x7 x8 x9 x10 x11 x12 x13 x14 x15 x16 x17 x18 x19 x20 x21 f0 f1 f2 f3 f4 f5 f6 f7 f8 f9 f10 f11 f12 f13 f14 f15 f16 f17 f18 f19 f20 f21 fL fN fP fM fO) U.heap ∧ va_K (dC, dI) vwCl (mT kc) U ∧ va_D (fun _ => True) (mW ad kc x0 x1 x2 x3 x4 x5 x6 x7 x8 x9 x10 x11 x12 x13 x14 x15 x16 x17 x18 x19 x20 x21 f0 f1 f2 f3 f4 f5 f6 f7 f8 f9 f10 f11 f12 f13 f14 f15 f16 f17 f18 f19 f20 f21 fL fN fP fM fO))) (va_Qi (fun (o9 u9 : Int32) => o9 = u9) (fun (o9 : Int32) t => ∃ (y12 y13 y15 : Int32) (g3 g4 g5 g6 g7 g8 : Nat → Int32), (o9.toInt = x12.toInt) ∧ (y13.toInt = bb) ∧ (y15.toInt = x15.toInt + mm) ∧ (x12.toInt + 2 ≤ y12.toInt ∧ y12.toInt ≤ x12.toInt + 13 * mm) ∧ (tPat (mV g3 g4 g5 g7) 3 x12.toInt y12.toInt mm) ∧ (∀ (q : Nat) (z : Int), 0 ≤ z → z < x12.toInt → (mV g3 g4 g5 g7) q z = (mV f3 f4 f5 f7) q z) ∧ ((mV g3 g4 g5 g7) 2 x12.toInt = -1) ∧ va_P (dC, dI) vwCl (mW ad kc x0 x1 x2 x3 x4 x5 x6 x7 x8 x9 x10 x11 y12 y13 x14 y15 x16 x17 x18 x19 x20 x21 f0 f1 f2 g3 g4 g5 g6 g7 g8 f9 f10 f11 f12 f13 f14 f15 f16 f17 f18 f19 f20 f21 fL fN fP fM fO) t.heap ∧ va_K (dC, dI) vwCl (mT kc) t ∧ va_D (va_A (mW ad kc x0 x1 x2 x3 x4 x5 x6 x7 x8 x9 x10 x11 x12 x13 x14 x15 x16 x17 x18 x19 x20 x21 f0 f1 f2 f3 f4 f5 f6 f7 f8 f9 f10 f11 f12 f13 f14 f15 f16 f17 f18 f19 f20 f21 fL fN fP fM fO) sz) (mW ad kc x0 x1 x2 x3 x4 x5 x6 x7 x8 x9 x10 x11 y12 y13 x14 y15 x16 x17 x18 x19 x20 x21 f0 f1 f2 g3 g4 g5 g6 g7 g8 f9 f10 f11 f12 f13 f14 f15 f16 f17 f18 f19 f20 f21 fL fN fP fM fO)) (va_A (mW ad kc x0 x1 x2 x3 x4 x5 x6 x7 x8 x9 x10 x11 x12 x13 x14 x15 x16 x17 x18 x19 x20 x21 f0 f1 f2 f3 f4 f5 f6 f7 f8 f9 f10 f11 f12 f13 f14 f15 f16 f17 f18 f19 f20 f21 fL fN fP fM fO) sz)) 0 0 (va_A (mW ad kc x0 x1 x2 x3 x4 x5 x6 x7 x8 x9 x10 x11 x12 x13 x14 x15 x16 x17 x18 x19 x20 x21 f0 f1 f2 f3 f4 f5 f6 f7 f8 f9 f10 f11 f12 f13 f14 f15 f16 f17 f18 f19 f20 f21 fL fN fP fM fO) sz) := by
  refine Met.ofW (cc := cX10_patternKnot) (maxL := 3) (ret := (some .int)) (by decide +kernel) rfl ?_
  intro p e s m args below meth c s₁ B hml hv
  obtain ⟨rfl, hsz, hP, hK, hD0⟩ := hv
  have hx := B.exec
  have hb := B.bytes
  have hr := B.returns
  have hts := atoms_spec (ws := mwX10_patternKnotmk3) B.pre
  have hown : s.vm.findClass RX10 = some m.cls := findClass_of_methodNamed B.named
  have hlocks := B.notSynchronized
  subst hsz
  have hD := hD0.self (sz := s.heap.size)
  generalize hAe : va_A (mW ad kc x0 x1 x2 x3 x4 x5 x6 x7 x8 x9 x10 x11 x12 x13 x14 x15 x16 x17 x18 x19 x20 x21 f0 f1 f2 f3 f4 f5 f6 f7 f8 f9 f10 f11 f12 f13 f14 f15 f16 f17 f18 f19 f20 f21 fL fN fP fM fO) s.heap.size = A at hD ⊢
  have hA : ∀ q : Nat, s.heap.size ≤ q → A q := fun q h => by rw [← hAe]; exact Or.inr h
  have hP : va_P (dC, dI) vwCl (mW ad kc x0 x1 x2 x3 x4 x5 x6 x7 x8 x9 x10 x11 x12 x13 x14 x15 x16 x17 x18 x19 x20 x21 f0 f1 f2 f3 f4 f5 f6 f7 f8 f9 f10 f11 f12 f13 f14 f15 f16 f17 f18 f19 f20 f21 fL fN fP fM fO) s.heap := hP
  have hD : va_D A (mW ad kc x0 x1 x2 x3 x4 x5 x6 x7 x8 x9 x10 x11 x12 x13 x14 x15 x16 x17 x18 x19 x20 x21 f0 f1 f2 f3 f4 f5 f6 f7 f8 f9 f10 f11 f12 f13 f14 f15 f16 f17 f18 f19 f20 f21 fL fN fP fM fO) := hD
  have hK : va_K (dC, dI) vwCl (mT kc) s := hK
  generalize hH : s.heap = H at hP ⊢
  have hS : va_S A s.heap H [] := by rw [← hH]; exact va_S.rf
  have hl := lv_entry ([.ref (ad 0)]) (n := 3) (Nat.le_of_ble_eq_true rfl)
  rw [lg_entry_eq]
  generalize (lg_sl ([.ref (ad 0)]) ++ List.replicate (3 - (lg_sl ([.ref (ad 0)])).length) Slot.unset).toArray = ls at hl ⊢
  have hl : lv_has ls 3 [(0, .ref (ad 0))] := hl
  have hps := pos_pat 3 _ _ _ q8
  have hmo := mono_pat 3 _ _ _ q8
  refine lv_aload_n hx hb dX10_patternKnot_0 rfl (lv_at hl 0 rfl) ?_
  refine lv_iconst (v := 3) hx hb dX10_patternKnot_1 (by decide) ?_
  have hFc := m_free hD hS hA
  refine va_calli (va_runV (As := [.int 3]) (rest := []) ⟨hx, hb, hml, hown, hts⟩ (m_knot l dC dI ad kc x0 x1 x2 x3 x4 x5 x6 x7 x8 x9 x10 x11 x12 x13 x14 x15 x16 x17 x18 x19 x20 x21 f0 f1 f2 f3 f4 f5 f6 f7 f8 f9 f10 f11 f12 f13 f14 f15 f16 f17 f18 f19 f20 f21 fL fN fP fM fO H.size 3 (by first | omega | assumption | decide | (have l0 := Int32.toInt_zero; omega)) (by first | omega | assumption | decide | (have l0 := Int32.toInt_zero; omega))) (cwV 1 hts mg_X10_patternKnotmk3_X10_knot_226 rfl rfl rfl (by decide +kernel) ⟨Nat.le_of_ble_eq_true rfl, Nat.le_of_ble_eq_true rfl⟩) ⟨fun a U g mk q => by obtain ⟨q0, q1, qP, qK, qD⟩ := q; exact ⟨q0, q1, qP, va_K.moved (u := U) (U := U.calling g mk a) (Vm.Alike.refl U.vm) qK, qD⟩, va_recv hK hP (ci := 10) (q0 := 0) rfl rfl, fun U hU hW => ⟨rfl, by rw [hU], by rw [hU]; exact hP, va_K.moved hW.alike hK, hD.weaken (fun _ _ _ _ => trivial)⟩⟩ rfl rfl hl.1 rfl (lv_room (Nat.le_of_ble_eq_true rfl)) dX10_patternKnot_2 ⟨Nat.le_of_ble_eq_true rfl, Nat.le_of_ble_eq_true rfl⟩) hS (fun q _ h => hFc q h) hFc (fun r_1 u t H1 locs ht hvm hw hB hz1 hk1 hS => ?_)
  subst hw
  obtain ⟨x_2, f_3, f_4, f_5, f_6, hr_1_0, hr_1_1, hr_1_2, hr_1_3, hP, hK1, hD1⟩ := hB
  rw [ht] at hP
  have hD := hD1.weaken (fun k q _ h => hFc q.1 h)
  generalize H1 = H at hP hS ⊢
  have rg_x_2 := i_rng x_2
  have rg_r_1 := i_rng r_1
  have hP : va_P (dC, dI) vwCl (mW ad kc x0 x1 x2 x3 x4 x5 x6 x7 x8 x9 x10 x11 x_2 x13 x14 x15 x16 x17 x18 x19 x20 x21 f0 f1 f2 f_3 f_4 f_5 f6 f7 f_6 f9 f10 f11 f12 f13 f14 f15 f16 f17 f18 f19 f20 f21 fL fN fP fM fO) H := hP
  have hD : va_D A (mW ad kc x0 x1 x2 x3 x4 x5 x6 x7 x8 x9 x10 x11 x_2 x13 x14 x15 x16 x17 x18 x19 x20 x21 f0 f1 f2 f_3 f_4 f_5 f6 f7 f_6 f9 f10 f11 f12 f13 f14 f15 f16 f17 f18 f19 f20 f21 fL fN fP fM fO) := hD
  refine lv_istore_n (lv' := [(1, .int r_1), (0, .ref (ad 0))]) hx hb dX10_patternKnot_5 rfl hl (by decide) rfl (fun ls hl => ?_)
  refine lv_aload_n hx hb dX10_patternKnot_6 rfl (lv_at hl 1 rfl) ?_
  refine lv_iload_n hx hb dX10_patternKnot_7 rfl (lv_at hl 0 rfl) ?_
  refine lv_iconst (v := (-1)) hx hb dX10_patternKnot_8 (by decide) ?_
  rw [pPat_eq] at q8
  obtain ⟨⟨n7, hp7⟩, hp8⟩ := q8
  obtain ⟨b8, m8, hI8, hE8, hC8, hb1, hb2, hb3, hb4⟩ := ba_one hp7 q9
  have hB0 := bk_init (V0 := (mV f3 f4 f5 f7)) (R := (fun V => tBranch V (tSub V 3))) (w := 3) (s := 0) (kn := x12.toInt + 1) (la := -1) (hr_1_2.1.trans (by decide)) hr_1_2.2.2 hr_1_3 rfl rfl rfl
  refine lv_aload_n hx hb dX10_patternKnot_9 rfl (lv_at hl 1 rfl) ?_
  have hFc := m_free hD hS hA
  refine va_calli (va_runV (As := []) (rest := [.int (-1), .int r_1, .ref (ad 0)]) ⟨hx, hb, hml, hown, hts⟩ (m_branchKnot3 l dC dI ad kc x0 x1 x2 x3 x4 x5 x6 x7 x8 x9 x10 x11 x_2 x13 x14 x15 x16 x17 x18 x19 x20 x21 f0 f1 f2 f_3 f_4 f_5 f6 f7 f_6 f9 f10 f11 f12 f13 f14 f15 f16 f17 f18 f19 f20 f21 fL fN fP fM fO H.size b8 m8 (by first | omega | assumption | decide | (have l0 := Int32.toInt_zero; omega)) (by first | omega | assumption | decide | (have l0 := Int32.toInt_zero; omega)) (by first | omega | assumption | decide | (have l0 := Int32.toInt_zero; omega)) (by first | omega | assumption | decide | (have l0 := Int32.toInt_zero; omega)) (by first | omega | assumption | decide | (have l0 := Int32.toInt_zero; omega)) (by first | omega | assumption | decide | (have l0 := Int32.toInt_zero; omega)) (by first | omega | assumption | decide | (have l0 := Int32.toInt_zero; omega)) (by first | omega | assumption | decide | (have l0 := Int32.toInt_zero; omega)) (by first | omega | assumption | decide | (have l0 := Int32.toInt_zero; omega)) (by first | omega | assumption | decide | (have l0 := Int32.toInt_zero; omega)) (by first | omega | assumption | decide | (have l0 := Int32.toInt_zero; omega))) (cwV 0 hts mg_X10_patternKnotmk3_X10_branchKnot_229 rfl rfl rfl (by decide +kernel) ⟨Nat.le_of_ble_eq_true rfl, Nat.le_of_ble_eq_true rfl⟩) ⟨fun a U g mk q => by obtain ⟨q0, q1, qP, qK, qD⟩ := q; exact ⟨q0, q1, qP, va_K.moved (u := U) (U := U.calling g mk a) (Vm.Alike.refl U.vm) qK, qD⟩, va_recv hK hP (ci := 10) (q0 := 0) rfl rfl, fun U hU hW => ⟨rfl, by rw [hU], by rw [hU]; exact hP, va_K.moved hW.alike hK, hD.weaken (fun _ _ _ _ => trivial)⟩⟩ rfl rfl hl.1 rfl (lv_room (Nat.le_of_ble_eq_true rfl)) dX10_patternKnot_10 ⟨Nat.le_of_ble_eq_true rfl, Nat.le_of_ble_eq_true rfl⟩) hS (fun q _ h => hFc q h) hFc (fun r_7 u t H1 locs ht hvm hw hB hz1 hk1 hS => ?_)
  subst hw
  obtain ⟨x_8, x_9, x_10, f_11, f_12, f_13, f_14, f_15, f_16, hr_7_0, hr_7_1, hr_7_2, hr_7_3, hr_7_4, hr_7_5, hr_7_6, hP, hK1, hD1⟩ := hB
  rw [ht] at hP
  have hD := hD1.weaken (fun k q _ h => hFc q.1 h)
  generalize H1 = H at hP hS ⊢
  have rg_x_8 := i_rng x_8
  have rg_x_9 := i_rng x_9
  have rg_x_10 := i_rng x_10
  have rg_r_7 := i_rng r_7
  have hP : va_P (dC, dI) vwCl (mW ad kc x0 x1 x2 x3 x4 x5 x6 x7 x8 x9 x10 x11 x_8 x_9 x14 x_10 x16 x17 x18 x19 x20 x21 f0 f1 f2 f_11 f_12 f_13 f_14 f_15 f_16 f9 f10 f11 f12 f13 f14 f15 f16 f17 f18 f19 f20 f21 fL fN fP fM fO) H := hP
  have hD : va_D A (mW ad kc x0 x1 x2 x3 x4 x5 x6 x7 x8 x9 x10 x11 x_8 x_9 x14 x_10 x16 x17 x18 x19 x20 x21 f0 f1 f2 f_11 f_12 f_13 f_14 f_15 f_16 f9 f10 f11 f12 f13 f14 f15 f16 f17 f18 f19 f20 f21 fL fN fP fM fO) := hD
  rw [show x_2.toInt = x12.toInt + 1 by omega] at hr_7_4 hr_7_5 hr_7_6
  have hFc := m_free hD hS hA
  refine va_calli (va_runV (As := [.int r_1, .int (-1), .int r_7]) (rest := []) ⟨hx, hb, hml, hown, hts⟩ (m_joins l dC dI ad kc x0 x1 x2 x3 x4 x5 x6 x7 x8 x9 x10 x11 x_8 x_9 x14 x_10 x16 x17 x18 x19 x20 x21 f0 f1 f2 f_11 f_12 f_13 f_14 f_15 f_16 f9 f10 f11 f12 f13 f14 f15 f16 f17 f18 f19 f20 f21 fL fN fP fM fO H.size r_1 (-1) r_7 (by first | omega | assumption | decide | (have l0 := Int32.toInt_zero; omega)) (by first | omega | assumption | decide | (have l0 := Int32.toInt_zero; omega)) (by first | omega | assumption | decide | (have l0 := Int32.toInt_zero; omega)) (by first | omega | assumption | decide | (have l0 := Int32.toInt_zero; omega))) (cwV 3 hts mg_X10_patternKnotmk3_X10_joins_232 rfl rfl rfl (by decide +kernel) ⟨Nat.le_of_ble_eq_true rfl, Nat.le_of_ble_eq_true rfl⟩) ⟨fun a U g mk q => by obtain ⟨q0, q1, qP, qK, qD⟩ := q; exact ⟨q0, q1, qP, va_K.moved (u := U) (U := U.calling g mk a) (Vm.Alike.refl U.vm) qK, qD⟩, va_recv hK hP (ci := 10) (q0 := 0) rfl rfl, fun U hU hW => ⟨rfl, by rw [hU], by rw [hU]; exact hP, va_K.moved hW.alike hK, hD.weaken (fun _ _ _ _ => trivial)⟩⟩ rfl rfl hl.1 rfl (lv_room (Nat.le_of_ble_eq_true rfl)) dX10_patternKnot_13 ⟨Nat.le_of_ble_eq_true rfl, Nat.le_of_ble_eq_true rfl⟩) hS (fun q _ h => hFc q h) hFc (fun r_17 u t H1 locs ht hvm hw hB hz1 hk1 hS => ?_)
  subst hw
  obtain ⟨f_18, f_19, hr_17_0, hr_17_1, hP, hK1, hD1⟩ := hB
  rw [ht] at hP
  have hD := hD1.weaken (fun k q _ h => hFc q.1 h)
  generalize H1 = H at hP hS ⊢
  have rg_r_17 := i_rng r_17
  have hP : va_P (dC, dI) vwCl (mW ad kc x0 x1 x2 x3 x4 x5 x6 x7 x8 x9 x10 x11 x_8 x_9 x14 x_10 x16 x17 x18 x19 x20 x21 f0 f1 f2 f_11 f_18 f_19 f_14 f_15 f_16 f9 f10 f11 f12 f13 f14 f15 f16 f17 f18 f19 f20 f21 fL fN fP fM fO) H := hP
  have hD : va_D A (mW ad kc x0 x1 x2 x3 x4 x5 x6 x7 x8 x9 x10 x11 x_8 x_9 x14 x_10 x16 x17 x18 x19 x20 x21 f0 f1 f2 f_11 f_18 f_19 f_14 f_15 f_16 f9 f10 f11 f12 f13 f14 f15 f16 f17 f18 f19 f20 f21 fL fN fP fM fO) := hD
  rw [show r_1.toInt = x12.toInt by omega, show ((-1) : Int32).toInt = -1 by decide, show r_7.toInt = x12.toInt + 1 by omega] at hr_17_1
  have hB := bk_step (V2 := (mV f_11 f_18 f_19 f_15)) (hm_branch 3) (hR_branch 3) (by omega) hB0 hr_7_4 hr_7_6 hr_7_5 hr_17_1 (by omega)
  refine lv_istore_n (lv' := [(2, .int r_17), (1, .int r_1), (0, .ref (ad 0))]) hx hb dX10_patternKnot_16 rfl hl (by decide) rfl (fun ls hl => ?_)
  have loop17 : ∀ (lm17 : Nat) (la kn ra sm : Int32) (ga gb gc gd ge gf : Nat → Int32), (x12.toInt + 3 ≤ kn.toInt) → (kn.toInt ≤ x12.toInt + 1 + 12 * (sm.toInt - x15.toInt)) → (x13.toInt ≤ ra.toInt ∧ ra.toInt ≤ bb) → (x15.toInt + 1 ≤ sm.toInt ∧ sm.toInt ≤ x15.toInt + mm) → (-1 ≤ la.toInt ∧ la.toInt < kn.toInt) → (baI (tp f0 x14.toInt) (pSub (tp f0 x14.toInt) 3) ra.toInt bb (mm - (sm.toInt - x15.toInt))) → (bkI (mV f3 f4 f5 f7) (mV ga gb gc ge) (fun V => tBranch V (tSub V 3)) 3 x12.toInt la.toInt kn.toInt (sm.toInt - x15.toInt)) → ((bb - ra.toInt).toNat) < lm17 → ∀ (H : Heap) (locs : List Loc) (ls : Array Slot), va_P (dC, dI) vwCl (mW ad kc x0 x1 x2 x3 x4 x5 x6 x7 x8 x9 x10 x11 kn ra x14 sm x16 x17 x18 x19 x20 x21 f0 f1 f2 ga gb gc gd ge gf f9 f10 f11 f12 f13 f14 f15 f16 f17 f18 f19 f20 f21 fL fN fP fM fO) H → va_D A (mW ad kc x0 x1 x2 x3 x4 x5 x6 x7 x8 x9 x10 x11 kn ra x14 sm x16 x17 x18 x19 x20 x21 f0 f1 f2 ga gb gc gd ge gf f9 f10 f11 f12 f13 f14 f15 f16 f17 f18 f19 f20 f21 fL fN fP fM fO) → va_S A s.heap H locs → lv_has ls 3 [(2, .int la), (1, .int r_1), (0, .ref (ad 0))] → W p l e (headSpec mwX10_patternKnotmk3 ({ frames := 13, cells := 0, slots := 0, locals := 780 })).room s m ([.ref (ad 0)]).toArray below meth c H locs 0 0 (MQ below (va_Qi (fun (o9 u9 : Int32) => o9 = u9) (fun (o9 : Int32) t => ∃ (y12 y13 y15 : Int32) (g3 g4 g5 g6 g7 g8 : Nat → Int32), (o9.toInt = x12.toInt) ∧ (y13.toInt = bb) ∧ (y15.toInt = x15.toInt + mm) ∧ (x12.toInt + 2 ≤ y12.toInt ∧ y12.toInt ≤ x12.toInt + 13 * mm) ∧ (tPat (mV g3 g4 g5 g7) 3 x12.toInt y12.toInt mm) ∧ (∀ (q : Nat) (z : Int), 0 ≤ z → z < x12.toInt → (mV g3 g4 g5 g7) q z = (mV f3 f4 f5 f7) q z) ∧ ((mV g3 g4 g5 g7) 2 x12.toInt = -1) ∧ va_P (dC, dI) vwCl (mW ad kc x0 x1 x2 x3 x4 x5 x6 x7 x8 x9 x10 x11 y12 y13 x14 y15 x16 x17 x18 x19 x20 x21 f0 f1 f2 g3 g4 g5 g6 g7 g8 f9 f10 f11 f12 f13 f14 f15 f16 f17 f18 f19 f20 f21 fL fN fP fM fO) t.heap ∧ va_K (dC, dI) vwCl (mT kc) t ∧ va_D A (mW ad kc x0 x1 x2 x3 x4 x5 x6 x7 x8 x9 x10 x11 y12 y13 x14 y15 x16 x17 x18 x19 x20 x21 f0 f1 f2 g3 g4 g5 g6 g7 g8 f9 f10 f11 f12 f13 f14 f15 f16 f17 f18 f19 f20 f21 fL fN fP fM fO)) A) ([.ref (ad 0)]).toArray s 0 0 A) (F0 m 17 ls []) := by
    intro lm17
    induction lm17 with
    | zero => intro la kn ra sm ga gb gc gd ge gf v17_0 v17_1 v17_2 v17_3 v17_4 v17_5 v17_6 hm17; exact absurd hm17 (Nat.not_lt_zero _)
    | succ lm17 ih17 =>
      intro la kn ra sm ga gb gc gd ge gf v17_0 v17_1 v17_2 v17_3 v17_4 v17_5 v17_6 hm17 H locs ls hP hD hS hl
      have rg_la := i_rng la
      have rg_kn := i_rng kn
      have rg_ra := i_rng ra
      have rg_sm := i_rng sm
      refine lv_aload_n hx hb dX10_patternKnot_17 rfl (lv_at hl 2 rfl) ?_
      refine vp_callSi (W.runV (As := []) (rest := []) ⟨hx, hb, hml, hown, hts⟩ (m_signAt l dC dI ad kc x0 x1 x2 x3 x4 x5 x6 x7 x8 x9 x10 x11 kn ra x14 sm x16 x17 x18 x19 x20 x21 f0 f1 f2 ga gb gc gd ge gf f9 f10 f11 f12 f13 f14 f15 f16 f17 f18 f19 f20 f21 fL fN fP fM fO (by first | omega | assumption | decide | (have l0 := Int32.toInt_zero; omega)) (by first | omega | assumption | decide | (have l0 := Int32.toInt_zero; omega)) (by first | omega | assumption | decide | (have l0 := Int32.toInt_zero; omega)) (by first | omega | assumption | decide | (have l0 := Int32.toInt_zero; omega)) (by first | omega | assumption | decide | (have l0 := Int32.toInt_zero; omega))) (cwV 0 hts mg_X10_patternKnotmk3_X10_signAt_236 rfl rfl rfl (by decide +kernel) ⟨Nat.le_of_ble_eq_true rfl, Nat.le_of_ble_eq_true rfl⟩) ⟨fun a U g mk q => by obtain ⟨q0, qP, qK⟩ := q; exact ⟨q0, qP, va_K.moved (u := U) (U := U.calling g mk a) (Vm.Alike.refl U.vm) qK⟩, va_recv hK hP (ci := 10) (q0 := 0) rfl rfl, fun U hU hW => ⟨rfl, by rw [hU]; exact hP, va_K.moved hW.alike hK⟩⟩ rfl rfl hl.1 rfl (lv_room (Nat.le_of_ble_eq_true rfl)) dX10_patternKnot_18 ⟨Nat.le_of_ble_eq_true rfl, Nat.le_of_ble_eq_true rfl⟩) (fun r_20 hr_20 => ?_)
      have rg_r_20 := i_rng r_20
      refine lv_bipush (v := 124) hx hb dX10_patternKnot_21 (by decide) ?_
      refine lv_icmp_ne (tgt := 50) hx hb dX10_patternKnot_23 (by decide) (fun k_21 => ?_) (fun k_21 => ?_)
      · have tk_21 := c_ne (a := r_20.toInt) (b := 124) rfl (by decide) k_21
        rw [hr_20] at tk_21
        have hX := ba_exit v17_5 tk_21
        have hZ := bk_end v17_6 (by omega)
        rw [show sm.toInt - x15.toInt = mm by omega] at hZ
        refine lv_iload_n hx hb dX10_patternKnot_50 rfl (lv_at hl 1 rfl) ?_
        exact W.iret hx hb hr (fun t ht hW => ⟨⟨_, _, rfl, rfl, kn, ra, sm, ga, gb, gc, gd, ge, gf, (by first | omega | assumption | rfl | decide), (by first | omega | assumption | rfl | decide), (by first | omega | assumption | rfl | decide), (by first | omega | assumption | rfl | decide), (by rw [tPat_eq]; exact hZ.1), hZ.2.2, hZ.2.1, by rw [ht]; exact hP, va_K.moved hW.alike hK, hD⟩, hS.F ht⟩) hS.2.2 dX10_patternKnot_51
      · have tk_21 := c_eq (a := r_20.toInt) (b := 124) rfl (by decide) k_21
        rw [hr_20] at tk_21
        obtain ⟨b9, m9, hI9, hE9, hC9, hb5, hb6, hb7, hb8⟩ := ba_cont v17_5 q9 hp8 tk_21
        refine lv_aload_n hx hb dX10_patternKnot_26 rfl (lv_at hl 2 rfl) ?_
        refine lv_dup hx hb dX10_patternKnot_27 rfl ?_
        refine va_get (D := (dC, dI)) (ci := 10) (v := .int ra) (C := RX10) (T := TX10) (N := 48) hx hb hts fin_X10_patternKnotmk3_X10 hown hK hP 0 rfl rfl 22 (by decide) (hts (.fieldLink RX10 217 "PatternGateModel" "reached" "I") (List.mem_of_getElem? (i := 13) (by decide +kernel))) (fun _ h9 => h9) rfl dX10_patternKnot_28 ?_
        refine lv_iconst (v := 1) hx hb dX10_patternKnot_31 (by decide) ?_
        refine lv_iadd hx hb dX10_patternKnot_32 ?_
        refine lv_topi (fun y_22 ey_22 => ?_)
        first | have ty_22 := i_add (a := ra.toInt) (b := 1) rfl (by decide) ey_22 (by omega) (by omega) | skip
        refine va_put (D := (dC, dI)) (ci := 10) (v := .int y_22) (ty := .int) (C := RX10) (T := TX10) (N := 48) hx hb hts fin_X10_patternKnotmk3_X10 tyX10 tyX10_ok nmX10 hown hK hP hD hS 0 rfl rfl 22 (by decide) (hts (.fieldLink RX10 217 "PatternGateModel" "reached" "I") (List.mem_of_getElem? (i := 13) (by decide +kernel))) (fun _ h9 => h9) rfl (by decide +kernel) rfl rfl (Nat.le_of_ble_eq_true rfl) dX10_patternKnot_33 (fun H locs hP hD hS => ?_)
        have hP : va_P (dC, dI) vwCl (mW ad kc x0 x1 x2 x3 x4 x5 x6 x7 x8 x9 x10 x11 kn y_22 x14 sm x16 x17 x18 x19 x20 x21 f0 f1 f2 ga gb gc gd ge gf f9 f10 f11 f12 f13 f14 f15 f16 f17 f18 f19 f20 f21 fL fN fP fM fO) H := hP
        have hD : va_D A (mW ad kc x0 x1 x2 x3 x4 x5 x6 x7 x8 x9 x10 x11 kn y_22 x14 sm x16 x17 x18 x19 x20 x21 f0 f1 f2 ga gb gc gd ge gf f9 f10 f11 f12 f13 f14 f15 f16 f17 f18 f19 f20 f21 fL fN fP fM fO) := hD
        refine lv_aload_n hx hb dX10_patternKnot_36 rfl (lv_at hl 2 rfl) ?_
        refine lv_iload_n hx hb dX10_patternKnot_37 rfl (lv_at hl 1 rfl) ?_
        refine lv_iload_n hx hb dX10_patternKnot_38 rfl (lv_at hl 0 rfl) ?_
        refine lv_aload_n hx hb dX10_patternKnot_39 rfl (lv_at hl 2 rfl) ?_
        have hFc := m_free hD hS hA
        refine va_calli (va_runV (As := []) (rest := [.int la, .int r_1, .ref (ad 0)]) ⟨hx, hb, hml, hown, hts⟩ (m_branchKnot3 l dC dI ad kc x0 x1 x2 x3 x4 x5 x6 x7 x8 x9 x10 x11 kn y_22 x14 sm x16 x17 x18 x19 x20 x21 f0 f1 f2 ga gb gc gd ge gf f9 f10 f11 f12 f13 f14 f15 f16 f17 f18 f19 f20 f21 fL fN fP fM fO H.size b9 m9 (by first | omega | assumption | decide | (have l0 := Int32.toInt_zero; omega)) (by first | omega | assumption | decide | (have l0 := Int32.toInt_zero; omega)) (by first | omega | assumption | decide | (have l0 := Int32.toInt_zero; omega)) (by first | omega | assumption | decide | (have l0 := Int32.toInt_zero; omega)) (by first | omega | assumption | decide | (have l0 := Int32.toInt_zero; omega)) (by first | omega | assumption | decide | (have l0 := Int32.toInt_zero; omega)) (by first | omega | assumption | decide | (have l0 := Int32.toInt_zero; omega)) (by first | omega | assumption | decide | (have l0 := Int32.toInt_zero; omega)) (by rw [show y_22.toInt = ra.toInt + 1 by omega]; exact hI9) (by first | omega | assumption | decide | (have l0 := Int32.toInt_zero; omega)) (by first | omega | assumption | decide | (have l0 := Int32.toInt_zero; omega))) (cwV 0 hts mg_X10_patternKnotmk3_X10_branchKnot_229 rfl rfl rfl (by decide +kernel) ⟨Nat.le_of_ble_eq_true rfl, Nat.le_of_ble_eq_true rfl⟩) ⟨fun a U g mk q => by obtain ⟨q0, q1, qP, qK, qD⟩ := q; exact ⟨q0, q1, qP, va_K.moved (u := U) (U := U.calling g mk a) (Vm.Alike.refl U.vm) qK, qD⟩, va_recv hK hP (ci := 10) (q0 := 0) rfl rfl, fun U hU hW => ⟨rfl, by rw [hU], by rw [hU]; exact hP, va_K.moved hW.alike hK, hD.weaken (fun _ _ _ _ => trivial)⟩⟩ rfl rfl hl.1 rfl (lv_room (Nat.le_of_ble_eq_true rfl)) dX10_patternKnot_40 ⟨Nat.le_of_ble_eq_true rfl, Nat.le_of_ble_eq_true rfl⟩) hS (fun q _ h => hFc q h) hFc (fun r_23 u t H1 locs ht hvm hw hB hz1 hk1 hS => ?_)
        subst hw
        obtain ⟨x_24, x_25, x_26, f_27, f_28, f_29, f_30, f_31, f_32, hr_23_0, hr_23_1, hr_23_2, hr_23_3, hr_23_4, hr_23_5, hr_23_6, hP, hK1, hD1⟩ := hB
        rw [ht] at hP
        have hD := hD1.weaken (fun k q _ h => hFc q.1 h)
        generalize H1 = H at hP hS ⊢
        have rg_x_24 := i_rng x_24
        have rg_x_25 := i_rng x_25
        have rg_x_26 := i_rng x_26
        have rg_r_23 := i_rng r_23
        have hP : va_P (dC, dI) vwCl (mW ad kc x0 x1 x2 x3 x4 x5 x6 x7 x8 x9 x10 x11 x_24 x_25 x14 x_26 x16 x17 x18 x19 x20 x21 f0 f1 f2 f_27 f_28 f_29 f_30 f_31 f_32 f9 f10 f11 f12 f13 f14 f15 f16 f17 f18 f19 f20 f21 fL fN fP fM fO) H := hP
        have hD : va_D A (mW ad kc x0 x1 x2 x3 x4 x5 x6 x7 x8 x9 x10 x11 x_24 x_25 x14 x_26 x16 x17 x18 x19 x20 x21 f0 f1 f2 f_27 f_28 f_29 f_30 f_31 f_32 f9 f10 f11 f12 f13 f14 f15 f16 f17 f18 f19 f20 f21 fL fN fP fM fO) := hD
        have hFc := m_free hD hS hA
        refine va_calli (va_runV (As := [.int r_1, .int la, .int r_23]) (rest := []) ⟨hx, hb, hml, hown, hts⟩ (m_joins l dC dI ad kc x0 x1 x2 x3 x4 x5 x6 x7 x8 x9 x10 x11 x_24 x_25 x14 x_26 x16 x17 x18 x19 x20 x21 f0 f1 f2 f_27 f_28 f_29 f_30 f_31 f_32 f9 f10 f11 f12 f13 f14 f15 f16 f17 f18 f19 f20 f21 fL fN fP fM fO H.size r_1 la r_23 (by first | omega | assumption | decide | (have l0 := Int32.toInt_zero; omega)) (by first | omega | assumption | decide | (have l0 := Int32.toInt_zero; omega)) (by first | omega | assumption | decide | (have l0 := Int32.toInt_zero; omega)) (by first | omega | assumption | decide | (have l0 := Int32.toInt_zero; omega))) (cwV 3 hts mg_X10_patternKnotmk3_X10_joins_232 rfl rfl rfl (by decide +kernel) ⟨Nat.le_of_ble_eq_true rfl, Nat.le_of_ble_eq_true rfl⟩) ⟨fun a U g mk q => by obtain ⟨q0, q1, qP, qK, qD⟩ := q; exact ⟨q0, q1, qP, va_K.moved (u := U) (U := U.calling g mk a) (Vm.Alike.refl U.vm) qK, qD⟩, va_recv hK hP (ci := 10) (q0 := 0) rfl rfl, fun U hU hW => ⟨rfl, by rw [hU], by rw [hU]; exact hP, va_K.moved hW.alike hK, hD.weaken (fun _ _ _ _ => trivial)⟩⟩ rfl rfl hl.1 rfl (lv_room (Nat.le_of_ble_eq_true rfl)) dX10_patternKnot_43 ⟨Nat.le_of_ble_eq_true rfl, Nat.le_of_ble_eq_true rfl⟩) hS (fun q _ h => hFc q h) hFc (fun r_33 u t H1 locs ht hvm hw hB hz1 hk1 hS => ?_)
        subst hw
        obtain ⟨f_34, f_35, hr_33_0, hr_33_1, hP, hK1, hD1⟩ := hB
        rw [ht] at hP
        have hD := hD1.weaken (fun k q _ h => hFc q.1 h)
        generalize H1 = H at hP hS ⊢
        have rg_r_33 := i_rng r_33
        have hP : va_P (dC, dI) vwCl (mW ad kc x0 x1 x2 x3 x4 x5 x6 x7 x8 x9 x10 x11 x_24 x_25 x14 x_26 x16 x17 x18 x19 x20 x21 f0 f1 f2 f_27 f_34 f_35 f_30 f_31 f_32 f9 f10 f11 f12 f13 f14 f15 f16 f17 f18 f19 f20 f21 fL fN fP fM fO) H := hP
        have hD : va_D A (mW ad kc x0 x1 x2 x3 x4 x5 x6 x7 x8 x9 x10 x11 x_24 x_25 x14 x_26 x16 x17 x18 x19 x20 x21 f0 f1 f2 f_27 f_34 f_35 f_30 f_31 f_32 f9 f10 f11 f12 f13 f14 f15 f16 f17 f18 f19 f20 f21 fL fN fP fM fO) := hD
        rw [show r_1.toInt = x12.toInt by omega, show r_23.toInt = kn.toInt by omega] at hr_33_1
        have hB := bk_step (V2 := (mV f_27 f_34 f_35 f_31)) (hm_branch 3) (hR_branch 3) (by omega) v17_6 hr_23_4 hr_23_6 hr_23_5 hr_33_1 (by omega)
        refine lv_istore_n (lv' := [(2, .int r_33), (1, .int r_1), (0, .ref (ad 0))]) hx hb dX10_patternKnot_46 rfl hl (by decide) rfl (fun ls hl => ?_)
        refine lv_goto (tgt := 17) hx hb dX10_patternKnot_47 (by decide) ?_
        exact ih17 r_33 x_24 x_25 x_26 f_27 f_34 f_35 f_30 f_31 f_32 (by first | omega | assumption | decide) (by first | omega | assumption | decide) (by first | omega | assumption | decide) (by first | omega | assumption | decide) (by first | omega | assumption | decide) (by rw [show x_25.toInt = b9 by omega, show mm - (x_26.toInt - x15.toInt) = mm - (sm.toInt - x15.toInt) - m9 by omega]; exact hC9) (by rw [show x_26.toInt - x15.toInt = sm.toInt - x15.toInt + m9 by omega, show r_33.toInt = kn.toInt by omega]; exact hB) (by omega) _ _ ls hP hD hS (lv_sub hl [0, 1, 2] rfl)
  exact loop17 _ r_17 x_8 x_9 x_10 f_11 f_18 f_19 f_14 f_15 f_16 (by first | omega | assumption | decide) (by first | omega | assumption | decide) (by first | omega | assumption | decide) (by first | omega | assumption | decide) (by first | omega | assumption | decide) (by rw [show x_9.toInt = b8 by omega, show mm - (x_10.toInt - x15.toInt) = mm - m8 by omega]; exact hC8) (by rw [show x_10.toInt - x15.toInt = 0 + m8 by omega, show r_17.toInt = x12.toInt + 1 by omega]; exact hB) (Nat.lt_succ_self _) _ _ ls hP hD hS (lv_sub hl [0, 1, 2] rfl)

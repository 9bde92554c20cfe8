def mwX10_failsAtmq : List Cond := .code yX10_failsAt cX10_failsAt 3 (some .boolean) :: (([.fieldLink RX10 117 "PatternGateModel" "faults" "I", .fieldLink RX10 21 "PatternGateModel" "faultPlace" "I"] : List Cond) ++ (wsX100))
theorem fin_X10_failsAtmq_X10 : ∀ w ∈ wsX100, w ∈ mwX10_failsAtmq := fun w h => List.mem_cons_of_mem _ (List.mem_append_right _ (h))
set_option maxHeartbeats 4000000 in
set_option maxRecDepth 100000 in
theorem m_failsAt_q (l : Launch) (dC : Nat → ClassId) (dI : Nat → Nat → Nat) (ad : Nat → Nat) (kc : Nat → ClassId) (x0 x1 x2 x3 x4 x5 x6 x7 x8 x9 x10 x11 x12 x13 x14 x15 x16 x17 x18 x19 x20 x21 : Int32) (f0 f1 f2 f3 f4 f5 f6 f7 f8 f9 f10 f11 f12 f13 f14 f15 f16 f17 f18 f19 f20 f21 : Nat → Int32) (fL : Nat → Nat → Int64) (fN : Nat → Nat → Int32) (fP : Nat → Nat → Nat) (fM : Nat → Nat → Int32) (fO : Nat → Nat → Int32) (sz : Nat) (i1 i2 : Int32) (q0 : 0 ≤ x8.toInt) (q1 : 0 < i1.toInt) : Met l yX10_failsAt mwX10_failsAtmq ({ frames := 0, cells := 0, slots := 0, locals := 0 }) (va_Pc [.ref (ad 0), .int i1, .int i2] (fun U => U.heap.size = sz ∧ va_P (dC, dI) vwCl (mW ad kc x0 x1 x2 x3 x4 x5 x6 x7 x8 x9 x10 x11 x12 x13 x14 x15 x16 x17 x18 x19 x20 x21 f0 f1 f2 f3 f4 f5 f6 f7 f8 f9 f10 f11 f12 f13 f14 f15 f16 f17 f18 f19 f20 f21 fL fN fP fM fO) U.heap ∧ va_K (dC, dI) vwCl (mT kc) U ∧ va_D (fun _ => True) (mW ad kc x0 x1 x2 x3 x4 x5 x6 x7 x8 x9 x10 x11 x12 x13 x14 x15 x16 x17 x18 x19 x20 x21 f0 f1 f2 f3 f4 f5 f6 f7 f8 f9 f10 f11 f12 f13 f14 f15 f16 f17 f18 f19 f20 f21 fL fN fP fM fO))) (va_Qi (fun (o9 u9 : Int32) => o9 = u9) (fun (o9 : Int32) t => ∃ (y8 y9 : Int32), (o9.toInt = 0) ∧ (0 < y8.toInt) ∧ va_P (dC, dI) vwCl (mW ad kc x0 x1 x2 x3 x4 x5 x6 x7 y8 y9 x10 x11 x12 x13 x14 x15 x16 x17 x18 x19 x20 x21 f0 f1 f2 f3 f4 f5 f6 f7 f8 f9 f10 f11 f12 f13 f14 f15 f16 f17 f18 f19 f20 f21 fL fN fP fM fO) t.heap ∧ va_K (dC, dI) vwCl (mT kc) t ∧ va_D (va_A (mW ad kc x0 x1 x2 x3 x4 x5 x6 x7 x8 x9 x10 x11 x12 x13 x14 x15 x16 x17 x18 x19 x20 x21 f0 f1 f2 f3 f4 f5 f6 f7 f8 f9 f10 f11 f12 f13 f14 f15 f16 f17 f18 f19 f20 f21 fL fN fP fM fO) sz) (mW ad kc x0 x1 x2 x3 x4 x5 x6 x7 y8 y9 x10 x11 x12 x13 x14 x15 x16 x17 x18 x19 x20 x21 f0 f1 f2 f3 f4 f5 f6 f7 f8 f9 f10 f11 f12 f13 f14 f15 f16 f17 f18 f19 f20 f21 fL fN fP fM fO)) (va_A (mW ad kc x0 x1 x2 x3 x4 x5 x6 x7 x8 x9 x10 x11 x12 x13 x14 x15 x16 x17 x18 x19 x20 x21 f0 f1 f2 f3 f4 f5 f6 f7 f8 f9 f10 f11 f12 f13 f14 f15 f16 f17 f18 f19 f20 f21 fL fN fP fM fO) sz)) 0 0 (va_A (mW ad kc x0 x1 x2 x3 x4 x5 x6 x7 x8 x9 x10 x11 x12 x13 x14 x15 x16 x17 x18 x19 x20 x21 f0 f1 f2 f3 f4 f5 f6 f7 f8 f9 f10 f11 f12 f13 f14 f15 f16 f17 f18 f19 f20 f21 fL fN fP fM fO) sz) := by
  refine Met.ofW (cc := cX10_failsAt) (maxL := 3) (ret := (some .boolean)) (by decide +kernel) rfl ?_
  intro p e s m args below meth c s₁ B hml hv
  obtain ⟨rfl, hsz, hP, hK, hD0⟩ := hv
  have hx := B.exec
  have hb := B.bytes
  have hr := B.returns
  have hts := atoms_spec (ws := mwX10_failsAtmq) B.pre
  have hown : s.vm.findClass RX10 = some m.cls := findClass_of_methodNamed B.named
  have hlocks := B.notSynchronized
  subst hsz
  have hD := hD0.self (sz := s.heap.size)
  generalize hAe : va_A (mW ad kc x0 x1 x2 x3 x4 x5 x6 x7 x8 x9 x10 x11 x12 x13 x14 x15 x16 x17 x18 x19 x20 x21 f0 f1 f2 f3 f4 f5 f6 f7 f8 f9 f10 f11 f12 f13 f14 f15 f16 f17 f18 f19 f20 f21 fL fN fP fM fO) s.heap.size = A at hD ⊢
  have hA : ∀ q : Nat, s.heap.size ≤ q → A q := fun q h => by rw [← hAe]; exact Or.inr h
  have hP : va_P (dC, dI) vwCl (mW ad kc x0 x1 x2 x3 x4 x5 x6 x7 x8 x9 x10 x11 x12 x13 x14 x15 x16 x17 x18 x19 x20 x21 f0 f1 f2 f3 f4 f5 f6 f7 f8 f9 f10 f11 f12 f13 f14 f15 f16 f17 f18 f19 f20 f21 fL fN fP fM fO) s.heap := hP
  have hD : va_D A (mW ad kc x0 x1 x2 x3 x4 x5 x6 x7 x8 x9 x10 x11 x12 x13 x14 x15 x16 x17 x18 x19 x20 x21 f0 f1 f2 f3 f4 f5 f6 f7 f8 f9 f10 f11 f12 f13 f14 f15 f16 f17 f18 f19 f20 f21 fL fN fP fM fO) := hD
  have hK : va_K (dC, dI) vwCl (mT kc) s := hK
  generalize hH : s.heap = H at hP ⊢
  have hS : va_S A s.heap H [] := by rw [← hH]; exact va_S.rf
  have hl := lv_entry ([.ref (ad 0), .int i1, .int i2]) (n := 3) (Nat.le_of_ble_eq_true rfl)
  rw [lg_entry_eq]
  generalize (lg_sl ([.ref (ad 0), .int i1, .int i2]) ++ List.replicate (3 - (lg_sl ([.ref (ad 0), .int i1, .int i2])).length) Slot.unset).toArray = ls at hl ⊢
  have hl : lv_has ls 3 [(0, .ref (ad 0)), (1, .int i1), (2, .int i2)] := hl
  have rg_i1 := i_rng i1
  have rg_i2 := i_rng i2
  refine lv_aload_n hx hb dX10_failsAt_0 rfl (lv_at hl 0 rfl) ?_
  refine va_get (D := (dC, dI)) (ci := 10) (v := .int x8) (C := RX10) (T := TX10) (N := 48) hx hb hts fin_X10_failsAtmq_X10 hown hK hP 0 rfl rfl 11 (by decide) (hts (.fieldLink RX10 117 "PatternGateModel" "faults" "I") (List.mem_of_getElem? (i := 1) (by decide +kernel))) (fun _ h9 => h9) rfl dX10_failsAt_1 ?_
  refine lv_if_ne (tgt := 17) hx hb dX10_failsAt_4 (by decide) (fun k_1 => ?_) (fun k_1 => ?_)
  · have tk_1 := c_ne (a := x8.toInt) (b := 0) rfl (by decide) k_1
    refine lv_iconst (v := 0) hx hb dX10_failsAt_17 (by decide) ?_
    have lit_1 : (0 : Int32).toInt = 0 := by decide
    exact W.zret hx hb hr (z_nar (by first | assumption | decide | exact z_of (by omega))) (fun t ht hW => ⟨⟨_, _, rfl, rfl, x8, x9, (by first | omega | assumption | rfl | decide), (by first | omega | assumption | rfl | decide), by rw [ht]; exact hP, va_K.moved hW.alike hK, hD⟩, hS.F ht⟩) hS.2.2 dX10_failsAt_18
  · have tk_1 := c_eq (a := x8.toInt) (b := 0) rfl (by decide) k_1
    refine lv_aload_n hx hb dX10_failsAt_7 rfl (lv_at hl 0 rfl) ?_
    refine lv_iload_n hx hb dX10_failsAt_8 rfl (lv_at hl 1 rfl) ?_
    refine va_put (D := (dC, dI)) (ci := 10) (v := .int i1) (ty := .int) (C := RX10) (T := TX10) (N := 48) hx hb hts fin_X10_failsAtmq_X10 tyX10 tyX10_ok nmX10 hown hK hP hD hS 0 rfl rfl 11 (by decide) (hts (.fieldLink RX10 117 "PatternGateModel" "faults" "I") (List.mem_of_getElem? (i := 1) (by decide +kernel))) (fun _ h9 => h9) rfl (by decide +kernel) rfl rfl (Nat.le_of_ble_eq_true rfl) dX10_failsAt_9 (fun H locs hP hD hS => ?_)
    have hP : va_P (dC, dI) vwCl (mW ad kc x0 x1 x2 x3 x4 x5 x6 x7 i1 x9 x10 x11 x12 x13 x14 x15 x16 x17 x18 x19 x20 x21 f0 f1 f2 f3 f4 f5 f6 f7 f8 f9 f10 f11 f12 f13 f14 f15 f16 f17 f18 f19 f20 f21 fL fN fP fM fO) H := hP
    have hD : va_D A (mW ad kc x0 x1 x2 x3 x4 x5 x6 x7 i1 x9 x10 x11 x12 x13 x14 x15 x16 x17 x18 x19 x20 x21 f0 f1 f2 f3 f4 f5 f6 f7 f8 f9 f10 f11 f12 f13 f14 f15 f16 f17 f18 f19 f20 f21 fL fN fP fM fO) := hD
    refine lv_aload_n hx hb dX10_failsAt_12 rfl (lv_at hl 0 rfl) ?_
    refine lv_iload_n hx hb dX10_failsAt_13 rfl (lv_at hl 2 rfl) ?_
    refine va_put (D := (dC, dI)) (ci := 10) (v := .int i2) (ty := .int) (C := RX10) (T := TX10) (N := 48) hx hb hts fin_X10_failsAtmq_X10 tyX10 tyX10_ok nmX10 hown hK hP hD hS 0 rfl rfl 12 (by decide) (hts (.fieldLink RX10 21 "PatternGateModel" "faultPlace" "I") (List.mem_of_getElem? (i := 2) (by decide +kernel))) (fun _ h9 => h9) rfl (by decide +kernel) rfl rfl (Nat.le_of_ble_eq_true rfl) dX10_failsAt_14 (fun H locs hP hD hS => ?_)
    have hP : va_P (dC, dI) vwCl (mW ad kc x0 x1 x2 x3 x4 x5 x6 x7 i1 i2 x10 x11 x12 x13 x14 x15 x16 x17 x18 x19 x20 x21 f0 f1 f2 f3 f4 f5 f6 f7 f8 f9 f10 f11 f12 f13 f14 f15 f16 f17 f18 f19 f20 f21 fL fN fP fM fO) H := hP
    have hD : va_D A (mW ad kc x0 x1 x2 x3 x4 x5 x6 x7 i1 i2 x10 x11 x12 x13 x14 x15 x16 x17 x18 x19 x20 x21 f0 f1 f2 f3 f4 f5 f6 f7 f8 f9 f10 f11 f12 f13 f14 f15 f16 f17 f18 f19 f20 f21 fL fN fP fM fO) := hD
    refine lv_iconst (v := 0) hx hb dX10_failsAt_17 (by decide) ?_
    have lit_2 : (0 : Int32).toInt = 0 := by decide
    exact W.zret hx hb hr (z_nar (by first | assumption | decide | exact z_of (by omega))) (fun t ht hW => ⟨⟨_, _, rfl, rfl, i1, i2, (by first | omega | assumption | rfl | decide), (by first | omega | assumption | rfl | decide), by rw [ht]; exact hP, va_K.moved hW.alike hK, hD⟩, hS.F ht⟩) hS.2.2 dX10_failsAt_18
def mwX10_failsmq : List Cond := .code yX10_fails cX10_fails 2 (some .boolean) :: (([.fieldLink RX10 120 "PatternGateModel" "token" "I", .fieldLink RX10 123 "PatternGateModel" "begin" "I", .methodLink RX10 126 yX10_failsAt, .instanceMethod yX10_failsAt, .selects RX10 yX10_failsAt yX10_failsAt, .initialized RX10] : List Cond) ++ (wsX100 ++ (mwX10_failsAtmq)))
theorem fin_X10_failsmq_X10 : ∀ w ∈ wsX100, w ∈ mwX10_failsmq := fun w h => List.mem_cons_of_mem _ (List.mem_append_right _ (List.mem_append_left _ h))
set_option maxRecDepth 100000 in
theorem gd_mwX10_failsAtmq : mwX10_failsAtmq.all goodWord = true := by decide +kernel
set_option maxRecDepth 20000 in
theorem mg_X10_failsmq_X10_failsAt_126 : GoodIn mwX10_failsmq (wsV RX10 126 RX10 yX10_failsAt mwX10_failsAtmq) := gi_app (A := [.methodLink RX10 126 yX10_failsAt, .instanceMethod yX10_failsAt, .selects RX10 yX10_failsAt yX10_failsAt, .initialized RX10]) (goodIn_r _ [3, 4, 5, 6] (by decide +kernel) (by decide +kernel)) (gi_sub gd_mwX10_failsAtmq (fun w h => List.mem_cons_of_mem _ (List.mem_append_right _ (List.mem_append_right _ (h)))))
set_option maxHeartbeats 4000000 in
set_option maxRecDepth 100000 in
theorem m_fails_q (l : Launch) (dC : Nat → ClassId) (dI : Nat → Nat → Nat) (ad : Nat → Nat) (kc : Nat → ClassId) (x0 x1 x2 x3 x4 x5 x6 x7 x8 x9 x10 x11 x12 x13 x14 x15 x16 x17 x18 x19 x20 x21 : Int32) (f0 f1 f2 f3 f4 f5 f6 f7 f8 f9 f10 f11 f12 f13 f14 f15 f16 f17 f18 f19 f20 f21 : Nat → Int32) (fL : Nat → Nat → Int64) (fN : Nat → Nat → Int32) (fP : Nat → Nat → Nat) (fM : Nat → Nat → Int32) (fO : Nat → Nat → Int32) (sz : Nat) (i1 : Int32) (q0 : 0 ≤ x8.toInt) (q1 : 0 < i1.toInt) : Met l yX10_fails mwX10_failsmq ({ frames := 1, cells := 0, slots := 0, locals := 60 }) (va_Pc [.ref (ad 0), .int i1] (fun U => U.heap.size = sz ∧ va_P (dC, dI) vwCl (mW ad kc x0 x1 x2 x3 x4 x5 x6 x7 x8 x9 x10 x11 x12 x13 x14 x15 x16 x17 x18 x19 x20 x21 f0 f1 f2 f3 f4 f5 f6 f7 f8 f9 f10 f11 f12 f13 f14 f15 f16 f17 f18 f19 f20 f21 fL fN fP fM fO) U.heap ∧ va_K (dC, dI) vwCl (mT kc) U ∧ va_D (fun _ => True) (mW ad kc x0 x1 x2 x3 x4 x5 x6 x7 x8 x9 x10 x11 x12 x13 x14 x15 x16 x17 x18 x19 x20 x21 f0 f1 f2 f3 f4 f5 f6 f7 f8 f9 f10 f11 f12 f13 f14 f15 f16 f17 f18 f19 f20 f21 fL fN fP fM fO))) (va_Qi (fun (o9 u9 : Int32) => o9 = u9) (fun (o9 : Int32) t => ∃ (y8 y9 : Int32), (o9.toInt = 0) ∧ (0 < y8.toInt) ∧ va_P (dC, dI) vwCl (mW ad kc x0 x1 x2 x3 x4 x5 x6 x7 y8 y9 x10 x11 x12 x13 x14 x15 x16 x17 x18 x19 x20 x21 f0 f1 f2 f3 f4 f5 f6 f7 f8 f9 f10 f11 f12 f13 f14 f15 f16 f17 f18 f19 f20 f21 fL fN fP fM fO) t.heap ∧ va_K (dC, dI) vwCl (mT kc) t ∧ va_D (va_A (mW ad kc x0 x1 x2 x3 x4 x5 x6 x7 x8 x9 x10 x11 x12 x13 x14 x15 x16 x17 x18 x19 x20 x21 f0 f1 f2 f3 f4 f5 f6 f7 f8 f9 f10 f11 f12 f13 f14 f15 f16 f17 f18 f19 f20 f21 fL fN fP fM fO) sz) (mW ad kc x0 x1 x2 x3 x4 x5 x6 x7 y8 y9 x10 x11 x12 x13 x14 x15 x16 x17 x18 x19 x20 x21 f0 f1 f2 f3 f4 f5 f6 f7 f8 f9 f10 f11 f12 f13 f14 f15 f16 f17 f18 f19 f20 f21 fL fN fP fM fO)) (va_A (mW ad kc x0 x1 x2 x3 x4 x5 x6 x7 x8 x9 x10 x11 x12 x13 x14 x15 x16 x17 x18 x19 x20 x21 f0 f1 f2 f3 f4 f5 f6 f7 f8 f9 f10 f11 f12 f13 f14 f15 f16 f17 f18 f19 f20 f21 fL fN fP fM fO) sz)) 0 0 (va_A (mW ad kc x0 x1 x2 x3 x4 x5 x6 x7 x8 x9 x10 x11 x12 x13 x14 x15 x16 x17 x18 x19 x20 x21 f0 f1 f2 f3 f4 f5 f6 f7 f8 f9 f10 f11 f12 f13 f14 f15 f16 f17 f18 f19 f20 f21 fL fN fP fM fO) sz) := by
  refine Met.ofW (cc := cX10_fails) (maxL := 2) (ret := (some .boolean)) (by decide +kernel) rfl ?_
  intro p e s m args below meth c s₁ B hml hv
  obtain ⟨rfl, hsz, hP, hK, hD0⟩ := hv
  have hx := B.exec
  have hb := B.bytes
  have hr := B.returns
  have hts := atoms_spec (ws := mwX10_failsmq) B.pre
  have hown : s.vm.findClass RX10 = some m.cls := findClass_of_methodNamed B.named
  have hlocks := B.notSynchronized
  subst hsz
  have hD := hD0.self (sz := s.heap.size)
  generalize hAe : va_A (mW ad kc x0 x1 x2 x3 x4 x5 x6 x7 x8 x9 x10 x11 x12 x13 x14 x15 x16 x17 x18 x19 x20 x21 f0 f1 f2 f3 f4 f5 f6 f7 f8 f9 f10 f11 f12 f13 f14 f15 f16 f17 f18 f19 f20 f21 fL fN fP fM fO) s.heap.size = A at hD ⊢
  have hA : ∀ q : Nat, s.heap.size ≤ q → A q := fun q h => by rw [← hAe]; exact Or.inr h
  have hP : va_P (dC, dI) vwCl (mW ad kc x0 x1 x2 x3 x4 x5 x6 x7 x8 x9 x10 x11 x12 x13 x14 x15 x16 x17 x18 x19 x20 x21 f0 f1 f2 f3 f4 f5 f6 f7 f8 f9 f10 f11 f12 f13 f14 f15 f16 f17 f18 f19 f20 f21 fL fN fP fM fO) s.heap := hP
  have hD : va_D A (mW ad kc x0 x1 x2 x3 x4 x5 x6 x7 x8 x9 x10 x11 x12 x13 x14 x15 x16 x17 x18 x19 x20 x21 f0 f1 f2 f3 f4 f5 f6 f7 f8 f9 f10 f11 f12 f13 f14 f15 f16 f17 f18 f19 f20 f21 fL fN fP fM fO) := hD
  have hK : va_K (dC, dI) vwCl (mT kc) s := hK
  generalize hH : s.heap = H at hP ⊢
  have hS : va_S A s.heap H [] := by rw [← hH]; exact va_S.rf
  have hl := lv_entry ([.ref (ad 0), .int i1]) (n := 2) (Nat.le_of_ble_eq_true rfl)
  rw [lg_entry_eq]
  generalize (lg_sl ([.ref (ad 0), .int i1]) ++ List.replicate (2 - (lg_sl ([.ref (ad 0), .int i1])).length) Slot.unset).toArray = ls at hl ⊢
  have hl : lv_has ls 2 [(0, .ref (ad 0)), (1, .int i1)] := hl
  have rg_i1 := i_rng i1
  refine lv_aload_n hx hb dX10_fails_0 rfl (lv_at hl 0 rfl) ?_
  refine lv_aload_n hx hb dX10_fails_1 rfl (lv_at hl 0 rfl) ?_
  refine va_get (D := (dC, dI)) (ci := 10) (v := .int x5) (C := RX10) (T := TX10) (N := 48) hx hb hts fin_X10_failsmq_X10 hown hK hP 0 rfl rfl 8 (by decide) (hts (.fieldLink RX10 120 "PatternGateModel" "token" "I") (List.mem_of_getElem? (i := 1) (by decide +kernel))) (fun _ h9 => h9) rfl dX10_fails_2 ?_
  refine lv_iconst (v := 1) hx hb dX10_fails_5 (by decide) ?_
  refine lv_icmp_ne (tgt := 13) hx hb dX10_fails_6 (by decide) (fun k_1 => ?_) (fun k_1 => ?_)
  · have tk_1 := c_ne (a := x5.toInt) (b := 1) rfl (by decide) k_1
    refine lv_iload_n hx hb dX10_fails_13 rfl (lv_at hl 1 rfl) ?_
    refine lv_aload_n hx hb dX10_fails_14 rfl (lv_at hl 0 rfl) ?_
    refine va_get (D := (dC, dI)) (ci := 10) (v := .int x6) (C := RX10) (T := TX10) (N := 48) hx hb hts fin_X10_failsmq_X10 hown hK hP 0 rfl rfl 9 (by decide) (hts (.fieldLink RX10 123 "PatternGateModel" "begin" "I") (List.mem_of_getElem? (i := 2) (by decide +kernel))) (fun _ h9 => h9) rfl dX10_fails_15 ?_
    have hFc := m_free hD hS hA
    refine va_calli (va_runV (As := [.int i1, .int x6]) (rest := []) ⟨hx, hb, hml, hown, hts⟩ (m_failsAt_q l dC dI ad kc x0 x1 x2 x3 x4 x5 x6 x7 x8 x9 x10 x11 x12 x13 x14 x15 x16 x17 x18 x19 x20 x21 f0 f1 f2 f3 f4 f5 f6 f7 f8 f9 f10 f11 f12 f13 f14 f15 f16 f17 f18 f19 f20 f21 fL fN fP fM fO H.size i1 x6 (by first | omega | assumption | decide | (have l0 := Int32.toInt_zero; omega)) (by first | omega | assumption | decide | (have l0 := Int32.toInt_zero; omega))) (cwV 2 hts mg_X10_failsmq_X10_failsAt_126 rfl rfl rfl (by decide +kernel) ⟨Nat.le_of_ble_eq_true rfl, Nat.le_of_ble_eq_true rfl⟩) ⟨fun a U g mk q => by obtain ⟨q0, q1, qP, qK, qD⟩ := q; exact ⟨q0, q1, qP, va_K.moved (u := U) (U := U.calling g mk a) (Vm.Alike.refl U.vm) qK, qD⟩, va_recv hK hP (ci := 10) (q0 := 0) rfl rfl, fun U hU hW => ⟨rfl, by rw [hU], by rw [hU]; exact hP, va_K.moved hW.alike hK, hD.weaken (fun _ _ _ _ => trivial)⟩⟩ rfl rfl hl.1 rfl (lv_room (Nat.le_of_ble_eq_true rfl)) dX10_fails_18 ⟨Nat.le_of_ble_eq_true rfl, Nat.le_of_ble_eq_true rfl⟩) hS (fun q _ h => hFc q h) hFc (fun r_2 u t H1 locs ht hvm hw hB hz1 hk1 hS => ?_)
    subst hw
    obtain ⟨x_3, x_4, hr_2_0, hr_2_1, hP, hK1, hD1⟩ := hB
    rw [ht] at hP
    have hD := hD1.weaken (fun k q _ h => hFc q.1 h)
    clear hz1 hk1 hFc hD1 hK1 hvm
    generalize H1 = H at hP hS ⊢
    have rg_x_3 := i_rng x_3
    have rg_x_4 := i_rng x_4
    have rg_r_2 := i_rng r_2
    have hP : va_P (dC, dI) vwCl (mW ad kc x0 x1 x2 x3 x4 x5 x6 x7 x_3 x_4 x10 x11 x12 x13 x14 x15 x16 x17 x18 x19 x20 x21 f0 f1 f2 f3 f4 f5 f6 f7 f8 f9 f10 f11 f12 f13 f14 f15 f16 f17 f18 f19 f20 f21 fL fN fP fM fO) H := hP
    have hD : va_D A (mW ad kc x0 x1 x2 x3 x4 x5 x6 x7 x_3 x_4 x10 x11 x12 x13 x14 x15 x16 x17 x18 x19 x20 x21 f0 f1 f2 f3 f4 f5 f6 f7 f8 f9 f10 f11 f12 f13 f14 f15 f16 f17 f18 f19 f20 f21 fL fN fP fM fO) := hD
    exact W.zret hx hb hr (z_nar (by first | assumption | decide | exact z_of (by omega))) (fun t ht hW => ⟨⟨_, _, rfl, rfl, x_3, x_4, (by first | omega | assumption | rfl | decide), (by first | omega | assumption | rfl | decide), by rw [ht]; exact hP, va_K.moved hW.alike hK, hD⟩, hS.F ht⟩) hS.2.2 dX10_fails_21
  · have tk_1 := c_eq (a := x5.toInt) (b := 1) rfl (by decide) k_1
    refine lv_iconst (v := 1) hx hb dX10_fails_9 (by decide) ?_
    refine lv_goto (tgt := 14) hx hb dX10_fails_10 (by decide) ?_
    refine lv_aload_n hx hb dX10_fails_14 rfl (lv_at hl 0 rfl) ?_
    refine va_get (D := (dC, dI)) (ci := 10) (v := .int x6) (C := RX10) (T := TX10) (N := 48) hx hb hts fin_X10_failsmq_X10 hown hK hP 0 rfl rfl 9 (by decide) (hts (.fieldLink RX10 123 "PatternGateModel" "begin" "I") (List.mem_of_getElem? (i := 2) (by decide +kernel))) (fun _ h9 => h9) rfl dX10_fails_15 ?_
    have lit_4 : (1 : Int32).toInt = 1 := by decide
    have hFc := m_free hD hS hA
    refine va_calli (va_runV (As := [.int 1, .int x6]) (rest := []) ⟨hx, hb, hml, hown, hts⟩ (m_failsAt_q l dC dI ad kc x0 x1 x2 x3 x4 x5 x6 x7 x8 x9 x10 x11 x12 x13 x14 x15 x16 x17 x18 x19 x20 x21 f0 f1 f2 f3 f4 f5 f6 f7 f8 f9 f10 f11 f12 f13 f14 f15 f16 f17 f18 f19 f20 f21 fL fN fP fM fO H.size 1 x6 (by first | omega | assumption | decide | (have l0 := Int32.toInt_zero; omega)) (by first | omega | assumption | decide | (have l0 := Int32.toInt_zero; omega))) (cwV 2 hts mg_X10_failsmq_X10_failsAt_126 rfl rfl rfl (by decide +kernel) ⟨Nat.le_of_ble_eq_true rfl, Nat.le_of_ble_eq_true rfl⟩) ⟨fun a U g mk q => by obtain ⟨q0, q1, qP, qK, qD⟩ := q; exact ⟨q0, q1, qP, va_K.moved (u := U) (U := U.calling g mk a) (Vm.Alike.refl U.vm) qK, qD⟩, va_recv hK hP (ci := 10) (q0 := 0) rfl rfl, fun U hU hW => ⟨rfl, by rw [hU], by rw [hU]; exact hP, va_K.moved hW.alike hK, hD.weaken (fun _ _ _ _ => trivial)⟩⟩ rfl rfl hl.1 rfl (lv_room (Nat.le_of_ble_eq_true rfl)) dX10_fails_18 ⟨Nat.le_of_ble_eq_true rfl, Nat.le_of_ble_eq_true rfl⟩) hS (fun q _ h => hFc q h) hFc (fun r_6 u t H1 locs ht hvm hw hB hz1 hk1 hS => ?_)
    subst hw
    obtain ⟨x_7, x_8, hr_6_0, hr_6_1, hP, hK1, hD1⟩ := hB
    rw [ht] at hP
    have hD := hD1.weaken (fun k q _ h => hFc q.1 h)
    clear hz1 hk1 hFc hD1 hK1 hvm
    generalize H1 = H at hP hS ⊢
    have rg_x_7 := i_rng x_7
    have rg_x_8 := i_rng x_8
    have rg_r_6 := i_rng r_6
    have hP : va_P (dC, dI) vwCl (mW ad kc x0 x1 x2 x3 x4 x5 x6 x7 x_7 x_8 x10 x11 x12 x13 x14 x15 x16 x17 x18 x19 x20 x21 f0 f1 f2 f3 f4 f5 f6 f7 f8 f9 f10 f11 f12 f13 f14 f15 f16 f17 f18 f19 f20 f21 fL fN fP fM fO) H := hP
    have hD : va_D A (mW ad kc x0 x1 x2 x3 x4 x5 x6 x7 x_7 x_8 x10 x11 x12 x13 x14 x15 x16 x17 x18 x19 x20 x21 f0 f1 f2 f3 f4 f5 f6 f7 f8 f9 f10 f11 f12 f13 f14 f15 f16 f17 f18 f19 f20 f21 fL fN fP fM fO) := hD
    exact W.zret hx hb hr (z_nar (by first | assumption | decide | exact z_of (by omega))) (fun t ht hW => ⟨⟨_, _, rfl, rfl, x_7, x_8, (by first | omega | assumption | rfl | decide), (by first | omega | assumption | rfl | decide), by rw [ht]; exact hP, va_K.moved hW.alike hK, hD⟩, hS.F ht⟩) hS.2.2 dX10_fails_21
def mwX10_hasmq : List Cond := .code yX10_has cX10_has 2 (some .boolean) :: (([] : List Cond))
set_option maxHeartbeats 4000000 in
set_option maxRecDepth 100000 in
theorem m_has_q (l : Launch) (dC : Nat → ClassId) (dI : Nat → Nat → Nat)  (i1 i2 : Int32) (q0 : 0 ≤ i2.toInt) (q1 : i2.toInt < 26) : Met l yX10_has mwX10_hasmq ({ frames := 0, cells := 0, slots := 0, locals := 0 }) (va_Pc [.int i1, .int i2] (fun _ => True)) (vp_Si (fun o9 => (o9.toInt = 1 ∧ (bt i1 i2.toInt.toNat = true) ∨ o9.toInt = 0 ∧ (bt i1 i2.toInt.toNat = false)))) 0 0 (fun _ => False) := by
  refine Met.ofW (cc := cX10_has) (maxL := 2) (ret := (some .boolean)) (by decide +kernel) rfl ?_
  intro p e s m args below meth c s₁ B hml hv
  obtain ⟨rfl, -⟩ := hv
  have hx := B.exec
  have hb := B.bytes
  have hr := B.returns
  have hts := atoms_spec (ws := mwX10_hasmq) B.pre
  have hown : s.vm.findClass RX10 = some m.cls := findClass_of_methodNamed B.named
  have hlocks := B.notSynchronized
  have hl := lv_entry ([.int i1, .int i2]) (n := 2) (Nat.le_of_ble_eq_true rfl)
  rw [lg_entry_eq]
  generalize (lg_sl ([.int i1, .int i2]) ++ List.replicate (2 - (lg_sl ([.int i1, .int i2])).length) Slot.unset).toArray = ls at hl ⊢
  have hl : lv_has ls 2 [(0, .int i1), (1, .int i2)] := hl
  have rg_i1 := i_rng i1
  have rg_i2 := i_rng i2
  refine lv_iload_n hx hb dX10_has_0 rfl (lv_at hl 0 rfl) ?_
  refine lv_iload_n hx hb dX10_has_1 rfl (lv_at hl 1 rfl) ?_
  refine lv_ishr hx hb dX10_has_2 ?_
  refine lv_topi (fun y_1 ey_1 => ?_)
  have rg_y_1 := i_rng y_1
  refine lv_iconst (v := 1) hx hb dX10_has_3 (by decide) ?_
  refine lv_iand hx hb dX10_has_4 ?_
  refine lv_topi (fun y_2 ey_2 => ?_)
  have ty_2 := i_and (b := 1) (by decide) (by decide) ey_2
  refine lv_iconst (v := 1) hx hb dX10_has_5 (by decide) ?_
  refine lv_icmp_ne (tgt := 13) hx hb dX10_has_6 (by decide) (fun k_3 => ?_) (fun k_3 => ?_)
  · have tk_3 := c_ne (a := y_2.toInt) (b := 1) rfl (by decide) k_3
    refine lv_iconst (v := 0) hx hb dX10_has_13 (by decide) ?_
    have lit_3 : (0 : Int32).toInt = 0 := by decide
    exact W.zret hx hb hr (z_nar (by first | assumption | decide | exact z_of (by omega))) (fun t ht hW => ⟨_, rfl, (Or.inr ⟨by decide, bit_hasF (by omega) (by omega) ey_1 ey_2 tk_3⟩), ht⟩) t_nil dX10_has_14
  · have tk_3 := c_eq (a := y_2.toInt) (b := 1) rfl (by decide) k_3
    refine lv_iconst (v := 1) hx hb dX10_has_9 (by decide) ?_
    refine lv_goto (tgt := 14) hx hb dX10_has_10 (by decide) ?_
    have lit_4 : (1 : Int32).toInt = 1 := by decide
    exact W.zret hx hb hr (z_nar (by first | assumption | decide | exact z_of (by omega))) (fun t ht hW => ⟨_, rfl, (Or.inl ⟨by decide, bit_hasT (by omega) (by omega) ey_1 ey_2 tk_3⟩), ht⟩) t_nil dX10_has_14
def mwX10_isSetAtmq : List Cond := .code yX10_isSetAt cX10_isSetAt 3 (some .boolean) :: (([.fieldLink RX10 130 "PatternGateModel" "end" "I", .methodLink RX10 133 yX10_byteAt, .instanceMethod yX10_byteAt, .selects RX10 yX10_byteAt yX10_byteAt, .initialized RX10, .methodLink RX10 137 yX10_isSmall, .static yX10_isSmall, .methodLink RX10 126 yX10_failsAt, .instanceMethod yX10_failsAt, .selects RX10 yX10_failsAt yX10_failsAt, .methodLink RX10 170 yX10_has, .static yX10_has] : List Cond) ++ (wsX100 ++ (mwX10_byteAtm ++ (mwX10_isSmallm ++ (mwX10_failsAtmq ++ (mwX10_hasmq))))))
theorem fin_X10_isSetAtmq_X10 : ∀ w ∈ wsX100, w ∈ mwX10_isSetAtmq := fun w h => List.mem_cons_of_mem _ (List.mem_append_right _ (List.mem_append_left _ h))
set_option maxRecDepth 100000 in
theorem gd_mwX10_isSmallm : mwX10_isSmallm.all goodWord = true := by decide +kernel
set_option maxRecDepth 100000 in
theorem gd_mwX10_hasmq : mwX10_hasmq.all goodWord = true := by decide +kernel
set_option maxRecDepth 20000 in
theorem mg_X10_isSetAtmq_X10_byteAt_133 : GoodIn mwX10_isSetAtmq (wsV RX10 133 RX10 yX10_byteAt mwX10_byteAtm) := gi_app (A := [.methodLink RX10 133 yX10_byteAt, .instanceMethod yX10_byteAt, .selects RX10 yX10_byteAt yX10_byteAt, .initialized RX10]) (goodIn_r _ [2, 3, 4, 5] (by decide +kernel) (by decide +kernel)) (gi_sub gd_mwX10_byteAtm (fun w h => List.mem_cons_of_mem _ (List.mem_append_right _ (List.mem_append_right _ (List.mem_append_left _ h)))))
set_option maxRecDepth 20000 in
theorem mg_X10_isSetAtmq_X10_isSmall_137 : GoodIn mwX10_isSetAtmq (va_wsS RX10 137 yX10_isSmall mwX10_isSmallm) := gi_app (A := [.methodLink RX10 137 yX10_isSmall, .static yX10_isSmall, .initialized RX10]) (goodIn_r _ [6, 7, 5] (by decide +kernel) (by decide +kernel)) (gi_sub gd_mwX10_isSmallm (fun w h => List.mem_cons_of_mem _ (List.mem_append_right _ (List.mem_append_right _ (List.mem_append_right _ (List.mem_append_left _ h))))))
set_option maxRecDepth 20000 in
theorem mg_X10_isSetAtmq_X10_failsAt_126 : GoodIn mwX10_isSetAtmq (wsV RX10 126 RX10 yX10_failsAt mwX10_failsAtmq) := gi_app (A := [.methodLink RX10 126 yX10_failsAt, .instanceMethod yX10_failsAt, .selects RX10 yX10_failsAt yX10_failsAt, .initialized RX10]) (goodIn_r _ [8, 9, 10, 5] (by decide +kernel) (by decide +kernel)) (gi_sub gd_mwX10_failsAtmq (fun w h => List.mem_cons_of_mem _ (List.mem_append_right _ (List.mem_append_right _ (List.mem_append_right _ (List.mem_append_right _ (List.mem_append_left _ h)))))))
set_option maxRecDepth 20000 in
theorem mg_X10_isSetAtmq_X10_has_170 : GoodIn mwX10_isSetAtmq (va_wsS RX10 170 yX10_has mwX10_hasmq) := gi_app (A := [.methodLink RX10 170 yX10_has, .static yX10_has, .initialized RX10]) (goodIn_r _ [11, 12, 5] (by decide +kernel) (by decide +kernel)) (gi_sub gd_mwX10_hasmq (fun w h => List.mem_cons_of_mem _ (List.mem_append_right _ (List.mem_append_right _ (List.mem_append_right _ (List.mem_append_right _ (List.mem_append_right _ (h))))))))
set_option maxHeartbeats 4000000 in
set_option maxRecDepth 100000 in
theorem m_isSetAt_q (l : Launch) (dC : Nat → ClassId) (dI : Nat → Nat → Nat) (ad : Nat → Nat) (kc : Nat → ClassId) (x0 x1 x2 x3 x4 x5 x6 x7 x8 x9 x10 x11 x12 x13 x14 x15 x16 x17 x18 x19 x20 x21 : Int32) (f0 f1 f2 f3 f4 f5 f6 f7 f8 f9 f10 f11 f12 f13 f14 f15 f16 f17 f18 f19 f20 f21 : Nat → Int32) (fL : Nat → Nat → Int64) (fN : Nat → Nat → Int32) (fP : Nat → Nat → Nat) (fM : Nat → Nat → Int32) (fO : Nat → Nat → Int32) (sz : Nat) (q0 : 0 ≤ x7.toInt) (q1 : x7.toInt ≤ x4.toInt) (q2 : x4.toInt ≤ 900) (q3 : 0 ≤ x8.toInt) : Met l yX10_isSetAt mwX10_isSetAtmq ({ frames := 1, cells := 0, slots := 0, locals := 60 }) (va_Pc [.ref (ad 0)] (fun U => U.heap.size = sz ∧ va_P (dC, dI) vwCl (mW ad kc x0 x1 x2 x3 x4 x5 x6 x7 x8 x9 x10 x11 x12 x13 x14 x15 x16 x17 x18 x19 x20 x21 f0 f1 f2 f3 f4 f5 f6 f7 f8 f9 f10 f11 f12 f13 f14 f15 f16 f17 f18 f19 f20 f21 fL fN fP fM fO) U.heap ∧ va_K (dC, dI) vwCl (mT kc) U ∧ va_D (fun _ => True) (mW ad kc x0 x1 x2 x3 x4 x5 x6 x7 x8 x9 x10 x11 x12 x13 x14 x15 x16 x17 x18 x19 x20 x21 f0 f1 f2 f3 f4 f5 f6 f7 f8 f9 f10 f11 f12 f13 f14 f15 f16 f17 f18 f19 f20 f21 fL fN fP fM fO))) (va_Qi (fun (o9 u9 : Int32) => o9 = u9) (fun (o9 : Int32) t => ∃ (y7 y8 y9 : Int32), (x7.toInt ≤ y7.toInt) ∧ (y7.toInt ≤ x4.toInt) ∧ (o9.toInt = 1 ∧ (pSet (tx f2 x4.toInt) x7.toInt (y7.toInt - 1) ∧ x7.toInt < y7.toInt) ∨ o9.toInt = 0) ∧ (seR (tx f2 x4.toInt) x7.toInt y7.toInt o9.toInt) ∧ (o9.toInt = 1 ∧ y8.toInt = x8.toInt ∨ o9.toInt = 0 ∧ 0 < y8.toInt) ∧ va_P (dC, dI) vwCl (mW ad kc x0 x1 x2 x3 x4 x5 x6 y7 y8 y9 x10 x11 x12 x13 x14 x15 x16 x17 x18 x19 x20 x21 f0 f1 f2 f3 f4 f5 f6 f7 f8 f9 f10 f11 f12 f13 f14 f15 f16 f17 f18 f19 f20 f21 fL fN fP fM fO) t.heap ∧ va_K (dC, dI) vwCl (mT kc) t ∧ va_D (va_A (mW ad kc x0 x1 x2 x3 x4 x5 x6 x7 x8 x9 x10 x11 x12 x13 x14 x15 x16 x17 x18 x19 x20 x21 f0 f1 f2 f3 f4 f5 f6 f7 f8 f9 f10 f11 f12 f13 f14 f15 f16 f17 f18 f19 f20 f21 fL fN fP fM fO) sz) (mW ad kc x0 x1 x2 x3 x4 x5 x6 y7 y8 y9 x10 x11 x12 x13 x14 x15 x16 x17 x18 x19 x20 x21 f0 f1 f2 f3 f4 f5 f6 f7 f8 f9 f10 f11 f12 f13 f14 f15 f16 f17 f18 f19 f20 f21 fL fN fP fM fO)) (va_A (mW ad kc x0 x1 x2 x3 x4 x5 x6 x7 x8 x9 x10 x11 x12 x13 x14 x15 x16 x17 x18 x19 x20 x21 f0 f1 f2 f3 f4 f5 f6 f7 f8 f9 f10 f11 f12 f13 f14 f15 f16 f17 f18 f19 f20 f21 fL fN fP fM fO) sz)) 0 0 (va_A (mW ad kc x0 x1 x2 x3 x4 x5 x6 x7 x8 x9 x10 x11 x12 x13 x14 x15 x16 x17 x18 x19 x20 x21 f0 f1 f2 f3 f4 f5 f6 f7 f8 f9 f10 f11 f12 f13 f14 f15 f16 f17 f18 f19 f20 f21 fL fN fP fM fO) sz) := by
  refine Met.ofW (cc := cX10_isSetAt) (maxL := 3) (ret := (some .boolean)) (by decide +kernel) rfl ?_
  intro p e s m args below meth c s₁ B hml hv
  obtain ⟨rfl, hsz, hP, hK, hD0⟩ := hv
  have hx := B.exec
  have hb := B.bytes
  have hr := B.returns
  have hts := atoms_spec (ws := mwX10_isSetAtmq) B.pre
  have hown : s.vm.findClass RX10 = some m.cls := findClass_of_methodNamed B.named
  have hlocks := B.notSynchronized
  subst hsz
  have hD := hD0.self (sz := s.heap.size)
  generalize hAe : va_A (mW ad kc x0 x1 x2 x3 x4 x5 x6 x7 x8 x9 x10 x11 x12 x13 x14 x15 x16 x17 x18 x19 x20 x21 f0 f1 f2 f3 f4 f5 f6 f7 f8 f9 f10 f11 f12 f13 f14 f15 f16 f17 f18 f19 f20 f21 fL fN fP fM fO) s.heap.size = A at hD ⊢
  have hA : ∀ q : Nat, s.heap.size ≤ q → A q := fun q h => by rw [← hAe]; exact Or.inr h
  have hP : va_P (dC, dI) vwCl (mW ad kc x0 x1 x2 x3 x4 x5 x6 x7 x8 x9 x10 x11 x12 x13 x14 x15 x16 x17 x18 x19 x20 x21 f0 f1 f2 f3 f4 f5 f6 f7 f8 f9 f10 f11 f12 f13 f14 f15 f16 f17 f18 f19 f20 f21 fL fN fP fM fO) s.heap := hP
  have hD : va_D A (mW ad kc x0 x1 x2 x3 x4 x5 x6 x7 x8 x9 x10 x11 x12 x13 x14 x15 x16 x17 x18 x19 x20 x21 f0 f1 f2 f3 f4 f5 f6 f7 f8 f9 f10 f11 f12 f13 f14 f15 f16 f17 f18 f19 f20 f21 fL fN fP fM fO) := hD
  have hK : va_K (dC, dI) vwCl (mT kc) s := hK
  generalize hH : s.heap = H at hP ⊢
  have hS : va_S A s.heap H [] := by rw [← hH]; exact va_S.rf
  have hl := lv_entry ([.ref (ad 0)]) (n := 3) (Nat.le_of_ble_eq_true rfl)
  rw [lg_entry_eq]
  generalize (lg_sl ([.ref (ad 0)]) ++ List.replicate (3 - (lg_sl ([.ref (ad 0)])).length) Slot.unset).toArray = ls at hl ⊢
  have hl : lv_has ls 3 [(0, .ref (ad 0))] := hl
  refine lv_iconst (v := 0) hx hb dX10_isSetAt_0 (by decide) ?_
  refine lv_istore_n (lv' := [(1, .int 0), (0, .ref (ad 0))]) hx hb dX10_isSetAt_1 rfl hl (by decide) rfl (fun ls hl => ?_)
  have loop2 : ∀ (lm2 : Nat) (st ea : Int32), (x7.toInt ≤ ea.toInt) → (ea.toInt ≤ x4.toInt) → (∀ k : Int, x7.toInt ≤ k → k < ea.toInt → isSm (tx f2 x4.toInt k)) → (∀ sp op d p, Ld (tx f2 x4.toInt) (zSt x7.toInt x7.toInt sp op d p) (zSt ea.toInt x7.toInt sp op d p)) → (mk26 (tx f2 x4.toInt) st x7.toInt ea.toInt) → ((x4.toInt - ea.toInt).toNat) < lm2 → ∀ (H : Heap) (locs : List Loc) (ls : Array Slot), va_P (dC, dI) vwCl (mW ad kc x0 x1 x2 x3 x4 x5 x6 ea x8 x9 x10 x11 x12 x13 x14 x15 x16 x17 x18 x19 x20 x21 f0 f1 f2 f3 f4 f5 f6 f7 f8 f9 f10 f11 f12 f13 f14 f15 f16 f17 f18 f19 f20 f21 fL fN fP fM fO) H → va_D A (mW ad kc x0 x1 x2 x3 x4 x5 x6 ea x8 x9 x10 x11 x12 x13 x14 x15 x16 x17 x18 x19 x20 x21 f0 f1 f2 f3 f4 f5 f6 f7 f8 f9 f10 f11 f12 f13 f14 f15 f16 f17 f18 f19 f20 f21 fL fN fP fM fO) → va_S A s.heap H locs → lv_has ls 3 [(1, .int st), (0, .ref (ad 0))] → W p l e (headSpec mwX10_isSetAtmq ({ frames := 1, cells := 0, slots := 0, locals := 60 })).room s m ([.ref (ad 0)]).toArray below meth c H locs 0 0 (MQ below (va_Qi (fun (o9 u9 : Int32) => o9 = u9) (fun (o9 : Int32) t => ∃ (y7 y8 y9 : Int32), (x7.toInt ≤ y7.toInt) ∧ (y7.toInt ≤ x4.toInt) ∧ (o9.toInt = 1 ∧ (pSet (tx f2 x4.toInt) x7.toInt (y7.toInt - 1) ∧ x7.toInt < y7.toInt) ∨ o9.toInt = 0) ∧ (seR (tx f2 x4.toInt) x7.toInt y7.toInt o9.toInt) ∧ (o9.toInt = 1 ∧ y8.toInt = x8.toInt ∨ o9.toInt = 0 ∧ 0 < y8.toInt) ∧ va_P (dC, dI) vwCl (mW ad kc x0 x1 x2 x3 x4 x5 x6 y7 y8 y9 x10 x11 x12 x13 x14 x15 x16 x17 x18 x19 x20 x21 f0 f1 f2 f3 f4 f5 f6 f7 f8 f9 f10 f11 f12 f13 f14 f15 f16 f17 f18 f19 f20 f21 fL fN fP fM fO) t.heap ∧ va_K (dC, dI) vwCl (mT kc) t ∧ va_D A (mW ad kc x0 x1 x2 x3 x4 x5 x6 y7 y8 y9 x10 x11 x12 x13 x14 x15 x16 x17 x18 x19 x20 x21 f0 f1 f2 f3 f4 f5 f6 f7 f8 f9 f10 f11 f12 f13 f14 f15 f16 f17 f18 f19 f20 f21 fL fN fP fM fO)) A) ([.ref (ad 0)]).toArray s 0 0 A) (F0 m 2 ls []) := by
    intro lm2
    induction lm2 with
    | zero => intro st ea v2_0 v2_1 v2_2 v2_3 v2_4 hm2; exact absurd hm2 (Nat.not_lt_zero _)
    | succ lm2 ih2 =>
      intro st ea v2_0 v2_1 v2_2 v2_3 v2_4 hm2 H locs ls hP hD hS hl
      have rg_st := i_rng st
      have rg_ea := i_rng ea
      refine lv_aload_n hx hb dX10_isSetAt_2 rfl (lv_at hl 1 rfl) ?_
      refine lv_aload_n hx hb dX10_isSetAt_3 rfl (lv_at hl 1 rfl) ?_
      refine va_get (D := (dC, dI)) (ci := 10) (v := .int ea) (C := RX10) (T := TX10) (N := 48) hx hb hts fin_X10_isSetAtmq_X10 hown hK hP 0 rfl rfl 10 (by decide) (hts (.fieldLink RX10 130 "PatternGateModel" "end" "I") (List.mem_of_getElem? (i := 1) (by decide +kernel))) (fun _ h9 => h9) rfl dX10_isSetAt_4 ?_
      refine vp_callSi (W.runV (As := [.int ea]) (rest := []) ⟨hx, hb, hml, hown, hts⟩ (m_byteAt l dC dI ad kc x0 x1 x2 x3 x4 x5 x6 ea x8 x9 x10 x11 x12 x13 x14 x15 x16 x17 x18 x19 x20 x21 f0 f1 f2 f3 f4 f5 f6 f7 f8 f9 f10 f11 f12 f13 f14 f15 f16 f17 f18 f19 f20 f21 fL fN fP fM fO ea (by first | omega | assumption | decide | (have l0 := Int32.toInt_zero; omega)) (by first | omega | assumption | decide | (have l0 := Int32.toInt_zero; omega))) (cwV 1 hts mg_X10_isSetAtmq_X10_byteAt_133 rfl rfl rfl (by decide +kernel) ⟨Nat.le_of_ble_eq_true rfl, Nat.le_of_ble_eq_true rfl⟩) ⟨fun a U g mk q => by obtain ⟨q0, qP, qK⟩ := q; exact ⟨q0, qP, va_K.moved (u := U) (U := U.calling g mk a) (Vm.Alike.refl U.vm) qK⟩, va_recv hK hP (ci := 10) (q0 := 0) rfl rfl, fun U hU hW => ⟨rfl, by rw [hU]; exact hP, va_K.moved hW.alike hK⟩⟩ rfl rfl hl.1 rfl (lv_room (Nat.le_of_ble_eq_true rfl)) dX10_isSetAt_7 ⟨Nat.le_of_ble_eq_true rfl, Nat.le_of_ble_eq_true rfl⟩) (fun r_1 hr_1 => ?_)
      have rg_r_1 := i_rng r_1
      refine vp_callSi (W.runS (As := [.int r_1]) (rest := []) ⟨hx, hb, hml, hown, hts⟩ (m_isSmall l dC dI  r_1 ) (va_cwS 1 hts mg_X10_isSetAtmq_X10_isSmall_137 rfl rfl rfl (by decide +kernel) ⟨Nat.le_of_ble_eq_true rfl, Nat.le_of_ble_eq_true rfl⟩) ⟨fun a U g mk q => ⟨q.1, trivial⟩, fun U hU hW => ⟨rfl, trivial⟩⟩ rfl rfl hl.1 rfl (lv_room (Nat.le_of_ble_eq_true rfl)) dX10_isSetAt_10 ⟨Nat.le_of_ble_eq_true rfl, Nat.le_of_ble_eq_true rfl⟩) (fun r_2 hr_2 => ?_)
      have rg_r_2 := i_rng r_2
      refine lv_if_eq (tgt := 65) hx hb dX10_isSetAt_13 (by decide) (fun k_3 => ?_) (fun k_3 => ?_)
      · have tk_3 := c_eq (a := r_2.toInt) (b := 0) rfl (by decide) k_3
        refine lv_iload_n hx hb dX10_isSetAt_65 rfl (lv_at hl 0 rfl) ?_
        refine lv_if_eq (tgt := 82) hx hb dX10_isSetAt_66 (by decide) (fun k_4 => ?_) (fun k_4 => ?_)
        · have tk_4 := c_eq (a := st.toInt) (b := 0) rfl (by decide) k_4
          refine lv_aload_n hx hb dX10_isSetAt_82 rfl (lv_at hl 1 rfl) ?_
          refine lv_iconst (v := 1) hx hb dX10_isSetAt_83 (by decide) ?_
          refine lv_aload_n hx hb dX10_isSetAt_84 rfl (lv_at hl 1 rfl) ?_
          refine va_get (D := (dC, dI)) (ci := 10) (v := .int ea) (C := RX10) (T := TX10) (N := 48) hx hb hts fin_X10_isSetAtmq_X10 hown hK hP 0 rfl rfl 10 (by decide) (hts (.fieldLink RX10 130 "PatternGateModel" "end" "I") (List.mem_of_getElem? (i := 1) (by decide +kernel))) (fun _ h9 => h9) rfl dX10_isSetAt_85 ?_
          have lit_4 : (1 : Int32).toInt = 1 := by decide
          have hFc := m_free hD hS hA
          refine va_calli (va_runV (As := [.int 1, .int ea]) (rest := []) ⟨hx, hb, hml, hown, hts⟩ (m_failsAt_q l dC dI ad kc x0 x1 x2 x3 x4 x5 x6 ea x8 x9 x10 x11 x12 x13 x14 x15 x16 x17 x18 x19 x20 x21 f0 f1 f2 f3 f4 f5 f6 f7 f8 f9 f10 f11 f12 f13 f14 f15 f16 f17 f18 f19 f20 f21 fL fN fP fM fO H.size 1 ea (by first | omega | assumption | decide | (have l0 := Int32.toInt_zero; omega)) (by first | omega | assumption | decide | (have l0 := Int32.toInt_zero; omega))) (cwV 2 hts mg_X10_isSetAtmq_X10_failsAt_126 rfl rfl rfl (by decide +kernel) ⟨Nat.le_of_ble_eq_true rfl, Nat.le_of_ble_eq_true rfl⟩) ⟨fun a U g mk q => by obtain ⟨q0, q1, qP, qK, qD⟩ := q; exact ⟨q0, q1, qP, va_K.moved (u := U) (U := U.calling g mk a) (Vm.Alike.refl U.vm) qK, qD⟩, va_recv hK hP (ci := 10) (q0 := 0) rfl rfl, fun U hU hW => ⟨rfl, by rw [hU], by rw [hU]; exact hP, va_K.moved hW.alike hK, hD.weaken (fun _ _ _ _ => trivial)⟩⟩ rfl rfl hl.1 rfl (lv_room (Nat.le_of_ble_eq_true rfl)) dX10_isSetAt_88 ⟨Nat.le_of_ble_eq_true rfl, Nat.le_of_ble_eq_true rfl⟩) hS (fun q _ h => hFc q h) hFc (fun r_6 u t H1 locs ht hvm hw hB hz1 hk1 hS => ?_)
          subst hw
          obtain ⟨x_7, x_8, hr_6_0, hr_6_1, hP, hK1, hD1⟩ := hB
          rw [ht] at hP
          have hD := hD1.weaken (fun k q _ h => hFc q.1 h)
          clear hz1 hk1 hFc hD1 hK1 hvm
          generalize H1 = H at hP hS ⊢
          have rg_x_7 := i_rng x_7
          have rg_x_8 := i_rng x_8
          have rg_r_6 := i_rng r_6
          have hP : va_P (dC, dI) vwCl (mW ad kc x0 x1 x2 x3 x4 x5 x6 ea x_7 x_8 x10 x11 x12 x13 x14 x15 x16 x17 x18 x19 x20 x21 f0 f1 f2 f3 f4 f5 f6 f7 f8 f9 f10 f11 f12 f13 f14 f15 f16 f17 f18 f19 f20 f21 fL fN fP fM fO) H := hP
          have hD : va_D A (mW ad kc x0 x1 x2 x3 x4 x5 x6 ea x_7 x_8 x10 x11 x12 x13 x14 x15 x16 x17 x18 x19 x20 x21 f0 f1 f2 f3 f4 f5 f6 f7 f8 f9 f10 f11 f12 f13 f14 f15 f16 f17 f18 f19 f20 f21 fL fN fP fM fO) := hD
          exact W.zret hx hb hr (z_nar (by first | assumption | decide | exact z_of (by omega))) (fun t ht hW => ⟨⟨_, _, rfl, rfl, ea, x_7, x_8, (by first | omega | assumption | rfl | decide), (by first | omega | assumption | rfl | decide), (Or.inr (by first | omega | decide)), (seR_bad v2_3 (by unfold isSm; omega) (Or.inr (seR_z v2_4 v2_2 (by omega) tk_4)) (by omega)), (by first | omega | assumption | rfl | decide), by rw [ht]; exact hP, va_K.moved hW.alike hK, hD⟩, hS.F ht⟩) hS.2.2 dX10_isSetAt_91
        · have tk_4 := c_ne (a := st.toInt) (b := 0) rfl (by decide) k_4
          have hfk9 := seR_nz v2_4 (by omega) tk_4
          refine lv_aload_n hx hb dX10_isSetAt_69 rfl (lv_at hl 1 rfl) ?_
          refine lv_aload_n hx hb dX10_isSetAt_70 rfl (lv_at hl 1 rfl) ?_
          refine va_get (D := (dC, dI)) (ci := 10) (v := .int ea) (C := RX10) (T := TX10) (N := 48) hx hb hts fin_X10_isSetAtmq_X10 hown hK hP 0 rfl rfl 10 (by decide) (hts (.fieldLink RX10 130 "PatternGateModel" "end" "I") (List.mem_of_getElem? (i := 1) (by decide +kernel))) (fun _ h9 => h9) rfl dX10_isSetAt_71 ?_
          refine vp_callSi (W.runV (As := [.int ea]) (rest := []) ⟨hx, hb, hml, hown, hts⟩ (m_byteAt l dC dI ad kc x0 x1 x2 x3 x4 x5 x6 ea x8 x9 x10 x11 x12 x13 x14 x15 x16 x17 x18 x19 x20 x21 f0 f1 f2 f3 f4 f5 f6 f7 f8 f9 f10 f11 f12 f13 f14 f15 f16 f17 f18 f19 f20 f21 fL fN fP fM fO ea (by first | omega | assumption | decide | (have l0 := Int32.toInt_zero; omega)) (by first | omega | assumption | decide | (have l0 := Int32.toInt_zero; omega))) (cwV 1 hts mg_X10_isSetAtmq_X10_byteAt_133 rfl rfl rfl (by decide +kernel) ⟨Nat.le_of_ble_eq_true rfl, Nat.le_of_ble_eq_true rfl⟩) ⟨fun a U g mk q => by obtain ⟨q0, qP, qK⟩ := q; exact ⟨q0, qP, va_K.moved (u := U) (U := U.calling g mk a) (Vm.Alike.refl U.vm) qK⟩, va_recv hK hP (ci := 10) (q0 := 0) rfl rfl, fun U hU hW => ⟨rfl, by rw [hU]; exact hP, va_K.moved hW.alike hK⟩⟩ rfl rfl hl.1 rfl (lv_room (Nat.le_of_ble_eq_true rfl)) dX10_isSetAt_74 ⟨Nat.le_of_ble_eq_true rfl, Nat.le_of_ble_eq_true rfl⟩) (fun r_9 hr_9 => ?_)
          have rg_r_9 := i_rng r_9
          refine lv_bipush (v := 93) hx hb dX10_isSetAt_77 (by decide) ?_
          refine lv_icmp_eq (tgt := 92) hx hb dX10_isSetAt_79 (by decide) (fun k_10 => ?_) (fun k_10 => ?_)
          · have tk_10 := c_eq (a := r_9.toInt) (b := 93) rfl (by decide) k_10
            refine lv_aload_n hx hb dX10_isSetAt_92 rfl (lv_at hl 1 rfl) ?_
            refine lv_dup hx hb dX10_isSetAt_93 rfl ?_
            refine va_get (D := (dC, dI)) (ci := 10) (v := .int ea) (C := RX10) (T := TX10) (N := 48) hx hb hts fin_X10_isSetAtmq_X10 hown hK hP 0 rfl rfl 10 (by decide) (hts (.fieldLink RX10 130 "PatternGateModel" "end" "I") (List.mem_of_getElem? (i := 1) (by decide +kernel))) (fun _ h9 => h9) rfl dX10_isSetAt_94 ?_
            refine lv_iconst (v := 1) hx hb dX10_isSetAt_97 (by decide) ?_
            refine lv_iadd hx hb dX10_isSetAt_98 ?_
            refine lv_topi (fun y_11 ey_11 => ?_)
            first | have ty_11 := i_add (a := ea.toInt) (b := 1) rfl (by decide) ey_11 (by omega) (by omega) | skip
            refine va_put (D := (dC, dI)) (ci := 10) (v := .int y_11) (ty := .int) (C := RX10) (T := TX10) (N := 48) hx hb hts fin_X10_isSetAtmq_X10 tyX10 tyX10_ok nmX10 hown hK hP hD hS 0 rfl rfl 10 (by decide) (hts (.fieldLink RX10 130 "PatternGateModel" "end" "I") (List.mem_of_getElem? (i := 1) (by decide +kernel))) (fun _ h9 => h9) rfl (by decide +kernel) rfl rfl (Nat.le_of_ble_eq_true rfl) dX10_isSetAt_99 (fun H locs hP hD hS => ?_)
            have hP : va_P (dC, dI) vwCl (mW ad kc x0 x1 x2 x3 x4 x5 x6 y_11 x8 x9 x10 x11 x12 x13 x14 x15 x16 x17 x18 x19 x20 x21 f0 f1 f2 f3 f4 f5 f6 f7 f8 f9 f10 f11 f12 f13 f14 f15 f16 f17 f18 f19 f20 f21 fL fN fP fM fO) H := hP
            have hD : va_D A (mW ad kc x0 x1 x2 x3 x4 x5 x6 y_11 x8 x9 x10 x11 x12 x13 x14 x15 x16 x17 x18 x19 x20 x21 f0 f1 f2 f3 f4 f5 f6 f7 f8 f9 f10 f11 f12 f13 f14 f15 f16 f17 f18 f19 f20 f21 fL fN fP fM fO) := hD
            refine lv_iconst (v := 1) hx hb dX10_isSetAt_102 (by decide) ?_
            have lit_11 : (1 : Int32).toInt = 1 := by decide
            exact W.zret hx hb hr (z_nar (by first | assumption | decide | exact z_of (by omega))) (fun t ht hW => ⟨⟨_, _, rfl, rfl, y_11, x8, x9, (by first | omega | assumption | rfl | decide), (by first | omega | assumption | rfl | decide), (Or.inl ⟨by decide, ⟨by omega, fun k a b => v2_2 k a (by omega), by rw [show y_11.toInt - 1 = ea.toInt by omega]; omega⟩, by omega⟩), (seR_end v2_3 (by omega) (by omega) (by omega) (by decide)), (by first | omega | assumption | rfl | decide), by rw [ht]; exact hP, va_K.moved hW.alike hK, hD⟩, hS.F ht⟩) hS.2.2 dX10_isSetAt_103
          · have tk_10 := c_ne (a := r_9.toInt) (b := 93) rfl (by decide) k_10
            refine lv_aload_n hx hb dX10_isSetAt_82 rfl (lv_at hl 1 rfl) ?_
            refine lv_iconst (v := 1) hx hb dX10_isSetAt_83 (by decide) ?_
            refine lv_aload_n hx hb dX10_isSetAt_84 rfl (lv_at hl 1 rfl) ?_
            refine va_get (D := (dC, dI)) (ci := 10) (v := .int ea) (C := RX10) (T := TX10) (N := 48) hx hb hts fin_X10_isSetAtmq_X10 hown hK hP 0 rfl rfl 10 (by decide) (hts (.fieldLink RX10 130 "PatternGateModel" "end" "I") (List.mem_of_getElem? (i := 1) (by decide +kernel))) (fun _ h9 => h9) rfl dX10_isSetAt_85 ?_
            have lit_12 : (1 : Int32).toInt = 1 := by decide
            have hFc := m_free hD hS hA
            refine va_calli (va_runV (As := [.int 1, .int ea]) (rest := []) ⟨hx, hb, hml, hown, hts⟩ (m_failsAt_q l dC dI ad kc x0 x1 x2 x3 x4 x5 x6 ea x8 x9 x10 x11 x12 x13 x14 x15 x16 x17 x18 x19 x20 x21 f0 f1 f2 f3 f4 f5 f6 f7 f8 f9 f10 f11 f12 f13 f14 f15 f16 f17 f18 f19 f20 f21 fL fN fP fM fO H.size 1 ea (by first | omega | assumption | decide | (have l0 := Int32.toInt_zero; omega)) (by first | omega | assumption | decide | (have l0 := Int32.toInt_zero; omega))) (cwV 2 hts mg_X10_isSetAtmq_X10_failsAt_126 rfl rfl rfl (by decide +kernel) ⟨Nat.le_of_ble_eq_true rfl, Nat.le_of_ble_eq_true rfl⟩) ⟨fun a U g mk q => by obtain ⟨q0, q1, qP, qK, qD⟩ := q; exact ⟨q0, q1, qP, va_K.moved (u := U) (U := U.calling g mk a) (Vm.Alike.refl U.vm) qK, qD⟩, va_recv hK hP (ci := 10) (q0 := 0) rfl rfl, fun U hU hW => ⟨rfl, by rw [hU], by rw [hU]; exact hP, va_K.moved hW.alike hK, hD.weaken (fun _ _ _ _ => trivial)⟩⟩ rfl rfl hl.1 rfl (lv_room (Nat.le_of_ble_eq_true rfl)) dX10_isSetAt_88 ⟨Nat.le_of_ble_eq_true rfl, Nat.le_of_ble_eq_true rfl⟩) hS (fun q _ h => hFc q h) hFc (fun r_14 u t H1 locs ht hvm hw hB hz1 hk1 hS => ?_)
            subst hw
            obtain ⟨x_15, x_16, hr_14_0, hr_14_1, hP, hK1, hD1⟩ := hB
            rw [ht] at hP
            have hD := hD1.weaken (fun k q _ h => hFc q.1 h)
            clear hz1 hk1 hFc hD1 hK1 hvm
            generalize H1 = H at hP hS ⊢
            have rg_x_15 := i_rng x_15
            have rg_x_16 := i_rng x_16
            have rg_r_14 := i_rng r_14
            have hP : va_P (dC, dI) vwCl (mW ad kc x0 x1 x2 x3 x4 x5 x6 ea x_15 x_16 x10 x11 x12 x13 x14 x15 x16 x17 x18 x19 x20 x21 f0 f1 f2 f3 f4 f5 f6 f7 f8 f9 f10 f11 f12 f13 f14 f15 f16 f17 f18 f19 f20 f21 fL fN fP fM fO) H := hP
            have hD : va_D A (mW ad kc x0 x1 x2 x3 x4 x5 x6 ea x_15 x_16 x10 x11 x12 x13 x14 x15 x16 x17 x18 x19 x20 x21 f0 f1 f2 f3 f4 f5 f6 f7 f8 f9 f10 f11 f12 f13 f14 f15 f16 f17 f18 f19 f20 f21 fL fN fP fM fO) := hD
            exact W.zret hx hb hr (z_nar (by first | assumption | decide | exact z_of (by omega))) (fun t ht hW => ⟨⟨_, _, rfl, rfl, ea, x_15, x_16, (by first | omega | assumption | rfl | decide), (by first | omega | assumption | rfl | decide), (Or.inr (by first | omega | decide)), (seR_bad v2_3 (by unfold isSm; omega) (Or.inl (by omega)) (by omega)), (by first | omega | assumption | rfl | decide), by rw [ht]; exact hP, va_K.moved hW.alike hK, hD⟩, hS.F ht⟩) hS.2.2 dX10_isSetAt_91
      · have tk_3 := c_ne (a := r_2.toInt) (b := 0) rfl (by decide) k_3
        refine lv_aload_n hx hb dX10_isSetAt_16 rfl (lv_at hl 1 rfl) ?_
        refine lv_aload_n hx hb dX10_isSetAt_17 rfl (lv_at hl 1 rfl) ?_
        refine va_get (D := (dC, dI)) (ci := 10) (v := .int ea) (C := RX10) (T := TX10) (N := 48) hx hb hts fin_X10_isSetAtmq_X10 hown hK hP 0 rfl rfl 10 (by decide) (hts (.fieldLink RX10 130 "PatternGateModel" "end" "I") (List.mem_of_getElem? (i := 1) (by decide +kernel))) (fun _ h9 => h9) rfl dX10_isSetAt_18 ?_
        refine vp_callSi (W.runV (As := [.int ea]) (rest := []) ⟨hx, hb, hml, hown, hts⟩ (m_byteAt l dC dI ad kc x0 x1 x2 x3 x4 x5 x6 ea x8 x9 x10 x11 x12 x13 x14 x15 x16 x17 x18 x19 x20 x21 f0 f1 f2 f3 f4 f5 f6 f7 f8 f9 f10 f11 f12 f13 f14 f15 f16 f17 f18 f19 f20 f21 fL fN fP fM fO ea (by first | omega | assumption | decide | (have l0 := Int32.toInt_zero; omega)) (by first | omega | assumption | decide | (have l0 := Int32.toInt_zero; omega))) (cwV 1 hts mg_X10_isSetAtmq_X10_byteAt_133 rfl rfl rfl (by decide +kernel) ⟨Nat.le_of_ble_eq_true rfl, Nat.le_of_ble_eq_true rfl⟩) ⟨fun a U g mk q => by obtain ⟨q0, qP, qK⟩ := q; exact ⟨q0, qP, va_K.moved (u := U) (U := U.calling g mk a) (Vm.Alike.refl U.vm) qK⟩, va_recv hK hP (ci := 10) (q0 := 0) rfl rfl, fun U hU hW => ⟨rfl, by rw [hU]; exact hP, va_K.moved hW.alike hK⟩⟩ rfl rfl hl.1 rfl (lv_room (Nat.le_of_ble_eq_true rfl)) dX10_isSetAt_21 ⟨Nat.le_of_ble_eq_true rfl, Nat.le_of_ble_eq_true rfl⟩) (fun r_17 hr_17 => ?_)
        have rg_r_17 := i_rng r_17
        refine lv_bipush (v := 97) hx hb dX10_isSetAt_24 (by decide) ?_
        refine lv_isub hx hb dX10_isSetAt_26 ?_
        refine lv_topi (fun y_18 ey_18 => ?_)
        first | have ty_18 := i_sub (a := r_17.toInt) (b := 97) rfl (by decide) ey_18 (by omega) (by omega) | skip
        refine lv_istore_n (lv' := [(2, .int y_18), (1, .int st), (0, .ref (ad 0))]) hx hb dX10_isSetAt_27 rfl hl (by decide) rfl (fun ls hl => ?_)
        refine lv_iload_n hx hb dX10_isSetAt_28 rfl (lv_at hl 1 rfl) ?_
        refine lv_iload_n hx hb dX10_isSetAt_29 rfl (lv_at hl 0 rfl) ?_
        refine vp_callSi (W.runS (As := [.int st, .int y_18]) (rest := []) ⟨hx, hb, hml, hown, hts⟩ (m_has_q l dC dI  st y_18 (by first | omega | assumption | decide | (have l0 := Int32.toInt_zero; omega)) (by first | omega | assumption | decide | (have l0 := Int32.toInt_zero; omega))) (va_cwS 2 hts mg_X10_isSetAtmq_X10_has_170 rfl rfl rfl (by decide +kernel) ⟨Nat.le_of_ble_eq_true rfl, Nat.le_of_ble_eq_true rfl⟩) ⟨fun a U g mk q => ⟨q.1, trivial⟩, fun U hU hW => ⟨rfl, trivial⟩⟩ rfl rfl hl.1 rfl (lv_room (Nat.le_of_ble_eq_true rfl)) dX10_isSetAt_30 ⟨Nat.le_of_ble_eq_true rfl, Nat.le_of_ble_eq_true rfl⟩) (fun r_19 hr_19 => ?_)
        have rg_r_19 := i_rng r_19
        refine lv_if_eq (tgt := 46) hx hb dX10_isSetAt_33 (by decide) (fun k_20 => ?_) (fun k_20 => ?_)
        · have tk_20 := c_eq (a := r_19.toInt) (b := 0) rfl (by decide) k_20
          refine lv_iload_n hx hb dX10_isSetAt_46 rfl (lv_at hl 1 rfl) ?_
          refine lv_iconst (v := 1) hx hb dX10_isSetAt_47 (by decide) ?_
          refine lv_iload_n hx hb dX10_isSetAt_48 rfl (lv_at hl 0 rfl) ?_
          refine lv_ishl hx hb dX10_isSetAt_49 ?_
          refine lv_topi (fun y_21 ey_21 => ?_)
          have rg_y_21 := i_rng y_21
          refine lv_ior hx hb dX10_isSetAt_50 ?_
          refine lv_topi (fun y_22 ey_22 => ?_)
          have rg_y_22 := i_rng y_22
          refine lv_istore_n (lv' := [(1, .int y_22), (2, .int y_18), (0, .ref (ad 0))]) hx hb dX10_isSetAt_51 rfl hl (by decide) rfl (fun ls hl => ?_)
          refine lv_aload_n hx hb dX10_isSetAt_52 rfl (lv_at hl 2 rfl) ?_
          refine lv_dup hx hb dX10_isSetAt_53 rfl ?_
          refine va_get (D := (dC, dI)) (ci := 10) (v := .int ea) (C := RX10) (T := TX10) (N := 48) hx hb hts fin_X10_isSetAtmq_X10 hown hK hP 0 rfl rfl 10 (by decide) (hts (.fieldLink RX10 130 "PatternGateModel" "end" "I") (List.mem_of_getElem? (i := 1) (by decide +kernel))) (fun _ h9 => h9) rfl dX10_isSetAt_54 ?_
          refine lv_iconst (v := 1) hx hb dX10_isSetAt_57 (by decide) ?_
          refine lv_iadd hx hb dX10_isSetAt_58 ?_
          refine lv_topi (fun y_23 ey_23 => ?_)
          first | have ty_23 := i_add (a := ea.toInt) (b := 1) rfl (by decide) ey_23 (by omega) (by omega) | skip
          refine va_put (D := (dC, dI)) (ci := 10) (v := .int y_23) (ty := .int) (C := RX10) (T := TX10) (N := 48) hx hb hts fin_X10_isSetAtmq_X10 tyX10 tyX10_ok nmX10 hown hK hP hD hS 0 rfl rfl 10 (by decide) (hts (.fieldLink RX10 130 "PatternGateModel" "end" "I") (List.mem_of_getElem? (i := 1) (by decide +kernel))) (fun _ h9 => h9) rfl (by decide +kernel) rfl rfl (Nat.le_of_ble_eq_true rfl) dX10_isSetAt_59 (fun H locs hP hD hS => ?_)
          have hP : va_P (dC, dI) vwCl (mW ad kc x0 x1 x2 x3 x4 x5 x6 y_23 x8 x9 x10 x11 x12 x13 x14 x15 x16 x17 x18 x19 x20 x21 f0 f1 f2 f3 f4 f5 f6 f7 f8 f9 f10 f11 f12 f13 f14 f15 f16 f17 f18 f19 f20 f21 fL fN fP fM fO) H := hP
          have hD : va_D A (mW ad kc x0 x1 x2 x3 x4 x5 x6 y_23 x8 x9 x10 x11 x12 x13 x14 x15 x16 x17 x18 x19 x20 x21 f0 f1 f2 f3 f4 f5 f6 f7 f8 f9 f10 f11 f12 f13 f14 f15 f16 f17 f18 f19 f20 f21 fL fN fP fM fO) := hD
          refine lv_goto (tgt := 2) hx hb dX10_isSetAt_62 (by decide) ?_
          exact ih2 y_22 y_23 (by first | omega | assumption | decide) (by first | omega | assumption | decide) (by rw [show y_23.toInt = ea.toInt + 1 by omega]; exact sm_step v2_2 (by unfold isSm; omega)) (seR_next (n := y_18.toInt.toNat) v2_3 v2_4 (by unfold isSm; omega) (by omega) (tf2_f hr_19 (by omega)) (show y_23.toInt = ea.toInt + 1 by omega)) (mk_next (l := y_18) v2_4 (by omega) (by unfold isSm; omega) (by omega) ey_21 ey_22 (show y_23.toInt = ea.toInt + 1 by omega)) (by omega) _ _ ls hP hD hS (lv_sub hl [0, 2] rfl)
        · have tk_20 := c_ne (a := r_19.toInt) (b := 0) rfl (by decide) k_20
          refine lv_aload_n hx hb dX10_isSetAt_36 rfl (lv_at hl 2 rfl) ?_
          refine lv_iconst (v := 4) hx hb dX10_isSetAt_37 (by decide) ?_
          refine lv_aload_n hx hb dX10_isSetAt_38 rfl (lv_at hl 2 rfl) ?_
          refine va_get (D := (dC, dI)) (ci := 10) (v := .int ea) (C := RX10) (T := TX10) (N := 48) hx hb hts fin_X10_isSetAtmq_X10 hown hK hP 0 rfl rfl 10 (by decide) (hts (.fieldLink RX10 130 "PatternGateModel" "end" "I") (List.mem_of_getElem? (i := 1) (by decide +kernel))) (fun _ h9 => h9) rfl dX10_isSetAt_39 ?_
          have lit_23 : (4 : Int32).toInt = 4 := by decide
          have hFc := m_free hD hS hA
          refine va_calli (va_runV (As := [.int 4, .int ea]) (rest := []) ⟨hx, hb, hml, hown, hts⟩ (m_failsAt_q l dC dI ad kc x0 x1 x2 x3 x4 x5 x6 ea x8 x9 x10 x11 x12 x13 x14 x15 x16 x17 x18 x19 x20 x21 f0 f1 f2 f3 f4 f5 f6 f7 f8 f9 f10 f11 f12 f13 f14 f15 f16 f17 f18 f19 f20 f21 fL fN fP fM fO H.size 4 ea (by first | omega | assumption | decide | (have l0 := Int32.toInt_zero; omega)) (by first | omega | assumption | decide | (have l0 := Int32.toInt_zero; omega))) (cwV 2 hts mg_X10_isSetAtmq_X10_failsAt_126 rfl rfl rfl (by decide +kernel) ⟨Nat.le_of_ble_eq_true rfl, Nat.le_of_ble_eq_true rfl⟩) ⟨fun a U g mk q => by obtain ⟨q0, q1, qP, qK, qD⟩ := q; exact ⟨q0, q1, qP, va_K.moved (u := U) (U := U.calling g mk a) (Vm.Alike.refl U.vm) qK, qD⟩, va_recv hK hP (ci := 10) (q0 := 0) rfl rfl, fun U hU hW => ⟨rfl, by rw [hU], by rw [hU]; exact hP, va_K.moved hW.alike hK, hD.weaken (fun _ _ _ _ => trivial)⟩⟩ rfl rfl hl.1 rfl (lv_room (Nat.le_of_ble_eq_true rfl)) dX10_isSetAt_42 ⟨Nat.le_of_ble_eq_true rfl, Nat.le_of_ble_eq_true rfl⟩) hS (fun q _ h => hFc q h) hFc (fun r_25 u t H1 locs ht hvm hw hB hz1 hk1 hS => ?_)
          subst hw
          obtain ⟨x_26, x_27, hr_25_0, hr_25_1, hP, hK1, hD1⟩ := hB
          rw [ht] at hP
          have hD := hD1.weaken (fun k q _ h => hFc q.1 h)
          clear hz1 hk1 hFc hD1 hK1 hvm
          generalize H1 = H at hP hS ⊢
          have rg_x_26 := i_rng x_26
          have rg_x_27 := i_rng x_27
          have rg_r_25 := i_rng r_25
          have hP : va_P (dC, dI) vwCl (mW ad kc x0 x1 x2 x3 x4 x5 x6 ea x_26 x_27 x10 x11 x12 x13 x14 x15 x16 x17 x18 x19 x20 x21 f0 f1 f2 f3 f4 f5 f6 f7 f8 f9 f10 f11 f12 f13 f14 f15 f16 f17 f18 f19 f20 f21 fL fN fP fM fO) H := hP
          have hD : va_D A (mW ad kc x0 x1 x2 x3 x4 x5 x6 ea x_26 x_27 x10 x11 x12 x13 x14 x15 x16 x17 x18 x19 x20 x21 f0 f1 f2 f3 f4 f5 f6 f7 f8 f9 f10 f11 f12 f13 f14 f15 f16 f17 f18 f19 f20 f21 fL fN fP fM fO) := hD
          exact W.zret hx hb hr (z_nar (by first | assumption | decide | exact z_of (by omega))) (fun t ht hW => ⟨⟨_, _, rfl, rfl, ea, x_26, x_27, (by first | omega | assumption | rfl | decide), (by first | omega | assumption | rfl | decide), (Or.inr (by first | omega | decide)), (seR_two (n := y_18.toInt.toNat) v2_3 v2_4 (by unfold isSm; omega) (by omega) (tf2_t hr_19 (by omega)) (by omega)), (by first | omega | assumption | rfl | decide), by rw [ht]; exact hP, va_K.moved hW.alike hK, hD⟩, hS.F ht⟩) hS.2.2 dX10_isSetAt_45
  have lit_27 : (0 : Int32).toInt = 0 := by decide
  exact loop2 _ 0 x7 (by first | omega | assumption | decide) (by first | omega | assumption | decide) (fun k a b => by omega) (fun _ _ _ _ => Ld.rf) mk_0 (Nat.lt_succ_self _) _ _ ls hP hD hS (lv_sub hl [0, 1] rfl)

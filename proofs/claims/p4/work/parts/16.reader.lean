abbrev rF (q : Nat → Nat) (a0 a1 a2 a3 a4 a5 a6 a7 : Int32) : List Value := [.int a0, .int a1, .int a2, .int a3, .int a4, .ref (q 0), .ref (q 1), .ref (q 2), .int a5, .int a6, .int a7]
def mwX9_isSmallw : List Cond := .code yX9_isSmall cX9_isSmall 1 (some .boolean) :: ([])
set_option maxHeartbeats 4000000 in
set_option maxRecDepth 100000 in
/-- isSmall, for a nest mate -/
theorem s_isSmallW (l : Launch) (dC : Nat → ClassId) (dI : Nat → Nat → Nat) (sz : Nat) (i : Int32) : Met l yX9_isSmall mwX9_isSmallw ({ frames := 0, cells := 0, slots := 0, locals := 0 }) (va_Pc [.int i] (fun U => U.heap.size = sz ∧ va_P (dC, dI) vwCl ([]) U.heap ∧ va_K (dC, dI) vwCl ([]) U ∧ va_D (fun _ => True) ([]))) (va_Qi (fun (o9 : Int32) (_ : Unit) => o9 = 0 ∨ o9 = 1) (fun _ _ => True) (va_A ([]) sz)) 0 0 (va_A ([]) sz) := by
  refine Met.ofW (cc := cX9_isSmall) (maxL := 1) (ret := (some .boolean)) (by decide +kernel) rfl ?_
  intro p e s m args below meth c s₁ B hml hv
  obtain ⟨rfl, hsz, hP, hK, hD0⟩ := hv
  have hx := B.exec
  have hb := B.bytes
  have hr := B.returns
  have hts := atoms_spec (ws := mwX9_isSmallw) B.pre
  have hown : s.vm.findClass RX9 = some m.cls := findClass_of_methodNamed B.named
  have hlocks := B.notSynchronized
  subst hsz
  have hD := hD0.self (sz := s.heap.size)
  generalize hAe : va_A ([]) s.heap.size = A at hD ⊢
  have hA : ∀ q : Nat, s.heap.size ≤ q → A q := fun q h => by rw [← hAe]; exact Or.inr h
  have hP : va_P (dC, dI) vwCl [] s.heap := hP
  have hD : va_D A [] := hD
  have hK : va_K (dC, dI) vwCl [] s := hK
  generalize hH : s.heap = H at hP ⊢
  have hS : va_S A s.heap H [] := by rw [← hH]; exact va_S.rf
  have hl := lv_entry ([.int i]) (n := 1) (Nat.le_of_ble_eq_true rfl)
  rw [lg_entry_eq]
  generalize (lg_sl ([.int i]) ++ List.replicate (1 - (lg_sl ([.int i])).length) Slot.unset).toArray = ls at hl ⊢
  have hl : lv_has ls 1 [(0, .int i)] := hl
  have rg_i := i_rng i
  refine lv_iload_n hx hb dX9_isSmall_0 rfl (lv_at hl 0 rfl) ?_
  refine lv_bipush (v := 97) hx hb dX9_isSmall_1 (by decide) ?_
  refine lv_icmp_lt (tgt := 16) hx hb dX9_isSmall_3 (by decide) (fun k_1 => ?_) (fun k_1 => ?_)
  · have tk_1 := c_lt (a := i.toInt) (b := 97) rfl (by decide) k_1
    refine lv_iconst (v := 0) hx hb dX9_isSmall_16 (by decide) ?_
    exact W.zret hx hb hr rfl (fun t ht hW => ⟨⟨_, (), rfl, Or.inl rfl, trivial⟩, hS.F ht⟩) hS.2.2 dX9_isSmall_17
  · have tk_1 := c_nlt (a := i.toInt) (b := 97) rfl (by decide) k_1
    refine lv_iload_n hx hb dX9_isSmall_6 rfl (lv_at hl 0 rfl) ?_
    refine lv_bipush (v := 122) hx hb dX9_isSmall_7 (by decide) ?_
    refine lv_icmp_gt (tgt := 16) hx hb dX9_isSmall_9 (by decide) (fun k_2 => ?_) (fun k_2 => ?_)
    · have tk_2 := c_gt (a := i.toInt) (b := 122) rfl (by decide) k_2
      refine lv_iconst (v := 0) hx hb dX9_isSmall_16 (by decide) ?_
      exact W.zret hx hb hr rfl (fun t ht hW => ⟨⟨_, (), rfl, Or.inl rfl, trivial⟩, hS.F ht⟩) hS.2.2 dX9_isSmall_17
    · have tk_2 := c_ngt (a := i.toInt) (b := 122) rfl (by decide) k_2
      refine lv_iconst (v := 1) hx hb dX9_isSmall_12 (by decide) ?_
      refine lv_goto (tgt := 17) hx hb dX9_isSmall_13 (by decide) ?_
      exact W.zret hx hb hr rfl (fun t ht hW => ⟨⟨_, (), rfl, Or.inr rfl, trivial⟩, hS.F ht⟩) hS.2.2 dX9_isSmall_17
theorem dX6_fail_0 : decode cX6_fail 0 = .ok (.aload_n 0, 1) := by decide +kernel
theorem dX6_fail_1 : decode cX6_fail 1 = .ok (.iload_n 1, 1) := by decide +kernel
theorem dX6_fail_2 : decode cX6_fail 2 = .ok (.putfield 22, 3) := by decide +kernel
theorem dX6_fail_5 : decode cX6_fail 5 = .ok (.aload_n 0, 1) := by decide +kernel
theorem dX6_fail_6 : decode cX6_fail 6 = .ok (.iload_n 2, 1) := by decide +kernel
theorem dX6_fail_7 : decode cX6_fail 7 = .ok (.putfield 26, 3) := by decide +kernel
theorem dX6_fail_10 : decode cX6_fail 10 = .ok (.return_, 1) := by decide +kernel
def mwX6_fail : List Cond := .code yX6_fail cX6_fail 3 none :: ([.fieldLink RX6 22 "PatternGate$Reader" "faultKind" "I", .fieldLink RX6 26 "PatternGate$Reader" "faultPlace" "I"] ++ wsX60)
theorem fin_X6_fail_X6 : ∀ w ∈ wsX60, w ∈ mwX6_fail := fun w h => List.mem_cons_of_mem _ (List.mem_append_right _ h)
set_option maxHeartbeats 4000000 in
set_option maxRecDepth 100000 in
/-- Reader.fail -/
theorem s_fail (l : Launch) (dC : Nat → ClassId) (dI : Nat → Nat → Nat) (rd : Nat) (r : Nat → Nat) (a0 a1 a2 a3 a4 a5 a6 a7 : Int32) (sz : Nat) (i8 i9 : Int32) : Met l yX6_fail mwX6_fail ({ frames := 0, cells := 0, slots := 0, locals := 0 }) (va_Pc [.ref rd, .int i8, .int i9] (fun U => U.heap.size = sz ∧ va_P (dC, dI) vwCl ([(rd, .inr (6, rF r a0 a1 a2 a3 a4 a5 a6 a7))]) U.heap ∧ va_K (dC, dI) vwCl ([]) U ∧ va_D (fun _ => True) ([(rd, .inr (6, rF r a0 a1 a2 a3 a4 a5 a6 a7))]))) (va_Qv (fun (_ : Unit) => True) (fun _ t => va_P (dC, dI) vwCl [(rd, .inr (6, rF r i8 i9 a2 a3 a4 a5 a6 a7))] t.heap ∧ va_K (dC, dI) vwCl [] t ∧ va_D (va_A ([(rd, .inr (6, rF r a0 a1 a2 a3 a4 a5 a6 a7))]) sz) [(rd, .inr (6, rF r i8 i9 a2 a3 a4 a5 a6 a7))]) (va_A ([(rd, .inr (6, rF r a0 a1 a2 a3 a4 a5 a6 a7))]) sz)) 0 0 (va_A ([(rd, .inr (6, rF r a0 a1 a2 a3 a4 a5 a6 a7))]) sz) := by
  refine Met.ofW (cc := cX6_fail) (maxL := 3) (ret := none) (by decide +kernel) rfl ?_
  intro p e s m args below meth c s₁ B hml hv
  obtain ⟨rfl, hsz, hP, hK, hD0⟩ := hv
  have hx := B.exec
  have hb := B.bytes
  have hr := B.returns
  have hts := atoms_spec (ws := mwX6_fail) B.pre
  have hown : s.vm.findClass RX6 = some m.cls := findClass_of_methodNamed B.named
  have hlocks := B.notSynchronized
  subst hsz
  have hD := hD0.self (sz := s.heap.size)
  generalize hAe : va_A ([(rd, .inr (6, rF r a0 a1 a2 a3 a4 a5 a6 a7))]) s.heap.size = A at hD ⊢
  have hA : ∀ q : Nat, s.heap.size ≤ q → A q := fun q h => by rw [← hAe]; exact Or.inr h
  have hP : va_P (dC, dI) vwCl [(rd, .inr (6, rF r a0 a1 a2 a3 a4 a5 a6 a7))] s.heap := hP
  have hD : va_D A [(rd, .inr (6, rF r a0 a1 a2 a3 a4 a5 a6 a7))] := hD
  have hK : va_K (dC, dI) vwCl [] s := hK
  generalize hH : s.heap = H at hP ⊢
  have hS : va_S A s.heap H [] := by rw [← hH]; exact va_S.rf
  have hl := lv_entry ([.ref rd, .int i8, .int i9]) (n := 3) (Nat.le_of_ble_eq_true rfl)
  rw [lg_entry_eq]
  generalize (lg_sl ([.ref rd, .int i8, .int i9]) ++ List.replicate (3 - (lg_sl ([.ref rd, .int i8, .int i9])).length) Slot.unset).toArray = ls at hl ⊢
  have hl : lv_has ls 3 [(0, .ref rd), (1, .int i8), (2, .int i9)] := hl
  have rg_i8 := i_rng i8
  have rg_i9 := i_rng i9
  refine lv_aload_n hx hb dX6_fail_0 rfl (lv_at hl 0 rfl) ?_
  refine lv_iload_n hx hb dX6_fail_1 rfl (lv_at hl 1 rfl) ?_
  refine va_put (D := (dC, dI)) (ci := 6) (v := .int i8) (ty := .int) (C := RX6) (T := TX6) (N := 11) hx hb hts fin_X6_fail_X6 tyX6 tyX6_ok nmX6 hown hK hP hD hS 0 rfl rfl 0 (by decide) (hts (.fieldLink RX6 22 "PatternGate$Reader" "faultKind" "I") (List.mem_of_getElem? (i := 1) (by decide +kernel))) (fun _ h9 => h9) rfl (by decide +kernel) rfl rfl (Nat.le_of_ble_eq_true rfl) dX6_fail_2 (fun H locs hP hD hS => ?_)
  have hP : va_P (dC, dI) vwCl [(rd, .inr (6, rF r i8 a1 a2 a3 a4 a5 a6 a7))] H := hP
  have hD : va_D A [(rd, .inr (6, rF r i8 a1 a2 a3 a4 a5 a6 a7))] := hD
  refine lv_aload_n hx hb dX6_fail_5 rfl (lv_at hl 0 rfl) ?_
  refine lv_iload_n hx hb dX6_fail_6 rfl (lv_at hl 2 rfl) ?_
  refine va_put (D := (dC, dI)) (ci := 6) (v := .int i9) (ty := .int) (C := RX6) (T := TX6) (N := 11) hx hb hts fin_X6_fail_X6 tyX6 tyX6_ok nmX6 hown hK hP hD hS 0 rfl rfl 1 (by decide) (hts (.fieldLink RX6 26 "PatternGate$Reader" "faultPlace" "I") (List.mem_of_getElem? (i := 2) (by decide +kernel))) (fun _ h9 => h9) rfl (by decide +kernel) rfl rfl (Nat.le_of_ble_eq_true rfl) dX6_fail_7 (fun H locs hP hD hS => ?_)
  have hP : va_P (dC, dI) vwCl [(rd, .inr (6, rF r i8 i9 a2 a3 a4 a5 a6 a7))] H := hP
  have hD : va_D A [(rd, .inr (6, rF r i8 i9 a2 a3 a4 a5 a6 a7))] := hD
  have hP9 := hP.sub (ws' := [(rd, .inr (6, rF r i8 i9 a2 a3 a4 a5 a6 a7))]) [0] rfl
  have hD9 := hD.sub (ws' := [(rd, .inr (6, rF r i8 i9 a2 a3 a4 a5 a6 a7))]) [0] (by decide) rfl
  have hK9 := hK.sub (tys' := []) [] rfl
  exact W.vret hx hb hr (fun t ht hW => ⟨⟨(), rfl, trivial, by rw [ht]; exact hP9, va_K.moved hW.alike hK9, hD9⟩, hS.F ht⟩) hS.2.2 dX6_fail_10
theorem dX6_endOfDoc_0 : decode cX6_endOfDoc 0 = .ok (.iload_n 2, 1) := by decide +kernel
theorem dX6_endOfDoc_1 : decode cX6_endOfDoc 1 = .ok (.istore 4, 2) := by decide +kernel
theorem dX6_endOfDoc_3 : decode cX6_endOfDoc 3 = .ok (.iload 4, 2) := by decide +kernel
theorem dX6_endOfDoc_5 : decode cX6_endOfDoc 5 = .ok (.iload_n 3, 1) := by decide +kernel
theorem dX6_endOfDoc_6 : decode cX6_endOfDoc 6 = .ok (.if_icmp .ge 66, 3) := by decide +kernel
theorem dX6_endOfDoc_9 : decode cX6_endOfDoc 9 = .ok (.aload_n 1, 1) := by decide +kernel
theorem dX6_endOfDoc_10 : decode cX6_endOfDoc 10 = .ok (.iload 4, 2) := by decide +kernel
theorem dX6_endOfDoc_12 : decode cX6_endOfDoc 12 = .ok (.iaload, 1) := by decide +kernel
theorem dX6_endOfDoc_13 : decode cX6_endOfDoc 13 = .ok (.bipush 34, 2) := by decide +kernel
theorem dX6_endOfDoc_15 : decode cX6_endOfDoc 15 = .ok (.if_icmp .ne 12, 3) := by decide +kernel
theorem dX6_endOfDoc_18 : decode cX6_endOfDoc 18 = .ok (.iload 4, 2) := by decide +kernel
theorem dX6_endOfDoc_20 : decode cX6_endOfDoc 20 = .ok (.iload_n 2, 1) := by decide +kernel
theorem dX6_endOfDoc_21 : decode cX6_endOfDoc 21 = .ok (.if_icmp .le 6, 3) := by decide +kernel
theorem dX6_endOfDoc_24 : decode cX6_endOfDoc 24 = .ok (.iload 4, 2) := by decide +kernel
theorem dX6_endOfDoc_26 : decode cX6_endOfDoc 26 = .ok (.ireturn, 1) := by decide +kernel
theorem dX6_endOfDoc_27 : decode cX6_endOfDoc 27 = .ok (.aload_n 1, 1) := by decide +kernel
theorem dX6_endOfDoc_28 : decode cX6_endOfDoc 28 = .ok (.iload 4, 2) := by decide +kernel
theorem dX6_endOfDoc_30 : decode cX6_endOfDoc 30 = .ok (.iaload, 1) := by decide +kernel
theorem dX6_endOfDoc_31 : decode cX6_endOfDoc 31 = .ok (.invokestatic 53, 3) := by decide +kernel
theorem dX6_endOfDoc_34 : decode cX6_endOfDoc 34 = .ok (.ifCond .ne 13, 3) := by decide +kernel
theorem dX6_endOfDoc_37 : decode cX6_endOfDoc 37 = .ok (.aload_n 0, 1) := by decide +kernel
theorem dX6_endOfDoc_38 : decode cX6_endOfDoc 38 = .ok (.iconst 1, 1) := by decide +kernel
theorem dX6_endOfDoc_39 : decode cX6_endOfDoc 39 = .ok (.iload 4, 2) := by decide +kernel
theorem dX6_endOfDoc_41 : decode cX6_endOfDoc 41 = .ok (.invokevirtual 71, 3) := by decide +kernel
theorem dX6_endOfDoc_44 : decode cX6_endOfDoc 44 = .ok (.iload 4, 2) := by decide +kernel
theorem dX6_endOfDoc_46 : decode cX6_endOfDoc 46 = .ok (.ireturn, 1) := by decide +kernel
theorem dX6_endOfDoc_47 : decode cX6_endOfDoc 47 = .ok (.iload 4, 2) := by decide +kernel
theorem dX6_endOfDoc_49 : decode cX6_endOfDoc 49 = .ok (.iload_n 2, 1) := by decide +kernel
theorem dX6_endOfDoc_50 : decode cX6_endOfDoc 50 = .ok (.isub, 1) := by decide +kernel
theorem dX6_endOfDoc_51 : decode cX6_endOfDoc 51 = .ok (.bipush 60, 2) := by decide +kernel
theorem dX6_endOfDoc_53 : decode cX6_endOfDoc 53 = .ok (.if_icmp .lt 13, 3) := by decide +kernel
theorem dX6_endOfDoc_56 : decode cX6_endOfDoc 56 = .ok (.aload_n 0, 1) := by decide +kernel
theorem dX6_endOfDoc_57 : decode cX6_endOfDoc 57 = .ok (.iconst 4, 1) := by decide +kernel
theorem dX6_endOfDoc_58 : decode cX6_endOfDoc 58 = .ok (.iload 4, 2) := by decide +kernel
theorem dX6_endOfDoc_60 : decode cX6_endOfDoc 60 = .ok (.invokevirtual 71, 3) := by decide +kernel
theorem dX6_endOfDoc_63 : decode cX6_endOfDoc 63 = .ok (.iload 4, 2) := by decide +kernel
theorem dX6_endOfDoc_65 : decode cX6_endOfDoc 65 = .ok (.ireturn, 1) := by decide +kernel
theorem dX6_endOfDoc_66 : decode cX6_endOfDoc 66 = .ok (.iinc 4 1, 3) := by decide +kernel
theorem dX6_endOfDoc_69 : decode cX6_endOfDoc 69 = .ok (.goto (-66), 3) := by decide +kernel
theorem dX6_endOfDoc_72 : decode cX6_endOfDoc 72 = .ok (.aload_n 0, 1) := by decide +kernel
theorem dX6_endOfDoc_73 : decode cX6_endOfDoc 73 = .ok (.iconst 1, 1) := by decide +kernel
theorem dX6_endOfDoc_74 : decode cX6_endOfDoc 74 = .ok (.iload_n 3, 1) := by decide +kernel
theorem dX6_endOfDoc_75 : decode cX6_endOfDoc 75 = .ok (.invokevirtual 71, 3) := by decide +kernel
theorem dX6_endOfDoc_78 : decode cX6_endOfDoc 78 = .ok (.iload_n 3, 1) := by decide +kernel
theorem dX6_endOfDoc_79 : decode cX6_endOfDoc 79 = .ok (.ireturn, 1) := by decide +kernel
def mwX6_endOfDoc : List Cond := .code yX6_endOfDoc cX6_endOfDoc 5 (some .int) :: ([.code yX6_fail cX6_fail 3 none, .fieldLink RX6 22 "PatternGate$Reader" "faultKind" "I", .fieldLink RX6 26 "PatternGate$Reader" "faultPlace" "I", .methodLink RX6 71 yX6_fail, .instanceMethod yX6_fail, .selects RX6 yX6_fail yX6_fail, .initialized RX6, .code yX9_isSmall cX9_isSmall 1 (some .boolean), .initialized RX9, .static yX9_isSmall] ++ wsX60)
set_option maxRecDepth 20000 in
theorem mg_X6_endOfDoc_X6_fail_71 : GoodIn mwX6_endOfDoc (wsV RX6 71 RX6 yX6_fail mwX6_fail) := goodIn_r _ [4, 5, 6, 7, 1, 2, 3, 11, 12, 13, 14, 15, 16, 17, 18, 19, 20, 21] (by decide +kernel) (by decide +kernel)
set_option maxRecDepth 20000 in
theorem mg_X6_endOfDoc_X9_isSmall_53 : GoodIn mwX6_endOfDoc mwX9_isSmallw := goodIn_r _ [8] (by decide +kernel) (by decide +kernel)
set_option maxHeartbeats 4000000 in
set_option maxRecDepth 100000 in
/-- s_endOfDoc -/
theorem s_endOfDoc (l : Launch) (dC : Nat → ClassId) (dI : Nat → Nat → Nat) (rd : Nat) (r : Nat → Nat) (a0 a1 a2 a3 a4 a5 a6 a7 : Int32) (ta nb : Nat) (cT : ClassId) (ft : Nat → Int32) (sz : Nat) (i8 i9 : Int32) (hn : nb ≤ 1000) (h1 : 0 ≤ i8.toInt) (h2 : i9.toInt ≤ nb) (h3 : i8.toInt ≤ i9.toInt) : Met l yX6_endOfDoc mwX6_endOfDoc ({ frames := 1, cells := 0, slots := 0, locals := 60 }) (va_Pc [.ref rd, .ref ta, .int i8, .int i9] (fun U => U.heap.size = sz ∧ va_P (dC, dI) vwCl ([(rd, .inr (6, rF r a0 a1 a2 a3 a4 a5 a6 a7)), (ta, .inl (cT, nb, .inl ft))]) U.heap ∧ va_K (dC, dI) vwCl ([(cT, .int)]) U ∧ va_D (fun _ => True) ([(rd, .inr (6, rF r a0 a1 a2 a3 a4 a5 a6 a7)), (ta, .inl (cT, nb, .inl ft))]) ∧ va_Nw (.methodLinkNest RX6 53 yX9_isSmall "PatternGate") U)) (va_Qi (fun (o9 : Int32) (_ : Unit) => i8.toInt ≤ o9.toInt ∧ (o9.toInt ≤ i9.toInt ∨ o9.toInt ≤ i8.toInt)) (fun _ t => ∃ y0 y1 : Int32, va_P (dC, dI) vwCl [(rd, .inr (6, rF r y0 y1 a2 a3 a4 a5 a6 a7)), (ta, .inl (cT, nb, .inl ft))] t.heap ∧ va_K (dC, dI) vwCl [(cT, .int)] t ∧ va_D (va_A ([(rd, .inr (6, rF r a0 a1 a2 a3 a4 a5 a6 a7)), (ta, .inl (cT, nb, .inl ft))]) sz) [(rd, .inr (6, rF r y0 y1 a2 a3 a4 a5 a6 a7)), (ta, .inl (cT, nb, .inl ft))]) (va_A ([(rd, .inr (6, rF r a0 a1 a2 a3 a4 a5 a6 a7)), (ta, .inl (cT, nb, .inl ft))]) sz)) 0 0 (va_A ([(rd, .inr (6, rF r a0 a1 a2 a3 a4 a5 a6 a7)), (ta, .inl (cT, nb, .inl ft))]) sz) := by
  refine Met.ofW (cc := cX6_endOfDoc) (maxL := 5) (ret := (some .int)) (by decide +kernel) rfl ?_
  intro p e s m args below meth c s₁ B hml hv
  obtain ⟨rfl, hsz, hP, hK, hD0, hN53⟩ := hv
  have hx := B.exec
  have hb := B.bytes
  have hr := B.returns
  have hts := atoms_spec (ws := mwX6_endOfDoc) B.pre
  have hown : s.vm.findClass RX6 = some m.cls := findClass_of_methodNamed B.named
  have hlocks := B.notSynchronized
  subst hsz
  have hD := hD0.self (sz := s.heap.size)
  generalize hAe : va_A ([(rd, .inr (6, rF r a0 a1 a2 a3 a4 a5 a6 a7)), (ta, .inl (cT, nb, .inl ft))]) s.heap.size = A at hD ⊢
  have hA : ∀ q : Nat, s.heap.size ≤ q → A q := fun q h => by rw [← hAe]; exact Or.inr h
  have hP : va_P (dC, dI) vwCl [(rd, .inr (6, rF r a0 a1 a2 a3 a4 a5 a6 a7)), (ta, .inl (cT, nb, .inl ft))] s.heap := hP
  have hD : va_D A [(rd, .inr (6, rF r a0 a1 a2 a3 a4 a5 a6 a7)), (ta, .inl (cT, nb, .inl ft))] := hD
  have hK : va_K (dC, dI) vwCl [(cT, .int)] s := hK
  generalize hH : s.heap = H at hP ⊢
  have hS : va_S A s.heap H [] := by rw [← hH]; exact va_S.rf
  have hl := lv_entry ([.ref rd, .ref ta, .int i8, .int i9]) (n := 5) (Nat.le_of_ble_eq_true rfl)
  rw [lg_entry_eq]
  generalize (lg_sl ([.ref rd, .ref ta, .int i8, .int i9]) ++ List.replicate (5 - (lg_sl ([.ref rd, .ref ta, .int i8, .int i9])).length) Slot.unset).toArray = ls at hl ⊢
  have hl : lv_has ls 5 [(0, .ref rd), (1, .ref ta), (2, .int i8), (3, .int i9)] := hl
  have rg_i8 := i_rng i8
  have rg_i9 := i_rng i9
  refine lv_iload_n hx hb dX6_endOfDoc_0 rfl (lv_at hl 2 rfl) ?_
  refine lv_istore (lv' := [(4, .int i8), (0, .ref rd), (1, .ref ta), (2, .int i8), (3, .int i9)]) hx hb dX6_endOfDoc_1 hl (by decide) rfl (fun ls hl => ?_)
  have loop3 : ∀ (lm3 : Nat) (ax : Int32), (i8.toInt ≤ ax.toInt) → ((i9.toInt - ax.toInt).toNat) < lm3 → ∀ (H : Heap) (locs : List Loc) (ls : Array Slot), va_P (dC, dI) vwCl [(rd, .inr (6, rF r a0 a1 a2 a3 a4 a5 a6 a7)), (ta, .inl (cT, nb, .inl ft))] H → va_D A [(rd, .inr (6, rF r a0 a1 a2 a3 a4 a5 a6 a7)), (ta, .inl (cT, nb, .inl ft))] → va_S A s.heap H locs → lv_has ls 5 [(4, .int ax), (0, .ref rd), (1, .ref ta), (2, .int i8), (3, .int i9)] → W p l e (headSpec mwX6_endOfDoc ({ frames := 1, cells := 0, slots := 0, locals := 60 })).room s m ([.ref rd, .ref ta, .int i8, .int i9]).toArray below meth c H locs 0 0 (MQ below (va_Qi (fun (o9 : Int32) (_ : Unit) => i8.toInt ≤ o9.toInt ∧ (o9.toInt ≤ i9.toInt ∨ o9.toInt ≤ i8.toInt)) (fun _ t => ∃ y0 y1 : Int32, va_P (dC, dI) vwCl [(rd, .inr (6, rF r y0 y1 a2 a3 a4 a5 a6 a7)), (ta, .inl (cT, nb, .inl ft))] t.heap ∧ va_K (dC, dI) vwCl [(cT, .int)] t ∧ va_D A [(rd, .inr (6, rF r y0 y1 a2 a3 a4 a5 a6 a7)), (ta, .inl (cT, nb, .inl ft))]) A) ([.ref rd, .ref ta, .int i8, .int i9]).toArray s 0 0 A) (F0 m 3 ls []) := by
    intro lm3
    induction lm3 with
    | zero => intro ax v3_0 hm3; exact absurd hm3 (Nat.not_lt_zero _)
    | succ lm3 ih3 =>
      intro ax v3_0 hm3 H locs ls hP hD hS hl
      have rg_ax := i_rng ax
      refine lv_iload hx hb dX6_endOfDoc_3 (lv_at hl 0 rfl) ?_
      refine lv_iload_n hx hb dX6_endOfDoc_5 rfl (lv_at hl 4 rfl) ?_
      refine lv_icmp_ge (tgt := 72) hx hb dX6_endOfDoc_6 (by decide) (fun k_1 => ?_) (fun k_1 => ?_)
      · have tk_1 := c_ge (a := ax.toInt) (b := i9.toInt) rfl rfl k_1
        refine lv_aload_n hx hb dX6_endOfDoc_72 rfl (lv_at hl 1 rfl) ?_
        refine lv_iconst (v := 1) hx hb dX6_endOfDoc_73 (by decide) ?_
        refine lv_iload_n hx hb dX6_endOfDoc_74 rfl (lv_at hl 4 rfl) ?_
        have hPc := hP.sub (ws' := [(rd, .inr (6, rF r a0 a1 a2 a3 a4 a5 a6 a7))]) [0] rfl
        have hKc := hK.sub (tys' := []) [] rfl
        have hDc := hD.sub (ws' := [(rd, .inr (6, rF r a0 a1 a2 a3 a4 a5 a6 a7))]) [0] (by decide) rfl
        have hFc := va_free (wc := [(rd, .inr (6, rF r a0 a1 a2 a3 a4 a5 a6 a7))]) hD hS hA [0] rfl
        refine va_callv (va_runV (As := [.int 1, .int i9]) (rest := []) ⟨hx, hb, hml, hown, hts⟩ (s_fail l dC dI rd r a0 a1 a2 a3 a4 a5 a6 a7 H.size 1 i9) (cwV 2 hts mg_X6_endOfDoc_X6_fail_71 rfl rfl rfl (by decide +kernel) ⟨Nat.le_of_ble_eq_true rfl, Nat.le_of_ble_eq_true rfl⟩) ⟨fun a U g mk q => by obtain ⟨q0, q1, qP, qK, qD⟩ := q; exact ⟨q0, q1, qP, va_K.moved (u := U) (U := U.calling g mk a) (Vm.Alike.refl U.vm) qK, qD⟩, va_recv hKc hPc (ci := 6) (q0 := 0) rfl rfl, fun U hU hW => ⟨rfl, by rw [hU], by rw [hU]; exact hPc, va_K.moved hW.alike hKc, hDc.weaken (fun _ _ _ _ => trivial)⟩⟩ rfl rfl hl.1 rfl (lv_room (Nat.le_of_ble_eq_true rfl)) dX6_endOfDoc_75 ⟨Nat.le_of_ble_eq_true rfl, Nat.le_of_ble_eq_true rfl⟩) hS (fun q _ h => hFc q h) hFc (fun u t H1 locs ht hvm hw hB hz1 hk1 hS => ?_)
        obtain ⟨hP1, hK1, hD1⟩ := hB
        rw [ht] at hP1
        obtain ⟨hP, hD⟩ := va_join (wr := [(ta, .inl (cT, nb, .inl ft))]) (w1 := [(rd, .inr (6, rF r 1 i9 a2 a3 a4 a5 a6 a7))]) hP hD [0] [1] rfl rfl (by decide) (by decide) hk1 hFc hP1 hD1
        generalize H1 = H at hP hS ⊢
        have hP : va_P (dC, dI) vwCl [(ta, .inl (cT, nb, .inl ft)), (rd, .inr (6, rF r 1 i9 a2 a3 a4 a5 a6 a7))] H := hP
        have hD : va_D A [(ta, .inl (cT, nb, .inl ft)), (rd, .inr (6, rF r 1 i9 a2 a3 a4 a5 a6 a7))] := hD
        refine lv_iload_n hx hb dX6_endOfDoc_78 rfl (lv_at hl 4 rfl) ?_
        have hP9 := hP.sub (ws' := [(rd, .inr (6, rF r 1 i9 a2 a3 a4 a5 a6 a7)), (ta, .inl (cT, nb, .inl ft))]) [1, 0] rfl
        have hD9 := hD.sub (ws' := [(rd, .inr (6, rF r 1 i9 a2 a3 a4 a5 a6 a7)), (ta, .inl (cT, nb, .inl ft))]) [1, 0] (by decide) rfl
        have hK9 := hK.sub (tys' := [(cT, .int)]) [0] rfl
        exact W.iret hx hb hr (fun t ht hW => ⟨⟨_, (), rfl, by omega, 1, i9, by rw [ht]; exact hP9, va_K.moved hW.alike hK9, hD9⟩, hS.F ht⟩) hS.2.2 dX6_endOfDoc_79
      · have tk_1 := c_nge (a := ax.toInt) (b := i9.toInt) rfl rfl k_1
        refine lv_aload_n hx hb dX6_endOfDoc_9 rfl (lv_at hl 2 rfl) ?_
        refine lv_iload hx hb dX6_endOfDoc_10 (lv_at hl 0 rfl) ?_
        refine va_iald hx hb hK hP 1 0 rfl rfl (i := ax) (vp_of (a := ax.toInt) rfl (by omega) (by omega)) dX6_endOfDoc_12 ?_
        refine lv_topi (fun y_4 ey_4 => ?_)
        have rg_y_4 := i_rng y_4
        refine lv_bipush (v := 34) hx hb dX6_endOfDoc_13 (by decide) ?_
        refine lv_icmp_ne (tgt := 27) hx hb dX6_endOfDoc_15 (by decide) (fun k_5 => ?_) (fun k_5 => ?_)
        · have tk_5 := c_ne (a := y_4.toInt) (b := 34) rfl (by decide) k_5
          refine lv_aload_n hx hb dX6_endOfDoc_27 rfl (lv_at hl 2 rfl) ?_
          refine lv_iload hx hb dX6_endOfDoc_28 (lv_at hl 0 rfl) ?_
          refine va_iald hx hb hK hP 1 0 rfl rfl (i := ax) (vp_of (a := ax.toInt) rfl (by omega) (by omega)) dX6_endOfDoc_30 ?_
          refine lv_topi (fun y_6 ey_6 => ?_)
          have rg_y_6 := i_rng y_6
          have hPc := hP.sub (ws' := []) [] rfl
          have hKc := hK.sub (tys' := []) [] rfl
          have hDc := hD.sub (ws' := []) [] (by decide) rfl
          have hFc := va_free (wc := []) hD hS hA [] rfl
          refine va_calli (va_runSN (As := [.int y_6]) (rest := []) ⟨hx, hb, hml, hown, hts⟩ (s_isSmallW l dC dI H.size y_6) ⟨va_cnB 1 hts mg_X6_endOfDoc_X9_isSmall_53 rfl rfl rfl hN53 (hts (.initialized RX9) (List.mem_of_getElem? (i := 9) (by decide +kernel))) (by decide +kernel) ⟨Nat.le_of_ble_eq_true rfl, Nat.le_of_ble_eq_true rfl⟩, (hts (.static yX9_isSmall) (List.mem_of_getElem? (i := 10) (by decide +kernel))), trivial⟩ ⟨fun a U g mk q => by obtain ⟨q0, q1, qP, qK, qD⟩ := q; exact ⟨q0, q1, qP, va_K.moved (u := U) (U := U.calling g mk a) (Vm.Alike.refl U.vm) qK, qD⟩, fun U hU hW => ⟨rfl, by rw [hU], by rw [hU]; exact hPc, va_K.moved hW.alike hKc, hDc.weaken (fun _ _ _ _ => trivial)⟩⟩ rfl rfl hl.1 rfl (lv_room (Nat.le_of_ble_eq_true rfl)) dX6_endOfDoc_31 ⟨Nat.le_of_ble_eq_true rfl, Nat.le_of_ble_eq_true rfl⟩) hS (fun q _ h => hFc q h) hFc (fun r_8 u t H1 locs ht hvm hw hB hz1 hk1 hS => ?_)
          have hr_8 := hw
          obtain ⟨hP, hD⟩ := va_join (wr := [(rd, .inr (6, rF r a0 a1 a2 a3 a4 a5 a6 a7)), (ta, .inl (cT, nb, .inl ft))]) (w1 := []) hP hD [] [0, 1] rfl rfl (by decide) (by decide) hk1 hFc (fun k q h => by simp at h) ⟨fun i j p q h => by simp at h, fun k q h => by simp at h⟩
          generalize H1 = H at hP hS ⊢
          have hP : va_P (dC, dI) vwCl [(rd, .inr (6, rF r a0 a1 a2 a3 a4 a5 a6 a7)), (ta, .inl (cT, nb, .inl ft))] H := hP
          have hD : va_D A [(rd, .inr (6, rF r a0 a1 a2 a3 a4 a5 a6 a7)), (ta, .inl (cT, nb, .inl ft))] := hD
          refine lv_if_ne (tgt := 47) hx hb dX6_endOfDoc_34 (by decide) (fun k_9 => ?_) (fun k_9 => ?_)
          · have tk_9 := c_ne (a := r_8.toInt) (b := 0) rfl (by decide) k_9
            refine lv_iload hx hb dX6_endOfDoc_47 (lv_at hl 0 rfl) ?_
            refine lv_iload_n hx hb dX6_endOfDoc_49 rfl (lv_at hl 3 rfl) ?_
            refine lv_isub hx hb dX6_endOfDoc_50 ?_
            refine lv_topi (fun y_10 ey_10 => ?_)
            first | have ty_10 := i_sub (a := ax.toInt) (b := i8.toInt) rfl rfl ey_10 (by omega) (by omega) | skip
            refine lv_bipush (v := 60) hx hb dX6_endOfDoc_51 (by decide) ?_
            refine lv_icmp_lt (tgt := 66) hx hb dX6_endOfDoc_53 (by decide) (fun k_11 => ?_) (fun k_11 => ?_)
            · have tk_11 := c_lt (a := y_10.toInt) (b := 60) rfl (by decide) k_11
              obtain ⟨y_12, ey_12⟩ : ∃ y : Int32, y = ax + 1 := ⟨_, rfl⟩
              first | have ty_12 := i_add (a := ax.toInt) (b := 1) rfl (by decide) ey_12 (by omega) (by omega) | skip
              refine lv_iinc (v := y_12) (lv' := [(4, .int y_12), (0, .ref rd), (1, .ref ta), (2, .int i8), (3, .int i9)]) hx hb dX6_endOfDoc_66 hl (k := 0) rfl (by rw [ey_12]; rfl) (by decide) rfl (fun ls hl => ?_)
              refine lv_goto (tgt := 3) hx hb dX6_endOfDoc_69 (by decide) ?_
              exact ih3 y_12 (by first | omega | decide | assumption) (by omega) _ _ ls hP hD hS (lv_sub hl [0, 1, 2, 3, 4] rfl)
            · have tk_11 := c_nlt (a := y_10.toInt) (b := 60) rfl (by decide) k_11
              refine lv_aload_n hx hb dX6_endOfDoc_56 rfl (lv_at hl 1 rfl) ?_
              refine lv_iconst (v := 4) hx hb dX6_endOfDoc_57 (by decide) ?_
              refine lv_iload hx hb dX6_endOfDoc_58 (lv_at hl 0 rfl) ?_
              have hPc := hP.sub (ws' := [(rd, .inr (6, rF r a0 a1 a2 a3 a4 a5 a6 a7))]) [0] rfl
              have hKc := hK.sub (tys' := []) [] rfl
              have hDc := hD.sub (ws' := [(rd, .inr (6, rF r a0 a1 a2 a3 a4 a5 a6 a7))]) [0] (by decide) rfl
              have hFc := va_free (wc := [(rd, .inr (6, rF r a0 a1 a2 a3 a4 a5 a6 a7))]) hD hS hA [0] rfl
              refine va_callv (va_runV (As := [.int 4, .int ax]) (rest := []) ⟨hx, hb, hml, hown, hts⟩ (s_fail l dC dI rd r a0 a1 a2 a3 a4 a5 a6 a7 H.size 4 ax) (cwV 2 hts mg_X6_endOfDoc_X6_fail_71 rfl rfl rfl (by decide +kernel) ⟨Nat.le_of_ble_eq_true rfl, Nat.le_of_ble_eq_true rfl⟩) ⟨fun a U g mk q => by obtain ⟨q0, q1, qP, qK, qD⟩ := q; exact ⟨q0, q1, qP, va_K.moved (u := U) (U := U.calling g mk a) (Vm.Alike.refl U.vm) qK, qD⟩, va_recv hKc hPc (ci := 6) (q0 := 0) rfl rfl, fun U hU hW => ⟨rfl, by rw [hU], by rw [hU]; exact hPc, va_K.moved hW.alike hKc, hDc.weaken (fun _ _ _ _ => trivial)⟩⟩ rfl rfl hl.1 rfl (lv_room (Nat.le_of_ble_eq_true rfl)) dX6_endOfDoc_60 ⟨Nat.le_of_ble_eq_true rfl, Nat.le_of_ble_eq_true rfl⟩) hS (fun q _ h => hFc q h) hFc (fun u t H1 locs ht hvm hw hB hz1 hk1 hS => ?_)
              obtain ⟨hP1, hK1, hD1⟩ := hB
              rw [ht] at hP1
              obtain ⟨hP, hD⟩ := va_join (wr := [(ta, .inl (cT, nb, .inl ft))]) (w1 := [(rd, .inr (6, rF r 4 ax a2 a3 a4 a5 a6 a7))]) hP hD [0] [1] rfl rfl (by decide) (by decide) hk1 hFc hP1 hD1
              generalize H1 = H at hP hS ⊢
              have hP : va_P (dC, dI) vwCl [(ta, .inl (cT, nb, .inl ft)), (rd, .inr (6, rF r 4 ax a2 a3 a4 a5 a6 a7))] H := hP
              have hD : va_D A [(ta, .inl (cT, nb, .inl ft)), (rd, .inr (6, rF r 4 ax a2 a3 a4 a5 a6 a7))] := hD
              refine lv_iload hx hb dX6_endOfDoc_63 (lv_at hl 0 rfl) ?_
              have hP9 := hP.sub (ws' := [(rd, .inr (6, rF r 4 ax a2 a3 a4 a5 a6 a7)), (ta, .inl (cT, nb, .inl ft))]) [1, 0] rfl
              have hD9 := hD.sub (ws' := [(rd, .inr (6, rF r 4 ax a2 a3 a4 a5 a6 a7)), (ta, .inl (cT, nb, .inl ft))]) [1, 0] (by decide) rfl
              have hK9 := hK.sub (tys' := [(cT, .int)]) [0] rfl
              exact W.iret hx hb hr (fun t ht hW => ⟨⟨_, (), rfl, by omega, 4, ax, by rw [ht]; exact hP9, va_K.moved hW.alike hK9, hD9⟩, hS.F ht⟩) hS.2.2 dX6_endOfDoc_65
          · have tk_9 := c_eq (a := r_8.toInt) (b := 0) rfl (by decide) k_9
            refine lv_aload_n hx hb dX6_endOfDoc_37 rfl (lv_at hl 1 rfl) ?_
            refine lv_iconst (v := 1) hx hb dX6_endOfDoc_38 (by decide) ?_
            refine lv_iload hx hb dX6_endOfDoc_39 (lv_at hl 0 rfl) ?_
            have hPc := hP.sub (ws' := [(rd, .inr (6, rF r a0 a1 a2 a3 a4 a5 a6 a7))]) [0] rfl
            have hKc := hK.sub (tys' := []) [] rfl
            have hDc := hD.sub (ws' := [(rd, .inr (6, rF r a0 a1 a2 a3 a4 a5 a6 a7))]) [0] (by decide) rfl
            have hFc := va_free (wc := [(rd, .inr (6, rF r a0 a1 a2 a3 a4 a5 a6 a7))]) hD hS hA [0] rfl
            refine va_callv (va_runV (As := [.int 1, .int ax]) (rest := []) ⟨hx, hb, hml, hown, hts⟩ (s_fail l dC dI rd r a0 a1 a2 a3 a4 a5 a6 a7 H.size 1 ax) (cwV 2 hts mg_X6_endOfDoc_X6_fail_71 rfl rfl rfl (by decide +kernel) ⟨Nat.le_of_ble_eq_true rfl, Nat.le_of_ble_eq_true rfl⟩) ⟨fun a U g mk q => by obtain ⟨q0, q1, qP, qK, qD⟩ := q; exact ⟨q0, q1, qP, va_K.moved (u := U) (U := U.calling g mk a) (Vm.Alike.refl U.vm) qK, qD⟩, va_recv hKc hPc (ci := 6) (q0 := 0) rfl rfl, fun U hU hW => ⟨rfl, by rw [hU], by rw [hU]; exact hPc, va_K.moved hW.alike hKc, hDc.weaken (fun _ _ _ _ => trivial)⟩⟩ rfl rfl hl.1 rfl (lv_room (Nat.le_of_ble_eq_true rfl)) dX6_endOfDoc_41 ⟨Nat.le_of_ble_eq_true rfl, Nat.le_of_ble_eq_true rfl⟩) hS (fun q _ h => hFc q h) hFc (fun u t H1 locs ht hvm hw hB hz1 hk1 hS => ?_)
            obtain ⟨hP1, hK1, hD1⟩ := hB
            rw [ht] at hP1
            obtain ⟨hP, hD⟩ := va_join (wr := [(ta, .inl (cT, nb, .inl ft))]) (w1 := [(rd, .inr (6, rF r 1 ax a2 a3 a4 a5 a6 a7))]) hP hD [0] [1] rfl rfl (by decide) (by decide) hk1 hFc hP1 hD1
            generalize H1 = H at hP hS ⊢
            have hP : va_P (dC, dI) vwCl [(ta, .inl (cT, nb, .inl ft)), (rd, .inr (6, rF r 1 ax a2 a3 a4 a5 a6 a7))] H := hP
            have hD : va_D A [(ta, .inl (cT, nb, .inl ft)), (rd, .inr (6, rF r 1 ax a2 a3 a4 a5 a6 a7))] := hD
            refine lv_iload hx hb dX6_endOfDoc_44 (lv_at hl 0 rfl) ?_
            have hP9 := hP.sub (ws' := [(rd, .inr (6, rF r 1 ax a2 a3 a4 a5 a6 a7)), (ta, .inl (cT, nb, .inl ft))]) [1, 0] rfl
            have hD9 := hD.sub (ws' := [(rd, .inr (6, rF r 1 ax a2 a3 a4 a5 a6 a7)), (ta, .inl (cT, nb, .inl ft))]) [1, 0] (by decide) rfl
            have hK9 := hK.sub (tys' := [(cT, .int)]) [0] rfl
            exact W.iret hx hb hr (fun t ht hW => ⟨⟨_, (), rfl, by omega, 1, ax, by rw [ht]; exact hP9, va_K.moved hW.alike hK9, hD9⟩, hS.F ht⟩) hS.2.2 dX6_endOfDoc_46
        · have tk_5 := c_eq (a := y_4.toInt) (b := 34) rfl (by decide) k_5
          refine lv_iload hx hb dX6_endOfDoc_18 (lv_at hl 0 rfl) ?_
          refine lv_iload_n hx hb dX6_endOfDoc_20 rfl (lv_at hl 3 rfl) ?_
          refine lv_icmp_le (tgt := 27) hx hb dX6_endOfDoc_21 (by decide) (fun k_17 => ?_) (fun k_17 => ?_)
          · have tk_17 := c_le (a := ax.toInt) (b := i8.toInt) rfl rfl k_17
            refine lv_aload_n hx hb dX6_endOfDoc_27 rfl (lv_at hl 2 rfl) ?_
            refine lv_iload hx hb dX6_endOfDoc_28 (lv_at hl 0 rfl) ?_
            refine va_iald hx hb hK hP 1 0 rfl rfl (i := ax) (vp_of (a := ax.toInt) rfl (by omega) (by omega)) dX6_endOfDoc_30 ?_
            refine lv_topi (fun y_18 ey_18 => ?_)
            have rg_y_18 := i_rng y_18
            have hPc := hP.sub (ws' := []) [] rfl
            have hKc := hK.sub (tys' := []) [] rfl
            have hDc := hD.sub (ws' := []) [] (by decide) rfl
            have hFc := va_free (wc := []) hD hS hA [] rfl
            refine va_calli (va_runSN (As := [.int y_18]) (rest := []) ⟨hx, hb, hml, hown, hts⟩ (s_isSmallW l dC dI H.size y_18) ⟨va_cnB 1 hts mg_X6_endOfDoc_X9_isSmall_53 rfl rfl rfl hN53 (hts (.initialized RX9) (List.mem_of_getElem? (i := 9) (by decide +kernel))) (by decide +kernel) ⟨Nat.le_of_ble_eq_true rfl, Nat.le_of_ble_eq_true rfl⟩, (hts (.static yX9_isSmall) (List.mem_of_getElem? (i := 10) (by decide +kernel))), trivial⟩ ⟨fun a U g mk q => by obtain ⟨q0, q1, qP, qK, qD⟩ := q; exact ⟨q0, q1, qP, va_K.moved (u := U) (U := U.calling g mk a) (Vm.Alike.refl U.vm) qK, qD⟩, fun U hU hW => ⟨rfl, by rw [hU], by rw [hU]; exact hPc, va_K.moved hW.alike hKc, hDc.weaken (fun _ _ _ _ => trivial)⟩⟩ rfl rfl hl.1 rfl (lv_room (Nat.le_of_ble_eq_true rfl)) dX6_endOfDoc_31 ⟨Nat.le_of_ble_eq_true rfl, Nat.le_of_ble_eq_true rfl⟩) hS (fun q _ h => hFc q h) hFc (fun r_20 u t H1 locs ht hvm hw hB hz1 hk1 hS => ?_)
            have hr_20 := hw
            obtain ⟨hP, hD⟩ := va_join (wr := [(rd, .inr (6, rF r a0 a1 a2 a3 a4 a5 a6 a7)), (ta, .inl (cT, nb, .inl ft))]) (w1 := []) hP hD [] [0, 1] rfl rfl (by decide) (by decide) hk1 hFc (fun k q h => by simp at h) ⟨fun i j p q h => by simp at h, fun k q h => by simp at h⟩
            generalize H1 = H at hP hS ⊢
            have hP : va_P (dC, dI) vwCl [(rd, .inr (6, rF r a0 a1 a2 a3 a4 a5 a6 a7)), (ta, .inl (cT, nb, .inl ft))] H := hP
            have hD : va_D A [(rd, .inr (6, rF r a0 a1 a2 a3 a4 a5 a6 a7)), (ta, .inl (cT, nb, .inl ft))] := hD
            refine lv_if_ne (tgt := 47) hx hb dX6_endOfDoc_34 (by decide) (fun k_21 => ?_) (fun k_21 => ?_)
            · have tk_21 := c_ne (a := r_20.toInt) (b := 0) rfl (by decide) k_21
              refine lv_iload hx hb dX6_endOfDoc_47 (lv_at hl 0 rfl) ?_
              refine lv_iload_n hx hb dX6_endOfDoc_49 rfl (lv_at hl 3 rfl) ?_
              refine lv_isub hx hb dX6_endOfDoc_50 ?_
              refine lv_topi (fun y_22 ey_22 => ?_)
              first | have ty_22 := i_sub (a := ax.toInt) (b := i8.toInt) rfl rfl ey_22 (by omega) (by omega) | skip
              refine lv_bipush (v := 60) hx hb dX6_endOfDoc_51 (by decide) ?_
              refine lv_icmp_lt (tgt := 66) hx hb dX6_endOfDoc_53 (by decide) (fun k_23 => ?_) (fun k_23 => ?_)
              · have tk_23 := c_lt (a := y_22.toInt) (b := 60) rfl (by decide) k_23
                obtain ⟨y_24, ey_24⟩ : ∃ y : Int32, y = ax + 1 := ⟨_, rfl⟩
                first | have ty_24 := i_add (a := ax.toInt) (b := 1) rfl (by decide) ey_24 (by omega) (by omega) | skip
                refine lv_iinc (v := y_24) (lv' := [(4, .int y_24), (0, .ref rd), (1, .ref ta), (2, .int i8), (3, .int i9)]) hx hb dX6_endOfDoc_66 hl (k := 0) rfl (by rw [ey_24]; rfl) (by decide) rfl (fun ls hl => ?_)
                refine lv_goto (tgt := 3) hx hb dX6_endOfDoc_69 (by decide) ?_
                exact ih3 y_24 (by first | omega | decide | assumption) (by omega) _ _ ls hP hD hS (lv_sub hl [0, 1, 2, 3, 4] rfl)
              · have tk_23 := c_nlt (a := y_22.toInt) (b := 60) rfl (by decide) k_23
                refine lv_aload_n hx hb dX6_endOfDoc_56 rfl (lv_at hl 1 rfl) ?_
                refine lv_iconst (v := 4) hx hb dX6_endOfDoc_57 (by decide) ?_
                refine lv_iload hx hb dX6_endOfDoc_58 (lv_at hl 0 rfl) ?_
                have hPc := hP.sub (ws' := [(rd, .inr (6, rF r a0 a1 a2 a3 a4 a5 a6 a7))]) [0] rfl
                have hKc := hK.sub (tys' := []) [] rfl
                have hDc := hD.sub (ws' := [(rd, .inr (6, rF r a0 a1 a2 a3 a4 a5 a6 a7))]) [0] (by decide) rfl
                have hFc := va_free (wc := [(rd, .inr (6, rF r a0 a1 a2 a3 a4 a5 a6 a7))]) hD hS hA [0] rfl
                refine va_callv (va_runV (As := [.int 4, .int ax]) (rest := []) ⟨hx, hb, hml, hown, hts⟩ (s_fail l dC dI rd r a0 a1 a2 a3 a4 a5 a6 a7 H.size 4 ax) (cwV 2 hts mg_X6_endOfDoc_X6_fail_71 rfl rfl rfl (by decide +kernel) ⟨Nat.le_of_ble_eq_true rfl, Nat.le_of_ble_eq_true rfl⟩) ⟨fun a U g mk q => by obtain ⟨q0, q1, qP, qK, qD⟩ := q; exact ⟨q0, q1, qP, va_K.moved (u := U) (U := U.calling g mk a) (Vm.Alike.refl U.vm) qK, qD⟩, va_recv hKc hPc (ci := 6) (q0 := 0) rfl rfl, fun U hU hW => ⟨rfl, by rw [hU], by rw [hU]; exact hPc, va_K.moved hW.alike hKc, hDc.weaken (fun _ _ _ _ => trivial)⟩⟩ rfl rfl hl.1 rfl (lv_room (Nat.le_of_ble_eq_true rfl)) dX6_endOfDoc_60 ⟨Nat.le_of_ble_eq_true rfl, Nat.le_of_ble_eq_true rfl⟩) hS (fun q _ h => hFc q h) hFc (fun u t H1 locs ht hvm hw hB hz1 hk1 hS => ?_)
                obtain ⟨hP1, hK1, hD1⟩ := hB
                rw [ht] at hP1
                obtain ⟨hP, hD⟩ := va_join (wr := [(ta, .inl (cT, nb, .inl ft))]) (w1 := [(rd, .inr (6, rF r 4 ax a2 a3 a4 a5 a6 a7))]) hP hD [0] [1] rfl rfl (by decide) (by decide) hk1 hFc hP1 hD1
                generalize H1 = H at hP hS ⊢
                have hP : va_P (dC, dI) vwCl [(ta, .inl (cT, nb, .inl ft)), (rd, .inr (6, rF r 4 ax a2 a3 a4 a5 a6 a7))] H := hP
                have hD : va_D A [(ta, .inl (cT, nb, .inl ft)), (rd, .inr (6, rF r 4 ax a2 a3 a4 a5 a6 a7))] := hD
                refine lv_iload hx hb dX6_endOfDoc_63 (lv_at hl 0 rfl) ?_
                have hP9 := hP.sub (ws' := [(rd, .inr (6, rF r 4 ax a2 a3 a4 a5 a6 a7)), (ta, .inl (cT, nb, .inl ft))]) [1, 0] rfl
                have hD9 := hD.sub (ws' := [(rd, .inr (6, rF r 4 ax a2 a3 a4 a5 a6 a7)), (ta, .inl (cT, nb, .inl ft))]) [1, 0] (by decide) rfl
                have hK9 := hK.sub (tys' := [(cT, .int)]) [0] rfl
                exact W.iret hx hb hr (fun t ht hW => ⟨⟨_, (), rfl, by omega, 4, ax, by rw [ht]; exact hP9, va_K.moved hW.alike hK9, hD9⟩, hS.F ht⟩) hS.2.2 dX6_endOfDoc_65
            · have tk_21 := c_eq (a := r_20.toInt) (b := 0) rfl (by decide) k_21
              refine lv_aload_n hx hb dX6_endOfDoc_37 rfl (lv_at hl 1 rfl) ?_
              refine lv_iconst (v := 1) hx hb dX6_endOfDoc_38 (by decide) ?_
              refine lv_iload hx hb dX6_endOfDoc_39 (lv_at hl 0 rfl) ?_
              have hPc := hP.sub (ws' := [(rd, .inr (6, rF r a0 a1 a2 a3 a4 a5 a6 a7))]) [0] rfl
              have hKc := hK.sub (tys' := []) [] rfl
              have hDc := hD.sub (ws' := [(rd, .inr (6, rF r a0 a1 a2 a3 a4 a5 a6 a7))]) [0] (by decide) rfl
              have hFc := va_free (wc := [(rd, .inr (6, rF r a0 a1 a2 a3 a4 a5 a6 a7))]) hD hS hA [0] rfl
              refine va_callv (va_runV (As := [.int 1, .int ax]) (rest := []) ⟨hx, hb, hml, hown, hts⟩ (s_fail l dC dI rd r a0 a1 a2 a3 a4 a5 a6 a7 H.size 1 ax) (cwV 2 hts mg_X6_endOfDoc_X6_fail_71 rfl rfl rfl (by decide +kernel) ⟨Nat.le_of_ble_eq_true rfl, Nat.le_of_ble_eq_true rfl⟩) ⟨fun a U g mk q => by obtain ⟨q0, q1, qP, qK, qD⟩ := q; exact ⟨q0, q1, qP, va_K.moved (u := U) (U := U.calling g mk a) (Vm.Alike.refl U.vm) qK, qD⟩, va_recv hKc hPc (ci := 6) (q0 := 0) rfl rfl, fun U hU hW => ⟨rfl, by rw [hU], by rw [hU]; exact hPc, va_K.moved hW.alike hKc, hDc.weaken (fun _ _ _ _ => trivial)⟩⟩ rfl rfl hl.1 rfl (lv_room (Nat.le_of_ble_eq_true rfl)) dX6_endOfDoc_41 ⟨Nat.le_of_ble_eq_true rfl, Nat.le_of_ble_eq_true rfl⟩) hS (fun q _ h => hFc q h) hFc (fun u t H1 locs ht hvm hw hB hz1 hk1 hS => ?_)
              obtain ⟨hP1, hK1, hD1⟩ := hB
              rw [ht] at hP1
              obtain ⟨hP, hD⟩ := va_join (wr := [(ta, .inl (cT, nb, .inl ft))]) (w1 := [(rd, .inr (6, rF r 1 ax a2 a3 a4 a5 a6 a7))]) hP hD [0] [1] rfl rfl (by decide) (by decide) hk1 hFc hP1 hD1
              generalize H1 = H at hP hS ⊢
              have hP : va_P (dC, dI) vwCl [(ta, .inl (cT, nb, .inl ft)), (rd, .inr (6, rF r 1 ax a2 a3 a4 a5 a6 a7))] H := hP
              have hD : va_D A [(ta, .inl (cT, nb, .inl ft)), (rd, .inr (6, rF r 1 ax a2 a3 a4 a5 a6 a7))] := hD
              refine lv_iload hx hb dX6_endOfDoc_44 (lv_at hl 0 rfl) ?_
              have hP9 := hP.sub (ws' := [(rd, .inr (6, rF r 1 ax a2 a3 a4 a5 a6 a7)), (ta, .inl (cT, nb, .inl ft))]) [1, 0] rfl
              have hD9 := hD.sub (ws' := [(rd, .inr (6, rF r 1 ax a2 a3 a4 a5 a6 a7)), (ta, .inl (cT, nb, .inl ft))]) [1, 0] (by decide) rfl
              have hK9 := hK.sub (tys' := [(cT, .int)]) [0] rfl
              exact W.iret hx hb hr (fun t ht hW => ⟨⟨_, (), rfl, by omega, 1, ax, by rw [ht]; exact hP9, va_K.moved hW.alike hK9, hD9⟩, hS.F ht⟩) hS.2.2 dX6_endOfDoc_46
          · have tk_17 := c_nle (a := ax.toInt) (b := i8.toInt) rfl rfl k_17
            refine lv_iload hx hb dX6_endOfDoc_24 (lv_at hl 0 rfl) ?_
            have hP9 := hP.sub (ws' := [(rd, .inr (6, rF r a0 a1 a2 a3 a4 a5 a6 a7)), (ta, .inl (cT, nb, .inl ft))]) [0, 1] rfl
            have hD9 := hD.sub (ws' := [(rd, .inr (6, rF r a0 a1 a2 a3 a4 a5 a6 a7)), (ta, .inl (cT, nb, .inl ft))]) [0, 1] (by decide) rfl
            have hK9 := hK.sub (tys' := [(cT, .int)]) [0] rfl
            exact W.iret hx hb hr (fun t ht hW => ⟨⟨_, (), rfl, by omega, a0, a1, by rw [ht]; exact hP9, va_K.moved hW.alike hK9, hD9⟩, hS.F ht⟩) hS.2.2 dX6_endOfDoc_26
  exact loop3 _ i8 (by first | omega | decide | assumption) (Nat.lt_succ_self _) _ _ ls hP hD hS (lv_sub hl [0, 1, 2, 3, 4] rfl)
theorem dX6_endOfSet_0 : decode cX6_endOfSet 0 = .ok (.iconst 0, 1) := by decide +kernel
theorem dX6_endOfSet_1 : decode cX6_endOfSet 1 = .ok (.istore 4, 2) := by decide +kernel
theorem dX6_endOfSet_3 : decode cX6_endOfSet 3 = .ok (.iload_n 2, 1) := by decide +kernel
theorem dX6_endOfSet_4 : decode cX6_endOfSet 4 = .ok (.istore 5, 2) := by decide +kernel
theorem dX6_endOfSet_6 : decode cX6_endOfSet 6 = .ok (.iload 5, 2) := by decide +kernel
theorem dX6_endOfSet_8 : decode cX6_endOfSet 8 = .ok (.iload_n 3, 1) := by decide +kernel
theorem dX6_endOfSet_9 : decode cX6_endOfSet 9 = .ok (.if_icmp .ge 82, 3) := by decide +kernel
theorem dX6_endOfSet_12 : decode cX6_endOfSet 12 = .ok (.aload_n 1, 1) := by decide +kernel
theorem dX6_endOfSet_13 : decode cX6_endOfSet 13 = .ok (.iload 5, 2) := by decide +kernel
theorem dX6_endOfSet_15 : decode cX6_endOfSet 15 = .ok (.iaload, 1) := by decide +kernel
theorem dX6_endOfSet_16 : decode cX6_endOfSet 16 = .ok (.bipush 93, 2) := by decide +kernel
theorem dX6_endOfSet_18 : decode cX6_endOfSet 18 = .ok (.if_icmp .ne 11, 3) := by decide +kernel
theorem dX6_endOfSet_21 : decode cX6_endOfSet 21 = .ok (.iload 4, 2) := by decide +kernel
theorem dX6_endOfSet_23 : decode cX6_endOfSet 23 = .ok (.ifCond .eq 6, 3) := by decide +kernel
theorem dX6_endOfSet_26 : decode cX6_endOfSet 26 = .ok (.iload 5, 2) := by decide +kernel
theorem dX6_endOfSet_28 : decode cX6_endOfSet 28 = .ok (.ireturn, 1) := by decide +kernel
theorem dX6_endOfSet_29 : decode cX6_endOfSet 29 = .ok (.aload_n 1, 1) := by decide +kernel
theorem dX6_endOfSet_30 : decode cX6_endOfSet 30 = .ok (.iload 5, 2) := by decide +kernel
theorem dX6_endOfSet_32 : decode cX6_endOfSet 32 = .ok (.iaload, 1) := by decide +kernel
theorem dX6_endOfSet_33 : decode cX6_endOfSet 33 = .ok (.invokestatic 53, 3) := by decide +kernel
theorem dX6_endOfSet_36 : decode cX6_endOfSet 36 = .ok (.ifCond .ne 13, 3) := by decide +kernel
theorem dX6_endOfSet_39 : decode cX6_endOfSet 39 = .ok (.aload_n 0, 1) := by decide +kernel
theorem dX6_endOfSet_40 : decode cX6_endOfSet 40 = .ok (.iconst 1, 1) := by decide +kernel
theorem dX6_endOfSet_41 : decode cX6_endOfSet 41 = .ok (.iload 5, 2) := by decide +kernel
theorem dX6_endOfSet_43 : decode cX6_endOfSet 43 = .ok (.invokevirtual 71, 3) := by decide +kernel
theorem dX6_endOfSet_46 : decode cX6_endOfSet 46 = .ok (.iload 5, 2) := by decide +kernel
theorem dX6_endOfSet_48 : decode cX6_endOfSet 48 = .ok (.ireturn, 1) := by decide +kernel
theorem dX6_endOfSet_49 : decode cX6_endOfSet 49 = .ok (.iconst 1, 1) := by decide +kernel
theorem dX6_endOfSet_50 : decode cX6_endOfSet 50 = .ok (.aload_n 1, 1) := by decide +kernel
theorem dX6_endOfSet_51 : decode cX6_endOfSet 51 = .ok (.iload 5, 2) := by decide +kernel
theorem dX6_endOfSet_53 : decode cX6_endOfSet 53 = .ok (.iaload, 1) := by decide +kernel
theorem dX6_endOfSet_54 : decode cX6_endOfSet 54 = .ok (.bipush 97, 2) := by decide +kernel
theorem dX6_endOfSet_56 : decode cX6_endOfSet 56 = .ok (.isub, 1) := by decide +kernel
theorem dX6_endOfSet_57 : decode cX6_endOfSet 57 = .ok (.ishl, 1) := by decide +kernel
theorem dX6_endOfSet_58 : decode cX6_endOfSet 58 = .ok (.istore 6, 2) := by decide +kernel
theorem dX6_endOfSet_60 : decode cX6_endOfSet 60 = .ok (.iload 4, 2) := by decide +kernel
theorem dX6_endOfSet_62 : decode cX6_endOfSet 62 = .ok (.iload 6, 2) := by decide +kernel
theorem dX6_endOfSet_64 : decode cX6_endOfSet 64 = .ok (.iand, 1) := by decide +kernel
theorem dX6_endOfSet_65 : decode cX6_endOfSet 65 = .ok (.ifCond .eq 13, 3) := by decide +kernel
theorem dX6_endOfSet_68 : decode cX6_endOfSet 68 = .ok (.aload_n 0, 1) := by decide +kernel
theorem dX6_endOfSet_69 : decode cX6_endOfSet 69 = .ok (.iconst 4, 1) := by decide +kernel
theorem dX6_endOfSet_70 : decode cX6_endOfSet 70 = .ok (.iload 5, 2) := by decide +kernel
theorem dX6_endOfSet_72 : decode cX6_endOfSet 72 = .ok (.invokevirtual 71, 3) := by decide +kernel
theorem dX6_endOfSet_75 : decode cX6_endOfSet 75 = .ok (.iload 5, 2) := by decide +kernel
theorem dX6_endOfSet_77 : decode cX6_endOfSet 77 = .ok (.ireturn, 1) := by decide +kernel
theorem dX6_endOfSet_78 : decode cX6_endOfSet 78 = .ok (.iload 4, 2) := by decide +kernel
theorem dX6_endOfSet_80 : decode cX6_endOfSet 80 = .ok (.iload 6, 2) := by decide +kernel
theorem dX6_endOfSet_82 : decode cX6_endOfSet 82 = .ok (.ior, 1) := by decide +kernel
theorem dX6_endOfSet_83 : decode cX6_endOfSet 83 = .ok (.istore 4, 2) := by decide +kernel
theorem dX6_endOfSet_85 : decode cX6_endOfSet 85 = .ok (.iinc 5 1, 3) := by decide +kernel
theorem dX6_endOfSet_88 : decode cX6_endOfSet 88 = .ok (.goto (-82), 3) := by decide +kernel
theorem dX6_endOfSet_91 : decode cX6_endOfSet 91 = .ok (.aload_n 0, 1) := by decide +kernel
theorem dX6_endOfSet_92 : decode cX6_endOfSet 92 = .ok (.iconst 1, 1) := by decide +kernel
theorem dX6_endOfSet_93 : decode cX6_endOfSet 93 = .ok (.iload_n 3, 1) := by decide +kernel
theorem dX6_endOfSet_94 : decode cX6_endOfSet 94 = .ok (.invokevirtual 71, 3) := by decide +kernel
theorem dX6_endOfSet_97 : decode cX6_endOfSet 97 = .ok (.iload_n 3, 1) := by decide +kernel
theorem dX6_endOfSet_98 : decode cX6_endOfSet 98 = .ok (.ireturn, 1) := by decide +kernel
def mwX6_endOfSet : List Cond := .code yX6_endOfSet cX6_endOfSet 7 (some .int) :: ([.code yX6_fail cX6_fail 3 none, .fieldLink RX6 22 "PatternGate$Reader" "faultKind" "I", .fieldLink RX6 26 "PatternGate$Reader" "faultPlace" "I", .methodLink RX6 71 yX6_fail, .instanceMethod yX6_fail, .selects RX6 yX6_fail yX6_fail, .initialized RX6, .code yX9_isSmall cX9_isSmall 1 (some .boolean), .initialized RX9, .static yX9_isSmall] ++ wsX60)
set_option maxRecDepth 20000 in
theorem mg_X6_endOfSet_X6_fail_71 : GoodIn mwX6_endOfSet (wsV RX6 71 RX6 yX6_fail mwX6_fail) := goodIn_r _ [4, 5, 6, 7, 1, 2, 3, 11, 12, 13, 14, 15, 16, 17, 18, 19, 20, 21] (by decide +kernel) (by decide +kernel)
set_option maxRecDepth 20000 in
theorem mg_X6_endOfSet_X9_isSmall_53 : GoodIn mwX6_endOfSet mwX9_isSmallw := goodIn_r _ [8] (by decide +kernel) (by decide +kernel)
set_option maxHeartbeats 4000000 in
set_option maxRecDepth 100000 in
/-- s_endOfSet -/
theorem s_endOfSet (l : Launch) (dC : Nat → ClassId) (dI : Nat → Nat → Nat) (rd : Nat) (r : Nat → Nat) (a0 a1 a2 a3 a4 a5 a6 a7 : Int32) (ta nb : Nat) (cT : ClassId) (ft : Nat → Int32) (sz : Nat) (i8 i9 : Int32) (hn : nb ≤ 1000) (h1 : 0 ≤ i8.toInt) (h2 : i9.toInt ≤ nb) (h3 : i8.toInt ≤ i9.toInt) : Met l yX6_endOfSet mwX6_endOfSet ({ frames := 1, cells := 0, slots := 0, locals := 60 }) (va_Pc [.ref rd, .ref ta, .int i8, .int i9] (fun U => U.heap.size = sz ∧ va_P (dC, dI) vwCl ([(rd, .inr (6, rF r a0 a1 a2 a3 a4 a5 a6 a7)), (ta, .inl (cT, nb, .inl ft))]) U.heap ∧ va_K (dC, dI) vwCl ([(cT, .int)]) U ∧ va_D (fun _ => True) ([(rd, .inr (6, rF r a0 a1 a2 a3 a4 a5 a6 a7)), (ta, .inl (cT, nb, .inl ft))]) ∧ va_Nw (.methodLinkNest RX6 53 yX9_isSmall "PatternGate") U)) (va_Qi (fun (o9 : Int32) (_ : Unit) => i8.toInt ≤ o9.toInt ∧ (o9.toInt ≤ i9.toInt ∨ o9.toInt ≤ i8.toInt)) (fun _ t => ∃ y0 y1 : Int32, va_P (dC, dI) vwCl [(rd, .inr (6, rF r y0 y1 a2 a3 a4 a5 a6 a7)), (ta, .inl (cT, nb, .inl ft))] t.heap ∧ va_K (dC, dI) vwCl [(cT, .int)] t ∧ va_D (va_A ([(rd, .inr (6, rF r a0 a1 a2 a3 a4 a5 a6 a7)), (ta, .inl (cT, nb, .inl ft))]) sz) [(rd, .inr (6, rF r y0 y1 a2 a3 a4 a5 a6 a7)), (ta, .inl (cT, nb, .inl ft))]) (va_A ([(rd, .inr (6, rF r a0 a1 a2 a3 a4 a5 a6 a7)), (ta, .inl (cT, nb, .inl ft))]) sz)) 0 0 (va_A ([(rd, .inr (6, rF r a0 a1 a2 a3 a4 a5 a6 a7)), (ta, .inl (cT, nb, .inl ft))]) sz) := by
  refine Met.ofW (cc := cX6_endOfSet) (maxL := 7) (ret := (some .int)) (by decide +kernel) rfl ?_
  intro p e s m args below meth c s₁ B hml hv
  obtain ⟨rfl, hsz, hP, hK, hD0, hN53⟩ := hv
  have hx := B.exec
  have hb := B.bytes
  have hr := B.returns
  have hts := atoms_spec (ws := mwX6_endOfSet) B.pre
  have hown : s.vm.findClass RX6 = some m.cls := findClass_of_methodNamed B.named
  have hlocks := B.notSynchronized
  subst hsz
  have hD := hD0.self (sz := s.heap.size)
  generalize hAe : va_A ([(rd, .inr (6, rF r a0 a1 a2 a3 a4 a5 a6 a7)), (ta, .inl (cT, nb, .inl ft))]) s.heap.size = A at hD ⊢
  have hA : ∀ q : Nat, s.heap.size ≤ q → A q := fun q h => by rw [← hAe]; exact Or.inr h
  have hP : va_P (dC, dI) vwCl [(rd, .inr (6, rF r a0 a1 a2 a3 a4 a5 a6 a7)), (ta, .inl (cT, nb, .inl ft))] s.heap := hP
  have hD : va_D A [(rd, .inr (6, rF r a0 a1 a2 a3 a4 a5 a6 a7)), (ta, .inl (cT, nb, .inl ft))] := hD
  have hK : va_K (dC, dI) vwCl [(cT, .int)] s := hK
  generalize hH : s.heap = H at hP ⊢
  have hS : va_S A s.heap H [] := by rw [← hH]; exact va_S.rf
  have hl := lv_entry ([.ref rd, .ref ta, .int i8, .int i9]) (n := 7) (Nat.le_of_ble_eq_true rfl)
  rw [lg_entry_eq]
  generalize (lg_sl ([.ref rd, .ref ta, .int i8, .int i9]) ++ List.replicate (7 - (lg_sl ([.ref rd, .ref ta, .int i8, .int i9])).length) Slot.unset).toArray = ls at hl ⊢
  have hl : lv_has ls 7 [(0, .ref rd), (1, .ref ta), (2, .int i8), (3, .int i9)] := hl
  have rg_i8 := i_rng i8
  have rg_i9 := i_rng i9
  refine lv_iconst (v := 0) hx hb dX6_endOfSet_0 (by decide) ?_
  refine lv_istore (lv' := [(4, .int 0), (0, .ref rd), (1, .ref ta), (2, .int i8), (3, .int i9)]) hx hb dX6_endOfSet_1 hl (by decide) rfl (fun ls hl => ?_)
  refine lv_iload_n hx hb dX6_endOfSet_3 rfl (lv_at hl 3 rfl) ?_
  refine lv_istore (lv' := [(5, .int i8), (4, .int 0), (0, .ref rd), (1, .ref ta), (2, .int i8), (3, .int i9)]) hx hb dX6_endOfSet_4 hl (by decide) rfl (fun ls hl => ?_)
  have loop6 : ∀ (lm6 : Nat) (le ax : Int32), (i8.toInt ≤ ax.toInt) → ((i9.toInt - ax.toInt).toNat) < lm6 → ∀ (H : Heap) (locs : List Loc) (ls : Array Slot), va_P (dC, dI) vwCl [(rd, .inr (6, rF r a0 a1 a2 a3 a4 a5 a6 a7)), (ta, .inl (cT, nb, .inl ft))] H → va_D A [(rd, .inr (6, rF r a0 a1 a2 a3 a4 a5 a6 a7)), (ta, .inl (cT, nb, .inl ft))] → va_S A s.heap H locs → lv_has ls 7 [(5, .int ax), (4, .int le), (0, .ref rd), (1, .ref ta), (2, .int i8), (3, .int i9)] → W p l e (headSpec mwX6_endOfSet ({ frames := 1, cells := 0, slots := 0, locals := 60 })).room s m ([.ref rd, .ref ta, .int i8, .int i9]).toArray below meth c H locs 0 0 (MQ below (va_Qi (fun (o9 : Int32) (_ : Unit) => i8.toInt ≤ o9.toInt ∧ (o9.toInt ≤ i9.toInt ∨ o9.toInt ≤ i8.toInt)) (fun _ t => ∃ y0 y1 : Int32, va_P (dC, dI) vwCl [(rd, .inr (6, rF r y0 y1 a2 a3 a4 a5 a6 a7)), (ta, .inl (cT, nb, .inl ft))] t.heap ∧ va_K (dC, dI) vwCl [(cT, .int)] t ∧ va_D A [(rd, .inr (6, rF r y0 y1 a2 a3 a4 a5 a6 a7)), (ta, .inl (cT, nb, .inl ft))]) A) ([.ref rd, .ref ta, .int i8, .int i9]).toArray s 0 0 A) (F0 m 6 ls []) := by
    intro lm6
    induction lm6 with
    | zero => intro le ax v6_0 hm6; exact absurd hm6 (Nat.not_lt_zero _)
    | succ lm6 ih6 =>
      intro le ax v6_0 hm6 H locs ls hP hD hS hl
      have rg_le := i_rng le
      have rg_ax := i_rng ax
      refine lv_iload hx hb dX6_endOfSet_6 (lv_at hl 0 rfl) ?_
      refine lv_iload_n hx hb dX6_endOfSet_8 rfl (lv_at hl 5 rfl) ?_
      refine lv_icmp_ge (tgt := 91) hx hb dX6_endOfSet_9 (by decide) (fun k_1 => ?_) (fun k_1 => ?_)
      · have tk_1 := c_ge (a := ax.toInt) (b := i9.toInt) rfl rfl k_1
        refine lv_aload_n hx hb dX6_endOfSet_91 rfl (lv_at hl 2 rfl) ?_
        refine lv_iconst (v := 1) hx hb dX6_endOfSet_92 (by decide) ?_
        refine lv_iload_n hx hb dX6_endOfSet_93 rfl (lv_at hl 5 rfl) ?_
        have hPc := hP.sub (ws' := [(rd, .inr (6, rF r a0 a1 a2 a3 a4 a5 a6 a7))]) [0] rfl
        have hKc := hK.sub (tys' := []) [] rfl
        have hDc := hD.sub (ws' := [(rd, .inr (6, rF r a0 a1 a2 a3 a4 a5 a6 a7))]) [0] (by decide) rfl
        have hFc := va_free (wc := [(rd, .inr (6, rF r a0 a1 a2 a3 a4 a5 a6 a7))]) hD hS hA [0] rfl
        refine va_callv (va_runV (As := [.int 1, .int i9]) (rest := []) ⟨hx, hb, hml, hown, hts⟩ (s_fail l dC dI rd r a0 a1 a2 a3 a4 a5 a6 a7 H.size 1 i9) (cwV 2 hts mg_X6_endOfSet_X6_fail_71 rfl rfl rfl (by decide +kernel) ⟨Nat.le_of_ble_eq_true rfl, Nat.le_of_ble_eq_true rfl⟩) ⟨fun a U g mk q => by obtain ⟨q0, q1, qP, qK, qD⟩ := q; exact ⟨q0, q1, qP, va_K.moved (u := U) (U := U.calling g mk a) (Vm.Alike.refl U.vm) qK, qD⟩, va_recv hKc hPc (ci := 6) (q0 := 0) rfl rfl, fun U hU hW => ⟨rfl, by rw [hU], by rw [hU]; exact hPc, va_K.moved hW.alike hKc, hDc.weaken (fun _ _ _ _ => trivial)⟩⟩ rfl rfl hl.1 rfl (lv_room (Nat.le_of_ble_eq_true rfl)) dX6_endOfSet_94 ⟨Nat.le_of_ble_eq_true rfl, Nat.le_of_ble_eq_true rfl⟩) hS (fun q _ h => hFc q h) hFc (fun u t H1 locs ht hvm hw hB hz1 hk1 hS => ?_)
        obtain ⟨hP1, hK1, hD1⟩ := hB
        rw [ht] at hP1
        obtain ⟨hP, hD⟩ := va_join (wr := [(ta, .inl (cT, nb, .inl ft))]) (w1 := [(rd, .inr (6, rF r 1 i9 a2 a3 a4 a5 a6 a7))]) hP hD [0] [1] rfl rfl (by decide) (by decide) hk1 hFc hP1 hD1
        generalize H1 = H at hP hS ⊢
        have hP : va_P (dC, dI) vwCl [(ta, .inl (cT, nb, .inl ft)), (rd, .inr (6, rF r 1 i9 a2 a3 a4 a5 a6 a7))] H := hP
        have hD : va_D A [(ta, .inl (cT, nb, .inl ft)), (rd, .inr (6, rF r 1 i9 a2 a3 a4 a5 a6 a7))] := hD
        refine lv_iload_n hx hb dX6_endOfSet_97 rfl (lv_at hl 5 rfl) ?_
        have hP9 := hP.sub (ws' := [(rd, .inr (6, rF r 1 i9 a2 a3 a4 a5 a6 a7)), (ta, .inl (cT, nb, .inl ft))]) [1, 0] rfl
        have hD9 := hD.sub (ws' := [(rd, .inr (6, rF r 1 i9 a2 a3 a4 a5 a6 a7)), (ta, .inl (cT, nb, .inl ft))]) [1, 0] (by decide) rfl
        have hK9 := hK.sub (tys' := [(cT, .int)]) [0] rfl
        exact W.iret hx hb hr (fun t ht hW => ⟨⟨_, (), rfl, by omega, 1, i9, by rw [ht]; exact hP9, va_K.moved hW.alike hK9, hD9⟩, hS.F ht⟩) hS.2.2 dX6_endOfSet_98
      · have tk_1 := c_nge (a := ax.toInt) (b := i9.toInt) rfl rfl k_1
        refine lv_aload_n hx hb dX6_endOfSet_12 rfl (lv_at hl 3 rfl) ?_
        refine lv_iload hx hb dX6_endOfSet_13 (lv_at hl 0 rfl) ?_
        refine va_iald hx hb hK hP 1 0 rfl rfl (i := ax) (vp_of (a := ax.toInt) rfl (by omega) (by omega)) dX6_endOfSet_15 ?_
        refine lv_topi (fun y_4 ey_4 => ?_)
        have rg_y_4 := i_rng y_4
        refine lv_bipush (v := 93) hx hb dX6_endOfSet_16 (by decide) ?_
        refine lv_icmp_ne (tgt := 29) hx hb dX6_endOfSet_18 (by decide) (fun k_5 => ?_) (fun k_5 => ?_)
        · have tk_5 := c_ne (a := y_4.toInt) (b := 93) rfl (by decide) k_5
          refine lv_aload_n hx hb dX6_endOfSet_29 rfl (lv_at hl 3 rfl) ?_
          refine lv_iload hx hb dX6_endOfSet_30 (lv_at hl 0 rfl) ?_
          refine va_iald hx hb hK hP 1 0 rfl rfl (i := ax) (vp_of (a := ax.toInt) rfl (by omega) (by omega)) dX6_endOfSet_32 ?_
          refine lv_topi (fun y_6 ey_6 => ?_)
          have rg_y_6 := i_rng y_6
          have hPc := hP.sub (ws' := []) [] rfl
          have hKc := hK.sub (tys' := []) [] rfl
          have hDc := hD.sub (ws' := []) [] (by decide) rfl
          have hFc := va_free (wc := []) hD hS hA [] rfl
          refine va_calli (va_runSN (As := [.int y_6]) (rest := []) ⟨hx, hb, hml, hown, hts⟩ (s_isSmallW l dC dI H.size y_6) ⟨va_cnB 1 hts mg_X6_endOfSet_X9_isSmall_53 rfl rfl rfl hN53 (hts (.initialized RX9) (List.mem_of_getElem? (i := 9) (by decide +kernel))) (by decide +kernel) ⟨Nat.le_of_ble_eq_true rfl, Nat.le_of_ble_eq_true rfl⟩, (hts (.static yX9_isSmall) (List.mem_of_getElem? (i := 10) (by decide +kernel))), trivial⟩ ⟨fun a U g mk q => by obtain ⟨q0, q1, qP, qK, qD⟩ := q; exact ⟨q0, q1, qP, va_K.moved (u := U) (U := U.calling g mk a) (Vm.Alike.refl U.vm) qK, qD⟩, fun U hU hW => ⟨rfl, by rw [hU], by rw [hU]; exact hPc, va_K.moved hW.alike hKc, hDc.weaken (fun _ _ _ _ => trivial)⟩⟩ rfl rfl hl.1 rfl (lv_room (Nat.le_of_ble_eq_true rfl)) dX6_endOfSet_33 ⟨Nat.le_of_ble_eq_true rfl, Nat.le_of_ble_eq_true rfl⟩) hS (fun q _ h => hFc q h) hFc (fun r_8 u t H1 locs ht hvm hw hB hz1 hk1 hS => ?_)
          have hr_8 := hw
          obtain ⟨hP, hD⟩ := va_join (wr := [(rd, .inr (6, rF r a0 a1 a2 a3 a4 a5 a6 a7)), (ta, .inl (cT, nb, .inl ft))]) (w1 := []) hP hD [] [0, 1] rfl rfl (by decide) (by decide) hk1 hFc (fun k q h => by simp at h) ⟨fun i j p q h => by simp at h, fun k q h => by simp at h⟩
          generalize H1 = H at hP hS ⊢
          have hP : va_P (dC, dI) vwCl [(rd, .inr (6, rF r a0 a1 a2 a3 a4 a5 a6 a7)), (ta, .inl (cT, nb, .inl ft))] H := hP
          have hD : va_D A [(rd, .inr (6, rF r a0 a1 a2 a3 a4 a5 a6 a7)), (ta, .inl (cT, nb, .inl ft))] := hD
          refine lv_if_ne (tgt := 49) hx hb dX6_endOfSet_36 (by decide) (fun k_9 => ?_) (fun k_9 => ?_)
          · have tk_9 := c_ne (a := r_8.toInt) (b := 0) rfl (by decide) k_9
            refine lv_iconst (v := 1) hx hb dX6_endOfSet_49 (by decide) ?_
            refine lv_aload_n hx hb dX6_endOfSet_50 rfl (lv_at hl 3 rfl) ?_
            refine lv_iload hx hb dX6_endOfSet_51 (lv_at hl 0 rfl) ?_
            refine va_iald hx hb hK hP 1 0 rfl rfl (i := ax) (vp_of (a := ax.toInt) rfl (by omega) (by omega)) dX6_endOfSet_53 ?_
            refine lv_topi (fun y_10 ey_10 => ?_)
            have rg_y_10 := i_rng y_10
            refine lv_bipush (v := 97) hx hb dX6_endOfSet_54 (by decide) ?_
            refine lv_isub hx hb dX6_endOfSet_56 ?_
            refine lv_topi (fun y_11 ey_11 => ?_)
            first | have ty_11 := i_sub (a := y_10.toInt) (b := 97) rfl (by decide) ey_11 (by omega) (by omega) | skip
            refine lv_ishl hx hb dX6_endOfSet_57 ?_
            refine lv_topi (fun y_12 ey_12 => ?_)
            have rg_y_12 := i_rng y_12
            refine lv_istore (lv' := [(6, .int y_12), (5, .int ax), (4, .int le), (0, .ref rd), (1, .ref ta), (2, .int i8), (3, .int i9)]) hx hb dX6_endOfSet_58 hl (by decide) rfl (fun ls hl => ?_)
            refine lv_iload hx hb dX6_endOfSet_60 (lv_at hl 2 rfl) ?_
            refine lv_iload hx hb dX6_endOfSet_62 (lv_at hl 0 rfl) ?_
            refine lv_iand hx hb dX6_endOfSet_64 ?_
            refine lv_topi (fun y_13 ey_13 => ?_)
            have rg_y_13 := i_rng y_13
            refine lv_if_eq (tgt := 78) hx hb dX6_endOfSet_65 (by decide) (fun k_14 => ?_) (fun k_14 => ?_)
            · have tk_14 := c_eq (a := y_13.toInt) (b := 0) rfl (by decide) k_14
              refine lv_iload hx hb dX6_endOfSet_78 (lv_at hl 2 rfl) ?_
              refine lv_iload hx hb dX6_endOfSet_80 (lv_at hl 0 rfl) ?_
              refine lv_ior hx hb dX6_endOfSet_82 ?_
              refine lv_topi (fun y_15 ey_15 => ?_)
              have rg_y_15 := i_rng y_15
              refine lv_istore (lv' := [(4, .int y_15), (6, .int y_12), (5, .int ax), (0, .ref rd), (1, .ref ta), (2, .int i8), (3, .int i9)]) hx hb dX6_endOfSet_83 hl (by decide) rfl (fun ls hl => ?_)
              obtain ⟨y_16, ey_16⟩ : ∃ y : Int32, y = ax + 1 := ⟨_, rfl⟩
              first | have ty_16 := i_add (a := ax.toInt) (b := 1) rfl (by decide) ey_16 (by omega) (by omega) | skip
              refine lv_iinc (v := y_16) (lv' := [(5, .int y_16), (4, .int y_15), (6, .int y_12), (0, .ref rd), (1, .ref ta), (2, .int i8), (3, .int i9)]) hx hb dX6_endOfSet_85 hl (k := 2) rfl (by rw [ey_16]; rfl) (by decide) rfl (fun ls hl => ?_)
              refine lv_goto (tgt := 6) hx hb dX6_endOfSet_88 (by decide) ?_
              exact ih6 y_15 y_16 (by first | omega | decide | assumption) (by omega) _ _ ls hP hD hS (lv_sub hl [0, 1, 3, 4, 5, 6] rfl)
            · have tk_14 := c_ne (a := y_13.toInt) (b := 0) rfl (by decide) k_14
              refine lv_aload_n hx hb dX6_endOfSet_68 rfl (lv_at hl 3 rfl) ?_
              refine lv_iconst (v := 4) hx hb dX6_endOfSet_69 (by decide) ?_
              refine lv_iload hx hb dX6_endOfSet_70 (lv_at hl 1 rfl) ?_
              have hPc := hP.sub (ws' := [(rd, .inr (6, rF r a0 a1 a2 a3 a4 a5 a6 a7))]) [0] rfl
              have hKc := hK.sub (tys' := []) [] rfl
              have hDc := hD.sub (ws' := [(rd, .inr (6, rF r a0 a1 a2 a3 a4 a5 a6 a7))]) [0] (by decide) rfl
              have hFc := va_free (wc := [(rd, .inr (6, rF r a0 a1 a2 a3 a4 a5 a6 a7))]) hD hS hA [0] rfl
              refine va_callv (va_runV (As := [.int 4, .int ax]) (rest := []) ⟨hx, hb, hml, hown, hts⟩ (s_fail l dC dI rd r a0 a1 a2 a3 a4 a5 a6 a7 H.size 4 ax) (cwV 2 hts mg_X6_endOfSet_X6_fail_71 rfl rfl rfl (by decide +kernel) ⟨Nat.le_of_ble_eq_true rfl, Nat.le_of_ble_eq_true rfl⟩) ⟨fun a U g mk q => by obtain ⟨q0, q1, qP, qK, qD⟩ := q; exact ⟨q0, q1, qP, va_K.moved (u := U) (U := U.calling g mk a) (Vm.Alike.refl U.vm) qK, qD⟩, va_recv hKc hPc (ci := 6) (q0 := 0) rfl rfl, fun U hU hW => ⟨rfl, by rw [hU], by rw [hU]; exact hPc, va_K.moved hW.alike hKc, hDc.weaken (fun _ _ _ _ => trivial)⟩⟩ rfl rfl hl.1 rfl (lv_room (Nat.le_of_ble_eq_true rfl)) dX6_endOfSet_72 ⟨Nat.le_of_ble_eq_true rfl, Nat.le_of_ble_eq_true rfl⟩) hS (fun q _ h => hFc q h) hFc (fun u t H1 locs ht hvm hw hB hz1 hk1 hS => ?_)
              obtain ⟨hP1, hK1, hD1⟩ := hB
              rw [ht] at hP1
              obtain ⟨hP, hD⟩ := va_join (wr := [(ta, .inl (cT, nb, .inl ft))]) (w1 := [(rd, .inr (6, rF r 4 ax a2 a3 a4 a5 a6 a7))]) hP hD [0] [1] rfl rfl (by decide) (by decide) hk1 hFc hP1 hD1
              generalize H1 = H at hP hS ⊢
              have hP : va_P (dC, dI) vwCl [(ta, .inl (cT, nb, .inl ft)), (rd, .inr (6, rF r 4 ax a2 a3 a4 a5 a6 a7))] H := hP
              have hD : va_D A [(ta, .inl (cT, nb, .inl ft)), (rd, .inr (6, rF r 4 ax a2 a3 a4 a5 a6 a7))] := hD
              refine lv_iload hx hb dX6_endOfSet_75 (lv_at hl 1 rfl) ?_
              have hP9 := hP.sub (ws' := [(rd, .inr (6, rF r 4 ax a2 a3 a4 a5 a6 a7)), (ta, .inl (cT, nb, .inl ft))]) [1, 0] rfl
              have hD9 := hD.sub (ws' := [(rd, .inr (6, rF r 4 ax a2 a3 a4 a5 a6 a7)), (ta, .inl (cT, nb, .inl ft))]) [1, 0] (by decide) rfl
              have hK9 := hK.sub (tys' := [(cT, .int)]) [0] rfl
              exact W.iret hx hb hr (fun t ht hW => ⟨⟨_, (), rfl, by omega, 4, ax, by rw [ht]; exact hP9, va_K.moved hW.alike hK9, hD9⟩, hS.F ht⟩) hS.2.2 dX6_endOfSet_77
          · have tk_9 := c_eq (a := r_8.toInt) (b := 0) rfl (by decide) k_9
            refine lv_aload_n hx hb dX6_endOfSet_39 rfl (lv_at hl 2 rfl) ?_
            refine lv_iconst (v := 1) hx hb dX6_endOfSet_40 (by decide) ?_
            refine lv_iload hx hb dX6_endOfSet_41 (lv_at hl 0 rfl) ?_
            have hPc := hP.sub (ws' := [(rd, .inr (6, rF r a0 a1 a2 a3 a4 a5 a6 a7))]) [0] rfl
            have hKc := hK.sub (tys' := []) [] rfl
            have hDc := hD.sub (ws' := [(rd, .inr (6, rF r a0 a1 a2 a3 a4 a5 a6 a7))]) [0] (by decide) rfl
            have hFc := va_free (wc := [(rd, .inr (6, rF r a0 a1 a2 a3 a4 a5 a6 a7))]) hD hS hA [0] rfl
            refine va_callv (va_runV (As := [.int 1, .int ax]) (rest := []) ⟨hx, hb, hml, hown, hts⟩ (s_fail l dC dI rd r a0 a1 a2 a3 a4 a5 a6 a7 H.size 1 ax) (cwV 2 hts mg_X6_endOfSet_X6_fail_71 rfl rfl rfl (by decide +kernel) ⟨Nat.le_of_ble_eq_true rfl, Nat.le_of_ble_eq_true rfl⟩) ⟨fun a U g mk q => by obtain ⟨q0, q1, qP, qK, qD⟩ := q; exact ⟨q0, q1, qP, va_K.moved (u := U) (U := U.calling g mk a) (Vm.Alike.refl U.vm) qK, qD⟩, va_recv hKc hPc (ci := 6) (q0 := 0) rfl rfl, fun U hU hW => ⟨rfl, by rw [hU], by rw [hU]; exact hPc, va_K.moved hW.alike hKc, hDc.weaken (fun _ _ _ _ => trivial)⟩⟩ rfl rfl hl.1 rfl (lv_room (Nat.le_of_ble_eq_true rfl)) dX6_endOfSet_43 ⟨Nat.le_of_ble_eq_true rfl, Nat.le_of_ble_eq_true rfl⟩) hS (fun q _ h => hFc q h) hFc (fun u t H1 locs ht hvm hw hB hz1 hk1 hS => ?_)
            obtain ⟨hP1, hK1, hD1⟩ := hB
            rw [ht] at hP1
            obtain ⟨hP, hD⟩ := va_join (wr := [(ta, .inl (cT, nb, .inl ft))]) (w1 := [(rd, .inr (6, rF r 1 ax a2 a3 a4 a5 a6 a7))]) hP hD [0] [1] rfl rfl (by decide) (by decide) hk1 hFc hP1 hD1
            generalize H1 = H at hP hS ⊢
            have hP : va_P (dC, dI) vwCl [(ta, .inl (cT, nb, .inl ft)), (rd, .inr (6, rF r 1 ax a2 a3 a4 a5 a6 a7))] H := hP
            have hD : va_D A [(ta, .inl (cT, nb, .inl ft)), (rd, .inr (6, rF r 1 ax a2 a3 a4 a5 a6 a7))] := hD
            refine lv_iload hx hb dX6_endOfSet_46 (lv_at hl 0 rfl) ?_
            have hP9 := hP.sub (ws' := [(rd, .inr (6, rF r 1 ax a2 a3 a4 a5 a6 a7)), (ta, .inl (cT, nb, .inl ft))]) [1, 0] rfl
            have hD9 := hD.sub (ws' := [(rd, .inr (6, rF r 1 ax a2 a3 a4 a5 a6 a7)), (ta, .inl (cT, nb, .inl ft))]) [1, 0] (by decide) rfl
            have hK9 := hK.sub (tys' := [(cT, .int)]) [0] rfl
            exact W.iret hx hb hr (fun t ht hW => ⟨⟨_, (), rfl, by omega, 1, ax, by rw [ht]; exact hP9, va_K.moved hW.alike hK9, hD9⟩, hS.F ht⟩) hS.2.2 dX6_endOfSet_48
        · have tk_5 := c_eq (a := y_4.toInt) (b := 93) rfl (by decide) k_5
          refine lv_iload hx hb dX6_endOfSet_21 (lv_at hl 1 rfl) ?_
          refine lv_if_eq (tgt := 29) hx hb dX6_endOfSet_23 (by decide) (fun k_21 => ?_) (fun k_21 => ?_)
          · have tk_21 := c_eq (a := le.toInt) (b := 0) rfl (by decide) k_21
            refine lv_aload_n hx hb dX6_endOfSet_29 rfl (lv_at hl 3 rfl) ?_
            refine lv_iload hx hb dX6_endOfSet_30 (lv_at hl 0 rfl) ?_
            refine va_iald hx hb hK hP 1 0 rfl rfl (i := ax) (vp_of (a := ax.toInt) rfl (by omega) (by omega)) dX6_endOfSet_32 ?_
            refine lv_topi (fun y_22 ey_22 => ?_)
            have rg_y_22 := i_rng y_22
            have hPc := hP.sub (ws' := []) [] rfl
            have hKc := hK.sub (tys' := []) [] rfl
            have hDc := hD.sub (ws' := []) [] (by decide) rfl
            have hFc := va_free (wc := []) hD hS hA [] rfl
            refine va_calli (va_runSN (As := [.int y_22]) (rest := []) ⟨hx, hb, hml, hown, hts⟩ (s_isSmallW l dC dI H.size y_22) ⟨va_cnB 1 hts mg_X6_endOfSet_X9_isSmall_53 rfl rfl rfl hN53 (hts (.initialized RX9) (List.mem_of_getElem? (i := 9) (by decide +kernel))) (by decide +kernel) ⟨Nat.le_of_ble_eq_true rfl, Nat.le_of_ble_eq_true rfl⟩, (hts (.static yX9_isSmall) (List.mem_of_getElem? (i := 10) (by decide +kernel))), trivial⟩ ⟨fun a U g mk q => by obtain ⟨q0, q1, qP, qK, qD⟩ := q; exact ⟨q0, q1, qP, va_K.moved (u := U) (U := U.calling g mk a) (Vm.Alike.refl U.vm) qK, qD⟩, fun U hU hW => ⟨rfl, by rw [hU], by rw [hU]; exact hPc, va_K.moved hW.alike hKc, hDc.weaken (fun _ _ _ _ => trivial)⟩⟩ rfl rfl hl.1 rfl (lv_room (Nat.le_of_ble_eq_true rfl)) dX6_endOfSet_33 ⟨Nat.le_of_ble_eq_true rfl, Nat.le_of_ble_eq_true rfl⟩) hS (fun q _ h => hFc q h) hFc (fun r_24 u t H1 locs ht hvm hw hB hz1 hk1 hS => ?_)
            have hr_24 := hw
            obtain ⟨hP, hD⟩ := va_join (wr := [(rd, .inr (6, rF r a0 a1 a2 a3 a4 a5 a6 a7)), (ta, .inl (cT, nb, .inl ft))]) (w1 := []) hP hD [] [0, 1] rfl rfl (by decide) (by decide) hk1 hFc (fun k q h => by simp at h) ⟨fun i j p q h => by simp at h, fun k q h => by simp at h⟩
            generalize H1 = H at hP hS ⊢
            have hP : va_P (dC, dI) vwCl [(rd, .inr (6, rF r a0 a1 a2 a3 a4 a5 a6 a7)), (ta, .inl (cT, nb, .inl ft))] H := hP
            have hD : va_D A [(rd, .inr (6, rF r a0 a1 a2 a3 a4 a5 a6 a7)), (ta, .inl (cT, nb, .inl ft))] := hD
            refine lv_if_ne (tgt := 49) hx hb dX6_endOfSet_36 (by decide) (fun k_25 => ?_) (fun k_25 => ?_)
            · have tk_25 := c_ne (a := r_24.toInt) (b := 0) rfl (by decide) k_25
              refine lv_iconst (v := 1) hx hb dX6_endOfSet_49 (by decide) ?_
              refine lv_aload_n hx hb dX6_endOfSet_50 rfl (lv_at hl 3 rfl) ?_
              refine lv_iload hx hb dX6_endOfSet_51 (lv_at hl 0 rfl) ?_
              refine va_iald hx hb hK hP 1 0 rfl rfl (i := ax) (vp_of (a := ax.toInt) rfl (by omega) (by omega)) dX6_endOfSet_53 ?_
              refine lv_topi (fun y_26 ey_26 => ?_)
              have rg_y_26 := i_rng y_26
              refine lv_bipush (v := 97) hx hb dX6_endOfSet_54 (by decide) ?_
              refine lv_isub hx hb dX6_endOfSet_56 ?_
              refine lv_topi (fun y_27 ey_27 => ?_)
              first | have ty_27 := i_sub (a := y_26.toInt) (b := 97) rfl (by decide) ey_27 (by omega) (by omega) | skip
              refine lv_ishl hx hb dX6_endOfSet_57 ?_
              refine lv_topi (fun y_28 ey_28 => ?_)
              have rg_y_28 := i_rng y_28
              refine lv_istore (lv' := [(6, .int y_28), (5, .int ax), (4, .int le), (0, .ref rd), (1, .ref ta), (2, .int i8), (3, .int i9)]) hx hb dX6_endOfSet_58 hl (by decide) rfl (fun ls hl => ?_)
              refine lv_iload hx hb dX6_endOfSet_60 (lv_at hl 2 rfl) ?_
              refine lv_iload hx hb dX6_endOfSet_62 (lv_at hl 0 rfl) ?_
              refine lv_iand hx hb dX6_endOfSet_64 ?_
              refine lv_topi (fun y_29 ey_29 => ?_)
              have rg_y_29 := i_rng y_29
              refine lv_if_eq (tgt := 78) hx hb dX6_endOfSet_65 (by decide) (fun k_30 => ?_) (fun k_30 => ?_)
              · have tk_30 := c_eq (a := y_29.toInt) (b := 0) rfl (by decide) k_30
                refine lv_iload hx hb dX6_endOfSet_78 (lv_at hl 2 rfl) ?_
                refine lv_iload hx hb dX6_endOfSet_80 (lv_at hl 0 rfl) ?_
                refine lv_ior hx hb dX6_endOfSet_82 ?_
                refine lv_topi (fun y_31 ey_31 => ?_)
                have rg_y_31 := i_rng y_31
                refine lv_istore (lv' := [(4, .int y_31), (6, .int y_28), (5, .int ax), (0, .ref rd), (1, .ref ta), (2, .int i8), (3, .int i9)]) hx hb dX6_endOfSet_83 hl (by decide) rfl (fun ls hl => ?_)
                obtain ⟨y_32, ey_32⟩ : ∃ y : Int32, y = ax + 1 := ⟨_, rfl⟩
                first | have ty_32 := i_add (a := ax.toInt) (b := 1) rfl (by decide) ey_32 (by omega) (by omega) | skip
                refine lv_iinc (v := y_32) (lv' := [(5, .int y_32), (4, .int y_31), (6, .int y_28), (0, .ref rd), (1, .ref ta), (2, .int i8), (3, .int i9)]) hx hb dX6_endOfSet_85 hl (k := 2) rfl (by rw [ey_32]; rfl) (by decide) rfl (fun ls hl => ?_)
                refine lv_goto (tgt := 6) hx hb dX6_endOfSet_88 (by decide) ?_
                exact ih6 y_31 y_32 (by first | omega | decide | assumption) (by omega) _ _ ls hP hD hS (lv_sub hl [0, 1, 3, 4, 5, 6] rfl)
              · have tk_30 := c_ne (a := y_29.toInt) (b := 0) rfl (by decide) k_30
                refine lv_aload_n hx hb dX6_endOfSet_68 rfl (lv_at hl 3 rfl) ?_
                refine lv_iconst (v := 4) hx hb dX6_endOfSet_69 (by decide) ?_
                refine lv_iload hx hb dX6_endOfSet_70 (lv_at hl 1 rfl) ?_
                have hPc := hP.sub (ws' := [(rd, .inr (6, rF r a0 a1 a2 a3 a4 a5 a6 a7))]) [0] rfl
                have hKc := hK.sub (tys' := []) [] rfl
                have hDc := hD.sub (ws' := [(rd, .inr (6, rF r a0 a1 a2 a3 a4 a5 a6 a7))]) [0] (by decide) rfl
                have hFc := va_free (wc := [(rd, .inr (6, rF r a0 a1 a2 a3 a4 a5 a6 a7))]) hD hS hA [0] rfl
                refine va_callv (va_runV (As := [.int 4, .int ax]) (rest := []) ⟨hx, hb, hml, hown, hts⟩ (s_fail l dC dI rd r a0 a1 a2 a3 a4 a5 a6 a7 H.size 4 ax) (cwV 2 hts mg_X6_endOfSet_X6_fail_71 rfl rfl rfl (by decide +kernel) ⟨Nat.le_of_ble_eq_true rfl, Nat.le_of_ble_eq_true rfl⟩) ⟨fun a U g mk q => by obtain ⟨q0, q1, qP, qK, qD⟩ := q; exact ⟨q0, q1, qP, va_K.moved (u := U) (U := U.calling g mk a) (Vm.Alike.refl U.vm) qK, qD⟩, va_recv hKc hPc (ci := 6) (q0 := 0) rfl rfl, fun U hU hW => ⟨rfl, by rw [hU], by rw [hU]; exact hPc, va_K.moved hW.alike hKc, hDc.weaken (fun _ _ _ _ => trivial)⟩⟩ rfl rfl hl.1 rfl (lv_room (Nat.le_of_ble_eq_true rfl)) dX6_endOfSet_72 ⟨Nat.le_of_ble_eq_true rfl, Nat.le_of_ble_eq_true rfl⟩) hS (fun q _ h => hFc q h) hFc (fun u t H1 locs ht hvm hw hB hz1 hk1 hS => ?_)
                obtain ⟨hP1, hK1, hD1⟩ := hB
                rw [ht] at hP1
                obtain ⟨hP, hD⟩ := va_join (wr := [(ta, .inl (cT, nb, .inl ft))]) (w1 := [(rd, .inr (6, rF r 4 ax a2 a3 a4 a5 a6 a7))]) hP hD [0] [1] rfl rfl (by decide) (by decide) hk1 hFc hP1 hD1
                generalize H1 = H at hP hS ⊢
                have hP : va_P (dC, dI) vwCl [(ta, .inl (cT, nb, .inl ft)), (rd, .inr (6, rF r 4 ax a2 a3 a4 a5 a6 a7))] H := hP
                have hD : va_D A [(ta, .inl (cT, nb, .inl ft)), (rd, .inr (6, rF r 4 ax a2 a3 a4 a5 a6 a7))] := hD
                refine lv_iload hx hb dX6_endOfSet_75 (lv_at hl 1 rfl) ?_
                have hP9 := hP.sub (ws' := [(rd, .inr (6, rF r 4 ax a2 a3 a4 a5 a6 a7)), (ta, .inl (cT, nb, .inl ft))]) [1, 0] rfl
                have hD9 := hD.sub (ws' := [(rd, .inr (6, rF r 4 ax a2 a3 a4 a5 a6 a7)), (ta, .inl (cT, nb, .inl ft))]) [1, 0] (by decide) rfl
                have hK9 := hK.sub (tys' := [(cT, .int)]) [0] rfl
                exact W.iret hx hb hr (fun t ht hW => ⟨⟨_, (), rfl, by omega, 4, ax, by rw [ht]; exact hP9, va_K.moved hW.alike hK9, hD9⟩, hS.F ht⟩) hS.2.2 dX6_endOfSet_77
            · have tk_25 := c_eq (a := r_24.toInt) (b := 0) rfl (by decide) k_25
              refine lv_aload_n hx hb dX6_endOfSet_39 rfl (lv_at hl 2 rfl) ?_
              refine lv_iconst (v := 1) hx hb dX6_endOfSet_40 (by decide) ?_
              refine lv_iload hx hb dX6_endOfSet_41 (lv_at hl 0 rfl) ?_
              have hPc := hP.sub (ws' := [(rd, .inr (6, rF r a0 a1 a2 a3 a4 a5 a6 a7))]) [0] rfl
              have hKc := hK.sub (tys' := []) [] rfl
              have hDc := hD.sub (ws' := [(rd, .inr (6, rF r a0 a1 a2 a3 a4 a5 a6 a7))]) [0] (by decide) rfl
              have hFc := va_free (wc := [(rd, .inr (6, rF r a0 a1 a2 a3 a4 a5 a6 a7))]) hD hS hA [0] rfl
              refine va_callv (va_runV (As := [.int 1, .int ax]) (rest := []) ⟨hx, hb, hml, hown, hts⟩ (s_fail l dC dI rd r a0 a1 a2 a3 a4 a5 a6 a7 H.size 1 ax) (cwV 2 hts mg_X6_endOfSet_X6_fail_71 rfl rfl rfl (by decide +kernel) ⟨Nat.le_of_ble_eq_true rfl, Nat.le_of_ble_eq_true rfl⟩) ⟨fun a U g mk q => by obtain ⟨q0, q1, qP, qK, qD⟩ := q; exact ⟨q0, q1, qP, va_K.moved (u := U) (U := U.calling g mk a) (Vm.Alike.refl U.vm) qK, qD⟩, va_recv hKc hPc (ci := 6) (q0 := 0) rfl rfl, fun U hU hW => ⟨rfl, by rw [hU], by rw [hU]; exact hPc, va_K.moved hW.alike hKc, hDc.weaken (fun _ _ _ _ => trivial)⟩⟩ rfl rfl hl.1 rfl (lv_room (Nat.le_of_ble_eq_true rfl)) dX6_endOfSet_43 ⟨Nat.le_of_ble_eq_true rfl, Nat.le_of_ble_eq_true rfl⟩) hS (fun q _ h => hFc q h) hFc (fun u t H1 locs ht hvm hw hB hz1 hk1 hS => ?_)
              obtain ⟨hP1, hK1, hD1⟩ := hB
              rw [ht] at hP1
              obtain ⟨hP, hD⟩ := va_join (wr := [(ta, .inl (cT, nb, .inl ft))]) (w1 := [(rd, .inr (6, rF r 1 ax a2 a3 a4 a5 a6 a7))]) hP hD [0] [1] rfl rfl (by decide) (by decide) hk1 hFc hP1 hD1
              generalize H1 = H at hP hS ⊢
              have hP : va_P (dC, dI) vwCl [(ta, .inl (cT, nb, .inl ft)), (rd, .inr (6, rF r 1 ax a2 a3 a4 a5 a6 a7))] H := hP
              have hD : va_D A [(ta, .inl (cT, nb, .inl ft)), (rd, .inr (6, rF r 1 ax a2 a3 a4 a5 a6 a7))] := hD
              refine lv_iload hx hb dX6_endOfSet_46 (lv_at hl 0 rfl) ?_
              have hP9 := hP.sub (ws' := [(rd, .inr (6, rF r 1 ax a2 a3 a4 a5 a6 a7)), (ta, .inl (cT, nb, .inl ft))]) [1, 0] rfl
              have hD9 := hD.sub (ws' := [(rd, .inr (6, rF r 1 ax a2 a3 a4 a5 a6 a7)), (ta, .inl (cT, nb, .inl ft))]) [1, 0] (by decide) rfl
              have hK9 := hK.sub (tys' := [(cT, .int)]) [0] rfl
              exact W.iret hx hb hr (fun t ht hW => ⟨⟨_, (), rfl, by omega, 1, ax, by rw [ht]; exact hP9, va_K.moved hW.alike hK9, hD9⟩, hS.F ht⟩) hS.2.2 dX6_endOfSet_48
          · have tk_21 := c_ne (a := le.toInt) (b := 0) rfl (by decide) k_21
            refine lv_iload hx hb dX6_endOfSet_26 (lv_at hl 0 rfl) ?_
            have hP9 := hP.sub (ws' := [(rd, .inr (6, rF r a0 a1 a2 a3 a4 a5 a6 a7)), (ta, .inl (cT, nb, .inl ft))]) [0, 1] rfl
            have hD9 := hD.sub (ws' := [(rd, .inr (6, rF r a0 a1 a2 a3 a4 a5 a6 a7)), (ta, .inl (cT, nb, .inl ft))]) [0, 1] (by decide) rfl
            have hK9 := hK.sub (tys' := [(cT, .int)]) [0] rfl
            exact W.iret hx hb hr (fun t ht hW => ⟨⟨_, (), rfl, by omega, a0, a1, by rw [ht]; exact hP9, va_K.moved hW.alike hK9, hD9⟩, hS.F ht⟩) hS.2.2 dX6_endOfSet_28
  have lit_36 : (0 : Int32).toInt = 0 := by decide
  exact loop6 _ 0 i8 (by first | omega | decide | assumption) (Nat.lt_succ_self _) _ _ ls hP hD hS (lv_sub hl [0, 1, 2, 3, 4, 5] rfl)

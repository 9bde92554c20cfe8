abbrev mG (q : Nat → Nat) (a0 a1 a2 a3 a4 a5 a6 a7 a8 a9 a10 a11 a12 a13 a14 a15 a16 a17 a18 a19 a20 a21 : Int32) : List Value := [.ref (q 0), .int a0, .int a1, .int a2, .ref (q 1), .ref (q 2), .int a3, .int a4, .int a5, .int a6, .int a7, .int a8, .int a9, .int a10, .int a11, .ref (q 3), .ref (q 4), .ref (q 5), .ref (q 6), .ref (q 7), .ref (q 8), .int a12, .int a13, .int a14, .int a15, .ref (q 9), .ref (q 10), .int a16, .ref (q 11), .ref (q 12), .ref (q 13), .int a17, .int a18, .ref (q 14), .int a19, .ref (q 15), .ref (q 16), .ref (q 17), .ref (q 18), .ref (q 19), .ref (q 20), .ref (q 21), .int a20, .int a21, .ref (q 22), .ref (q 23), .ref (q 24), .ref (q 25)]
theorem dX2_init_0 : decode cX2_init 0 = .ok (.aload_n 0, 1) := by decide +kernel
theorem dX2_init_1 : decode cX2_init 1 = .ok (.invokespecial 3, 3) := by decide +kernel
theorem dX2_init_4 : decode cX2_init 4 = .ok (.aload_n 0, 1) := by decide +kernel
theorem dX2_init_5 : decode cX2_init 5 = .ok (.aload_n 1, 1) := by decide +kernel
theorem dX2_init_6 : decode cX2_init 6 = .ok (.putfield 9, 3) := by decide +kernel
theorem dX2_init_9 : decode cX2_init 9 = .ok (.aload_n 0, 1) := by decide +kernel
theorem dX2_init_10 : decode cX2_init 10 = .ok (.aload_n 2, 1) := by decide +kernel
theorem dX2_init_11 : decode cX2_init 11 = .ok (.putfield 15, 3) := by decide +kernel
theorem dX2_init_14 : decode cX2_init 14 = .ok (.return_, 1) := by decide +kernel
def mwX2_init : List Cond := .code yX2_init cX2_init 3 none :: ([.methodLink RX2 3 objectInit, .instanceMethod objectInit, .code objectInit ⟨#[0xb1]⟩ 1 none, .fieldLink RX2 9 "PatternGate$Doc" "letters" "[I", .fieldLink RX2 15 "PatternGate$Doc" "triples" "[I"] ++ wsX20)
theorem fin_X2_init_X2 : ∀ w ∈ wsX20, w ∈ mwX2_init := fun w h => List.mem_cons_of_mem _ (List.mem_append_right _ h)
set_option maxHeartbeats 4000000 in
set_option maxRecDepth 100000 in
/-- s_Doc_init -/
theorem s_Doc_init (l : Launch) (dC : Nat → ClassId) (dI : Nat → Nat → Nat) (nb d1 d2 sz : Nat) : Met l yX2_init mwX2_init ({ frames := 1, cells := 0, slots := 0, locals := 60 }) (va_Pc [.ref nb, .ref d1, .ref d2] (fun U => U.heap.size = sz ∧ va_P (dC, dI) vwCl ([(nb, .inr (2, [.null, .null]))]) U.heap ∧ va_K (dC, dI) vwCl ([]) U ∧ va_D (fun _ => True) ([(nb, .inr (2, [.null, .null]))]))) (va_Qv (fun (_ : Unit) => True) (fun _ t => va_P (dC, dI) vwCl [(nb, .inr (2, [.ref d1, .ref d2]))] t.heap ∧ va_K (dC, dI) vwCl [] t ∧ va_D (va_A ([(nb, .inr (2, [.null, .null]))]) sz) [(nb, .inr (2, [.ref d1, .ref d2]))]) (va_A ([(nb, .inr (2, [.null, .null]))]) sz)) 0 0 (va_A ([(nb, .inr (2, [.null, .null]))]) sz) := by
  refine Met.ofW (cc := cX2_init) (maxL := 3) (ret := none) (by decide +kernel) rfl ?_
  intro p e s m args below meth c s₁ B hml hv
  obtain ⟨rfl, hsz, hP, hK, hD0⟩ := hv
  have hx := B.exec
  have hb := B.bytes
  have hr := B.returns
  have hts := atoms_spec (ws := mwX2_init) B.pre
  have hown : s.vm.findClass RX2 = some m.cls := findClass_of_methodNamed B.named
  have hlocks := B.notSynchronized
  have hin : meth.name = "<init>" := (name_of_methodNamed B.named B.method).1
  subst hsz
  have hD := hD0.self (sz := s.heap.size)
  generalize hAe : va_A ([(nb, .inr (2, [.null, .null]))]) s.heap.size = A at hD ⊢
  have hA : ∀ q : Nat, s.heap.size ≤ q → A q := fun q h => by rw [← hAe]; exact Or.inr h
  have hP : va_P (dC, dI) vwCl [(nb, .inr (2, [.null, .null]))] s.heap := hP
  have hD : va_D A [(nb, .inr (2, [.null, .null]))] := hD
  have hK : va_K (dC, dI) vwCl [] s := hK
  generalize hH : s.heap = H at hP ⊢
  have hS : va_S A s.heap H [] := by rw [← hH]; exact va_S.rf
  have hl := lv_entry ([.ref nb, .ref d1, .ref d2]) (n := 3) (Nat.le_of_ble_eq_true rfl)
  rw [lg_entry_eq]
  generalize (lg_sl ([.ref nb, .ref d1, .ref d2]) ++ List.replicate (3 - (lg_sl ([.ref nb, .ref d1, .ref d2])).length) Slot.unset).toArray = ls at hl ⊢
  have hl : lv_has ls 3 [(0, .ref nb), (1, .ref d1), (2, .ref d2)] := hl
  refine lv_aload_n hx hb dX2_init_0 rfl (lv_at hl 0 rfl) ?_
  refine W.objInit hx hb hown (hts (.methodLink RX2 3 objectInit) (List.mem_of_getElem? (i := 1) (by decide +kernel))) (hts (.instanceMethod objectInit) (List.mem_of_getElem? (i := 2) (by decide +kernel))) (hts (.code objectInit ⟨#[0xb1]⟩ 1 none) (List.mem_of_getElem? (i := 3) (by decide +kernel))) rfl (by rw [hml]; exact hl.1) rfl dX2_init_1 (Nat.le_of_ble_eq_true rfl) (Nat.le_of_ble_eq_true rfl) ?_
  refine W.eq (g2 := F0 m 4 ls []) rfl ?_
  refine lv_aload_n hx hb dX2_init_4 rfl (lv_at hl 0 rfl) ?_
  refine lv_aload_n hx hb dX2_init_5 rfl (lv_at hl 1 rfl) ?_
  refine va_putF (D := (dC, dI)) (ci := 2) (v := .ref d1) (ty := .array .int) (C := RX2) (T := TX2) (N := 2) hx hb hts fin_X2_init_X2 tyX2 tyX2_ok nmX2 hown hK hP hD hS 0 rfl rfl 0 (by decide) (hts (.fieldLink RX2 9 "PatternGate$Doc" "letters" "[I") (List.mem_of_getElem? (i := 4) (by decide +kernel))) (fun _ h9 => h9) rfl hin rfl (by decide +kernel) rfl rfl (Nat.le_of_ble_eq_true rfl) dX2_init_6 (fun H locs hP hD hS => ?_)
  have hP : va_P (dC, dI) vwCl [(nb, .inr (2, [.ref d1, .null]))] H := hP
  have hD : va_D A [(nb, .inr (2, [.ref d1, .null]))] := hD
  refine lv_aload_n hx hb dX2_init_9 rfl (lv_at hl 0 rfl) ?_
  refine lv_aload_n hx hb dX2_init_10 rfl (lv_at hl 2 rfl) ?_
  refine va_putF (D := (dC, dI)) (ci := 2) (v := .ref d2) (ty := .array .int) (C := RX2) (T := TX2) (N := 2) hx hb hts fin_X2_init_X2 tyX2 tyX2_ok nmX2 hown hK hP hD hS 0 rfl rfl 1 (by decide) (hts (.fieldLink RX2 15 "PatternGate$Doc" "triples" "[I") (List.mem_of_getElem? (i := 5) (by decide +kernel))) (fun _ h9 => h9) rfl hin rfl (by decide +kernel) rfl rfl (Nat.le_of_ble_eq_true rfl) dX2_init_11 (fun H locs hP hD hS => ?_)
  have hP : va_P (dC, dI) vwCl [(nb, .inr (2, [.ref d1, .ref d2]))] H := hP
  have hD : va_D A [(nb, .inr (2, [.ref d1, .ref d2]))] := hD
  have hP9 := hP.sub (ws' := [(nb, .inr (2, [.ref d1, .ref d2]))]) [0] rfl
  have hD9 := hD.sub (ws' := [(nb, .inr (2, [.ref d1, .ref d2]))]) [0] (by decide) rfl
  have hK9 := hK.sub (tys' := []) [] rfl
  exact W.vret hx hb hr (fun t ht hW => ⟨⟨(), rfl, trivial, by rw [ht]; exact hP9, va_K.moved hW.alike hK9, hD9⟩, hS.F ht⟩) hS.2.2 dX2_init_14
theorem dX0_init_0 : decode cX0_init 0 = .ok (.aload_n 0, 1) := by decide +kernel
theorem dX0_init_1 : decode cX0_init 1 = .ok (.invokespecial 1, 3) := by decide +kernel
theorem dX0_init_4 : decode cX0_init 4 = .ok (.aload_n 0, 1) := by decide +kernel
theorem dX0_init_5 : decode cX0_init 5 = .ok (.aload_n 1, 1) := by decide +kernel
theorem dX0_init_6 : decode cX0_init 6 = .ok (.putfield 7, 3) := by decide +kernel
theorem dX0_init_9 : decode cX0_init 9 = .ok (.aload_n 0, 1) := by decide +kernel
theorem dX0_init_10 : decode cX0_init 10 = .ok (.aload_n 2, 1) := by decide +kernel
theorem dX0_init_11 : decode cX0_init 11 = .ok (.putfield 13, 3) := by decide +kernel
theorem dX0_init_14 : decode cX0_init 14 = .ok (.aload_n 0, 1) := by decide +kernel
theorem dX0_init_15 : decode cX0_init 15 = .ok (.aload_n 3, 1) := by decide +kernel
theorem dX0_init_16 : decode cX0_init 16 = .ok (.putfield 17, 3) := by decide +kernel
theorem dX0_init_19 : decode cX0_init 19 = .ok (.return_, 1) := by decide +kernel
def mwX0_init : List Cond := .code yX0_init cX0_init 4 none :: ([.methodLink RX0 1 objectInit, .instanceMethod objectInit, .code objectInit ⟨#[0xb1]⟩ 1 none, .fieldLink RX0 7 "PatternGate$Book" "docs" "[LPatternGate$Doc;", .fieldLink RX0 13 "PatternGate$Book" "patterns" "[LPatternGate$Pattern;", .fieldLink RX0 17 "PatternGate$Book" "earlier" "LPatternGate$Book;"] ++ wsX00)
theorem fin_X0_init_X0 : ∀ w ∈ wsX00, w ∈ mwX0_init := fun w h => List.mem_cons_of_mem _ (List.mem_append_right _ h)
set_option maxHeartbeats 4000000 in
set_option maxRecDepth 100000 in
/-- s_Book_init -/
theorem s_Book_init (l : Launch) (dC : Nat → ClassId) (dI : Nat → Nat → Nat) (nb d1 d2 d3 sz : Nat) : Met l yX0_init mwX0_init ({ frames := 1, cells := 0, slots := 0, locals := 60 }) (va_Pc [.ref nb, .ref d1, .ref d2, .ref d3] (fun U => U.heap.size = sz ∧ va_P (dC, dI) vwCl ([(nb, .inr (0, [.null, .null, .null]))]) U.heap ∧ va_K (dC, dI) vwCl ([]) U ∧ va_D (fun _ => True) ([(nb, .inr (0, [.null, .null, .null]))]))) (va_Qv (fun (_ : Unit) => True) (fun _ t => va_P (dC, dI) vwCl [(nb, .inr (0, [.ref d1, .ref d2, .ref d3]))] t.heap ∧ va_K (dC, dI) vwCl [] t ∧ va_D (va_A ([(nb, .inr (0, [.null, .null, .null]))]) sz) [(nb, .inr (0, [.ref d1, .ref d2, .ref d3]))]) (va_A ([(nb, .inr (0, [.null, .null, .null]))]) sz)) 0 0 (va_A ([(nb, .inr (0, [.null, .null, .null]))]) sz) := by
  refine Met.ofW (cc := cX0_init) (maxL := 4) (ret := none) (by decide +kernel) rfl ?_
  intro p e s m args below meth c s₁ B hml hv
  obtain ⟨rfl, hsz, hP, hK, hD0⟩ := hv
  have hx := B.exec
  have hb := B.bytes
  have hr := B.returns
  have hts := atoms_spec (ws := mwX0_init) B.pre
  have hown : s.vm.findClass RX0 = some m.cls := findClass_of_methodNamed B.named
  have hlocks := B.notSynchronized
  have hin : meth.name = "<init>" := (name_of_methodNamed B.named B.method).1
  subst hsz
  have hD := hD0.self (sz := s.heap.size)
  generalize hAe : va_A ([(nb, .inr (0, [.null, .null, .null]))]) s.heap.size = A at hD ⊢
  have hA : ∀ q : Nat, s.heap.size ≤ q → A q := fun q h => by rw [← hAe]; exact Or.inr h
  have hP : va_P (dC, dI) vwCl [(nb, .inr (0, [.null, .null, .null]))] s.heap := hP
  have hD : va_D A [(nb, .inr (0, [.null, .null, .null]))] := hD
  have hK : va_K (dC, dI) vwCl [] s := hK
  generalize hH : s.heap = H at hP ⊢
  have hS : va_S A s.heap H [] := by rw [← hH]; exact va_S.rf
  have hl := lv_entry ([.ref nb, .ref d1, .ref d2, .ref d3]) (n := 4) (Nat.le_of_ble_eq_true rfl)
  rw [lg_entry_eq]
  generalize (lg_sl ([.ref nb, .ref d1, .ref d2, .ref d3]) ++ List.replicate (4 - (lg_sl ([.ref nb, .ref d1, .ref d2, .ref d3])).length) Slot.unset).toArray = ls at hl ⊢
  have hl : lv_has ls 4 [(0, .ref nb), (1, .ref d1), (2, .ref d2), (3, .ref d3)] := hl
  refine lv_aload_n hx hb dX0_init_0 rfl (lv_at hl 0 rfl) ?_
  refine W.objInit hx hb hown (hts (.methodLink RX0 1 objectInit) (List.mem_of_getElem? (i := 1) (by decide +kernel))) (hts (.instanceMethod objectInit) (List.mem_of_getElem? (i := 2) (by decide +kernel))) (hts (.code objectInit ⟨#[0xb1]⟩ 1 none) (List.mem_of_getElem? (i := 3) (by decide +kernel))) rfl (by rw [hml]; exact hl.1) rfl dX0_init_1 (Nat.le_of_ble_eq_true rfl) (Nat.le_of_ble_eq_true rfl) ?_
  refine W.eq (g2 := F0 m 4 ls []) rfl ?_
  refine lv_aload_n hx hb dX0_init_4 rfl (lv_at hl 0 rfl) ?_
  refine lv_aload_n hx hb dX0_init_5 rfl (lv_at hl 1 rfl) ?_
  refine va_putF (D := (dC, dI)) (ci := 0) (v := .ref d1) (ty := .array (.object "PatternGate$Doc")) (C := RX0) (T := TX0) (N := 3) hx hb hts fin_X0_init_X0 tyX0 tyX0_ok nmX0 hown hK hP hD hS 0 rfl rfl 0 (by decide) (hts (.fieldLink RX0 7 "PatternGate$Book" "docs" "[LPatternGate$Doc;") (List.mem_of_getElem? (i := 4) (by decide +kernel))) (fun _ h9 => h9) rfl hin rfl (by decide +kernel) rfl rfl (Nat.le_of_ble_eq_true rfl) dX0_init_6 (fun H locs hP hD hS => ?_)
  have hP : va_P (dC, dI) vwCl [(nb, .inr (0, [.ref d1, .null, .null]))] H := hP
  have hD : va_D A [(nb, .inr (0, [.ref d1, .null, .null]))] := hD
  refine lv_aload_n hx hb dX0_init_9 rfl (lv_at hl 0 rfl) ?_
  refine lv_aload_n hx hb dX0_init_10 rfl (lv_at hl 2 rfl) ?_
  refine va_putF (D := (dC, dI)) (ci := 0) (v := .ref d2) (ty := .array (.object "PatternGate$Pattern")) (C := RX0) (T := TX0) (N := 3) hx hb hts fin_X0_init_X0 tyX0 tyX0_ok nmX0 hown hK hP hD hS 0 rfl rfl 1 (by decide) (hts (.fieldLink RX0 13 "PatternGate$Book" "patterns" "[LPatternGate$Pattern;") (List.mem_of_getElem? (i := 5) (by decide +kernel))) (fun _ h9 => h9) rfl hin rfl (by decide +kernel) rfl rfl (Nat.le_of_ble_eq_true rfl) dX0_init_11 (fun H locs hP hD hS => ?_)
  have hP : va_P (dC, dI) vwCl [(nb, .inr (0, [.ref d1, .ref d2, .null]))] H := hP
  have hD : va_D A [(nb, .inr (0, [.ref d1, .ref d2, .null]))] := hD
  refine lv_aload_n hx hb dX0_init_14 rfl (lv_at hl 0 rfl) ?_
  refine lv_aload_n hx hb dX0_init_15 rfl (lv_at hl 3 rfl) ?_
  refine va_putF (D := (dC, dI)) (ci := 0) (v := .ref d3) (ty := .object "PatternGate$Book") (C := RX0) (T := TX0) (N := 3) hx hb hts fin_X0_init_X0 tyX0 tyX0_ok nmX0 hown hK hP hD hS 0 rfl rfl 2 (by decide) (hts (.fieldLink RX0 17 "PatternGate$Book" "earlier" "LPatternGate$Book;") (List.mem_of_getElem? (i := 6) (by decide +kernel))) (fun _ h9 => h9) rfl hin rfl (by decide +kernel) rfl rfl (Nat.le_of_ble_eq_true rfl) dX0_init_16 (fun H locs hP hD hS => ?_)
  have hP : va_P (dC, dI) vwCl [(nb, .inr (0, [.ref d1, .ref d2, .ref d3]))] H := hP
  have hD : va_D A [(nb, .inr (0, [.ref d1, .ref d2, .ref d3]))] := hD
  have hP9 := hP.sub (ws' := [(nb, .inr (0, [.ref d1, .ref d2, .ref d3]))]) [0] rfl
  have hD9 := hD.sub (ws' := [(nb, .inr (0, [.ref d1, .ref d2, .ref d3]))]) [0] (by decide) rfl
  have hK9 := hK.sub (tys' := []) [] rfl
  exact W.vret hx hb hr (fun t ht hW => ⟨⟨(), rfl, trivial, by rw [ht]; exact hP9, va_K.moved hW.alike hK9, hD9⟩, hS.F ht⟩) hS.2.2 dX0_init_19
theorem dX10_gives_0 : decode cX10_gives 0 = .ok (.aload_n 0, 1) := by decide +kernel
theorem dX10_gives_1 : decode cX10_gives 1 = .ok (.iconst 0, 1) := by decide +kernel
theorem dX10_gives_2 : decode cX10_gives 2 = .ok (.putfield 104, 3) := by decide +kernel
theorem dX10_gives_5 : decode cX10_gives 5 = .ok (.iload_n 1, 1) := by decide +kernel
theorem dX10_gives_6 : decode cX10_gives 6 = .ok (.ireturn, 1) := by decide +kernel
def mwX10_gives : List Cond := .code yX10_gives cX10_gives 2 (some .int) :: ([.fieldLink RX10 104 "PatternGateModel" "status" "I"] ++ wsX100)
theorem fin_X10_gives_X10 : ∀ w ∈ wsX100, w ∈ mwX10_gives := fun w h => List.mem_cons_of_mem _ (List.mem_append_right _ h)
set_option maxHeartbeats 4000000 in
set_option maxRecDepth 100000 in
/-- the reference: gives -/
theorem s_m_gives (l : Launch) (dC : Nat → ClassId) (dI : Nat → Nat → Nat) (y : Nat) (z : Nat → Nat) (a0 a1 a2 a3 a4 a5 a6 a7 a8 a9 a10 a11 a12 a13 a14 a15 a16 a17 a18 a19 a20 a21 : Int32) (sz : Nat) (i9 : Int32) : Met l yX10_gives mwX10_gives ({ frames := 0, cells := 0, slots := 0, locals := 0 }) (va_Pc [.ref y, .int i9] (fun U => U.heap.size = sz ∧ va_P (dC, dI) vwCl ([(y, .inr (10, mG z a0 a1 a2 a3 a4 a5 a6 a7 a8 a9 a10 a11 a12 a13 a14 a15 a16 a17 a18 a19 a20 a21))]) U.heap ∧ va_K (dC, dI) vwCl ([]) U ∧ va_D (fun _ => True) ([(y, .inr (10, mG z a0 a1 a2 a3 a4 a5 a6 a7 a8 a9 a10 a11 a12 a13 a14 a15 a16 a17 a18 a19 a20 a21))]))) (va_Qi (fun (o9 : Int32) (_ : Unit) => o9 = i9) (fun _ t => va_P (dC, dI) vwCl [(y, .inr (10, mG z 0 a1 a2 a3 a4 a5 a6 a7 a8 a9 a10 a11 a12 a13 a14 a15 a16 a17 a18 a19 a20 a21))] t.heap ∧ va_K (dC, dI) vwCl [] t ∧ va_D (va_A ([(y, .inr (10, mG z a0 a1 a2 a3 a4 a5 a6 a7 a8 a9 a10 a11 a12 a13 a14 a15 a16 a17 a18 a19 a20 a21))]) sz) [(y, .inr (10, mG z 0 a1 a2 a3 a4 a5 a6 a7 a8 a9 a10 a11 a12 a13 a14 a15 a16 a17 a18 a19 a20 a21))]) (va_A ([(y, .inr (10, mG z a0 a1 a2 a3 a4 a5 a6 a7 a8 a9 a10 a11 a12 a13 a14 a15 a16 a17 a18 a19 a20 a21))]) sz)) 0 0 (va_A ([(y, .inr (10, mG z a0 a1 a2 a3 a4 a5 a6 a7 a8 a9 a10 a11 a12 a13 a14 a15 a16 a17 a18 a19 a20 a21))]) sz) := by
  refine Met.ofW (cc := cX10_gives) (maxL := 2) (ret := (some .int)) (by decide +kernel) rfl ?_
  intro p e s m args below meth c s₁ B hml hv
  obtain ⟨rfl, hsz, hP, hK, hD0⟩ := hv
  have hx := B.exec
  have hb := B.bytes
  have hr := B.returns
  have hts := atoms_spec (ws := mwX10_gives) B.pre
  have hown : s.vm.findClass RX10 = some m.cls := findClass_of_methodNamed B.named
  have hlocks := B.notSynchronized
  subst hsz
  have hD := hD0.self (sz := s.heap.size)
  generalize hAe : va_A ([(y, .inr (10, mG z a0 a1 a2 a3 a4 a5 a6 a7 a8 a9 a10 a11 a12 a13 a14 a15 a16 a17 a18 a19 a20 a21))]) s.heap.size = A at hD ⊢
  have hA : ∀ q : Nat, s.heap.size ≤ q → A q := fun q h => by rw [← hAe]; exact Or.inr h
  have hP : va_P (dC, dI) vwCl [(y, .inr (10, mG z a0 a1 a2 a3 a4 a5 a6 a7 a8 a9 a10 a11 a12 a13 a14 a15 a16 a17 a18 a19 a20 a21))] s.heap := hP
  have hD : va_D A [(y, .inr (10, mG z a0 a1 a2 a3 a4 a5 a6 a7 a8 a9 a10 a11 a12 a13 a14 a15 a16 a17 a18 a19 a20 a21))] := hD
  have hK : va_K (dC, dI) vwCl [] s := hK
  generalize hH : s.heap = H at hP ⊢
  have hS : va_S A s.heap H [] := by rw [← hH]; exact va_S.rf
  have hl := lv_entry ([.ref y, .int i9]) (n := 2) (Nat.le_of_ble_eq_true rfl)
  rw [lg_entry_eq]
  generalize (lg_sl ([.ref y, .int i9]) ++ List.replicate (2 - (lg_sl ([.ref y, .int i9])).length) Slot.unset).toArray = ls at hl ⊢
  have hl : lv_has ls 2 [(0, .ref y), (1, .int i9)] := hl
  have rg_i9 := i_rng i9
  refine lv_aload_n hx hb dX10_gives_0 rfl (lv_at hl 0 rfl) ?_
  refine lv_iconst (v := 0) hx hb dX10_gives_1 (by decide) ?_
  refine va_put (D := (dC, dI)) (ci := 10) (v := .int 0) (ty := .int) (C := RX10) (T := TX10) (N := 48) hx hb hts fin_X10_gives_X10 tyX10 tyX10_ok nmX10 hown hK hP hD hS 0 rfl rfl 1 (by decide) (hts (.fieldLink RX10 104 "PatternGateModel" "status" "I") (List.mem_of_getElem? (i := 1) (by decide +kernel))) (fun _ h9 => h9) rfl (by decide +kernel) rfl rfl (Nat.le_of_ble_eq_true rfl) dX10_gives_2 (fun H locs hP hD hS => ?_)
  have hP : va_P (dC, dI) vwCl [(y, .inr (10, mG z 0 a1 a2 a3 a4 a5 a6 a7 a8 a9 a10 a11 a12 a13 a14 a15 a16 a17 a18 a19 a20 a21))] H := hP
  have hD : va_D A [(y, .inr (10, mG z 0 a1 a2 a3 a4 a5 a6 a7 a8 a9 a10 a11 a12 a13 a14 a15 a16 a17 a18 a19 a20 a21))] := hD
  refine lv_iload_n hx hb dX10_gives_5 rfl (lv_at hl 1 rfl) ?_
  have hP9 := hP.sub (ws' := [(y, .inr (10, mG z 0 a1 a2 a3 a4 a5 a6 a7 a8 a9 a10 a11 a12 a13 a14 a15 a16 a17 a18 a19 a20 a21))]) [0] rfl
  have hD9 := hD.sub (ws' := [(y, .inr (10, mG z 0 a1 a2 a3 a4 a5 a6 a7 a8 a9 a10 a11 a12 a13 a14 a15 a16 a17 a18 a19 a20 a21))]) [0] (by decide) rfl
  have hK9 := hK.sub (tys' := []) [] rfl
  exact W.iret hx hb hr (fun t ht hW => ⟨⟨_, (), rfl, rfl, by rw [ht]; exact hP9, va_K.moved hW.alike hK9, hD9⟩, hS.F ht⟩) hS.2.2 dX10_gives_6
theorem dX10_refuse_0 : decode cX10_refuse 0 = .ok (.aload_n 0, 1) := by decide +kernel
theorem dX10_refuse_1 : decode cX10_refuse 1 = .ok (.iload_n 1, 1) := by decide +kernel
theorem dX10_refuse_2 : decode cX10_refuse 2 = .ok (.putfield 104, 3) := by decide +kernel
theorem dX10_refuse_5 : decode cX10_refuse 5 = .ok (.iconst (-1), 1) := by decide +kernel
theorem dX10_refuse_6 : decode cX10_refuse 6 = .ok (.ireturn, 1) := by decide +kernel
def mwX10_refuse : List Cond := .code yX10_refuse cX10_refuse 2 (some .int) :: ([.fieldLink RX10 104 "PatternGateModel" "status" "I"] ++ wsX100)
theorem fin_X10_refuse_X10 : ∀ w ∈ wsX100, w ∈ mwX10_refuse := fun w h => List.mem_cons_of_mem _ (List.mem_append_right _ h)
set_option maxHeartbeats 4000000 in
set_option maxRecDepth 100000 in
/-- the reference: refuse -/
theorem s_m_refuse (l : Launch) (dC : Nat → ClassId) (dI : Nat → Nat → Nat) (y : Nat) (z : Nat → Nat) (a0 a1 a2 a3 a4 a5 a6 a7 a8 a9 a10 a11 a12 a13 a14 a15 a16 a17 a18 a19 a20 a21 : Int32) (sz : Nat) (i9 : Int32) : Met l yX10_refuse mwX10_refuse ({ frames := 0, cells := 0, slots := 0, locals := 0 }) (va_Pc [.ref y, .int i9] (fun U => U.heap.size = sz ∧ va_P (dC, dI) vwCl ([(y, .inr (10, mG z a0 a1 a2 a3 a4 a5 a6 a7 a8 a9 a10 a11 a12 a13 a14 a15 a16 a17 a18 a19 a20 a21))]) U.heap ∧ va_K (dC, dI) vwCl ([]) U ∧ va_D (fun _ => True) ([(y, .inr (10, mG z a0 a1 a2 a3 a4 a5 a6 a7 a8 a9 a10 a11 a12 a13 a14 a15 a16 a17 a18 a19 a20 a21))]))) (va_Qi (fun (o9 : Int32) (_ : Unit) => o9 = (-1)) (fun _ t => va_P (dC, dI) vwCl [(y, .inr (10, mG z i9 a1 a2 a3 a4 a5 a6 a7 a8 a9 a10 a11 a12 a13 a14 a15 a16 a17 a18 a19 a20 a21))] t.heap ∧ va_K (dC, dI) vwCl [] t ∧ va_D (va_A ([(y, .inr (10, mG z a0 a1 a2 a3 a4 a5 a6 a7 a8 a9 a10 a11 a12 a13 a14 a15 a16 a17 a18 a19 a20 a21))]) sz) [(y, .inr (10, mG z i9 a1 a2 a3 a4 a5 a6 a7 a8 a9 a10 a11 a12 a13 a14 a15 a16 a17 a18 a19 a20 a21))]) (va_A ([(y, .inr (10, mG z a0 a1 a2 a3 a4 a5 a6 a7 a8 a9 a10 a11 a12 a13 a14 a15 a16 a17 a18 a19 a20 a21))]) sz)) 0 0 (va_A ([(y, .inr (10, mG z a0 a1 a2 a3 a4 a5 a6 a7 a8 a9 a10 a11 a12 a13 a14 a15 a16 a17 a18 a19 a20 a21))]) sz) := by
  refine Met.ofW (cc := cX10_refuse) (maxL := 2) (ret := (some .int)) (by decide +kernel) rfl ?_
  intro p e s m args below meth c s₁ B hml hv
  obtain ⟨rfl, hsz, hP, hK, hD0⟩ := hv
  have hx := B.exec
  have hb := B.bytes
  have hr := B.returns
  have hts := atoms_spec (ws := mwX10_refuse) B.pre
  have hown : s.vm.findClass RX10 = some m.cls := findClass_of_methodNamed B.named
  have hlocks := B.notSynchronized
  subst hsz
  have hD := hD0.self (sz := s.heap.size)
  generalize hAe : va_A ([(y, .inr (10, mG z a0 a1 a2 a3 a4 a5 a6 a7 a8 a9 a10 a11 a12 a13 a14 a15 a16 a17 a18 a19 a20 a21))]) s.heap.size = A at hD ⊢
  have hA : ∀ q : Nat, s.heap.size ≤ q → A q := fun q h => by rw [← hAe]; exact Or.inr h
  have hP : va_P (dC, dI) vwCl [(y, .inr (10, mG z a0 a1 a2 a3 a4 a5 a6 a7 a8 a9 a10 a11 a12 a13 a14 a15 a16 a17 a18 a19 a20 a21))] s.heap := hP
  have hD : va_D A [(y, .inr (10, mG z a0 a1 a2 a3 a4 a5 a6 a7 a8 a9 a10 a11 a12 a13 a14 a15 a16 a17 a18 a19 a20 a21))] := hD
  have hK : va_K (dC, dI) vwCl [] s := hK
  generalize hH : s.heap = H at hP ⊢
  have hS : va_S A s.heap H [] := by rw [← hH]; exact va_S.rf
  have hl := lv_entry ([.ref y, .int i9]) (n := 2) (Nat.le_of_ble_eq_true rfl)
  rw [lg_entry_eq]
  generalize (lg_sl ([.ref y, .int i9]) ++ List.replicate (2 - (lg_sl ([.ref y, .int i9])).length) Slot.unset).toArray = ls at hl ⊢
  have hl : lv_has ls 2 [(0, .ref y), (1, .int i9)] := hl
  have rg_i9 := i_rng i9
  refine lv_aload_n hx hb dX10_refuse_0 rfl (lv_at hl 0 rfl) ?_
  refine lv_iload_n hx hb dX10_refuse_1 rfl (lv_at hl 1 rfl) ?_
  refine va_put (D := (dC, dI)) (ci := 10) (v := .int i9) (ty := .int) (C := RX10) (T := TX10) (N := 48) hx hb hts fin_X10_refuse_X10 tyX10 tyX10_ok nmX10 hown hK hP hD hS 0 rfl rfl 1 (by decide) (hts (.fieldLink RX10 104 "PatternGateModel" "status" "I") (List.mem_of_getElem? (i := 1) (by decide +kernel))) (fun _ h9 => h9) rfl (by decide +kernel) rfl rfl (Nat.le_of_ble_eq_true rfl) dX10_refuse_2 (fun H locs hP hD hS => ?_)
  have hP : va_P (dC, dI) vwCl [(y, .inr (10, mG z i9 a1 a2 a3 a4 a5 a6 a7 a8 a9 a10 a11 a12 a13 a14 a15 a16 a17 a18 a19 a20 a21))] H := hP
  have hD : va_D A [(y, .inr (10, mG z i9 a1 a2 a3 a4 a5 a6 a7 a8 a9 a10 a11 a12 a13 a14 a15 a16 a17 a18 a19 a20 a21))] := hD
  refine lv_iconst (v := (-1)) hx hb dX10_refuse_5 (by decide) ?_
  have hP9 := hP.sub (ws' := [(y, .inr (10, mG z i9 a1 a2 a3 a4 a5 a6 a7 a8 a9 a10 a11 a12 a13 a14 a15 a16 a17 a18 a19 a20 a21))]) [0] rfl
  have hD9 := hD.sub (ws' := [(y, .inr (10, mG z i9 a1 a2 a3 a4 a5 a6 a7 a8 a9 a10 a11 a12 a13 a14 a15 a16 a17 a18 a19 a20 a21))]) [0] (by decide) rfl
  have hK9 := hK.sub (tys' := []) [] rfl
  exact W.iret hx hb hr (fun t ht hW => ⟨⟨_, (), rfl, rfl, by rw [ht]; exact hP9, va_K.moved hW.alike hK9, hD9⟩, hS.F ht⟩) hS.2.2 dX10_refuse_6
theorem dX10_byteAt_0 : decode cX10_byteAt 0 = .ok (.iload_n 1, 1) := by decide +kernel
theorem dX10_byteAt_1 : decode cX10_byteAt 1 = .ok (.aload_n 0, 1) := by decide +kernel
theorem dX10_byteAt_2 : decode cX10_byteAt 2 = .ok (.getfield 114, 3) := by decide +kernel
theorem dX10_byteAt_5 : decode cX10_byteAt 5 = .ok (.if_icmp .ge 16, 3) := by decide +kernel
theorem dX10_byteAt_8 : decode cX10_byteAt 8 = .ok (.aload_n 0, 1) := by decide +kernel
theorem dX10_byteAt_9 : decode cX10_byteAt 9 = .ok (.getfield 18, 3) := by decide +kernel
theorem dX10_byteAt_12 : decode cX10_byteAt 12 = .ok (.iload_n 1, 1) := by decide +kernel
theorem dX10_byteAt_13 : decode cX10_byteAt 13 = .ok (.baload, 1) := by decide +kernel
theorem dX10_byteAt_14 : decode cX10_byteAt 14 = .ok (.sipush 255, 3) := by decide +kernel
theorem dX10_byteAt_17 : decode cX10_byteAt 17 = .ok (.iand, 1) := by decide +kernel
theorem dX10_byteAt_18 : decode cX10_byteAt 18 = .ok (.goto 4, 3) := by decide +kernel
theorem dX10_byteAt_21 : decode cX10_byteAt 21 = .ok (.iconst (-1), 1) := by decide +kernel
theorem dX10_byteAt_22 : decode cX10_byteAt 22 = .ok (.ireturn, 1) := by decide +kernel
def mwX10_byteAt : List Cond := .code yX10_byteAt cX10_byteAt 2 (some .int) :: ([.fieldLink RX10 114 "PatternGateModel" "size" "I", .fieldLink RX10 18 "PatternGateModel" "text" "[B"] ++ wsX100)
theorem fin_X10_byteAt_X10 : ∀ w ∈ wsX100, w ∈ mwX10_byteAt := fun w h => List.mem_cons_of_mem _ (List.mem_append_right _ h)
set_option maxHeartbeats 4000000 in
set_option maxRecDepth 100000 in
/-- the reference: byteAt -/
theorem s_m_byteAt (l : Launch) (dC : Nat → ClassId) (dI : Nat → Nat → Nat) (y : Nat) (z : Nat → Nat) (a0 a1 a2 a3 a4 a5 a6 a7 a8 a9 a10 a11 a12 a13 a14 a15 a16 a17 a18 a19 a20 a21 : Int32) (cX : ClassId) (f : Nat → Int32) (i9 : Int32) (h1 : 0 ≤ i9.toInt) (h2 : a4.toInt ≤ 900) : Met l yX10_byteAt mwX10_byteAt ({ frames := 0, cells := 0, slots := 0, locals := 0 }) (va_Pc [.ref y, .int i9] (fun U => va_P (dC, dI) vwCl ([(y, .inr (10, mG z a0 a1 a2 a3 a4 a5 a6 a7 a8 a9 a10 a11 a12 a13 a14 a15 a16 a17 a18 a19 a20 a21)), (z 2, .inl (cX, 900, .inl f))]) U.heap ∧ va_K (dC, dI) vwCl ([(cX, .byte)]) U)) (vp_Si (fun o => True)) 0 0 (fun _ => False) := by
  refine Met.ofW (cc := cX10_byteAt) (maxL := 2) (ret := (some .int)) (by decide +kernel) rfl ?_
  intro p e s m args below meth c s₁ B hml hv
  obtain ⟨rfl, hP, hK⟩ := hv
  have hx := B.exec
  have hb := B.bytes
  have hr := B.returns
  have hts := atoms_spec (ws := mwX10_byteAt) B.pre
  have hown : s.vm.findClass RX10 = some m.cls := findClass_of_methodNamed B.named
  have hlocks := B.notSynchronized
  have hP : va_P (dC, dI) vwCl [(y, .inr (10, mG z a0 a1 a2 a3 a4 a5 a6 a7 a8 a9 a10 a11 a12 a13 a14 a15 a16 a17 a18 a19 a20 a21)), (z 2, .inl (cX, 900, .inl f))] s.heap := hP
  have hK : va_K (dC, dI) vwCl [(cX, .byte)] s := hK
  generalize hH : s.heap = H at hP ⊢
  have hl := lv_entry ([.ref y, .int i9]) (n := 2) (Nat.le_of_ble_eq_true rfl)
  rw [lg_entry_eq]
  generalize (lg_sl ([.ref y, .int i9]) ++ List.replicate (2 - (lg_sl ([.ref y, .int i9])).length) Slot.unset).toArray = ls at hl ⊢
  have hl : lv_has ls 2 [(0, .ref y), (1, .int i9)] := hl
  have rg_i9 := i_rng i9
  refine lv_iload_n hx hb dX10_byteAt_0 rfl (lv_at hl 1 rfl) ?_
  refine lv_aload_n hx hb dX10_byteAt_1 rfl (lv_at hl 0 rfl) ?_
  refine va_get (D := (dC, dI)) (ci := 10) (v := .int a4) (C := RX10) (T := TX10) (N := 48) hx hb hts fin_X10_byteAt_X10 hown hK hP 0 rfl rfl 7 (by decide) (hts (.fieldLink RX10 114 "PatternGateModel" "size" "I") (List.mem_of_getElem? (i := 1) (by decide +kernel))) (fun _ h9 => h9) rfl dX10_byteAt_2 ?_
  refine lv_icmp_ge (tgt := 21) hx hb dX10_byteAt_5 (by decide) (fun k_1 => ?_) (fun k_1 => ?_)
  · have tk_1 := c_ge (a := i9.toInt) (b := a4.toInt) rfl rfl k_1
    refine lv_iconst (v := (-1)) hx hb dX10_byteAt_21 (by decide) ?_
    exact W.iret hx hb hr (fun t ht hW => ⟨_, rfl, trivial, ht.trans hH.symm⟩) t_nil dX10_byteAt_22
  · have tk_1 := c_nge (a := i9.toInt) (b := a4.toInt) rfl rfl k_1
    refine lv_aload_n hx hb dX10_byteAt_8 rfl (lv_at hl 0 rfl) ?_
    refine va_get (D := (dC, dI)) (ci := 10) (v := .ref (z 2)) (C := RX10) (T := TX10) (N := 48) hx hb hts fin_X10_byteAt_X10 hown hK hP 0 rfl rfl 5 (by decide) (hts (.fieldLink RX10 18 "PatternGateModel" "text" "[B") (List.mem_of_getElem? (i := 2) (by decide +kernel))) (fun _ h9 => h9) rfl dX10_byteAt_9 ?_
    refine lv_iload_n hx hb dX10_byteAt_12 rfl (lv_at hl 1 rfl) ?_
    refine va_bald hx hb hK hP 1 0 rfl rfl (i := i9) (vp_of (a := i9.toInt) rfl (by omega) (by omega)) dX10_byteAt_13 ?_
    refine lv_topi (fun y_2 ey_2 => ?_)
    have rg_y_2 := i_rng y_2
    refine lv_sipush (v := 255) hx hb dX10_byteAt_14 (by decide) ?_
    refine lv_iand hx hb dX10_byteAt_17 ?_
    refine lv_topi (fun y_3 ey_3 => ?_)
    have ty_3 := i_and (b := 255) (by decide) (by decide) ey_3
    refine lv_goto (tgt := 22) hx hb dX10_byteAt_18 (by decide) ?_
    exact W.iret hx hb hr (fun t ht hW => ⟨_, rfl, trivial, ht.trans hH.symm⟩) t_nil dX10_byteAt_22

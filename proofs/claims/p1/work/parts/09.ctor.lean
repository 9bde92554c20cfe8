/-- the class of this name is an array class of arrays of these lengths: at a state, and at every one that is alike -/
def md_M (nm : String) (ns : List Int32) (U : State) : Prop := ∀ (l : Launch) (e : Env) (vm : Vm) (cA : ClassId), l.admits e → U.vm.Alike vm → U.vm.findClass nm = some cA → md_ok vm e cA ns
theorem md_M.moved {nm : String} {ns : List Int32} {u U : State} (hvm : u.vm.Alike U.vm) (h : md_M nm ns u) : md_M nm ns U := fun l e vm cA a b f => h l e vm cA a (hvm.trans b) (by rw [← hvm.findClass]; exact f)
theorem dX7_init_0 : decode cX7_init 0 = .ok (.aload_n 0, 1) := by decide +kernel
theorem dX7_init_1 : decode cX7_init 1 = .ok (.invokespecial 5, 3) := by decide +kernel
theorem dX7_init_4 : decode cX7_init 4 = .ok (.aload_n 0, 1) := by decide +kernel
theorem dX7_init_5 : decode cX7_init 5 = .ok (.bipush 6, 2) := by decide +kernel
theorem dX7_init_7 : decode cX7_init 7 = .ok (.newarray .long, 2) := by decide +kernel
theorem dX7_init_9 : decode cX7_init 9 = .ok (.putfield 11, 3) := by decide +kernel
theorem dX7_init_12 : decode cX7_init 12 = .ok (.return_, 1) := by decide +kernel
def mwX7_init : List Cond := .code yX7_init cX7_init 1 none :: ([.methodLink RX7 5 objectInit, .instanceMethod objectInit, .code objectInit ⟨#[0xb1]⟩ 1 none, .arrayClass .long, .fieldLink RX7 11 "PatternGate$Rows" "row" "[J"] ++ wsX70)
theorem fin_X7_init_X7 : ∀ w ∈ wsX70, w ∈ mwX7_init := fun w h => List.mem_cons_of_mem _ (List.mem_append_right _ h)
set_option maxHeartbeats 4000000 in
set_option maxRecDepth 100000 in
/-- c_Rows() -/
theorem c_Rows (l : Launch) (dC : Nat → ClassId) (dI : Nat → Nat → Nat) (nb sz : Nat) : Met l yX7_init mwX7_init ({ frames := 1, cells := 1, slots := 6, locals := 60 }) (va_Pc [.ref nb] (fun U => U.heap.size = sz ∧ va_P (dC, dI) vwCl ([(nb, .inr (7, [.null, .int 0]))]) U.heap ∧ va_K (dC, dI) vwCl ([]) U ∧ va_D (fun _ => True) ([(nb, .inr (7, [.null, .int 0]))]))) (va_Qv (fun (_ : Unit) => True) (fun _ _ => True) (va_A ([(nb, .inr (7, [.null, .int 0]))]) sz)) 1 6 (va_A ([(nb, .inr (7, [.null, .int 0]))]) sz) := by
  refine Met.ofW (cc := cX7_init) (maxL := 1) (ret := none) (by decide +kernel) rfl ?_
  intro p e s m args below meth c s₁ B hml hv
  obtain ⟨rfl, hsz, hP, hK, hD0⟩ := hv
  have hx := B.exec
  have hb := B.bytes
  have hr := B.returns
  have hts := atoms_spec (ws := mwX7_init) B.pre
  have hown : s.vm.findClass RX7 = some m.cls := findClass_of_methodNamed B.named
  have hlocks := B.notSynchronized
  have hin : meth.name = "<init>" := (name_of_methodNamed B.named B.method).1
  subst hsz
  have hD := hD0.self (sz := s.heap.size)
  generalize hAe : va_A ([(nb, .inr (7, [.null, .int 0]))]) s.heap.size = A at hD ⊢
  have hA : ∀ q : Nat, s.heap.size ≤ q → A q := fun q h => by rw [← hAe]; exact Or.inr h
  have hP : va_P (dC, dI) vwCl [(nb, .inr (7, [.null, .int 0]))] s.heap := hP
  have hD : va_D A [(nb, .inr (7, [.null, .int 0]))] := hD
  have hK : va_K (dC, dI) vwCl [] s := hK
  generalize hH : s.heap = H at hP ⊢
  have hS : va_S A s.heap H [] := by rw [← hH]; exact va_S.rf
  have hl := lv_entry ([.ref nb]) (n := 1) (Nat.le_of_ble_eq_true rfl)
  rw [lg_entry_eq]
  generalize (lg_sl ([.ref nb]) ++ List.replicate (1 - (lg_sl ([.ref nb])).length) Slot.unset).toArray = ls at hl ⊢
  have hl : lv_has ls 1 [(0, .ref nb)] := hl
  refine lv_aload_n hx hb dX7_init_0 rfl (lv_at hl 0 rfl) ?_
  refine W.objInit hx hb hown (hts (.methodLink RX7 5 objectInit) (List.mem_of_getElem? (i := 1) (by decide +kernel))) (hts (.instanceMethod objectInit) (List.mem_of_getElem? (i := 2) (by decide +kernel))) (hts (.code objectInit ⟨#[0xb1]⟩ 1 none) (List.mem_of_getElem? (i := 3) (by decide +kernel))) rfl (by rw [hml]; exact hl.1) rfl dX7_init_1 (Nat.le_of_ble_eq_true rfl) (Nat.le_of_ble_eq_true rfl) ?_
  refine W.eq (g2 := F0 m 4 ls []) rfl ?_
  refine lv_aload_n hx hb dX7_init_4 rfl (lv_at hl 0 rfl) ?_
  refine lv_bipush (v := 6) hx hb dX7_init_5 (by decide) ?_
  refine va_newa (atype := .long) (ty := .long) (n := 6) (N' := 6) (a0 := (6, .inr (.inl (fun _ => 0)))) hx hb (hts (.arrayClass .long) (List.mem_of_getElem? (i := 4) (by decide +kernel))) rfl hK hP hD hS hA (fun _ => rfl) (by decide) (by decide) (Nat.le_of_ble_eq_true rfl) (Nat.le_of_ble_eq_true rfl) (Nat.le_of_ble_eq_true rfl) dX7_init_7 (fun q_1 c_2 H hK hP hD hS => ?_)
  have hP : va_P (dC, dI) vwCl [(nb, .inr (7, [.null, .int 0])), (q_1, .inl (c_2, 6, .inr (.inl (fun _ => 0))))] H := hP
  have hD : va_D A [(nb, .inr (7, [.null, .int 0])), (q_1, .inl (c_2, 6, .inr (.inl (fun _ => 0))))] := hD
  have hK : va_K (dC, dI) vwCl [(c_2, .long)] s := hK
  refine W.widen (k := 1) (n := 6) (by omega) (by omega) ?_
  refine va_putF (D := (dC, dI)) (ci := 7) (v := .ref q_1) (ty := .array .long) (C := RX7) (T := TX7) (N := 2) hx hb hts fin_X7_init_X7 tyX7 tyX7_ok nmX7 hown hK hP hD hS 0 rfl rfl 0 (by decide) (hts (.fieldLink RX7 11 "PatternGate$Rows" "row" "[J") (List.mem_of_getElem? (i := 5) (by decide +kernel))) (fun _ h9 => h9) rfl hin rfl (by decide +kernel) rfl rfl (Nat.le_of_ble_eq_true rfl) dX7_init_9 (fun H locs hP hD hS => ?_)
  have hP : va_P (dC, dI) vwCl [(nb, .inr (7, [.ref q_1, .int 0])), (q_1, .inl (c_2, 6, .inr (.inl (fun _ => 0))))] H := hP
  have hD : va_D A [(nb, .inr (7, [.ref q_1, .int 0])), (q_1, .inl (c_2, 6, .inr (.inl (fun _ => 0))))] := hD
  refine W.widen (k := 1) (n := 6) (by omega) (by omega) ?_
  exact W.vret hx hb hr (fun t ht hW => ⟨⟨(), rfl, trivial, trivial⟩, hS.F ht⟩) hS.2.2 dX7_init_12
theorem dX3_init_0 : decode cX3_init 0 = .ok (.aload_n 0, 1) := by decide +kernel
theorem dX3_init_1 : decode cX3_init 1 = .ok (.invokespecial 3, 3) := by decide +kernel
theorem dX3_init_4 : decode cX3_init 4 = .ok (.aload_n 0, 1) := by decide +kernel
theorem dX3_init_5 : decode cX3_init 5 = .ok (.iconst 1, 1) := by decide +kernel
theorem dX3_init_6 : decode cX3_init 6 = .ok (.iload_n 1, 1) := by decide +kernel
theorem dX3_init_7 : decode cX3_init 7 = .ok (.invokestatic 9, 3) := by decide +kernel
theorem dX3_init_10 : decode cX3_init 10 = .ok (.putfield 15, 3) := by decide +kernel
theorem dX3_init_13 : decode cX3_init 13 = .ok (.aload_n 0, 1) := by decide +kernel
theorem dX3_init_14 : decode cX3_init 14 = .ok (.aload_n 0, 1) := by decide +kernel
theorem dX3_init_15 : decode cX3_init 15 = .ok (.getfield 15, 3) := by decide +kernel
theorem dX3_init_18 : decode cX3_init 18 = .ok (.bipush 24, 2) := by decide +kernel
theorem dX3_init_20 : decode cX3_init 20 = .ok (.imul, 1) := by decide +kernel
theorem dX3_init_21 : decode cX3_init 21 = .ok (.newarray .int, 2) := by decide +kernel
theorem dX3_init_23 : decode cX3_init 23 = .ok (.putfield 21, 3) := by decide +kernel
theorem dX3_init_26 : decode cX3_init 26 = .ok (.aload_n 0, 1) := by decide +kernel
theorem dX3_init_27 : decode cX3_init 27 = .ok (.aload_n 0, 1) := by decide +kernel
theorem dX3_init_28 : decode cX3_init 28 = .ok (.getfield 15, 3) := by decide +kernel
theorem dX3_init_31 : decode cX3_init 31 = .ok (.newarray .int, 2) := by decide +kernel
theorem dX3_init_33 : decode cX3_init 33 = .ok (.putfield 25, 3) := by decide +kernel
theorem dX3_init_36 : decode cX3_init 36 = .ok (.return_, 1) := by decide +kernel
def mwX3_initn12 : List Cond := .code yX3_init cX3_init 2 none :: ([.methodLink RX3 3 objectInit, .instanceMethod objectInit, .code objectInit ⟨#[0xb1]⟩ 1 none, .methodLink RX3 9 Lib.Math.max.name, .static Lib.Math.max.name, .initialized "java/lang/Math", .code Lib.Math.max.name Lib.Math.max.code 2 (some .int), .fieldLink RX3 15 "PatternGate$Need" "room" "I", .arrayClass .int, .fieldLink RX3 21 "PatternGate$Need" "triples" "[I", .fieldLink RX3 25 "PatternGate$Need" "sizes" "[I"] ++ wsX30)
theorem fin_X3_initn12_X3 : ∀ w ∈ wsX30, w ∈ mwX3_initn12 := fun w h => List.mem_cons_of_mem _ (List.mem_append_right _ h)
set_option maxHeartbeats 4000000 in
set_option maxRecDepth 100000 in
/-- c_Need12() -/
theorem c_Need12 (l : Launch) (dC : Nat → ClassId) (dI : Nat → Nat → Nat) (nb sz : Nat) : Met l yX3_init mwX3_initn12 ({ frames := 1, cells := 2, slots := 300, locals := 60 }) (va_Pc [.ref nb, .int 12] (fun U => U.heap.size = sz ∧ va_P (dC, dI) vwCl ([(nb, .inr (3, [.int 0, .null, .null, .int 0]))]) U.heap ∧ va_K (dC, dI) vwCl ([]) U ∧ va_D (fun _ => True) ([(nb, .inr (3, [.int 0, .null, .null, .int 0]))]))) (va_Qv (fun (_ : Unit) => True) (fun _ _ => True) (va_A ([(nb, .inr (3, [.int 0, .null, .null, .int 0]))]) sz)) 2 300 (va_A ([(nb, .inr (3, [.int 0, .null, .null, .int 0]))]) sz) := by
  refine Met.ofW (cc := cX3_init) (maxL := 2) (ret := none) (by decide +kernel) rfl ?_
  intro p e s m args below meth c s₁ B hml hv
  obtain ⟨rfl, hsz, hP, hK, hD0⟩ := hv
  have hx := B.exec
  have hb := B.bytes
  have hr := B.returns
  have hts := atoms_spec (ws := mwX3_initn12) B.pre
  have hown : s.vm.findClass RX3 = some m.cls := findClass_of_methodNamed B.named
  have hlocks := B.notSynchronized
  have hin : meth.name = "<init>" := (name_of_methodNamed B.named B.method).1
  subst hsz
  have hD := hD0.self (sz := s.heap.size)
  generalize hAe : va_A ([(nb, .inr (3, [.int 0, .null, .null, .int 0]))]) s.heap.size = A at hD ⊢
  have hA : ∀ q : Nat, s.heap.size ≤ q → A q := fun q h => by rw [← hAe]; exact Or.inr h
  have hP : va_P (dC, dI) vwCl [(nb, .inr (3, [.int 0, .null, .null, .int 0]))] s.heap := hP
  have hD : va_D A [(nb, .inr (3, [.int 0, .null, .null, .int 0]))] := hD
  have hK : va_K (dC, dI) vwCl [] s := hK
  generalize hH : s.heap = H at hP ⊢
  have hS : va_S A s.heap H [] := by rw [← hH]; exact va_S.rf
  have hl := lv_entry ([.ref nb, .int 12]) (n := 2) (Nat.le_of_ble_eq_true rfl)
  rw [lg_entry_eq]
  generalize (lg_sl ([.ref nb, .int 12]) ++ List.replicate (2 - (lg_sl ([.ref nb, .int 12])).length) Slot.unset).toArray = ls at hl ⊢
  have hl : lv_has ls 2 [(0, .ref nb), (1, .int 12)] := hl
  refine lv_aload_n hx hb dX3_init_0 rfl (lv_at hl 0 rfl) ?_
  refine W.objInit hx hb hown (hts (.methodLink RX3 3 objectInit) (List.mem_of_getElem? (i := 1) (by decide +kernel))) (hts (.instanceMethod objectInit) (List.mem_of_getElem? (i := 2) (by decide +kernel))) (hts (.code objectInit ⟨#[0xb1]⟩ 1 none) (List.mem_of_getElem? (i := 3) (by decide +kernel))) rfl (by rw [hml]; exact hl.1) rfl dX3_init_1 (Nat.le_of_ble_eq_true rfl) (Nat.le_of_ble_eq_true rfl) ?_
  refine W.eq (g2 := F0 m 4 ls []) rfl ?_
  refine lv_aload_n hx hb dX3_init_4 rfl (lv_at hl 0 rfl) ?_
  refine lv_iconst (v := 1) hx hb dX3_init_5 (by decide) ?_
  refine lv_iload_n hx hb dX3_init_6 rfl (lv_at hl 1 rfl) ?_
  refine va_mmax hx hb (hml.trans hl.1.symm) hown (hts (.methodLink RX3 9 Lib.Math.max.name) (List.mem_of_getElem? (i := 4) (by decide +kernel))) (hts (.static Lib.Math.max.name) (List.mem_of_getElem? (i := 5) (by decide +kernel))) (hts (.initialized "java/lang/Math") (List.mem_of_getElem? (i := 6) (by decide +kernel))) (hts (.code Lib.Math.max.name Lib.Math.max.code 2 (some .int)) (List.mem_of_getElem? (i := 7) (by decide +kernel))) (Nat.le_of_ble_eq_true rfl) (Nat.le_of_ble_eq_true rfl) (Nat.le_of_ble_eq_true rfl) (Nat.le_of_ble_eq_true rfl) dX3_init_7 ?_
  refine lv_topi (fun y_1 ey_1 => ?_)
  obtain rfl : y_1 = 12 := ey_1.trans (by first | rfl | decide)
  refine va_putF (D := (dC, dI)) (ci := 3) (v := .int 12) (ty := .int) (C := RX3) (T := TX3) (N := 4) hx hb hts fin_X3_initn12_X3 tyX3 tyX3_ok nmX3 hown hK hP hD hS 0 rfl rfl 0 (by decide) (hts (.fieldLink RX3 15 "PatternGate$Need" "room" "I") (List.mem_of_getElem? (i := 8) (by decide +kernel))) (fun _ h9 => h9) rfl hin rfl (by decide +kernel) rfl rfl (Nat.le_of_ble_eq_true rfl) dX3_init_10 (fun H locs hP hD hS => ?_)
  have hP : va_P (dC, dI) vwCl [(nb, .inr (3, [.int 12, .null, .null, .int 0]))] H := hP
  have hD : va_D A [(nb, .inr (3, [.int 12, .null, .null, .int 0]))] := hD
  refine lv_aload_n hx hb dX3_init_13 rfl (lv_at hl 0 rfl) ?_
  refine lv_aload_n hx hb dX3_init_14 rfl (lv_at hl 0 rfl) ?_
  refine va_get (D := (dC, dI)) (ci := 3) (v := .int 12) (C := RX3) (T := TX3) (N := 4) hx hb hts fin_X3_initn12_X3 hown hK hP 0 rfl rfl 0 (by decide) (hts (.fieldLink RX3 15 "PatternGate$Need" "room" "I") (List.mem_of_getElem? (i := 8) (by decide +kernel))) (fun _ h9 => h9) rfl dX3_init_15 ?_
  refine lv_bipush (v := 24) hx hb dX3_init_18 (by decide) ?_
  refine lv_imul hx hb dX3_init_20 ?_
  refine lv_topi (fun y_2 ey_2 => ?_)
  obtain rfl : y_2 = 288 := ey_2.trans (by first | rfl | decide)
  refine va_newa (atype := .int) (ty := .int) (n := 288) (N' := 288) (a0 := (288, .inl (fun _ => 0))) hx hb (hts (.arrayClass .int) (List.mem_of_getElem? (i := 9) (by decide +kernel))) rfl hK hP hD hS hA (fun _ => rfl) (by decide) (by decide) (Nat.le_of_ble_eq_true rfl) (Nat.le_of_ble_eq_true rfl) (Nat.le_of_ble_eq_true rfl) dX3_init_21 (fun q_3 c_4 H hK hP hD hS => ?_)
  have hP : va_P (dC, dI) vwCl [(nb, .inr (3, [.int 12, .null, .null, .int 0])), (q_3, .inl (c_4, 288, .inl (fun _ => 0)))] H := hP
  have hD : va_D A [(nb, .inr (3, [.int 12, .null, .null, .int 0])), (q_3, .inl (c_4, 288, .inl (fun _ => 0)))] := hD
  have hK : va_K (dC, dI) vwCl [(c_4, .int)] s := hK
  refine W.widen (k := 1) (n := 288) (by omega) (by omega) ?_
  refine va_putF (D := (dC, dI)) (ci := 3) (v := .ref q_3) (ty := .array .int) (C := RX3) (T := TX3) (N := 4) hx hb hts fin_X3_initn12_X3 tyX3 tyX3_ok nmX3 hown hK hP hD hS 0 rfl rfl 1 (by decide) (hts (.fieldLink RX3 21 "PatternGate$Need" "triples" "[I") (List.mem_of_getElem? (i := 10) (by decide +kernel))) (fun _ h9 => h9) rfl hin rfl (by decide +kernel) rfl rfl (Nat.le_of_ble_eq_true rfl) dX3_init_23 (fun H locs hP hD hS => ?_)
  have hP : va_P (dC, dI) vwCl [(nb, .inr (3, [.int 12, .ref q_3, .null, .int 0])), (q_3, .inl (c_4, 288, .inl (fun _ => 0)))] H := hP
  have hD : va_D A [(nb, .inr (3, [.int 12, .ref q_3, .null, .int 0])), (q_3, .inl (c_4, 288, .inl (fun _ => 0)))] := hD
  refine lv_aload_n hx hb dX3_init_26 rfl (lv_at hl 0 rfl) ?_
  refine lv_aload_n hx hb dX3_init_27 rfl (lv_at hl 0 rfl) ?_
  refine va_get (D := (dC, dI)) (ci := 3) (v := .int 12) (C := RX3) (T := TX3) (N := 4) hx hb hts fin_X3_initn12_X3 hown hK hP 0 rfl rfl 0 (by decide) (hts (.fieldLink RX3 15 "PatternGate$Need" "room" "I") (List.mem_of_getElem? (i := 8) (by decide +kernel))) (fun _ h9 => h9) rfl dX3_init_28 ?_
  refine va_newa (atype := .int) (ty := .int) (n := 12) (N' := 12) (a0 := (12, .inl (fun _ => 0))) hx hb (hts (.arrayClass .int) (List.mem_of_getElem? (i := 9) (by decide +kernel))) rfl hK hP hD hS hA (fun _ => rfl) (by decide) (by decide) (Nat.le_of_ble_eq_true rfl) (Nat.le_of_ble_eq_true rfl) (Nat.le_of_ble_eq_true rfl) dX3_init_31 (fun q_5 c_6 H hK hP hD hS => ?_)
  have hP : va_P (dC, dI) vwCl [(nb, .inr (3, [.int 12, .ref q_3, .null, .int 0])), (q_3, .inl (c_4, 288, .inl (fun _ => 0))), (q_5, .inl (c_6, 12, .inl (fun _ => 0)))] H := hP
  have hD : va_D A [(nb, .inr (3, [.int 12, .ref q_3, .null, .int 0])), (q_3, .inl (c_4, 288, .inl (fun _ => 0))), (q_5, .inl (c_6, 12, .inl (fun _ => 0)))] := hD
  have hK : va_K (dC, dI) vwCl [(c_4, .int), (c_6, .int)] s := hK
  refine W.widen (k := 2) (n := 300) (by omega) (by omega) ?_
  refine va_putF (D := (dC, dI)) (ci := 3) (v := .ref q_5) (ty := .array .int) (C := RX3) (T := TX3) (N := 4) hx hb hts fin_X3_initn12_X3 tyX3 tyX3_ok nmX3 hown hK hP hD hS 0 rfl rfl 2 (by decide) (hts (.fieldLink RX3 25 "PatternGate$Need" "sizes" "[I") (List.mem_of_getElem? (i := 11) (by decide +kernel))) (fun _ h9 => h9) rfl hin rfl (by decide +kernel) rfl rfl (Nat.le_of_ble_eq_true rfl) dX3_init_33 (fun H locs hP hD hS => ?_)
  have hP : va_P (dC, dI) vwCl [(nb, .inr (3, [.int 12, .ref q_3, .ref q_5, .int 0])), (q_3, .inl (c_4, 288, .inl (fun _ => 0))), (q_5, .inl (c_6, 12, .inl (fun _ => 0)))] H := hP
  have hD : va_D A [(nb, .inr (3, [.int 12, .ref q_3, .ref q_5, .int 0])), (q_3, .inl (c_4, 288, .inl (fun _ => 0))), (q_5, .inl (c_6, 12, .inl (fun _ => 0)))] := hD
  refine W.widen (k := 2) (n := 300) (by omega) (by omega) ?_
  exact W.vret hx hb hr (fun t ht hW => ⟨⟨(), rfl, trivial, trivial⟩, hS.F ht⟩) hS.2.2 dX3_init_36
def mwX3_initn6 : List Cond := .code yX3_init cX3_init 2 none :: ([.methodLink RX3 3 objectInit, .instanceMethod objectInit, .code objectInit ⟨#[0xb1]⟩ 1 none, .methodLink RX3 9 Lib.Math.max.name, .static Lib.Math.max.name, .initialized "java/lang/Math", .code Lib.Math.max.name Lib.Math.max.code 2 (some .int), .fieldLink RX3 15 "PatternGate$Need" "room" "I", .arrayClass .int, .fieldLink RX3 21 "PatternGate$Need" "triples" "[I", .fieldLink RX3 25 "PatternGate$Need" "sizes" "[I"] ++ wsX30)
theorem fin_X3_initn6_X3 : ∀ w ∈ wsX30, w ∈ mwX3_initn6 := fun w h => List.mem_cons_of_mem _ (List.mem_append_right _ h)
set_option maxHeartbeats 4000000 in
set_option maxRecDepth 100000 in
/-- c_Need6() -/
theorem c_Need6 (l : Launch) (dC : Nat → ClassId) (dI : Nat → Nat → Nat) (nb sz : Nat) : Met l yX3_init mwX3_initn6 ({ frames := 1, cells := 2, slots := 150, locals := 60 }) (va_Pc [.ref nb, .int 6] (fun U => U.heap.size = sz ∧ va_P (dC, dI) vwCl ([(nb, .inr (3, [.int 0, .null, .null, .int 0]))]) U.heap ∧ va_K (dC, dI) vwCl ([]) U ∧ va_D (fun _ => True) ([(nb, .inr (3, [.int 0, .null, .null, .int 0]))]))) (va_Qv (fun (_ : Unit) => True) (fun _ _ => True) (va_A ([(nb, .inr (3, [.int 0, .null, .null, .int 0]))]) sz)) 2 150 (va_A ([(nb, .inr (3, [.int 0, .null, .null, .int 0]))]) sz) := by
  refine Met.ofW (cc := cX3_init) (maxL := 2) (ret := none) (by decide +kernel) rfl ?_
  intro p e s m args below meth c s₁ B hml hv
  obtain ⟨rfl, hsz, hP, hK, hD0⟩ := hv
  have hx := B.exec
  have hb := B.bytes
  have hr := B.returns
  have hts := atoms_spec (ws := mwX3_initn6) B.pre
  have hown : s.vm.findClass RX3 = some m.cls := findClass_of_methodNamed B.named
  have hlocks := B.notSynchronized
  have hin : meth.name = "<init>" := (name_of_methodNamed B.named B.method).1
  subst hsz
  have hD := hD0.self (sz := s.heap.size)
  generalize hAe : va_A ([(nb, .inr (3, [.int 0, .null, .null, .int 0]))]) s.heap.size = A at hD ⊢
  have hA : ∀ q : Nat, s.heap.size ≤ q → A q := fun q h => by rw [← hAe]; exact Or.inr h
  have hP : va_P (dC, dI) vwCl [(nb, .inr (3, [.int 0, .null, .null, .int 0]))] s.heap := hP
  have hD : va_D A [(nb, .inr (3, [.int 0, .null, .null, .int 0]))] := hD
  have hK : va_K (dC, dI) vwCl [] s := hK
  generalize hH : s.heap = H at hP ⊢
  have hS : va_S A s.heap H [] := by rw [← hH]; exact va_S.rf
  have hl := lv_entry ([.ref nb, .int 6]) (n := 2) (Nat.le_of_ble_eq_true rfl)
  rw [lg_entry_eq]
  generalize (lg_sl ([.ref nb, .int 6]) ++ List.replicate (2 - (lg_sl ([.ref nb, .int 6])).length) Slot.unset).toArray = ls at hl ⊢
  have hl : lv_has ls 2 [(0, .ref nb), (1, .int 6)] := hl
  refine lv_aload_n hx hb dX3_init_0 rfl (lv_at hl 0 rfl) ?_
  refine W.objInit hx hb hown (hts (.methodLink RX3 3 objectInit) (List.mem_of_getElem? (i := 1) (by decide +kernel))) (hts (.instanceMethod objectInit) (List.mem_of_getElem? (i := 2) (by decide +kernel))) (hts (.code objectInit ⟨#[0xb1]⟩ 1 none) (List.mem_of_getElem? (i := 3) (by decide +kernel))) rfl (by rw [hml]; exact hl.1) rfl dX3_init_1 (Nat.le_of_ble_eq_true rfl) (Nat.le_of_ble_eq_true rfl) ?_
  refine W.eq (g2 := F0 m 4 ls []) rfl ?_
  refine lv_aload_n hx hb dX3_init_4 rfl (lv_at hl 0 rfl) ?_
  refine lv_iconst (v := 1) hx hb dX3_init_5 (by decide) ?_
  refine lv_iload_n hx hb dX3_init_6 rfl (lv_at hl 1 rfl) ?_
  refine va_mmax hx hb (hml.trans hl.1.symm) hown (hts (.methodLink RX3 9 Lib.Math.max.name) (List.mem_of_getElem? (i := 4) (by decide +kernel))) (hts (.static Lib.Math.max.name) (List.mem_of_getElem? (i := 5) (by decide +kernel))) (hts (.initialized "java/lang/Math") (List.mem_of_getElem? (i := 6) (by decide +kernel))) (hts (.code Lib.Math.max.name Lib.Math.max.code 2 (some .int)) (List.mem_of_getElem? (i := 7) (by decide +kernel))) (Nat.le_of_ble_eq_true rfl) (Nat.le_of_ble_eq_true rfl) (Nat.le_of_ble_eq_true rfl) (Nat.le_of_ble_eq_true rfl) dX3_init_7 ?_
  refine lv_topi (fun y_1 ey_1 => ?_)
  obtain rfl : y_1 = 6 := ey_1.trans (by first | rfl | decide)
  refine va_putF (D := (dC, dI)) (ci := 3) (v := .int 6) (ty := .int) (C := RX3) (T := TX3) (N := 4) hx hb hts fin_X3_initn6_X3 tyX3 tyX3_ok nmX3 hown hK hP hD hS 0 rfl rfl 0 (by decide) (hts (.fieldLink RX3 15 "PatternGate$Need" "room" "I") (List.mem_of_getElem? (i := 8) (by decide +kernel))) (fun _ h9 => h9) rfl hin rfl (by decide +kernel) rfl rfl (Nat.le_of_ble_eq_true rfl) dX3_init_10 (fun H locs hP hD hS => ?_)
  have hP : va_P (dC, dI) vwCl [(nb, .inr (3, [.int 6, .null, .null, .int 0]))] H := hP
  have hD : va_D A [(nb, .inr (3, [.int 6, .null, .null, .int 0]))] := hD
  refine lv_aload_n hx hb dX3_init_13 rfl (lv_at hl 0 rfl) ?_
  refine lv_aload_n hx hb dX3_init_14 rfl (lv_at hl 0 rfl) ?_
  refine va_get (D := (dC, dI)) (ci := 3) (v := .int 6) (C := RX3) (T := TX3) (N := 4) hx hb hts fin_X3_initn6_X3 hown hK hP 0 rfl rfl 0 (by decide) (hts (.fieldLink RX3 15 "PatternGate$Need" "room" "I") (List.mem_of_getElem? (i := 8) (by decide +kernel))) (fun _ h9 => h9) rfl dX3_init_15 ?_
  refine lv_bipush (v := 24) hx hb dX3_init_18 (by decide) ?_
  refine lv_imul hx hb dX3_init_20 ?_
  refine lv_topi (fun y_2 ey_2 => ?_)
  obtain rfl : y_2 = 144 := ey_2.trans (by first | rfl | decide)
  refine va_newa (atype := .int) (ty := .int) (n := 144) (N' := 144) (a0 := (144, .inl (fun _ => 0))) hx hb (hts (.arrayClass .int) (List.mem_of_getElem? (i := 9) (by decide +kernel))) rfl hK hP hD hS hA (fun _ => rfl) (by decide) (by decide) (Nat.le_of_ble_eq_true rfl) (Nat.le_of_ble_eq_true rfl) (Nat.le_of_ble_eq_true rfl) dX3_init_21 (fun q_3 c_4 H hK hP hD hS => ?_)
  have hP : va_P (dC, dI) vwCl [(nb, .inr (3, [.int 6, .null, .null, .int 0])), (q_3, .inl (c_4, 144, .inl (fun _ => 0)))] H := hP
  have hD : va_D A [(nb, .inr (3, [.int 6, .null, .null, .int 0])), (q_3, .inl (c_4, 144, .inl (fun _ => 0)))] := hD
  have hK : va_K (dC, dI) vwCl [(c_4, .int)] s := hK
  refine W.widen (k := 1) (n := 144) (by omega) (by omega) ?_
  refine va_putF (D := (dC, dI)) (ci := 3) (v := .ref q_3) (ty := .array .int) (C := RX3) (T := TX3) (N := 4) hx hb hts fin_X3_initn6_X3 tyX3 tyX3_ok nmX3 hown hK hP hD hS 0 rfl rfl 1 (by decide) (hts (.fieldLink RX3 21 "PatternGate$Need" "triples" "[I") (List.mem_of_getElem? (i := 10) (by decide +kernel))) (fun _ h9 => h9) rfl hin rfl (by decide +kernel) rfl rfl (Nat.le_of_ble_eq_true rfl) dX3_init_23 (fun H locs hP hD hS => ?_)
  have hP : va_P (dC, dI) vwCl [(nb, .inr (3, [.int 6, .ref q_3, .null, .int 0])), (q_3, .inl (c_4, 144, .inl (fun _ => 0)))] H := hP
  have hD : va_D A [(nb, .inr (3, [.int 6, .ref q_3, .null, .int 0])), (q_3, .inl (c_4, 144, .inl (fun _ => 0)))] := hD
  refine lv_aload_n hx hb dX3_init_26 rfl (lv_at hl 0 rfl) ?_
  refine lv_aload_n hx hb dX3_init_27 rfl (lv_at hl 0 rfl) ?_
  refine va_get (D := (dC, dI)) (ci := 3) (v := .int 6) (C := RX3) (T := TX3) (N := 4) hx hb hts fin_X3_initn6_X3 hown hK hP 0 rfl rfl 0 (by decide) (hts (.fieldLink RX3 15 "PatternGate$Need" "room" "I") (List.mem_of_getElem? (i := 8) (by decide +kernel))) (fun _ h9 => h9) rfl dX3_init_28 ?_
  refine va_newa (atype := .int) (ty := .int) (n := 6) (N' := 6) (a0 := (6, .inl (fun _ => 0))) hx hb (hts (.arrayClass .int) (List.mem_of_getElem? (i := 9) (by decide +kernel))) rfl hK hP hD hS hA (fun _ => rfl) (by decide) (by decide) (Nat.le_of_ble_eq_true rfl) (Nat.le_of_ble_eq_true rfl) (Nat.le_of_ble_eq_true rfl) dX3_init_31 (fun q_5 c_6 H hK hP hD hS => ?_)
  have hP : va_P (dC, dI) vwCl [(nb, .inr (3, [.int 6, .ref q_3, .null, .int 0])), (q_3, .inl (c_4, 144, .inl (fun _ => 0))), (q_5, .inl (c_6, 6, .inl (fun _ => 0)))] H := hP
  have hD : va_D A [(nb, .inr (3, [.int 6, .ref q_3, .null, .int 0])), (q_3, .inl (c_4, 144, .inl (fun _ => 0))), (q_5, .inl (c_6, 6, .inl (fun _ => 0)))] := hD
  have hK : va_K (dC, dI) vwCl [(c_4, .int), (c_6, .int)] s := hK
  refine W.widen (k := 2) (n := 150) (by omega) (by omega) ?_
  refine va_putF (D := (dC, dI)) (ci := 3) (v := .ref q_5) (ty := .array .int) (C := RX3) (T := TX3) (N := 4) hx hb hts fin_X3_initn6_X3 tyX3 tyX3_ok nmX3 hown hK hP hD hS 0 rfl rfl 2 (by decide) (hts (.fieldLink RX3 25 "PatternGate$Need" "sizes" "[I") (List.mem_of_getElem? (i := 11) (by decide +kernel))) (fun _ h9 => h9) rfl hin rfl (by decide +kernel) rfl rfl (Nat.le_of_ble_eq_true rfl) dX3_init_33 (fun H locs hP hD hS => ?_)
  have hP : va_P (dC, dI) vwCl [(nb, .inr (3, [.int 6, .ref q_3, .ref q_5, .int 0])), (q_3, .inl (c_4, 144, .inl (fun _ => 0))), (q_5, .inl (c_6, 6, .inl (fun _ => 0)))] H := hP
  have hD : va_D A [(nb, .inr (3, [.int 6, .ref q_3, .ref q_5, .int 0])), (q_3, .inl (c_4, 144, .inl (fun _ => 0))), (q_5, .inl (c_6, 6, .inl (fun _ => 0)))] := hD
  refine W.widen (k := 2) (n := 150) (by omega) (by omega) ?_
  exact W.vret hx hb hr (fun t ht hW => ⟨⟨(), rfl, trivial, trivial⟩, hS.F ht⟩) hS.2.2 dX3_init_36
def mwX3_initn144 : List Cond := .code yX3_init cX3_init 2 none :: ([.methodLink RX3 3 objectInit, .instanceMethod objectInit, .code objectInit ⟨#[0xb1]⟩ 1 none, .methodLink RX3 9 Lib.Math.max.name, .static Lib.Math.max.name, .initialized "java/lang/Math", .code Lib.Math.max.name Lib.Math.max.code 2 (some .int), .fieldLink RX3 15 "PatternGate$Need" "room" "I", .arrayClass .int, .fieldLink RX3 21 "PatternGate$Need" "triples" "[I", .fieldLink RX3 25 "PatternGate$Need" "sizes" "[I"] ++ wsX30)
theorem fin_X3_initn144_X3 : ∀ w ∈ wsX30, w ∈ mwX3_initn144 := fun w h => List.mem_cons_of_mem _ (List.mem_append_right _ h)
set_option maxHeartbeats 4000000 in
set_option maxRecDepth 100000 in
/-- c_Need144() -/
theorem c_Need144 (l : Launch) (dC : Nat → ClassId) (dI : Nat → Nat → Nat) (nb sz : Nat) : Met l yX3_init mwX3_initn144 ({ frames := 1, cells := 2, slots := 3600, locals := 60 }) (va_Pc [.ref nb, .int 144] (fun U => U.heap.size = sz ∧ va_P (dC, dI) vwCl ([(nb, .inr (3, [.int 0, .null, .null, .int 0]))]) U.heap ∧ va_K (dC, dI) vwCl ([]) U ∧ va_D (fun _ => True) ([(nb, .inr (3, [.int 0, .null, .null, .int 0]))]))) (va_Qv (fun (_ : Unit) => True) (fun _ _ => True) (va_A ([(nb, .inr (3, [.int 0, .null, .null, .int 0]))]) sz)) 2 3600 (va_A ([(nb, .inr (3, [.int 0, .null, .null, .int 0]))]) sz) := by
  refine Met.ofW (cc := cX3_init) (maxL := 2) (ret := none) (by decide +kernel) rfl ?_
  intro p e s m args below meth c s₁ B hml hv
  obtain ⟨rfl, hsz, hP, hK, hD0⟩ := hv
  have hx := B.exec
  have hb := B.bytes
  have hr := B.returns
  have hts := atoms_spec (ws := mwX3_initn144) B.pre
  have hown : s.vm.findClass RX3 = some m.cls := findClass_of_methodNamed B.named
  have hlocks := B.notSynchronized
  have hin : meth.name = "<init>" := (name_of_methodNamed B.named B.method).1
  subst hsz
  have hD := hD0.self (sz := s.heap.size)
  generalize hAe : va_A ([(nb, .inr (3, [.int 0, .null, .null, .int 0]))]) s.heap.size = A at hD ⊢
  have hA : ∀ q : Nat, s.heap.size ≤ q → A q := fun q h => by rw [← hAe]; exact Or.inr h
  have hP : va_P (dC, dI) vwCl [(nb, .inr (3, [.int 0, .null, .null, .int 0]))] s.heap := hP
  have hD : va_D A [(nb, .inr (3, [.int 0, .null, .null, .int 0]))] := hD
  have hK : va_K (dC, dI) vwCl [] s := hK
  generalize hH : s.heap = H at hP ⊢
  have hS : va_S A s.heap H [] := by rw [← hH]; exact va_S.rf
  have hl := lv_entry ([.ref nb, .int 144]) (n := 2) (Nat.le_of_ble_eq_true rfl)
  rw [lg_entry_eq]
  generalize (lg_sl ([.ref nb, .int 144]) ++ List.replicate (2 - (lg_sl ([.ref nb, .int 144])).length) Slot.unset).toArray = ls at hl ⊢
  have hl : lv_has ls 2 [(0, .ref nb), (1, .int 144)] := hl
  refine lv_aload_n hx hb dX3_init_0 rfl (lv_at hl 0 rfl) ?_
  refine W.objInit hx hb hown (hts (.methodLink RX3 3 objectInit) (List.mem_of_getElem? (i := 1) (by decide +kernel))) (hts (.instanceMethod objectInit) (List.mem_of_getElem? (i := 2) (by decide +kernel))) (hts (.code objectInit ⟨#[0xb1]⟩ 1 none) (List.mem_of_getElem? (i := 3) (by decide +kernel))) rfl (by rw [hml]; exact hl.1) rfl dX3_init_1 (Nat.le_of_ble_eq_true rfl) (Nat.le_of_ble_eq_true rfl) ?_
  refine W.eq (g2 := F0 m 4 ls []) rfl ?_
  refine lv_aload_n hx hb dX3_init_4 rfl (lv_at hl 0 rfl) ?_
  refine lv_iconst (v := 1) hx hb dX3_init_5 (by decide) ?_
  refine lv_iload_n hx hb dX3_init_6 rfl (lv_at hl 1 rfl) ?_
  refine va_mmax hx hb (hml.trans hl.1.symm) hown (hts (.methodLink RX3 9 Lib.Math.max.name) (List.mem_of_getElem? (i := 4) (by decide +kernel))) (hts (.static Lib.Math.max.name) (List.mem_of_getElem? (i := 5) (by decide +kernel))) (hts (.initialized "java/lang/Math") (List.mem_of_getElem? (i := 6) (by decide +kernel))) (hts (.code Lib.Math.max.name Lib.Math.max.code 2 (some .int)) (List.mem_of_getElem? (i := 7) (by decide +kernel))) (Nat.le_of_ble_eq_true rfl) (Nat.le_of_ble_eq_true rfl) (Nat.le_of_ble_eq_true rfl) (Nat.le_of_ble_eq_true rfl) dX3_init_7 ?_
  refine lv_topi (fun y_1 ey_1 => ?_)
  obtain rfl : y_1 = 144 := ey_1.trans (by first | rfl | decide)
  refine va_putF (D := (dC, dI)) (ci := 3) (v := .int 144) (ty := .int) (C := RX3) (T := TX3) (N := 4) hx hb hts fin_X3_initn144_X3 tyX3 tyX3_ok nmX3 hown hK hP hD hS 0 rfl rfl 0 (by decide) (hts (.fieldLink RX3 15 "PatternGate$Need" "room" "I") (List.mem_of_getElem? (i := 8) (by decide +kernel))) (fun _ h9 => h9) rfl hin rfl (by decide +kernel) rfl rfl (Nat.le_of_ble_eq_true rfl) dX3_init_10 (fun H locs hP hD hS => ?_)
  have hP : va_P (dC, dI) vwCl [(nb, .inr (3, [.int 144, .null, .null, .int 0]))] H := hP
  have hD : va_D A [(nb, .inr (3, [.int 144, .null, .null, .int 0]))] := hD
  refine lv_aload_n hx hb dX3_init_13 rfl (lv_at hl 0 rfl) ?_
  refine lv_aload_n hx hb dX3_init_14 rfl (lv_at hl 0 rfl) ?_
  refine va_get (D := (dC, dI)) (ci := 3) (v := .int 144) (C := RX3) (T := TX3) (N := 4) hx hb hts fin_X3_initn144_X3 hown hK hP 0 rfl rfl 0 (by decide) (hts (.fieldLink RX3 15 "PatternGate$Need" "room" "I") (List.mem_of_getElem? (i := 8) (by decide +kernel))) (fun _ h9 => h9) rfl dX3_init_15 ?_
  refine lv_bipush (v := 24) hx hb dX3_init_18 (by decide) ?_
  refine lv_imul hx hb dX3_init_20 ?_
  refine lv_topi (fun y_2 ey_2 => ?_)
  obtain rfl : y_2 = 3456 := ey_2.trans (by first | rfl | decide)
  refine va_newa (atype := .int) (ty := .int) (n := 3456) (N' := 3456) (a0 := (3456, .inl (fun _ => 0))) hx hb (hts (.arrayClass .int) (List.mem_of_getElem? (i := 9) (by decide +kernel))) rfl hK hP hD hS hA (fun _ => rfl) (by decide) (by decide) (Nat.le_of_ble_eq_true rfl) (Nat.le_of_ble_eq_true rfl) (Nat.le_of_ble_eq_true rfl) dX3_init_21 (fun q_3 c_4 H hK hP hD hS => ?_)
  have hP : va_P (dC, dI) vwCl [(nb, .inr (3, [.int 144, .null, .null, .int 0])), (q_3, .inl (c_4, 3456, .inl (fun _ => 0)))] H := hP
  have hD : va_D A [(nb, .inr (3, [.int 144, .null, .null, .int 0])), (q_3, .inl (c_4, 3456, .inl (fun _ => 0)))] := hD
  have hK : va_K (dC, dI) vwCl [(c_4, .int)] s := hK
  refine W.widen (k := 1) (n := 3456) (by omega) (by omega) ?_
  refine va_putF (D := (dC, dI)) (ci := 3) (v := .ref q_3) (ty := .array .int) (C := RX3) (T := TX3) (N := 4) hx hb hts fin_X3_initn144_X3 tyX3 tyX3_ok nmX3 hown hK hP hD hS 0 rfl rfl 1 (by decide) (hts (.fieldLink RX3 21 "PatternGate$Need" "triples" "[I") (List.mem_of_getElem? (i := 10) (by decide +kernel))) (fun _ h9 => h9) rfl hin rfl (by decide +kernel) rfl rfl (Nat.le_of_ble_eq_true rfl) dX3_init_23 (fun H locs hP hD hS => ?_)
  have hP : va_P (dC, dI) vwCl [(nb, .inr (3, [.int 144, .ref q_3, .null, .int 0])), (q_3, .inl (c_4, 3456, .inl (fun _ => 0)))] H := hP
  have hD : va_D A [(nb, .inr (3, [.int 144, .ref q_3, .null, .int 0])), (q_3, .inl (c_4, 3456, .inl (fun _ => 0)))] := hD
  refine lv_aload_n hx hb dX3_init_26 rfl (lv_at hl 0 rfl) ?_
  refine lv_aload_n hx hb dX3_init_27 rfl (lv_at hl 0 rfl) ?_
  refine va_get (D := (dC, dI)) (ci := 3) (v := .int 144) (C := RX3) (T := TX3) (N := 4) hx hb hts fin_X3_initn144_X3 hown hK hP 0 rfl rfl 0 (by decide) (hts (.fieldLink RX3 15 "PatternGate$Need" "room" "I") (List.mem_of_getElem? (i := 8) (by decide +kernel))) (fun _ h9 => h9) rfl dX3_init_28 ?_
  refine va_newa (atype := .int) (ty := .int) (n := 144) (N' := 144) (a0 := (144, .inl (fun _ => 0))) hx hb (hts (.arrayClass .int) (List.mem_of_getElem? (i := 9) (by decide +kernel))) rfl hK hP hD hS hA (fun _ => rfl) (by decide) (by decide) (Nat.le_of_ble_eq_true rfl) (Nat.le_of_ble_eq_true rfl) (Nat.le_of_ble_eq_true rfl) dX3_init_31 (fun q_5 c_6 H hK hP hD hS => ?_)
  have hP : va_P (dC, dI) vwCl [(nb, .inr (3, [.int 144, .ref q_3, .null, .int 0])), (q_3, .inl (c_4, 3456, .inl (fun _ => 0))), (q_5, .inl (c_6, 144, .inl (fun _ => 0)))] H := hP
  have hD : va_D A [(nb, .inr (3, [.int 144, .ref q_3, .null, .int 0])), (q_3, .inl (c_4, 3456, .inl (fun _ => 0))), (q_5, .inl (c_6, 144, .inl (fun _ => 0)))] := hD
  have hK : va_K (dC, dI) vwCl [(c_4, .int), (c_6, .int)] s := hK
  refine W.widen (k := 2) (n := 3600) (by omega) (by omega) ?_
  refine va_putF (D := (dC, dI)) (ci := 3) (v := .ref q_5) (ty := .array .int) (C := RX3) (T := TX3) (N := 4) hx hb hts fin_X3_initn144_X3 tyX3 tyX3_ok nmX3 hown hK hP hD hS 0 rfl rfl 2 (by decide) (hts (.fieldLink RX3 25 "PatternGate$Need" "sizes" "[I") (List.mem_of_getElem? (i := 11) (by decide +kernel))) (fun _ h9 => h9) rfl hin rfl (by decide +kernel) rfl rfl (Nat.le_of_ble_eq_true rfl) dX3_init_33 (fun H locs hP hD hS => ?_)
  have hP : va_P (dC, dI) vwCl [(nb, .inr (3, [.int 144, .ref q_3, .ref q_5, .int 0])), (q_3, .inl (c_4, 3456, .inl (fun _ => 0))), (q_5, .inl (c_6, 144, .inl (fun _ => 0)))] H := hP
  have hD : va_D A [(nb, .inr (3, [.int 144, .ref q_3, .ref q_5, .int 0])), (q_3, .inl (c_4, 3456, .inl (fun _ => 0))), (q_5, .inl (c_6, 144, .inl (fun _ => 0)))] := hD
  refine W.widen (k := 2) (n := 3600) (by omega) (by omega) ?_
  exact W.vret hx hb hr (fun t ht hW => ⟨⟨(), rfl, trivial, trivial⟩, hS.F ht⟩) hS.2.2 dX3_init_36
theorem dX8_init_0 : decode cX8_init 0 = .ok (.aload_n 0, 1) := by decide +kernel
theorem dX8_init_1 : decode cX8_init 1 = .ok (.invokespecial 3, 3) := by decide +kernel
theorem dX8_init_4 : decode cX8_init 4 = .ok (.aload_n 0, 1) := by decide +kernel
theorem dX8_init_5 : decode cX8_init 5 = .ok (.bipush 24, 2) := by decide +kernel
theorem dX8_init_7 : decode cX8_init 7 = .ok (.newarray .int, 2) := by decide +kernel
theorem dX8_init_9 : decode cX8_init 9 = .ok (.putfield 9, 3) := by decide +kernel
theorem dX8_init_12 : decode cX8_init 12 = .ok (.return_, 1) := by decide +kernel
def mwX8_init : List Cond := .code yX8_init cX8_init 1 none :: ([.methodLink RX8 3 objectInit, .instanceMethod objectInit, .code objectInit ⟨#[0xb1]⟩ 1 none, .arrayClass .int, .fieldLink RX8 9 "PatternGate$Walk" "lists" "[I"] ++ wsX80)
theorem fin_X8_init_X8 : ∀ w ∈ wsX80, w ∈ mwX8_init := fun w h => List.mem_cons_of_mem _ (List.mem_append_right _ h)
set_option maxHeartbeats 4000000 in
set_option maxRecDepth 100000 in
/-- c_Walk() -/
theorem c_Walk (l : Launch) (dC : Nat → ClassId) (dI : Nat → Nat → Nat) (nb sz : Nat) : Met l yX8_init mwX8_init ({ frames := 1, cells := 1, slots := 24, locals := 60 }) (va_Pc [.ref nb] (fun U => U.heap.size = sz ∧ va_P (dC, dI) vwCl ([(nb, .inr (8, [.int 0, .int 0, .null]))]) U.heap ∧ va_K (dC, dI) vwCl ([]) U ∧ va_D (fun _ => True) ([(nb, .inr (8, [.int 0, .int 0, .null]))]))) (va_Qv (fun (_ : Unit) => True) (fun _ _ => True) (va_A ([(nb, .inr (8, [.int 0, .int 0, .null]))]) sz)) 1 24 (va_A ([(nb, .inr (8, [.int 0, .int 0, .null]))]) sz) := by
  refine Met.ofW (cc := cX8_init) (maxL := 1) (ret := none) (by decide +kernel) rfl ?_
  intro p e s m args below meth c s₁ B hml hv
  obtain ⟨rfl, hsz, hP, hK, hD0⟩ := hv
  have hx := B.exec
  have hb := B.bytes
  have hr := B.returns
  have hts := atoms_spec (ws := mwX8_init) B.pre
  have hown : s.vm.findClass RX8 = some m.cls := findClass_of_methodNamed B.named
  have hlocks := B.notSynchronized
  have hin : meth.name = "<init>" := (name_of_methodNamed B.named B.method).1
  subst hsz
  have hD := hD0.self (sz := s.heap.size)
  generalize hAe : va_A ([(nb, .inr (8, [.int 0, .int 0, .null]))]) s.heap.size = A at hD ⊢
  have hA : ∀ q : Nat, s.heap.size ≤ q → A q := fun q h => by rw [← hAe]; exact Or.inr h
  have hP : va_P (dC, dI) vwCl [(nb, .inr (8, [.int 0, .int 0, .null]))] s.heap := hP
  have hD : va_D A [(nb, .inr (8, [.int 0, .int 0, .null]))] := hD
  have hK : va_K (dC, dI) vwCl [] s := hK
  generalize hH : s.heap = H at hP ⊢
  have hS : va_S A s.heap H [] := by rw [← hH]; exact va_S.rf
  have hl := lv_entry ([.ref nb]) (n := 1) (Nat.le_of_ble_eq_true rfl)
  rw [lg_entry_eq]
  generalize (lg_sl ([.ref nb]) ++ List.replicate (1 - (lg_sl ([.ref nb])).length) Slot.unset).toArray = ls at hl ⊢
  have hl : lv_has ls 1 [(0, .ref nb)] := hl
  refine lv_aload_n hx hb dX8_init_0 rfl (lv_at hl 0 rfl) ?_
  refine W.objInit hx hb hown (hts (.methodLink RX8 3 objectInit) (List.mem_of_getElem? (i := 1) (by decide +kernel))) (hts (.instanceMethod objectInit) (List.mem_of_getElem? (i := 2) (by decide +kernel))) (hts (.code objectInit ⟨#[0xb1]⟩ 1 none) (List.mem_of_getElem? (i := 3) (by decide +kernel))) rfl (by rw [hml]; exact hl.1) rfl dX8_init_1 (Nat.le_of_ble_eq_true rfl) (Nat.le_of_ble_eq_true rfl) ?_
  refine W.eq (g2 := F0 m 4 ls []) rfl ?_
  refine lv_aload_n hx hb dX8_init_4 rfl (lv_at hl 0 rfl) ?_
  refine lv_bipush (v := 24) hx hb dX8_init_5 (by decide) ?_
  refine va_newa (atype := .int) (ty := .int) (n := 24) (N' := 24) (a0 := (24, .inl (fun _ => 0))) hx hb (hts (.arrayClass .int) (List.mem_of_getElem? (i := 4) (by decide +kernel))) rfl hK hP hD hS hA (fun _ => rfl) (by decide) (by decide) (Nat.le_of_ble_eq_true rfl) (Nat.le_of_ble_eq_true rfl) (Nat.le_of_ble_eq_true rfl) dX8_init_7 (fun q_1 c_2 H hK hP hD hS => ?_)
  have hP : va_P (dC, dI) vwCl [(nb, .inr (8, [.int 0, .int 0, .null])), (q_1, .inl (c_2, 24, .inl (fun _ => 0)))] H := hP
  have hD : va_D A [(nb, .inr (8, [.int 0, .int 0, .null])), (q_1, .inl (c_2, 24, .inl (fun _ => 0)))] := hD
  have hK : va_K (dC, dI) vwCl [(c_2, .int)] s := hK
  refine W.widen (k := 1) (n := 24) (by omega) (by omega) ?_
  refine va_putF (D := (dC, dI)) (ci := 8) (v := .ref q_1) (ty := .array .int) (C := RX8) (T := TX8) (N := 3) hx hb hts fin_X8_init_X8 tyX8 tyX8_ok nmX8 hown hK hP hD hS 0 rfl rfl 2 (by decide) (hts (.fieldLink RX8 9 "PatternGate$Walk" "lists" "[I") (List.mem_of_getElem? (i := 5) (by decide +kernel))) (fun _ h9 => h9) rfl hin rfl (by decide +kernel) rfl rfl (Nat.le_of_ble_eq_true rfl) dX8_init_9 (fun H locs hP hD hS => ?_)
  have hP : va_P (dC, dI) vwCl [(nb, .inr (8, [.int 0, .int 0, .ref q_1])), (q_1, .inl (c_2, 24, .inl (fun _ => 0)))] H := hP
  have hD : va_D A [(nb, .inr (8, [.int 0, .int 0, .ref q_1])), (q_1, .inl (c_2, 24, .inl (fun _ => 0)))] := hD
  refine W.widen (k := 1) (n := 24) (by omega) (by omega) ?_
  exact W.vret hx hb hr (fun t ht hW => ⟨⟨(), rfl, trivial, trivial⟩, hS.F ht⟩) hS.2.2 dX8_init_12
theorem dX4_init_0 : decode cX4_init 0 = .ok (.aload_n 0, 1) := by decide +kernel
theorem dX4_init_1 : decode cX4_init 1 = .ok (.invokespecial 3, 3) := by decide +kernel
theorem dX4_init_4 : decode cX4_init 4 = .ok (.aload_n 0, 1) := by decide +kernel
theorem dX4_init_5 : decode cX4_init 5 = .ok (.new 9, 3) := by decide +kernel
theorem dX4_init_8 : decode cX4_init 8 = .ok (.dup, 1) := by decide +kernel
theorem dX4_init_9 : decode cX4_init 9 = .ok (.invokespecial 11, 3) := by decide +kernel
theorem dX4_init_12 : decode cX4_init 12 = .ok (.putfield 12, 3) := by decide +kernel
theorem dX4_init_15 : decode cX4_init 15 = .ok (.aload_n 0, 1) := by decide +kernel
theorem dX4_init_16 : decode cX4_init 16 = .ok (.new 18, 3) := by decide +kernel
theorem dX4_init_19 : decode cX4_init 19 = .ok (.dup, 1) := by decide +kernel
theorem dX4_init_20 : decode cX4_init 20 = .ok (.bipush 12, 2) := by decide +kernel
theorem dX4_init_22 : decode cX4_init 22 = .ok (.invokespecial 20, 3) := by decide +kernel
theorem dX4_init_25 : decode cX4_init 25 = .ok (.putfield 23, 3) := by decide +kernel
theorem dX4_init_28 : decode cX4_init 28 = .ok (.return_, 1) := by decide +kernel
def mwX4_init : List Cond := .code yX4_init cX4_init 1 none :: ([.methodLink RX4 3 objectInit, .instanceMethod objectInit, .code objectInit ⟨#[0xb1]⟩ 1 none, .classLink RX4 9 RX7, .instantiable RX7 2, .initialized RX7, .code yX7_init cX7_init 1 none, .methodLink RX7 5 objectInit, .arrayClass .long, .fieldLink RX7 11 "PatternGate$Rows" "row" "[J", .instanceMethod yX7_init, .fieldLink RX4 12 "PatternGate$Part" "rows" "LPatternGate$Rows;", .classLink RX4 18 RX3, .instantiable RX3 4, .initialized RX3, .code yX3_init cX3_init 2 none, .methodLink RX3 3 objectInit, .methodLink RX3 9 Lib.Math.max.name, .static Lib.Math.max.name, .initialized "java/lang/Math", .code Lib.Math.max.name Lib.Math.max.code 2 (some .int), .fieldLink RX3 15 "PatternGate$Need" "room" "I", .arrayClass .int, .fieldLink RX3 21 "PatternGate$Need" "triples" "[I", .fieldLink RX3 25 "PatternGate$Need" "sizes" "[I", .methodLink RX4 20 yX3_init, .instanceMethod yX3_init, .fieldLink RX4 23 "PatternGate$Part" "need" "LPatternGate$Need;"] ++ wsX70 ++ wsX40 ++ wsX30)
theorem fin_X4_init_X3 : ∀ w ∈ wsX30, w ∈ mwX4_init := fun w h => List.mem_cons_of_mem _ (List.mem_append_right _ h)
theorem fin_X4_init_X4 : ∀ w ∈ wsX40, w ∈ mwX4_init := fun w h => List.mem_cons_of_mem _ (List.mem_append_left _ (List.mem_append_right _ h))
theorem fin_X4_init_X7 : ∀ w ∈ wsX70, w ∈ mwX4_init := fun w h => List.mem_cons_of_mem _ (List.mem_append_left _ (List.mem_append_left _ (List.mem_append_right _ h)))
set_option maxRecDepth 20000 in
theorem mg_X4_init_X7_init_11 : GoodIn mwX4_init mwX7_init := goodIn_r _ [7, 8, 2, 3, 9, 10, 29, 30] (by decide +kernel) (by decide +kernel)
set_option maxRecDepth 20000 in
theorem mg_X4_init_X3_init_20 : GoodIn mwX4_init mwX3_initn12 := goodIn_r _ [16, 17, 2, 3, 18, 19, 20, 21, 22, 23, 24, 25, 39, 40, 41, 42] (by decide +kernel) (by decide +kernel)
set_option maxHeartbeats 4000000 in
set_option maxRecDepth 100000 in
/-- Part() -/
theorem c_Part (l : Launch) (dC : Nat → ClassId) (dI : Nat → Nat → Nat) (nb sz : Nat) : Met l yX4_init mwX4_init ({ frames := 2, cells := 5, slots := 312, locals := 120 }) (va_Pc [.ref nb] (fun U => U.heap.size = sz ∧ va_P (dC, dI) vwCl ([(nb, .inr (4, [.null, .null, .int 0, .int 0, .int 0, .int 0, .int 0, .int 0]))]) U.heap ∧ va_K (dC, dI) vwCl ([]) U ∧ va_D (fun _ => True) ([(nb, .inr (4, [.null, .null, .int 0, .int 0, .int 0, .int 0, .int 0, .int 0]))]) ∧ va_Nw (.methodLinkNest RX4 11 yX7_init "PatternGate") U)) (va_Qv (fun (_ : Unit) => True) (fun _ t => ∃ r1 n1 : Nat, va_P (dC, dI) vwCl [(nb, .inr (4, [.ref r1, .ref n1, .int 0, .int 0, .int 0, .int 0, .int 0, .int 0]))] t.heap ∧ va_K (dC, dI) vwCl [] t ∧ va_D (va_A ([(nb, .inr (4, [.null, .null, .int 0, .int 0, .int 0, .int 0, .int 0, .int 0]))]) sz) [(nb, .inr (4, [.ref r1, .ref n1, .int 0, .int 0, .int 0, .int 0, .int 0, .int 0]))]) (va_A ([(nb, .inr (4, [.null, .null, .int 0, .int 0, .int 0, .int 0, .int 0, .int 0]))]) sz)) 5 312 (va_A ([(nb, .inr (4, [.null, .null, .int 0, .int 0, .int 0, .int 0, .int 0, .int 0]))]) sz) := by
  refine Met.ofW (cc := cX4_init) (maxL := 1) (ret := none) (by decide +kernel) rfl ?_
  intro p e s m args below meth c s₁ B hml hv
  obtain ⟨rfl, hsz, hP, hK, hD0, hN11⟩ := hv
  have hx := B.exec
  have hb := B.bytes
  have hr := B.returns
  have hts := atoms_spec (ws := mwX4_init) B.pre
  have hown : s.vm.findClass RX4 = some m.cls := findClass_of_methodNamed B.named
  have hlocks := B.notSynchronized
  have hin : meth.name = "<init>" := (name_of_methodNamed B.named B.method).1
  subst hsz
  have hD := hD0.self (sz := s.heap.size)
  generalize hAe : va_A ([(nb, .inr (4, [.null, .null, .int 0, .int 0, .int 0, .int 0, .int 0, .int 0]))]) s.heap.size = A at hD ⊢
  have hA : ∀ q : Nat, s.heap.size ≤ q → A q := fun q h => by rw [← hAe]; exact Or.inr h
  have hP : va_P (dC, dI) vwCl [(nb, .inr (4, [.null, .null, .int 0, .int 0, .int 0, .int 0, .int 0, .int 0]))] s.heap := hP
  have hD : va_D A [(nb, .inr (4, [.null, .null, .int 0, .int 0, .int 0, .int 0, .int 0, .int 0]))] := hD
  have hK : va_K (dC, dI) vwCl [] s := hK
  generalize hH : s.heap = H at hP ⊢
  have hS : va_S A s.heap H [] := by rw [← hH]; exact va_S.rf
  have hl := lv_entry ([.ref nb]) (n := 1) (Nat.le_of_ble_eq_true rfl)
  rw [lg_entry_eq]
  generalize (lg_sl ([.ref nb]) ++ List.replicate (1 - (lg_sl ([.ref nb])).length) Slot.unset).toArray = ls at hl ⊢
  have hl : lv_has ls 1 [(0, .ref nb)] := hl
  refine lv_aload_n hx hb dX4_init_0 rfl (lv_at hl 0 rfl) ?_
  refine W.objInit hx hb hown (hts (.methodLink RX4 3 objectInit) (List.mem_of_getElem? (i := 1) (by decide +kernel))) (hts (.instanceMethod objectInit) (List.mem_of_getElem? (i := 2) (by decide +kernel))) (hts (.code objectInit ⟨#[0xb1]⟩ 1 none) (List.mem_of_getElem? (i := 3) (by decide +kernel))) rfl (by rw [hml]; exact hl.1) rfl dX4_init_1 (Nat.le_of_ble_eq_true rfl) (Nat.le_of_ble_eq_true rfl) ?_
  refine W.eq (g2 := F0 m 4 ls []) rfl ?_
  refine lv_aload_n hx hb dX4_init_4 rfl (lv_at hl 0 rfl) ?_
  refine va_new (ci := 7) (fs := [.null, .int 0]) (C := RX7) (T := TX7) (N := 2) hx hb hts fin_X4_init_X7 tyX7 tyX7_ok hown (hts (.classLink RX4 9 RX7) (List.mem_of_getElem? (i := 4) (by decide +kernel))) (hts (.instantiable RX7 2) (List.mem_of_getElem? (i := 5) (by decide +kernel))) (hts (.initialized RX7) (List.mem_of_getElem? (i := 6) (by decide +kernel))) hK hP hD hS hA rfl (fun j hj => by rcases (show j = 0 ∨ j = 1 by omega) with rfl | rfl <;> rfl) (Nat.le_of_ble_eq_true rfl) (Nat.le_of_ble_eq_true rfl) dX4_init_5 (fun q_1 H hP hD hS => ?_)
  have hP : va_P (dC, dI) vwCl [(nb, .inr (4, [.null, .null, .int 0, .int 0, .int 0, .int 0, .int 0, .int 0])), (q_1, .inr (7, [.null, .int 0]))] H := hP
  have hD : va_D A [(nb, .inr (4, [.null, .null, .int 0, .int 0, .int 0, .int 0, .int 0, .int 0])), (q_1, .inr (7, [.null, .int 0]))] := hD
  refine W.widen (k := 1) (n := 2) (by omega) (by omega) ?_
  refine lv_dup hx hb dX4_init_8 rfl ?_
  have hPc := hP.sub (ws' := [(q_1, .inr (7, [.null, .int 0]))]) [1] rfl
  have hKc := hK.sub (tys' := []) [] rfl
  have hDc := hD.sub (ws' := [(q_1, .inr (7, [.null, .int 0]))]) [1] (by decide) rfl
  have hFc := va_free (wc := [(q_1, .inr (7, [.null, .int 0]))]) hD hS hA [1] rfl
  refine va_callv (va_runIN (As := []) (rest := [.ref q_1, .ref nb]) ⟨hx, hb, hml, hown, hts⟩ (c_Rows l dC dI q_1 H.size) ⟨va_cnB 0 hts mg_X4_init_X7_init_11 rfl rfl rfl hN11 (hts (.initialized RX7) (List.mem_of_getElem? (i := 6) (by decide +kernel))) (by decide +kernel) ⟨Nat.le_of_ble_eq_true rfl, Nat.le_of_ble_eq_true rfl⟩, rfl, (hts (.instanceMethod yX7_init) (List.mem_of_getElem? (i := 11) (by decide +kernel)))⟩ ⟨fun a U g mk q => by obtain ⟨q0, q1, qP, qK, qD⟩ := q; exact ⟨q0, q1, qP, va_K.moved (u := U) (U := U.calling g mk a) (Vm.Alike.refl U.vm) qK, qD⟩, fun U hU hW => ⟨rfl, by rw [hU], by rw [hU]; exact hPc, va_K.moved hW.alike hKc, hDc.weaken (fun _ _ _ _ => trivial)⟩⟩ rfl rfl hl.1 rfl (lv_room (Nat.le_of_ble_eq_true rfl)) dX4_init_9 ⟨Nat.le_of_ble_eq_true rfl, Nat.le_of_ble_eq_true rfl⟩) hS (fun q _ h => hFc q h) hFc (fun u t H1 locs ht hvm hw hB hz1 hk1 hS => ?_)
  obtain ⟨hP, hD⟩ := va_join (wr := [(nb, .inr (4, [.null, .null, .int 0, .int 0, .int 0, .int 0, .int 0, .int 0]))]) (w1 := []) hP hD [1] [0] rfl rfl (by decide) (by decide) hk1 hFc (fun k q h => by simp at h) ⟨fun i j p q h => by simp at h, fun k q h => by simp at h⟩
  generalize H1 = H at hP hS ⊢
  have hP : va_P (dC, dI) vwCl [(nb, .inr (4, [.null, .null, .int 0, .int 0, .int 0, .int 0, .int 0, .int 0]))] H := hP
  have hD : va_D A [(nb, .inr (4, [.null, .null, .int 0, .int 0, .int 0, .int 0, .int 0, .int 0]))] := hD
  refine W.widen (k := 2) (n := 8) (by omega) (by omega) ?_
  refine va_putF (D := (dC, dI)) (ci := 4) (v := .ref q_1) (ty := .object "PatternGate$Rows") (C := RX4) (T := TX4) (N := 8) hx hb hts fin_X4_init_X4 tyX4 tyX4_ok nmX4 hown hK hP hD hS 0 rfl rfl 0 (by decide) (hts (.fieldLink RX4 12 "PatternGate$Part" "rows" "LPatternGate$Rows;") (List.mem_of_getElem? (i := 12) (by decide +kernel))) (fun _ h9 => h9) rfl hin rfl (by decide +kernel) rfl rfl (Nat.le_of_ble_eq_true rfl) dX4_init_12 (fun H locs hP hD hS => ?_)
  have hP : va_P (dC, dI) vwCl [(nb, .inr (4, [.ref q_1, .null, .int 0, .int 0, .int 0, .int 0, .int 0, .int 0]))] H := hP
  have hD : va_D A [(nb, .inr (4, [.ref q_1, .null, .int 0, .int 0, .int 0, .int 0, .int 0, .int 0]))] := hD
  refine lv_aload_n hx hb dX4_init_15 rfl (lv_at hl 0 rfl) ?_
  refine va_new (ci := 3) (fs := [.int 0, .null, .null, .int 0]) (C := RX3) (T := TX3) (N := 4) hx hb hts fin_X4_init_X3 tyX3 tyX3_ok hown (hts (.classLink RX4 18 RX3) (List.mem_of_getElem? (i := 13) (by decide +kernel))) (hts (.instantiable RX3 4) (List.mem_of_getElem? (i := 14) (by decide +kernel))) (hts (.initialized RX3) (List.mem_of_getElem? (i := 15) (by decide +kernel))) hK hP hD hS hA rfl (fun j hj => by rcases (show j = 0 ∨ j = 1 ∨ j = 2 ∨ j = 3 by omega) with rfl | rfl | rfl | rfl <;> rfl) (Nat.le_of_ble_eq_true rfl) (Nat.le_of_ble_eq_true rfl) dX4_init_16 (fun q_4 H hP hD hS => ?_)
  have hP : va_P (dC, dI) vwCl [(nb, .inr (4, [.ref q_1, .null, .int 0, .int 0, .int 0, .int 0, .int 0, .int 0])), (q_4, .inr (3, [.int 0, .null, .null, .int 0]))] H := hP
  have hD : va_D A [(nb, .inr (4, [.ref q_1, .null, .int 0, .int 0, .int 0, .int 0, .int 0, .int 0])), (q_4, .inr (3, [.int 0, .null, .null, .int 0]))] := hD
  refine W.widen (k := 3) (n := 12) (by omega) (by omega) ?_
  refine lv_dup hx hb dX4_init_19 rfl ?_
  refine lv_bipush (v := 12) hx hb dX4_init_20 (by decide) ?_
  have hPc := hP.sub (ws' := [(q_4, .inr (3, [.int 0, .null, .null, .int 0]))]) [1] rfl
  have hKc := hK.sub (tys' := []) [] rfl
  have hDc := hD.sub (ws' := [(q_4, .inr (3, [.int 0, .null, .null, .int 0]))]) [1] (by decide) rfl
  have hFc := va_free (wc := [(q_4, .inr (3, [.int 0, .null, .null, .int 0]))]) hD hS hA [1] rfl
  refine va_callv (va_runI (As := [.int 12]) (rest := [.ref q_4, .ref nb]) ⟨hx, hb, hml, hown, hts⟩ (c_Need12 l dC dI q_4 H.size) (cwI 1 hts mg_X4_init_X3_init_20 rfl rfl rfl (hts (.initialized RX3) (List.mem_of_getElem? (i := 15) (by decide +kernel))) (hts (.methodLink RX4 20 yX3_init) (List.mem_of_getElem? (i := 26) (by decide +kernel))) (hts (.instanceMethod yX3_init) (List.mem_of_getElem? (i := 27) (by decide +kernel))) rfl (by decide +kernel) ⟨Nat.le_of_ble_eq_true rfl, Nat.le_of_ble_eq_true rfl⟩) ⟨fun a U g mk q => by obtain ⟨q0, q1, qP, qK, qD⟩ := q; exact ⟨q0, q1, qP, va_K.moved (u := U) (U := U.calling g mk a) (Vm.Alike.refl U.vm) qK, qD⟩, fun U hU hW => ⟨rfl, by rw [hU], by rw [hU]; exact hPc, va_K.moved hW.alike hKc, hDc.weaken (fun _ _ _ _ => trivial)⟩⟩ rfl rfl hl.1 rfl (lv_room (Nat.le_of_ble_eq_true rfl)) dX4_init_22 ⟨Nat.le_of_ble_eq_true rfl, Nat.le_of_ble_eq_true rfl⟩) hS (fun q _ h => hFc q h) hFc (fun u t H1 locs ht hvm hw hB hz1 hk1 hS => ?_)
  obtain ⟨hP, hD⟩ := va_join (wr := [(nb, .inr (4, [.ref q_1, .null, .int 0, .int 0, .int 0, .int 0, .int 0, .int 0]))]) (w1 := []) hP hD [1] [0] rfl rfl (by decide) (by decide) hk1 hFc (fun k q h => by simp at h) ⟨fun i j p q h => by simp at h, fun k q h => by simp at h⟩
  generalize H1 = H at hP hS ⊢
  have hP : va_P (dC, dI) vwCl [(nb, .inr (4, [.ref q_1, .null, .int 0, .int 0, .int 0, .int 0, .int 0, .int 0]))] H := hP
  have hD : va_D A [(nb, .inr (4, [.ref q_1, .null, .int 0, .int 0, .int 0, .int 0, .int 0, .int 0]))] := hD
  refine W.widen (k := 5) (n := 312) (by omega) (by omega) ?_
  refine va_putF (D := (dC, dI)) (ci := 4) (v := .ref q_4) (ty := .object "PatternGate$Need") (C := RX4) (T := TX4) (N := 8) hx hb hts fin_X4_init_X4 tyX4 tyX4_ok nmX4 hown hK hP hD hS 0 rfl rfl 1 (by decide) (hts (.fieldLink RX4 23 "PatternGate$Part" "need" "LPatternGate$Need;") (List.mem_of_getElem? (i := 28) (by decide +kernel))) (fun _ h9 => h9) rfl hin rfl (by decide +kernel) rfl rfl (Nat.le_of_ble_eq_true rfl) dX4_init_25 (fun H locs hP hD hS => ?_)
  have hP : va_P (dC, dI) vwCl [(nb, .inr (4, [.ref q_1, .ref q_4, .int 0, .int 0, .int 0, .int 0, .int 0, .int 0]))] H := hP
  have hD : va_D A [(nb, .inr (4, [.ref q_1, .ref q_4, .int 0, .int 0, .int 0, .int 0, .int 0, .int 0]))] := hD
  refine W.widen (k := 5) (n := 312) (by omega) (by omega) ?_
  have hP9 := hP.sub (ws' := [(nb, .inr (4, [.ref q_1, .ref q_4, .int 0, .int 0, .int 0, .int 0, .int 0, .int 0]))]) [0] rfl
  have hD9 := hD.sub (ws' := [(nb, .inr (4, [.ref q_1, .ref q_4, .int 0, .int 0, .int 0, .int 0, .int 0, .int 0]))]) [0] (by decide) rfl
  have hK9 := hK.sub (tys' := []) [] rfl
  exact W.vret hx hb hr (fun t ht hW => ⟨⟨(), rfl, trivial, q_1, q_4, by rw [ht]; exact hP9, va_K.moved hW.alike hK9, hD9⟩, hS.F ht⟩) hS.2.2 dX4_init_28
theorem dX6_init_0 : decode cX6_init 0 = .ok (.aload_n 0, 1) := by decide +kernel
theorem dX6_init_1 : decode cX6_init 1 = .ok (.invokespecial 3, 3) := by decide +kernel
theorem dX6_init_4 : decode cX6_init 4 = .ok (.aload_n 0, 1) := by decide +kernel
theorem dX6_init_5 : decode cX6_init 5 = .ok (.bipush 18, 2) := by decide +kernel
theorem dX6_init_7 : decode cX6_init 7 = .ok (.newarray .int, 2) := by decide +kernel
theorem dX6_init_9 : decode cX6_init 9 = .ok (.putfield 11, 3) := by decide +kernel
theorem dX6_init_12 : decode cX6_init 12 = .ok (.aload_n 0, 1) := by decide +kernel
theorem dX6_init_13 : decode cX6_init 13 = .ok (.bipush 18, 2) := by decide +kernel
theorem dX6_init_15 : decode cX6_init 15 = .ok (.newarray .int, 2) := by decide +kernel
theorem dX6_init_17 : decode cX6_init 17 = .ok (.putfield 15, 3) := by decide +kernel
theorem dX6_init_20 : decode cX6_init 20 = .ok (.aload_n 0, 1) := by decide +kernel
theorem dX6_init_21 : decode cX6_init 21 = .ok (.bipush 18, 2) := by decide +kernel
theorem dX6_init_23 : decode cX6_init 23 = .ok (.newarray .boolean, 2) := by decide +kernel
theorem dX6_init_25 : decode cX6_init 25 = .ok (.putfield 18, 3) := by decide +kernel
theorem dX6_init_28 : decode cX6_init 28 = .ok (.return_, 1) := by decide +kernel
def mwX6_init : List Cond := .code yX6_init cX6_init 1 none :: ([.methodLink RX6 3 objectInit, .instanceMethod objectInit, .code objectInit ⟨#[0xb1]⟩ 1 none, .arrayClass .int, .fieldLink RX6 11 "PatternGate$Reader" "begins" "[I", .fieldLink RX6 15 "PatternGate$Reader" "ends" "[I", .arrayClass .boolean, .fieldLink RX6 18 "PatternGate$Reader" "isPattern" "[Z"] ++ wsX60)
theorem fin_X6_init_X6 : ∀ w ∈ wsX60, w ∈ mwX6_init := fun w h => List.mem_cons_of_mem _ (List.mem_append_right _ h)
set_option maxHeartbeats 4000000 in
set_option maxRecDepth 100000 in
/-- Reader() -/
theorem c_Reader (l : Launch) (dC : Nat → ClassId) (dI : Nat → Nat → Nat) (nb sz : Nat) : Met l yX6_init mwX6_init ({ frames := 1, cells := 3, slots := 54, locals := 60 }) (va_Pc [.ref nb] (fun U => U.heap.size = sz ∧ va_P (dC, dI) vwCl ([(nb, .inr (6, [.int 0, .int 0, .int 0, .int 0, .int 0, .null, .null, .null, .int 0, .int 0, .int 0]))]) U.heap ∧ va_K (dC, dI) vwCl ([]) U ∧ va_D (fun _ => True) ([(nb, .inr (6, [.int 0, .int 0, .int 0, .int 0, .int 0, .null, .null, .null, .int 0, .int 0, .int 0]))]))) (va_Qv (fun (_ : Unit) => True) (fun _ t => ∃ r : Nat → Nat, va_P (dC, dI) vwCl [(nb, .inr (6, rF r 0 0 0 0 0 0 0 0))] t.heap ∧ va_K (dC, dI) vwCl [] t ∧ va_D (va_A ([(nb, .inr (6, [.int 0, .int 0, .int 0, .int 0, .int 0, .null, .null, .null, .int 0, .int 0, .int 0]))]) sz) [(nb, .inr (6, rF r 0 0 0 0 0 0 0 0))]) (va_A ([(nb, .inr (6, [.int 0, .int 0, .int 0, .int 0, .int 0, .null, .null, .null, .int 0, .int 0, .int 0]))]) sz)) 3 54 (va_A ([(nb, .inr (6, [.int 0, .int 0, .int 0, .int 0, .int 0, .null, .null, .null, .int 0, .int 0, .int 0]))]) sz) := by
  refine Met.ofW (cc := cX6_init) (maxL := 1) (ret := none) (by decide +kernel) rfl ?_
  intro p e s m args below meth c s₁ B hml hv
  obtain ⟨rfl, hsz, hP, hK, hD0⟩ := hv
  have hx := B.exec
  have hb := B.bytes
  have hr := B.returns
  have hts := atoms_spec (ws := mwX6_init) B.pre
  have hown : s.vm.findClass RX6 = some m.cls := findClass_of_methodNamed B.named
  have hlocks := B.notSynchronized
  have hin : meth.name = "<init>" := (name_of_methodNamed B.named B.method).1
  subst hsz
  have hD := hD0.self (sz := s.heap.size)
  generalize hAe : va_A ([(nb, .inr (6, [.int 0, .int 0, .int 0, .int 0, .int 0, .null, .null, .null, .int 0, .int 0, .int 0]))]) s.heap.size = A at hD ⊢
  have hA : ∀ q : Nat, s.heap.size ≤ q → A q := fun q h => by rw [← hAe]; exact Or.inr h
  have hP : va_P (dC, dI) vwCl [(nb, .inr (6, [.int 0, .int 0, .int 0, .int 0, .int 0, .null, .null, .null, .int 0, .int 0, .int 0]))] s.heap := hP
  have hD : va_D A [(nb, .inr (6, [.int 0, .int 0, .int 0, .int 0, .int 0, .null, .null, .null, .int 0, .int 0, .int 0]))] := hD
  have hK : va_K (dC, dI) vwCl [] s := hK
  generalize hH : s.heap = H at hP ⊢
  have hS : va_S A s.heap H [] := by rw [← hH]; exact va_S.rf
  have hl := lv_entry ([.ref nb]) (n := 1) (Nat.le_of_ble_eq_true rfl)
  rw [lg_entry_eq]
  generalize (lg_sl ([.ref nb]) ++ List.replicate (1 - (lg_sl ([.ref nb])).length) Slot.unset).toArray = ls at hl ⊢
  have hl : lv_has ls 1 [(0, .ref nb)] := hl
  refine lv_aload_n hx hb dX6_init_0 rfl (lv_at hl 0 rfl) ?_
  refine W.objInit hx hb hown (hts (.methodLink RX6 3 objectInit) (List.mem_of_getElem? (i := 1) (by decide +kernel))) (hts (.instanceMethod objectInit) (List.mem_of_getElem? (i := 2) (by decide +kernel))) (hts (.code objectInit ⟨#[0xb1]⟩ 1 none) (List.mem_of_getElem? (i := 3) (by decide +kernel))) rfl (by rw [hml]; exact hl.1) rfl dX6_init_1 (Nat.le_of_ble_eq_true rfl) (Nat.le_of_ble_eq_true rfl) ?_
  refine W.eq (g2 := F0 m 4 ls []) rfl ?_
  refine lv_aload_n hx hb dX6_init_4 rfl (lv_at hl 0 rfl) ?_
  refine lv_bipush (v := 18) hx hb dX6_init_5 (by decide) ?_
  refine va_newa (atype := .int) (ty := .int) (n := 18) (N' := 18) (a0 := (18, .inl (fun _ => 0))) hx hb (hts (.arrayClass .int) (List.mem_of_getElem? (i := 4) (by decide +kernel))) rfl hK hP hD hS hA (fun _ => rfl) (by decide) (by decide) (Nat.le_of_ble_eq_true rfl) (Nat.le_of_ble_eq_true rfl) (Nat.le_of_ble_eq_true rfl) dX6_init_7 (fun q_1 c_2 H hK hP hD hS => ?_)
  have hP : va_P (dC, dI) vwCl [(nb, .inr (6, [.int 0, .int 0, .int 0, .int 0, .int 0, .null, .null, .null, .int 0, .int 0, .int 0])), (q_1, .inl (c_2, 18, .inl (fun _ => 0)))] H := hP
  have hD : va_D A [(nb, .inr (6, [.int 0, .int 0, .int 0, .int 0, .int 0, .null, .null, .null, .int 0, .int 0, .int 0])), (q_1, .inl (c_2, 18, .inl (fun _ => 0)))] := hD
  have hK : va_K (dC, dI) vwCl [(c_2, .int)] s := hK
  refine W.widen (k := 1) (n := 18) (by omega) (by omega) ?_
  refine va_putF (D := (dC, dI)) (ci := 6) (v := .ref q_1) (ty := .array .int) (C := RX6) (T := TX6) (N := 11) hx hb hts fin_X6_init_X6 tyX6 tyX6_ok nmX6 hown hK hP hD hS 0 rfl rfl 5 (by decide) (hts (.fieldLink RX6 11 "PatternGate$Reader" "begins" "[I") (List.mem_of_getElem? (i := 5) (by decide +kernel))) (fun _ h9 => h9) rfl hin rfl (by decide +kernel) rfl rfl (Nat.le_of_ble_eq_true rfl) dX6_init_9 (fun H locs hP hD hS => ?_)
  have hP : va_P (dC, dI) vwCl [(nb, .inr (6, [.int 0, .int 0, .int 0, .int 0, .int 0, .ref q_1, .null, .null, .int 0, .int 0, .int 0])), (q_1, .inl (c_2, 18, .inl (fun _ => 0)))] H := hP
  have hD : va_D A [(nb, .inr (6, [.int 0, .int 0, .int 0, .int 0, .int 0, .ref q_1, .null, .null, .int 0, .int 0, .int 0])), (q_1, .inl (c_2, 18, .inl (fun _ => 0)))] := hD
  refine lv_aload_n hx hb dX6_init_12 rfl (lv_at hl 0 rfl) ?_
  refine lv_bipush (v := 18) hx hb dX6_init_13 (by decide) ?_
  refine va_newa (atype := .int) (ty := .int) (n := 18) (N' := 18) (a0 := (18, .inl (fun _ => 0))) hx hb (hts (.arrayClass .int) (List.mem_of_getElem? (i := 4) (by decide +kernel))) rfl hK hP hD hS hA (fun _ => rfl) (by decide) (by decide) (Nat.le_of_ble_eq_true rfl) (Nat.le_of_ble_eq_true rfl) (Nat.le_of_ble_eq_true rfl) dX6_init_15 (fun q_3 c_4 H hK hP hD hS => ?_)
  have hP : va_P (dC, dI) vwCl [(nb, .inr (6, [.int 0, .int 0, .int 0, .int 0, .int 0, .ref q_1, .null, .null, .int 0, .int 0, .int 0])), (q_1, .inl (c_2, 18, .inl (fun _ => 0))), (q_3, .inl (c_4, 18, .inl (fun _ => 0)))] H := hP
  have hD : va_D A [(nb, .inr (6, [.int 0, .int 0, .int 0, .int 0, .int 0, .ref q_1, .null, .null, .int 0, .int 0, .int 0])), (q_1, .inl (c_2, 18, .inl (fun _ => 0))), (q_3, .inl (c_4, 18, .inl (fun _ => 0)))] := hD
  have hK : va_K (dC, dI) vwCl [(c_2, .int), (c_4, .int)] s := hK
  refine W.widen (k := 2) (n := 36) (by omega) (by omega) ?_
  refine va_putF (D := (dC, dI)) (ci := 6) (v := .ref q_3) (ty := .array .int) (C := RX6) (T := TX6) (N := 11) hx hb hts fin_X6_init_X6 tyX6 tyX6_ok nmX6 hown hK hP hD hS 0 rfl rfl 6 (by decide) (hts (.fieldLink RX6 15 "PatternGate$Reader" "ends" "[I") (List.mem_of_getElem? (i := 6) (by decide +kernel))) (fun _ h9 => h9) rfl hin rfl (by decide +kernel) rfl rfl (Nat.le_of_ble_eq_true rfl) dX6_init_17 (fun H locs hP hD hS => ?_)
  have hP : va_P (dC, dI) vwCl [(nb, .inr (6, [.int 0, .int 0, .int 0, .int 0, .int 0, .ref q_1, .ref q_3, .null, .int 0, .int 0, .int 0])), (q_1, .inl (c_2, 18, .inl (fun _ => 0))), (q_3, .inl (c_4, 18, .inl (fun _ => 0)))] H := hP
  have hD : va_D A [(nb, .inr (6, [.int 0, .int 0, .int 0, .int 0, .int 0, .ref q_1, .ref q_3, .null, .int 0, .int 0, .int 0])), (q_1, .inl (c_2, 18, .inl (fun _ => 0))), (q_3, .inl (c_4, 18, .inl (fun _ => 0)))] := hD
  refine lv_aload_n hx hb dX6_init_20 rfl (lv_at hl 0 rfl) ?_
  refine lv_bipush (v := 18) hx hb dX6_init_21 (by decide) ?_
  refine va_newa (atype := .boolean) (ty := .boolean) (n := 18) (N' := 18) (a0 := (18, .inl (fun _ => 0))) hx hb (hts (.arrayClass .boolean) (List.mem_of_getElem? (i := 7) (by decide +kernel))) rfl hK hP hD hS hA (fun _ => rfl) (by decide) (by decide) (Nat.le_of_ble_eq_true rfl) (Nat.le_of_ble_eq_true rfl) (Nat.le_of_ble_eq_true rfl) dX6_init_23 (fun q_5 c_6 H hK hP hD hS => ?_)
  have hP : va_P (dC, dI) vwCl [(nb, .inr (6, [.int 0, .int 0, .int 0, .int 0, .int 0, .ref q_1, .ref q_3, .null, .int 0, .int 0, .int 0])), (q_1, .inl (c_2, 18, .inl (fun _ => 0))), (q_3, .inl (c_4, 18, .inl (fun _ => 0))), (q_5, .inl (c_6, 18, .inl (fun _ => 0)))] H := hP
  have hD : va_D A [(nb, .inr (6, [.int 0, .int 0, .int 0, .int 0, .int 0, .ref q_1, .ref q_3, .null, .int 0, .int 0, .int 0])), (q_1, .inl (c_2, 18, .inl (fun _ => 0))), (q_3, .inl (c_4, 18, .inl (fun _ => 0))), (q_5, .inl (c_6, 18, .inl (fun _ => 0)))] := hD
  have hK : va_K (dC, dI) vwCl [(c_2, .int), (c_4, .int), (c_6, .boolean)] s := hK
  refine W.widen (k := 3) (n := 54) (by omega) (by omega) ?_
  refine va_putF (D := (dC, dI)) (ci := 6) (v := .ref q_5) (ty := .array .boolean) (C := RX6) (T := TX6) (N := 11) hx hb hts fin_X6_init_X6 tyX6 tyX6_ok nmX6 hown hK hP hD hS 0 rfl rfl 7 (by decide) (hts (.fieldLink RX6 18 "PatternGate$Reader" "isPattern" "[Z") (List.mem_of_getElem? (i := 8) (by decide +kernel))) (fun _ h9 => h9) rfl hin rfl (by decide +kernel) rfl rfl (Nat.le_of_ble_eq_true rfl) dX6_init_25 (fun H locs hP hD hS => ?_)
  have hP : va_P (dC, dI) vwCl [(nb, .inr (6, [.int 0, .int 0, .int 0, .int 0, .int 0, .ref q_1, .ref q_3, .ref q_5, .int 0, .int 0, .int 0])), (q_1, .inl (c_2, 18, .inl (fun _ => 0))), (q_3, .inl (c_4, 18, .inl (fun _ => 0))), (q_5, .inl (c_6, 18, .inl (fun _ => 0)))] H := hP
  have hD : va_D A [(nb, .inr (6, [.int 0, .int 0, .int 0, .int 0, .int 0, .ref q_1, .ref q_3, .ref q_5, .int 0, .int 0, .int 0])), (q_1, .inl (c_2, 18, .inl (fun _ => 0))), (q_3, .inl (c_4, 18, .inl (fun _ => 0))), (q_5, .inl (c_6, 18, .inl (fun _ => 0)))] := hD
  refine W.widen (k := 3) (n := 54) (by omega) (by omega) ?_
  have hP9 := hP.sub (ws' := [(nb, .inr (6, [.int 0, .int 0, .int 0, .int 0, .int 0, .ref q_1, .ref q_3, .ref q_5, .int 0, .int 0, .int 0]))]) [0] rfl
  have hD9 := hD.sub (ws' := [(nb, .inr (6, [.int 0, .int 0, .int 0, .int 0, .int 0, .ref q_1, .ref q_3, .ref q_5, .int 0, .int 0, .int 0]))]) [0] (by decide) rfl
  have hK9 := hK.sub (tys' := []) [] rfl
  exact W.vret hx hb hr (fun t ht hW => ⟨⟨(), rfl, trivial, fun k => [q_1, q_3, q_5].getD k 0, by rw [ht]; exact hP9, va_K.moved hW.alike hK9, hD9⟩, hS.F ht⟩) hS.2.2 dX6_init_28
theorem dX1_init_0 : decode cX1_init 0 = .ok (.aload_n 0, 1) := by decide +kernel
theorem dX1_init_1 : decode cX1_init 1 = .ok (.invokespecial 3, 3) := by decide +kernel
theorem dX1_init_4 : decode cX1_init 4 = .ok (.aload_n 0, 1) := by decide +kernel
theorem dX1_init_5 : decode cX1_init 5 = .ok (.bipush 6, 2) := by decide +kernel
theorem dX1_init_7 : decode cX1_init 7 = .ok (.anewarray 9, 3) := by decide +kernel
theorem dX1_init_10 : decode cX1_init 10 = .ok (.putfield 11, 3) := by decide +kernel
theorem dX1_init_13 : decode cX1_init 13 = .ok (.aload_n 0, 1) := by decide +kernel
theorem dX1_init_14 : decode cX1_init 14 = .ok (.bipush 6, 2) := by decide +kernel
theorem dX1_init_16 : decode cX1_init 16 = .ok (.anewarray 9, 3) := by decide +kernel
theorem dX1_init_19 : decode cX1_init 19 = .ok (.putfield 17, 3) := by decide +kernel
theorem dX1_init_22 : decode cX1_init 22 = .ok (.aload_n 0, 1) := by decide +kernel
theorem dX1_init_23 : decode cX1_init 23 = .ok (.bipush 6, 2) := by decide +kernel
theorem dX1_init_25 : decode cX1_init 25 = .ok (.newarray .boolean, 2) := by decide +kernel
theorem dX1_init_27 : decode cX1_init 27 = .ok (.putfield 20, 3) := by decide +kernel
theorem dX1_init_30 : decode cX1_init 30 = .ok (.aload_n 0, 1) := by decide +kernel
theorem dX1_init_31 : decode cX1_init 31 = .ok (.new 9, 3) := by decide +kernel
theorem dX1_init_34 : decode cX1_init 34 = .ok (.dup, 1) := by decide +kernel
theorem dX1_init_35 : decode cX1_init 35 = .ok (.invokespecial 24, 3) := by decide +kernel
theorem dX1_init_38 : decode cX1_init 38 = .ok (.putfield 25, 3) := by decide +kernel
theorem dX1_init_41 : decode cX1_init 41 = .ok (.aload_n 0, 1) := by decide +kernel
theorem dX1_init_42 : decode cX1_init 42 = .ok (.new 29, 3) := by decide +kernel
theorem dX1_init_45 : decode cX1_init 45 = .ok (.dup, 1) := by decide +kernel
theorem dX1_init_46 : decode cX1_init 46 = .ok (.invokespecial 31, 3) := by decide +kernel
theorem dX1_init_49 : decode cX1_init 49 = .ok (.putfield 32, 3) := by decide +kernel
theorem dX1_init_52 : decode cX1_init 52 = .ok (.aload_n 0, 1) := by decide +kernel
theorem dX1_init_53 : decode cX1_init 53 = .ok (.new 36, 3) := by decide +kernel
theorem dX1_init_56 : decode cX1_init 56 = .ok (.dup, 1) := by decide +kernel
theorem dX1_init_57 : decode cX1_init 57 = .ok (.bipush 6, 2) := by decide +kernel
theorem dX1_init_59 : decode cX1_init 59 = .ok (.invokespecial 38, 3) := by decide +kernel
theorem dX1_init_62 : decode cX1_init 62 = .ok (.putfield 41, 3) := by decide +kernel
theorem dX1_init_65 : decode cX1_init 65 = .ok (.aload_n 0, 1) := by decide +kernel
theorem dX1_init_66 : decode cX1_init 66 = .ok (.new 36, 3) := by decide +kernel
theorem dX1_init_69 : decode cX1_init 69 = .ok (.dup, 1) := by decide +kernel
theorem dX1_init_70 : decode cX1_init 70 = .ok (.sipush 144, 3) := by decide +kernel
theorem dX1_init_73 : decode cX1_init 73 = .ok (.invokespecial 38, 3) := by decide +kernel
theorem dX1_init_76 : decode cX1_init 76 = .ok (.putfield 45, 3) := by decide +kernel
theorem dX1_init_79 : decode cX1_init 79 = .ok (.aload_n 0, 1) := by decide +kernel
theorem dX1_init_80 : decode cX1_init 80 = .ok (.bipush 24, 2) := by decide +kernel
theorem dX1_init_82 : decode cX1_init 82 = .ok (.newarray .int, 2) := by decide +kernel
theorem dX1_init_84 : decode cX1_init 84 = .ok (.putfield 48, 3) := by decide +kernel
theorem dX1_init_87 : decode cX1_init 87 = .ok (.aload_n 0, 1) := by decide +kernel
theorem dX1_init_88 : decode cX1_init 88 = .ok (.bipush 24, 2) := by decide +kernel
theorem dX1_init_90 : decode cX1_init 90 = .ok (.newarray .int, 2) := by decide +kernel
theorem dX1_init_92 : decode cX1_init 92 = .ok (.putfield 52, 3) := by decide +kernel
theorem dX1_init_95 : decode cX1_init 95 = .ok (.aload_n 0, 1) := by decide +kernel
theorem dX1_init_96 : decode cX1_init 96 = .ok (.bipush 26, 2) := by decide +kernel
theorem dX1_init_98 : decode cX1_init 98 = .ok (.newarray .int, 2) := by decide +kernel
theorem dX1_init_100 : decode cX1_init 100 = .ok (.putfield 55, 3) := by decide +kernel
theorem dX1_init_103 : decode cX1_init 103 = .ok (.iconst 0, 1) := by decide +kernel
theorem dX1_init_104 : decode cX1_init 104 = .ok (.istore_n 1, 1) := by decide +kernel
theorem dX1_init_105 : decode cX1_init 105 = .ok (.iload_n 1, 1) := by decide +kernel
theorem dX1_init_106 : decode cX1_init 106 = .ok (.aload_n 0, 1) := by decide +kernel
theorem dX1_init_107 : decode cX1_init 107 = .ok (.getfield 11, 3) := by decide +kernel
theorem dX1_init_110 : decode cX1_init 110 = .ok (.arraylength, 1) := by decide +kernel
theorem dX1_init_111 : decode cX1_init 111 = .ok (.if_icmp .ge 35, 3) := by decide +kernel
theorem dX1_init_114 : decode cX1_init 114 = .ok (.aload_n 0, 1) := by decide +kernel
theorem dX1_init_115 : decode cX1_init 115 = .ok (.getfield 11, 3) := by decide +kernel
theorem dX1_init_118 : decode cX1_init 118 = .ok (.iload_n 1, 1) := by decide +kernel
theorem dX1_init_119 : decode cX1_init 119 = .ok (.new 9, 3) := by decide +kernel
theorem dX1_init_122 : decode cX1_init 122 = .ok (.dup, 1) := by decide +kernel
theorem dX1_init_123 : decode cX1_init 123 = .ok (.invokespecial 24, 3) := by decide +kernel
theorem dX1_init_126 : decode cX1_init 126 = .ok (.aastore, 1) := by decide +kernel
theorem dX1_init_127 : decode cX1_init 127 = .ok (.aload_n 0, 1) := by decide +kernel
theorem dX1_init_128 : decode cX1_init 128 = .ok (.getfield 17, 3) := by decide +kernel
theorem dX1_init_131 : decode cX1_init 131 = .ok (.iload_n 1, 1) := by decide +kernel
theorem dX1_init_132 : decode cX1_init 132 = .ok (.new 9, 3) := by decide +kernel
theorem dX1_init_135 : decode cX1_init 135 = .ok (.dup, 1) := by decide +kernel
theorem dX1_init_136 : decode cX1_init 136 = .ok (.invokespecial 24, 3) := by decide +kernel
theorem dX1_init_139 : decode cX1_init 139 = .ok (.aastore, 1) := by decide +kernel
theorem dX1_init_140 : decode cX1_init 140 = .ok (.iinc 1 1, 3) := by decide +kernel
theorem dX1_init_143 : decode cX1_init 143 = .ok (.goto (-38), 3) := by decide +kernel
theorem dX1_init_146 : decode cX1_init 146 = .ok (.return_, 1) := by decide +kernel
def mwX1_init : List Cond := .code yX1_init cX1_init 2 none :: ([.methodLink RX1 3 objectInit, .instanceMethod objectInit, .code objectInit ⟨#[0xb1]⟩ 1 none, .classLink RX1 9 RX4, .fieldLink RX1 11 "PatternGate$Compiler" "wholes" "[LPatternGate$Part;", .fieldLink RX1 17 "PatternGate$Compiler" "branches" "[LPatternGate$Part;", .arrayClass .boolean, .fieldLink RX1 20 "PatternGate$Compiler" "begun" "[Z", .instantiable RX4 8, .initialized RX4, .code yX4_init cX4_init 1 none, .methodLink RX4 3 objectInit, .classLink RX4 9 RX7, .instantiable RX7 2, .initialized RX7, .code yX7_init cX7_init 1 none, .methodLink RX7 5 objectInit, .arrayClass .long, .fieldLink RX7 11 "PatternGate$Rows" "row" "[J", .instanceMethod yX7_init, .fieldLink RX4 12 "PatternGate$Part" "rows" "LPatternGate$Rows;", .classLink RX4 18 RX3, .instantiable RX3 4, .initialized RX3, .code yX3_init cX3_init 2 none, .methodLink RX3 3 objectInit, .methodLink RX3 9 Lib.Math.max.name, .static Lib.Math.max.name, .initialized "java/lang/Math", .code Lib.Math.max.name Lib.Math.max.code 2 (some .int), .fieldLink RX3 15 "PatternGate$Need" "room" "I", .arrayClass .int, .fieldLink RX3 21 "PatternGate$Need" "triples" "[I", .fieldLink RX3 25 "PatternGate$Need" "sizes" "[I", .methodLink RX4 20 yX3_init, .instanceMethod yX3_init, .fieldLink RX4 23 "PatternGate$Part" "need" "LPatternGate$Need;", .instanceMethod yX4_init, .fieldLink RX1 25 "PatternGate$Compiler" "spot" "LPatternGate$Part;", .classLink RX1 29 RX7, .fieldLink RX1 32 "PatternGate$Compiler" "joined" "LPatternGate$Rows;", .classLink RX1 36 RX3, .methodLink RX1 38 yX3_init, .fieldLink RX1 41 "PatternGate$Compiler" "ofRows" "LPatternGate$Need;", .fieldLink RX1 45 "PatternGate$Compiler" "wide" "LPatternGate$Need;", .fieldLink RX1 48 "PatternGate$Compiler" "choice" "[I", .fieldLink RX1 52 "PatternGate$Compiler" "follow" "[I", .fieldLink RX1 55 "PatternGate$Compiler" "takers" "[I"] ++ wsX10 ++ wsX40 ++ wsX70 ++ wsX30)
theorem fin_X1_init_X1 : ∀ w ∈ wsX10, w ∈ mwX1_init := fun w h => List.mem_cons_of_mem _ (List.mem_append_left _ (List.mem_append_left _ (List.mem_append_left _ (List.mem_append_right _ h))))
theorem fin_X1_init_X3 : ∀ w ∈ wsX30, w ∈ mwX1_init := fun w h => List.mem_cons_of_mem _ (List.mem_append_right _ h)
theorem fin_X1_init_X4 : ∀ w ∈ wsX40, w ∈ mwX1_init := fun w h => List.mem_cons_of_mem _ (List.mem_append_left _ (List.mem_append_left _ (List.mem_append_right _ h)))
theorem fin_X1_init_X7 : ∀ w ∈ wsX70, w ∈ mwX1_init := fun w h => List.mem_cons_of_mem _ (List.mem_append_left _ (List.mem_append_right _ h))
set_option maxRecDepth 20000 in
theorem mg_X1_init_X4_init_24 : GoodIn mwX1_init mwX4_init := goodIn_r _ [11, 12, 2, 3, 13, 14, 15, 16, 17, 18, 19, 20, 21, 22, 23, 24, 25, 26, 27, 28, 29, 30, 31, 32, 33, 34, 35, 36, 37, 68, 69, 60, 61, 62, 63, 64, 65, 66, 67, 70, 71, 72, 73] (by decide +kernel) (by decide +kernel)
set_option maxRecDepth 20000 in
theorem mg_X1_init_X7_init_31 : GoodIn mwX1_init mwX7_init := goodIn_r _ [16, 17, 2, 3, 18, 19, 68, 69] (by decide +kernel) (by decide +kernel)
set_option maxRecDepth 20000 in
theorem mg_X1_init_X3_init_38 : GoodIn mwX1_init mwX3_initn6 := goodIn_r _ [25, 26, 2, 3, 27, 28, 29, 30, 31, 32, 33, 34, 70, 71, 72, 73] (by decide +kernel) (by decide +kernel)
set_option maxHeartbeats 4000000 in
set_option maxRecDepth 100000 in
/-- c_Compiler() -/
theorem c_Compiler (l : Launch) (dC : Nat → ClassId) (dI : Nat → Nat → Nat) (nb sz : Nat) : Met l yX1_init mwX1_init ({ frames := 3, cells := 100, slots := 9000, locals := 180 }) (va_Pc [.ref nb] (fun U => U.heap.size = sz ∧ va_P (dC, dI) vwCl ([(nb, .inr (1, [.null, .null, .null, .null, .null, .null, .null, .null, .null, .null, .int 0]))]) U.heap ∧ va_K (dC, dI) vwCl ([]) U ∧ va_D (fun _ => True) ([(nb, .inr (1, [.null, .null, .null, .null, .null, .null, .null, .null, .null, .null, .int 0]))]) ∧ va_AO "PatternGate$Part" U ∧ va_Nw (.methodLinkNest RX1 24 yX4_init "PatternGate") U ∧ va_Nw (.methodLinkNest RX1 31 yX7_init "PatternGate") U ∧ va_Nw (.methodLinkNest RX4 11 yX7_init "PatternGate") U)) (va_Qv (fun (_ : Unit) => True) (fun _ _ => True) (va_A ([(nb, .inr (1, [.null, .null, .null, .null, .null, .null, .null, .null, .null, .null, .int 0]))]) sz)) 100 9000 (va_A ([(nb, .inr (1, [.null, .null, .null, .null, .null, .null, .null, .null, .null, .null, .int 0]))]) sz) := by
  refine Met.ofW (cc := cX1_init) (maxL := 2) (ret := none) (by decide +kernel) rfl ?_
  intro p e s m args below meth c s₁ B hml hv
  obtain ⟨rfl, hsz, hP, hK, hD0, hAO4, hN24, hN31, hN11⟩ := hv
  have hx := B.exec
  have hb := B.bytes
  have hr := B.returns
  have hts := atoms_spec (ws := mwX1_init) B.pre
  have hown : s.vm.findClass RX1 = some m.cls := findClass_of_methodNamed B.named
  have hlocks := B.notSynchronized
  have hin : meth.name = "<init>" := (name_of_methodNamed B.named B.method).1
  subst hsz
  have hD := hD0.self (sz := s.heap.size)
  generalize hAe : va_A ([(nb, .inr (1, [.null, .null, .null, .null, .null, .null, .null, .null, .null, .null, .int 0]))]) s.heap.size = A at hD ⊢
  have hA : ∀ q : Nat, s.heap.size ≤ q → A q := fun q h => by rw [← hAe]; exact Or.inr h
  have hP : va_P (dC, dI) vwCl [(nb, .inr (1, [.null, .null, .null, .null, .null, .null, .null, .null, .null, .null, .int 0]))] s.heap := hP
  have hD : va_D A [(nb, .inr (1, [.null, .null, .null, .null, .null, .null, .null, .null, .null, .null, .int 0]))] := hD
  have hK : va_K (dC, dI) vwCl [] s := hK
  generalize hH : s.heap = H at hP ⊢
  have hS : va_S A s.heap H [] := by rw [← hH]; exact va_S.rf
  have hl := lv_entry ([.ref nb]) (n := 2) (Nat.le_of_ble_eq_true rfl)
  rw [lg_entry_eq]
  generalize (lg_sl ([.ref nb]) ++ List.replicate (2 - (lg_sl ([.ref nb])).length) Slot.unset).toArray = ls at hl ⊢
  have hl : lv_has ls 2 [(0, .ref nb)] := hl
  refine lv_aload_n hx hb dX1_init_0 rfl (lv_at hl 0 rfl) ?_
  refine W.objInit hx hb hown (hts (.methodLink RX1 3 objectInit) (List.mem_of_getElem? (i := 1) (by decide +kernel))) (hts (.instanceMethod objectInit) (List.mem_of_getElem? (i := 2) (by decide +kernel))) (hts (.code objectInit ⟨#[0xb1]⟩ 1 none) (List.mem_of_getElem? (i := 3) (by decide +kernel))) rfl (by rw [hml]; exact hl.1) rfl dX1_init_1 (Nat.le_of_ble_eq_true rfl) (Nat.le_of_ble_eq_true rfl) ?_
  refine W.eq (g2 := F0 m 4 ls []) rfl ?_
  refine lv_aload_n hx hb dX1_init_4 rfl (lv_at hl 0 rfl) ?_
  refine lv_bipush (v := 6) hx hb dX1_init_5 (by decide) ?_
  refine va_newq (C := "PatternGate$Part") (n := 6) (N' := 6) hx hb hown (hts (.classLink RX1 9 RX4) (List.mem_of_getElem? (i := 4) (by decide +kernel))) hAO4 hK hP hD hS hA (by decide) (by decide) (Nat.le_of_ble_eq_true rfl) (Nat.le_of_ble_eq_true rfl) (Nat.le_of_ble_eq_true rfl) dX1_init_7 (fun q_1 c_2 H hK hP hD hS => ?_)
  have hP : va_P (dC, dI) vwCl [(nb, .inr (1, [.null, .null, .null, .null, .null, .null, .null, .null, .null, .null, .int 0])), (q_1, .inl (c_2, 6, .inr (.inr (.inr (.inr (fun _ => none))))))] H := hP
  have hD : va_D A [(nb, .inr (1, [.null, .null, .null, .null, .null, .null, .null, .null, .null, .null, .int 0])), (q_1, .inl (c_2, 6, .inr (.inr (.inr (.inr (fun _ => none))))))] := hD
  have hK : va_K (dC, dI) vwCl [(c_2, .object "PatternGate$Part")] s := hK
  refine W.widen (k := 1) (n := 6) (by omega) (by omega) ?_
  refine va_putF (D := (dC, dI)) (ci := 1) (v := .ref q_1) (ty := .array (.object "PatternGate$Part")) (C := RX1) (T := TX1) (N := 11) hx hb hts fin_X1_init_X1 tyX1 tyX1_ok nmX1 hown hK hP hD hS 0 rfl rfl 0 (by decide) (hts (.fieldLink RX1 11 "PatternGate$Compiler" "wholes" "[LPatternGate$Part;") (List.mem_of_getElem? (i := 5) (by decide +kernel))) (fun _ h9 => h9) rfl hin rfl (by decide +kernel) rfl rfl (Nat.le_of_ble_eq_true rfl) dX1_init_10 (fun H locs hP hD hS => ?_)
  have hP : va_P (dC, dI) vwCl [(nb, .inr (1, [.ref q_1, .null, .null, .null, .null, .null, .null, .null, .null, .null, .int 0])), (q_1, .inl (c_2, 6, .inr (.inr (.inr (.inr (fun _ => none))))))] H := hP
  have hD : va_D A [(nb, .inr (1, [.ref q_1, .null, .null, .null, .null, .null, .null, .null, .null, .null, .int 0])), (q_1, .inl (c_2, 6, .inr (.inr (.inr (.inr (fun _ => none))))))] := hD
  refine lv_aload_n hx hb dX1_init_13 rfl (lv_at hl 0 rfl) ?_
  refine lv_bipush (v := 6) hx hb dX1_init_14 (by decide) ?_
  refine va_newq (C := "PatternGate$Part") (n := 6) (N' := 6) hx hb hown (hts (.classLink RX1 9 RX4) (List.mem_of_getElem? (i := 4) (by decide +kernel))) hAO4 hK hP hD hS hA (by decide) (by decide) (Nat.le_of_ble_eq_true rfl) (Nat.le_of_ble_eq_true rfl) (Nat.le_of_ble_eq_true rfl) dX1_init_16 (fun q_3 c_4 H hK hP hD hS => ?_)
  have hP : va_P (dC, dI) vwCl [(nb, .inr (1, [.ref q_1, .null, .null, .null, .null, .null, .null, .null, .null, .null, .int 0])), (q_1, .inl (c_2, 6, .inr (.inr (.inr (.inr (fun _ => none)))))), (q_3, .inl (c_4, 6, .inr (.inr (.inr (.inr (fun _ => none))))))] H := hP
  have hD : va_D A [(nb, .inr (1, [.ref q_1, .null, .null, .null, .null, .null, .null, .null, .null, .null, .int 0])), (q_1, .inl (c_2, 6, .inr (.inr (.inr (.inr (fun _ => none)))))), (q_3, .inl (c_4, 6, .inr (.inr (.inr (.inr (fun _ => none))))))] := hD
  have hK : va_K (dC, dI) vwCl [(c_2, .object "PatternGate$Part"), (c_4, .object "PatternGate$Part")] s := hK
  refine W.widen (k := 2) (n := 12) (by omega) (by omega) ?_
  refine va_putF (D := (dC, dI)) (ci := 1) (v := .ref q_3) (ty := .array (.object "PatternGate$Part")) (C := RX1) (T := TX1) (N := 11) hx hb hts fin_X1_init_X1 tyX1 tyX1_ok nmX1 hown hK hP hD hS 0 rfl rfl 1 (by decide) (hts (.fieldLink RX1 17 "PatternGate$Compiler" "branches" "[LPatternGate$Part;") (List.mem_of_getElem? (i := 6) (by decide +kernel))) (fun _ h9 => h9) rfl hin rfl (by decide +kernel) rfl rfl (Nat.le_of_ble_eq_true rfl) dX1_init_19 (fun H locs hP hD hS => ?_)
  have hP : va_P (dC, dI) vwCl [(nb, .inr (1, [.ref q_1, .ref q_3, .null, .null, .null, .null, .null, .null, .null, .null, .int 0])), (q_1, .inl (c_2, 6, .inr (.inr (.inr (.inr (fun _ => none)))))), (q_3, .inl (c_4, 6, .inr (.inr (.inr (.inr (fun _ => none))))))] H := hP
  have hD : va_D A [(nb, .inr (1, [.ref q_1, .ref q_3, .null, .null, .null, .null, .null, .null, .null, .null, .int 0])), (q_1, .inl (c_2, 6, .inr (.inr (.inr (.inr (fun _ => none)))))), (q_3, .inl (c_4, 6, .inr (.inr (.inr (.inr (fun _ => none))))))] := hD
  refine lv_aload_n hx hb dX1_init_22 rfl (lv_at hl 0 rfl) ?_
  refine lv_bipush (v := 6) hx hb dX1_init_23 (by decide) ?_
  refine va_newa (atype := .boolean) (ty := .boolean) (n := 6) (N' := 6) (a0 := (6, .inl (fun _ => 0))) hx hb (hts (.arrayClass .boolean) (List.mem_of_getElem? (i := 7) (by decide +kernel))) rfl hK hP hD hS hA (fun _ => rfl) (by decide) (by decide) (Nat.le_of_ble_eq_true rfl) (Nat.le_of_ble_eq_true rfl) (Nat.le_of_ble_eq_true rfl) dX1_init_25 (fun q_5 c_6 H hK hP hD hS => ?_)
  have hP : va_P (dC, dI) vwCl [(nb, .inr (1, [.ref q_1, .ref q_3, .null, .null, .null, .null, .null, .null, .null, .null, .int 0])), (q_1, .inl (c_2, 6, .inr (.inr (.inr (.inr (fun _ => none)))))), (q_3, .inl (c_4, 6, .inr (.inr (.inr (.inr (fun _ => none)))))), (q_5, .inl (c_6, 6, .inl (fun _ => 0)))] H := hP
  have hD : va_D A [(nb, .inr (1, [.ref q_1, .ref q_3, .null, .null, .null, .null, .null, .null, .null, .null, .int 0])), (q_1, .inl (c_2, 6, .inr (.inr (.inr (.inr (fun _ => none)))))), (q_3, .inl (c_4, 6, .inr (.inr (.inr (.inr (fun _ => none)))))), (q_5, .inl (c_6, 6, .inl (fun _ => 0)))] := hD
  have hK : va_K (dC, dI) vwCl [(c_2, .object "PatternGate$Part"), (c_4, .object "PatternGate$Part"), (c_6, .boolean)] s := hK
  refine W.widen (k := 3) (n := 18) (by omega) (by omega) ?_
  refine va_putF (D := (dC, dI)) (ci := 1) (v := .ref q_5) (ty := .array .boolean) (C := RX1) (T := TX1) (N := 11) hx hb hts fin_X1_init_X1 tyX1 tyX1_ok nmX1 hown hK hP hD hS 0 rfl rfl 2 (by decide) (hts (.fieldLink RX1 20 "PatternGate$Compiler" "begun" "[Z") (List.mem_of_getElem? (i := 8) (by decide +kernel))) (fun _ h9 => h9) rfl hin rfl (by decide +kernel) rfl rfl (Nat.le_of_ble_eq_true rfl) dX1_init_27 (fun H locs hP hD hS => ?_)
  have hP : va_P (dC, dI) vwCl [(nb, .inr (1, [.ref q_1, .ref q_3, .ref q_5, .null, .null, .null, .null, .null, .null, .null, .int 0])), (q_1, .inl (c_2, 6, .inr (.inr (.inr (.inr (fun _ => none)))))), (q_3, .inl (c_4, 6, .inr (.inr (.inr (.inr (fun _ => none)))))), (q_5, .inl (c_6, 6, .inl (fun _ => 0)))] H := hP
  have hD : va_D A [(nb, .inr (1, [.ref q_1, .ref q_3, .ref q_5, .null, .null, .null, .null, .null, .null, .null, .int 0])), (q_1, .inl (c_2, 6, .inr (.inr (.inr (.inr (fun _ => none)))))), (q_3, .inl (c_4, 6, .inr (.inr (.inr (.inr (fun _ => none)))))), (q_5, .inl (c_6, 6, .inl (fun _ => 0)))] := hD
  refine lv_aload_n hx hb dX1_init_30 rfl (lv_at hl 0 rfl) ?_
  refine va_new (ci := 4) (fs := [.null, .null, .int 0, .int 0, .int 0, .int 0, .int 0, .int 0]) (C := RX4) (T := TX4) (N := 8) hx hb hts fin_X1_init_X4 tyX4 tyX4_ok hown (hts (.classLink RX1 9 RX4) (List.mem_of_getElem? (i := 4) (by decide +kernel))) (hts (.instantiable RX4 8) (List.mem_of_getElem? (i := 9) (by decide +kernel))) (hts (.initialized RX4) (List.mem_of_getElem? (i := 10) (by decide +kernel))) hK hP hD hS hA rfl (fun j hj => by rcases (show j = 0 ∨ j = 1 ∨ j = 2 ∨ j = 3 ∨ j = 4 ∨ j = 5 ∨ j = 6 ∨ j = 7 by omega) with rfl | rfl | rfl | rfl | rfl | rfl | rfl | rfl <;> rfl) (Nat.le_of_ble_eq_true rfl) (Nat.le_of_ble_eq_true rfl) dX1_init_31 (fun q_7 H hP hD hS => ?_)
  have hP : va_P (dC, dI) vwCl [(nb, .inr (1, [.ref q_1, .ref q_3, .ref q_5, .null, .null, .null, .null, .null, .null, .null, .int 0])), (q_1, .inl (c_2, 6, .inr (.inr (.inr (.inr (fun _ => none)))))), (q_3, .inl (c_4, 6, .inr (.inr (.inr (.inr (fun _ => none)))))), (q_5, .inl (c_6, 6, .inl (fun _ => 0))), (q_7, .inr (4, [.null, .null, .int 0, .int 0, .int 0, .int 0, .int 0, .int 0]))] H := hP
  have hD : va_D A [(nb, .inr (1, [.ref q_1, .ref q_3, .ref q_5, .null, .null, .null, .null, .null, .null, .null, .int 0])), (q_1, .inl (c_2, 6, .inr (.inr (.inr (.inr (fun _ => none)))))), (q_3, .inl (c_4, 6, .inr (.inr (.inr (.inr (fun _ => none)))))), (q_5, .inl (c_6, 6, .inl (fun _ => 0))), (q_7, .inr (4, [.null, .null, .int 0, .int 0, .int 0, .int 0, .int 0, .int 0]))] := hD
  refine W.widen (k := 4) (n := 26) (by omega) (by omega) ?_
  refine lv_dup hx hb dX1_init_34 rfl ?_
  have hPc := hP.sub (ws' := [(q_7, .inr (4, [.null, .null, .int 0, .int 0, .int 0, .int 0, .int 0, .int 0]))]) [4] rfl
  have hKc := hK.sub (tys' := []) [] rfl
  have hDc := hD.sub (ws' := [(q_7, .inr (4, [.null, .null, .int 0, .int 0, .int 0, .int 0, .int 0, .int 0]))]) [4] (by decide) rfl
  have hFc := va_free (wc := [(q_7, .inr (4, [.null, .null, .int 0, .int 0, .int 0, .int 0, .int 0, .int 0]))]) hD hS hA [4] rfl
  refine va_callv (va_runIN (As := []) (rest := [.ref q_7, .ref nb]) ⟨hx, hb, hml, hown, hts⟩ (c_Part l dC dI q_7 H.size) ⟨va_cnB 0 hts mg_X1_init_X4_init_24 rfl rfl rfl hN24 (hts (.initialized RX4) (List.mem_of_getElem? (i := 10) (by decide +kernel))) (by decide +kernel) ⟨Nat.le_of_ble_eq_true rfl, Nat.le_of_ble_eq_true rfl⟩, rfl, (hts (.instanceMethod yX4_init) (List.mem_of_getElem? (i := 38) (by decide +kernel)))⟩ ⟨fun a U g mk q => by obtain ⟨q0, q1, qP, qK, qD, qE0⟩ := q; exact ⟨q0, q1, qP, va_K.moved (u := U) (U := U.calling g mk a) (Vm.Alike.refl U.vm) qK, qD, va_Nw.same rfl (rfl : U.vm = (U.calling g mk a).vm) qE0⟩, fun U hU hW => ⟨rfl, by rw [hU], by rw [hU]; exact hPc, va_K.moved hW.alike hKc, hDc.weaken (fun _ _ _ _ => trivial), va_Nw.warmM hW hN11⟩⟩ rfl rfl hl.1 rfl (lv_room (Nat.le_of_ble_eq_true rfl)) dX1_init_35 ⟨Nat.le_of_ble_eq_true rfl, Nat.le_of_ble_eq_true rfl⟩) hS (fun q _ h => hFc q h) hFc (fun u t H1 locs ht hvm hw hB hz1 hk1 hS => ?_)
  obtain ⟨r_10, n_11, hP1, hK1, hD1⟩ := hB
  rw [ht] at hP1
  obtain ⟨hP, hD⟩ := va_join (wr := [(nb, .inr (1, [.ref q_1, .ref q_3, .ref q_5, .null, .null, .null, .null, .null, .null, .null, .int 0])), (q_1, .inl (c_2, 6, .inr (.inr (.inr (.inr (fun _ => none)))))), (q_3, .inl (c_4, 6, .inr (.inr (.inr (.inr (fun _ => none)))))), (q_5, .inl (c_6, 6, .inl (fun _ => 0)))]) (w1 := [(q_7, .inr (4, [.ref r_10, .ref n_11, .int 0, .int 0, .int 0, .int 0, .int 0, .int 0]))]) hP hD [4] [0, 1, 2, 3] rfl rfl (by decide) (by decide) hk1 hFc hP1 hD1
  generalize H1 = H at hP hS ⊢
  have hP : va_P (dC, dI) vwCl [(nb, .inr (1, [.ref q_1, .ref q_3, .ref q_5, .null, .null, .null, .null, .null, .null, .null, .int 0])), (q_1, .inl (c_2, 6, .inr (.inr (.inr (.inr (fun _ => none)))))), (q_3, .inl (c_4, 6, .inr (.inr (.inr (.inr (fun _ => none)))))), (q_5, .inl (c_6, 6, .inl (fun _ => 0))), (q_7, .inr (4, [.ref r_10, .ref n_11, .int 0, .int 0, .int 0, .int 0, .int 0, .int 0]))] H := hP
  have hD : va_D A [(nb, .inr (1, [.ref q_1, .ref q_3, .ref q_5, .null, .null, .null, .null, .null, .null, .null, .int 0])), (q_1, .inl (c_2, 6, .inr (.inr (.inr (.inr (fun _ => none)))))), (q_3, .inl (c_4, 6, .inr (.inr (.inr (.inr (fun _ => none)))))), (q_5, .inl (c_6, 6, .inl (fun _ => 0))), (q_7, .inr (4, [.ref r_10, .ref n_11, .int 0, .int 0, .int 0, .int 0, .int 0, .int 0]))] := hD
  refine W.widen (k := 9) (n := 338) (by omega) (by omega) ?_
  refine va_putF (D := (dC, dI)) (ci := 1) (v := .ref q_7) (ty := .object "PatternGate$Part") (C := RX1) (T := TX1) (N := 11) hx hb hts fin_X1_init_X1 tyX1 tyX1_ok nmX1 hown hK hP hD hS 0 rfl rfl 3 (by decide) (hts (.fieldLink RX1 25 "PatternGate$Compiler" "spot" "LPatternGate$Part;") (List.mem_of_getElem? (i := 39) (by decide +kernel))) (fun _ h9 => h9) rfl hin rfl (by decide +kernel) rfl rfl (Nat.le_of_ble_eq_true rfl) dX1_init_38 (fun H locs hP hD hS => ?_)
  have hP : va_P (dC, dI) vwCl [(nb, .inr (1, [.ref q_1, .ref q_3, .ref q_5, .ref q_7, .null, .null, .null, .null, .null, .null, .int 0])), (q_1, .inl (c_2, 6, .inr (.inr (.inr (.inr (fun _ => none)))))), (q_3, .inl (c_4, 6, .inr (.inr (.inr (.inr (fun _ => none)))))), (q_5, .inl (c_6, 6, .inl (fun _ => 0))), (q_7, .inr (4, [.ref r_10, .ref n_11, .int 0, .int 0, .int 0, .int 0, .int 0, .int 0]))] H := hP
  have hD : va_D A [(nb, .inr (1, [.ref q_1, .ref q_3, .ref q_5, .ref q_7, .null, .null, .null, .null, .null, .null, .int 0])), (q_1, .inl (c_2, 6, .inr (.inr (.inr (.inr (fun _ => none)))))), (q_3, .inl (c_4, 6, .inr (.inr (.inr (.inr (fun _ => none)))))), (q_5, .inl (c_6, 6, .inl (fun _ => 0))), (q_7, .inr (4, [.ref r_10, .ref n_11, .int 0, .int 0, .int 0, .int 0, .int 0, .int 0]))] := hD
  refine lv_aload_n hx hb dX1_init_41 rfl (lv_at hl 0 rfl) ?_
  refine va_new (ci := 7) (fs := [.null, .int 0]) (C := RX7) (T := TX7) (N := 2) hx hb hts fin_X1_init_X7 tyX7 tyX7_ok hown (hts (.classLink RX1 29 RX7) (List.mem_of_getElem? (i := 40) (by decide +kernel))) (hts (.instantiable RX7 2) (List.mem_of_getElem? (i := 14) (by decide +kernel))) (hts (.initialized RX7) (List.mem_of_getElem? (i := 15) (by decide +kernel))) hK hP hD hS hA rfl (fun j hj => by rcases (show j = 0 ∨ j = 1 by omega) with rfl | rfl <;> rfl) (Nat.le_of_ble_eq_true rfl) (Nat.le_of_ble_eq_true rfl) dX1_init_42 (fun q_12 H hP hD hS => ?_)
  have hP : va_P (dC, dI) vwCl [(nb, .inr (1, [.ref q_1, .ref q_3, .ref q_5, .ref q_7, .null, .null, .null, .null, .null, .null, .int 0])), (q_1, .inl (c_2, 6, .inr (.inr (.inr (.inr (fun _ => none)))))), (q_3, .inl (c_4, 6, .inr (.inr (.inr (.inr (fun _ => none)))))), (q_5, .inl (c_6, 6, .inl (fun _ => 0))), (q_7, .inr (4, [.ref r_10, .ref n_11, .int 0, .int 0, .int 0, .int 0, .int 0, .int 0])), (q_12, .inr (7, [.null, .int 0]))] H := hP
  have hD : va_D A [(nb, .inr (1, [.ref q_1, .ref q_3, .ref q_5, .ref q_7, .null, .null, .null, .null, .null, .null, .int 0])), (q_1, .inl (c_2, 6, .inr (.inr (.inr (.inr (fun _ => none)))))), (q_3, .inl (c_4, 6, .inr (.inr (.inr (.inr (fun _ => none)))))), (q_5, .inl (c_6, 6, .inl (fun _ => 0))), (q_7, .inr (4, [.ref r_10, .ref n_11, .int 0, .int 0, .int 0, .int 0, .int 0, .int 0])), (q_12, .inr (7, [.null, .int 0]))] := hD
  refine W.widen (k := 10) (n := 340) (by omega) (by omega) ?_
  refine lv_dup hx hb dX1_init_45 rfl ?_
  have hPc := hP.sub (ws' := [(q_12, .inr (7, [.null, .int 0]))]) [5] rfl
  have hKc := hK.sub (tys' := []) [] rfl
  have hDc := hD.sub (ws' := [(q_12, .inr (7, [.null, .int 0]))]) [5] (by decide) rfl
  have hFc := va_free (wc := [(q_12, .inr (7, [.null, .int 0]))]) hD hS hA [5] rfl
  refine va_callv (va_runIN (As := []) (rest := [.ref q_12, .ref nb]) ⟨hx, hb, hml, hown, hts⟩ (c_Rows l dC dI q_12 H.size) ⟨va_cnB 0 hts mg_X1_init_X7_init_31 rfl rfl rfl hN31 (hts (.initialized RX7) (List.mem_of_getElem? (i := 15) (by decide +kernel))) (by decide +kernel) ⟨Nat.le_of_ble_eq_true rfl, Nat.le_of_ble_eq_true rfl⟩, rfl, (hts (.instanceMethod yX7_init) (List.mem_of_getElem? (i := 20) (by decide +kernel)))⟩ ⟨fun a U g mk q => by obtain ⟨q0, q1, qP, qK, qD⟩ := q; exact ⟨q0, q1, qP, va_K.moved (u := U) (U := U.calling g mk a) (Vm.Alike.refl U.vm) qK, qD⟩, fun U hU hW => ⟨rfl, by rw [hU], by rw [hU]; exact hPc, va_K.moved hW.alike hKc, hDc.weaken (fun _ _ _ _ => trivial)⟩⟩ rfl rfl hl.1 rfl (lv_room (Nat.le_of_ble_eq_true rfl)) dX1_init_46 ⟨Nat.le_of_ble_eq_true rfl, Nat.le_of_ble_eq_true rfl⟩) hS (fun q _ h => hFc q h) hFc (fun u t H1 locs ht hvm hw hB hz1 hk1 hS => ?_)
  obtain ⟨hP, hD⟩ := va_join (wr := [(nb, .inr (1, [.ref q_1, .ref q_3, .ref q_5, .ref q_7, .null, .null, .null, .null, .null, .null, .int 0])), (q_1, .inl (c_2, 6, .inr (.inr (.inr (.inr (fun _ => none)))))), (q_3, .inl (c_4, 6, .inr (.inr (.inr (.inr (fun _ => none)))))), (q_5, .inl (c_6, 6, .inl (fun _ => 0))), (q_7, .inr (4, [.ref r_10, .ref n_11, .int 0, .int 0, .int 0, .int 0, .int 0, .int 0]))]) (w1 := []) hP hD [5] [0, 1, 2, 3, 4] rfl rfl (by decide) (by decide) hk1 hFc (fun k q h => by simp at h) ⟨fun i j p q h => by simp at h, fun k q h => by simp at h⟩
  generalize H1 = H at hP hS ⊢
  have hP : va_P (dC, dI) vwCl [(nb, .inr (1, [.ref q_1, .ref q_3, .ref q_5, .ref q_7, .null, .null, .null, .null, .null, .null, .int 0])), (q_1, .inl (c_2, 6, .inr (.inr (.inr (.inr (fun _ => none)))))), (q_3, .inl (c_4, 6, .inr (.inr (.inr (.inr (fun _ => none)))))), (q_5, .inl (c_6, 6, .inl (fun _ => 0))), (q_7, .inr (4, [.ref r_10, .ref n_11, .int 0, .int 0, .int 0, .int 0, .int 0, .int 0]))] H := hP
  have hD : va_D A [(nb, .inr (1, [.ref q_1, .ref q_3, .ref q_5, .ref q_7, .null, .null, .null, .null, .null, .null, .int 0])), (q_1, .inl (c_2, 6, .inr (.inr (.inr (.inr (fun _ => none)))))), (q_3, .inl (c_4, 6, .inr (.inr (.inr (.inr (fun _ => none)))))), (q_5, .inl (c_6, 6, .inl (fun _ => 0))), (q_7, .inr (4, [.ref r_10, .ref n_11, .int 0, .int 0, .int 0, .int 0, .int 0, .int 0]))] := hD
  refine W.widen (k := 11) (n := 346) (by omega) (by omega) ?_
  refine va_putF (D := (dC, dI)) (ci := 1) (v := .ref q_12) (ty := .object "PatternGate$Rows") (C := RX1) (T := TX1) (N := 11) hx hb hts fin_X1_init_X1 tyX1 tyX1_ok nmX1 hown hK hP hD hS 0 rfl rfl 4 (by decide) (hts (.fieldLink RX1 32 "PatternGate$Compiler" "joined" "LPatternGate$Rows;") (List.mem_of_getElem? (i := 41) (by decide +kernel))) (fun _ h9 => h9) rfl hin rfl (by decide +kernel) rfl rfl (Nat.le_of_ble_eq_true rfl) dX1_init_49 (fun H locs hP hD hS => ?_)
  have hP : va_P (dC, dI) vwCl [(nb, .inr (1, [.ref q_1, .ref q_3, .ref q_5, .ref q_7, .ref q_12, .null, .null, .null, .null, .null, .int 0])), (q_1, .inl (c_2, 6, .inr (.inr (.inr (.inr (fun _ => none)))))), (q_3, .inl (c_4, 6, .inr (.inr (.inr (.inr (fun _ => none)))))), (q_5, .inl (c_6, 6, .inl (fun _ => 0))), (q_7, .inr (4, [.ref r_10, .ref n_11, .int 0, .int 0, .int 0, .int 0, .int 0, .int 0]))] H := hP
  have hD : va_D A [(nb, .inr (1, [.ref q_1, .ref q_3, .ref q_5, .ref q_7, .ref q_12, .null, .null, .null, .null, .null, .int 0])), (q_1, .inl (c_2, 6, .inr (.inr (.inr (.inr (fun _ => none)))))), (q_3, .inl (c_4, 6, .inr (.inr (.inr (.inr (fun _ => none)))))), (q_5, .inl (c_6, 6, .inl (fun _ => 0))), (q_7, .inr (4, [.ref r_10, .ref n_11, .int 0, .int 0, .int 0, .int 0, .int 0, .int 0]))] := hD
  refine lv_aload_n hx hb dX1_init_52 rfl (lv_at hl 0 rfl) ?_
  refine va_new (ci := 3) (fs := [.int 0, .null, .null, .int 0]) (C := RX3) (T := TX3) (N := 4) hx hb hts fin_X1_init_X3 tyX3 tyX3_ok hown (hts (.classLink RX1 36 RX3) (List.mem_of_getElem? (i := 42) (by decide +kernel))) (hts (.instantiable RX3 4) (List.mem_of_getElem? (i := 23) (by decide +kernel))) (hts (.initialized RX3) (List.mem_of_getElem? (i := 24) (by decide +kernel))) hK hP hD hS hA rfl (fun j hj => by rcases (show j = 0 ∨ j = 1 ∨ j = 2 ∨ j = 3 by omega) with rfl | rfl | rfl | rfl <;> rfl) (Nat.le_of_ble_eq_true rfl) (Nat.le_of_ble_eq_true rfl) dX1_init_53 (fun q_15 H hP hD hS => ?_)
  have hP : va_P (dC, dI) vwCl [(nb, .inr (1, [.ref q_1, .ref q_3, .ref q_5, .ref q_7, .ref q_12, .null, .null, .null, .null, .null, .int 0])), (q_1, .inl (c_2, 6, .inr (.inr (.inr (.inr (fun _ => none)))))), (q_3, .inl (c_4, 6, .inr (.inr (.inr (.inr (fun _ => none)))))), (q_5, .inl (c_6, 6, .inl (fun _ => 0))), (q_7, .inr (4, [.ref r_10, .ref n_11, .int 0, .int 0, .int 0, .int 0, .int 0, .int 0])), (q_15, .inr (3, [.int 0, .null, .null, .int 0]))] H := hP
  have hD : va_D A [(nb, .inr (1, [.ref q_1, .ref q_3, .ref q_5, .ref q_7, .ref q_12, .null, .null, .null, .null, .null, .int 0])), (q_1, .inl (c_2, 6, .inr (.inr (.inr (.inr (fun _ => none)))))), (q_3, .inl (c_4, 6, .inr (.inr (.inr (.inr (fun _ => none)))))), (q_5, .inl (c_6, 6, .inl (fun _ => 0))), (q_7, .inr (4, [.ref r_10, .ref n_11, .int 0, .int 0, .int 0, .int 0, .int 0, .int 0])), (q_15, .inr (3, [.int 0, .null, .null, .int 0]))] := hD
  refine W.widen (k := 12) (n := 350) (by omega) (by omega) ?_
  refine lv_dup hx hb dX1_init_56 rfl ?_
  refine lv_bipush (v := 6) hx hb dX1_init_57 (by decide) ?_
  have hPc := hP.sub (ws' := [(q_15, .inr (3, [.int 0, .null, .null, .int 0]))]) [5] rfl
  have hKc := hK.sub (tys' := []) [] rfl
  have hDc := hD.sub (ws' := [(q_15, .inr (3, [.int 0, .null, .null, .int 0]))]) [5] (by decide) rfl
  have hFc := va_free (wc := [(q_15, .inr (3, [.int 0, .null, .null, .int 0]))]) hD hS hA [5] rfl
  refine va_callv (va_runI (As := [.int 6]) (rest := [.ref q_15, .ref nb]) ⟨hx, hb, hml, hown, hts⟩ (c_Need6 l dC dI q_15 H.size) (cwI 1 hts mg_X1_init_X3_init_38 rfl rfl rfl (hts (.initialized RX3) (List.mem_of_getElem? (i := 24) (by decide +kernel))) (hts (.methodLink RX1 38 yX3_init) (List.mem_of_getElem? (i := 43) (by decide +kernel))) (hts (.instanceMethod yX3_init) (List.mem_of_getElem? (i := 36) (by decide +kernel))) rfl (by decide +kernel) ⟨Nat.le_of_ble_eq_true rfl, Nat.le_of_ble_eq_true rfl⟩) ⟨fun a U g mk q => by obtain ⟨q0, q1, qP, qK, qD⟩ := q; exact ⟨q0, q1, qP, va_K.moved (u := U) (U := U.calling g mk a) (Vm.Alike.refl U.vm) qK, qD⟩, fun U hU hW => ⟨rfl, by rw [hU], by rw [hU]; exact hPc, va_K.moved hW.alike hKc, hDc.weaken (fun _ _ _ _ => trivial)⟩⟩ rfl rfl hl.1 rfl (lv_room (Nat.le_of_ble_eq_true rfl)) dX1_init_59 ⟨Nat.le_of_ble_eq_true rfl, Nat.le_of_ble_eq_true rfl⟩) hS (fun q _ h => hFc q h) hFc (fun u t H1 locs ht hvm hw hB hz1 hk1 hS => ?_)
  obtain ⟨hP, hD⟩ := va_join (wr := [(nb, .inr (1, [.ref q_1, .ref q_3, .ref q_5, .ref q_7, .ref q_12, .null, .null, .null, .null, .null, .int 0])), (q_1, .inl (c_2, 6, .inr (.inr (.inr (.inr (fun _ => none)))))), (q_3, .inl (c_4, 6, .inr (.inr (.inr (.inr (fun _ => none)))))), (q_5, .inl (c_6, 6, .inl (fun _ => 0))), (q_7, .inr (4, [.ref r_10, .ref n_11, .int 0, .int 0, .int 0, .int 0, .int 0, .int 0]))]) (w1 := []) hP hD [5] [0, 1, 2, 3, 4] rfl rfl (by decide) (by decide) hk1 hFc (fun k q h => by simp at h) ⟨fun i j p q h => by simp at h, fun k q h => by simp at h⟩
  generalize H1 = H at hP hS ⊢
  have hP : va_P (dC, dI) vwCl [(nb, .inr (1, [.ref q_1, .ref q_3, .ref q_5, .ref q_7, .ref q_12, .null, .null, .null, .null, .null, .int 0])), (q_1, .inl (c_2, 6, .inr (.inr (.inr (.inr (fun _ => none)))))), (q_3, .inl (c_4, 6, .inr (.inr (.inr (.inr (fun _ => none)))))), (q_5, .inl (c_6, 6, .inl (fun _ => 0))), (q_7, .inr (4, [.ref r_10, .ref n_11, .int 0, .int 0, .int 0, .int 0, .int 0, .int 0]))] H := hP
  have hD : va_D A [(nb, .inr (1, [.ref q_1, .ref q_3, .ref q_5, .ref q_7, .ref q_12, .null, .null, .null, .null, .null, .int 0])), (q_1, .inl (c_2, 6, .inr (.inr (.inr (.inr (fun _ => none)))))), (q_3, .inl (c_4, 6, .inr (.inr (.inr (.inr (fun _ => none)))))), (q_5, .inl (c_6, 6, .inl (fun _ => 0))), (q_7, .inr (4, [.ref r_10, .ref n_11, .int 0, .int 0, .int 0, .int 0, .int 0, .int 0]))] := hD
  refine W.widen (k := 14) (n := 500) (by omega) (by omega) ?_
  refine va_putF (D := (dC, dI)) (ci := 1) (v := .ref q_15) (ty := .object "PatternGate$Need") (C := RX1) (T := TX1) (N := 11) hx hb hts fin_X1_init_X1 tyX1 tyX1_ok nmX1 hown hK hP hD hS 0 rfl rfl 5 (by decide) (hts (.fieldLink RX1 41 "PatternGate$Compiler" "ofRows" "LPatternGate$Need;") (List.mem_of_getElem? (i := 44) (by decide +kernel))) (fun _ h9 => h9) rfl hin rfl (by decide +kernel) rfl rfl (Nat.le_of_ble_eq_true rfl) dX1_init_62 (fun H locs hP hD hS => ?_)
  have hP : va_P (dC, dI) vwCl [(nb, .inr (1, [.ref q_1, .ref q_3, .ref q_5, .ref q_7, .ref q_12, .ref q_15, .null, .null, .null, .null, .int 0])), (q_1, .inl (c_2, 6, .inr (.inr (.inr (.inr (fun _ => none)))))), (q_3, .inl (c_4, 6, .inr (.inr (.inr (.inr (fun _ => none)))))), (q_5, .inl (c_6, 6, .inl (fun _ => 0))), (q_7, .inr (4, [.ref r_10, .ref n_11, .int 0, .int 0, .int 0, .int 0, .int 0, .int 0]))] H := hP
  have hD : va_D A [(nb, .inr (1, [.ref q_1, .ref q_3, .ref q_5, .ref q_7, .ref q_12, .ref q_15, .null, .null, .null, .null, .int 0])), (q_1, .inl (c_2, 6, .inr (.inr (.inr (.inr (fun _ => none)))))), (q_3, .inl (c_4, 6, .inr (.inr (.inr (.inr (fun _ => none)))))), (q_5, .inl (c_6, 6, .inl (fun _ => 0))), (q_7, .inr (4, [.ref r_10, .ref n_11, .int 0, .int 0, .int 0, .int 0, .int 0, .int 0]))] := hD
  refine lv_aload_n hx hb dX1_init_65 rfl (lv_at hl 0 rfl) ?_
  refine va_new (ci := 3) (fs := [.int 0, .null, .null, .int 0]) (C := RX3) (T := TX3) (N := 4) hx hb hts fin_X1_init_X3 tyX3 tyX3_ok hown (hts (.classLink RX1 36 RX3) (List.mem_of_getElem? (i := 42) (by decide +kernel))) (hts (.instantiable RX3 4) (List.mem_of_getElem? (i := 23) (by decide +kernel))) (hts (.initialized RX3) (List.mem_of_getElem? (i := 24) (by decide +kernel))) hK hP hD hS hA rfl (fun j hj => by rcases (show j = 0 ∨ j = 1 ∨ j = 2 ∨ j = 3 by omega) with rfl | rfl | rfl | rfl <;> rfl) (Nat.le_of_ble_eq_true rfl) (Nat.le_of_ble_eq_true rfl) dX1_init_66 (fun q_18 H hP hD hS => ?_)
  have hP : va_P (dC, dI) vwCl [(nb, .inr (1, [.ref q_1, .ref q_3, .ref q_5, .ref q_7, .ref q_12, .ref q_15, .null, .null, .null, .null, .int 0])), (q_1, .inl (c_2, 6, .inr (.inr (.inr (.inr (fun _ => none)))))), (q_3, .inl (c_4, 6, .inr (.inr (.inr (.inr (fun _ => none)))))), (q_5, .inl (c_6, 6, .inl (fun _ => 0))), (q_7, .inr (4, [.ref r_10, .ref n_11, .int 0, .int 0, .int 0, .int 0, .int 0, .int 0])), (q_18, .inr (3, [.int 0, .null, .null, .int 0]))] H := hP
  have hD : va_D A [(nb, .inr (1, [.ref q_1, .ref q_3, .ref q_5, .ref q_7, .ref q_12, .ref q_15, .null, .null, .null, .null, .int 0])), (q_1, .inl (c_2, 6, .inr (.inr (.inr (.inr (fun _ => none)))))), (q_3, .inl (c_4, 6, .inr (.inr (.inr (.inr (fun _ => none)))))), (q_5, .inl (c_6, 6, .inl (fun _ => 0))), (q_7, .inr (4, [.ref r_10, .ref n_11, .int 0, .int 0, .int 0, .int 0, .int 0, .int 0])), (q_18, .inr (3, [.int 0, .null, .null, .int 0]))] := hD
  refine W.widen (k := 15) (n := 504) (by omega) (by omega) ?_
  refine lv_dup hx hb dX1_init_69 rfl ?_
  refine lv_sipush (v := 144) hx hb dX1_init_70 (by decide) ?_
  have hPc := hP.sub (ws' := [(q_18, .inr (3, [.int 0, .null, .null, .int 0]))]) [5] rfl
  have hKc := hK.sub (tys' := []) [] rfl
  have hDc := hD.sub (ws' := [(q_18, .inr (3, [.int 0, .null, .null, .int 0]))]) [5] (by decide) rfl
  have hFc := va_free (wc := [(q_18, .inr (3, [.int 0, .null, .null, .int 0]))]) hD hS hA [5] rfl
  refine va_callv (va_runI (As := [.int 144]) (rest := [.ref q_18, .ref nb]) ⟨hx, hb, hml, hown, hts⟩ (c_Need144 l dC dI q_18 H.size) (cwI 1 hts mg_X1_init_X3_init_38 rfl rfl rfl (hts (.initialized RX3) (List.mem_of_getElem? (i := 24) (by decide +kernel))) (hts (.methodLink RX1 38 yX3_init) (List.mem_of_getElem? (i := 43) (by decide +kernel))) (hts (.instanceMethod yX3_init) (List.mem_of_getElem? (i := 36) (by decide +kernel))) rfl (by decide +kernel) ⟨Nat.le_of_ble_eq_true rfl, Nat.le_of_ble_eq_true rfl⟩) ⟨fun a U g mk q => by obtain ⟨q0, q1, qP, qK, qD⟩ := q; exact ⟨q0, q1, qP, va_K.moved (u := U) (U := U.calling g mk a) (Vm.Alike.refl U.vm) qK, qD⟩, fun U hU hW => ⟨rfl, by rw [hU], by rw [hU]; exact hPc, va_K.moved hW.alike hKc, hDc.weaken (fun _ _ _ _ => trivial)⟩⟩ rfl rfl hl.1 rfl (lv_room (Nat.le_of_ble_eq_true rfl)) dX1_init_73 ⟨Nat.le_of_ble_eq_true rfl, Nat.le_of_ble_eq_true rfl⟩) hS (fun q _ h => hFc q h) hFc (fun u t H1 locs ht hvm hw hB hz1 hk1 hS => ?_)
  obtain ⟨hP, hD⟩ := va_join (wr := [(nb, .inr (1, [.ref q_1, .ref q_3, .ref q_5, .ref q_7, .ref q_12, .ref q_15, .null, .null, .null, .null, .int 0])), (q_1, .inl (c_2, 6, .inr (.inr (.inr (.inr (fun _ => none)))))), (q_3, .inl (c_4, 6, .inr (.inr (.inr (.inr (fun _ => none)))))), (q_5, .inl (c_6, 6, .inl (fun _ => 0))), (q_7, .inr (4, [.ref r_10, .ref n_11, .int 0, .int 0, .int 0, .int 0, .int 0, .int 0]))]) (w1 := []) hP hD [5] [0, 1, 2, 3, 4] rfl rfl (by decide) (by decide) hk1 hFc (fun k q h => by simp at h) ⟨fun i j p q h => by simp at h, fun k q h => by simp at h⟩
  generalize H1 = H at hP hS ⊢
  have hP : va_P (dC, dI) vwCl [(nb, .inr (1, [.ref q_1, .ref q_3, .ref q_5, .ref q_7, .ref q_12, .ref q_15, .null, .null, .null, .null, .int 0])), (q_1, .inl (c_2, 6, .inr (.inr (.inr (.inr (fun _ => none)))))), (q_3, .inl (c_4, 6, .inr (.inr (.inr (.inr (fun _ => none)))))), (q_5, .inl (c_6, 6, .inl (fun _ => 0))), (q_7, .inr (4, [.ref r_10, .ref n_11, .int 0, .int 0, .int 0, .int 0, .int 0, .int 0]))] H := hP
  have hD : va_D A [(nb, .inr (1, [.ref q_1, .ref q_3, .ref q_5, .ref q_7, .ref q_12, .ref q_15, .null, .null, .null, .null, .int 0])), (q_1, .inl (c_2, 6, .inr (.inr (.inr (.inr (fun _ => none)))))), (q_3, .inl (c_4, 6, .inr (.inr (.inr (.inr (fun _ => none)))))), (q_5, .inl (c_6, 6, .inl (fun _ => 0))), (q_7, .inr (4, [.ref r_10, .ref n_11, .int 0, .int 0, .int 0, .int 0, .int 0, .int 0]))] := hD
  refine W.widen (k := 17) (n := 4104) (by omega) (by omega) ?_
  refine va_putF (D := (dC, dI)) (ci := 1) (v := .ref q_18) (ty := .object "PatternGate$Need") (C := RX1) (T := TX1) (N := 11) hx hb hts fin_X1_init_X1 tyX1 tyX1_ok nmX1 hown hK hP hD hS 0 rfl rfl 6 (by decide) (hts (.fieldLink RX1 45 "PatternGate$Compiler" "wide" "LPatternGate$Need;") (List.mem_of_getElem? (i := 45) (by decide +kernel))) (fun _ h9 => h9) rfl hin rfl (by decide +kernel) rfl rfl (Nat.le_of_ble_eq_true rfl) dX1_init_76 (fun H locs hP hD hS => ?_)
  have hP : va_P (dC, dI) vwCl [(nb, .inr (1, [.ref q_1, .ref q_3, .ref q_5, .ref q_7, .ref q_12, .ref q_15, .ref q_18, .null, .null, .null, .int 0])), (q_1, .inl (c_2, 6, .inr (.inr (.inr (.inr (fun _ => none)))))), (q_3, .inl (c_4, 6, .inr (.inr (.inr (.inr (fun _ => none)))))), (q_5, .inl (c_6, 6, .inl (fun _ => 0))), (q_7, .inr (4, [.ref r_10, .ref n_11, .int 0, .int 0, .int 0, .int 0, .int 0, .int 0]))] H := hP
  have hD : va_D A [(nb, .inr (1, [.ref q_1, .ref q_3, .ref q_5, .ref q_7, .ref q_12, .ref q_15, .ref q_18, .null, .null, .null, .int 0])), (q_1, .inl (c_2, 6, .inr (.inr (.inr (.inr (fun _ => none)))))), (q_3, .inl (c_4, 6, .inr (.inr (.inr (.inr (fun _ => none)))))), (q_5, .inl (c_6, 6, .inl (fun _ => 0))), (q_7, .inr (4, [.ref r_10, .ref n_11, .int 0, .int 0, .int 0, .int 0, .int 0, .int 0]))] := hD
  refine lv_aload_n hx hb dX1_init_79 rfl (lv_at hl 0 rfl) ?_
  refine lv_bipush (v := 24) hx hb dX1_init_80 (by decide) ?_
  refine va_newa (atype := .int) (ty := .int) (n := 24) (N' := 24) (a0 := (24, .inl (fun _ => 0))) hx hb (hts (.arrayClass .int) (List.mem_of_getElem? (i := 32) (by decide +kernel))) rfl hK hP hD hS hA (fun _ => rfl) (by decide) (by decide) (Nat.le_of_ble_eq_true rfl) (Nat.le_of_ble_eq_true rfl) (Nat.le_of_ble_eq_true rfl) dX1_init_82 (fun q_21 c_22 H hK hP hD hS => ?_)
  have hP : va_P (dC, dI) vwCl [(nb, .inr (1, [.ref q_1, .ref q_3, .ref q_5, .ref q_7, .ref q_12, .ref q_15, .ref q_18, .null, .null, .null, .int 0])), (q_1, .inl (c_2, 6, .inr (.inr (.inr (.inr (fun _ => none)))))), (q_3, .inl (c_4, 6, .inr (.inr (.inr (.inr (fun _ => none)))))), (q_5, .inl (c_6, 6, .inl (fun _ => 0))), (q_7, .inr (4, [.ref r_10, .ref n_11, .int 0, .int 0, .int 0, .int 0, .int 0, .int 0])), (q_21, .inl (c_22, 24, .inl (fun _ => 0)))] H := hP
  have hD : va_D A [(nb, .inr (1, [.ref q_1, .ref q_3, .ref q_5, .ref q_7, .ref q_12, .ref q_15, .ref q_18, .null, .null, .null, .int 0])), (q_1, .inl (c_2, 6, .inr (.inr (.inr (.inr (fun _ => none)))))), (q_3, .inl (c_4, 6, .inr (.inr (.inr (.inr (fun _ => none)))))), (q_5, .inl (c_6, 6, .inl (fun _ => 0))), (q_7, .inr (4, [.ref r_10, .ref n_11, .int 0, .int 0, .int 0, .int 0, .int 0, .int 0])), (q_21, .inl (c_22, 24, .inl (fun _ => 0)))] := hD
  have hK : va_K (dC, dI) vwCl [(c_2, .object "PatternGate$Part"), (c_4, .object "PatternGate$Part"), (c_6, .boolean), (c_22, .int)] s := hK
  refine W.widen (k := 18) (n := 4128) (by omega) (by omega) ?_
  refine va_putF (D := (dC, dI)) (ci := 1) (v := .ref q_21) (ty := .array .int) (C := RX1) (T := TX1) (N := 11) hx hb hts fin_X1_init_X1 tyX1 tyX1_ok nmX1 hown hK hP hD hS 0 rfl rfl 7 (by decide) (hts (.fieldLink RX1 48 "PatternGate$Compiler" "choice" "[I") (List.mem_of_getElem? (i := 46) (by decide +kernel))) (fun _ h9 => h9) rfl hin rfl (by decide +kernel) rfl rfl (Nat.le_of_ble_eq_true rfl) dX1_init_84 (fun H locs hP hD hS => ?_)
  have hP : va_P (dC, dI) vwCl [(nb, .inr (1, [.ref q_1, .ref q_3, .ref q_5, .ref q_7, .ref q_12, .ref q_15, .ref q_18, .ref q_21, .null, .null, .int 0])), (q_1, .inl (c_2, 6, .inr (.inr (.inr (.inr (fun _ => none)))))), (q_3, .inl (c_4, 6, .inr (.inr (.inr (.inr (fun _ => none)))))), (q_5, .inl (c_6, 6, .inl (fun _ => 0))), (q_7, .inr (4, [.ref r_10, .ref n_11, .int 0, .int 0, .int 0, .int 0, .int 0, .int 0])), (q_21, .inl (c_22, 24, .inl (fun _ => 0)))] H := hP
  have hD : va_D A [(nb, .inr (1, [.ref q_1, .ref q_3, .ref q_5, .ref q_7, .ref q_12, .ref q_15, .ref q_18, .ref q_21, .null, .null, .int 0])), (q_1, .inl (c_2, 6, .inr (.inr (.inr (.inr (fun _ => none)))))), (q_3, .inl (c_4, 6, .inr (.inr (.inr (.inr (fun _ => none)))))), (q_5, .inl (c_6, 6, .inl (fun _ => 0))), (q_7, .inr (4, [.ref r_10, .ref n_11, .int 0, .int 0, .int 0, .int 0, .int 0, .int 0])), (q_21, .inl (c_22, 24, .inl (fun _ => 0)))] := hD
  refine lv_aload_n hx hb dX1_init_87 rfl (lv_at hl 0 rfl) ?_
  refine lv_bipush (v := 24) hx hb dX1_init_88 (by decide) ?_
  refine va_newa (atype := .int) (ty := .int) (n := 24) (N' := 24) (a0 := (24, .inl (fun _ => 0))) hx hb (hts (.arrayClass .int) (List.mem_of_getElem? (i := 32) (by decide +kernel))) rfl hK hP hD hS hA (fun _ => rfl) (by decide) (by decide) (Nat.le_of_ble_eq_true rfl) (Nat.le_of_ble_eq_true rfl) (Nat.le_of_ble_eq_true rfl) dX1_init_90 (fun q_23 c_24 H hK hP hD hS => ?_)
  have hP : va_P (dC, dI) vwCl [(nb, .inr (1, [.ref q_1, .ref q_3, .ref q_5, .ref q_7, .ref q_12, .ref q_15, .ref q_18, .ref q_21, .null, .null, .int 0])), (q_1, .inl (c_2, 6, .inr (.inr (.inr (.inr (fun _ => none)))))), (q_3, .inl (c_4, 6, .inr (.inr (.inr (.inr (fun _ => none)))))), (q_5, .inl (c_6, 6, .inl (fun _ => 0))), (q_7, .inr (4, [.ref r_10, .ref n_11, .int 0, .int 0, .int 0, .int 0, .int 0, .int 0])), (q_21, .inl (c_22, 24, .inl (fun _ => 0))), (q_23, .inl (c_24, 24, .inl (fun _ => 0)))] H := hP
  have hD : va_D A [(nb, .inr (1, [.ref q_1, .ref q_3, .ref q_5, .ref q_7, .ref q_12, .ref q_15, .ref q_18, .ref q_21, .null, .null, .int 0])), (q_1, .inl (c_2, 6, .inr (.inr (.inr (.inr (fun _ => none)))))), (q_3, .inl (c_4, 6, .inr (.inr (.inr (.inr (fun _ => none)))))), (q_5, .inl (c_6, 6, .inl (fun _ => 0))), (q_7, .inr (4, [.ref r_10, .ref n_11, .int 0, .int 0, .int 0, .int 0, .int 0, .int 0])), (q_21, .inl (c_22, 24, .inl (fun _ => 0))), (q_23, .inl (c_24, 24, .inl (fun _ => 0)))] := hD
  have hK : va_K (dC, dI) vwCl [(c_2, .object "PatternGate$Part"), (c_4, .object "PatternGate$Part"), (c_6, .boolean), (c_22, .int), (c_24, .int)] s := hK
  refine W.widen (k := 19) (n := 4152) (by omega) (by omega) ?_
  refine va_putF (D := (dC, dI)) (ci := 1) (v := .ref q_23) (ty := .array .int) (C := RX1) (T := TX1) (N := 11) hx hb hts fin_X1_init_X1 tyX1 tyX1_ok nmX1 hown hK hP hD hS 0 rfl rfl 8 (by decide) (hts (.fieldLink RX1 52 "PatternGate$Compiler" "follow" "[I") (List.mem_of_getElem? (i := 47) (by decide +kernel))) (fun _ h9 => h9) rfl hin rfl (by decide +kernel) rfl rfl (Nat.le_of_ble_eq_true rfl) dX1_init_92 (fun H locs hP hD hS => ?_)
  have hP : va_P (dC, dI) vwCl [(nb, .inr (1, [.ref q_1, .ref q_3, .ref q_5, .ref q_7, .ref q_12, .ref q_15, .ref q_18, .ref q_21, .ref q_23, .null, .int 0])), (q_1, .inl (c_2, 6, .inr (.inr (.inr (.inr (fun _ => none)))))), (q_3, .inl (c_4, 6, .inr (.inr (.inr (.inr (fun _ => none)))))), (q_5, .inl (c_6, 6, .inl (fun _ => 0))), (q_7, .inr (4, [.ref r_10, .ref n_11, .int 0, .int 0, .int 0, .int 0, .int 0, .int 0])), (q_21, .inl (c_22, 24, .inl (fun _ => 0))), (q_23, .inl (c_24, 24, .inl (fun _ => 0)))] H := hP
  have hD : va_D A [(nb, .inr (1, [.ref q_1, .ref q_3, .ref q_5, .ref q_7, .ref q_12, .ref q_15, .ref q_18, .ref q_21, .ref q_23, .null, .int 0])), (q_1, .inl (c_2, 6, .inr (.inr (.inr (.inr (fun _ => none)))))), (q_3, .inl (c_4, 6, .inr (.inr (.inr (.inr (fun _ => none)))))), (q_5, .inl (c_6, 6, .inl (fun _ => 0))), (q_7, .inr (4, [.ref r_10, .ref n_11, .int 0, .int 0, .int 0, .int 0, .int 0, .int 0])), (q_21, .inl (c_22, 24, .inl (fun _ => 0))), (q_23, .inl (c_24, 24, .inl (fun _ => 0)))] := hD
  refine lv_aload_n hx hb dX1_init_95 rfl (lv_at hl 0 rfl) ?_
  refine lv_bipush (v := 26) hx hb dX1_init_96 (by decide) ?_
  refine va_newa (atype := .int) (ty := .int) (n := 26) (N' := 26) (a0 := (26, .inl (fun _ => 0))) hx hb (hts (.arrayClass .int) (List.mem_of_getElem? (i := 32) (by decide +kernel))) rfl hK hP hD hS hA (fun _ => rfl) (by decide) (by decide) (Nat.le_of_ble_eq_true rfl) (Nat.le_of_ble_eq_true rfl) (Nat.le_of_ble_eq_true rfl) dX1_init_98 (fun q_25 c_26 H hK hP hD hS => ?_)
  have hP : va_P (dC, dI) vwCl [(nb, .inr (1, [.ref q_1, .ref q_3, .ref q_5, .ref q_7, .ref q_12, .ref q_15, .ref q_18, .ref q_21, .ref q_23, .null, .int 0])), (q_1, .inl (c_2, 6, .inr (.inr (.inr (.inr (fun _ => none)))))), (q_3, .inl (c_4, 6, .inr (.inr (.inr (.inr (fun _ => none)))))), (q_5, .inl (c_6, 6, .inl (fun _ => 0))), (q_7, .inr (4, [.ref r_10, .ref n_11, .int 0, .int 0, .int 0, .int 0, .int 0, .int 0])), (q_21, .inl (c_22, 24, .inl (fun _ => 0))), (q_23, .inl (c_24, 24, .inl (fun _ => 0))), (q_25, .inl (c_26, 26, .inl (fun _ => 0)))] H := hP
  have hD : va_D A [(nb, .inr (1, [.ref q_1, .ref q_3, .ref q_5, .ref q_7, .ref q_12, .ref q_15, .ref q_18, .ref q_21, .ref q_23, .null, .int 0])), (q_1, .inl (c_2, 6, .inr (.inr (.inr (.inr (fun _ => none)))))), (q_3, .inl (c_4, 6, .inr (.inr (.inr (.inr (fun _ => none)))))), (q_5, .inl (c_6, 6, .inl (fun _ => 0))), (q_7, .inr (4, [.ref r_10, .ref n_11, .int 0, .int 0, .int 0, .int 0, .int 0, .int 0])), (q_21, .inl (c_22, 24, .inl (fun _ => 0))), (q_23, .inl (c_24, 24, .inl (fun _ => 0))), (q_25, .inl (c_26, 26, .inl (fun _ => 0)))] := hD
  have hK : va_K (dC, dI) vwCl [(c_2, .object "PatternGate$Part"), (c_4, .object "PatternGate$Part"), (c_6, .boolean), (c_22, .int), (c_24, .int), (c_26, .int)] s := hK
  refine W.widen (k := 20) (n := 4178) (by omega) (by omega) ?_
  refine va_putF (D := (dC, dI)) (ci := 1) (v := .ref q_25) (ty := .array .int) (C := RX1) (T := TX1) (N := 11) hx hb hts fin_X1_init_X1 tyX1 tyX1_ok nmX1 hown hK hP hD hS 0 rfl rfl 9 (by decide) (hts (.fieldLink RX1 55 "PatternGate$Compiler" "takers" "[I") (List.mem_of_getElem? (i := 48) (by decide +kernel))) (fun _ h9 => h9) rfl hin rfl (by decide +kernel) rfl rfl (Nat.le_of_ble_eq_true rfl) dX1_init_100 (fun H locs hP hD hS => ?_)
  have hP : va_P (dC, dI) vwCl [(nb, .inr (1, [.ref q_1, .ref q_3, .ref q_5, .ref q_7, .ref q_12, .ref q_15, .ref q_18, .ref q_21, .ref q_23, .ref q_25, .int 0])), (q_1, .inl (c_2, 6, .inr (.inr (.inr (.inr (fun _ => none)))))), (q_3, .inl (c_4, 6, .inr (.inr (.inr (.inr (fun _ => none)))))), (q_5, .inl (c_6, 6, .inl (fun _ => 0))), (q_7, .inr (4, [.ref r_10, .ref n_11, .int 0, .int 0, .int 0, .int 0, .int 0, .int 0])), (q_21, .inl (c_22, 24, .inl (fun _ => 0))), (q_23, .inl (c_24, 24, .inl (fun _ => 0))), (q_25, .inl (c_26, 26, .inl (fun _ => 0)))] H := hP
  have hD : va_D A [(nb, .inr (1, [.ref q_1, .ref q_3, .ref q_5, .ref q_7, .ref q_12, .ref q_15, .ref q_18, .ref q_21, .ref q_23, .ref q_25, .int 0])), (q_1, .inl (c_2, 6, .inr (.inr (.inr (.inr (fun _ => none)))))), (q_3, .inl (c_4, 6, .inr (.inr (.inr (.inr (fun _ => none)))))), (q_5, .inl (c_6, 6, .inl (fun _ => 0))), (q_7, .inr (4, [.ref r_10, .ref n_11, .int 0, .int 0, .int 0, .int 0, .int 0, .int 0])), (q_21, .inl (c_22, 24, .inl (fun _ => 0))), (q_23, .inl (c_24, 24, .inl (fun _ => 0))), (q_25, .inl (c_26, 26, .inl (fun _ => 0)))] := hD
  refine lv_iconst (v := 0) hx hb dX1_init_103 (by decide) ?_
  refine lv_istore_n (lv' := [(1, .int 0), (0, .ref nb)]) hx hb dX1_init_104 rfl hl (by decide) rfl (fun ls hl => ?_)
  have hP := hP.sub (ws' := [(nb, .inr (1, [.ref q_1, .ref q_3, .ref q_5, .ref q_7, .ref q_12, .ref q_15, .ref q_18, .ref q_21, .ref q_23, .ref q_25, .int 0])), (q_1, .inl (c_2, 6, .inr (.inr (.inr (.inr (fun _ => none)))))), (q_3, .inl (c_4, 6, .inr (.inr (.inr (.inr (fun _ => none))))))]) [0, 1, 2] rfl
  have hD := hD.sub (ws' := [(nb, .inr (1, [.ref q_1, .ref q_3, .ref q_5, .ref q_7, .ref q_12, .ref q_15, .ref q_18, .ref q_21, .ref q_23, .ref q_25, .int 0])), (q_1, .inl (c_2, 6, .inr (.inr (.inr (.inr (fun _ => none)))))), (q_3, .inl (c_4, 6, .inr (.inr (.inr (.inr (fun _ => none))))))]) [0, 1, 2] (by decide) rfl
  refine lv_iload_n hx hb dX1_init_105 rfl (lv_at hl 0 rfl) ?_
  refine lv_aload_n hx hb dX1_init_106 rfl (lv_at hl 1 rfl) ?_
  refine va_get (D := (dC, dI)) (ci := 1) (v := .ref q_1) (C := RX1) (T := TX1) (N := 11) hx hb hts fin_X1_init_X1 hown hK hP 0 rfl rfl 0 (by decide) (hts (.fieldLink RX1 11 "PatternGate$Compiler" "wholes" "[LPatternGate$Part;") (List.mem_of_getElem? (i := 5) (by decide +kernel))) (fun _ h9 => h9) rfl dX1_init_107 ?_
  refine va_alen (v := 6) hx hb hK hP 1 0 rfl rfl rfl dX1_init_110 ?_
  refine lv_icmp_ge (tgt := 146) hx hb dX1_init_111 (by decide) (fun k_27 => absurd k_27 (by decide)) (fun k_27 => ?_)
  refine lv_aload_n hx hb dX1_init_114 rfl (lv_at hl 1 rfl) ?_
  refine va_get (D := (dC, dI)) (ci := 1) (v := .ref q_1) (C := RX1) (T := TX1) (N := 11) hx hb hts fin_X1_init_X1 hown hK hP 0 rfl rfl 0 (by decide) (hts (.fieldLink RX1 11 "PatternGate$Compiler" "wholes" "[LPatternGate$Part;") (List.mem_of_getElem? (i := 5) (by decide +kernel))) (fun _ h9 => h9) rfl dX1_init_115 ?_
  refine lv_iload_n hx hb dX1_init_118 rfl (lv_at hl 0 rfl) ?_
  refine va_new (ci := 4) (fs := [.null, .null, .int 0, .int 0, .int 0, .int 0, .int 0, .int 0]) (C := RX4) (T := TX4) (N := 8) hx hb hts fin_X1_init_X4 tyX4 tyX4_ok hown (hts (.classLink RX1 9 RX4) (List.mem_of_getElem? (i := 4) (by decide +kernel))) (hts (.instantiable RX4 8) (List.mem_of_getElem? (i := 9) (by decide +kernel))) (hts (.initialized RX4) (List.mem_of_getElem? (i := 10) (by decide +kernel))) hK hP hD hS hA rfl (fun j hj => by rcases (show j = 0 ∨ j = 1 ∨ j = 2 ∨ j = 3 ∨ j = 4 ∨ j = 5 ∨ j = 6 ∨ j = 7 by omega) with rfl | rfl | rfl | rfl | rfl | rfl | rfl | rfl <;> rfl) (Nat.le_of_ble_eq_true rfl) (Nat.le_of_ble_eq_true rfl) dX1_init_119 (fun q_28 H hP hD hS => ?_)
  have hP : va_P (dC, dI) vwCl [(nb, .inr (1, [.ref q_1, .ref q_3, .ref q_5, .ref q_7, .ref q_12, .ref q_15, .ref q_18, .ref q_21, .ref q_23, .ref q_25, .int 0])), (q_1, .inl (c_2, 6, .inr (.inr (.inr (.inr (fun _ => none)))))), (q_3, .inl (c_4, 6, .inr (.inr (.inr (.inr (fun _ => none)))))), (q_28, .inr (4, [.null, .null, .int 0, .int 0, .int 0, .int 0, .int 0, .int 0]))] H := hP
  have hD : va_D A [(nb, .inr (1, [.ref q_1, .ref q_3, .ref q_5, .ref q_7, .ref q_12, .ref q_15, .ref q_18, .ref q_21, .ref q_23, .ref q_25, .int 0])), (q_1, .inl (c_2, 6, .inr (.inr (.inr (.inr (fun _ => none)))))), (q_3, .inl (c_4, 6, .inr (.inr (.inr (.inr (fun _ => none)))))), (q_28, .inr (4, [.null, .null, .int 0, .int 0, .int 0, .int 0, .int 0, .int 0]))] := hD
  refine W.widen (k := 21) (n := 4186) (by omega) (by omega) ?_
  refine lv_dup hx hb dX1_init_122 rfl ?_
  have hPc := hP.sub (ws' := [(q_28, .inr (4, [.null, .null, .int 0, .int 0, .int 0, .int 0, .int 0, .int 0]))]) [3] rfl
  have hKc := hK.sub (tys' := []) [] rfl
  have hDc := hD.sub (ws' := [(q_28, .inr (4, [.null, .null, .int 0, .int 0, .int 0, .int 0, .int 0, .int 0]))]) [3] (by decide) rfl
  have hFc := va_free (wc := [(q_28, .inr (4, [.null, .null, .int 0, .int 0, .int 0, .int 0, .int 0, .int 0]))]) hD hS hA [3] rfl
  refine va_callv (va_runIN (As := []) (rest := [.ref q_28, .int 0, .ref q_1]) ⟨hx, hb, hml, hown, hts⟩ (c_Part l dC dI q_28 H.size) ⟨va_cnB 0 hts mg_X1_init_X4_init_24 rfl rfl rfl hN24 (hts (.initialized RX4) (List.mem_of_getElem? (i := 10) (by decide +kernel))) (by decide +kernel) ⟨Nat.le_of_ble_eq_true rfl, Nat.le_of_ble_eq_true rfl⟩, rfl, (hts (.instanceMethod yX4_init) (List.mem_of_getElem? (i := 38) (by decide +kernel)))⟩ ⟨fun a U g mk q => by obtain ⟨q0, q1, qP, qK, qD, qE0⟩ := q; exact ⟨q0, q1, qP, va_K.moved (u := U) (U := U.calling g mk a) (Vm.Alike.refl U.vm) qK, qD, va_Nw.same rfl (rfl : U.vm = (U.calling g mk a).vm) qE0⟩, fun U hU hW => ⟨rfl, by rw [hU], by rw [hU]; exact hPc, va_K.moved hW.alike hKc, hDc.weaken (fun _ _ _ _ => trivial), va_Nw.warmM hW hN11⟩⟩ rfl rfl hl.1 rfl (lv_room (Nat.le_of_ble_eq_true rfl)) dX1_init_123 ⟨Nat.le_of_ble_eq_true rfl, Nat.le_of_ble_eq_true rfl⟩) hS (fun q _ h => hFc q h) hFc (fun u t H1 locs ht hvm hw hB hz1 hk1 hS => ?_)
  obtain ⟨r_31, n_32, hP1, hK1, hD1⟩ := hB
  rw [ht] at hP1
  obtain ⟨hP, hD⟩ := va_join (wr := [(nb, .inr (1, [.ref q_1, .ref q_3, .ref q_5, .ref q_7, .ref q_12, .ref q_15, .ref q_18, .ref q_21, .ref q_23, .ref q_25, .int 0])), (q_1, .inl (c_2, 6, .inr (.inr (.inr (.inr (fun _ => none)))))), (q_3, .inl (c_4, 6, .inr (.inr (.inr (.inr (fun _ => none))))))]) (w1 := [(q_28, .inr (4, [.ref r_31, .ref n_32, .int 0, .int 0, .int 0, .int 0, .int 0, .int 0]))]) hP hD [3] [0, 1, 2] rfl rfl (by decide) (by decide) hk1 hFc hP1 hD1
  generalize H1 = H at hP hS ⊢
  have hP : va_P (dC, dI) vwCl [(nb, .inr (1, [.ref q_1, .ref q_3, .ref q_5, .ref q_7, .ref q_12, .ref q_15, .ref q_18, .ref q_21, .ref q_23, .ref q_25, .int 0])), (q_1, .inl (c_2, 6, .inr (.inr (.inr (.inr (fun _ => none)))))), (q_3, .inl (c_4, 6, .inr (.inr (.inr (.inr (fun _ => none)))))), (q_28, .inr (4, [.ref r_31, .ref n_32, .int 0, .int 0, .int 0, .int 0, .int 0, .int 0]))] H := hP
  have hD : va_D A [(nb, .inr (1, [.ref q_1, .ref q_3, .ref q_5, .ref q_7, .ref q_12, .ref q_15, .ref q_18, .ref q_21, .ref q_23, .ref q_25, .int 0])), (q_1, .inl (c_2, 6, .inr (.inr (.inr (.inr (fun _ => none)))))), (q_3, .inl (c_4, 6, .inr (.inr (.inr (.inr (fun _ => none)))))), (q_28, .inr (4, [.ref r_31, .ref n_32, .int 0, .int 0, .int 0, .int 0, .int 0, .int 0]))] := hD
  refine W.widen (k := 26) (n := 4498) (by omega) (by omega) ?_
  refine va_astq (r := (RX4, TX4, 8)) hx hb hK hP hD hS 1 0 3 4 rfl rfl rfl rfl (i := 0) (by unfold vp_in; decide +kernel) dX1_init_126 (fun H locs hP hD hS => ?_)
  generalize hf_f_33 : va_up (fun _ => none) _ _ = f_33 at hP hD
  have hP : va_P (dC, dI) vwCl [(nb, .inr (1, [.ref q_1, .ref q_3, .ref q_5, .ref q_7, .ref q_12, .ref q_15, .ref q_18, .ref q_21, .ref q_23, .ref q_25, .int 0])), (q_1, .inl (c_2, 6, .inr (.inr (.inr (.inr f_33))))), (q_3, .inl (c_4, 6, .inr (.inr (.inr (.inr (fun _ => none)))))), (q_28, .inr (4, [.ref r_31, .ref n_32, .int 0, .int 0, .int 0, .int 0, .int 0, .int 0]))] H := hP
  have hD : va_D A [(nb, .inr (1, [.ref q_1, .ref q_3, .ref q_5, .ref q_7, .ref q_12, .ref q_15, .ref q_18, .ref q_21, .ref q_23, .ref q_25, .int 0])), (q_1, .inl (c_2, 6, .inr (.inr (.inr (.inr f_33))))), (q_3, .inl (c_4, 6, .inr (.inr (.inr (.inr (fun _ => none)))))), (q_28, .inr (4, [.ref r_31, .ref n_32, .int 0, .int 0, .int 0, .int 0, .int 0, .int 0]))] := hD
  refine lv_aload_n hx hb dX1_init_127 rfl (lv_at hl 1 rfl) ?_
  refine va_get (D := (dC, dI)) (ci := 1) (v := .ref q_3) (C := RX1) (T := TX1) (N := 11) hx hb hts fin_X1_init_X1 hown hK hP 0 rfl rfl 1 (by decide) (hts (.fieldLink RX1 17 "PatternGate$Compiler" "branches" "[LPatternGate$Part;") (List.mem_of_getElem? (i := 6) (by decide +kernel))) (fun _ h9 => h9) rfl dX1_init_128 ?_
  refine lv_iload_n hx hb dX1_init_131 rfl (lv_at hl 0 rfl) ?_
  refine va_new (ci := 4) (fs := [.null, .null, .int 0, .int 0, .int 0, .int 0, .int 0, .int 0]) (C := RX4) (T := TX4) (N := 8) hx hb hts fin_X1_init_X4 tyX4 tyX4_ok hown (hts (.classLink RX1 9 RX4) (List.mem_of_getElem? (i := 4) (by decide +kernel))) (hts (.instantiable RX4 8) (List.mem_of_getElem? (i := 9) (by decide +kernel))) (hts (.initialized RX4) (List.mem_of_getElem? (i := 10) (by decide +kernel))) hK hP hD hS hA rfl (fun j hj => by rcases (show j = 0 ∨ j = 1 ∨ j = 2 ∨ j = 3 ∨ j = 4 ∨ j = 5 ∨ j = 6 ∨ j = 7 by omega) with rfl | rfl | rfl | rfl | rfl | rfl | rfl | rfl <;> rfl) (Nat.le_of_ble_eq_true rfl) (Nat.le_of_ble_eq_true rfl) dX1_init_132 (fun q_34 H hP hD hS => ?_)
  have hP : va_P (dC, dI) vwCl [(nb, .inr (1, [.ref q_1, .ref q_3, .ref q_5, .ref q_7, .ref q_12, .ref q_15, .ref q_18, .ref q_21, .ref q_23, .ref q_25, .int 0])), (q_1, .inl (c_2, 6, .inr (.inr (.inr (.inr f_33))))), (q_3, .inl (c_4, 6, .inr (.inr (.inr (.inr (fun _ => none)))))), (q_28, .inr (4, [.ref r_31, .ref n_32, .int 0, .int 0, .int 0, .int 0, .int 0, .int 0])), (q_34, .inr (4, [.null, .null, .int 0, .int 0, .int 0, .int 0, .int 0, .int 0]))] H := hP
  have hD : va_D A [(nb, .inr (1, [.ref q_1, .ref q_3, .ref q_5, .ref q_7, .ref q_12, .ref q_15, .ref q_18, .ref q_21, .ref q_23, .ref q_25, .int 0])), (q_1, .inl (c_2, 6, .inr (.inr (.inr (.inr f_33))))), (q_3, .inl (c_4, 6, .inr (.inr (.inr (.inr (fun _ => none)))))), (q_28, .inr (4, [.ref r_31, .ref n_32, .int 0, .int 0, .int 0, .int 0, .int 0, .int 0])), (q_34, .inr (4, [.null, .null, .int 0, .int 0, .int 0, .int 0, .int 0, .int 0]))] := hD
  refine W.widen (k := 27) (n := 4506) (by omega) (by omega) ?_
  refine lv_dup hx hb dX1_init_135 rfl ?_
  have hPc := hP.sub (ws' := [(q_34, .inr (4, [.null, .null, .int 0, .int 0, .int 0, .int 0, .int 0, .int 0]))]) [4] rfl
  have hKc := hK.sub (tys' := []) [] rfl
  have hDc := hD.sub (ws' := [(q_34, .inr (4, [.null, .null, .int 0, .int 0, .int 0, .int 0, .int 0, .int 0]))]) [4] (by decide) rfl
  have hFc := va_free (wc := [(q_34, .inr (4, [.null, .null, .int 0, .int 0, .int 0, .int 0, .int 0, .int 0]))]) hD hS hA [4] rfl
  refine va_callv (va_runIN (As := []) (rest := [.ref q_34, .int 0, .ref q_3]) ⟨hx, hb, hml, hown, hts⟩ (c_Part l dC dI q_34 H.size) ⟨va_cnB 0 hts mg_X1_init_X4_init_24 rfl rfl rfl hN24 (hts (.initialized RX4) (List.mem_of_getElem? (i := 10) (by decide +kernel))) (by decide +kernel) ⟨Nat.le_of_ble_eq_true rfl, Nat.le_of_ble_eq_true rfl⟩, rfl, (hts (.instanceMethod yX4_init) (List.mem_of_getElem? (i := 38) (by decide +kernel)))⟩ ⟨fun a U g mk q => by obtain ⟨q0, q1, qP, qK, qD, qE0⟩ := q; exact ⟨q0, q1, qP, va_K.moved (u := U) (U := U.calling g mk a) (Vm.Alike.refl U.vm) qK, qD, va_Nw.same rfl (rfl : U.vm = (U.calling g mk a).vm) qE0⟩, fun U hU hW => ⟨rfl, by rw [hU], by rw [hU]; exact hPc, va_K.moved hW.alike hKc, hDc.weaken (fun _ _ _ _ => trivial), va_Nw.warmM hW hN11⟩⟩ rfl rfl hl.1 rfl (lv_room (Nat.le_of_ble_eq_true rfl)) dX1_init_136 ⟨Nat.le_of_ble_eq_true rfl, Nat.le_of_ble_eq_true rfl⟩) hS (fun q _ h => hFc q h) hFc (fun u t H1 locs ht hvm hw hB hz1 hk1 hS => ?_)
  obtain ⟨r_37, n_38, hP1, hK1, hD1⟩ := hB
  rw [ht] at hP1
  obtain ⟨hP, hD⟩ := va_join (wr := [(nb, .inr (1, [.ref q_1, .ref q_3, .ref q_5, .ref q_7, .ref q_12, .ref q_15, .ref q_18, .ref q_21, .ref q_23, .ref q_25, .int 0])), (q_1, .inl (c_2, 6, .inr (.inr (.inr (.inr f_33))))), (q_3, .inl (c_4, 6, .inr (.inr (.inr (.inr (fun _ => none)))))), (q_28, .inr (4, [.ref r_31, .ref n_32, .int 0, .int 0, .int 0, .int 0, .int 0, .int 0]))]) (w1 := [(q_34, .inr (4, [.ref r_37, .ref n_38, .int 0, .int 0, .int 0, .int 0, .int 0, .int 0]))]) hP hD [4] [0, 1, 2, 3] rfl rfl (by decide) (by decide) hk1 hFc hP1 hD1
  generalize H1 = H at hP hS ⊢
  have hP : va_P (dC, dI) vwCl [(nb, .inr (1, [.ref q_1, .ref q_3, .ref q_5, .ref q_7, .ref q_12, .ref q_15, .ref q_18, .ref q_21, .ref q_23, .ref q_25, .int 0])), (q_1, .inl (c_2, 6, .inr (.inr (.inr (.inr f_33))))), (q_3, .inl (c_4, 6, .inr (.inr (.inr (.inr (fun _ => none)))))), (q_28, .inr (4, [.ref r_31, .ref n_32, .int 0, .int 0, .int 0, .int 0, .int 0, .int 0])), (q_34, .inr (4, [.ref r_37, .ref n_38, .int 0, .int 0, .int 0, .int 0, .int 0, .int 0]))] H := hP
  have hD : va_D A [(nb, .inr (1, [.ref q_1, .ref q_3, .ref q_5, .ref q_7, .ref q_12, .ref q_15, .ref q_18, .ref q_21, .ref q_23, .ref q_25, .int 0])), (q_1, .inl (c_2, 6, .inr (.inr (.inr (.inr f_33))))), (q_3, .inl (c_4, 6, .inr (.inr (.inr (.inr (fun _ => none)))))), (q_28, .inr (4, [.ref r_31, .ref n_32, .int 0, .int 0, .int 0, .int 0, .int 0, .int 0])), (q_34, .inr (4, [.ref r_37, .ref n_38, .int 0, .int 0, .int 0, .int 0, .int 0, .int 0]))] := hD
  refine W.widen (k := 32) (n := 4818) (by omega) (by omega) ?_
  refine va_astq (r := (RX4, TX4, 8)) hx hb hK hP hD hS 2 1 4 4 rfl rfl rfl rfl (i := 0) (by unfold vp_in; decide +kernel) dX1_init_139 (fun H locs hP hD hS => ?_)
  generalize hf_f_39 : va_up (fun _ => none) _ _ = f_39 at hP hD
  have hP : va_P (dC, dI) vwCl [(nb, .inr (1, [.ref q_1, .ref q_3, .ref q_5, .ref q_7, .ref q_12, .ref q_15, .ref q_18, .ref q_21, .ref q_23, .ref q_25, .int 0])), (q_1, .inl (c_2, 6, .inr (.inr (.inr (.inr f_33))))), (q_3, .inl (c_4, 6, .inr (.inr (.inr (.inr f_39))))), (q_28, .inr (4, [.ref r_31, .ref n_32, .int 0, .int 0, .int 0, .int 0, .int 0, .int 0])), (q_34, .inr (4, [.ref r_37, .ref n_38, .int 0, .int 0, .int 0, .int 0, .int 0, .int 0]))] H := hP
  have hD : va_D A [(nb, .inr (1, [.ref q_1, .ref q_3, .ref q_5, .ref q_7, .ref q_12, .ref q_15, .ref q_18, .ref q_21, .ref q_23, .ref q_25, .int 0])), (q_1, .inl (c_2, 6, .inr (.inr (.inr (.inr f_33))))), (q_3, .inl (c_4, 6, .inr (.inr (.inr (.inr f_39))))), (q_28, .inr (4, [.ref r_31, .ref n_32, .int 0, .int 0, .int 0, .int 0, .int 0, .int 0])), (q_34, .inr (4, [.ref r_37, .ref n_38, .int 0, .int 0, .int 0, .int 0, .int 0, .int 0]))] := hD
  refine lv_iinc (v := 1) (lv' := [(1, .int 1), (0, .ref nb)]) hx hb dX1_init_140 hl (k := 0) rfl (by decide) (by decide) rfl (fun ls hl => ?_)
  refine lv_goto (tgt := 105) hx hb dX1_init_143 (by decide) ?_
  have hP := hP.sub (ws' := [(nb, .inr (1, [.ref q_1, .ref q_3, .ref q_5, .ref q_7, .ref q_12, .ref q_15, .ref q_18, .ref q_21, .ref q_23, .ref q_25, .int 0])), (q_1, .inl (c_2, 6, .inr (.inr (.inr (.inr f_33))))), (q_3, .inl (c_4, 6, .inr (.inr (.inr (.inr f_39)))))]) [0, 1, 2] rfl
  have hD := hD.sub (ws' := [(nb, .inr (1, [.ref q_1, .ref q_3, .ref q_5, .ref q_7, .ref q_12, .ref q_15, .ref q_18, .ref q_21, .ref q_23, .ref q_25, .int 0])), (q_1, .inl (c_2, 6, .inr (.inr (.inr (.inr f_33))))), (q_3, .inl (c_4, 6, .inr (.inr (.inr (.inr f_39)))))]) [0, 1, 2] (by decide) rfl
  refine lv_iload_n hx hb dX1_init_105 rfl (lv_at hl 0 rfl) ?_
  refine lv_aload_n hx hb dX1_init_106 rfl (lv_at hl 1 rfl) ?_
  refine va_get (D := (dC, dI)) (ci := 1) (v := .ref q_1) (C := RX1) (T := TX1) (N := 11) hx hb hts fin_X1_init_X1 hown hK hP 0 rfl rfl 0 (by decide) (hts (.fieldLink RX1 11 "PatternGate$Compiler" "wholes" "[LPatternGate$Part;") (List.mem_of_getElem? (i := 5) (by decide +kernel))) (fun _ h9 => h9) rfl dX1_init_107 ?_
  refine va_alen (v := 6) hx hb hK hP 1 0 rfl rfl rfl dX1_init_110 ?_
  refine lv_icmp_ge (tgt := 146) hx hb dX1_init_111 (by decide) (fun k_40 => absurd k_40 (by decide)) (fun k_40 => ?_)
  refine lv_aload_n hx hb dX1_init_114 rfl (lv_at hl 1 rfl) ?_
  refine va_get (D := (dC, dI)) (ci := 1) (v := .ref q_1) (C := RX1) (T := TX1) (N := 11) hx hb hts fin_X1_init_X1 hown hK hP 0 rfl rfl 0 (by decide) (hts (.fieldLink RX1 11 "PatternGate$Compiler" "wholes" "[LPatternGate$Part;") (List.mem_of_getElem? (i := 5) (by decide +kernel))) (fun _ h9 => h9) rfl dX1_init_115 ?_
  refine lv_iload_n hx hb dX1_init_118 rfl (lv_at hl 0 rfl) ?_
  refine va_new (ci := 4) (fs := [.null, .null, .int 0, .int 0, .int 0, .int 0, .int 0, .int 0]) (C := RX4) (T := TX4) (N := 8) hx hb hts fin_X1_init_X4 tyX4 tyX4_ok hown (hts (.classLink RX1 9 RX4) (List.mem_of_getElem? (i := 4) (by decide +kernel))) (hts (.instantiable RX4 8) (List.mem_of_getElem? (i := 9) (by decide +kernel))) (hts (.initialized RX4) (List.mem_of_getElem? (i := 10) (by decide +kernel))) hK hP hD hS hA rfl (fun j hj => by rcases (show j = 0 ∨ j = 1 ∨ j = 2 ∨ j = 3 ∨ j = 4 ∨ j = 5 ∨ j = 6 ∨ j = 7 by omega) with rfl | rfl | rfl | rfl | rfl | rfl | rfl | rfl <;> rfl) (Nat.le_of_ble_eq_true rfl) (Nat.le_of_ble_eq_true rfl) dX1_init_119 (fun q_41 H hP hD hS => ?_)
  have hP : va_P (dC, dI) vwCl [(nb, .inr (1, [.ref q_1, .ref q_3, .ref q_5, .ref q_7, .ref q_12, .ref q_15, .ref q_18, .ref q_21, .ref q_23, .ref q_25, .int 0])), (q_1, .inl (c_2, 6, .inr (.inr (.inr (.inr f_33))))), (q_3, .inl (c_4, 6, .inr (.inr (.inr (.inr f_39))))), (q_41, .inr (4, [.null, .null, .int 0, .int 0, .int 0, .int 0, .int 0, .int 0]))] H := hP
  have hD : va_D A [(nb, .inr (1, [.ref q_1, .ref q_3, .ref q_5, .ref q_7, .ref q_12, .ref q_15, .ref q_18, .ref q_21, .ref q_23, .ref q_25, .int 0])), (q_1, .inl (c_2, 6, .inr (.inr (.inr (.inr f_33))))), (q_3, .inl (c_4, 6, .inr (.inr (.inr (.inr f_39))))), (q_41, .inr (4, [.null, .null, .int 0, .int 0, .int 0, .int 0, .int 0, .int 0]))] := hD
  refine W.widen (k := 33) (n := 4826) (by omega) (by omega) ?_
  refine lv_dup hx hb dX1_init_122 rfl ?_
  have hPc := hP.sub (ws' := [(q_41, .inr (4, [.null, .null, .int 0, .int 0, .int 0, .int 0, .int 0, .int 0]))]) [3] rfl
  have hKc := hK.sub (tys' := []) [] rfl
  have hDc := hD.sub (ws' := [(q_41, .inr (4, [.null, .null, .int 0, .int 0, .int 0, .int 0, .int 0, .int 0]))]) [3] (by decide) rfl
  have hFc := va_free (wc := [(q_41, .inr (4, [.null, .null, .int 0, .int 0, .int 0, .int 0, .int 0, .int 0]))]) hD hS hA [3] rfl
  refine va_callv (va_runIN (As := []) (rest := [.ref q_41, .int 1, .ref q_1]) ⟨hx, hb, hml, hown, hts⟩ (c_Part l dC dI q_41 H.size) ⟨va_cnB 0 hts mg_X1_init_X4_init_24 rfl rfl rfl hN24 (hts (.initialized RX4) (List.mem_of_getElem? (i := 10) (by decide +kernel))) (by decide +kernel) ⟨Nat.le_of_ble_eq_true rfl, Nat.le_of_ble_eq_true rfl⟩, rfl, (hts (.instanceMethod yX4_init) (List.mem_of_getElem? (i := 38) (by decide +kernel)))⟩ ⟨fun a U g mk q => by obtain ⟨q0, q1, qP, qK, qD, qE0⟩ := q; exact ⟨q0, q1, qP, va_K.moved (u := U) (U := U.calling g mk a) (Vm.Alike.refl U.vm) qK, qD, va_Nw.same rfl (rfl : U.vm = (U.calling g mk a).vm) qE0⟩, fun U hU hW => ⟨rfl, by rw [hU], by rw [hU]; exact hPc, va_K.moved hW.alike hKc, hDc.weaken (fun _ _ _ _ => trivial), va_Nw.warmM hW hN11⟩⟩ rfl rfl hl.1 rfl (lv_room (Nat.le_of_ble_eq_true rfl)) dX1_init_123 ⟨Nat.le_of_ble_eq_true rfl, Nat.le_of_ble_eq_true rfl⟩) hS (fun q _ h => hFc q h) hFc (fun u t H1 locs ht hvm hw hB hz1 hk1 hS => ?_)
  obtain ⟨r_44, n_45, hP1, hK1, hD1⟩ := hB
  rw [ht] at hP1
  obtain ⟨hP, hD⟩ := va_join (wr := [(nb, .inr (1, [.ref q_1, .ref q_3, .ref q_5, .ref q_7, .ref q_12, .ref q_15, .ref q_18, .ref q_21, .ref q_23, .ref q_25, .int 0])), (q_1, .inl (c_2, 6, .inr (.inr (.inr (.inr f_33))))), (q_3, .inl (c_4, 6, .inr (.inr (.inr (.inr f_39)))))]) (w1 := [(q_41, .inr (4, [.ref r_44, .ref n_45, .int 0, .int 0, .int 0, .int 0, .int 0, .int 0]))]) hP hD [3] [0, 1, 2] rfl rfl (by decide) (by decide) hk1 hFc hP1 hD1
  generalize H1 = H at hP hS ⊢
  have hP : va_P (dC, dI) vwCl [(nb, .inr (1, [.ref q_1, .ref q_3, .ref q_5, .ref q_7, .ref q_12, .ref q_15, .ref q_18, .ref q_21, .ref q_23, .ref q_25, .int 0])), (q_1, .inl (c_2, 6, .inr (.inr (.inr (.inr f_33))))), (q_3, .inl (c_4, 6, .inr (.inr (.inr (.inr f_39))))), (q_41, .inr (4, [.ref r_44, .ref n_45, .int 0, .int 0, .int 0, .int 0, .int 0, .int 0]))] H := hP
  have hD : va_D A [(nb, .inr (1, [.ref q_1, .ref q_3, .ref q_5, .ref q_7, .ref q_12, .ref q_15, .ref q_18, .ref q_21, .ref q_23, .ref q_25, .int 0])), (q_1, .inl (c_2, 6, .inr (.inr (.inr (.inr f_33))))), (q_3, .inl (c_4, 6, .inr (.inr (.inr (.inr f_39))))), (q_41, .inr (4, [.ref r_44, .ref n_45, .int 0, .int 0, .int 0, .int 0, .int 0, .int 0]))] := hD
  refine W.widen (k := 38) (n := 5138) (by omega) (by omega) ?_
  refine va_astq (r := (RX4, TX4, 8)) hx hb hK hP hD hS 1 0 3 4 rfl rfl rfl rfl (i := 1) (by unfold vp_in; decide +kernel) dX1_init_126 (fun H locs hP hD hS => ?_)
  generalize hf_f_46 : va_up f_33 _ _ = f_46 at hP hD
  have hP : va_P (dC, dI) vwCl [(nb, .inr (1, [.ref q_1, .ref q_3, .ref q_5, .ref q_7, .ref q_12, .ref q_15, .ref q_18, .ref q_21, .ref q_23, .ref q_25, .int 0])), (q_1, .inl (c_2, 6, .inr (.inr (.inr (.inr f_46))))), (q_3, .inl (c_4, 6, .inr (.inr (.inr (.inr f_39))))), (q_41, .inr (4, [.ref r_44, .ref n_45, .int 0, .int 0, .int 0, .int 0, .int 0, .int 0]))] H := hP
  have hD : va_D A [(nb, .inr (1, [.ref q_1, .ref q_3, .ref q_5, .ref q_7, .ref q_12, .ref q_15, .ref q_18, .ref q_21, .ref q_23, .ref q_25, .int 0])), (q_1, .inl (c_2, 6, .inr (.inr (.inr (.inr f_46))))), (q_3, .inl (c_4, 6, .inr (.inr (.inr (.inr f_39))))), (q_41, .inr (4, [.ref r_44, .ref n_45, .int 0, .int 0, .int 0, .int 0, .int 0, .int 0]))] := hD
  refine lv_aload_n hx hb dX1_init_127 rfl (lv_at hl 1 rfl) ?_
  refine va_get (D := (dC, dI)) (ci := 1) (v := .ref q_3) (C := RX1) (T := TX1) (N := 11) hx hb hts fin_X1_init_X1 hown hK hP 0 rfl rfl 1 (by decide) (hts (.fieldLink RX1 17 "PatternGate$Compiler" "branches" "[LPatternGate$Part;") (List.mem_of_getElem? (i := 6) (by decide +kernel))) (fun _ h9 => h9) rfl dX1_init_128 ?_
  refine lv_iload_n hx hb dX1_init_131 rfl (lv_at hl 0 rfl) ?_
  refine va_new (ci := 4) (fs := [.null, .null, .int 0, .int 0, .int 0, .int 0, .int 0, .int 0]) (C := RX4) (T := TX4) (N := 8) hx hb hts fin_X1_init_X4 tyX4 tyX4_ok hown (hts (.classLink RX1 9 RX4) (List.mem_of_getElem? (i := 4) (by decide +kernel))) (hts (.instantiable RX4 8) (List.mem_of_getElem? (i := 9) (by decide +kernel))) (hts (.initialized RX4) (List.mem_of_getElem? (i := 10) (by decide +kernel))) hK hP hD hS hA rfl (fun j hj => by rcases (show j = 0 ∨ j = 1 ∨ j = 2 ∨ j = 3 ∨ j = 4 ∨ j = 5 ∨ j = 6 ∨ j = 7 by omega) with rfl | rfl | rfl | rfl | rfl | rfl | rfl | rfl <;> rfl) (Nat.le_of_ble_eq_true rfl) (Nat.le_of_ble_eq_true rfl) dX1_init_132 (fun q_47 H hP hD hS => ?_)
  have hP : va_P (dC, dI) vwCl [(nb, .inr (1, [.ref q_1, .ref q_3, .ref q_5, .ref q_7, .ref q_12, .ref q_15, .ref q_18, .ref q_21, .ref q_23, .ref q_25, .int 0])), (q_1, .inl (c_2, 6, .inr (.inr (.inr (.inr f_46))))), (q_3, .inl (c_4, 6, .inr (.inr (.inr (.inr f_39))))), (q_41, .inr (4, [.ref r_44, .ref n_45, .int 0, .int 0, .int 0, .int 0, .int 0, .int 0])), (q_47, .inr (4, [.null, .null, .int 0, .int 0, .int 0, .int 0, .int 0, .int 0]))] H := hP
  have hD : va_D A [(nb, .inr (1, [.ref q_1, .ref q_3, .ref q_5, .ref q_7, .ref q_12, .ref q_15, .ref q_18, .ref q_21, .ref q_23, .ref q_25, .int 0])), (q_1, .inl (c_2, 6, .inr (.inr (.inr (.inr f_46))))), (q_3, .inl (c_4, 6, .inr (.inr (.inr (.inr f_39))))), (q_41, .inr (4, [.ref r_44, .ref n_45, .int 0, .int 0, .int 0, .int 0, .int 0, .int 0])), (q_47, .inr (4, [.null, .null, .int 0, .int 0, .int 0, .int 0, .int 0, .int 0]))] := hD
  refine W.widen (k := 39) (n := 5146) (by omega) (by omega) ?_
  refine lv_dup hx hb dX1_init_135 rfl ?_
  have hPc := hP.sub (ws' := [(q_47, .inr (4, [.null, .null, .int 0, .int 0, .int 0, .int 0, .int 0, .int 0]))]) [4] rfl
  have hKc := hK.sub (tys' := []) [] rfl
  have hDc := hD.sub (ws' := [(q_47, .inr (4, [.null, .null, .int 0, .int 0, .int 0, .int 0, .int 0, .int 0]))]) [4] (by decide) rfl
  have hFc := va_free (wc := [(q_47, .inr (4, [.null, .null, .int 0, .int 0, .int 0, .int 0, .int 0, .int 0]))]) hD hS hA [4] rfl
  refine va_callv (va_runIN (As := []) (rest := [.ref q_47, .int 1, .ref q_3]) ⟨hx, hb, hml, hown, hts⟩ (c_Part l dC dI q_47 H.size) ⟨va_cnB 0 hts mg_X1_init_X4_init_24 rfl rfl rfl hN24 (hts (.initialized RX4) (List.mem_of_getElem? (i := 10) (by decide +kernel))) (by decide +kernel) ⟨Nat.le_of_ble_eq_true rfl, Nat.le_of_ble_eq_true rfl⟩, rfl, (hts (.instanceMethod yX4_init) (List.mem_of_getElem? (i := 38) (by decide +kernel)))⟩ ⟨fun a U g mk q => by obtain ⟨q0, q1, qP, qK, qD, qE0⟩ := q; exact ⟨q0, q1, qP, va_K.moved (u := U) (U := U.calling g mk a) (Vm.Alike.refl U.vm) qK, qD, va_Nw.same rfl (rfl : U.vm = (U.calling g mk a).vm) qE0⟩, fun U hU hW => ⟨rfl, by rw [hU], by rw [hU]; exact hPc, va_K.moved hW.alike hKc, hDc.weaken (fun _ _ _ _ => trivial), va_Nw.warmM hW hN11⟩⟩ rfl rfl hl.1 rfl (lv_room (Nat.le_of_ble_eq_true rfl)) dX1_init_136 ⟨Nat.le_of_ble_eq_true rfl, Nat.le_of_ble_eq_true rfl⟩) hS (fun q _ h => hFc q h) hFc (fun u t H1 locs ht hvm hw hB hz1 hk1 hS => ?_)
  obtain ⟨r_50, n_51, hP1, hK1, hD1⟩ := hB
  rw [ht] at hP1
  obtain ⟨hP, hD⟩ := va_join (wr := [(nb, .inr (1, [.ref q_1, .ref q_3, .ref q_5, .ref q_7, .ref q_12, .ref q_15, .ref q_18, .ref q_21, .ref q_23, .ref q_25, .int 0])), (q_1, .inl (c_2, 6, .inr (.inr (.inr (.inr f_46))))), (q_3, .inl (c_4, 6, .inr (.inr (.inr (.inr f_39))))), (q_41, .inr (4, [.ref r_44, .ref n_45, .int 0, .int 0, .int 0, .int 0, .int 0, .int 0]))]) (w1 := [(q_47, .inr (4, [.ref r_50, .ref n_51, .int 0, .int 0, .int 0, .int 0, .int 0, .int 0]))]) hP hD [4] [0, 1, 2, 3] rfl rfl (by decide) (by decide) hk1 hFc hP1 hD1
  generalize H1 = H at hP hS ⊢
  have hP : va_P (dC, dI) vwCl [(nb, .inr (1, [.ref q_1, .ref q_3, .ref q_5, .ref q_7, .ref q_12, .ref q_15, .ref q_18, .ref q_21, .ref q_23, .ref q_25, .int 0])), (q_1, .inl (c_2, 6, .inr (.inr (.inr (.inr f_46))))), (q_3, .inl (c_4, 6, .inr (.inr (.inr (.inr f_39))))), (q_41, .inr (4, [.ref r_44, .ref n_45, .int 0, .int 0, .int 0, .int 0, .int 0, .int 0])), (q_47, .inr (4, [.ref r_50, .ref n_51, .int 0, .int 0, .int 0, .int 0, .int 0, .int 0]))] H := hP
  have hD : va_D A [(nb, .inr (1, [.ref q_1, .ref q_3, .ref q_5, .ref q_7, .ref q_12, .ref q_15, .ref q_18, .ref q_21, .ref q_23, .ref q_25, .int 0])), (q_1, .inl (c_2, 6, .inr (.inr (.inr (.inr f_46))))), (q_3, .inl (c_4, 6, .inr (.inr (.inr (.inr f_39))))), (q_41, .inr (4, [.ref r_44, .ref n_45, .int 0, .int 0, .int 0, .int 0, .int 0, .int 0])), (q_47, .inr (4, [.ref r_50, .ref n_51, .int 0, .int 0, .int 0, .int 0, .int 0, .int 0]))] := hD
  refine W.widen (k := 44) (n := 5458) (by omega) (by omega) ?_
  refine va_astq (r := (RX4, TX4, 8)) hx hb hK hP hD hS 2 1 4 4 rfl rfl rfl rfl (i := 1) (by unfold vp_in; decide +kernel) dX1_init_139 (fun H locs hP hD hS => ?_)
  generalize hf_f_52 : va_up f_39 _ _ = f_52 at hP hD
  have hP : va_P (dC, dI) vwCl [(nb, .inr (1, [.ref q_1, .ref q_3, .ref q_5, .ref q_7, .ref q_12, .ref q_15, .ref q_18, .ref q_21, .ref q_23, .ref q_25, .int 0])), (q_1, .inl (c_2, 6, .inr (.inr (.inr (.inr f_46))))), (q_3, .inl (c_4, 6, .inr (.inr (.inr (.inr f_52))))), (q_41, .inr (4, [.ref r_44, .ref n_45, .int 0, .int 0, .int 0, .int 0, .int 0, .int 0])), (q_47, .inr (4, [.ref r_50, .ref n_51, .int 0, .int 0, .int 0, .int 0, .int 0, .int 0]))] H := hP
  have hD : va_D A [(nb, .inr (1, [.ref q_1, .ref q_3, .ref q_5, .ref q_7, .ref q_12, .ref q_15, .ref q_18, .ref q_21, .ref q_23, .ref q_25, .int 0])), (q_1, .inl (c_2, 6, .inr (.inr (.inr (.inr f_46))))), (q_3, .inl (c_4, 6, .inr (.inr (.inr (.inr f_52))))), (q_41, .inr (4, [.ref r_44, .ref n_45, .int 0, .int 0, .int 0, .int 0, .int 0, .int 0])), (q_47, .inr (4, [.ref r_50, .ref n_51, .int 0, .int 0, .int 0, .int 0, .int 0, .int 0]))] := hD
  refine lv_iinc (v := 2) (lv' := [(1, .int 2), (0, .ref nb)]) hx hb dX1_init_140 hl (k := 0) rfl (by decide) (by decide) rfl (fun ls hl => ?_)
  refine lv_goto (tgt := 105) hx hb dX1_init_143 (by decide) ?_
  have hP := hP.sub (ws' := [(nb, .inr (1, [.ref q_1, .ref q_3, .ref q_5, .ref q_7, .ref q_12, .ref q_15, .ref q_18, .ref q_21, .ref q_23, .ref q_25, .int 0])), (q_1, .inl (c_2, 6, .inr (.inr (.inr (.inr f_46))))), (q_3, .inl (c_4, 6, .inr (.inr (.inr (.inr f_52)))))]) [0, 1, 2] rfl
  have hD := hD.sub (ws' := [(nb, .inr (1, [.ref q_1, .ref q_3, .ref q_5, .ref q_7, .ref q_12, .ref q_15, .ref q_18, .ref q_21, .ref q_23, .ref q_25, .int 0])), (q_1, .inl (c_2, 6, .inr (.inr (.inr (.inr f_46))))), (q_3, .inl (c_4, 6, .inr (.inr (.inr (.inr f_52)))))]) [0, 1, 2] (by decide) rfl
  refine lv_iload_n hx hb dX1_init_105 rfl (lv_at hl 0 rfl) ?_
  refine lv_aload_n hx hb dX1_init_106 rfl (lv_at hl 1 rfl) ?_
  refine va_get (D := (dC, dI)) (ci := 1) (v := .ref q_1) (C := RX1) (T := TX1) (N := 11) hx hb hts fin_X1_init_X1 hown hK hP 0 rfl rfl 0 (by decide) (hts (.fieldLink RX1 11 "PatternGate$Compiler" "wholes" "[LPatternGate$Part;") (List.mem_of_getElem? (i := 5) (by decide +kernel))) (fun _ h9 => h9) rfl dX1_init_107 ?_
  refine va_alen (v := 6) hx hb hK hP 1 0 rfl rfl rfl dX1_init_110 ?_
  refine lv_icmp_ge (tgt := 146) hx hb dX1_init_111 (by decide) (fun k_53 => absurd k_53 (by decide)) (fun k_53 => ?_)
  refine lv_aload_n hx hb dX1_init_114 rfl (lv_at hl 1 rfl) ?_
  refine va_get (D := (dC, dI)) (ci := 1) (v := .ref q_1) (C := RX1) (T := TX1) (N := 11) hx hb hts fin_X1_init_X1 hown hK hP 0 rfl rfl 0 (by decide) (hts (.fieldLink RX1 11 "PatternGate$Compiler" "wholes" "[LPatternGate$Part;") (List.mem_of_getElem? (i := 5) (by decide +kernel))) (fun _ h9 => h9) rfl dX1_init_115 ?_
  refine lv_iload_n hx hb dX1_init_118 rfl (lv_at hl 0 rfl) ?_
  refine va_new (ci := 4) (fs := [.null, .null, .int 0, .int 0, .int 0, .int 0, .int 0, .int 0]) (C := RX4) (T := TX4) (N := 8) hx hb hts fin_X1_init_X4 tyX4 tyX4_ok hown (hts (.classLink RX1 9 RX4) (List.mem_of_getElem? (i := 4) (by decide +kernel))) (hts (.instantiable RX4 8) (List.mem_of_getElem? (i := 9) (by decide +kernel))) (hts (.initialized RX4) (List.mem_of_getElem? (i := 10) (by decide +kernel))) hK hP hD hS hA rfl (fun j hj => by rcases (show j = 0 ∨ j = 1 ∨ j = 2 ∨ j = 3 ∨ j = 4 ∨ j = 5 ∨ j = 6 ∨ j = 7 by omega) with rfl | rfl | rfl | rfl | rfl | rfl | rfl | rfl <;> rfl) (Nat.le_of_ble_eq_true rfl) (Nat.le_of_ble_eq_true rfl) dX1_init_119 (fun q_54 H hP hD hS => ?_)
  have hP : va_P (dC, dI) vwCl [(nb, .inr (1, [.ref q_1, .ref q_3, .ref q_5, .ref q_7, .ref q_12, .ref q_15, .ref q_18, .ref q_21, .ref q_23, .ref q_25, .int 0])), (q_1, .inl (c_2, 6, .inr (.inr (.inr (.inr f_46))))), (q_3, .inl (c_4, 6, .inr (.inr (.inr (.inr f_52))))), (q_54, .inr (4, [.null, .null, .int 0, .int 0, .int 0, .int 0, .int 0, .int 0]))] H := hP
  have hD : va_D A [(nb, .inr (1, [.ref q_1, .ref q_3, .ref q_5, .ref q_7, .ref q_12, .ref q_15, .ref q_18, .ref q_21, .ref q_23, .ref q_25, .int 0])), (q_1, .inl (c_2, 6, .inr (.inr (.inr (.inr f_46))))), (q_3, .inl (c_4, 6, .inr (.inr (.inr (.inr f_52))))), (q_54, .inr (4, [.null, .null, .int 0, .int 0, .int 0, .int 0, .int 0, .int 0]))] := hD
  refine W.widen (k := 45) (n := 5466) (by omega) (by omega) ?_
  refine lv_dup hx hb dX1_init_122 rfl ?_
  have hPc := hP.sub (ws' := [(q_54, .inr (4, [.null, .null, .int 0, .int 0, .int 0, .int 0, .int 0, .int 0]))]) [3] rfl
  have hKc := hK.sub (tys' := []) [] rfl
  have hDc := hD.sub (ws' := [(q_54, .inr (4, [.null, .null, .int 0, .int 0, .int 0, .int 0, .int 0, .int 0]))]) [3] (by decide) rfl
  have hFc := va_free (wc := [(q_54, .inr (4, [.null, .null, .int 0, .int 0, .int 0, .int 0, .int 0, .int 0]))]) hD hS hA [3] rfl
  refine va_callv (va_runIN (As := []) (rest := [.ref q_54, .int 2, .ref q_1]) ⟨hx, hb, hml, hown, hts⟩ (c_Part l dC dI q_54 H.size) ⟨va_cnB 0 hts mg_X1_init_X4_init_24 rfl rfl rfl hN24 (hts (.initialized RX4) (List.mem_of_getElem? (i := 10) (by decide +kernel))) (by decide +kernel) ⟨Nat.le_of_ble_eq_true rfl, Nat.le_of_ble_eq_true rfl⟩, rfl, (hts (.instanceMethod yX4_init) (List.mem_of_getElem? (i := 38) (by decide +kernel)))⟩ ⟨fun a U g mk q => by obtain ⟨q0, q1, qP, qK, qD, qE0⟩ := q; exact ⟨q0, q1, qP, va_K.moved (u := U) (U := U.calling g mk a) (Vm.Alike.refl U.vm) qK, qD, va_Nw.same rfl (rfl : U.vm = (U.calling g mk a).vm) qE0⟩, fun U hU hW => ⟨rfl, by rw [hU], by rw [hU]; exact hPc, va_K.moved hW.alike hKc, hDc.weaken (fun _ _ _ _ => trivial), va_Nw.warmM hW hN11⟩⟩ rfl rfl hl.1 rfl (lv_room (Nat.le_of_ble_eq_true rfl)) dX1_init_123 ⟨Nat.le_of_ble_eq_true rfl, Nat.le_of_ble_eq_true rfl⟩) hS (fun q _ h => hFc q h) hFc (fun u t H1 locs ht hvm hw hB hz1 hk1 hS => ?_)
  obtain ⟨r_57, n_58, hP1, hK1, hD1⟩ := hB
  rw [ht] at hP1
  obtain ⟨hP, hD⟩ := va_join (wr := [(nb, .inr (1, [.ref q_1, .ref q_3, .ref q_5, .ref q_7, .ref q_12, .ref q_15, .ref q_18, .ref q_21, .ref q_23, .ref q_25, .int 0])), (q_1, .inl (c_2, 6, .inr (.inr (.inr (.inr f_46))))), (q_3, .inl (c_4, 6, .inr (.inr (.inr (.inr f_52)))))]) (w1 := [(q_54, .inr (4, [.ref r_57, .ref n_58, .int 0, .int 0, .int 0, .int 0, .int 0, .int 0]))]) hP hD [3] [0, 1, 2] rfl rfl (by decide) (by decide) hk1 hFc hP1 hD1
  generalize H1 = H at hP hS ⊢
  have hP : va_P (dC, dI) vwCl [(nb, .inr (1, [.ref q_1, .ref q_3, .ref q_5, .ref q_7, .ref q_12, .ref q_15, .ref q_18, .ref q_21, .ref q_23, .ref q_25, .int 0])), (q_1, .inl (c_2, 6, .inr (.inr (.inr (.inr f_46))))), (q_3, .inl (c_4, 6, .inr (.inr (.inr (.inr f_52))))), (q_54, .inr (4, [.ref r_57, .ref n_58, .int 0, .int 0, .int 0, .int 0, .int 0, .int 0]))] H := hP
  have hD : va_D A [(nb, .inr (1, [.ref q_1, .ref q_3, .ref q_5, .ref q_7, .ref q_12, .ref q_15, .ref q_18, .ref q_21, .ref q_23, .ref q_25, .int 0])), (q_1, .inl (c_2, 6, .inr (.inr (.inr (.inr f_46))))), (q_3, .inl (c_4, 6, .inr (.inr (.inr (.inr f_52))))), (q_54, .inr (4, [.ref r_57, .ref n_58, .int 0, .int 0, .int 0, .int 0, .int 0, .int 0]))] := hD
  refine W.widen (k := 50) (n := 5778) (by omega) (by omega) ?_
  refine va_astq (r := (RX4, TX4, 8)) hx hb hK hP hD hS 1 0 3 4 rfl rfl rfl rfl (i := 2) (by unfold vp_in; decide +kernel) dX1_init_126 (fun H locs hP hD hS => ?_)
  generalize hf_f_59 : va_up f_46 _ _ = f_59 at hP hD
  have hP : va_P (dC, dI) vwCl [(nb, .inr (1, [.ref q_1, .ref q_3, .ref q_5, .ref q_7, .ref q_12, .ref q_15, .ref q_18, .ref q_21, .ref q_23, .ref q_25, .int 0])), (q_1, .inl (c_2, 6, .inr (.inr (.inr (.inr f_59))))), (q_3, .inl (c_4, 6, .inr (.inr (.inr (.inr f_52))))), (q_54, .inr (4, [.ref r_57, .ref n_58, .int 0, .int 0, .int 0, .int 0, .int 0, .int 0]))] H := hP
  have hD : va_D A [(nb, .inr (1, [.ref q_1, .ref q_3, .ref q_5, .ref q_7, .ref q_12, .ref q_15, .ref q_18, .ref q_21, .ref q_23, .ref q_25, .int 0])), (q_1, .inl (c_2, 6, .inr (.inr (.inr (.inr f_59))))), (q_3, .inl (c_4, 6, .inr (.inr (.inr (.inr f_52))))), (q_54, .inr (4, [.ref r_57, .ref n_58, .int 0, .int 0, .int 0, .int 0, .int 0, .int 0]))] := hD
  refine lv_aload_n hx hb dX1_init_127 rfl (lv_at hl 1 rfl) ?_
  refine va_get (D := (dC, dI)) (ci := 1) (v := .ref q_3) (C := RX1) (T := TX1) (N := 11) hx hb hts fin_X1_init_X1 hown hK hP 0 rfl rfl 1 (by decide) (hts (.fieldLink RX1 17 "PatternGate$Compiler" "branches" "[LPatternGate$Part;") (List.mem_of_getElem? (i := 6) (by decide +kernel))) (fun _ h9 => h9) rfl dX1_init_128 ?_
  refine lv_iload_n hx hb dX1_init_131 rfl (lv_at hl 0 rfl) ?_
  refine va_new (ci := 4) (fs := [.null, .null, .int 0, .int 0, .int 0, .int 0, .int 0, .int 0]) (C := RX4) (T := TX4) (N := 8) hx hb hts fin_X1_init_X4 tyX4 tyX4_ok hown (hts (.classLink RX1 9 RX4) (List.mem_of_getElem? (i := 4) (by decide +kernel))) (hts (.instantiable RX4 8) (List.mem_of_getElem? (i := 9) (by decide +kernel))) (hts (.initialized RX4) (List.mem_of_getElem? (i := 10) (by decide +kernel))) hK hP hD hS hA rfl (fun j hj => by rcases (show j = 0 ∨ j = 1 ∨ j = 2 ∨ j = 3 ∨ j = 4 ∨ j = 5 ∨ j = 6 ∨ j = 7 by omega) with rfl | rfl | rfl | rfl | rfl | rfl | rfl | rfl <;> rfl) (Nat.le_of_ble_eq_true rfl) (Nat.le_of_ble_eq_true rfl) dX1_init_132 (fun q_60 H hP hD hS => ?_)
  have hP : va_P (dC, dI) vwCl [(nb, .inr (1, [.ref q_1, .ref q_3, .ref q_5, .ref q_7, .ref q_12, .ref q_15, .ref q_18, .ref q_21, .ref q_23, .ref q_25, .int 0])), (q_1, .inl (c_2, 6, .inr (.inr (.inr (.inr f_59))))), (q_3, .inl (c_4, 6, .inr (.inr (.inr (.inr f_52))))), (q_54, .inr (4, [.ref r_57, .ref n_58, .int 0, .int 0, .int 0, .int 0, .int 0, .int 0])), (q_60, .inr (4, [.null, .null, .int 0, .int 0, .int 0, .int 0, .int 0, .int 0]))] H := hP
  have hD : va_D A [(nb, .inr (1, [.ref q_1, .ref q_3, .ref q_5, .ref q_7, .ref q_12, .ref q_15, .ref q_18, .ref q_21, .ref q_23, .ref q_25, .int 0])), (q_1, .inl (c_2, 6, .inr (.inr (.inr (.inr f_59))))), (q_3, .inl (c_4, 6, .inr (.inr (.inr (.inr f_52))))), (q_54, .inr (4, [.ref r_57, .ref n_58, .int 0, .int 0, .int 0, .int 0, .int 0, .int 0])), (q_60, .inr (4, [.null, .null, .int 0, .int 0, .int 0, .int 0, .int 0, .int 0]))] := hD
  refine W.widen (k := 51) (n := 5786) (by omega) (by omega) ?_
  refine lv_dup hx hb dX1_init_135 rfl ?_
  have hPc := hP.sub (ws' := [(q_60, .inr (4, [.null, .null, .int 0, .int 0, .int 0, .int 0, .int 0, .int 0]))]) [4] rfl
  have hKc := hK.sub (tys' := []) [] rfl
  have hDc := hD.sub (ws' := [(q_60, .inr (4, [.null, .null, .int 0, .int 0, .int 0, .int 0, .int 0, .int 0]))]) [4] (by decide) rfl
  have hFc := va_free (wc := [(q_60, .inr (4, [.null, .null, .int 0, .int 0, .int 0, .int 0, .int 0, .int 0]))]) hD hS hA [4] rfl
  refine va_callv (va_runIN (As := []) (rest := [.ref q_60, .int 2, .ref q_3]) ⟨hx, hb, hml, hown, hts⟩ (c_Part l dC dI q_60 H.size) ⟨va_cnB 0 hts mg_X1_init_X4_init_24 rfl rfl rfl hN24 (hts (.initialized RX4) (List.mem_of_getElem? (i := 10) (by decide +kernel))) (by decide +kernel) ⟨Nat.le_of_ble_eq_true rfl, Nat.le_of_ble_eq_true rfl⟩, rfl, (hts (.instanceMethod yX4_init) (List.mem_of_getElem? (i := 38) (by decide +kernel)))⟩ ⟨fun a U g mk q => by obtain ⟨q0, q1, qP, qK, qD, qE0⟩ := q; exact ⟨q0, q1, qP, va_K.moved (u := U) (U := U.calling g mk a) (Vm.Alike.refl U.vm) qK, qD, va_Nw.same rfl (rfl : U.vm = (U.calling g mk a).vm) qE0⟩, fun U hU hW => ⟨rfl, by rw [hU], by rw [hU]; exact hPc, va_K.moved hW.alike hKc, hDc.weaken (fun _ _ _ _ => trivial), va_Nw.warmM hW hN11⟩⟩ rfl rfl hl.1 rfl (lv_room (Nat.le_of_ble_eq_true rfl)) dX1_init_136 ⟨Nat.le_of_ble_eq_true rfl, Nat.le_of_ble_eq_true rfl⟩) hS (fun q _ h => hFc q h) hFc (fun u t H1 locs ht hvm hw hB hz1 hk1 hS => ?_)
  obtain ⟨r_63, n_64, hP1, hK1, hD1⟩ := hB
  rw [ht] at hP1
  obtain ⟨hP, hD⟩ := va_join (wr := [(nb, .inr (1, [.ref q_1, .ref q_3, .ref q_5, .ref q_7, .ref q_12, .ref q_15, .ref q_18, .ref q_21, .ref q_23, .ref q_25, .int 0])), (q_1, .inl (c_2, 6, .inr (.inr (.inr (.inr f_59))))), (q_3, .inl (c_4, 6, .inr (.inr (.inr (.inr f_52))))), (q_54, .inr (4, [.ref r_57, .ref n_58, .int 0, .int 0, .int 0, .int 0, .int 0, .int 0]))]) (w1 := [(q_60, .inr (4, [.ref r_63, .ref n_64, .int 0, .int 0, .int 0, .int 0, .int 0, .int 0]))]) hP hD [4] [0, 1, 2, 3] rfl rfl (by decide) (by decide) hk1 hFc hP1 hD1
  generalize H1 = H at hP hS ⊢
  have hP : va_P (dC, dI) vwCl [(nb, .inr (1, [.ref q_1, .ref q_3, .ref q_5, .ref q_7, .ref q_12, .ref q_15, .ref q_18, .ref q_21, .ref q_23, .ref q_25, .int 0])), (q_1, .inl (c_2, 6, .inr (.inr (.inr (.inr f_59))))), (q_3, .inl (c_4, 6, .inr (.inr (.inr (.inr f_52))))), (q_54, .inr (4, [.ref r_57, .ref n_58, .int 0, .int 0, .int 0, .int 0, .int 0, .int 0])), (q_60, .inr (4, [.ref r_63, .ref n_64, .int 0, .int 0, .int 0, .int 0, .int 0, .int 0]))] H := hP
  have hD : va_D A [(nb, .inr (1, [.ref q_1, .ref q_3, .ref q_5, .ref q_7, .ref q_12, .ref q_15, .ref q_18, .ref q_21, .ref q_23, .ref q_25, .int 0])), (q_1, .inl (c_2, 6, .inr (.inr (.inr (.inr f_59))))), (q_3, .inl (c_4, 6, .inr (.inr (.inr (.inr f_52))))), (q_54, .inr (4, [.ref r_57, .ref n_58, .int 0, .int 0, .int 0, .int 0, .int 0, .int 0])), (q_60, .inr (4, [.ref r_63, .ref n_64, .int 0, .int 0, .int 0, .int 0, .int 0, .int 0]))] := hD
  refine W.widen (k := 56) (n := 6098) (by omega) (by omega) ?_
  refine va_astq (r := (RX4, TX4, 8)) hx hb hK hP hD hS 2 1 4 4 rfl rfl rfl rfl (i := 2) (by unfold vp_in; decide +kernel) dX1_init_139 (fun H locs hP hD hS => ?_)
  generalize hf_f_65 : va_up f_52 _ _ = f_65 at hP hD
  have hP : va_P (dC, dI) vwCl [(nb, .inr (1, [.ref q_1, .ref q_3, .ref q_5, .ref q_7, .ref q_12, .ref q_15, .ref q_18, .ref q_21, .ref q_23, .ref q_25, .int 0])), (q_1, .inl (c_2, 6, .inr (.inr (.inr (.inr f_59))))), (q_3, .inl (c_4, 6, .inr (.inr (.inr (.inr f_65))))), (q_54, .inr (4, [.ref r_57, .ref n_58, .int 0, .int 0, .int 0, .int 0, .int 0, .int 0])), (q_60, .inr (4, [.ref r_63, .ref n_64, .int 0, .int 0, .int 0, .int 0, .int 0, .int 0]))] H := hP
  have hD : va_D A [(nb, .inr (1, [.ref q_1, .ref q_3, .ref q_5, .ref q_7, .ref q_12, .ref q_15, .ref q_18, .ref q_21, .ref q_23, .ref q_25, .int 0])), (q_1, .inl (c_2, 6, .inr (.inr (.inr (.inr f_59))))), (q_3, .inl (c_4, 6, .inr (.inr (.inr (.inr f_65))))), (q_54, .inr (4, [.ref r_57, .ref n_58, .int 0, .int 0, .int 0, .int 0, .int 0, .int 0])), (q_60, .inr (4, [.ref r_63, .ref n_64, .int 0, .int 0, .int 0, .int 0, .int 0, .int 0]))] := hD
  refine lv_iinc (v := 3) (lv' := [(1, .int 3), (0, .ref nb)]) hx hb dX1_init_140 hl (k := 0) rfl (by decide) (by decide) rfl (fun ls hl => ?_)
  refine lv_goto (tgt := 105) hx hb dX1_init_143 (by decide) ?_
  have hP := hP.sub (ws' := [(nb, .inr (1, [.ref q_1, .ref q_3, .ref q_5, .ref q_7, .ref q_12, .ref q_15, .ref q_18, .ref q_21, .ref q_23, .ref q_25, .int 0])), (q_1, .inl (c_2, 6, .inr (.inr (.inr (.inr f_59))))), (q_3, .inl (c_4, 6, .inr (.inr (.inr (.inr f_65)))))]) [0, 1, 2] rfl
  have hD := hD.sub (ws' := [(nb, .inr (1, [.ref q_1, .ref q_3, .ref q_5, .ref q_7, .ref q_12, .ref q_15, .ref q_18, .ref q_21, .ref q_23, .ref q_25, .int 0])), (q_1, .inl (c_2, 6, .inr (.inr (.inr (.inr f_59))))), (q_3, .inl (c_4, 6, .inr (.inr (.inr (.inr f_65)))))]) [0, 1, 2] (by decide) rfl
  refine lv_iload_n hx hb dX1_init_105 rfl (lv_at hl 0 rfl) ?_
  refine lv_aload_n hx hb dX1_init_106 rfl (lv_at hl 1 rfl) ?_
  refine va_get (D := (dC, dI)) (ci := 1) (v := .ref q_1) (C := RX1) (T := TX1) (N := 11) hx hb hts fin_X1_init_X1 hown hK hP 0 rfl rfl 0 (by decide) (hts (.fieldLink RX1 11 "PatternGate$Compiler" "wholes" "[LPatternGate$Part;") (List.mem_of_getElem? (i := 5) (by decide +kernel))) (fun _ h9 => h9) rfl dX1_init_107 ?_
  refine va_alen (v := 6) hx hb hK hP 1 0 rfl rfl rfl dX1_init_110 ?_
  refine lv_icmp_ge (tgt := 146) hx hb dX1_init_111 (by decide) (fun k_66 => absurd k_66 (by decide)) (fun k_66 => ?_)
  refine lv_aload_n hx hb dX1_init_114 rfl (lv_at hl 1 rfl) ?_
  refine va_get (D := (dC, dI)) (ci := 1) (v := .ref q_1) (C := RX1) (T := TX1) (N := 11) hx hb hts fin_X1_init_X1 hown hK hP 0 rfl rfl 0 (by decide) (hts (.fieldLink RX1 11 "PatternGate$Compiler" "wholes" "[LPatternGate$Part;") (List.mem_of_getElem? (i := 5) (by decide +kernel))) (fun _ h9 => h9) rfl dX1_init_115 ?_
  refine lv_iload_n hx hb dX1_init_118 rfl (lv_at hl 0 rfl) ?_
  refine va_new (ci := 4) (fs := [.null, .null, .int 0, .int 0, .int 0, .int 0, .int 0, .int 0]) (C := RX4) (T := TX4) (N := 8) hx hb hts fin_X1_init_X4 tyX4 tyX4_ok hown (hts (.classLink RX1 9 RX4) (List.mem_of_getElem? (i := 4) (by decide +kernel))) (hts (.instantiable RX4 8) (List.mem_of_getElem? (i := 9) (by decide +kernel))) (hts (.initialized RX4) (List.mem_of_getElem? (i := 10) (by decide +kernel))) hK hP hD hS hA rfl (fun j hj => by rcases (show j = 0 ∨ j = 1 ∨ j = 2 ∨ j = 3 ∨ j = 4 ∨ j = 5 ∨ j = 6 ∨ j = 7 by omega) with rfl | rfl | rfl | rfl | rfl | rfl | rfl | rfl <;> rfl) (Nat.le_of_ble_eq_true rfl) (Nat.le_of_ble_eq_true rfl) dX1_init_119 (fun q_67 H hP hD hS => ?_)
  have hP : va_P (dC, dI) vwCl [(nb, .inr (1, [.ref q_1, .ref q_3, .ref q_5, .ref q_7, .ref q_12, .ref q_15, .ref q_18, .ref q_21, .ref q_23, .ref q_25, .int 0])), (q_1, .inl (c_2, 6, .inr (.inr (.inr (.inr f_59))))), (q_3, .inl (c_4, 6, .inr (.inr (.inr (.inr f_65))))), (q_67, .inr (4, [.null, .null, .int 0, .int 0, .int 0, .int 0, .int 0, .int 0]))] H := hP
  have hD : va_D A [(nb, .inr (1, [.ref q_1, .ref q_3, .ref q_5, .ref q_7, .ref q_12, .ref q_15, .ref q_18, .ref q_21, .ref q_23, .ref q_25, .int 0])), (q_1, .inl (c_2, 6, .inr (.inr (.inr (.inr f_59))))), (q_3, .inl (c_4, 6, .inr (.inr (.inr (.inr f_65))))), (q_67, .inr (4, [.null, .null, .int 0, .int 0, .int 0, .int 0, .int 0, .int 0]))] := hD
  refine W.widen (k := 57) (n := 6106) (by omega) (by omega) ?_
  refine lv_dup hx hb dX1_init_122 rfl ?_
  have hPc := hP.sub (ws' := [(q_67, .inr (4, [.null, .null, .int 0, .int 0, .int 0, .int 0, .int 0, .int 0]))]) [3] rfl
  have hKc := hK.sub (tys' := []) [] rfl
  have hDc := hD.sub (ws' := [(q_67, .inr (4, [.null, .null, .int 0, .int 0, .int 0, .int 0, .int 0, .int 0]))]) [3] (by decide) rfl
  have hFc := va_free (wc := [(q_67, .inr (4, [.null, .null, .int 0, .int 0, .int 0, .int 0, .int 0, .int 0]))]) hD hS hA [3] rfl
  refine va_callv (va_runIN (As := []) (rest := [.ref q_67, .int 3, .ref q_1]) ⟨hx, hb, hml, hown, hts⟩ (c_Part l dC dI q_67 H.size) ⟨va_cnB 0 hts mg_X1_init_X4_init_24 rfl rfl rfl hN24 (hts (.initialized RX4) (List.mem_of_getElem? (i := 10) (by decide +kernel))) (by decide +kernel) ⟨Nat.le_of_ble_eq_true rfl, Nat.le_of_ble_eq_true rfl⟩, rfl, (hts (.instanceMethod yX4_init) (List.mem_of_getElem? (i := 38) (by decide +kernel)))⟩ ⟨fun a U g mk q => by obtain ⟨q0, q1, qP, qK, qD, qE0⟩ := q; exact ⟨q0, q1, qP, va_K.moved (u := U) (U := U.calling g mk a) (Vm.Alike.refl U.vm) qK, qD, va_Nw.same rfl (rfl : U.vm = (U.calling g mk a).vm) qE0⟩, fun U hU hW => ⟨rfl, by rw [hU], by rw [hU]; exact hPc, va_K.moved hW.alike hKc, hDc.weaken (fun _ _ _ _ => trivial), va_Nw.warmM hW hN11⟩⟩ rfl rfl hl.1 rfl (lv_room (Nat.le_of_ble_eq_true rfl)) dX1_init_123 ⟨Nat.le_of_ble_eq_true rfl, Nat.le_of_ble_eq_true rfl⟩) hS (fun q _ h => hFc q h) hFc (fun u t H1 locs ht hvm hw hB hz1 hk1 hS => ?_)
  obtain ⟨r_70, n_71, hP1, hK1, hD1⟩ := hB
  rw [ht] at hP1
  obtain ⟨hP, hD⟩ := va_join (wr := [(nb, .inr (1, [.ref q_1, .ref q_3, .ref q_5, .ref q_7, .ref q_12, .ref q_15, .ref q_18, .ref q_21, .ref q_23, .ref q_25, .int 0])), (q_1, .inl (c_2, 6, .inr (.inr (.inr (.inr f_59))))), (q_3, .inl (c_4, 6, .inr (.inr (.inr (.inr f_65)))))]) (w1 := [(q_67, .inr (4, [.ref r_70, .ref n_71, .int 0, .int 0, .int 0, .int 0, .int 0, .int 0]))]) hP hD [3] [0, 1, 2] rfl rfl (by decide) (by decide) hk1 hFc hP1 hD1
  generalize H1 = H at hP hS ⊢
  have hP : va_P (dC, dI) vwCl [(nb, .inr (1, [.ref q_1, .ref q_3, .ref q_5, .ref q_7, .ref q_12, .ref q_15, .ref q_18, .ref q_21, .ref q_23, .ref q_25, .int 0])), (q_1, .inl (c_2, 6, .inr (.inr (.inr (.inr f_59))))), (q_3, .inl (c_4, 6, .inr (.inr (.inr (.inr f_65))))), (q_67, .inr (4, [.ref r_70, .ref n_71, .int 0, .int 0, .int 0, .int 0, .int 0, .int 0]))] H := hP
  have hD : va_D A [(nb, .inr (1, [.ref q_1, .ref q_3, .ref q_5, .ref q_7, .ref q_12, .ref q_15, .ref q_18, .ref q_21, .ref q_23, .ref q_25, .int 0])), (q_1, .inl (c_2, 6, .inr (.inr (.inr (.inr f_59))))), (q_3, .inl (c_4, 6, .inr (.inr (.inr (.inr f_65))))), (q_67, .inr (4, [.ref r_70, .ref n_71, .int 0, .int 0, .int 0, .int 0, .int 0, .int 0]))] := hD
  refine W.widen (k := 62) (n := 6418) (by omega) (by omega) ?_
  refine va_astq (r := (RX4, TX4, 8)) hx hb hK hP hD hS 1 0 3 4 rfl rfl rfl rfl (i := 3) (by unfold vp_in; decide +kernel) dX1_init_126 (fun H locs hP hD hS => ?_)
  generalize hf_f_72 : va_up f_59 _ _ = f_72 at hP hD
  have hP : va_P (dC, dI) vwCl [(nb, .inr (1, [.ref q_1, .ref q_3, .ref q_5, .ref q_7, .ref q_12, .ref q_15, .ref q_18, .ref q_21, .ref q_23, .ref q_25, .int 0])), (q_1, .inl (c_2, 6, .inr (.inr (.inr (.inr f_72))))), (q_3, .inl (c_4, 6, .inr (.inr (.inr (.inr f_65))))), (q_67, .inr (4, [.ref r_70, .ref n_71, .int 0, .int 0, .int 0, .int 0, .int 0, .int 0]))] H := hP
  have hD : va_D A [(nb, .inr (1, [.ref q_1, .ref q_3, .ref q_5, .ref q_7, .ref q_12, .ref q_15, .ref q_18, .ref q_21, .ref q_23, .ref q_25, .int 0])), (q_1, .inl (c_2, 6, .inr (.inr (.inr (.inr f_72))))), (q_3, .inl (c_4, 6, .inr (.inr (.inr (.inr f_65))))), (q_67, .inr (4, [.ref r_70, .ref n_71, .int 0, .int 0, .int 0, .int 0, .int 0, .int 0]))] := hD
  refine lv_aload_n hx hb dX1_init_127 rfl (lv_at hl 1 rfl) ?_
  refine va_get (D := (dC, dI)) (ci := 1) (v := .ref q_3) (C := RX1) (T := TX1) (N := 11) hx hb hts fin_X1_init_X1 hown hK hP 0 rfl rfl 1 (by decide) (hts (.fieldLink RX1 17 "PatternGate$Compiler" "branches" "[LPatternGate$Part;") (List.mem_of_getElem? (i := 6) (by decide +kernel))) (fun _ h9 => h9) rfl dX1_init_128 ?_
  refine lv_iload_n hx hb dX1_init_131 rfl (lv_at hl 0 rfl) ?_
  refine va_new (ci := 4) (fs := [.null, .null, .int 0, .int 0, .int 0, .int 0, .int 0, .int 0]) (C := RX4) (T := TX4) (N := 8) hx hb hts fin_X1_init_X4 tyX4 tyX4_ok hown (hts (.classLink RX1 9 RX4) (List.mem_of_getElem? (i := 4) (by decide +kernel))) (hts (.instantiable RX4 8) (List.mem_of_getElem? (i := 9) (by decide +kernel))) (hts (.initialized RX4) (List.mem_of_getElem? (i := 10) (by decide +kernel))) hK hP hD hS hA rfl (fun j hj => by rcases (show j = 0 ∨ j = 1 ∨ j = 2 ∨ j = 3 ∨ j = 4 ∨ j = 5 ∨ j = 6 ∨ j = 7 by omega) with rfl | rfl | rfl | rfl | rfl | rfl | rfl | rfl <;> rfl) (Nat.le_of_ble_eq_true rfl) (Nat.le_of_ble_eq_true rfl) dX1_init_132 (fun q_73 H hP hD hS => ?_)
  have hP : va_P (dC, dI) vwCl [(nb, .inr (1, [.ref q_1, .ref q_3, .ref q_5, .ref q_7, .ref q_12, .ref q_15, .ref q_18, .ref q_21, .ref q_23, .ref q_25, .int 0])), (q_1, .inl (c_2, 6, .inr (.inr (.inr (.inr f_72))))), (q_3, .inl (c_4, 6, .inr (.inr (.inr (.inr f_65))))), (q_67, .inr (4, [.ref r_70, .ref n_71, .int 0, .int 0, .int 0, .int 0, .int 0, .int 0])), (q_73, .inr (4, [.null, .null, .int 0, .int 0, .int 0, .int 0, .int 0, .int 0]))] H := hP
  have hD : va_D A [(nb, .inr (1, [.ref q_1, .ref q_3, .ref q_5, .ref q_7, .ref q_12, .ref q_15, .ref q_18, .ref q_21, .ref q_23, .ref q_25, .int 0])), (q_1, .inl (c_2, 6, .inr (.inr (.inr (.inr f_72))))), (q_3, .inl (c_4, 6, .inr (.inr (.inr (.inr f_65))))), (q_67, .inr (4, [.ref r_70, .ref n_71, .int 0, .int 0, .int 0, .int 0, .int 0, .int 0])), (q_73, .inr (4, [.null, .null, .int 0, .int 0, .int 0, .int 0, .int 0, .int 0]))] := hD
  refine W.widen (k := 63) (n := 6426) (by omega) (by omega) ?_
  refine lv_dup hx hb dX1_init_135 rfl ?_
  have hPc := hP.sub (ws' := [(q_73, .inr (4, [.null, .null, .int 0, .int 0, .int 0, .int 0, .int 0, .int 0]))]) [4] rfl
  have hKc := hK.sub (tys' := []) [] rfl
  have hDc := hD.sub (ws' := [(q_73, .inr (4, [.null, .null, .int 0, .int 0, .int 0, .int 0, .int 0, .int 0]))]) [4] (by decide) rfl
  have hFc := va_free (wc := [(q_73, .inr (4, [.null, .null, .int 0, .int 0, .int 0, .int 0, .int 0, .int 0]))]) hD hS hA [4] rfl
  refine va_callv (va_runIN (As := []) (rest := [.ref q_73, .int 3, .ref q_3]) ⟨hx, hb, hml, hown, hts⟩ (c_Part l dC dI q_73 H.size) ⟨va_cnB 0 hts mg_X1_init_X4_init_24 rfl rfl rfl hN24 (hts (.initialized RX4) (List.mem_of_getElem? (i := 10) (by decide +kernel))) (by decide +kernel) ⟨Nat.le_of_ble_eq_true rfl, Nat.le_of_ble_eq_true rfl⟩, rfl, (hts (.instanceMethod yX4_init) (List.mem_of_getElem? (i := 38) (by decide +kernel)))⟩ ⟨fun a U g mk q => by obtain ⟨q0, q1, qP, qK, qD, qE0⟩ := q; exact ⟨q0, q1, qP, va_K.moved (u := U) (U := U.calling g mk a) (Vm.Alike.refl U.vm) qK, qD, va_Nw.same rfl (rfl : U.vm = (U.calling g mk a).vm) qE0⟩, fun U hU hW => ⟨rfl, by rw [hU], by rw [hU]; exact hPc, va_K.moved hW.alike hKc, hDc.weaken (fun _ _ _ _ => trivial), va_Nw.warmM hW hN11⟩⟩ rfl rfl hl.1 rfl (lv_room (Nat.le_of_ble_eq_true rfl)) dX1_init_136 ⟨Nat.le_of_ble_eq_true rfl, Nat.le_of_ble_eq_true rfl⟩) hS (fun q _ h => hFc q h) hFc (fun u t H1 locs ht hvm hw hB hz1 hk1 hS => ?_)
  obtain ⟨r_76, n_77, hP1, hK1, hD1⟩ := hB
  rw [ht] at hP1
  obtain ⟨hP, hD⟩ := va_join (wr := [(nb, .inr (1, [.ref q_1, .ref q_3, .ref q_5, .ref q_7, .ref q_12, .ref q_15, .ref q_18, .ref q_21, .ref q_23, .ref q_25, .int 0])), (q_1, .inl (c_2, 6, .inr (.inr (.inr (.inr f_72))))), (q_3, .inl (c_4, 6, .inr (.inr (.inr (.inr f_65))))), (q_67, .inr (4, [.ref r_70, .ref n_71, .int 0, .int 0, .int 0, .int 0, .int 0, .int 0]))]) (w1 := [(q_73, .inr (4, [.ref r_76, .ref n_77, .int 0, .int 0, .int 0, .int 0, .int 0, .int 0]))]) hP hD [4] [0, 1, 2, 3] rfl rfl (by decide) (by decide) hk1 hFc hP1 hD1
  generalize H1 = H at hP hS ⊢
  have hP : va_P (dC, dI) vwCl [(nb, .inr (1, [.ref q_1, .ref q_3, .ref q_5, .ref q_7, .ref q_12, .ref q_15, .ref q_18, .ref q_21, .ref q_23, .ref q_25, .int 0])), (q_1, .inl (c_2, 6, .inr (.inr (.inr (.inr f_72))))), (q_3, .inl (c_4, 6, .inr (.inr (.inr (.inr f_65))))), (q_67, .inr (4, [.ref r_70, .ref n_71, .int 0, .int 0, .int 0, .int 0, .int 0, .int 0])), (q_73, .inr (4, [.ref r_76, .ref n_77, .int 0, .int 0, .int 0, .int 0, .int 0, .int 0]))] H := hP
  have hD : va_D A [(nb, .inr (1, [.ref q_1, .ref q_3, .ref q_5, .ref q_7, .ref q_12, .ref q_15, .ref q_18, .ref q_21, .ref q_23, .ref q_25, .int 0])), (q_1, .inl (c_2, 6, .inr (.inr (.inr (.inr f_72))))), (q_3, .inl (c_4, 6, .inr (.inr (.inr (.inr f_65))))), (q_67, .inr (4, [.ref r_70, .ref n_71, .int 0, .int 0, .int 0, .int 0, .int 0, .int 0])), (q_73, .inr (4, [.ref r_76, .ref n_77, .int 0, .int 0, .int 0, .int 0, .int 0, .int 0]))] := hD
  refine W.widen (k := 68) (n := 6738) (by omega) (by omega) ?_
  refine va_astq (r := (RX4, TX4, 8)) hx hb hK hP hD hS 2 1 4 4 rfl rfl rfl rfl (i := 3) (by unfold vp_in; decide +kernel) dX1_init_139 (fun H locs hP hD hS => ?_)
  generalize hf_f_78 : va_up f_65 _ _ = f_78 at hP hD
  have hP : va_P (dC, dI) vwCl [(nb, .inr (1, [.ref q_1, .ref q_3, .ref q_5, .ref q_7, .ref q_12, .ref q_15, .ref q_18, .ref q_21, .ref q_23, .ref q_25, .int 0])), (q_1, .inl (c_2, 6, .inr (.inr (.inr (.inr f_72))))), (q_3, .inl (c_4, 6, .inr (.inr (.inr (.inr f_78))))), (q_67, .inr (4, [.ref r_70, .ref n_71, .int 0, .int 0, .int 0, .int 0, .int 0, .int 0])), (q_73, .inr (4, [.ref r_76, .ref n_77, .int 0, .int 0, .int 0, .int 0, .int 0, .int 0]))] H := hP
  have hD : va_D A [(nb, .inr (1, [.ref q_1, .ref q_3, .ref q_5, .ref q_7, .ref q_12, .ref q_15, .ref q_18, .ref q_21, .ref q_23, .ref q_25, .int 0])), (q_1, .inl (c_2, 6, .inr (.inr (.inr (.inr f_72))))), (q_3, .inl (c_4, 6, .inr (.inr (.inr (.inr f_78))))), (q_67, .inr (4, [.ref r_70, .ref n_71, .int 0, .int 0, .int 0, .int 0, .int 0, .int 0])), (q_73, .inr (4, [.ref r_76, .ref n_77, .int 0, .int 0, .int 0, .int 0, .int 0, .int 0]))] := hD
  refine lv_iinc (v := 4) (lv' := [(1, .int 4), (0, .ref nb)]) hx hb dX1_init_140 hl (k := 0) rfl (by decide) (by decide) rfl (fun ls hl => ?_)
  refine lv_goto (tgt := 105) hx hb dX1_init_143 (by decide) ?_
  have hP := hP.sub (ws' := [(nb, .inr (1, [.ref q_1, .ref q_3, .ref q_5, .ref q_7, .ref q_12, .ref q_15, .ref q_18, .ref q_21, .ref q_23, .ref q_25, .int 0])), (q_1, .inl (c_2, 6, .inr (.inr (.inr (.inr f_72))))), (q_3, .inl (c_4, 6, .inr (.inr (.inr (.inr f_78)))))]) [0, 1, 2] rfl
  have hD := hD.sub (ws' := [(nb, .inr (1, [.ref q_1, .ref q_3, .ref q_5, .ref q_7, .ref q_12, .ref q_15, .ref q_18, .ref q_21, .ref q_23, .ref q_25, .int 0])), (q_1, .inl (c_2, 6, .inr (.inr (.inr (.inr f_72))))), (q_3, .inl (c_4, 6, .inr (.inr (.inr (.inr f_78)))))]) [0, 1, 2] (by decide) rfl
  refine lv_iload_n hx hb dX1_init_105 rfl (lv_at hl 0 rfl) ?_
  refine lv_aload_n hx hb dX1_init_106 rfl (lv_at hl 1 rfl) ?_
  refine va_get (D := (dC, dI)) (ci := 1) (v := .ref q_1) (C := RX1) (T := TX1) (N := 11) hx hb hts fin_X1_init_X1 hown hK hP 0 rfl rfl 0 (by decide) (hts (.fieldLink RX1 11 "PatternGate$Compiler" "wholes" "[LPatternGate$Part;") (List.mem_of_getElem? (i := 5) (by decide +kernel))) (fun _ h9 => h9) rfl dX1_init_107 ?_
  refine va_alen (v := 6) hx hb hK hP 1 0 rfl rfl rfl dX1_init_110 ?_
  refine lv_icmp_ge (tgt := 146) hx hb dX1_init_111 (by decide) (fun k_79 => absurd k_79 (by decide)) (fun k_79 => ?_)
  refine lv_aload_n hx hb dX1_init_114 rfl (lv_at hl 1 rfl) ?_
  refine va_get (D := (dC, dI)) (ci := 1) (v := .ref q_1) (C := RX1) (T := TX1) (N := 11) hx hb hts fin_X1_init_X1 hown hK hP 0 rfl rfl 0 (by decide) (hts (.fieldLink RX1 11 "PatternGate$Compiler" "wholes" "[LPatternGate$Part;") (List.mem_of_getElem? (i := 5) (by decide +kernel))) (fun _ h9 => h9) rfl dX1_init_115 ?_
  refine lv_iload_n hx hb dX1_init_118 rfl (lv_at hl 0 rfl) ?_
  refine va_new (ci := 4) (fs := [.null, .null, .int 0, .int 0, .int 0, .int 0, .int 0, .int 0]) (C := RX4) (T := TX4) (N := 8) hx hb hts fin_X1_init_X4 tyX4 tyX4_ok hown (hts (.classLink RX1 9 RX4) (List.mem_of_getElem? (i := 4) (by decide +kernel))) (hts (.instantiable RX4 8) (List.mem_of_getElem? (i := 9) (by decide +kernel))) (hts (.initialized RX4) (List.mem_of_getElem? (i := 10) (by decide +kernel))) hK hP hD hS hA rfl (fun j hj => by rcases (show j = 0 ∨ j = 1 ∨ j = 2 ∨ j = 3 ∨ j = 4 ∨ j = 5 ∨ j = 6 ∨ j = 7 by omega) with rfl | rfl | rfl | rfl | rfl | rfl | rfl | rfl <;> rfl) (Nat.le_of_ble_eq_true rfl) (Nat.le_of_ble_eq_true rfl) dX1_init_119 (fun q_80 H hP hD hS => ?_)
  have hP : va_P (dC, dI) vwCl [(nb, .inr (1, [.ref q_1, .ref q_3, .ref q_5, .ref q_7, .ref q_12, .ref q_15, .ref q_18, .ref q_21, .ref q_23, .ref q_25, .int 0])), (q_1, .inl (c_2, 6, .inr (.inr (.inr (.inr f_72))))), (q_3, .inl (c_4, 6, .inr (.inr (.inr (.inr f_78))))), (q_80, .inr (4, [.null, .null, .int 0, .int 0, .int 0, .int 0, .int 0, .int 0]))] H := hP
  have hD : va_D A [(nb, .inr (1, [.ref q_1, .ref q_3, .ref q_5, .ref q_7, .ref q_12, .ref q_15, .ref q_18, .ref q_21, .ref q_23, .ref q_25, .int 0])), (q_1, .inl (c_2, 6, .inr (.inr (.inr (.inr f_72))))), (q_3, .inl (c_4, 6, .inr (.inr (.inr (.inr f_78))))), (q_80, .inr (4, [.null, .null, .int 0, .int 0, .int 0, .int 0, .int 0, .int 0]))] := hD
  refine W.widen (k := 69) (n := 6746) (by omega) (by omega) ?_
  refine lv_dup hx hb dX1_init_122 rfl ?_
  have hPc := hP.sub (ws' := [(q_80, .inr (4, [.null, .null, .int 0, .int 0, .int 0, .int 0, .int 0, .int 0]))]) [3] rfl
  have hKc := hK.sub (tys' := []) [] rfl
  have hDc := hD.sub (ws' := [(q_80, .inr (4, [.null, .null, .int 0, .int 0, .int 0, .int 0, .int 0, .int 0]))]) [3] (by decide) rfl
  have hFc := va_free (wc := [(q_80, .inr (4, [.null, .null, .int 0, .int 0, .int 0, .int 0, .int 0, .int 0]))]) hD hS hA [3] rfl
  refine va_callv (va_runIN (As := []) (rest := [.ref q_80, .int 4, .ref q_1]) ⟨hx, hb, hml, hown, hts⟩ (c_Part l dC dI q_80 H.size) ⟨va_cnB 0 hts mg_X1_init_X4_init_24 rfl rfl rfl hN24 (hts (.initialized RX4) (List.mem_of_getElem? (i := 10) (by decide +kernel))) (by decide +kernel) ⟨Nat.le_of_ble_eq_true rfl, Nat.le_of_ble_eq_true rfl⟩, rfl, (hts (.instanceMethod yX4_init) (List.mem_of_getElem? (i := 38) (by decide +kernel)))⟩ ⟨fun a U g mk q => by obtain ⟨q0, q1, qP, qK, qD, qE0⟩ := q; exact ⟨q0, q1, qP, va_K.moved (u := U) (U := U.calling g mk a) (Vm.Alike.refl U.vm) qK, qD, va_Nw.same rfl (rfl : U.vm = (U.calling g mk a).vm) qE0⟩, fun U hU hW => ⟨rfl, by rw [hU], by rw [hU]; exact hPc, va_K.moved hW.alike hKc, hDc.weaken (fun _ _ _ _ => trivial), va_Nw.warmM hW hN11⟩⟩ rfl rfl hl.1 rfl (lv_room (Nat.le_of_ble_eq_true rfl)) dX1_init_123 ⟨Nat.le_of_ble_eq_true rfl, Nat.le_of_ble_eq_true rfl⟩) hS (fun q _ h => hFc q h) hFc (fun u t H1 locs ht hvm hw hB hz1 hk1 hS => ?_)
  obtain ⟨r_83, n_84, hP1, hK1, hD1⟩ := hB
  rw [ht] at hP1
  obtain ⟨hP, hD⟩ := va_join (wr := [(nb, .inr (1, [.ref q_1, .ref q_3, .ref q_5, .ref q_7, .ref q_12, .ref q_15, .ref q_18, .ref q_21, .ref q_23, .ref q_25, .int 0])), (q_1, .inl (c_2, 6, .inr (.inr (.inr (.inr f_72))))), (q_3, .inl (c_4, 6, .inr (.inr (.inr (.inr f_78)))))]) (w1 := [(q_80, .inr (4, [.ref r_83, .ref n_84, .int 0, .int 0, .int 0, .int 0, .int 0, .int 0]))]) hP hD [3] [0, 1, 2] rfl rfl (by decide) (by decide) hk1 hFc hP1 hD1
  generalize H1 = H at hP hS ⊢
  have hP : va_P (dC, dI) vwCl [(nb, .inr (1, [.ref q_1, .ref q_3, .ref q_5, .ref q_7, .ref q_12, .ref q_15, .ref q_18, .ref q_21, .ref q_23, .ref q_25, .int 0])), (q_1, .inl (c_2, 6, .inr (.inr (.inr (.inr f_72))))), (q_3, .inl (c_4, 6, .inr (.inr (.inr (.inr f_78))))), (q_80, .inr (4, [.ref r_83, .ref n_84, .int 0, .int 0, .int 0, .int 0, .int 0, .int 0]))] H := hP
  have hD : va_D A [(nb, .inr (1, [.ref q_1, .ref q_3, .ref q_5, .ref q_7, .ref q_12, .ref q_15, .ref q_18, .ref q_21, .ref q_23, .ref q_25, .int 0])), (q_1, .inl (c_2, 6, .inr (.inr (.inr (.inr f_72))))), (q_3, .inl (c_4, 6, .inr (.inr (.inr (.inr f_78))))), (q_80, .inr (4, [.ref r_83, .ref n_84, .int 0, .int 0, .int 0, .int 0, .int 0, .int 0]))] := hD
  refine W.widen (k := 74) (n := 7058) (by omega) (by omega) ?_
  refine va_astq (r := (RX4, TX4, 8)) hx hb hK hP hD hS 1 0 3 4 rfl rfl rfl rfl (i := 4) (by unfold vp_in; decide +kernel) dX1_init_126 (fun H locs hP hD hS => ?_)
  generalize hf_f_85 : va_up f_72 _ _ = f_85 at hP hD
  have hP : va_P (dC, dI) vwCl [(nb, .inr (1, [.ref q_1, .ref q_3, .ref q_5, .ref q_7, .ref q_12, .ref q_15, .ref q_18, .ref q_21, .ref q_23, .ref q_25, .int 0])), (q_1, .inl (c_2, 6, .inr (.inr (.inr (.inr f_85))))), (q_3, .inl (c_4, 6, .inr (.inr (.inr (.inr f_78))))), (q_80, .inr (4, [.ref r_83, .ref n_84, .int 0, .int 0, .int 0, .int 0, .int 0, .int 0]))] H := hP
  have hD : va_D A [(nb, .inr (1, [.ref q_1, .ref q_3, .ref q_5, .ref q_7, .ref q_12, .ref q_15, .ref q_18, .ref q_21, .ref q_23, .ref q_25, .int 0])), (q_1, .inl (c_2, 6, .inr (.inr (.inr (.inr f_85))))), (q_3, .inl (c_4, 6, .inr (.inr (.inr (.inr f_78))))), (q_80, .inr (4, [.ref r_83, .ref n_84, .int 0, .int 0, .int 0, .int 0, .int 0, .int 0]))] := hD
  refine lv_aload_n hx hb dX1_init_127 rfl (lv_at hl 1 rfl) ?_
  refine va_get (D := (dC, dI)) (ci := 1) (v := .ref q_3) (C := RX1) (T := TX1) (N := 11) hx hb hts fin_X1_init_X1 hown hK hP 0 rfl rfl 1 (by decide) (hts (.fieldLink RX1 17 "PatternGate$Compiler" "branches" "[LPatternGate$Part;") (List.mem_of_getElem? (i := 6) (by decide +kernel))) (fun _ h9 => h9) rfl dX1_init_128 ?_
  refine lv_iload_n hx hb dX1_init_131 rfl (lv_at hl 0 rfl) ?_
  refine va_new (ci := 4) (fs := [.null, .null, .int 0, .int 0, .int 0, .int 0, .int 0, .int 0]) (C := RX4) (T := TX4) (N := 8) hx hb hts fin_X1_init_X4 tyX4 tyX4_ok hown (hts (.classLink RX1 9 RX4) (List.mem_of_getElem? (i := 4) (by decide +kernel))) (hts (.instantiable RX4 8) (List.mem_of_getElem? (i := 9) (by decide +kernel))) (hts (.initialized RX4) (List.mem_of_getElem? (i := 10) (by decide +kernel))) hK hP hD hS hA rfl (fun j hj => by rcases (show j = 0 ∨ j = 1 ∨ j = 2 ∨ j = 3 ∨ j = 4 ∨ j = 5 ∨ j = 6 ∨ j = 7 by omega) with rfl | rfl | rfl | rfl | rfl | rfl | rfl | rfl <;> rfl) (Nat.le_of_ble_eq_true rfl) (Nat.le_of_ble_eq_true rfl) dX1_init_132 (fun q_86 H hP hD hS => ?_)
  have hP : va_P (dC, dI) vwCl [(nb, .inr (1, [.ref q_1, .ref q_3, .ref q_5, .ref q_7, .ref q_12, .ref q_15, .ref q_18, .ref q_21, .ref q_23, .ref q_25, .int 0])), (q_1, .inl (c_2, 6, .inr (.inr (.inr (.inr f_85))))), (q_3, .inl (c_4, 6, .inr (.inr (.inr (.inr f_78))))), (q_80, .inr (4, [.ref r_83, .ref n_84, .int 0, .int 0, .int 0, .int 0, .int 0, .int 0])), (q_86, .inr (4, [.null, .null, .int 0, .int 0, .int 0, .int 0, .int 0, .int 0]))] H := hP
  have hD : va_D A [(nb, .inr (1, [.ref q_1, .ref q_3, .ref q_5, .ref q_7, .ref q_12, .ref q_15, .ref q_18, .ref q_21, .ref q_23, .ref q_25, .int 0])), (q_1, .inl (c_2, 6, .inr (.inr (.inr (.inr f_85))))), (q_3, .inl (c_4, 6, .inr (.inr (.inr (.inr f_78))))), (q_80, .inr (4, [.ref r_83, .ref n_84, .int 0, .int 0, .int 0, .int 0, .int 0, .int 0])), (q_86, .inr (4, [.null, .null, .int 0, .int 0, .int 0, .int 0, .int 0, .int 0]))] := hD
  refine W.widen (k := 75) (n := 7066) (by omega) (by omega) ?_
  refine lv_dup hx hb dX1_init_135 rfl ?_
  have hPc := hP.sub (ws' := [(q_86, .inr (4, [.null, .null, .int 0, .int 0, .int 0, .int 0, .int 0, .int 0]))]) [4] rfl
  have hKc := hK.sub (tys' := []) [] rfl
  have hDc := hD.sub (ws' := [(q_86, .inr (4, [.null, .null, .int 0, .int 0, .int 0, .int 0, .int 0, .int 0]))]) [4] (by decide) rfl
  have hFc := va_free (wc := [(q_86, .inr (4, [.null, .null, .int 0, .int 0, .int 0, .int 0, .int 0, .int 0]))]) hD hS hA [4] rfl
  refine va_callv (va_runIN (As := []) (rest := [.ref q_86, .int 4, .ref q_3]) ⟨hx, hb, hml, hown, hts⟩ (c_Part l dC dI q_86 H.size) ⟨va_cnB 0 hts mg_X1_init_X4_init_24 rfl rfl rfl hN24 (hts (.initialized RX4) (List.mem_of_getElem? (i := 10) (by decide +kernel))) (by decide +kernel) ⟨Nat.le_of_ble_eq_true rfl, Nat.le_of_ble_eq_true rfl⟩, rfl, (hts (.instanceMethod yX4_init) (List.mem_of_getElem? (i := 38) (by decide +kernel)))⟩ ⟨fun a U g mk q => by obtain ⟨q0, q1, qP, qK, qD, qE0⟩ := q; exact ⟨q0, q1, qP, va_K.moved (u := U) (U := U.calling g mk a) (Vm.Alike.refl U.vm) qK, qD, va_Nw.same rfl (rfl : U.vm = (U.calling g mk a).vm) qE0⟩, fun U hU hW => ⟨rfl, by rw [hU], by rw [hU]; exact hPc, va_K.moved hW.alike hKc, hDc.weaken (fun _ _ _ _ => trivial), va_Nw.warmM hW hN11⟩⟩ rfl rfl hl.1 rfl (lv_room (Nat.le_of_ble_eq_true rfl)) dX1_init_136 ⟨Nat.le_of_ble_eq_true rfl, Nat.le_of_ble_eq_true rfl⟩) hS (fun q _ h => hFc q h) hFc (fun u t H1 locs ht hvm hw hB hz1 hk1 hS => ?_)
  obtain ⟨r_89, n_90, hP1, hK1, hD1⟩ := hB
  rw [ht] at hP1
  obtain ⟨hP, hD⟩ := va_join (wr := [(nb, .inr (1, [.ref q_1, .ref q_3, .ref q_5, .ref q_7, .ref q_12, .ref q_15, .ref q_18, .ref q_21, .ref q_23, .ref q_25, .int 0])), (q_1, .inl (c_2, 6, .inr (.inr (.inr (.inr f_85))))), (q_3, .inl (c_4, 6, .inr (.inr (.inr (.inr f_78))))), (q_80, .inr (4, [.ref r_83, .ref n_84, .int 0, .int 0, .int 0, .int 0, .int 0, .int 0]))]) (w1 := [(q_86, .inr (4, [.ref r_89, .ref n_90, .int 0, .int 0, .int 0, .int 0, .int 0, .int 0]))]) hP hD [4] [0, 1, 2, 3] rfl rfl (by decide) (by decide) hk1 hFc hP1 hD1
  generalize H1 = H at hP hS ⊢
  have hP : va_P (dC, dI) vwCl [(nb, .inr (1, [.ref q_1, .ref q_3, .ref q_5, .ref q_7, .ref q_12, .ref q_15, .ref q_18, .ref q_21, .ref q_23, .ref q_25, .int 0])), (q_1, .inl (c_2, 6, .inr (.inr (.inr (.inr f_85))))), (q_3, .inl (c_4, 6, .inr (.inr (.inr (.inr f_78))))), (q_80, .inr (4, [.ref r_83, .ref n_84, .int 0, .int 0, .int 0, .int 0, .int 0, .int 0])), (q_86, .inr (4, [.ref r_89, .ref n_90, .int 0, .int 0, .int 0, .int 0, .int 0, .int 0]))] H := hP
  have hD : va_D A [(nb, .inr (1, [.ref q_1, .ref q_3, .ref q_5, .ref q_7, .ref q_12, .ref q_15, .ref q_18, .ref q_21, .ref q_23, .ref q_25, .int 0])), (q_1, .inl (c_2, 6, .inr (.inr (.inr (.inr f_85))))), (q_3, .inl (c_4, 6, .inr (.inr (.inr (.inr f_78))))), (q_80, .inr (4, [.ref r_83, .ref n_84, .int 0, .int 0, .int 0, .int 0, .int 0, .int 0])), (q_86, .inr (4, [.ref r_89, .ref n_90, .int 0, .int 0, .int 0, .int 0, .int 0, .int 0]))] := hD
  refine W.widen (k := 80) (n := 7378) (by omega) (by omega) ?_
  refine va_astq (r := (RX4, TX4, 8)) hx hb hK hP hD hS 2 1 4 4 rfl rfl rfl rfl (i := 4) (by unfold vp_in; decide +kernel) dX1_init_139 (fun H locs hP hD hS => ?_)
  generalize hf_f_91 : va_up f_78 _ _ = f_91 at hP hD
  have hP : va_P (dC, dI) vwCl [(nb, .inr (1, [.ref q_1, .ref q_3, .ref q_5, .ref q_7, .ref q_12, .ref q_15, .ref q_18, .ref q_21, .ref q_23, .ref q_25, .int 0])), (q_1, .inl (c_2, 6, .inr (.inr (.inr (.inr f_85))))), (q_3, .inl (c_4, 6, .inr (.inr (.inr (.inr f_91))))), (q_80, .inr (4, [.ref r_83, .ref n_84, .int 0, .int 0, .int 0, .int 0, .int 0, .int 0])), (q_86, .inr (4, [.ref r_89, .ref n_90, .int 0, .int 0, .int 0, .int 0, .int 0, .int 0]))] H := hP
  have hD : va_D A [(nb, .inr (1, [.ref q_1, .ref q_3, .ref q_5, .ref q_7, .ref q_12, .ref q_15, .ref q_18, .ref q_21, .ref q_23, .ref q_25, .int 0])), (q_1, .inl (c_2, 6, .inr (.inr (.inr (.inr f_85))))), (q_3, .inl (c_4, 6, .inr (.inr (.inr (.inr f_91))))), (q_80, .inr (4, [.ref r_83, .ref n_84, .int 0, .int 0, .int 0, .int 0, .int 0, .int 0])), (q_86, .inr (4, [.ref r_89, .ref n_90, .int 0, .int 0, .int 0, .int 0, .int 0, .int 0]))] := hD
  refine lv_iinc (v := 5) (lv' := [(1, .int 5), (0, .ref nb)]) hx hb dX1_init_140 hl (k := 0) rfl (by decide) (by decide) rfl (fun ls hl => ?_)
  refine lv_goto (tgt := 105) hx hb dX1_init_143 (by decide) ?_
  have hP := hP.sub (ws' := [(nb, .inr (1, [.ref q_1, .ref q_3, .ref q_5, .ref q_7, .ref q_12, .ref q_15, .ref q_18, .ref q_21, .ref q_23, .ref q_25, .int 0])), (q_1, .inl (c_2, 6, .inr (.inr (.inr (.inr f_85))))), (q_3, .inl (c_4, 6, .inr (.inr (.inr (.inr f_91)))))]) [0, 1, 2] rfl
  have hD := hD.sub (ws' := [(nb, .inr (1, [.ref q_1, .ref q_3, .ref q_5, .ref q_7, .ref q_12, .ref q_15, .ref q_18, .ref q_21, .ref q_23, .ref q_25, .int 0])), (q_1, .inl (c_2, 6, .inr (.inr (.inr (.inr f_85))))), (q_3, .inl (c_4, 6, .inr (.inr (.inr (.inr f_91)))))]) [0, 1, 2] (by decide) rfl
  refine lv_iload_n hx hb dX1_init_105 rfl (lv_at hl 0 rfl) ?_
  refine lv_aload_n hx hb dX1_init_106 rfl (lv_at hl 1 rfl) ?_
  refine va_get (D := (dC, dI)) (ci := 1) (v := .ref q_1) (C := RX1) (T := TX1) (N := 11) hx hb hts fin_X1_init_X1 hown hK hP 0 rfl rfl 0 (by decide) (hts (.fieldLink RX1 11 "PatternGate$Compiler" "wholes" "[LPatternGate$Part;") (List.mem_of_getElem? (i := 5) (by decide +kernel))) (fun _ h9 => h9) rfl dX1_init_107 ?_
  refine va_alen (v := 6) hx hb hK hP 1 0 rfl rfl rfl dX1_init_110 ?_
  refine lv_icmp_ge (tgt := 146) hx hb dX1_init_111 (by decide) (fun k_92 => absurd k_92 (by decide)) (fun k_92 => ?_)
  refine lv_aload_n hx hb dX1_init_114 rfl (lv_at hl 1 rfl) ?_
  refine va_get (D := (dC, dI)) (ci := 1) (v := .ref q_1) (C := RX1) (T := TX1) (N := 11) hx hb hts fin_X1_init_X1 hown hK hP 0 rfl rfl 0 (by decide) (hts (.fieldLink RX1 11 "PatternGate$Compiler" "wholes" "[LPatternGate$Part;") (List.mem_of_getElem? (i := 5) (by decide +kernel))) (fun _ h9 => h9) rfl dX1_init_115 ?_
  refine lv_iload_n hx hb dX1_init_118 rfl (lv_at hl 0 rfl) ?_
  refine va_new (ci := 4) (fs := [.null, .null, .int 0, .int 0, .int 0, .int 0, .int 0, .int 0]) (C := RX4) (T := TX4) (N := 8) hx hb hts fin_X1_init_X4 tyX4 tyX4_ok hown (hts (.classLink RX1 9 RX4) (List.mem_of_getElem? (i := 4) (by decide +kernel))) (hts (.instantiable RX4 8) (List.mem_of_getElem? (i := 9) (by decide +kernel))) (hts (.initialized RX4) (List.mem_of_getElem? (i := 10) (by decide +kernel))) hK hP hD hS hA rfl (fun j hj => by rcases (show j = 0 ∨ j = 1 ∨ j = 2 ∨ j = 3 ∨ j = 4 ∨ j = 5 ∨ j = 6 ∨ j = 7 by omega) with rfl | rfl | rfl | rfl | rfl | rfl | rfl | rfl <;> rfl) (Nat.le_of_ble_eq_true rfl) (Nat.le_of_ble_eq_true rfl) dX1_init_119 (fun q_93 H hP hD hS => ?_)
  have hP : va_P (dC, dI) vwCl [(nb, .inr (1, [.ref q_1, .ref q_3, .ref q_5, .ref q_7, .ref q_12, .ref q_15, .ref q_18, .ref q_21, .ref q_23, .ref q_25, .int 0])), (q_1, .inl (c_2, 6, .inr (.inr (.inr (.inr f_85))))), (q_3, .inl (c_4, 6, .inr (.inr (.inr (.inr f_91))))), (q_93, .inr (4, [.null, .null, .int 0, .int 0, .int 0, .int 0, .int 0, .int 0]))] H := hP
  have hD : va_D A [(nb, .inr (1, [.ref q_1, .ref q_3, .ref q_5, .ref q_7, .ref q_12, .ref q_15, .ref q_18, .ref q_21, .ref q_23, .ref q_25, .int 0])), (q_1, .inl (c_2, 6, .inr (.inr (.inr (.inr f_85))))), (q_3, .inl (c_4, 6, .inr (.inr (.inr (.inr f_91))))), (q_93, .inr (4, [.null, .null, .int 0, .int 0, .int 0, .int 0, .int 0, .int 0]))] := hD
  refine W.widen (k := 81) (n := 7386) (by omega) (by omega) ?_
  refine lv_dup hx hb dX1_init_122 rfl ?_
  have hPc := hP.sub (ws' := [(q_93, .inr (4, [.null, .null, .int 0, .int 0, .int 0, .int 0, .int 0, .int 0]))]) [3] rfl
  have hKc := hK.sub (tys' := []) [] rfl
  have hDc := hD.sub (ws' := [(q_93, .inr (4, [.null, .null, .int 0, .int 0, .int 0, .int 0, .int 0, .int 0]))]) [3] (by decide) rfl
  have hFc := va_free (wc := [(q_93, .inr (4, [.null, .null, .int 0, .int 0, .int 0, .int 0, .int 0, .int 0]))]) hD hS hA [3] rfl
  refine va_callv (va_runIN (As := []) (rest := [.ref q_93, .int 5, .ref q_1]) ⟨hx, hb, hml, hown, hts⟩ (c_Part l dC dI q_93 H.size) ⟨va_cnB 0 hts mg_X1_init_X4_init_24 rfl rfl rfl hN24 (hts (.initialized RX4) (List.mem_of_getElem? (i := 10) (by decide +kernel))) (by decide +kernel) ⟨Nat.le_of_ble_eq_true rfl, Nat.le_of_ble_eq_true rfl⟩, rfl, (hts (.instanceMethod yX4_init) (List.mem_of_getElem? (i := 38) (by decide +kernel)))⟩ ⟨fun a U g mk q => by obtain ⟨q0, q1, qP, qK, qD, qE0⟩ := q; exact ⟨q0, q1, qP, va_K.moved (u := U) (U := U.calling g mk a) (Vm.Alike.refl U.vm) qK, qD, va_Nw.same rfl (rfl : U.vm = (U.calling g mk a).vm) qE0⟩, fun U hU hW => ⟨rfl, by rw [hU], by rw [hU]; exact hPc, va_K.moved hW.alike hKc, hDc.weaken (fun _ _ _ _ => trivial), va_Nw.warmM hW hN11⟩⟩ rfl rfl hl.1 rfl (lv_room (Nat.le_of_ble_eq_true rfl)) dX1_init_123 ⟨Nat.le_of_ble_eq_true rfl, Nat.le_of_ble_eq_true rfl⟩) hS (fun q _ h => hFc q h) hFc (fun u t H1 locs ht hvm hw hB hz1 hk1 hS => ?_)
  obtain ⟨r_96, n_97, hP1, hK1, hD1⟩ := hB
  rw [ht] at hP1
  obtain ⟨hP, hD⟩ := va_join (wr := [(nb, .inr (1, [.ref q_1, .ref q_3, .ref q_5, .ref q_7, .ref q_12, .ref q_15, .ref q_18, .ref q_21, .ref q_23, .ref q_25, .int 0])), (q_1, .inl (c_2, 6, .inr (.inr (.inr (.inr f_85))))), (q_3, .inl (c_4, 6, .inr (.inr (.inr (.inr f_91)))))]) (w1 := [(q_93, .inr (4, [.ref r_96, .ref n_97, .int 0, .int 0, .int 0, .int 0, .int 0, .int 0]))]) hP hD [3] [0, 1, 2] rfl rfl (by decide) (by decide) hk1 hFc hP1 hD1
  generalize H1 = H at hP hS ⊢
  have hP : va_P (dC, dI) vwCl [(nb, .inr (1, [.ref q_1, .ref q_3, .ref q_5, .ref q_7, .ref q_12, .ref q_15, .ref q_18, .ref q_21, .ref q_23, .ref q_25, .int 0])), (q_1, .inl (c_2, 6, .inr (.inr (.inr (.inr f_85))))), (q_3, .inl (c_4, 6, .inr (.inr (.inr (.inr f_91))))), (q_93, .inr (4, [.ref r_96, .ref n_97, .int 0, .int 0, .int 0, .int 0, .int 0, .int 0]))] H := hP
  have hD : va_D A [(nb, .inr (1, [.ref q_1, .ref q_3, .ref q_5, .ref q_7, .ref q_12, .ref q_15, .ref q_18, .ref q_21, .ref q_23, .ref q_25, .int 0])), (q_1, .inl (c_2, 6, .inr (.inr (.inr (.inr f_85))))), (q_3, .inl (c_4, 6, .inr (.inr (.inr (.inr f_91))))), (q_93, .inr (4, [.ref r_96, .ref n_97, .int 0, .int 0, .int 0, .int 0, .int 0, .int 0]))] := hD
  refine W.widen (k := 86) (n := 7698) (by omega) (by omega) ?_
  refine va_astq (r := (RX4, TX4, 8)) hx hb hK hP hD hS 1 0 3 4 rfl rfl rfl rfl (i := 5) (by unfold vp_in; decide +kernel) dX1_init_126 (fun H locs hP hD hS => ?_)
  generalize hf_f_98 : va_up f_85 _ _ = f_98 at hP hD
  have hP : va_P (dC, dI) vwCl [(nb, .inr (1, [.ref q_1, .ref q_3, .ref q_5, .ref q_7, .ref q_12, .ref q_15, .ref q_18, .ref q_21, .ref q_23, .ref q_25, .int 0])), (q_1, .inl (c_2, 6, .inr (.inr (.inr (.inr f_98))))), (q_3, .inl (c_4, 6, .inr (.inr (.inr (.inr f_91))))), (q_93, .inr (4, [.ref r_96, .ref n_97, .int 0, .int 0, .int 0, .int 0, .int 0, .int 0]))] H := hP
  have hD : va_D A [(nb, .inr (1, [.ref q_1, .ref q_3, .ref q_5, .ref q_7, .ref q_12, .ref q_15, .ref q_18, .ref q_21, .ref q_23, .ref q_25, .int 0])), (q_1, .inl (c_2, 6, .inr (.inr (.inr (.inr f_98))))), (q_3, .inl (c_4, 6, .inr (.inr (.inr (.inr f_91))))), (q_93, .inr (4, [.ref r_96, .ref n_97, .int 0, .int 0, .int 0, .int 0, .int 0, .int 0]))] := hD
  refine lv_aload_n hx hb dX1_init_127 rfl (lv_at hl 1 rfl) ?_
  refine va_get (D := (dC, dI)) (ci := 1) (v := .ref q_3) (C := RX1) (T := TX1) (N := 11) hx hb hts fin_X1_init_X1 hown hK hP 0 rfl rfl 1 (by decide) (hts (.fieldLink RX1 17 "PatternGate$Compiler" "branches" "[LPatternGate$Part;") (List.mem_of_getElem? (i := 6) (by decide +kernel))) (fun _ h9 => h9) rfl dX1_init_128 ?_
  refine lv_iload_n hx hb dX1_init_131 rfl (lv_at hl 0 rfl) ?_
  refine va_new (ci := 4) (fs := [.null, .null, .int 0, .int 0, .int 0, .int 0, .int 0, .int 0]) (C := RX4) (T := TX4) (N := 8) hx hb hts fin_X1_init_X4 tyX4 tyX4_ok hown (hts (.classLink RX1 9 RX4) (List.mem_of_getElem? (i := 4) (by decide +kernel))) (hts (.instantiable RX4 8) (List.mem_of_getElem? (i := 9) (by decide +kernel))) (hts (.initialized RX4) (List.mem_of_getElem? (i := 10) (by decide +kernel))) hK hP hD hS hA rfl (fun j hj => by rcases (show j = 0 ∨ j = 1 ∨ j = 2 ∨ j = 3 ∨ j = 4 ∨ j = 5 ∨ j = 6 ∨ j = 7 by omega) with rfl | rfl | rfl | rfl | rfl | rfl | rfl | rfl <;> rfl) (Nat.le_of_ble_eq_true rfl) (Nat.le_of_ble_eq_true rfl) dX1_init_132 (fun q_99 H hP hD hS => ?_)
  have hP : va_P (dC, dI) vwCl [(nb, .inr (1, [.ref q_1, .ref q_3, .ref q_5, .ref q_7, .ref q_12, .ref q_15, .ref q_18, .ref q_21, .ref q_23, .ref q_25, .int 0])), (q_1, .inl (c_2, 6, .inr (.inr (.inr (.inr f_98))))), (q_3, .inl (c_4, 6, .inr (.inr (.inr (.inr f_91))))), (q_93, .inr (4, [.ref r_96, .ref n_97, .int 0, .int 0, .int 0, .int 0, .int 0, .int 0])), (q_99, .inr (4, [.null, .null, .int 0, .int 0, .int 0, .int 0, .int 0, .int 0]))] H := hP
  have hD : va_D A [(nb, .inr (1, [.ref q_1, .ref q_3, .ref q_5, .ref q_7, .ref q_12, .ref q_15, .ref q_18, .ref q_21, .ref q_23, .ref q_25, .int 0])), (q_1, .inl (c_2, 6, .inr (.inr (.inr (.inr f_98))))), (q_3, .inl (c_4, 6, .inr (.inr (.inr (.inr f_91))))), (q_93, .inr (4, [.ref r_96, .ref n_97, .int 0, .int 0, .int 0, .int 0, .int 0, .int 0])), (q_99, .inr (4, [.null, .null, .int 0, .int 0, .int 0, .int 0, .int 0, .int 0]))] := hD
  refine W.widen (k := 87) (n := 7706) (by omega) (by omega) ?_
  refine lv_dup hx hb dX1_init_135 rfl ?_
  have hPc := hP.sub (ws' := [(q_99, .inr (4, [.null, .null, .int 0, .int 0, .int 0, .int 0, .int 0, .int 0]))]) [4] rfl
  have hKc := hK.sub (tys' := []) [] rfl
  have hDc := hD.sub (ws' := [(q_99, .inr (4, [.null, .null, .int 0, .int 0, .int 0, .int 0, .int 0, .int 0]))]) [4] (by decide) rfl
  have hFc := va_free (wc := [(q_99, .inr (4, [.null, .null, .int 0, .int 0, .int 0, .int 0, .int 0, .int 0]))]) hD hS hA [4] rfl
  refine va_callv (va_runIN (As := []) (rest := [.ref q_99, .int 5, .ref q_3]) ⟨hx, hb, hml, hown, hts⟩ (c_Part l dC dI q_99 H.size) ⟨va_cnB 0 hts mg_X1_init_X4_init_24 rfl rfl rfl hN24 (hts (.initialized RX4) (List.mem_of_getElem? (i := 10) (by decide +kernel))) (by decide +kernel) ⟨Nat.le_of_ble_eq_true rfl, Nat.le_of_ble_eq_true rfl⟩, rfl, (hts (.instanceMethod yX4_init) (List.mem_of_getElem? (i := 38) (by decide +kernel)))⟩ ⟨fun a U g mk q => by obtain ⟨q0, q1, qP, qK, qD, qE0⟩ := q; exact ⟨q0, q1, qP, va_K.moved (u := U) (U := U.calling g mk a) (Vm.Alike.refl U.vm) qK, qD, va_Nw.same rfl (rfl : U.vm = (U.calling g mk a).vm) qE0⟩, fun U hU hW => ⟨rfl, by rw [hU], by rw [hU]; exact hPc, va_K.moved hW.alike hKc, hDc.weaken (fun _ _ _ _ => trivial), va_Nw.warmM hW hN11⟩⟩ rfl rfl hl.1 rfl (lv_room (Nat.le_of_ble_eq_true rfl)) dX1_init_136 ⟨Nat.le_of_ble_eq_true rfl, Nat.le_of_ble_eq_true rfl⟩) hS (fun q _ h => hFc q h) hFc (fun u t H1 locs ht hvm hw hB hz1 hk1 hS => ?_)
  obtain ⟨r_102, n_103, hP1, hK1, hD1⟩ := hB
  rw [ht] at hP1
  obtain ⟨hP, hD⟩ := va_join (wr := [(nb, .inr (1, [.ref q_1, .ref q_3, .ref q_5, .ref q_7, .ref q_12, .ref q_15, .ref q_18, .ref q_21, .ref q_23, .ref q_25, .int 0])), (q_1, .inl (c_2, 6, .inr (.inr (.inr (.inr f_98))))), (q_3, .inl (c_4, 6, .inr (.inr (.inr (.inr f_91))))), (q_93, .inr (4, [.ref r_96, .ref n_97, .int 0, .int 0, .int 0, .int 0, .int 0, .int 0]))]) (w1 := [(q_99, .inr (4, [.ref r_102, .ref n_103, .int 0, .int 0, .int 0, .int 0, .int 0, .int 0]))]) hP hD [4] [0, 1, 2, 3] rfl rfl (by decide) (by decide) hk1 hFc hP1 hD1
  generalize H1 = H at hP hS ⊢
  have hP : va_P (dC, dI) vwCl [(nb, .inr (1, [.ref q_1, .ref q_3, .ref q_5, .ref q_7, .ref q_12, .ref q_15, .ref q_18, .ref q_21, .ref q_23, .ref q_25, .int 0])), (q_1, .inl (c_2, 6, .inr (.inr (.inr (.inr f_98))))), (q_3, .inl (c_4, 6, .inr (.inr (.inr (.inr f_91))))), (q_93, .inr (4, [.ref r_96, .ref n_97, .int 0, .int 0, .int 0, .int 0, .int 0, .int 0])), (q_99, .inr (4, [.ref r_102, .ref n_103, .int 0, .int 0, .int 0, .int 0, .int 0, .int 0]))] H := hP
  have hD : va_D A [(nb, .inr (1, [.ref q_1, .ref q_3, .ref q_5, .ref q_7, .ref q_12, .ref q_15, .ref q_18, .ref q_21, .ref q_23, .ref q_25, .int 0])), (q_1, .inl (c_2, 6, .inr (.inr (.inr (.inr f_98))))), (q_3, .inl (c_4, 6, .inr (.inr (.inr (.inr f_91))))), (q_93, .inr (4, [.ref r_96, .ref n_97, .int 0, .int 0, .int 0, .int 0, .int 0, .int 0])), (q_99, .inr (4, [.ref r_102, .ref n_103, .int 0, .int 0, .int 0, .int 0, .int 0, .int 0]))] := hD
  refine W.widen (k := 92) (n := 8018) (by omega) (by omega) ?_
  refine va_astq (r := (RX4, TX4, 8)) hx hb hK hP hD hS 2 1 4 4 rfl rfl rfl rfl (i := 5) (by unfold vp_in; decide +kernel) dX1_init_139 (fun H locs hP hD hS => ?_)
  generalize hf_f_104 : va_up f_91 _ _ = f_104 at hP hD
  have hP : va_P (dC, dI) vwCl [(nb, .inr (1, [.ref q_1, .ref q_3, .ref q_5, .ref q_7, .ref q_12, .ref q_15, .ref q_18, .ref q_21, .ref q_23, .ref q_25, .int 0])), (q_1, .inl (c_2, 6, .inr (.inr (.inr (.inr f_98))))), (q_3, .inl (c_4, 6, .inr (.inr (.inr (.inr f_104))))), (q_93, .inr (4, [.ref r_96, .ref n_97, .int 0, .int 0, .int 0, .int 0, .int 0, .int 0])), (q_99, .inr (4, [.ref r_102, .ref n_103, .int 0, .int 0, .int 0, .int 0, .int 0, .int 0]))] H := hP
  have hD : va_D A [(nb, .inr (1, [.ref q_1, .ref q_3, .ref q_5, .ref q_7, .ref q_12, .ref q_15, .ref q_18, .ref q_21, .ref q_23, .ref q_25, .int 0])), (q_1, .inl (c_2, 6, .inr (.inr (.inr (.inr f_98))))), (q_3, .inl (c_4, 6, .inr (.inr (.inr (.inr f_104))))), (q_93, .inr (4, [.ref r_96, .ref n_97, .int 0, .int 0, .int 0, .int 0, .int 0, .int 0])), (q_99, .inr (4, [.ref r_102, .ref n_103, .int 0, .int 0, .int 0, .int 0, .int 0, .int 0]))] := hD
  refine lv_iinc (v := 6) (lv' := [(1, .int 6), (0, .ref nb)]) hx hb dX1_init_140 hl (k := 0) rfl (by decide) (by decide) rfl (fun ls hl => ?_)
  refine lv_goto (tgt := 105) hx hb dX1_init_143 (by decide) ?_
  have hP := hP.sub (ws' := [(nb, .inr (1, [.ref q_1, .ref q_3, .ref q_5, .ref q_7, .ref q_12, .ref q_15, .ref q_18, .ref q_21, .ref q_23, .ref q_25, .int 0])), (q_1, .inl (c_2, 6, .inr (.inr (.inr (.inr f_98))))), (q_3, .inl (c_4, 6, .inr (.inr (.inr (.inr f_104)))))]) [0, 1, 2] rfl
  have hD := hD.sub (ws' := [(nb, .inr (1, [.ref q_1, .ref q_3, .ref q_5, .ref q_7, .ref q_12, .ref q_15, .ref q_18, .ref q_21, .ref q_23, .ref q_25, .int 0])), (q_1, .inl (c_2, 6, .inr (.inr (.inr (.inr f_98))))), (q_3, .inl (c_4, 6, .inr (.inr (.inr (.inr f_104)))))]) [0, 1, 2] (by decide) rfl
  refine lv_iload_n hx hb dX1_init_105 rfl (lv_at hl 0 rfl) ?_
  refine lv_aload_n hx hb dX1_init_106 rfl (lv_at hl 1 rfl) ?_
  refine va_get (D := (dC, dI)) (ci := 1) (v := .ref q_1) (C := RX1) (T := TX1) (N := 11) hx hb hts fin_X1_init_X1 hown hK hP 0 rfl rfl 0 (by decide) (hts (.fieldLink RX1 11 "PatternGate$Compiler" "wholes" "[LPatternGate$Part;") (List.mem_of_getElem? (i := 5) (by decide +kernel))) (fun _ h9 => h9) rfl dX1_init_107 ?_
  refine va_alen (v := 6) hx hb hK hP 1 0 rfl rfl rfl dX1_init_110 ?_
  refine lv_icmp_ge (tgt := 146) hx hb dX1_init_111 (by decide) (fun k_105 => ?_) (fun k_105 => absurd (by decide) k_105)
  refine W.widen (k := 100) (n := 9000) (by omega) (by omega) ?_
  exact W.vret hx hb hr (fun t ht hW => ⟨⟨(), rfl, trivial, trivial⟩, hS.F ht⟩) hS.2.2 dX1_init_146
theorem dX9_init_0 : decode cX9_init 0 = .ok (.aload_n 0, 1) := by decide +kernel
theorem dX9_init_1 : decode cX9_init 1 = .ok (.invokespecial 3, 3) := by decide +kernel
theorem dX9_init_4 : decode cX9_init 4 = .ok (.aload_n 0, 1) := by decide +kernel
theorem dX9_init_5 : decode cX9_init 5 = .ok (.sipush 900, 3) := by decide +kernel
theorem dX9_init_8 : decode cX9_init 8 = .ok (.newarray .int, 2) := by decide +kernel
theorem dX9_init_10 : decode cX9_init 10 = .ok (.putfield 9, 3) := by decide +kernel
theorem dX9_init_13 : decode cX9_init 13 = .ok (.aload_n 0, 1) := by decide +kernel
theorem dX9_init_14 : decode cX9_init 14 = .ok (.iconst (-1), 1) := by decide +kernel
theorem dX9_init_15 : decode cX9_init 15 = .ok (.putfield 13, 3) := by decide +kernel
theorem dX9_init_18 : decode cX9_init 18 = .ok (.aload_n 0, 1) := by decide +kernel
theorem dX9_init_19 : decode cX9_init 19 = .ok (.iconst (-1), 1) := by decide +kernel
theorem dX9_init_20 : decode cX9_init 20 = .ok (.putfield 17, 3) := by decide +kernel
theorem dX9_init_23 : decode cX9_init 23 = .ok (.aload_n 0, 1) := by decide +kernel
theorem dX9_init_24 : decode cX9_init 24 = .ok (.new 20, 3) := by decide +kernel
theorem dX9_init_27 : decode cX9_init 27 = .ok (.dup, 1) := by decide +kernel
theorem dX9_init_28 : decode cX9_init 28 = .ok (.iconst 0, 1) := by decide +kernel
theorem dX9_init_29 : decode cX9_init 29 = .ok (.anewarray 22, 3) := by decide +kernel
theorem dX9_init_32 : decode cX9_init 32 = .ok (.iconst 0, 1) := by decide +kernel
theorem dX9_init_33 : decode cX9_init 33 = .ok (.anewarray 24, 3) := by decide +kernel
theorem dX9_init_36 : decode cX9_init 36 = .ok (.aconst_null, 1) := by decide +kernel
theorem dX9_init_37 : decode cX9_init 37 = .ok (.invokespecial 26, 3) := by decide +kernel
theorem dX9_init_40 : decode cX9_init 40 = .ok (.putfield 29, 3) := by decide +kernel
theorem dX9_init_43 : decode cX9_init 43 = .ok (.aload_n 0, 1) := by decide +kernel
theorem dX9_init_44 : decode cX9_init 44 = .ok (.iconst 3, 1) := by decide +kernel
theorem dX9_init_45 : decode cX9_init 45 = .ok (.anewarray 20, 3) := by decide +kernel
theorem dX9_init_48 : decode cX9_init 48 = .ok (.putfield 33, 3) := by decide +kernel
theorem dX9_init_51 : decode cX9_init 51 = .ok (.aload_n 0, 1) := by decide +kernel
theorem dX9_init_52 : decode cX9_init 52 = .ok (.iconst 3, 1) := by decide +kernel
theorem dX9_init_53 : decode cX9_init 53 = .ok (.newarray .int, 2) := by decide +kernel
theorem dX9_init_55 : decode cX9_init 55 = .ok (.putfield 37, 3) := by decide +kernel
theorem dX9_init_58 : decode cX9_init 58 = .ok (.aload_n 0, 1) := by decide +kernel
theorem dX9_init_59 : decode cX9_init 59 = .ok (.new 40, 3) := by decide +kernel
theorem dX9_init_62 : decode cX9_init 62 = .ok (.dup, 1) := by decide +kernel
theorem dX9_init_63 : decode cX9_init 63 = .ok (.invokespecial 42, 3) := by decide +kernel
theorem dX9_init_66 : decode cX9_init 66 = .ok (.putfield 43, 3) := by decide +kernel
theorem dX9_init_69 : decode cX9_init 69 = .ok (.aload_n 0, 1) := by decide +kernel
theorem dX9_init_70 : decode cX9_init 70 = .ok (.new 47, 3) := by decide +kernel
theorem dX9_init_73 : decode cX9_init 73 = .ok (.dup, 1) := by decide +kernel
theorem dX9_init_74 : decode cX9_init 74 = .ok (.invokespecial 49, 3) := by decide +kernel
theorem dX9_init_77 : decode cX9_init 77 = .ok (.putfield 50, 3) := by decide +kernel
theorem dX9_init_80 : decode cX9_init 80 = .ok (.aload_n 0, 1) := by decide +kernel
theorem dX9_init_81 : decode cX9_init 81 = .ok (.new 54, 3) := by decide +kernel
theorem dX9_init_84 : decode cX9_init 84 = .ok (.dup, 1) := by decide +kernel
theorem dX9_init_85 : decode cX9_init 85 = .ok (.invokespecial 56, 3) := by decide +kernel
theorem dX9_init_88 : decode cX9_init 88 = .ok (.putfield 57, 3) := by decide +kernel
theorem dX9_init_91 : decode cX9_init 91 = .ok (.aload_n 0, 1) := by decide +kernel
theorem dX9_init_92 : decode cX9_init 92 = .ok (.bipush 60, 2) := by decide +kernel
theorem dX9_init_94 : decode cX9_init 94 = .ok (.newarray .int, 2) := by decide +kernel
theorem dX9_init_96 : decode cX9_init 96 = .ok (.putfield 61, 3) := by decide +kernel
theorem dX9_init_99 : decode cX9_init 99 = .ok (.aload_n 0, 1) := by decide +kernel
theorem dX9_init_100 : decode cX9_init 100 = .ok (.bipush 60, 2) := by decide +kernel
theorem dX9_init_102 : decode cX9_init 102 = .ok (.newarray .int, 2) := by decide +kernel
theorem dX9_init_104 : decode cX9_init 104 = .ok (.putfield 64, 3) := by decide +kernel
theorem dX9_init_107 : decode cX9_init 107 = .ok (.aload_n 0, 1) := by decide +kernel
theorem dX9_init_108 : decode cX9_init 108 = .ok (.bipush 26, 2) := by decide +kernel
theorem dX9_init_110 : decode cX9_init 110 = .ok (.newarray .int, 2) := by decide +kernel
theorem dX9_init_112 : decode cX9_init 112 = .ok (.putfield 67, 3) := by decide +kernel
theorem dX9_init_115 : decode cX9_init 115 = .ok (.return_, 1) := by decide +kernel
def mwX9_init : List Cond := .code yX9_init cX9_init 1 none :: ([.methodLink RX9 3 objectInit, .instanceMethod objectInit, .code objectInit ⟨#[0xb1]⟩ 1 none, .arrayClass .int, .fieldLink RX9 9 "PatternGate" "tape" "[I", .fieldLink RX9 13 "PatternGate" "faultKind" "I", .fieldLink RX9 17 "PatternGate" "faultPlace" "I", .classLink RX9 20 RX0, .instantiable RX0 3, .initialized RX0, .classLink RX9 22 RX2, .classLink RX9 24 RX5, .code yX0_init cX0_init 4 none, .methodLink RX0 1 objectInit, .fieldLink RX0 7 "PatternGate$Book" "docs" "[LPatternGate$Doc;", .fieldLink RX0 13 "PatternGate$Book" "patterns" "[LPatternGate$Pattern;", .fieldLink RX0 17 "PatternGate$Book" "earlier" "LPatternGate$Book;", .methodLink RX9 26 yX0_init, .instanceMethod yX0_init, .fieldLink RX9 29 "PatternGate" "book" "LPatternGate$Book;", .fieldLink RX9 33 "PatternGate" "markedBooks" "[LPatternGate$Book;", .fieldLink RX9 37 "PatternGate" "markedUndoable" "[I", .classLink RX9 40 RX6, .instantiable RX6 11, .initialized RX6, .code yX6_init cX6_init 1 none, .methodLink RX6 3 objectInit, .fieldLink RX6 11 "PatternGate$Reader" "begins" "[I", .fieldLink RX6 15 "PatternGate$Reader" "ends" "[I", .arrayClass .boolean, .fieldLink RX6 18 "PatternGate$Reader" "isPattern" "[Z", .instanceMethod yX6_init, .fieldLink RX9 43 "PatternGate" "reader" "LPatternGate$Reader;", .classLink RX9 47 RX1, .instantiable RX1 11, .initialized RX1, .code yX1_init cX1_init 2 none, .methodLink RX1 3 objectInit, .classLink RX1 9 RX4, .fieldLink RX1 11 "PatternGate$Compiler" "wholes" "[LPatternGate$Part;", .fieldLink RX1 17 "PatternGate$Compiler" "branches" "[LPatternGate$Part;", .fieldLink RX1 20 "PatternGate$Compiler" "begun" "[Z", .instantiable RX4 8, .initialized RX4, .code yX4_init cX4_init 1 none, .methodLink RX4 3 objectInit, .classLink RX4 9 RX7, .instantiable RX7 2, .initialized RX7, .code yX7_init cX7_init 1 none, .methodLink RX7 5 objectInit, .arrayClass .long, .fieldLink RX7 11 "PatternGate$Rows" "row" "[J", .instanceMethod yX7_init, .fieldLink RX4 12 "PatternGate$Part" "rows" "LPatternGate$Rows;", .classLink RX4 18 RX3, .instantiable RX3 4, .initialized RX3, .code yX3_init cX3_init 2 none, .methodLink RX3 3 objectInit, .methodLink RX3 9 Lib.Math.max.name, .static Lib.Math.max.name, .initialized "java/lang/Math", .code Lib.Math.max.name Lib.Math.max.code 2 (some .int), .fieldLink RX3 15 "PatternGate$Need" "room" "I", .fieldLink RX3 21 "PatternGate$Need" "triples" "[I", .fieldLink RX3 25 "PatternGate$Need" "sizes" "[I", .methodLink RX4 20 yX3_init, .instanceMethod yX3_init, .fieldLink RX4 23 "PatternGate$Part" "need" "LPatternGate$Need;", .instanceMethod yX4_init, .fieldLink RX1 25 "PatternGate$Compiler" "spot" "LPatternGate$Part;", .classLink RX1 29 RX7, .fieldLink RX1 32 "PatternGate$Compiler" "joined" "LPatternGate$Rows;", .classLink RX1 36 RX3, .methodLink RX1 38 yX3_init, .fieldLink RX1 41 "PatternGate$Compiler" "ofRows" "LPatternGate$Need;", .fieldLink RX1 45 "PatternGate$Compiler" "wide" "LPatternGate$Need;", .fieldLink RX1 48 "PatternGate$Compiler" "choice" "[I", .fieldLink RX1 52 "PatternGate$Compiler" "follow" "[I", .fieldLink RX1 55 "PatternGate$Compiler" "takers" "[I", .methodLink RX9 49 yX1_init, .instanceMethod yX1_init, .fieldLink RX9 50 "PatternGate" "compiler" "LPatternGate$Compiler;", .classLink RX9 54 RX8, .instantiable RX8 3, .initialized RX8, .code yX8_init cX8_init 1 none, .methodLink RX8 3 objectInit, .fieldLink RX8 9 "PatternGate$Walk" "lists" "[I", .instanceMethod yX8_init, .fieldLink RX9 57 "PatternGate" "walk" "LPatternGate$Walk;", .fieldLink RX9 61 "PatternGate" "paper" "[I", .fieldLink RX9 64 "PatternGate" "sorted" "[I", .fieldLink RX9 67 "PatternGate" "tally" "[I"] ++ wsX90 ++ wsX00 ++ wsX60 ++ wsX10 ++ wsX40 ++ wsX70 ++ wsX30 ++ wsX80)
theorem fin_X9_init_X0 : ∀ w ∈ wsX00, w ∈ mwX9_init := fun w h => List.mem_cons_of_mem _ (List.mem_append_left _ (List.mem_append_left _ (List.mem_append_left _ (List.mem_append_left _ (List.mem_append_left _ (List.mem_append_left _ (List.mem_append_right _ h)))))))
theorem fin_X9_init_X1 : ∀ w ∈ wsX10, w ∈ mwX9_init := fun w h => List.mem_cons_of_mem _ (List.mem_append_left _ (List.mem_append_left _ (List.mem_append_left _ (List.mem_append_left _ (List.mem_append_right _ h)))))
theorem fin_X9_init_X6 : ∀ w ∈ wsX60, w ∈ mwX9_init := fun w h => List.mem_cons_of_mem _ (List.mem_append_left _ (List.mem_append_left _ (List.mem_append_left _ (List.mem_append_left _ (List.mem_append_left _ (List.mem_append_right _ h))))))
theorem fin_X9_init_X8 : ∀ w ∈ wsX80, w ∈ mwX9_init := fun w h => List.mem_cons_of_mem _ (List.mem_append_right _ h)
theorem fin_X9_init_X9 : ∀ w ∈ wsX90, w ∈ mwX9_init := fun w h => List.mem_cons_of_mem _ (List.mem_append_left _ (List.mem_append_left _ (List.mem_append_left _ (List.mem_append_left _ (List.mem_append_left _ (List.mem_append_left _ (List.mem_append_left _ (List.mem_append_right _ h))))))))
set_option maxRecDepth 20000 in
theorem mg_X9_init_X0_init_26 : GoodIn mwX9_init mwX0_init := goodIn_r _ [13, 14, 2, 3, 15, 16, 17, 112, 113, 114] (by decide +kernel) (by decide +kernel)
set_option maxRecDepth 20000 in
theorem mg_X9_init_X6_init_42 : GoodIn mwX9_init mwX6_init := goodIn_r _ [26, 27, 2, 3, 4, 28, 29, 30, 31, 115, 116, 117, 118, 119, 120, 121, 122, 123, 124, 125] (by decide +kernel) (by decide +kernel)
set_option maxRecDepth 20000 in
theorem mg_X9_init_X1_init_49 : GoodIn mwX9_init mwX1_init := goodIn_r _ [37, 38, 2, 3, 39, 40, 41, 30, 42, 43, 44, 45, 46, 47, 48, 49, 50, 51, 52, 53, 54, 55, 56, 57, 58, 59, 60, 61, 62, 63, 64, 65, 4, 66, 67, 68, 69, 70, 71, 72, 73, 74, 75, 76, 77, 78, 79, 80, 81, 126, 127, 128, 129, 130, 131, 132, 133, 134, 135, 136, 137, 138, 139, 140, 141, 142, 143, 144, 145, 146, 147, 148, 149, 150] (by decide +kernel) (by decide +kernel)
set_option maxRecDepth 20000 in
theorem mg_X9_init_X8_init_56 : GoodIn mwX9_init mwX8_init := goodIn_r _ [88, 89, 2, 3, 4, 90, 151, 152, 153] (by decide +kernel) (by decide +kernel)
set_option maxHeartbeats 4000000 in
set_option maxRecDepth 100000 in
/-- PatternGate() -/
theorem c_Gate (l : Launch) (dC : Nat → ClassId) (dI : Nat → Nat → Nat) (x sz : Nat) : Met l yX9_init mwX9_init ({ frames := 4, cells := 120, slots := 11000, locals := 240 }) (va_Pc [.ref x] (fun U => U.heap.size = sz ∧ va_P (dC, dI) vwCl ([(x, .inr (9, [.int 0, .null, .int 0, .int 0, .int 0, .null, .int 0, .null, .null, .int 0, .null, .null, .null, .null, .null, .null]))]) U.heap ∧ va_K (dC, dI) vwCl ([]) U ∧ va_D (fun _ => True) ([(x, .inr (9, [.int 0, .null, .int 0, .int 0, .int 0, .null, .int 0, .null, .null, .int 0, .null, .null, .null, .null, .null, .null]))]) ∧ va_AO "PatternGate$Doc" U ∧ va_AO "PatternGate$Pattern" U ∧ va_AO "PatternGate$Book" U ∧ va_AO "PatternGate$Part" U ∧ va_Nw (.methodLinkNest RX9 42 yX6_init "PatternGate") U ∧ va_Nw (.methodLinkNest RX9 56 yX8_init "PatternGate") U ∧ va_Nw (.methodLinkNest RX1 24 yX4_init "PatternGate") U ∧ va_Nw (.methodLinkNest RX1 31 yX7_init "PatternGate") U ∧ va_Nw (.methodLinkNest RX4 11 yX7_init "PatternGate") U)) (va_Qv (fun (_ : Unit) => True) (fun _ t => ∃ (q : Nat → Nat) (b d0 p0 : Nat) (cT cD cP cB cU : ClassId) (r : Nat → Nat), va_P (dC, dI) vwCl (gW x q b d0 p0 cT cD cP cB cU r) t.heap ∧ va_K (dC, dI) vwCl (gT cT cD cP cB cU) t ∧ va_D (va_A ([(x, .inr (9, [.int 0, .null, .int 0, .int 0, .int 0, .null, .int 0, .null, .null, .int 0, .null, .null, .null, .null, .null, .null]))]) sz) (gW x q b d0 p0 cT cD cP cB cU r)) (va_A ([(x, .inr (9, [.int 0, .null, .int 0, .int 0, .int 0, .null, .int 0, .null, .null, .int 0, .null, .null, .null, .null, .null, .null]))]) sz)) 120 11000 (va_A ([(x, .inr (9, [.int 0, .null, .int 0, .int 0, .int 0, .null, .int 0, .null, .null, .int 0, .null, .null, .null, .null, .null, .null]))]) sz) := by
  refine Met.ofW (cc := cX9_init) (maxL := 1) (ret := none) (by decide +kernel) rfl ?_
  intro p e s m args below meth c s₁ B hml hv
  obtain ⟨rfl, hsz, hP, hK, hD0, hAO2, hAO5, hAO0, hAO4, hN42, hN56, hN24, hN31, hN11⟩ := hv
  have hx := B.exec
  have hb := B.bytes
  have hr := B.returns
  have hts := atoms_spec (ws := mwX9_init) B.pre
  have hown : s.vm.findClass RX9 = some m.cls := findClass_of_methodNamed B.named
  have hlocks := B.notSynchronized
  have hin : meth.name = "<init>" := (name_of_methodNamed B.named B.method).1
  subst hsz
  have hD := hD0.self (sz := s.heap.size)
  generalize hAe : va_A ([(x, .inr (9, [.int 0, .null, .int 0, .int 0, .int 0, .null, .int 0, .null, .null, .int 0, .null, .null, .null, .null, .null, .null]))]) s.heap.size = A at hD ⊢
  have hA : ∀ q : Nat, s.heap.size ≤ q → A q := fun q h => by rw [← hAe]; exact Or.inr h
  have hP : va_P (dC, dI) vwCl [(x, .inr (9, [.int 0, .null, .int 0, .int 0, .int 0, .null, .int 0, .null, .null, .int 0, .null, .null, .null, .null, .null, .null]))] s.heap := hP
  have hD : va_D A [(x, .inr (9, [.int 0, .null, .int 0, .int 0, .int 0, .null, .int 0, .null, .null, .int 0, .null, .null, .null, .null, .null, .null]))] := hD
  have hK : va_K (dC, dI) vwCl [] s := hK
  generalize hH : s.heap = H at hP ⊢
  have hS : va_S A s.heap H [] := by rw [← hH]; exact va_S.rf
  have hl := lv_entry ([.ref x]) (n := 1) (Nat.le_of_ble_eq_true rfl)
  rw [lg_entry_eq]
  generalize (lg_sl ([.ref x]) ++ List.replicate (1 - (lg_sl ([.ref x])).length) Slot.unset).toArray = ls at hl ⊢
  have hl : lv_has ls 1 [(0, .ref x)] := hl
  refine lv_aload_n hx hb dX9_init_0 rfl (lv_at hl 0 rfl) ?_
  refine W.objInit hx hb hown (hts (.methodLink RX9 3 objectInit) (List.mem_of_getElem? (i := 1) (by decide +kernel))) (hts (.instanceMethod objectInit) (List.mem_of_getElem? (i := 2) (by decide +kernel))) (hts (.code objectInit ⟨#[0xb1]⟩ 1 none) (List.mem_of_getElem? (i := 3) (by decide +kernel))) rfl (by rw [hml]; exact hl.1) rfl dX9_init_1 (Nat.le_of_ble_eq_true rfl) (Nat.le_of_ble_eq_true rfl) ?_
  refine W.eq (g2 := F0 m 4 ls []) rfl ?_
  refine lv_aload_n hx hb dX9_init_4 rfl (lv_at hl 0 rfl) ?_
  refine lv_sipush (v := 900) hx hb dX9_init_5 (by decide) ?_
  refine va_newa (atype := .int) (ty := .int) (n := 900) (N' := 900) (a0 := (900, .inl (fun _ => 0))) hx hb (hts (.arrayClass .int) (List.mem_of_getElem? (i := 4) (by decide +kernel))) rfl hK hP hD hS hA (fun _ => rfl) (by decide) (by decide) (Nat.le_of_ble_eq_true rfl) (Nat.le_of_ble_eq_true rfl) (Nat.le_of_ble_eq_true rfl) dX9_init_8 (fun q_1 c_2 H hK hP hD hS => ?_)
  have hP : va_P (dC, dI) vwCl [(x, .inr (9, [.int 0, .null, .int 0, .int 0, .int 0, .null, .int 0, .null, .null, .int 0, .null, .null, .null, .null, .null, .null])), (q_1, .inl (c_2, 900, .inl (fun _ => 0)))] H := hP
  have hD : va_D A [(x, .inr (9, [.int 0, .null, .int 0, .int 0, .int 0, .null, .int 0, .null, .null, .int 0, .null, .null, .null, .null, .null, .null])), (q_1, .inl (c_2, 900, .inl (fun _ => 0)))] := hD
  have hK : va_K (dC, dI) vwCl [(c_2, .int)] s := hK
  refine W.widen (k := 1) (n := 900) (by omega) (by omega) ?_
  refine va_putF (D := (dC, dI)) (ci := 9) (v := .ref q_1) (ty := .array .int) (C := RX9) (T := TX9) (N := 16) hx hb hts fin_X9_init_X9 tyX9 tyX9_ok nmX9 hown hK hP hD hS 0 rfl rfl 1 (by decide) (hts (.fieldLink RX9 9 "PatternGate" "tape" "[I") (List.mem_of_getElem? (i := 5) (by decide +kernel))) (fun _ h9 => h9) rfl hin rfl (by decide +kernel) rfl rfl (Nat.le_of_ble_eq_true rfl) dX9_init_10 (fun H locs hP hD hS => ?_)
  have hP : va_P (dC, dI) vwCl [(x, .inr (9, [.int 0, .ref q_1, .int 0, .int 0, .int 0, .null, .int 0, .null, .null, .int 0, .null, .null, .null, .null, .null, .null])), (q_1, .inl (c_2, 900, .inl (fun _ => 0)))] H := hP
  have hD : va_D A [(x, .inr (9, [.int 0, .ref q_1, .int 0, .int 0, .int 0, .null, .int 0, .null, .null, .int 0, .null, .null, .null, .null, .null, .null])), (q_1, .inl (c_2, 900, .inl (fun _ => 0)))] := hD
  refine lv_aload_n hx hb dX9_init_13 rfl (lv_at hl 0 rfl) ?_
  refine lv_iconst (v := (-1)) hx hb dX9_init_14 (by decide) ?_
  refine va_put (D := (dC, dI)) (ci := 9) (v := .int (-1)) (ty := .int) (C := RX9) (T := TX9) (N := 16) hx hb hts fin_X9_init_X9 tyX9 tyX9_ok nmX9 hown hK hP hD hS 0 rfl rfl 3 (by decide) (hts (.fieldLink RX9 13 "PatternGate" "faultKind" "I") (List.mem_of_getElem? (i := 6) (by decide +kernel))) (fun _ h9 => h9) rfl (by decide +kernel) rfl rfl (Nat.le_of_ble_eq_true rfl) dX9_init_15 (fun H locs hP hD hS => ?_)
  have hP : va_P (dC, dI) vwCl [(x, .inr (9, [.int 0, .ref q_1, .int 0, .int (-1), .int 0, .null, .int 0, .null, .null, .int 0, .null, .null, .null, .null, .null, .null])), (q_1, .inl (c_2, 900, .inl (fun _ => 0)))] H := hP
  have hD : va_D A [(x, .inr (9, [.int 0, .ref q_1, .int 0, .int (-1), .int 0, .null, .int 0, .null, .null, .int 0, .null, .null, .null, .null, .null, .null])), (q_1, .inl (c_2, 900, .inl (fun _ => 0)))] := hD
  refine lv_aload_n hx hb dX9_init_18 rfl (lv_at hl 0 rfl) ?_
  refine lv_iconst (v := (-1)) hx hb dX9_init_19 (by decide) ?_
  refine va_put (D := (dC, dI)) (ci := 9) (v := .int (-1)) (ty := .int) (C := RX9) (T := TX9) (N := 16) hx hb hts fin_X9_init_X9 tyX9 tyX9_ok nmX9 hown hK hP hD hS 0 rfl rfl 4 (by decide) (hts (.fieldLink RX9 17 "PatternGate" "faultPlace" "I") (List.mem_of_getElem? (i := 7) (by decide +kernel))) (fun _ h9 => h9) rfl (by decide +kernel) rfl rfl (Nat.le_of_ble_eq_true rfl) dX9_init_20 (fun H locs hP hD hS => ?_)
  have hP : va_P (dC, dI) vwCl [(x, .inr (9, [.int 0, .ref q_1, .int 0, .int (-1), .int (-1), .null, .int 0, .null, .null, .int 0, .null, .null, .null, .null, .null, .null])), (q_1, .inl (c_2, 900, .inl (fun _ => 0)))] H := hP
  have hD : va_D A [(x, .inr (9, [.int 0, .ref q_1, .int 0, .int (-1), .int (-1), .null, .int 0, .null, .null, .int 0, .null, .null, .null, .null, .null, .null])), (q_1, .inl (c_2, 900, .inl (fun _ => 0)))] := hD
  refine lv_aload_n hx hb dX9_init_23 rfl (lv_at hl 0 rfl) ?_
  refine va_new (ci := 0) (fs := [.null, .null, .null]) (C := RX0) (T := TX0) (N := 3) hx hb hts fin_X9_init_X0 tyX0 tyX0_ok hown (hts (.classLink RX9 20 RX0) (List.mem_of_getElem? (i := 8) (by decide +kernel))) (hts (.instantiable RX0 3) (List.mem_of_getElem? (i := 9) (by decide +kernel))) (hts (.initialized RX0) (List.mem_of_getElem? (i := 10) (by decide +kernel))) hK hP hD hS hA rfl (fun j hj => by rcases (show j = 0 ∨ j = 1 ∨ j = 2 by omega) with rfl | rfl | rfl <;> rfl) (Nat.le_of_ble_eq_true rfl) (Nat.le_of_ble_eq_true rfl) dX9_init_24 (fun q_3 H hP hD hS => ?_)
  have hP : va_P (dC, dI) vwCl [(x, .inr (9, [.int 0, .ref q_1, .int 0, .int (-1), .int (-1), .null, .int 0, .null, .null, .int 0, .null, .null, .null, .null, .null, .null])), (q_1, .inl (c_2, 900, .inl (fun _ => 0))), (q_3, .inr (0, [.null, .null, .null]))] H := hP
  have hD : va_D A [(x, .inr (9, [.int 0, .ref q_1, .int 0, .int (-1), .int (-1), .null, .int 0, .null, .null, .int 0, .null, .null, .null, .null, .null, .null])), (q_1, .inl (c_2, 900, .inl (fun _ => 0))), (q_3, .inr (0, [.null, .null, .null]))] := hD
  refine W.widen (k := 2) (n := 903) (by omega) (by omega) ?_
  refine lv_dup hx hb dX9_init_27 rfl ?_
  refine lv_iconst (v := 0) hx hb dX9_init_28 (by decide) ?_
  refine va_newq (C := "PatternGate$Doc") (n := 0) (N' := 0) hx hb hown (hts (.classLink RX9 22 RX2) (List.mem_of_getElem? (i := 11) (by decide +kernel))) hAO2 hK hP hD hS hA (by decide) (by decide) (Nat.le_of_ble_eq_true rfl) (Nat.le_of_ble_eq_true rfl) (Nat.le_of_ble_eq_true rfl) dX9_init_29 (fun q_4 c_5 H hK hP hD hS => ?_)
  have hP : va_P (dC, dI) vwCl [(x, .inr (9, [.int 0, .ref q_1, .int 0, .int (-1), .int (-1), .null, .int 0, .null, .null, .int 0, .null, .null, .null, .null, .null, .null])), (q_1, .inl (c_2, 900, .inl (fun _ => 0))), (q_3, .inr (0, [.null, .null, .null])), (q_4, .inl (c_5, 0, .inr (.inr (.inr (.inr (fun _ => none))))))] H := hP
  have hD : va_D A [(x, .inr (9, [.int 0, .ref q_1, .int 0, .int (-1), .int (-1), .null, .int 0, .null, .null, .int 0, .null, .null, .null, .null, .null, .null])), (q_1, .inl (c_2, 900, .inl (fun _ => 0))), (q_3, .inr (0, [.null, .null, .null])), (q_4, .inl (c_5, 0, .inr (.inr (.inr (.inr (fun _ => none))))))] := hD
  have hK : va_K (dC, dI) vwCl [(c_2, .int), (c_5, .object "PatternGate$Doc")] s := hK
  refine W.widen (k := 3) (n := 903) (by omega) (by omega) ?_
  refine lv_iconst (v := 0) hx hb dX9_init_32 (by decide) ?_
  refine va_newq (C := "PatternGate$Pattern") (n := 0) (N' := 0) hx hb hown (hts (.classLink RX9 24 RX5) (List.mem_of_getElem? (i := 12) (by decide +kernel))) hAO5 hK hP hD hS hA (by decide) (by decide) (Nat.le_of_ble_eq_true rfl) (Nat.le_of_ble_eq_true rfl) (Nat.le_of_ble_eq_true rfl) dX9_init_33 (fun q_6 c_7 H hK hP hD hS => ?_)
  have hP : va_P (dC, dI) vwCl [(x, .inr (9, [.int 0, .ref q_1, .int 0, .int (-1), .int (-1), .null, .int 0, .null, .null, .int 0, .null, .null, .null, .null, .null, .null])), (q_1, .inl (c_2, 900, .inl (fun _ => 0))), (q_3, .inr (0, [.null, .null, .null])), (q_4, .inl (c_5, 0, .inr (.inr (.inr (.inr (fun _ => none)))))), (q_6, .inl (c_7, 0, .inr (.inr (.inr (.inr (fun _ => none))))))] H := hP
  have hD : va_D A [(x, .inr (9, [.int 0, .ref q_1, .int 0, .int (-1), .int (-1), .null, .int 0, .null, .null, .int 0, .null, .null, .null, .null, .null, .null])), (q_1, .inl (c_2, 900, .inl (fun _ => 0))), (q_3, .inr (0, [.null, .null, .null])), (q_4, .inl (c_5, 0, .inr (.inr (.inr (.inr (fun _ => none)))))), (q_6, .inl (c_7, 0, .inr (.inr (.inr (.inr (fun _ => none))))))] := hD
  have hK : va_K (dC, dI) vwCl [(c_2, .int), (c_5, .object "PatternGate$Doc"), (c_7, .object "PatternGate$Pattern")] s := hK
  refine W.widen (k := 4) (n := 903) (by omega) (by omega) ?_
  refine lv_null hx hb dX9_init_36 ?_
  have hPc := hP.sub (ws' := [(q_3, .inr (0, [.null, .null, .null]))]) [2] rfl
  have hKc := hK.sub (tys' := []) [] rfl
  have hDc := hD.sub (ws' := [(q_3, .inr (0, [.null, .null, .null]))]) [2] (by decide) rfl
  have hFc := va_free (wc := [(q_3, .inr (0, [.null, .null, .null]))]) hD hS hA [2] rfl
  refine va_callv (va_runI (As := [.ref q_4, .ref q_6, .null]) (rest := [.ref q_3, .ref x]) ⟨hx, hb, hml, hown, hts⟩ (c_Book0 l dC dI q_3 q_4 q_6 H.size) (cwI 3 hts mg_X9_init_X0_init_26 rfl rfl rfl (hts (.initialized RX0) (List.mem_of_getElem? (i := 10) (by decide +kernel))) (hts (.methodLink RX9 26 yX0_init) (List.mem_of_getElem? (i := 18) (by decide +kernel))) (hts (.instanceMethod yX0_init) (List.mem_of_getElem? (i := 19) (by decide +kernel))) rfl (by decide +kernel) ⟨Nat.le_of_ble_eq_true rfl, Nat.le_of_ble_eq_true rfl⟩) ⟨fun a U g mk q => by obtain ⟨q0, q1, qP, qK, qD⟩ := q; exact ⟨q0, q1, qP, va_K.moved (u := U) (U := U.calling g mk a) (Vm.Alike.refl U.vm) qK, qD⟩, fun U hU hW => ⟨rfl, by rw [hU], by rw [hU]; exact hPc, va_K.moved hW.alike hKc, hDc.weaken (fun _ _ _ _ => trivial)⟩⟩ rfl rfl hl.1 rfl (lv_room (Nat.le_of_ble_eq_true rfl)) dX9_init_37 ⟨Nat.le_of_ble_eq_true rfl, Nat.le_of_ble_eq_true rfl⟩) hS (fun q _ h => hFc q h) hFc (fun u t H1 locs ht hvm hw hB hz1 hk1 hS => ?_)
  obtain ⟨hP1, hK1, hD1⟩ := hB
  rw [ht] at hP1
  obtain ⟨hP, hD⟩ := va_join (wr := [(x, .inr (9, [.int 0, .ref q_1, .int 0, .int (-1), .int (-1), .null, .int 0, .null, .null, .int 0, .null, .null, .null, .null, .null, .null])), (q_1, .inl (c_2, 900, .inl (fun _ => 0))), (q_4, .inl (c_5, 0, .inr (.inr (.inr (.inr (fun _ => none)))))), (q_6, .inl (c_7, 0, .inr (.inr (.inr (.inr (fun _ => none))))))]) (w1 := [(q_3, .inr (0, [.ref q_4, .ref q_6, .null]))]) hP hD [2] [0, 1, 3, 4] rfl rfl (by decide) (by decide) hk1 hFc hP1 hD1
  generalize H1 = H at hP hS ⊢
  have hP : va_P (dC, dI) vwCl [(x, .inr (9, [.int 0, .ref q_1, .int 0, .int (-1), .int (-1), .null, .int 0, .null, .null, .int 0, .null, .null, .null, .null, .null, .null])), (q_1, .inl (c_2, 900, .inl (fun _ => 0))), (q_4, .inl (c_5, 0, .inr (.inr (.inr (.inr (fun _ => none)))))), (q_6, .inl (c_7, 0, .inr (.inr (.inr (.inr (fun _ => none)))))), (q_3, .inr (0, [.ref q_4, .ref q_6, .null]))] H := hP
  have hD : va_D A [(x, .inr (9, [.int 0, .ref q_1, .int 0, .int (-1), .int (-1), .null, .int 0, .null, .null, .int 0, .null, .null, .null, .null, .null, .null])), (q_1, .inl (c_2, 900, .inl (fun _ => 0))), (q_4, .inl (c_5, 0, .inr (.inr (.inr (.inr (fun _ => none)))))), (q_6, .inl (c_7, 0, .inr (.inr (.inr (.inr (fun _ => none)))))), (q_3, .inr (0, [.ref q_4, .ref q_6, .null]))] := hD
  refine va_put (D := (dC, dI)) (ci := 9) (v := .ref q_3) (ty := .object "PatternGate$Book") (C := RX9) (T := TX9) (N := 16) hx hb hts fin_X9_init_X9 tyX9 tyX9_ok nmX9 hown hK hP hD hS 0 rfl rfl 5 (by decide) (hts (.fieldLink RX9 29 "PatternGate" "book" "LPatternGate$Book;") (List.mem_of_getElem? (i := 20) (by decide +kernel))) (fun _ h9 => h9) rfl (by decide +kernel) rfl rfl (Nat.le_of_ble_eq_true rfl) dX9_init_40 (fun H locs hP hD hS => ?_)
  have hP : va_P (dC, dI) vwCl [(x, .inr (9, [.int 0, .ref q_1, .int 0, .int (-1), .int (-1), .ref q_3, .int 0, .null, .null, .int 0, .null, .null, .null, .null, .null, .null])), (q_1, .inl (c_2, 900, .inl (fun _ => 0))), (q_4, .inl (c_5, 0, .inr (.inr (.inr (.inr (fun _ => none)))))), (q_6, .inl (c_7, 0, .inr (.inr (.inr (.inr (fun _ => none)))))), (q_3, .inr (0, [.ref q_4, .ref q_6, .null]))] H := hP
  have hD : va_D A [(x, .inr (9, [.int 0, .ref q_1, .int 0, .int (-1), .int (-1), .ref q_3, .int 0, .null, .null, .int 0, .null, .null, .null, .null, .null, .null])), (q_1, .inl (c_2, 900, .inl (fun _ => 0))), (q_4, .inl (c_5, 0, .inr (.inr (.inr (.inr (fun _ => none)))))), (q_6, .inl (c_7, 0, .inr (.inr (.inr (.inr (fun _ => none)))))), (q_3, .inr (0, [.ref q_4, .ref q_6, .null]))] := hD
  refine lv_aload_n hx hb dX9_init_43 rfl (lv_at hl 0 rfl) ?_
  refine lv_iconst (v := 3) hx hb dX9_init_44 (by decide) ?_
  refine va_newq (C := "PatternGate$Book") (n := 3) (N' := 3) hx hb hown (hts (.classLink RX9 20 RX0) (List.mem_of_getElem? (i := 8) (by decide +kernel))) hAO0 hK hP hD hS hA (by decide) (by decide) (Nat.le_of_ble_eq_true rfl) (Nat.le_of_ble_eq_true rfl) (Nat.le_of_ble_eq_true rfl) dX9_init_45 (fun q_10 c_11 H hK hP hD hS => ?_)
  have hP : va_P (dC, dI) vwCl [(x, .inr (9, [.int 0, .ref q_1, .int 0, .int (-1), .int (-1), .ref q_3, .int 0, .null, .null, .int 0, .null, .null, .null, .null, .null, .null])), (q_1, .inl (c_2, 900, .inl (fun _ => 0))), (q_4, .inl (c_5, 0, .inr (.inr (.inr (.inr (fun _ => none)))))), (q_6, .inl (c_7, 0, .inr (.inr (.inr (.inr (fun _ => none)))))), (q_3, .inr (0, [.ref q_4, .ref q_6, .null])), (q_10, .inl (c_11, 3, .inr (.inr (.inr (.inr (fun _ => none))))))] H := hP
  have hD : va_D A [(x, .inr (9, [.int 0, .ref q_1, .int 0, .int (-1), .int (-1), .ref q_3, .int 0, .null, .null, .int 0, .null, .null, .null, .null, .null, .null])), (q_1, .inl (c_2, 900, .inl (fun _ => 0))), (q_4, .inl (c_5, 0, .inr (.inr (.inr (.inr (fun _ => none)))))), (q_6, .inl (c_7, 0, .inr (.inr (.inr (.inr (fun _ => none)))))), (q_3, .inr (0, [.ref q_4, .ref q_6, .null])), (q_10, .inl (c_11, 3, .inr (.inr (.inr (.inr (fun _ => none))))))] := hD
  have hK : va_K (dC, dI) vwCl [(c_2, .int), (c_5, .object "PatternGate$Doc"), (c_7, .object "PatternGate$Pattern"), (c_11, .object "PatternGate$Book")] s := hK
  refine W.widen (k := 5) (n := 906) (by omega) (by omega) ?_
  refine va_putF (D := (dC, dI)) (ci := 9) (v := .ref q_10) (ty := .array (.object "PatternGate$Book")) (C := RX9) (T := TX9) (N := 16) hx hb hts fin_X9_init_X9 tyX9 tyX9_ok nmX9 hown hK hP hD hS 0 rfl rfl 7 (by decide) (hts (.fieldLink RX9 33 "PatternGate" "markedBooks" "[LPatternGate$Book;") (List.mem_of_getElem? (i := 21) (by decide +kernel))) (fun _ h9 => h9) rfl hin rfl (by decide +kernel) rfl rfl (Nat.le_of_ble_eq_true rfl) dX9_init_48 (fun H locs hP hD hS => ?_)
  have hP : va_P (dC, dI) vwCl [(x, .inr (9, [.int 0, .ref q_1, .int 0, .int (-1), .int (-1), .ref q_3, .int 0, .ref q_10, .null, .int 0, .null, .null, .null, .null, .null, .null])), (q_1, .inl (c_2, 900, .inl (fun _ => 0))), (q_4, .inl (c_5, 0, .inr (.inr (.inr (.inr (fun _ => none)))))), (q_6, .inl (c_7, 0, .inr (.inr (.inr (.inr (fun _ => none)))))), (q_3, .inr (0, [.ref q_4, .ref q_6, .null])), (q_10, .inl (c_11, 3, .inr (.inr (.inr (.inr (fun _ => none))))))] H := hP
  have hD : va_D A [(x, .inr (9, [.int 0, .ref q_1, .int 0, .int (-1), .int (-1), .ref q_3, .int 0, .ref q_10, .null, .int 0, .null, .null, .null, .null, .null, .null])), (q_1, .inl (c_2, 900, .inl (fun _ => 0))), (q_4, .inl (c_5, 0, .inr (.inr (.inr (.inr (fun _ => none)))))), (q_6, .inl (c_7, 0, .inr (.inr (.inr (.inr (fun _ => none)))))), (q_3, .inr (0, [.ref q_4, .ref q_6, .null])), (q_10, .inl (c_11, 3, .inr (.inr (.inr (.inr (fun _ => none))))))] := hD
  refine lv_aload_n hx hb dX9_init_51 rfl (lv_at hl 0 rfl) ?_
  refine lv_iconst (v := 3) hx hb dX9_init_52 (by decide) ?_
  refine va_newa (atype := .int) (ty := .int) (n := 3) (N' := 3) (a0 := (3, .inl (fun _ => 0))) hx hb (hts (.arrayClass .int) (List.mem_of_getElem? (i := 4) (by decide +kernel))) rfl hK hP hD hS hA (fun _ => rfl) (by decide) (by decide) (Nat.le_of_ble_eq_true rfl) (Nat.le_of_ble_eq_true rfl) (Nat.le_of_ble_eq_true rfl) dX9_init_53 (fun q_12 c_13 H hK hP hD hS => ?_)
  have hP : va_P (dC, dI) vwCl [(x, .inr (9, [.int 0, .ref q_1, .int 0, .int (-1), .int (-1), .ref q_3, .int 0, .ref q_10, .null, .int 0, .null, .null, .null, .null, .null, .null])), (q_1, .inl (c_2, 900, .inl (fun _ => 0))), (q_4, .inl (c_5, 0, .inr (.inr (.inr (.inr (fun _ => none)))))), (q_6, .inl (c_7, 0, .inr (.inr (.inr (.inr (fun _ => none)))))), (q_3, .inr (0, [.ref q_4, .ref q_6, .null])), (q_10, .inl (c_11, 3, .inr (.inr (.inr (.inr (fun _ => none)))))), (q_12, .inl (c_13, 3, .inl (fun _ => 0)))] H := hP
  have hD : va_D A [(x, .inr (9, [.int 0, .ref q_1, .int 0, .int (-1), .int (-1), .ref q_3, .int 0, .ref q_10, .null, .int 0, .null, .null, .null, .null, .null, .null])), (q_1, .inl (c_2, 900, .inl (fun _ => 0))), (q_4, .inl (c_5, 0, .inr (.inr (.inr (.inr (fun _ => none)))))), (q_6, .inl (c_7, 0, .inr (.inr (.inr (.inr (fun _ => none)))))), (q_3, .inr (0, [.ref q_4, .ref q_6, .null])), (q_10, .inl (c_11, 3, .inr (.inr (.inr (.inr (fun _ => none)))))), (q_12, .inl (c_13, 3, .inl (fun _ => 0)))] := hD
  have hK : va_K (dC, dI) vwCl [(c_2, .int), (c_5, .object "PatternGate$Doc"), (c_7, .object "PatternGate$Pattern"), (c_11, .object "PatternGate$Book"), (c_13, .int)] s := hK
  refine W.widen (k := 6) (n := 909) (by omega) (by omega) ?_
  refine va_putF (D := (dC, dI)) (ci := 9) (v := .ref q_12) (ty := .array .int) (C := RX9) (T := TX9) (N := 16) hx hb hts fin_X9_init_X9 tyX9 tyX9_ok nmX9 hown hK hP hD hS 0 rfl rfl 8 (by decide) (hts (.fieldLink RX9 37 "PatternGate" "markedUndoable" "[I") (List.mem_of_getElem? (i := 22) (by decide +kernel))) (fun _ h9 => h9) rfl hin rfl (by decide +kernel) rfl rfl (Nat.le_of_ble_eq_true rfl) dX9_init_55 (fun H locs hP hD hS => ?_)
  have hP : va_P (dC, dI) vwCl [(x, .inr (9, [.int 0, .ref q_1, .int 0, .int (-1), .int (-1), .ref q_3, .int 0, .ref q_10, .ref q_12, .int 0, .null, .null, .null, .null, .null, .null])), (q_1, .inl (c_2, 900, .inl (fun _ => 0))), (q_4, .inl (c_5, 0, .inr (.inr (.inr (.inr (fun _ => none)))))), (q_6, .inl (c_7, 0, .inr (.inr (.inr (.inr (fun _ => none)))))), (q_3, .inr (0, [.ref q_4, .ref q_6, .null])), (q_10, .inl (c_11, 3, .inr (.inr (.inr (.inr (fun _ => none)))))), (q_12, .inl (c_13, 3, .inl (fun _ => 0)))] H := hP
  have hD : va_D A [(x, .inr (9, [.int 0, .ref q_1, .int 0, .int (-1), .int (-1), .ref q_3, .int 0, .ref q_10, .ref q_12, .int 0, .null, .null, .null, .null, .null, .null])), (q_1, .inl (c_2, 900, .inl (fun _ => 0))), (q_4, .inl (c_5, 0, .inr (.inr (.inr (.inr (fun _ => none)))))), (q_6, .inl (c_7, 0, .inr (.inr (.inr (.inr (fun _ => none)))))), (q_3, .inr (0, [.ref q_4, .ref q_6, .null])), (q_10, .inl (c_11, 3, .inr (.inr (.inr (.inr (fun _ => none)))))), (q_12, .inl (c_13, 3, .inl (fun _ => 0)))] := hD
  refine lv_aload_n hx hb dX9_init_58 rfl (lv_at hl 0 rfl) ?_
  refine va_new (ci := 6) (fs := [.int 0, .int 0, .int 0, .int 0, .int 0, .null, .null, .null, .int 0, .int 0, .int 0]) (C := RX6) (T := TX6) (N := 11) hx hb hts fin_X9_init_X6 tyX6 tyX6_ok hown (hts (.classLink RX9 40 RX6) (List.mem_of_getElem? (i := 23) (by decide +kernel))) (hts (.instantiable RX6 11) (List.mem_of_getElem? (i := 24) (by decide +kernel))) (hts (.initialized RX6) (List.mem_of_getElem? (i := 25) (by decide +kernel))) hK hP hD hS hA rfl (fun j hj => by rcases (show j = 0 ∨ j = 1 ∨ j = 2 ∨ j = 3 ∨ j = 4 ∨ j = 5 ∨ j = 6 ∨ j = 7 ∨ j = 8 ∨ j = 9 ∨ j = 10 by omega) with rfl | rfl | rfl | rfl | rfl | rfl | rfl | rfl | rfl | rfl | rfl <;> rfl) (Nat.le_of_ble_eq_true rfl) (Nat.le_of_ble_eq_true rfl) dX9_init_59 (fun q_14 H hP hD hS => ?_)
  have hP : va_P (dC, dI) vwCl [(x, .inr (9, [.int 0, .ref q_1, .int 0, .int (-1), .int (-1), .ref q_3, .int 0, .ref q_10, .ref q_12, .int 0, .null, .null, .null, .null, .null, .null])), (q_1, .inl (c_2, 900, .inl (fun _ => 0))), (q_4, .inl (c_5, 0, .inr (.inr (.inr (.inr (fun _ => none)))))), (q_6, .inl (c_7, 0, .inr (.inr (.inr (.inr (fun _ => none)))))), (q_3, .inr (0, [.ref q_4, .ref q_6, .null])), (q_10, .inl (c_11, 3, .inr (.inr (.inr (.inr (fun _ => none)))))), (q_12, .inl (c_13, 3, .inl (fun _ => 0))), (q_14, .inr (6, [.int 0, .int 0, .int 0, .int 0, .int 0, .null, .null, .null, .int 0, .int 0, .int 0]))] H := hP
  have hD : va_D A [(x, .inr (9, [.int 0, .ref q_1, .int 0, .int (-1), .int (-1), .ref q_3, .int 0, .ref q_10, .ref q_12, .int 0, .null, .null, .null, .null, .null, .null])), (q_1, .inl (c_2, 900, .inl (fun _ => 0))), (q_4, .inl (c_5, 0, .inr (.inr (.inr (.inr (fun _ => none)))))), (q_6, .inl (c_7, 0, .inr (.inr (.inr (.inr (fun _ => none)))))), (q_3, .inr (0, [.ref q_4, .ref q_6, .null])), (q_10, .inl (c_11, 3, .inr (.inr (.inr (.inr (fun _ => none)))))), (q_12, .inl (c_13, 3, .inl (fun _ => 0))), (q_14, .inr (6, [.int 0, .int 0, .int 0, .int 0, .int 0, .null, .null, .null, .int 0, .int 0, .int 0]))] := hD
  refine W.widen (k := 7) (n := 920) (by omega) (by omega) ?_
  refine lv_dup hx hb dX9_init_62 rfl ?_
  have hPc := hP.sub (ws' := [(q_14, .inr (6, [.int 0, .int 0, .int 0, .int 0, .int 0, .null, .null, .null, .int 0, .int 0, .int 0]))]) [7] rfl
  have hKc := hK.sub (tys' := []) [] rfl
  have hDc := hD.sub (ws' := [(q_14, .inr (6, [.int 0, .int 0, .int 0, .int 0, .int 0, .null, .null, .null, .int 0, .int 0, .int 0]))]) [7] (by decide) rfl
  have hFc := va_free (wc := [(q_14, .inr (6, [.int 0, .int 0, .int 0, .int 0, .int 0, .null, .null, .null, .int 0, .int 0, .int 0]))]) hD hS hA [7] rfl
  refine va_callv (va_runIN (As := []) (rest := [.ref q_14, .ref x]) ⟨hx, hb, hml, hown, hts⟩ (c_Reader l dC dI q_14 H.size) ⟨va_cnB 0 hts mg_X9_init_X6_init_42 rfl rfl rfl hN42 (hts (.initialized RX6) (List.mem_of_getElem? (i := 25) (by decide +kernel))) (by decide +kernel) ⟨Nat.le_of_ble_eq_true rfl, Nat.le_of_ble_eq_true rfl⟩, rfl, (hts (.instanceMethod yX6_init) (List.mem_of_getElem? (i := 32) (by decide +kernel)))⟩ ⟨fun a U g mk q => by obtain ⟨q0, q1, qP, qK, qD⟩ := q; exact ⟨q0, q1, qP, va_K.moved (u := U) (U := U.calling g mk a) (Vm.Alike.refl U.vm) qK, qD⟩, fun U hU hW => ⟨rfl, by rw [hU], by rw [hU]; exact hPc, va_K.moved hW.alike hKc, hDc.weaken (fun _ _ _ _ => trivial)⟩⟩ rfl rfl hl.1 rfl (lv_room (Nat.le_of_ble_eq_true rfl)) dX9_init_63 ⟨Nat.le_of_ble_eq_true rfl, Nat.le_of_ble_eq_true rfl⟩) hS (fun q _ h => hFc q h) hFc (fun u t H1 locs ht hvm hw hB hz1 hk1 hS => ?_)
  obtain ⟨r_17, hP1, hK1, hD1⟩ := hB
  rw [ht] at hP1
  obtain ⟨hP, hD⟩ := va_join (wr := [(x, .inr (9, [.int 0, .ref q_1, .int 0, .int (-1), .int (-1), .ref q_3, .int 0, .ref q_10, .ref q_12, .int 0, .null, .null, .null, .null, .null, .null])), (q_1, .inl (c_2, 900, .inl (fun _ => 0))), (q_4, .inl (c_5, 0, .inr (.inr (.inr (.inr (fun _ => none)))))), (q_6, .inl (c_7, 0, .inr (.inr (.inr (.inr (fun _ => none)))))), (q_3, .inr (0, [.ref q_4, .ref q_6, .null])), (q_10, .inl (c_11, 3, .inr (.inr (.inr (.inr (fun _ => none)))))), (q_12, .inl (c_13, 3, .inl (fun _ => 0)))]) (w1 := [(q_14, .inr (6, rF r_17 0 0 0 0 0 0 0 0))]) hP hD [7] [0, 1, 2, 3, 4, 5, 6] rfl rfl (by decide) (by decide) hk1 hFc hP1 hD1
  generalize H1 = H at hP hS ⊢
  have hP : va_P (dC, dI) vwCl [(x, .inr (9, [.int 0, .ref q_1, .int 0, .int (-1), .int (-1), .ref q_3, .int 0, .ref q_10, .ref q_12, .int 0, .null, .null, .null, .null, .null, .null])), (q_1, .inl (c_2, 900, .inl (fun _ => 0))), (q_4, .inl (c_5, 0, .inr (.inr (.inr (.inr (fun _ => none)))))), (q_6, .inl (c_7, 0, .inr (.inr (.inr (.inr (fun _ => none)))))), (q_3, .inr (0, [.ref q_4, .ref q_6, .null])), (q_10, .inl (c_11, 3, .inr (.inr (.inr (.inr (fun _ => none)))))), (q_12, .inl (c_13, 3, .inl (fun _ => 0))), (q_14, .inr (6, rF r_17 0 0 0 0 0 0 0 0))] H := hP
  have hD : va_D A [(x, .inr (9, [.int 0, .ref q_1, .int 0, .int (-1), .int (-1), .ref q_3, .int 0, .ref q_10, .ref q_12, .int 0, .null, .null, .null, .null, .null, .null])), (q_1, .inl (c_2, 900, .inl (fun _ => 0))), (q_4, .inl (c_5, 0, .inr (.inr (.inr (.inr (fun _ => none)))))), (q_6, .inl (c_7, 0, .inr (.inr (.inr (.inr (fun _ => none)))))), (q_3, .inr (0, [.ref q_4, .ref q_6, .null])), (q_10, .inl (c_11, 3, .inr (.inr (.inr (.inr (fun _ => none)))))), (q_12, .inl (c_13, 3, .inl (fun _ => 0))), (q_14, .inr (6, rF r_17 0 0 0 0 0 0 0 0))] := hD
  refine W.widen (k := 10) (n := 974) (by omega) (by omega) ?_
  refine va_putF (D := (dC, dI)) (ci := 9) (v := .ref q_14) (ty := .object "PatternGate$Reader") (C := RX9) (T := TX9) (N := 16) hx hb hts fin_X9_init_X9 tyX9 tyX9_ok nmX9 hown hK hP hD hS 0 rfl rfl 10 (by decide) (hts (.fieldLink RX9 43 "PatternGate" "reader" "LPatternGate$Reader;") (List.mem_of_getElem? (i := 33) (by decide +kernel))) (fun _ h9 => h9) rfl hin rfl (by decide +kernel) rfl rfl (Nat.le_of_ble_eq_true rfl) dX9_init_66 (fun H locs hP hD hS => ?_)
  have hP : va_P (dC, dI) vwCl [(x, .inr (9, [.int 0, .ref q_1, .int 0, .int (-1), .int (-1), .ref q_3, .int 0, .ref q_10, .ref q_12, .int 0, .ref q_14, .null, .null, .null, .null, .null])), (q_1, .inl (c_2, 900, .inl (fun _ => 0))), (q_4, .inl (c_5, 0, .inr (.inr (.inr (.inr (fun _ => none)))))), (q_6, .inl (c_7, 0, .inr (.inr (.inr (.inr (fun _ => none)))))), (q_3, .inr (0, [.ref q_4, .ref q_6, .null])), (q_10, .inl (c_11, 3, .inr (.inr (.inr (.inr (fun _ => none)))))), (q_12, .inl (c_13, 3, .inl (fun _ => 0))), (q_14, .inr (6, rF r_17 0 0 0 0 0 0 0 0))] H := hP
  have hD : va_D A [(x, .inr (9, [.int 0, .ref q_1, .int 0, .int (-1), .int (-1), .ref q_3, .int 0, .ref q_10, .ref q_12, .int 0, .ref q_14, .null, .null, .null, .null, .null])), (q_1, .inl (c_2, 900, .inl (fun _ => 0))), (q_4, .inl (c_5, 0, .inr (.inr (.inr (.inr (fun _ => none)))))), (q_6, .inl (c_7, 0, .inr (.inr (.inr (.inr (fun _ => none)))))), (q_3, .inr (0, [.ref q_4, .ref q_6, .null])), (q_10, .inl (c_11, 3, .inr (.inr (.inr (.inr (fun _ => none)))))), (q_12, .inl (c_13, 3, .inl (fun _ => 0))), (q_14, .inr (6, rF r_17 0 0 0 0 0 0 0 0))] := hD
  refine lv_aload_n hx hb dX9_init_69 rfl (lv_at hl 0 rfl) ?_
  refine va_new (ci := 1) (fs := [.null, .null, .null, .null, .null, .null, .null, .null, .null, .null, .int 0]) (C := RX1) (T := TX1) (N := 11) hx hb hts fin_X9_init_X1 tyX1 tyX1_ok hown (hts (.classLink RX9 47 RX1) (List.mem_of_getElem? (i := 34) (by decide +kernel))) (hts (.instantiable RX1 11) (List.mem_of_getElem? (i := 35) (by decide +kernel))) (hts (.initialized RX1) (List.mem_of_getElem? (i := 36) (by decide +kernel))) hK hP hD hS hA rfl (fun j hj => by rcases (show j = 0 ∨ j = 1 ∨ j = 2 ∨ j = 3 ∨ j = 4 ∨ j = 5 ∨ j = 6 ∨ j = 7 ∨ j = 8 ∨ j = 9 ∨ j = 10 by omega) with rfl | rfl | rfl | rfl | rfl | rfl | rfl | rfl | rfl | rfl | rfl <;> rfl) (Nat.le_of_ble_eq_true rfl) (Nat.le_of_ble_eq_true rfl) dX9_init_70 (fun q_18 H hP hD hS => ?_)
  have hP : va_P (dC, dI) vwCl [(x, .inr (9, [.int 0, .ref q_1, .int 0, .int (-1), .int (-1), .ref q_3, .int 0, .ref q_10, .ref q_12, .int 0, .ref q_14, .null, .null, .null, .null, .null])), (q_1, .inl (c_2, 900, .inl (fun _ => 0))), (q_4, .inl (c_5, 0, .inr (.inr (.inr (.inr (fun _ => none)))))), (q_6, .inl (c_7, 0, .inr (.inr (.inr (.inr (fun _ => none)))))), (q_3, .inr (0, [.ref q_4, .ref q_6, .null])), (q_10, .inl (c_11, 3, .inr (.inr (.inr (.inr (fun _ => none)))))), (q_12, .inl (c_13, 3, .inl (fun _ => 0))), (q_14, .inr (6, rF r_17 0 0 0 0 0 0 0 0)), (q_18, .inr (1, [.null, .null, .null, .null, .null, .null, .null, .null, .null, .null, .int 0]))] H := hP
  have hD : va_D A [(x, .inr (9, [.int 0, .ref q_1, .int 0, .int (-1), .int (-1), .ref q_3, .int 0, .ref q_10, .ref q_12, .int 0, .ref q_14, .null, .null, .null, .null, .null])), (q_1, .inl (c_2, 900, .inl (fun _ => 0))), (q_4, .inl (c_5, 0, .inr (.inr (.inr (.inr (fun _ => none)))))), (q_6, .inl (c_7, 0, .inr (.inr (.inr (.inr (fun _ => none)))))), (q_3, .inr (0, [.ref q_4, .ref q_6, .null])), (q_10, .inl (c_11, 3, .inr (.inr (.inr (.inr (fun _ => none)))))), (q_12, .inl (c_13, 3, .inl (fun _ => 0))), (q_14, .inr (6, rF r_17 0 0 0 0 0 0 0 0)), (q_18, .inr (1, [.null, .null, .null, .null, .null, .null, .null, .null, .null, .null, .int 0]))] := hD
  refine W.widen (k := 11) (n := 985) (by omega) (by omega) ?_
  refine lv_dup hx hb dX9_init_73 rfl ?_
  have hPc := hP.sub (ws' := [(q_18, .inr (1, [.null, .null, .null, .null, .null, .null, .null, .null, .null, .null, .int 0]))]) [8] rfl
  have hKc := hK.sub (tys' := []) [] rfl
  have hDc := hD.sub (ws' := [(q_18, .inr (1, [.null, .null, .null, .null, .null, .null, .null, .null, .null, .null, .int 0]))]) [8] (by decide) rfl
  have hFc := va_free (wc := [(q_18, .inr (1, [.null, .null, .null, .null, .null, .null, .null, .null, .null, .null, .int 0]))]) hD hS hA [8] rfl
  refine va_callv (va_runI (As := []) (rest := [.ref q_18, .ref x]) ⟨hx, hb, hml, hown, hts⟩ (c_Compiler l dC dI q_18 H.size) (cwI 0 hts mg_X9_init_X1_init_49 rfl rfl rfl (hts (.initialized RX1) (List.mem_of_getElem? (i := 36) (by decide +kernel))) (hts (.methodLink RX9 49 yX1_init) (List.mem_of_getElem? (i := 82) (by decide +kernel))) (hts (.instanceMethod yX1_init) (List.mem_of_getElem? (i := 83) (by decide +kernel))) rfl (by decide +kernel) ⟨Nat.le_of_ble_eq_true rfl, Nat.le_of_ble_eq_true rfl⟩) ⟨fun a U g mk q => by obtain ⟨q0, q1, qP, qK, qD, qE0, qE1, qE2, qE3⟩ := q; exact ⟨q0, q1, qP, va_K.moved (u := U) (U := U.calling g mk a) (Vm.Alike.refl U.vm) qK, qD, va_AO.moved (u := U) (U := U.calling g mk a) (Vm.Alike.refl U.vm) qE0, va_Nw.same rfl (rfl : U.vm = (U.calling g mk a).vm) qE1, va_Nw.same rfl (rfl : U.vm = (U.calling g mk a).vm) qE2, va_Nw.same rfl (rfl : U.vm = (U.calling g mk a).vm) qE3⟩, fun U hU hW => ⟨rfl, by rw [hU], by rw [hU]; exact hPc, va_K.moved hW.alike hKc, hDc.weaken (fun _ _ _ _ => trivial), va_AO.moved hW.alike hAO4, va_Nw.warmM hW hN24, va_Nw.warmM hW hN31, va_Nw.warmM hW hN11⟩⟩ rfl rfl hl.1 rfl (lv_room (Nat.le_of_ble_eq_true rfl)) dX9_init_74 ⟨Nat.le_of_ble_eq_true rfl, Nat.le_of_ble_eq_true rfl⟩) hS (fun q _ h => hFc q h) hFc (fun u t H1 locs ht hvm hw hB hz1 hk1 hS => ?_)
  obtain ⟨hP, hD⟩ := va_join (wr := [(x, .inr (9, [.int 0, .ref q_1, .int 0, .int (-1), .int (-1), .ref q_3, .int 0, .ref q_10, .ref q_12, .int 0, .ref q_14, .null, .null, .null, .null, .null])), (q_1, .inl (c_2, 900, .inl (fun _ => 0))), (q_4, .inl (c_5, 0, .inr (.inr (.inr (.inr (fun _ => none)))))), (q_6, .inl (c_7, 0, .inr (.inr (.inr (.inr (fun _ => none)))))), (q_3, .inr (0, [.ref q_4, .ref q_6, .null])), (q_10, .inl (c_11, 3, .inr (.inr (.inr (.inr (fun _ => none)))))), (q_12, .inl (c_13, 3, .inl (fun _ => 0))), (q_14, .inr (6, rF r_17 0 0 0 0 0 0 0 0))]) (w1 := []) hP hD [8] [0, 1, 2, 3, 4, 5, 6, 7] rfl rfl (by decide) (by decide) hk1 hFc (fun k q h => by simp at h) ⟨fun i j p q h => by simp at h, fun k q h => by simp at h⟩
  generalize H1 = H at hP hS ⊢
  have hP : va_P (dC, dI) vwCl [(x, .inr (9, [.int 0, .ref q_1, .int 0, .int (-1), .int (-1), .ref q_3, .int 0, .ref q_10, .ref q_12, .int 0, .ref q_14, .null, .null, .null, .null, .null])), (q_1, .inl (c_2, 900, .inl (fun _ => 0))), (q_4, .inl (c_5, 0, .inr (.inr (.inr (.inr (fun _ => none)))))), (q_6, .inl (c_7, 0, .inr (.inr (.inr (.inr (fun _ => none)))))), (q_3, .inr (0, [.ref q_4, .ref q_6, .null])), (q_10, .inl (c_11, 3, .inr (.inr (.inr (.inr (fun _ => none)))))), (q_12, .inl (c_13, 3, .inl (fun _ => 0))), (q_14, .inr (6, rF r_17 0 0 0 0 0 0 0 0))] H := hP
  have hD : va_D A [(x, .inr (9, [.int 0, .ref q_1, .int 0, .int (-1), .int (-1), .ref q_3, .int 0, .ref q_10, .ref q_12, .int 0, .ref q_14, .null, .null, .null, .null, .null])), (q_1, .inl (c_2, 900, .inl (fun _ => 0))), (q_4, .inl (c_5, 0, .inr (.inr (.inr (.inr (fun _ => none)))))), (q_6, .inl (c_7, 0, .inr (.inr (.inr (.inr (fun _ => none)))))), (q_3, .inr (0, [.ref q_4, .ref q_6, .null])), (q_10, .inl (c_11, 3, .inr (.inr (.inr (.inr (fun _ => none)))))), (q_12, .inl (c_13, 3, .inl (fun _ => 0))), (q_14, .inr (6, rF r_17 0 0 0 0 0 0 0 0))] := hD
  refine W.widen (k := 111) (n := 9985) (by omega) (by omega) ?_
  refine va_putF (D := (dC, dI)) (ci := 9) (v := .ref q_18) (ty := .object "PatternGate$Compiler") (C := RX9) (T := TX9) (N := 16) hx hb hts fin_X9_init_X9 tyX9 tyX9_ok nmX9 hown hK hP hD hS 0 rfl rfl 11 (by decide) (hts (.fieldLink RX9 50 "PatternGate" "compiler" "LPatternGate$Compiler;") (List.mem_of_getElem? (i := 84) (by decide +kernel))) (fun _ h9 => h9) rfl hin rfl (by decide +kernel) rfl rfl (Nat.le_of_ble_eq_true rfl) dX9_init_77 (fun H locs hP hD hS => ?_)
  have hP : va_P (dC, dI) vwCl [(x, .inr (9, [.int 0, .ref q_1, .int 0, .int (-1), .int (-1), .ref q_3, .int 0, .ref q_10, .ref q_12, .int 0, .ref q_14, .ref q_18, .null, .null, .null, .null])), (q_1, .inl (c_2, 900, .inl (fun _ => 0))), (q_4, .inl (c_5, 0, .inr (.inr (.inr (.inr (fun _ => none)))))), (q_6, .inl (c_7, 0, .inr (.inr (.inr (.inr (fun _ => none)))))), (q_3, .inr (0, [.ref q_4, .ref q_6, .null])), (q_10, .inl (c_11, 3, .inr (.inr (.inr (.inr (fun _ => none)))))), (q_12, .inl (c_13, 3, .inl (fun _ => 0))), (q_14, .inr (6, rF r_17 0 0 0 0 0 0 0 0))] H := hP
  have hD : va_D A [(x, .inr (9, [.int 0, .ref q_1, .int 0, .int (-1), .int (-1), .ref q_3, .int 0, .ref q_10, .ref q_12, .int 0, .ref q_14, .ref q_18, .null, .null, .null, .null])), (q_1, .inl (c_2, 900, .inl (fun _ => 0))), (q_4, .inl (c_5, 0, .inr (.inr (.inr (.inr (fun _ => none)))))), (q_6, .inl (c_7, 0, .inr (.inr (.inr (.inr (fun _ => none)))))), (q_3, .inr (0, [.ref q_4, .ref q_6, .null])), (q_10, .inl (c_11, 3, .inr (.inr (.inr (.inr (fun _ => none)))))), (q_12, .inl (c_13, 3, .inl (fun _ => 0))), (q_14, .inr (6, rF r_17 0 0 0 0 0 0 0 0))] := hD
  refine lv_aload_n hx hb dX9_init_80 rfl (lv_at hl 0 rfl) ?_
  refine va_new (ci := 8) (fs := [.int 0, .int 0, .null]) (C := RX8) (T := TX8) (N := 3) hx hb hts fin_X9_init_X8 tyX8 tyX8_ok hown (hts (.classLink RX9 54 RX8) (List.mem_of_getElem? (i := 85) (by decide +kernel))) (hts (.instantiable RX8 3) (List.mem_of_getElem? (i := 86) (by decide +kernel))) (hts (.initialized RX8) (List.mem_of_getElem? (i := 87) (by decide +kernel))) hK hP hD hS hA rfl (fun j hj => by rcases (show j = 0 ∨ j = 1 ∨ j = 2 by omega) with rfl | rfl | rfl <;> rfl) (Nat.le_of_ble_eq_true rfl) (Nat.le_of_ble_eq_true rfl) dX9_init_81 (fun q_21 H hP hD hS => ?_)
  have hP : va_P (dC, dI) vwCl [(x, .inr (9, [.int 0, .ref q_1, .int 0, .int (-1), .int (-1), .ref q_3, .int 0, .ref q_10, .ref q_12, .int 0, .ref q_14, .ref q_18, .null, .null, .null, .null])), (q_1, .inl (c_2, 900, .inl (fun _ => 0))), (q_4, .inl (c_5, 0, .inr (.inr (.inr (.inr (fun _ => none)))))), (q_6, .inl (c_7, 0, .inr (.inr (.inr (.inr (fun _ => none)))))), (q_3, .inr (0, [.ref q_4, .ref q_6, .null])), (q_10, .inl (c_11, 3, .inr (.inr (.inr (.inr (fun _ => none)))))), (q_12, .inl (c_13, 3, .inl (fun _ => 0))), (q_14, .inr (6, rF r_17 0 0 0 0 0 0 0 0)), (q_21, .inr (8, [.int 0, .int 0, .null]))] H := hP
  have hD : va_D A [(x, .inr (9, [.int 0, .ref q_1, .int 0, .int (-1), .int (-1), .ref q_3, .int 0, .ref q_10, .ref q_12, .int 0, .ref q_14, .ref q_18, .null, .null, .null, .null])), (q_1, .inl (c_2, 900, .inl (fun _ => 0))), (q_4, .inl (c_5, 0, .inr (.inr (.inr (.inr (fun _ => none)))))), (q_6, .inl (c_7, 0, .inr (.inr (.inr (.inr (fun _ => none)))))), (q_3, .inr (0, [.ref q_4, .ref q_6, .null])), (q_10, .inl (c_11, 3, .inr (.inr (.inr (.inr (fun _ => none)))))), (q_12, .inl (c_13, 3, .inl (fun _ => 0))), (q_14, .inr (6, rF r_17 0 0 0 0 0 0 0 0)), (q_21, .inr (8, [.int 0, .int 0, .null]))] := hD
  refine W.widen (k := 112) (n := 9988) (by omega) (by omega) ?_
  refine lv_dup hx hb dX9_init_84 rfl ?_
  have hPc := hP.sub (ws' := [(q_21, .inr (8, [.int 0, .int 0, .null]))]) [8] rfl
  have hKc := hK.sub (tys' := []) [] rfl
  have hDc := hD.sub (ws' := [(q_21, .inr (8, [.int 0, .int 0, .null]))]) [8] (by decide) rfl
  have hFc := va_free (wc := [(q_21, .inr (8, [.int 0, .int 0, .null]))]) hD hS hA [8] rfl
  refine va_callv (va_runIN (As := []) (rest := [.ref q_21, .ref x]) ⟨hx, hb, hml, hown, hts⟩ (c_Walk l dC dI q_21 H.size) ⟨va_cnB 0 hts mg_X9_init_X8_init_56 rfl rfl rfl hN56 (hts (.initialized RX8) (List.mem_of_getElem? (i := 87) (by decide +kernel))) (by decide +kernel) ⟨Nat.le_of_ble_eq_true rfl, Nat.le_of_ble_eq_true rfl⟩, rfl, (hts (.instanceMethod yX8_init) (List.mem_of_getElem? (i := 91) (by decide +kernel)))⟩ ⟨fun a U g mk q => by obtain ⟨q0, q1, qP, qK, qD⟩ := q; exact ⟨q0, q1, qP, va_K.moved (u := U) (U := U.calling g mk a) (Vm.Alike.refl U.vm) qK, qD⟩, fun U hU hW => ⟨rfl, by rw [hU], by rw [hU]; exact hPc, va_K.moved hW.alike hKc, hDc.weaken (fun _ _ _ _ => trivial)⟩⟩ rfl rfl hl.1 rfl (lv_room (Nat.le_of_ble_eq_true rfl)) dX9_init_85 ⟨Nat.le_of_ble_eq_true rfl, Nat.le_of_ble_eq_true rfl⟩) hS (fun q _ h => hFc q h) hFc (fun u t H1 locs ht hvm hw hB hz1 hk1 hS => ?_)
  obtain ⟨hP, hD⟩ := va_join (wr := [(x, .inr (9, [.int 0, .ref q_1, .int 0, .int (-1), .int (-1), .ref q_3, .int 0, .ref q_10, .ref q_12, .int 0, .ref q_14, .ref q_18, .null, .null, .null, .null])), (q_1, .inl (c_2, 900, .inl (fun _ => 0))), (q_4, .inl (c_5, 0, .inr (.inr (.inr (.inr (fun _ => none)))))), (q_6, .inl (c_7, 0, .inr (.inr (.inr (.inr (fun _ => none)))))), (q_3, .inr (0, [.ref q_4, .ref q_6, .null])), (q_10, .inl (c_11, 3, .inr (.inr (.inr (.inr (fun _ => none)))))), (q_12, .inl (c_13, 3, .inl (fun _ => 0))), (q_14, .inr (6, rF r_17 0 0 0 0 0 0 0 0))]) (w1 := []) hP hD [8] [0, 1, 2, 3, 4, 5, 6, 7] rfl rfl (by decide) (by decide) hk1 hFc (fun k q h => by simp at h) ⟨fun i j p q h => by simp at h, fun k q h => by simp at h⟩
  generalize H1 = H at hP hS ⊢
  have hP : va_P (dC, dI) vwCl [(x, .inr (9, [.int 0, .ref q_1, .int 0, .int (-1), .int (-1), .ref q_3, .int 0, .ref q_10, .ref q_12, .int 0, .ref q_14, .ref q_18, .null, .null, .null, .null])), (q_1, .inl (c_2, 900, .inl (fun _ => 0))), (q_4, .inl (c_5, 0, .inr (.inr (.inr (.inr (fun _ => none)))))), (q_6, .inl (c_7, 0, .inr (.inr (.inr (.inr (fun _ => none)))))), (q_3, .inr (0, [.ref q_4, .ref q_6, .null])), (q_10, .inl (c_11, 3, .inr (.inr (.inr (.inr (fun _ => none)))))), (q_12, .inl (c_13, 3, .inl (fun _ => 0))), (q_14, .inr (6, rF r_17 0 0 0 0 0 0 0 0))] H := hP
  have hD : va_D A [(x, .inr (9, [.int 0, .ref q_1, .int 0, .int (-1), .int (-1), .ref q_3, .int 0, .ref q_10, .ref q_12, .int 0, .ref q_14, .ref q_18, .null, .null, .null, .null])), (q_1, .inl (c_2, 900, .inl (fun _ => 0))), (q_4, .inl (c_5, 0, .inr (.inr (.inr (.inr (fun _ => none)))))), (q_6, .inl (c_7, 0, .inr (.inr (.inr (.inr (fun _ => none)))))), (q_3, .inr (0, [.ref q_4, .ref q_6, .null])), (q_10, .inl (c_11, 3, .inr (.inr (.inr (.inr (fun _ => none)))))), (q_12, .inl (c_13, 3, .inl (fun _ => 0))), (q_14, .inr (6, rF r_17 0 0 0 0 0 0 0 0))] := hD
  refine W.widen (k := 113) (n := 10012) (by omega) (by omega) ?_
  refine va_putF (D := (dC, dI)) (ci := 9) (v := .ref q_21) (ty := .object "PatternGate$Walk") (C := RX9) (T := TX9) (N := 16) hx hb hts fin_X9_init_X9 tyX9 tyX9_ok nmX9 hown hK hP hD hS 0 rfl rfl 12 (by decide) (hts (.fieldLink RX9 57 "PatternGate" "walk" "LPatternGate$Walk;") (List.mem_of_getElem? (i := 92) (by decide +kernel))) (fun _ h9 => h9) rfl hin rfl (by decide +kernel) rfl rfl (Nat.le_of_ble_eq_true rfl) dX9_init_88 (fun H locs hP hD hS => ?_)
  have hP : va_P (dC, dI) vwCl [(x, .inr (9, [.int 0, .ref q_1, .int 0, .int (-1), .int (-1), .ref q_3, .int 0, .ref q_10, .ref q_12, .int 0, .ref q_14, .ref q_18, .ref q_21, .null, .null, .null])), (q_1, .inl (c_2, 900, .inl (fun _ => 0))), (q_4, .inl (c_5, 0, .inr (.inr (.inr (.inr (fun _ => none)))))), (q_6, .inl (c_7, 0, .inr (.inr (.inr (.inr (fun _ => none)))))), (q_3, .inr (0, [.ref q_4, .ref q_6, .null])), (q_10, .inl (c_11, 3, .inr (.inr (.inr (.inr (fun _ => none)))))), (q_12, .inl (c_13, 3, .inl (fun _ => 0))), (q_14, .inr (6, rF r_17 0 0 0 0 0 0 0 0))] H := hP
  have hD : va_D A [(x, .inr (9, [.int 0, .ref q_1, .int 0, .int (-1), .int (-1), .ref q_3, .int 0, .ref q_10, .ref q_12, .int 0, .ref q_14, .ref q_18, .ref q_21, .null, .null, .null])), (q_1, .inl (c_2, 900, .inl (fun _ => 0))), (q_4, .inl (c_5, 0, .inr (.inr (.inr (.inr (fun _ => none)))))), (q_6, .inl (c_7, 0, .inr (.inr (.inr (.inr (fun _ => none)))))), (q_3, .inr (0, [.ref q_4, .ref q_6, .null])), (q_10, .inl (c_11, 3, .inr (.inr (.inr (.inr (fun _ => none)))))), (q_12, .inl (c_13, 3, .inl (fun _ => 0))), (q_14, .inr (6, rF r_17 0 0 0 0 0 0 0 0))] := hD
  refine lv_aload_n hx hb dX9_init_91 rfl (lv_at hl 0 rfl) ?_
  refine lv_bipush (v := 60) hx hb dX9_init_92 (by decide) ?_
  refine va_newa (atype := .int) (ty := .int) (n := 60) (N' := 60) (a0 := (60, .inl (fun _ => 0))) hx hb (hts (.arrayClass .int) (List.mem_of_getElem? (i := 4) (by decide +kernel))) rfl hK hP hD hS hA (fun _ => rfl) (by decide) (by decide) (Nat.le_of_ble_eq_true rfl) (Nat.le_of_ble_eq_true rfl) (Nat.le_of_ble_eq_true rfl) dX9_init_94 (fun q_24 c_25 H hK hP hD hS => ?_)
  have hP : va_P (dC, dI) vwCl [(x, .inr (9, [.int 0, .ref q_1, .int 0, .int (-1), .int (-1), .ref q_3, .int 0, .ref q_10, .ref q_12, .int 0, .ref q_14, .ref q_18, .ref q_21, .null, .null, .null])), (q_1, .inl (c_2, 900, .inl (fun _ => 0))), (q_4, .inl (c_5, 0, .inr (.inr (.inr (.inr (fun _ => none)))))), (q_6, .inl (c_7, 0, .inr (.inr (.inr (.inr (fun _ => none)))))), (q_3, .inr (0, [.ref q_4, .ref q_6, .null])), (q_10, .inl (c_11, 3, .inr (.inr (.inr (.inr (fun _ => none)))))), (q_12, .inl (c_13, 3, .inl (fun _ => 0))), (q_14, .inr (6, rF r_17 0 0 0 0 0 0 0 0)), (q_24, .inl (c_25, 60, .inl (fun _ => 0)))] H := hP
  have hD : va_D A [(x, .inr (9, [.int 0, .ref q_1, .int 0, .int (-1), .int (-1), .ref q_3, .int 0, .ref q_10, .ref q_12, .int 0, .ref q_14, .ref q_18, .ref q_21, .null, .null, .null])), (q_1, .inl (c_2, 900, .inl (fun _ => 0))), (q_4, .inl (c_5, 0, .inr (.inr (.inr (.inr (fun _ => none)))))), (q_6, .inl (c_7, 0, .inr (.inr (.inr (.inr (fun _ => none)))))), (q_3, .inr (0, [.ref q_4, .ref q_6, .null])), (q_10, .inl (c_11, 3, .inr (.inr (.inr (.inr (fun _ => none)))))), (q_12, .inl (c_13, 3, .inl (fun _ => 0))), (q_14, .inr (6, rF r_17 0 0 0 0 0 0 0 0)), (q_24, .inl (c_25, 60, .inl (fun _ => 0)))] := hD
  have hK : va_K (dC, dI) vwCl [(c_2, .int), (c_5, .object "PatternGate$Doc"), (c_7, .object "PatternGate$Pattern"), (c_11, .object "PatternGate$Book"), (c_13, .int), (c_25, .int)] s := hK
  refine W.widen (k := 114) (n := 10072) (by omega) (by omega) ?_
  refine va_putF (D := (dC, dI)) (ci := 9) (v := .ref q_24) (ty := .array .int) (C := RX9) (T := TX9) (N := 16) hx hb hts fin_X9_init_X9 tyX9 tyX9_ok nmX9 hown hK hP hD hS 0 rfl rfl 13 (by decide) (hts (.fieldLink RX9 61 "PatternGate" "paper" "[I") (List.mem_of_getElem? (i := 93) (by decide +kernel))) (fun _ h9 => h9) rfl hin rfl (by decide +kernel) rfl rfl (Nat.le_of_ble_eq_true rfl) dX9_init_96 (fun H locs hP hD hS => ?_)
  have hP : va_P (dC, dI) vwCl [(x, .inr (9, [.int 0, .ref q_1, .int 0, .int (-1), .int (-1), .ref q_3, .int 0, .ref q_10, .ref q_12, .int 0, .ref q_14, .ref q_18, .ref q_21, .ref q_24, .null, .null])), (q_1, .inl (c_2, 900, .inl (fun _ => 0))), (q_4, .inl (c_5, 0, .inr (.inr (.inr (.inr (fun _ => none)))))), (q_6, .inl (c_7, 0, .inr (.inr (.inr (.inr (fun _ => none)))))), (q_3, .inr (0, [.ref q_4, .ref q_6, .null])), (q_10, .inl (c_11, 3, .inr (.inr (.inr (.inr (fun _ => none)))))), (q_12, .inl (c_13, 3, .inl (fun _ => 0))), (q_14, .inr (6, rF r_17 0 0 0 0 0 0 0 0)), (q_24, .inl (c_25, 60, .inl (fun _ => 0)))] H := hP
  have hD : va_D A [(x, .inr (9, [.int 0, .ref q_1, .int 0, .int (-1), .int (-1), .ref q_3, .int 0, .ref q_10, .ref q_12, .int 0, .ref q_14, .ref q_18, .ref q_21, .ref q_24, .null, .null])), (q_1, .inl (c_2, 900, .inl (fun _ => 0))), (q_4, .inl (c_5, 0, .inr (.inr (.inr (.inr (fun _ => none)))))), (q_6, .inl (c_7, 0, .inr (.inr (.inr (.inr (fun _ => none)))))), (q_3, .inr (0, [.ref q_4, .ref q_6, .null])), (q_10, .inl (c_11, 3, .inr (.inr (.inr (.inr (fun _ => none)))))), (q_12, .inl (c_13, 3, .inl (fun _ => 0))), (q_14, .inr (6, rF r_17 0 0 0 0 0 0 0 0)), (q_24, .inl (c_25, 60, .inl (fun _ => 0)))] := hD
  refine lv_aload_n hx hb dX9_init_99 rfl (lv_at hl 0 rfl) ?_
  refine lv_bipush (v := 60) hx hb dX9_init_100 (by decide) ?_
  refine va_newa (atype := .int) (ty := .int) (n := 60) (N' := 60) (a0 := (60, .inl (fun _ => 0))) hx hb (hts (.arrayClass .int) (List.mem_of_getElem? (i := 4) (by decide +kernel))) rfl hK hP hD hS hA (fun _ => rfl) (by decide) (by decide) (Nat.le_of_ble_eq_true rfl) (Nat.le_of_ble_eq_true rfl) (Nat.le_of_ble_eq_true rfl) dX9_init_102 (fun q_26 c_27 H hK hP hD hS => ?_)
  have hP : va_P (dC, dI) vwCl [(x, .inr (9, [.int 0, .ref q_1, .int 0, .int (-1), .int (-1), .ref q_3, .int 0, .ref q_10, .ref q_12, .int 0, .ref q_14, .ref q_18, .ref q_21, .ref q_24, .null, .null])), (q_1, .inl (c_2, 900, .inl (fun _ => 0))), (q_4, .inl (c_5, 0, .inr (.inr (.inr (.inr (fun _ => none)))))), (q_6, .inl (c_7, 0, .inr (.inr (.inr (.inr (fun _ => none)))))), (q_3, .inr (0, [.ref q_4, .ref q_6, .null])), (q_10, .inl (c_11, 3, .inr (.inr (.inr (.inr (fun _ => none)))))), (q_12, .inl (c_13, 3, .inl (fun _ => 0))), (q_14, .inr (6, rF r_17 0 0 0 0 0 0 0 0)), (q_24, .inl (c_25, 60, .inl (fun _ => 0))), (q_26, .inl (c_27, 60, .inl (fun _ => 0)))] H := hP
  have hD : va_D A [(x, .inr (9, [.int 0, .ref q_1, .int 0, .int (-1), .int (-1), .ref q_3, .int 0, .ref q_10, .ref q_12, .int 0, .ref q_14, .ref q_18, .ref q_21, .ref q_24, .null, .null])), (q_1, .inl (c_2, 900, .inl (fun _ => 0))), (q_4, .inl (c_5, 0, .inr (.inr (.inr (.inr (fun _ => none)))))), (q_6, .inl (c_7, 0, .inr (.inr (.inr (.inr (fun _ => none)))))), (q_3, .inr (0, [.ref q_4, .ref q_6, .null])), (q_10, .inl (c_11, 3, .inr (.inr (.inr (.inr (fun _ => none)))))), (q_12, .inl (c_13, 3, .inl (fun _ => 0))), (q_14, .inr (6, rF r_17 0 0 0 0 0 0 0 0)), (q_24, .inl (c_25, 60, .inl (fun _ => 0))), (q_26, .inl (c_27, 60, .inl (fun _ => 0)))] := hD
  have hK : va_K (dC, dI) vwCl [(c_2, .int), (c_5, .object "PatternGate$Doc"), (c_7, .object "PatternGate$Pattern"), (c_11, .object "PatternGate$Book"), (c_13, .int), (c_25, .int), (c_27, .int)] s := hK
  refine W.widen (k := 115) (n := 10132) (by omega) (by omega) ?_
  refine va_putF (D := (dC, dI)) (ci := 9) (v := .ref q_26) (ty := .array .int) (C := RX9) (T := TX9) (N := 16) hx hb hts fin_X9_init_X9 tyX9 tyX9_ok nmX9 hown hK hP hD hS 0 rfl rfl 14 (by decide) (hts (.fieldLink RX9 64 "PatternGate" "sorted" "[I") (List.mem_of_getElem? (i := 94) (by decide +kernel))) (fun _ h9 => h9) rfl hin rfl (by decide +kernel) rfl rfl (Nat.le_of_ble_eq_true rfl) dX9_init_104 (fun H locs hP hD hS => ?_)
  have hP : va_P (dC, dI) vwCl [(x, .inr (9, [.int 0, .ref q_1, .int 0, .int (-1), .int (-1), .ref q_3, .int 0, .ref q_10, .ref q_12, .int 0, .ref q_14, .ref q_18, .ref q_21, .ref q_24, .ref q_26, .null])), (q_1, .inl (c_2, 900, .inl (fun _ => 0))), (q_4, .inl (c_5, 0, .inr (.inr (.inr (.inr (fun _ => none)))))), (q_6, .inl (c_7, 0, .inr (.inr (.inr (.inr (fun _ => none)))))), (q_3, .inr (0, [.ref q_4, .ref q_6, .null])), (q_10, .inl (c_11, 3, .inr (.inr (.inr (.inr (fun _ => none)))))), (q_12, .inl (c_13, 3, .inl (fun _ => 0))), (q_14, .inr (6, rF r_17 0 0 0 0 0 0 0 0)), (q_24, .inl (c_25, 60, .inl (fun _ => 0))), (q_26, .inl (c_27, 60, .inl (fun _ => 0)))] H := hP
  have hD : va_D A [(x, .inr (9, [.int 0, .ref q_1, .int 0, .int (-1), .int (-1), .ref q_3, .int 0, .ref q_10, .ref q_12, .int 0, .ref q_14, .ref q_18, .ref q_21, .ref q_24, .ref q_26, .null])), (q_1, .inl (c_2, 900, .inl (fun _ => 0))), (q_4, .inl (c_5, 0, .inr (.inr (.inr (.inr (fun _ => none)))))), (q_6, .inl (c_7, 0, .inr (.inr (.inr (.inr (fun _ => none)))))), (q_3, .inr (0, [.ref q_4, .ref q_6, .null])), (q_10, .inl (c_11, 3, .inr (.inr (.inr (.inr (fun _ => none)))))), (q_12, .inl (c_13, 3, .inl (fun _ => 0))), (q_14, .inr (6, rF r_17 0 0 0 0 0 0 0 0)), (q_24, .inl (c_25, 60, .inl (fun _ => 0))), (q_26, .inl (c_27, 60, .inl (fun _ => 0)))] := hD
  refine lv_aload_n hx hb dX9_init_107 rfl (lv_at hl 0 rfl) ?_
  refine lv_bipush (v := 26) hx hb dX9_init_108 (by decide) ?_
  refine va_newa (atype := .int) (ty := .int) (n := 26) (N' := 26) (a0 := (26, .inl (fun _ => 0))) hx hb (hts (.arrayClass .int) (List.mem_of_getElem? (i := 4) (by decide +kernel))) rfl hK hP hD hS hA (fun _ => rfl) (by decide) (by decide) (Nat.le_of_ble_eq_true rfl) (Nat.le_of_ble_eq_true rfl) (Nat.le_of_ble_eq_true rfl) dX9_init_110 (fun q_28 c_29 H hK hP hD hS => ?_)
  have hP : va_P (dC, dI) vwCl [(x, .inr (9, [.int 0, .ref q_1, .int 0, .int (-1), .int (-1), .ref q_3, .int 0, .ref q_10, .ref q_12, .int 0, .ref q_14, .ref q_18, .ref q_21, .ref q_24, .ref q_26, .null])), (q_1, .inl (c_2, 900, .inl (fun _ => 0))), (q_4, .inl (c_5, 0, .inr (.inr (.inr (.inr (fun _ => none)))))), (q_6, .inl (c_7, 0, .inr (.inr (.inr (.inr (fun _ => none)))))), (q_3, .inr (0, [.ref q_4, .ref q_6, .null])), (q_10, .inl (c_11, 3, .inr (.inr (.inr (.inr (fun _ => none)))))), (q_12, .inl (c_13, 3, .inl (fun _ => 0))), (q_14, .inr (6, rF r_17 0 0 0 0 0 0 0 0)), (q_24, .inl (c_25, 60, .inl (fun _ => 0))), (q_26, .inl (c_27, 60, .inl (fun _ => 0))), (q_28, .inl (c_29, 26, .inl (fun _ => 0)))] H := hP
  have hD : va_D A [(x, .inr (9, [.int 0, .ref q_1, .int 0, .int (-1), .int (-1), .ref q_3, .int 0, .ref q_10, .ref q_12, .int 0, .ref q_14, .ref q_18, .ref q_21, .ref q_24, .ref q_26, .null])), (q_1, .inl (c_2, 900, .inl (fun _ => 0))), (q_4, .inl (c_5, 0, .inr (.inr (.inr (.inr (fun _ => none)))))), (q_6, .inl (c_7, 0, .inr (.inr (.inr (.inr (fun _ => none)))))), (q_3, .inr (0, [.ref q_4, .ref q_6, .null])), (q_10, .inl (c_11, 3, .inr (.inr (.inr (.inr (fun _ => none)))))), (q_12, .inl (c_13, 3, .inl (fun _ => 0))), (q_14, .inr (6, rF r_17 0 0 0 0 0 0 0 0)), (q_24, .inl (c_25, 60, .inl (fun _ => 0))), (q_26, .inl (c_27, 60, .inl (fun _ => 0))), (q_28, .inl (c_29, 26, .inl (fun _ => 0)))] := hD
  have hK : va_K (dC, dI) vwCl [(c_2, .int), (c_5, .object "PatternGate$Doc"), (c_7, .object "PatternGate$Pattern"), (c_11, .object "PatternGate$Book"), (c_13, .int), (c_25, .int), (c_27, .int), (c_29, .int)] s := hK
  refine W.widen (k := 116) (n := 10158) (by omega) (by omega) ?_
  refine va_putF (D := (dC, dI)) (ci := 9) (v := .ref q_28) (ty := .array .int) (C := RX9) (T := TX9) (N := 16) hx hb hts fin_X9_init_X9 tyX9 tyX9_ok nmX9 hown hK hP hD hS 0 rfl rfl 15 (by decide) (hts (.fieldLink RX9 67 "PatternGate" "tally" "[I") (List.mem_of_getElem? (i := 95) (by decide +kernel))) (fun _ h9 => h9) rfl hin rfl (by decide +kernel) rfl rfl (Nat.le_of_ble_eq_true rfl) dX9_init_112 (fun H locs hP hD hS => ?_)
  have hP : va_P (dC, dI) vwCl [(x, .inr (9, [.int 0, .ref q_1, .int 0, .int (-1), .int (-1), .ref q_3, .int 0, .ref q_10, .ref q_12, .int 0, .ref q_14, .ref q_18, .ref q_21, .ref q_24, .ref q_26, .ref q_28])), (q_1, .inl (c_2, 900, .inl (fun _ => 0))), (q_4, .inl (c_5, 0, .inr (.inr (.inr (.inr (fun _ => none)))))), (q_6, .inl (c_7, 0, .inr (.inr (.inr (.inr (fun _ => none)))))), (q_3, .inr (0, [.ref q_4, .ref q_6, .null])), (q_10, .inl (c_11, 3, .inr (.inr (.inr (.inr (fun _ => none)))))), (q_12, .inl (c_13, 3, .inl (fun _ => 0))), (q_14, .inr (6, rF r_17 0 0 0 0 0 0 0 0)), (q_24, .inl (c_25, 60, .inl (fun _ => 0))), (q_26, .inl (c_27, 60, .inl (fun _ => 0))), (q_28, .inl (c_29, 26, .inl (fun _ => 0)))] H := hP
  have hD : va_D A [(x, .inr (9, [.int 0, .ref q_1, .int 0, .int (-1), .int (-1), .ref q_3, .int 0, .ref q_10, .ref q_12, .int 0, .ref q_14, .ref q_18, .ref q_21, .ref q_24, .ref q_26, .ref q_28])), (q_1, .inl (c_2, 900, .inl (fun _ => 0))), (q_4, .inl (c_5, 0, .inr (.inr (.inr (.inr (fun _ => none)))))), (q_6, .inl (c_7, 0, .inr (.inr (.inr (.inr (fun _ => none)))))), (q_3, .inr (0, [.ref q_4, .ref q_6, .null])), (q_10, .inl (c_11, 3, .inr (.inr (.inr (.inr (fun _ => none)))))), (q_12, .inl (c_13, 3, .inl (fun _ => 0))), (q_14, .inr (6, rF r_17 0 0 0 0 0 0 0 0)), (q_24, .inl (c_25, 60, .inl (fun _ => 0))), (q_26, .inl (c_27, 60, .inl (fun _ => 0))), (q_28, .inl (c_29, 26, .inl (fun _ => 0)))] := hD
  refine W.widen (k := 120) (n := 11000) (by omega) (by omega) ?_
  have hP9 := hP.sub (ws' := [(x, .inr (9, [.int 0, .ref q_1, .int 0, .int (-1), .int (-1), .ref q_3, .int 0, .ref q_10, .ref q_12, .int 0, .ref q_14, .ref q_18, .ref q_21, .ref q_24, .ref q_26, .ref q_28])), (q_1, .inl (c_2, 900, .inl (fun _ => 0))), (q_3, .inr (0, [.ref q_4, .ref q_6, .null])), (q_4, .inl (c_5, 0, .inr (.inr (.inr (.inr (fun _ => none)))))), (q_6, .inl (c_7, 0, .inr (.inr (.inr (.inr (fun _ => none)))))), (q_10, .inl (c_11, 3, .inr (.inr (.inr (.inr (fun _ => none)))))), (q_12, .inl (c_13, 3, .inl (fun _ => 0))), (q_14, .inr (6, rF r_17 0 0 0 0 0 0 0 0))]) [0, 1, 4, 2, 3, 5, 6, 7] rfl
  have hD9 := hD.sub (ws' := [(x, .inr (9, [.int 0, .ref q_1, .int 0, .int (-1), .int (-1), .ref q_3, .int 0, .ref q_10, .ref q_12, .int 0, .ref q_14, .ref q_18, .ref q_21, .ref q_24, .ref q_26, .ref q_28])), (q_1, .inl (c_2, 900, .inl (fun _ => 0))), (q_3, .inr (0, [.ref q_4, .ref q_6, .null])), (q_4, .inl (c_5, 0, .inr (.inr (.inr (.inr (fun _ => none)))))), (q_6, .inl (c_7, 0, .inr (.inr (.inr (.inr (fun _ => none)))))), (q_10, .inl (c_11, 3, .inr (.inr (.inr (.inr (fun _ => none)))))), (q_12, .inl (c_13, 3, .inl (fun _ => 0))), (q_14, .inr (6, rF r_17 0 0 0 0 0 0 0 0))]) [0, 1, 4, 2, 3, 5, 6, 7] (by decide) rfl
  have hK9 := hK.sub (tys' := [(c_2, .int), (c_5, .object "PatternGate$Doc"), (c_7, .object "PatternGate$Pattern"), (c_11, .object "PatternGate$Book"), (c_13, .int)]) [0, 1, 2, 3, 4] rfl
  exact W.vret hx hb hr (fun t ht hW => ⟨⟨(), rfl, trivial, fun k => [q_1, q_10, q_12, q_14, q_18, q_21, q_24, q_26, q_28].getD k 0, q_3, q_4, q_6, c_2, c_5, c_7, c_11, c_13, r_17, by rw [ht]; exact hP9, va_K.moved hW.alike hK9, hD9⟩, hS.F ht⟩) hS.2.2 dX9_init_115

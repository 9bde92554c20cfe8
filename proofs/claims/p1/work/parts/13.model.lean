theorem dX10_status_0 : decode cX10_status 0 = .ok (.aload_n 0, 1) := by decide +kernel
theorem dX10_status_1 : decode cX10_status 1 = .ok (.getfield 104, 3) := by decide +kernel
theorem dX10_status_4 : decode cX10_status 4 = .ok (.ireturn, 1) := by decide +kernel
def mwX10_status : List Cond := .code yX10_status cX10_status 1 (some .int) :: ([.fieldLink RX10 104 "PatternGateModel" "status" "I"] ++ wsX100)
theorem fin_X10_status_X10 : ∀ w ∈ wsX100, w ∈ mwX10_status := fun w h => List.mem_cons_of_mem _ (List.mem_append_right _ h)
set_option maxHeartbeats 4000000 in
set_option maxRecDepth 100000 in
/-- status of the reference, new -/
theorem m_status (l : Launch) (dC : Nat → ClassId) (dI : Nat → Nat → Nat) (y : Nat) (z : Nat → Nat) (mA mT mX mC : ClassId) (sz : Nat) : Met l yX10_status mwX10_status ({ frames := 2, cells := 0, slots := 0, locals := 120 }) (va_Pc [.ref y] (fun U => U.heap.size = sz ∧ va_P (dC, dI) vwCl (mW y z mA mT mX mC) U.heap ∧ va_K (dC, dI) vwCl (mT9 mA mT mX mC) U ∧ va_D (fun _ => True) (mW y z mA mT mX mC))) (va_Qi (fun (o : Int32) (_ : Unit) => o = 0) (fun _ _ => True) (va_A (mW y z mA mT mX mC) sz)) 0 0 (va_A (mW y z mA mT mX mC) sz) := by
  refine Met.ofW (cc := cX10_status) (maxL := 1) (ret := (some .int)) (by decide +kernel) rfl ?_
  intro p e s m args below meth c s₁ B hml hv
  obtain ⟨rfl, hsz, hP, hK, hD0⟩ := hv
  have hx := B.exec
  have hb := B.bytes
  have hr := B.returns
  have hts := atoms_spec (ws := mwX10_status) B.pre
  have hown : s.vm.findClass RX10 = some m.cls := findClass_of_methodNamed B.named
  have hlocks := B.notSynchronized
  subst hsz
  have hD := hD0.self (sz := s.heap.size)
  generalize hAe : va_A (mW y z mA mT mX mC) s.heap.size = A at hD ⊢
  have hA : ∀ q : Nat, s.heap.size ≤ q → A q := fun q h => by rw [← hAe]; exact Or.inr h
  have hP : va_P (dC, dI) vwCl [(y, .inr (10, mF z 0 0 0 0 0 0 0 0 0 (-1) (-1))), (z 0, .inl (mA, 101660, .inl (fun _ => 0))), (z 1, .inl (mT, 900, .inl (fun _ => 0))), (z 2, .inl (mX, 900, .inl (fun _ => 0))), (z 23, .inl (mC, 17576, .inl (fun _ => 0)))] s.heap := hP
  have hD : va_D A [(y, .inr (10, mF z 0 0 0 0 0 0 0 0 0 (-1) (-1))), (z 0, .inl (mA, 101660, .inl (fun _ => 0))), (z 1, .inl (mT, 900, .inl (fun _ => 0))), (z 2, .inl (mX, 900, .inl (fun _ => 0))), (z 23, .inl (mC, 17576, .inl (fun _ => 0)))] := hD
  have hK : va_K (dC, dI) vwCl [(mA, .int), (mT, .byte), (mX, .byte), (mC, .boolean)] s := hK
  generalize hH : s.heap = H at hP ⊢
  have hS : va_S A s.heap H [] := by rw [← hH]; exact va_S.rf
  have hl := lv_entry ([.ref y]) (n := 1) (Nat.le_of_ble_eq_true rfl)
  rw [lg_entry_eq]
  generalize (lg_sl ([.ref y]) ++ List.replicate (1 - (lg_sl ([.ref y])).length) Slot.unset).toArray = ls at hl ⊢
  have hl : lv_has ls 1 [(0, .ref y)] := hl
  refine lv_aload_n hx hb dX10_status_0 rfl (lv_at hl 0 rfl) ?_
  refine va_get (D := (dC, dI)) (ci := 10) (v := .int 0) (C := RX10) (T := TX10) (N := 48) hx hb hts fin_X10_status_X10 hown hK hP 0 rfl rfl 1 (by decide) (hts (.fieldLink RX10 104 "PatternGateModel" "status" "I") (List.mem_of_getElem? (i := 1) (by decide +kernel))) (fun _ h9 => h9) rfl dX10_status_1 ?_
  exact W.iret hx hb hr (fun t ht hW => ⟨⟨_, (), rfl, rfl, trivial⟩, hS.F ht⟩) hS.2.2 dX10_status_4
theorem dX10_undo_0 : decode cX10_undo 0 = .ok (.aload_n 0, 1) := by decide +kernel
theorem dX10_undo_1 : decode cX10_undo 1 = .ok (.getfield 439, 3) := by decide +kernel
theorem dX10_undo_4 : decode cX10_undo 4 = .ok (.ifCond .ne 9, 3) := by decide +kernel
theorem dX10_undo_7 : decode cX10_undo 7 = .ok (.aload_n 0, 1) := by decide +kernel
theorem dX10_undo_8 : decode cX10_undo 8 = .ok (.iconst 5, 1) := by decide +kernel
theorem dX10_undo_9 : decode cX10_undo 9 = .ok (.invokevirtual 204, 3) := by decide +kernel
theorem dX10_undo_12 : decode cX10_undo 12 = .ok (.ireturn, 1) := by decide +kernel
def mwX10_undo : List Cond := .code yX10_undo cX10_undo 1 (some .int) :: ([.fieldLink RX10 439 "PatternGateModel" "acts" "I", .code yX10_refuse cX10_refuse 2 (some .int), .fieldLink RX10 104 "PatternGateModel" "status" "I", .methodLink RX10 204 yX10_refuse, .instanceMethod yX10_refuse, .selects RX10 yX10_refuse yX10_refuse, .initialized RX10] ++ wsX100)
theorem fin_X10_undo_X10 : ∀ w ∈ wsX100, w ∈ mwX10_undo := fun w h => List.mem_cons_of_mem _ (List.mem_append_right _ h)
set_option maxRecDepth 20000 in
theorem mg_X10_undo_X10_refuse_204 : GoodIn mwX10_undo (wsV RX10 204 RX10 yX10_refuse mwX10_refuse) := goodIn_r _ [4, 5, 6, 7, 2, 3, 8, 9, 10, 11, 12, 13, 14, 15, 16, 17, 18, 19, 20, 21, 22, 23, 24, 25, 26, 27, 28, 29, 30, 31, 32, 33, 34, 35, 36, 37, 38, 39, 40, 41, 42, 43, 44, 45, 46, 47, 48, 49, 50, 51, 52, 53, 54, 55] (by decide +kernel) (by decide +kernel)
set_option maxHeartbeats 4000000 in
set_option maxRecDepth 100000 in
/-- undo of the reference, new -/
theorem m_undo (l : Launch) (dC : Nat → ClassId) (dI : Nat → Nat → Nat) (y : Nat) (z : Nat → Nat) (mA mT mX mC : ClassId) (sz : Nat) : Met l yX10_undo mwX10_undo ({ frames := 2, cells := 0, slots := 0, locals := 120 }) (va_Pc [.ref y] (fun U => U.heap.size = sz ∧ va_P (dC, dI) vwCl (mW y z mA mT mX mC) U.heap ∧ va_K (dC, dI) vwCl (mT9 mA mT mX mC) U ∧ va_D (fun _ => True) (mW y z mA mT mX mC))) (va_Qi (fun (o : Int32) (_ : Unit) => o = (-1)) (fun _ _ => True) (va_A (mW y z mA mT mX mC) sz)) 0 0 (va_A (mW y z mA mT mX mC) sz) := by
  refine Met.ofW (cc := cX10_undo) (maxL := 1) (ret := (some .int)) (by decide +kernel) rfl ?_
  intro p e s m args below meth c s₁ B hml hv
  obtain ⟨rfl, hsz, hP, hK, hD0⟩ := hv
  have hx := B.exec
  have hb := B.bytes
  have hr := B.returns
  have hts := atoms_spec (ws := mwX10_undo) B.pre
  have hown : s.vm.findClass RX10 = some m.cls := findClass_of_methodNamed B.named
  have hlocks := B.notSynchronized
  subst hsz
  have hD := hD0.self (sz := s.heap.size)
  generalize hAe : va_A (mW y z mA mT mX mC) s.heap.size = A at hD ⊢
  have hA : ∀ q : Nat, s.heap.size ≤ q → A q := fun q h => by rw [← hAe]; exact Or.inr h
  have hP : va_P (dC, dI) vwCl [(y, .inr (10, mF z 0 0 0 0 0 0 0 0 0 (-1) (-1))), (z 0, .inl (mA, 101660, .inl (fun _ => 0))), (z 1, .inl (mT, 900, .inl (fun _ => 0))), (z 2, .inl (mX, 900, .inl (fun _ => 0))), (z 23, .inl (mC, 17576, .inl (fun _ => 0)))] s.heap := hP
  have hD : va_D A [(y, .inr (10, mF z 0 0 0 0 0 0 0 0 0 (-1) (-1))), (z 0, .inl (mA, 101660, .inl (fun _ => 0))), (z 1, .inl (mT, 900, .inl (fun _ => 0))), (z 2, .inl (mX, 900, .inl (fun _ => 0))), (z 23, .inl (mC, 17576, .inl (fun _ => 0)))] := hD
  have hK : va_K (dC, dI) vwCl [(mA, .int), (mT, .byte), (mX, .byte), (mC, .boolean)] s := hK
  generalize hH : s.heap = H at hP ⊢
  have hS : va_S A s.heap H [] := by rw [← hH]; exact va_S.rf
  have hl := lv_entry ([.ref y]) (n := 1) (Nat.le_of_ble_eq_true rfl)
  rw [lg_entry_eq]
  generalize (lg_sl ([.ref y]) ++ List.replicate (1 - (lg_sl ([.ref y])).length) Slot.unset).toArray = ls at hl ⊢
  have hl : lv_has ls 1 [(0, .ref y)] := hl
  refine lv_aload_n hx hb dX10_undo_0 rfl (lv_at hl 0 rfl) ?_
  refine va_get (D := (dC, dI)) (ci := 10) (v := .int 0) (C := RX10) (T := TX10) (N := 48) hx hb hts fin_X10_undo_X10 hown hK hP 0 rfl rfl 2 (by decide) (hts (.fieldLink RX10 439 "PatternGateModel" "acts" "I") (List.mem_of_getElem? (i := 1) (by decide +kernel))) (fun _ h9 => h9) rfl dX10_undo_1 ?_
  refine lv_if_ne (tgt := 13) hx hb dX10_undo_4 (by decide) (fun k_1 => absurd (by decide) k_1) (fun k_1 => ?_)
  refine lv_aload_n hx hb dX10_undo_7 rfl (lv_at hl 0 rfl) ?_
  refine lv_iconst (v := 5) hx hb dX10_undo_8 (by decide) ?_
  have hPc := hP.sub (ws' := [(y, .inr (10, mF z 0 0 0 0 0 0 0 0 0 (-1) (-1)))]) [0] rfl
  have hKc := hK.sub (tys' := []) [] rfl
  have hDc := hD.sub (ws' := [(y, .inr (10, mF z 0 0 0 0 0 0 0 0 0 (-1) (-1)))]) [0] (by decide) rfl
  have hFc := va_free (wc := [(y, .inr (10, mF z 0 0 0 0 0 0 0 0 0 (-1) (-1)))]) hD hS hA [0] rfl
  refine va_calli (va_runV (As := [.int 5]) (rest := []) ⟨hx, hb, hml, hown, hts⟩ (m_refuse l dC dI y z 0 0 0 0 0 0 0 0 0 (-1) (-1) H.size 5) (cwV 1 hts mg_X10_undo_X10_refuse_204 rfl rfl rfl (by decide +kernel) ⟨Nat.le_of_ble_eq_true rfl, Nat.le_of_ble_eq_true rfl⟩) ⟨fun a U g mk q => by obtain ⟨q0, q1, qP, qK, qD⟩ := q; exact ⟨q0, q1, qP, va_K.moved (u := U) (U := U.calling g mk a) (Vm.Alike.refl U.vm) qK, qD⟩, va_recv hKc hPc (ci := 10) (q0 := 0) rfl rfl, fun U hU hW => ⟨rfl, by rw [hU], by rw [hU]; exact hPc, va_K.moved hW.alike hKc, hDc.weaken (fun _ _ _ _ => trivial)⟩⟩ rfl rfl hl.1 rfl (lv_room (Nat.le_of_ble_eq_true rfl)) dX10_undo_9 ⟨Nat.le_of_ble_eq_true rfl, Nat.le_of_ble_eq_true rfl⟩) hS (fun q _ h => hFc q h) hFc (fun r_3 u t H1 locs ht hvm hw hB hz1 hk1 hS => ?_)
  exact W.iret hx hb hr (fun t ht hW => ⟨⟨_, (), rfl, hw, trivial⟩, hS.F ht⟩) hS.2.2 dX10_undo_12
theorem dX10_back_0 : decode cX10_back 0 = .ok (.aload_n 0, 1) := by decide +kernel
theorem dX10_back_1 : decode cX10_back 1 = .ok (.getfield 442, 3) := by decide +kernel
theorem dX10_back_4 : decode cX10_back 4 = .ok (.ifCond .ne 9, 3) := by decide +kernel
theorem dX10_back_7 : decode cX10_back 7 = .ok (.aload_n 0, 1) := by decide +kernel
theorem dX10_back_8 : decode cX10_back 8 = .ok (.iconst 5, 1) := by decide +kernel
theorem dX10_back_9 : decode cX10_back 9 = .ok (.invokevirtual 204, 3) := by decide +kernel
theorem dX10_back_12 : decode cX10_back 12 = .ok (.ireturn, 1) := by decide +kernel
def mwX10_back : List Cond := .code yX10_back cX10_back 1 (some .int) :: ([.fieldLink RX10 442 "PatternGateModel" "marks" "I", .code yX10_refuse cX10_refuse 2 (some .int), .fieldLink RX10 104 "PatternGateModel" "status" "I", .methodLink RX10 204 yX10_refuse, .instanceMethod yX10_refuse, .selects RX10 yX10_refuse yX10_refuse, .initialized RX10] ++ wsX100)
theorem fin_X10_back_X10 : ∀ w ∈ wsX100, w ∈ mwX10_back := fun w h => List.mem_cons_of_mem _ (List.mem_append_right _ h)
set_option maxRecDepth 20000 in
theorem mg_X10_back_X10_refuse_204 : GoodIn mwX10_back (wsV RX10 204 RX10 yX10_refuse mwX10_refuse) := goodIn_r _ [4, 5, 6, 7, 2, 3, 8, 9, 10, 11, 12, 13, 14, 15, 16, 17, 18, 19, 20, 21, 22, 23, 24, 25, 26, 27, 28, 29, 30, 31, 32, 33, 34, 35, 36, 37, 38, 39, 40, 41, 42, 43, 44, 45, 46, 47, 48, 49, 50, 51, 52, 53, 54, 55] (by decide +kernel) (by decide +kernel)
set_option maxHeartbeats 4000000 in
set_option maxRecDepth 100000 in
/-- back of the reference, new -/
theorem m_back (l : Launch) (dC : Nat → ClassId) (dI : Nat → Nat → Nat) (y : Nat) (z : Nat → Nat) (mA mT mX mC : ClassId) (sz : Nat) : Met l yX10_back mwX10_back ({ frames := 2, cells := 0, slots := 0, locals := 120 }) (va_Pc [.ref y] (fun U => U.heap.size = sz ∧ va_P (dC, dI) vwCl (mW y z mA mT mX mC) U.heap ∧ va_K (dC, dI) vwCl (mT9 mA mT mX mC) U ∧ va_D (fun _ => True) (mW y z mA mT mX mC))) (va_Qi (fun (o : Int32) (_ : Unit) => o = (-1)) (fun _ _ => True) (va_A (mW y z mA mT mX mC) sz)) 0 0 (va_A (mW y z mA mT mX mC) sz) := by
  refine Met.ofW (cc := cX10_back) (maxL := 1) (ret := (some .int)) (by decide +kernel) rfl ?_
  intro p e s m args below meth c s₁ B hml hv
  obtain ⟨rfl, hsz, hP, hK, hD0⟩ := hv
  have hx := B.exec
  have hb := B.bytes
  have hr := B.returns
  have hts := atoms_spec (ws := mwX10_back) B.pre
  have hown : s.vm.findClass RX10 = some m.cls := findClass_of_methodNamed B.named
  have hlocks := B.notSynchronized
  subst hsz
  have hD := hD0.self (sz := s.heap.size)
  generalize hAe : va_A (mW y z mA mT mX mC) s.heap.size = A at hD ⊢
  have hA : ∀ q : Nat, s.heap.size ≤ q → A q := fun q h => by rw [← hAe]; exact Or.inr h
  have hP : va_P (dC, dI) vwCl [(y, .inr (10, mF z 0 0 0 0 0 0 0 0 0 (-1) (-1))), (z 0, .inl (mA, 101660, .inl (fun _ => 0))), (z 1, .inl (mT, 900, .inl (fun _ => 0))), (z 2, .inl (mX, 900, .inl (fun _ => 0))), (z 23, .inl (mC, 17576, .inl (fun _ => 0)))] s.heap := hP
  have hD : va_D A [(y, .inr (10, mF z 0 0 0 0 0 0 0 0 0 (-1) (-1))), (z 0, .inl (mA, 101660, .inl (fun _ => 0))), (z 1, .inl (mT, 900, .inl (fun _ => 0))), (z 2, .inl (mX, 900, .inl (fun _ => 0))), (z 23, .inl (mC, 17576, .inl (fun _ => 0)))] := hD
  have hK : va_K (dC, dI) vwCl [(mA, .int), (mT, .byte), (mX, .byte), (mC, .boolean)] s := hK
  generalize hH : s.heap = H at hP ⊢
  have hS : va_S A s.heap H [] := by rw [← hH]; exact va_S.rf
  have hl := lv_entry ([.ref y]) (n := 1) (Nat.le_of_ble_eq_true rfl)
  rw [lg_entry_eq]
  generalize (lg_sl ([.ref y]) ++ List.replicate (1 - (lg_sl ([.ref y])).length) Slot.unset).toArray = ls at hl ⊢
  have hl : lv_has ls 1 [(0, .ref y)] := hl
  refine lv_aload_n hx hb dX10_back_0 rfl (lv_at hl 0 rfl) ?_
  refine va_get (D := (dC, dI)) (ci := 10) (v := .int 0) (C := RX10) (T := TX10) (N := 48) hx hb hts fin_X10_back_X10 hown hK hP 0 rfl rfl 3 (by decide) (hts (.fieldLink RX10 442 "PatternGateModel" "marks" "I") (List.mem_of_getElem? (i := 1) (by decide +kernel))) (fun _ h9 => h9) rfl dX10_back_1 ?_
  refine lv_if_ne (tgt := 13) hx hb dX10_back_4 (by decide) (fun k_1 => absurd (by decide) k_1) (fun k_1 => ?_)
  refine lv_aload_n hx hb dX10_back_7 rfl (lv_at hl 0 rfl) ?_
  refine lv_iconst (v := 5) hx hb dX10_back_8 (by decide) ?_
  have hPc := hP.sub (ws' := [(y, .inr (10, mF z 0 0 0 0 0 0 0 0 0 (-1) (-1)))]) [0] rfl
  have hKc := hK.sub (tys' := []) [] rfl
  have hDc := hD.sub (ws' := [(y, .inr (10, mF z 0 0 0 0 0 0 0 0 0 (-1) (-1)))]) [0] (by decide) rfl
  have hFc := va_free (wc := [(y, .inr (10, mF z 0 0 0 0 0 0 0 0 0 (-1) (-1)))]) hD hS hA [0] rfl
  refine va_calli (va_runV (As := [.int 5]) (rest := []) ⟨hx, hb, hml, hown, hts⟩ (m_refuse l dC dI y z 0 0 0 0 0 0 0 0 0 (-1) (-1) H.size 5) (cwV 1 hts mg_X10_back_X10_refuse_204 rfl rfl rfl (by decide +kernel) ⟨Nat.le_of_ble_eq_true rfl, Nat.le_of_ble_eq_true rfl⟩) ⟨fun a U g mk q => by obtain ⟨q0, q1, qP, qK, qD⟩ := q; exact ⟨q0, q1, qP, va_K.moved (u := U) (U := U.calling g mk a) (Vm.Alike.refl U.vm) qK, qD⟩, va_recv hKc hPc (ci := 10) (q0 := 0) rfl rfl, fun U hU hW => ⟨rfl, by rw [hU], by rw [hU]; exact hPc, va_K.moved hW.alike hKc, hDc.weaken (fun _ _ _ _ => trivial)⟩⟩ rfl rfl hl.1 rfl (lv_room (Nat.le_of_ble_eq_true rfl)) dX10_back_9 ⟨Nat.le_of_ble_eq_true rfl, Nat.le_of_ble_eq_true rfl⟩) hS (fun q _ h => hFc q h) hFc (fun r_3 u t H1 locs ht hvm hw hB hz1 hk1 hS => ?_)
  exact W.iret hx hb hr (fun t ht hW => ⟨⟨_, (), rfl, hw, trivial⟩, hS.F ht⟩) hS.2.2 dX10_back_12
theorem dX10_fault_0 : decode cX10_fault 0 = .ok (.iload_n 1, 1) := by decide +kernel
theorem dX10_fault_1 : decode cX10_fault 1 = .ok (.ifCond .ne 10, 3) := by decide +kernel
theorem dX10_fault_4 : decode cX10_fault 4 = .ok (.aload_n 0, 1) := by decide +kernel
theorem dX10_fault_5 : decode cX10_fault 5 = .ok (.getfield 25, 3) := by decide +kernel
theorem dX10_fault_8 : decode cX10_fault 8 = .ok (.goto 16, 3) := by decide +kernel
theorem dX10_fault_11 : decode cX10_fault 11 = .ok (.iload_n 1, 1) := by decide +kernel
theorem dX10_fault_12 : decode cX10_fault 12 = .ok (.iconst 1, 1) := by decide +kernel
theorem dX10_fault_13 : decode cX10_fault 13 = .ok (.if_icmp .ne 10, 3) := by decide +kernel
theorem dX10_fault_16 : decode cX10_fault 16 = .ok (.aload_n 0, 1) := by decide +kernel
theorem dX10_fault_17 : decode cX10_fault 17 = .ok (.getfield 21, 3) := by decide +kernel
theorem dX10_fault_20 : decode cX10_fault 20 = .ok (.goto 4, 3) := by decide +kernel
theorem dX10_fault_23 : decode cX10_fault 23 = .ok (.iconst (-1), 1) := by decide +kernel
theorem dX10_fault_24 : decode cX10_fault 24 = .ok (.ireturn, 1) := by decide +kernel
def mwX10_fault : List Cond := .code yX10_fault cX10_fault 2 (some .int) :: ([.fieldLink RX10 21 "PatternGateModel" "faultPlace" "I", .fieldLink RX10 25 "PatternGateModel" "faultKind" "I"] ++ wsX100)
theorem fin_X10_fault_X10 : ∀ w ∈ wsX100, w ∈ mwX10_fault := fun w h => List.mem_cons_of_mem _ (List.mem_append_right _ h)
set_option maxHeartbeats 4000000 in
set_option maxRecDepth 100000 in
/-- fault of the reference, new -/
theorem m_fault (l : Launch) (dC : Nat → ClassId) (dI : Nat → Nat → Nat) (y : Nat) (z : Nat → Nat) (mA mT mX mC : ClassId) (sz : Nat) (i0 : Int32) : Met l yX10_fault mwX10_fault ({ frames := 2, cells := 0, slots := 0, locals := 120 }) (va_Pc [.ref y, .int i0] (fun U => U.heap.size = sz ∧ va_P (dC, dI) vwCl (mW y z mA mT mX mC) U.heap ∧ va_K (dC, dI) vwCl (mT9 mA mT mX mC) U ∧ va_D (fun _ => True) (mW y z mA mT mX mC))) (va_Qi (fun (o : Int32) (_ : Unit) => o = (-1)) (fun _ _ => True) (va_A (mW y z mA mT mX mC) sz)) 0 0 (va_A (mW y z mA mT mX mC) sz) := by
  refine Met.ofW (cc := cX10_fault) (maxL := 2) (ret := (some .int)) (by decide +kernel) rfl ?_
  intro p e s m args below meth c s₁ B hml hv
  obtain ⟨rfl, hsz, hP, hK, hD0⟩ := hv
  have hx := B.exec
  have hb := B.bytes
  have hr := B.returns
  have hts := atoms_spec (ws := mwX10_fault) B.pre
  have hown : s.vm.findClass RX10 = some m.cls := findClass_of_methodNamed B.named
  have hlocks := B.notSynchronized
  subst hsz
  have hD := hD0.self (sz := s.heap.size)
  generalize hAe : va_A (mW y z mA mT mX mC) s.heap.size = A at hD ⊢
  have hA : ∀ q : Nat, s.heap.size ≤ q → A q := fun q h => by rw [← hAe]; exact Or.inr h
  have hP : va_P (dC, dI) vwCl [(y, .inr (10, mF z 0 0 0 0 0 0 0 0 0 (-1) (-1))), (z 0, .inl (mA, 101660, .inl (fun _ => 0))), (z 1, .inl (mT, 900, .inl (fun _ => 0))), (z 2, .inl (mX, 900, .inl (fun _ => 0))), (z 23, .inl (mC, 17576, .inl (fun _ => 0)))] s.heap := hP
  have hD : va_D A [(y, .inr (10, mF z 0 0 0 0 0 0 0 0 0 (-1) (-1))), (z 0, .inl (mA, 101660, .inl (fun _ => 0))), (z 1, .inl (mT, 900, .inl (fun _ => 0))), (z 2, .inl (mX, 900, .inl (fun _ => 0))), (z 23, .inl (mC, 17576, .inl (fun _ => 0)))] := hD
  have hK : va_K (dC, dI) vwCl [(mA, .int), (mT, .byte), (mX, .byte), (mC, .boolean)] s := hK
  generalize hH : s.heap = H at hP ⊢
  have hS : va_S A s.heap H [] := by rw [← hH]; exact va_S.rf
  have hl := lv_entry ([.ref y, .int i0]) (n := 2) (Nat.le_of_ble_eq_true rfl)
  rw [lg_entry_eq]
  generalize (lg_sl ([.ref y, .int i0]) ++ List.replicate (2 - (lg_sl ([.ref y, .int i0])).length) Slot.unset).toArray = ls at hl ⊢
  have hl : lv_has ls 2 [(0, .ref y), (1, .int i0)] := hl
  refine lv_iload_n hx hb dX10_fault_0 rfl (lv_at hl 1 rfl) ?_
  refine lv_if_ne (tgt := 11) hx hb dX10_fault_1 (by decide) (fun k_1 => ?_) (fun k_1 => ?_)
  · refine lv_iload_n hx hb dX10_fault_11 rfl (lv_at hl 1 rfl) ?_
    refine lv_iconst (v := 1) hx hb dX10_fault_12 (by decide) ?_
    refine lv_icmp_ne (tgt := 23) hx hb dX10_fault_13 (by decide) (fun k_2 => ?_) (fun k_2 => ?_)
    · refine lv_iconst (v := (-1)) hx hb dX10_fault_23 (by decide) ?_
      exact W.iret hx hb hr (fun t ht hW => ⟨⟨_, (), rfl, rfl, trivial⟩, hS.F ht⟩) hS.2.2 dX10_fault_24
    · refine lv_aload_n hx hb dX10_fault_16 rfl (lv_at hl 0 rfl) ?_
      refine va_get (D := (dC, dI)) (ci := 10) (v := .int (-1)) (C := RX10) (T := TX10) (N := 48) hx hb hts fin_X10_fault_X10 hown hK hP 0 rfl rfl 12 (by decide) (hts (.fieldLink RX10 21 "PatternGateModel" "faultPlace" "I") (List.mem_of_getElem? (i := 1) (by decide +kernel))) (fun _ h9 => h9) rfl dX10_fault_17 ?_
      refine lv_goto (tgt := 24) hx hb dX10_fault_20 (by decide) ?_
      exact W.iret hx hb hr (fun t ht hW => ⟨⟨_, (), rfl, rfl, trivial⟩, hS.F ht⟩) hS.2.2 dX10_fault_24
  · refine lv_aload_n hx hb dX10_fault_4 rfl (lv_at hl 0 rfl) ?_
    refine va_get (D := (dC, dI)) (ci := 10) (v := .int (-1)) (C := RX10) (T := TX10) (N := 48) hx hb hts fin_X10_fault_X10 hown hK hP 0 rfl rfl 13 (by decide) (hts (.fieldLink RX10 25 "PatternGateModel" "faultKind" "I") (List.mem_of_getElem? (i := 2) (by decide +kernel))) (fun _ h9 => h9) rfl dX10_fault_5 ?_
    refine lv_goto (tgt := 24) hx hb dX10_fault_8 (by decide) ?_
    exact W.iret hx hb hr (fun t ht hW => ⟨⟨_, (), rfl, rfl, trivial⟩, hS.F ht⟩) hS.2.2 dX10_fault_24
theorem dX10_mark_0 : decode cX10_mark 0 = .ok (.aload_n 0, 1) := by decide +kernel
theorem dX10_mark_1 : decode cX10_mark 1 = .ok (.getfield 442, 3) := by decide +kernel
theorem dX10_mark_4 : decode cX10_mark 4 = .ok (.iconst 3, 1) := by decide +kernel
theorem dX10_mark_5 : decode cX10_mark 5 = .ok (.if_icmp .ne 9, 3) := by decide +kernel
theorem dX10_mark_14 : decode cX10_mark 14 = .ok (.aload_n 0, 1) := by decide +kernel
theorem dX10_mark_15 : decode cX10_mark 15 = .ok (.iconst 0, 1) := by decide +kernel
theorem dX10_mark_16 : decode cX10_mark 16 = .ok (.ldc_w 478, 3) := by decide +kernel
theorem dX10_mark_19 : decode cX10_mark 19 = .ok (.sipush 7820, 3) := by decide +kernel
theorem dX10_mark_22 : decode cX10_mark 22 = .ok (.aload_n 0, 1) := by decide +kernel
theorem dX10_mark_23 : decode cX10_mark 23 = .ok (.getfield 442, 3) := by decide +kernel
theorem dX10_mark_26 : decode cX10_mark 26 = .ok (.imul, 1) := by decide +kernel
theorem dX10_mark_27 : decode cX10_mark 27 = .ok (.iadd, 1) := by decide +kernel
theorem dX10_mark_28 : decode cX10_mark 28 = .ok (.invokevirtual 193, 3) := by decide +kernel
theorem dX10_mark_31 : decode cX10_mark 31 = .ok (.aload_n 0, 1) := by decide +kernel
theorem dX10_mark_32 : decode cX10_mark 32 = .ok (.dup, 1) := by decide +kernel
theorem dX10_mark_33 : decode cX10_mark 33 = .ok (.getfield 442, 3) := by decide +kernel
theorem dX10_mark_36 : decode cX10_mark 36 = .ok (.iconst 1, 1) := by decide +kernel
theorem dX10_mark_37 : decode cX10_mark 37 = .ok (.iadd, 1) := by decide +kernel
theorem dX10_mark_38 : decode cX10_mark 38 = .ok (.putfield 442, 3) := by decide +kernel
theorem dX10_mark_41 : decode cX10_mark 41 = .ok (.aload_n 0, 1) := by decide +kernel
theorem dX10_mark_42 : decode cX10_mark 42 = .ok (.aload_n 0, 1) := by decide +kernel
theorem dX10_mark_43 : decode cX10_mark 43 = .ok (.getfield 442, 3) := by decide +kernel
theorem dX10_mark_46 : decode cX10_mark 46 = .ok (.invokevirtual 214, 3) := by decide +kernel
theorem dX10_mark_49 : decode cX10_mark 49 = .ok (.ireturn, 1) := by decide +kernel
def mwX10_mark : List Cond := .code yX10_mark cX10_mark 1 (some .int) :: ([.fieldLink RX10 442 "PatternGateModel" "marks" "I", .constant RX10 478 (78200), .code yX10_copies cX10_copies 4 none, .fieldLink RX10 8 "PatternGateModel" "all" "[I", .methodLink RX10 193 yX10_copies, .instanceMethod yX10_copies, .selects RX10 yX10_copies yX10_copies, .initialized RX10, .code yX10_gives cX10_gives 2 (some .int), .fieldLink RX10 104 "PatternGateModel" "status" "I", .methodLink RX10 214 yX10_gives, .instanceMethod yX10_gives, .selects RX10 yX10_gives yX10_gives] ++ wsX100)
theorem fin_X10_mark_X10 : ∀ w ∈ wsX100, w ∈ mwX10_mark := fun w h => List.mem_cons_of_mem _ (List.mem_append_right _ h)
set_option maxRecDepth 20000 in
theorem mg_X10_mark_X10_copies_193 : GoodIn mwX10_mark (wsV RX10 193 RX10 yX10_copies mwX10_copies) := goodIn_r _ [5, 6, 7, 8, 3, 4, 14, 15, 16, 17, 18, 19, 20, 21, 22, 23, 24, 25, 26, 27, 28, 29, 30, 31, 32, 33, 34, 35, 36, 37, 38, 39, 40, 41, 42, 43, 44, 45, 46, 47, 48, 49, 50, 51, 52, 53, 54, 55, 56, 57, 58, 59, 60, 61] (by decide +kernel) (by decide +kernel)
set_option maxRecDepth 20000 in
theorem mg_X10_mark_X10_gives_214 : GoodIn mwX10_mark (wsV RX10 214 RX10 yX10_gives mwX10_gives) := goodIn_r _ [11, 12, 13, 8, 9, 10, 14, 15, 16, 17, 18, 19, 20, 21, 22, 23, 24, 25, 26, 27, 28, 29, 30, 31, 32, 33, 34, 35, 36, 37, 38, 39, 40, 41, 42, 43, 44, 45, 46, 47, 48, 49, 50, 51, 52, 53, 54, 55, 56, 57, 58, 59, 60, 61] (by decide +kernel) (by decide +kernel)
set_option maxHeartbeats 4000000 in
set_option maxRecDepth 100000 in
/-- mark of the reference, new -/
theorem m_mark (l : Launch) (dC : Nat → ClassId) (dI : Nat → Nat → Nat) (y : Nat) (z : Nat → Nat) (mA mT mX mC : ClassId) (sz : Nat) : Met l yX10_mark mwX10_mark ({ frames := 2, cells := 0, slots := 0, locals := 120 }) (va_Pc [.ref y] (fun U => U.heap.size = sz ∧ va_P (dC, dI) vwCl (mW y z mA mT mX mC) U.heap ∧ va_K (dC, dI) vwCl (mT9 mA mT mX mC) U ∧ va_D (fun _ => True) (mW y z mA mT mX mC))) (va_Qi (fun (o : Int32) (_ : Unit) => o = 1) (fun _ _ => True) (va_A (mW y z mA mT mX mC) sz)) 0 0 (va_A (mW y z mA mT mX mC) sz) := by
  refine Met.ofW (cc := cX10_mark) (maxL := 1) (ret := (some .int)) (by decide +kernel) rfl ?_
  intro p e s m args below meth c s₁ B hml hv
  obtain ⟨rfl, hsz, hP, hK, hD0⟩ := hv
  have hx := B.exec
  have hb := B.bytes
  have hr := B.returns
  have hts := atoms_spec (ws := mwX10_mark) B.pre
  have hown : s.vm.findClass RX10 = some m.cls := findClass_of_methodNamed B.named
  have hlocks := B.notSynchronized
  subst hsz
  have hD := hD0.self (sz := s.heap.size)
  generalize hAe : va_A (mW y z mA mT mX mC) s.heap.size = A at hD ⊢
  have hA : ∀ q : Nat, s.heap.size ≤ q → A q := fun q h => by rw [← hAe]; exact Or.inr h
  have hP : va_P (dC, dI) vwCl [(y, .inr (10, mF z 0 0 0 0 0 0 0 0 0 (-1) (-1))), (z 0, .inl (mA, 101660, .inl (fun _ => 0))), (z 1, .inl (mT, 900, .inl (fun _ => 0))), (z 2, .inl (mX, 900, .inl (fun _ => 0))), (z 23, .inl (mC, 17576, .inl (fun _ => 0)))] s.heap := hP
  have hD : va_D A [(y, .inr (10, mF z 0 0 0 0 0 0 0 0 0 (-1) (-1))), (z 0, .inl (mA, 101660, .inl (fun _ => 0))), (z 1, .inl (mT, 900, .inl (fun _ => 0))), (z 2, .inl (mX, 900, .inl (fun _ => 0))), (z 23, .inl (mC, 17576, .inl (fun _ => 0)))] := hD
  have hK : va_K (dC, dI) vwCl [(mA, .int), (mT, .byte), (mX, .byte), (mC, .boolean)] s := hK
  generalize hH : s.heap = H at hP ⊢
  have hS : va_S A s.heap H [] := by rw [← hH]; exact va_S.rf
  have hl := lv_entry ([.ref y]) (n := 1) (Nat.le_of_ble_eq_true rfl)
  rw [lg_entry_eq]
  generalize (lg_sl ([.ref y]) ++ List.replicate (1 - (lg_sl ([.ref y])).length) Slot.unset).toArray = ls at hl ⊢
  have hl : lv_has ls 1 [(0, .ref y)] := hl
  refine lv_aload_n hx hb dX10_mark_0 rfl (lv_at hl 0 rfl) ?_
  refine va_get (D := (dC, dI)) (ci := 10) (v := .int 0) (C := RX10) (T := TX10) (N := 48) hx hb hts fin_X10_mark_X10 hown hK hP 0 rfl rfl 3 (by decide) (hts (.fieldLink RX10 442 "PatternGateModel" "marks" "I") (List.mem_of_getElem? (i := 1) (by decide +kernel))) (fun _ h9 => h9) rfl dX10_mark_1 ?_
  refine lv_iconst (v := 3) hx hb dX10_mark_4 (by decide) ?_
  refine lv_icmp_ne (tgt := 14) hx hb dX10_mark_5 (by decide) (fun k_1 => ?_) (fun k_1 => absurd k_1 (by decide))
  refine lv_aload_n hx hb dX10_mark_14 rfl (lv_at hl 0 rfl) ?_
  refine lv_iconst (v := 0) hx hb dX10_mark_15 (by decide) ?_
  refine lv_ldcw hx hb hown (hts (.constant RX10 478 (78200)) (List.mem_of_getElem? (i := 2) (by decide +kernel))) dX10_mark_16 ?_
  refine lv_sipush (v := 7820) hx hb dX10_mark_19 (by decide) ?_
  refine lv_aload_n hx hb dX10_mark_22 rfl (lv_at hl 0 rfl) ?_
  refine va_get (D := (dC, dI)) (ci := 10) (v := .int 0) (C := RX10) (T := TX10) (N := 48) hx hb hts fin_X10_mark_X10 hown hK hP 0 rfl rfl 3 (by decide) (hts (.fieldLink RX10 442 "PatternGateModel" "marks" "I") (List.mem_of_getElem? (i := 1) (by decide +kernel))) (fun _ h9 => h9) rfl dX10_mark_23 ?_
  refine lv_imul hx hb dX10_mark_26 ?_
  refine lv_topi (fun y_2 ey_2 => ?_)
  obtain rfl : y_2 = 0 := ey_2.trans (by first | rfl | decide)
  refine lv_iadd hx hb dX10_mark_27 ?_
  refine lv_topi (fun y_3 ey_3 => ?_)
  obtain rfl : y_3 = 78200 := ey_3.trans (by first | rfl | decide)
  have hPc := hP.sub (ws' := [(y, .inr (10, mF z 0 0 0 0 0 0 0 0 0 (-1) (-1))), (z 0, .inl (mA, 101660, .inl (fun _ => 0)))]) [0, 1] rfl
  have hKc := hK.sub (tys' := [(mA, .int)]) [0] rfl
  have hDc := hD.sub (ws' := [(y, .inr (10, mF z 0 0 0 0 0 0 0 0 0 (-1) (-1))), (z 0, .inl (mA, 101660, .inl (fun _ => 0)))]) [0, 1] (by decide) rfl
  have hFc := va_free (wc := [(y, .inr (10, mF z 0 0 0 0 0 0 0 0 0 (-1) (-1))), (z 0, .inl (mA, 101660, .inl (fun _ => 0)))]) hD hS hA [0, 1] rfl
  refine va_callv (va_runV (As := [.int 0, .int 78200]) (rest := []) ⟨hx, hb, hml, hown, hts⟩ (m_copies l dC dI y z 0 0 0 0 0 0 0 0 0 (-1) (-1) mA 0 78200 H.size (by decide) (by decide)) (cwV 2 hts mg_X10_mark_X10_copies_193 rfl rfl rfl (by decide +kernel) ⟨Nat.le_of_ble_eq_true rfl, Nat.le_of_ble_eq_true rfl⟩) ⟨fun a U g mk q => by obtain ⟨q0, q1, qP, qK, qD⟩ := q; exact ⟨q0, q1, qP, va_K.moved (u := U) (U := U.calling g mk a) (Vm.Alike.refl U.vm) qK, qD⟩, va_recv hKc hPc (ci := 10) (q0 := 0) rfl rfl, fun U hU hW => ⟨rfl, by rw [hU], by rw [hU]; exact hPc, va_K.moved hW.alike hKc, hDc.weaken (fun _ _ _ _ => trivial)⟩⟩ rfl rfl hl.1 rfl (lv_room (Nat.le_of_ble_eq_true rfl)) dX10_mark_28 ⟨Nat.le_of_ble_eq_true rfl, Nat.le_of_ble_eq_true rfl⟩) hS (fun q _ h => hFc q h) hFc (fun u t H1 locs ht hvm hw hB hz1 hk1 hS => ?_)
  obtain ⟨hP1, hK1, hD1⟩ := hB
  rw [ht] at hP1
  obtain ⟨hP, hD⟩ := va_join (wr := [(z 1, .inl (mT, 900, .inl (fun _ => 0))), (z 2, .inl (mX, 900, .inl (fun _ => 0))), (z 23, .inl (mC, 17576, .inl (fun _ => 0)))]) (w1 := [(y, .inr (10, mF z 0 0 0 0 0 0 0 0 0 (-1) (-1))), (z 0, .inl (mA, 101660, .inl (fun _ => 0)))]) hP hD [0, 1] [2, 3, 4] rfl rfl (by decide) (by decide) hk1 hFc hP1 hD1
  generalize H1 = H at hP hS ⊢
  have hP : va_P (dC, dI) vwCl [(z 1, .inl (mT, 900, .inl (fun _ => 0))), (z 2, .inl (mX, 900, .inl (fun _ => 0))), (z 23, .inl (mC, 17576, .inl (fun _ => 0))), (y, .inr (10, mF z 0 0 0 0 0 0 0 0 0 (-1) (-1))), (z 0, .inl (mA, 101660, .inl (fun _ => 0)))] H := hP
  have hD : va_D A [(z 1, .inl (mT, 900, .inl (fun _ => 0))), (z 2, .inl (mX, 900, .inl (fun _ => 0))), (z 23, .inl (mC, 17576, .inl (fun _ => 0))), (y, .inr (10, mF z 0 0 0 0 0 0 0 0 0 (-1) (-1))), (z 0, .inl (mA, 101660, .inl (fun _ => 0)))] := hD
  refine lv_aload_n hx hb dX10_mark_31 rfl (lv_at hl 0 rfl) ?_
  refine lv_dup hx hb dX10_mark_32 rfl ?_
  refine va_get (D := (dC, dI)) (ci := 10) (v := .int 0) (C := RX10) (T := TX10) (N := 48) hx hb hts fin_X10_mark_X10 hown hK hP 3 rfl rfl 3 (by decide) (hts (.fieldLink RX10 442 "PatternGateModel" "marks" "I") (List.mem_of_getElem? (i := 1) (by decide +kernel))) (fun _ h9 => h9) rfl dX10_mark_33 ?_
  refine lv_iconst (v := 1) hx hb dX10_mark_36 (by decide) ?_
  refine lv_iadd hx hb dX10_mark_37 ?_
  refine lv_topi (fun y_6 ey_6 => ?_)
  obtain rfl : y_6 = 1 := ey_6.trans (by first | rfl | decide)
  refine va_put (D := (dC, dI)) (ci := 10) (v := .int 1) (ty := .int) (C := RX10) (T := TX10) (N := 48) hx hb hts fin_X10_mark_X10 tyX10 tyX10_ok nmX10 hown hK hP hD hS 3 rfl rfl 3 (by decide) (hts (.fieldLink RX10 442 "PatternGateModel" "marks" "I") (List.mem_of_getElem? (i := 1) (by decide +kernel))) (fun _ h9 => h9) rfl (by decide +kernel) rfl rfl (Nat.le_of_ble_eq_true rfl) dX10_mark_38 (fun H locs hP hD hS => ?_)
  have hP : va_P (dC, dI) vwCl [(z 1, .inl (mT, 900, .inl (fun _ => 0))), (z 2, .inl (mX, 900, .inl (fun _ => 0))), (z 23, .inl (mC, 17576, .inl (fun _ => 0))), (y, .inr (10, mF z 0 0 1 0 0 0 0 0 0 (-1) (-1))), (z 0, .inl (mA, 101660, .inl (fun _ => 0)))] H := hP
  have hD : va_D A [(z 1, .inl (mT, 900, .inl (fun _ => 0))), (z 2, .inl (mX, 900, .inl (fun _ => 0))), (z 23, .inl (mC, 17576, .inl (fun _ => 0))), (y, .inr (10, mF z 0 0 1 0 0 0 0 0 0 (-1) (-1))), (z 0, .inl (mA, 101660, .inl (fun _ => 0)))] := hD
  refine lv_aload_n hx hb dX10_mark_41 rfl (lv_at hl 0 rfl) ?_
  refine lv_aload_n hx hb dX10_mark_42 rfl (lv_at hl 0 rfl) ?_
  refine va_get (D := (dC, dI)) (ci := 10) (v := .int 1) (C := RX10) (T := TX10) (N := 48) hx hb hts fin_X10_mark_X10 hown hK hP 3 rfl rfl 3 (by decide) (hts (.fieldLink RX10 442 "PatternGateModel" "marks" "I") (List.mem_of_getElem? (i := 1) (by decide +kernel))) (fun _ h9 => h9) rfl dX10_mark_43 ?_
  have hPc := hP.sub (ws' := [(y, .inr (10, mF z 0 0 1 0 0 0 0 0 0 (-1) (-1)))]) [3] rfl
  have hKc := hK.sub (tys' := []) [] rfl
  have hDc := hD.sub (ws' := [(y, .inr (10, mF z 0 0 1 0 0 0 0 0 0 (-1) (-1)))]) [3] (by decide) rfl
  have hFc := va_free (wc := [(y, .inr (10, mF z 0 0 1 0 0 0 0 0 0 (-1) (-1)))]) hD hS hA [3] rfl
  refine va_calli (va_runV (As := [.int 1]) (rest := []) ⟨hx, hb, hml, hown, hts⟩ (m_gives l dC dI y z 0 0 1 0 0 0 0 0 0 (-1) (-1) H.size 1) (cwV 1 hts mg_X10_mark_X10_gives_214 rfl rfl rfl (by decide +kernel) ⟨Nat.le_of_ble_eq_true rfl, Nat.le_of_ble_eq_true rfl⟩) ⟨fun a U g mk q => by obtain ⟨q0, q1, qP, qK, qD⟩ := q; exact ⟨q0, q1, qP, va_K.moved (u := U) (U := U.calling g mk a) (Vm.Alike.refl U.vm) qK, qD⟩, va_recv hKc hPc (ci := 10) (q0 := 0) rfl rfl, fun U hU hW => ⟨rfl, by rw [hU], by rw [hU]; exact hPc, va_K.moved hW.alike hKc, hDc.weaken (fun _ _ _ _ => trivial)⟩⟩ rfl rfl hl.1 rfl (lv_room (Nat.le_of_ble_eq_true rfl)) dX10_mark_46 ⟨Nat.le_of_ble_eq_true rfl, Nat.le_of_ble_eq_true rfl⟩) hS (fun q _ h => hFc q h) hFc (fun r_8 u t H1 locs ht hvm hw hB hz1 hk1 hS => ?_)
  exact W.iret hx hb hr (fun t ht hW => ⟨⟨_, (), rfl, hw, trivial⟩, hS.F ht⟩) hS.2.2 dX10_mark_49
theorem dX10_many_0 : decode cX10_many 0 = .ok (.iload_n 1, 1) := by decide +kernel
theorem dX10_many_1 : decode cX10_many 1 = .ok (.tableswitch 106 0 5 #[39, 50, 63, 72, 88, 97], 39) := by decide +kernel
theorem dX10_many_40 : decode cX10_many 40 = .ok (.aload_n 0, 1) := by decide +kernel
theorem dX10_many_41 : decode cX10_many 41 = .ok (.aload_n 0, 1) := by decide +kernel
theorem dX10_many_42 : decode cX10_many 42 = .ok (.getfield 8, 3) := by decide +kernel
theorem dX10_many_45 : decode cX10_many 45 = .ok (.iconst 0, 1) := by decide +kernel
theorem dX10_many_46 : decode cX10_many 46 = .ok (.iaload, 1) := by decide +kernel
theorem dX10_many_47 : decode cX10_many 47 = .ok (.invokevirtual 214, 3) := by decide +kernel
theorem dX10_many_50 : decode cX10_many 50 = .ok (.ireturn, 1) := by decide +kernel
theorem dX10_many_51 : decode cX10_many 51 = .ok (.aload_n 0, 1) := by decide +kernel
theorem dX10_many_52 : decode cX10_many 52 = .ok (.aload_n 0, 1) := by decide +kernel
theorem dX10_many_53 : decode cX10_many 53 = .ok (.getfield 8, 3) := by decide +kernel
theorem dX10_many_56 : decode cX10_many 56 = .ok (.sipush 611, 3) := by decide +kernel
theorem dX10_many_59 : decode cX10_many 59 = .ok (.iaload, 1) := by decide +kernel
theorem dX10_many_60 : decode cX10_many 60 = .ok (.invokevirtual 214, 3) := by decide +kernel
theorem dX10_many_63 : decode cX10_many 63 = .ok (.ireturn, 1) := by decide +kernel
theorem dX10_many_64 : decode cX10_many 64 = .ok (.aload_n 0, 1) := by decide +kernel
theorem dX10_many_65 : decode cX10_many 65 = .ok (.aload_n 0, 1) := by decide +kernel
theorem dX10_many_66 : decode cX10_many 66 = .ok (.invokevirtual 433, 3) := by decide +kernel
theorem dX10_many_69 : decode cX10_many 69 = .ok (.invokevirtual 214, 3) := by decide +kernel
theorem dX10_many_72 : decode cX10_many 72 = .ok (.ireturn, 1) := by decide +kernel
theorem dX10_many_73 : decode cX10_many 73 = .ok (.aload_n 0, 1) := by decide +kernel
theorem dX10_many_74 : decode cX10_many 74 = .ok (.aload_n 0, 1) := by decide +kernel
theorem dX10_many_75 : decode cX10_many 75 = .ok (.iconst 0, 1) := by decide +kernel
theorem dX10_many_76 : decode cX10_many 76 = .ok (.aload_n 0, 1) := by decide +kernel
theorem dX10_many_77 : decode cX10_many 77 = .ok (.getfield 8, 3) := by decide +kernel
theorem dX10_many_80 : decode cX10_many 80 = .ok (.iconst 0, 1) := by decide +kernel
theorem dX10_many_81 : decode cX10_many 81 = .ok (.iaload, 1) := by decide +kernel
theorem dX10_many_82 : decode cX10_many 82 = .ok (.invokevirtual 436, 3) := by decide +kernel
theorem dX10_many_85 : decode cX10_many 85 = .ok (.invokevirtual 214, 3) := by decide +kernel
theorem dX10_many_88 : decode cX10_many 88 = .ok (.ireturn, 1) := by decide +kernel
theorem dX10_many_89 : decode cX10_many 89 = .ok (.aload_n 0, 1) := by decide +kernel
theorem dX10_many_90 : decode cX10_many 90 = .ok (.aload_n 0, 1) := by decide +kernel
theorem dX10_many_91 : decode cX10_many 91 = .ok (.getfield 439, 3) := by decide +kernel
theorem dX10_many_94 : decode cX10_many 94 = .ok (.invokevirtual 214, 3) := by decide +kernel
theorem dX10_many_97 : decode cX10_many 97 = .ok (.ireturn, 1) := by decide +kernel
theorem dX10_many_98 : decode cX10_many 98 = .ok (.aload_n 0, 1) := by decide +kernel
theorem dX10_many_99 : decode cX10_many 99 = .ok (.aload_n 0, 1) := by decide +kernel
theorem dX10_many_100 : decode cX10_many 100 = .ok (.getfield 442, 3) := by decide +kernel
theorem dX10_many_103 : decode cX10_many 103 = .ok (.invokevirtual 214, 3) := by decide +kernel
theorem dX10_many_106 : decode cX10_many 106 = .ok (.ireturn, 1) := by decide +kernel
theorem dX10_many_107 : decode cX10_many 107 = .ok (.aload_n 0, 1) := by decide +kernel
theorem dX10_many_108 : decode cX10_many 108 = .ok (.iconst 1, 1) := by decide +kernel
theorem dX10_many_109 : decode cX10_many 109 = .ok (.invokevirtual 204, 3) := by decide +kernel
theorem dX10_many_112 : decode cX10_many 112 = .ok (.ireturn, 1) := by decide +kernel
def mwX10_many : List Cond := .code yX10_many cX10_many 2 (some .int) :: ([.code yX10_refuse cX10_refuse 2 (some .int), .fieldLink RX10 104 "PatternGateModel" "status" "I", .methodLink RX10 204 yX10_refuse, .instanceMethod yX10_refuse, .selects RX10 yX10_refuse yX10_refuse, .initialized RX10, .fieldLink RX10 8 "PatternGateModel" "all" "[I", .code yX10_gives cX10_gives 2 (some .int), .methodLink RX10 214 yX10_gives, .instanceMethod yX10_gives, .selects RX10 yX10_gives yX10_gives, .code yX10_allLetters cX10_allLetters 3 (some .int), .methodLink RX10 433 yX10_allLetters, .instanceMethod yX10_allLetters, .selects RX10 yX10_allLetters yX10_allLetters, .code yX10_unlike cX10_unlike 6 (some .int), .fieldLink RX10 95 "PatternGateModel" "came" "[Z", .methodLink RX10 436 yX10_unlike, .instanceMethod yX10_unlike, .selects RX10 yX10_unlike yX10_unlike, .fieldLink RX10 439 "PatternGateModel" "acts" "I", .fieldLink RX10 442 "PatternGateModel" "marks" "I"] ++ wsX100)
theorem fin_X10_many_X10 : ∀ w ∈ wsX100, w ∈ mwX10_many := fun w h => List.mem_cons_of_mem _ (List.mem_append_right _ h)
set_option maxRecDepth 20000 in
theorem mg_X10_many_X10_refuse_204 : GoodIn mwX10_many (wsV RX10 204 RX10 yX10_refuse mwX10_refuse) := goodIn_r _ [3, 4, 5, 6, 1, 2, 23, 24, 25, 26, 27, 28, 29, 30, 31, 32, 33, 34, 35, 36, 37, 38, 39, 40, 41, 42, 43, 44, 45, 46, 47, 48, 49, 50, 51, 52, 53, 54, 55, 56, 57, 58, 59, 60, 61, 62, 63, 64, 65, 66, 67, 68, 69, 70] (by decide +kernel) (by decide +kernel)
set_option maxRecDepth 20000 in
theorem mg_X10_many_X10_gives_214 : GoodIn mwX10_many (wsV RX10 214 RX10 yX10_gives mwX10_gives) := goodIn_r _ [9, 10, 11, 6, 8, 2, 23, 24, 25, 26, 27, 28, 29, 30, 31, 32, 33, 34, 35, 36, 37, 38, 39, 40, 41, 42, 43, 44, 45, 46, 47, 48, 49, 50, 51, 52, 53, 54, 55, 56, 57, 58, 59, 60, 61, 62, 63, 64, 65, 66, 67, 68, 69, 70] (by decide +kernel) (by decide +kernel)
set_option maxRecDepth 20000 in
theorem mg_X10_many_X10_allLetters_433 : GoodIn mwX10_many (wsV RX10 433 RX10 yX10_allLetters mwX10_allLetters) := goodIn_r _ [13, 14, 15, 6, 12, 7, 23, 24, 25, 26, 27, 28, 29, 30, 31, 32, 33, 34, 35, 36, 37, 38, 39, 40, 41, 42, 43, 44, 45, 46, 47, 48, 49, 50, 51, 52, 53, 54, 55, 56, 57, 58, 59, 60, 61, 62, 63, 64, 65, 66, 67, 68, 69, 70] (by decide +kernel) (by decide +kernel)
set_option maxRecDepth 20000 in
theorem mg_X10_many_X10_unlike_436 : GoodIn mwX10_many (wsV RX10 436 RX10 yX10_unlike mwX10_unlike) := goodIn_r _ [18, 19, 20, 6, 16, 17, 23, 24, 25, 26, 27, 28, 29, 30, 31, 32, 33, 34, 35, 36, 37, 38, 39, 40, 41, 42, 43, 44, 45, 46, 47, 48, 49, 50, 51, 52, 53, 54, 55, 56, 57, 58, 59, 60, 61, 62, 63, 64, 65, 66, 67, 68, 69, 70] (by decide +kernel) (by decide +kernel)
set_option maxHeartbeats 4000000 in
set_option maxRecDepth 100000 in
/-- many of the reference, new -/
theorem m_many (l : Launch) (dC : Nat → ClassId) (dI : Nat → Nat → Nat) (y : Nat) (z : Nat → Nat) (mA mT mX mC : ClassId) (sz : Nat) (i0 : Int32) : Met l yX10_many mwX10_many ({ frames := 2, cells := 0, slots := 0, locals := 120 }) (va_Pc [.ref y, .int i0] (fun U => U.heap.size = sz ∧ va_P (dC, dI) vwCl (mW y z mA mT mX mC) U.heap ∧ va_K (dC, dI) vwCl (mT9 mA mT mX mC) U ∧ va_D (fun _ => True) (mW y z mA mT mX mC))) (va_Qi (fun (o : Int32) (_ : Unit) => o = s_many i0) (fun _ _ => True) (va_A (mW y z mA mT mX mC) sz)) 0 0 (va_A (mW y z mA mT mX mC) sz) := by
  refine Met.ofW (cc := cX10_many) (maxL := 2) (ret := (some .int)) (by decide +kernel) rfl ?_
  intro p e s m args below meth c s₁ B hml hv
  obtain ⟨rfl, hsz, hP, hK, hD0⟩ := hv
  have hx := B.exec
  have hb := B.bytes
  have hr := B.returns
  have hts := atoms_spec (ws := mwX10_many) B.pre
  have hown : s.vm.findClass RX10 = some m.cls := findClass_of_methodNamed B.named
  have hlocks := B.notSynchronized
  subst hsz
  have hD := hD0.self (sz := s.heap.size)
  generalize hAe : va_A (mW y z mA mT mX mC) s.heap.size = A at hD ⊢
  have hA : ∀ q : Nat, s.heap.size ≤ q → A q := fun q h => by rw [← hAe]; exact Or.inr h
  have hP : va_P (dC, dI) vwCl [(y, .inr (10, mF z 0 0 0 0 0 0 0 0 0 (-1) (-1))), (z 0, .inl (mA, 101660, .inl (fun _ => 0))), (z 1, .inl (mT, 900, .inl (fun _ => 0))), (z 2, .inl (mX, 900, .inl (fun _ => 0))), (z 23, .inl (mC, 17576, .inl (fun _ => 0)))] s.heap := hP
  have hD : va_D A [(y, .inr (10, mF z 0 0 0 0 0 0 0 0 0 (-1) (-1))), (z 0, .inl (mA, 101660, .inl (fun _ => 0))), (z 1, .inl (mT, 900, .inl (fun _ => 0))), (z 2, .inl (mX, 900, .inl (fun _ => 0))), (z 23, .inl (mC, 17576, .inl (fun _ => 0)))] := hD
  have hK : va_K (dC, dI) vwCl [(mA, .int), (mT, .byte), (mX, .byte), (mC, .boolean)] s := hK
  generalize hH : s.heap = H at hP ⊢
  have hS : va_S A s.heap H [] := by rw [← hH]; exact va_S.rf
  have hl := lv_entry ([.ref y, .int i0]) (n := 2) (Nat.le_of_ble_eq_true rfl)
  rw [lg_entry_eq]
  generalize (lg_sl ([.ref y, .int i0]) ++ List.replicate (2 - (lg_sl ([.ref y, .int i0])).length) Slot.unset).toArray = ls at hl ⊢
  have hl : lv_has ls 2 [(0, .ref y), (1, .int i0)] := hl
  refine lv_iload_n hx hb dX10_many_0 rfl (lv_at hl 1 rfl) ?_
  by_cases hA1 : i0.toInt < 0 ∨ 5 < i0.toInt
  · refine lv_tableOut (tgt := 107) hx hb dX10_many_1 hA1 (by decide) ?_
    refine lv_aload_n hx hb dX10_many_107 rfl (lv_at hl 0 rfl) ?_
    refine lv_iconst (v := 1) hx hb dX10_many_108 (by decide) ?_
    have hPc := hP.sub (ws' := [(y, .inr (10, mF z 0 0 0 0 0 0 0 0 0 (-1) (-1)))]) [0] rfl
    have hKc := hK.sub (tys' := []) [] rfl
    have hDc := hD.sub (ws' := [(y, .inr (10, mF z 0 0 0 0 0 0 0 0 0 (-1) (-1)))]) [0] (by decide) rfl
    have hFc := va_free (wc := [(y, .inr (10, mF z 0 0 0 0 0 0 0 0 0 (-1) (-1)))]) hD hS hA [0] rfl
    refine va_calli (va_runV (As := [.int 1]) (rest := []) ⟨hx, hb, hml, hown, hts⟩ (m_refuse l dC dI y z 0 0 0 0 0 0 0 0 0 (-1) (-1) H.size 1) (cwV 1 hts mg_X10_many_X10_refuse_204 rfl rfl rfl (by decide +kernel) ⟨Nat.le_of_ble_eq_true rfl, Nat.le_of_ble_eq_true rfl⟩) ⟨fun a U g mk q => by obtain ⟨q0, q1, qP, qK, qD⟩ := q; exact ⟨q0, q1, qP, va_K.moved (u := U) (U := U.calling g mk a) (Vm.Alike.refl U.vm) qK, qD⟩, va_recv hKc hPc (ci := 10) (q0 := 0) rfl rfl, fun U hU hW => ⟨rfl, by rw [hU], by rw [hU]; exact hPc, va_K.moved hW.alike hKc, hDc.weaken (fun _ _ _ _ => trivial)⟩⟩ rfl rfl hl.1 rfl (lv_room (Nat.le_of_ble_eq_true rfl)) dX10_many_109 ⟨Nat.le_of_ble_eq_true rfl, Nat.le_of_ble_eq_true rfl⟩) hS (fun q _ h => hFc q h) hFc (fun r_2 u t H1 locs ht hvm hw hB hz1 hk1 hS => ?_)
    exact W.iret hx hb hr (fun t ht hW => ⟨⟨_, (), rfl, (hw.trans (if_pos hA1).symm), trivial⟩, hS.F ht⟩) hS.2.2 dX10_many_112
  · have hA2 : ¬ i0.toInt < 0 := fun h => hA1 (Or.inl h)
    have hA3 : ¬ 5 < i0.toInt := fun h => hA1 (Or.inr h)
    rcases (show i0.toInt = 0 ∨ i0.toInt = 1 ∨ i0.toInt = 2 ∨ i0.toInt = 3 ∨ i0.toInt = 4 ∨ i0.toInt = 5 by omega) with hA4 | hA4 | hA4 | hA4 | hA4 | hA4
    · refine lv_tableIn (off := 39) (tgt := 40) hx hb dX10_many_1 hA2 hA3 (by rw [hA4]; rfl) (by decide) ?_
      refine lv_aload_n hx hb dX10_many_40 rfl (lv_at hl 0 rfl) ?_
      refine lv_aload_n hx hb dX10_many_41 rfl (lv_at hl 0 rfl) ?_
      refine va_get (D := (dC, dI)) (ci := 10) (v := .ref (z 0)) (C := RX10) (T := TX10) (N := 48) hx hb hts fin_X10_many_X10 hown hK hP 0 rfl rfl 0 (by decide) (hts (.fieldLink RX10 8 "PatternGateModel" "all" "[I") (List.mem_of_getElem? (i := 7) (by decide +kernel))) (fun _ h9 => h9) rfl dX10_many_42 ?_
      refine lv_iconst (v := 0) hx hb dX10_many_45 (by decide) ?_
      refine va_iald hx hb hK hP 1 0 rfl rfl (i := 0) (by unfold vp_in; decide +kernel) dX10_many_46 ?_
      refine lv_topi (fun y_3 ey_3 => ?_)
      obtain rfl : y_3 = 0 := ey_3.trans (by first | rfl | decide)
      have hPc := hP.sub (ws' := [(y, .inr (10, mF z 0 0 0 0 0 0 0 0 0 (-1) (-1)))]) [0] rfl
      have hKc := hK.sub (tys' := []) [] rfl
      have hDc := hD.sub (ws' := [(y, .inr (10, mF z 0 0 0 0 0 0 0 0 0 (-1) (-1)))]) [0] (by decide) rfl
      have hFc := va_free (wc := [(y, .inr (10, mF z 0 0 0 0 0 0 0 0 0 (-1) (-1)))]) hD hS hA [0] rfl
      refine va_calli (va_runV (As := [.int 0]) (rest := []) ⟨hx, hb, hml, hown, hts⟩ (m_gives l dC dI y z 0 0 0 0 0 0 0 0 0 (-1) (-1) H.size 0) (cwV 1 hts mg_X10_many_X10_gives_214 rfl rfl rfl (by decide +kernel) ⟨Nat.le_of_ble_eq_true rfl, Nat.le_of_ble_eq_true rfl⟩) ⟨fun a U g mk q => by obtain ⟨q0, q1, qP, qK, qD⟩ := q; exact ⟨q0, q1, qP, va_K.moved (u := U) (U := U.calling g mk a) (Vm.Alike.refl U.vm) qK, qD⟩, va_recv hKc hPc (ci := 10) (q0 := 0) rfl rfl, fun U hU hW => ⟨rfl, by rw [hU], by rw [hU]; exact hPc, va_K.moved hW.alike hKc, hDc.weaken (fun _ _ _ _ => trivial)⟩⟩ rfl rfl hl.1 rfl (lv_room (Nat.le_of_ble_eq_true rfl)) dX10_many_47 ⟨Nat.le_of_ble_eq_true rfl, Nat.le_of_ble_eq_true rfl⟩) hS (fun q _ h => hFc q h) hFc (fun r_5 u t H1 locs ht hvm hw hB hz1 hk1 hS => ?_)
      exact W.iret hx hb hr (fun t ht hW => ⟨⟨_, (), rfl, (hw.trans (if_neg hA1).symm), trivial⟩, hS.F ht⟩) hS.2.2 dX10_many_50
    · refine lv_tableIn (off := 50) (tgt := 51) hx hb dX10_many_1 hA2 hA3 (by rw [hA4]; rfl) (by decide) ?_
      refine lv_aload_n hx hb dX10_many_51 rfl (lv_at hl 0 rfl) ?_
      refine lv_aload_n hx hb dX10_many_52 rfl (lv_at hl 0 rfl) ?_
      refine va_get (D := (dC, dI)) (ci := 10) (v := .ref (z 0)) (C := RX10) (T := TX10) (N := 48) hx hb hts fin_X10_many_X10 hown hK hP 0 rfl rfl 0 (by decide) (hts (.fieldLink RX10 8 "PatternGateModel" "all" "[I") (List.mem_of_getElem? (i := 7) (by decide +kernel))) (fun _ h9 => h9) rfl dX10_many_53 ?_
      refine lv_sipush (v := 611) hx hb dX10_many_56 (by decide) ?_
      refine va_iald hx hb hK hP 1 0 rfl rfl (i := 611) (by unfold vp_in; decide +kernel) dX10_many_59 ?_
      refine lv_topi (fun y_6 ey_6 => ?_)
      obtain rfl : y_6 = 0 := ey_6.trans (by first | rfl | decide)
      have hPc := hP.sub (ws' := [(y, .inr (10, mF z 0 0 0 0 0 0 0 0 0 (-1) (-1)))]) [0] rfl
      have hKc := hK.sub (tys' := []) [] rfl
      have hDc := hD.sub (ws' := [(y, .inr (10, mF z 0 0 0 0 0 0 0 0 0 (-1) (-1)))]) [0] (by decide) rfl
      have hFc := va_free (wc := [(y, .inr (10, mF z 0 0 0 0 0 0 0 0 0 (-1) (-1)))]) hD hS hA [0] rfl
      refine va_calli (va_runV (As := [.int 0]) (rest := []) ⟨hx, hb, hml, hown, hts⟩ (m_gives l dC dI y z 0 0 0 0 0 0 0 0 0 (-1) (-1) H.size 0) (cwV 1 hts mg_X10_many_X10_gives_214 rfl rfl rfl (by decide +kernel) ⟨Nat.le_of_ble_eq_true rfl, Nat.le_of_ble_eq_true rfl⟩) ⟨fun a U g mk q => by obtain ⟨q0, q1, qP, qK, qD⟩ := q; exact ⟨q0, q1, qP, va_K.moved (u := U) (U := U.calling g mk a) (Vm.Alike.refl U.vm) qK, qD⟩, va_recv hKc hPc (ci := 10) (q0 := 0) rfl rfl, fun U hU hW => ⟨rfl, by rw [hU], by rw [hU]; exact hPc, va_K.moved hW.alike hKc, hDc.weaken (fun _ _ _ _ => trivial)⟩⟩ rfl rfl hl.1 rfl (lv_room (Nat.le_of_ble_eq_true rfl)) dX10_many_60 ⟨Nat.le_of_ble_eq_true rfl, Nat.le_of_ble_eq_true rfl⟩) hS (fun q _ h => hFc q h) hFc (fun r_8 u t H1 locs ht hvm hw hB hz1 hk1 hS => ?_)
      exact W.iret hx hb hr (fun t ht hW => ⟨⟨_, (), rfl, (hw.trans (if_neg hA1).symm), trivial⟩, hS.F ht⟩) hS.2.2 dX10_many_63
    · refine lv_tableIn (off := 63) (tgt := 64) hx hb dX10_many_1 hA2 hA3 (by rw [hA4]; rfl) (by decide) ?_
      refine lv_aload_n hx hb dX10_many_64 rfl (lv_at hl 0 rfl) ?_
      refine lv_aload_n hx hb dX10_many_65 rfl (lv_at hl 0 rfl) ?_
      have hPc := hP.sub (ws' := [(y, .inr (10, mF z 0 0 0 0 0 0 0 0 0 (-1) (-1))), (z 0, .inl (mA, 101660, .inl (fun _ => 0)))]) [0, 1] rfl
      have hKc := hK.sub (tys' := [(mA, .int)]) [0] rfl
      refine vp_callSi (W.runV (As := []) (rest := [.ref y]) ⟨hx, hb, hml, hown, hts⟩ (m_allLetters l dC dI y z 0 0 0 0 0 0 0 0 0 (-1) (-1) mA) (cwV 0 hts mg_X10_many_X10_allLetters_433 rfl rfl rfl (by decide +kernel) ⟨Nat.le_of_ble_eq_true rfl, Nat.le_of_ble_eq_true rfl⟩) ⟨fun a U g mk q => by obtain ⟨q0, qP, qK⟩ := q; exact ⟨q0, qP, va_K.moved (u := U) (U := U.calling g mk a) (Vm.Alike.refl U.vm) qK⟩, va_recv hKc hPc (ci := 10) (q0 := 0) rfl rfl, fun U hU hW => ⟨rfl, by rw [hU]; exact hPc, va_K.moved hW.alike hKc⟩⟩ rfl rfl hl.1 rfl (lv_room (Nat.le_of_ble_eq_true rfl)) dX10_many_66 ⟨Nat.le_of_ble_eq_true rfl, Nat.le_of_ble_eq_true rfl⟩) (fun r_10 hw => ?_)
      subst hw
      have hPc := hP.sub (ws' := [(y, .inr (10, mF z 0 0 0 0 0 0 0 0 0 (-1) (-1)))]) [0] rfl
      have hKc := hK.sub (tys' := []) [] rfl
      have hDc := hD.sub (ws' := [(y, .inr (10, mF z 0 0 0 0 0 0 0 0 0 (-1) (-1)))]) [0] (by decide) rfl
      have hFc := va_free (wc := [(y, .inr (10, mF z 0 0 0 0 0 0 0 0 0 (-1) (-1)))]) hD hS hA [0] rfl
      refine va_calli (va_runV (As := [.int 0]) (rest := []) ⟨hx, hb, hml, hown, hts⟩ (m_gives l dC dI y z 0 0 0 0 0 0 0 0 0 (-1) (-1) H.size 0) (cwV 1 hts mg_X10_many_X10_gives_214 rfl rfl rfl (by decide +kernel) ⟨Nat.le_of_ble_eq_true rfl, Nat.le_of_ble_eq_true rfl⟩) ⟨fun a U g mk q => by obtain ⟨q0, q1, qP, qK, qD⟩ := q; exact ⟨q0, q1, qP, va_K.moved (u := U) (U := U.calling g mk a) (Vm.Alike.refl U.vm) qK, qD⟩, va_recv hKc hPc (ci := 10) (q0 := 0) rfl rfl, fun U hU hW => ⟨rfl, by rw [hU], by rw [hU]; exact hPc, va_K.moved hW.alike hKc, hDc.weaken (fun _ _ _ _ => trivial)⟩⟩ rfl rfl hl.1 rfl (lv_room (Nat.le_of_ble_eq_true rfl)) dX10_many_69 ⟨Nat.le_of_ble_eq_true rfl, Nat.le_of_ble_eq_true rfl⟩) hS (fun q _ h => hFc q h) hFc (fun r_12 u t H1 locs ht hvm hw hB hz1 hk1 hS => ?_)
      exact W.iret hx hb hr (fun t ht hW => ⟨⟨_, (), rfl, (hw.trans (if_neg hA1).symm), trivial⟩, hS.F ht⟩) hS.2.2 dX10_many_72
    · refine lv_tableIn (off := 72) (tgt := 73) hx hb dX10_many_1 hA2 hA3 (by rw [hA4]; rfl) (by decide) ?_
      refine lv_aload_n hx hb dX10_many_73 rfl (lv_at hl 0 rfl) ?_
      refine lv_aload_n hx hb dX10_many_74 rfl (lv_at hl 0 rfl) ?_
      refine lv_iconst (v := 0) hx hb dX10_many_75 (by decide) ?_
      refine lv_aload_n hx hb dX10_many_76 rfl (lv_at hl 0 rfl) ?_
      refine va_get (D := (dC, dI)) (ci := 10) (v := .ref (z 0)) (C := RX10) (T := TX10) (N := 48) hx hb hts fin_X10_many_X10 hown hK hP 0 rfl rfl 0 (by decide) (hts (.fieldLink RX10 8 "PatternGateModel" "all" "[I") (List.mem_of_getElem? (i := 7) (by decide +kernel))) (fun _ h9 => h9) rfl dX10_many_77 ?_
      refine lv_iconst (v := 0) hx hb dX10_many_80 (by decide) ?_
      refine va_iald hx hb hK hP 1 0 rfl rfl (i := 0) (by unfold vp_in; decide +kernel) dX10_many_81 ?_
      refine lv_topi (fun y_13 ey_13 => ?_)
      obtain rfl : y_13 = 0 := ey_13.trans (by first | rfl | decide)
      have hPc := hP.sub (ws' := [(y, .inr (10, mF z 0 0 0 0 0 0 0 0 0 (-1) (-1))), (z 23, .inl (mC, 17576, .inl (fun _ => 0)))]) [0, 4] rfl
      have hKc := hK.sub (tys' := [(mC, .boolean)]) [3] rfl
      have hDc := hD.sub (ws' := [(y, .inr (10, mF z 0 0 0 0 0 0 0 0 0 (-1) (-1))), (z 23, .inl (mC, 17576, .inl (fun _ => 0)))]) [0, 4] (by decide) rfl
      have hFc := va_free (wc := [(y, .inr (10, mF z 0 0 0 0 0 0 0 0 0 (-1) (-1))), (z 23, .inl (mC, 17576, .inl (fun _ => 0)))]) hD hS hA [0, 4] rfl
      refine va_calli (va_runV (As := [.int 0, .int 0]) (rest := [.ref y]) ⟨hx, hb, hml, hown, hts⟩ (m_unlike l dC dI y z 0 0 0 0 0 0 0 0 0 (-1) (-1) mC H.size) (cwV 2 hts mg_X10_many_X10_unlike_436 rfl rfl rfl (by decide +kernel) ⟨Nat.le_of_ble_eq_true rfl, Nat.le_of_ble_eq_true rfl⟩) ⟨fun a U g mk q => by obtain ⟨q0, q1, qP, qK, qD⟩ := q; exact ⟨q0, q1, qP, va_K.moved (u := U) (U := U.calling g mk a) (Vm.Alike.refl U.vm) qK, qD⟩, va_recv hKc hPc (ci := 10) (q0 := 0) rfl rfl, fun U hU hW => ⟨rfl, by rw [hU], by rw [hU]; exact hPc, va_K.moved hW.alike hKc, hDc.weaken (fun _ _ _ _ => trivial)⟩⟩ rfl rfl hl.1 rfl (lv_room (Nat.le_of_ble_eq_true rfl)) dX10_many_82 ⟨Nat.le_of_ble_eq_true rfl, Nat.le_of_ble_eq_true rfl⟩) hS (fun q _ h => hFc q h) hFc (fun r_15 u t H1 locs ht hvm hw hB hz1 hk1 hS => ?_)
      obtain ⟨hP1, hK1, hD1⟩ := hB
      rw [ht] at hP1
      subst hw
      obtain ⟨hP, hD⟩ := va_join (wr := [(z 0, .inl (mA, 101660, .inl (fun _ => 0))), (z 1, .inl (mT, 900, .inl (fun _ => 0))), (z 2, .inl (mX, 900, .inl (fun _ => 0)))]) (w1 := [(y, .inr (10, mF z 0 0 0 0 0 0 0 0 0 (-1) (-1))), (z 23, .inl (mC, 17576, .inl (fun _ => 0)))]) hP hD [0, 4] [1, 2, 3] rfl rfl (by decide) (by decide) hk1 hFc hP1 hD1
      generalize H1 = H at hP hS ⊢
      have hP : va_P (dC, dI) vwCl [(z 0, .inl (mA, 101660, .inl (fun _ => 0))), (z 1, .inl (mT, 900, .inl (fun _ => 0))), (z 2, .inl (mX, 900, .inl (fun _ => 0))), (y, .inr (10, mF z 0 0 0 0 0 0 0 0 0 (-1) (-1))), (z 23, .inl (mC, 17576, .inl (fun _ => 0)))] H := hP
      have hD : va_D A [(z 0, .inl (mA, 101660, .inl (fun _ => 0))), (z 1, .inl (mT, 900, .inl (fun _ => 0))), (z 2, .inl (mX, 900, .inl (fun _ => 0))), (y, .inr (10, mF z 0 0 0 0 0 0 0 0 0 (-1) (-1))), (z 23, .inl (mC, 17576, .inl (fun _ => 0)))] := hD
      have hPc := hP.sub (ws' := [(y, .inr (10, mF z 0 0 0 0 0 0 0 0 0 (-1) (-1)))]) [3] rfl
      have hKc := hK.sub (tys' := []) [] rfl
      have hDc := hD.sub (ws' := [(y, .inr (10, mF z 0 0 0 0 0 0 0 0 0 (-1) (-1)))]) [3] (by decide) rfl
      have hFc := va_free (wc := [(y, .inr (10, mF z 0 0 0 0 0 0 0 0 0 (-1) (-1)))]) hD hS hA [3] rfl
      refine va_calli (va_runV (As := [.int 0]) (rest := []) ⟨hx, hb, hml, hown, hts⟩ (m_gives l dC dI y z 0 0 0 0 0 0 0 0 0 (-1) (-1) H.size 0) (cwV 1 hts mg_X10_many_X10_gives_214 rfl rfl rfl (by decide +kernel) ⟨Nat.le_of_ble_eq_true rfl, Nat.le_of_ble_eq_true rfl⟩) ⟨fun a U g mk q => by obtain ⟨q0, q1, qP, qK, qD⟩ := q; exact ⟨q0, q1, qP, va_K.moved (u := U) (U := U.calling g mk a) (Vm.Alike.refl U.vm) qK, qD⟩, va_recv hKc hPc (ci := 10) (q0 := 0) rfl rfl, fun U hU hW => ⟨rfl, by rw [hU], by rw [hU]; exact hPc, va_K.moved hW.alike hKc, hDc.weaken (fun _ _ _ _ => trivial)⟩⟩ rfl rfl hl.1 rfl (lv_room (Nat.le_of_ble_eq_true rfl)) dX10_many_85 ⟨Nat.le_of_ble_eq_true rfl, Nat.le_of_ble_eq_true rfl⟩) hS (fun q _ h => hFc q h) hFc (fun r_17 u t H1 locs ht hvm hw hB hz1 hk1 hS => ?_)
      exact W.iret hx hb hr (fun t ht hW => ⟨⟨_, (), rfl, (hw.trans (if_neg hA1).symm), trivial⟩, hS.F ht⟩) hS.2.2 dX10_many_88
    · refine lv_tableIn (off := 88) (tgt := 89) hx hb dX10_many_1 hA2 hA3 (by rw [hA4]; rfl) (by decide) ?_
      refine lv_aload_n hx hb dX10_many_89 rfl (lv_at hl 0 rfl) ?_
      refine lv_aload_n hx hb dX10_many_90 rfl (lv_at hl 0 rfl) ?_
      refine va_get (D := (dC, dI)) (ci := 10) (v := .int 0) (C := RX10) (T := TX10) (N := 48) hx hb hts fin_X10_many_X10 hown hK hP 0 rfl rfl 2 (by decide) (hts (.fieldLink RX10 439 "PatternGateModel" "acts" "I") (List.mem_of_getElem? (i := 21) (by decide +kernel))) (fun _ h9 => h9) rfl dX10_many_91 ?_
      have hPc := hP.sub (ws' := [(y, .inr (10, mF z 0 0 0 0 0 0 0 0 0 (-1) (-1)))]) [0] rfl
      have hKc := hK.sub (tys' := []) [] rfl
      have hDc := hD.sub (ws' := [(y, .inr (10, mF z 0 0 0 0 0 0 0 0 0 (-1) (-1)))]) [0] (by decide) rfl
      have hFc := va_free (wc := [(y, .inr (10, mF z 0 0 0 0 0 0 0 0 0 (-1) (-1)))]) hD hS hA [0] rfl
      refine va_calli (va_runV (As := [.int 0]) (rest := []) ⟨hx, hb, hml, hown, hts⟩ (m_gives l dC dI y z 0 0 0 0 0 0 0 0 0 (-1) (-1) H.size 0) (cwV 1 hts mg_X10_many_X10_gives_214 rfl rfl rfl (by decide +kernel) ⟨Nat.le_of_ble_eq_true rfl, Nat.le_of_ble_eq_true rfl⟩) ⟨fun a U g mk q => by obtain ⟨q0, q1, qP, qK, qD⟩ := q; exact ⟨q0, q1, qP, va_K.moved (u := U) (U := U.calling g mk a) (Vm.Alike.refl U.vm) qK, qD⟩, va_recv hKc hPc (ci := 10) (q0 := 0) rfl rfl, fun U hU hW => ⟨rfl, by rw [hU], by rw [hU]; exact hPc, va_K.moved hW.alike hKc, hDc.weaken (fun _ _ _ _ => trivial)⟩⟩ rfl rfl hl.1 rfl (lv_room (Nat.le_of_ble_eq_true rfl)) dX10_many_94 ⟨Nat.le_of_ble_eq_true rfl, Nat.le_of_ble_eq_true rfl⟩) hS (fun q _ h => hFc q h) hFc (fun r_19 u t H1 locs ht hvm hw hB hz1 hk1 hS => ?_)
      exact W.iret hx hb hr (fun t ht hW => ⟨⟨_, (), rfl, (hw.trans (if_neg hA1).symm), trivial⟩, hS.F ht⟩) hS.2.2 dX10_many_97
    · refine lv_tableIn (off := 97) (tgt := 98) hx hb dX10_many_1 hA2 hA3 (by rw [hA4]; rfl) (by decide) ?_
      refine lv_aload_n hx hb dX10_many_98 rfl (lv_at hl 0 rfl) ?_
      refine lv_aload_n hx hb dX10_many_99 rfl (lv_at hl 0 rfl) ?_
      refine va_get (D := (dC, dI)) (ci := 10) (v := .int 0) (C := RX10) (T := TX10) (N := 48) hx hb hts fin_X10_many_X10 hown hK hP 0 rfl rfl 3 (by decide) (hts (.fieldLink RX10 442 "PatternGateModel" "marks" "I") (List.mem_of_getElem? (i := 22) (by decide +kernel))) (fun _ h9 => h9) rfl dX10_many_100 ?_
      have hPc := hP.sub (ws' := [(y, .inr (10, mF z 0 0 0 0 0 0 0 0 0 (-1) (-1)))]) [0] rfl
      have hKc := hK.sub (tys' := []) [] rfl
      have hDc := hD.sub (ws' := [(y, .inr (10, mF z 0 0 0 0 0 0 0 0 0 (-1) (-1)))]) [0] (by decide) rfl
      have hFc := va_free (wc := [(y, .inr (10, mF z 0 0 0 0 0 0 0 0 0 (-1) (-1)))]) hD hS hA [0] rfl
      refine va_calli (va_runV (As := [.int 0]) (rest := []) ⟨hx, hb, hml, hown, hts⟩ (m_gives l dC dI y z 0 0 0 0 0 0 0 0 0 (-1) (-1) H.size 0) (cwV 1 hts mg_X10_many_X10_gives_214 rfl rfl rfl (by decide +kernel) ⟨Nat.le_of_ble_eq_true rfl, Nat.le_of_ble_eq_true rfl⟩) ⟨fun a U g mk q => by obtain ⟨q0, q1, qP, qK, qD⟩ := q; exact ⟨q0, q1, qP, va_K.moved (u := U) (U := U.calling g mk a) (Vm.Alike.refl U.vm) qK, qD⟩, va_recv hKc hPc (ci := 10) (q0 := 0) rfl rfl, fun U hU hW => ⟨rfl, by rw [hU], by rw [hU]; exact hPc, va_K.moved hW.alike hKc, hDc.weaken (fun _ _ _ _ => trivial)⟩⟩ rfl rfl hl.1 rfl (lv_room (Nat.le_of_ble_eq_true rfl)) dX10_many_103 ⟨Nat.le_of_ble_eq_true rfl, Nat.le_of_ble_eq_true rfl⟩) hS (fun q _ h => hFc q h) hFc (fun r_21 u t H1 locs ht hvm hw hB hz1 hk1 hS => ?_)
      exact W.iret hx hb hr (fun t ht hW => ⟨⟨_, (), rfl, (hw.trans (if_neg hA1).symm), trivial⟩, hS.F ht⟩) hS.2.2 dX10_many_106
theorem dX10_feed_0 : decode cX10_feed 0 = .ok (.aload_n 0, 1) := by decide +kernel
theorem dX10_feed_1 : decode cX10_feed 1 = .ok (.getfield 107, 3) := by decide +kernel
theorem dX10_feed_4 : decode cX10_feed 4 = .ok (.sipush 880, 3) := by decide +kernel
theorem dX10_feed_7 : decode cX10_feed 7 = .ok (.if_icmp .le 5, 3) := by decide +kernel
theorem dX10_feed_12 : decode cX10_feed 12 = .ok (.aload_n 0, 1) := by decide +kernel
theorem dX10_feed_13 : decode cX10_feed 13 = .ok (.iload_n 1, 1) := by decide +kernel
theorem dX10_feed_14 : decode cX10_feed 14 = .ok (.invokevirtual 110, 3) := by decide +kernel
theorem dX10_feed_17 : decode cX10_feed 17 = .ok (.aload_n 0, 1) := by decide +kernel
theorem dX10_feed_18 : decode cX10_feed 18 = .ok (.iload_n 2, 1) := by decide +kernel
theorem dX10_feed_19 : decode cX10_feed 19 = .ok (.invokevirtual 110, 3) := by decide +kernel
theorem dX10_feed_22 : decode cX10_feed 22 = .ok (.aload_n 0, 1) := by decide +kernel
theorem dX10_feed_23 : decode cX10_feed 23 = .ok (.iload_n 3, 1) := by decide +kernel
theorem dX10_feed_24 : decode cX10_feed 24 = .ok (.invokevirtual 110, 3) := by decide +kernel
theorem dX10_feed_27 : decode cX10_feed 27 = .ok (.aload_n 0, 1) := by decide +kernel
theorem dX10_feed_28 : decode cX10_feed 28 = .ok (.iload 4, 2) := by decide +kernel
theorem dX10_feed_30 : decode cX10_feed 30 = .ok (.invokevirtual 110, 3) := by decide +kernel
theorem dX10_feed_33 : decode cX10_feed 33 = .ok (.aload_n 0, 1) := by decide +kernel
theorem dX10_feed_34 : decode cX10_feed 34 = .ok (.iload 5, 2) := by decide +kernel
theorem dX10_feed_36 : decode cX10_feed 36 = .ok (.invokevirtual 110, 3) := by decide +kernel
theorem dX10_feed_39 : decode cX10_feed 39 = .ok (.aload_n 0, 1) := by decide +kernel
theorem dX10_feed_40 : decode cX10_feed 40 = .ok (.getfield 107, 3) := by decide +kernel
theorem dX10_feed_43 : decode cX10_feed 43 = .ok (.ireturn, 1) := by decide +kernel
def mwX10_feed : List Cond := .code yX10_feed cX10_feed 6 (some .int) :: ([.fieldLink RX10 107 "PatternGateModel" "taped" "I", .code yX10_four cX10_four 3 none, .fieldLink RX10 14 "PatternGateModel" "tape" "[B", .methodLink RX10 110 yX10_four, .instanceMethod yX10_four, .selects RX10 yX10_four yX10_four, .initialized RX10] ++ wsX100)
theorem fin_X10_feed_X10 : ∀ w ∈ wsX100, w ∈ mwX10_feed := fun w h => List.mem_cons_of_mem _ (List.mem_append_right _ h)
set_option maxRecDepth 20000 in
theorem mg_X10_feed_X10_four_110 : GoodIn mwX10_feed (wsV RX10 110 RX10 yX10_four mwX10_four) := goodIn_r _ [4, 5, 6, 7, 2, 3, 1, 8, 9, 10, 11, 12, 13, 14, 15, 16, 17, 18, 19, 20, 21, 22, 23, 24, 25, 26, 27, 28, 29, 30, 31, 32, 33, 34, 35, 36, 37, 38, 39, 40, 41, 42, 43, 44, 45, 46, 47, 48, 49, 50, 51, 52, 53, 54, 55] (by decide +kernel) (by decide +kernel)
set_option maxHeartbeats 4000000 in
set_option maxRecDepth 100000 in
/-- feed of the reference, new -/
theorem m_feed (l : Launch) (dC : Nat → ClassId) (dI : Nat → Nat → Nat) (y : Nat) (z : Nat → Nat) (mA mT mX mC : ClassId) (sz : Nat) (i0 i1 i2 i3 i4 : Int32) : Met l yX10_feed mwX10_feed ({ frames := 2, cells := 0, slots := 0, locals := 120 }) (va_Pc [.ref y, .int i0, .int i1, .int i2, .int i3, .int i4] (fun U => U.heap.size = sz ∧ va_P (dC, dI) vwCl (mW y z mA mT mX mC) U.heap ∧ va_K (dC, dI) vwCl (mT9 mA mT mX mC) U ∧ va_D (fun _ => True) (mW y z mA mT mX mC))) (va_Qi (fun (o : Int32) (_ : Unit) => o = 20) (fun _ _ => True) (va_A (mW y z mA mT mX mC) sz)) 0 0 (va_A (mW y z mA mT mX mC) sz) := by
  refine Met.ofW (cc := cX10_feed) (maxL := 6) (ret := (some .int)) (by decide +kernel) rfl ?_
  intro p e s m args below meth c s₁ B hml hv
  obtain ⟨rfl, hsz, hP, hK, hD0⟩ := hv
  have hx := B.exec
  have hb := B.bytes
  have hr := B.returns
  have hts := atoms_spec (ws := mwX10_feed) B.pre
  have hown : s.vm.findClass RX10 = some m.cls := findClass_of_methodNamed B.named
  have hlocks := B.notSynchronized
  subst hsz
  have hD := hD0.self (sz := s.heap.size)
  generalize hAe : va_A (mW y z mA mT mX mC) s.heap.size = A at hD ⊢
  have hA : ∀ q : Nat, s.heap.size ≤ q → A q := fun q h => by rw [← hAe]; exact Or.inr h
  have hP : va_P (dC, dI) vwCl [(y, .inr (10, mF z 0 0 0 0 0 0 0 0 0 (-1) (-1))), (z 0, .inl (mA, 101660, .inl (fun _ => 0))), (z 1, .inl (mT, 900, .inl (fun _ => 0))), (z 2, .inl (mX, 900, .inl (fun _ => 0))), (z 23, .inl (mC, 17576, .inl (fun _ => 0)))] s.heap := hP
  have hD : va_D A [(y, .inr (10, mF z 0 0 0 0 0 0 0 0 0 (-1) (-1))), (z 0, .inl (mA, 101660, .inl (fun _ => 0))), (z 1, .inl (mT, 900, .inl (fun _ => 0))), (z 2, .inl (mX, 900, .inl (fun _ => 0))), (z 23, .inl (mC, 17576, .inl (fun _ => 0)))] := hD
  have hK : va_K (dC, dI) vwCl [(mA, .int), (mT, .byte), (mX, .byte), (mC, .boolean)] s := hK
  generalize hH : s.heap = H at hP ⊢
  have hS : va_S A s.heap H [] := by rw [← hH]; exact va_S.rf
  have hl := lv_entry ([.ref y, .int i0, .int i1, .int i2, .int i3, .int i4]) (n := 6) (Nat.le_of_ble_eq_true rfl)
  rw [lg_entry_eq]
  generalize (lg_sl ([.ref y, .int i0, .int i1, .int i2, .int i3, .int i4]) ++ List.replicate (6 - (lg_sl ([.ref y, .int i0, .int i1, .int i2, .int i3, .int i4])).length) Slot.unset).toArray = ls at hl ⊢
  have hl : lv_has ls 6 [(0, .ref y), (1, .int i0), (2, .int i1), (3, .int i2), (4, .int i3), (5, .int i4)] := hl
  refine lv_aload_n hx hb dX10_feed_0 rfl (lv_at hl 0 rfl) ?_
  refine va_get (D := (dC, dI)) (ci := 10) (v := .int 0) (C := RX10) (T := TX10) (N := 48) hx hb hts fin_X10_feed_X10 hown hK hP 0 rfl rfl 6 (by decide) (hts (.fieldLink RX10 107 "PatternGateModel" "taped" "I") (List.mem_of_getElem? (i := 1) (by decide +kernel))) (fun _ h9 => h9) rfl dX10_feed_1 ?_
  refine lv_sipush (v := 880) hx hb dX10_feed_4 (by decide) ?_
  refine lv_icmp_le (tgt := 12) hx hb dX10_feed_7 (by decide) (fun k_1 => ?_) (fun k_1 => absurd (by decide) k_1)
  refine lv_aload_n hx hb dX10_feed_12 rfl (lv_at hl 0 rfl) ?_
  refine lv_iload_n hx hb dX10_feed_13 rfl (lv_at hl 1 rfl) ?_
  have hPc := hP.sub (ws' := [(y, .inr (10, mF z 0 0 0 0 0 0 0 0 0 (-1) (-1))), (z 1, .inl (mT, 900, .inl (fun _ => 0)))]) [0, 2] rfl
  have hKc := hK.sub (tys' := [(mT, .byte)]) [1] rfl
  have hDc := hD.sub (ws' := [(y, .inr (10, mF z 0 0 0 0 0 0 0 0 0 (-1) (-1))), (z 1, .inl (mT, 900, .inl (fun _ => 0)))]) [0, 2] (by decide) rfl
  have hFc := va_free (wc := [(y, .inr (10, mF z 0 0 0 0 0 0 0 0 0 (-1) (-1))), (z 1, .inl (mT, 900, .inl (fun _ => 0)))]) hD hS hA [0, 2] rfl
  refine va_callv (va_runV (As := [.int i0]) (rest := []) ⟨hx, hb, hml, hown, hts⟩ (m_four l dC dI y z 0 0 0 0 0 0 0 0 (-1) (-1) mT (fun _ => 0) 0 H.size i0 (by decide)) (cwV 1 hts mg_X10_feed_X10_four_110 rfl rfl rfl (by decide +kernel) ⟨Nat.le_of_ble_eq_true rfl, Nat.le_of_ble_eq_true rfl⟩) ⟨fun a U g mk q => by obtain ⟨q0, q1, qP, qK, qD⟩ := q; exact ⟨q0, q1, qP, va_K.moved (u := U) (U := U.calling g mk a) (Vm.Alike.refl U.vm) qK, qD⟩, va_recv hKc hPc (ci := 10) (q0 := 0) rfl rfl, fun U hU hW => ⟨rfl, by rw [hU], by rw [hU]; exact hPc, va_K.moved hW.alike hKc, hDc.weaken (fun _ _ _ _ => trivial)⟩⟩ rfl rfl hl.1 rfl (lv_room (Nat.le_of_ble_eq_true rfl)) dX10_feed_14 ⟨Nat.le_of_ble_eq_true rfl, Nat.le_of_ble_eq_true rfl⟩) hS (fun q _ h => hFc q h) hFc (fun u t H1 locs ht hvm hw hB hz1 hk1 hS => ?_)
  obtain ⟨hP1, hK1, hD1⟩ := hB
  rw [ht] at hP1
  generalize u = f_4 at hP1 hD1
  obtain ⟨hP, hD⟩ := va_join (wr := [(z 0, .inl (mA, 101660, .inl (fun _ => 0))), (z 2, .inl (mX, 900, .inl (fun _ => 0))), (z 23, .inl (mC, 17576, .inl (fun _ => 0)))]) (w1 := [(y, .inr (10, mF z 0 0 0 (nI 4) 0 0 0 0 0 (-1) (-1))), (z 1, .inl (mT, 900, .inl f_4))]) hP hD [0, 2] [1, 3, 4] rfl rfl (by decide) (by decide) hk1 hFc hP1 hD1
  generalize H1 = H at hP hS ⊢
  have hP : va_P (dC, dI) vwCl [(z 0, .inl (mA, 101660, .inl (fun _ => 0))), (z 2, .inl (mX, 900, .inl (fun _ => 0))), (z 23, .inl (mC, 17576, .inl (fun _ => 0))), (y, .inr (10, mF z 0 0 0 (nI 4) 0 0 0 0 0 (-1) (-1))), (z 1, .inl (mT, 900, .inl f_4))] H := hP
  have hD : va_D A [(z 0, .inl (mA, 101660, .inl (fun _ => 0))), (z 2, .inl (mX, 900, .inl (fun _ => 0))), (z 23, .inl (mC, 17576, .inl (fun _ => 0))), (y, .inr (10, mF z 0 0 0 (nI 4) 0 0 0 0 0 (-1) (-1))), (z 1, .inl (mT, 900, .inl f_4))] := hD
  refine lv_aload_n hx hb dX10_feed_17 rfl (lv_at hl 0 rfl) ?_
  refine lv_iload_n hx hb dX10_feed_18 rfl (lv_at hl 2 rfl) ?_
  have hPc := hP.sub (ws' := [(y, .inr (10, mF z 0 0 0 (nI 4) 0 0 0 0 0 (-1) (-1))), (z 1, .inl (mT, 900, .inl f_4))]) [3, 4] rfl
  have hKc := hK.sub (tys' := [(mT, .byte)]) [1] rfl
  have hDc := hD.sub (ws' := [(y, .inr (10, mF z 0 0 0 (nI 4) 0 0 0 0 0 (-1) (-1))), (z 1, .inl (mT, 900, .inl f_4))]) [3, 4] (by decide) rfl
  have hFc := va_free (wc := [(y, .inr (10, mF z 0 0 0 (nI 4) 0 0 0 0 0 (-1) (-1))), (z 1, .inl (mT, 900, .inl f_4))]) hD hS hA [3, 4] rfl
  refine va_callv (va_runV (As := [.int i1]) (rest := []) ⟨hx, hb, hml, hown, hts⟩ (m_four l dC dI y z 0 0 0 0 0 0 0 0 (-1) (-1) mT f_4 4 H.size i1 (by decide)) (cwV 1 hts mg_X10_feed_X10_four_110 rfl rfl rfl (by decide +kernel) ⟨Nat.le_of_ble_eq_true rfl, Nat.le_of_ble_eq_true rfl⟩) ⟨fun a U g mk q => by obtain ⟨q0, q1, qP, qK, qD⟩ := q; exact ⟨q0, q1, qP, va_K.moved (u := U) (U := U.calling g mk a) (Vm.Alike.refl U.vm) qK, qD⟩, va_recv hKc hPc (ci := 10) (q0 := 0) rfl rfl, fun U hU hW => ⟨rfl, by rw [hU], by rw [hU]; exact hPc, va_K.moved hW.alike hKc, hDc.weaken (fun _ _ _ _ => trivial)⟩⟩ rfl rfl hl.1 rfl (lv_room (Nat.le_of_ble_eq_true rfl)) dX10_feed_19 ⟨Nat.le_of_ble_eq_true rfl, Nat.le_of_ble_eq_true rfl⟩) hS (fun q _ h => hFc q h) hFc (fun u t H1 locs ht hvm hw hB hz1 hk1 hS => ?_)
  obtain ⟨hP1, hK1, hD1⟩ := hB
  rw [ht] at hP1
  generalize u = f_7 at hP1 hD1
  obtain ⟨hP, hD⟩ := va_join (wr := [(z 0, .inl (mA, 101660, .inl (fun _ => 0))), (z 2, .inl (mX, 900, .inl (fun _ => 0))), (z 23, .inl (mC, 17576, .inl (fun _ => 0)))]) (w1 := [(y, .inr (10, mF z 0 0 0 (nI 8) 0 0 0 0 0 (-1) (-1))), (z 1, .inl (mT, 900, .inl f_7))]) hP hD [3, 4] [0, 1, 2] rfl rfl (by decide) (by decide) hk1 hFc hP1 hD1
  generalize H1 = H at hP hS ⊢
  have hP : va_P (dC, dI) vwCl [(z 0, .inl (mA, 101660, .inl (fun _ => 0))), (z 2, .inl (mX, 900, .inl (fun _ => 0))), (z 23, .inl (mC, 17576, .inl (fun _ => 0))), (y, .inr (10, mF z 0 0 0 (nI 8) 0 0 0 0 0 (-1) (-1))), (z 1, .inl (mT, 900, .inl f_7))] H := hP
  have hD : va_D A [(z 0, .inl (mA, 101660, .inl (fun _ => 0))), (z 2, .inl (mX, 900, .inl (fun _ => 0))), (z 23, .inl (mC, 17576, .inl (fun _ => 0))), (y, .inr (10, mF z 0 0 0 (nI 8) 0 0 0 0 0 (-1) (-1))), (z 1, .inl (mT, 900, .inl f_7))] := hD
  refine lv_aload_n hx hb dX10_feed_22 rfl (lv_at hl 0 rfl) ?_
  refine lv_iload_n hx hb dX10_feed_23 rfl (lv_at hl 3 rfl) ?_
  have hPc := hP.sub (ws' := [(y, .inr (10, mF z 0 0 0 (nI 8) 0 0 0 0 0 (-1) (-1))), (z 1, .inl (mT, 900, .inl f_7))]) [3, 4] rfl
  have hKc := hK.sub (tys' := [(mT, .byte)]) [1] rfl
  have hDc := hD.sub (ws' := [(y, .inr (10, mF z 0 0 0 (nI 8) 0 0 0 0 0 (-1) (-1))), (z 1, .inl (mT, 900, .inl f_7))]) [3, 4] (by decide) rfl
  have hFc := va_free (wc := [(y, .inr (10, mF z 0 0 0 (nI 8) 0 0 0 0 0 (-1) (-1))), (z 1, .inl (mT, 900, .inl f_7))]) hD hS hA [3, 4] rfl
  refine va_callv (va_runV (As := [.int i2]) (rest := []) ⟨hx, hb, hml, hown, hts⟩ (m_four l dC dI y z 0 0 0 0 0 0 0 0 (-1) (-1) mT f_7 8 H.size i2 (by decide)) (cwV 1 hts mg_X10_feed_X10_four_110 rfl rfl rfl (by decide +kernel) ⟨Nat.le_of_ble_eq_true rfl, Nat.le_of_ble_eq_true rfl⟩) ⟨fun a U g mk q => by obtain ⟨q0, q1, qP, qK, qD⟩ := q; exact ⟨q0, q1, qP, va_K.moved (u := U) (U := U.calling g mk a) (Vm.Alike.refl U.vm) qK, qD⟩, va_recv hKc hPc (ci := 10) (q0 := 0) rfl rfl, fun U hU hW => ⟨rfl, by rw [hU], by rw [hU]; exact hPc, va_K.moved hW.alike hKc, hDc.weaken (fun _ _ _ _ => trivial)⟩⟩ rfl rfl hl.1 rfl (lv_room (Nat.le_of_ble_eq_true rfl)) dX10_feed_24 ⟨Nat.le_of_ble_eq_true rfl, Nat.le_of_ble_eq_true rfl⟩) hS (fun q _ h => hFc q h) hFc (fun u t H1 locs ht hvm hw hB hz1 hk1 hS => ?_)
  obtain ⟨hP1, hK1, hD1⟩ := hB
  rw [ht] at hP1
  generalize u = f_10 at hP1 hD1
  obtain ⟨hP, hD⟩ := va_join (wr := [(z 0, .inl (mA, 101660, .inl (fun _ => 0))), (z 2, .inl (mX, 900, .inl (fun _ => 0))), (z 23, .inl (mC, 17576, .inl (fun _ => 0)))]) (w1 := [(y, .inr (10, mF z 0 0 0 (nI 12) 0 0 0 0 0 (-1) (-1))), (z 1, .inl (mT, 900, .inl f_10))]) hP hD [3, 4] [0, 1, 2] rfl rfl (by decide) (by decide) hk1 hFc hP1 hD1
  generalize H1 = H at hP hS ⊢
  have hP : va_P (dC, dI) vwCl [(z 0, .inl (mA, 101660, .inl (fun _ => 0))), (z 2, .inl (mX, 900, .inl (fun _ => 0))), (z 23, .inl (mC, 17576, .inl (fun _ => 0))), (y, .inr (10, mF z 0 0 0 (nI 12) 0 0 0 0 0 (-1) (-1))), (z 1, .inl (mT, 900, .inl f_10))] H := hP
  have hD : va_D A [(z 0, .inl (mA, 101660, .inl (fun _ => 0))), (z 2, .inl (mX, 900, .inl (fun _ => 0))), (z 23, .inl (mC, 17576, .inl (fun _ => 0))), (y, .inr (10, mF z 0 0 0 (nI 12) 0 0 0 0 0 (-1) (-1))), (z 1, .inl (mT, 900, .inl f_10))] := hD
  refine lv_aload_n hx hb dX10_feed_27 rfl (lv_at hl 0 rfl) ?_
  refine lv_iload hx hb dX10_feed_28 (lv_at hl 4 rfl) ?_
  have hPc := hP.sub (ws' := [(y, .inr (10, mF z 0 0 0 (nI 12) 0 0 0 0 0 (-1) (-1))), (z 1, .inl (mT, 900, .inl f_10))]) [3, 4] rfl
  have hKc := hK.sub (tys' := [(mT, .byte)]) [1] rfl
  have hDc := hD.sub (ws' := [(y, .inr (10, mF z 0 0 0 (nI 12) 0 0 0 0 0 (-1) (-1))), (z 1, .inl (mT, 900, .inl f_10))]) [3, 4] (by decide) rfl
  have hFc := va_free (wc := [(y, .inr (10, mF z 0 0 0 (nI 12) 0 0 0 0 0 (-1) (-1))), (z 1, .inl (mT, 900, .inl f_10))]) hD hS hA [3, 4] rfl
  refine va_callv (va_runV (As := [.int i3]) (rest := []) ⟨hx, hb, hml, hown, hts⟩ (m_four l dC dI y z 0 0 0 0 0 0 0 0 (-1) (-1) mT f_10 12 H.size i3 (by decide)) (cwV 1 hts mg_X10_feed_X10_four_110 rfl rfl rfl (by decide +kernel) ⟨Nat.le_of_ble_eq_true rfl, Nat.le_of_ble_eq_true rfl⟩) ⟨fun a U g mk q => by obtain ⟨q0, q1, qP, qK, qD⟩ := q; exact ⟨q0, q1, qP, va_K.moved (u := U) (U := U.calling g mk a) (Vm.Alike.refl U.vm) qK, qD⟩, va_recv hKc hPc (ci := 10) (q0 := 0) rfl rfl, fun U hU hW => ⟨rfl, by rw [hU], by rw [hU]; exact hPc, va_K.moved hW.alike hKc, hDc.weaken (fun _ _ _ _ => trivial)⟩⟩ rfl rfl hl.1 rfl (lv_room (Nat.le_of_ble_eq_true rfl)) dX10_feed_30 ⟨Nat.le_of_ble_eq_true rfl, Nat.le_of_ble_eq_true rfl⟩) hS (fun q _ h => hFc q h) hFc (fun u t H1 locs ht hvm hw hB hz1 hk1 hS => ?_)
  obtain ⟨hP1, hK1, hD1⟩ := hB
  rw [ht] at hP1
  generalize u = f_13 at hP1 hD1
  obtain ⟨hP, hD⟩ := va_join (wr := [(z 0, .inl (mA, 101660, .inl (fun _ => 0))), (z 2, .inl (mX, 900, .inl (fun _ => 0))), (z 23, .inl (mC, 17576, .inl (fun _ => 0)))]) (w1 := [(y, .inr (10, mF z 0 0 0 (nI 16) 0 0 0 0 0 (-1) (-1))), (z 1, .inl (mT, 900, .inl f_13))]) hP hD [3, 4] [0, 1, 2] rfl rfl (by decide) (by decide) hk1 hFc hP1 hD1
  generalize H1 = H at hP hS ⊢
  have hP : va_P (dC, dI) vwCl [(z 0, .inl (mA, 101660, .inl (fun _ => 0))), (z 2, .inl (mX, 900, .inl (fun _ => 0))), (z 23, .inl (mC, 17576, .inl (fun _ => 0))), (y, .inr (10, mF z 0 0 0 (nI 16) 0 0 0 0 0 (-1) (-1))), (z 1, .inl (mT, 900, .inl f_13))] H := hP
  have hD : va_D A [(z 0, .inl (mA, 101660, .inl (fun _ => 0))), (z 2, .inl (mX, 900, .inl (fun _ => 0))), (z 23, .inl (mC, 17576, .inl (fun _ => 0))), (y, .inr (10, mF z 0 0 0 (nI 16) 0 0 0 0 0 (-1) (-1))), (z 1, .inl (mT, 900, .inl f_13))] := hD
  refine lv_aload_n hx hb dX10_feed_33 rfl (lv_at hl 0 rfl) ?_
  refine lv_iload hx hb dX10_feed_34 (lv_at hl 5 rfl) ?_
  have hPc := hP.sub (ws' := [(y, .inr (10, mF z 0 0 0 (nI 16) 0 0 0 0 0 (-1) (-1))), (z 1, .inl (mT, 900, .inl f_13))]) [3, 4] rfl
  have hKc := hK.sub (tys' := [(mT, .byte)]) [1] rfl
  have hDc := hD.sub (ws' := [(y, .inr (10, mF z 0 0 0 (nI 16) 0 0 0 0 0 (-1) (-1))), (z 1, .inl (mT, 900, .inl f_13))]) [3, 4] (by decide) rfl
  have hFc := va_free (wc := [(y, .inr (10, mF z 0 0 0 (nI 16) 0 0 0 0 0 (-1) (-1))), (z 1, .inl (mT, 900, .inl f_13))]) hD hS hA [3, 4] rfl
  refine va_callv (va_runV (As := [.int i4]) (rest := []) ⟨hx, hb, hml, hown, hts⟩ (m_four l dC dI y z 0 0 0 0 0 0 0 0 (-1) (-1) mT f_13 16 H.size i4 (by decide)) (cwV 1 hts mg_X10_feed_X10_four_110 rfl rfl rfl (by decide +kernel) ⟨Nat.le_of_ble_eq_true rfl, Nat.le_of_ble_eq_true rfl⟩) ⟨fun a U g mk q => by obtain ⟨q0, q1, qP, qK, qD⟩ := q; exact ⟨q0, q1, qP, va_K.moved (u := U) (U := U.calling g mk a) (Vm.Alike.refl U.vm) qK, qD⟩, va_recv hKc hPc (ci := 10) (q0 := 0) rfl rfl, fun U hU hW => ⟨rfl, by rw [hU], by rw [hU]; exact hPc, va_K.moved hW.alike hKc, hDc.weaken (fun _ _ _ _ => trivial)⟩⟩ rfl rfl hl.1 rfl (lv_room (Nat.le_of_ble_eq_true rfl)) dX10_feed_36 ⟨Nat.le_of_ble_eq_true rfl, Nat.le_of_ble_eq_true rfl⟩) hS (fun q _ h => hFc q h) hFc (fun u t H1 locs ht hvm hw hB hz1 hk1 hS => ?_)
  obtain ⟨hP1, hK1, hD1⟩ := hB
  rw [ht] at hP1
  generalize u = f_16 at hP1 hD1
  obtain ⟨hP, hD⟩ := va_join (wr := [(z 0, .inl (mA, 101660, .inl (fun _ => 0))), (z 2, .inl (mX, 900, .inl (fun _ => 0))), (z 23, .inl (mC, 17576, .inl (fun _ => 0)))]) (w1 := [(y, .inr (10, mF z 0 0 0 (nI 20) 0 0 0 0 0 (-1) (-1))), (z 1, .inl (mT, 900, .inl f_16))]) hP hD [3, 4] [0, 1, 2] rfl rfl (by decide) (by decide) hk1 hFc hP1 hD1
  generalize H1 = H at hP hS ⊢
  have hP : va_P (dC, dI) vwCl [(z 0, .inl (mA, 101660, .inl (fun _ => 0))), (z 2, .inl (mX, 900, .inl (fun _ => 0))), (z 23, .inl (mC, 17576, .inl (fun _ => 0))), (y, .inr (10, mF z 0 0 0 (nI 20) 0 0 0 0 0 (-1) (-1))), (z 1, .inl (mT, 900, .inl f_16))] H := hP
  have hD : va_D A [(z 0, .inl (mA, 101660, .inl (fun _ => 0))), (z 2, .inl (mX, 900, .inl (fun _ => 0))), (z 23, .inl (mC, 17576, .inl (fun _ => 0))), (y, .inr (10, mF z 0 0 0 (nI 20) 0 0 0 0 0 (-1) (-1))), (z 1, .inl (mT, 900, .inl f_16))] := hD
  refine lv_aload_n hx hb dX10_feed_39 rfl (lv_at hl 0 rfl) ?_
  refine va_get (D := (dC, dI)) (ci := 10) (v := .int (nI 20)) (C := RX10) (T := TX10) (N := 48) hx hb hts fin_X10_feed_X10 hown hK hP 3 rfl rfl 6 (by decide) (hts (.fieldLink RX10 107 "PatternGateModel" "taped" "I") (List.mem_of_getElem? (i := 1) (by decide +kernel))) (fun _ h9 => h9) rfl dX10_feed_40 ?_
  exact W.iret hx hb hr (fun t ht hW => ⟨⟨_, (), rfl, rfl, trivial⟩, hS.F ht⟩) hS.2.2 dX10_feed_43
theorem dX10_load_0 : decode cX10_load 0 = .ok (.iload_n 1, 1) := by decide +kernel
theorem dX10_load_1 : decode cX10_load 1 = .ok (.iconst 0, 1) := by decide +kernel
theorem dX10_load_2 : decode cX10_load 2 = .ok (.aload_n 0, 1) := by decide +kernel
theorem dX10_load_3 : decode cX10_load 3 = .ok (.getfield 107, 3) := by decide +kernel
theorem dX10_load_6 : decode cX10_load 6 = .ok (.invokestatic 200, 3) := by decide +kernel
theorem dX10_load_9 : decode cX10_load 9 = .ok (.ifCond .ne 9, 3) := by decide +kernel
theorem dX10_load_12 : decode cX10_load 12 = .ok (.aload_n 0, 1) := by decide +kernel
theorem dX10_load_13 : decode cX10_load 13 = .ok (.iconst 1, 1) := by decide +kernel
theorem dX10_load_14 : decode cX10_load 14 = .ok (.invokevirtual 204, 3) := by decide +kernel
theorem dX10_load_17 : decode cX10_load 17 = .ok (.ireturn, 1) := by decide +kernel
theorem dX10_load_18 : decode cX10_load 18 = .ok (.aload_n 0, 1) := by decide +kernel
theorem dX10_load_19 : decode cX10_load 19 = .ok (.iload_n 1, 1) := by decide +kernel
theorem dX10_load_20 : decode cX10_load 20 = .ok (.iconst 1, 1) := by decide +kernel
theorem dX10_load_21 : decode cX10_load 21 = .ok (.invokevirtual 207, 3) := by decide +kernel
theorem dX10_load_24 : decode cX10_load 24 = .ok (.ifCond .ne 10, 3) := by decide +kernel
theorem dX10_load_34 : decode cX10_load 34 = .ok (.aload_n 0, 1) := by decide +kernel
theorem dX10_load_35 : decode cX10_load 35 = .ok (.invokevirtual 211, 3) := by decide +kernel
theorem dX10_load_38 : decode cX10_load 38 = .ok (.aload_n 0, 1) := by decide +kernel
theorem dX10_load_39 : decode cX10_load 39 = .ok (.aload_n 0, 1) := by decide +kernel
theorem dX10_load_40 : decode cX10_load 40 = .ok (.getfield 8, 3) := by decide +kernel
theorem dX10_load_43 : decode cX10_load 43 = .ok (.iconst 0, 1) := by decide +kernel
theorem dX10_load_44 : decode cX10_load 44 = .ok (.iaload, 1) := by decide +kernel
theorem dX10_load_45 : decode cX10_load 45 = .ok (.invokevirtual 214, 3) := by decide +kernel
theorem dX10_load_48 : decode cX10_load 48 = .ok (.ireturn, 1) := by decide +kernel
def mwX10_load : List Cond := .code yX10_load cX10_load 2 (some .int) :: ([.fieldLink RX10 107 "PatternGateModel" "taped" "I", .code yX10_isFrom cX10_isFrom 3 (some .boolean), .methodLink RX10 200 yX10_isFrom, .static yX10_isFrom, .initialized RX10, .code yX10_reads cX10_reads 4 (some .boolean), .fieldLink RX10 114 "PatternGateModel" "size" "I", .fieldLink RX10 117 "PatternGateModel" "faults" "I", .fieldLink RX10 21 "PatternGateModel" "faultPlace" "I", .fieldLink RX10 130 "PatternGateModel" "end" "I", .code yX10_copies cX10_copies 4 none, .fieldLink RX10 8 "PatternGateModel" "all" "[I", .methodLink RX10 193 yX10_copies, .instanceMethod yX10_copies, .selects RX10 yX10_copies yX10_copies, .code yX10_ahead cX10_ahead 2 none, .code yX10_byteAt cX10_byteAt 2 (some .int), .methodLink RX10 133 yX10_byteAt, .instanceMethod yX10_byteAt, .selects RX10 yX10_byteAt yX10_byteAt, .fieldLink RX10 123 "PatternGateModel" "begin" "I", .fieldLink RX10 120 "PatternGateModel" "token" "I", .methodLink RX10 184 yX10_ahead, .instanceMethod yX10_ahead, .selects RX10 yX10_ahead yX10_ahead, .fieldLink RX10 25 "PatternGateModel" "faultKind" "I", .methodLink RX10 207 yX10_reads, .instanceMethod yX10_reads, .selects RX10 yX10_reads yX10_reads, .code yX10_acted cX10_acted 2 none, .fieldLink RX10 439 "PatternGateModel" "acts" "I", .methodLink RX10 211 yX10_acted, .instanceMethod yX10_acted, .selects RX10 yX10_acted yX10_acted, .code yX10_gives cX10_gives 2 (some .int), .fieldLink RX10 104 "PatternGateModel" "status" "I", .methodLink RX10 214 yX10_gives, .instanceMethod yX10_gives, .selects RX10 yX10_gives yX10_gives, .code yX10_refuse cX10_refuse 2 (some .int), .methodLink RX10 204 yX10_refuse, .instanceMethod yX10_refuse, .selects RX10 yX10_refuse yX10_refuse] ++ wsX100)
theorem fin_X10_load_X10 : ∀ w ∈ wsX100, w ∈ mwX10_load := fun w h => List.mem_cons_of_mem _ (List.mem_append_right _ h)
set_option maxRecDepth 20000 in
theorem mg_X10_load_X10_isFrom_200 : GoodIn mwX10_load (va_wsS RX10 200 yX10_isFrom mwX10_isFrom) := goodIn_r _ [3, 4, 5, 2] (by decide +kernel) (by decide +kernel)
set_option maxRecDepth 20000 in
theorem mg_X10_load_X10_reads_207 : GoodIn mwX10_load (wsV RX10 207 RX10 yX10_reads mwX10_reads) := goodIn_r _ [27, 28, 29, 5, 6, 7, 1, 8, 9, 10, 11, 12, 13, 14, 15, 5, 16, 17, 18, 19, 20, 21, 22, 23, 24, 25, 26, 44, 45, 46, 47, 48, 49, 50, 51, 52, 53, 54, 55, 56, 57, 58, 59, 60, 61, 62, 63, 64, 65, 66, 67, 68, 69, 70, 71, 72, 73, 74, 75, 76, 77, 78, 79, 80, 81, 82, 83, 84, 85, 86, 87, 88, 89, 90, 91] (by decide +kernel) (by decide +kernel)
set_option maxRecDepth 20000 in
theorem mg_X10_load_X10_acted_211 : GoodIn mwX10_load (wsV RX10 211 RX10 yX10_acted mwX10_acted) := goodIn_r _ [32, 33, 34, 5, 30, 31, 11, 12, 13, 14, 15, 5, 44, 45, 46, 47, 48, 49, 50, 51, 52, 53, 54, 55, 56, 57, 58, 59, 60, 61, 62, 63, 64, 65, 66, 67, 68, 69, 70, 71, 72, 73, 74, 75, 76, 77, 78, 79, 80, 81, 82, 83, 84, 85, 86, 87, 88, 89, 90, 91] (by decide +kernel) (by decide +kernel)
set_option maxRecDepth 20000 in
theorem mg_X10_load_X10_gives_214 : GoodIn mwX10_load (wsV RX10 214 RX10 yX10_gives mwX10_gives) := goodIn_r _ [37, 38, 39, 5, 35, 36, 44, 45, 46, 47, 48, 49, 50, 51, 52, 53, 54, 55, 56, 57, 58, 59, 60, 61, 62, 63, 64, 65, 66, 67, 68, 69, 70, 71, 72, 73, 74, 75, 76, 77, 78, 79, 80, 81, 82, 83, 84, 85, 86, 87, 88, 89, 90, 91] (by decide +kernel) (by decide +kernel)
set_option maxRecDepth 20000 in
theorem mg_X10_load_X10_refuse_204 : GoodIn mwX10_load (wsV RX10 204 RX10 yX10_refuse mwX10_refuse) := goodIn_r _ [41, 42, 43, 5, 40, 36, 44, 45, 46, 47, 48, 49, 50, 51, 52, 53, 54, 55, 56, 57, 58, 59, 60, 61, 62, 63, 64, 65, 66, 67, 68, 69, 70, 71, 72, 73, 74, 75, 76, 77, 78, 79, 80, 81, 82, 83, 84, 85, 86, 87, 88, 89, 90, 91] (by decide +kernel) (by decide +kernel)
set_option maxHeartbeats 4000000 in
set_option maxRecDepth 100000 in
/-- load of the reference, new -/
theorem m_load (l : Launch) (dC : Nat → ClassId) (dI : Nat → Nat → Nat) (y : Nat) (z : Nat → Nat) (mA mT mX mC : ClassId) (sz : Nat) (i0 : Int32) : Met l yX10_load mwX10_load ({ frames := 3, cells := 0, slots := 0, locals := 180 }) (va_Pc [.ref y, .int i0] (fun U => U.heap.size = sz ∧ va_P (dC, dI) vwCl (mW y z mA mT mX mC) U.heap ∧ va_K (dC, dI) vwCl (mT9 mA mT mX mC) U ∧ va_D (fun _ => True) (mW y z mA mT mX mC))) (va_Qi (fun (o : Int32) (_ : Unit) => o = s_load i0) (fun _ _ => True) (va_A (mW y z mA mT mX mC) sz)) 0 0 (va_A (mW y z mA mT mX mC) sz) := by
  refine Met.ofW (cc := cX10_load) (maxL := 2) (ret := (some .int)) (by decide +kernel) rfl ?_
  intro p e s m args below meth c s₁ B hml hv
  obtain ⟨rfl, hsz, hP, hK, hD0⟩ := hv
  have hx := B.exec
  have hb := B.bytes
  have hr := B.returns
  have hts := atoms_spec (ws := mwX10_load) B.pre
  have hown : s.vm.findClass RX10 = some m.cls := findClass_of_methodNamed B.named
  have hlocks := B.notSynchronized
  subst hsz
  have hD := hD0.self (sz := s.heap.size)
  generalize hAe : va_A (mW y z mA mT mX mC) s.heap.size = A at hD ⊢
  have hA : ∀ q : Nat, s.heap.size ≤ q → A q := fun q h => by rw [← hAe]; exact Or.inr h
  have hP : va_P (dC, dI) vwCl [(y, .inr (10, mF z 0 0 0 0 0 0 0 0 0 (-1) (-1))), (z 0, .inl (mA, 101660, .inl (fun _ => 0))), (z 1, .inl (mT, 900, .inl (fun _ => 0))), (z 2, .inl (mX, 900, .inl (fun _ => 0))), (z 23, .inl (mC, 17576, .inl (fun _ => 0)))] s.heap := hP
  have hD : va_D A [(y, .inr (10, mF z 0 0 0 0 0 0 0 0 0 (-1) (-1))), (z 0, .inl (mA, 101660, .inl (fun _ => 0))), (z 1, .inl (mT, 900, .inl (fun _ => 0))), (z 2, .inl (mX, 900, .inl (fun _ => 0))), (z 23, .inl (mC, 17576, .inl (fun _ => 0)))] := hD
  have hK : va_K (dC, dI) vwCl [(mA, .int), (mT, .byte), (mX, .byte), (mC, .boolean)] s := hK
  generalize hH : s.heap = H at hP ⊢
  have hS : va_S A s.heap H [] := by rw [← hH]; exact va_S.rf
  have hl := lv_entry ([.ref y, .int i0]) (n := 2) (Nat.le_of_ble_eq_true rfl)
  rw [lg_entry_eq]
  generalize (lg_sl ([.ref y, .int i0]) ++ List.replicate (2 - (lg_sl ([.ref y, .int i0])).length) Slot.unset).toArray = ls at hl ⊢
  have hl : lv_has ls 2 [(0, .ref y), (1, .int i0)] := hl
  refine lv_iload_n hx hb dX10_load_0 rfl (lv_at hl 1 rfl) ?_
  refine lv_iconst (v := 0) hx hb dX10_load_1 (by decide) ?_
  refine lv_aload_n hx hb dX10_load_2 rfl (lv_at hl 0 rfl) ?_
  refine va_get (D := (dC, dI)) (ci := 10) (v := .int 0) (C := RX10) (T := TX10) (N := 48) hx hb hts fin_X10_load_X10 hown hK hP 0 rfl rfl 6 (by decide) (hts (.fieldLink RX10 107 "PatternGateModel" "taped" "I") (List.mem_of_getElem? (i := 1) (by decide +kernel))) (fun _ h9 => h9) rfl dX10_load_3 ?_
  refine vp_callSi (W.runS (As := [.int i0, .int 0, .int 0]) (rest := []) ⟨hx, hb, hml, hown, hts⟩ (m_isFrom l dC dI i0 0 0) (va_cwS 3 hts mg_X10_load_X10_isFrom_200 rfl rfl rfl (by decide +kernel) ⟨Nat.le_of_ble_eq_true rfl, Nat.le_of_ble_eq_true rfl⟩) ⟨fun a U g mk q => ⟨q.1, trivial⟩, fun U hU hW => ⟨rfl, trivial⟩⟩ rfl rfl hl.1 rfl (lv_room (Nat.le_of_ble_eq_true rfl)) dX10_load_6 ⟨Nat.le_of_ble_eq_true rfl, Nat.le_of_ble_eq_true rfl⟩) (fun r_2 hw => ?_)
  rcases hw with ⟨rfl, hF1, hF2⟩ | ⟨rfl, hF3⟩
  · refine lv_if_ne (tgt := 18) hx hb dX10_load_9 (by decide) (fun k_3 => ?_) (fun k_3 => absurd k_3 (by decide))
    obtain rfl : i0 = 0 := zz_le hF1 hF2
    refine lv_aload_n hx hb dX10_load_18 rfl (lv_at hl 0 rfl) ?_
    refine lv_iload_n hx hb dX10_load_19 rfl (lv_at hl 1 rfl) ?_
    refine lv_iconst (v := 1) hx hb dX10_load_20 (by decide) ?_
    have hPc := hP.sub (ws' := [(y, .inr (10, mF z 0 0 0 0 0 0 0 0 0 (-1) (-1))), (z 0, .inl (mA, 101660, .inl (fun _ => 0)))]) [0, 1] rfl
    have hKc := hK.sub (tys' := [(mA, .int)]) [0] rfl
    have hDc := hD.sub (ws' := [(y, .inr (10, mF z 0 0 0 0 0 0 0 0 0 (-1) (-1))), (z 0, .inl (mA, 101660, .inl (fun _ => 0)))]) [0, 1] (by decide) rfl
    have hFc := va_free (wc := [(y, .inr (10, mF z 0 0 0 0 0 0 0 0 0 (-1) (-1))), (z 0, .inl (mA, 101660, .inl (fun _ => 0)))]) hD hS hA [0, 1] rfl
    refine va_calli (va_runV (As := [.int 0, .int 1]) (rest := []) ⟨hx, hb, hml, hown, hts⟩ (m_reads l dC dI y z 0 0 0 0 0 0 0 0 0 (-1) (-1) mA H.size 1) (cwV 2 hts mg_X10_load_X10_reads_207 rfl rfl rfl (by decide +kernel) ⟨Nat.le_of_ble_eq_true rfl, Nat.le_of_ble_eq_true rfl⟩) ⟨fun a U g mk q => by obtain ⟨q0, q1, qP, qK, qD⟩ := q; exact ⟨q0, q1, qP, va_K.moved (u := U) (U := U.calling g mk a) (Vm.Alike.refl U.vm) qK, qD⟩, va_recv hKc hPc (ci := 10) (q0 := 0) rfl rfl, fun U hU hW => ⟨rfl, by rw [hU], by rw [hU]; exact hPc, va_K.moved hW.alike hKc, hDc.weaken (fun _ _ _ _ => trivial)⟩⟩ rfl rfl hl.1 rfl (lv_room (Nat.le_of_ble_eq_true rfl)) dX10_load_21 ⟨Nat.le_of_ble_eq_true rfl, Nat.le_of_ble_eq_true rfl⟩) hS (fun q _ h => hFc q h) hFc (fun r_5 u t H1 locs ht hvm hw hB hz1 hk1 hS => ?_)
    obtain ⟨hP1, hK1, hD1⟩ := hB
    rw [ht] at hP1
    subst hw
    obtain ⟨hP, hD⟩ := va_join (wr := [(z 1, .inl (mT, 900, .inl (fun _ => 0))), (z 2, .inl (mX, 900, .inl (fun _ => 0))), (z 23, .inl (mC, 17576, .inl (fun _ => 0)))]) (w1 := [(y, .inr (10, mF z 0 0 0 0 0 0 0 0 0 (-1) 0)), (z 0, .inl (mA, 101660, .inl (fun _ => 0)))]) hP hD [0, 1] [2, 3, 4] rfl rfl (by decide) (by decide) hk1 hFc hP1 hD1
    generalize H1 = H at hP hS ⊢
    have hP : va_P (dC, dI) vwCl [(z 1, .inl (mT, 900, .inl (fun _ => 0))), (z 2, .inl (mX, 900, .inl (fun _ => 0))), (z 23, .inl (mC, 17576, .inl (fun _ => 0))), (y, .inr (10, mF z 0 0 0 0 0 0 0 0 0 (-1) 0)), (z 0, .inl (mA, 101660, .inl (fun _ => 0)))] H := hP
    have hD : va_D A [(z 1, .inl (mT, 900, .inl (fun _ => 0))), (z 2, .inl (mX, 900, .inl (fun _ => 0))), (z 23, .inl (mC, 17576, .inl (fun _ => 0))), (y, .inr (10, mF z 0 0 0 0 0 0 0 0 0 (-1) 0)), (z 0, .inl (mA, 101660, .inl (fun _ => 0)))] := hD
    refine lv_if_ne (tgt := 34) hx hb dX10_load_24 (by decide) (fun k_6 => ?_) (fun k_6 => absurd k_6 (by decide))
    refine lv_aload_n hx hb dX10_load_34 rfl (lv_at hl 0 rfl) ?_
    have hPc := hP.sub (ws' := [(y, .inr (10, mF z 0 0 0 0 0 0 0 0 0 (-1) 0)), (z 0, .inl (mA, 101660, .inl (fun _ => 0)))]) [3, 4] rfl
    have hKc := hK.sub (tys' := [(mA, .int)]) [0] rfl
    have hDc := hD.sub (ws' := [(y, .inr (10, mF z 0 0 0 0 0 0 0 0 0 (-1) 0)), (z 0, .inl (mA, 101660, .inl (fun _ => 0)))]) [3, 4] (by decide) rfl
    have hFc := va_free (wc := [(y, .inr (10, mF z 0 0 0 0 0 0 0 0 0 (-1) 0)), (z 0, .inl (mA, 101660, .inl (fun _ => 0)))]) hD hS hA [3, 4] rfl
    refine va_callv (va_runV (As := []) (rest := []) ⟨hx, hb, hml, hown, hts⟩ (m_acted l dC dI y z 0 0 0 0 0 0 0 0 (-1) 0 mA H.size) (cwV 0 hts mg_X10_load_X10_acted_211 rfl rfl rfl (by decide +kernel) ⟨Nat.le_of_ble_eq_true rfl, Nat.le_of_ble_eq_true rfl⟩) ⟨fun a U g mk q => by obtain ⟨q0, q1, qP, qK, qD⟩ := q; exact ⟨q0, q1, qP, va_K.moved (u := U) (U := U.calling g mk a) (Vm.Alike.refl U.vm) qK, qD⟩, va_recv hKc hPc (ci := 10) (q0 := 0) rfl rfl, fun U hU hW => ⟨rfl, by rw [hU], by rw [hU]; exact hPc, va_K.moved hW.alike hKc, hDc.weaken (fun _ _ _ _ => trivial)⟩⟩ rfl rfl hl.1 rfl (lv_room (Nat.le_of_ble_eq_true rfl)) dX10_load_35 ⟨Nat.le_of_ble_eq_true rfl, Nat.le_of_ble_eq_true rfl⟩) hS (fun q _ h => hFc q h) hFc (fun u t H1 locs ht hvm hw hB hz1 hk1 hS => ?_)
    obtain ⟨hP1, hK1, hD1⟩ := hB
    rw [ht] at hP1
    obtain ⟨hP, hD⟩ := va_join (wr := [(z 1, .inl (mT, 900, .inl (fun _ => 0))), (z 2, .inl (mX, 900, .inl (fun _ => 0))), (z 23, .inl (mC, 17576, .inl (fun _ => 0)))]) (w1 := [(y, .inr (10, mF z 0 1 0 0 0 0 0 0 0 (-1) 0)), (z 0, .inl (mA, 101660, .inl (fun _ => 0)))]) hP hD [3, 4] [0, 1, 2] rfl rfl (by decide) (by decide) hk1 hFc hP1 hD1
    generalize H1 = H at hP hS ⊢
    have hP : va_P (dC, dI) vwCl [(z 1, .inl (mT, 900, .inl (fun _ => 0))), (z 2, .inl (mX, 900, .inl (fun _ => 0))), (z 23, .inl (mC, 17576, .inl (fun _ => 0))), (y, .inr (10, mF z 0 1 0 0 0 0 0 0 0 (-1) 0)), (z 0, .inl (mA, 101660, .inl (fun _ => 0)))] H := hP
    have hD : va_D A [(z 1, .inl (mT, 900, .inl (fun _ => 0))), (z 2, .inl (mX, 900, .inl (fun _ => 0))), (z 23, .inl (mC, 17576, .inl (fun _ => 0))), (y, .inr (10, mF z 0 1 0 0 0 0 0 0 0 (-1) 0)), (z 0, .inl (mA, 101660, .inl (fun _ => 0)))] := hD
    refine lv_aload_n hx hb dX10_load_38 rfl (lv_at hl 0 rfl) ?_
    refine lv_aload_n hx hb dX10_load_39 rfl (lv_at hl 0 rfl) ?_
    refine va_get (D := (dC, dI)) (ci := 10) (v := .ref (z 0)) (C := RX10) (T := TX10) (N := 48) hx hb hts fin_X10_load_X10 hown hK hP 3 rfl rfl 0 (by decide) (hts (.fieldLink RX10 8 "PatternGateModel" "all" "[I") (List.mem_of_getElem? (i := 12) (by decide +kernel))) (fun _ h9 => h9) rfl dX10_load_40 ?_
    refine lv_iconst (v := 0) hx hb dX10_load_43 (by decide) ?_
    refine va_iald hx hb hK hP 4 0 rfl rfl (i := 0) (by unfold vp_in; decide +kernel) dX10_load_44 ?_
    refine lv_topi (fun y_9 ey_9 => ?_)
    obtain rfl : y_9 = 0 := ey_9.trans (by first | rfl | decide)
    have hPc := hP.sub (ws' := [(y, .inr (10, mF z 0 1 0 0 0 0 0 0 0 (-1) 0))]) [3] rfl
    have hKc := hK.sub (tys' := []) [] rfl
    have hDc := hD.sub (ws' := [(y, .inr (10, mF z 0 1 0 0 0 0 0 0 0 (-1) 0))]) [3] (by decide) rfl
    have hFc := va_free (wc := [(y, .inr (10, mF z 0 1 0 0 0 0 0 0 0 (-1) 0))]) hD hS hA [3] rfl
    refine va_calli (va_runV (As := [.int 0]) (rest := []) ⟨hx, hb, hml, hown, hts⟩ (m_gives l dC dI y z 0 1 0 0 0 0 0 0 0 (-1) 0 H.size 0) (cwV 1 hts mg_X10_load_X10_gives_214 rfl rfl rfl (by decide +kernel) ⟨Nat.le_of_ble_eq_true rfl, Nat.le_of_ble_eq_true rfl⟩) ⟨fun a U g mk q => by obtain ⟨q0, q1, qP, qK, qD⟩ := q; exact ⟨q0, q1, qP, va_K.moved (u := U) (U := U.calling g mk a) (Vm.Alike.refl U.vm) qK, qD⟩, va_recv hKc hPc (ci := 10) (q0 := 0) rfl rfl, fun U hU hW => ⟨rfl, by rw [hU], by rw [hU]; exact hPc, va_K.moved hW.alike hKc, hDc.weaken (fun _ _ _ _ => trivial)⟩⟩ rfl rfl hl.1 rfl (lv_room (Nat.le_of_ble_eq_true rfl)) dX10_load_45 ⟨Nat.le_of_ble_eq_true rfl, Nat.le_of_ble_eq_true rfl⟩) hS (fun q _ h => hFc q h) hFc (fun r_11 u t H1 locs ht hvm hw hB hz1 hk1 hS => ?_)
    exact W.iret hx hb hr (fun t ht hW => ⟨⟨_, (), rfl, (hw.trans rfl), trivial⟩, hS.F ht⟩) hS.2.2 dX10_load_48
  · refine lv_if_ne (tgt := 18) hx hb dX10_load_9 (by decide) (fun k_12 => absurd (by decide) k_12) (fun k_12 => ?_)
    refine lv_aload_n hx hb dX10_load_12 rfl (lv_at hl 0 rfl) ?_
    refine lv_iconst (v := 1) hx hb dX10_load_13 (by decide) ?_
    have hPc := hP.sub (ws' := [(y, .inr (10, mF z 0 0 0 0 0 0 0 0 0 (-1) (-1)))]) [0] rfl
    have hKc := hK.sub (tys' := []) [] rfl
    have hDc := hD.sub (ws' := [(y, .inr (10, mF z 0 0 0 0 0 0 0 0 0 (-1) (-1)))]) [0] (by decide) rfl
    have hFc := va_free (wc := [(y, .inr (10, mF z 0 0 0 0 0 0 0 0 0 (-1) (-1)))]) hD hS hA [0] rfl
    refine va_calli (va_runV (As := [.int 1]) (rest := []) ⟨hx, hb, hml, hown, hts⟩ (m_refuse l dC dI y z 0 0 0 0 0 0 0 0 0 (-1) (-1) H.size 1) (cwV 1 hts mg_X10_load_X10_refuse_204 rfl rfl rfl (by decide +kernel) ⟨Nat.le_of_ble_eq_true rfl, Nat.le_of_ble_eq_true rfl⟩) ⟨fun a U g mk q => by obtain ⟨q0, q1, qP, qK, qD⟩ := q; exact ⟨q0, q1, qP, va_K.moved (u := U) (U := U.calling g mk a) (Vm.Alike.refl U.vm) qK, qD⟩, va_recv hKc hPc (ci := 10) (q0 := 0) rfl rfl, fun U hU hW => ⟨rfl, by rw [hU], by rw [hU]; exact hPc, va_K.moved hW.alike hKc, hDc.weaken (fun _ _ _ _ => trivial)⟩⟩ rfl rfl hl.1 rfl (lv_room (Nat.le_of_ble_eq_true rfl)) dX10_load_14 ⟨Nat.le_of_ble_eq_true rfl, Nat.le_of_ble_eq_true rfl⟩) hS (fun q _ h => hFc q h) hFc (fun r_14 u t H1 locs ht hvm hw hB hz1 hk1 hS => ?_)
    exact W.iret hx hb hr (fun t ht hW => ⟨⟨_, (), rfl, (hw.trans (s_load_no hF3).symm), trivial⟩, hS.F ht⟩) hS.2.2 dX10_load_17
theorem dX10_more_0 : decode cX10_more 0 = .ok (.iload_n 1, 1) := by decide +kernel
theorem dX10_more_1 : decode cX10_more 1 = .ok (.iconst 0, 1) := by decide +kernel
theorem dX10_more_2 : decode cX10_more 2 = .ok (.aload_n 0, 1) := by decide +kernel
theorem dX10_more_3 : decode cX10_more 3 = .ok (.getfield 107, 3) := by decide +kernel
theorem dX10_more_6 : decode cX10_more 6 = .ok (.invokestatic 200, 3) := by decide +kernel
theorem dX10_more_9 : decode cX10_more 9 = .ok (.ifCond .ne 9, 3) := by decide +kernel
theorem dX10_more_12 : decode cX10_more 12 = .ok (.aload_n 0, 1) := by decide +kernel
theorem dX10_more_13 : decode cX10_more 13 = .ok (.iconst 1, 1) := by decide +kernel
theorem dX10_more_14 : decode cX10_more 14 = .ok (.invokevirtual 204, 3) := by decide +kernel
theorem dX10_more_17 : decode cX10_more 17 = .ok (.ireturn, 1) := by decide +kernel
theorem dX10_more_18 : decode cX10_more 18 = .ok (.aload_n 0, 1) := by decide +kernel
theorem dX10_more_19 : decode cX10_more 19 = .ok (.iload_n 1, 1) := by decide +kernel
theorem dX10_more_20 : decode cX10_more 20 = .ok (.iconst 0, 1) := by decide +kernel
theorem dX10_more_21 : decode cX10_more 21 = .ok (.invokevirtual 207, 3) := by decide +kernel
theorem dX10_more_24 : decode cX10_more 24 = .ok (.ifCond .ne 10, 3) := by decide +kernel
theorem dX10_more_34 : decode cX10_more 34 = .ok (.aload_n 0, 1) := by decide +kernel
theorem dX10_more_35 : decode cX10_more 35 = .ok (.invokevirtual 211, 3) := by decide +kernel
theorem dX10_more_38 : decode cX10_more 38 = .ok (.aload_n 0, 1) := by decide +kernel
theorem dX10_more_39 : decode cX10_more 39 = .ok (.aload_n 0, 1) := by decide +kernel
theorem dX10_more_40 : decode cX10_more 40 = .ok (.getfield 8, 3) := by decide +kernel
theorem dX10_more_43 : decode cX10_more 43 = .ok (.iconst 0, 1) := by decide +kernel
theorem dX10_more_44 : decode cX10_more 44 = .ok (.iaload, 1) := by decide +kernel
theorem dX10_more_45 : decode cX10_more 45 = .ok (.aload_n 0, 1) := by decide +kernel
theorem dX10_more_46 : decode cX10_more 46 = .ok (.getfield 8, 3) := by decide +kernel
theorem dX10_more_49 : decode cX10_more 49 = .ok (.sipush 611, 3) := by decide +kernel
theorem dX10_more_52 : decode cX10_more 52 = .ok (.iaload, 1) := by decide +kernel
theorem dX10_more_53 : decode cX10_more 53 = .ok (.iadd, 1) := by decide +kernel
theorem dX10_more_54 : decode cX10_more 54 = .ok (.aload_n 0, 1) := by decide +kernel
theorem dX10_more_55 : decode cX10_more 55 = .ok (.getfield 8, 3) := by decide +kernel
theorem dX10_more_58 : decode cX10_more 58 = .ok (.sipush 7820, 3) := by decide +kernel
theorem dX10_more_61 : decode cX10_more 61 = .ok (.iaload, 1) := by decide +kernel
theorem dX10_more_62 : decode cX10_more 62 = .ok (.isub, 1) := by decide +kernel
theorem dX10_more_63 : decode cX10_more 63 = .ok (.aload_n 0, 1) := by decide +kernel
theorem dX10_more_64 : decode cX10_more 64 = .ok (.getfield 8, 3) := by decide +kernel
theorem dX10_more_67 : decode cX10_more 67 = .ok (.sipush 8431, 3) := by decide +kernel
theorem dX10_more_70 : decode cX10_more 70 = .ok (.iaload, 1) := by decide +kernel
theorem dX10_more_71 : decode cX10_more 71 = .ok (.isub, 1) := by decide +kernel
theorem dX10_more_72 : decode cX10_more 72 = .ok (.invokevirtual 214, 3) := by decide +kernel
theorem dX10_more_75 : decode cX10_more 75 = .ok (.ireturn, 1) := by decide +kernel
def mwX10_more : List Cond := .code yX10_more cX10_more 2 (some .int) :: ([.fieldLink RX10 107 "PatternGateModel" "taped" "I", .code yX10_isFrom cX10_isFrom 3 (some .boolean), .methodLink RX10 200 yX10_isFrom, .static yX10_isFrom, .initialized RX10, .code yX10_reads cX10_reads 4 (some .boolean), .fieldLink RX10 114 "PatternGateModel" "size" "I", .fieldLink RX10 117 "PatternGateModel" "faults" "I", .fieldLink RX10 21 "PatternGateModel" "faultPlace" "I", .fieldLink RX10 130 "PatternGateModel" "end" "I", .code yX10_copies cX10_copies 4 none, .fieldLink RX10 8 "PatternGateModel" "all" "[I", .methodLink RX10 193 yX10_copies, .instanceMethod yX10_copies, .selects RX10 yX10_copies yX10_copies, .code yX10_ahead cX10_ahead 2 none, .code yX10_byteAt cX10_byteAt 2 (some .int), .methodLink RX10 133 yX10_byteAt, .instanceMethod yX10_byteAt, .selects RX10 yX10_byteAt yX10_byteAt, .fieldLink RX10 123 "PatternGateModel" "begin" "I", .fieldLink RX10 120 "PatternGateModel" "token" "I", .methodLink RX10 184 yX10_ahead, .instanceMethod yX10_ahead, .selects RX10 yX10_ahead yX10_ahead, .fieldLink RX10 25 "PatternGateModel" "faultKind" "I", .methodLink RX10 207 yX10_reads, .instanceMethod yX10_reads, .selects RX10 yX10_reads yX10_reads, .code yX10_acted cX10_acted 2 none, .fieldLink RX10 439 "PatternGateModel" "acts" "I", .methodLink RX10 211 yX10_acted, .instanceMethod yX10_acted, .selects RX10 yX10_acted yX10_acted, .code yX10_gives cX10_gives 2 (some .int), .fieldLink RX10 104 "PatternGateModel" "status" "I", .methodLink RX10 214 yX10_gives, .instanceMethod yX10_gives, .selects RX10 yX10_gives yX10_gives, .code yX10_refuse cX10_refuse 2 (some .int), .methodLink RX10 204 yX10_refuse, .instanceMethod yX10_refuse, .selects RX10 yX10_refuse yX10_refuse] ++ wsX100)
theorem fin_X10_more_X10 : ∀ w ∈ wsX100, w ∈ mwX10_more := fun w h => List.mem_cons_of_mem _ (List.mem_append_right _ h)
set_option maxRecDepth 20000 in
theorem mg_X10_more_X10_isFrom_200 : GoodIn mwX10_more (va_wsS RX10 200 yX10_isFrom mwX10_isFrom) := goodIn_r _ [3, 4, 5, 2] (by decide +kernel) (by decide +kernel)
set_option maxRecDepth 20000 in
theorem mg_X10_more_X10_reads_207 : GoodIn mwX10_more (wsV RX10 207 RX10 yX10_reads mwX10_reads) := goodIn_r _ [27, 28, 29, 5, 6, 7, 1, 8, 9, 10, 11, 12, 13, 14, 15, 5, 16, 17, 18, 19, 20, 21, 22, 23, 24, 25, 26, 44, 45, 46, 47, 48, 49, 50, 51, 52, 53, 54, 55, 56, 57, 58, 59, 60, 61, 62, 63, 64, 65, 66, 67, 68, 69, 70, 71, 72, 73, 74, 75, 76, 77, 78, 79, 80, 81, 82, 83, 84, 85, 86, 87, 88, 89, 90, 91] (by decide +kernel) (by decide +kernel)
set_option maxRecDepth 20000 in
theorem mg_X10_more_X10_acted_211 : GoodIn mwX10_more (wsV RX10 211 RX10 yX10_acted mwX10_acted) := goodIn_r _ [32, 33, 34, 5, 30, 31, 11, 12, 13, 14, 15, 5, 44, 45, 46, 47, 48, 49, 50, 51, 52, 53, 54, 55, 56, 57, 58, 59, 60, 61, 62, 63, 64, 65, 66, 67, 68, 69, 70, 71, 72, 73, 74, 75, 76, 77, 78, 79, 80, 81, 82, 83, 84, 85, 86, 87, 88, 89, 90, 91] (by decide +kernel) (by decide +kernel)
set_option maxRecDepth 20000 in
theorem mg_X10_more_X10_gives_214 : GoodIn mwX10_more (wsV RX10 214 RX10 yX10_gives mwX10_gives) := goodIn_r _ [37, 38, 39, 5, 35, 36, 44, 45, 46, 47, 48, 49, 50, 51, 52, 53, 54, 55, 56, 57, 58, 59, 60, 61, 62, 63, 64, 65, 66, 67, 68, 69, 70, 71, 72, 73, 74, 75, 76, 77, 78, 79, 80, 81, 82, 83, 84, 85, 86, 87, 88, 89, 90, 91] (by decide +kernel) (by decide +kernel)
set_option maxRecDepth 20000 in
theorem mg_X10_more_X10_refuse_204 : GoodIn mwX10_more (wsV RX10 204 RX10 yX10_refuse mwX10_refuse) := goodIn_r _ [41, 42, 43, 5, 40, 36, 44, 45, 46, 47, 48, 49, 50, 51, 52, 53, 54, 55, 56, 57, 58, 59, 60, 61, 62, 63, 64, 65, 66, 67, 68, 69, 70, 71, 72, 73, 74, 75, 76, 77, 78, 79, 80, 81, 82, 83, 84, 85, 86, 87, 88, 89, 90, 91] (by decide +kernel) (by decide +kernel)
set_option maxHeartbeats 4000000 in
set_option maxRecDepth 100000 in
/-- more of the reference, new -/
theorem m_more (l : Launch) (dC : Nat → ClassId) (dI : Nat → Nat → Nat) (y : Nat) (z : Nat → Nat) (mA mT mX mC : ClassId) (sz : Nat) (i0 : Int32) : Met l yX10_more mwX10_more ({ frames := 3, cells := 0, slots := 0, locals := 180 }) (va_Pc [.ref y, .int i0] (fun U => U.heap.size = sz ∧ va_P (dC, dI) vwCl (mW y z mA mT mX mC) U.heap ∧ va_K (dC, dI) vwCl (mT9 mA mT mX mC) U ∧ va_D (fun _ => True) (mW y z mA mT mX mC))) (va_Qi (fun (o : Int32) (_ : Unit) => o = s_load i0) (fun _ _ => True) (va_A (mW y z mA mT mX mC) sz)) 0 0 (va_A (mW y z mA mT mX mC) sz) := by
  refine Met.ofW (cc := cX10_more) (maxL := 2) (ret := (some .int)) (by decide +kernel) rfl ?_
  intro p e s m args below meth c s₁ B hml hv
  obtain ⟨rfl, hsz, hP, hK, hD0⟩ := hv
  have hx := B.exec
  have hb := B.bytes
  have hr := B.returns
  have hts := atoms_spec (ws := mwX10_more) B.pre
  have hown : s.vm.findClass RX10 = some m.cls := findClass_of_methodNamed B.named
  have hlocks := B.notSynchronized
  subst hsz
  have hD := hD0.self (sz := s.heap.size)
  generalize hAe : va_A (mW y z mA mT mX mC) s.heap.size = A at hD ⊢
  have hA : ∀ q : Nat, s.heap.size ≤ q → A q := fun q h => by rw [← hAe]; exact Or.inr h
  have hP : va_P (dC, dI) vwCl [(y, .inr (10, mF z 0 0 0 0 0 0 0 0 0 (-1) (-1))), (z 0, .inl (mA, 101660, .inl (fun _ => 0))), (z 1, .inl (mT, 900, .inl (fun _ => 0))), (z 2, .inl (mX, 900, .inl (fun _ => 0))), (z 23, .inl (mC, 17576, .inl (fun _ => 0)))] s.heap := hP
  have hD : va_D A [(y, .inr (10, mF z 0 0 0 0 0 0 0 0 0 (-1) (-1))), (z 0, .inl (mA, 101660, .inl (fun _ => 0))), (z 1, .inl (mT, 900, .inl (fun _ => 0))), (z 2, .inl (mX, 900, .inl (fun _ => 0))), (z 23, .inl (mC, 17576, .inl (fun _ => 0)))] := hD
  have hK : va_K (dC, dI) vwCl [(mA, .int), (mT, .byte), (mX, .byte), (mC, .boolean)] s := hK
  generalize hH : s.heap = H at hP ⊢
  have hS : va_S A s.heap H [] := by rw [← hH]; exact va_S.rf
  have hl := lv_entry ([.ref y, .int i0]) (n := 2) (Nat.le_of_ble_eq_true rfl)
  rw [lg_entry_eq]
  generalize (lg_sl ([.ref y, .int i0]) ++ List.replicate (2 - (lg_sl ([.ref y, .int i0])).length) Slot.unset).toArray = ls at hl ⊢
  have hl : lv_has ls 2 [(0, .ref y), (1, .int i0)] := hl
  refine lv_iload_n hx hb dX10_more_0 rfl (lv_at hl 1 rfl) ?_
  refine lv_iconst (v := 0) hx hb dX10_more_1 (by decide) ?_
  refine lv_aload_n hx hb dX10_more_2 rfl (lv_at hl 0 rfl) ?_
  refine va_get (D := (dC, dI)) (ci := 10) (v := .int 0) (C := RX10) (T := TX10) (N := 48) hx hb hts fin_X10_more_X10 hown hK hP 0 rfl rfl 6 (by decide) (hts (.fieldLink RX10 107 "PatternGateModel" "taped" "I") (List.mem_of_getElem? (i := 1) (by decide +kernel))) (fun _ h9 => h9) rfl dX10_more_3 ?_
  refine vp_callSi (W.runS (As := [.int i0, .int 0, .int 0]) (rest := []) ⟨hx, hb, hml, hown, hts⟩ (m_isFrom l dC dI i0 0 0) (va_cwS 3 hts mg_X10_more_X10_isFrom_200 rfl rfl rfl (by decide +kernel) ⟨Nat.le_of_ble_eq_true rfl, Nat.le_of_ble_eq_true rfl⟩) ⟨fun a U g mk q => ⟨q.1, trivial⟩, fun U hU hW => ⟨rfl, trivial⟩⟩ rfl rfl hl.1 rfl (lv_room (Nat.le_of_ble_eq_true rfl)) dX10_more_6 ⟨Nat.le_of_ble_eq_true rfl, Nat.le_of_ble_eq_true rfl⟩) (fun r_2 hw => ?_)
  rcases hw with ⟨rfl, hF1, hF2⟩ | ⟨rfl, hF3⟩
  · refine lv_if_ne (tgt := 18) hx hb dX10_more_9 (by decide) (fun k_3 => ?_) (fun k_3 => absurd k_3 (by decide))
    obtain rfl : i0 = 0 := zz_le hF1 hF2
    refine lv_aload_n hx hb dX10_more_18 rfl (lv_at hl 0 rfl) ?_
    refine lv_iload_n hx hb dX10_more_19 rfl (lv_at hl 1 rfl) ?_
    refine lv_iconst (v := 0) hx hb dX10_more_20 (by decide) ?_
    have hPc := hP.sub (ws' := [(y, .inr (10, mF z 0 0 0 0 0 0 0 0 0 (-1) (-1))), (z 0, .inl (mA, 101660, .inl (fun _ => 0)))]) [0, 1] rfl
    have hKc := hK.sub (tys' := [(mA, .int)]) [0] rfl
    have hDc := hD.sub (ws' := [(y, .inr (10, mF z 0 0 0 0 0 0 0 0 0 (-1) (-1))), (z 0, .inl (mA, 101660, .inl (fun _ => 0)))]) [0, 1] (by decide) rfl
    have hFc := va_free (wc := [(y, .inr (10, mF z 0 0 0 0 0 0 0 0 0 (-1) (-1))), (z 0, .inl (mA, 101660, .inl (fun _ => 0)))]) hD hS hA [0, 1] rfl
    refine va_calli (va_runV (As := [.int 0, .int 0]) (rest := []) ⟨hx, hb, hml, hown, hts⟩ (m_reads l dC dI y z 0 0 0 0 0 0 0 0 0 (-1) (-1) mA H.size 0) (cwV 2 hts mg_X10_more_X10_reads_207 rfl rfl rfl (by decide +kernel) ⟨Nat.le_of_ble_eq_true rfl, Nat.le_of_ble_eq_true rfl⟩) ⟨fun a U g mk q => by obtain ⟨q0, q1, qP, qK, qD⟩ := q; exact ⟨q0, q1, qP, va_K.moved (u := U) (U := U.calling g mk a) (Vm.Alike.refl U.vm) qK, qD⟩, va_recv hKc hPc (ci := 10) (q0 := 0) rfl rfl, fun U hU hW => ⟨rfl, by rw [hU], by rw [hU]; exact hPc, va_K.moved hW.alike hKc, hDc.weaken (fun _ _ _ _ => trivial)⟩⟩ rfl rfl hl.1 rfl (lv_room (Nat.le_of_ble_eq_true rfl)) dX10_more_21 ⟨Nat.le_of_ble_eq_true rfl, Nat.le_of_ble_eq_true rfl⟩) hS (fun q _ h => hFc q h) hFc (fun r_5 u t H1 locs ht hvm hw hB hz1 hk1 hS => ?_)
    obtain ⟨hP1, hK1, hD1⟩ := hB
    rw [ht] at hP1
    subst hw
    obtain ⟨hP, hD⟩ := va_join (wr := [(z 1, .inl (mT, 900, .inl (fun _ => 0))), (z 2, .inl (mX, 900, .inl (fun _ => 0))), (z 23, .inl (mC, 17576, .inl (fun _ => 0)))]) (w1 := [(y, .inr (10, mF z 0 0 0 0 0 0 0 0 0 (-1) 0)), (z 0, .inl (mA, 101660, .inl (fun _ => 0)))]) hP hD [0, 1] [2, 3, 4] rfl rfl (by decide) (by decide) hk1 hFc hP1 hD1
    generalize H1 = H at hP hS ⊢
    have hP : va_P (dC, dI) vwCl [(z 1, .inl (mT, 900, .inl (fun _ => 0))), (z 2, .inl (mX, 900, .inl (fun _ => 0))), (z 23, .inl (mC, 17576, .inl (fun _ => 0))), (y, .inr (10, mF z 0 0 0 0 0 0 0 0 0 (-1) 0)), (z 0, .inl (mA, 101660, .inl (fun _ => 0)))] H := hP
    have hD : va_D A [(z 1, .inl (mT, 900, .inl (fun _ => 0))), (z 2, .inl (mX, 900, .inl (fun _ => 0))), (z 23, .inl (mC, 17576, .inl (fun _ => 0))), (y, .inr (10, mF z 0 0 0 0 0 0 0 0 0 (-1) 0)), (z 0, .inl (mA, 101660, .inl (fun _ => 0)))] := hD
    refine lv_if_ne (tgt := 34) hx hb dX10_more_24 (by decide) (fun k_6 => ?_) (fun k_6 => absurd k_6 (by decide))
    refine lv_aload_n hx hb dX10_more_34 rfl (lv_at hl 0 rfl) ?_
    have hPc := hP.sub (ws' := [(y, .inr (10, mF z 0 0 0 0 0 0 0 0 0 (-1) 0)), (z 0, .inl (mA, 101660, .inl (fun _ => 0)))]) [3, 4] rfl
    have hKc := hK.sub (tys' := [(mA, .int)]) [0] rfl
    have hDc := hD.sub (ws' := [(y, .inr (10, mF z 0 0 0 0 0 0 0 0 0 (-1) 0)), (z 0, .inl (mA, 101660, .inl (fun _ => 0)))]) [3, 4] (by decide) rfl
    have hFc := va_free (wc := [(y, .inr (10, mF z 0 0 0 0 0 0 0 0 0 (-1) 0)), (z 0, .inl (mA, 101660, .inl (fun _ => 0)))]) hD hS hA [3, 4] rfl
    refine va_callv (va_runV (As := []) (rest := []) ⟨hx, hb, hml, hown, hts⟩ (m_acted l dC dI y z 0 0 0 0 0 0 0 0 (-1) 0 mA H.size) (cwV 0 hts mg_X10_more_X10_acted_211 rfl rfl rfl (by decide +kernel) ⟨Nat.le_of_ble_eq_true rfl, Nat.le_of_ble_eq_true rfl⟩) ⟨fun a U g mk q => by obtain ⟨q0, q1, qP, qK, qD⟩ := q; exact ⟨q0, q1, qP, va_K.moved (u := U) (U := U.calling g mk a) (Vm.Alike.refl U.vm) qK, qD⟩, va_recv hKc hPc (ci := 10) (q0 := 0) rfl rfl, fun U hU hW => ⟨rfl, by rw [hU], by rw [hU]; exact hPc, va_K.moved hW.alike hKc, hDc.weaken (fun _ _ _ _ => trivial)⟩⟩ rfl rfl hl.1 rfl (lv_room (Nat.le_of_ble_eq_true rfl)) dX10_more_35 ⟨Nat.le_of_ble_eq_true rfl, Nat.le_of_ble_eq_true rfl⟩) hS (fun q _ h => hFc q h) hFc (fun u t H1 locs ht hvm hw hB hz1 hk1 hS => ?_)
    obtain ⟨hP1, hK1, hD1⟩ := hB
    rw [ht] at hP1
    obtain ⟨hP, hD⟩ := va_join (wr := [(z 1, .inl (mT, 900, .inl (fun _ => 0))), (z 2, .inl (mX, 900, .inl (fun _ => 0))), (z 23, .inl (mC, 17576, .inl (fun _ => 0)))]) (w1 := [(y, .inr (10, mF z 0 1 0 0 0 0 0 0 0 (-1) 0)), (z 0, .inl (mA, 101660, .inl (fun _ => 0)))]) hP hD [3, 4] [0, 1, 2] rfl rfl (by decide) (by decide) hk1 hFc hP1 hD1
    generalize H1 = H at hP hS ⊢
    have hP : va_P (dC, dI) vwCl [(z 1, .inl (mT, 900, .inl (fun _ => 0))), (z 2, .inl (mX, 900, .inl (fun _ => 0))), (z 23, .inl (mC, 17576, .inl (fun _ => 0))), (y, .inr (10, mF z 0 1 0 0 0 0 0 0 0 (-1) 0)), (z 0, .inl (mA, 101660, .inl (fun _ => 0)))] H := hP
    have hD : va_D A [(z 1, .inl (mT, 900, .inl (fun _ => 0))), (z 2, .inl (mX, 900, .inl (fun _ => 0))), (z 23, .inl (mC, 17576, .inl (fun _ => 0))), (y, .inr (10, mF z 0 1 0 0 0 0 0 0 0 (-1) 0)), (z 0, .inl (mA, 101660, .inl (fun _ => 0)))] := hD
    refine lv_aload_n hx hb dX10_more_38 rfl (lv_at hl 0 rfl) ?_
    refine lv_aload_n hx hb dX10_more_39 rfl (lv_at hl 0 rfl) ?_
    refine va_get (D := (dC, dI)) (ci := 10) (v := .ref (z 0)) (C := RX10) (T := TX10) (N := 48) hx hb hts fin_X10_more_X10 hown hK hP 3 rfl rfl 0 (by decide) (hts (.fieldLink RX10 8 "PatternGateModel" "all" "[I") (List.mem_of_getElem? (i := 12) (by decide +kernel))) (fun _ h9 => h9) rfl dX10_more_40 ?_
    refine lv_iconst (v := 0) hx hb dX10_more_43 (by decide) ?_
    refine va_iald hx hb hK hP 4 0 rfl rfl (i := 0) (by unfold vp_in; decide +kernel) dX10_more_44 ?_
    refine lv_topi (fun y_9 ey_9 => ?_)
    obtain rfl : y_9 = 0 := ey_9.trans (by first | rfl | decide)
    refine lv_aload_n hx hb dX10_more_45 rfl (lv_at hl 0 rfl) ?_
    refine va_get (D := (dC, dI)) (ci := 10) (v := .ref (z 0)) (C := RX10) (T := TX10) (N := 48) hx hb hts fin_X10_more_X10 hown hK hP 3 rfl rfl 0 (by decide) (hts (.fieldLink RX10 8 "PatternGateModel" "all" "[I") (List.mem_of_getElem? (i := 12) (by decide +kernel))) (fun _ h9 => h9) rfl dX10_more_46 ?_
    refine lv_sipush (v := 611) hx hb dX10_more_49 (by decide) ?_
    refine va_iald hx hb hK hP 4 0 rfl rfl (i := 611) (by unfold vp_in; decide +kernel) dX10_more_52 ?_
    refine lv_topi (fun y_10 ey_10 => ?_)
    obtain rfl : y_10 = 0 := ey_10.trans (by first | rfl | decide)
    refine lv_iadd hx hb dX10_more_53 ?_
    refine lv_topi (fun y_11 ey_11 => ?_)
    obtain rfl : y_11 = 0 := ey_11.trans (by first | rfl | decide)
    refine lv_aload_n hx hb dX10_more_54 rfl (lv_at hl 0 rfl) ?_
    refine va_get (D := (dC, dI)) (ci := 10) (v := .ref (z 0)) (C := RX10) (T := TX10) (N := 48) hx hb hts fin_X10_more_X10 hown hK hP 3 rfl rfl 0 (by decide) (hts (.fieldLink RX10 8 "PatternGateModel" "all" "[I") (List.mem_of_getElem? (i := 12) (by decide +kernel))) (fun _ h9 => h9) rfl dX10_more_55 ?_
    refine lv_sipush (v := 7820) hx hb dX10_more_58 (by decide) ?_
    refine va_iald hx hb hK hP 4 0 rfl rfl (i := 7820) (by unfold vp_in; decide +kernel) dX10_more_61 ?_
    refine lv_topi (fun y_12 ey_12 => ?_)
    obtain rfl : y_12 = 0 := ey_12.trans (by first | rfl | decide)
    refine lv_isub hx hb dX10_more_62 ?_
    refine lv_topi (fun y_13 ey_13 => ?_)
    obtain rfl : y_13 = 0 := ey_13.trans (by first | rfl | decide)
    refine lv_aload_n hx hb dX10_more_63 rfl (lv_at hl 0 rfl) ?_
    refine va_get (D := (dC, dI)) (ci := 10) (v := .ref (z 0)) (C := RX10) (T := TX10) (N := 48) hx hb hts fin_X10_more_X10 hown hK hP 3 rfl rfl 0 (by decide) (hts (.fieldLink RX10 8 "PatternGateModel" "all" "[I") (List.mem_of_getElem? (i := 12) (by decide +kernel))) (fun _ h9 => h9) rfl dX10_more_64 ?_
    refine lv_sipush (v := 8431) hx hb dX10_more_67 (by decide) ?_
    refine va_iald hx hb hK hP 4 0 rfl rfl (i := 8431) (by unfold vp_in; decide +kernel) dX10_more_70 ?_
    refine lv_topi (fun y_14 ey_14 => ?_)
    obtain rfl : y_14 = 0 := ey_14.trans (by first | rfl | decide)
    refine lv_isub hx hb dX10_more_71 ?_
    refine lv_topi (fun y_15 ey_15 => ?_)
    obtain rfl : y_15 = 0 := ey_15.trans (by first | rfl | decide)
    have hPc := hP.sub (ws' := [(y, .inr (10, mF z 0 1 0 0 0 0 0 0 0 (-1) 0))]) [3] rfl
    have hKc := hK.sub (tys' := []) [] rfl
    have hDc := hD.sub (ws' := [(y, .inr (10, mF z 0 1 0 0 0 0 0 0 0 (-1) 0))]) [3] (by decide) rfl
    have hFc := va_free (wc := [(y, .inr (10, mF z 0 1 0 0 0 0 0 0 0 (-1) 0))]) hD hS hA [3] rfl
    refine va_calli (va_runV (As := [.int 0]) (rest := []) ⟨hx, hb, hml, hown, hts⟩ (m_gives l dC dI y z 0 1 0 0 0 0 0 0 0 (-1) 0 H.size 0) (cwV 1 hts mg_X10_more_X10_gives_214 rfl rfl rfl (by decide +kernel) ⟨Nat.le_of_ble_eq_true rfl, Nat.le_of_ble_eq_true rfl⟩) ⟨fun a U g mk q => by obtain ⟨q0, q1, qP, qK, qD⟩ := q; exact ⟨q0, q1, qP, va_K.moved (u := U) (U := U.calling g mk a) (Vm.Alike.refl U.vm) qK, qD⟩, va_recv hKc hPc (ci := 10) (q0 := 0) rfl rfl, fun U hU hW => ⟨rfl, by rw [hU], by rw [hU]; exact hPc, va_K.moved hW.alike hKc, hDc.weaken (fun _ _ _ _ => trivial)⟩⟩ rfl rfl hl.1 rfl (lv_room (Nat.le_of_ble_eq_true rfl)) dX10_more_72 ⟨Nat.le_of_ble_eq_true rfl, Nat.le_of_ble_eq_true rfl⟩) hS (fun q _ h => hFc q h) hFc (fun r_17 u t H1 locs ht hvm hw hB hz1 hk1 hS => ?_)
    exact W.iret hx hb hr (fun t ht hW => ⟨⟨_, (), rfl, (hw.trans rfl), trivial⟩, hS.F ht⟩) hS.2.2 dX10_more_75
  · refine lv_if_ne (tgt := 18) hx hb dX10_more_9 (by decide) (fun k_18 => absurd (by decide) k_18) (fun k_18 => ?_)
    refine lv_aload_n hx hb dX10_more_12 rfl (lv_at hl 0 rfl) ?_
    refine lv_iconst (v := 1) hx hb dX10_more_13 (by decide) ?_
    have hPc := hP.sub (ws' := [(y, .inr (10, mF z 0 0 0 0 0 0 0 0 0 (-1) (-1)))]) [0] rfl
    have hKc := hK.sub (tys' := []) [] rfl
    have hDc := hD.sub (ws' := [(y, .inr (10, mF z 0 0 0 0 0 0 0 0 0 (-1) (-1)))]) [0] (by decide) rfl
    have hFc := va_free (wc := [(y, .inr (10, mF z 0 0 0 0 0 0 0 0 0 (-1) (-1)))]) hD hS hA [0] rfl
    refine va_calli (va_runV (As := [.int 1]) (rest := []) ⟨hx, hb, hml, hown, hts⟩ (m_refuse l dC dI y z 0 0 0 0 0 0 0 0 0 (-1) (-1) H.size 1) (cwV 1 hts mg_X10_more_X10_refuse_204 rfl rfl rfl (by decide +kernel) ⟨Nat.le_of_ble_eq_true rfl, Nat.le_of_ble_eq_true rfl⟩) ⟨fun a U g mk q => by obtain ⟨q0, q1, qP, qK, qD⟩ := q; exact ⟨q0, q1, qP, va_K.moved (u := U) (U := U.calling g mk a) (Vm.Alike.refl U.vm) qK, qD⟩, va_recv hKc hPc (ci := 10) (q0 := 0) rfl rfl, fun U hU hW => ⟨rfl, by rw [hU], by rw [hU]; exact hPc, va_K.moved hW.alike hKc, hDc.weaken (fun _ _ _ _ => trivial)⟩⟩ rfl rfl hl.1 rfl (lv_room (Nat.le_of_ble_eq_true rfl)) dX10_more_14 ⟨Nat.le_of_ble_eq_true rfl, Nat.le_of_ble_eq_true rfl⟩) hS (fun q _ h => hFc q h) hFc (fun r_20 u t H1 locs ht hvm hw hB hz1 hk1 hS => ?_)
    exact W.iret hx hb hr (fun t ht hW => ⟨⟨_, (), rfl, (hw.trans (s_load_no hF3).symm), trivial⟩, hS.F ht⟩) hS.2.2 dX10_more_17

theorem dX10_letter_0 : decode cX10_letter 0 = .ok (.iload_n 2, 1) := by decide +kernel
theorem dX10_letter_1 : decode cX10_letter 1 = .ok (.ifCond .ge 9, 3) := by decide +kernel
theorem dX10_letter_4 : decode cX10_letter 4 = .ok (.aload_n 0, 1) := by decide +kernel
theorem dX10_letter_5 : decode cX10_letter 5 = .ok (.iconst 1, 1) := by decide +kernel
theorem dX10_letter_6 : decode cX10_letter 6 = .ok (.invokevirtual 204, 3) := by decide +kernel
theorem dX10_letter_9 : decode cX10_letter 9 = .ok (.ireturn, 1) := by decide +kernel
theorem dX10_letter_10 : decode cX10_letter 10 = .ok (.aload_n 0, 1) := by decide +kernel
theorem dX10_letter_11 : decode cX10_letter 11 = .ok (.iload_n 1, 1) := by decide +kernel
theorem dX10_letter_12 : decode cX10_letter 12 = .ok (.invokevirtual 451, 3) := by decide +kernel
theorem dX10_letter_15 : decode cX10_letter 15 = .ok (.ifCond .ne 9, 3) := by decide +kernel
theorem dX10_letter_18 : decode cX10_letter 18 = .ok (.aload_n 0, 1) := by decide +kernel
theorem dX10_letter_19 : decode cX10_letter 19 = .ok (.iconst 2, 1) := by decide +kernel
theorem dX10_letter_20 : decode cX10_letter 20 = .ok (.invokevirtual 204, 3) := by decide +kernel
theorem dX10_letter_23 : decode cX10_letter 23 = .ok (.ireturn, 1) := by decide +kernel
def mwX10_letter : List Cond := .code yX10_letter cX10_letter 3 (some .int) :: ([.code yX10_isDoc cX10_isDoc 2 (some .boolean), .fieldLink RX10 8 "PatternGateModel" "all" "[I", .methodLink RX10 451 yX10_isDoc, .instanceMethod yX10_isDoc, .selects RX10 yX10_isDoc yX10_isDoc, .initialized RX10, .code yX10_refuse cX10_refuse 2 (some .int), .fieldLink RX10 104 "PatternGateModel" "status" "I", .methodLink RX10 204 yX10_refuse, .instanceMethod yX10_refuse, .selects RX10 yX10_refuse yX10_refuse] ++ wsX100)
set_option maxRecDepth 20000 in
theorem mg_X10_letter_X10_isDoc_451 : GoodIn mwX10_letter (wsV RX10 451 RX10 yX10_isDoc mwX10_isDoc) := goodIn_r _ [3, 4, 5, 6, 1, 2, 12, 13, 14, 15, 16, 17, 18, 19, 20, 21, 22, 23, 24, 25, 26, 27, 28, 29, 30, 31, 32, 33, 34, 35, 36, 37, 38, 39, 40, 41, 42, 43, 44, 45, 46, 47, 48, 49, 50, 51, 52, 53, 54, 55, 56, 57, 58, 59] (by decide +kernel) (by decide +kernel)
set_option maxRecDepth 20000 in
theorem mg_X10_letter_X10_refuse_204 : GoodIn mwX10_letter (wsV RX10 204 RX10 yX10_refuse mwX10_refuse) := goodIn_r _ [9, 10, 11, 6, 7, 8, 12, 13, 14, 15, 16, 17, 18, 19, 20, 21, 22, 23, 24, 25, 26, 27, 28, 29, 30, 31, 32, 33, 34, 35, 36, 37, 38, 39, 40, 41, 42, 43, 44, 45, 46, 47, 48, 49, 50, 51, 52, 53, 54, 55, 56, 57, 58, 59] (by decide +kernel) (by decide +kernel)
set_option maxHeartbeats 4000000 in
set_option maxRecDepth 100000 in
/-- letter of the reference, new -/
theorem m_letter (l : Launch) (dC : Nat → ClassId) (dI : Nat → Nat → Nat) (y : Nat) (z : Nat → Nat) (mA mT mX mC : ClassId) (sz : Nat) (i0 i1 : Int32) : Met l yX10_letter mwX10_letter ({ frames := 2, cells := 0, slots := 0, locals := 120 }) (va_Pc [.ref y, .int i0, .int i1] (fun U => U.heap.size = sz ∧ va_P (dC, dI) vwCl (mW y z mA mT mX mC) U.heap ∧ va_K (dC, dI) vwCl (mT9 mA mT mX mC) U ∧ va_D (fun _ => True) (mW y z mA mT mX mC))) (va_Qi (fun (o : Int32) (_ : Unit) => o = (-1)) (fun _ _ => True) (va_A (mW y z mA mT mX mC) sz)) 0 0 (va_A (mW y z mA mT mX mC) sz) := by
  refine Met.ofW (cc := cX10_letter) (maxL := 3) (ret := (some .int)) (by decide +kernel) rfl ?_
  intro p e s m args below meth c s₁ B hml hv
  obtain ⟨rfl, hsz, hP, hK, hD0⟩ := hv
  have hx := B.exec
  have hb := B.bytes
  have hr := B.returns
  have hts := atoms_spec (ws := mwX10_letter) B.pre
  have hown : s.vm.findClass RX10 = some m.cls := findClass_of_methodNamed B.named
  have hlocks := B.notSynchronized
  subst hsz
  have hD := hD0.self (sz := s.heap.size)
  generalize hAe : va_A (mW y z mA mT mX mC) s.heap.size = A at hD ⊢
  have hA : ∀ q : Nat, s.heap.size ≤ q → A q := fun q h => by rw [← hAe]; exact Or.inr h
  have hP : va_P (dC, dI) vwCl [(y, .inr (10, mF z 0 0 0 0 0 0 0 0 0 (-1) (-1))), (z 0, .inl (mA, 101660, .inl (fun _ => 0))), (z 1, .inl (mT, 900, .inl (fun _ => 0))), (z 2, .inl (mX, 900, .inl (fun _ => 0))), (z 23, .inl (mC, 17576, .inl (fun _ => 0)))] s.heap := hP
  have hD : va_D A [(y, .inr (10, mF z 0 0 0 0 0 0 0 0 0 (-1) (-1))), (z 0, .inl (mA, 101660, .inl (fun _ => 0))), (z 1, .inl (mT, 900, .inl (fun _ => 0))), (z 2, .inl (mX, 900, .inl (fun _ => 0))), (z 23, .inl (mC, 17576, .inl (fun _ => 0)))] := hD
  have hK : va_K (dC, dI) vwCl [(mA, .int), (mT, .byte), (mX, .byte), (mC, .boolean)] s := hK
  generalize hH : s.heap = H at hP ⊢
  have hS : va_S A s.heap H [] := by rw [← hH]; exact va_S.rf
  have hl := lv_entry ([.ref y, .int i0, .int i1]) (n := 3) (Nat.le_of_ble_eq_true rfl)
  rw [lg_entry_eq]
  generalize (lg_sl ([.ref y, .int i0, .int i1]) ++ List.replicate (3 - (lg_sl ([.ref y, .int i0, .int i1])).length) Slot.unset).toArray = ls at hl ⊢
  have hl : lv_has ls 3 [(0, .ref y), (1, .int i0), (2, .int i1)] := hl
  refine lv_iload_n hx hb dX10_letter_0 rfl (lv_at hl 2 rfl) ?_
  refine lv_if_ge (tgt := 10) hx hb dX10_letter_1 (by decide) (fun k_1 => ?_) (fun k_1 => ?_)
  · refine lv_aload_n hx hb dX10_letter_10 rfl (lv_at hl 0 rfl) ?_
    refine lv_iload_n hx hb dX10_letter_11 rfl (lv_at hl 1 rfl) ?_
    have hPc := hP.sub (ws' := [(y, .inr (10, mF z 0 0 0 0 0 0 0 0 0 (-1) (-1))), (z 0, .inl (mA, 101660, .inl (fun _ => 0)))]) [0, 1] rfl
    have hKc := hK.sub (tys' := [(mA, .int)]) [0] rfl
    refine vp_callSi (W.runV (As := [.int i0]) (rest := []) ⟨hx, hb, hml, hown, hts⟩ (m_isDoc l dC dI y z 0 0 0 0 0 0 0 0 0 (-1) (-1) mA i0) (cwV 1 hts mg_X10_letter_X10_isDoc_451 rfl rfl rfl (by decide +kernel) ⟨Nat.le_of_ble_eq_true rfl, Nat.le_of_ble_eq_true rfl⟩) ⟨fun a U g mk q => by obtain ⟨q0, qP, qK⟩ := q; exact ⟨q0, qP, va_K.moved (u := U) (U := U.calling g mk a) (Vm.Alike.refl U.vm) qK⟩, va_recv hKc hPc (ci := 10) (q0 := 0) rfl rfl, fun U hU hW => ⟨rfl, by rw [hU]; exact hPc, va_K.moved hW.alike hKc⟩⟩ rfl rfl hl.1 rfl (lv_room (Nat.le_of_ble_eq_true rfl)) dX10_letter_12 ⟨Nat.le_of_ble_eq_true rfl, Nat.le_of_ble_eq_true rfl⟩) (fun r_3 hw => ?_)
    subst hw
    refine lv_if_ne (tgt := 24) hx hb dX10_letter_15 (by decide) (fun k_4 => absurd (by decide) k_4) (fun k_4 => ?_)
    refine lv_aload_n hx hb dX10_letter_18 rfl (lv_at hl 0 rfl) ?_
    refine lv_iconst (v := 2) hx hb dX10_letter_19 (by decide) ?_
    have hPc := hP.sub (ws' := [(y, .inr (10, mF z 0 0 0 0 0 0 0 0 0 (-1) (-1)))]) [0] rfl
    have hKc := hK.sub (tys' := []) [] rfl
    have hDc := hD.sub (ws' := [(y, .inr (10, mF z 0 0 0 0 0 0 0 0 0 (-1) (-1)))]) [0] (by decide) rfl
    have hFc := va_free (wc := [(y, .inr (10, mF z 0 0 0 0 0 0 0 0 0 (-1) (-1)))]) hD hS hA [0] rfl
    refine va_calli (va_runV (As := [.int 2]) (rest := []) ⟨hx, hb, hml, hown, hts⟩ (m_refuse l dC dI y z 0 0 0 0 0 0 0 0 0 (-1) (-1) H.size 2) (cwV 1 hts mg_X10_letter_X10_refuse_204 rfl rfl rfl (by decide +kernel) ⟨Nat.le_of_ble_eq_true rfl, Nat.le_of_ble_eq_true rfl⟩) ⟨fun a U g mk q => by obtain ⟨q0, q1, qP, qK, qD⟩ := q; exact ⟨q0, q1, qP, va_K.moved (u := U) (U := U.calling g mk a) (Vm.Alike.refl U.vm) qK, qD⟩, va_recv hKc hPc (ci := 10) (q0 := 0) rfl rfl, fun U hU hW => ⟨rfl, by rw [hU], by rw [hU]; exact hPc, va_K.moved hW.alike hKc, hDc.weaken (fun _ _ _ _ => trivial)⟩⟩ rfl rfl hl.1 rfl (lv_room (Nat.le_of_ble_eq_true rfl)) dX10_letter_20 ⟨Nat.le_of_ble_eq_true rfl, Nat.le_of_ble_eq_true rfl⟩) hS (fun q _ h => hFc q h) hFc (fun r_6 u t H1 locs ht hvm hw hB hz1 hk1 hS => ?_)
    exact W.iret hx hb hr (fun t ht hW => ⟨⟨_, (), rfl, hw, trivial⟩, hS.F ht⟩) hS.2.2 dX10_letter_23
  · refine lv_aload_n hx hb dX10_letter_4 rfl (lv_at hl 0 rfl) ?_
    refine lv_iconst (v := 1) hx hb dX10_letter_5 (by decide) ?_
    have hPc := hP.sub (ws' := [(y, .inr (10, mF z 0 0 0 0 0 0 0 0 0 (-1) (-1)))]) [0] rfl
    have hKc := hK.sub (tys' := []) [] rfl
    have hDc := hD.sub (ws' := [(y, .inr (10, mF z 0 0 0 0 0 0 0 0 0 (-1) (-1)))]) [0] (by decide) rfl
    have hFc := va_free (wc := [(y, .inr (10, mF z 0 0 0 0 0 0 0 0 0 (-1) (-1)))]) hD hS hA [0] rfl
    refine va_calli (va_runV (As := [.int 1]) (rest := []) ⟨hx, hb, hml, hown, hts⟩ (m_refuse l dC dI y z 0 0 0 0 0 0 0 0 0 (-1) (-1) H.size 1) (cwV 1 hts mg_X10_letter_X10_refuse_204 rfl rfl rfl (by decide +kernel) ⟨Nat.le_of_ble_eq_true rfl, Nat.le_of_ble_eq_true rfl⟩) ⟨fun a U g mk q => by obtain ⟨q0, q1, qP, qK, qD⟩ := q; exact ⟨q0, q1, qP, va_K.moved (u := U) (U := U.calling g mk a) (Vm.Alike.refl U.vm) qK, qD⟩, va_recv hKc hPc (ci := 10) (q0 := 0) rfl rfl, fun U hU hW => ⟨rfl, by rw [hU], by rw [hU]; exact hPc, va_K.moved hW.alike hKc, hDc.weaken (fun _ _ _ _ => trivial)⟩⟩ rfl rfl hl.1 rfl (lv_room (Nat.le_of_ble_eq_true rfl)) dX10_letter_6 ⟨Nat.le_of_ble_eq_true rfl, Nat.le_of_ble_eq_true rfl⟩) hS (fun q _ h => hFc q h) hFc (fun r_8 u t H1 locs ht hvm hw hB hz1 hk1 hS => ?_)
    exact W.iret hx hb hr (fun t ht hW => ⟨⟨_, (), rfl, hw, trivial⟩, hS.F ht⟩) hS.2.2 dX10_letter_9
theorem dX10_sign_0 : decode cX10_sign 0 = .ok (.iload_n 2, 1) := by decide +kernel
theorem dX10_sign_1 : decode cX10_sign 1 = .ok (.ifCond .ge 9, 3) := by decide +kernel
theorem dX10_sign_4 : decode cX10_sign 4 = .ok (.aload_n 0, 1) := by decide +kernel
theorem dX10_sign_5 : decode cX10_sign 5 = .ok (.iconst 1, 1) := by decide +kernel
theorem dX10_sign_6 : decode cX10_sign 6 = .ok (.invokevirtual 204, 3) := by decide +kernel
theorem dX10_sign_9 : decode cX10_sign 9 = .ok (.ireturn, 1) := by decide +kernel
theorem dX10_sign_10 : decode cX10_sign 10 = .ok (.aload_n 0, 1) := by decide +kernel
theorem dX10_sign_11 : decode cX10_sign 11 = .ok (.iload_n 1, 1) := by decide +kernel
theorem dX10_sign_12 : decode cX10_sign 12 = .ok (.invokevirtual 458, 3) := by decide +kernel
theorem dX10_sign_15 : decode cX10_sign 15 = .ok (.ifCond .ne 9, 3) := by decide +kernel
theorem dX10_sign_18 : decode cX10_sign 18 = .ok (.aload_n 0, 1) := by decide +kernel
theorem dX10_sign_19 : decode cX10_sign 19 = .ok (.iconst 2, 1) := by decide +kernel
theorem dX10_sign_20 : decode cX10_sign 20 = .ok (.invokevirtual 204, 3) := by decide +kernel
theorem dX10_sign_23 : decode cX10_sign 23 = .ok (.ireturn, 1) := by decide +kernel
def mwX10_sign : List Cond := .code yX10_sign cX10_sign 3 (some .int) :: ([.code yX10_isPattern cX10_isPattern 2 (some .boolean), .fieldLink RX10 8 "PatternGateModel" "all" "[I", .methodLink RX10 458 yX10_isPattern, .instanceMethod yX10_isPattern, .selects RX10 yX10_isPattern yX10_isPattern, .initialized RX10, .code yX10_refuse cX10_refuse 2 (some .int), .fieldLink RX10 104 "PatternGateModel" "status" "I", .methodLink RX10 204 yX10_refuse, .instanceMethod yX10_refuse, .selects RX10 yX10_refuse yX10_refuse] ++ wsX100)
set_option maxRecDepth 20000 in
theorem mg_X10_sign_X10_isPattern_458 : GoodIn mwX10_sign (wsV RX10 458 RX10 yX10_isPattern mwX10_isPattern) := goodIn_r _ [3, 4, 5, 6, 1, 2, 12, 13, 14, 15, 16, 17, 18, 19, 20, 21, 22, 23, 24, 25, 26, 27, 28, 29, 30, 31, 32, 33, 34, 35, 36, 37, 38, 39, 40, 41, 42, 43, 44, 45, 46, 47, 48, 49, 50, 51, 52, 53, 54, 55, 56, 57, 58, 59] (by decide +kernel) (by decide +kernel)
set_option maxRecDepth 20000 in
theorem mg_X10_sign_X10_refuse_204 : GoodIn mwX10_sign (wsV RX10 204 RX10 yX10_refuse mwX10_refuse) := goodIn_r _ [9, 10, 11, 6, 7, 8, 12, 13, 14, 15, 16, 17, 18, 19, 20, 21, 22, 23, 24, 25, 26, 27, 28, 29, 30, 31, 32, 33, 34, 35, 36, 37, 38, 39, 40, 41, 42, 43, 44, 45, 46, 47, 48, 49, 50, 51, 52, 53, 54, 55, 56, 57, 58, 59] (by decide +kernel) (by decide +kernel)
set_option maxHeartbeats 4000000 in
set_option maxRecDepth 100000 in
/-- sign of the reference, new -/
theorem m_sign (l : Launch) (dC : Nat → ClassId) (dI : Nat → Nat → Nat) (y : Nat) (z : Nat → Nat) (mA mT mX mC : ClassId) (sz : Nat) (i0 i1 : Int32) : Met l yX10_sign mwX10_sign ({ frames := 2, cells := 0, slots := 0, locals := 120 }) (va_Pc [.ref y, .int i0, .int i1] (fun U => U.heap.size = sz ∧ va_P (dC, dI) vwCl (mW y z mA mT mX mC) U.heap ∧ va_K (dC, dI) vwCl (mT9 mA mT mX mC) U ∧ va_D (fun _ => True) (mW y z mA mT mX mC))) (va_Qi (fun (o : Int32) (_ : Unit) => o = (-1)) (fun _ _ => True) (va_A (mW y z mA mT mX mC) sz)) 0 0 (va_A (mW y z mA mT mX mC) sz) := by
  refine Met.ofW (cc := cX10_sign) (maxL := 3) (ret := (some .int)) (by decide +kernel) rfl ?_
  intro p e s m args below meth c s₁ B hml hv
  obtain ⟨rfl, hsz, hP, hK, hD0⟩ := hv
  have hx := B.exec
  have hb := B.bytes
  have hr := B.returns
  have hts := atoms_spec (ws := mwX10_sign) B.pre
  have hown : s.vm.findClass RX10 = some m.cls := findClass_of_methodNamed B.named
  have hlocks := B.notSynchronized
  subst hsz
  have hD := hD0.self (sz := s.heap.size)
  generalize hAe : va_A (mW y z mA mT mX mC) s.heap.size = A at hD ⊢
  have hA : ∀ q : Nat, s.heap.size ≤ q → A q := fun q h => by rw [← hAe]; exact Or.inr h
  have hP : va_P (dC, dI) vwCl [(y, .inr (10, mF z 0 0 0 0 0 0 0 0 0 (-1) (-1))), (z 0, .inl (mA, 101660, .inl (fun _ => 0))), (z 1, .inl (mT, 900, .inl (fun _ => 0))), (z 2, .inl (mX, 900, .inl (fun _ => 0))), (z 23, .inl (mC, 17576, .inl (fun _ => 0)))] s.heap := hP
  have hD : va_D A [(y, .inr (10, mF z 0 0 0 0 0 0 0 0 0 (-1) (-1))), (z 0, .inl (mA, 101660, .inl (fun _ => 0))), (z 1, .inl (mT, 900, .inl (fun _ => 0))), (z 2, .inl (mX, 900, .inl (fun _ => 0))), (z 23, .inl (mC, 17576, .inl (fun _ => 0)))] := hD
  have hK : va_K (dC, dI) vwCl [(mA, .int), (mT, .byte), (mX, .byte), (mC, .boolean)] s := hK
  generalize hH : s.heap = H at hP ⊢
  have hS : va_S A s.heap H [] := by rw [← hH]; exact va_S.rf
  have hl := lv_entry ([.ref y, .int i0, .int i1]) (n := 3) (Nat.le_of_ble_eq_true rfl)
  rw [lg_entry_eq]
  generalize (lg_sl ([.ref y, .int i0, .int i1]) ++ List.replicate (3 - (lg_sl ([.ref y, .int i0, .int i1])).length) Slot.unset).toArray = ls at hl ⊢
  have hl : lv_has ls 3 [(0, .ref y), (1, .int i0), (2, .int i1)] := hl
  refine lv_iload_n hx hb dX10_sign_0 rfl (lv_at hl 2 rfl) ?_
  refine lv_if_ge (tgt := 10) hx hb dX10_sign_1 (by decide) (fun k_1 => ?_) (fun k_1 => ?_)
  · refine lv_aload_n hx hb dX10_sign_10 rfl (lv_at hl 0 rfl) ?_
    refine lv_iload_n hx hb dX10_sign_11 rfl (lv_at hl 1 rfl) ?_
    have hPc := hP.sub (ws' := [(y, .inr (10, mF z 0 0 0 0 0 0 0 0 0 (-1) (-1))), (z 0, .inl (mA, 101660, .inl (fun _ => 0)))]) [0, 1] rfl
    have hKc := hK.sub (tys' := [(mA, .int)]) [0] rfl
    refine vp_callSi (W.runV (As := [.int i0]) (rest := []) ⟨hx, hb, hml, hown, hts⟩ (m_isPattern l dC dI y z 0 0 0 0 0 0 0 0 0 (-1) (-1) mA i0) (cwV 1 hts mg_X10_sign_X10_isPattern_458 rfl rfl rfl (by decide +kernel) ⟨Nat.le_of_ble_eq_true rfl, Nat.le_of_ble_eq_true rfl⟩) ⟨fun a U g mk q => by obtain ⟨q0, qP, qK⟩ := q; exact ⟨q0, qP, va_K.moved (u := U) (U := U.calling g mk a) (Vm.Alike.refl U.vm) qK⟩, va_recv hKc hPc (ci := 10) (q0 := 0) rfl rfl, fun U hU hW => ⟨rfl, by rw [hU]; exact hPc, va_K.moved hW.alike hKc⟩⟩ rfl rfl hl.1 rfl (lv_room (Nat.le_of_ble_eq_true rfl)) dX10_sign_12 ⟨Nat.le_of_ble_eq_true rfl, Nat.le_of_ble_eq_true rfl⟩) (fun r_3 hw => ?_)
    subst hw
    refine lv_if_ne (tgt := 24) hx hb dX10_sign_15 (by decide) (fun k_4 => absurd (by decide) k_4) (fun k_4 => ?_)
    refine lv_aload_n hx hb dX10_sign_18 rfl (lv_at hl 0 rfl) ?_
    refine lv_iconst (v := 2) hx hb dX10_sign_19 (by decide) ?_
    have hPc := hP.sub (ws' := [(y, .inr (10, mF z 0 0 0 0 0 0 0 0 0 (-1) (-1)))]) [0] rfl
    have hKc := hK.sub (tys' := []) [] rfl
    have hDc := hD.sub (ws' := [(y, .inr (10, mF z 0 0 0 0 0 0 0 0 0 (-1) (-1)))]) [0] (by decide) rfl
    have hFc := va_free (wc := [(y, .inr (10, mF z 0 0 0 0 0 0 0 0 0 (-1) (-1)))]) hD hS hA [0] rfl
    refine va_calli (va_runV (As := [.int 2]) (rest := []) ⟨hx, hb, hml, hown, hts⟩ (m_refuse l dC dI y z 0 0 0 0 0 0 0 0 0 (-1) (-1) H.size 2) (cwV 1 hts mg_X10_sign_X10_refuse_204 rfl rfl rfl (by decide +kernel) ⟨Nat.le_of_ble_eq_true rfl, Nat.le_of_ble_eq_true rfl⟩) ⟨fun a U g mk q => by obtain ⟨q0, q1, qP, qK, qD⟩ := q; exact ⟨q0, q1, qP, va_K.moved (u := U) (U := U.calling g mk a) (Vm.Alike.refl U.vm) qK, qD⟩, va_recv hKc hPc (ci := 10) (q0 := 0) rfl rfl, fun U hU hW => ⟨rfl, by rw [hU], by rw [hU]; exact hPc, va_K.moved hW.alike hKc, hDc.weaken (fun _ _ _ _ => trivial)⟩⟩ rfl rfl hl.1 rfl (lv_room (Nat.le_of_ble_eq_true rfl)) dX10_sign_20 ⟨Nat.le_of_ble_eq_true rfl, Nat.le_of_ble_eq_true rfl⟩) hS (fun q _ h => hFc q h) hFc (fun r_6 u t H1 locs ht hvm hw hB hz1 hk1 hS => ?_)
    exact W.iret hx hb hr (fun t ht hW => ⟨⟨_, (), rfl, hw, trivial⟩, hS.F ht⟩) hS.2.2 dX10_sign_23
  · refine lv_aload_n hx hb dX10_sign_4 rfl (lv_at hl 0 rfl) ?_
    refine lv_iconst (v := 1) hx hb dX10_sign_5 (by decide) ?_
    have hPc := hP.sub (ws' := [(y, .inr (10, mF z 0 0 0 0 0 0 0 0 0 (-1) (-1)))]) [0] rfl
    have hKc := hK.sub (tys' := []) [] rfl
    have hDc := hD.sub (ws' := [(y, .inr (10, mF z 0 0 0 0 0 0 0 0 0 (-1) (-1)))]) [0] (by decide) rfl
    have hFc := va_free (wc := [(y, .inr (10, mF z 0 0 0 0 0 0 0 0 0 (-1) (-1)))]) hD hS hA [0] rfl
    refine va_calli (va_runV (As := [.int 1]) (rest := []) ⟨hx, hb, hml, hown, hts⟩ (m_refuse l dC dI y z 0 0 0 0 0 0 0 0 0 (-1) (-1) H.size 1) (cwV 1 hts mg_X10_sign_X10_refuse_204 rfl rfl rfl (by decide +kernel) ⟨Nat.le_of_ble_eq_true rfl, Nat.le_of_ble_eq_true rfl⟩) ⟨fun a U g mk q => by obtain ⟨q0, q1, qP, qK, qD⟩ := q; exact ⟨q0, q1, qP, va_K.moved (u := U) (U := U.calling g mk a) (Vm.Alike.refl U.vm) qK, qD⟩, va_recv hKc hPc (ci := 10) (q0 := 0) rfl rfl, fun U hU hW => ⟨rfl, by rw [hU], by rw [hU]; exact hPc, va_K.moved hW.alike hKc, hDc.weaken (fun _ _ _ _ => trivial)⟩⟩ rfl rfl hl.1 rfl (lv_room (Nat.le_of_ble_eq_true rfl)) dX10_sign_6 ⟨Nat.le_of_ble_eq_true rfl, Nat.le_of_ble_eq_true rfl⟩) hS (fun q _ h => hFc q h) hFc (fun r_8 u t H1 locs ht hvm hw hB hz1 hk1 hS => ?_)
    exact W.iret hx hb hr (fun t ht hW => ⟨⟨_, (), rfl, hw, trivial⟩, hS.F ht⟩) hS.2.2 dX10_sign_9
theorem dX10_pattern_0 : decode cX10_pattern 0 = .ok (.iload_n 2, 1) := by decide +kernel
theorem dX10_pattern_1 : decode cX10_pattern 1 = .ok (.iconst 0, 1) := by decide +kernel
theorem dX10_pattern_2 : decode cX10_pattern 2 = .ok (.bipush 7, 2) := by decide +kernel
theorem dX10_pattern_4 : decode cX10_pattern 4 = .ok (.invokestatic 200, 3) := by decide +kernel
theorem dX10_pattern_7 : decode cX10_pattern 7 = .ok (.ifCond .ne 9, 3) := by decide +kernel
theorem dX10_pattern_10 : decode cX10_pattern 10 = .ok (.aload_n 0, 1) := by decide +kernel
theorem dX10_pattern_11 : decode cX10_pattern 11 = .ok (.iconst 1, 1) := by decide +kernel
theorem dX10_pattern_12 : decode cX10_pattern 12 = .ok (.invokevirtual 204, 3) := by decide +kernel
theorem dX10_pattern_15 : decode cX10_pattern 15 = .ok (.ireturn, 1) := by decide +kernel
theorem dX10_pattern_16 : decode cX10_pattern 16 = .ok (.aload_n 0, 1) := by decide +kernel
theorem dX10_pattern_17 : decode cX10_pattern 17 = .ok (.iload_n 1, 1) := by decide +kernel
theorem dX10_pattern_18 : decode cX10_pattern 18 = .ok (.invokevirtual 458, 3) := by decide +kernel
theorem dX10_pattern_21 : decode cX10_pattern 21 = .ok (.ifCond .ne 9, 3) := by decide +kernel
theorem dX10_pattern_24 : decode cX10_pattern 24 = .ok (.aload_n 0, 1) := by decide +kernel
theorem dX10_pattern_25 : decode cX10_pattern 25 = .ok (.iconst 2, 1) := by decide +kernel
theorem dX10_pattern_26 : decode cX10_pattern 26 = .ok (.invokevirtual 204, 3) := by decide +kernel
theorem dX10_pattern_29 : decode cX10_pattern 29 = .ok (.ireturn, 1) := by decide +kernel
def mwX10_pattern : List Cond := .code yX10_pattern cX10_pattern 3 (some .int) :: ([.code yX10_isFrom cX10_isFrom 3 (some .boolean), .methodLink RX10 200 yX10_isFrom, .static yX10_isFrom, .initialized RX10, .code yX10_isPattern cX10_isPattern 2 (some .boolean), .fieldLink RX10 8 "PatternGateModel" "all" "[I", .methodLink RX10 458 yX10_isPattern, .instanceMethod yX10_isPattern, .selects RX10 yX10_isPattern yX10_isPattern, .code yX10_refuse cX10_refuse 2 (some .int), .fieldLink RX10 104 "PatternGateModel" "status" "I", .methodLink RX10 204 yX10_refuse, .instanceMethod yX10_refuse, .selects RX10 yX10_refuse yX10_refuse] ++ wsX100)
set_option maxRecDepth 20000 in
theorem mg_X10_pattern_X10_isFrom_200 : GoodIn mwX10_pattern (va_wsS RX10 200 yX10_isFrom mwX10_isFrom) := goodIn_r _ [2, 3, 4, 1] (by decide +kernel) (by decide +kernel)
set_option maxRecDepth 20000 in
theorem mg_X10_pattern_X10_isPattern_458 : GoodIn mwX10_pattern (wsV RX10 458 RX10 yX10_isPattern mwX10_isPattern) := goodIn_r _ [7, 8, 9, 4, 5, 6, 15, 16, 17, 18, 19, 20, 21, 22, 23, 24, 25, 26, 27, 28, 29, 30, 31, 32, 33, 34, 35, 36, 37, 38, 39, 40, 41, 42, 43, 44, 45, 46, 47, 48, 49, 50, 51, 52, 53, 54, 55, 56, 57, 58, 59, 60, 61, 62] (by decide +kernel) (by decide +kernel)
set_option maxRecDepth 20000 in
theorem mg_X10_pattern_X10_refuse_204 : GoodIn mwX10_pattern (wsV RX10 204 RX10 yX10_refuse mwX10_refuse) := goodIn_r _ [12, 13, 14, 4, 10, 11, 15, 16, 17, 18, 19, 20, 21, 22, 23, 24, 25, 26, 27, 28, 29, 30, 31, 32, 33, 34, 35, 36, 37, 38, 39, 40, 41, 42, 43, 44, 45, 46, 47, 48, 49, 50, 51, 52, 53, 54, 55, 56, 57, 58, 59, 60, 61, 62] (by decide +kernel) (by decide +kernel)
set_option maxHeartbeats 4000000 in
set_option maxRecDepth 100000 in
/-- pattern of the reference, new -/
theorem m_pattern (l : Launch) (dC : Nat → ClassId) (dI : Nat → Nat → Nat) (y : Nat) (z : Nat → Nat) (mA mT mX mC : ClassId) (sz : Nat) (i0 i1 : Int32) : Met l yX10_pattern mwX10_pattern ({ frames := 2, cells := 0, slots := 0, locals := 120 }) (va_Pc [.ref y, .int i0, .int i1] (fun U => U.heap.size = sz ∧ va_P (dC, dI) vwCl (mW y z mA mT mX mC) U.heap ∧ va_K (dC, dI) vwCl (mT9 mA mT mX mC) U ∧ va_D (fun _ => True) (mW y z mA mT mX mC))) (va_Qi (fun (o : Int32) (_ : Unit) => o = (-1)) (fun _ _ => True) (va_A (mW y z mA mT mX mC) sz)) 0 0 (va_A (mW y z mA mT mX mC) sz) := by
  refine Met.ofW (cc := cX10_pattern) (maxL := 3) (ret := (some .int)) (by decide +kernel) rfl ?_
  intro p e s m args below meth c s₁ B hml hv
  obtain ⟨rfl, hsz, hP, hK, hD0⟩ := hv
  have hx := B.exec
  have hb := B.bytes
  have hr := B.returns
  have hts := atoms_spec (ws := mwX10_pattern) B.pre
  have hown : s.vm.findClass RX10 = some m.cls := findClass_of_methodNamed B.named
  have hlocks := B.notSynchronized
  subst hsz
  have hD := hD0.self (sz := s.heap.size)
  generalize hAe : va_A (mW y z mA mT mX mC) s.heap.size = A at hD ⊢
  have hA : ∀ q : Nat, s.heap.size ≤ q → A q := fun q h => by rw [← hAe]; exact Or.inr h
  have hP : va_P (dC, dI) vwCl [(y, .inr (10, mF z 0 0 0 0 0 0 0 0 0 (-1) (-1))), (z 0, .inl (mA, 101660, .inl (fun _ => 0))), (z 1, .inl (mT, 900, .inl (fun _ => 0))), (z 2, .inl (mX, 900, .inl (fun _ => 0))), (z 23, .inl (mC, 17576, .inl (fun _ => 0)))] s.heap := hP
  have hD : va_D A [(y, .inr (10, mF z 0 0 0 0 0 0 0 0 0 (-1) (-1))), (z 0, .inl (mA, 101660, .inl (fun _ => 0))), (z 1, .inl (mT, 900, .inl (fun _ => 0))), (z 2, .inl (mX, 900, .inl (fun _ => 0))), (z 23, .inl (mC, 17576, .inl (fun _ => 0)))] := hD
  have hK : va_K (dC, dI) vwCl [(mA, .int), (mT, .byte), (mX, .byte), (mC, .boolean)] s := hK
  generalize hH : s.heap = H at hP ⊢
  have hS : va_S A s.heap H [] := by rw [← hH]; exact va_S.rf
  have hl := lv_entry ([.ref y, .int i0, .int i1]) (n := 3) (Nat.le_of_ble_eq_true rfl)
  rw [lg_entry_eq]
  generalize (lg_sl ([.ref y, .int i0, .int i1]) ++ List.replicate (3 - (lg_sl ([.ref y, .int i0, .int i1])).length) Slot.unset).toArray = ls at hl ⊢
  have hl : lv_has ls 3 [(0, .ref y), (1, .int i0), (2, .int i1)] := hl
  refine lv_iload_n hx hb dX10_pattern_0 rfl (lv_at hl 2 rfl) ?_
  refine lv_iconst (v := 0) hx hb dX10_pattern_1 (by decide) ?_
  refine lv_bipush (v := 7) hx hb dX10_pattern_2 (by decide) ?_
  refine vp_callSi (W.runS (As := [.int i1, .int 0, .int 7]) (rest := []) ⟨hx, hb, hml, hown, hts⟩ (m_isFrom l dC dI i1 0 7) (va_cwS 3 hts mg_X10_pattern_X10_isFrom_200 rfl rfl rfl (by decide +kernel) ⟨Nat.le_of_ble_eq_true rfl, Nat.le_of_ble_eq_true rfl⟩) ⟨fun a U g mk q => ⟨q.1, trivial⟩, fun U hU hW => ⟨rfl, trivial⟩⟩ rfl rfl hl.1 rfl (lv_room (Nat.le_of_ble_eq_true rfl)) dX10_pattern_4 ⟨Nat.le_of_ble_eq_true rfl, Nat.le_of_ble_eq_true rfl⟩) (fun r_2 hw => ?_)
  rcases hw with ⟨rfl, hF1, hF2⟩ | ⟨rfl, hF3⟩
  · refine lv_if_ne (tgt := 16) hx hb dX10_pattern_7 (by decide) (fun k_3 => ?_) (fun k_3 => absurd k_3 (by decide))
    refine lv_aload_n hx hb dX10_pattern_16 rfl (lv_at hl 0 rfl) ?_
    refine lv_iload_n hx hb dX10_pattern_17 rfl (lv_at hl 1 rfl) ?_
    have hPc := hP.sub (ws' := [(y, .inr (10, mF z 0 0 0 0 0 0 0 0 0 (-1) (-1))), (z 0, .inl (mA, 101660, .inl (fun _ => 0)))]) [0, 1] rfl
    have hKc := hK.sub (tys' := [(mA, .int)]) [0] rfl
    refine vp_callSi (W.runV (As := [.int i0]) (rest := []) ⟨hx, hb, hml, hown, hts⟩ (m_isPattern l dC dI y z 0 0 0 0 0 0 0 0 0 (-1) (-1) mA i0) (cwV 1 hts mg_X10_pattern_X10_isPattern_458 rfl rfl rfl (by decide +kernel) ⟨Nat.le_of_ble_eq_true rfl, Nat.le_of_ble_eq_true rfl⟩) ⟨fun a U g mk q => by obtain ⟨q0, qP, qK⟩ := q; exact ⟨q0, qP, va_K.moved (u := U) (U := U.calling g mk a) (Vm.Alike.refl U.vm) qK⟩, va_recv hKc hPc (ci := 10) (q0 := 0) rfl rfl, fun U hU hW => ⟨rfl, by rw [hU]; exact hPc, va_K.moved hW.alike hKc⟩⟩ rfl rfl hl.1 rfl (lv_room (Nat.le_of_ble_eq_true rfl)) dX10_pattern_18 ⟨Nat.le_of_ble_eq_true rfl, Nat.le_of_ble_eq_true rfl⟩) (fun r_5 hw => ?_)
    subst hw
    refine lv_if_ne (tgt := 30) hx hb dX10_pattern_21 (by decide) (fun k_6 => absurd (by decide) k_6) (fun k_6 => ?_)
    refine lv_aload_n hx hb dX10_pattern_24 rfl (lv_at hl 0 rfl) ?_
    refine lv_iconst (v := 2) hx hb dX10_pattern_25 (by decide) ?_
    have hPc := hP.sub (ws' := [(y, .inr (10, mF z 0 0 0 0 0 0 0 0 0 (-1) (-1)))]) [0] rfl
    have hKc := hK.sub (tys' := []) [] rfl
    have hDc := hD.sub (ws' := [(y, .inr (10, mF z 0 0 0 0 0 0 0 0 0 (-1) (-1)))]) [0] (by decide) rfl
    have hFc := va_free (wc := [(y, .inr (10, mF z 0 0 0 0 0 0 0 0 0 (-1) (-1)))]) hD hS hA [0] rfl
    refine va_calli (va_runV (As := [.int 2]) (rest := []) ⟨hx, hb, hml, hown, hts⟩ (m_refuse l dC dI y z 0 0 0 0 0 0 0 0 0 (-1) (-1) H.size 2) (cwV 1 hts mg_X10_pattern_X10_refuse_204 rfl rfl rfl (by decide +kernel) ⟨Nat.le_of_ble_eq_true rfl, Nat.le_of_ble_eq_true rfl⟩) ⟨fun a U g mk q => by obtain ⟨q0, q1, qP, qK, qD⟩ := q; exact ⟨q0, q1, qP, va_K.moved (u := U) (U := U.calling g mk a) (Vm.Alike.refl U.vm) qK, qD⟩, va_recv hKc hPc (ci := 10) (q0 := 0) rfl rfl, fun U hU hW => ⟨rfl, by rw [hU], by rw [hU]; exact hPc, va_K.moved hW.alike hKc, hDc.weaken (fun _ _ _ _ => trivial)⟩⟩ rfl rfl hl.1 rfl (lv_room (Nat.le_of_ble_eq_true rfl)) dX10_pattern_26 ⟨Nat.le_of_ble_eq_true rfl, Nat.le_of_ble_eq_true rfl⟩) hS (fun q _ h => hFc q h) hFc (fun r_8 u t H1 locs ht hvm hw hB hz1 hk1 hS => ?_)
    exact W.iret hx hb hr (fun t ht hW => ⟨⟨_, (), rfl, hw, trivial⟩, hS.F ht⟩) hS.2.2 dX10_pattern_29
  · refine lv_if_ne (tgt := 16) hx hb dX10_pattern_7 (by decide) (fun k_9 => absurd (by decide) k_9) (fun k_9 => ?_)
    refine lv_aload_n hx hb dX10_pattern_10 rfl (lv_at hl 0 rfl) ?_
    refine lv_iconst (v := 1) hx hb dX10_pattern_11 (by decide) ?_
    have hPc := hP.sub (ws' := [(y, .inr (10, mF z 0 0 0 0 0 0 0 0 0 (-1) (-1)))]) [0] rfl
    have hKc := hK.sub (tys' := []) [] rfl
    have hDc := hD.sub (ws' := [(y, .inr (10, mF z 0 0 0 0 0 0 0 0 0 (-1) (-1)))]) [0] (by decide) rfl
    have hFc := va_free (wc := [(y, .inr (10, mF z 0 0 0 0 0 0 0 0 0 (-1) (-1)))]) hD hS hA [0] rfl
    refine va_calli (va_runV (As := [.int 1]) (rest := []) ⟨hx, hb, hml, hown, hts⟩ (m_refuse l dC dI y z 0 0 0 0 0 0 0 0 0 (-1) (-1) H.size 1) (cwV 1 hts mg_X10_pattern_X10_refuse_204 rfl rfl rfl (by decide +kernel) ⟨Nat.le_of_ble_eq_true rfl, Nat.le_of_ble_eq_true rfl⟩) ⟨fun a U g mk q => by obtain ⟨q0, q1, qP, qK, qD⟩ := q; exact ⟨q0, q1, qP, va_K.moved (u := U) (U := U.calling g mk a) (Vm.Alike.refl U.vm) qK, qD⟩, va_recv hKc hPc (ci := 10) (q0 := 0) rfl rfl, fun U hU hW => ⟨rfl, by rw [hU], by rw [hU]; exact hPc, va_K.moved hW.alike hKc, hDc.weaken (fun _ _ _ _ => trivial)⟩⟩ rfl rfl hl.1 rfl (lv_room (Nat.le_of_ble_eq_true rfl)) dX10_pattern_12 ⟨Nat.le_of_ble_eq_true rfl, Nat.le_of_ble_eq_true rfl⟩) hS (fun q _ h => hFc q h) hFc (fun r_11 u t H1 locs ht hvm hw hB hz1 hk1 hS => ?_)
    exact W.iret hx hb hr (fun t ht hW => ⟨⟨_, (), rfl, hw, trivial⟩, hS.F ht⟩) hS.2.2 dX10_pattern_15
theorem dX10_exact_0 : decode cX10_exact 0 = .ok (.iload_n 2, 1) := by decide +kernel
theorem dX10_exact_1 : decode cX10_exact 1 = .ok (.ifCond .lt 7, 3) := by decide +kernel
theorem dX10_exact_4 : decode cX10_exact 4 = .ok (.iload_n 3, 1) := by decide +kernel
theorem dX10_exact_5 : decode cX10_exact 5 = .ok (.ifCond .ge 9, 3) := by decide +kernel
theorem dX10_exact_8 : decode cX10_exact 8 = .ok (.aload_n 0, 1) := by decide +kernel
theorem dX10_exact_9 : decode cX10_exact 9 = .ok (.iconst 1, 1) := by decide +kernel
theorem dX10_exact_10 : decode cX10_exact 10 = .ok (.invokevirtual 204, 3) := by decide +kernel
theorem dX10_exact_13 : decode cX10_exact 13 = .ok (.ireturn, 1) := by decide +kernel
theorem dX10_exact_14 : decode cX10_exact 14 = .ok (.aload_n 0, 1) := by decide +kernel
theorem dX10_exact_15 : decode cX10_exact 15 = .ok (.iload_n 1, 1) := by decide +kernel
theorem dX10_exact_16 : decode cX10_exact 16 = .ok (.invokevirtual 458, 3) := by decide +kernel
theorem dX10_exact_19 : decode cX10_exact 19 = .ok (.ifCond .ne 9, 3) := by decide +kernel
theorem dX10_exact_22 : decode cX10_exact 22 = .ok (.aload_n 0, 1) := by decide +kernel
theorem dX10_exact_23 : decode cX10_exact 23 = .ok (.iconst 2, 1) := by decide +kernel
theorem dX10_exact_24 : decode cX10_exact 24 = .ok (.invokevirtual 204, 3) := by decide +kernel
theorem dX10_exact_27 : decode cX10_exact 27 = .ok (.ireturn, 1) := by decide +kernel
def mwX10_exact : List Cond := .code yX10_exact cX10_exact 4 (some .int) :: ([.code yX10_refuse cX10_refuse 2 (some .int), .fieldLink RX10 104 "PatternGateModel" "status" "I", .methodLink RX10 204 yX10_refuse, .instanceMethod yX10_refuse, .selects RX10 yX10_refuse yX10_refuse, .initialized RX10, .code yX10_isPattern cX10_isPattern 2 (some .boolean), .fieldLink RX10 8 "PatternGateModel" "all" "[I", .methodLink RX10 458 yX10_isPattern, .instanceMethod yX10_isPattern, .selects RX10 yX10_isPattern yX10_isPattern] ++ wsX100)
set_option maxRecDepth 20000 in
theorem mg_X10_exact_X10_refuse_204 : GoodIn mwX10_exact (wsV RX10 204 RX10 yX10_refuse mwX10_refuse) := goodIn_r _ [3, 4, 5, 6, 1, 2, 12, 13, 14, 15, 16, 17, 18, 19, 20, 21, 22, 23, 24, 25, 26, 27, 28, 29, 30, 31, 32, 33, 34, 35, 36, 37, 38, 39, 40, 41, 42, 43, 44, 45, 46, 47, 48, 49, 50, 51, 52, 53, 54, 55, 56, 57, 58, 59] (by decide +kernel) (by decide +kernel)
set_option maxRecDepth 20000 in
theorem mg_X10_exact_X10_isPattern_458 : GoodIn mwX10_exact (wsV RX10 458 RX10 yX10_isPattern mwX10_isPattern) := goodIn_r _ [9, 10, 11, 6, 7, 8, 12, 13, 14, 15, 16, 17, 18, 19, 20, 21, 22, 23, 24, 25, 26, 27, 28, 29, 30, 31, 32, 33, 34, 35, 36, 37, 38, 39, 40, 41, 42, 43, 44, 45, 46, 47, 48, 49, 50, 51, 52, 53, 54, 55, 56, 57, 58, 59] (by decide +kernel) (by decide +kernel)
set_option maxHeartbeats 4000000 in
set_option maxRecDepth 100000 in
/-- exact of the reference, new -/
theorem m_exact (l : Launch) (dC : Nat → ClassId) (dI : Nat → Nat → Nat) (y : Nat) (z : Nat → Nat) (mA mT mX mC : ClassId) (sz : Nat) (i0 i1 i2 : Int32) : Met l yX10_exact mwX10_exact ({ frames := 2, cells := 0, slots := 0, locals := 120 }) (va_Pc [.ref y, .int i0, .int i1, .int i2] (fun U => U.heap.size = sz ∧ va_P (dC, dI) vwCl (mW y z mA mT mX mC) U.heap ∧ va_K (dC, dI) vwCl (mT9 mA mT mX mC) U ∧ va_D (fun _ => True) (mW y z mA mT mX mC))) (va_Qi (fun (o : Int32) (_ : Unit) => o = (-1)) (fun _ _ => True) (va_A (mW y z mA mT mX mC) sz)) 0 0 (va_A (mW y z mA mT mX mC) sz) := by
  refine Met.ofW (cc := cX10_exact) (maxL := 4) (ret := (some .int)) (by decide +kernel) rfl ?_
  intro p e s m args below meth c s₁ B hml hv
  obtain ⟨rfl, hsz, hP, hK, hD0⟩ := hv
  have hx := B.exec
  have hb := B.bytes
  have hr := B.returns
  have hts := atoms_spec (ws := mwX10_exact) B.pre
  have hown : s.vm.findClass RX10 = some m.cls := findClass_of_methodNamed B.named
  have hlocks := B.notSynchronized
  subst hsz
  have hD := hD0.self (sz := s.heap.size)
  generalize hAe : va_A (mW y z mA mT mX mC) s.heap.size = A at hD ⊢
  have hA : ∀ q : Nat, s.heap.size ≤ q → A q := fun q h => by rw [← hAe]; exact Or.inr h
  have hP : va_P (dC, dI) vwCl [(y, .inr (10, mF z 0 0 0 0 0 0 0 0 0 (-1) (-1))), (z 0, .inl (mA, 101660, .inl (fun _ => 0))), (z 1, .inl (mT, 900, .inl (fun _ => 0))), (z 2, .inl (mX, 900, .inl (fun _ => 0))), (z 23, .inl (mC, 17576, .inl (fun _ => 0)))] s.heap := hP
  have hD : va_D A [(y, .inr (10, mF z 0 0 0 0 0 0 0 0 0 (-1) (-1))), (z 0, .inl (mA, 101660, .inl (fun _ => 0))), (z 1, .inl (mT, 900, .inl (fun _ => 0))), (z 2, .inl (mX, 900, .inl (fun _ => 0))), (z 23, .inl (mC, 17576, .inl (fun _ => 0)))] := hD
  have hK : va_K (dC, dI) vwCl [(mA, .int), (mT, .byte), (mX, .byte), (mC, .boolean)] s := hK
  generalize hH : s.heap = H at hP ⊢
  have hS : va_S A s.heap H [] := by rw [← hH]; exact va_S.rf
  have hl := lv_entry ([.ref y, .int i0, .int i1, .int i2]) (n := 4) (Nat.le_of_ble_eq_true rfl)
  rw [lg_entry_eq]
  generalize (lg_sl ([.ref y, .int i0, .int i1, .int i2]) ++ List.replicate (4 - (lg_sl ([.ref y, .int i0, .int i1, .int i2])).length) Slot.unset).toArray = ls at hl ⊢
  have hl : lv_has ls 4 [(0, .ref y), (1, .int i0), (2, .int i1), (3, .int i2)] := hl
  refine lv_iload_n hx hb dX10_exact_0 rfl (lv_at hl 2 rfl) ?_
  refine lv_if_lt (tgt := 8) hx hb dX10_exact_1 (by decide) (fun k_1 => ?_) (fun k_1 => ?_)
  · refine lv_aload_n hx hb dX10_exact_8 rfl (lv_at hl 0 rfl) ?_
    refine lv_iconst (v := 1) hx hb dX10_exact_9 (by decide) ?_
    have hPc := hP.sub (ws' := [(y, .inr (10, mF z 0 0 0 0 0 0 0 0 0 (-1) (-1)))]) [0] rfl
    have hKc := hK.sub (tys' := []) [] rfl
    have hDc := hD.sub (ws' := [(y, .inr (10, mF z 0 0 0 0 0 0 0 0 0 (-1) (-1)))]) [0] (by decide) rfl
    have hFc := va_free (wc := [(y, .inr (10, mF z 0 0 0 0 0 0 0 0 0 (-1) (-1)))]) hD hS hA [0] rfl
    refine va_calli (va_runV (As := [.int 1]) (rest := []) ⟨hx, hb, hml, hown, hts⟩ (m_refuse l dC dI y z 0 0 0 0 0 0 0 0 0 (-1) (-1) H.size 1) (cwV 1 hts mg_X10_exact_X10_refuse_204 rfl rfl rfl (by decide +kernel) ⟨Nat.le_of_ble_eq_true rfl, Nat.le_of_ble_eq_true rfl⟩) ⟨fun a U g mk q => by obtain ⟨q0, q1, qP, qK, qD⟩ := q; exact ⟨q0, q1, qP, va_K.moved (u := U) (U := U.calling g mk a) (Vm.Alike.refl U.vm) qK, qD⟩, va_recv hKc hPc (ci := 10) (q0 := 0) rfl rfl, fun U hU hW => ⟨rfl, by rw [hU], by rw [hU]; exact hPc, va_K.moved hW.alike hKc, hDc.weaken (fun _ _ _ _ => trivial)⟩⟩ rfl rfl hl.1 rfl (lv_room (Nat.le_of_ble_eq_true rfl)) dX10_exact_10 ⟨Nat.le_of_ble_eq_true rfl, Nat.le_of_ble_eq_true rfl⟩) hS (fun q _ h => hFc q h) hFc (fun r_3 u t H1 locs ht hvm hw hB hz1 hk1 hS => ?_)
    exact W.iret hx hb hr (fun t ht hW => ⟨⟨_, (), rfl, hw, trivial⟩, hS.F ht⟩) hS.2.2 dX10_exact_13
  · refine lv_iload_n hx hb dX10_exact_4 rfl (lv_at hl 3 rfl) ?_
    refine lv_if_ge (tgt := 14) hx hb dX10_exact_5 (by decide) (fun k_4 => ?_) (fun k_4 => ?_)
    · refine lv_aload_n hx hb dX10_exact_14 rfl (lv_at hl 0 rfl) ?_
      refine lv_iload_n hx hb dX10_exact_15 rfl (lv_at hl 1 rfl) ?_
      have hPc := hP.sub (ws' := [(y, .inr (10, mF z 0 0 0 0 0 0 0 0 0 (-1) (-1))), (z 0, .inl (mA, 101660, .inl (fun _ => 0)))]) [0, 1] rfl
      have hKc := hK.sub (tys' := [(mA, .int)]) [0] rfl
      refine vp_callSi (W.runV (As := [.int i0]) (rest := []) ⟨hx, hb, hml, hown, hts⟩ (m_isPattern l dC dI y z 0 0 0 0 0 0 0 0 0 (-1) (-1) mA i0) (cwV 1 hts mg_X10_exact_X10_isPattern_458 rfl rfl rfl (by decide +kernel) ⟨Nat.le_of_ble_eq_true rfl, Nat.le_of_ble_eq_true rfl⟩) ⟨fun a U g mk q => by obtain ⟨q0, qP, qK⟩ := q; exact ⟨q0, qP, va_K.moved (u := U) (U := U.calling g mk a) (Vm.Alike.refl U.vm) qK⟩, va_recv hKc hPc (ci := 10) (q0 := 0) rfl rfl, fun U hU hW => ⟨rfl, by rw [hU]; exact hPc, va_K.moved hW.alike hKc⟩⟩ rfl rfl hl.1 rfl (lv_room (Nat.le_of_ble_eq_true rfl)) dX10_exact_16 ⟨Nat.le_of_ble_eq_true rfl, Nat.le_of_ble_eq_true rfl⟩) (fun r_6 hw => ?_)
      subst hw
      refine lv_if_ne (tgt := 28) hx hb dX10_exact_19 (by decide) (fun k_7 => absurd (by decide) k_7) (fun k_7 => ?_)
      refine lv_aload_n hx hb dX10_exact_22 rfl (lv_at hl 0 rfl) ?_
      refine lv_iconst (v := 2) hx hb dX10_exact_23 (by decide) ?_
      have hPc := hP.sub (ws' := [(y, .inr (10, mF z 0 0 0 0 0 0 0 0 0 (-1) (-1)))]) [0] rfl
      have hKc := hK.sub (tys' := []) [] rfl
      have hDc := hD.sub (ws' := [(y, .inr (10, mF z 0 0 0 0 0 0 0 0 0 (-1) (-1)))]) [0] (by decide) rfl
      have hFc := va_free (wc := [(y, .inr (10, mF z 0 0 0 0 0 0 0 0 0 (-1) (-1)))]) hD hS hA [0] rfl
      refine va_calli (va_runV (As := [.int 2]) (rest := []) ⟨hx, hb, hml, hown, hts⟩ (m_refuse l dC dI y z 0 0 0 0 0 0 0 0 0 (-1) (-1) H.size 2) (cwV 1 hts mg_X10_exact_X10_refuse_204 rfl rfl rfl (by decide +kernel) ⟨Nat.le_of_ble_eq_true rfl, Nat.le_of_ble_eq_true rfl⟩) ⟨fun a U g mk q => by obtain ⟨q0, q1, qP, qK, qD⟩ := q; exact ⟨q0, q1, qP, va_K.moved (u := U) (U := U.calling g mk a) (Vm.Alike.refl U.vm) qK, qD⟩, va_recv hKc hPc (ci := 10) (q0 := 0) rfl rfl, fun U hU hW => ⟨rfl, by rw [hU], by rw [hU]; exact hPc, va_K.moved hW.alike hKc, hDc.weaken (fun _ _ _ _ => trivial)⟩⟩ rfl rfl hl.1 rfl (lv_room (Nat.le_of_ble_eq_true rfl)) dX10_exact_24 ⟨Nat.le_of_ble_eq_true rfl, Nat.le_of_ble_eq_true rfl⟩) hS (fun q _ h => hFc q h) hFc (fun r_9 u t H1 locs ht hvm hw hB hz1 hk1 hS => ?_)
      exact W.iret hx hb hr (fun t ht hW => ⟨⟨_, (), rfl, hw, trivial⟩, hS.F ht⟩) hS.2.2 dX10_exact_27
    · refine lv_aload_n hx hb dX10_exact_8 rfl (lv_at hl 0 rfl) ?_
      refine lv_iconst (v := 1) hx hb dX10_exact_9 (by decide) ?_
      have hPc := hP.sub (ws' := [(y, .inr (10, mF z 0 0 0 0 0 0 0 0 0 (-1) (-1)))]) [0] rfl
      have hKc := hK.sub (tys' := []) [] rfl
      have hDc := hD.sub (ws' := [(y, .inr (10, mF z 0 0 0 0 0 0 0 0 0 (-1) (-1)))]) [0] (by decide) rfl
      have hFc := va_free (wc := [(y, .inr (10, mF z 0 0 0 0 0 0 0 0 0 (-1) (-1)))]) hD hS hA [0] rfl
      refine va_calli (va_runV (As := [.int 1]) (rest := []) ⟨hx, hb, hml, hown, hts⟩ (m_refuse l dC dI y z 0 0 0 0 0 0 0 0 0 (-1) (-1) H.size 1) (cwV 1 hts mg_X10_exact_X10_refuse_204 rfl rfl rfl (by decide +kernel) ⟨Nat.le_of_ble_eq_true rfl, Nat.le_of_ble_eq_true rfl⟩) ⟨fun a U g mk q => by obtain ⟨q0, q1, qP, qK, qD⟩ := q; exact ⟨q0, q1, qP, va_K.moved (u := U) (U := U.calling g mk a) (Vm.Alike.refl U.vm) qK, qD⟩, va_recv hKc hPc (ci := 10) (q0 := 0) rfl rfl, fun U hU hW => ⟨rfl, by rw [hU], by rw [hU]; exact hPc, va_K.moved hW.alike hKc, hDc.weaken (fun _ _ _ _ => trivial)⟩⟩ rfl rfl hl.1 rfl (lv_room (Nat.le_of_ble_eq_true rfl)) dX10_exact_10 ⟨Nat.le_of_ble_eq_true rfl, Nat.le_of_ble_eq_true rfl⟩) hS (fun q _ h => hFc q h) hFc (fun r_11 u t H1 locs ht hvm hw hB hz1 hk1 hS => ?_)
      exact W.iret hx hb hr (fun t ht hW => ⟨⟨_, (), rfl, hw, trivial⟩, hS.F ht⟩) hS.2.2 dX10_exact_13
theorem dX10_need_0 : decode cX10_need 0 = .ok (.iload_n 2, 1) := by decide +kernel
theorem dX10_need_1 : decode cX10_need 1 = .ok (.ifCond .lt 7, 3) := by decide +kernel
theorem dX10_need_4 : decode cX10_need 4 = .ok (.iload_n 3, 1) := by decide +kernel
theorem dX10_need_5 : decode cX10_need 5 = .ok (.ifCond .ge 9, 3) := by decide +kernel
theorem dX10_need_8 : decode cX10_need 8 = .ok (.aload_n 0, 1) := by decide +kernel
theorem dX10_need_9 : decode cX10_need 9 = .ok (.iconst 1, 1) := by decide +kernel
theorem dX10_need_10 : decode cX10_need 10 = .ok (.invokevirtual 204, 3) := by decide +kernel
theorem dX10_need_13 : decode cX10_need 13 = .ok (.ireturn, 1) := by decide +kernel
theorem dX10_need_14 : decode cX10_need 14 = .ok (.aload_n 0, 1) := by decide +kernel
theorem dX10_need_15 : decode cX10_need 15 = .ok (.iload_n 1, 1) := by decide +kernel
theorem dX10_need_16 : decode cX10_need 16 = .ok (.invokevirtual 458, 3) := by decide +kernel
theorem dX10_need_19 : decode cX10_need 19 = .ok (.ifCond .ne 9, 3) := by decide +kernel
theorem dX10_need_22 : decode cX10_need 22 = .ok (.aload_n 0, 1) := by decide +kernel
theorem dX10_need_23 : decode cX10_need 23 = .ok (.iconst 2, 1) := by decide +kernel
theorem dX10_need_24 : decode cX10_need 24 = .ok (.invokevirtual 204, 3) := by decide +kernel
theorem dX10_need_27 : decode cX10_need 27 = .ok (.ireturn, 1) := by decide +kernel
def mwX10_need : List Cond := .code yX10_need cX10_need 4 (some .int) :: ([.code yX10_refuse cX10_refuse 2 (some .int), .fieldLink RX10 104 "PatternGateModel" "status" "I", .methodLink RX10 204 yX10_refuse, .instanceMethod yX10_refuse, .selects RX10 yX10_refuse yX10_refuse, .initialized RX10, .code yX10_isPattern cX10_isPattern 2 (some .boolean), .fieldLink RX10 8 "PatternGateModel" "all" "[I", .methodLink RX10 458 yX10_isPattern, .instanceMethod yX10_isPattern, .selects RX10 yX10_isPattern yX10_isPattern] ++ wsX100)
set_option maxRecDepth 20000 in
theorem mg_X10_need_X10_refuse_204 : GoodIn mwX10_need (wsV RX10 204 RX10 yX10_refuse mwX10_refuse) := goodIn_r _ [3, 4, 5, 6, 1, 2, 12, 13, 14, 15, 16, 17, 18, 19, 20, 21, 22, 23, 24, 25, 26, 27, 28, 29, 30, 31, 32, 33, 34, 35, 36, 37, 38, 39, 40, 41, 42, 43, 44, 45, 46, 47, 48, 49, 50, 51, 52, 53, 54, 55, 56, 57, 58, 59] (by decide +kernel) (by decide +kernel)
set_option maxRecDepth 20000 in
theorem mg_X10_need_X10_isPattern_458 : GoodIn mwX10_need (wsV RX10 458 RX10 yX10_isPattern mwX10_isPattern) := goodIn_r _ [9, 10, 11, 6, 7, 8, 12, 13, 14, 15, 16, 17, 18, 19, 20, 21, 22, 23, 24, 25, 26, 27, 28, 29, 30, 31, 32, 33, 34, 35, 36, 37, 38, 39, 40, 41, 42, 43, 44, 45, 46, 47, 48, 49, 50, 51, 52, 53, 54, 55, 56, 57, 58, 59] (by decide +kernel) (by decide +kernel)
set_option maxHeartbeats 4000000 in
set_option maxRecDepth 100000 in
/-- need of the reference, new -/
theorem m_need (l : Launch) (dC : Nat → ClassId) (dI : Nat → Nat → Nat) (y : Nat) (z : Nat → Nat) (mA mT mX mC : ClassId) (sz : Nat) (i0 i1 i2 : Int32) : Met l yX10_need mwX10_need ({ frames := 2, cells := 0, slots := 0, locals := 120 }) (va_Pc [.ref y, .int i0, .int i1, .int i2] (fun U => U.heap.size = sz ∧ va_P (dC, dI) vwCl (mW y z mA mT mX mC) U.heap ∧ va_K (dC, dI) vwCl (mT9 mA mT mX mC) U ∧ va_D (fun _ => True) (mW y z mA mT mX mC))) (va_Qi (fun (o : Int32) (_ : Unit) => o = (-1)) (fun _ _ => True) (va_A (mW y z mA mT mX mC) sz)) 0 0 (va_A (mW y z mA mT mX mC) sz) := by
  refine Met.ofW (cc := cX10_need) (maxL := 4) (ret := (some .int)) (by decide +kernel) rfl ?_
  intro p e s m args below meth c s₁ B hml hv
  obtain ⟨rfl, hsz, hP, hK, hD0⟩ := hv
  have hx := B.exec
  have hb := B.bytes
  have hr := B.returns
  have hts := atoms_spec (ws := mwX10_need) B.pre
  have hown : s.vm.findClass RX10 = some m.cls := findClass_of_methodNamed B.named
  have hlocks := B.notSynchronized
  subst hsz
  have hD := hD0.self (sz := s.heap.size)
  generalize hAe : va_A (mW y z mA mT mX mC) s.heap.size = A at hD ⊢
  have hA : ∀ q : Nat, s.heap.size ≤ q → A q := fun q h => by rw [← hAe]; exact Or.inr h
  have hP : va_P (dC, dI) vwCl [(y, .inr (10, mF z 0 0 0 0 0 0 0 0 0 (-1) (-1))), (z 0, .inl (mA, 101660, .inl (fun _ => 0))), (z 1, .inl (mT, 900, .inl (fun _ => 0))), (z 2, .inl (mX, 900, .inl (fun _ => 0))), (z 23, .inl (mC, 17576, .inl (fun _ => 0)))] s.heap := hP
  have hD : va_D A [(y, .inr (10, mF z 0 0 0 0 0 0 0 0 0 (-1) (-1))), (z 0, .inl (mA, 101660, .inl (fun _ => 0))), (z 1, .inl (mT, 900, .inl (fun _ => 0))), (z 2, .inl (mX, 900, .inl (fun _ => 0))), (z 23, .inl (mC, 17576, .inl (fun _ => 0)))] := hD
  have hK : va_K (dC, dI) vwCl [(mA, .int), (mT, .byte), (mX, .byte), (mC, .boolean)] s := hK
  generalize hH : s.heap = H at hP ⊢
  have hS : va_S A s.heap H [] := by rw [← hH]; exact va_S.rf
  have hl := lv_entry ([.ref y, .int i0, .int i1, .int i2]) (n := 4) (Nat.le_of_ble_eq_true rfl)
  rw [lg_entry_eq]
  generalize (lg_sl ([.ref y, .int i0, .int i1, .int i2]) ++ List.replicate (4 - (lg_sl ([.ref y, .int i0, .int i1, .int i2])).length) Slot.unset).toArray = ls at hl ⊢
  have hl : lv_has ls 4 [(0, .ref y), (1, .int i0), (2, .int i1), (3, .int i2)] := hl
  refine lv_iload_n hx hb dX10_need_0 rfl (lv_at hl 2 rfl) ?_
  refine lv_if_lt (tgt := 8) hx hb dX10_need_1 (by decide) (fun k_1 => ?_) (fun k_1 => ?_)
  · refine lv_aload_n hx hb dX10_need_8 rfl (lv_at hl 0 rfl) ?_
    refine lv_iconst (v := 1) hx hb dX10_need_9 (by decide) ?_
    have hPc := hP.sub (ws' := [(y, .inr (10, mF z 0 0 0 0 0 0 0 0 0 (-1) (-1)))]) [0] rfl
    have hKc := hK.sub (tys' := []) [] rfl
    have hDc := hD.sub (ws' := [(y, .inr (10, mF z 0 0 0 0 0 0 0 0 0 (-1) (-1)))]) [0] (by decide) rfl
    have hFc := va_free (wc := [(y, .inr (10, mF z 0 0 0 0 0 0 0 0 0 (-1) (-1)))]) hD hS hA [0] rfl
    refine va_calli (va_runV (As := [.int 1]) (rest := []) ⟨hx, hb, hml, hown, hts⟩ (m_refuse l dC dI y z 0 0 0 0 0 0 0 0 0 (-1) (-1) H.size 1) (cwV 1 hts mg_X10_need_X10_refuse_204 rfl rfl rfl (by decide +kernel) ⟨Nat.le_of_ble_eq_true rfl, Nat.le_of_ble_eq_true rfl⟩) ⟨fun a U g mk q => by obtain ⟨q0, q1, qP, qK, qD⟩ := q; exact ⟨q0, q1, qP, va_K.moved (u := U) (U := U.calling g mk a) (Vm.Alike.refl U.vm) qK, qD⟩, va_recv hKc hPc (ci := 10) (q0 := 0) rfl rfl, fun U hU hW => ⟨rfl, by rw [hU], by rw [hU]; exact hPc, va_K.moved hW.alike hKc, hDc.weaken (fun _ _ _ _ => trivial)⟩⟩ rfl rfl hl.1 rfl (lv_room (Nat.le_of_ble_eq_true rfl)) dX10_need_10 ⟨Nat.le_of_ble_eq_true rfl, Nat.le_of_ble_eq_true rfl⟩) hS (fun q _ h => hFc q h) hFc (fun r_3 u t H1 locs ht hvm hw hB hz1 hk1 hS => ?_)
    exact W.iret hx hb hr (fun t ht hW => ⟨⟨_, (), rfl, hw, trivial⟩, hS.F ht⟩) hS.2.2 dX10_need_13
  · refine lv_iload_n hx hb dX10_need_4 rfl (lv_at hl 3 rfl) ?_
    refine lv_if_ge (tgt := 14) hx hb dX10_need_5 (by decide) (fun k_4 => ?_) (fun k_4 => ?_)
    · refine lv_aload_n hx hb dX10_need_14 rfl (lv_at hl 0 rfl) ?_
      refine lv_iload_n hx hb dX10_need_15 rfl (lv_at hl 1 rfl) ?_
      have hPc := hP.sub (ws' := [(y, .inr (10, mF z 0 0 0 0 0 0 0 0 0 (-1) (-1))), (z 0, .inl (mA, 101660, .inl (fun _ => 0)))]) [0, 1] rfl
      have hKc := hK.sub (tys' := [(mA, .int)]) [0] rfl
      refine vp_callSi (W.runV (As := [.int i0]) (rest := []) ⟨hx, hb, hml, hown, hts⟩ (m_isPattern l dC dI y z 0 0 0 0 0 0 0 0 0 (-1) (-1) mA i0) (cwV 1 hts mg_X10_need_X10_isPattern_458 rfl rfl rfl (by decide +kernel) ⟨Nat.le_of_ble_eq_true rfl, Nat.le_of_ble_eq_true rfl⟩) ⟨fun a U g mk q => by obtain ⟨q0, qP, qK⟩ := q; exact ⟨q0, qP, va_K.moved (u := U) (U := U.calling g mk a) (Vm.Alike.refl U.vm) qK⟩, va_recv hKc hPc (ci := 10) (q0 := 0) rfl rfl, fun U hU hW => ⟨rfl, by rw [hU]; exact hPc, va_K.moved hW.alike hKc⟩⟩ rfl rfl hl.1 rfl (lv_room (Nat.le_of_ble_eq_true rfl)) dX10_need_16 ⟨Nat.le_of_ble_eq_true rfl, Nat.le_of_ble_eq_true rfl⟩) (fun r_6 hw => ?_)
      subst hw
      refine lv_if_ne (tgt := 28) hx hb dX10_need_19 (by decide) (fun k_7 => absurd (by decide) k_7) (fun k_7 => ?_)
      refine lv_aload_n hx hb dX10_need_22 rfl (lv_at hl 0 rfl) ?_
      refine lv_iconst (v := 2) hx hb dX10_need_23 (by decide) ?_
      have hPc := hP.sub (ws' := [(y, .inr (10, mF z 0 0 0 0 0 0 0 0 0 (-1) (-1)))]) [0] rfl
      have hKc := hK.sub (tys' := []) [] rfl
      have hDc := hD.sub (ws' := [(y, .inr (10, mF z 0 0 0 0 0 0 0 0 0 (-1) (-1)))]) [0] (by decide) rfl
      have hFc := va_free (wc := [(y, .inr (10, mF z 0 0 0 0 0 0 0 0 0 (-1) (-1)))]) hD hS hA [0] rfl
      refine va_calli (va_runV (As := [.int 2]) (rest := []) ⟨hx, hb, hml, hown, hts⟩ (m_refuse l dC dI y z 0 0 0 0 0 0 0 0 0 (-1) (-1) H.size 2) (cwV 1 hts mg_X10_need_X10_refuse_204 rfl rfl rfl (by decide +kernel) ⟨Nat.le_of_ble_eq_true rfl, Nat.le_of_ble_eq_true rfl⟩) ⟨fun a U g mk q => by obtain ⟨q0, q1, qP, qK, qD⟩ := q; exact ⟨q0, q1, qP, va_K.moved (u := U) (U := U.calling g mk a) (Vm.Alike.refl U.vm) qK, qD⟩, va_recv hKc hPc (ci := 10) (q0 := 0) rfl rfl, fun U hU hW => ⟨rfl, by rw [hU], by rw [hU]; exact hPc, va_K.moved hW.alike hKc, hDc.weaken (fun _ _ _ _ => trivial)⟩⟩ rfl rfl hl.1 rfl (lv_room (Nat.le_of_ble_eq_true rfl)) dX10_need_24 ⟨Nat.le_of_ble_eq_true rfl, Nat.le_of_ble_eq_true rfl⟩) hS (fun q _ h => hFc q h) hFc (fun r_9 u t H1 locs ht hvm hw hB hz1 hk1 hS => ?_)
      exact W.iret hx hb hr (fun t ht hW => ⟨⟨_, (), rfl, hw, trivial⟩, hS.F ht⟩) hS.2.2 dX10_need_27
    · refine lv_aload_n hx hb dX10_need_8 rfl (lv_at hl 0 rfl) ?_
      refine lv_iconst (v := 1) hx hb dX10_need_9 (by decide) ?_
      have hPc := hP.sub (ws' := [(y, .inr (10, mF z 0 0 0 0 0 0 0 0 0 (-1) (-1)))]) [0] rfl
      have hKc := hK.sub (tys' := []) [] rfl
      have hDc := hD.sub (ws' := [(y, .inr (10, mF z 0 0 0 0 0 0 0 0 0 (-1) (-1)))]) [0] (by decide) rfl
      have hFc := va_free (wc := [(y, .inr (10, mF z 0 0 0 0 0 0 0 0 0 (-1) (-1)))]) hD hS hA [0] rfl
      refine va_calli (va_runV (As := [.int 1]) (rest := []) ⟨hx, hb, hml, hown, hts⟩ (m_refuse l dC dI y z 0 0 0 0 0 0 0 0 0 (-1) (-1) H.size 1) (cwV 1 hts mg_X10_need_X10_refuse_204 rfl rfl rfl (by decide +kernel) ⟨Nat.le_of_ble_eq_true rfl, Nat.le_of_ble_eq_true rfl⟩) ⟨fun a U g mk q => by obtain ⟨q0, q1, qP, qK, qD⟩ := q; exact ⟨q0, q1, qP, va_K.moved (u := U) (U := U.calling g mk a) (Vm.Alike.refl U.vm) qK, qD⟩, va_recv hKc hPc (ci := 10) (q0 := 0) rfl rfl, fun U hU hW => ⟨rfl, by rw [hU], by rw [hU]; exact hPc, va_K.moved hW.alike hKc, hDc.weaken (fun _ _ _ _ => trivial)⟩⟩ rfl rfl hl.1 rfl (lv_room (Nat.le_of_ble_eq_true rfl)) dX10_need_10 ⟨Nat.le_of_ble_eq_true rfl, Nat.le_of_ble_eq_true rfl⟩) hS (fun q _ h => hFc q h) hFc (fun r_11 u t H1 locs ht hvm hw hB hz1 hk1 hS => ?_)
      exact W.iret hx hb hr (fun t ht hW => ⟨⟨_, (), rfl, hw, trivial⟩, hS.F ht⟩) hS.2.2 dX10_need_13
theorem dX10_often_0 : decode cX10_often 0 = .ok (.iload_n 2, 1) := by decide +kernel
theorem dX10_often_1 : decode cX10_often 1 = .ok (.iconst 0, 1) := by decide +kernel
theorem dX10_often_2 : decode cX10_often 2 = .ok (.sipush 17575, 3) := by decide +kernel
theorem dX10_often_5 : decode cX10_often 5 = .ok (.invokestatic 200, 3) := by decide +kernel
theorem dX10_often_8 : decode cX10_often 8 = .ok (.ifCond .ne 9, 3) := by decide +kernel
theorem dX10_often_11 : decode cX10_often 11 = .ok (.aload_n 0, 1) := by decide +kernel
theorem dX10_often_12 : decode cX10_often 12 = .ok (.iconst 1, 1) := by decide +kernel
theorem dX10_often_13 : decode cX10_often 13 = .ok (.invokevirtual 204, 3) := by decide +kernel
theorem dX10_often_16 : decode cX10_often 16 = .ok (.ireturn, 1) := by decide +kernel
theorem dX10_often_17 : decode cX10_often 17 = .ok (.aload_n 0, 1) := by decide +kernel
theorem dX10_often_18 : decode cX10_often 18 = .ok (.iload_n 1, 1) := by decide +kernel
theorem dX10_often_19 : decode cX10_often 19 = .ok (.invokevirtual 451, 3) := by decide +kernel
theorem dX10_often_22 : decode cX10_often 22 = .ok (.ifCond .ne 9, 3) := by decide +kernel
theorem dX10_often_25 : decode cX10_often 25 = .ok (.aload_n 0, 1) := by decide +kernel
theorem dX10_often_26 : decode cX10_often 26 = .ok (.iconst 2, 1) := by decide +kernel
theorem dX10_often_27 : decode cX10_often 27 = .ok (.invokevirtual 204, 3) := by decide +kernel
theorem dX10_often_30 : decode cX10_often 30 = .ok (.ireturn, 1) := by decide +kernel
def mwX10_often : List Cond := .code yX10_often cX10_often 5 (some .int) :: ([.code yX10_isFrom cX10_isFrom 3 (some .boolean), .methodLink RX10 200 yX10_isFrom, .static yX10_isFrom, .initialized RX10, .code yX10_isDoc cX10_isDoc 2 (some .boolean), .fieldLink RX10 8 "PatternGateModel" "all" "[I", .methodLink RX10 451 yX10_isDoc, .instanceMethod yX10_isDoc, .selects RX10 yX10_isDoc yX10_isDoc, .code yX10_refuse cX10_refuse 2 (some .int), .fieldLink RX10 104 "PatternGateModel" "status" "I", .methodLink RX10 204 yX10_refuse, .instanceMethod yX10_refuse, .selects RX10 yX10_refuse yX10_refuse] ++ wsX100)
set_option maxRecDepth 20000 in
theorem mg_X10_often_X10_isFrom_200 : GoodIn mwX10_often (va_wsS RX10 200 yX10_isFrom mwX10_isFrom) := goodIn_r _ [2, 3, 4, 1] (by decide +kernel) (by decide +kernel)
set_option maxRecDepth 20000 in
theorem mg_X10_often_X10_isDoc_451 : GoodIn mwX10_often (wsV RX10 451 RX10 yX10_isDoc mwX10_isDoc) := goodIn_r _ [7, 8, 9, 4, 5, 6, 15, 16, 17, 18, 19, 20, 21, 22, 23, 24, 25, 26, 27, 28, 29, 30, 31, 32, 33, 34, 35, 36, 37, 38, 39, 40, 41, 42, 43, 44, 45, 46, 47, 48, 49, 50, 51, 52, 53, 54, 55, 56, 57, 58, 59, 60, 61, 62] (by decide +kernel) (by decide +kernel)
set_option maxRecDepth 20000 in
theorem mg_X10_often_X10_refuse_204 : GoodIn mwX10_often (wsV RX10 204 RX10 yX10_refuse mwX10_refuse) := goodIn_r _ [12, 13, 14, 4, 10, 11, 15, 16, 17, 18, 19, 20, 21, 22, 23, 24, 25, 26, 27, 28, 29, 30, 31, 32, 33, 34, 35, 36, 37, 38, 39, 40, 41, 42, 43, 44, 45, 46, 47, 48, 49, 50, 51, 52, 53, 54, 55, 56, 57, 58, 59, 60, 61, 62] (by decide +kernel) (by decide +kernel)
set_option maxHeartbeats 4000000 in
set_option maxRecDepth 100000 in
/-- often of the reference, new -/
theorem m_often (l : Launch) (dC : Nat → ClassId) (dI : Nat → Nat → Nat) (y : Nat) (z : Nat → Nat) (mA mT mX mC : ClassId) (sz : Nat) (i0 i1 : Int32) : Met l yX10_often mwX10_often ({ frames := 2, cells := 0, slots := 0, locals := 120 }) (va_Pc [.ref y, .int i0, .int i1] (fun U => U.heap.size = sz ∧ va_P (dC, dI) vwCl (mW y z mA mT mX mC) U.heap ∧ va_K (dC, dI) vwCl (mT9 mA mT mX mC) U ∧ va_D (fun _ => True) (mW y z mA mT mX mC))) (va_Qi (fun (o : Int32) (_ : Unit) => o = (-1)) (fun _ _ => True) (va_A (mW y z mA mT mX mC) sz)) 0 0 (va_A (mW y z mA mT mX mC) sz) := by
  refine Met.ofW (cc := cX10_often) (maxL := 5) (ret := (some .int)) (by decide +kernel) rfl ?_
  intro p e s m args below meth c s₁ B hml hv
  obtain ⟨rfl, hsz, hP, hK, hD0⟩ := hv
  have hx := B.exec
  have hb := B.bytes
  have hr := B.returns
  have hts := atoms_spec (ws := mwX10_often) B.pre
  have hown : s.vm.findClass RX10 = some m.cls := findClass_of_methodNamed B.named
  have hlocks := B.notSynchronized
  subst hsz
  have hD := hD0.self (sz := s.heap.size)
  generalize hAe : va_A (mW y z mA mT mX mC) s.heap.size = A at hD ⊢
  have hA : ∀ q : Nat, s.heap.size ≤ q → A q := fun q h => by rw [← hAe]; exact Or.inr h
  have hP : va_P (dC, dI) vwCl [(y, .inr (10, mF z 0 0 0 0 0 0 0 0 0 (-1) (-1))), (z 0, .inl (mA, 101660, .inl (fun _ => 0))), (z 1, .inl (mT, 900, .inl (fun _ => 0))), (z 2, .inl (mX, 900, .inl (fun _ => 0))), (z 23, .inl (mC, 17576, .inl (fun _ => 0)))] s.heap := hP
  have hD : va_D A [(y, .inr (10, mF z 0 0 0 0 0 0 0 0 0 (-1) (-1))), (z 0, .inl (mA, 101660, .inl (fun _ => 0))), (z 1, .inl (mT, 900, .inl (fun _ => 0))), (z 2, .inl (mX, 900, .inl (fun _ => 0))), (z 23, .inl (mC, 17576, .inl (fun _ => 0)))] := hD
  have hK : va_K (dC, dI) vwCl [(mA, .int), (mT, .byte), (mX, .byte), (mC, .boolean)] s := hK
  generalize hH : s.heap = H at hP ⊢
  have hS : va_S A s.heap H [] := by rw [← hH]; exact va_S.rf
  have hl := lv_entry ([.ref y, .int i0, .int i1]) (n := 5) (Nat.le_of_ble_eq_true rfl)
  rw [lg_entry_eq]
  generalize (lg_sl ([.ref y, .int i0, .int i1]) ++ List.replicate (5 - (lg_sl ([.ref y, .int i0, .int i1])).length) Slot.unset).toArray = ls at hl ⊢
  have hl : lv_has ls 5 [(0, .ref y), (1, .int i0), (2, .int i1)] := hl
  refine lv_iload_n hx hb dX10_often_0 rfl (lv_at hl 2 rfl) ?_
  refine lv_iconst (v := 0) hx hb dX10_often_1 (by decide) ?_
  refine lv_sipush (v := 17575) hx hb dX10_often_2 (by decide) ?_
  refine vp_callSi (W.runS (As := [.int i1, .int 0, .int 17575]) (rest := []) ⟨hx, hb, hml, hown, hts⟩ (m_isFrom l dC dI i1 0 17575) (va_cwS 3 hts mg_X10_often_X10_isFrom_200 rfl rfl rfl (by decide +kernel) ⟨Nat.le_of_ble_eq_true rfl, Nat.le_of_ble_eq_true rfl⟩) ⟨fun a U g mk q => ⟨q.1, trivial⟩, fun U hU hW => ⟨rfl, trivial⟩⟩ rfl rfl hl.1 rfl (lv_room (Nat.le_of_ble_eq_true rfl)) dX10_often_5 ⟨Nat.le_of_ble_eq_true rfl, Nat.le_of_ble_eq_true rfl⟩) (fun r_2 hw => ?_)
  rcases hw with ⟨rfl, hF1, hF2⟩ | ⟨rfl, hF3⟩
  · refine lv_if_ne (tgt := 17) hx hb dX10_often_8 (by decide) (fun k_3 => ?_) (fun k_3 => absurd k_3 (by decide))
    refine lv_aload_n hx hb dX10_often_17 rfl (lv_at hl 0 rfl) ?_
    refine lv_iload_n hx hb dX10_often_18 rfl (lv_at hl 1 rfl) ?_
    have hPc := hP.sub (ws' := [(y, .inr (10, mF z 0 0 0 0 0 0 0 0 0 (-1) (-1))), (z 0, .inl (mA, 101660, .inl (fun _ => 0)))]) [0, 1] rfl
    have hKc := hK.sub (tys' := [(mA, .int)]) [0] rfl
    refine vp_callSi (W.runV (As := [.int i0]) (rest := []) ⟨hx, hb, hml, hown, hts⟩ (m_isDoc l dC dI y z 0 0 0 0 0 0 0 0 0 (-1) (-1) mA i0) (cwV 1 hts mg_X10_often_X10_isDoc_451 rfl rfl rfl (by decide +kernel) ⟨Nat.le_of_ble_eq_true rfl, Nat.le_of_ble_eq_true rfl⟩) ⟨fun a U g mk q => by obtain ⟨q0, qP, qK⟩ := q; exact ⟨q0, qP, va_K.moved (u := U) (U := U.calling g mk a) (Vm.Alike.refl U.vm) qK⟩, va_recv hKc hPc (ci := 10) (q0 := 0) rfl rfl, fun U hU hW => ⟨rfl, by rw [hU]; exact hPc, va_K.moved hW.alike hKc⟩⟩ rfl rfl hl.1 rfl (lv_room (Nat.le_of_ble_eq_true rfl)) dX10_often_19 ⟨Nat.le_of_ble_eq_true rfl, Nat.le_of_ble_eq_true rfl⟩) (fun r_5 hw => ?_)
    subst hw
    refine lv_if_ne (tgt := 31) hx hb dX10_often_22 (by decide) (fun k_6 => absurd (by decide) k_6) (fun k_6 => ?_)
    refine lv_aload_n hx hb dX10_often_25 rfl (lv_at hl 0 rfl) ?_
    refine lv_iconst (v := 2) hx hb dX10_often_26 (by decide) ?_
    have hPc := hP.sub (ws' := [(y, .inr (10, mF z 0 0 0 0 0 0 0 0 0 (-1) (-1)))]) [0] rfl
    have hKc := hK.sub (tys' := []) [] rfl
    have hDc := hD.sub (ws' := [(y, .inr (10, mF z 0 0 0 0 0 0 0 0 0 (-1) (-1)))]) [0] (by decide) rfl
    have hFc := va_free (wc := [(y, .inr (10, mF z 0 0 0 0 0 0 0 0 0 (-1) (-1)))]) hD hS hA [0] rfl
    refine va_calli (va_runV (As := [.int 2]) (rest := []) ⟨hx, hb, hml, hown, hts⟩ (m_refuse l dC dI y z 0 0 0 0 0 0 0 0 0 (-1) (-1) H.size 2) (cwV 1 hts mg_X10_often_X10_refuse_204 rfl rfl rfl (by decide +kernel) ⟨Nat.le_of_ble_eq_true rfl, Nat.le_of_ble_eq_true rfl⟩) ⟨fun a U g mk q => by obtain ⟨q0, q1, qP, qK, qD⟩ := q; exact ⟨q0, q1, qP, va_K.moved (u := U) (U := U.calling g mk a) (Vm.Alike.refl U.vm) qK, qD⟩, va_recv hKc hPc (ci := 10) (q0 := 0) rfl rfl, fun U hU hW => ⟨rfl, by rw [hU], by rw [hU]; exact hPc, va_K.moved hW.alike hKc, hDc.weaken (fun _ _ _ _ => trivial)⟩⟩ rfl rfl hl.1 rfl (lv_room (Nat.le_of_ble_eq_true rfl)) dX10_often_27 ⟨Nat.le_of_ble_eq_true rfl, Nat.le_of_ble_eq_true rfl⟩) hS (fun q _ h => hFc q h) hFc (fun r_8 u t H1 locs ht hvm hw hB hz1 hk1 hS => ?_)
    exact W.iret hx hb hr (fun t ht hW => ⟨⟨_, (), rfl, hw, trivial⟩, hS.F ht⟩) hS.2.2 dX10_often_30
  · refine lv_if_ne (tgt := 17) hx hb dX10_often_8 (by decide) (fun k_9 => absurd (by decide) k_9) (fun k_9 => ?_)
    refine lv_aload_n hx hb dX10_often_11 rfl (lv_at hl 0 rfl) ?_
    refine lv_iconst (v := 1) hx hb dX10_often_12 (by decide) ?_
    have hPc := hP.sub (ws' := [(y, .inr (10, mF z 0 0 0 0 0 0 0 0 0 (-1) (-1)))]) [0] rfl
    have hKc := hK.sub (tys' := []) [] rfl
    have hDc := hD.sub (ws' := [(y, .inr (10, mF z 0 0 0 0 0 0 0 0 0 (-1) (-1)))]) [0] (by decide) rfl
    have hFc := va_free (wc := [(y, .inr (10, mF z 0 0 0 0 0 0 0 0 0 (-1) (-1)))]) hD hS hA [0] rfl
    refine va_calli (va_runV (As := [.int 1]) (rest := []) ⟨hx, hb, hml, hown, hts⟩ (m_refuse l dC dI y z 0 0 0 0 0 0 0 0 0 (-1) (-1) H.size 1) (cwV 1 hts mg_X10_often_X10_refuse_204 rfl rfl rfl (by decide +kernel) ⟨Nat.le_of_ble_eq_true rfl, Nat.le_of_ble_eq_true rfl⟩) ⟨fun a U g mk q => by obtain ⟨q0, q1, qP, qK, qD⟩ := q; exact ⟨q0, q1, qP, va_K.moved (u := U) (U := U.calling g mk a) (Vm.Alike.refl U.vm) qK, qD⟩, va_recv hKc hPc (ci := 10) (q0 := 0) rfl rfl, fun U hU hW => ⟨rfl, by rw [hU], by rw [hU]; exact hPc, va_K.moved hW.alike hKc, hDc.weaken (fun _ _ _ _ => trivial)⟩⟩ rfl rfl hl.1 rfl (lv_room (Nat.le_of_ble_eq_true rfl)) dX10_often_13 ⟨Nat.le_of_ble_eq_true rfl, Nat.le_of_ble_eq_true rfl⟩) hS (fun q _ h => hFc q h) hFc (fun r_11 u t H1 locs ht hvm hw hB hz1 hk1 hS => ?_)
    exact W.iret hx hb hr (fun t ht hW => ⟨⟨_, (), rfl, hw, trivial⟩, hS.F ht⟩) hS.2.2 dX10_often_16
theorem dX10_gate_0 : decode cX10_gate 0 = .ok (.iload_n 2, 1) := by decide +kernel
theorem dX10_gate_1 : decode cX10_gate 1 = .ok (.iconst 0, 1) := by decide +kernel
theorem dX10_gate_2 : decode cX10_gate 2 = .ok (.iconst 3, 1) := by decide +kernel
theorem dX10_gate_3 : decode cX10_gate 3 = .ok (.invokestatic 200, 3) := by decide +kernel
theorem dX10_gate_6 : decode cX10_gate 6 = .ok (.ifCond .ne 9, 3) := by decide +kernel
theorem dX10_gate_9 : decode cX10_gate 9 = .ok (.aload_n 0, 1) := by decide +kernel
theorem dX10_gate_10 : decode cX10_gate 10 = .ok (.iconst 1, 1) := by decide +kernel
theorem dX10_gate_11 : decode cX10_gate 11 = .ok (.invokevirtual 204, 3) := by decide +kernel
theorem dX10_gate_14 : decode cX10_gate 14 = .ok (.ireturn, 1) := by decide +kernel
theorem dX10_gate_15 : decode cX10_gate 15 = .ok (.aload_n 0, 1) := by decide +kernel
theorem dX10_gate_16 : decode cX10_gate 16 = .ok (.iload_n 1, 1) := by decide +kernel
theorem dX10_gate_17 : decode cX10_gate 17 = .ok (.invokevirtual 458, 3) := by decide +kernel
theorem dX10_gate_20 : decode cX10_gate 20 = .ok (.ifCond .ne 9, 3) := by decide +kernel
theorem dX10_gate_23 : decode cX10_gate 23 = .ok (.aload_n 0, 1) := by decide +kernel
theorem dX10_gate_24 : decode cX10_gate 24 = .ok (.iconst 2, 1) := by decide +kernel
theorem dX10_gate_25 : decode cX10_gate 25 = .ok (.invokevirtual 204, 3) := by decide +kernel
theorem dX10_gate_28 : decode cX10_gate 28 = .ok (.ireturn, 1) := by decide +kernel
def mwX10_gate : List Cond := .code yX10_gate cX10_gate 5 (some .int) :: ([.code yX10_isFrom cX10_isFrom 3 (some .boolean), .methodLink RX10 200 yX10_isFrom, .static yX10_isFrom, .initialized RX10, .code yX10_isPattern cX10_isPattern 2 (some .boolean), .fieldLink RX10 8 "PatternGateModel" "all" "[I", .methodLink RX10 458 yX10_isPattern, .instanceMethod yX10_isPattern, .selects RX10 yX10_isPattern yX10_isPattern, .code yX10_refuse cX10_refuse 2 (some .int), .fieldLink RX10 104 "PatternGateModel" "status" "I", .methodLink RX10 204 yX10_refuse, .instanceMethod yX10_refuse, .selects RX10 yX10_refuse yX10_refuse] ++ wsX100)
set_option maxRecDepth 20000 in
theorem mg_X10_gate_X10_isFrom_200 : GoodIn mwX10_gate (va_wsS RX10 200 yX10_isFrom mwX10_isFrom) := goodIn_r _ [2, 3, 4, 1] (by decide +kernel) (by decide +kernel)
set_option maxRecDepth 20000 in
theorem mg_X10_gate_X10_isPattern_458 : GoodIn mwX10_gate (wsV RX10 458 RX10 yX10_isPattern mwX10_isPattern) := goodIn_r _ [7, 8, 9, 4, 5, 6, 15, 16, 17, 18, 19, 20, 21, 22, 23, 24, 25, 26, 27, 28, 29, 30, 31, 32, 33, 34, 35, 36, 37, 38, 39, 40, 41, 42, 43, 44, 45, 46, 47, 48, 49, 50, 51, 52, 53, 54, 55, 56, 57, 58, 59, 60, 61, 62] (by decide +kernel) (by decide +kernel)
set_option maxRecDepth 20000 in
theorem mg_X10_gate_X10_refuse_204 : GoodIn mwX10_gate (wsV RX10 204 RX10 yX10_refuse mwX10_refuse) := goodIn_r _ [12, 13, 14, 4, 10, 11, 15, 16, 17, 18, 19, 20, 21, 22, 23, 24, 25, 26, 27, 28, 29, 30, 31, 32, 33, 34, 35, 36, 37, 38, 39, 40, 41, 42, 43, 44, 45, 46, 47, 48, 49, 50, 51, 52, 53, 54, 55, 56, 57, 58, 59, 60, 61, 62] (by decide +kernel) (by decide +kernel)
set_option maxHeartbeats 4000000 in
set_option maxRecDepth 100000 in
/-- gate of the reference, new -/
theorem m_gate (l : Launch) (dC : Nat → ClassId) (dI : Nat → Nat → Nat) (y : Nat) (z : Nat → Nat) (mA mT mX mC : ClassId) (sz : Nat) (i0 i1 : Int32) : Met l yX10_gate mwX10_gate ({ frames := 2, cells := 0, slots := 0, locals := 120 }) (va_Pc [.ref y, .int i0, .int i1] (fun U => U.heap.size = sz ∧ va_P (dC, dI) vwCl (mW y z mA mT mX mC) U.heap ∧ va_K (dC, dI) vwCl (mT9 mA mT mX mC) U ∧ va_D (fun _ => True) (mW y z mA mT mX mC))) (va_Qi (fun (o : Int32) (_ : Unit) => o = (-1)) (fun _ _ => True) (va_A (mW y z mA mT mX mC) sz)) 0 0 (va_A (mW y z mA mT mX mC) sz) := by
  refine Met.ofW (cc := cX10_gate) (maxL := 5) (ret := (some .int)) (by decide +kernel) rfl ?_
  intro p e s m args below meth c s₁ B hml hv
  obtain ⟨rfl, hsz, hP, hK, hD0⟩ := hv
  have hx := B.exec
  have hb := B.bytes
  have hr := B.returns
  have hts := atoms_spec (ws := mwX10_gate) B.pre
  have hown : s.vm.findClass RX10 = some m.cls := findClass_of_methodNamed B.named
  have hlocks := B.notSynchronized
  subst hsz
  have hD := hD0.self (sz := s.heap.size)
  generalize hAe : va_A (mW y z mA mT mX mC) s.heap.size = A at hD ⊢
  have hA : ∀ q : Nat, s.heap.size ≤ q → A q := fun q h => by rw [← hAe]; exact Or.inr h
  have hP : va_P (dC, dI) vwCl [(y, .inr (10, mF z 0 0 0 0 0 0 0 0 0 (-1) (-1))), (z 0, .inl (mA, 101660, .inl (fun _ => 0))), (z 1, .inl (mT, 900, .inl (fun _ => 0))), (z 2, .inl (mX, 900, .inl (fun _ => 0))), (z 23, .inl (mC, 17576, .inl (fun _ => 0)))] s.heap := hP
  have hD : va_D A [(y, .inr (10, mF z 0 0 0 0 0 0 0 0 0 (-1) (-1))), (z 0, .inl (mA, 101660, .inl (fun _ => 0))), (z 1, .inl (mT, 900, .inl (fun _ => 0))), (z 2, .inl (mX, 900, .inl (fun _ => 0))), (z 23, .inl (mC, 17576, .inl (fun _ => 0)))] := hD
  have hK : va_K (dC, dI) vwCl [(mA, .int), (mT, .byte), (mX, .byte), (mC, .boolean)] s := hK
  generalize hH : s.heap = H at hP ⊢
  have hS : va_S A s.heap H [] := by rw [← hH]; exact va_S.rf
  have hl := lv_entry ([.ref y, .int i0, .int i1]) (n := 5) (Nat.le_of_ble_eq_true rfl)
  rw [lg_entry_eq]
  generalize (lg_sl ([.ref y, .int i0, .int i1]) ++ List.replicate (5 - (lg_sl ([.ref y, .int i0, .int i1])).length) Slot.unset).toArray = ls at hl ⊢
  have hl : lv_has ls 5 [(0, .ref y), (1, .int i0), (2, .int i1)] := hl
  refine lv_iload_n hx hb dX10_gate_0 rfl (lv_at hl 2 rfl) ?_
  refine lv_iconst (v := 0) hx hb dX10_gate_1 (by decide) ?_
  refine lv_iconst (v := 3) hx hb dX10_gate_2 (by decide) ?_
  refine vp_callSi (W.runS (As := [.int i1, .int 0, .int 3]) (rest := []) ⟨hx, hb, hml, hown, hts⟩ (m_isFrom l dC dI i1 0 3) (va_cwS 3 hts mg_X10_gate_X10_isFrom_200 rfl rfl rfl (by decide +kernel) ⟨Nat.le_of_ble_eq_true rfl, Nat.le_of_ble_eq_true rfl⟩) ⟨fun a U g mk q => ⟨q.1, trivial⟩, fun U hU hW => ⟨rfl, trivial⟩⟩ rfl rfl hl.1 rfl (lv_room (Nat.le_of_ble_eq_true rfl)) dX10_gate_3 ⟨Nat.le_of_ble_eq_true rfl, Nat.le_of_ble_eq_true rfl⟩) (fun r_2 hw => ?_)
  rcases hw with ⟨rfl, hF1, hF2⟩ | ⟨rfl, hF3⟩
  · refine lv_if_ne (tgt := 15) hx hb dX10_gate_6 (by decide) (fun k_3 => ?_) (fun k_3 => absurd k_3 (by decide))
    refine lv_aload_n hx hb dX10_gate_15 rfl (lv_at hl 0 rfl) ?_
    refine lv_iload_n hx hb dX10_gate_16 rfl (lv_at hl 1 rfl) ?_
    have hPc := hP.sub (ws' := [(y, .inr (10, mF z 0 0 0 0 0 0 0 0 0 (-1) (-1))), (z 0, .inl (mA, 101660, .inl (fun _ => 0)))]) [0, 1] rfl
    have hKc := hK.sub (tys' := [(mA, .int)]) [0] rfl
    refine vp_callSi (W.runV (As := [.int i0]) (rest := []) ⟨hx, hb, hml, hown, hts⟩ (m_isPattern l dC dI y z 0 0 0 0 0 0 0 0 0 (-1) (-1) mA i0) (cwV 1 hts mg_X10_gate_X10_isPattern_458 rfl rfl rfl (by decide +kernel) ⟨Nat.le_of_ble_eq_true rfl, Nat.le_of_ble_eq_true rfl⟩) ⟨fun a U g mk q => by obtain ⟨q0, qP, qK⟩ := q; exact ⟨q0, qP, va_K.moved (u := U) (U := U.calling g mk a) (Vm.Alike.refl U.vm) qK⟩, va_recv hKc hPc (ci := 10) (q0 := 0) rfl rfl, fun U hU hW => ⟨rfl, by rw [hU]; exact hPc, va_K.moved hW.alike hKc⟩⟩ rfl rfl hl.1 rfl (lv_room (Nat.le_of_ble_eq_true rfl)) dX10_gate_17 ⟨Nat.le_of_ble_eq_true rfl, Nat.le_of_ble_eq_true rfl⟩) (fun r_5 hw => ?_)
    subst hw
    refine lv_if_ne (tgt := 29) hx hb dX10_gate_20 (by decide) (fun k_6 => absurd (by decide) k_6) (fun k_6 => ?_)
    refine lv_aload_n hx hb dX10_gate_23 rfl (lv_at hl 0 rfl) ?_
    refine lv_iconst (v := 2) hx hb dX10_gate_24 (by decide) ?_
    have hPc := hP.sub (ws' := [(y, .inr (10, mF z 0 0 0 0 0 0 0 0 0 (-1) (-1)))]) [0] rfl
    have hKc := hK.sub (tys' := []) [] rfl
    have hDc := hD.sub (ws' := [(y, .inr (10, mF z 0 0 0 0 0 0 0 0 0 (-1) (-1)))]) [0] (by decide) rfl
    have hFc := va_free (wc := [(y, .inr (10, mF z 0 0 0 0 0 0 0 0 0 (-1) (-1)))]) hD hS hA [0] rfl
    refine va_calli (va_runV (As := [.int 2]) (rest := []) ⟨hx, hb, hml, hown, hts⟩ (m_refuse l dC dI y z 0 0 0 0 0 0 0 0 0 (-1) (-1) H.size 2) (cwV 1 hts mg_X10_gate_X10_refuse_204 rfl rfl rfl (by decide +kernel) ⟨Nat.le_of_ble_eq_true rfl, Nat.le_of_ble_eq_true rfl⟩) ⟨fun a U g mk q => by obtain ⟨q0, q1, qP, qK, qD⟩ := q; exact ⟨q0, q1, qP, va_K.moved (u := U) (U := U.calling g mk a) (Vm.Alike.refl U.vm) qK, qD⟩, va_recv hKc hPc (ci := 10) (q0 := 0) rfl rfl, fun U hU hW => ⟨rfl, by rw [hU], by rw [hU]; exact hPc, va_K.moved hW.alike hKc, hDc.weaken (fun _ _ _ _ => trivial)⟩⟩ rfl rfl hl.1 rfl (lv_room (Nat.le_of_ble_eq_true rfl)) dX10_gate_25 ⟨Nat.le_of_ble_eq_true rfl, Nat.le_of_ble_eq_true rfl⟩) hS (fun q _ h => hFc q h) hFc (fun r_8 u t H1 locs ht hvm hw hB hz1 hk1 hS => ?_)
    exact W.iret hx hb hr (fun t ht hW => ⟨⟨_, (), rfl, hw, trivial⟩, hS.F ht⟩) hS.2.2 dX10_gate_28
  · refine lv_if_ne (tgt := 15) hx hb dX10_gate_6 (by decide) (fun k_9 => absurd (by decide) k_9) (fun k_9 => ?_)
    refine lv_aload_n hx hb dX10_gate_9 rfl (lv_at hl 0 rfl) ?_
    refine lv_iconst (v := 1) hx hb dX10_gate_10 (by decide) ?_
    have hPc := hP.sub (ws' := [(y, .inr (10, mF z 0 0 0 0 0 0 0 0 0 (-1) (-1)))]) [0] rfl
    have hKc := hK.sub (tys' := []) [] rfl
    have hDc := hD.sub (ws' := [(y, .inr (10, mF z 0 0 0 0 0 0 0 0 0 (-1) (-1)))]) [0] (by decide) rfl
    have hFc := va_free (wc := [(y, .inr (10, mF z 0 0 0 0 0 0 0 0 0 (-1) (-1)))]) hD hS hA [0] rfl
    refine va_calli (va_runV (As := [.int 1]) (rest := []) ⟨hx, hb, hml, hown, hts⟩ (m_refuse l dC dI y z 0 0 0 0 0 0 0 0 0 (-1) (-1) H.size 1) (cwV 1 hts mg_X10_gate_X10_refuse_204 rfl rfl rfl (by decide +kernel) ⟨Nat.le_of_ble_eq_true rfl, Nat.le_of_ble_eq_true rfl⟩) ⟨fun a U g mk q => by obtain ⟨q0, q1, qP, qK, qD⟩ := q; exact ⟨q0, q1, qP, va_K.moved (u := U) (U := U.calling g mk a) (Vm.Alike.refl U.vm) qK, qD⟩, va_recv hKc hPc (ci := 10) (q0 := 0) rfl rfl, fun U hU hW => ⟨rfl, by rw [hU], by rw [hU]; exact hPc, va_K.moved hW.alike hKc, hDc.weaken (fun _ _ _ _ => trivial)⟩⟩ rfl rfl hl.1 rfl (lv_room (Nat.le_of_ble_eq_true rfl)) dX10_gate_11 ⟨Nat.le_of_ble_eq_true rfl, Nat.le_of_ble_eq_true rfl⟩) hS (fun q _ h => hFc q h) hFc (fun r_11 u t H1 locs ht hvm hw hB hz1 hk1 hS => ?_)
    exact W.iret hx hb hr (fun t ht hW => ⟨⟨_, (), rfl, hw, trivial⟩, hS.F ht⟩) hS.2.2 dX10_gate_14
theorem dX10_match_0 : decode cX10_match 0 = .ok (.iload_n 3, 1) := by decide +kernel
theorem dX10_match_1 : decode cX10_match 1 = .ok (.iconst 0, 1) := by decide +kernel
theorem dX10_match_2 : decode cX10_match 2 = .ok (.iconst 2, 1) := by decide +kernel
theorem dX10_match_3 : decode cX10_match 3 = .ok (.invokestatic 200, 3) := by decide +kernel
theorem dX10_match_6 : decode cX10_match 6 = .ok (.ifCond .ne 9, 3) := by decide +kernel
theorem dX10_match_9 : decode cX10_match 9 = .ok (.aload_n 0, 1) := by decide +kernel
theorem dX10_match_10 : decode cX10_match 10 = .ok (.iconst 1, 1) := by decide +kernel
theorem dX10_match_11 : decode cX10_match 11 = .ok (.invokevirtual 204, 3) := by decide +kernel
theorem dX10_match_14 : decode cX10_match 14 = .ok (.ireturn, 1) := by decide +kernel
theorem dX10_match_15 : decode cX10_match 15 = .ok (.aload_n 0, 1) := by decide +kernel
theorem dX10_match_16 : decode cX10_match 16 = .ok (.iload_n 1, 1) := by decide +kernel
theorem dX10_match_17 : decode cX10_match 17 = .ok (.invokevirtual 458, 3) := by decide +kernel
theorem dX10_match_20 : decode cX10_match 20 = .ok (.ifCond .eq 11, 3) := by decide +kernel
theorem dX10_match_31 : decode cX10_match 31 = .ok (.aload_n 0, 1) := by decide +kernel
theorem dX10_match_32 : decode cX10_match 32 = .ok (.iconst 2, 1) := by decide +kernel
theorem dX10_match_33 : decode cX10_match 33 = .ok (.invokevirtual 204, 3) := by decide +kernel
theorem dX10_match_36 : decode cX10_match 36 = .ok (.ireturn, 1) := by decide +kernel
def mwX10_match : List Cond := .code yX10_match cX10_match 5 (some .int) :: ([.code yX10_isFrom cX10_isFrom 3 (some .boolean), .methodLink RX10 200 yX10_isFrom, .static yX10_isFrom, .initialized RX10, .code yX10_isPattern cX10_isPattern 2 (some .boolean), .fieldLink RX10 8 "PatternGateModel" "all" "[I", .methodLink RX10 458 yX10_isPattern, .instanceMethod yX10_isPattern, .selects RX10 yX10_isPattern yX10_isPattern, .code yX10_refuse cX10_refuse 2 (some .int), .fieldLink RX10 104 "PatternGateModel" "status" "I", .methodLink RX10 204 yX10_refuse, .instanceMethod yX10_refuse, .selects RX10 yX10_refuse yX10_refuse] ++ wsX100)
set_option maxRecDepth 20000 in
theorem mg_X10_match_X10_isFrom_200 : GoodIn mwX10_match (va_wsS RX10 200 yX10_isFrom mwX10_isFrom) := goodIn_r _ [2, 3, 4, 1] (by decide +kernel) (by decide +kernel)
set_option maxRecDepth 20000 in
theorem mg_X10_match_X10_isPattern_458 : GoodIn mwX10_match (wsV RX10 458 RX10 yX10_isPattern mwX10_isPattern) := goodIn_r _ [7, 8, 9, 4, 5, 6, 15, 16, 17, 18, 19, 20, 21, 22, 23, 24, 25, 26, 27, 28, 29, 30, 31, 32, 33, 34, 35, 36, 37, 38, 39, 40, 41, 42, 43, 44, 45, 46, 47, 48, 49, 50, 51, 52, 53, 54, 55, 56, 57, 58, 59, 60, 61, 62] (by decide +kernel) (by decide +kernel)
set_option maxRecDepth 20000 in
theorem mg_X10_match_X10_refuse_204 : GoodIn mwX10_match (wsV RX10 204 RX10 yX10_refuse mwX10_refuse) := goodIn_r _ [12, 13, 14, 4, 10, 11, 15, 16, 17, 18, 19, 20, 21, 22, 23, 24, 25, 26, 27, 28, 29, 30, 31, 32, 33, 34, 35, 36, 37, 38, 39, 40, 41, 42, 43, 44, 45, 46, 47, 48, 49, 50, 51, 52, 53, 54, 55, 56, 57, 58, 59, 60, 61, 62] (by decide +kernel) (by decide +kernel)
set_option maxHeartbeats 4000000 in
set_option maxRecDepth 100000 in
/-- match of the reference, new -/
theorem m_match (l : Launch) (dC : Nat → ClassId) (dI : Nat → Nat → Nat) (y : Nat) (z : Nat → Nat) (mA mT mX mC : ClassId) (sz : Nat) (i0 i1 i2 : Int32) : Met l yX10_match mwX10_match ({ frames := 2, cells := 0, slots := 0, locals := 120 }) (va_Pc [.ref y, .int i0, .int i1, .int i2] (fun U => U.heap.size = sz ∧ va_P (dC, dI) vwCl (mW y z mA mT mX mC) U.heap ∧ va_K (dC, dI) vwCl (mT9 mA mT mX mC) U ∧ va_D (fun _ => True) (mW y z mA mT mX mC))) (va_Qi (fun (o : Int32) (_ : Unit) => o = (-1)) (fun _ _ => True) (va_A (mW y z mA mT mX mC) sz)) 0 0 (va_A (mW y z mA mT mX mC) sz) := by
  refine Met.ofW (cc := cX10_match) (maxL := 5) (ret := (some .int)) (by decide +kernel) rfl ?_
  intro p e s m args below meth c s₁ B hml hv
  obtain ⟨rfl, hsz, hP, hK, hD0⟩ := hv
  have hx := B.exec
  have hb := B.bytes
  have hr := B.returns
  have hts := atoms_spec (ws := mwX10_match) B.pre
  have hown : s.vm.findClass RX10 = some m.cls := findClass_of_methodNamed B.named
  have hlocks := B.notSynchronized
  subst hsz
  have hD := hD0.self (sz := s.heap.size)
  generalize hAe : va_A (mW y z mA mT mX mC) s.heap.size = A at hD ⊢
  have hA : ∀ q : Nat, s.heap.size ≤ q → A q := fun q h => by rw [← hAe]; exact Or.inr h
  have hP : va_P (dC, dI) vwCl [(y, .inr (10, mF z 0 0 0 0 0 0 0 0 0 (-1) (-1))), (z 0, .inl (mA, 101660, .inl (fun _ => 0))), (z 1, .inl (mT, 900, .inl (fun _ => 0))), (z 2, .inl (mX, 900, .inl (fun _ => 0))), (z 23, .inl (mC, 17576, .inl (fun _ => 0)))] s.heap := hP
  have hD : va_D A [(y, .inr (10, mF z 0 0 0 0 0 0 0 0 0 (-1) (-1))), (z 0, .inl (mA, 101660, .inl (fun _ => 0))), (z 1, .inl (mT, 900, .inl (fun _ => 0))), (z 2, .inl (mX, 900, .inl (fun _ => 0))), (z 23, .inl (mC, 17576, .inl (fun _ => 0)))] := hD
  have hK : va_K (dC, dI) vwCl [(mA, .int), (mT, .byte), (mX, .byte), (mC, .boolean)] s := hK
  generalize hH : s.heap = H at hP ⊢
  have hS : va_S A s.heap H [] := by rw [← hH]; exact va_S.rf
  have hl := lv_entry ([.ref y, .int i0, .int i1, .int i2]) (n := 5) (Nat.le_of_ble_eq_true rfl)
  rw [lg_entry_eq]
  generalize (lg_sl ([.ref y, .int i0, .int i1, .int i2]) ++ List.replicate (5 - (lg_sl ([.ref y, .int i0, .int i1, .int i2])).length) Slot.unset).toArray = ls at hl ⊢
  have hl : lv_has ls 5 [(0, .ref y), (1, .int i0), (2, .int i1), (3, .int i2)] := hl
  refine lv_iload_n hx hb dX10_match_0 rfl (lv_at hl 3 rfl) ?_
  refine lv_iconst (v := 0) hx hb dX10_match_1 (by decide) ?_
  refine lv_iconst (v := 2) hx hb dX10_match_2 (by decide) ?_
  refine vp_callSi (W.runS (As := [.int i2, .int 0, .int 2]) (rest := []) ⟨hx, hb, hml, hown, hts⟩ (m_isFrom l dC dI i2 0 2) (va_cwS 3 hts mg_X10_match_X10_isFrom_200 rfl rfl rfl (by decide +kernel) ⟨Nat.le_of_ble_eq_true rfl, Nat.le_of_ble_eq_true rfl⟩) ⟨fun a U g mk q => ⟨q.1, trivial⟩, fun U hU hW => ⟨rfl, trivial⟩⟩ rfl rfl hl.1 rfl (lv_room (Nat.le_of_ble_eq_true rfl)) dX10_match_3 ⟨Nat.le_of_ble_eq_true rfl, Nat.le_of_ble_eq_true rfl⟩) (fun r_2 hw => ?_)
  rcases hw with ⟨rfl, hF1, hF2⟩ | ⟨rfl, hF3⟩
  · refine lv_if_ne (tgt := 15) hx hb dX10_match_6 (by decide) (fun k_3 => ?_) (fun k_3 => absurd k_3 (by decide))
    refine lv_aload_n hx hb dX10_match_15 rfl (lv_at hl 0 rfl) ?_
    refine lv_iload_n hx hb dX10_match_16 rfl (lv_at hl 1 rfl) ?_
    have hPc := hP.sub (ws' := [(y, .inr (10, mF z 0 0 0 0 0 0 0 0 0 (-1) (-1))), (z 0, .inl (mA, 101660, .inl (fun _ => 0)))]) [0, 1] rfl
    have hKc := hK.sub (tys' := [(mA, .int)]) [0] rfl
    refine vp_callSi (W.runV (As := [.int i0]) (rest := []) ⟨hx, hb, hml, hown, hts⟩ (m_isPattern l dC dI y z 0 0 0 0 0 0 0 0 0 (-1) (-1) mA i0) (cwV 1 hts mg_X10_match_X10_isPattern_458 rfl rfl rfl (by decide +kernel) ⟨Nat.le_of_ble_eq_true rfl, Nat.le_of_ble_eq_true rfl⟩) ⟨fun a U g mk q => by obtain ⟨q0, qP, qK⟩ := q; exact ⟨q0, qP, va_K.moved (u := U) (U := U.calling g mk a) (Vm.Alike.refl U.vm) qK⟩, va_recv hKc hPc (ci := 10) (q0 := 0) rfl rfl, fun U hU hW => ⟨rfl, by rw [hU]; exact hPc, va_K.moved hW.alike hKc⟩⟩ rfl rfl hl.1 rfl (lv_room (Nat.le_of_ble_eq_true rfl)) dX10_match_17 ⟨Nat.le_of_ble_eq_true rfl, Nat.le_of_ble_eq_true rfl⟩) (fun r_5 hw => ?_)
    subst hw
    refine lv_if_eq (tgt := 31) hx hb dX10_match_20 (by decide) (fun k_6 => ?_) (fun k_6 => absurd (by decide) k_6)
    refine lv_aload_n hx hb dX10_match_31 rfl (lv_at hl 0 rfl) ?_
    refine lv_iconst (v := 2) hx hb dX10_match_32 (by decide) ?_
    have hPc := hP.sub (ws' := [(y, .inr (10, mF z 0 0 0 0 0 0 0 0 0 (-1) (-1)))]) [0] rfl
    have hKc := hK.sub (tys' := []) [] rfl
    have hDc := hD.sub (ws' := [(y, .inr (10, mF z 0 0 0 0 0 0 0 0 0 (-1) (-1)))]) [0] (by decide) rfl
    have hFc := va_free (wc := [(y, .inr (10, mF z 0 0 0 0 0 0 0 0 0 (-1) (-1)))]) hD hS hA [0] rfl
    refine va_calli (va_runV (As := [.int 2]) (rest := []) ⟨hx, hb, hml, hown, hts⟩ (m_refuse l dC dI y z 0 0 0 0 0 0 0 0 0 (-1) (-1) H.size 2) (cwV 1 hts mg_X10_match_X10_refuse_204 rfl rfl rfl (by decide +kernel) ⟨Nat.le_of_ble_eq_true rfl, Nat.le_of_ble_eq_true rfl⟩) ⟨fun a U g mk q => by obtain ⟨q0, q1, qP, qK, qD⟩ := q; exact ⟨q0, q1, qP, va_K.moved (u := U) (U := U.calling g mk a) (Vm.Alike.refl U.vm) qK, qD⟩, va_recv hKc hPc (ci := 10) (q0 := 0) rfl rfl, fun U hU hW => ⟨rfl, by rw [hU], by rw [hU]; exact hPc, va_K.moved hW.alike hKc, hDc.weaken (fun _ _ _ _ => trivial)⟩⟩ rfl rfl hl.1 rfl (lv_room (Nat.le_of_ble_eq_true rfl)) dX10_match_33 ⟨Nat.le_of_ble_eq_true rfl, Nat.le_of_ble_eq_true rfl⟩) hS (fun q _ h => hFc q h) hFc (fun r_8 u t H1 locs ht hvm hw hB hz1 hk1 hS => ?_)
    exact W.iret hx hb hr (fun t ht hW => ⟨⟨_, (), rfl, hw, trivial⟩, hS.F ht⟩) hS.2.2 dX10_match_36
  · refine lv_if_ne (tgt := 15) hx hb dX10_match_6 (by decide) (fun k_9 => absurd (by decide) k_9) (fun k_9 => ?_)
    refine lv_aload_n hx hb dX10_match_9 rfl (lv_at hl 0 rfl) ?_
    refine lv_iconst (v := 1) hx hb dX10_match_10 (by decide) ?_
    have hPc := hP.sub (ws' := [(y, .inr (10, mF z 0 0 0 0 0 0 0 0 0 (-1) (-1)))]) [0] rfl
    have hKc := hK.sub (tys' := []) [] rfl
    have hDc := hD.sub (ws' := [(y, .inr (10, mF z 0 0 0 0 0 0 0 0 0 (-1) (-1)))]) [0] (by decide) rfl
    have hFc := va_free (wc := [(y, .inr (10, mF z 0 0 0 0 0 0 0 0 0 (-1) (-1)))]) hD hS hA [0] rfl
    refine va_calli (va_runV (As := [.int 1]) (rest := []) ⟨hx, hb, hml, hown, hts⟩ (m_refuse l dC dI y z 0 0 0 0 0 0 0 0 0 (-1) (-1) H.size 1) (cwV 1 hts mg_X10_match_X10_refuse_204 rfl rfl rfl (by decide +kernel) ⟨Nat.le_of_ble_eq_true rfl, Nat.le_of_ble_eq_true rfl⟩) ⟨fun a U g mk q => by obtain ⟨q0, q1, qP, qK, qD⟩ := q; exact ⟨q0, q1, qP, va_K.moved (u := U) (U := U.calling g mk a) (Vm.Alike.refl U.vm) qK, qD⟩, va_recv hKc hPc (ci := 10) (q0 := 0) rfl rfl, fun U hU hW => ⟨rfl, by rw [hU], by rw [hU]; exact hPc, va_K.moved hW.alike hKc, hDc.weaken (fun _ _ _ _ => trivial)⟩⟩ rfl rfl hl.1 rfl (lv_room (Nat.le_of_ble_eq_true rfl)) dX10_match_11 ⟨Nat.le_of_ble_eq_true rfl, Nat.le_of_ble_eq_true rfl⟩) hS (fun q _ h => hFc q h) hFc (fun r_11 u t H1 locs ht hvm hw hB hz1 hk1 hS => ?_)
    exact W.iret hx hb hr (fun t ht hW => ⟨⟨_, (), rfl, hw, trivial⟩, hS.F ht⟩) hS.2.2 dX10_match_14
theorem dX10_alive_0 : decode cX10_alive 0 = .ok (.iload_n 3, 1) := by decide +kernel
theorem dX10_alive_1 : decode cX10_alive 1 = .ok (.ifCond .ge 9, 3) := by decide +kernel
theorem dX10_alive_4 : decode cX10_alive 4 = .ok (.aload_n 0, 1) := by decide +kernel
theorem dX10_alive_5 : decode cX10_alive 5 = .ok (.iconst 1, 1) := by decide +kernel
theorem dX10_alive_6 : decode cX10_alive 6 = .ok (.invokevirtual 204, 3) := by decide +kernel
theorem dX10_alive_9 : decode cX10_alive 9 = .ok (.ireturn, 1) := by decide +kernel
theorem dX10_alive_10 : decode cX10_alive 10 = .ok (.aload_n 0, 1) := by decide +kernel
theorem dX10_alive_11 : decode cX10_alive 11 = .ok (.iload_n 1, 1) := by decide +kernel
theorem dX10_alive_12 : decode cX10_alive 12 = .ok (.invokevirtual 458, 3) := by decide +kernel
theorem dX10_alive_15 : decode cX10_alive 15 = .ok (.ifCond .eq 11, 3) := by decide +kernel
theorem dX10_alive_26 : decode cX10_alive 26 = .ok (.aload_n 0, 1) := by decide +kernel
theorem dX10_alive_27 : decode cX10_alive 27 = .ok (.iconst 2, 1) := by decide +kernel
theorem dX10_alive_28 : decode cX10_alive 28 = .ok (.invokevirtual 204, 3) := by decide +kernel
theorem dX10_alive_31 : decode cX10_alive 31 = .ok (.ireturn, 1) := by decide +kernel
def mwX10_alive : List Cond := .code yX10_alive cX10_alive 6 (some .int) :: ([.code yX10_isPattern cX10_isPattern 2 (some .boolean), .fieldLink RX10 8 "PatternGateModel" "all" "[I", .methodLink RX10 458 yX10_isPattern, .instanceMethod yX10_isPattern, .selects RX10 yX10_isPattern yX10_isPattern, .initialized RX10, .code yX10_refuse cX10_refuse 2 (some .int), .fieldLink RX10 104 "PatternGateModel" "status" "I", .methodLink RX10 204 yX10_refuse, .instanceMethod yX10_refuse, .selects RX10 yX10_refuse yX10_refuse] ++ wsX100)
set_option maxRecDepth 20000 in
theorem mg_X10_alive_X10_isPattern_458 : GoodIn mwX10_alive (wsV RX10 458 RX10 yX10_isPattern mwX10_isPattern) := goodIn_r _ [3, 4, 5, 6, 1, 2, 12, 13, 14, 15, 16, 17, 18, 19, 20, 21, 22, 23, 24, 25, 26, 27, 28, 29, 30, 31, 32, 33, 34, 35, 36, 37, 38, 39, 40, 41, 42, 43, 44, 45, 46, 47, 48, 49, 50, 51, 52, 53, 54, 55, 56, 57, 58, 59] (by decide +kernel) (by decide +kernel)
set_option maxRecDepth 20000 in
theorem mg_X10_alive_X10_refuse_204 : GoodIn mwX10_alive (wsV RX10 204 RX10 yX10_refuse mwX10_refuse) := goodIn_r _ [9, 10, 11, 6, 7, 8, 12, 13, 14, 15, 16, 17, 18, 19, 20, 21, 22, 23, 24, 25, 26, 27, 28, 29, 30, 31, 32, 33, 34, 35, 36, 37, 38, 39, 40, 41, 42, 43, 44, 45, 46, 47, 48, 49, 50, 51, 52, 53, 54, 55, 56, 57, 58, 59] (by decide +kernel) (by decide +kernel)
set_option maxHeartbeats 4000000 in
set_option maxRecDepth 100000 in
/-- alive of the reference, new -/
theorem m_alive (l : Launch) (dC : Nat → ClassId) (dI : Nat → Nat → Nat) (y : Nat) (z : Nat → Nat) (mA mT mX mC : ClassId) (sz : Nat) (i0 i1 i2 : Int32) : Met l yX10_alive mwX10_alive ({ frames := 2, cells := 0, slots := 0, locals := 120 }) (va_Pc [.ref y, .int i0, .int i1, .int i2] (fun U => U.heap.size = sz ∧ va_P (dC, dI) vwCl (mW y z mA mT mX mC) U.heap ∧ va_K (dC, dI) vwCl (mT9 mA mT mX mC) U ∧ va_D (fun _ => True) (mW y z mA mT mX mC))) (va_Qi (fun (o : Int32) (_ : Unit) => o = (-1)) (fun _ _ => True) (va_A (mW y z mA mT mX mC) sz)) 0 0 (va_A (mW y z mA mT mX mC) sz) := by
  refine Met.ofW (cc := cX10_alive) (maxL := 6) (ret := (some .int)) (by decide +kernel) rfl ?_
  intro p e s m args below meth c s₁ B hml hv
  obtain ⟨rfl, hsz, hP, hK, hD0⟩ := hv
  have hx := B.exec
  have hb := B.bytes
  have hr := B.returns
  have hts := atoms_spec (ws := mwX10_alive) B.pre
  have hown : s.vm.findClass RX10 = some m.cls := findClass_of_methodNamed B.named
  have hlocks := B.notSynchronized
  subst hsz
  have hD := hD0.self (sz := s.heap.size)
  generalize hAe : va_A (mW y z mA mT mX mC) s.heap.size = A at hD ⊢
  have hA : ∀ q : Nat, s.heap.size ≤ q → A q := fun q h => by rw [← hAe]; exact Or.inr h
  have hP : va_P (dC, dI) vwCl [(y, .inr (10, mF z 0 0 0 0 0 0 0 0 0 (-1) (-1))), (z 0, .inl (mA, 101660, .inl (fun _ => 0))), (z 1, .inl (mT, 900, .inl (fun _ => 0))), (z 2, .inl (mX, 900, .inl (fun _ => 0))), (z 23, .inl (mC, 17576, .inl (fun _ => 0)))] s.heap := hP
  have hD : va_D A [(y, .inr (10, mF z 0 0 0 0 0 0 0 0 0 (-1) (-1))), (z 0, .inl (mA, 101660, .inl (fun _ => 0))), (z 1, .inl (mT, 900, .inl (fun _ => 0))), (z 2, .inl (mX, 900, .inl (fun _ => 0))), (z 23, .inl (mC, 17576, .inl (fun _ => 0)))] := hD
  have hK : va_K (dC, dI) vwCl [(mA, .int), (mT, .byte), (mX, .byte), (mC, .boolean)] s := hK
  generalize hH : s.heap = H at hP ⊢
  have hS : va_S A s.heap H [] := by rw [← hH]; exact va_S.rf
  have hl := lv_entry ([.ref y, .int i0, .int i1, .int i2]) (n := 6) (Nat.le_of_ble_eq_true rfl)
  rw [lg_entry_eq]
  generalize (lg_sl ([.ref y, .int i0, .int i1, .int i2]) ++ List.replicate (6 - (lg_sl ([.ref y, .int i0, .int i1, .int i2])).length) Slot.unset).toArray = ls at hl ⊢
  have hl : lv_has ls 6 [(0, .ref y), (1, .int i0), (2, .int i1), (3, .int i2)] := hl
  refine lv_iload_n hx hb dX10_alive_0 rfl (lv_at hl 3 rfl) ?_
  refine lv_if_ge (tgt := 10) hx hb dX10_alive_1 (by decide) (fun k_1 => ?_) (fun k_1 => ?_)
  · refine lv_aload_n hx hb dX10_alive_10 rfl (lv_at hl 0 rfl) ?_
    refine lv_iload_n hx hb dX10_alive_11 rfl (lv_at hl 1 rfl) ?_
    have hPc := hP.sub (ws' := [(y, .inr (10, mF z 0 0 0 0 0 0 0 0 0 (-1) (-1))), (z 0, .inl (mA, 101660, .inl (fun _ => 0)))]) [0, 1] rfl
    have hKc := hK.sub (tys' := [(mA, .int)]) [0] rfl
    refine vp_callSi (W.runV (As := [.int i0]) (rest := []) ⟨hx, hb, hml, hown, hts⟩ (m_isPattern l dC dI y z 0 0 0 0 0 0 0 0 0 (-1) (-1) mA i0) (cwV 1 hts mg_X10_alive_X10_isPattern_458 rfl rfl rfl (by decide +kernel) ⟨Nat.le_of_ble_eq_true rfl, Nat.le_of_ble_eq_true rfl⟩) ⟨fun a U g mk q => by obtain ⟨q0, qP, qK⟩ := q; exact ⟨q0, qP, va_K.moved (u := U) (U := U.calling g mk a) (Vm.Alike.refl U.vm) qK⟩, va_recv hKc hPc (ci := 10) (q0 := 0) rfl rfl, fun U hU hW => ⟨rfl, by rw [hU]; exact hPc, va_K.moved hW.alike hKc⟩⟩ rfl rfl hl.1 rfl (lv_room (Nat.le_of_ble_eq_true rfl)) dX10_alive_12 ⟨Nat.le_of_ble_eq_true rfl, Nat.le_of_ble_eq_true rfl⟩) (fun r_3 hw => ?_)
    subst hw
    refine lv_if_eq (tgt := 26) hx hb dX10_alive_15 (by decide) (fun k_4 => ?_) (fun k_4 => absurd (by decide) k_4)
    refine lv_aload_n hx hb dX10_alive_26 rfl (lv_at hl 0 rfl) ?_
    refine lv_iconst (v := 2) hx hb dX10_alive_27 (by decide) ?_
    have hPc := hP.sub (ws' := [(y, .inr (10, mF z 0 0 0 0 0 0 0 0 0 (-1) (-1)))]) [0] rfl
    have hKc := hK.sub (tys' := []) [] rfl
    have hDc := hD.sub (ws' := [(y, .inr (10, mF z 0 0 0 0 0 0 0 0 0 (-1) (-1)))]) [0] (by decide) rfl
    have hFc := va_free (wc := [(y, .inr (10, mF z 0 0 0 0 0 0 0 0 0 (-1) (-1)))]) hD hS hA [0] rfl
    refine va_calli (va_runV (As := [.int 2]) (rest := []) ⟨hx, hb, hml, hown, hts⟩ (m_refuse l dC dI y z 0 0 0 0 0 0 0 0 0 (-1) (-1) H.size 2) (cwV 1 hts mg_X10_alive_X10_refuse_204 rfl rfl rfl (by decide +kernel) ⟨Nat.le_of_ble_eq_true rfl, Nat.le_of_ble_eq_true rfl⟩) ⟨fun a U g mk q => by obtain ⟨q0, q1, qP, qK, qD⟩ := q; exact ⟨q0, q1, qP, va_K.moved (u := U) (U := U.calling g mk a) (Vm.Alike.refl U.vm) qK, qD⟩, va_recv hKc hPc (ci := 10) (q0 := 0) rfl rfl, fun U hU hW => ⟨rfl, by rw [hU], by rw [hU]; exact hPc, va_K.moved hW.alike hKc, hDc.weaken (fun _ _ _ _ => trivial)⟩⟩ rfl rfl hl.1 rfl (lv_room (Nat.le_of_ble_eq_true rfl)) dX10_alive_28 ⟨Nat.le_of_ble_eq_true rfl, Nat.le_of_ble_eq_true rfl⟩) hS (fun q _ h => hFc q h) hFc (fun r_6 u t H1 locs ht hvm hw hB hz1 hk1 hS => ?_)
    exact W.iret hx hb hr (fun t ht hW => ⟨⟨_, (), rfl, hw, trivial⟩, hS.F ht⟩) hS.2.2 dX10_alive_31
  · refine lv_aload_n hx hb dX10_alive_4 rfl (lv_at hl 0 rfl) ?_
    refine lv_iconst (v := 1) hx hb dX10_alive_5 (by decide) ?_
    have hPc := hP.sub (ws' := [(y, .inr (10, mF z 0 0 0 0 0 0 0 0 0 (-1) (-1)))]) [0] rfl
    have hKc := hK.sub (tys' := []) [] rfl
    have hDc := hD.sub (ws' := [(y, .inr (10, mF z 0 0 0 0 0 0 0 0 0 (-1) (-1)))]) [0] (by decide) rfl
    have hFc := va_free (wc := [(y, .inr (10, mF z 0 0 0 0 0 0 0 0 0 (-1) (-1)))]) hD hS hA [0] rfl
    refine va_calli (va_runV (As := [.int 1]) (rest := []) ⟨hx, hb, hml, hown, hts⟩ (m_refuse l dC dI y z 0 0 0 0 0 0 0 0 0 (-1) (-1) H.size 1) (cwV 1 hts mg_X10_alive_X10_refuse_204 rfl rfl rfl (by decide +kernel) ⟨Nat.le_of_ble_eq_true rfl, Nat.le_of_ble_eq_true rfl⟩) ⟨fun a U g mk q => by obtain ⟨q0, q1, qP, qK, qD⟩ := q; exact ⟨q0, q1, qP, va_K.moved (u := U) (U := U.calling g mk a) (Vm.Alike.refl U.vm) qK, qD⟩, va_recv hKc hPc (ci := 10) (q0 := 0) rfl rfl, fun U hU hW => ⟨rfl, by rw [hU], by rw [hU]; exact hPc, va_K.moved hW.alike hKc, hDc.weaken (fun _ _ _ _ => trivial)⟩⟩ rfl rfl hl.1 rfl (lv_room (Nat.le_of_ble_eq_true rfl)) dX10_alive_6 ⟨Nat.le_of_ble_eq_true rfl, Nat.le_of_ble_eq_true rfl⟩) hS (fun q _ h => hFc q h) hFc (fun r_8 u t H1 locs ht hvm hw hB hz1 hk1 hS => ?_)
    exact W.iret hx hb hr (fun t ht hW => ⟨⟨_, (), rfl, hw, trivial⟩, hS.F ht⟩) hS.2.2 dX10_alive_9
theorem dX10_rarest_0 : decode cX10_rarest 0 = .ok (.aload_n 0, 1) := by decide +kernel
theorem dX10_rarest_1 : decode cX10_rarest 1 = .ok (.iload_n 1, 1) := by decide +kernel
theorem dX10_rarest_2 : decode cX10_rarest 2 = .ok (.invokevirtual 458, 3) := by decide +kernel
theorem dX10_rarest_5 : decode cX10_rarest 5 = .ok (.ifCond .ne 9, 3) := by decide +kernel
theorem dX10_rarest_8 : decode cX10_rarest 8 = .ok (.aload_n 0, 1) := by decide +kernel
theorem dX10_rarest_9 : decode cX10_rarest 9 = .ok (.iconst 2, 1) := by decide +kernel
theorem dX10_rarest_10 : decode cX10_rarest 10 = .ok (.invokevirtual 204, 3) := by decide +kernel
theorem dX10_rarest_13 : decode cX10_rarest 13 = .ok (.ireturn, 1) := by decide +kernel
def mwX10_rarest : List Cond := .code yX10_rarest cX10_rarest 4 (some .int) :: ([.code yX10_isPattern cX10_isPattern 2 (some .boolean), .fieldLink RX10 8 "PatternGateModel" "all" "[I", .methodLink RX10 458 yX10_isPattern, .instanceMethod yX10_isPattern, .selects RX10 yX10_isPattern yX10_isPattern, .initialized RX10, .code yX10_refuse cX10_refuse 2 (some .int), .fieldLink RX10 104 "PatternGateModel" "status" "I", .methodLink RX10 204 yX10_refuse, .instanceMethod yX10_refuse, .selects RX10 yX10_refuse yX10_refuse] ++ wsX100)
set_option maxRecDepth 20000 in
theorem mg_X10_rarest_X10_isPattern_458 : GoodIn mwX10_rarest (wsV RX10 458 RX10 yX10_isPattern mwX10_isPattern) := goodIn_r _ [3, 4, 5, 6, 1, 2, 12, 13, 14, 15, 16, 17, 18, 19, 20, 21, 22, 23, 24, 25, 26, 27, 28, 29, 30, 31, 32, 33, 34, 35, 36, 37, 38, 39, 40, 41, 42, 43, 44, 45, 46, 47, 48, 49, 50, 51, 52, 53, 54, 55, 56, 57, 58, 59] (by decide +kernel) (by decide +kernel)
set_option maxRecDepth 20000 in
theorem mg_X10_rarest_X10_refuse_204 : GoodIn mwX10_rarest (wsV RX10 204 RX10 yX10_refuse mwX10_refuse) := goodIn_r _ [9, 10, 11, 6, 7, 8, 12, 13, 14, 15, 16, 17, 18, 19, 20, 21, 22, 23, 24, 25, 26, 27, 28, 29, 30, 31, 32, 33, 34, 35, 36, 37, 38, 39, 40, 41, 42, 43, 44, 45, 46, 47, 48, 49, 50, 51, 52, 53, 54, 55, 56, 57, 58, 59] (by decide +kernel) (by decide +kernel)
set_option maxHeartbeats 4000000 in
set_option maxRecDepth 100000 in
/-- rarest of the reference, new -/
theorem m_rarest (l : Launch) (dC : Nat → ClassId) (dI : Nat → Nat → Nat) (y : Nat) (z : Nat → Nat) (mA mT mX mC : ClassId) (sz : Nat) (i0 : Int32) : Met l yX10_rarest mwX10_rarest ({ frames := 2, cells := 0, slots := 0, locals := 120 }) (va_Pc [.ref y, .int i0] (fun U => U.heap.size = sz ∧ va_P (dC, dI) vwCl (mW y z mA mT mX mC) U.heap ∧ va_K (dC, dI) vwCl (mT9 mA mT mX mC) U ∧ va_D (fun _ => True) (mW y z mA mT mX mC))) (va_Qi (fun (o : Int32) (_ : Unit) => o = (-1)) (fun _ _ => True) (va_A (mW y z mA mT mX mC) sz)) 0 0 (va_A (mW y z mA mT mX mC) sz) := by
  refine Met.ofW (cc := cX10_rarest) (maxL := 4) (ret := (some .int)) (by decide +kernel) rfl ?_
  intro p e s m args below meth c s₁ B hml hv
  obtain ⟨rfl, hsz, hP, hK, hD0⟩ := hv
  have hx := B.exec
  have hb := B.bytes
  have hr := B.returns
  have hts := atoms_spec (ws := mwX10_rarest) B.pre
  have hown : s.vm.findClass RX10 = some m.cls := findClass_of_methodNamed B.named
  have hlocks := B.notSynchronized
  subst hsz
  have hD := hD0.self (sz := s.heap.size)
  generalize hAe : va_A (mW y z mA mT mX mC) s.heap.size = A at hD ⊢
  have hA : ∀ q : Nat, s.heap.size ≤ q → A q := fun q h => by rw [← hAe]; exact Or.inr h
  have hP : va_P (dC, dI) vwCl [(y, .inr (10, mF z 0 0 0 0 0 0 0 0 0 (-1) (-1))), (z 0, .inl (mA, 101660, .inl (fun _ => 0))), (z 1, .inl (mT, 900, .inl (fun _ => 0))), (z 2, .inl (mX, 900, .inl (fun _ => 0))), (z 23, .inl (mC, 17576, .inl (fun _ => 0)))] s.heap := hP
  have hD : va_D A [(y, .inr (10, mF z 0 0 0 0 0 0 0 0 0 (-1) (-1))), (z 0, .inl (mA, 101660, .inl (fun _ => 0))), (z 1, .inl (mT, 900, .inl (fun _ => 0))), (z 2, .inl (mX, 900, .inl (fun _ => 0))), (z 23, .inl (mC, 17576, .inl (fun _ => 0)))] := hD
  have hK : va_K (dC, dI) vwCl [(mA, .int), (mT, .byte), (mX, .byte), (mC, .boolean)] s := hK
  generalize hH : s.heap = H at hP ⊢
  have hS : va_S A s.heap H [] := by rw [← hH]; exact va_S.rf
  have hl := lv_entry ([.ref y, .int i0]) (n := 4) (Nat.le_of_ble_eq_true rfl)
  rw [lg_entry_eq]
  generalize (lg_sl ([.ref y, .int i0]) ++ List.replicate (4 - (lg_sl ([.ref y, .int i0])).length) Slot.unset).toArray = ls at hl ⊢
  have hl : lv_has ls 4 [(0, .ref y), (1, .int i0)] := hl
  refine lv_aload_n hx hb dX10_rarest_0 rfl (lv_at hl 0 rfl) ?_
  refine lv_iload_n hx hb dX10_rarest_1 rfl (lv_at hl 1 rfl) ?_
  have hPc := hP.sub (ws' := [(y, .inr (10, mF z 0 0 0 0 0 0 0 0 0 (-1) (-1))), (z 0, .inl (mA, 101660, .inl (fun _ => 0)))]) [0, 1] rfl
  have hKc := hK.sub (tys' := [(mA, .int)]) [0] rfl
  refine vp_callSi (W.runV (As := [.int i0]) (rest := []) ⟨hx, hb, hml, hown, hts⟩ (m_isPattern l dC dI y z 0 0 0 0 0 0 0 0 0 (-1) (-1) mA i0) (cwV 1 hts mg_X10_rarest_X10_isPattern_458 rfl rfl rfl (by decide +kernel) ⟨Nat.le_of_ble_eq_true rfl, Nat.le_of_ble_eq_true rfl⟩) ⟨fun a U g mk q => by obtain ⟨q0, qP, qK⟩ := q; exact ⟨q0, qP, va_K.moved (u := U) (U := U.calling g mk a) (Vm.Alike.refl U.vm) qK⟩, va_recv hKc hPc (ci := 10) (q0 := 0) rfl rfl, fun U hU hW => ⟨rfl, by rw [hU]; exact hPc, va_K.moved hW.alike hKc⟩⟩ rfl rfl hl.1 rfl (lv_room (Nat.le_of_ble_eq_true rfl)) dX10_rarest_2 ⟨Nat.le_of_ble_eq_true rfl, Nat.le_of_ble_eq_true rfl⟩) (fun r_2 hw => ?_)
  subst hw
  refine lv_if_ne (tgt := 14) hx hb dX10_rarest_5 (by decide) (fun k_3 => absurd (by decide) k_3) (fun k_3 => ?_)
  refine lv_aload_n hx hb dX10_rarest_8 rfl (lv_at hl 0 rfl) ?_
  refine lv_iconst (v := 2) hx hb dX10_rarest_9 (by decide) ?_
  have hPc := hP.sub (ws' := [(y, .inr (10, mF z 0 0 0 0 0 0 0 0 0 (-1) (-1)))]) [0] rfl
  have hKc := hK.sub (tys' := []) [] rfl
  have hDc := hD.sub (ws' := [(y, .inr (10, mF z 0 0 0 0 0 0 0 0 0 (-1) (-1)))]) [0] (by decide) rfl
  have hFc := va_free (wc := [(y, .inr (10, mF z 0 0 0 0 0 0 0 0 0 (-1) (-1)))]) hD hS hA [0] rfl
  refine va_calli (va_runV (As := [.int 2]) (rest := []) ⟨hx, hb, hml, hown, hts⟩ (m_refuse l dC dI y z 0 0 0 0 0 0 0 0 0 (-1) (-1) H.size 2) (cwV 1 hts mg_X10_rarest_X10_refuse_204 rfl rfl rfl (by decide +kernel) ⟨Nat.le_of_ble_eq_true rfl, Nat.le_of_ble_eq_true rfl⟩) ⟨fun a U g mk q => by obtain ⟨q0, q1, qP, qK, qD⟩ := q; exact ⟨q0, q1, qP, va_K.moved (u := U) (U := U.calling g mk a) (Vm.Alike.refl U.vm) qK, qD⟩, va_recv hKc hPc (ci := 10) (q0 := 0) rfl rfl, fun U hU hW => ⟨rfl, by rw [hU], by rw [hU]; exact hPc, va_K.moved hW.alike hKc, hDc.weaken (fun _ _ _ _ => trivial)⟩⟩ rfl rfl hl.1 rfl (lv_room (Nat.le_of_ble_eq_true rfl)) dX10_rarest_10 ⟨Nat.le_of_ble_eq_true rfl, Nat.le_of_ble_eq_true rfl⟩) hS (fun q _ h => hFc q h) hFc (fun r_5 u t H1 locs ht hvm hw hB hz1 hk1 hS => ?_)
  exact W.iret hx hb hr (fun t ht hW => ⟨⟨_, (), rfl, hw, trivial⟩, hS.F ht⟩) hS.2.2 dX10_rarest_13
theorem dX10_within_0 : decode cX10_within 0 = .ok (.aload_n 0, 1) := by decide +kernel
theorem dX10_within_1 : decode cX10_within 1 = .ok (.iload_n 1, 1) := by decide +kernel
theorem dX10_within_2 : decode cX10_within 2 = .ok (.invokevirtual 458, 3) := by decide +kernel
theorem dX10_within_5 : decode cX10_within 5 = .ok (.ifCond .eq 11, 3) := by decide +kernel
theorem dX10_within_16 : decode cX10_within 16 = .ok (.aload_n 0, 1) := by decide +kernel
theorem dX10_within_17 : decode cX10_within 17 = .ok (.iconst 2, 1) := by decide +kernel
theorem dX10_within_18 : decode cX10_within 18 = .ok (.invokevirtual 204, 3) := by decide +kernel
theorem dX10_within_21 : decode cX10_within 21 = .ok (.ireturn, 1) := by decide +kernel
def mwX10_within : List Cond := .code yX10_within cX10_within 8 (some .int) :: ([.code yX10_isPattern cX10_isPattern 2 (some .boolean), .fieldLink RX10 8 "PatternGateModel" "all" "[I", .methodLink RX10 458 yX10_isPattern, .instanceMethod yX10_isPattern, .selects RX10 yX10_isPattern yX10_isPattern, .initialized RX10, .code yX10_refuse cX10_refuse 2 (some .int), .fieldLink RX10 104 "PatternGateModel" "status" "I", .methodLink RX10 204 yX10_refuse, .instanceMethod yX10_refuse, .selects RX10 yX10_refuse yX10_refuse] ++ wsX100)
set_option maxRecDepth 20000 in
theorem mg_X10_within_X10_isPattern_458 : GoodIn mwX10_within (wsV RX10 458 RX10 yX10_isPattern mwX10_isPattern) := goodIn_r _ [3, 4, 5, 6, 1, 2, 12, 13, 14, 15, 16, 17, 18, 19, 20, 21, 22, 23, 24, 25, 26, 27, 28, 29, 30, 31, 32, 33, 34, 35, 36, 37, 38, 39, 40, 41, 42, 43, 44, 45, 46, 47, 48, 49, 50, 51, 52, 53, 54, 55, 56, 57, 58, 59] (by decide +kernel) (by decide +kernel)
set_option maxRecDepth 20000 in
theorem mg_X10_within_X10_refuse_204 : GoodIn mwX10_within (wsV RX10 204 RX10 yX10_refuse mwX10_refuse) := goodIn_r _ [9, 10, 11, 6, 7, 8, 12, 13, 14, 15, 16, 17, 18, 19, 20, 21, 22, 23, 24, 25, 26, 27, 28, 29, 30, 31, 32, 33, 34, 35, 36, 37, 38, 39, 40, 41, 42, 43, 44, 45, 46, 47, 48, 49, 50, 51, 52, 53, 54, 55, 56, 57, 58, 59] (by decide +kernel) (by decide +kernel)
set_option maxHeartbeats 4000000 in
set_option maxRecDepth 100000 in
/-- within of the reference, new -/
theorem m_within (l : Launch) (dC : Nat → ClassId) (dI : Nat → Nat → Nat) (y : Nat) (z : Nat → Nat) (mA mT mX mC : ClassId) (sz : Nat) (i0 i1 : Int32) : Met l yX10_within mwX10_within ({ frames := 2, cells := 0, slots := 0, locals := 120 }) (va_Pc [.ref y, .int i0, .int i1] (fun U => U.heap.size = sz ∧ va_P (dC, dI) vwCl (mW y z mA mT mX mC) U.heap ∧ va_K (dC, dI) vwCl (mT9 mA mT mX mC) U ∧ va_D (fun _ => True) (mW y z mA mT mX mC))) (va_Qi (fun (o : Int32) (_ : Unit) => o = (-1)) (fun _ _ => True) (va_A (mW y z mA mT mX mC) sz)) 0 0 (va_A (mW y z mA mT mX mC) sz) := by
  refine Met.ofW (cc := cX10_within) (maxL := 8) (ret := (some .int)) (by decide +kernel) rfl ?_
  intro p e s m args below meth c s₁ B hml hv
  obtain ⟨rfl, hsz, hP, hK, hD0⟩ := hv
  have hx := B.exec
  have hb := B.bytes
  have hr := B.returns
  have hts := atoms_spec (ws := mwX10_within) B.pre
  have hown : s.vm.findClass RX10 = some m.cls := findClass_of_methodNamed B.named
  have hlocks := B.notSynchronized
  subst hsz
  have hD := hD0.self (sz := s.heap.size)
  generalize hAe : va_A (mW y z mA mT mX mC) s.heap.size = A at hD ⊢
  have hA : ∀ q : Nat, s.heap.size ≤ q → A q := fun q h => by rw [← hAe]; exact Or.inr h
  have hP : va_P (dC, dI) vwCl [(y, .inr (10, mF z 0 0 0 0 0 0 0 0 0 (-1) (-1))), (z 0, .inl (mA, 101660, .inl (fun _ => 0))), (z 1, .inl (mT, 900, .inl (fun _ => 0))), (z 2, .inl (mX, 900, .inl (fun _ => 0))), (z 23, .inl (mC, 17576, .inl (fun _ => 0)))] s.heap := hP
  have hD : va_D A [(y, .inr (10, mF z 0 0 0 0 0 0 0 0 0 (-1) (-1))), (z 0, .inl (mA, 101660, .inl (fun _ => 0))), (z 1, .inl (mT, 900, .inl (fun _ => 0))), (z 2, .inl (mX, 900, .inl (fun _ => 0))), (z 23, .inl (mC, 17576, .inl (fun _ => 0)))] := hD
  have hK : va_K (dC, dI) vwCl [(mA, .int), (mT, .byte), (mX, .byte), (mC, .boolean)] s := hK
  generalize hH : s.heap = H at hP ⊢
  have hS : va_S A s.heap H [] := by rw [← hH]; exact va_S.rf
  have hl := lv_entry ([.ref y, .int i0, .int i1]) (n := 8) (Nat.le_of_ble_eq_true rfl)
  rw [lg_entry_eq]
  generalize (lg_sl ([.ref y, .int i0, .int i1]) ++ List.replicate (8 - (lg_sl ([.ref y, .int i0, .int i1])).length) Slot.unset).toArray = ls at hl ⊢
  have hl : lv_has ls 8 [(0, .ref y), (1, .int i0), (2, .int i1)] := hl
  refine lv_aload_n hx hb dX10_within_0 rfl (lv_at hl 0 rfl) ?_
  refine lv_iload_n hx hb dX10_within_1 rfl (lv_at hl 1 rfl) ?_
  have hPc := hP.sub (ws' := [(y, .inr (10, mF z 0 0 0 0 0 0 0 0 0 (-1) (-1))), (z 0, .inl (mA, 101660, .inl (fun _ => 0)))]) [0, 1] rfl
  have hKc := hK.sub (tys' := [(mA, .int)]) [0] rfl
  refine vp_callSi (W.runV (As := [.int i0]) (rest := []) ⟨hx, hb, hml, hown, hts⟩ (m_isPattern l dC dI y z 0 0 0 0 0 0 0 0 0 (-1) (-1) mA i0) (cwV 1 hts mg_X10_within_X10_isPattern_458 rfl rfl rfl (by decide +kernel) ⟨Nat.le_of_ble_eq_true rfl, Nat.le_of_ble_eq_true rfl⟩) ⟨fun a U g mk q => by obtain ⟨q0, qP, qK⟩ := q; exact ⟨q0, qP, va_K.moved (u := U) (U := U.calling g mk a) (Vm.Alike.refl U.vm) qK⟩, va_recv hKc hPc (ci := 10) (q0 := 0) rfl rfl, fun U hU hW => ⟨rfl, by rw [hU]; exact hPc, va_K.moved hW.alike hKc⟩⟩ rfl rfl hl.1 rfl (lv_room (Nat.le_of_ble_eq_true rfl)) dX10_within_2 ⟨Nat.le_of_ble_eq_true rfl, Nat.le_of_ble_eq_true rfl⟩) (fun r_2 hw => ?_)
  subst hw
  refine lv_if_eq (tgt := 16) hx hb dX10_within_5 (by decide) (fun k_3 => ?_) (fun k_3 => absurd (by decide) k_3)
  refine lv_aload_n hx hb dX10_within_16 rfl (lv_at hl 0 rfl) ?_
  refine lv_iconst (v := 2) hx hb dX10_within_17 (by decide) ?_
  have hPc := hP.sub (ws' := [(y, .inr (10, mF z 0 0 0 0 0 0 0 0 0 (-1) (-1)))]) [0] rfl
  have hKc := hK.sub (tys' := []) [] rfl
  have hDc := hD.sub (ws' := [(y, .inr (10, mF z 0 0 0 0 0 0 0 0 0 (-1) (-1)))]) [0] (by decide) rfl
  have hFc := va_free (wc := [(y, .inr (10, mF z 0 0 0 0 0 0 0 0 0 (-1) (-1)))]) hD hS hA [0] rfl
  refine va_calli (va_runV (As := [.int 2]) (rest := []) ⟨hx, hb, hml, hown, hts⟩ (m_refuse l dC dI y z 0 0 0 0 0 0 0 0 0 (-1) (-1) H.size 2) (cwV 1 hts mg_X10_within_X10_refuse_204 rfl rfl rfl (by decide +kernel) ⟨Nat.le_of_ble_eq_true rfl, Nat.le_of_ble_eq_true rfl⟩) ⟨fun a U g mk q => by obtain ⟨q0, q1, qP, qK, qD⟩ := q; exact ⟨q0, q1, qP, va_K.moved (u := U) (U := U.calling g mk a) (Vm.Alike.refl U.vm) qK, qD⟩, va_recv hKc hPc (ci := 10) (q0 := 0) rfl rfl, fun U hU hW => ⟨rfl, by rw [hU], by rw [hU]; exact hPc, va_K.moved hW.alike hKc, hDc.weaken (fun _ _ _ _ => trivial)⟩⟩ rfl rfl hl.1 rfl (lv_room (Nat.le_of_ble_eq_true rfl)) dX10_within_18 ⟨Nat.le_of_ble_eq_true rfl, Nat.le_of_ble_eq_true rfl⟩) hS (fun q _ h => hFc q h) hFc (fun r_5 u t H1 locs ht hvm hw hB hz1 hk1 hS => ?_)
  exact W.iret hx hb hr (fun t ht hW => ⟨⟨_, (), rfl, hw, trivial⟩, hS.F ht⟩) hS.2.2 dX10_within_21
theorem dX10_put_0 : decode cX10_put 0 = .ok (.aload_n 0, 1) := by decide +kernel
theorem dX10_put_1 : decode cX10_put 1 = .ok (.iload_n 1, 1) := by decide +kernel
theorem dX10_put_2 : decode cX10_put 2 = .ok (.iload_n 2, 1) := by decide +kernel
theorem dX10_put_3 : decode cX10_put 3 = .ok (.iload_n 3, 1) := by decide +kernel
theorem dX10_put_4 : decode cX10_put 4 = .ok (.invokevirtual 470, 3) := by decide +kernel
theorem dX10_put_7 : decode cX10_put 7 = .ok (.istore 4, 2) := by decide +kernel
theorem dX10_put_9 : decode cX10_put 9 = .ok (.iload 4, 2) := by decide +kernel
theorem dX10_put_11 : decode cX10_put 11 = .ok (.ifCond .le 10, 3) := by decide +kernel
theorem dX10_put_14 : decode cX10_put 14 = .ok (.aload_n 0, 1) := by decide +kernel
theorem dX10_put_15 : decode cX10_put 15 = .ok (.iload 4, 2) := by decide +kernel
theorem dX10_put_17 : decode cX10_put 17 = .ok (.invokevirtual 204, 3) := by decide +kernel
theorem dX10_put_20 : decode cX10_put 20 = .ok (.ireturn, 1) := by decide +kernel
def mwX10_put : List Cond := .code yX10_put cX10_put 6 (some .int) :: ([.code yX10_wrongPut cX10_wrongPut 4 (some .int), .code yX10_isFrom cX10_isFrom 3 (some .boolean), .methodLink RX10 200 yX10_isFrom, .static yX10_isFrom, .initialized RX10, .code yX10_isDoc cX10_isDoc 2 (some .boolean), .fieldLink RX10 8 "PatternGateModel" "all" "[I", .methodLink RX10 451 yX10_isDoc, .instanceMethod yX10_isDoc, .selects RX10 yX10_isDoc yX10_isDoc, .methodLink RX10 470 yX10_wrongPut, .instanceMethod yX10_wrongPut, .selects RX10 yX10_wrongPut yX10_wrongPut, .code yX10_refuse cX10_refuse 2 (some .int), .fieldLink RX10 104 "PatternGateModel" "status" "I", .methodLink RX10 204 yX10_refuse, .instanceMethod yX10_refuse, .selects RX10 yX10_refuse yX10_refuse] ++ wsX100)
set_option maxRecDepth 20000 in
theorem mg_X10_put_X10_wrongPut_470 : GoodIn mwX10_put (wsV RX10 470 RX10 yX10_wrongPut mwX10_wrongPut) := goodIn_r _ [11, 12, 13, 5, 1, 2, 3, 4, 5, 6, 7, 8, 9, 10, 19, 20, 21, 22, 23, 24, 25, 26, 27, 28, 29, 30, 31, 32, 33, 34, 35, 36, 37, 38, 39, 40, 41, 42, 43, 44, 45, 46, 47, 48, 49, 50, 51, 52, 53, 54, 55, 56, 57, 58, 59, 60, 61, 62, 63, 64, 65, 66] (by decide +kernel) (by decide +kernel)
set_option maxRecDepth 20000 in
theorem mg_X10_put_X10_refuse_204 : GoodIn mwX10_put (wsV RX10 204 RX10 yX10_refuse mwX10_refuse) := goodIn_r _ [16, 17, 18, 5, 14, 15, 19, 20, 21, 22, 23, 24, 25, 26, 27, 28, 29, 30, 31, 32, 33, 34, 35, 36, 37, 38, 39, 40, 41, 42, 43, 44, 45, 46, 47, 48, 49, 50, 51, 52, 53, 54, 55, 56, 57, 58, 59, 60, 61, 62, 63, 64, 65, 66] (by decide +kernel) (by decide +kernel)
set_option maxHeartbeats 4000000 in
set_option maxRecDepth 100000 in
/-- put of the reference, new -/
theorem m_put (l : Launch) (dC : Nat → ClassId) (dI : Nat → Nat → Nat) (y : Nat) (z : Nat → Nat) (mA mT mX mC : ClassId) (sz : Nat) (i0 i1 i2 : Int32) : Met l yX10_put mwX10_put ({ frames := 2, cells := 0, slots := 0, locals := 120 }) (va_Pc [.ref y, .int i0, .int i1, .int i2] (fun U => U.heap.size = sz ∧ va_P (dC, dI) vwCl (mW y z mA mT mX mC) U.heap ∧ va_K (dC, dI) vwCl (mT9 mA mT mX mC) U ∧ va_D (fun _ => True) (mW y z mA mT mX mC))) (va_Qi (fun (o : Int32) (_ : Unit) => o = (-1)) (fun _ _ => True) (va_A (mW y z mA mT mX mC) sz)) 0 0 (va_A (mW y z mA mT mX mC) sz) := by
  refine Met.ofW (cc := cX10_put) (maxL := 6) (ret := (some .int)) (by decide +kernel) rfl ?_
  intro p e s m args below meth c s₁ B hml hv
  obtain ⟨rfl, hsz, hP, hK, hD0⟩ := hv
  have hx := B.exec
  have hb := B.bytes
  have hr := B.returns
  have hts := atoms_spec (ws := mwX10_put) B.pre
  have hown : s.vm.findClass RX10 = some m.cls := findClass_of_methodNamed B.named
  have hlocks := B.notSynchronized
  subst hsz
  have hD := hD0.self (sz := s.heap.size)
  generalize hAe : va_A (mW y z mA mT mX mC) s.heap.size = A at hD ⊢
  have hA : ∀ q : Nat, s.heap.size ≤ q → A q := fun q h => by rw [← hAe]; exact Or.inr h
  have hP : va_P (dC, dI) vwCl [(y, .inr (10, mF z 0 0 0 0 0 0 0 0 0 (-1) (-1))), (z 0, .inl (mA, 101660, .inl (fun _ => 0))), (z 1, .inl (mT, 900, .inl (fun _ => 0))), (z 2, .inl (mX, 900, .inl (fun _ => 0))), (z 23, .inl (mC, 17576, .inl (fun _ => 0)))] s.heap := hP
  have hD : va_D A [(y, .inr (10, mF z 0 0 0 0 0 0 0 0 0 (-1) (-1))), (z 0, .inl (mA, 101660, .inl (fun _ => 0))), (z 1, .inl (mT, 900, .inl (fun _ => 0))), (z 2, .inl (mX, 900, .inl (fun _ => 0))), (z 23, .inl (mC, 17576, .inl (fun _ => 0)))] := hD
  have hK : va_K (dC, dI) vwCl [(mA, .int), (mT, .byte), (mX, .byte), (mC, .boolean)] s := hK
  generalize hH : s.heap = H at hP ⊢
  have hS : va_S A s.heap H [] := by rw [← hH]; exact va_S.rf
  have hl := lv_entry ([.ref y, .int i0, .int i1, .int i2]) (n := 6) (Nat.le_of_ble_eq_true rfl)
  rw [lg_entry_eq]
  generalize (lg_sl ([.ref y, .int i0, .int i1, .int i2]) ++ List.replicate (6 - (lg_sl ([.ref y, .int i0, .int i1, .int i2])).length) Slot.unset).toArray = ls at hl ⊢
  have hl : lv_has ls 6 [(0, .ref y), (1, .int i0), (2, .int i1), (3, .int i2)] := hl
  refine lv_aload_n hx hb dX10_put_0 rfl (lv_at hl 0 rfl) ?_
  refine lv_iload_n hx hb dX10_put_1 rfl (lv_at hl 1 rfl) ?_
  refine lv_iload_n hx hb dX10_put_2 rfl (lv_at hl 2 rfl) ?_
  refine lv_iload_n hx hb dX10_put_3 rfl (lv_at hl 3 rfl) ?_
  have hPc := hP.sub (ws' := [(y, .inr (10, mF z 0 0 0 0 0 0 0 0 0 (-1) (-1))), (z 0, .inl (mA, 101660, .inl (fun _ => 0)))]) [0, 1] rfl
  have hKc := hK.sub (tys' := [(mA, .int)]) [0] rfl
  refine vp_callSi (W.runV (As := [.int i0, .int i1, .int i2]) (rest := []) ⟨hx, hb, hml, hown, hts⟩ (m_wrongPut l dC dI y z 0 0 0 0 0 0 0 0 0 (-1) (-1) mA i0 i1 i2) (cwV 3 hts mg_X10_put_X10_wrongPut_470 rfl rfl rfl (by decide +kernel) ⟨Nat.le_of_ble_eq_true rfl, Nat.le_of_ble_eq_true rfl⟩) ⟨fun a U g mk q => by obtain ⟨q0, qP, qK⟩ := q; exact ⟨q0, qP, va_K.moved (u := U) (U := U.calling g mk a) (Vm.Alike.refl U.vm) qK⟩, va_recv hKc hPc (ci := 10) (q0 := 0) rfl rfl, fun U hU hW => ⟨rfl, by rw [hU]; exact hPc, va_K.moved hW.alike hKc⟩⟩ rfl rfl hl.1 rfl (lv_room (Nat.le_of_ble_eq_true rfl)) dX10_put_4 ⟨Nat.le_of_ble_eq_true rfl, Nat.le_of_ble_eq_true rfl⟩) (fun r_2 hw => ?_)
  rcases hw with rfl | rfl
  · refine lv_istore (lv' := [(4, .int 1), (0, .ref y), (1, .int i0), (2, .int i1), (3, .int i2)]) hx hb dX10_put_7 hl (by decide) rfl (fun ls hl => ?_)
    refine lv_iload hx hb dX10_put_9 (lv_at hl 0 rfl) ?_
    refine lv_if_le (tgt := 21) hx hb dX10_put_11 (by decide) (fun k_3 => absurd k_3 (by decide)) (fun k_3 => ?_)
    refine lv_aload_n hx hb dX10_put_14 rfl (lv_at hl 1 rfl) ?_
    refine lv_iload hx hb dX10_put_15 (lv_at hl 0 rfl) ?_
    have hPc := hP.sub (ws' := [(y, .inr (10, mF z 0 0 0 0 0 0 0 0 0 (-1) (-1)))]) [0] rfl
    have hKc := hK.sub (tys' := []) [] rfl
    have hDc := hD.sub (ws' := [(y, .inr (10, mF z 0 0 0 0 0 0 0 0 0 (-1) (-1)))]) [0] (by decide) rfl
    have hFc := va_free (wc := [(y, .inr (10, mF z 0 0 0 0 0 0 0 0 0 (-1) (-1)))]) hD hS hA [0] rfl
    refine va_calli (va_runV (As := [.int 1]) (rest := []) ⟨hx, hb, hml, hown, hts⟩ (m_refuse l dC dI y z 0 0 0 0 0 0 0 0 0 (-1) (-1) H.size 1) (cwV 1 hts mg_X10_put_X10_refuse_204 rfl rfl rfl (by decide +kernel) ⟨Nat.le_of_ble_eq_true rfl, Nat.le_of_ble_eq_true rfl⟩) ⟨fun a U g mk q => by obtain ⟨q0, q1, qP, qK, qD⟩ := q; exact ⟨q0, q1, qP, va_K.moved (u := U) (U := U.calling g mk a) (Vm.Alike.refl U.vm) qK, qD⟩, va_recv hKc hPc (ci := 10) (q0 := 0) rfl rfl, fun U hU hW => ⟨rfl, by rw [hU], by rw [hU]; exact hPc, va_K.moved hW.alike hKc, hDc.weaken (fun _ _ _ _ => trivial)⟩⟩ rfl rfl hl.1 rfl (lv_room (Nat.le_of_ble_eq_true rfl)) dX10_put_17 ⟨Nat.le_of_ble_eq_true rfl, Nat.le_of_ble_eq_true rfl⟩) hS (fun q _ h => hFc q h) hFc (fun r_5 u t H1 locs ht hvm hw hB hz1 hk1 hS => ?_)
    exact W.iret hx hb hr (fun t ht hW => ⟨⟨_, (), rfl, hw, trivial⟩, hS.F ht⟩) hS.2.2 dX10_put_20
  · refine lv_istore (lv' := [(4, .int 2), (0, .ref y), (1, .int i0), (2, .int i1), (3, .int i2)]) hx hb dX10_put_7 hl (by decide) rfl (fun ls hl => ?_)
    refine lv_iload hx hb dX10_put_9 (lv_at hl 0 rfl) ?_
    refine lv_if_le (tgt := 21) hx hb dX10_put_11 (by decide) (fun k_6 => absurd k_6 (by decide)) (fun k_6 => ?_)
    refine lv_aload_n hx hb dX10_put_14 rfl (lv_at hl 1 rfl) ?_
    refine lv_iload hx hb dX10_put_15 (lv_at hl 0 rfl) ?_
    have hPc := hP.sub (ws' := [(y, .inr (10, mF z 0 0 0 0 0 0 0 0 0 (-1) (-1)))]) [0] rfl
    have hKc := hK.sub (tys' := []) [] rfl
    have hDc := hD.sub (ws' := [(y, .inr (10, mF z 0 0 0 0 0 0 0 0 0 (-1) (-1)))]) [0] (by decide) rfl
    have hFc := va_free (wc := [(y, .inr (10, mF z 0 0 0 0 0 0 0 0 0 (-1) (-1)))]) hD hS hA [0] rfl
    refine va_calli (va_runV (As := [.int 2]) (rest := []) ⟨hx, hb, hml, hown, hts⟩ (m_refuse l dC dI y z 0 0 0 0 0 0 0 0 0 (-1) (-1) H.size 2) (cwV 1 hts mg_X10_put_X10_refuse_204 rfl rfl rfl (by decide +kernel) ⟨Nat.le_of_ble_eq_true rfl, Nat.le_of_ble_eq_true rfl⟩) ⟨fun a U g mk q => by obtain ⟨q0, q1, qP, qK, qD⟩ := q; exact ⟨q0, q1, qP, va_K.moved (u := U) (U := U.calling g mk a) (Vm.Alike.refl U.vm) qK, qD⟩, va_recv hKc hPc (ci := 10) (q0 := 0) rfl rfl, fun U hU hW => ⟨rfl, by rw [hU], by rw [hU]; exact hPc, va_K.moved hW.alike hKc, hDc.weaken (fun _ _ _ _ => trivial)⟩⟩ rfl rfl hl.1 rfl (lv_room (Nat.le_of_ble_eq_true rfl)) dX10_put_17 ⟨Nat.le_of_ble_eq_true rfl, Nat.le_of_ble_eq_true rfl⟩) hS (fun q _ h => hFc q h) hFc (fun r_8 u t H1 locs ht hvm hw hB hz1 hk1 hS => ?_)
    exact W.iret hx hb hr (fun t ht hW => ⟨⟨_, (), rfl, hw, trivial⟩, hS.F ht⟩) hS.2.2 dX10_put_20
theorem dX10_let_0 : decode cX10_let 0 = .ok (.iload_n 2, 1) := by decide +kernel
theorem dX10_let_1 : decode cX10_let 1 = .ok (.ifCond .lt 13, 3) := by decide +kernel
theorem dX10_let_4 : decode cX10_let 4 = .ok (.iload_n 3, 1) := by decide +kernel
theorem dX10_let_5 : decode cX10_let 5 = .ok (.iconst 0, 1) := by decide +kernel
theorem dX10_let_6 : decode cX10_let 6 = .ok (.bipush 25, 2) := by decide +kernel
theorem dX10_let_8 : decode cX10_let 8 = .ok (.invokestatic 200, 3) := by decide +kernel
theorem dX10_let_11 : decode cX10_let 11 = .ok (.ifCond .ne 9, 3) := by decide +kernel
theorem dX10_let_14 : decode cX10_let 14 = .ok (.aload_n 0, 1) := by decide +kernel
theorem dX10_let_15 : decode cX10_let 15 = .ok (.iconst 1, 1) := by decide +kernel
theorem dX10_let_16 : decode cX10_let 16 = .ok (.invokevirtual 204, 3) := by decide +kernel
theorem dX10_let_19 : decode cX10_let 19 = .ok (.ireturn, 1) := by decide +kernel
theorem dX10_let_20 : decode cX10_let 20 = .ok (.aload_n 0, 1) := by decide +kernel
theorem dX10_let_21 : decode cX10_let 21 = .ok (.iload_n 1, 1) := by decide +kernel
theorem dX10_let_22 : decode cX10_let 22 = .ok (.invokevirtual 451, 3) := by decide +kernel
theorem dX10_let_25 : decode cX10_let 25 = .ok (.ifCond .ne 9, 3) := by decide +kernel
theorem dX10_let_28 : decode cX10_let 28 = .ok (.aload_n 0, 1) := by decide +kernel
theorem dX10_let_29 : decode cX10_let 29 = .ok (.iconst 2, 1) := by decide +kernel
theorem dX10_let_30 : decode cX10_let 30 = .ok (.invokevirtual 204, 3) := by decide +kernel
theorem dX10_let_33 : decode cX10_let 33 = .ok (.ireturn, 1) := by decide +kernel
def mwX10_let : List Cond := .code yX10_let cX10_let 5 (some .int) :: ([.code yX10_refuse cX10_refuse 2 (some .int), .fieldLink RX10 104 "PatternGateModel" "status" "I", .methodLink RX10 204 yX10_refuse, .instanceMethod yX10_refuse, .selects RX10 yX10_refuse yX10_refuse, .initialized RX10, .code yX10_isFrom cX10_isFrom 3 (some .boolean), .methodLink RX10 200 yX10_isFrom, .static yX10_isFrom, .code yX10_isDoc cX10_isDoc 2 (some .boolean), .fieldLink RX10 8 "PatternGateModel" "all" "[I", .methodLink RX10 451 yX10_isDoc, .instanceMethod yX10_isDoc, .selects RX10 yX10_isDoc yX10_isDoc] ++ wsX100)
set_option maxRecDepth 20000 in
theorem mg_X10_let_X10_refuse_204 : GoodIn mwX10_let (wsV RX10 204 RX10 yX10_refuse mwX10_refuse) := goodIn_r _ [3, 4, 5, 6, 1, 2, 15, 16, 17, 18, 19, 20, 21, 22, 23, 24, 25, 26, 27, 28, 29, 30, 31, 32, 33, 34, 35, 36, 37, 38, 39, 40, 41, 42, 43, 44, 45, 46, 47, 48, 49, 50, 51, 52, 53, 54, 55, 56, 57, 58, 59, 60, 61, 62] (by decide +kernel) (by decide +kernel)
set_option maxRecDepth 20000 in
theorem mg_X10_let_X10_isFrom_200 : GoodIn mwX10_let (va_wsS RX10 200 yX10_isFrom mwX10_isFrom) := goodIn_r _ [8, 9, 6, 7] (by decide +kernel) (by decide +kernel)
set_option maxRecDepth 20000 in
theorem mg_X10_let_X10_isDoc_451 : GoodIn mwX10_let (wsV RX10 451 RX10 yX10_isDoc mwX10_isDoc) := goodIn_r _ [12, 13, 14, 6, 10, 11, 15, 16, 17, 18, 19, 20, 21, 22, 23, 24, 25, 26, 27, 28, 29, 30, 31, 32, 33, 34, 35, 36, 37, 38, 39, 40, 41, 42, 43, 44, 45, 46, 47, 48, 49, 50, 51, 52, 53, 54, 55, 56, 57, 58, 59, 60, 61, 62] (by decide +kernel) (by decide +kernel)
set_option maxHeartbeats 4000000 in
set_option maxRecDepth 100000 in
/-- let of the reference, new -/
theorem m_let (l : Launch) (dC : Nat → ClassId) (dI : Nat → Nat → Nat) (y : Nat) (z : Nat → Nat) (mA mT mX mC : ClassId) (sz : Nat) (i0 i1 i2 : Int32) : Met l yX10_let mwX10_let ({ frames := 2, cells := 0, slots := 0, locals := 120 }) (va_Pc [.ref y, .int i0, .int i1, .int i2] (fun U => U.heap.size = sz ∧ va_P (dC, dI) vwCl (mW y z mA mT mX mC) U.heap ∧ va_K (dC, dI) vwCl (mT9 mA mT mX mC) U ∧ va_D (fun _ => True) (mW y z mA mT mX mC))) (va_Qi (fun (o : Int32) (_ : Unit) => o = (-1)) (fun _ _ => True) (va_A (mW y z mA mT mX mC) sz)) 0 0 (va_A (mW y z mA mT mX mC) sz) := by
  refine Met.ofW (cc := cX10_let) (maxL := 5) (ret := (some .int)) (by decide +kernel) rfl ?_
  intro p e s m args below meth c s₁ B hml hv
  obtain ⟨rfl, hsz, hP, hK, hD0⟩ := hv
  have hx := B.exec
  have hb := B.bytes
  have hr := B.returns
  have hts := atoms_spec (ws := mwX10_let) B.pre
  have hown : s.vm.findClass RX10 = some m.cls := findClass_of_methodNamed B.named
  have hlocks := B.notSynchronized
  subst hsz
  have hD := hD0.self (sz := s.heap.size)
  generalize hAe : va_A (mW y z mA mT mX mC) s.heap.size = A at hD ⊢
  have hA : ∀ q : Nat, s.heap.size ≤ q → A q := fun q h => by rw [← hAe]; exact Or.inr h
  have hP : va_P (dC, dI) vwCl [(y, .inr (10, mF z 0 0 0 0 0 0 0 0 0 (-1) (-1))), (z 0, .inl (mA, 101660, .inl (fun _ => 0))), (z 1, .inl (mT, 900, .inl (fun _ => 0))), (z 2, .inl (mX, 900, .inl (fun _ => 0))), (z 23, .inl (mC, 17576, .inl (fun _ => 0)))] s.heap := hP
  have hD : va_D A [(y, .inr (10, mF z 0 0 0 0 0 0 0 0 0 (-1) (-1))), (z 0, .inl (mA, 101660, .inl (fun _ => 0))), (z 1, .inl (mT, 900, .inl (fun _ => 0))), (z 2, .inl (mX, 900, .inl (fun _ => 0))), (z 23, .inl (mC, 17576, .inl (fun _ => 0)))] := hD
  have hK : va_K (dC, dI) vwCl [(mA, .int), (mT, .byte), (mX, .byte), (mC, .boolean)] s := hK
  generalize hH : s.heap = H at hP ⊢
  have hS : va_S A s.heap H [] := by rw [← hH]; exact va_S.rf
  have hl := lv_entry ([.ref y, .int i0, .int i1, .int i2]) (n := 5) (Nat.le_of_ble_eq_true rfl)
  rw [lg_entry_eq]
  generalize (lg_sl ([.ref y, .int i0, .int i1, .int i2]) ++ List.replicate (5 - (lg_sl ([.ref y, .int i0, .int i1, .int i2])).length) Slot.unset).toArray = ls at hl ⊢
  have hl : lv_has ls 5 [(0, .ref y), (1, .int i0), (2, .int i1), (3, .int i2)] := hl
  refine lv_iload_n hx hb dX10_let_0 rfl (lv_at hl 2 rfl) ?_
  refine lv_if_lt (tgt := 14) hx hb dX10_let_1 (by decide) (fun k_1 => ?_) (fun k_1 => ?_)
  · refine lv_aload_n hx hb dX10_let_14 rfl (lv_at hl 0 rfl) ?_
    refine lv_iconst (v := 1) hx hb dX10_let_15 (by decide) ?_
    have hPc := hP.sub (ws' := [(y, .inr (10, mF z 0 0 0 0 0 0 0 0 0 (-1) (-1)))]) [0] rfl
    have hKc := hK.sub (tys' := []) [] rfl
    have hDc := hD.sub (ws' := [(y, .inr (10, mF z 0 0 0 0 0 0 0 0 0 (-1) (-1)))]) [0] (by decide) rfl
    have hFc := va_free (wc := [(y, .inr (10, mF z 0 0 0 0 0 0 0 0 0 (-1) (-1)))]) hD hS hA [0] rfl
    refine va_calli (va_runV (As := [.int 1]) (rest := []) ⟨hx, hb, hml, hown, hts⟩ (m_refuse l dC dI y z 0 0 0 0 0 0 0 0 0 (-1) (-1) H.size 1) (cwV 1 hts mg_X10_let_X10_refuse_204 rfl rfl rfl (by decide +kernel) ⟨Nat.le_of_ble_eq_true rfl, Nat.le_of_ble_eq_true rfl⟩) ⟨fun a U g mk q => by obtain ⟨q0, q1, qP, qK, qD⟩ := q; exact ⟨q0, q1, qP, va_K.moved (u := U) (U := U.calling g mk a) (Vm.Alike.refl U.vm) qK, qD⟩, va_recv hKc hPc (ci := 10) (q0 := 0) rfl rfl, fun U hU hW => ⟨rfl, by rw [hU], by rw [hU]; exact hPc, va_K.moved hW.alike hKc, hDc.weaken (fun _ _ _ _ => trivial)⟩⟩ rfl rfl hl.1 rfl (lv_room (Nat.le_of_ble_eq_true rfl)) dX10_let_16 ⟨Nat.le_of_ble_eq_true rfl, Nat.le_of_ble_eq_true rfl⟩) hS (fun q _ h => hFc q h) hFc (fun r_3 u t H1 locs ht hvm hw hB hz1 hk1 hS => ?_)
    exact W.iret hx hb hr (fun t ht hW => ⟨⟨_, (), rfl, hw, trivial⟩, hS.F ht⟩) hS.2.2 dX10_let_19
  · refine lv_iload_n hx hb dX10_let_4 rfl (lv_at hl 3 rfl) ?_
    refine lv_iconst (v := 0) hx hb dX10_let_5 (by decide) ?_
    refine lv_bipush (v := 25) hx hb dX10_let_6 (by decide) ?_
    refine vp_callSi (W.runS (As := [.int i2, .int 0, .int 25]) (rest := []) ⟨hx, hb, hml, hown, hts⟩ (m_isFrom l dC dI i2 0 25) (va_cwS 3 hts mg_X10_let_X10_isFrom_200 rfl rfl rfl (by decide +kernel) ⟨Nat.le_of_ble_eq_true rfl, Nat.le_of_ble_eq_true rfl⟩) ⟨fun a U g mk q => ⟨q.1, trivial⟩, fun U hU hW => ⟨rfl, trivial⟩⟩ rfl rfl hl.1 rfl (lv_room (Nat.le_of_ble_eq_true rfl)) dX10_let_8 ⟨Nat.le_of_ble_eq_true rfl, Nat.le_of_ble_eq_true rfl⟩) (fun r_5 hw => ?_)
    rcases hw with ⟨rfl, hF1, hF2⟩ | ⟨rfl, hF3⟩
    · refine lv_if_ne (tgt := 20) hx hb dX10_let_11 (by decide) (fun k_6 => ?_) (fun k_6 => absurd k_6 (by decide))
      refine lv_aload_n hx hb dX10_let_20 rfl (lv_at hl 0 rfl) ?_
      refine lv_iload_n hx hb dX10_let_21 rfl (lv_at hl 1 rfl) ?_
      have hPc := hP.sub (ws' := [(y, .inr (10, mF z 0 0 0 0 0 0 0 0 0 (-1) (-1))), (z 0, .inl (mA, 101660, .inl (fun _ => 0)))]) [0, 1] rfl
      have hKc := hK.sub (tys' := [(mA, .int)]) [0] rfl
      refine vp_callSi (W.runV (As := [.int i0]) (rest := []) ⟨hx, hb, hml, hown, hts⟩ (m_isDoc l dC dI y z 0 0 0 0 0 0 0 0 0 (-1) (-1) mA i0) (cwV 1 hts mg_X10_let_X10_isDoc_451 rfl rfl rfl (by decide +kernel) ⟨Nat.le_of_ble_eq_true rfl, Nat.le_of_ble_eq_true rfl⟩) ⟨fun a U g mk q => by obtain ⟨q0, qP, qK⟩ := q; exact ⟨q0, qP, va_K.moved (u := U) (U := U.calling g mk a) (Vm.Alike.refl U.vm) qK⟩, va_recv hKc hPc (ci := 10) (q0 := 0) rfl rfl, fun U hU hW => ⟨rfl, by rw [hU]; exact hPc, va_K.moved hW.alike hKc⟩⟩ rfl rfl hl.1 rfl (lv_room (Nat.le_of_ble_eq_true rfl)) dX10_let_22 ⟨Nat.le_of_ble_eq_true rfl, Nat.le_of_ble_eq_true rfl⟩) (fun r_8 hw => ?_)
      subst hw
      refine lv_if_ne (tgt := 34) hx hb dX10_let_25 (by decide) (fun k_9 => absurd (by decide) k_9) (fun k_9 => ?_)
      refine lv_aload_n hx hb dX10_let_28 rfl (lv_at hl 0 rfl) ?_
      refine lv_iconst (v := 2) hx hb dX10_let_29 (by decide) ?_
      have hPc := hP.sub (ws' := [(y, .inr (10, mF z 0 0 0 0 0 0 0 0 0 (-1) (-1)))]) [0] rfl
      have hKc := hK.sub (tys' := []) [] rfl
      have hDc := hD.sub (ws' := [(y, .inr (10, mF z 0 0 0 0 0 0 0 0 0 (-1) (-1)))]) [0] (by decide) rfl
      have hFc := va_free (wc := [(y, .inr (10, mF z 0 0 0 0 0 0 0 0 0 (-1) (-1)))]) hD hS hA [0] rfl
      refine va_calli (va_runV (As := [.int 2]) (rest := []) ⟨hx, hb, hml, hown, hts⟩ (m_refuse l dC dI y z 0 0 0 0 0 0 0 0 0 (-1) (-1) H.size 2) (cwV 1 hts mg_X10_let_X10_refuse_204 rfl rfl rfl (by decide +kernel) ⟨Nat.le_of_ble_eq_true rfl, Nat.le_of_ble_eq_true rfl⟩) ⟨fun a U g mk q => by obtain ⟨q0, q1, qP, qK, qD⟩ := q; exact ⟨q0, q1, qP, va_K.moved (u := U) (U := U.calling g mk a) (Vm.Alike.refl U.vm) qK, qD⟩, va_recv hKc hPc (ci := 10) (q0 := 0) rfl rfl, fun U hU hW => ⟨rfl, by rw [hU], by rw [hU]; exact hPc, va_K.moved hW.alike hKc, hDc.weaken (fun _ _ _ _ => trivial)⟩⟩ rfl rfl hl.1 rfl (lv_room (Nat.le_of_ble_eq_true rfl)) dX10_let_30 ⟨Nat.le_of_ble_eq_true rfl, Nat.le_of_ble_eq_true rfl⟩) hS (fun q _ h => hFc q h) hFc (fun r_11 u t H1 locs ht hvm hw hB hz1 hk1 hS => ?_)
      exact W.iret hx hb hr (fun t ht hW => ⟨⟨_, (), rfl, hw, trivial⟩, hS.F ht⟩) hS.2.2 dX10_let_33
    · refine lv_if_ne (tgt := 20) hx hb dX10_let_11 (by decide) (fun k_12 => absurd (by decide) k_12) (fun k_12 => ?_)
      refine lv_aload_n hx hb dX10_let_14 rfl (lv_at hl 0 rfl) ?_
      refine lv_iconst (v := 1) hx hb dX10_let_15 (by decide) ?_
      have hPc := hP.sub (ws' := [(y, .inr (10, mF z 0 0 0 0 0 0 0 0 0 (-1) (-1)))]) [0] rfl
      have hKc := hK.sub (tys' := []) [] rfl
      have hDc := hD.sub (ws' := [(y, .inr (10, mF z 0 0 0 0 0 0 0 0 0 (-1) (-1)))]) [0] (by decide) rfl
      have hFc := va_free (wc := [(y, .inr (10, mF z 0 0 0 0 0 0 0 0 0 (-1) (-1)))]) hD hS hA [0] rfl
      refine va_calli (va_runV (As := [.int 1]) (rest := []) ⟨hx, hb, hml, hown, hts⟩ (m_refuse l dC dI y z 0 0 0 0 0 0 0 0 0 (-1) (-1) H.size 1) (cwV 1 hts mg_X10_let_X10_refuse_204 rfl rfl rfl (by decide +kernel) ⟨Nat.le_of_ble_eq_true rfl, Nat.le_of_ble_eq_true rfl⟩) ⟨fun a U g mk q => by obtain ⟨q0, q1, qP, qK, qD⟩ := q; exact ⟨q0, q1, qP, va_K.moved (u := U) (U := U.calling g mk a) (Vm.Alike.refl U.vm) qK, qD⟩, va_recv hKc hPc (ci := 10) (q0 := 0) rfl rfl, fun U hU hW => ⟨rfl, by rw [hU], by rw [hU]; exact hPc, va_K.moved hW.alike hKc, hDc.weaken (fun _ _ _ _ => trivial)⟩⟩ rfl rfl hl.1 rfl (lv_room (Nat.le_of_ble_eq_true rfl)) dX10_let_16 ⟨Nat.le_of_ble_eq_true rfl, Nat.le_of_ble_eq_true rfl⟩) hS (fun q _ h => hFc q h) hFc (fun r_14 u t H1 locs ht hvm hw hB hz1 hk1 hS => ?_)
      exact W.iret hx hb hr (fun t ht hW => ⟨⟨_, (), rfl, hw, trivial⟩, hS.F ht⟩) hS.2.2 dX10_let_19
theorem dX10_cut_0 : decode cX10_cut 0 = .ok (.iload_n 2, 1) := by decide +kernel
theorem dX10_cut_1 : decode cX10_cut 1 = .ok (.ifCond .lt 8, 3) := by decide +kernel
theorem dX10_cut_4 : decode cX10_cut 4 = .ok (.iload_n 3, 1) := by decide +kernel
theorem dX10_cut_5 : decode cX10_cut 5 = .ok (.iconst 1, 1) := by decide +kernel
theorem dX10_cut_6 : decode cX10_cut 6 = .ok (.if_icmp .ge 9, 3) := by decide +kernel
theorem dX10_cut_9 : decode cX10_cut 9 = .ok (.aload_n 0, 1) := by decide +kernel
theorem dX10_cut_10 : decode cX10_cut 10 = .ok (.iconst 1, 1) := by decide +kernel
theorem dX10_cut_11 : decode cX10_cut 11 = .ok (.invokevirtual 204, 3) := by decide +kernel
theorem dX10_cut_14 : decode cX10_cut 14 = .ok (.ireturn, 1) := by decide +kernel
theorem dX10_cut_15 : decode cX10_cut 15 = .ok (.aload_n 0, 1) := by decide +kernel
theorem dX10_cut_16 : decode cX10_cut 16 = .ok (.iload_n 1, 1) := by decide +kernel
theorem dX10_cut_17 : decode cX10_cut 17 = .ok (.invokevirtual 451, 3) := by decide +kernel
theorem dX10_cut_20 : decode cX10_cut 20 = .ok (.ifCond .ne 9, 3) := by decide +kernel
theorem dX10_cut_23 : decode cX10_cut 23 = .ok (.aload_n 0, 1) := by decide +kernel
theorem dX10_cut_24 : decode cX10_cut 24 = .ok (.iconst 2, 1) := by decide +kernel
theorem dX10_cut_25 : decode cX10_cut 25 = .ok (.invokevirtual 204, 3) := by decide +kernel
theorem dX10_cut_28 : decode cX10_cut 28 = .ok (.ireturn, 1) := by decide +kernel
def mwX10_cut : List Cond := .code yX10_cut cX10_cut 5 (some .int) :: ([.code yX10_refuse cX10_refuse 2 (some .int), .fieldLink RX10 104 "PatternGateModel" "status" "I", .methodLink RX10 204 yX10_refuse, .instanceMethod yX10_refuse, .selects RX10 yX10_refuse yX10_refuse, .initialized RX10, .code yX10_isDoc cX10_isDoc 2 (some .boolean), .fieldLink RX10 8 "PatternGateModel" "all" "[I", .methodLink RX10 451 yX10_isDoc, .instanceMethod yX10_isDoc, .selects RX10 yX10_isDoc yX10_isDoc] ++ wsX100)
set_option maxRecDepth 20000 in
theorem mg_X10_cut_X10_refuse_204 : GoodIn mwX10_cut (wsV RX10 204 RX10 yX10_refuse mwX10_refuse) := goodIn_r _ [3, 4, 5, 6, 1, 2, 12, 13, 14, 15, 16, 17, 18, 19, 20, 21, 22, 23, 24, 25, 26, 27, 28, 29, 30, 31, 32, 33, 34, 35, 36, 37, 38, 39, 40, 41, 42, 43, 44, 45, 46, 47, 48, 49, 50, 51, 52, 53, 54, 55, 56, 57, 58, 59] (by decide +kernel) (by decide +kernel)
set_option maxRecDepth 20000 in
theorem mg_X10_cut_X10_isDoc_451 : GoodIn mwX10_cut (wsV RX10 451 RX10 yX10_isDoc mwX10_isDoc) := goodIn_r _ [9, 10, 11, 6, 7, 8, 12, 13, 14, 15, 16, 17, 18, 19, 20, 21, 22, 23, 24, 25, 26, 27, 28, 29, 30, 31, 32, 33, 34, 35, 36, 37, 38, 39, 40, 41, 42, 43, 44, 45, 46, 47, 48, 49, 50, 51, 52, 53, 54, 55, 56, 57, 58, 59] (by decide +kernel) (by decide +kernel)
set_option maxHeartbeats 4000000 in
set_option maxRecDepth 100000 in
/-- cut of the reference, new -/
theorem m_cut (l : Launch) (dC : Nat → ClassId) (dI : Nat → Nat → Nat) (y : Nat) (z : Nat → Nat) (mA mT mX mC : ClassId) (sz : Nat) (i0 i1 i2 : Int32) : Met l yX10_cut mwX10_cut ({ frames := 2, cells := 0, slots := 0, locals := 120 }) (va_Pc [.ref y, .int i0, .int i1, .int i2] (fun U => U.heap.size = sz ∧ va_P (dC, dI) vwCl (mW y z mA mT mX mC) U.heap ∧ va_K (dC, dI) vwCl (mT9 mA mT mX mC) U ∧ va_D (fun _ => True) (mW y z mA mT mX mC))) (va_Qi (fun (o : Int32) (_ : Unit) => o = (-1)) (fun _ _ => True) (va_A (mW y z mA mT mX mC) sz)) 0 0 (va_A (mW y z mA mT mX mC) sz) := by
  refine Met.ofW (cc := cX10_cut) (maxL := 5) (ret := (some .int)) (by decide +kernel) rfl ?_
  intro p e s m args below meth c s₁ B hml hv
  obtain ⟨rfl, hsz, hP, hK, hD0⟩ := hv
  have hx := B.exec
  have hb := B.bytes
  have hr := B.returns
  have hts := atoms_spec (ws := mwX10_cut) B.pre
  have hown : s.vm.findClass RX10 = some m.cls := findClass_of_methodNamed B.named
  have hlocks := B.notSynchronized
  subst hsz
  have hD := hD0.self (sz := s.heap.size)
  generalize hAe : va_A (mW y z mA mT mX mC) s.heap.size = A at hD ⊢
  have hA : ∀ q : Nat, s.heap.size ≤ q → A q := fun q h => by rw [← hAe]; exact Or.inr h
  have hP : va_P (dC, dI) vwCl [(y, .inr (10, mF z 0 0 0 0 0 0 0 0 0 (-1) (-1))), (z 0, .inl (mA, 101660, .inl (fun _ => 0))), (z 1, .inl (mT, 900, .inl (fun _ => 0))), (z 2, .inl (mX, 900, .inl (fun _ => 0))), (z 23, .inl (mC, 17576, .inl (fun _ => 0)))] s.heap := hP
  have hD : va_D A [(y, .inr (10, mF z 0 0 0 0 0 0 0 0 0 (-1) (-1))), (z 0, .inl (mA, 101660, .inl (fun _ => 0))), (z 1, .inl (mT, 900, .inl (fun _ => 0))), (z 2, .inl (mX, 900, .inl (fun _ => 0))), (z 23, .inl (mC, 17576, .inl (fun _ => 0)))] := hD
  have hK : va_K (dC, dI) vwCl [(mA, .int), (mT, .byte), (mX, .byte), (mC, .boolean)] s := hK
  generalize hH : s.heap = H at hP ⊢
  have hS : va_S A s.heap H [] := by rw [← hH]; exact va_S.rf
  have hl := lv_entry ([.ref y, .int i0, .int i1, .int i2]) (n := 5) (Nat.le_of_ble_eq_true rfl)
  rw [lg_entry_eq]
  generalize (lg_sl ([.ref y, .int i0, .int i1, .int i2]) ++ List.replicate (5 - (lg_sl ([.ref y, .int i0, .int i1, .int i2])).length) Slot.unset).toArray = ls at hl ⊢
  have hl : lv_has ls 5 [(0, .ref y), (1, .int i0), (2, .int i1), (3, .int i2)] := hl
  refine lv_iload_n hx hb dX10_cut_0 rfl (lv_at hl 2 rfl) ?_
  refine lv_if_lt (tgt := 9) hx hb dX10_cut_1 (by decide) (fun k_1 => ?_) (fun k_1 => ?_)
  · refine lv_aload_n hx hb dX10_cut_9 rfl (lv_at hl 0 rfl) ?_
    refine lv_iconst (v := 1) hx hb dX10_cut_10 (by decide) ?_
    have hPc := hP.sub (ws' := [(y, .inr (10, mF z 0 0 0 0 0 0 0 0 0 (-1) (-1)))]) [0] rfl
    have hKc := hK.sub (tys' := []) [] rfl
    have hDc := hD.sub (ws' := [(y, .inr (10, mF z 0 0 0 0 0 0 0 0 0 (-1) (-1)))]) [0] (by decide) rfl
    have hFc := va_free (wc := [(y, .inr (10, mF z 0 0 0 0 0 0 0 0 0 (-1) (-1)))]) hD hS hA [0] rfl
    refine va_calli (va_runV (As := [.int 1]) (rest := []) ⟨hx, hb, hml, hown, hts⟩ (m_refuse l dC dI y z 0 0 0 0 0 0 0 0 0 (-1) (-1) H.size 1) (cwV 1 hts mg_X10_cut_X10_refuse_204 rfl rfl rfl (by decide +kernel) ⟨Nat.le_of_ble_eq_true rfl, Nat.le_of_ble_eq_true rfl⟩) ⟨fun a U g mk q => by obtain ⟨q0, q1, qP, qK, qD⟩ := q; exact ⟨q0, q1, qP, va_K.moved (u := U) (U := U.calling g mk a) (Vm.Alike.refl U.vm) qK, qD⟩, va_recv hKc hPc (ci := 10) (q0 := 0) rfl rfl, fun U hU hW => ⟨rfl, by rw [hU], by rw [hU]; exact hPc, va_K.moved hW.alike hKc, hDc.weaken (fun _ _ _ _ => trivial)⟩⟩ rfl rfl hl.1 rfl (lv_room (Nat.le_of_ble_eq_true rfl)) dX10_cut_11 ⟨Nat.le_of_ble_eq_true rfl, Nat.le_of_ble_eq_true rfl⟩) hS (fun q _ h => hFc q h) hFc (fun r_3 u t H1 locs ht hvm hw hB hz1 hk1 hS => ?_)
    exact W.iret hx hb hr (fun t ht hW => ⟨⟨_, (), rfl, hw, trivial⟩, hS.F ht⟩) hS.2.2 dX10_cut_14
  · refine lv_iload_n hx hb dX10_cut_4 rfl (lv_at hl 3 rfl) ?_
    refine lv_iconst (v := 1) hx hb dX10_cut_5 (by decide) ?_
    refine lv_icmp_ge (tgt := 15) hx hb dX10_cut_6 (by decide) (fun k_4 => ?_) (fun k_4 => ?_)
    · refine lv_aload_n hx hb dX10_cut_15 rfl (lv_at hl 0 rfl) ?_
      refine lv_iload_n hx hb dX10_cut_16 rfl (lv_at hl 1 rfl) ?_
      have hPc := hP.sub (ws' := [(y, .inr (10, mF z 0 0 0 0 0 0 0 0 0 (-1) (-1))), (z 0, .inl (mA, 101660, .inl (fun _ => 0)))]) [0, 1] rfl
      have hKc := hK.sub (tys' := [(mA, .int)]) [0] rfl
      refine vp_callSi (W.runV (As := [.int i0]) (rest := []) ⟨hx, hb, hml, hown, hts⟩ (m_isDoc l dC dI y z 0 0 0 0 0 0 0 0 0 (-1) (-1) mA i0) (cwV 1 hts mg_X10_cut_X10_isDoc_451 rfl rfl rfl (by decide +kernel) ⟨Nat.le_of_ble_eq_true rfl, Nat.le_of_ble_eq_true rfl⟩) ⟨fun a U g mk q => by obtain ⟨q0, qP, qK⟩ := q; exact ⟨q0, qP, va_K.moved (u := U) (U := U.calling g mk a) (Vm.Alike.refl U.vm) qK⟩, va_recv hKc hPc (ci := 10) (q0 := 0) rfl rfl, fun U hU hW => ⟨rfl, by rw [hU]; exact hPc, va_K.moved hW.alike hKc⟩⟩ rfl rfl hl.1 rfl (lv_room (Nat.le_of_ble_eq_true rfl)) dX10_cut_17 ⟨Nat.le_of_ble_eq_true rfl, Nat.le_of_ble_eq_true rfl⟩) (fun r_6 hw => ?_)
      subst hw
      refine lv_if_ne (tgt := 29) hx hb dX10_cut_20 (by decide) (fun k_7 => absurd (by decide) k_7) (fun k_7 => ?_)
      refine lv_aload_n hx hb dX10_cut_23 rfl (lv_at hl 0 rfl) ?_
      refine lv_iconst (v := 2) hx hb dX10_cut_24 (by decide) ?_
      have hPc := hP.sub (ws' := [(y, .inr (10, mF z 0 0 0 0 0 0 0 0 0 (-1) (-1)))]) [0] rfl
      have hKc := hK.sub (tys' := []) [] rfl
      have hDc := hD.sub (ws' := [(y, .inr (10, mF z 0 0 0 0 0 0 0 0 0 (-1) (-1)))]) [0] (by decide) rfl
      have hFc := va_free (wc := [(y, .inr (10, mF z 0 0 0 0 0 0 0 0 0 (-1) (-1)))]) hD hS hA [0] rfl
      refine va_calli (va_runV (As := [.int 2]) (rest := []) ⟨hx, hb, hml, hown, hts⟩ (m_refuse l dC dI y z 0 0 0 0 0 0 0 0 0 (-1) (-1) H.size 2) (cwV 1 hts mg_X10_cut_X10_refuse_204 rfl rfl rfl (by decide +kernel) ⟨Nat.le_of_ble_eq_true rfl, Nat.le_of_ble_eq_true rfl⟩) ⟨fun a U g mk q => by obtain ⟨q0, q1, qP, qK, qD⟩ := q; exact ⟨q0, q1, qP, va_K.moved (u := U) (U := U.calling g mk a) (Vm.Alike.refl U.vm) qK, qD⟩, va_recv hKc hPc (ci := 10) (q0 := 0) rfl rfl, fun U hU hW => ⟨rfl, by rw [hU], by rw [hU]; exact hPc, va_K.moved hW.alike hKc, hDc.weaken (fun _ _ _ _ => trivial)⟩⟩ rfl rfl hl.1 rfl (lv_room (Nat.le_of_ble_eq_true rfl)) dX10_cut_25 ⟨Nat.le_of_ble_eq_true rfl, Nat.le_of_ble_eq_true rfl⟩) hS (fun q _ h => hFc q h) hFc (fun r_9 u t H1 locs ht hvm hw hB hz1 hk1 hS => ?_)
      exact W.iret hx hb hr (fun t ht hW => ⟨⟨_, (), rfl, hw, trivial⟩, hS.F ht⟩) hS.2.2 dX10_cut_28
    · refine lv_aload_n hx hb dX10_cut_9 rfl (lv_at hl 0 rfl) ?_
      refine lv_iconst (v := 1) hx hb dX10_cut_10 (by decide) ?_
      have hPc := hP.sub (ws' := [(y, .inr (10, mF z 0 0 0 0 0 0 0 0 0 (-1) (-1)))]) [0] rfl
      have hKc := hK.sub (tys' := []) [] rfl
      have hDc := hD.sub (ws' := [(y, .inr (10, mF z 0 0 0 0 0 0 0 0 0 (-1) (-1)))]) [0] (by decide) rfl
      have hFc := va_free (wc := [(y, .inr (10, mF z 0 0 0 0 0 0 0 0 0 (-1) (-1)))]) hD hS hA [0] rfl
      refine va_calli (va_runV (As := [.int 1]) (rest := []) ⟨hx, hb, hml, hown, hts⟩ (m_refuse l dC dI y z 0 0 0 0 0 0 0 0 0 (-1) (-1) H.size 1) (cwV 1 hts mg_X10_cut_X10_refuse_204 rfl rfl rfl (by decide +kernel) ⟨Nat.le_of_ble_eq_true rfl, Nat.le_of_ble_eq_true rfl⟩) ⟨fun a U g mk q => by obtain ⟨q0, q1, qP, qK, qD⟩ := q; exact ⟨q0, q1, qP, va_K.moved (u := U) (U := U.calling g mk a) (Vm.Alike.refl U.vm) qK, qD⟩, va_recv hKc hPc (ci := 10) (q0 := 0) rfl rfl, fun U hU hW => ⟨rfl, by rw [hU], by rw [hU]; exact hPc, va_K.moved hW.alike hKc, hDc.weaken (fun _ _ _ _ => trivial)⟩⟩ rfl rfl hl.1 rfl (lv_room (Nat.le_of_ble_eq_true rfl)) dX10_cut_11 ⟨Nat.le_of_ble_eq_true rfl, Nat.le_of_ble_eq_true rfl⟩) hS (fun q _ h => hFc q h) hFc (fun r_11 u t H1 locs ht hvm hw hB hz1 hk1 hS => ?_)
      exact W.iret hx hb hr (fun t ht hW => ⟨⟨_, (), rfl, hw, trivial⟩, hS.F ht⟩) hS.2.2 dX10_cut_14
theorem dX10_copy_0 : decode cX10_copy 0 = .ok (.iload_n 2, 1) := by decide +kernel
theorem dX10_copy_1 : decode cX10_copy 1 = .ok (.ifCond .lt 8, 3) := by decide +kernel
theorem dX10_copy_4 : decode cX10_copy 4 = .ok (.iload_n 3, 1) := by decide +kernel
theorem dX10_copy_5 : decode cX10_copy 5 = .ok (.iconst 1, 1) := by decide +kernel
theorem dX10_copy_6 : decode cX10_copy 6 = .ok (.if_icmp .ge 9, 3) := by decide +kernel
theorem dX10_copy_9 : decode cX10_copy 9 = .ok (.aload_n 0, 1) := by decide +kernel
theorem dX10_copy_10 : decode cX10_copy 10 = .ok (.iconst 1, 1) := by decide +kernel
theorem dX10_copy_11 : decode cX10_copy 11 = .ok (.invokevirtual 204, 3) := by decide +kernel
theorem dX10_copy_14 : decode cX10_copy 14 = .ok (.ireturn, 1) := by decide +kernel
theorem dX10_copy_15 : decode cX10_copy 15 = .ok (.aload_n 0, 1) := by decide +kernel
theorem dX10_copy_16 : decode cX10_copy 16 = .ok (.iload_n 1, 1) := by decide +kernel
theorem dX10_copy_17 : decode cX10_copy 17 = .ok (.invokevirtual 451, 3) := by decide +kernel
theorem dX10_copy_20 : decode cX10_copy 20 = .ok (.ifCond .ne 9, 3) := by decide +kernel
theorem dX10_copy_23 : decode cX10_copy 23 = .ok (.aload_n 0, 1) := by decide +kernel
theorem dX10_copy_24 : decode cX10_copy 24 = .ok (.iconst 2, 1) := by decide +kernel
theorem dX10_copy_25 : decode cX10_copy 25 = .ok (.invokevirtual 204, 3) := by decide +kernel
theorem dX10_copy_28 : decode cX10_copy 28 = .ok (.ireturn, 1) := by decide +kernel
def mwX10_copy : List Cond := .code yX10_copy cX10_copy 6 (some .int) :: ([.code yX10_refuse cX10_refuse 2 (some .int), .fieldLink RX10 104 "PatternGateModel" "status" "I", .methodLink RX10 204 yX10_refuse, .instanceMethod yX10_refuse, .selects RX10 yX10_refuse yX10_refuse, .initialized RX10, .code yX10_isDoc cX10_isDoc 2 (some .boolean), .fieldLink RX10 8 "PatternGateModel" "all" "[I", .methodLink RX10 451 yX10_isDoc, .instanceMethod yX10_isDoc, .selects RX10 yX10_isDoc yX10_isDoc] ++ wsX100)
set_option maxRecDepth 20000 in
theorem mg_X10_copy_X10_refuse_204 : GoodIn mwX10_copy (wsV RX10 204 RX10 yX10_refuse mwX10_refuse) := goodIn_r _ [3, 4, 5, 6, 1, 2, 12, 13, 14, 15, 16, 17, 18, 19, 20, 21, 22, 23, 24, 25, 26, 27, 28, 29, 30, 31, 32, 33, 34, 35, 36, 37, 38, 39, 40, 41, 42, 43, 44, 45, 46, 47, 48, 49, 50, 51, 52, 53, 54, 55, 56, 57, 58, 59] (by decide +kernel) (by decide +kernel)
set_option maxRecDepth 20000 in
theorem mg_X10_copy_X10_isDoc_451 : GoodIn mwX10_copy (wsV RX10 451 RX10 yX10_isDoc mwX10_isDoc) := goodIn_r _ [9, 10, 11, 6, 7, 8, 12, 13, 14, 15, 16, 17, 18, 19, 20, 21, 22, 23, 24, 25, 26, 27, 28, 29, 30, 31, 32, 33, 34, 35, 36, 37, 38, 39, 40, 41, 42, 43, 44, 45, 46, 47, 48, 49, 50, 51, 52, 53, 54, 55, 56, 57, 58, 59] (by decide +kernel) (by decide +kernel)
set_option maxHeartbeats 4000000 in
set_option maxRecDepth 100000 in
/-- copy of the reference, new -/
theorem m_copy (l : Launch) (dC : Nat → ClassId) (dI : Nat → Nat → Nat) (y : Nat) (z : Nat → Nat) (mA mT mX mC : ClassId) (sz : Nat) (i0 i1 i2 : Int32) : Met l yX10_copy mwX10_copy ({ frames := 2, cells := 0, slots := 0, locals := 120 }) (va_Pc [.ref y, .int i0, .int i1, .int i2] (fun U => U.heap.size = sz ∧ va_P (dC, dI) vwCl (mW y z mA mT mX mC) U.heap ∧ va_K (dC, dI) vwCl (mT9 mA mT mX mC) U ∧ va_D (fun _ => True) (mW y z mA mT mX mC))) (va_Qi (fun (o : Int32) (_ : Unit) => o = (-1)) (fun _ _ => True) (va_A (mW y z mA mT mX mC) sz)) 0 0 (va_A (mW y z mA mT mX mC) sz) := by
  refine Met.ofW (cc := cX10_copy) (maxL := 6) (ret := (some .int)) (by decide +kernel) rfl ?_
  intro p e s m args below meth c s₁ B hml hv
  obtain ⟨rfl, hsz, hP, hK, hD0⟩ := hv
  have hx := B.exec
  have hb := B.bytes
  have hr := B.returns
  have hts := atoms_spec (ws := mwX10_copy) B.pre
  have hown : s.vm.findClass RX10 = some m.cls := findClass_of_methodNamed B.named
  have hlocks := B.notSynchronized
  subst hsz
  have hD := hD0.self (sz := s.heap.size)
  generalize hAe : va_A (mW y z mA mT mX mC) s.heap.size = A at hD ⊢
  have hA : ∀ q : Nat, s.heap.size ≤ q → A q := fun q h => by rw [← hAe]; exact Or.inr h
  have hP : va_P (dC, dI) vwCl [(y, .inr (10, mF z 0 0 0 0 0 0 0 0 0 (-1) (-1))), (z 0, .inl (mA, 101660, .inl (fun _ => 0))), (z 1, .inl (mT, 900, .inl (fun _ => 0))), (z 2, .inl (mX, 900, .inl (fun _ => 0))), (z 23, .inl (mC, 17576, .inl (fun _ => 0)))] s.heap := hP
  have hD : va_D A [(y, .inr (10, mF z 0 0 0 0 0 0 0 0 0 (-1) (-1))), (z 0, .inl (mA, 101660, .inl (fun _ => 0))), (z 1, .inl (mT, 900, .inl (fun _ => 0))), (z 2, .inl (mX, 900, .inl (fun _ => 0))), (z 23, .inl (mC, 17576, .inl (fun _ => 0)))] := hD
  have hK : va_K (dC, dI) vwCl [(mA, .int), (mT, .byte), (mX, .byte), (mC, .boolean)] s := hK
  generalize hH : s.heap = H at hP ⊢
  have hS : va_S A s.heap H [] := by rw [← hH]; exact va_S.rf
  have hl := lv_entry ([.ref y, .int i0, .int i1, .int i2]) (n := 6) (Nat.le_of_ble_eq_true rfl)
  rw [lg_entry_eq]
  generalize (lg_sl ([.ref y, .int i0, .int i1, .int i2]) ++ List.replicate (6 - (lg_sl ([.ref y, .int i0, .int i1, .int i2])).length) Slot.unset).toArray = ls at hl ⊢
  have hl : lv_has ls 6 [(0, .ref y), (1, .int i0), (2, .int i1), (3, .int i2)] := hl
  refine lv_iload_n hx hb dX10_copy_0 rfl (lv_at hl 2 rfl) ?_
  refine lv_if_lt (tgt := 9) hx hb dX10_copy_1 (by decide) (fun k_1 => ?_) (fun k_1 => ?_)
  · refine lv_aload_n hx hb dX10_copy_9 rfl (lv_at hl 0 rfl) ?_
    refine lv_iconst (v := 1) hx hb dX10_copy_10 (by decide) ?_
    have hPc := hP.sub (ws' := [(y, .inr (10, mF z 0 0 0 0 0 0 0 0 0 (-1) (-1)))]) [0] rfl
    have hKc := hK.sub (tys' := []) [] rfl
    have hDc := hD.sub (ws' := [(y, .inr (10, mF z 0 0 0 0 0 0 0 0 0 (-1) (-1)))]) [0] (by decide) rfl
    have hFc := va_free (wc := [(y, .inr (10, mF z 0 0 0 0 0 0 0 0 0 (-1) (-1)))]) hD hS hA [0] rfl
    refine va_calli (va_runV (As := [.int 1]) (rest := []) ⟨hx, hb, hml, hown, hts⟩ (m_refuse l dC dI y z 0 0 0 0 0 0 0 0 0 (-1) (-1) H.size 1) (cwV 1 hts mg_X10_copy_X10_refuse_204 rfl rfl rfl (by decide +kernel) ⟨Nat.le_of_ble_eq_true rfl, Nat.le_of_ble_eq_true rfl⟩) ⟨fun a U g mk q => by obtain ⟨q0, q1, qP, qK, qD⟩ := q; exact ⟨q0, q1, qP, va_K.moved (u := U) (U := U.calling g mk a) (Vm.Alike.refl U.vm) qK, qD⟩, va_recv hKc hPc (ci := 10) (q0 := 0) rfl rfl, fun U hU hW => ⟨rfl, by rw [hU], by rw [hU]; exact hPc, va_K.moved hW.alike hKc, hDc.weaken (fun _ _ _ _ => trivial)⟩⟩ rfl rfl hl.1 rfl (lv_room (Nat.le_of_ble_eq_true rfl)) dX10_copy_11 ⟨Nat.le_of_ble_eq_true rfl, Nat.le_of_ble_eq_true rfl⟩) hS (fun q _ h => hFc q h) hFc (fun r_3 u t H1 locs ht hvm hw hB hz1 hk1 hS => ?_)
    exact W.iret hx hb hr (fun t ht hW => ⟨⟨_, (), rfl, hw, trivial⟩, hS.F ht⟩) hS.2.2 dX10_copy_14
  · refine lv_iload_n hx hb dX10_copy_4 rfl (lv_at hl 3 rfl) ?_
    refine lv_iconst (v := 1) hx hb dX10_copy_5 (by decide) ?_
    refine lv_icmp_ge (tgt := 15) hx hb dX10_copy_6 (by decide) (fun k_4 => ?_) (fun k_4 => ?_)
    · refine lv_aload_n hx hb dX10_copy_15 rfl (lv_at hl 0 rfl) ?_
      refine lv_iload_n hx hb dX10_copy_16 rfl (lv_at hl 1 rfl) ?_
      have hPc := hP.sub (ws' := [(y, .inr (10, mF z 0 0 0 0 0 0 0 0 0 (-1) (-1))), (z 0, .inl (mA, 101660, .inl (fun _ => 0)))]) [0, 1] rfl
      have hKc := hK.sub (tys' := [(mA, .int)]) [0] rfl
      refine vp_callSi (W.runV (As := [.int i0]) (rest := []) ⟨hx, hb, hml, hown, hts⟩ (m_isDoc l dC dI y z 0 0 0 0 0 0 0 0 0 (-1) (-1) mA i0) (cwV 1 hts mg_X10_copy_X10_isDoc_451 rfl rfl rfl (by decide +kernel) ⟨Nat.le_of_ble_eq_true rfl, Nat.le_of_ble_eq_true rfl⟩) ⟨fun a U g mk q => by obtain ⟨q0, qP, qK⟩ := q; exact ⟨q0, qP, va_K.moved (u := U) (U := U.calling g mk a) (Vm.Alike.refl U.vm) qK⟩, va_recv hKc hPc (ci := 10) (q0 := 0) rfl rfl, fun U hU hW => ⟨rfl, by rw [hU]; exact hPc, va_K.moved hW.alike hKc⟩⟩ rfl rfl hl.1 rfl (lv_room (Nat.le_of_ble_eq_true rfl)) dX10_copy_17 ⟨Nat.le_of_ble_eq_true rfl, Nat.le_of_ble_eq_true rfl⟩) (fun r_6 hw => ?_)
      subst hw
      refine lv_if_ne (tgt := 29) hx hb dX10_copy_20 (by decide) (fun k_7 => absurd (by decide) k_7) (fun k_7 => ?_)
      refine lv_aload_n hx hb dX10_copy_23 rfl (lv_at hl 0 rfl) ?_
      refine lv_iconst (v := 2) hx hb dX10_copy_24 (by decide) ?_
      have hPc := hP.sub (ws' := [(y, .inr (10, mF z 0 0 0 0 0 0 0 0 0 (-1) (-1)))]) [0] rfl
      have hKc := hK.sub (tys' := []) [] rfl
      have hDc := hD.sub (ws' := [(y, .inr (10, mF z 0 0 0 0 0 0 0 0 0 (-1) (-1)))]) [0] (by decide) rfl
      have hFc := va_free (wc := [(y, .inr (10, mF z 0 0 0 0 0 0 0 0 0 (-1) (-1)))]) hD hS hA [0] rfl
      refine va_calli (va_runV (As := [.int 2]) (rest := []) ⟨hx, hb, hml, hown, hts⟩ (m_refuse l dC dI y z 0 0 0 0 0 0 0 0 0 (-1) (-1) H.size 2) (cwV 1 hts mg_X10_copy_X10_refuse_204 rfl rfl rfl (by decide +kernel) ⟨Nat.le_of_ble_eq_true rfl, Nat.le_of_ble_eq_true rfl⟩) ⟨fun a U g mk q => by obtain ⟨q0, q1, qP, qK, qD⟩ := q; exact ⟨q0, q1, qP, va_K.moved (u := U) (U := U.calling g mk a) (Vm.Alike.refl U.vm) qK, qD⟩, va_recv hKc hPc (ci := 10) (q0 := 0) rfl rfl, fun U hU hW => ⟨rfl, by rw [hU], by rw [hU]; exact hPc, va_K.moved hW.alike hKc, hDc.weaken (fun _ _ _ _ => trivial)⟩⟩ rfl rfl hl.1 rfl (lv_room (Nat.le_of_ble_eq_true rfl)) dX10_copy_25 ⟨Nat.le_of_ble_eq_true rfl, Nat.le_of_ble_eq_true rfl⟩) hS (fun q _ h => hFc q h) hFc (fun r_9 u t H1 locs ht hvm hw hB hz1 hk1 hS => ?_)
      exact W.iret hx hb hr (fun t ht hW => ⟨⟨_, (), rfl, hw, trivial⟩, hS.F ht⟩) hS.2.2 dX10_copy_28
    · refine lv_aload_n hx hb dX10_copy_9 rfl (lv_at hl 0 rfl) ?_
      refine lv_iconst (v := 1) hx hb dX10_copy_10 (by decide) ?_
      have hPc := hP.sub (ws' := [(y, .inr (10, mF z 0 0 0 0 0 0 0 0 0 (-1) (-1)))]) [0] rfl
      have hKc := hK.sub (tys' := []) [] rfl
      have hDc := hD.sub (ws' := [(y, .inr (10, mF z 0 0 0 0 0 0 0 0 0 (-1) (-1)))]) [0] (by decide) rfl
      have hFc := va_free (wc := [(y, .inr (10, mF z 0 0 0 0 0 0 0 0 0 (-1) (-1)))]) hD hS hA [0] rfl
      refine va_calli (va_runV (As := [.int 1]) (rest := []) ⟨hx, hb, hml, hown, hts⟩ (m_refuse l dC dI y z 0 0 0 0 0 0 0 0 0 (-1) (-1) H.size 1) (cwV 1 hts mg_X10_copy_X10_refuse_204 rfl rfl rfl (by decide +kernel) ⟨Nat.le_of_ble_eq_true rfl, Nat.le_of_ble_eq_true rfl⟩) ⟨fun a U g mk q => by obtain ⟨q0, q1, qP, qK, qD⟩ := q; exact ⟨q0, q1, qP, va_K.moved (u := U) (U := U.calling g mk a) (Vm.Alike.refl U.vm) qK, qD⟩, va_recv hKc hPc (ci := 10) (q0 := 0) rfl rfl, fun U hU hW => ⟨rfl, by rw [hU], by rw [hU]; exact hPc, va_K.moved hW.alike hKc, hDc.weaken (fun _ _ _ _ => trivial)⟩⟩ rfl rfl hl.1 rfl (lv_room (Nat.le_of_ble_eq_true rfl)) dX10_copy_11 ⟨Nat.le_of_ble_eq_true rfl, Nat.le_of_ble_eq_true rfl⟩) hS (fun q _ h => hFc q h) hFc (fun r_11 u t H1 locs ht hvm hw hB hz1 hk1 hS => ?_)
      exact W.iret hx hb hr (fun t ht hW => ⟨⟨_, (), rfl, hw, trivial⟩, hS.F ht⟩) hS.2.2 dX10_copy_14
theorem dX10_drop_0 : decode cX10_drop 0 = .ok (.aload_n 0, 1) := by decide +kernel
theorem dX10_drop_1 : decode cX10_drop 1 = .ok (.iload_n 1, 1) := by decide +kernel
theorem dX10_drop_2 : decode cX10_drop 2 = .ok (.invokevirtual 451, 3) := by decide +kernel
theorem dX10_drop_5 : decode cX10_drop 5 = .ok (.ifCond .ne 9, 3) := by decide +kernel
theorem dX10_drop_8 : decode cX10_drop 8 = .ok (.aload_n 0, 1) := by decide +kernel
theorem dX10_drop_9 : decode cX10_drop 9 = .ok (.iconst 2, 1) := by decide +kernel
theorem dX10_drop_10 : decode cX10_drop 10 = .ok (.invokevirtual 204, 3) := by decide +kernel
theorem dX10_drop_13 : decode cX10_drop 13 = .ok (.ireturn, 1) := by decide +kernel
def mwX10_drop : List Cond := .code yX10_drop cX10_drop 4 (some .int) :: ([.code yX10_isDoc cX10_isDoc 2 (some .boolean), .fieldLink RX10 8 "PatternGateModel" "all" "[I", .methodLink RX10 451 yX10_isDoc, .instanceMethod yX10_isDoc, .selects RX10 yX10_isDoc yX10_isDoc, .initialized RX10, .code yX10_refuse cX10_refuse 2 (some .int), .fieldLink RX10 104 "PatternGateModel" "status" "I", .methodLink RX10 204 yX10_refuse, .instanceMethod yX10_refuse, .selects RX10 yX10_refuse yX10_refuse] ++ wsX100)
set_option maxRecDepth 20000 in
theorem mg_X10_drop_X10_isDoc_451 : GoodIn mwX10_drop (wsV RX10 451 RX10 yX10_isDoc mwX10_isDoc) := goodIn_r _ [3, 4, 5, 6, 1, 2, 12, 13, 14, 15, 16, 17, 18, 19, 20, 21, 22, 23, 24, 25, 26, 27, 28, 29, 30, 31, 32, 33, 34, 35, 36, 37, 38, 39, 40, 41, 42, 43, 44, 45, 46, 47, 48, 49, 50, 51, 52, 53, 54, 55, 56, 57, 58, 59] (by decide +kernel) (by decide +kernel)
set_option maxRecDepth 20000 in
theorem mg_X10_drop_X10_refuse_204 : GoodIn mwX10_drop (wsV RX10 204 RX10 yX10_refuse mwX10_refuse) := goodIn_r _ [9, 10, 11, 6, 7, 8, 12, 13, 14, 15, 16, 17, 18, 19, 20, 21, 22, 23, 24, 25, 26, 27, 28, 29, 30, 31, 32, 33, 34, 35, 36, 37, 38, 39, 40, 41, 42, 43, 44, 45, 46, 47, 48, 49, 50, 51, 52, 53, 54, 55, 56, 57, 58, 59] (by decide +kernel) (by decide +kernel)
set_option maxHeartbeats 4000000 in
set_option maxRecDepth 100000 in
/-- drop of the reference, new -/
theorem m_drop (l : Launch) (dC : Nat → ClassId) (dI : Nat → Nat → Nat) (y : Nat) (z : Nat → Nat) (mA mT mX mC : ClassId) (sz : Nat) (i0 : Int32) : Met l yX10_drop mwX10_drop ({ frames := 2, cells := 0, slots := 0, locals := 120 }) (va_Pc [.ref y, .int i0] (fun U => U.heap.size = sz ∧ va_P (dC, dI) vwCl (mW y z mA mT mX mC) U.heap ∧ va_K (dC, dI) vwCl (mT9 mA mT mX mC) U ∧ va_D (fun _ => True) (mW y z mA mT mX mC))) (va_Qi (fun (o : Int32) (_ : Unit) => o = (-1)) (fun _ _ => True) (va_A (mW y z mA mT mX mC) sz)) 0 0 (va_A (mW y z mA mT mX mC) sz) := by
  refine Met.ofW (cc := cX10_drop) (maxL := 4) (ret := (some .int)) (by decide +kernel) rfl ?_
  intro p e s m args below meth c s₁ B hml hv
  obtain ⟨rfl, hsz, hP, hK, hD0⟩ := hv
  have hx := B.exec
  have hb := B.bytes
  have hr := B.returns
  have hts := atoms_spec (ws := mwX10_drop) B.pre
  have hown : s.vm.findClass RX10 = some m.cls := findClass_of_methodNamed B.named
  have hlocks := B.notSynchronized
  subst hsz
  have hD := hD0.self (sz := s.heap.size)
  generalize hAe : va_A (mW y z mA mT mX mC) s.heap.size = A at hD ⊢
  have hA : ∀ q : Nat, s.heap.size ≤ q → A q := fun q h => by rw [← hAe]; exact Or.inr h
  have hP : va_P (dC, dI) vwCl [(y, .inr (10, mF z 0 0 0 0 0 0 0 0 0 (-1) (-1))), (z 0, .inl (mA, 101660, .inl (fun _ => 0))), (z 1, .inl (mT, 900, .inl (fun _ => 0))), (z 2, .inl (mX, 900, .inl (fun _ => 0))), (z 23, .inl (mC, 17576, .inl (fun _ => 0)))] s.heap := hP
  have hD : va_D A [(y, .inr (10, mF z 0 0 0 0 0 0 0 0 0 (-1) (-1))), (z 0, .inl (mA, 101660, .inl (fun _ => 0))), (z 1, .inl (mT, 900, .inl (fun _ => 0))), (z 2, .inl (mX, 900, .inl (fun _ => 0))), (z 23, .inl (mC, 17576, .inl (fun _ => 0)))] := hD
  have hK : va_K (dC, dI) vwCl [(mA, .int), (mT, .byte), (mX, .byte), (mC, .boolean)] s := hK
  generalize hH : s.heap = H at hP ⊢
  have hS : va_S A s.heap H [] := by rw [← hH]; exact va_S.rf
  have hl := lv_entry ([.ref y, .int i0]) (n := 4) (Nat.le_of_ble_eq_true rfl)
  rw [lg_entry_eq]
  generalize (lg_sl ([.ref y, .int i0]) ++ List.replicate (4 - (lg_sl ([.ref y, .int i0])).length) Slot.unset).toArray = ls at hl ⊢
  have hl : lv_has ls 4 [(0, .ref y), (1, .int i0)] := hl
  refine lv_aload_n hx hb dX10_drop_0 rfl (lv_at hl 0 rfl) ?_
  refine lv_iload_n hx hb dX10_drop_1 rfl (lv_at hl 1 rfl) ?_
  have hPc := hP.sub (ws' := [(y, .inr (10, mF z 0 0 0 0 0 0 0 0 0 (-1) (-1))), (z 0, .inl (mA, 101660, .inl (fun _ => 0)))]) [0, 1] rfl
  have hKc := hK.sub (tys' := [(mA, .int)]) [0] rfl
  refine vp_callSi (W.runV (As := [.int i0]) (rest := []) ⟨hx, hb, hml, hown, hts⟩ (m_isDoc l dC dI y z 0 0 0 0 0 0 0 0 0 (-1) (-1) mA i0) (cwV 1 hts mg_X10_drop_X10_isDoc_451 rfl rfl rfl (by decide +kernel) ⟨Nat.le_of_ble_eq_true rfl, Nat.le_of_ble_eq_true rfl⟩) ⟨fun a U g mk q => by obtain ⟨q0, qP, qK⟩ := q; exact ⟨q0, qP, va_K.moved (u := U) (U := U.calling g mk a) (Vm.Alike.refl U.vm) qK⟩, va_recv hKc hPc (ci := 10) (q0 := 0) rfl rfl, fun U hU hW => ⟨rfl, by rw [hU]; exact hPc, va_K.moved hW.alike hKc⟩⟩ rfl rfl hl.1 rfl (lv_room (Nat.le_of_ble_eq_true rfl)) dX10_drop_2 ⟨Nat.le_of_ble_eq_true rfl, Nat.le_of_ble_eq_true rfl⟩) (fun r_2 hw => ?_)
  subst hw
  refine lv_if_ne (tgt := 14) hx hb dX10_drop_5 (by decide) (fun k_3 => absurd (by decide) k_3) (fun k_3 => ?_)
  refine lv_aload_n hx hb dX10_drop_8 rfl (lv_at hl 0 rfl) ?_
  refine lv_iconst (v := 2) hx hb dX10_drop_9 (by decide) ?_
  have hPc := hP.sub (ws' := [(y, .inr (10, mF z 0 0 0 0 0 0 0 0 0 (-1) (-1)))]) [0] rfl
  have hKc := hK.sub (tys' := []) [] rfl
  have hDc := hD.sub (ws' := [(y, .inr (10, mF z 0 0 0 0 0 0 0 0 0 (-1) (-1)))]) [0] (by decide) rfl
  have hFc := va_free (wc := [(y, .inr (10, mF z 0 0 0 0 0 0 0 0 0 (-1) (-1)))]) hD hS hA [0] rfl
  refine va_calli (va_runV (As := [.int 2]) (rest := []) ⟨hx, hb, hml, hown, hts⟩ (m_refuse l dC dI y z 0 0 0 0 0 0 0 0 0 (-1) (-1) H.size 2) (cwV 1 hts mg_X10_drop_X10_refuse_204 rfl rfl rfl (by decide +kernel) ⟨Nat.le_of_ble_eq_true rfl, Nat.le_of_ble_eq_true rfl⟩) ⟨fun a U g mk q => by obtain ⟨q0, q1, qP, qK, qD⟩ := q; exact ⟨q0, q1, qP, va_K.moved (u := U) (U := U.calling g mk a) (Vm.Alike.refl U.vm) qK, qD⟩, va_recv hKc hPc (ci := 10) (q0 := 0) rfl rfl, fun U hU hW => ⟨rfl, by rw [hU], by rw [hU]; exact hPc, va_K.moved hW.alike hKc, hDc.weaken (fun _ _ _ _ => trivial)⟩⟩ rfl rfl hl.1 rfl (lv_room (Nat.le_of_ble_eq_true rfl)) dX10_drop_10 ⟨Nat.le_of_ble_eq_true rfl, Nat.le_of_ble_eq_true rfl⟩) hS (fun q _ h => hFc q h) hFc (fun r_5 u t H1 locs ht hvm hw hB hz1 hk1 hS => ?_)
  exact W.iret hx hb hr (fun t ht hW => ⟨⟨_, (), rfl, hw, trivial⟩, hS.F ht⟩) hS.2.2 dX10_drop_13
theorem dX10_forget_0 : decode cX10_forget 0 = .ok (.aload_n 0, 1) := by decide +kernel
theorem dX10_forget_1 : decode cX10_forget 1 = .ok (.iload_n 1, 1) := by decide +kernel
theorem dX10_forget_2 : decode cX10_forget 2 = .ok (.invokevirtual 458, 3) := by decide +kernel
theorem dX10_forget_5 : decode cX10_forget 5 = .ok (.ifCond .ne 9, 3) := by decide +kernel
theorem dX10_forget_8 : decode cX10_forget 8 = .ok (.aload_n 0, 1) := by decide +kernel
theorem dX10_forget_9 : decode cX10_forget 9 = .ok (.iconst 2, 1) := by decide +kernel
theorem dX10_forget_10 : decode cX10_forget 10 = .ok (.invokevirtual 204, 3) := by decide +kernel
theorem dX10_forget_13 : decode cX10_forget 13 = .ok (.ireturn, 1) := by decide +kernel
def mwX10_forget : List Cond := .code yX10_forget cX10_forget 4 (some .int) :: ([.code yX10_isPattern cX10_isPattern 2 (some .boolean), .fieldLink RX10 8 "PatternGateModel" "all" "[I", .methodLink RX10 458 yX10_isPattern, .instanceMethod yX10_isPattern, .selects RX10 yX10_isPattern yX10_isPattern, .initialized RX10, .code yX10_refuse cX10_refuse 2 (some .int), .fieldLink RX10 104 "PatternGateModel" "status" "I", .methodLink RX10 204 yX10_refuse, .instanceMethod yX10_refuse, .selects RX10 yX10_refuse yX10_refuse] ++ wsX100)
set_option maxRecDepth 20000 in
theorem mg_X10_forget_X10_isPattern_458 : GoodIn mwX10_forget (wsV RX10 458 RX10 yX10_isPattern mwX10_isPattern) := goodIn_r _ [3, 4, 5, 6, 1, 2, 12, 13, 14, 15, 16, 17, 18, 19, 20, 21, 22, 23, 24, 25, 26, 27, 28, 29, 30, 31, 32, 33, 34, 35, 36, 37, 38, 39, 40, 41, 42, 43, 44, 45, 46, 47, 48, 49, 50, 51, 52, 53, 54, 55, 56, 57, 58, 59] (by decide +kernel) (by decide +kernel)
set_option maxRecDepth 20000 in
theorem mg_X10_forget_X10_refuse_204 : GoodIn mwX10_forget (wsV RX10 204 RX10 yX10_refuse mwX10_refuse) := goodIn_r _ [9, 10, 11, 6, 7, 8, 12, 13, 14, 15, 16, 17, 18, 19, 20, 21, 22, 23, 24, 25, 26, 27, 28, 29, 30, 31, 32, 33, 34, 35, 36, 37, 38, 39, 40, 41, 42, 43, 44, 45, 46, 47, 48, 49, 50, 51, 52, 53, 54, 55, 56, 57, 58, 59] (by decide +kernel) (by decide +kernel)
set_option maxHeartbeats 4000000 in
set_option maxRecDepth 100000 in
/-- forget of the reference, new -/
theorem m_forget (l : Launch) (dC : Nat → ClassId) (dI : Nat → Nat → Nat) (y : Nat) (z : Nat → Nat) (mA mT mX mC : ClassId) (sz : Nat) (i0 : Int32) : Met l yX10_forget mwX10_forget ({ frames := 2, cells := 0, slots := 0, locals := 120 }) (va_Pc [.ref y, .int i0] (fun U => U.heap.size = sz ∧ va_P (dC, dI) vwCl (mW y z mA mT mX mC) U.heap ∧ va_K (dC, dI) vwCl (mT9 mA mT mX mC) U ∧ va_D (fun _ => True) (mW y z mA mT mX mC))) (va_Qi (fun (o : Int32) (_ : Unit) => o = (-1)) (fun _ _ => True) (va_A (mW y z mA mT mX mC) sz)) 0 0 (va_A (mW y z mA mT mX mC) sz) := by
  refine Met.ofW (cc := cX10_forget) (maxL := 4) (ret := (some .int)) (by decide +kernel) rfl ?_
  intro p e s m args below meth c s₁ B hml hv
  obtain ⟨rfl, hsz, hP, hK, hD0⟩ := hv
  have hx := B.exec
  have hb := B.bytes
  have hr := B.returns
  have hts := atoms_spec (ws := mwX10_forget) B.pre
  have hown : s.vm.findClass RX10 = some m.cls := findClass_of_methodNamed B.named
  have hlocks := B.notSynchronized
  subst hsz
  have hD := hD0.self (sz := s.heap.size)
  generalize hAe : va_A (mW y z mA mT mX mC) s.heap.size = A at hD ⊢
  have hA : ∀ q : Nat, s.heap.size ≤ q → A q := fun q h => by rw [← hAe]; exact Or.inr h
  have hP : va_P (dC, dI) vwCl [(y, .inr (10, mF z 0 0 0 0 0 0 0 0 0 (-1) (-1))), (z 0, .inl (mA, 101660, .inl (fun _ => 0))), (z 1, .inl (mT, 900, .inl (fun _ => 0))), (z 2, .inl (mX, 900, .inl (fun _ => 0))), (z 23, .inl (mC, 17576, .inl (fun _ => 0)))] s.heap := hP
  have hD : va_D A [(y, .inr (10, mF z 0 0 0 0 0 0 0 0 0 (-1) (-1))), (z 0, .inl (mA, 101660, .inl (fun _ => 0))), (z 1, .inl (mT, 900, .inl (fun _ => 0))), (z 2, .inl (mX, 900, .inl (fun _ => 0))), (z 23, .inl (mC, 17576, .inl (fun _ => 0)))] := hD
  have hK : va_K (dC, dI) vwCl [(mA, .int), (mT, .byte), (mX, .byte), (mC, .boolean)] s := hK
  generalize hH : s.heap = H at hP ⊢
  have hS : va_S A s.heap H [] := by rw [← hH]; exact va_S.rf
  have hl := lv_entry ([.ref y, .int i0]) (n := 4) (Nat.le_of_ble_eq_true rfl)
  rw [lg_entry_eq]
  generalize (lg_sl ([.ref y, .int i0]) ++ List.replicate (4 - (lg_sl ([.ref y, .int i0])).length) Slot.unset).toArray = ls at hl ⊢
  have hl : lv_has ls 4 [(0, .ref y), (1, .int i0)] := hl
  refine lv_aload_n hx hb dX10_forget_0 rfl (lv_at hl 0 rfl) ?_
  refine lv_iload_n hx hb dX10_forget_1 rfl (lv_at hl 1 rfl) ?_
  have hPc := hP.sub (ws' := [(y, .inr (10, mF z 0 0 0 0 0 0 0 0 0 (-1) (-1))), (z 0, .inl (mA, 101660, .inl (fun _ => 0)))]) [0, 1] rfl
  have hKc := hK.sub (tys' := [(mA, .int)]) [0] rfl
  refine vp_callSi (W.runV (As := [.int i0]) (rest := []) ⟨hx, hb, hml, hown, hts⟩ (m_isPattern l dC dI y z 0 0 0 0 0 0 0 0 0 (-1) (-1) mA i0) (cwV 1 hts mg_X10_forget_X10_isPattern_458 rfl rfl rfl (by decide +kernel) ⟨Nat.le_of_ble_eq_true rfl, Nat.le_of_ble_eq_true rfl⟩) ⟨fun a U g mk q => by obtain ⟨q0, qP, qK⟩ := q; exact ⟨q0, qP, va_K.moved (u := U) (U := U.calling g mk a) (Vm.Alike.refl U.vm) qK⟩, va_recv hKc hPc (ci := 10) (q0 := 0) rfl rfl, fun U hU hW => ⟨rfl, by rw [hU]; exact hPc, va_K.moved hW.alike hKc⟩⟩ rfl rfl hl.1 rfl (lv_room (Nat.le_of_ble_eq_true rfl)) dX10_forget_2 ⟨Nat.le_of_ble_eq_true rfl, Nat.le_of_ble_eq_true rfl⟩) (fun r_2 hw => ?_)
  subst hw
  refine lv_if_ne (tgt := 14) hx hb dX10_forget_5 (by decide) (fun k_3 => absurd (by decide) k_3) (fun k_3 => ?_)
  refine lv_aload_n hx hb dX10_forget_8 rfl (lv_at hl 0 rfl) ?_
  refine lv_iconst (v := 2) hx hb dX10_forget_9 (by decide) ?_
  have hPc := hP.sub (ws' := [(y, .inr (10, mF z 0 0 0 0 0 0 0 0 0 (-1) (-1)))]) [0] rfl
  have hKc := hK.sub (tys' := []) [] rfl
  have hDc := hD.sub (ws' := [(y, .inr (10, mF z 0 0 0 0 0 0 0 0 0 (-1) (-1)))]) [0] (by decide) rfl
  have hFc := va_free (wc := [(y, .inr (10, mF z 0 0 0 0 0 0 0 0 0 (-1) (-1)))]) hD hS hA [0] rfl
  refine va_calli (va_runV (As := [.int 2]) (rest := []) ⟨hx, hb, hml, hown, hts⟩ (m_refuse l dC dI y z 0 0 0 0 0 0 0 0 0 (-1) (-1) H.size 2) (cwV 1 hts mg_X10_forget_X10_refuse_204 rfl rfl rfl (by decide +kernel) ⟨Nat.le_of_ble_eq_true rfl, Nat.le_of_ble_eq_true rfl⟩) ⟨fun a U g mk q => by obtain ⟨q0, q1, qP, qK, qD⟩ := q; exact ⟨q0, q1, qP, va_K.moved (u := U) (U := U.calling g mk a) (Vm.Alike.refl U.vm) qK, qD⟩, va_recv hKc hPc (ci := 10) (q0 := 0) rfl rfl, fun U hU hW => ⟨rfl, by rw [hU], by rw [hU]; exact hPc, va_K.moved hW.alike hKc, hDc.weaken (fun _ _ _ _ => trivial)⟩⟩ rfl rfl hl.1 rfl (lv_room (Nat.le_of_ble_eq_true rfl)) dX10_forget_10 ⟨Nat.le_of_ble_eq_true rfl, Nat.le_of_ble_eq_true rfl⟩) hS (fun q _ h => hFc q h) hFc (fun r_5 u t H1 locs ht hvm hw hB hz1 hk1 hS => ?_)
  exact W.iret hx hb hr (fun t ht hW => ⟨⟨_, (), rfl, hw, trivial⟩, hS.F ht⟩) hS.2.2 dX10_forget_13
theorem dX10_would_0 : decode cX10_would 0 = .ok (.aload_n 0, 1) := by decide +kernel
theorem dX10_would_1 : decode cX10_would 1 = .ok (.iload_n 1, 1) := by decide +kernel
theorem dX10_would_2 : decode cX10_would 2 = .ok (.iload_n 2, 1) := by decide +kernel
theorem dX10_would_3 : decode cX10_would 3 = .ok (.iload_n 3, 1) := by decide +kernel
theorem dX10_would_4 : decode cX10_would 4 = .ok (.invokevirtual 470, 3) := by decide +kernel
theorem dX10_would_7 : decode cX10_would 7 = .ok (.istore 4, 2) := by decide +kernel
theorem dX10_would_9 : decode cX10_would 9 = .ok (.iload 4, 2) := by decide +kernel
theorem dX10_would_11 : decode cX10_would 11 = .ok (.ifCond .le 10, 3) := by decide +kernel
theorem dX10_would_14 : decode cX10_would 14 = .ok (.aload_n 0, 1) := by decide +kernel
theorem dX10_would_15 : decode cX10_would 15 = .ok (.iload 4, 2) := by decide +kernel
theorem dX10_would_17 : decode cX10_would 17 = .ok (.invokevirtual 204, 3) := by decide +kernel
theorem dX10_would_20 : decode cX10_would 20 = .ok (.ireturn, 1) := by decide +kernel
def mwX10_would : List Cond := .code yX10_would cX10_would 8 (some .int) :: ([.code yX10_wrongPut cX10_wrongPut 4 (some .int), .code yX10_isFrom cX10_isFrom 3 (some .boolean), .methodLink RX10 200 yX10_isFrom, .static yX10_isFrom, .initialized RX10, .code yX10_isDoc cX10_isDoc 2 (some .boolean), .fieldLink RX10 8 "PatternGateModel" "all" "[I", .methodLink RX10 451 yX10_isDoc, .instanceMethod yX10_isDoc, .selects RX10 yX10_isDoc yX10_isDoc, .methodLink RX10 470 yX10_wrongPut, .instanceMethod yX10_wrongPut, .selects RX10 yX10_wrongPut yX10_wrongPut, .code yX10_refuse cX10_refuse 2 (some .int), .fieldLink RX10 104 "PatternGateModel" "status" "I", .methodLink RX10 204 yX10_refuse, .instanceMethod yX10_refuse, .selects RX10 yX10_refuse yX10_refuse] ++ wsX100)
set_option maxRecDepth 20000 in
theorem mg_X10_would_X10_wrongPut_470 : GoodIn mwX10_would (wsV RX10 470 RX10 yX10_wrongPut mwX10_wrongPut) := goodIn_r _ [11, 12, 13, 5, 1, 2, 3, 4, 5, 6, 7, 8, 9, 10, 19, 20, 21, 22, 23, 24, 25, 26, 27, 28, 29, 30, 31, 32, 33, 34, 35, 36, 37, 38, 39, 40, 41, 42, 43, 44, 45, 46, 47, 48, 49, 50, 51, 52, 53, 54, 55, 56, 57, 58, 59, 60, 61, 62, 63, 64, 65, 66] (by decide +kernel) (by decide +kernel)
set_option maxRecDepth 20000 in
theorem mg_X10_would_X10_refuse_204 : GoodIn mwX10_would (wsV RX10 204 RX10 yX10_refuse mwX10_refuse) := goodIn_r _ [16, 17, 18, 5, 14, 15, 19, 20, 21, 22, 23, 24, 25, 26, 27, 28, 29, 30, 31, 32, 33, 34, 35, 36, 37, 38, 39, 40, 41, 42, 43, 44, 45, 46, 47, 48, 49, 50, 51, 52, 53, 54, 55, 56, 57, 58, 59, 60, 61, 62, 63, 64, 65, 66] (by decide +kernel) (by decide +kernel)
set_option maxHeartbeats 4000000 in
set_option maxRecDepth 100000 in
/-- would of the reference, new -/
theorem m_would (l : Launch) (dC : Nat → ClassId) (dI : Nat → Nat → Nat) (y : Nat) (z : Nat → Nat) (mA mT mX mC : ClassId) (sz : Nat) (i0 i1 i2 : Int32) : Met l yX10_would mwX10_would ({ frames := 2, cells := 0, slots := 0, locals := 120 }) (va_Pc [.ref y, .int i0, .int i1, .int i2] (fun U => U.heap.size = sz ∧ va_P (dC, dI) vwCl (mW y z mA mT mX mC) U.heap ∧ va_K (dC, dI) vwCl (mT9 mA mT mX mC) U ∧ va_D (fun _ => True) (mW y z mA mT mX mC))) (va_Qi (fun (o : Int32) (_ : Unit) => o = (-1)) (fun _ _ => True) (va_A (mW y z mA mT mX mC) sz)) 0 0 (va_A (mW y z mA mT mX mC) sz) := by
  refine Met.ofW (cc := cX10_would) (maxL := 8) (ret := (some .int)) (by decide +kernel) rfl ?_
  intro p e s m args below meth c s₁ B hml hv
  obtain ⟨rfl, hsz, hP, hK, hD0⟩ := hv
  have hx := B.exec
  have hb := B.bytes
  have hr := B.returns
  have hts := atoms_spec (ws := mwX10_would) B.pre
  have hown : s.vm.findClass RX10 = some m.cls := findClass_of_methodNamed B.named
  have hlocks := B.notSynchronized
  subst hsz
  have hD := hD0.self (sz := s.heap.size)
  generalize hAe : va_A (mW y z mA mT mX mC) s.heap.size = A at hD ⊢
  have hA : ∀ q : Nat, s.heap.size ≤ q → A q := fun q h => by rw [← hAe]; exact Or.inr h
  have hP : va_P (dC, dI) vwCl [(y, .inr (10, mF z 0 0 0 0 0 0 0 0 0 (-1) (-1))), (z 0, .inl (mA, 101660, .inl (fun _ => 0))), (z 1, .inl (mT, 900, .inl (fun _ => 0))), (z 2, .inl (mX, 900, .inl (fun _ => 0))), (z 23, .inl (mC, 17576, .inl (fun _ => 0)))] s.heap := hP
  have hD : va_D A [(y, .inr (10, mF z 0 0 0 0 0 0 0 0 0 (-1) (-1))), (z 0, .inl (mA, 101660, .inl (fun _ => 0))), (z 1, .inl (mT, 900, .inl (fun _ => 0))), (z 2, .inl (mX, 900, .inl (fun _ => 0))), (z 23, .inl (mC, 17576, .inl (fun _ => 0)))] := hD
  have hK : va_K (dC, dI) vwCl [(mA, .int), (mT, .byte), (mX, .byte), (mC, .boolean)] s := hK
  generalize hH : s.heap = H at hP ⊢
  have hS : va_S A s.heap H [] := by rw [← hH]; exact va_S.rf
  have hl := lv_entry ([.ref y, .int i0, .int i1, .int i2]) (n := 8) (Nat.le_of_ble_eq_true rfl)
  rw [lg_entry_eq]
  generalize (lg_sl ([.ref y, .int i0, .int i1, .int i2]) ++ List.replicate (8 - (lg_sl ([.ref y, .int i0, .int i1, .int i2])).length) Slot.unset).toArray = ls at hl ⊢
  have hl : lv_has ls 8 [(0, .ref y), (1, .int i0), (2, .int i1), (3, .int i2)] := hl
  refine lv_aload_n hx hb dX10_would_0 rfl (lv_at hl 0 rfl) ?_
  refine lv_iload_n hx hb dX10_would_1 rfl (lv_at hl 1 rfl) ?_
  refine lv_iload_n hx hb dX10_would_2 rfl (lv_at hl 2 rfl) ?_
  refine lv_iload_n hx hb dX10_would_3 rfl (lv_at hl 3 rfl) ?_
  have hPc := hP.sub (ws' := [(y, .inr (10, mF z 0 0 0 0 0 0 0 0 0 (-1) (-1))), (z 0, .inl (mA, 101660, .inl (fun _ => 0)))]) [0, 1] rfl
  have hKc := hK.sub (tys' := [(mA, .int)]) [0] rfl
  refine vp_callSi (W.runV (As := [.int i0, .int i1, .int i2]) (rest := []) ⟨hx, hb, hml, hown, hts⟩ (m_wrongPut l dC dI y z 0 0 0 0 0 0 0 0 0 (-1) (-1) mA i0 i1 i2) (cwV 3 hts mg_X10_would_X10_wrongPut_470 rfl rfl rfl (by decide +kernel) ⟨Nat.le_of_ble_eq_true rfl, Nat.le_of_ble_eq_true rfl⟩) ⟨fun a U g mk q => by obtain ⟨q0, qP, qK⟩ := q; exact ⟨q0, qP, va_K.moved (u := U) (U := U.calling g mk a) (Vm.Alike.refl U.vm) qK⟩, va_recv hKc hPc (ci := 10) (q0 := 0) rfl rfl, fun U hU hW => ⟨rfl, by rw [hU]; exact hPc, va_K.moved hW.alike hKc⟩⟩ rfl rfl hl.1 rfl (lv_room (Nat.le_of_ble_eq_true rfl)) dX10_would_4 ⟨Nat.le_of_ble_eq_true rfl, Nat.le_of_ble_eq_true rfl⟩) (fun r_2 hw => ?_)
  rcases hw with rfl | rfl
  · refine lv_istore (lv' := [(4, .int 1), (0, .ref y), (1, .int i0), (2, .int i1), (3, .int i2)]) hx hb dX10_would_7 hl (by decide) rfl (fun ls hl => ?_)
    refine lv_iload hx hb dX10_would_9 (lv_at hl 0 rfl) ?_
    refine lv_if_le (tgt := 21) hx hb dX10_would_11 (by decide) (fun k_3 => absurd k_3 (by decide)) (fun k_3 => ?_)
    refine lv_aload_n hx hb dX10_would_14 rfl (lv_at hl 1 rfl) ?_
    refine lv_iload hx hb dX10_would_15 (lv_at hl 0 rfl) ?_
    have hPc := hP.sub (ws' := [(y, .inr (10, mF z 0 0 0 0 0 0 0 0 0 (-1) (-1)))]) [0] rfl
    have hKc := hK.sub (tys' := []) [] rfl
    have hDc := hD.sub (ws' := [(y, .inr (10, mF z 0 0 0 0 0 0 0 0 0 (-1) (-1)))]) [0] (by decide) rfl
    have hFc := va_free (wc := [(y, .inr (10, mF z 0 0 0 0 0 0 0 0 0 (-1) (-1)))]) hD hS hA [0] rfl
    refine va_calli (va_runV (As := [.int 1]) (rest := []) ⟨hx, hb, hml, hown, hts⟩ (m_refuse l dC dI y z 0 0 0 0 0 0 0 0 0 (-1) (-1) H.size 1) (cwV 1 hts mg_X10_would_X10_refuse_204 rfl rfl rfl (by decide +kernel) ⟨Nat.le_of_ble_eq_true rfl, Nat.le_of_ble_eq_true rfl⟩) ⟨fun a U g mk q => by obtain ⟨q0, q1, qP, qK, qD⟩ := q; exact ⟨q0, q1, qP, va_K.moved (u := U) (U := U.calling g mk a) (Vm.Alike.refl U.vm) qK, qD⟩, va_recv hKc hPc (ci := 10) (q0 := 0) rfl rfl, fun U hU hW => ⟨rfl, by rw [hU], by rw [hU]; exact hPc, va_K.moved hW.alike hKc, hDc.weaken (fun _ _ _ _ => trivial)⟩⟩ rfl rfl hl.1 rfl (lv_room (Nat.le_of_ble_eq_true rfl)) dX10_would_17 ⟨Nat.le_of_ble_eq_true rfl, Nat.le_of_ble_eq_true rfl⟩) hS (fun q _ h => hFc q h) hFc (fun r_5 u t H1 locs ht hvm hw hB hz1 hk1 hS => ?_)
    exact W.iret hx hb hr (fun t ht hW => ⟨⟨_, (), rfl, hw, trivial⟩, hS.F ht⟩) hS.2.2 dX10_would_20
  · refine lv_istore (lv' := [(4, .int 2), (0, .ref y), (1, .int i0), (2, .int i1), (3, .int i2)]) hx hb dX10_would_7 hl (by decide) rfl (fun ls hl => ?_)
    refine lv_iload hx hb dX10_would_9 (lv_at hl 0 rfl) ?_
    refine lv_if_le (tgt := 21) hx hb dX10_would_11 (by decide) (fun k_6 => absurd k_6 (by decide)) (fun k_6 => ?_)
    refine lv_aload_n hx hb dX10_would_14 rfl (lv_at hl 1 rfl) ?_
    refine lv_iload hx hb dX10_would_15 (lv_at hl 0 rfl) ?_
    have hPc := hP.sub (ws' := [(y, .inr (10, mF z 0 0 0 0 0 0 0 0 0 (-1) (-1)))]) [0] rfl
    have hKc := hK.sub (tys' := []) [] rfl
    have hDc := hD.sub (ws' := [(y, .inr (10, mF z 0 0 0 0 0 0 0 0 0 (-1) (-1)))]) [0] (by decide) rfl
    have hFc := va_free (wc := [(y, .inr (10, mF z 0 0 0 0 0 0 0 0 0 (-1) (-1)))]) hD hS hA [0] rfl
    refine va_calli (va_runV (As := [.int 2]) (rest := []) ⟨hx, hb, hml, hown, hts⟩ (m_refuse l dC dI y z 0 0 0 0 0 0 0 0 0 (-1) (-1) H.size 2) (cwV 1 hts mg_X10_would_X10_refuse_204 rfl rfl rfl (by decide +kernel) ⟨Nat.le_of_ble_eq_true rfl, Nat.le_of_ble_eq_true rfl⟩) ⟨fun a U g mk q => by obtain ⟨q0, q1, qP, qK, qD⟩ := q; exact ⟨q0, q1, qP, va_K.moved (u := U) (U := U.calling g mk a) (Vm.Alike.refl U.vm) qK, qD⟩, va_recv hKc hPc (ci := 10) (q0 := 0) rfl rfl, fun U hU hW => ⟨rfl, by rw [hU], by rw [hU]; exact hPc, va_K.moved hW.alike hKc, hDc.weaken (fun _ _ _ _ => trivial)⟩⟩ rfl rfl hl.1 rfl (lv_room (Nat.le_of_ble_eq_true rfl)) dX10_would_17 ⟨Nat.le_of_ble_eq_true rfl, Nat.le_of_ble_eq_true rfl⟩) hS (fun q _ h => hFc q h) hFc (fun r_8 u t H1 locs ht hvm hw hB hz1 hk1 hS => ?_)
    exact W.iret hx hb hr (fun t ht hW => ⟨⟨_, (), rfl, hw, trivial⟩, hS.F ht⟩) hS.2.2 dX10_would_20
theorem dX10_best_0 : decode cX10_best 0 = .ok (.aload_n 0, 1) := by decide +kernel
theorem dX10_best_1 : decode cX10_best 1 = .ok (.iload_n 1, 1) := by decide +kernel
theorem dX10_best_2 : decode cX10_best 2 = .ok (.iload_n 2, 1) := by decide +kernel
theorem dX10_best_3 : decode cX10_best 3 = .ok (.iconst 0, 1) := by decide +kernel
theorem dX10_best_4 : decode cX10_best 4 = .ok (.invokevirtual 470, 3) := by decide +kernel
theorem dX10_best_7 : decode cX10_best 7 = .ok (.istore_n 3, 1) := by decide +kernel
theorem dX10_best_8 : decode cX10_best 8 = .ok (.iload_n 3, 1) := by decide +kernel
theorem dX10_best_9 : decode cX10_best 9 = .ok (.ifCond .le 9, 3) := by decide +kernel
theorem dX10_best_12 : decode cX10_best 12 = .ok (.aload_n 0, 1) := by decide +kernel
theorem dX10_best_13 : decode cX10_best 13 = .ok (.iload_n 3, 1) := by decide +kernel
theorem dX10_best_14 : decode cX10_best 14 = .ok (.invokevirtual 204, 3) := by decide +kernel
theorem dX10_best_17 : decode cX10_best 17 = .ok (.ireturn, 1) := by decide +kernel
def mwX10_best : List Cond := .code yX10_best cX10_best 9 (some .int) :: ([.code yX10_wrongPut cX10_wrongPut 4 (some .int), .code yX10_isFrom cX10_isFrom 3 (some .boolean), .methodLink RX10 200 yX10_isFrom, .static yX10_isFrom, .initialized RX10, .code yX10_isDoc cX10_isDoc 2 (some .boolean), .fieldLink RX10 8 "PatternGateModel" "all" "[I", .methodLink RX10 451 yX10_isDoc, .instanceMethod yX10_isDoc, .selects RX10 yX10_isDoc yX10_isDoc, .methodLink RX10 470 yX10_wrongPut, .instanceMethod yX10_wrongPut, .selects RX10 yX10_wrongPut yX10_wrongPut, .code yX10_refuse cX10_refuse 2 (some .int), .fieldLink RX10 104 "PatternGateModel" "status" "I", .methodLink RX10 204 yX10_refuse, .instanceMethod yX10_refuse, .selects RX10 yX10_refuse yX10_refuse] ++ wsX100)
set_option maxRecDepth 20000 in
theorem mg_X10_best_X10_wrongPut_470 : GoodIn mwX10_best (wsV RX10 470 RX10 yX10_wrongPut mwX10_wrongPut) := goodIn_r _ [11, 12, 13, 5, 1, 2, 3, 4, 5, 6, 7, 8, 9, 10, 19, 20, 21, 22, 23, 24, 25, 26, 27, 28, 29, 30, 31, 32, 33, 34, 35, 36, 37, 38, 39, 40, 41, 42, 43, 44, 45, 46, 47, 48, 49, 50, 51, 52, 53, 54, 55, 56, 57, 58, 59, 60, 61, 62, 63, 64, 65, 66] (by decide +kernel) (by decide +kernel)
set_option maxRecDepth 20000 in
theorem mg_X10_best_X10_refuse_204 : GoodIn mwX10_best (wsV RX10 204 RX10 yX10_refuse mwX10_refuse) := goodIn_r _ [16, 17, 18, 5, 14, 15, 19, 20, 21, 22, 23, 24, 25, 26, 27, 28, 29, 30, 31, 32, 33, 34, 35, 36, 37, 38, 39, 40, 41, 42, 43, 44, 45, 46, 47, 48, 49, 50, 51, 52, 53, 54, 55, 56, 57, 58, 59, 60, 61, 62, 63, 64, 65, 66] (by decide +kernel) (by decide +kernel)
set_option maxHeartbeats 4000000 in
set_option maxRecDepth 100000 in
/-- best of the reference, new -/
theorem m_best (l : Launch) (dC : Nat → ClassId) (dI : Nat → Nat → Nat) (y : Nat) (z : Nat → Nat) (mA mT mX mC : ClassId) (sz : Nat) (i0 i1 : Int32) : Met l yX10_best mwX10_best ({ frames := 2, cells := 0, slots := 0, locals := 120 }) (va_Pc [.ref y, .int i0, .int i1] (fun U => U.heap.size = sz ∧ va_P (dC, dI) vwCl (mW y z mA mT mX mC) U.heap ∧ va_K (dC, dI) vwCl (mT9 mA mT mX mC) U ∧ va_D (fun _ => True) (mW y z mA mT mX mC))) (va_Qi (fun (o : Int32) (_ : Unit) => o = (-1)) (fun _ _ => True) (va_A (mW y z mA mT mX mC) sz)) 0 0 (va_A (mW y z mA mT mX mC) sz) := by
  refine Met.ofW (cc := cX10_best) (maxL := 9) (ret := (some .int)) (by decide +kernel) rfl ?_
  intro p e s m args below meth c s₁ B hml hv
  obtain ⟨rfl, hsz, hP, hK, hD0⟩ := hv
  have hx := B.exec
  have hb := B.bytes
  have hr := B.returns
  have hts := atoms_spec (ws := mwX10_best) B.pre
  have hown : s.vm.findClass RX10 = some m.cls := findClass_of_methodNamed B.named
  have hlocks := B.notSynchronized
  subst hsz
  have hD := hD0.self (sz := s.heap.size)
  generalize hAe : va_A (mW y z mA mT mX mC) s.heap.size = A at hD ⊢
  have hA : ∀ q : Nat, s.heap.size ≤ q → A q := fun q h => by rw [← hAe]; exact Or.inr h
  have hP : va_P (dC, dI) vwCl [(y, .inr (10, mF z 0 0 0 0 0 0 0 0 0 (-1) (-1))), (z 0, .inl (mA, 101660, .inl (fun _ => 0))), (z 1, .inl (mT, 900, .inl (fun _ => 0))), (z 2, .inl (mX, 900, .inl (fun _ => 0))), (z 23, .inl (mC, 17576, .inl (fun _ => 0)))] s.heap := hP
  have hD : va_D A [(y, .inr (10, mF z 0 0 0 0 0 0 0 0 0 (-1) (-1))), (z 0, .inl (mA, 101660, .inl (fun _ => 0))), (z 1, .inl (mT, 900, .inl (fun _ => 0))), (z 2, .inl (mX, 900, .inl (fun _ => 0))), (z 23, .inl (mC, 17576, .inl (fun _ => 0)))] := hD
  have hK : va_K (dC, dI) vwCl [(mA, .int), (mT, .byte), (mX, .byte), (mC, .boolean)] s := hK
  generalize hH : s.heap = H at hP ⊢
  have hS : va_S A s.heap H [] := by rw [← hH]; exact va_S.rf
  have hl := lv_entry ([.ref y, .int i0, .int i1]) (n := 9) (Nat.le_of_ble_eq_true rfl)
  rw [lg_entry_eq]
  generalize (lg_sl ([.ref y, .int i0, .int i1]) ++ List.replicate (9 - (lg_sl ([.ref y, .int i0, .int i1])).length) Slot.unset).toArray = ls at hl ⊢
  have hl : lv_has ls 9 [(0, .ref y), (1, .int i0), (2, .int i1)] := hl
  refine lv_aload_n hx hb dX10_best_0 rfl (lv_at hl 0 rfl) ?_
  refine lv_iload_n hx hb dX10_best_1 rfl (lv_at hl 1 rfl) ?_
  refine lv_iload_n hx hb dX10_best_2 rfl (lv_at hl 2 rfl) ?_
  refine lv_iconst (v := 0) hx hb dX10_best_3 (by decide) ?_
  have hPc := hP.sub (ws' := [(y, .inr (10, mF z 0 0 0 0 0 0 0 0 0 (-1) (-1))), (z 0, .inl (mA, 101660, .inl (fun _ => 0)))]) [0, 1] rfl
  have hKc := hK.sub (tys' := [(mA, .int)]) [0] rfl
  refine vp_callSi (W.runV (As := [.int i0, .int i1, .int 0]) (rest := []) ⟨hx, hb, hml, hown, hts⟩ (m_wrongPut l dC dI y z 0 0 0 0 0 0 0 0 0 (-1) (-1) mA i0 i1 0) (cwV 3 hts mg_X10_best_X10_wrongPut_470 rfl rfl rfl (by decide +kernel) ⟨Nat.le_of_ble_eq_true rfl, Nat.le_of_ble_eq_true rfl⟩) ⟨fun a U g mk q => by obtain ⟨q0, qP, qK⟩ := q; exact ⟨q0, qP, va_K.moved (u := U) (U := U.calling g mk a) (Vm.Alike.refl U.vm) qK⟩, va_recv hKc hPc (ci := 10) (q0 := 0) rfl rfl, fun U hU hW => ⟨rfl, by rw [hU]; exact hPc, va_K.moved hW.alike hKc⟩⟩ rfl rfl hl.1 rfl (lv_room (Nat.le_of_ble_eq_true rfl)) dX10_best_4 ⟨Nat.le_of_ble_eq_true rfl, Nat.le_of_ble_eq_true rfl⟩) (fun r_2 hw => ?_)
  rcases hw with rfl | rfl
  · refine lv_istore_n (lv' := [(3, .int 1), (0, .ref y), (1, .int i0), (2, .int i1)]) hx hb dX10_best_7 rfl hl (by decide) rfl (fun ls hl => ?_)
    refine lv_iload_n hx hb dX10_best_8 rfl (lv_at hl 0 rfl) ?_
    refine lv_if_le (tgt := 18) hx hb dX10_best_9 (by decide) (fun k_3 => absurd k_3 (by decide)) (fun k_3 => ?_)
    refine lv_aload_n hx hb dX10_best_12 rfl (lv_at hl 1 rfl) ?_
    refine lv_iload_n hx hb dX10_best_13 rfl (lv_at hl 0 rfl) ?_
    have hPc := hP.sub (ws' := [(y, .inr (10, mF z 0 0 0 0 0 0 0 0 0 (-1) (-1)))]) [0] rfl
    have hKc := hK.sub (tys' := []) [] rfl
    have hDc := hD.sub (ws' := [(y, .inr (10, mF z 0 0 0 0 0 0 0 0 0 (-1) (-1)))]) [0] (by decide) rfl
    have hFc := va_free (wc := [(y, .inr (10, mF z 0 0 0 0 0 0 0 0 0 (-1) (-1)))]) hD hS hA [0] rfl
    refine va_calli (va_runV (As := [.int 1]) (rest := []) ⟨hx, hb, hml, hown, hts⟩ (m_refuse l dC dI y z 0 0 0 0 0 0 0 0 0 (-1) (-1) H.size 1) (cwV 1 hts mg_X10_best_X10_refuse_204 rfl rfl rfl (by decide +kernel) ⟨Nat.le_of_ble_eq_true rfl, Nat.le_of_ble_eq_true rfl⟩) ⟨fun a U g mk q => by obtain ⟨q0, q1, qP, qK, qD⟩ := q; exact ⟨q0, q1, qP, va_K.moved (u := U) (U := U.calling g mk a) (Vm.Alike.refl U.vm) qK, qD⟩, va_recv hKc hPc (ci := 10) (q0 := 0) rfl rfl, fun U hU hW => ⟨rfl, by rw [hU], by rw [hU]; exact hPc, va_K.moved hW.alike hKc, hDc.weaken (fun _ _ _ _ => trivial)⟩⟩ rfl rfl hl.1 rfl (lv_room (Nat.le_of_ble_eq_true rfl)) dX10_best_14 ⟨Nat.le_of_ble_eq_true rfl, Nat.le_of_ble_eq_true rfl⟩) hS (fun q _ h => hFc q h) hFc (fun r_5 u t H1 locs ht hvm hw hB hz1 hk1 hS => ?_)
    exact W.iret hx hb hr (fun t ht hW => ⟨⟨_, (), rfl, hw, trivial⟩, hS.F ht⟩) hS.2.2 dX10_best_17
  · refine lv_istore_n (lv' := [(3, .int 2), (0, .ref y), (1, .int i0), (2, .int i1)]) hx hb dX10_best_7 rfl hl (by decide) rfl (fun ls hl => ?_)
    refine lv_iload_n hx hb dX10_best_8 rfl (lv_at hl 0 rfl) ?_
    refine lv_if_le (tgt := 18) hx hb dX10_best_9 (by decide) (fun k_6 => absurd k_6 (by decide)) (fun k_6 => ?_)
    refine lv_aload_n hx hb dX10_best_12 rfl (lv_at hl 1 rfl) ?_
    refine lv_iload_n hx hb dX10_best_13 rfl (lv_at hl 0 rfl) ?_
    have hPc := hP.sub (ws' := [(y, .inr (10, mF z 0 0 0 0 0 0 0 0 0 (-1) (-1)))]) [0] rfl
    have hKc := hK.sub (tys' := []) [] rfl
    have hDc := hD.sub (ws' := [(y, .inr (10, mF z 0 0 0 0 0 0 0 0 0 (-1) (-1)))]) [0] (by decide) rfl
    have hFc := va_free (wc := [(y, .inr (10, mF z 0 0 0 0 0 0 0 0 0 (-1) (-1)))]) hD hS hA [0] rfl
    refine va_calli (va_runV (As := [.int 2]) (rest := []) ⟨hx, hb, hml, hown, hts⟩ (m_refuse l dC dI y z 0 0 0 0 0 0 0 0 0 (-1) (-1) H.size 2) (cwV 1 hts mg_X10_best_X10_refuse_204 rfl rfl rfl (by decide +kernel) ⟨Nat.le_of_ble_eq_true rfl, Nat.le_of_ble_eq_true rfl⟩) ⟨fun a U g mk q => by obtain ⟨q0, q1, qP, qK, qD⟩ := q; exact ⟨q0, q1, qP, va_K.moved (u := U) (U := U.calling g mk a) (Vm.Alike.refl U.vm) qK, qD⟩, va_recv hKc hPc (ci := 10) (q0 := 0) rfl rfl, fun U hU hW => ⟨rfl, by rw [hU], by rw [hU]; exact hPc, va_K.moved hW.alike hKc, hDc.weaken (fun _ _ _ _ => trivial)⟩⟩ rfl rfl hl.1 rfl (lv_room (Nat.le_of_ble_eq_true rfl)) dX10_best_14 ⟨Nat.le_of_ble_eq_true rfl, Nat.le_of_ble_eq_true rfl⟩) hS (fun q _ h => hFc q h) hFc (fun r_8 u t H1 locs ht hvm hw hB hz1 hk1 hS => ?_)
    exact W.iret hx hb hr (fun t ht hW => ⟨⟨_, (), rfl, hw, trivial⟩, hS.F ht⟩) hS.2.2 dX10_best_17
theorem dX10_document_0 : decode cX10_document 0 = .ok (.iload_n 2, 1) := by decide +kernel
theorem dX10_document_1 : decode cX10_document 1 = .ok (.iconst 0, 1) := by decide +kernel
theorem dX10_document_2 : decode cX10_document 2 = .ok (.iconst 3, 1) := by decide +kernel
theorem dX10_document_3 : decode cX10_document 3 = .ok (.invokestatic 200, 3) := by decide +kernel
theorem dX10_document_6 : decode cX10_document 6 = .ok (.ifCond .ne 9, 3) := by decide +kernel
theorem dX10_document_9 : decode cX10_document 9 = .ok (.aload_n 0, 1) := by decide +kernel
theorem dX10_document_10 : decode cX10_document 10 = .ok (.iconst 1, 1) := by decide +kernel
theorem dX10_document_11 : decode cX10_document 11 = .ok (.invokevirtual 204, 3) := by decide +kernel
theorem dX10_document_14 : decode cX10_document 14 = .ok (.ireturn, 1) := by decide +kernel
theorem dX10_document_15 : decode cX10_document 15 = .ok (.aload_n 0, 1) := by decide +kernel
theorem dX10_document_16 : decode cX10_document 16 = .ok (.iload_n 1, 1) := by decide +kernel
theorem dX10_document_17 : decode cX10_document 17 = .ok (.invokevirtual 451, 3) := by decide +kernel
theorem dX10_document_20 : decode cX10_document 20 = .ok (.ifCond .ne 9, 3) := by decide +kernel
theorem dX10_document_23 : decode cX10_document 23 = .ok (.aload_n 0, 1) := by decide +kernel
theorem dX10_document_24 : decode cX10_document 24 = .ok (.iconst 2, 1) := by decide +kernel
theorem dX10_document_25 : decode cX10_document 25 = .ok (.invokevirtual 204, 3) := by decide +kernel
theorem dX10_document_28 : decode cX10_document 28 = .ok (.ireturn, 1) := by decide +kernel
def mwX10_document : List Cond := .code yX10_document cX10_document 3 (some .int) :: ([.code yX10_isFrom cX10_isFrom 3 (some .boolean), .methodLink RX10 200 yX10_isFrom, .static yX10_isFrom, .initialized RX10, .code yX10_isDoc cX10_isDoc 2 (some .boolean), .fieldLink RX10 8 "PatternGateModel" "all" "[I", .methodLink RX10 451 yX10_isDoc, .instanceMethod yX10_isDoc, .selects RX10 yX10_isDoc yX10_isDoc, .code yX10_refuse cX10_refuse 2 (some .int), .fieldLink RX10 104 "PatternGateModel" "status" "I", .methodLink RX10 204 yX10_refuse, .instanceMethod yX10_refuse, .selects RX10 yX10_refuse yX10_refuse] ++ wsX100)
set_option maxRecDepth 20000 in
theorem mg_X10_document_X10_isFrom_200 : GoodIn mwX10_document (va_wsS RX10 200 yX10_isFrom mwX10_isFrom) := goodIn_r _ [2, 3, 4, 1] (by decide +kernel) (by decide +kernel)
set_option maxRecDepth 20000 in
theorem mg_X10_document_X10_isDoc_451 : GoodIn mwX10_document (wsV RX10 451 RX10 yX10_isDoc mwX10_isDoc) := goodIn_r _ [7, 8, 9, 4, 5, 6, 15, 16, 17, 18, 19, 20, 21, 22, 23, 24, 25, 26, 27, 28, 29, 30, 31, 32, 33, 34, 35, 36, 37, 38, 39, 40, 41, 42, 43, 44, 45, 46, 47, 48, 49, 50, 51, 52, 53, 54, 55, 56, 57, 58, 59, 60, 61, 62] (by decide +kernel) (by decide +kernel)
set_option maxRecDepth 20000 in
theorem mg_X10_document_X10_refuse_204 : GoodIn mwX10_document (wsV RX10 204 RX10 yX10_refuse mwX10_refuse) := goodIn_r _ [12, 13, 14, 4, 10, 11, 15, 16, 17, 18, 19, 20, 21, 22, 23, 24, 25, 26, 27, 28, 29, 30, 31, 32, 33, 34, 35, 36, 37, 38, 39, 40, 41, 42, 43, 44, 45, 46, 47, 48, 49, 50, 51, 52, 53, 54, 55, 56, 57, 58, 59, 60, 61, 62] (by decide +kernel) (by decide +kernel)
set_option maxHeartbeats 4000000 in
set_option maxRecDepth 100000 in
/-- document of the reference, new -/
theorem m_document (l : Launch) (dC : Nat → ClassId) (dI : Nat → Nat → Nat) (y : Nat) (z : Nat → Nat) (mA mT mX mC : ClassId) (sz : Nat) (i0 i1 : Int32) : Met l yX10_document mwX10_document ({ frames := 2, cells := 0, slots := 0, locals := 120 }) (va_Pc [.ref y, .int i0, .int i1] (fun U => U.heap.size = sz ∧ va_P (dC, dI) vwCl (mW y z mA mT mX mC) U.heap ∧ va_K (dC, dI) vwCl (mT9 mA mT mX mC) U ∧ va_D (fun _ => True) (mW y z mA mT mX mC))) (va_Qi (fun (o : Int32) (_ : Unit) => o = (-1)) (fun _ _ => True) (va_A (mW y z mA mT mX mC) sz)) 0 0 (va_A (mW y z mA mT mX mC) sz) := by
  refine Met.ofW (cc := cX10_document) (maxL := 3) (ret := (some .int)) (by decide +kernel) rfl ?_
  intro p e s m args below meth c s₁ B hml hv
  obtain ⟨rfl, hsz, hP, hK, hD0⟩ := hv
  have hx := B.exec
  have hb := B.bytes
  have hr := B.returns
  have hts := atoms_spec (ws := mwX10_document) B.pre
  have hown : s.vm.findClass RX10 = some m.cls := findClass_of_methodNamed B.named
  have hlocks := B.notSynchronized
  subst hsz
  have hD := hD0.self (sz := s.heap.size)
  generalize hAe : va_A (mW y z mA mT mX mC) s.heap.size = A at hD ⊢
  have hA : ∀ q : Nat, s.heap.size ≤ q → A q := fun q h => by rw [← hAe]; exact Or.inr h
  have hP : va_P (dC, dI) vwCl [(y, .inr (10, mF z 0 0 0 0 0 0 0 0 0 (-1) (-1))), (z 0, .inl (mA, 101660, .inl (fun _ => 0))), (z 1, .inl (mT, 900, .inl (fun _ => 0))), (z 2, .inl (mX, 900, .inl (fun _ => 0))), (z 23, .inl (mC, 17576, .inl (fun _ => 0)))] s.heap := hP
  have hD : va_D A [(y, .inr (10, mF z 0 0 0 0 0 0 0 0 0 (-1) (-1))), (z 0, .inl (mA, 101660, .inl (fun _ => 0))), (z 1, .inl (mT, 900, .inl (fun _ => 0))), (z 2, .inl (mX, 900, .inl (fun _ => 0))), (z 23, .inl (mC, 17576, .inl (fun _ => 0)))] := hD
  have hK : va_K (dC, dI) vwCl [(mA, .int), (mT, .byte), (mX, .byte), (mC, .boolean)] s := hK
  generalize hH : s.heap = H at hP ⊢
  have hS : va_S A s.heap H [] := by rw [← hH]; exact va_S.rf
  have hl := lv_entry ([.ref y, .int i0, .int i1]) (n := 3) (Nat.le_of_ble_eq_true rfl)
  rw [lg_entry_eq]
  generalize (lg_sl ([.ref y, .int i0, .int i1]) ++ List.replicate (3 - (lg_sl ([.ref y, .int i0, .int i1])).length) Slot.unset).toArray = ls at hl ⊢
  have hl : lv_has ls 3 [(0, .ref y), (1, .int i0), (2, .int i1)] := hl
  refine lv_iload_n hx hb dX10_document_0 rfl (lv_at hl 2 rfl) ?_
  refine lv_iconst (v := 0) hx hb dX10_document_1 (by decide) ?_
  refine lv_iconst (v := 3) hx hb dX10_document_2 (by decide) ?_
  refine vp_callSi (W.runS (As := [.int i1, .int 0, .int 3]) (rest := []) ⟨hx, hb, hml, hown, hts⟩ (m_isFrom l dC dI i1 0 3) (va_cwS 3 hts mg_X10_document_X10_isFrom_200 rfl rfl rfl (by decide +kernel) ⟨Nat.le_of_ble_eq_true rfl, Nat.le_of_ble_eq_true rfl⟩) ⟨fun a U g mk q => ⟨q.1, trivial⟩, fun U hU hW => ⟨rfl, trivial⟩⟩ rfl rfl hl.1 rfl (lv_room (Nat.le_of_ble_eq_true rfl)) dX10_document_3 ⟨Nat.le_of_ble_eq_true rfl, Nat.le_of_ble_eq_true rfl⟩) (fun r_2 hw => ?_)
  rcases hw with ⟨rfl, hF1, hF2⟩ | ⟨rfl, hF3⟩
  · refine lv_if_ne (tgt := 15) hx hb dX10_document_6 (by decide) (fun k_3 => ?_) (fun k_3 => absurd k_3 (by decide))
    refine lv_aload_n hx hb dX10_document_15 rfl (lv_at hl 0 rfl) ?_
    refine lv_iload_n hx hb dX10_document_16 rfl (lv_at hl 1 rfl) ?_
    have hPc := hP.sub (ws' := [(y, .inr (10, mF z 0 0 0 0 0 0 0 0 0 (-1) (-1))), (z 0, .inl (mA, 101660, .inl (fun _ => 0)))]) [0, 1] rfl
    have hKc := hK.sub (tys' := [(mA, .int)]) [0] rfl
    refine vp_callSi (W.runV (As := [.int i0]) (rest := []) ⟨hx, hb, hml, hown, hts⟩ (m_isDoc l dC dI y z 0 0 0 0 0 0 0 0 0 (-1) (-1) mA i0) (cwV 1 hts mg_X10_document_X10_isDoc_451 rfl rfl rfl (by decide +kernel) ⟨Nat.le_of_ble_eq_true rfl, Nat.le_of_ble_eq_true rfl⟩) ⟨fun a U g mk q => by obtain ⟨q0, qP, qK⟩ := q; exact ⟨q0, qP, va_K.moved (u := U) (U := U.calling g mk a) (Vm.Alike.refl U.vm) qK⟩, va_recv hKc hPc (ci := 10) (q0 := 0) rfl rfl, fun U hU hW => ⟨rfl, by rw [hU]; exact hPc, va_K.moved hW.alike hKc⟩⟩ rfl rfl hl.1 rfl (lv_room (Nat.le_of_ble_eq_true rfl)) dX10_document_17 ⟨Nat.le_of_ble_eq_true rfl, Nat.le_of_ble_eq_true rfl⟩) (fun r_5 hw => ?_)
    subst hw
    refine lv_if_ne (tgt := 29) hx hb dX10_document_20 (by decide) (fun k_6 => absurd (by decide) k_6) (fun k_6 => ?_)
    refine lv_aload_n hx hb dX10_document_23 rfl (lv_at hl 0 rfl) ?_
    refine lv_iconst (v := 2) hx hb dX10_document_24 (by decide) ?_
    have hPc := hP.sub (ws' := [(y, .inr (10, mF z 0 0 0 0 0 0 0 0 0 (-1) (-1)))]) [0] rfl
    have hKc := hK.sub (tys' := []) [] rfl
    have hDc := hD.sub (ws' := [(y, .inr (10, mF z 0 0 0 0 0 0 0 0 0 (-1) (-1)))]) [0] (by decide) rfl
    have hFc := va_free (wc := [(y, .inr (10, mF z 0 0 0 0 0 0 0 0 0 (-1) (-1)))]) hD hS hA [0] rfl
    refine va_calli (va_runV (As := [.int 2]) (rest := []) ⟨hx, hb, hml, hown, hts⟩ (m_refuse l dC dI y z 0 0 0 0 0 0 0 0 0 (-1) (-1) H.size 2) (cwV 1 hts mg_X10_document_X10_refuse_204 rfl rfl rfl (by decide +kernel) ⟨Nat.le_of_ble_eq_true rfl, Nat.le_of_ble_eq_true rfl⟩) ⟨fun a U g mk q => by obtain ⟨q0, q1, qP, qK, qD⟩ := q; exact ⟨q0, q1, qP, va_K.moved (u := U) (U := U.calling g mk a) (Vm.Alike.refl U.vm) qK, qD⟩, va_recv hKc hPc (ci := 10) (q0 := 0) rfl rfl, fun U hU hW => ⟨rfl, by rw [hU], by rw [hU]; exact hPc, va_K.moved hW.alike hKc, hDc.weaken (fun _ _ _ _ => trivial)⟩⟩ rfl rfl hl.1 rfl (lv_room (Nat.le_of_ble_eq_true rfl)) dX10_document_25 ⟨Nat.le_of_ble_eq_true rfl, Nat.le_of_ble_eq_true rfl⟩) hS (fun q _ h => hFc q h) hFc (fun r_8 u t H1 locs ht hvm hw hB hz1 hk1 hS => ?_)
    exact W.iret hx hb hr (fun t ht hW => ⟨⟨_, (), rfl, hw, trivial⟩, hS.F ht⟩) hS.2.2 dX10_document_28
  · refine lv_if_ne (tgt := 15) hx hb dX10_document_6 (by decide) (fun k_9 => absurd (by decide) k_9) (fun k_9 => ?_)
    refine lv_aload_n hx hb dX10_document_9 rfl (lv_at hl 0 rfl) ?_
    refine lv_iconst (v := 1) hx hb dX10_document_10 (by decide) ?_
    have hPc := hP.sub (ws' := [(y, .inr (10, mF z 0 0 0 0 0 0 0 0 0 (-1) (-1)))]) [0] rfl
    have hKc := hK.sub (tys' := []) [] rfl
    have hDc := hD.sub (ws' := [(y, .inr (10, mF z 0 0 0 0 0 0 0 0 0 (-1) (-1)))]) [0] (by decide) rfl
    have hFc := va_free (wc := [(y, .inr (10, mF z 0 0 0 0 0 0 0 0 0 (-1) (-1)))]) hD hS hA [0] rfl
    refine va_calli (va_runV (As := [.int 1]) (rest := []) ⟨hx, hb, hml, hown, hts⟩ (m_refuse l dC dI y z 0 0 0 0 0 0 0 0 0 (-1) (-1) H.size 1) (cwV 1 hts mg_X10_document_X10_refuse_204 rfl rfl rfl (by decide +kernel) ⟨Nat.le_of_ble_eq_true rfl, Nat.le_of_ble_eq_true rfl⟩) ⟨fun a U g mk q => by obtain ⟨q0, q1, qP, qK, qD⟩ := q; exact ⟨q0, q1, qP, va_K.moved (u := U) (U := U.calling g mk a) (Vm.Alike.refl U.vm) qK, qD⟩, va_recv hKc hPc (ci := 10) (q0 := 0) rfl rfl, fun U hU hW => ⟨rfl, by rw [hU], by rw [hU]; exact hPc, va_K.moved hW.alike hKc, hDc.weaken (fun _ _ _ _ => trivial)⟩⟩ rfl rfl hl.1 rfl (lv_room (Nat.le_of_ble_eq_true rfl)) dX10_document_11 ⟨Nat.le_of_ble_eq_true rfl, Nat.le_of_ble_eq_true rfl⟩) hS (fun q _ h => hFc q h) hFc (fun r_11 u t H1 locs ht hvm hw hB hz1 hk1 hS => ?_)
    exact W.iret hx hb hr (fun t ht hW => ⟨⟨_, (), rfl, hw, trivial⟩, hS.F ht⟩) hS.2.2 dX10_document_14
theorem dX10_list_0 : decode cX10_list 0 = .ok (.iload_n 1, 1) := by decide +kernel
theorem dX10_list_1 : decode cX10_list 1 = .ok (.iconst 0, 1) := by decide +kernel
theorem dX10_list_2 : decode cX10_list 2 = .ok (.sipush 17575, 3) := by decide +kernel
theorem dX10_list_5 : decode cX10_list 5 = .ok (.invokestatic 200, 3) := by decide +kernel
theorem dX10_list_8 : decode cX10_list 8 = .ok (.ifCond .eq 7, 3) := by decide +kernel
theorem dX10_list_11 : decode cX10_list 11 = .ok (.iload_n 2, 1) := by decide +kernel
theorem dX10_list_12 : decode cX10_list 12 = .ok (.ifCond .ge 9, 3) := by decide +kernel
theorem dX10_list_15 : decode cX10_list 15 = .ok (.aload_n 0, 1) := by decide +kernel
theorem dX10_list_16 : decode cX10_list 16 = .ok (.iconst 1, 1) := by decide +kernel
theorem dX10_list_17 : decode cX10_list 17 = .ok (.invokevirtual 204, 3) := by decide +kernel
theorem dX10_list_20 : decode cX10_list 20 = .ok (.ireturn, 1) := by decide +kernel
theorem dX10_list_21 : decode cX10_list 21 = .ok (.iload_n 2, 1) := by decide +kernel
theorem dX10_list_22 : decode cX10_list 22 = .ok (.istore_n 3, 1) := by decide +kernel
theorem dX10_list_23 : decode cX10_list 23 = .ok (.aload_n 0, 1) := by decide +kernel
theorem dX10_list_24 : decode cX10_list 24 = .ok (.iload_n 1, 1) := by decide +kernel
theorem dX10_list_25 : decode cX10_list 25 = .ok (.invokevirtual 414, 3) := by decide +kernel
theorem dX10_list_28 : decode cX10_list 28 = .ok (.istore 4, 2) := by decide +kernel
theorem dX10_list_30 : decode cX10_list 30 = .ok (.iconst 0, 1) := by decide +kernel
theorem dX10_list_31 : decode cX10_list 31 = .ok (.istore 5, 2) := by decide +kernel
theorem dX10_list_33 : decode cX10_list 33 = .ok (.iload 5, 2) := by decide +kernel
theorem dX10_list_35 : decode cX10_list 35 = .ok (.aload_n 0, 1) := by decide +kernel
theorem dX10_list_36 : decode cX10_list 36 = .ok (.getfield 8, 3) := by decide +kernel
theorem dX10_list_39 : decode cX10_list 39 = .ok (.iconst 0, 1) := by decide +kernel
theorem dX10_list_40 : decode cX10_list 40 = .ok (.iaload, 1) := by decide +kernel
theorem dX10_list_41 : decode cX10_list 41 = .ok (.if_icmp .ge 36, 3) := by decide +kernel
theorem dX10_list_77 : decode cX10_list 77 = .ok (.aload_n 0, 1) := by decide +kernel
theorem dX10_list_78 : decode cX10_list 78 = .ok (.iconst 5, 1) := by decide +kernel
theorem dX10_list_79 : decode cX10_list 79 = .ok (.invokevirtual 204, 3) := by decide +kernel
theorem dX10_list_82 : decode cX10_list 82 = .ok (.ireturn, 1) := by decide +kernel
def mwX10_list : List Cond := .code yX10_list cX10_list 6 (some .int) :: ([.code yX10_isFrom cX10_isFrom 3 (some .boolean), .methodLink RX10 200 yX10_isFrom, .static yX10_isFrom, .initialized RX10, .code yX10_listOf cX10_listOf 4 (some .int), .fieldLink RX10 8 "PatternGateModel" "all" "[I", .methodLink RX10 414 yX10_listOf, .instanceMethod yX10_listOf, .selects RX10 yX10_listOf yX10_listOf, .code yX10_refuse cX10_refuse 2 (some .int), .fieldLink RX10 104 "PatternGateModel" "status" "I", .methodLink RX10 204 yX10_refuse, .instanceMethod yX10_refuse, .selects RX10 yX10_refuse yX10_refuse] ++ wsX100)
theorem fin_X10_list_X10 : ∀ w ∈ wsX100, w ∈ mwX10_list := fun w h => List.mem_cons_of_mem _ (List.mem_append_right _ h)
set_option maxRecDepth 20000 in
theorem mg_X10_list_X10_isFrom_200 : GoodIn mwX10_list (va_wsS RX10 200 yX10_isFrom mwX10_isFrom) := goodIn_r _ [2, 3, 4, 1] (by decide +kernel) (by decide +kernel)
set_option maxRecDepth 20000 in
theorem mg_X10_list_X10_listOf_414 : GoodIn mwX10_list (wsV RX10 414 RX10 yX10_listOf mwX10_listOf) := goodIn_r _ [7, 8, 9, 4, 5, 6, 15, 16, 17, 18, 19, 20, 21, 22, 23, 24, 25, 26, 27, 28, 29, 30, 31, 32, 33, 34, 35, 36, 37, 38, 39, 40, 41, 42, 43, 44, 45, 46, 47, 48, 49, 50, 51, 52, 53, 54, 55, 56, 57, 58, 59, 60, 61, 62] (by decide +kernel) (by decide +kernel)
set_option maxRecDepth 20000 in
theorem mg_X10_list_X10_refuse_204 : GoodIn mwX10_list (wsV RX10 204 RX10 yX10_refuse mwX10_refuse) := goodIn_r _ [12, 13, 14, 4, 10, 11, 15, 16, 17, 18, 19, 20, 21, 22, 23, 24, 25, 26, 27, 28, 29, 30, 31, 32, 33, 34, 35, 36, 37, 38, 39, 40, 41, 42, 43, 44, 45, 46, 47, 48, 49, 50, 51, 52, 53, 54, 55, 56, 57, 58, 59, 60, 61, 62] (by decide +kernel) (by decide +kernel)
set_option maxHeartbeats 4000000 in
set_option maxRecDepth 100000 in
/-- list of the reference, new -/
theorem m_list (l : Launch) (dC : Nat → ClassId) (dI : Nat → Nat → Nat) (y : Nat) (z : Nat → Nat) (mA mT mX mC : ClassId) (sz : Nat) (i0 i1 : Int32) : Met l yX10_list mwX10_list ({ frames := 2, cells := 0, slots := 0, locals := 120 }) (va_Pc [.ref y, .int i0, .int i1] (fun U => U.heap.size = sz ∧ va_P (dC, dI) vwCl (mW y z mA mT mX mC) U.heap ∧ va_K (dC, dI) vwCl (mT9 mA mT mX mC) U ∧ va_D (fun _ => True) (mW y z mA mT mX mC))) (va_Qi (fun (o : Int32) (_ : Unit) => o = (-1)) (fun _ _ => True) (va_A (mW y z mA mT mX mC) sz)) 0 0 (va_A (mW y z mA mT mX mC) sz) := by
  refine Met.ofW (cc := cX10_list) (maxL := 6) (ret := (some .int)) (by decide +kernel) rfl ?_
  intro p e s m args below meth c s₁ B hml hv
  obtain ⟨rfl, hsz, hP, hK, hD0⟩ := hv
  have hx := B.exec
  have hb := B.bytes
  have hr := B.returns
  have hts := atoms_spec (ws := mwX10_list) B.pre
  have hown : s.vm.findClass RX10 = some m.cls := findClass_of_methodNamed B.named
  have hlocks := B.notSynchronized
  subst hsz
  have hD := hD0.self (sz := s.heap.size)
  generalize hAe : va_A (mW y z mA mT mX mC) s.heap.size = A at hD ⊢
  have hA : ∀ q : Nat, s.heap.size ≤ q → A q := fun q h => by rw [← hAe]; exact Or.inr h
  have hP : va_P (dC, dI) vwCl [(y, .inr (10, mF z 0 0 0 0 0 0 0 0 0 (-1) (-1))), (z 0, .inl (mA, 101660, .inl (fun _ => 0))), (z 1, .inl (mT, 900, .inl (fun _ => 0))), (z 2, .inl (mX, 900, .inl (fun _ => 0))), (z 23, .inl (mC, 17576, .inl (fun _ => 0)))] s.heap := hP
  have hD : va_D A [(y, .inr (10, mF z 0 0 0 0 0 0 0 0 0 (-1) (-1))), (z 0, .inl (mA, 101660, .inl (fun _ => 0))), (z 1, .inl (mT, 900, .inl (fun _ => 0))), (z 2, .inl (mX, 900, .inl (fun _ => 0))), (z 23, .inl (mC, 17576, .inl (fun _ => 0)))] := hD
  have hK : va_K (dC, dI) vwCl [(mA, .int), (mT, .byte), (mX, .byte), (mC, .boolean)] s := hK
  generalize hH : s.heap = H at hP ⊢
  have hS : va_S A s.heap H [] := by rw [← hH]; exact va_S.rf
  have hl := lv_entry ([.ref y, .int i0, .int i1]) (n := 6) (Nat.le_of_ble_eq_true rfl)
  rw [lg_entry_eq]
  generalize (lg_sl ([.ref y, .int i0, .int i1]) ++ List.replicate (6 - (lg_sl ([.ref y, .int i0, .int i1])).length) Slot.unset).toArray = ls at hl ⊢
  have hl : lv_has ls 6 [(0, .ref y), (1, .int i0), (2, .int i1)] := hl
  refine lv_iload_n hx hb dX10_list_0 rfl (lv_at hl 1 rfl) ?_
  refine lv_iconst (v := 0) hx hb dX10_list_1 (by decide) ?_
  refine lv_sipush (v := 17575) hx hb dX10_list_2 (by decide) ?_
  refine vp_callSi (W.runS (As := [.int i0, .int 0, .int 17575]) (rest := []) ⟨hx, hb, hml, hown, hts⟩ (m_isFrom l dC dI i0 0 17575) (va_cwS 3 hts mg_X10_list_X10_isFrom_200 rfl rfl rfl (by decide +kernel) ⟨Nat.le_of_ble_eq_true rfl, Nat.le_of_ble_eq_true rfl⟩) ⟨fun a U g mk q => ⟨q.1, trivial⟩, fun U hU hW => ⟨rfl, trivial⟩⟩ rfl rfl hl.1 rfl (lv_room (Nat.le_of_ble_eq_true rfl)) dX10_list_5 ⟨Nat.le_of_ble_eq_true rfl, Nat.le_of_ble_eq_true rfl⟩) (fun r_2 hw => ?_)
  rcases hw with ⟨rfl, hF1, hF2⟩ | ⟨rfl, hF3⟩
  · refine lv_if_eq (tgt := 15) hx hb dX10_list_8 (by decide) (fun k_3 => absurd k_3 (by decide)) (fun k_3 => ?_)
    refine lv_iload_n hx hb dX10_list_11 rfl (lv_at hl 2 rfl) ?_
    refine lv_if_ge (tgt := 21) hx hb dX10_list_12 (by decide) (fun k_4 => ?_) (fun k_4 => ?_)
    · refine lv_iload_n hx hb dX10_list_21 rfl (lv_at hl 2 rfl) ?_
      refine lv_istore_n (lv' := [(3, .int i1), (0, .ref y), (1, .int i0), (2, .int i1)]) hx hb dX10_list_22 rfl hl (by decide) rfl (fun ls hl => ?_)
      refine lv_aload_n hx hb dX10_list_23 rfl (lv_at hl 1 rfl) ?_
      refine lv_iload_n hx hb dX10_list_24 rfl (lv_at hl 2 rfl) ?_
      have hPc := hP.sub (ws' := [(y, .inr (10, mF z 0 0 0 0 0 0 0 0 0 (-1) (-1))), (z 0, .inl (mA, 101660, .inl (fun _ => 0)))]) [0, 1] rfl
      have hKc := hK.sub (tys' := [(mA, .int)]) [0] rfl
      refine vp_callSi (W.runV (As := [.int i0]) (rest := []) ⟨hx, hb, hml, hown, hts⟩ (m_listOf l dC dI y z 0 0 0 0 0 0 0 0 0 (-1) (-1) mA i0) (cwV 1 hts mg_X10_list_X10_listOf_414 rfl rfl rfl (by decide +kernel) ⟨Nat.le_of_ble_eq_true rfl, Nat.le_of_ble_eq_true rfl⟩) ⟨fun a U g mk q => by obtain ⟨q0, qP, qK⟩ := q; exact ⟨q0, qP, va_K.moved (u := U) (U := U.calling g mk a) (Vm.Alike.refl U.vm) qK⟩, va_recv hKc hPc (ci := 10) (q0 := 0) rfl rfl, fun U hU hW => ⟨rfl, by rw [hU]; exact hPc, va_K.moved hW.alike hKc⟩⟩ rfl rfl hl.1 rfl (lv_room (Nat.le_of_ble_eq_true rfl)) dX10_list_25 ⟨Nat.le_of_ble_eq_true rfl, Nat.le_of_ble_eq_true rfl⟩) (fun r_6 hw => ?_)
      subst hw
      refine lv_istore (lv' := [(4, .int 0), (3, .int i1), (0, .ref y), (1, .int i0), (2, .int i1)]) hx hb dX10_list_28 hl (by decide) rfl (fun ls hl => ?_)
      refine lv_iconst (v := 0) hx hb dX10_list_30 (by decide) ?_
      refine lv_istore (lv' := [(5, .int 0), (4, .int 0), (3, .int i1), (0, .ref y), (1, .int i0), (2, .int i1)]) hx hb dX10_list_31 hl (by decide) rfl (fun ls hl => ?_)
      refine lv_iload hx hb dX10_list_33 (lv_at hl 0 rfl) ?_
      refine lv_aload_n hx hb dX10_list_35 rfl (lv_at hl 3 rfl) ?_
      refine va_get (D := (dC, dI)) (ci := 10) (v := .ref (z 0)) (C := RX10) (T := TX10) (N := 48) hx hb hts fin_X10_list_X10 hown hK hP 0 rfl rfl 0 (by decide) (hts (.fieldLink RX10 8 "PatternGateModel" "all" "[I") (List.mem_of_getElem? (i := 6) (by decide +kernel))) (fun _ h9 => h9) rfl dX10_list_36 ?_
      refine lv_iconst (v := 0) hx hb dX10_list_39 (by decide) ?_
      refine va_iald hx hb hK hP 1 0 rfl rfl (i := 0) (by unfold vp_in; decide +kernel) dX10_list_40 ?_
      refine lv_topi (fun y_7 ey_7 => ?_)
      obtain rfl : y_7 = 0 := ey_7.trans (by first | rfl | decide)
      refine lv_icmp_ge (tgt := 77) hx hb dX10_list_41 (by decide) (fun k_8 => ?_) (fun k_8 => absurd (by decide) k_8)
      refine lv_aload_n hx hb dX10_list_77 rfl (lv_at hl 3 rfl) ?_
      refine lv_iconst (v := 5) hx hb dX10_list_78 (by decide) ?_
      have hPc := hP.sub (ws' := [(y, .inr (10, mF z 0 0 0 0 0 0 0 0 0 (-1) (-1)))]) [0] rfl
      have hKc := hK.sub (tys' := []) [] rfl
      have hDc := hD.sub (ws' := [(y, .inr (10, mF z 0 0 0 0 0 0 0 0 0 (-1) (-1)))]) [0] (by decide) rfl
      have hFc := va_free (wc := [(y, .inr (10, mF z 0 0 0 0 0 0 0 0 0 (-1) (-1)))]) hD hS hA [0] rfl
      refine va_calli (va_runV (As := [.int 5]) (rest := []) ⟨hx, hb, hml, hown, hts⟩ (m_refuse l dC dI y z 0 0 0 0 0 0 0 0 0 (-1) (-1) H.size 5) (cwV 1 hts mg_X10_list_X10_refuse_204 rfl rfl rfl (by decide +kernel) ⟨Nat.le_of_ble_eq_true rfl, Nat.le_of_ble_eq_true rfl⟩) ⟨fun a U g mk q => by obtain ⟨q0, q1, qP, qK, qD⟩ := q; exact ⟨q0, q1, qP, va_K.moved (u := U) (U := U.calling g mk a) (Vm.Alike.refl U.vm) qK, qD⟩, va_recv hKc hPc (ci := 10) (q0 := 0) rfl rfl, fun U hU hW => ⟨rfl, by rw [hU], by rw [hU]; exact hPc, va_K.moved hW.alike hKc, hDc.weaken (fun _ _ _ _ => trivial)⟩⟩ rfl rfl hl.1 rfl (lv_room (Nat.le_of_ble_eq_true rfl)) dX10_list_79 ⟨Nat.le_of_ble_eq_true rfl, Nat.le_of_ble_eq_true rfl⟩) hS (fun q _ h => hFc q h) hFc (fun r_10 u t H1 locs ht hvm hw hB hz1 hk1 hS => ?_)
      exact W.iret hx hb hr (fun t ht hW => ⟨⟨_, (), rfl, hw, trivial⟩, hS.F ht⟩) hS.2.2 dX10_list_82
    · refine lv_aload_n hx hb dX10_list_15 rfl (lv_at hl 0 rfl) ?_
      refine lv_iconst (v := 1) hx hb dX10_list_16 (by decide) ?_
      have hPc := hP.sub (ws' := [(y, .inr (10, mF z 0 0 0 0 0 0 0 0 0 (-1) (-1)))]) [0] rfl
      have hKc := hK.sub (tys' := []) [] rfl
      have hDc := hD.sub (ws' := [(y, .inr (10, mF z 0 0 0 0 0 0 0 0 0 (-1) (-1)))]) [0] (by decide) rfl
      have hFc := va_free (wc := [(y, .inr (10, mF z 0 0 0 0 0 0 0 0 0 (-1) (-1)))]) hD hS hA [0] rfl
      refine va_calli (va_runV (As := [.int 1]) (rest := []) ⟨hx, hb, hml, hown, hts⟩ (m_refuse l dC dI y z 0 0 0 0 0 0 0 0 0 (-1) (-1) H.size 1) (cwV 1 hts mg_X10_list_X10_refuse_204 rfl rfl rfl (by decide +kernel) ⟨Nat.le_of_ble_eq_true rfl, Nat.le_of_ble_eq_true rfl⟩) ⟨fun a U g mk q => by obtain ⟨q0, q1, qP, qK, qD⟩ := q; exact ⟨q0, q1, qP, va_K.moved (u := U) (U := U.calling g mk a) (Vm.Alike.refl U.vm) qK, qD⟩, va_recv hKc hPc (ci := 10) (q0 := 0) rfl rfl, fun U hU hW => ⟨rfl, by rw [hU], by rw [hU]; exact hPc, va_K.moved hW.alike hKc, hDc.weaken (fun _ _ _ _ => trivial)⟩⟩ rfl rfl hl.1 rfl (lv_room (Nat.le_of_ble_eq_true rfl)) dX10_list_17 ⟨Nat.le_of_ble_eq_true rfl, Nat.le_of_ble_eq_true rfl⟩) hS (fun q _ h => hFc q h) hFc (fun r_12 u t H1 locs ht hvm hw hB hz1 hk1 hS => ?_)
      exact W.iret hx hb hr (fun t ht hW => ⟨⟨_, (), rfl, hw, trivial⟩, hS.F ht⟩) hS.2.2 dX10_list_20
  · refine lv_if_eq (tgt := 15) hx hb dX10_list_8 (by decide) (fun k_13 => ?_) (fun k_13 => absurd (by decide) k_13)
    refine lv_aload_n hx hb dX10_list_15 rfl (lv_at hl 0 rfl) ?_
    refine lv_iconst (v := 1) hx hb dX10_list_16 (by decide) ?_
    have hPc := hP.sub (ws' := [(y, .inr (10, mF z 0 0 0 0 0 0 0 0 0 (-1) (-1)))]) [0] rfl
    have hKc := hK.sub (tys' := []) [] rfl
    have hDc := hD.sub (ws' := [(y, .inr (10, mF z 0 0 0 0 0 0 0 0 0 (-1) (-1)))]) [0] (by decide) rfl
    have hFc := va_free (wc := [(y, .inr (10, mF z 0 0 0 0 0 0 0 0 0 (-1) (-1)))]) hD hS hA [0] rfl
    refine va_calli (va_runV (As := [.int 1]) (rest := []) ⟨hx, hb, hml, hown, hts⟩ (m_refuse l dC dI y z 0 0 0 0 0 0 0 0 0 (-1) (-1) H.size 1) (cwV 1 hts mg_X10_list_X10_refuse_204 rfl rfl rfl (by decide +kernel) ⟨Nat.le_of_ble_eq_true rfl, Nat.le_of_ble_eq_true rfl⟩) ⟨fun a U g mk q => by obtain ⟨q0, q1, qP, qK, qD⟩ := q; exact ⟨q0, q1, qP, va_K.moved (u := U) (U := U.calling g mk a) (Vm.Alike.refl U.vm) qK, qD⟩, va_recv hKc hPc (ci := 10) (q0 := 0) rfl rfl, fun U hU hW => ⟨rfl, by rw [hU], by rw [hU]; exact hPc, va_K.moved hW.alike hKc, hDc.weaken (fun _ _ _ _ => trivial)⟩⟩ rfl rfl hl.1 rfl (lv_room (Nat.le_of_ble_eq_true rfl)) dX10_list_17 ⟨Nat.le_of_ble_eq_true rfl, Nat.le_of_ble_eq_true rfl⟩) hS (fun q _ h => hFc q h) hFc (fun r_15 u t H1 locs ht hvm hw hB hz1 hk1 hS => ?_)
    exact W.iret hx hb hr (fun t ht hW => ⟨⟨_, (), rfl, hw, trivial⟩, hS.F ht⟩) hS.2.2 dX10_list_20

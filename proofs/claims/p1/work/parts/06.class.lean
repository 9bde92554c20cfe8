theorem dX9_letter_0 : decode cX9_letter 0 = .ok (.iload_n 2, 1) := by decide +kernel
theorem dX9_letter_1 : decode cX9_letter 1 = .ok (.ifCond .ge 9, 3) := by decide +kernel
theorem dX9_letter_4 : decode cX9_letter 4 = .ok (.aload_n 0, 1) := by decide +kernel
theorem dX9_letter_5 : decode cX9_letter 5 = .ok (.iconst 1, 1) := by decide +kernel
theorem dX9_letter_6 : decode cX9_letter 6 = .ok (.invokevirtual 80, 3) := by decide +kernel
theorem dX9_letter_9 : decode cX9_letter 9 = .ok (.ireturn, 1) := by decide +kernel
theorem dX9_letter_10 : decode cX9_letter 10 = .ok (.aload_n 0, 1) := by decide +kernel
theorem dX9_letter_11 : decode cX9_letter 11 = .ok (.getfield 29, 3) := by decide +kernel
theorem dX9_letter_14 : decode cX9_letter 14 = .ok (.iload_n 1, 1) := by decide +kernel
theorem dX9_letter_15 : decode cX9_letter 15 = .ok (.invokevirtual 123, 3) := by decide +kernel
theorem dX9_letter_18 : decode cX9_letter 18 = .ok (.astore_n 3, 1) := by decide +kernel
theorem dX9_letter_19 : decode cX9_letter 19 = .ok (.aload_n 3, 1) := by decide +kernel
theorem dX9_letter_20 : decode cX9_letter 20 = .ok (.ifnonnull 9, 3) := by decide +kernel
theorem dX9_letter_23 : decode cX9_letter 23 = .ok (.aload_n 0, 1) := by decide +kernel
theorem dX9_letter_24 : decode cX9_letter 24 = .ok (.iconst 2, 1) := by decide +kernel
theorem dX9_letter_25 : decode cX9_letter 25 = .ok (.invokevirtual 80, 3) := by decide +kernel
theorem dX9_letter_28 : decode cX9_letter 28 = .ok (.ireturn, 1) := by decide +kernel
def mwX9_letter : List Cond := .code yX9_letter cX9_letter 4 (some .int) :: ([.fieldLink RX9 29 "PatternGate" "book" "LPatternGate$Book;", .code yX0_docAt cX0_docAt 2 (some (.object "PatternGate$Doc")), .fieldLink RX0 7 "PatternGate$Book" "docs" "[LPatternGate$Doc;", .methodLink RX9 123 yX0_docAt, .instanceMethod yX0_docAt, .selects RX0 yX0_docAt yX0_docAt, .initialized RX0, .code yX9_refuse cX9_refuse 2 (some .int), .fieldLink RX9 70 "PatternGate" "lastStatus" "I", .methodLink RX9 80 yX9_refuse, .instanceMethod yX9_refuse, .selects RX9 yX9_refuse yX9_refuse, .initialized RX9] ++ wsX90 ++ wsX00)
theorem fin_X9_letter_X9 : ∀ w ∈ wsX90, w ∈ mwX9_letter := fun w h => List.mem_cons_of_mem _ (List.mem_append_left _ (List.mem_append_right _ h))
set_option maxRecDepth 20000 in
theorem mg_X9_letter_X0_docAt_123 : GoodIn mwX9_letter (wsV RX9 123 RX0 yX0_docAt mwX0_docAt) := goodIn_r _ [4, 5, 6, 7, 2, 3, 30, 31, 32] (by decide +kernel) (by decide +kernel)
set_option maxRecDepth 20000 in
theorem mg_X9_letter_X9_refuse_80 : GoodIn mwX9_letter (wsV RX9 80 RX9 yX9_refuse mwX9_refuse) := goodIn_r _ [10, 11, 12, 13, 8, 9, 14, 15, 16, 17, 18, 19, 20, 21, 22, 23, 24, 25, 26, 27, 28, 29] (by decide +kernel) (by decide +kernel)
set_option maxHeartbeats 4000000 in
set_option maxRecDepth 100000 in
/-- letter on a new object -/
theorem c_letter (l : Launch) (dC : Nat → ClassId) (dI : Nat → Nat → Nat) (x : Nat) (q : Nat → Nat) (b d0 p0 : Nat) (cT cD cP cB cU : ClassId) (r : Nat → Nat) (sz : Nat) (i0 i1 : Int32) : Met l yX9_letter mwX9_letter ({ frames := 1, cells := 0, slots := 0, locals := 60 }) (va_Pc [.ref x, .int i0, .int i1] (fun U => U.heap.size = sz ∧ va_P (dC, dI) vwCl (gW x q b d0 p0 cT cD cP cB cU r) U.heap ∧ va_K (dC, dI) vwCl (gT cT cD cP cB cU) U ∧ va_D (fun _ => True) (gW x q b d0 p0 cT cD cP cB cU r))) (va_Qi (fun (o : Int32) (_ : Unit) => o = (-1)) (fun _ _ => True) (va_A (gW x q b d0 p0 cT cD cP cB cU r) sz)) 0 0 (va_A (gW x q b d0 p0 cT cD cP cB cU r) sz) := by
  refine Met.ofW (cc := cX9_letter) (maxL := 4) (ret := (some .int)) (by decide +kernel) rfl ?_
  intro p e s m args below meth c s₁ B hml hv
  obtain ⟨rfl, hsz, hP, hK, hD0⟩ := hv
  have hx := B.exec
  have hb := B.bytes
  have hr := B.returns
  have hts := atoms_spec (ws := mwX9_letter) B.pre
  have hown : s.vm.findClass RX9 = some m.cls := findClass_of_methodNamed B.named
  have hlocks := B.notSynchronized
  subst hsz
  have hD := hD0.self (sz := s.heap.size)
  generalize hAe : va_A (gW x q b d0 p0 cT cD cP cB cU r) s.heap.size = A at hD ⊢
  have hA : ∀ q : Nat, s.heap.size ≤ q → A q := fun q h => by rw [← hAe]; exact Or.inr h
  have hP : va_P (dC, dI) vwCl [(x, .inr (9, gF q 0 0 (-1) (-1) b 0 0)), (q 0, .inl (cT, 900, .inl (fun _ => 0))), (b, .inr (0, [.ref d0, .ref p0, .null])), (d0, .inl (cD, 0, .inr (.inr (.inr (.inr (fun _ => none)))))), (p0, .inl (cP, 0, .inr (.inr (.inr (.inr (fun _ => none)))))), (q 1, .inl (cB, 3, .inr (.inr (.inr (.inr (fun _ => none)))))), (q 2, .inl (cU, 3, .inl (fun _ => 0))), (q 3, .inr (6, rF r 0 0 0 0 0 0 0 0))] s.heap := hP
  have hD : va_D A [(x, .inr (9, gF q 0 0 (-1) (-1) b 0 0)), (q 0, .inl (cT, 900, .inl (fun _ => 0))), (b, .inr (0, [.ref d0, .ref p0, .null])), (d0, .inl (cD, 0, .inr (.inr (.inr (.inr (fun _ => none)))))), (p0, .inl (cP, 0, .inr (.inr (.inr (.inr (fun _ => none)))))), (q 1, .inl (cB, 3, .inr (.inr (.inr (.inr (fun _ => none)))))), (q 2, .inl (cU, 3, .inl (fun _ => 0))), (q 3, .inr (6, rF r 0 0 0 0 0 0 0 0))] := hD
  have hK : va_K (dC, dI) vwCl [(cT, .int), (cD, .object "PatternGate$Doc"), (cP, .object "PatternGate$Pattern"), (cB, .object "PatternGate$Book"), (cU, .int)] s := hK
  generalize hH : s.heap = H at hP ⊢
  have hS : va_S A s.heap H [] := by rw [← hH]; exact va_S.rf
  have hl := lv_entry ([.ref x, .int i0, .int i1]) (n := 4) (Nat.le_of_ble_eq_true rfl)
  rw [lg_entry_eq]
  generalize (lg_sl ([.ref x, .int i0, .int i1]) ++ List.replicate (4 - (lg_sl ([.ref x, .int i0, .int i1])).length) Slot.unset).toArray = ls at hl ⊢
  have hl : lv_has ls 4 [(0, .ref x), (1, .int i0), (2, .int i1)] := hl
  refine lv_iload_n hx hb dX9_letter_0 rfl (lv_at hl 2 rfl) ?_
  refine lv_if_ge (tgt := 10) hx hb dX9_letter_1 (by decide) (fun k_1 => ?_) (fun k_1 => ?_)
  · refine lv_aload_n hx hb dX9_letter_10 rfl (lv_at hl 0 rfl) ?_
    refine va_get (D := (dC, dI)) (ci := 9) (v := .ref b) (C := RX9) (T := TX9) (N := 16) hx hb hts fin_X9_letter_X9 hown hK hP 0 rfl rfl 5 (by decide) (hts (.fieldLink RX9 29 "PatternGate" "book" "LPatternGate$Book;") (List.mem_of_getElem? (i := 1) (by decide +kernel))) (fun _ h9 => h9) rfl dX9_letter_11 ?_
    refine lv_iload_n hx hb dX9_letter_14 rfl (lv_at hl 1 rfl) ?_
    have hPc := hP.sub (ws' := [(b, .inr (0, [.ref d0, .ref p0, .null])), (d0, .inl (cD, 0, .inr (.inr (.inr (.inr (fun _ => none)))))), (p0, .inl (cP, 0, .inr (.inr (.inr (.inr (fun _ => none))))))]) [2, 3, 4] rfl
    have hKc := hK.sub (tys' := [(cD, .object "PatternGate$Doc"), (cP, .object "PatternGate$Pattern")]) [1, 2] rfl
    refine va_csq (W.runV (As := [.int i0]) (rest := []) ⟨hx, hb, hml, hown, hts⟩ (c_docAt l dC dI b d0 p0 cD cP i0) (cwV 1 hts mg_X9_letter_X0_docAt_123 rfl rfl rfl (by decide +kernel) ⟨Nat.le_of_ble_eq_true rfl, Nat.le_of_ble_eq_true rfl⟩) ⟨fun a U g mk q => by obtain ⟨q0, qP, qK⟩ := q; exact ⟨q0, qP, va_K.moved (u := U) (U := U.calling g mk a) (Vm.Alike.refl U.vm) qK⟩, va_recv hKc hPc (ci := 0) (q0 := 0) rfl rfl, fun U hU hW => ⟨rfl, by rw [hU]; exact hPc, va_K.moved hW.alike hKc⟩⟩ rfl rfl hl.1 rfl (lv_room (Nat.le_of_ble_eq_true rfl)) dX9_letter_15 ⟨Nat.le_of_ble_eq_true rfl, Nat.le_of_ble_eq_true rfl⟩) (fun r_3 hw => ?_)
    subst hw
    refine W.eq (g2 := F0 m 18 ls [.null]) rfl ?_
    refine lv_astore_nN (lv' := [(3, .null), (0, .ref x), (1, .int i0), (2, .int i1)]) hx hb dX9_letter_18 rfl hl (by decide) rfl (fun ls hl => ?_)
    refine lv_aload_nN hx hb dX9_letter_19 rfl (lv_at hl 0 rfl) ?_
    refine lv_ifnonnullN hx hb dX9_letter_20 ?_
    refine lv_aload_n hx hb dX9_letter_23 rfl (lv_at hl 1 rfl) ?_
    refine lv_iconst (v := 2) hx hb dX9_letter_24 (by decide) ?_
    have hPc := hP.sub (ws' := [(x, .inr (9, gF q 0 0 (-1) (-1) b 0 0))]) [0] rfl
    have hKc := hK.sub (tys' := []) [] rfl
    have hDc := hD.sub (ws' := [(x, .inr (9, gF q 0 0 (-1) (-1) b 0 0))]) [0] (by decide) rfl
    have hFc := va_free (wc := [(x, .inr (9, gF q 0 0 (-1) (-1) b 0 0))]) hD hS hA [0] rfl
    refine va_calli (va_runV (As := [.int 2]) (rest := []) ⟨hx, hb, hml, hown, hts⟩ (c_refuse l dC dI x q 0 0 (-1) (-1) b 0 0 H.size 2) (cwV 1 hts mg_X9_letter_X9_refuse_80 rfl rfl rfl (by decide +kernel) ⟨Nat.le_of_ble_eq_true rfl, Nat.le_of_ble_eq_true rfl⟩) ⟨fun a U g mk q => by obtain ⟨q0, q1, qP, qK, qD⟩ := q; exact ⟨q0, q1, qP, va_K.moved (u := U) (U := U.calling g mk a) (Vm.Alike.refl U.vm) qK, qD⟩, va_recv hKc hPc (ci := 9) (q0 := 0) rfl rfl, fun U hU hW => ⟨rfl, by rw [hU], by rw [hU]; exact hPc, va_K.moved hW.alike hKc, hDc.weaken (fun _ _ _ _ => trivial)⟩⟩ rfl rfl hl.1 rfl (lv_room (Nat.le_of_ble_eq_true rfl)) dX9_letter_25 ⟨Nat.le_of_ble_eq_true rfl, Nat.le_of_ble_eq_true rfl⟩) hS (fun q _ h => hFc q h) hFc (fun r_5 u t H1 locs ht hvm hw hB hz1 hk1 hS => ?_)
    exact W.iret hx hb hr (fun t ht hW => ⟨⟨_, (), rfl, hw, trivial⟩, hS.F ht⟩) hS.2.2 dX9_letter_28
  · refine lv_aload_n hx hb dX9_letter_4 rfl (lv_at hl 0 rfl) ?_
    refine lv_iconst (v := 1) hx hb dX9_letter_5 (by decide) ?_
    have hPc := hP.sub (ws' := [(x, .inr (9, gF q 0 0 (-1) (-1) b 0 0))]) [0] rfl
    have hKc := hK.sub (tys' := []) [] rfl
    have hDc := hD.sub (ws' := [(x, .inr (9, gF q 0 0 (-1) (-1) b 0 0))]) [0] (by decide) rfl
    have hFc := va_free (wc := [(x, .inr (9, gF q 0 0 (-1) (-1) b 0 0))]) hD hS hA [0] rfl
    refine va_calli (va_runV (As := [.int 1]) (rest := []) ⟨hx, hb, hml, hown, hts⟩ (c_refuse l dC dI x q 0 0 (-1) (-1) b 0 0 H.size 1) (cwV 1 hts mg_X9_letter_X9_refuse_80 rfl rfl rfl (by decide +kernel) ⟨Nat.le_of_ble_eq_true rfl, Nat.le_of_ble_eq_true rfl⟩) ⟨fun a U g mk q => by obtain ⟨q0, q1, qP, qK, qD⟩ := q; exact ⟨q0, q1, qP, va_K.moved (u := U) (U := U.calling g mk a) (Vm.Alike.refl U.vm) qK, qD⟩, va_recv hKc hPc (ci := 9) (q0 := 0) rfl rfl, fun U hU hW => ⟨rfl, by rw [hU], by rw [hU]; exact hPc, va_K.moved hW.alike hKc, hDc.weaken (fun _ _ _ _ => trivial)⟩⟩ rfl rfl hl.1 rfl (lv_room (Nat.le_of_ble_eq_true rfl)) dX9_letter_6 ⟨Nat.le_of_ble_eq_true rfl, Nat.le_of_ble_eq_true rfl⟩) hS (fun q _ h => hFc q h) hFc (fun r_7 u t H1 locs ht hvm hw hB hz1 hk1 hS => ?_)
    exact W.iret hx hb hr (fun t ht hW => ⟨⟨_, (), rfl, hw, trivial⟩, hS.F ht⟩) hS.2.2 dX9_letter_9
theorem dX9_sign_0 : decode cX9_sign 0 = .ok (.iload_n 2, 1) := by decide +kernel
theorem dX9_sign_1 : decode cX9_sign 1 = .ok (.ifCond .ge 9, 3) := by decide +kernel
theorem dX9_sign_4 : decode cX9_sign 4 = .ok (.aload_n 0, 1) := by decide +kernel
theorem dX9_sign_5 : decode cX9_sign 5 = .ok (.iconst 1, 1) := by decide +kernel
theorem dX9_sign_6 : decode cX9_sign 6 = .ok (.invokevirtual 80, 3) := by decide +kernel
theorem dX9_sign_9 : decode cX9_sign 9 = .ok (.ireturn, 1) := by decide +kernel
theorem dX9_sign_10 : decode cX9_sign 10 = .ok (.aload_n 0, 1) := by decide +kernel
theorem dX9_sign_11 : decode cX9_sign 11 = .ok (.getfield 29, 3) := by decide +kernel
theorem dX9_sign_14 : decode cX9_sign 14 = .ok (.iload_n 1, 1) := by decide +kernel
theorem dX9_sign_15 : decode cX9_sign 15 = .ok (.invokevirtual 140, 3) := by decide +kernel
theorem dX9_sign_18 : decode cX9_sign 18 = .ok (.astore_n 3, 1) := by decide +kernel
theorem dX9_sign_19 : decode cX9_sign 19 = .ok (.aload_n 3, 1) := by decide +kernel
theorem dX9_sign_20 : decode cX9_sign 20 = .ok (.ifnonnull 9, 3) := by decide +kernel
theorem dX9_sign_23 : decode cX9_sign 23 = .ok (.aload_n 0, 1) := by decide +kernel
theorem dX9_sign_24 : decode cX9_sign 24 = .ok (.iconst 2, 1) := by decide +kernel
theorem dX9_sign_25 : decode cX9_sign 25 = .ok (.invokevirtual 80, 3) := by decide +kernel
theorem dX9_sign_28 : decode cX9_sign 28 = .ok (.ireturn, 1) := by decide +kernel
def mwX9_sign : List Cond := .code yX9_sign cX9_sign 4 (some .int) :: ([.fieldLink RX9 29 "PatternGate" "book" "LPatternGate$Book;", .code yX0_patternAt cX0_patternAt 2 (some (.object "PatternGate$Pattern")), .fieldLink RX0 13 "PatternGate$Book" "patterns" "[LPatternGate$Pattern;", .methodLink RX9 140 yX0_patternAt, .instanceMethod yX0_patternAt, .selects RX0 yX0_patternAt yX0_patternAt, .initialized RX0, .code yX9_refuse cX9_refuse 2 (some .int), .fieldLink RX9 70 "PatternGate" "lastStatus" "I", .methodLink RX9 80 yX9_refuse, .instanceMethod yX9_refuse, .selects RX9 yX9_refuse yX9_refuse, .initialized RX9] ++ wsX90 ++ wsX00)
theorem fin_X9_sign_X9 : ∀ w ∈ wsX90, w ∈ mwX9_sign := fun w h => List.mem_cons_of_mem _ (List.mem_append_left _ (List.mem_append_right _ h))
set_option maxRecDepth 20000 in
theorem mg_X9_sign_X0_patternAt_140 : GoodIn mwX9_sign (wsV RX9 140 RX0 yX0_patternAt mwX0_patternAt) := goodIn_r _ [4, 5, 6, 7, 2, 3, 30, 31, 32] (by decide +kernel) (by decide +kernel)
set_option maxRecDepth 20000 in
theorem mg_X9_sign_X9_refuse_80 : GoodIn mwX9_sign (wsV RX9 80 RX9 yX9_refuse mwX9_refuse) := goodIn_r _ [10, 11, 12, 13, 8, 9, 14, 15, 16, 17, 18, 19, 20, 21, 22, 23, 24, 25, 26, 27, 28, 29] (by decide +kernel) (by decide +kernel)
set_option maxHeartbeats 4000000 in
set_option maxRecDepth 100000 in
/-- sign on a new object -/
theorem c_sign (l : Launch) (dC : Nat → ClassId) (dI : Nat → Nat → Nat) (x : Nat) (q : Nat → Nat) (b d0 p0 : Nat) (cT cD cP cB cU : ClassId) (r : Nat → Nat) (sz : Nat) (i0 i1 : Int32) : Met l yX9_sign mwX9_sign ({ frames := 1, cells := 0, slots := 0, locals := 60 }) (va_Pc [.ref x, .int i0, .int i1] (fun U => U.heap.size = sz ∧ va_P (dC, dI) vwCl (gW x q b d0 p0 cT cD cP cB cU r) U.heap ∧ va_K (dC, dI) vwCl (gT cT cD cP cB cU) U ∧ va_D (fun _ => True) (gW x q b d0 p0 cT cD cP cB cU r))) (va_Qi (fun (o : Int32) (_ : Unit) => o = (-1)) (fun _ _ => True) (va_A (gW x q b d0 p0 cT cD cP cB cU r) sz)) 0 0 (va_A (gW x q b d0 p0 cT cD cP cB cU r) sz) := by
  refine Met.ofW (cc := cX9_sign) (maxL := 4) (ret := (some .int)) (by decide +kernel) rfl ?_
  intro p e s m args below meth c s₁ B hml hv
  obtain ⟨rfl, hsz, hP, hK, hD0⟩ := hv
  have hx := B.exec
  have hb := B.bytes
  have hr := B.returns
  have hts := atoms_spec (ws := mwX9_sign) B.pre
  have hown : s.vm.findClass RX9 = some m.cls := findClass_of_methodNamed B.named
  have hlocks := B.notSynchronized
  subst hsz
  have hD := hD0.self (sz := s.heap.size)
  generalize hAe : va_A (gW x q b d0 p0 cT cD cP cB cU r) s.heap.size = A at hD ⊢
  have hA : ∀ q : Nat, s.heap.size ≤ q → A q := fun q h => by rw [← hAe]; exact Or.inr h
  have hP : va_P (dC, dI) vwCl [(x, .inr (9, gF q 0 0 (-1) (-1) b 0 0)), (q 0, .inl (cT, 900, .inl (fun _ => 0))), (b, .inr (0, [.ref d0, .ref p0, .null])), (d0, .inl (cD, 0, .inr (.inr (.inr (.inr (fun _ => none)))))), (p0, .inl (cP, 0, .inr (.inr (.inr (.inr (fun _ => none)))))), (q 1, .inl (cB, 3, .inr (.inr (.inr (.inr (fun _ => none)))))), (q 2, .inl (cU, 3, .inl (fun _ => 0))), (q 3, .inr (6, rF r 0 0 0 0 0 0 0 0))] s.heap := hP
  have hD : va_D A [(x, .inr (9, gF q 0 0 (-1) (-1) b 0 0)), (q 0, .inl (cT, 900, .inl (fun _ => 0))), (b, .inr (0, [.ref d0, .ref p0, .null])), (d0, .inl (cD, 0, .inr (.inr (.inr (.inr (fun _ => none)))))), (p0, .inl (cP, 0, .inr (.inr (.inr (.inr (fun _ => none)))))), (q 1, .inl (cB, 3, .inr (.inr (.inr (.inr (fun _ => none)))))), (q 2, .inl (cU, 3, .inl (fun _ => 0))), (q 3, .inr (6, rF r 0 0 0 0 0 0 0 0))] := hD
  have hK : va_K (dC, dI) vwCl [(cT, .int), (cD, .object "PatternGate$Doc"), (cP, .object "PatternGate$Pattern"), (cB, .object "PatternGate$Book"), (cU, .int)] s := hK
  generalize hH : s.heap = H at hP ⊢
  have hS : va_S A s.heap H [] := by rw [← hH]; exact va_S.rf
  have hl := lv_entry ([.ref x, .int i0, .int i1]) (n := 4) (Nat.le_of_ble_eq_true rfl)
  rw [lg_entry_eq]
  generalize (lg_sl ([.ref x, .int i0, .int i1]) ++ List.replicate (4 - (lg_sl ([.ref x, .int i0, .int i1])).length) Slot.unset).toArray = ls at hl ⊢
  have hl : lv_has ls 4 [(0, .ref x), (1, .int i0), (2, .int i1)] := hl
  refine lv_iload_n hx hb dX9_sign_0 rfl (lv_at hl 2 rfl) ?_
  refine lv_if_ge (tgt := 10) hx hb dX9_sign_1 (by decide) (fun k_1 => ?_) (fun k_1 => ?_)
  · refine lv_aload_n hx hb dX9_sign_10 rfl (lv_at hl 0 rfl) ?_
    refine va_get (D := (dC, dI)) (ci := 9) (v := .ref b) (C := RX9) (T := TX9) (N := 16) hx hb hts fin_X9_sign_X9 hown hK hP 0 rfl rfl 5 (by decide) (hts (.fieldLink RX9 29 "PatternGate" "book" "LPatternGate$Book;") (List.mem_of_getElem? (i := 1) (by decide +kernel))) (fun _ h9 => h9) rfl dX9_sign_11 ?_
    refine lv_iload_n hx hb dX9_sign_14 rfl (lv_at hl 1 rfl) ?_
    have hPc := hP.sub (ws' := [(b, .inr (0, [.ref d0, .ref p0, .null])), (d0, .inl (cD, 0, .inr (.inr (.inr (.inr (fun _ => none)))))), (p0, .inl (cP, 0, .inr (.inr (.inr (.inr (fun _ => none))))))]) [2, 3, 4] rfl
    have hKc := hK.sub (tys' := [(cD, .object "PatternGate$Doc"), (cP, .object "PatternGate$Pattern")]) [1, 2] rfl
    refine va_csq (W.runV (As := [.int i0]) (rest := []) ⟨hx, hb, hml, hown, hts⟩ (c_patternAt l dC dI b d0 p0 cD cP i0) (cwV 1 hts mg_X9_sign_X0_patternAt_140 rfl rfl rfl (by decide +kernel) ⟨Nat.le_of_ble_eq_true rfl, Nat.le_of_ble_eq_true rfl⟩) ⟨fun a U g mk q => by obtain ⟨q0, qP, qK⟩ := q; exact ⟨q0, qP, va_K.moved (u := U) (U := U.calling g mk a) (Vm.Alike.refl U.vm) qK⟩, va_recv hKc hPc (ci := 0) (q0 := 0) rfl rfl, fun U hU hW => ⟨rfl, by rw [hU]; exact hPc, va_K.moved hW.alike hKc⟩⟩ rfl rfl hl.1 rfl (lv_room (Nat.le_of_ble_eq_true rfl)) dX9_sign_15 ⟨Nat.le_of_ble_eq_true rfl, Nat.le_of_ble_eq_true rfl⟩) (fun r_3 hw => ?_)
    subst hw
    refine W.eq (g2 := F0 m 18 ls [.null]) rfl ?_
    refine lv_astore_nN (lv' := [(3, .null), (0, .ref x), (1, .int i0), (2, .int i1)]) hx hb dX9_sign_18 rfl hl (by decide) rfl (fun ls hl => ?_)
    refine lv_aload_nN hx hb dX9_sign_19 rfl (lv_at hl 0 rfl) ?_
    refine lv_ifnonnullN hx hb dX9_sign_20 ?_
    refine lv_aload_n hx hb dX9_sign_23 rfl (lv_at hl 1 rfl) ?_
    refine lv_iconst (v := 2) hx hb dX9_sign_24 (by decide) ?_
    have hPc := hP.sub (ws' := [(x, .inr (9, gF q 0 0 (-1) (-1) b 0 0))]) [0] rfl
    have hKc := hK.sub (tys' := []) [] rfl
    have hDc := hD.sub (ws' := [(x, .inr (9, gF q 0 0 (-1) (-1) b 0 0))]) [0] (by decide) rfl
    have hFc := va_free (wc := [(x, .inr (9, gF q 0 0 (-1) (-1) b 0 0))]) hD hS hA [0] rfl
    refine va_calli (va_runV (As := [.int 2]) (rest := []) ⟨hx, hb, hml, hown, hts⟩ (c_refuse l dC dI x q 0 0 (-1) (-1) b 0 0 H.size 2) (cwV 1 hts mg_X9_sign_X9_refuse_80 rfl rfl rfl (by decide +kernel) ⟨Nat.le_of_ble_eq_true rfl, Nat.le_of_ble_eq_true rfl⟩) ⟨fun a U g mk q => by obtain ⟨q0, q1, qP, qK, qD⟩ := q; exact ⟨q0, q1, qP, va_K.moved (u := U) (U := U.calling g mk a) (Vm.Alike.refl U.vm) qK, qD⟩, va_recv hKc hPc (ci := 9) (q0 := 0) rfl rfl, fun U hU hW => ⟨rfl, by rw [hU], by rw [hU]; exact hPc, va_K.moved hW.alike hKc, hDc.weaken (fun _ _ _ _ => trivial)⟩⟩ rfl rfl hl.1 rfl (lv_room (Nat.le_of_ble_eq_true rfl)) dX9_sign_25 ⟨Nat.le_of_ble_eq_true rfl, Nat.le_of_ble_eq_true rfl⟩) hS (fun q _ h => hFc q h) hFc (fun r_5 u t H1 locs ht hvm hw hB hz1 hk1 hS => ?_)
    exact W.iret hx hb hr (fun t ht hW => ⟨⟨_, (), rfl, hw, trivial⟩, hS.F ht⟩) hS.2.2 dX9_sign_28
  · refine lv_aload_n hx hb dX9_sign_4 rfl (lv_at hl 0 rfl) ?_
    refine lv_iconst (v := 1) hx hb dX9_sign_5 (by decide) ?_
    have hPc := hP.sub (ws' := [(x, .inr (9, gF q 0 0 (-1) (-1) b 0 0))]) [0] rfl
    have hKc := hK.sub (tys' := []) [] rfl
    have hDc := hD.sub (ws' := [(x, .inr (9, gF q 0 0 (-1) (-1) b 0 0))]) [0] (by decide) rfl
    have hFc := va_free (wc := [(x, .inr (9, gF q 0 0 (-1) (-1) b 0 0))]) hD hS hA [0] rfl
    refine va_calli (va_runV (As := [.int 1]) (rest := []) ⟨hx, hb, hml, hown, hts⟩ (c_refuse l dC dI x q 0 0 (-1) (-1) b 0 0 H.size 1) (cwV 1 hts mg_X9_sign_X9_refuse_80 rfl rfl rfl (by decide +kernel) ⟨Nat.le_of_ble_eq_true rfl, Nat.le_of_ble_eq_true rfl⟩) ⟨fun a U g mk q => by obtain ⟨q0, q1, qP, qK, qD⟩ := q; exact ⟨q0, q1, qP, va_K.moved (u := U) (U := U.calling g mk a) (Vm.Alike.refl U.vm) qK, qD⟩, va_recv hKc hPc (ci := 9) (q0 := 0) rfl rfl, fun U hU hW => ⟨rfl, by rw [hU], by rw [hU]; exact hPc, va_K.moved hW.alike hKc, hDc.weaken (fun _ _ _ _ => trivial)⟩⟩ rfl rfl hl.1 rfl (lv_room (Nat.le_of_ble_eq_true rfl)) dX9_sign_6 ⟨Nat.le_of_ble_eq_true rfl, Nat.le_of_ble_eq_true rfl⟩) hS (fun q _ h => hFc q h) hFc (fun r_7 u t H1 locs ht hvm hw hB hz1 hk1 hS => ?_)
    exact W.iret hx hb hr (fun t ht hW => ⟨⟨_, (), rfl, hw, trivial⟩, hS.F ht⟩) hS.2.2 dX9_sign_9
theorem dX9_pattern_0 : decode cX9_pattern 0 = .ok (.iload_n 2, 1) := by decide +kernel
theorem dX9_pattern_1 : decode cX9_pattern 1 = .ok (.ifCond .lt 9, 3) := by decide +kernel
theorem dX9_pattern_4 : decode cX9_pattern 4 = .ok (.iload_n 2, 1) := by decide +kernel
theorem dX9_pattern_5 : decode cX9_pattern 5 = .ok (.bipush 7, 2) := by decide +kernel
theorem dX9_pattern_7 : decode cX9_pattern 7 = .ok (.if_icmp .le 9, 3) := by decide +kernel
theorem dX9_pattern_10 : decode cX9_pattern 10 = .ok (.aload_n 0, 1) := by decide +kernel
theorem dX9_pattern_11 : decode cX9_pattern 11 = .ok (.iconst 1, 1) := by decide +kernel
theorem dX9_pattern_12 : decode cX9_pattern 12 = .ok (.invokevirtual 80, 3) := by decide +kernel
theorem dX9_pattern_15 : decode cX9_pattern 15 = .ok (.ireturn, 1) := by decide +kernel
theorem dX9_pattern_16 : decode cX9_pattern 16 = .ok (.aload_n 0, 1) := by decide +kernel
theorem dX9_pattern_17 : decode cX9_pattern 17 = .ok (.getfield 29, 3) := by decide +kernel
theorem dX9_pattern_20 : decode cX9_pattern 20 = .ok (.iload_n 1, 1) := by decide +kernel
theorem dX9_pattern_21 : decode cX9_pattern 21 = .ok (.invokevirtual 140, 3) := by decide +kernel
theorem dX9_pattern_24 : decode cX9_pattern 24 = .ok (.astore_n 3, 1) := by decide +kernel
theorem dX9_pattern_25 : decode cX9_pattern 25 = .ok (.aload_n 3, 1) := by decide +kernel
theorem dX9_pattern_26 : decode cX9_pattern 26 = .ok (.ifnonnull 9, 3) := by decide +kernel
theorem dX9_pattern_29 : decode cX9_pattern 29 = .ok (.aload_n 0, 1) := by decide +kernel
theorem dX9_pattern_30 : decode cX9_pattern 30 = .ok (.iconst 2, 1) := by decide +kernel
theorem dX9_pattern_31 : decode cX9_pattern 31 = .ok (.invokevirtual 80, 3) := by decide +kernel
theorem dX9_pattern_34 : decode cX9_pattern 34 = .ok (.ireturn, 1) := by decide +kernel
def mwX9_pattern : List Cond := .code yX9_pattern cX9_pattern 4 (some .int) :: ([.code yX9_refuse cX9_refuse 2 (some .int), .fieldLink RX9 70 "PatternGate" "lastStatus" "I", .methodLink RX9 80 yX9_refuse, .instanceMethod yX9_refuse, .selects RX9 yX9_refuse yX9_refuse, .initialized RX9, .fieldLink RX9 29 "PatternGate" "book" "LPatternGate$Book;", .code yX0_patternAt cX0_patternAt 2 (some (.object "PatternGate$Pattern")), .fieldLink RX0 13 "PatternGate$Book" "patterns" "[LPatternGate$Pattern;", .methodLink RX9 140 yX0_patternAt, .instanceMethod yX0_patternAt, .selects RX0 yX0_patternAt yX0_patternAt, .initialized RX0] ++ wsX90 ++ wsX00)
theorem fin_X9_pattern_X9 : ∀ w ∈ wsX90, w ∈ mwX9_pattern := fun w h => List.mem_cons_of_mem _ (List.mem_append_left _ (List.mem_append_right _ h))
set_option maxRecDepth 20000 in
theorem mg_X9_pattern_X9_refuse_80 : GoodIn mwX9_pattern (wsV RX9 80 RX9 yX9_refuse mwX9_refuse) := goodIn_r _ [3, 4, 5, 6, 1, 2, 14, 15, 16, 17, 18, 19, 20, 21, 22, 23, 24, 25, 26, 27, 28, 29] (by decide +kernel) (by decide +kernel)
set_option maxRecDepth 20000 in
theorem mg_X9_pattern_X0_patternAt_140 : GoodIn mwX9_pattern (wsV RX9 140 RX0 yX0_patternAt mwX0_patternAt) := goodIn_r _ [10, 11, 12, 13, 8, 9, 30, 31, 32] (by decide +kernel) (by decide +kernel)
set_option maxHeartbeats 4000000 in
set_option maxRecDepth 100000 in
/-- pattern on a new object -/
theorem c_pattern (l : Launch) (dC : Nat → ClassId) (dI : Nat → Nat → Nat) (x : Nat) (q : Nat → Nat) (b d0 p0 : Nat) (cT cD cP cB cU : ClassId) (r : Nat → Nat) (sz : Nat) (i0 i1 : Int32) : Met l yX9_pattern mwX9_pattern ({ frames := 1, cells := 0, slots := 0, locals := 60 }) (va_Pc [.ref x, .int i0, .int i1] (fun U => U.heap.size = sz ∧ va_P (dC, dI) vwCl (gW x q b d0 p0 cT cD cP cB cU r) U.heap ∧ va_K (dC, dI) vwCl (gT cT cD cP cB cU) U ∧ va_D (fun _ => True) (gW x q b d0 p0 cT cD cP cB cU r))) (va_Qi (fun (o : Int32) (_ : Unit) => o = (-1)) (fun _ _ => True) (va_A (gW x q b d0 p0 cT cD cP cB cU r) sz)) 0 0 (va_A (gW x q b d0 p0 cT cD cP cB cU r) sz) := by
  refine Met.ofW (cc := cX9_pattern) (maxL := 4) (ret := (some .int)) (by decide +kernel) rfl ?_
  intro p e s m args below meth c s₁ B hml hv
  obtain ⟨rfl, hsz, hP, hK, hD0⟩ := hv
  have hx := B.exec
  have hb := B.bytes
  have hr := B.returns
  have hts := atoms_spec (ws := mwX9_pattern) B.pre
  have hown : s.vm.findClass RX9 = some m.cls := findClass_of_methodNamed B.named
  have hlocks := B.notSynchronized
  subst hsz
  have hD := hD0.self (sz := s.heap.size)
  generalize hAe : va_A (gW x q b d0 p0 cT cD cP cB cU r) s.heap.size = A at hD ⊢
  have hA : ∀ q : Nat, s.heap.size ≤ q → A q := fun q h => by rw [← hAe]; exact Or.inr h
  have hP : va_P (dC, dI) vwCl [(x, .inr (9, gF q 0 0 (-1) (-1) b 0 0)), (q 0, .inl (cT, 900, .inl (fun _ => 0))), (b, .inr (0, [.ref d0, .ref p0, .null])), (d0, .inl (cD, 0, .inr (.inr (.inr (.inr (fun _ => none)))))), (p0, .inl (cP, 0, .inr (.inr (.inr (.inr (fun _ => none)))))), (q 1, .inl (cB, 3, .inr (.inr (.inr (.inr (fun _ => none)))))), (q 2, .inl (cU, 3, .inl (fun _ => 0))), (q 3, .inr (6, rF r 0 0 0 0 0 0 0 0))] s.heap := hP
  have hD : va_D A [(x, .inr (9, gF q 0 0 (-1) (-1) b 0 0)), (q 0, .inl (cT, 900, .inl (fun _ => 0))), (b, .inr (0, [.ref d0, .ref p0, .null])), (d0, .inl (cD, 0, .inr (.inr (.inr (.inr (fun _ => none)))))), (p0, .inl (cP, 0, .inr (.inr (.inr (.inr (fun _ => none)))))), (q 1, .inl (cB, 3, .inr (.inr (.inr (.inr (fun _ => none)))))), (q 2, .inl (cU, 3, .inl (fun _ => 0))), (q 3, .inr (6, rF r 0 0 0 0 0 0 0 0))] := hD
  have hK : va_K (dC, dI) vwCl [(cT, .int), (cD, .object "PatternGate$Doc"), (cP, .object "PatternGate$Pattern"), (cB, .object "PatternGate$Book"), (cU, .int)] s := hK
  generalize hH : s.heap = H at hP ⊢
  have hS : va_S A s.heap H [] := by rw [← hH]; exact va_S.rf
  have hl := lv_entry ([.ref x, .int i0, .int i1]) (n := 4) (Nat.le_of_ble_eq_true rfl)
  rw [lg_entry_eq]
  generalize (lg_sl ([.ref x, .int i0, .int i1]) ++ List.replicate (4 - (lg_sl ([.ref x, .int i0, .int i1])).length) Slot.unset).toArray = ls at hl ⊢
  have hl : lv_has ls 4 [(0, .ref x), (1, .int i0), (2, .int i1)] := hl
  refine lv_iload_n hx hb dX9_pattern_0 rfl (lv_at hl 2 rfl) ?_
  refine lv_if_lt (tgt := 10) hx hb dX9_pattern_1 (by decide) (fun k_1 => ?_) (fun k_1 => ?_)
  · refine lv_aload_n hx hb dX9_pattern_10 rfl (lv_at hl 0 rfl) ?_
    refine lv_iconst (v := 1) hx hb dX9_pattern_11 (by decide) ?_
    have hPc := hP.sub (ws' := [(x, .inr (9, gF q 0 0 (-1) (-1) b 0 0))]) [0] rfl
    have hKc := hK.sub (tys' := []) [] rfl
    have hDc := hD.sub (ws' := [(x, .inr (9, gF q 0 0 (-1) (-1) b 0 0))]) [0] (by decide) rfl
    have hFc := va_free (wc := [(x, .inr (9, gF q 0 0 (-1) (-1) b 0 0))]) hD hS hA [0] rfl
    refine va_calli (va_runV (As := [.int 1]) (rest := []) ⟨hx, hb, hml, hown, hts⟩ (c_refuse l dC dI x q 0 0 (-1) (-1) b 0 0 H.size 1) (cwV 1 hts mg_X9_pattern_X9_refuse_80 rfl rfl rfl (by decide +kernel) ⟨Nat.le_of_ble_eq_true rfl, Nat.le_of_ble_eq_true rfl⟩) ⟨fun a U g mk q => by obtain ⟨q0, q1, qP, qK, qD⟩ := q; exact ⟨q0, q1, qP, va_K.moved (u := U) (U := U.calling g mk a) (Vm.Alike.refl U.vm) qK, qD⟩, va_recv hKc hPc (ci := 9) (q0 := 0) rfl rfl, fun U hU hW => ⟨rfl, by rw [hU], by rw [hU]; exact hPc, va_K.moved hW.alike hKc, hDc.weaken (fun _ _ _ _ => trivial)⟩⟩ rfl rfl hl.1 rfl (lv_room (Nat.le_of_ble_eq_true rfl)) dX9_pattern_12 ⟨Nat.le_of_ble_eq_true rfl, Nat.le_of_ble_eq_true rfl⟩) hS (fun q _ h => hFc q h) hFc (fun r_3 u t H1 locs ht hvm hw hB hz1 hk1 hS => ?_)
    exact W.iret hx hb hr (fun t ht hW => ⟨⟨_, (), rfl, hw, trivial⟩, hS.F ht⟩) hS.2.2 dX9_pattern_15
  · refine lv_iload_n hx hb dX9_pattern_4 rfl (lv_at hl 2 rfl) ?_
    refine lv_bipush (v := 7) hx hb dX9_pattern_5 (by decide) ?_
    refine lv_icmp_le (tgt := 16) hx hb dX9_pattern_7 (by decide) (fun k_4 => ?_) (fun k_4 => ?_)
    · refine lv_aload_n hx hb dX9_pattern_16 rfl (lv_at hl 0 rfl) ?_
      refine va_get (D := (dC, dI)) (ci := 9) (v := .ref b) (C := RX9) (T := TX9) (N := 16) hx hb hts fin_X9_pattern_X9 hown hK hP 0 rfl rfl 5 (by decide) (hts (.fieldLink RX9 29 "PatternGate" "book" "LPatternGate$Book;") (List.mem_of_getElem? (i := 7) (by decide +kernel))) (fun _ h9 => h9) rfl dX9_pattern_17 ?_
      refine lv_iload_n hx hb dX9_pattern_20 rfl (lv_at hl 1 rfl) ?_
      have hPc := hP.sub (ws' := [(b, .inr (0, [.ref d0, .ref p0, .null])), (d0, .inl (cD, 0, .inr (.inr (.inr (.inr (fun _ => none)))))), (p0, .inl (cP, 0, .inr (.inr (.inr (.inr (fun _ => none))))))]) [2, 3, 4] rfl
      have hKc := hK.sub (tys' := [(cD, .object "PatternGate$Doc"), (cP, .object "PatternGate$Pattern")]) [1, 2] rfl
      refine va_csq (W.runV (As := [.int i0]) (rest := []) ⟨hx, hb, hml, hown, hts⟩ (c_patternAt l dC dI b d0 p0 cD cP i0) (cwV 1 hts mg_X9_pattern_X0_patternAt_140 rfl rfl rfl (by decide +kernel) ⟨Nat.le_of_ble_eq_true rfl, Nat.le_of_ble_eq_true rfl⟩) ⟨fun a U g mk q => by obtain ⟨q0, qP, qK⟩ := q; exact ⟨q0, qP, va_K.moved (u := U) (U := U.calling g mk a) (Vm.Alike.refl U.vm) qK⟩, va_recv hKc hPc (ci := 0) (q0 := 0) rfl rfl, fun U hU hW => ⟨rfl, by rw [hU]; exact hPc, va_K.moved hW.alike hKc⟩⟩ rfl rfl hl.1 rfl (lv_room (Nat.le_of_ble_eq_true rfl)) dX9_pattern_21 ⟨Nat.le_of_ble_eq_true rfl, Nat.le_of_ble_eq_true rfl⟩) (fun r_6 hw => ?_)
      subst hw
      refine W.eq (g2 := F0 m 24 ls [.null]) rfl ?_
      refine lv_astore_nN (lv' := [(3, .null), (0, .ref x), (1, .int i0), (2, .int i1)]) hx hb dX9_pattern_24 rfl hl (by decide) rfl (fun ls hl => ?_)
      refine lv_aload_nN hx hb dX9_pattern_25 rfl (lv_at hl 0 rfl) ?_
      refine lv_ifnonnullN hx hb dX9_pattern_26 ?_
      refine lv_aload_n hx hb dX9_pattern_29 rfl (lv_at hl 1 rfl) ?_
      refine lv_iconst (v := 2) hx hb dX9_pattern_30 (by decide) ?_
      have hPc := hP.sub (ws' := [(x, .inr (9, gF q 0 0 (-1) (-1) b 0 0))]) [0] rfl
      have hKc := hK.sub (tys' := []) [] rfl
      have hDc := hD.sub (ws' := [(x, .inr (9, gF q 0 0 (-1) (-1) b 0 0))]) [0] (by decide) rfl
      have hFc := va_free (wc := [(x, .inr (9, gF q 0 0 (-1) (-1) b 0 0))]) hD hS hA [0] rfl
      refine va_calli (va_runV (As := [.int 2]) (rest := []) ⟨hx, hb, hml, hown, hts⟩ (c_refuse l dC dI x q 0 0 (-1) (-1) b 0 0 H.size 2) (cwV 1 hts mg_X9_pattern_X9_refuse_80 rfl rfl rfl (by decide +kernel) ⟨Nat.le_of_ble_eq_true rfl, Nat.le_of_ble_eq_true rfl⟩) ⟨fun a U g mk q => by obtain ⟨q0, q1, qP, qK, qD⟩ := q; exact ⟨q0, q1, qP, va_K.moved (u := U) (U := U.calling g mk a) (Vm.Alike.refl U.vm) qK, qD⟩, va_recv hKc hPc (ci := 9) (q0 := 0) rfl rfl, fun U hU hW => ⟨rfl, by rw [hU], by rw [hU]; exact hPc, va_K.moved hW.alike hKc, hDc.weaken (fun _ _ _ _ => trivial)⟩⟩ rfl rfl hl.1 rfl (lv_room (Nat.le_of_ble_eq_true rfl)) dX9_pattern_31 ⟨Nat.le_of_ble_eq_true rfl, Nat.le_of_ble_eq_true rfl⟩) hS (fun q _ h => hFc q h) hFc (fun r_8 u t H1 locs ht hvm hw hB hz1 hk1 hS => ?_)
      exact W.iret hx hb hr (fun t ht hW => ⟨⟨_, (), rfl, hw, trivial⟩, hS.F ht⟩) hS.2.2 dX9_pattern_34
    · refine lv_aload_n hx hb dX9_pattern_10 rfl (lv_at hl 0 rfl) ?_
      refine lv_iconst (v := 1) hx hb dX9_pattern_11 (by decide) ?_
      have hPc := hP.sub (ws' := [(x, .inr (9, gF q 0 0 (-1) (-1) b 0 0))]) [0] rfl
      have hKc := hK.sub (tys' := []) [] rfl
      have hDc := hD.sub (ws' := [(x, .inr (9, gF q 0 0 (-1) (-1) b 0 0))]) [0] (by decide) rfl
      have hFc := va_free (wc := [(x, .inr (9, gF q 0 0 (-1) (-1) b 0 0))]) hD hS hA [0] rfl
      refine va_calli (va_runV (As := [.int 1]) (rest := []) ⟨hx, hb, hml, hown, hts⟩ (c_refuse l dC dI x q 0 0 (-1) (-1) b 0 0 H.size 1) (cwV 1 hts mg_X9_pattern_X9_refuse_80 rfl rfl rfl (by decide +kernel) ⟨Nat.le_of_ble_eq_true rfl, Nat.le_of_ble_eq_true rfl⟩) ⟨fun a U g mk q => by obtain ⟨q0, q1, qP, qK, qD⟩ := q; exact ⟨q0, q1, qP, va_K.moved (u := U) (U := U.calling g mk a) (Vm.Alike.refl U.vm) qK, qD⟩, va_recv hKc hPc (ci := 9) (q0 := 0) rfl rfl, fun U hU hW => ⟨rfl, by rw [hU], by rw [hU]; exact hPc, va_K.moved hW.alike hKc, hDc.weaken (fun _ _ _ _ => trivial)⟩⟩ rfl rfl hl.1 rfl (lv_room (Nat.le_of_ble_eq_true rfl)) dX9_pattern_12 ⟨Nat.le_of_ble_eq_true rfl, Nat.le_of_ble_eq_true rfl⟩) hS (fun q _ h => hFc q h) hFc (fun r_10 u t H1 locs ht hvm hw hB hz1 hk1 hS => ?_)
      exact W.iret hx hb hr (fun t ht hW => ⟨⟨_, (), rfl, hw, trivial⟩, hS.F ht⟩) hS.2.2 dX9_pattern_15
theorem dX9_exact_0 : decode cX9_exact 0 = .ok (.iload_n 2, 1) := by decide +kernel
theorem dX9_exact_1 : decode cX9_exact 1 = .ok (.ifCond .lt 7, 3) := by decide +kernel
theorem dX9_exact_4 : decode cX9_exact 4 = .ok (.iload_n 3, 1) := by decide +kernel
theorem dX9_exact_5 : decode cX9_exact 5 = .ok (.ifCond .ge 9, 3) := by decide +kernel
theorem dX9_exact_8 : decode cX9_exact 8 = .ok (.aload_n 0, 1) := by decide +kernel
theorem dX9_exact_9 : decode cX9_exact 9 = .ok (.iconst 1, 1) := by decide +kernel
theorem dX9_exact_10 : decode cX9_exact 10 = .ok (.invokevirtual 80, 3) := by decide +kernel
theorem dX9_exact_13 : decode cX9_exact 13 = .ok (.ireturn, 1) := by decide +kernel
theorem dX9_exact_14 : decode cX9_exact 14 = .ok (.aload_n 0, 1) := by decide +kernel
theorem dX9_exact_15 : decode cX9_exact 15 = .ok (.getfield 29, 3) := by decide +kernel
theorem dX9_exact_18 : decode cX9_exact 18 = .ok (.iload_n 1, 1) := by decide +kernel
theorem dX9_exact_19 : decode cX9_exact 19 = .ok (.invokevirtual 140, 3) := by decide +kernel
theorem dX9_exact_22 : decode cX9_exact 22 = .ok (.astore 4, 2) := by decide +kernel
theorem dX9_exact_24 : decode cX9_exact 24 = .ok (.aload 4, 2) := by decide +kernel
theorem dX9_exact_26 : decode cX9_exact 26 = .ok (.ifnonnull 9, 3) := by decide +kernel
theorem dX9_exact_29 : decode cX9_exact 29 = .ok (.aload_n 0, 1) := by decide +kernel
theorem dX9_exact_30 : decode cX9_exact 30 = .ok (.iconst 2, 1) := by decide +kernel
theorem dX9_exact_31 : decode cX9_exact 31 = .ok (.invokevirtual 80, 3) := by decide +kernel
theorem dX9_exact_34 : decode cX9_exact 34 = .ok (.ireturn, 1) := by decide +kernel
def mwX9_exact : List Cond := .code yX9_exact cX9_exact 5 (some .int) :: ([.code yX9_refuse cX9_refuse 2 (some .int), .fieldLink RX9 70 "PatternGate" "lastStatus" "I", .methodLink RX9 80 yX9_refuse, .instanceMethod yX9_refuse, .selects RX9 yX9_refuse yX9_refuse, .initialized RX9, .fieldLink RX9 29 "PatternGate" "book" "LPatternGate$Book;", .code yX0_patternAt cX0_patternAt 2 (some (.object "PatternGate$Pattern")), .fieldLink RX0 13 "PatternGate$Book" "patterns" "[LPatternGate$Pattern;", .methodLink RX9 140 yX0_patternAt, .instanceMethod yX0_patternAt, .selects RX0 yX0_patternAt yX0_patternAt, .initialized RX0] ++ wsX90 ++ wsX00)
theorem fin_X9_exact_X9 : ∀ w ∈ wsX90, w ∈ mwX9_exact := fun w h => List.mem_cons_of_mem _ (List.mem_append_left _ (List.mem_append_right _ h))
set_option maxRecDepth 20000 in
theorem mg_X9_exact_X9_refuse_80 : GoodIn mwX9_exact (wsV RX9 80 RX9 yX9_refuse mwX9_refuse) := goodIn_r _ [3, 4, 5, 6, 1, 2, 14, 15, 16, 17, 18, 19, 20, 21, 22, 23, 24, 25, 26, 27, 28, 29] (by decide +kernel) (by decide +kernel)
set_option maxRecDepth 20000 in
theorem mg_X9_exact_X0_patternAt_140 : GoodIn mwX9_exact (wsV RX9 140 RX0 yX0_patternAt mwX0_patternAt) := goodIn_r _ [10, 11, 12, 13, 8, 9, 30, 31, 32] (by decide +kernel) (by decide +kernel)
set_option maxHeartbeats 4000000 in
set_option maxRecDepth 100000 in
/-- exact on a new object -/
theorem c_exact (l : Launch) (dC : Nat → ClassId) (dI : Nat → Nat → Nat) (x : Nat) (q : Nat → Nat) (b d0 p0 : Nat) (cT cD cP cB cU : ClassId) (r : Nat → Nat) (sz : Nat) (i0 i1 i2 : Int32) : Met l yX9_exact mwX9_exact ({ frames := 1, cells := 0, slots := 0, locals := 60 }) (va_Pc [.ref x, .int i0, .int i1, .int i2] (fun U => U.heap.size = sz ∧ va_P (dC, dI) vwCl (gW x q b d0 p0 cT cD cP cB cU r) U.heap ∧ va_K (dC, dI) vwCl (gT cT cD cP cB cU) U ∧ va_D (fun _ => True) (gW x q b d0 p0 cT cD cP cB cU r))) (va_Qi (fun (o : Int32) (_ : Unit) => o = (-1)) (fun _ _ => True) (va_A (gW x q b d0 p0 cT cD cP cB cU r) sz)) 0 0 (va_A (gW x q b d0 p0 cT cD cP cB cU r) sz) := by
  refine Met.ofW (cc := cX9_exact) (maxL := 5) (ret := (some .int)) (by decide +kernel) rfl ?_
  intro p e s m args below meth c s₁ B hml hv
  obtain ⟨rfl, hsz, hP, hK, hD0⟩ := hv
  have hx := B.exec
  have hb := B.bytes
  have hr := B.returns
  have hts := atoms_spec (ws := mwX9_exact) B.pre
  have hown : s.vm.findClass RX9 = some m.cls := findClass_of_methodNamed B.named
  have hlocks := B.notSynchronized
  subst hsz
  have hD := hD0.self (sz := s.heap.size)
  generalize hAe : va_A (gW x q b d0 p0 cT cD cP cB cU r) s.heap.size = A at hD ⊢
  have hA : ∀ q : Nat, s.heap.size ≤ q → A q := fun q h => by rw [← hAe]; exact Or.inr h
  have hP : va_P (dC, dI) vwCl [(x, .inr (9, gF q 0 0 (-1) (-1) b 0 0)), (q 0, .inl (cT, 900, .inl (fun _ => 0))), (b, .inr (0, [.ref d0, .ref p0, .null])), (d0, .inl (cD, 0, .inr (.inr (.inr (.inr (fun _ => none)))))), (p0, .inl (cP, 0, .inr (.inr (.inr (.inr (fun _ => none)))))), (q 1, .inl (cB, 3, .inr (.inr (.inr (.inr (fun _ => none)))))), (q 2, .inl (cU, 3, .inl (fun _ => 0))), (q 3, .inr (6, rF r 0 0 0 0 0 0 0 0))] s.heap := hP
  have hD : va_D A [(x, .inr (9, gF q 0 0 (-1) (-1) b 0 0)), (q 0, .inl (cT, 900, .inl (fun _ => 0))), (b, .inr (0, [.ref d0, .ref p0, .null])), (d0, .inl (cD, 0, .inr (.inr (.inr (.inr (fun _ => none)))))), (p0, .inl (cP, 0, .inr (.inr (.inr (.inr (fun _ => none)))))), (q 1, .inl (cB, 3, .inr (.inr (.inr (.inr (fun _ => none)))))), (q 2, .inl (cU, 3, .inl (fun _ => 0))), (q 3, .inr (6, rF r 0 0 0 0 0 0 0 0))] := hD
  have hK : va_K (dC, dI) vwCl [(cT, .int), (cD, .object "PatternGate$Doc"), (cP, .object "PatternGate$Pattern"), (cB, .object "PatternGate$Book"), (cU, .int)] s := hK
  generalize hH : s.heap = H at hP ⊢
  have hS : va_S A s.heap H [] := by rw [← hH]; exact va_S.rf
  have hl := lv_entry ([.ref x, .int i0, .int i1, .int i2]) (n := 5) (Nat.le_of_ble_eq_true rfl)
  rw [lg_entry_eq]
  generalize (lg_sl ([.ref x, .int i0, .int i1, .int i2]) ++ List.replicate (5 - (lg_sl ([.ref x, .int i0, .int i1, .int i2])).length) Slot.unset).toArray = ls at hl ⊢
  have hl : lv_has ls 5 [(0, .ref x), (1, .int i0), (2, .int i1), (3, .int i2)] := hl
  refine lv_iload_n hx hb dX9_exact_0 rfl (lv_at hl 2 rfl) ?_
  refine lv_if_lt (tgt := 8) hx hb dX9_exact_1 (by decide) (fun k_1 => ?_) (fun k_1 => ?_)
  · refine lv_aload_n hx hb dX9_exact_8 rfl (lv_at hl 0 rfl) ?_
    refine lv_iconst (v := 1) hx hb dX9_exact_9 (by decide) ?_
    have hPc := hP.sub (ws' := [(x, .inr (9, gF q 0 0 (-1) (-1) b 0 0))]) [0] rfl
    have hKc := hK.sub (tys' := []) [] rfl
    have hDc := hD.sub (ws' := [(x, .inr (9, gF q 0 0 (-1) (-1) b 0 0))]) [0] (by decide) rfl
    have hFc := va_free (wc := [(x, .inr (9, gF q 0 0 (-1) (-1) b 0 0))]) hD hS hA [0] rfl
    refine va_calli (va_runV (As := [.int 1]) (rest := []) ⟨hx, hb, hml, hown, hts⟩ (c_refuse l dC dI x q 0 0 (-1) (-1) b 0 0 H.size 1) (cwV 1 hts mg_X9_exact_X9_refuse_80 rfl rfl rfl (by decide +kernel) ⟨Nat.le_of_ble_eq_true rfl, Nat.le_of_ble_eq_true rfl⟩) ⟨fun a U g mk q => by obtain ⟨q0, q1, qP, qK, qD⟩ := q; exact ⟨q0, q1, qP, va_K.moved (u := U) (U := U.calling g mk a) (Vm.Alike.refl U.vm) qK, qD⟩, va_recv hKc hPc (ci := 9) (q0 := 0) rfl rfl, fun U hU hW => ⟨rfl, by rw [hU], by rw [hU]; exact hPc, va_K.moved hW.alike hKc, hDc.weaken (fun _ _ _ _ => trivial)⟩⟩ rfl rfl hl.1 rfl (lv_room (Nat.le_of_ble_eq_true rfl)) dX9_exact_10 ⟨Nat.le_of_ble_eq_true rfl, Nat.le_of_ble_eq_true rfl⟩) hS (fun q _ h => hFc q h) hFc (fun r_3 u t H1 locs ht hvm hw hB hz1 hk1 hS => ?_)
    exact W.iret hx hb hr (fun t ht hW => ⟨⟨_, (), rfl, hw, trivial⟩, hS.F ht⟩) hS.2.2 dX9_exact_13
  · refine lv_iload_n hx hb dX9_exact_4 rfl (lv_at hl 3 rfl) ?_
    refine lv_if_ge (tgt := 14) hx hb dX9_exact_5 (by decide) (fun k_4 => ?_) (fun k_4 => ?_)
    · refine lv_aload_n hx hb dX9_exact_14 rfl (lv_at hl 0 rfl) ?_
      refine va_get (D := (dC, dI)) (ci := 9) (v := .ref b) (C := RX9) (T := TX9) (N := 16) hx hb hts fin_X9_exact_X9 hown hK hP 0 rfl rfl 5 (by decide) (hts (.fieldLink RX9 29 "PatternGate" "book" "LPatternGate$Book;") (List.mem_of_getElem? (i := 7) (by decide +kernel))) (fun _ h9 => h9) rfl dX9_exact_15 ?_
      refine lv_iload_n hx hb dX9_exact_18 rfl (lv_at hl 1 rfl) ?_
      have hPc := hP.sub (ws' := [(b, .inr (0, [.ref d0, .ref p0, .null])), (d0, .inl (cD, 0, .inr (.inr (.inr (.inr (fun _ => none)))))), (p0, .inl (cP, 0, .inr (.inr (.inr (.inr (fun _ => none))))))]) [2, 3, 4] rfl
      have hKc := hK.sub (tys' := [(cD, .object "PatternGate$Doc"), (cP, .object "PatternGate$Pattern")]) [1, 2] rfl
      refine va_csq (W.runV (As := [.int i0]) (rest := []) ⟨hx, hb, hml, hown, hts⟩ (c_patternAt l dC dI b d0 p0 cD cP i0) (cwV 1 hts mg_X9_exact_X0_patternAt_140 rfl rfl rfl (by decide +kernel) ⟨Nat.le_of_ble_eq_true rfl, Nat.le_of_ble_eq_true rfl⟩) ⟨fun a U g mk q => by obtain ⟨q0, qP, qK⟩ := q; exact ⟨q0, qP, va_K.moved (u := U) (U := U.calling g mk a) (Vm.Alike.refl U.vm) qK⟩, va_recv hKc hPc (ci := 0) (q0 := 0) rfl rfl, fun U hU hW => ⟨rfl, by rw [hU]; exact hPc, va_K.moved hW.alike hKc⟩⟩ rfl rfl hl.1 rfl (lv_room (Nat.le_of_ble_eq_true rfl)) dX9_exact_19 ⟨Nat.le_of_ble_eq_true rfl, Nat.le_of_ble_eq_true rfl⟩) (fun r_6 hw => ?_)
      subst hw
      refine W.eq (g2 := F0 m 22 ls [.null]) rfl ?_
      refine lv_astoreN (lv' := [(4, .null), (0, .ref x), (1, .int i0), (2, .int i1), (3, .int i2)]) hx hb dX9_exact_22 hl (by decide) rfl (fun ls hl => ?_)
      refine lv_aloadN hx hb dX9_exact_24 (lv_at hl 0 rfl) ?_
      refine lv_ifnonnullN hx hb dX9_exact_26 ?_
      refine lv_aload_n hx hb dX9_exact_29 rfl (lv_at hl 1 rfl) ?_
      refine lv_iconst (v := 2) hx hb dX9_exact_30 (by decide) ?_
      have hPc := hP.sub (ws' := [(x, .inr (9, gF q 0 0 (-1) (-1) b 0 0))]) [0] rfl
      have hKc := hK.sub (tys' := []) [] rfl
      have hDc := hD.sub (ws' := [(x, .inr (9, gF q 0 0 (-1) (-1) b 0 0))]) [0] (by decide) rfl
      have hFc := va_free (wc := [(x, .inr (9, gF q 0 0 (-1) (-1) b 0 0))]) hD hS hA [0] rfl
      refine va_calli (va_runV (As := [.int 2]) (rest := []) ⟨hx, hb, hml, hown, hts⟩ (c_refuse l dC dI x q 0 0 (-1) (-1) b 0 0 H.size 2) (cwV 1 hts mg_X9_exact_X9_refuse_80 rfl rfl rfl (by decide +kernel) ⟨Nat.le_of_ble_eq_true rfl, Nat.le_of_ble_eq_true rfl⟩) ⟨fun a U g mk q => by obtain ⟨q0, q1, qP, qK, qD⟩ := q; exact ⟨q0, q1, qP, va_K.moved (u := U) (U := U.calling g mk a) (Vm.Alike.refl U.vm) qK, qD⟩, va_recv hKc hPc (ci := 9) (q0 := 0) rfl rfl, fun U hU hW => ⟨rfl, by rw [hU], by rw [hU]; exact hPc, va_K.moved hW.alike hKc, hDc.weaken (fun _ _ _ _ => trivial)⟩⟩ rfl rfl hl.1 rfl (lv_room (Nat.le_of_ble_eq_true rfl)) dX9_exact_31 ⟨Nat.le_of_ble_eq_true rfl, Nat.le_of_ble_eq_true rfl⟩) hS (fun q _ h => hFc q h) hFc (fun r_8 u t H1 locs ht hvm hw hB hz1 hk1 hS => ?_)
      exact W.iret hx hb hr (fun t ht hW => ⟨⟨_, (), rfl, hw, trivial⟩, hS.F ht⟩) hS.2.2 dX9_exact_34
    · refine lv_aload_n hx hb dX9_exact_8 rfl (lv_at hl 0 rfl) ?_
      refine lv_iconst (v := 1) hx hb dX9_exact_9 (by decide) ?_
      have hPc := hP.sub (ws' := [(x, .inr (9, gF q 0 0 (-1) (-1) b 0 0))]) [0] rfl
      have hKc := hK.sub (tys' := []) [] rfl
      have hDc := hD.sub (ws' := [(x, .inr (9, gF q 0 0 (-1) (-1) b 0 0))]) [0] (by decide) rfl
      have hFc := va_free (wc := [(x, .inr (9, gF q 0 0 (-1) (-1) b 0 0))]) hD hS hA [0] rfl
      refine va_calli (va_runV (As := [.int 1]) (rest := []) ⟨hx, hb, hml, hown, hts⟩ (c_refuse l dC dI x q 0 0 (-1) (-1) b 0 0 H.size 1) (cwV 1 hts mg_X9_exact_X9_refuse_80 rfl rfl rfl (by decide +kernel) ⟨Nat.le_of_ble_eq_true rfl, Nat.le_of_ble_eq_true rfl⟩) ⟨fun a U g mk q => by obtain ⟨q0, q1, qP, qK, qD⟩ := q; exact ⟨q0, q1, qP, va_K.moved (u := U) (U := U.calling g mk a) (Vm.Alike.refl U.vm) qK, qD⟩, va_recv hKc hPc (ci := 9) (q0 := 0) rfl rfl, fun U hU hW => ⟨rfl, by rw [hU], by rw [hU]; exact hPc, va_K.moved hW.alike hKc, hDc.weaken (fun _ _ _ _ => trivial)⟩⟩ rfl rfl hl.1 rfl (lv_room (Nat.le_of_ble_eq_true rfl)) dX9_exact_10 ⟨Nat.le_of_ble_eq_true rfl, Nat.le_of_ble_eq_true rfl⟩) hS (fun q _ h => hFc q h) hFc (fun r_10 u t H1 locs ht hvm hw hB hz1 hk1 hS => ?_)
      exact W.iret hx hb hr (fun t ht hW => ⟨⟨_, (), rfl, hw, trivial⟩, hS.F ht⟩) hS.2.2 dX9_exact_13
theorem dX9_need_0 : decode cX9_need 0 = .ok (.iload_n 2, 1) := by decide +kernel
theorem dX9_need_1 : decode cX9_need 1 = .ok (.ifCond .lt 7, 3) := by decide +kernel
theorem dX9_need_4 : decode cX9_need 4 = .ok (.iload_n 3, 1) := by decide +kernel
theorem dX9_need_5 : decode cX9_need 5 = .ok (.ifCond .ge 9, 3) := by decide +kernel
theorem dX9_need_8 : decode cX9_need 8 = .ok (.aload_n 0, 1) := by decide +kernel
theorem dX9_need_9 : decode cX9_need 9 = .ok (.iconst 1, 1) := by decide +kernel
theorem dX9_need_10 : decode cX9_need 10 = .ok (.invokevirtual 80, 3) := by decide +kernel
theorem dX9_need_13 : decode cX9_need 13 = .ok (.ireturn, 1) := by decide +kernel
theorem dX9_need_14 : decode cX9_need 14 = .ok (.aload_n 0, 1) := by decide +kernel
theorem dX9_need_15 : decode cX9_need 15 = .ok (.getfield 29, 3) := by decide +kernel
theorem dX9_need_18 : decode cX9_need 18 = .ok (.iload_n 1, 1) := by decide +kernel
theorem dX9_need_19 : decode cX9_need 19 = .ok (.invokevirtual 140, 3) := by decide +kernel
theorem dX9_need_22 : decode cX9_need 22 = .ok (.astore 4, 2) := by decide +kernel
theorem dX9_need_24 : decode cX9_need 24 = .ok (.aload 4, 2) := by decide +kernel
theorem dX9_need_26 : decode cX9_need 26 = .ok (.ifnonnull 9, 3) := by decide +kernel
theorem dX9_need_29 : decode cX9_need 29 = .ok (.aload_n 0, 1) := by decide +kernel
theorem dX9_need_30 : decode cX9_need 30 = .ok (.iconst 2, 1) := by decide +kernel
theorem dX9_need_31 : decode cX9_need 31 = .ok (.invokevirtual 80, 3) := by decide +kernel
theorem dX9_need_34 : decode cX9_need 34 = .ok (.ireturn, 1) := by decide +kernel
def mwX9_need : List Cond := .code yX9_need cX9_need 5 (some .int) :: ([.code yX9_refuse cX9_refuse 2 (some .int), .fieldLink RX9 70 "PatternGate" "lastStatus" "I", .methodLink RX9 80 yX9_refuse, .instanceMethod yX9_refuse, .selects RX9 yX9_refuse yX9_refuse, .initialized RX9, .fieldLink RX9 29 "PatternGate" "book" "LPatternGate$Book;", .code yX0_patternAt cX0_patternAt 2 (some (.object "PatternGate$Pattern")), .fieldLink RX0 13 "PatternGate$Book" "patterns" "[LPatternGate$Pattern;", .methodLink RX9 140 yX0_patternAt, .instanceMethod yX0_patternAt, .selects RX0 yX0_patternAt yX0_patternAt, .initialized RX0] ++ wsX90 ++ wsX00)
theorem fin_X9_need_X9 : ∀ w ∈ wsX90, w ∈ mwX9_need := fun w h => List.mem_cons_of_mem _ (List.mem_append_left _ (List.mem_append_right _ h))
set_option maxRecDepth 20000 in
theorem mg_X9_need_X9_refuse_80 : GoodIn mwX9_need (wsV RX9 80 RX9 yX9_refuse mwX9_refuse) := goodIn_r _ [3, 4, 5, 6, 1, 2, 14, 15, 16, 17, 18, 19, 20, 21, 22, 23, 24, 25, 26, 27, 28, 29] (by decide +kernel) (by decide +kernel)
set_option maxRecDepth 20000 in
theorem mg_X9_need_X0_patternAt_140 : GoodIn mwX9_need (wsV RX9 140 RX0 yX0_patternAt mwX0_patternAt) := goodIn_r _ [10, 11, 12, 13, 8, 9, 30, 31, 32] (by decide +kernel) (by decide +kernel)
set_option maxHeartbeats 4000000 in
set_option maxRecDepth 100000 in
/-- need on a new object -/
theorem c_need (l : Launch) (dC : Nat → ClassId) (dI : Nat → Nat → Nat) (x : Nat) (q : Nat → Nat) (b d0 p0 : Nat) (cT cD cP cB cU : ClassId) (r : Nat → Nat) (sz : Nat) (i0 i1 i2 : Int32) : Met l yX9_need mwX9_need ({ frames := 1, cells := 0, slots := 0, locals := 60 }) (va_Pc [.ref x, .int i0, .int i1, .int i2] (fun U => U.heap.size = sz ∧ va_P (dC, dI) vwCl (gW x q b d0 p0 cT cD cP cB cU r) U.heap ∧ va_K (dC, dI) vwCl (gT cT cD cP cB cU) U ∧ va_D (fun _ => True) (gW x q b d0 p0 cT cD cP cB cU r))) (va_Qi (fun (o : Int32) (_ : Unit) => o = (-1)) (fun _ _ => True) (va_A (gW x q b d0 p0 cT cD cP cB cU r) sz)) 0 0 (va_A (gW x q b d0 p0 cT cD cP cB cU r) sz) := by
  refine Met.ofW (cc := cX9_need) (maxL := 5) (ret := (some .int)) (by decide +kernel) rfl ?_
  intro p e s m args below meth c s₁ B hml hv
  obtain ⟨rfl, hsz, hP, hK, hD0⟩ := hv
  have hx := B.exec
  have hb := B.bytes
  have hr := B.returns
  have hts := atoms_spec (ws := mwX9_need) B.pre
  have hown : s.vm.findClass RX9 = some m.cls := findClass_of_methodNamed B.named
  have hlocks := B.notSynchronized
  subst hsz
  have hD := hD0.self (sz := s.heap.size)
  generalize hAe : va_A (gW x q b d0 p0 cT cD cP cB cU r) s.heap.size = A at hD ⊢
  have hA : ∀ q : Nat, s.heap.size ≤ q → A q := fun q h => by rw [← hAe]; exact Or.inr h
  have hP : va_P (dC, dI) vwCl [(x, .inr (9, gF q 0 0 (-1) (-1) b 0 0)), (q 0, .inl (cT, 900, .inl (fun _ => 0))), (b, .inr (0, [.ref d0, .ref p0, .null])), (d0, .inl (cD, 0, .inr (.inr (.inr (.inr (fun _ => none)))))), (p0, .inl (cP, 0, .inr (.inr (.inr (.inr (fun _ => none)))))), (q 1, .inl (cB, 3, .inr (.inr (.inr (.inr (fun _ => none)))))), (q 2, .inl (cU, 3, .inl (fun _ => 0))), (q 3, .inr (6, rF r 0 0 0 0 0 0 0 0))] s.heap := hP
  have hD : va_D A [(x, .inr (9, gF q 0 0 (-1) (-1) b 0 0)), (q 0, .inl (cT, 900, .inl (fun _ => 0))), (b, .inr (0, [.ref d0, .ref p0, .null])), (d0, .inl (cD, 0, .inr (.inr (.inr (.inr (fun _ => none)))))), (p0, .inl (cP, 0, .inr (.inr (.inr (.inr (fun _ => none)))))), (q 1, .inl (cB, 3, .inr (.inr (.inr (.inr (fun _ => none)))))), (q 2, .inl (cU, 3, .inl (fun _ => 0))), (q 3, .inr (6, rF r 0 0 0 0 0 0 0 0))] := hD
  have hK : va_K (dC, dI) vwCl [(cT, .int), (cD, .object "PatternGate$Doc"), (cP, .object "PatternGate$Pattern"), (cB, .object "PatternGate$Book"), (cU, .int)] s := hK
  generalize hH : s.heap = H at hP ⊢
  have hS : va_S A s.heap H [] := by rw [← hH]; exact va_S.rf
  have hl := lv_entry ([.ref x, .int i0, .int i1, .int i2]) (n := 5) (Nat.le_of_ble_eq_true rfl)
  rw [lg_entry_eq]
  generalize (lg_sl ([.ref x, .int i0, .int i1, .int i2]) ++ List.replicate (5 - (lg_sl ([.ref x, .int i0, .int i1, .int i2])).length) Slot.unset).toArray = ls at hl ⊢
  have hl : lv_has ls 5 [(0, .ref x), (1, .int i0), (2, .int i1), (3, .int i2)] := hl
  refine lv_iload_n hx hb dX9_need_0 rfl (lv_at hl 2 rfl) ?_
  refine lv_if_lt (tgt := 8) hx hb dX9_need_1 (by decide) (fun k_1 => ?_) (fun k_1 => ?_)
  · refine lv_aload_n hx hb dX9_need_8 rfl (lv_at hl 0 rfl) ?_
    refine lv_iconst (v := 1) hx hb dX9_need_9 (by decide) ?_
    have hPc := hP.sub (ws' := [(x, .inr (9, gF q 0 0 (-1) (-1) b 0 0))]) [0] rfl
    have hKc := hK.sub (tys' := []) [] rfl
    have hDc := hD.sub (ws' := [(x, .inr (9, gF q 0 0 (-1) (-1) b 0 0))]) [0] (by decide) rfl
    have hFc := va_free (wc := [(x, .inr (9, gF q 0 0 (-1) (-1) b 0 0))]) hD hS hA [0] rfl
    refine va_calli (va_runV (As := [.int 1]) (rest := []) ⟨hx, hb, hml, hown, hts⟩ (c_refuse l dC dI x q 0 0 (-1) (-1) b 0 0 H.size 1) (cwV 1 hts mg_X9_need_X9_refuse_80 rfl rfl rfl (by decide +kernel) ⟨Nat.le_of_ble_eq_true rfl, Nat.le_of_ble_eq_true rfl⟩) ⟨fun a U g mk q => by obtain ⟨q0, q1, qP, qK, qD⟩ := q; exact ⟨q0, q1, qP, va_K.moved (u := U) (U := U.calling g mk a) (Vm.Alike.refl U.vm) qK, qD⟩, va_recv hKc hPc (ci := 9) (q0 := 0) rfl rfl, fun U hU hW => ⟨rfl, by rw [hU], by rw [hU]; exact hPc, va_K.moved hW.alike hKc, hDc.weaken (fun _ _ _ _ => trivial)⟩⟩ rfl rfl hl.1 rfl (lv_room (Nat.le_of_ble_eq_true rfl)) dX9_need_10 ⟨Nat.le_of_ble_eq_true rfl, Nat.le_of_ble_eq_true rfl⟩) hS (fun q _ h => hFc q h) hFc (fun r_3 u t H1 locs ht hvm hw hB hz1 hk1 hS => ?_)
    exact W.iret hx hb hr (fun t ht hW => ⟨⟨_, (), rfl, hw, trivial⟩, hS.F ht⟩) hS.2.2 dX9_need_13
  · refine lv_iload_n hx hb dX9_need_4 rfl (lv_at hl 3 rfl) ?_
    refine lv_if_ge (tgt := 14) hx hb dX9_need_5 (by decide) (fun k_4 => ?_) (fun k_4 => ?_)
    · refine lv_aload_n hx hb dX9_need_14 rfl (lv_at hl 0 rfl) ?_
      refine va_get (D := (dC, dI)) (ci := 9) (v := .ref b) (C := RX9) (T := TX9) (N := 16) hx hb hts fin_X9_need_X9 hown hK hP 0 rfl rfl 5 (by decide) (hts (.fieldLink RX9 29 "PatternGate" "book" "LPatternGate$Book;") (List.mem_of_getElem? (i := 7) (by decide +kernel))) (fun _ h9 => h9) rfl dX9_need_15 ?_
      refine lv_iload_n hx hb dX9_need_18 rfl (lv_at hl 1 rfl) ?_
      have hPc := hP.sub (ws' := [(b, .inr (0, [.ref d0, .ref p0, .null])), (d0, .inl (cD, 0, .inr (.inr (.inr (.inr (fun _ => none)))))), (p0, .inl (cP, 0, .inr (.inr (.inr (.inr (fun _ => none))))))]) [2, 3, 4] rfl
      have hKc := hK.sub (tys' := [(cD, .object "PatternGate$Doc"), (cP, .object "PatternGate$Pattern")]) [1, 2] rfl
      refine va_csq (W.runV (As := [.int i0]) (rest := []) ⟨hx, hb, hml, hown, hts⟩ (c_patternAt l dC dI b d0 p0 cD cP i0) (cwV 1 hts mg_X9_need_X0_patternAt_140 rfl rfl rfl (by decide +kernel) ⟨Nat.le_of_ble_eq_true rfl, Nat.le_of_ble_eq_true rfl⟩) ⟨fun a U g mk q => by obtain ⟨q0, qP, qK⟩ := q; exact ⟨q0, qP, va_K.moved (u := U) (U := U.calling g mk a) (Vm.Alike.refl U.vm) qK⟩, va_recv hKc hPc (ci := 0) (q0 := 0) rfl rfl, fun U hU hW => ⟨rfl, by rw [hU]; exact hPc, va_K.moved hW.alike hKc⟩⟩ rfl rfl hl.1 rfl (lv_room (Nat.le_of_ble_eq_true rfl)) dX9_need_19 ⟨Nat.le_of_ble_eq_true rfl, Nat.le_of_ble_eq_true rfl⟩) (fun r_6 hw => ?_)
      subst hw
      refine W.eq (g2 := F0 m 22 ls [.null]) rfl ?_
      refine lv_astoreN (lv' := [(4, .null), (0, .ref x), (1, .int i0), (2, .int i1), (3, .int i2)]) hx hb dX9_need_22 hl (by decide) rfl (fun ls hl => ?_)
      refine lv_aloadN hx hb dX9_need_24 (lv_at hl 0 rfl) ?_
      refine lv_ifnonnullN hx hb dX9_need_26 ?_
      refine lv_aload_n hx hb dX9_need_29 rfl (lv_at hl 1 rfl) ?_
      refine lv_iconst (v := 2) hx hb dX9_need_30 (by decide) ?_
      have hPc := hP.sub (ws' := [(x, .inr (9, gF q 0 0 (-1) (-1) b 0 0))]) [0] rfl
      have hKc := hK.sub (tys' := []) [] rfl
      have hDc := hD.sub (ws' := [(x, .inr (9, gF q 0 0 (-1) (-1) b 0 0))]) [0] (by decide) rfl
      have hFc := va_free (wc := [(x, .inr (9, gF q 0 0 (-1) (-1) b 0 0))]) hD hS hA [0] rfl
      refine va_calli (va_runV (As := [.int 2]) (rest := []) ⟨hx, hb, hml, hown, hts⟩ (c_refuse l dC dI x q 0 0 (-1) (-1) b 0 0 H.size 2) (cwV 1 hts mg_X9_need_X9_refuse_80 rfl rfl rfl (by decide +kernel) ⟨Nat.le_of_ble_eq_true rfl, Nat.le_of_ble_eq_true rfl⟩) ⟨fun a U g mk q => by obtain ⟨q0, q1, qP, qK, qD⟩ := q; exact ⟨q0, q1, qP, va_K.moved (u := U) (U := U.calling g mk a) (Vm.Alike.refl U.vm) qK, qD⟩, va_recv hKc hPc (ci := 9) (q0 := 0) rfl rfl, fun U hU hW => ⟨rfl, by rw [hU], by rw [hU]; exact hPc, va_K.moved hW.alike hKc, hDc.weaken (fun _ _ _ _ => trivial)⟩⟩ rfl rfl hl.1 rfl (lv_room (Nat.le_of_ble_eq_true rfl)) dX9_need_31 ⟨Nat.le_of_ble_eq_true rfl, Nat.le_of_ble_eq_true rfl⟩) hS (fun q _ h => hFc q h) hFc (fun r_8 u t H1 locs ht hvm hw hB hz1 hk1 hS => ?_)
      exact W.iret hx hb hr (fun t ht hW => ⟨⟨_, (), rfl, hw, trivial⟩, hS.F ht⟩) hS.2.2 dX9_need_34
    · refine lv_aload_n hx hb dX9_need_8 rfl (lv_at hl 0 rfl) ?_
      refine lv_iconst (v := 1) hx hb dX9_need_9 (by decide) ?_
      have hPc := hP.sub (ws' := [(x, .inr (9, gF q 0 0 (-1) (-1) b 0 0))]) [0] rfl
      have hKc := hK.sub (tys' := []) [] rfl
      have hDc := hD.sub (ws' := [(x, .inr (9, gF q 0 0 (-1) (-1) b 0 0))]) [0] (by decide) rfl
      have hFc := va_free (wc := [(x, .inr (9, gF q 0 0 (-1) (-1) b 0 0))]) hD hS hA [0] rfl
      refine va_calli (va_runV (As := [.int 1]) (rest := []) ⟨hx, hb, hml, hown, hts⟩ (c_refuse l dC dI x q 0 0 (-1) (-1) b 0 0 H.size 1) (cwV 1 hts mg_X9_need_X9_refuse_80 rfl rfl rfl (by decide +kernel) ⟨Nat.le_of_ble_eq_true rfl, Nat.le_of_ble_eq_true rfl⟩) ⟨fun a U g mk q => by obtain ⟨q0, q1, qP, qK, qD⟩ := q; exact ⟨q0, q1, qP, va_K.moved (u := U) (U := U.calling g mk a) (Vm.Alike.refl U.vm) qK, qD⟩, va_recv hKc hPc (ci := 9) (q0 := 0) rfl rfl, fun U hU hW => ⟨rfl, by rw [hU], by rw [hU]; exact hPc, va_K.moved hW.alike hKc, hDc.weaken (fun _ _ _ _ => trivial)⟩⟩ rfl rfl hl.1 rfl (lv_room (Nat.le_of_ble_eq_true rfl)) dX9_need_10 ⟨Nat.le_of_ble_eq_true rfl, Nat.le_of_ble_eq_true rfl⟩) hS (fun q _ h => hFc q h) hFc (fun r_10 u t H1 locs ht hvm hw hB hz1 hk1 hS => ?_)
      exact W.iret hx hb hr (fun t ht hW => ⟨⟨_, (), rfl, hw, trivial⟩, hS.F ht⟩) hS.2.2 dX9_need_13
theorem dX9_often_0 : decode cX9_often 0 = .ok (.iload_n 2, 1) := by decide +kernel
theorem dX9_often_1 : decode cX9_often 1 = .ok (.invokestatic 190, 3) := by decide +kernel
theorem dX9_often_4 : decode cX9_often 4 = .ok (.ifCond .ne 9, 3) := by decide +kernel
theorem dX9_often_7 : decode cX9_often 7 = .ok (.aload_n 0, 1) := by decide +kernel
theorem dX9_often_8 : decode cX9_often 8 = .ok (.iconst 1, 1) := by decide +kernel
theorem dX9_often_9 : decode cX9_often 9 = .ok (.invokevirtual 80, 3) := by decide +kernel
theorem dX9_often_12 : decode cX9_often 12 = .ok (.ireturn, 1) := by decide +kernel
theorem dX9_often_13 : decode cX9_often 13 = .ok (.aload_n 0, 1) := by decide +kernel
theorem dX9_often_14 : decode cX9_often 14 = .ok (.getfield 29, 3) := by decide +kernel
theorem dX9_often_17 : decode cX9_often 17 = .ok (.iload_n 1, 1) := by decide +kernel
theorem dX9_often_18 : decode cX9_often 18 = .ok (.invokevirtual 123, 3) := by decide +kernel
theorem dX9_often_21 : decode cX9_often 21 = .ok (.astore_n 3, 1) := by decide +kernel
theorem dX9_often_22 : decode cX9_often 22 = .ok (.aload_n 3, 1) := by decide +kernel
theorem dX9_often_23 : decode cX9_often 23 = .ok (.ifnonnull 9, 3) := by decide +kernel
theorem dX9_often_26 : decode cX9_often 26 = .ok (.aload_n 0, 1) := by decide +kernel
theorem dX9_often_27 : decode cX9_often 27 = .ok (.iconst 2, 1) := by decide +kernel
theorem dX9_often_28 : decode cX9_often 28 = .ok (.invokevirtual 80, 3) := by decide +kernel
theorem dX9_often_31 : decode cX9_often 31 = .ok (.ireturn, 1) := by decide +kernel
def mwX9_often : List Cond := .code yX9_often cX9_often 4 (some .int) :: ([.code yX9_isTriple cX9_isTriple 1 (some .boolean), .methodLink RX9 190 yX9_isTriple, .static yX9_isTriple, .initialized RX9, .code yX9_refuse cX9_refuse 2 (some .int), .fieldLink RX9 70 "PatternGate" "lastStatus" "I", .methodLink RX9 80 yX9_refuse, .instanceMethod yX9_refuse, .selects RX9 yX9_refuse yX9_refuse, .fieldLink RX9 29 "PatternGate" "book" "LPatternGate$Book;", .code yX0_docAt cX0_docAt 2 (some (.object "PatternGate$Doc")), .fieldLink RX0 7 "PatternGate$Book" "docs" "[LPatternGate$Doc;", .methodLink RX9 123 yX0_docAt, .instanceMethod yX0_docAt, .selects RX0 yX0_docAt yX0_docAt, .initialized RX0] ++ wsX90 ++ wsX00)
theorem fin_X9_often_X9 : ∀ w ∈ wsX90, w ∈ mwX9_often := fun w h => List.mem_cons_of_mem _ (List.mem_append_left _ (List.mem_append_right _ h))
set_option maxRecDepth 20000 in
theorem mg_X9_often_X9_isTriple_190 : GoodIn mwX9_often (va_wsS RX9 190 yX9_isTriple mwX9_isTriple) := goodIn_r _ [2, 3, 4, 1] (by decide +kernel) (by decide +kernel)
set_option maxRecDepth 20000 in
theorem mg_X9_often_X9_refuse_80 : GoodIn mwX9_often (wsV RX9 80 RX9 yX9_refuse mwX9_refuse) := goodIn_r _ [7, 8, 9, 4, 5, 6, 17, 18, 19, 20, 21, 22, 23, 24, 25, 26, 27, 28, 29, 30, 31, 32] (by decide +kernel) (by decide +kernel)
set_option maxRecDepth 20000 in
theorem mg_X9_often_X0_docAt_123 : GoodIn mwX9_often (wsV RX9 123 RX0 yX0_docAt mwX0_docAt) := goodIn_r _ [13, 14, 15, 16, 11, 12, 33, 34, 35] (by decide +kernel) (by decide +kernel)
set_option maxHeartbeats 4000000 in
set_option maxRecDepth 100000 in
/-- often on a new object -/
theorem c_often (l : Launch) (dC : Nat → ClassId) (dI : Nat → Nat → Nat) (x : Nat) (q : Nat → Nat) (b d0 p0 : Nat) (cT cD cP cB cU : ClassId) (r : Nat → Nat) (sz : Nat) (i0 i1 : Int32) : Met l yX9_often mwX9_often ({ frames := 1, cells := 0, slots := 0, locals := 60 }) (va_Pc [.ref x, .int i0, .int i1] (fun U => U.heap.size = sz ∧ va_P (dC, dI) vwCl (gW x q b d0 p0 cT cD cP cB cU r) U.heap ∧ va_K (dC, dI) vwCl (gT cT cD cP cB cU) U ∧ va_D (fun _ => True) (gW x q b d0 p0 cT cD cP cB cU r))) (va_Qi (fun (o : Int32) (_ : Unit) => o = (-1)) (fun _ _ => True) (va_A (gW x q b d0 p0 cT cD cP cB cU r) sz)) 0 0 (va_A (gW x q b d0 p0 cT cD cP cB cU r) sz) := by
  refine Met.ofW (cc := cX9_often) (maxL := 4) (ret := (some .int)) (by decide +kernel) rfl ?_
  intro p e s m args below meth c s₁ B hml hv
  obtain ⟨rfl, hsz, hP, hK, hD0⟩ := hv
  have hx := B.exec
  have hb := B.bytes
  have hr := B.returns
  have hts := atoms_spec (ws := mwX9_often) B.pre
  have hown : s.vm.findClass RX9 = some m.cls := findClass_of_methodNamed B.named
  have hlocks := B.notSynchronized
  subst hsz
  have hD := hD0.self (sz := s.heap.size)
  generalize hAe : va_A (gW x q b d0 p0 cT cD cP cB cU r) s.heap.size = A at hD ⊢
  have hA : ∀ q : Nat, s.heap.size ≤ q → A q := fun q h => by rw [← hAe]; exact Or.inr h
  have hP : va_P (dC, dI) vwCl [(x, .inr (9, gF q 0 0 (-1) (-1) b 0 0)), (q 0, .inl (cT, 900, .inl (fun _ => 0))), (b, .inr (0, [.ref d0, .ref p0, .null])), (d0, .inl (cD, 0, .inr (.inr (.inr (.inr (fun _ => none)))))), (p0, .inl (cP, 0, .inr (.inr (.inr (.inr (fun _ => none)))))), (q 1, .inl (cB, 3, .inr (.inr (.inr (.inr (fun _ => none)))))), (q 2, .inl (cU, 3, .inl (fun _ => 0))), (q 3, .inr (6, rF r 0 0 0 0 0 0 0 0))] s.heap := hP
  have hD : va_D A [(x, .inr (9, gF q 0 0 (-1) (-1) b 0 0)), (q 0, .inl (cT, 900, .inl (fun _ => 0))), (b, .inr (0, [.ref d0, .ref p0, .null])), (d0, .inl (cD, 0, .inr (.inr (.inr (.inr (fun _ => none)))))), (p0, .inl (cP, 0, .inr (.inr (.inr (.inr (fun _ => none)))))), (q 1, .inl (cB, 3, .inr (.inr (.inr (.inr (fun _ => none)))))), (q 2, .inl (cU, 3, .inl (fun _ => 0))), (q 3, .inr (6, rF r 0 0 0 0 0 0 0 0))] := hD
  have hK : va_K (dC, dI) vwCl [(cT, .int), (cD, .object "PatternGate$Doc"), (cP, .object "PatternGate$Pattern"), (cB, .object "PatternGate$Book"), (cU, .int)] s := hK
  generalize hH : s.heap = H at hP ⊢
  have hS : va_S A s.heap H [] := by rw [← hH]; exact va_S.rf
  have hl := lv_entry ([.ref x, .int i0, .int i1]) (n := 4) (Nat.le_of_ble_eq_true rfl)
  rw [lg_entry_eq]
  generalize (lg_sl ([.ref x, .int i0, .int i1]) ++ List.replicate (4 - (lg_sl ([.ref x, .int i0, .int i1])).length) Slot.unset).toArray = ls at hl ⊢
  have hl : lv_has ls 4 [(0, .ref x), (1, .int i0), (2, .int i1)] := hl
  refine lv_iload_n hx hb dX9_often_0 rfl (lv_at hl 2 rfl) ?_
  refine vp_callSi (W.runS (As := [.int i1]) (rest := []) ⟨hx, hb, hml, hown, hts⟩ (c_isTriple l dC dI i1) (va_cwS 1 hts mg_X9_often_X9_isTriple_190 rfl rfl rfl (by decide +kernel) ⟨Nat.le_of_ble_eq_true rfl, Nat.le_of_ble_eq_true rfl⟩) ⟨fun a U g mk q => ⟨q.1, trivial⟩, fun U hU hW => ⟨rfl, trivial⟩⟩ rfl rfl hl.1 rfl (lv_room (Nat.le_of_ble_eq_true rfl)) dX9_often_1 ⟨Nat.le_of_ble_eq_true rfl, Nat.le_of_ble_eq_true rfl⟩) (fun r_2 hw => ?_)
  rcases hw with rfl | rfl
  · refine lv_if_ne (tgt := 13) hx hb dX9_often_4 (by decide) (fun k_3 => absurd (by decide) k_3) (fun k_3 => ?_)
    refine lv_aload_n hx hb dX9_often_7 rfl (lv_at hl 0 rfl) ?_
    refine lv_iconst (v := 1) hx hb dX9_often_8 (by decide) ?_
    have hPc := hP.sub (ws' := [(x, .inr (9, gF q 0 0 (-1) (-1) b 0 0))]) [0] rfl
    have hKc := hK.sub (tys' := []) [] rfl
    have hDc := hD.sub (ws' := [(x, .inr (9, gF q 0 0 (-1) (-1) b 0 0))]) [0] (by decide) rfl
    have hFc := va_free (wc := [(x, .inr (9, gF q 0 0 (-1) (-1) b 0 0))]) hD hS hA [0] rfl
    refine va_calli (va_runV (As := [.int 1]) (rest := []) ⟨hx, hb, hml, hown, hts⟩ (c_refuse l dC dI x q 0 0 (-1) (-1) b 0 0 H.size 1) (cwV 1 hts mg_X9_often_X9_refuse_80 rfl rfl rfl (by decide +kernel) ⟨Nat.le_of_ble_eq_true rfl, Nat.le_of_ble_eq_true rfl⟩) ⟨fun a U g mk q => by obtain ⟨q0, q1, qP, qK, qD⟩ := q; exact ⟨q0, q1, qP, va_K.moved (u := U) (U := U.calling g mk a) (Vm.Alike.refl U.vm) qK, qD⟩, va_recv hKc hPc (ci := 9) (q0 := 0) rfl rfl, fun U hU hW => ⟨rfl, by rw [hU], by rw [hU]; exact hPc, va_K.moved hW.alike hKc, hDc.weaken (fun _ _ _ _ => trivial)⟩⟩ rfl rfl hl.1 rfl (lv_room (Nat.le_of_ble_eq_true rfl)) dX9_often_9 ⟨Nat.le_of_ble_eq_true rfl, Nat.le_of_ble_eq_true rfl⟩) hS (fun q _ h => hFc q h) hFc (fun r_5 u t H1 locs ht hvm hw hB hz1 hk1 hS => ?_)
    exact W.iret hx hb hr (fun t ht hW => ⟨⟨_, (), rfl, hw, trivial⟩, hS.F ht⟩) hS.2.2 dX9_often_12
  · refine lv_if_ne (tgt := 13) hx hb dX9_often_4 (by decide) (fun k_6 => ?_) (fun k_6 => absurd k_6 (by decide))
    refine lv_aload_n hx hb dX9_often_13 rfl (lv_at hl 0 rfl) ?_
    refine va_get (D := (dC, dI)) (ci := 9) (v := .ref b) (C := RX9) (T := TX9) (N := 16) hx hb hts fin_X9_often_X9 hown hK hP 0 rfl rfl 5 (by decide) (hts (.fieldLink RX9 29 "PatternGate" "book" "LPatternGate$Book;") (List.mem_of_getElem? (i := 10) (by decide +kernel))) (fun _ h9 => h9) rfl dX9_often_14 ?_
    refine lv_iload_n hx hb dX9_often_17 rfl (lv_at hl 1 rfl) ?_
    have hPc := hP.sub (ws' := [(b, .inr (0, [.ref d0, .ref p0, .null])), (d0, .inl (cD, 0, .inr (.inr (.inr (.inr (fun _ => none)))))), (p0, .inl (cP, 0, .inr (.inr (.inr (.inr (fun _ => none))))))]) [2, 3, 4] rfl
    have hKc := hK.sub (tys' := [(cD, .object "PatternGate$Doc"), (cP, .object "PatternGate$Pattern")]) [1, 2] rfl
    refine va_csq (W.runV (As := [.int i0]) (rest := []) ⟨hx, hb, hml, hown, hts⟩ (c_docAt l dC dI b d0 p0 cD cP i0) (cwV 1 hts mg_X9_often_X0_docAt_123 rfl rfl rfl (by decide +kernel) ⟨Nat.le_of_ble_eq_true rfl, Nat.le_of_ble_eq_true rfl⟩) ⟨fun a U g mk q => by obtain ⟨q0, qP, qK⟩ := q; exact ⟨q0, qP, va_K.moved (u := U) (U := U.calling g mk a) (Vm.Alike.refl U.vm) qK⟩, va_recv hKc hPc (ci := 0) (q0 := 0) rfl rfl, fun U hU hW => ⟨rfl, by rw [hU]; exact hPc, va_K.moved hW.alike hKc⟩⟩ rfl rfl hl.1 rfl (lv_room (Nat.le_of_ble_eq_true rfl)) dX9_often_18 ⟨Nat.le_of_ble_eq_true rfl, Nat.le_of_ble_eq_true rfl⟩) (fun r_8 hw => ?_)
    subst hw
    refine W.eq (g2 := F0 m 21 ls [.null]) rfl ?_
    refine lv_astore_nN (lv' := [(3, .null), (0, .ref x), (1, .int i0), (2, .int i1)]) hx hb dX9_often_21 rfl hl (by decide) rfl (fun ls hl => ?_)
    refine lv_aload_nN hx hb dX9_often_22 rfl (lv_at hl 0 rfl) ?_
    refine lv_ifnonnullN hx hb dX9_often_23 ?_
    refine lv_aload_n hx hb dX9_often_26 rfl (lv_at hl 1 rfl) ?_
    refine lv_iconst (v := 2) hx hb dX9_often_27 (by decide) ?_
    have hPc := hP.sub (ws' := [(x, .inr (9, gF q 0 0 (-1) (-1) b 0 0))]) [0] rfl
    have hKc := hK.sub (tys' := []) [] rfl
    have hDc := hD.sub (ws' := [(x, .inr (9, gF q 0 0 (-1) (-1) b 0 0))]) [0] (by decide) rfl
    have hFc := va_free (wc := [(x, .inr (9, gF q 0 0 (-1) (-1) b 0 0))]) hD hS hA [0] rfl
    refine va_calli (va_runV (As := [.int 2]) (rest := []) ⟨hx, hb, hml, hown, hts⟩ (c_refuse l dC dI x q 0 0 (-1) (-1) b 0 0 H.size 2) (cwV 1 hts mg_X9_often_X9_refuse_80 rfl rfl rfl (by decide +kernel) ⟨Nat.le_of_ble_eq_true rfl, Nat.le_of_ble_eq_true rfl⟩) ⟨fun a U g mk q => by obtain ⟨q0, q1, qP, qK, qD⟩ := q; exact ⟨q0, q1, qP, va_K.moved (u := U) (U := U.calling g mk a) (Vm.Alike.refl U.vm) qK, qD⟩, va_recv hKc hPc (ci := 9) (q0 := 0) rfl rfl, fun U hU hW => ⟨rfl, by rw [hU], by rw [hU]; exact hPc, va_K.moved hW.alike hKc, hDc.weaken (fun _ _ _ _ => trivial)⟩⟩ rfl rfl hl.1 rfl (lv_room (Nat.le_of_ble_eq_true rfl)) dX9_often_28 ⟨Nat.le_of_ble_eq_true rfl, Nat.le_of_ble_eq_true rfl⟩) hS (fun q _ h => hFc q h) hFc (fun r_10 u t H1 locs ht hvm hw hB hz1 hk1 hS => ?_)
    exact W.iret hx hb hr (fun t ht hW => ⟨⟨_, (), rfl, hw, trivial⟩, hS.F ht⟩) hS.2.2 dX9_often_31
theorem dX9_gate_0 : decode cX9_gate 0 = .ok (.iload_n 2, 1) := by decide +kernel
theorem dX9_gate_1 : decode cX9_gate 1 = .ok (.ifCond .lt 8, 3) := by decide +kernel
theorem dX9_gate_4 : decode cX9_gate 4 = .ok (.iload_n 2, 1) := by decide +kernel
theorem dX9_gate_5 : decode cX9_gate 5 = .ok (.iconst 3, 1) := by decide +kernel
theorem dX9_gate_6 : decode cX9_gate 6 = .ok (.if_icmp .le 9, 3) := by decide +kernel
theorem dX9_gate_9 : decode cX9_gate 9 = .ok (.aload_n 0, 1) := by decide +kernel
theorem dX9_gate_10 : decode cX9_gate 10 = .ok (.iconst 1, 1) := by decide +kernel
theorem dX9_gate_11 : decode cX9_gate 11 = .ok (.invokevirtual 80, 3) := by decide +kernel
theorem dX9_gate_14 : decode cX9_gate 14 = .ok (.ireturn, 1) := by decide +kernel
theorem dX9_gate_15 : decode cX9_gate 15 = .ok (.aload_n 0, 1) := by decide +kernel
theorem dX9_gate_16 : decode cX9_gate 16 = .ok (.getfield 29, 3) := by decide +kernel
theorem dX9_gate_19 : decode cX9_gate 19 = .ok (.iload_n 1, 1) := by decide +kernel
theorem dX9_gate_20 : decode cX9_gate 20 = .ok (.invokevirtual 140, 3) := by decide +kernel
theorem dX9_gate_23 : decode cX9_gate 23 = .ok (.astore_n 3, 1) := by decide +kernel
theorem dX9_gate_24 : decode cX9_gate 24 = .ok (.aload_n 3, 1) := by decide +kernel
theorem dX9_gate_25 : decode cX9_gate 25 = .ok (.ifnonnull 9, 3) := by decide +kernel
theorem dX9_gate_28 : decode cX9_gate 28 = .ok (.aload_n 0, 1) := by decide +kernel
theorem dX9_gate_29 : decode cX9_gate 29 = .ok (.iconst 2, 1) := by decide +kernel
theorem dX9_gate_30 : decode cX9_gate 30 = .ok (.invokevirtual 80, 3) := by decide +kernel
theorem dX9_gate_33 : decode cX9_gate 33 = .ok (.ireturn, 1) := by decide +kernel
def mwX9_gate : List Cond := .code yX9_gate cX9_gate 4 (some .int) :: ([.code yX9_refuse cX9_refuse 2 (some .int), .fieldLink RX9 70 "PatternGate" "lastStatus" "I", .methodLink RX9 80 yX9_refuse, .instanceMethod yX9_refuse, .selects RX9 yX9_refuse yX9_refuse, .initialized RX9, .fieldLink RX9 29 "PatternGate" "book" "LPatternGate$Book;", .code yX0_patternAt cX0_patternAt 2 (some (.object "PatternGate$Pattern")), .fieldLink RX0 13 "PatternGate$Book" "patterns" "[LPatternGate$Pattern;", .methodLink RX9 140 yX0_patternAt, .instanceMethod yX0_patternAt, .selects RX0 yX0_patternAt yX0_patternAt, .initialized RX0] ++ wsX90 ++ wsX00)
theorem fin_X9_gate_X9 : ∀ w ∈ wsX90, w ∈ mwX9_gate := fun w h => List.mem_cons_of_mem _ (List.mem_append_left _ (List.mem_append_right _ h))
set_option maxRecDepth 20000 in
theorem mg_X9_gate_X9_refuse_80 : GoodIn mwX9_gate (wsV RX9 80 RX9 yX9_refuse mwX9_refuse) := goodIn_r _ [3, 4, 5, 6, 1, 2, 14, 15, 16, 17, 18, 19, 20, 21, 22, 23, 24, 25, 26, 27, 28, 29] (by decide +kernel) (by decide +kernel)
set_option maxRecDepth 20000 in
theorem mg_X9_gate_X0_patternAt_140 : GoodIn mwX9_gate (wsV RX9 140 RX0 yX0_patternAt mwX0_patternAt) := goodIn_r _ [10, 11, 12, 13, 8, 9, 30, 31, 32] (by decide +kernel) (by decide +kernel)
set_option maxHeartbeats 4000000 in
set_option maxRecDepth 100000 in
/-- gate on a new object -/
theorem c_gate (l : Launch) (dC : Nat → ClassId) (dI : Nat → Nat → Nat) (x : Nat) (q : Nat → Nat) (b d0 p0 : Nat) (cT cD cP cB cU : ClassId) (r : Nat → Nat) (sz : Nat) (i0 i1 : Int32) : Met l yX9_gate mwX9_gate ({ frames := 1, cells := 0, slots := 0, locals := 60 }) (va_Pc [.ref x, .int i0, .int i1] (fun U => U.heap.size = sz ∧ va_P (dC, dI) vwCl (gW x q b d0 p0 cT cD cP cB cU r) U.heap ∧ va_K (dC, dI) vwCl (gT cT cD cP cB cU) U ∧ va_D (fun _ => True) (gW x q b d0 p0 cT cD cP cB cU r))) (va_Qi (fun (o : Int32) (_ : Unit) => o = (-1)) (fun _ _ => True) (va_A (gW x q b d0 p0 cT cD cP cB cU r) sz)) 0 0 (va_A (gW x q b d0 p0 cT cD cP cB cU r) sz) := by
  refine Met.ofW (cc := cX9_gate) (maxL := 4) (ret := (some .int)) (by decide +kernel) rfl ?_
  intro p e s m args below meth c s₁ B hml hv
  obtain ⟨rfl, hsz, hP, hK, hD0⟩ := hv
  have hx := B.exec
  have hb := B.bytes
  have hr := B.returns
  have hts := atoms_spec (ws := mwX9_gate) B.pre
  have hown : s.vm.findClass RX9 = some m.cls := findClass_of_methodNamed B.named
  have hlocks := B.notSynchronized
  subst hsz
  have hD := hD0.self (sz := s.heap.size)
  generalize hAe : va_A (gW x q b d0 p0 cT cD cP cB cU r) s.heap.size = A at hD ⊢
  have hA : ∀ q : Nat, s.heap.size ≤ q → A q := fun q h => by rw [← hAe]; exact Or.inr h
  have hP : va_P (dC, dI) vwCl [(x, .inr (9, gF q 0 0 (-1) (-1) b 0 0)), (q 0, .inl (cT, 900, .inl (fun _ => 0))), (b, .inr (0, [.ref d0, .ref p0, .null])), (d0, .inl (cD, 0, .inr (.inr (.inr (.inr (fun _ => none)))))), (p0, .inl (cP, 0, .inr (.inr (.inr (.inr (fun _ => none)))))), (q 1, .inl (cB, 3, .inr (.inr (.inr (.inr (fun _ => none)))))), (q 2, .inl (cU, 3, .inl (fun _ => 0))), (q 3, .inr (6, rF r 0 0 0 0 0 0 0 0))] s.heap := hP
  have hD : va_D A [(x, .inr (9, gF q 0 0 (-1) (-1) b 0 0)), (q 0, .inl (cT, 900, .inl (fun _ => 0))), (b, .inr (0, [.ref d0, .ref p0, .null])), (d0, .inl (cD, 0, .inr (.inr (.inr (.inr (fun _ => none)))))), (p0, .inl (cP, 0, .inr (.inr (.inr (.inr (fun _ => none)))))), (q 1, .inl (cB, 3, .inr (.inr (.inr (.inr (fun _ => none)))))), (q 2, .inl (cU, 3, .inl (fun _ => 0))), (q 3, .inr (6, rF r 0 0 0 0 0 0 0 0))] := hD
  have hK : va_K (dC, dI) vwCl [(cT, .int), (cD, .object "PatternGate$Doc"), (cP, .object "PatternGate$Pattern"), (cB, .object "PatternGate$Book"), (cU, .int)] s := hK
  generalize hH : s.heap = H at hP ⊢
  have hS : va_S A s.heap H [] := by rw [← hH]; exact va_S.rf
  have hl := lv_entry ([.ref x, .int i0, .int i1]) (n := 4) (Nat.le_of_ble_eq_true rfl)
  rw [lg_entry_eq]
  generalize (lg_sl ([.ref x, .int i0, .int i1]) ++ List.replicate (4 - (lg_sl ([.ref x, .int i0, .int i1])).length) Slot.unset).toArray = ls at hl ⊢
  have hl : lv_has ls 4 [(0, .ref x), (1, .int i0), (2, .int i1)] := hl
  refine lv_iload_n hx hb dX9_gate_0 rfl (lv_at hl 2 rfl) ?_
  refine lv_if_lt (tgt := 9) hx hb dX9_gate_1 (by decide) (fun k_1 => ?_) (fun k_1 => ?_)
  · refine lv_aload_n hx hb dX9_gate_9 rfl (lv_at hl 0 rfl) ?_
    refine lv_iconst (v := 1) hx hb dX9_gate_10 (by decide) ?_
    have hPc := hP.sub (ws' := [(x, .inr (9, gF q 0 0 (-1) (-1) b 0 0))]) [0] rfl
    have hKc := hK.sub (tys' := []) [] rfl
    have hDc := hD.sub (ws' := [(x, .inr (9, gF q 0 0 (-1) (-1) b 0 0))]) [0] (by decide) rfl
    have hFc := va_free (wc := [(x, .inr (9, gF q 0 0 (-1) (-1) b 0 0))]) hD hS hA [0] rfl
    refine va_calli (va_runV (As := [.int 1]) (rest := []) ⟨hx, hb, hml, hown, hts⟩ (c_refuse l dC dI x q 0 0 (-1) (-1) b 0 0 H.size 1) (cwV 1 hts mg_X9_gate_X9_refuse_80 rfl rfl rfl (by decide +kernel) ⟨Nat.le_of_ble_eq_true rfl, Nat.le_of_ble_eq_true rfl⟩) ⟨fun a U g mk q => by obtain ⟨q0, q1, qP, qK, qD⟩ := q; exact ⟨q0, q1, qP, va_K.moved (u := U) (U := U.calling g mk a) (Vm.Alike.refl U.vm) qK, qD⟩, va_recv hKc hPc (ci := 9) (q0 := 0) rfl rfl, fun U hU hW => ⟨rfl, by rw [hU], by rw [hU]; exact hPc, va_K.moved hW.alike hKc, hDc.weaken (fun _ _ _ _ => trivial)⟩⟩ rfl rfl hl.1 rfl (lv_room (Nat.le_of_ble_eq_true rfl)) dX9_gate_11 ⟨Nat.le_of_ble_eq_true rfl, Nat.le_of_ble_eq_true rfl⟩) hS (fun q _ h => hFc q h) hFc (fun r_3 u t H1 locs ht hvm hw hB hz1 hk1 hS => ?_)
    exact W.iret hx hb hr (fun t ht hW => ⟨⟨_, (), rfl, hw, trivial⟩, hS.F ht⟩) hS.2.2 dX9_gate_14
  · refine lv_iload_n hx hb dX9_gate_4 rfl (lv_at hl 2 rfl) ?_
    refine lv_iconst (v := 3) hx hb dX9_gate_5 (by decide) ?_
    refine lv_icmp_le (tgt := 15) hx hb dX9_gate_6 (by decide) (fun k_4 => ?_) (fun k_4 => ?_)
    · refine lv_aload_n hx hb dX9_gate_15 rfl (lv_at hl 0 rfl) ?_
      refine va_get (D := (dC, dI)) (ci := 9) (v := .ref b) (C := RX9) (T := TX9) (N := 16) hx hb hts fin_X9_gate_X9 hown hK hP 0 rfl rfl 5 (by decide) (hts (.fieldLink RX9 29 "PatternGate" "book" "LPatternGate$Book;") (List.mem_of_getElem? (i := 7) (by decide +kernel))) (fun _ h9 => h9) rfl dX9_gate_16 ?_
      refine lv_iload_n hx hb dX9_gate_19 rfl (lv_at hl 1 rfl) ?_
      have hPc := hP.sub (ws' := [(b, .inr (0, [.ref d0, .ref p0, .null])), (d0, .inl (cD, 0, .inr (.inr (.inr (.inr (fun _ => none)))))), (p0, .inl (cP, 0, .inr (.inr (.inr (.inr (fun _ => none))))))]) [2, 3, 4] rfl
      have hKc := hK.sub (tys' := [(cD, .object "PatternGate$Doc"), (cP, .object "PatternGate$Pattern")]) [1, 2] rfl
      refine va_csq (W.runV (As := [.int i0]) (rest := []) ⟨hx, hb, hml, hown, hts⟩ (c_patternAt l dC dI b d0 p0 cD cP i0) (cwV 1 hts mg_X9_gate_X0_patternAt_140 rfl rfl rfl (by decide +kernel) ⟨Nat.le_of_ble_eq_true rfl, Nat.le_of_ble_eq_true rfl⟩) ⟨fun a U g mk q => by obtain ⟨q0, qP, qK⟩ := q; exact ⟨q0, qP, va_K.moved (u := U) (U := U.calling g mk a) (Vm.Alike.refl U.vm) qK⟩, va_recv hKc hPc (ci := 0) (q0 := 0) rfl rfl, fun U hU hW => ⟨rfl, by rw [hU]; exact hPc, va_K.moved hW.alike hKc⟩⟩ rfl rfl hl.1 rfl (lv_room (Nat.le_of_ble_eq_true rfl)) dX9_gate_20 ⟨Nat.le_of_ble_eq_true rfl, Nat.le_of_ble_eq_true rfl⟩) (fun r_6 hw => ?_)
      subst hw
      refine W.eq (g2 := F0 m 23 ls [.null]) rfl ?_
      refine lv_astore_nN (lv' := [(3, .null), (0, .ref x), (1, .int i0), (2, .int i1)]) hx hb dX9_gate_23 rfl hl (by decide) rfl (fun ls hl => ?_)
      refine lv_aload_nN hx hb dX9_gate_24 rfl (lv_at hl 0 rfl) ?_
      refine lv_ifnonnullN hx hb dX9_gate_25 ?_
      refine lv_aload_n hx hb dX9_gate_28 rfl (lv_at hl 1 rfl) ?_
      refine lv_iconst (v := 2) hx hb dX9_gate_29 (by decide) ?_
      have hPc := hP.sub (ws' := [(x, .inr (9, gF q 0 0 (-1) (-1) b 0 0))]) [0] rfl
      have hKc := hK.sub (tys' := []) [] rfl
      have hDc := hD.sub (ws' := [(x, .inr (9, gF q 0 0 (-1) (-1) b 0 0))]) [0] (by decide) rfl
      have hFc := va_free (wc := [(x, .inr (9, gF q 0 0 (-1) (-1) b 0 0))]) hD hS hA [0] rfl
      refine va_calli (va_runV (As := [.int 2]) (rest := []) ⟨hx, hb, hml, hown, hts⟩ (c_refuse l dC dI x q 0 0 (-1) (-1) b 0 0 H.size 2) (cwV 1 hts mg_X9_gate_X9_refuse_80 rfl rfl rfl (by decide +kernel) ⟨Nat.le_of_ble_eq_true rfl, Nat.le_of_ble_eq_true rfl⟩) ⟨fun a U g mk q => by obtain ⟨q0, q1, qP, qK, qD⟩ := q; exact ⟨q0, q1, qP, va_K.moved (u := U) (U := U.calling g mk a) (Vm.Alike.refl U.vm) qK, qD⟩, va_recv hKc hPc (ci := 9) (q0 := 0) rfl rfl, fun U hU hW => ⟨rfl, by rw [hU], by rw [hU]; exact hPc, va_K.moved hW.alike hKc, hDc.weaken (fun _ _ _ _ => trivial)⟩⟩ rfl rfl hl.1 rfl (lv_room (Nat.le_of_ble_eq_true rfl)) dX9_gate_30 ⟨Nat.le_of_ble_eq_true rfl, Nat.le_of_ble_eq_true rfl⟩) hS (fun q _ h => hFc q h) hFc (fun r_8 u t H1 locs ht hvm hw hB hz1 hk1 hS => ?_)
      exact W.iret hx hb hr (fun t ht hW => ⟨⟨_, (), rfl, hw, trivial⟩, hS.F ht⟩) hS.2.2 dX9_gate_33
    · refine lv_aload_n hx hb dX9_gate_9 rfl (lv_at hl 0 rfl) ?_
      refine lv_iconst (v := 1) hx hb dX9_gate_10 (by decide) ?_
      have hPc := hP.sub (ws' := [(x, .inr (9, gF q 0 0 (-1) (-1) b 0 0))]) [0] rfl
      have hKc := hK.sub (tys' := []) [] rfl
      have hDc := hD.sub (ws' := [(x, .inr (9, gF q 0 0 (-1) (-1) b 0 0))]) [0] (by decide) rfl
      have hFc := va_free (wc := [(x, .inr (9, gF q 0 0 (-1) (-1) b 0 0))]) hD hS hA [0] rfl
      refine va_calli (va_runV (As := [.int 1]) (rest := []) ⟨hx, hb, hml, hown, hts⟩ (c_refuse l dC dI x q 0 0 (-1) (-1) b 0 0 H.size 1) (cwV 1 hts mg_X9_gate_X9_refuse_80 rfl rfl rfl (by decide +kernel) ⟨Nat.le_of_ble_eq_true rfl, Nat.le_of_ble_eq_true rfl⟩) ⟨fun a U g mk q => by obtain ⟨q0, q1, qP, qK, qD⟩ := q; exact ⟨q0, q1, qP, va_K.moved (u := U) (U := U.calling g mk a) (Vm.Alike.refl U.vm) qK, qD⟩, va_recv hKc hPc (ci := 9) (q0 := 0) rfl rfl, fun U hU hW => ⟨rfl, by rw [hU], by rw [hU]; exact hPc, va_K.moved hW.alike hKc, hDc.weaken (fun _ _ _ _ => trivial)⟩⟩ rfl rfl hl.1 rfl (lv_room (Nat.le_of_ble_eq_true rfl)) dX9_gate_11 ⟨Nat.le_of_ble_eq_true rfl, Nat.le_of_ble_eq_true rfl⟩) hS (fun q _ h => hFc q h) hFc (fun r_10 u t H1 locs ht hvm hw hB hz1 hk1 hS => ?_)
      exact W.iret hx hb hr (fun t ht hW => ⟨⟨_, (), rfl, hw, trivial⟩, hS.F ht⟩) hS.2.2 dX9_gate_14
theorem dX9_match_0 : decode cX9_match 0 = .ok (.iload_n 3, 1) := by decide +kernel
theorem dX9_match_1 : decode cX9_match 1 = .ok (.ifCond .lt 8, 3) := by decide +kernel
theorem dX9_match_4 : decode cX9_match 4 = .ok (.iload_n 3, 1) := by decide +kernel
theorem dX9_match_5 : decode cX9_match 5 = .ok (.iconst 2, 1) := by decide +kernel
theorem dX9_match_6 : decode cX9_match 6 = .ok (.if_icmp .le 9, 3) := by decide +kernel
theorem dX9_match_9 : decode cX9_match 9 = .ok (.aload_n 0, 1) := by decide +kernel
theorem dX9_match_10 : decode cX9_match 10 = .ok (.iconst 1, 1) := by decide +kernel
theorem dX9_match_11 : decode cX9_match 11 = .ok (.invokevirtual 80, 3) := by decide +kernel
theorem dX9_match_14 : decode cX9_match 14 = .ok (.ireturn, 1) := by decide +kernel
theorem dX9_match_15 : decode cX9_match 15 = .ok (.aload_n 0, 1) := by decide +kernel
theorem dX9_match_16 : decode cX9_match 16 = .ok (.getfield 29, 3) := by decide +kernel
theorem dX9_match_19 : decode cX9_match 19 = .ok (.iload_n 1, 1) := by decide +kernel
theorem dX9_match_20 : decode cX9_match 20 = .ok (.invokevirtual 140, 3) := by decide +kernel
theorem dX9_match_23 : decode cX9_match 23 = .ok (.astore 4, 2) := by decide +kernel
theorem dX9_match_25 : decode cX9_match 25 = .ok (.aload_n 0, 1) := by decide +kernel
theorem dX9_match_26 : decode cX9_match 26 = .ok (.getfield 29, 3) := by decide +kernel
theorem dX9_match_29 : decode cX9_match 29 = .ok (.iload_n 2, 1) := by decide +kernel
theorem dX9_match_30 : decode cX9_match 30 = .ok (.invokevirtual 123, 3) := by decide +kernel
theorem dX9_match_33 : decode cX9_match 33 = .ok (.astore 5, 2) := by decide +kernel
theorem dX9_match_35 : decode cX9_match 35 = .ok (.aload 4, 2) := by decide +kernel
theorem dX9_match_37 : decode cX9_match 37 = .ok (.ifnull 8, 3) := by decide +kernel
theorem dX9_match_45 : decode cX9_match 45 = .ok (.aload_n 0, 1) := by decide +kernel
theorem dX9_match_46 : decode cX9_match 46 = .ok (.iconst 2, 1) := by decide +kernel
theorem dX9_match_47 : decode cX9_match 47 = .ok (.invokevirtual 80, 3) := by decide +kernel
theorem dX9_match_50 : decode cX9_match 50 = .ok (.ireturn, 1) := by decide +kernel
def mwX9_match : List Cond := .code yX9_match cX9_match 7 (some .int) :: ([.code yX9_refuse cX9_refuse 2 (some .int), .fieldLink RX9 70 "PatternGate" "lastStatus" "I", .methodLink RX9 80 yX9_refuse, .instanceMethod yX9_refuse, .selects RX9 yX9_refuse yX9_refuse, .initialized RX9, .fieldLink RX9 29 "PatternGate" "book" "LPatternGate$Book;", .code yX0_patternAt cX0_patternAt 2 (some (.object "PatternGate$Pattern")), .fieldLink RX0 13 "PatternGate$Book" "patterns" "[LPatternGate$Pattern;", .methodLink RX9 140 yX0_patternAt, .instanceMethod yX0_patternAt, .selects RX0 yX0_patternAt yX0_patternAt, .initialized RX0, .code yX0_docAt cX0_docAt 2 (some (.object "PatternGate$Doc")), .fieldLink RX0 7 "PatternGate$Book" "docs" "[LPatternGate$Doc;", .methodLink RX9 123 yX0_docAt, .instanceMethod yX0_docAt, .selects RX0 yX0_docAt yX0_docAt] ++ wsX90 ++ wsX00)
theorem fin_X9_match_X9 : ∀ w ∈ wsX90, w ∈ mwX9_match := fun w h => List.mem_cons_of_mem _ (List.mem_append_left _ (List.mem_append_right _ h))
set_option maxRecDepth 20000 in
theorem mg_X9_match_X9_refuse_80 : GoodIn mwX9_match (wsV RX9 80 RX9 yX9_refuse mwX9_refuse) := goodIn_r _ [3, 4, 5, 6, 1, 2, 19, 20, 21, 22, 23, 24, 25, 26, 27, 28, 29, 30, 31, 32, 33, 34] (by decide +kernel) (by decide +kernel)
set_option maxRecDepth 20000 in
theorem mg_X9_match_X0_patternAt_140 : GoodIn mwX9_match (wsV RX9 140 RX0 yX0_patternAt mwX0_patternAt) := goodIn_r _ [10, 11, 12, 13, 8, 9, 35, 36, 37] (by decide +kernel) (by decide +kernel)
set_option maxRecDepth 20000 in
theorem mg_X9_match_X0_docAt_123 : GoodIn mwX9_match (wsV RX9 123 RX0 yX0_docAt mwX0_docAt) := goodIn_r _ [16, 17, 18, 13, 14, 15, 35, 36, 37] (by decide +kernel) (by decide +kernel)
set_option maxHeartbeats 4000000 in
set_option maxRecDepth 100000 in
/-- match on a new object -/
theorem c_match (l : Launch) (dC : Nat → ClassId) (dI : Nat → Nat → Nat) (x : Nat) (q : Nat → Nat) (b d0 p0 : Nat) (cT cD cP cB cU : ClassId) (r : Nat → Nat) (sz : Nat) (i0 i1 i2 : Int32) : Met l yX9_match mwX9_match ({ frames := 1, cells := 0, slots := 0, locals := 60 }) (va_Pc [.ref x, .int i0, .int i1, .int i2] (fun U => U.heap.size = sz ∧ va_P (dC, dI) vwCl (gW x q b d0 p0 cT cD cP cB cU r) U.heap ∧ va_K (dC, dI) vwCl (gT cT cD cP cB cU) U ∧ va_D (fun _ => True) (gW x q b d0 p0 cT cD cP cB cU r))) (va_Qi (fun (o : Int32) (_ : Unit) => o = (-1)) (fun _ _ => True) (va_A (gW x q b d0 p0 cT cD cP cB cU r) sz)) 0 0 (va_A (gW x q b d0 p0 cT cD cP cB cU r) sz) := by
  refine Met.ofW (cc := cX9_match) (maxL := 7) (ret := (some .int)) (by decide +kernel) rfl ?_
  intro p e s m args below meth c s₁ B hml hv
  obtain ⟨rfl, hsz, hP, hK, hD0⟩ := hv
  have hx := B.exec
  have hb := B.bytes
  have hr := B.returns
  have hts := atoms_spec (ws := mwX9_match) B.pre
  have hown : s.vm.findClass RX9 = some m.cls := findClass_of_methodNamed B.named
  have hlocks := B.notSynchronized
  subst hsz
  have hD := hD0.self (sz := s.heap.size)
  generalize hAe : va_A (gW x q b d0 p0 cT cD cP cB cU r) s.heap.size = A at hD ⊢
  have hA : ∀ q : Nat, s.heap.size ≤ q → A q := fun q h => by rw [← hAe]; exact Or.inr h
  have hP : va_P (dC, dI) vwCl [(x, .inr (9, gF q 0 0 (-1) (-1) b 0 0)), (q 0, .inl (cT, 900, .inl (fun _ => 0))), (b, .inr (0, [.ref d0, .ref p0, .null])), (d0, .inl (cD, 0, .inr (.inr (.inr (.inr (fun _ => none)))))), (p0, .inl (cP, 0, .inr (.inr (.inr (.inr (fun _ => none)))))), (q 1, .inl (cB, 3, .inr (.inr (.inr (.inr (fun _ => none)))))), (q 2, .inl (cU, 3, .inl (fun _ => 0))), (q 3, .inr (6, rF r 0 0 0 0 0 0 0 0))] s.heap := hP
  have hD : va_D A [(x, .inr (9, gF q 0 0 (-1) (-1) b 0 0)), (q 0, .inl (cT, 900, .inl (fun _ => 0))), (b, .inr (0, [.ref d0, .ref p0, .null])), (d0, .inl (cD, 0, .inr (.inr (.inr (.inr (fun _ => none)))))), (p0, .inl (cP, 0, .inr (.inr (.inr (.inr (fun _ => none)))))), (q 1, .inl (cB, 3, .inr (.inr (.inr (.inr (fun _ => none)))))), (q 2, .inl (cU, 3, .inl (fun _ => 0))), (q 3, .inr (6, rF r 0 0 0 0 0 0 0 0))] := hD
  have hK : va_K (dC, dI) vwCl [(cT, .int), (cD, .object "PatternGate$Doc"), (cP, .object "PatternGate$Pattern"), (cB, .object "PatternGate$Book"), (cU, .int)] s := hK
  generalize hH : s.heap = H at hP ⊢
  have hS : va_S A s.heap H [] := by rw [← hH]; exact va_S.rf
  have hl := lv_entry ([.ref x, .int i0, .int i1, .int i2]) (n := 7) (Nat.le_of_ble_eq_true rfl)
  rw [lg_entry_eq]
  generalize (lg_sl ([.ref x, .int i0, .int i1, .int i2]) ++ List.replicate (7 - (lg_sl ([.ref x, .int i0, .int i1, .int i2])).length) Slot.unset).toArray = ls at hl ⊢
  have hl : lv_has ls 7 [(0, .ref x), (1, .int i0), (2, .int i1), (3, .int i2)] := hl
  refine lv_iload_n hx hb dX9_match_0 rfl (lv_at hl 3 rfl) ?_
  refine lv_if_lt (tgt := 9) hx hb dX9_match_1 (by decide) (fun k_1 => ?_) (fun k_1 => ?_)
  · refine lv_aload_n hx hb dX9_match_9 rfl (lv_at hl 0 rfl) ?_
    refine lv_iconst (v := 1) hx hb dX9_match_10 (by decide) ?_
    have hPc := hP.sub (ws' := [(x, .inr (9, gF q 0 0 (-1) (-1) b 0 0))]) [0] rfl
    have hKc := hK.sub (tys' := []) [] rfl
    have hDc := hD.sub (ws' := [(x, .inr (9, gF q 0 0 (-1) (-1) b 0 0))]) [0] (by decide) rfl
    have hFc := va_free (wc := [(x, .inr (9, gF q 0 0 (-1) (-1) b 0 0))]) hD hS hA [0] rfl
    refine va_calli (va_runV (As := [.int 1]) (rest := []) ⟨hx, hb, hml, hown, hts⟩ (c_refuse l dC dI x q 0 0 (-1) (-1) b 0 0 H.size 1) (cwV 1 hts mg_X9_match_X9_refuse_80 rfl rfl rfl (by decide +kernel) ⟨Nat.le_of_ble_eq_true rfl, Nat.le_of_ble_eq_true rfl⟩) ⟨fun a U g mk q => by obtain ⟨q0, q1, qP, qK, qD⟩ := q; exact ⟨q0, q1, qP, va_K.moved (u := U) (U := U.calling g mk a) (Vm.Alike.refl U.vm) qK, qD⟩, va_recv hKc hPc (ci := 9) (q0 := 0) rfl rfl, fun U hU hW => ⟨rfl, by rw [hU], by rw [hU]; exact hPc, va_K.moved hW.alike hKc, hDc.weaken (fun _ _ _ _ => trivial)⟩⟩ rfl rfl hl.1 rfl (lv_room (Nat.le_of_ble_eq_true rfl)) dX9_match_11 ⟨Nat.le_of_ble_eq_true rfl, Nat.le_of_ble_eq_true rfl⟩) hS (fun q _ h => hFc q h) hFc (fun r_3 u t H1 locs ht hvm hw hB hz1 hk1 hS => ?_)
    exact W.iret hx hb hr (fun t ht hW => ⟨⟨_, (), rfl, hw, trivial⟩, hS.F ht⟩) hS.2.2 dX9_match_14
  · refine lv_iload_n hx hb dX9_match_4 rfl (lv_at hl 3 rfl) ?_
    refine lv_iconst (v := 2) hx hb dX9_match_5 (by decide) ?_
    refine lv_icmp_le (tgt := 15) hx hb dX9_match_6 (by decide) (fun k_4 => ?_) (fun k_4 => ?_)
    · refine lv_aload_n hx hb dX9_match_15 rfl (lv_at hl 0 rfl) ?_
      refine va_get (D := (dC, dI)) (ci := 9) (v := .ref b) (C := RX9) (T := TX9) (N := 16) hx hb hts fin_X9_match_X9 hown hK hP 0 rfl rfl 5 (by decide) (hts (.fieldLink RX9 29 "PatternGate" "book" "LPatternGate$Book;") (List.mem_of_getElem? (i := 7) (by decide +kernel))) (fun _ h9 => h9) rfl dX9_match_16 ?_
      refine lv_iload_n hx hb dX9_match_19 rfl (lv_at hl 1 rfl) ?_
      have hPc := hP.sub (ws' := [(b, .inr (0, [.ref d0, .ref p0, .null])), (d0, .inl (cD, 0, .inr (.inr (.inr (.inr (fun _ => none)))))), (p0, .inl (cP, 0, .inr (.inr (.inr (.inr (fun _ => none))))))]) [2, 3, 4] rfl
      have hKc := hK.sub (tys' := [(cD, .object "PatternGate$Doc"), (cP, .object "PatternGate$Pattern")]) [1, 2] rfl
      refine va_csq (W.runV (As := [.int i0]) (rest := []) ⟨hx, hb, hml, hown, hts⟩ (c_patternAt l dC dI b d0 p0 cD cP i0) (cwV 1 hts mg_X9_match_X0_patternAt_140 rfl rfl rfl (by decide +kernel) ⟨Nat.le_of_ble_eq_true rfl, Nat.le_of_ble_eq_true rfl⟩) ⟨fun a U g mk q => by obtain ⟨q0, qP, qK⟩ := q; exact ⟨q0, qP, va_K.moved (u := U) (U := U.calling g mk a) (Vm.Alike.refl U.vm) qK⟩, va_recv hKc hPc (ci := 0) (q0 := 0) rfl rfl, fun U hU hW => ⟨rfl, by rw [hU]; exact hPc, va_K.moved hW.alike hKc⟩⟩ rfl rfl hl.1 rfl (lv_room (Nat.le_of_ble_eq_true rfl)) dX9_match_20 ⟨Nat.le_of_ble_eq_true rfl, Nat.le_of_ble_eq_true rfl⟩) (fun r_6 hw => ?_)
      subst hw
      refine W.eq (g2 := F0 m 23 ls [.null]) rfl ?_
      refine lv_astoreN (lv' := [(4, .null), (0, .ref x), (1, .int i0), (2, .int i1), (3, .int i2)]) hx hb dX9_match_23 hl (by decide) rfl (fun ls hl => ?_)
      refine lv_aload_n hx hb dX9_match_25 rfl (lv_at hl 1 rfl) ?_
      refine va_get (D := (dC, dI)) (ci := 9) (v := .ref b) (C := RX9) (T := TX9) (N := 16) hx hb hts fin_X9_match_X9 hown hK hP 0 rfl rfl 5 (by decide) (hts (.fieldLink RX9 29 "PatternGate" "book" "LPatternGate$Book;") (List.mem_of_getElem? (i := 7) (by decide +kernel))) (fun _ h9 => h9) rfl dX9_match_26 ?_
      refine lv_iload_n hx hb dX9_match_29 rfl (lv_at hl 3 rfl) ?_
      have hPc := hP.sub (ws' := [(b, .inr (0, [.ref d0, .ref p0, .null])), (d0, .inl (cD, 0, .inr (.inr (.inr (.inr (fun _ => none)))))), (p0, .inl (cP, 0, .inr (.inr (.inr (.inr (fun _ => none))))))]) [2, 3, 4] rfl
      have hKc := hK.sub (tys' := [(cD, .object "PatternGate$Doc"), (cP, .object "PatternGate$Pattern")]) [1, 2] rfl
      refine va_csq (W.runV (As := [.int i1]) (rest := []) ⟨hx, hb, hml, hown, hts⟩ (c_docAt l dC dI b d0 p0 cD cP i1) (cwV 1 hts mg_X9_match_X0_docAt_123 rfl rfl rfl (by decide +kernel) ⟨Nat.le_of_ble_eq_true rfl, Nat.le_of_ble_eq_true rfl⟩) ⟨fun a U g mk q => by obtain ⟨q0, qP, qK⟩ := q; exact ⟨q0, qP, va_K.moved (u := U) (U := U.calling g mk a) (Vm.Alike.refl U.vm) qK⟩, va_recv hKc hPc (ci := 0) (q0 := 0) rfl rfl, fun U hU hW => ⟨rfl, by rw [hU]; exact hPc, va_K.moved hW.alike hKc⟩⟩ rfl rfl hl.1 rfl (lv_room (Nat.le_of_ble_eq_true rfl)) dX9_match_30 ⟨Nat.le_of_ble_eq_true rfl, Nat.le_of_ble_eq_true rfl⟩) (fun r_8 hw => ?_)
      subst hw
      refine W.eq (g2 := F0 m 33 ls [.null]) rfl ?_
      refine lv_astoreN (lv' := [(5, .null), (4, .null), (0, .ref x), (1, .int i0), (2, .int i1), (3, .int i2)]) hx hb dX9_match_33 hl (by decide) rfl (fun ls hl => ?_)
      refine lv_aloadN hx hb dX9_match_35 (lv_at hl 1 rfl) ?_
      refine lv_ifnullN (tgt := 45) hx hb dX9_match_37 (by decide) ?_
      refine lv_aload_n hx hb dX9_match_45 rfl (lv_at hl 2 rfl) ?_
      refine lv_iconst (v := 2) hx hb dX9_match_46 (by decide) ?_
      have hPc := hP.sub (ws' := [(x, .inr (9, gF q 0 0 (-1) (-1) b 0 0))]) [0] rfl
      have hKc := hK.sub (tys' := []) [] rfl
      have hDc := hD.sub (ws' := [(x, .inr (9, gF q 0 0 (-1) (-1) b 0 0))]) [0] (by decide) rfl
      have hFc := va_free (wc := [(x, .inr (9, gF q 0 0 (-1) (-1) b 0 0))]) hD hS hA [0] rfl
      refine va_calli (va_runV (As := [.int 2]) (rest := []) ⟨hx, hb, hml, hown, hts⟩ (c_refuse l dC dI x q 0 0 (-1) (-1) b 0 0 H.size 2) (cwV 1 hts mg_X9_match_X9_refuse_80 rfl rfl rfl (by decide +kernel) ⟨Nat.le_of_ble_eq_true rfl, Nat.le_of_ble_eq_true rfl⟩) ⟨fun a U g mk q => by obtain ⟨q0, q1, qP, qK, qD⟩ := q; exact ⟨q0, q1, qP, va_K.moved (u := U) (U := U.calling g mk a) (Vm.Alike.refl U.vm) qK, qD⟩, va_recv hKc hPc (ci := 9) (q0 := 0) rfl rfl, fun U hU hW => ⟨rfl, by rw [hU], by rw [hU]; exact hPc, va_K.moved hW.alike hKc, hDc.weaken (fun _ _ _ _ => trivial)⟩⟩ rfl rfl hl.1 rfl (lv_room (Nat.le_of_ble_eq_true rfl)) dX9_match_47 ⟨Nat.le_of_ble_eq_true rfl, Nat.le_of_ble_eq_true rfl⟩) hS (fun q _ h => hFc q h) hFc (fun r_10 u t H1 locs ht hvm hw hB hz1 hk1 hS => ?_)
      exact W.iret hx hb hr (fun t ht hW => ⟨⟨_, (), rfl, hw, trivial⟩, hS.F ht⟩) hS.2.2 dX9_match_50
    · refine lv_aload_n hx hb dX9_match_9 rfl (lv_at hl 0 rfl) ?_
      refine lv_iconst (v := 1) hx hb dX9_match_10 (by decide) ?_
      have hPc := hP.sub (ws' := [(x, .inr (9, gF q 0 0 (-1) (-1) b 0 0))]) [0] rfl
      have hKc := hK.sub (tys' := []) [] rfl
      have hDc := hD.sub (ws' := [(x, .inr (9, gF q 0 0 (-1) (-1) b 0 0))]) [0] (by decide) rfl
      have hFc := va_free (wc := [(x, .inr (9, gF q 0 0 (-1) (-1) b 0 0))]) hD hS hA [0] rfl
      refine va_calli (va_runV (As := [.int 1]) (rest := []) ⟨hx, hb, hml, hown, hts⟩ (c_refuse l dC dI x q 0 0 (-1) (-1) b 0 0 H.size 1) (cwV 1 hts mg_X9_match_X9_refuse_80 rfl rfl rfl (by decide +kernel) ⟨Nat.le_of_ble_eq_true rfl, Nat.le_of_ble_eq_true rfl⟩) ⟨fun a U g mk q => by obtain ⟨q0, q1, qP, qK, qD⟩ := q; exact ⟨q0, q1, qP, va_K.moved (u := U) (U := U.calling g mk a) (Vm.Alike.refl U.vm) qK, qD⟩, va_recv hKc hPc (ci := 9) (q0 := 0) rfl rfl, fun U hU hW => ⟨rfl, by rw [hU], by rw [hU]; exact hPc, va_K.moved hW.alike hKc, hDc.weaken (fun _ _ _ _ => trivial)⟩⟩ rfl rfl hl.1 rfl (lv_room (Nat.le_of_ble_eq_true rfl)) dX9_match_11 ⟨Nat.le_of_ble_eq_true rfl, Nat.le_of_ble_eq_true rfl⟩) hS (fun q _ h => hFc q h) hFc (fun r_12 u t H1 locs ht hvm hw hB hz1 hk1 hS => ?_)
      exact W.iret hx hb hr (fun t ht hW => ⟨⟨_, (), rfl, hw, trivial⟩, hS.F ht⟩) hS.2.2 dX9_match_14
theorem dX9_alive_0 : decode cX9_alive 0 = .ok (.iload_n 3, 1) := by decide +kernel
theorem dX9_alive_1 : decode cX9_alive 1 = .ok (.ifCond .ge 9, 3) := by decide +kernel
theorem dX9_alive_4 : decode cX9_alive 4 = .ok (.aload_n 0, 1) := by decide +kernel
theorem dX9_alive_5 : decode cX9_alive 5 = .ok (.iconst 1, 1) := by decide +kernel
theorem dX9_alive_6 : decode cX9_alive 6 = .ok (.invokevirtual 80, 3) := by decide +kernel
theorem dX9_alive_9 : decode cX9_alive 9 = .ok (.ireturn, 1) := by decide +kernel
theorem dX9_alive_10 : decode cX9_alive 10 = .ok (.aload_n 0, 1) := by decide +kernel
theorem dX9_alive_11 : decode cX9_alive 11 = .ok (.getfield 29, 3) := by decide +kernel
theorem dX9_alive_14 : decode cX9_alive 14 = .ok (.iload_n 1, 1) := by decide +kernel
theorem dX9_alive_15 : decode cX9_alive 15 = .ok (.invokevirtual 140, 3) := by decide +kernel
theorem dX9_alive_18 : decode cX9_alive 18 = .ok (.astore 4, 2) := by decide +kernel
theorem dX9_alive_20 : decode cX9_alive 20 = .ok (.aload_n 0, 1) := by decide +kernel
theorem dX9_alive_21 : decode cX9_alive 21 = .ok (.getfield 29, 3) := by decide +kernel
theorem dX9_alive_24 : decode cX9_alive 24 = .ok (.iload_n 2, 1) := by decide +kernel
theorem dX9_alive_25 : decode cX9_alive 25 = .ok (.invokevirtual 123, 3) := by decide +kernel
theorem dX9_alive_28 : decode cX9_alive 28 = .ok (.astore 5, 2) := by decide +kernel
theorem dX9_alive_30 : decode cX9_alive 30 = .ok (.aload 4, 2) := by decide +kernel
theorem dX9_alive_32 : decode cX9_alive 32 = .ok (.ifnull 8, 3) := by decide +kernel
theorem dX9_alive_40 : decode cX9_alive 40 = .ok (.aload_n 0, 1) := by decide +kernel
theorem dX9_alive_41 : decode cX9_alive 41 = .ok (.iconst 2, 1) := by decide +kernel
theorem dX9_alive_42 : decode cX9_alive 42 = .ok (.invokevirtual 80, 3) := by decide +kernel
theorem dX9_alive_45 : decode cX9_alive 45 = .ok (.ireturn, 1) := by decide +kernel
def mwX9_alive : List Cond := .code yX9_alive cX9_alive 6 (some .int) :: ([.fieldLink RX9 29 "PatternGate" "book" "LPatternGate$Book;", .code yX0_patternAt cX0_patternAt 2 (some (.object "PatternGate$Pattern")), .fieldLink RX0 13 "PatternGate$Book" "patterns" "[LPatternGate$Pattern;", .methodLink RX9 140 yX0_patternAt, .instanceMethod yX0_patternAt, .selects RX0 yX0_patternAt yX0_patternAt, .initialized RX0, .code yX0_docAt cX0_docAt 2 (some (.object "PatternGate$Doc")), .fieldLink RX0 7 "PatternGate$Book" "docs" "[LPatternGate$Doc;", .methodLink RX9 123 yX0_docAt, .instanceMethod yX0_docAt, .selects RX0 yX0_docAt yX0_docAt, .code yX9_refuse cX9_refuse 2 (some .int), .fieldLink RX9 70 "PatternGate" "lastStatus" "I", .methodLink RX9 80 yX9_refuse, .instanceMethod yX9_refuse, .selects RX9 yX9_refuse yX9_refuse, .initialized RX9] ++ wsX90 ++ wsX00)
theorem fin_X9_alive_X9 : ∀ w ∈ wsX90, w ∈ mwX9_alive := fun w h => List.mem_cons_of_mem _ (List.mem_append_left _ (List.mem_append_right _ h))
set_option maxRecDepth 20000 in
theorem mg_X9_alive_X0_patternAt_140 : GoodIn mwX9_alive (wsV RX9 140 RX0 yX0_patternAt mwX0_patternAt) := goodIn_r _ [4, 5, 6, 7, 2, 3, 35, 36, 37] (by decide +kernel) (by decide +kernel)
set_option maxRecDepth 20000 in
theorem mg_X9_alive_X0_docAt_123 : GoodIn mwX9_alive (wsV RX9 123 RX0 yX0_docAt mwX0_docAt) := goodIn_r _ [10, 11, 12, 7, 8, 9, 35, 36, 37] (by decide +kernel) (by decide +kernel)
set_option maxRecDepth 20000 in
theorem mg_X9_alive_X9_refuse_80 : GoodIn mwX9_alive (wsV RX9 80 RX9 yX9_refuse mwX9_refuse) := goodIn_r _ [15, 16, 17, 18, 13, 14, 19, 20, 21, 22, 23, 24, 25, 26, 27, 28, 29, 30, 31, 32, 33, 34] (by decide +kernel) (by decide +kernel)
set_option maxHeartbeats 4000000 in
set_option maxRecDepth 100000 in
/-- alive on a new object -/
theorem c_alive (l : Launch) (dC : Nat → ClassId) (dI : Nat → Nat → Nat) (x : Nat) (q : Nat → Nat) (b d0 p0 : Nat) (cT cD cP cB cU : ClassId) (r : Nat → Nat) (sz : Nat) (i0 i1 i2 : Int32) : Met l yX9_alive mwX9_alive ({ frames := 1, cells := 0, slots := 0, locals := 60 }) (va_Pc [.ref x, .int i0, .int i1, .int i2] (fun U => U.heap.size = sz ∧ va_P (dC, dI) vwCl (gW x q b d0 p0 cT cD cP cB cU r) U.heap ∧ va_K (dC, dI) vwCl (gT cT cD cP cB cU) U ∧ va_D (fun _ => True) (gW x q b d0 p0 cT cD cP cB cU r))) (va_Qi (fun (o : Int32) (_ : Unit) => o = (-1)) (fun _ _ => True) (va_A (gW x q b d0 p0 cT cD cP cB cU r) sz)) 0 0 (va_A (gW x q b d0 p0 cT cD cP cB cU r) sz) := by
  refine Met.ofW (cc := cX9_alive) (maxL := 6) (ret := (some .int)) (by decide +kernel) rfl ?_
  intro p e s m args below meth c s₁ B hml hv
  obtain ⟨rfl, hsz, hP, hK, hD0⟩ := hv
  have hx := B.exec
  have hb := B.bytes
  have hr := B.returns
  have hts := atoms_spec (ws := mwX9_alive) B.pre
  have hown : s.vm.findClass RX9 = some m.cls := findClass_of_methodNamed B.named
  have hlocks := B.notSynchronized
  subst hsz
  have hD := hD0.self (sz := s.heap.size)
  generalize hAe : va_A (gW x q b d0 p0 cT cD cP cB cU r) s.heap.size = A at hD ⊢
  have hA : ∀ q : Nat, s.heap.size ≤ q → A q := fun q h => by rw [← hAe]; exact Or.inr h
  have hP : va_P (dC, dI) vwCl [(x, .inr (9, gF q 0 0 (-1) (-1) b 0 0)), (q 0, .inl (cT, 900, .inl (fun _ => 0))), (b, .inr (0, [.ref d0, .ref p0, .null])), (d0, .inl (cD, 0, .inr (.inr (.inr (.inr (fun _ => none)))))), (p0, .inl (cP, 0, .inr (.inr (.inr (.inr (fun _ => none)))))), (q 1, .inl (cB, 3, .inr (.inr (.inr (.inr (fun _ => none)))))), (q 2, .inl (cU, 3, .inl (fun _ => 0))), (q 3, .inr (6, rF r 0 0 0 0 0 0 0 0))] s.heap := hP
  have hD : va_D A [(x, .inr (9, gF q 0 0 (-1) (-1) b 0 0)), (q 0, .inl (cT, 900, .inl (fun _ => 0))), (b, .inr (0, [.ref d0, .ref p0, .null])), (d0, .inl (cD, 0, .inr (.inr (.inr (.inr (fun _ => none)))))), (p0, .inl (cP, 0, .inr (.inr (.inr (.inr (fun _ => none)))))), (q 1, .inl (cB, 3, .inr (.inr (.inr (.inr (fun _ => none)))))), (q 2, .inl (cU, 3, .inl (fun _ => 0))), (q 3, .inr (6, rF r 0 0 0 0 0 0 0 0))] := hD
  have hK : va_K (dC, dI) vwCl [(cT, .int), (cD, .object "PatternGate$Doc"), (cP, .object "PatternGate$Pattern"), (cB, .object "PatternGate$Book"), (cU, .int)] s := hK
  generalize hH : s.heap = H at hP ⊢
  have hS : va_S A s.heap H [] := by rw [← hH]; exact va_S.rf
  have hl := lv_entry ([.ref x, .int i0, .int i1, .int i2]) (n := 6) (Nat.le_of_ble_eq_true rfl)
  rw [lg_entry_eq]
  generalize (lg_sl ([.ref x, .int i0, .int i1, .int i2]) ++ List.replicate (6 - (lg_sl ([.ref x, .int i0, .int i1, .int i2])).length) Slot.unset).toArray = ls at hl ⊢
  have hl : lv_has ls 6 [(0, .ref x), (1, .int i0), (2, .int i1), (3, .int i2)] := hl
  refine lv_iload_n hx hb dX9_alive_0 rfl (lv_at hl 3 rfl) ?_
  refine lv_if_ge (tgt := 10) hx hb dX9_alive_1 (by decide) (fun k_1 => ?_) (fun k_1 => ?_)
  · refine lv_aload_n hx hb dX9_alive_10 rfl (lv_at hl 0 rfl) ?_
    refine va_get (D := (dC, dI)) (ci := 9) (v := .ref b) (C := RX9) (T := TX9) (N := 16) hx hb hts fin_X9_alive_X9 hown hK hP 0 rfl rfl 5 (by decide) (hts (.fieldLink RX9 29 "PatternGate" "book" "LPatternGate$Book;") (List.mem_of_getElem? (i := 1) (by decide +kernel))) (fun _ h9 => h9) rfl dX9_alive_11 ?_
    refine lv_iload_n hx hb dX9_alive_14 rfl (lv_at hl 1 rfl) ?_
    have hPc := hP.sub (ws' := [(b, .inr (0, [.ref d0, .ref p0, .null])), (d0, .inl (cD, 0, .inr (.inr (.inr (.inr (fun _ => none)))))), (p0, .inl (cP, 0, .inr (.inr (.inr (.inr (fun _ => none))))))]) [2, 3, 4] rfl
    have hKc := hK.sub (tys' := [(cD, .object "PatternGate$Doc"), (cP, .object "PatternGate$Pattern")]) [1, 2] rfl
    refine va_csq (W.runV (As := [.int i0]) (rest := []) ⟨hx, hb, hml, hown, hts⟩ (c_patternAt l dC dI b d0 p0 cD cP i0) (cwV 1 hts mg_X9_alive_X0_patternAt_140 rfl rfl rfl (by decide +kernel) ⟨Nat.le_of_ble_eq_true rfl, Nat.le_of_ble_eq_true rfl⟩) ⟨fun a U g mk q => by obtain ⟨q0, qP, qK⟩ := q; exact ⟨q0, qP, va_K.moved (u := U) (U := U.calling g mk a) (Vm.Alike.refl U.vm) qK⟩, va_recv hKc hPc (ci := 0) (q0 := 0) rfl rfl, fun U hU hW => ⟨rfl, by rw [hU]; exact hPc, va_K.moved hW.alike hKc⟩⟩ rfl rfl hl.1 rfl (lv_room (Nat.le_of_ble_eq_true rfl)) dX9_alive_15 ⟨Nat.le_of_ble_eq_true rfl, Nat.le_of_ble_eq_true rfl⟩) (fun r_3 hw => ?_)
    subst hw
    refine W.eq (g2 := F0 m 18 ls [.null]) rfl ?_
    refine lv_astoreN (lv' := [(4, .null), (0, .ref x), (1, .int i0), (2, .int i1), (3, .int i2)]) hx hb dX9_alive_18 hl (by decide) rfl (fun ls hl => ?_)
    refine lv_aload_n hx hb dX9_alive_20 rfl (lv_at hl 1 rfl) ?_
    refine va_get (D := (dC, dI)) (ci := 9) (v := .ref b) (C := RX9) (T := TX9) (N := 16) hx hb hts fin_X9_alive_X9 hown hK hP 0 rfl rfl 5 (by decide) (hts (.fieldLink RX9 29 "PatternGate" "book" "LPatternGate$Book;") (List.mem_of_getElem? (i := 1) (by decide +kernel))) (fun _ h9 => h9) rfl dX9_alive_21 ?_
    refine lv_iload_n hx hb dX9_alive_24 rfl (lv_at hl 3 rfl) ?_
    have hPc := hP.sub (ws' := [(b, .inr (0, [.ref d0, .ref p0, .null])), (d0, .inl (cD, 0, .inr (.inr (.inr (.inr (fun _ => none)))))), (p0, .inl (cP, 0, .inr (.inr (.inr (.inr (fun _ => none))))))]) [2, 3, 4] rfl
    have hKc := hK.sub (tys' := [(cD, .object "PatternGate$Doc"), (cP, .object "PatternGate$Pattern")]) [1, 2] rfl
    refine va_csq (W.runV (As := [.int i1]) (rest := []) ⟨hx, hb, hml, hown, hts⟩ (c_docAt l dC dI b d0 p0 cD cP i1) (cwV 1 hts mg_X9_alive_X0_docAt_123 rfl rfl rfl (by decide +kernel) ⟨Nat.le_of_ble_eq_true rfl, Nat.le_of_ble_eq_true rfl⟩) ⟨fun a U g mk q => by obtain ⟨q0, qP, qK⟩ := q; exact ⟨q0, qP, va_K.moved (u := U) (U := U.calling g mk a) (Vm.Alike.refl U.vm) qK⟩, va_recv hKc hPc (ci := 0) (q0 := 0) rfl rfl, fun U hU hW => ⟨rfl, by rw [hU]; exact hPc, va_K.moved hW.alike hKc⟩⟩ rfl rfl hl.1 rfl (lv_room (Nat.le_of_ble_eq_true rfl)) dX9_alive_25 ⟨Nat.le_of_ble_eq_true rfl, Nat.le_of_ble_eq_true rfl⟩) (fun r_5 hw => ?_)
    subst hw
    refine W.eq (g2 := F0 m 28 ls [.null]) rfl ?_
    refine lv_astoreN (lv' := [(5, .null), (4, .null), (0, .ref x), (1, .int i0), (2, .int i1), (3, .int i2)]) hx hb dX9_alive_28 hl (by decide) rfl (fun ls hl => ?_)
    refine lv_aloadN hx hb dX9_alive_30 (lv_at hl 1 rfl) ?_
    refine lv_ifnullN (tgt := 40) hx hb dX9_alive_32 (by decide) ?_
    refine lv_aload_n hx hb dX9_alive_40 rfl (lv_at hl 2 rfl) ?_
    refine lv_iconst (v := 2) hx hb dX9_alive_41 (by decide) ?_
    have hPc := hP.sub (ws' := [(x, .inr (9, gF q 0 0 (-1) (-1) b 0 0))]) [0] rfl
    have hKc := hK.sub (tys' := []) [] rfl
    have hDc := hD.sub (ws' := [(x, .inr (9, gF q 0 0 (-1) (-1) b 0 0))]) [0] (by decide) rfl
    have hFc := va_free (wc := [(x, .inr (9, gF q 0 0 (-1) (-1) b 0 0))]) hD hS hA [0] rfl
    refine va_calli (va_runV (As := [.int 2]) (rest := []) ⟨hx, hb, hml, hown, hts⟩ (c_refuse l dC dI x q 0 0 (-1) (-1) b 0 0 H.size 2) (cwV 1 hts mg_X9_alive_X9_refuse_80 rfl rfl rfl (by decide +kernel) ⟨Nat.le_of_ble_eq_true rfl, Nat.le_of_ble_eq_true rfl⟩) ⟨fun a U g mk q => by obtain ⟨q0, q1, qP, qK, qD⟩ := q; exact ⟨q0, q1, qP, va_K.moved (u := U) (U := U.calling g mk a) (Vm.Alike.refl U.vm) qK, qD⟩, va_recv hKc hPc (ci := 9) (q0 := 0) rfl rfl, fun U hU hW => ⟨rfl, by rw [hU], by rw [hU]; exact hPc, va_K.moved hW.alike hKc, hDc.weaken (fun _ _ _ _ => trivial)⟩⟩ rfl rfl hl.1 rfl (lv_room (Nat.le_of_ble_eq_true rfl)) dX9_alive_42 ⟨Nat.le_of_ble_eq_true rfl, Nat.le_of_ble_eq_true rfl⟩) hS (fun q _ h => hFc q h) hFc (fun r_7 u t H1 locs ht hvm hw hB hz1 hk1 hS => ?_)
    exact W.iret hx hb hr (fun t ht hW => ⟨⟨_, (), rfl, hw, trivial⟩, hS.F ht⟩) hS.2.2 dX9_alive_45
  · refine lv_aload_n hx hb dX9_alive_4 rfl (lv_at hl 0 rfl) ?_
    refine lv_iconst (v := 1) hx hb dX9_alive_5 (by decide) ?_
    have hPc := hP.sub (ws' := [(x, .inr (9, gF q 0 0 (-1) (-1) b 0 0))]) [0] rfl
    have hKc := hK.sub (tys' := []) [] rfl
    have hDc := hD.sub (ws' := [(x, .inr (9, gF q 0 0 (-1) (-1) b 0 0))]) [0] (by decide) rfl
    have hFc := va_free (wc := [(x, .inr (9, gF q 0 0 (-1) (-1) b 0 0))]) hD hS hA [0] rfl
    refine va_calli (va_runV (As := [.int 1]) (rest := []) ⟨hx, hb, hml, hown, hts⟩ (c_refuse l dC dI x q 0 0 (-1) (-1) b 0 0 H.size 1) (cwV 1 hts mg_X9_alive_X9_refuse_80 rfl rfl rfl (by decide +kernel) ⟨Nat.le_of_ble_eq_true rfl, Nat.le_of_ble_eq_true rfl⟩) ⟨fun a U g mk q => by obtain ⟨q0, q1, qP, qK, qD⟩ := q; exact ⟨q0, q1, qP, va_K.moved (u := U) (U := U.calling g mk a) (Vm.Alike.refl U.vm) qK, qD⟩, va_recv hKc hPc (ci := 9) (q0 := 0) rfl rfl, fun U hU hW => ⟨rfl, by rw [hU], by rw [hU]; exact hPc, va_K.moved hW.alike hKc, hDc.weaken (fun _ _ _ _ => trivial)⟩⟩ rfl rfl hl.1 rfl (lv_room (Nat.le_of_ble_eq_true rfl)) dX9_alive_6 ⟨Nat.le_of_ble_eq_true rfl, Nat.le_of_ble_eq_true rfl⟩) hS (fun q _ h => hFc q h) hFc (fun r_9 u t H1 locs ht hvm hw hB hz1 hk1 hS => ?_)
    exact W.iret hx hb hr (fun t ht hW => ⟨⟨_, (), rfl, hw, trivial⟩, hS.F ht⟩) hS.2.2 dX9_alive_9
theorem dX9_rarest_0 : decode cX9_rarest 0 = .ok (.aload_n 0, 1) := by decide +kernel
theorem dX9_rarest_1 : decode cX9_rarest 1 = .ok (.getfield 29, 3) := by decide +kernel
theorem dX9_rarest_4 : decode cX9_rarest 4 = .ok (.iload_n 1, 1) := by decide +kernel
theorem dX9_rarest_5 : decode cX9_rarest 5 = .ok (.invokevirtual 140, 3) := by decide +kernel
theorem dX9_rarest_8 : decode cX9_rarest 8 = .ok (.astore_n 2, 1) := by decide +kernel
theorem dX9_rarest_9 : decode cX9_rarest 9 = .ok (.aload_n 2, 1) := by decide +kernel
theorem dX9_rarest_10 : decode cX9_rarest 10 = .ok (.ifnonnull 9, 3) := by decide +kernel
theorem dX9_rarest_13 : decode cX9_rarest 13 = .ok (.aload_n 0, 1) := by decide +kernel
theorem dX9_rarest_14 : decode cX9_rarest 14 = .ok (.iconst 2, 1) := by decide +kernel
theorem dX9_rarest_15 : decode cX9_rarest 15 = .ok (.invokevirtual 80, 3) := by decide +kernel
theorem dX9_rarest_18 : decode cX9_rarest 18 = .ok (.ireturn, 1) := by decide +kernel
def mwX9_rarest : List Cond := .code yX9_rarest cX9_rarest 7 (some .int) :: ([.fieldLink RX9 29 "PatternGate" "book" "LPatternGate$Book;", .code yX0_patternAt cX0_patternAt 2 (some (.object "PatternGate$Pattern")), .fieldLink RX0 13 "PatternGate$Book" "patterns" "[LPatternGate$Pattern;", .methodLink RX9 140 yX0_patternAt, .instanceMethod yX0_patternAt, .selects RX0 yX0_patternAt yX0_patternAt, .initialized RX0, .code yX9_refuse cX9_refuse 2 (some .int), .fieldLink RX9 70 "PatternGate" "lastStatus" "I", .methodLink RX9 80 yX9_refuse, .instanceMethod yX9_refuse, .selects RX9 yX9_refuse yX9_refuse, .initialized RX9] ++ wsX90 ++ wsX00)
theorem fin_X9_rarest_X9 : ∀ w ∈ wsX90, w ∈ mwX9_rarest := fun w h => List.mem_cons_of_mem _ (List.mem_append_left _ (List.mem_append_right _ h))
set_option maxRecDepth 20000 in
theorem mg_X9_rarest_X0_patternAt_140 : GoodIn mwX9_rarest (wsV RX9 140 RX0 yX0_patternAt mwX0_patternAt) := goodIn_r _ [4, 5, 6, 7, 2, 3, 30, 31, 32] (by decide +kernel) (by decide +kernel)
set_option maxRecDepth 20000 in
theorem mg_X9_rarest_X9_refuse_80 : GoodIn mwX9_rarest (wsV RX9 80 RX9 yX9_refuse mwX9_refuse) := goodIn_r _ [10, 11, 12, 13, 8, 9, 14, 15, 16, 17, 18, 19, 20, 21, 22, 23, 24, 25, 26, 27, 28, 29] (by decide +kernel) (by decide +kernel)
set_option maxHeartbeats 4000000 in
set_option maxRecDepth 100000 in
/-- rarest on a new object -/
theorem c_rarest (l : Launch) (dC : Nat → ClassId) (dI : Nat → Nat → Nat) (x : Nat) (q : Nat → Nat) (b d0 p0 : Nat) (cT cD cP cB cU : ClassId) (r : Nat → Nat) (sz : Nat) (i0 : Int32) : Met l yX9_rarest mwX9_rarest ({ frames := 1, cells := 0, slots := 0, locals := 60 }) (va_Pc [.ref x, .int i0] (fun U => U.heap.size = sz ∧ va_P (dC, dI) vwCl (gW x q b d0 p0 cT cD cP cB cU r) U.heap ∧ va_K (dC, dI) vwCl (gT cT cD cP cB cU) U ∧ va_D (fun _ => True) (gW x q b d0 p0 cT cD cP cB cU r))) (va_Qi (fun (o : Int32) (_ : Unit) => o = (-1)) (fun _ _ => True) (va_A (gW x q b d0 p0 cT cD cP cB cU r) sz)) 0 0 (va_A (gW x q b d0 p0 cT cD cP cB cU r) sz) := by
  refine Met.ofW (cc := cX9_rarest) (maxL := 7) (ret := (some .int)) (by decide +kernel) rfl ?_
  intro p e s m args below meth c s₁ B hml hv
  obtain ⟨rfl, hsz, hP, hK, hD0⟩ := hv
  have hx := B.exec
  have hb := B.bytes
  have hr := B.returns
  have hts := atoms_spec (ws := mwX9_rarest) B.pre
  have hown : s.vm.findClass RX9 = some m.cls := findClass_of_methodNamed B.named
  have hlocks := B.notSynchronized
  subst hsz
  have hD := hD0.self (sz := s.heap.size)
  generalize hAe : va_A (gW x q b d0 p0 cT cD cP cB cU r) s.heap.size = A at hD ⊢
  have hA : ∀ q : Nat, s.heap.size ≤ q → A q := fun q h => by rw [← hAe]; exact Or.inr h
  have hP : va_P (dC, dI) vwCl [(x, .inr (9, gF q 0 0 (-1) (-1) b 0 0)), (q 0, .inl (cT, 900, .inl (fun _ => 0))), (b, .inr (0, [.ref d0, .ref p0, .null])), (d0, .inl (cD, 0, .inr (.inr (.inr (.inr (fun _ => none)))))), (p0, .inl (cP, 0, .inr (.inr (.inr (.inr (fun _ => none)))))), (q 1, .inl (cB, 3, .inr (.inr (.inr (.inr (fun _ => none)))))), (q 2, .inl (cU, 3, .inl (fun _ => 0))), (q 3, .inr (6, rF r 0 0 0 0 0 0 0 0))] s.heap := hP
  have hD : va_D A [(x, .inr (9, gF q 0 0 (-1) (-1) b 0 0)), (q 0, .inl (cT, 900, .inl (fun _ => 0))), (b, .inr (0, [.ref d0, .ref p0, .null])), (d0, .inl (cD, 0, .inr (.inr (.inr (.inr (fun _ => none)))))), (p0, .inl (cP, 0, .inr (.inr (.inr (.inr (fun _ => none)))))), (q 1, .inl (cB, 3, .inr (.inr (.inr (.inr (fun _ => none)))))), (q 2, .inl (cU, 3, .inl (fun _ => 0))), (q 3, .inr (6, rF r 0 0 0 0 0 0 0 0))] := hD
  have hK : va_K (dC, dI) vwCl [(cT, .int), (cD, .object "PatternGate$Doc"), (cP, .object "PatternGate$Pattern"), (cB, .object "PatternGate$Book"), (cU, .int)] s := hK
  generalize hH : s.heap = H at hP ⊢
  have hS : va_S A s.heap H [] := by rw [← hH]; exact va_S.rf
  have hl := lv_entry ([.ref x, .int i0]) (n := 7) (Nat.le_of_ble_eq_true rfl)
  rw [lg_entry_eq]
  generalize (lg_sl ([.ref x, .int i0]) ++ List.replicate (7 - (lg_sl ([.ref x, .int i0])).length) Slot.unset).toArray = ls at hl ⊢
  have hl : lv_has ls 7 [(0, .ref x), (1, .int i0)] := hl
  refine lv_aload_n hx hb dX9_rarest_0 rfl (lv_at hl 0 rfl) ?_
  refine va_get (D := (dC, dI)) (ci := 9) (v := .ref b) (C := RX9) (T := TX9) (N := 16) hx hb hts fin_X9_rarest_X9 hown hK hP 0 rfl rfl 5 (by decide) (hts (.fieldLink RX9 29 "PatternGate" "book" "LPatternGate$Book;") (List.mem_of_getElem? (i := 1) (by decide +kernel))) (fun _ h9 => h9) rfl dX9_rarest_1 ?_
  refine lv_iload_n hx hb dX9_rarest_4 rfl (lv_at hl 1 rfl) ?_
  have hPc := hP.sub (ws' := [(b, .inr (0, [.ref d0, .ref p0, .null])), (d0, .inl (cD, 0, .inr (.inr (.inr (.inr (fun _ => none)))))), (p0, .inl (cP, 0, .inr (.inr (.inr (.inr (fun _ => none))))))]) [2, 3, 4] rfl
  have hKc := hK.sub (tys' := [(cD, .object "PatternGate$Doc"), (cP, .object "PatternGate$Pattern")]) [1, 2] rfl
  refine va_csq (W.runV (As := [.int i0]) (rest := []) ⟨hx, hb, hml, hown, hts⟩ (c_patternAt l dC dI b d0 p0 cD cP i0) (cwV 1 hts mg_X9_rarest_X0_patternAt_140 rfl rfl rfl (by decide +kernel) ⟨Nat.le_of_ble_eq_true rfl, Nat.le_of_ble_eq_true rfl⟩) ⟨fun a U g mk q => by obtain ⟨q0, qP, qK⟩ := q; exact ⟨q0, qP, va_K.moved (u := U) (U := U.calling g mk a) (Vm.Alike.refl U.vm) qK⟩, va_recv hKc hPc (ci := 0) (q0 := 0) rfl rfl, fun U hU hW => ⟨rfl, by rw [hU]; exact hPc, va_K.moved hW.alike hKc⟩⟩ rfl rfl hl.1 rfl (lv_room (Nat.le_of_ble_eq_true rfl)) dX9_rarest_5 ⟨Nat.le_of_ble_eq_true rfl, Nat.le_of_ble_eq_true rfl⟩) (fun r_2 hw => ?_)
  subst hw
  refine W.eq (g2 := F0 m 8 ls [.null]) rfl ?_
  refine lv_astore_nN (lv' := [(2, .null), (0, .ref x), (1, .int i0)]) hx hb dX9_rarest_8 rfl hl (by decide) rfl (fun ls hl => ?_)
  refine lv_aload_nN hx hb dX9_rarest_9 rfl (lv_at hl 0 rfl) ?_
  refine lv_ifnonnullN hx hb dX9_rarest_10 ?_
  refine lv_aload_n hx hb dX9_rarest_13 rfl (lv_at hl 1 rfl) ?_
  refine lv_iconst (v := 2) hx hb dX9_rarest_14 (by decide) ?_
  have hPc := hP.sub (ws' := [(x, .inr (9, gF q 0 0 (-1) (-1) b 0 0))]) [0] rfl
  have hKc := hK.sub (tys' := []) [] rfl
  have hDc := hD.sub (ws' := [(x, .inr (9, gF q 0 0 (-1) (-1) b 0 0))]) [0] (by decide) rfl
  have hFc := va_free (wc := [(x, .inr (9, gF q 0 0 (-1) (-1) b 0 0))]) hD hS hA [0] rfl
  refine va_calli (va_runV (As := [.int 2]) (rest := []) ⟨hx, hb, hml, hown, hts⟩ (c_refuse l dC dI x q 0 0 (-1) (-1) b 0 0 H.size 2) (cwV 1 hts mg_X9_rarest_X9_refuse_80 rfl rfl rfl (by decide +kernel) ⟨Nat.le_of_ble_eq_true rfl, Nat.le_of_ble_eq_true rfl⟩) ⟨fun a U g mk q => by obtain ⟨q0, q1, qP, qK, qD⟩ := q; exact ⟨q0, q1, qP, va_K.moved (u := U) (U := U.calling g mk a) (Vm.Alike.refl U.vm) qK, qD⟩, va_recv hKc hPc (ci := 9) (q0 := 0) rfl rfl, fun U hU hW => ⟨rfl, by rw [hU], by rw [hU]; exact hPc, va_K.moved hW.alike hKc, hDc.weaken (fun _ _ _ _ => trivial)⟩⟩ rfl rfl hl.1 rfl (lv_room (Nat.le_of_ble_eq_true rfl)) dX9_rarest_15 ⟨Nat.le_of_ble_eq_true rfl, Nat.le_of_ble_eq_true rfl⟩) hS (fun q _ h => hFc q h) hFc (fun r_4 u t H1 locs ht hvm hw hB hz1 hk1 hS => ?_)
  exact W.iret hx hb hr (fun t ht hW => ⟨⟨_, (), rfl, hw, trivial⟩, hS.F ht⟩) hS.2.2 dX9_rarest_18
theorem dX9_within_0 : decode cX9_within 0 = .ok (.aload_n 0, 1) := by decide +kernel
theorem dX9_within_1 : decode cX9_within 1 = .ok (.getfield 29, 3) := by decide +kernel
theorem dX9_within_4 : decode cX9_within 4 = .ok (.iload_n 1, 1) := by decide +kernel
theorem dX9_within_5 : decode cX9_within 5 = .ok (.invokevirtual 140, 3) := by decide +kernel
theorem dX9_within_8 : decode cX9_within 8 = .ok (.astore_n 3, 1) := by decide +kernel
theorem dX9_within_9 : decode cX9_within 9 = .ok (.aload_n 0, 1) := by decide +kernel
theorem dX9_within_10 : decode cX9_within 10 = .ok (.getfield 29, 3) := by decide +kernel
theorem dX9_within_13 : decode cX9_within 13 = .ok (.iload_n 2, 1) := by decide +kernel
theorem dX9_within_14 : decode cX9_within 14 = .ok (.invokevirtual 140, 3) := by decide +kernel
theorem dX9_within_17 : decode cX9_within 17 = .ok (.astore 4, 2) := by decide +kernel
theorem dX9_within_19 : decode cX9_within 19 = .ok (.aload_n 3, 1) := by decide +kernel
theorem dX9_within_20 : decode cX9_within 20 = .ok (.ifnull 8, 3) := by decide +kernel
theorem dX9_within_28 : decode cX9_within 28 = .ok (.aload_n 0, 1) := by decide +kernel
theorem dX9_within_29 : decode cX9_within 29 = .ok (.iconst 2, 1) := by decide +kernel
theorem dX9_within_30 : decode cX9_within 30 = .ok (.invokevirtual 80, 3) := by decide +kernel
theorem dX9_within_33 : decode cX9_within 33 = .ok (.ireturn, 1) := by decide +kernel
def mwX9_within : List Cond := .code yX9_within cX9_within 6 (some .int) :: ([.fieldLink RX9 29 "PatternGate" "book" "LPatternGate$Book;", .code yX0_patternAt cX0_patternAt 2 (some (.object "PatternGate$Pattern")), .fieldLink RX0 13 "PatternGate$Book" "patterns" "[LPatternGate$Pattern;", .methodLink RX9 140 yX0_patternAt, .instanceMethod yX0_patternAt, .selects RX0 yX0_patternAt yX0_patternAt, .initialized RX0, .code yX9_refuse cX9_refuse 2 (some .int), .fieldLink RX9 70 "PatternGate" "lastStatus" "I", .methodLink RX9 80 yX9_refuse, .instanceMethod yX9_refuse, .selects RX9 yX9_refuse yX9_refuse, .initialized RX9] ++ wsX90 ++ wsX00)
theorem fin_X9_within_X9 : ∀ w ∈ wsX90, w ∈ mwX9_within := fun w h => List.mem_cons_of_mem _ (List.mem_append_left _ (List.mem_append_right _ h))
set_option maxRecDepth 20000 in
theorem mg_X9_within_X0_patternAt_140 : GoodIn mwX9_within (wsV RX9 140 RX0 yX0_patternAt mwX0_patternAt) := goodIn_r _ [4, 5, 6, 7, 2, 3, 30, 31, 32] (by decide +kernel) (by decide +kernel)
set_option maxRecDepth 20000 in
theorem mg_X9_within_X9_refuse_80 : GoodIn mwX9_within (wsV RX9 80 RX9 yX9_refuse mwX9_refuse) := goodIn_r _ [10, 11, 12, 13, 8, 9, 14, 15, 16, 17, 18, 19, 20, 21, 22, 23, 24, 25, 26, 27, 28, 29] (by decide +kernel) (by decide +kernel)
set_option maxHeartbeats 4000000 in
set_option maxRecDepth 100000 in
/-- within on a new object -/
theorem c_within (l : Launch) (dC : Nat → ClassId) (dI : Nat → Nat → Nat) (x : Nat) (q : Nat → Nat) (b d0 p0 : Nat) (cT cD cP cB cU : ClassId) (r : Nat → Nat) (sz : Nat) (i0 i1 : Int32) : Met l yX9_within mwX9_within ({ frames := 1, cells := 0, slots := 0, locals := 60 }) (va_Pc [.ref x, .int i0, .int i1] (fun U => U.heap.size = sz ∧ va_P (dC, dI) vwCl (gW x q b d0 p0 cT cD cP cB cU r) U.heap ∧ va_K (dC, dI) vwCl (gT cT cD cP cB cU) U ∧ va_D (fun _ => True) (gW x q b d0 p0 cT cD cP cB cU r))) (va_Qi (fun (o : Int32) (_ : Unit) => o = (-1)) (fun _ _ => True) (va_A (gW x q b d0 p0 cT cD cP cB cU r) sz)) 0 0 (va_A (gW x q b d0 p0 cT cD cP cB cU r) sz) := by
  refine Met.ofW (cc := cX9_within) (maxL := 6) (ret := (some .int)) (by decide +kernel) rfl ?_
  intro p e s m args below meth c s₁ B hml hv
  obtain ⟨rfl, hsz, hP, hK, hD0⟩ := hv
  have hx := B.exec
  have hb := B.bytes
  have hr := B.returns
  have hts := atoms_spec (ws := mwX9_within) B.pre
  have hown : s.vm.findClass RX9 = some m.cls := findClass_of_methodNamed B.named
  have hlocks := B.notSynchronized
  subst hsz
  have hD := hD0.self (sz := s.heap.size)
  generalize hAe : va_A (gW x q b d0 p0 cT cD cP cB cU r) s.heap.size = A at hD ⊢
  have hA : ∀ q : Nat, s.heap.size ≤ q → A q := fun q h => by rw [← hAe]; exact Or.inr h
  have hP : va_P (dC, dI) vwCl [(x, .inr (9, gF q 0 0 (-1) (-1) b 0 0)), (q 0, .inl (cT, 900, .inl (fun _ => 0))), (b, .inr (0, [.ref d0, .ref p0, .null])), (d0, .inl (cD, 0, .inr (.inr (.inr (.inr (fun _ => none)))))), (p0, .inl (cP, 0, .inr (.inr (.inr (.inr (fun _ => none)))))), (q 1, .inl (cB, 3, .inr (.inr (.inr (.inr (fun _ => none)))))), (q 2, .inl (cU, 3, .inl (fun _ => 0))), (q 3, .inr (6, rF r 0 0 0 0 0 0 0 0))] s.heap := hP
  have hD : va_D A [(x, .inr (9, gF q 0 0 (-1) (-1) b 0 0)), (q 0, .inl (cT, 900, .inl (fun _ => 0))), (b, .inr (0, [.ref d0, .ref p0, .null])), (d0, .inl (cD, 0, .inr (.inr (.inr (.inr (fun _ => none)))))), (p0, .inl (cP, 0, .inr (.inr (.inr (.inr (fun _ => none)))))), (q 1, .inl (cB, 3, .inr (.inr (.inr (.inr (fun _ => none)))))), (q 2, .inl (cU, 3, .inl (fun _ => 0))), (q 3, .inr (6, rF r 0 0 0 0 0 0 0 0))] := hD
  have hK : va_K (dC, dI) vwCl [(cT, .int), (cD, .object "PatternGate$Doc"), (cP, .object "PatternGate$Pattern"), (cB, .object "PatternGate$Book"), (cU, .int)] s := hK
  generalize hH : s.heap = H at hP ⊢
  have hS : va_S A s.heap H [] := by rw [← hH]; exact va_S.rf
  have hl := lv_entry ([.ref x, .int i0, .int i1]) (n := 6) (Nat.le_of_ble_eq_true rfl)
  rw [lg_entry_eq]
  generalize (lg_sl ([.ref x, .int i0, .int i1]) ++ List.replicate (6 - (lg_sl ([.ref x, .int i0, .int i1])).length) Slot.unset).toArray = ls at hl ⊢
  have hl : lv_has ls 6 [(0, .ref x), (1, .int i0), (2, .int i1)] := hl
  refine lv_aload_n hx hb dX9_within_0 rfl (lv_at hl 0 rfl) ?_
  refine va_get (D := (dC, dI)) (ci := 9) (v := .ref b) (C := RX9) (T := TX9) (N := 16) hx hb hts fin_X9_within_X9 hown hK hP 0 rfl rfl 5 (by decide) (hts (.fieldLink RX9 29 "PatternGate" "book" "LPatternGate$Book;") (List.mem_of_getElem? (i := 1) (by decide +kernel))) (fun _ h9 => h9) rfl dX9_within_1 ?_
  refine lv_iload_n hx hb dX9_within_4 rfl (lv_at hl 1 rfl) ?_
  have hPc := hP.sub (ws' := [(b, .inr (0, [.ref d0, .ref p0, .null])), (d0, .inl (cD, 0, .inr (.inr (.inr (.inr (fun _ => none)))))), (p0, .inl (cP, 0, .inr (.inr (.inr (.inr (fun _ => none))))))]) [2, 3, 4] rfl
  have hKc := hK.sub (tys' := [(cD, .object "PatternGate$Doc"), (cP, .object "PatternGate$Pattern")]) [1, 2] rfl
  refine va_csq (W.runV (As := [.int i0]) (rest := []) ⟨hx, hb, hml, hown, hts⟩ (c_patternAt l dC dI b d0 p0 cD cP i0) (cwV 1 hts mg_X9_within_X0_patternAt_140 rfl rfl rfl (by decide +kernel) ⟨Nat.le_of_ble_eq_true rfl, Nat.le_of_ble_eq_true rfl⟩) ⟨fun a U g mk q => by obtain ⟨q0, qP, qK⟩ := q; exact ⟨q0, qP, va_K.moved (u := U) (U := U.calling g mk a) (Vm.Alike.refl U.vm) qK⟩, va_recv hKc hPc (ci := 0) (q0 := 0) rfl rfl, fun U hU hW => ⟨rfl, by rw [hU]; exact hPc, va_K.moved hW.alike hKc⟩⟩ rfl rfl hl.1 rfl (lv_room (Nat.le_of_ble_eq_true rfl)) dX9_within_5 ⟨Nat.le_of_ble_eq_true rfl, Nat.le_of_ble_eq_true rfl⟩) (fun r_2 hw => ?_)
  subst hw
  refine W.eq (g2 := F0 m 8 ls [.null]) rfl ?_
  refine lv_astore_nN (lv' := [(3, .null), (0, .ref x), (1, .int i0), (2, .int i1)]) hx hb dX9_within_8 rfl hl (by decide) rfl (fun ls hl => ?_)
  refine lv_aload_n hx hb dX9_within_9 rfl (lv_at hl 1 rfl) ?_
  refine va_get (D := (dC, dI)) (ci := 9) (v := .ref b) (C := RX9) (T := TX9) (N := 16) hx hb hts fin_X9_within_X9 hown hK hP 0 rfl rfl 5 (by decide) (hts (.fieldLink RX9 29 "PatternGate" "book" "LPatternGate$Book;") (List.mem_of_getElem? (i := 1) (by decide +kernel))) (fun _ h9 => h9) rfl dX9_within_10 ?_
  refine lv_iload_n hx hb dX9_within_13 rfl (lv_at hl 3 rfl) ?_
  have hPc := hP.sub (ws' := [(b, .inr (0, [.ref d0, .ref p0, .null])), (d0, .inl (cD, 0, .inr (.inr (.inr (.inr (fun _ => none)))))), (p0, .inl (cP, 0, .inr (.inr (.inr (.inr (fun _ => none))))))]) [2, 3, 4] rfl
  have hKc := hK.sub (tys' := [(cD, .object "PatternGate$Doc"), (cP, .object "PatternGate$Pattern")]) [1, 2] rfl
  refine va_csq (W.runV (As := [.int i1]) (rest := []) ⟨hx, hb, hml, hown, hts⟩ (c_patternAt l dC dI b d0 p0 cD cP i1) (cwV 1 hts mg_X9_within_X0_patternAt_140 rfl rfl rfl (by decide +kernel) ⟨Nat.le_of_ble_eq_true rfl, Nat.le_of_ble_eq_true rfl⟩) ⟨fun a U g mk q => by obtain ⟨q0, qP, qK⟩ := q; exact ⟨q0, qP, va_K.moved (u := U) (U := U.calling g mk a) (Vm.Alike.refl U.vm) qK⟩, va_recv hKc hPc (ci := 0) (q0 := 0) rfl rfl, fun U hU hW => ⟨rfl, by rw [hU]; exact hPc, va_K.moved hW.alike hKc⟩⟩ rfl rfl hl.1 rfl (lv_room (Nat.le_of_ble_eq_true rfl)) dX9_within_14 ⟨Nat.le_of_ble_eq_true rfl, Nat.le_of_ble_eq_true rfl⟩) (fun r_4 hw => ?_)
  subst hw
  refine W.eq (g2 := F0 m 17 ls [.null]) rfl ?_
  refine lv_astoreN (lv' := [(4, .null), (3, .null), (0, .ref x), (1, .int i0), (2, .int i1)]) hx hb dX9_within_17 hl (by decide) rfl (fun ls hl => ?_)
  refine lv_aload_nN hx hb dX9_within_19 rfl (lv_at hl 1 rfl) ?_
  refine lv_ifnullN (tgt := 28) hx hb dX9_within_20 (by decide) ?_
  refine lv_aload_n hx hb dX9_within_28 rfl (lv_at hl 2 rfl) ?_
  refine lv_iconst (v := 2) hx hb dX9_within_29 (by decide) ?_
  have hPc := hP.sub (ws' := [(x, .inr (9, gF q 0 0 (-1) (-1) b 0 0))]) [0] rfl
  have hKc := hK.sub (tys' := []) [] rfl
  have hDc := hD.sub (ws' := [(x, .inr (9, gF q 0 0 (-1) (-1) b 0 0))]) [0] (by decide) rfl
  have hFc := va_free (wc := [(x, .inr (9, gF q 0 0 (-1) (-1) b 0 0))]) hD hS hA [0] rfl
  refine va_calli (va_runV (As := [.int 2]) (rest := []) ⟨hx, hb, hml, hown, hts⟩ (c_refuse l dC dI x q 0 0 (-1) (-1) b 0 0 H.size 2) (cwV 1 hts mg_X9_within_X9_refuse_80 rfl rfl rfl (by decide +kernel) ⟨Nat.le_of_ble_eq_true rfl, Nat.le_of_ble_eq_true rfl⟩) ⟨fun a U g mk q => by obtain ⟨q0, q1, qP, qK, qD⟩ := q; exact ⟨q0, q1, qP, va_K.moved (u := U) (U := U.calling g mk a) (Vm.Alike.refl U.vm) qK, qD⟩, va_recv hKc hPc (ci := 9) (q0 := 0) rfl rfl, fun U hU hW => ⟨rfl, by rw [hU], by rw [hU]; exact hPc, va_K.moved hW.alike hKc, hDc.weaken (fun _ _ _ _ => trivial)⟩⟩ rfl rfl hl.1 rfl (lv_room (Nat.le_of_ble_eq_true rfl)) dX9_within_30 ⟨Nat.le_of_ble_eq_true rfl, Nat.le_of_ble_eq_true rfl⟩) hS (fun q _ h => hFc q h) hFc (fun r_6 u t H1 locs ht hvm hw hB hz1 hk1 hS => ?_)
  exact W.iret hx hb hr (fun t ht hW => ⟨⟨_, (), rfl, hw, trivial⟩, hS.F ht⟩) hS.2.2 dX9_within_33
theorem dX9_put_0 : decode cX9_put 0 = .ok (.iload_n 3, 1) := by decide +kernel
theorem dX9_put_1 : decode cX9_put 1 = .ok (.invokestatic 239, 3) := by decide +kernel
theorem dX9_put_4 : decode cX9_put 4 = .ok (.ifCond .eq 7, 3) := by decide +kernel
theorem dX9_put_7 : decode cX9_put 7 = .ok (.iload_n 2, 1) := by decide +kernel
theorem dX9_put_8 : decode cX9_put 8 = .ok (.ifCond .ge 9, 3) := by decide +kernel
theorem dX9_put_11 : decode cX9_put 11 = .ok (.aload_n 0, 1) := by decide +kernel
theorem dX9_put_12 : decode cX9_put 12 = .ok (.iconst 1, 1) := by decide +kernel
theorem dX9_put_13 : decode cX9_put 13 = .ok (.invokevirtual 80, 3) := by decide +kernel
theorem dX9_put_16 : decode cX9_put 16 = .ok (.ireturn, 1) := by decide +kernel
theorem dX9_put_17 : decode cX9_put 17 = .ok (.aload_n 0, 1) := by decide +kernel
theorem dX9_put_18 : decode cX9_put 18 = .ok (.getfield 29, 3) := by decide +kernel
theorem dX9_put_21 : decode cX9_put 21 = .ok (.iload_n 1, 1) := by decide +kernel
theorem dX9_put_22 : decode cX9_put 22 = .ok (.invokevirtual 123, 3) := by decide +kernel
theorem dX9_put_25 : decode cX9_put 25 = .ok (.astore 4, 2) := by decide +kernel
theorem dX9_put_27 : decode cX9_put 27 = .ok (.aload 4, 2) := by decide +kernel
theorem dX9_put_29 : decode cX9_put 29 = .ok (.ifnonnull 9, 3) := by decide +kernel
theorem dX9_put_32 : decode cX9_put 32 = .ok (.aload_n 0, 1) := by decide +kernel
theorem dX9_put_33 : decode cX9_put 33 = .ok (.iconst 2, 1) := by decide +kernel
theorem dX9_put_34 : decode cX9_put 34 = .ok (.invokevirtual 80, 3) := by decide +kernel
theorem dX9_put_37 : decode cX9_put 37 = .ok (.ireturn, 1) := by decide +kernel
def mwX9_put : List Cond := .code yX9_put cX9_put 7 (some .int) :: ([.code yX9_isLetter cX9_isLetter 1 (some .boolean), .methodLink RX9 239 yX9_isLetter, .static yX9_isLetter, .initialized RX9, .code yX9_refuse cX9_refuse 2 (some .int), .fieldLink RX9 70 "PatternGate" "lastStatus" "I", .methodLink RX9 80 yX9_refuse, .instanceMethod yX9_refuse, .selects RX9 yX9_refuse yX9_refuse, .fieldLink RX9 29 "PatternGate" "book" "LPatternGate$Book;", .code yX0_docAt cX0_docAt 2 (some (.object "PatternGate$Doc")), .fieldLink RX0 7 "PatternGate$Book" "docs" "[LPatternGate$Doc;", .methodLink RX9 123 yX0_docAt, .instanceMethod yX0_docAt, .selects RX0 yX0_docAt yX0_docAt, .initialized RX0] ++ wsX90 ++ wsX00)
theorem fin_X9_put_X9 : ∀ w ∈ wsX90, w ∈ mwX9_put := fun w h => List.mem_cons_of_mem _ (List.mem_append_left _ (List.mem_append_right _ h))
set_option maxRecDepth 20000 in
theorem mg_X9_put_X9_isLetter_239 : GoodIn mwX9_put (va_wsS RX9 239 yX9_isLetter mwX9_isLetter) := goodIn_r _ [2, 3, 4, 1] (by decide +kernel) (by decide +kernel)
set_option maxRecDepth 20000 in
theorem mg_X9_put_X9_refuse_80 : GoodIn mwX9_put (wsV RX9 80 RX9 yX9_refuse mwX9_refuse) := goodIn_r _ [7, 8, 9, 4, 5, 6, 17, 18, 19, 20, 21, 22, 23, 24, 25, 26, 27, 28, 29, 30, 31, 32] (by decide +kernel) (by decide +kernel)
set_option maxRecDepth 20000 in
theorem mg_X9_put_X0_docAt_123 : GoodIn mwX9_put (wsV RX9 123 RX0 yX0_docAt mwX0_docAt) := goodIn_r _ [13, 14, 15, 16, 11, 12, 33, 34, 35] (by decide +kernel) (by decide +kernel)
set_option maxHeartbeats 4000000 in
set_option maxRecDepth 100000 in
/-- put on a new object -/
theorem c_put (l : Launch) (dC : Nat → ClassId) (dI : Nat → Nat → Nat) (x : Nat) (q : Nat → Nat) (b d0 p0 : Nat) (cT cD cP cB cU : ClassId) (r : Nat → Nat) (sz : Nat) (i0 i1 i2 : Int32) : Met l yX9_put mwX9_put ({ frames := 1, cells := 0, slots := 0, locals := 60 }) (va_Pc [.ref x, .int i0, .int i1, .int i2] (fun U => U.heap.size = sz ∧ va_P (dC, dI) vwCl (gW x q b d0 p0 cT cD cP cB cU r) U.heap ∧ va_K (dC, dI) vwCl (gT cT cD cP cB cU) U ∧ va_D (fun _ => True) (gW x q b d0 p0 cT cD cP cB cU r))) (va_Qi (fun (o : Int32) (_ : Unit) => o = (-1)) (fun _ _ => True) (va_A (gW x q b d0 p0 cT cD cP cB cU r) sz)) 0 0 (va_A (gW x q b d0 p0 cT cD cP cB cU r) sz) := by
  refine Met.ofW (cc := cX9_put) (maxL := 7) (ret := (some .int)) (by decide +kernel) rfl ?_
  intro p e s m args below meth c s₁ B hml hv
  obtain ⟨rfl, hsz, hP, hK, hD0⟩ := hv
  have hx := B.exec
  have hb := B.bytes
  have hr := B.returns
  have hts := atoms_spec (ws := mwX9_put) B.pre
  have hown : s.vm.findClass RX9 = some m.cls := findClass_of_methodNamed B.named
  have hlocks := B.notSynchronized
  subst hsz
  have hD := hD0.self (sz := s.heap.size)
  generalize hAe : va_A (gW x q b d0 p0 cT cD cP cB cU r) s.heap.size = A at hD ⊢
  have hA : ∀ q : Nat, s.heap.size ≤ q → A q := fun q h => by rw [← hAe]; exact Or.inr h
  have hP : va_P (dC, dI) vwCl [(x, .inr (9, gF q 0 0 (-1) (-1) b 0 0)), (q 0, .inl (cT, 900, .inl (fun _ => 0))), (b, .inr (0, [.ref d0, .ref p0, .null])), (d0, .inl (cD, 0, .inr (.inr (.inr (.inr (fun _ => none)))))), (p0, .inl (cP, 0, .inr (.inr (.inr (.inr (fun _ => none)))))), (q 1, .inl (cB, 3, .inr (.inr (.inr (.inr (fun _ => none)))))), (q 2, .inl (cU, 3, .inl (fun _ => 0))), (q 3, .inr (6, rF r 0 0 0 0 0 0 0 0))] s.heap := hP
  have hD : va_D A [(x, .inr (9, gF q 0 0 (-1) (-1) b 0 0)), (q 0, .inl (cT, 900, .inl (fun _ => 0))), (b, .inr (0, [.ref d0, .ref p0, .null])), (d0, .inl (cD, 0, .inr (.inr (.inr (.inr (fun _ => none)))))), (p0, .inl (cP, 0, .inr (.inr (.inr (.inr (fun _ => none)))))), (q 1, .inl (cB, 3, .inr (.inr (.inr (.inr (fun _ => none)))))), (q 2, .inl (cU, 3, .inl (fun _ => 0))), (q 3, .inr (6, rF r 0 0 0 0 0 0 0 0))] := hD
  have hK : va_K (dC, dI) vwCl [(cT, .int), (cD, .object "PatternGate$Doc"), (cP, .object "PatternGate$Pattern"), (cB, .object "PatternGate$Book"), (cU, .int)] s := hK
  generalize hH : s.heap = H at hP ⊢
  have hS : va_S A s.heap H [] := by rw [← hH]; exact va_S.rf
  have hl := lv_entry ([.ref x, .int i0, .int i1, .int i2]) (n := 7) (Nat.le_of_ble_eq_true rfl)
  rw [lg_entry_eq]
  generalize (lg_sl ([.ref x, .int i0, .int i1, .int i2]) ++ List.replicate (7 - (lg_sl ([.ref x, .int i0, .int i1, .int i2])).length) Slot.unset).toArray = ls at hl ⊢
  have hl : lv_has ls 7 [(0, .ref x), (1, .int i0), (2, .int i1), (3, .int i2)] := hl
  refine lv_iload_n hx hb dX9_put_0 rfl (lv_at hl 3 rfl) ?_
  refine vp_callSi (W.runS (As := [.int i2]) (rest := []) ⟨hx, hb, hml, hown, hts⟩ (c_isLetter l dC dI i2) (va_cwS 1 hts mg_X9_put_X9_isLetter_239 rfl rfl rfl (by decide +kernel) ⟨Nat.le_of_ble_eq_true rfl, Nat.le_of_ble_eq_true rfl⟩) ⟨fun a U g mk q => ⟨q.1, trivial⟩, fun U hU hW => ⟨rfl, trivial⟩⟩ rfl rfl hl.1 rfl (lv_room (Nat.le_of_ble_eq_true rfl)) dX9_put_1 ⟨Nat.le_of_ble_eq_true rfl, Nat.le_of_ble_eq_true rfl⟩) (fun r_2 hw => ?_)
  rcases hw with rfl | rfl
  · refine lv_if_eq (tgt := 11) hx hb dX9_put_4 (by decide) (fun k_3 => ?_) (fun k_3 => absurd (by decide) k_3)
    refine lv_aload_n hx hb dX9_put_11 rfl (lv_at hl 0 rfl) ?_
    refine lv_iconst (v := 1) hx hb dX9_put_12 (by decide) ?_
    have hPc := hP.sub (ws' := [(x, .inr (9, gF q 0 0 (-1) (-1) b 0 0))]) [0] rfl
    have hKc := hK.sub (tys' := []) [] rfl
    have hDc := hD.sub (ws' := [(x, .inr (9, gF q 0 0 (-1) (-1) b 0 0))]) [0] (by decide) rfl
    have hFc := va_free (wc := [(x, .inr (9, gF q 0 0 (-1) (-1) b 0 0))]) hD hS hA [0] rfl
    refine va_calli (va_runV (As := [.int 1]) (rest := []) ⟨hx, hb, hml, hown, hts⟩ (c_refuse l dC dI x q 0 0 (-1) (-1) b 0 0 H.size 1) (cwV 1 hts mg_X9_put_X9_refuse_80 rfl rfl rfl (by decide +kernel) ⟨Nat.le_of_ble_eq_true rfl, Nat.le_of_ble_eq_true rfl⟩) ⟨fun a U g mk q => by obtain ⟨q0, q1, qP, qK, qD⟩ := q; exact ⟨q0, q1, qP, va_K.moved (u := U) (U := U.calling g mk a) (Vm.Alike.refl U.vm) qK, qD⟩, va_recv hKc hPc (ci := 9) (q0 := 0) rfl rfl, fun U hU hW => ⟨rfl, by rw [hU], by rw [hU]; exact hPc, va_K.moved hW.alike hKc, hDc.weaken (fun _ _ _ _ => trivial)⟩⟩ rfl rfl hl.1 rfl (lv_room (Nat.le_of_ble_eq_true rfl)) dX9_put_13 ⟨Nat.le_of_ble_eq_true rfl, Nat.le_of_ble_eq_true rfl⟩) hS (fun q _ h => hFc q h) hFc (fun r_5 u t H1 locs ht hvm hw hB hz1 hk1 hS => ?_)
    exact W.iret hx hb hr (fun t ht hW => ⟨⟨_, (), rfl, hw, trivial⟩, hS.F ht⟩) hS.2.2 dX9_put_16
  · refine lv_if_eq (tgt := 11) hx hb dX9_put_4 (by decide) (fun k_6 => absurd k_6 (by decide)) (fun k_6 => ?_)
    refine lv_iload_n hx hb dX9_put_7 rfl (lv_at hl 2 rfl) ?_
    refine lv_if_ge (tgt := 17) hx hb dX9_put_8 (by decide) (fun k_7 => ?_) (fun k_7 => ?_)
    · refine lv_aload_n hx hb dX9_put_17 rfl (lv_at hl 0 rfl) ?_
      refine va_get (D := (dC, dI)) (ci := 9) (v := .ref b) (C := RX9) (T := TX9) (N := 16) hx hb hts fin_X9_put_X9 hown hK hP 0 rfl rfl 5 (by decide) (hts (.fieldLink RX9 29 "PatternGate" "book" "LPatternGate$Book;") (List.mem_of_getElem? (i := 10) (by decide +kernel))) (fun _ h9 => h9) rfl dX9_put_18 ?_
      refine lv_iload_n hx hb dX9_put_21 rfl (lv_at hl 1 rfl) ?_
      have hPc := hP.sub (ws' := [(b, .inr (0, [.ref d0, .ref p0, .null])), (d0, .inl (cD, 0, .inr (.inr (.inr (.inr (fun _ => none)))))), (p0, .inl (cP, 0, .inr (.inr (.inr (.inr (fun _ => none))))))]) [2, 3, 4] rfl
      have hKc := hK.sub (tys' := [(cD, .object "PatternGate$Doc"), (cP, .object "PatternGate$Pattern")]) [1, 2] rfl
      refine va_csq (W.runV (As := [.int i0]) (rest := []) ⟨hx, hb, hml, hown, hts⟩ (c_docAt l dC dI b d0 p0 cD cP i0) (cwV 1 hts mg_X9_put_X0_docAt_123 rfl rfl rfl (by decide +kernel) ⟨Nat.le_of_ble_eq_true rfl, Nat.le_of_ble_eq_true rfl⟩) ⟨fun a U g mk q => by obtain ⟨q0, qP, qK⟩ := q; exact ⟨q0, qP, va_K.moved (u := U) (U := U.calling g mk a) (Vm.Alike.refl U.vm) qK⟩, va_recv hKc hPc (ci := 0) (q0 := 0) rfl rfl, fun U hU hW => ⟨rfl, by rw [hU]; exact hPc, va_K.moved hW.alike hKc⟩⟩ rfl rfl hl.1 rfl (lv_room (Nat.le_of_ble_eq_true rfl)) dX9_put_22 ⟨Nat.le_of_ble_eq_true rfl, Nat.le_of_ble_eq_true rfl⟩) (fun r_9 hw => ?_)
      subst hw
      refine W.eq (g2 := F0 m 25 ls [.null]) rfl ?_
      refine lv_astoreN (lv' := [(4, .null), (0, .ref x), (1, .int i0), (2, .int i1), (3, .int i2)]) hx hb dX9_put_25 hl (by decide) rfl (fun ls hl => ?_)
      refine lv_aloadN hx hb dX9_put_27 (lv_at hl 0 rfl) ?_
      refine lv_ifnonnullN hx hb dX9_put_29 ?_
      refine lv_aload_n hx hb dX9_put_32 rfl (lv_at hl 1 rfl) ?_
      refine lv_iconst (v := 2) hx hb dX9_put_33 (by decide) ?_
      have hPc := hP.sub (ws' := [(x, .inr (9, gF q 0 0 (-1) (-1) b 0 0))]) [0] rfl
      have hKc := hK.sub (tys' := []) [] rfl
      have hDc := hD.sub (ws' := [(x, .inr (9, gF q 0 0 (-1) (-1) b 0 0))]) [0] (by decide) rfl
      have hFc := va_free (wc := [(x, .inr (9, gF q 0 0 (-1) (-1) b 0 0))]) hD hS hA [0] rfl
      refine va_calli (va_runV (As := [.int 2]) (rest := []) ⟨hx, hb, hml, hown, hts⟩ (c_refuse l dC dI x q 0 0 (-1) (-1) b 0 0 H.size 2) (cwV 1 hts mg_X9_put_X9_refuse_80 rfl rfl rfl (by decide +kernel) ⟨Nat.le_of_ble_eq_true rfl, Nat.le_of_ble_eq_true rfl⟩) ⟨fun a U g mk q => by obtain ⟨q0, q1, qP, qK, qD⟩ := q; exact ⟨q0, q1, qP, va_K.moved (u := U) (U := U.calling g mk a) (Vm.Alike.refl U.vm) qK, qD⟩, va_recv hKc hPc (ci := 9) (q0 := 0) rfl rfl, fun U hU hW => ⟨rfl, by rw [hU], by rw [hU]; exact hPc, va_K.moved hW.alike hKc, hDc.weaken (fun _ _ _ _ => trivial)⟩⟩ rfl rfl hl.1 rfl (lv_room (Nat.le_of_ble_eq_true rfl)) dX9_put_34 ⟨Nat.le_of_ble_eq_true rfl, Nat.le_of_ble_eq_true rfl⟩) hS (fun q _ h => hFc q h) hFc (fun r_11 u t H1 locs ht hvm hw hB hz1 hk1 hS => ?_)
      exact W.iret hx hb hr (fun t ht hW => ⟨⟨_, (), rfl, hw, trivial⟩, hS.F ht⟩) hS.2.2 dX9_put_37
    · refine lv_aload_n hx hb dX9_put_11 rfl (lv_at hl 0 rfl) ?_
      refine lv_iconst (v := 1) hx hb dX9_put_12 (by decide) ?_
      have hPc := hP.sub (ws' := [(x, .inr (9, gF q 0 0 (-1) (-1) b 0 0))]) [0] rfl
      have hKc := hK.sub (tys' := []) [] rfl
      have hDc := hD.sub (ws' := [(x, .inr (9, gF q 0 0 (-1) (-1) b 0 0))]) [0] (by decide) rfl
      have hFc := va_free (wc := [(x, .inr (9, gF q 0 0 (-1) (-1) b 0 0))]) hD hS hA [0] rfl
      refine va_calli (va_runV (As := [.int 1]) (rest := []) ⟨hx, hb, hml, hown, hts⟩ (c_refuse l dC dI x q 0 0 (-1) (-1) b 0 0 H.size 1) (cwV 1 hts mg_X9_put_X9_refuse_80 rfl rfl rfl (by decide +kernel) ⟨Nat.le_of_ble_eq_true rfl, Nat.le_of_ble_eq_true rfl⟩) ⟨fun a U g mk q => by obtain ⟨q0, q1, qP, qK, qD⟩ := q; exact ⟨q0, q1, qP, va_K.moved (u := U) (U := U.calling g mk a) (Vm.Alike.refl U.vm) qK, qD⟩, va_recv hKc hPc (ci := 9) (q0 := 0) rfl rfl, fun U hU hW => ⟨rfl, by rw [hU], by rw [hU]; exact hPc, va_K.moved hW.alike hKc, hDc.weaken (fun _ _ _ _ => trivial)⟩⟩ rfl rfl hl.1 rfl (lv_room (Nat.le_of_ble_eq_true rfl)) dX9_put_13 ⟨Nat.le_of_ble_eq_true rfl, Nat.le_of_ble_eq_true rfl⟩) hS (fun q _ h => hFc q h) hFc (fun r_13 u t H1 locs ht hvm hw hB hz1 hk1 hS => ?_)
      exact W.iret hx hb hr (fun t ht hW => ⟨⟨_, (), rfl, hw, trivial⟩, hS.F ht⟩) hS.2.2 dX9_put_16
theorem dX9_let_0 : decode cX9_let 0 = .ok (.iload_n 3, 1) := by decide +kernel
theorem dX9_let_1 : decode cX9_let 1 = .ok (.invokestatic 239, 3) := by decide +kernel
theorem dX9_let_4 : decode cX9_let 4 = .ok (.ifCond .eq 7, 3) := by decide +kernel
theorem dX9_let_7 : decode cX9_let 7 = .ok (.iload_n 2, 1) := by decide +kernel
theorem dX9_let_8 : decode cX9_let 8 = .ok (.ifCond .ge 9, 3) := by decide +kernel
theorem dX9_let_11 : decode cX9_let 11 = .ok (.aload_n 0, 1) := by decide +kernel
theorem dX9_let_12 : decode cX9_let 12 = .ok (.iconst 1, 1) := by decide +kernel
theorem dX9_let_13 : decode cX9_let 13 = .ok (.invokevirtual 80, 3) := by decide +kernel
theorem dX9_let_16 : decode cX9_let 16 = .ok (.ireturn, 1) := by decide +kernel
theorem dX9_let_17 : decode cX9_let 17 = .ok (.aload_n 0, 1) := by decide +kernel
theorem dX9_let_18 : decode cX9_let 18 = .ok (.getfield 29, 3) := by decide +kernel
theorem dX9_let_21 : decode cX9_let 21 = .ok (.iload_n 1, 1) := by decide +kernel
theorem dX9_let_22 : decode cX9_let 22 = .ok (.invokevirtual 123, 3) := by decide +kernel
theorem dX9_let_25 : decode cX9_let 25 = .ok (.astore 4, 2) := by decide +kernel
theorem dX9_let_27 : decode cX9_let 27 = .ok (.aload 4, 2) := by decide +kernel
theorem dX9_let_29 : decode cX9_let 29 = .ok (.ifnonnull 9, 3) := by decide +kernel
theorem dX9_let_32 : decode cX9_let 32 = .ok (.aload_n 0, 1) := by decide +kernel
theorem dX9_let_33 : decode cX9_let 33 = .ok (.iconst 2, 1) := by decide +kernel
theorem dX9_let_34 : decode cX9_let 34 = .ok (.invokevirtual 80, 3) := by decide +kernel
theorem dX9_let_37 : decode cX9_let 37 = .ok (.ireturn, 1) := by decide +kernel
def mwX9_let : List Cond := .code yX9_let cX9_let 7 (some .int) :: ([.code yX9_isLetter cX9_isLetter 1 (some .boolean), .methodLink RX9 239 yX9_isLetter, .static yX9_isLetter, .initialized RX9, .code yX9_refuse cX9_refuse 2 (some .int), .fieldLink RX9 70 "PatternGate" "lastStatus" "I", .methodLink RX9 80 yX9_refuse, .instanceMethod yX9_refuse, .selects RX9 yX9_refuse yX9_refuse, .fieldLink RX9 29 "PatternGate" "book" "LPatternGate$Book;", .code yX0_docAt cX0_docAt 2 (some (.object "PatternGate$Doc")), .fieldLink RX0 7 "PatternGate$Book" "docs" "[LPatternGate$Doc;", .methodLink RX9 123 yX0_docAt, .instanceMethod yX0_docAt, .selects RX0 yX0_docAt yX0_docAt, .initialized RX0] ++ wsX90 ++ wsX00)
theorem fin_X9_let_X9 : ∀ w ∈ wsX90, w ∈ mwX9_let := fun w h => List.mem_cons_of_mem _ (List.mem_append_left _ (List.mem_append_right _ h))
set_option maxRecDepth 20000 in
theorem mg_X9_let_X9_isLetter_239 : GoodIn mwX9_let (va_wsS RX9 239 yX9_isLetter mwX9_isLetter) := goodIn_r _ [2, 3, 4, 1] (by decide +kernel) (by decide +kernel)
set_option maxRecDepth 20000 in
theorem mg_X9_let_X9_refuse_80 : GoodIn mwX9_let (wsV RX9 80 RX9 yX9_refuse mwX9_refuse) := goodIn_r _ [7, 8, 9, 4, 5, 6, 17, 18, 19, 20, 21, 22, 23, 24, 25, 26, 27, 28, 29, 30, 31, 32] (by decide +kernel) (by decide +kernel)
set_option maxRecDepth 20000 in
theorem mg_X9_let_X0_docAt_123 : GoodIn mwX9_let (wsV RX9 123 RX0 yX0_docAt mwX0_docAt) := goodIn_r _ [13, 14, 15, 16, 11, 12, 33, 34, 35] (by decide +kernel) (by decide +kernel)
set_option maxHeartbeats 4000000 in
set_option maxRecDepth 100000 in
/-- let on a new object -/
theorem c_let (l : Launch) (dC : Nat → ClassId) (dI : Nat → Nat → Nat) (x : Nat) (q : Nat → Nat) (b d0 p0 : Nat) (cT cD cP cB cU : ClassId) (r : Nat → Nat) (sz : Nat) (i0 i1 i2 : Int32) : Met l yX9_let mwX9_let ({ frames := 1, cells := 0, slots := 0, locals := 60 }) (va_Pc [.ref x, .int i0, .int i1, .int i2] (fun U => U.heap.size = sz ∧ va_P (dC, dI) vwCl (gW x q b d0 p0 cT cD cP cB cU r) U.heap ∧ va_K (dC, dI) vwCl (gT cT cD cP cB cU) U ∧ va_D (fun _ => True) (gW x q b d0 p0 cT cD cP cB cU r))) (va_Qi (fun (o : Int32) (_ : Unit) => o = (-1)) (fun _ _ => True) (va_A (gW x q b d0 p0 cT cD cP cB cU r) sz)) 0 0 (va_A (gW x q b d0 p0 cT cD cP cB cU r) sz) := by
  refine Met.ofW (cc := cX9_let) (maxL := 7) (ret := (some .int)) (by decide +kernel) rfl ?_
  intro p e s m args below meth c s₁ B hml hv
  obtain ⟨rfl, hsz, hP, hK, hD0⟩ := hv
  have hx := B.exec
  have hb := B.bytes
  have hr := B.returns
  have hts := atoms_spec (ws := mwX9_let) B.pre
  have hown : s.vm.findClass RX9 = some m.cls := findClass_of_methodNamed B.named
  have hlocks := B.notSynchronized
  subst hsz
  have hD := hD0.self (sz := s.heap.size)
  generalize hAe : va_A (gW x q b d0 p0 cT cD cP cB cU r) s.heap.size = A at hD ⊢
  have hA : ∀ q : Nat, s.heap.size ≤ q → A q := fun q h => by rw [← hAe]; exact Or.inr h
  have hP : va_P (dC, dI) vwCl [(x, .inr (9, gF q 0 0 (-1) (-1) b 0 0)), (q 0, .inl (cT, 900, .inl (fun _ => 0))), (b, .inr (0, [.ref d0, .ref p0, .null])), (d0, .inl (cD, 0, .inr (.inr (.inr (.inr (fun _ => none)))))), (p0, .inl (cP, 0, .inr (.inr (.inr (.inr (fun _ => none)))))), (q 1, .inl (cB, 3, .inr (.inr (.inr (.inr (fun _ => none)))))), (q 2, .inl (cU, 3, .inl (fun _ => 0))), (q 3, .inr (6, rF r 0 0 0 0 0 0 0 0))] s.heap := hP
  have hD : va_D A [(x, .inr (9, gF q 0 0 (-1) (-1) b 0 0)), (q 0, .inl (cT, 900, .inl (fun _ => 0))), (b, .inr (0, [.ref d0, .ref p0, .null])), (d0, .inl (cD, 0, .inr (.inr (.inr (.inr (fun _ => none)))))), (p0, .inl (cP, 0, .inr (.inr (.inr (.inr (fun _ => none)))))), (q 1, .inl (cB, 3, .inr (.inr (.inr (.inr (fun _ => none)))))), (q 2, .inl (cU, 3, .inl (fun _ => 0))), (q 3, .inr (6, rF r 0 0 0 0 0 0 0 0))] := hD
  have hK : va_K (dC, dI) vwCl [(cT, .int), (cD, .object "PatternGate$Doc"), (cP, .object "PatternGate$Pattern"), (cB, .object "PatternGate$Book"), (cU, .int)] s := hK
  generalize hH : s.heap = H at hP ⊢
  have hS : va_S A s.heap H [] := by rw [← hH]; exact va_S.rf
  have hl := lv_entry ([.ref x, .int i0, .int i1, .int i2]) (n := 7) (Nat.le_of_ble_eq_true rfl)
  rw [lg_entry_eq]
  generalize (lg_sl ([.ref x, .int i0, .int i1, .int i2]) ++ List.replicate (7 - (lg_sl ([.ref x, .int i0, .int i1, .int i2])).length) Slot.unset).toArray = ls at hl ⊢
  have hl : lv_has ls 7 [(0, .ref x), (1, .int i0), (2, .int i1), (3, .int i2)] := hl
  refine lv_iload_n hx hb dX9_let_0 rfl (lv_at hl 3 rfl) ?_
  refine vp_callSi (W.runS (As := [.int i2]) (rest := []) ⟨hx, hb, hml, hown, hts⟩ (c_isLetter l dC dI i2) (va_cwS 1 hts mg_X9_let_X9_isLetter_239 rfl rfl rfl (by decide +kernel) ⟨Nat.le_of_ble_eq_true rfl, Nat.le_of_ble_eq_true rfl⟩) ⟨fun a U g mk q => ⟨q.1, trivial⟩, fun U hU hW => ⟨rfl, trivial⟩⟩ rfl rfl hl.1 rfl (lv_room (Nat.le_of_ble_eq_true rfl)) dX9_let_1 ⟨Nat.le_of_ble_eq_true rfl, Nat.le_of_ble_eq_true rfl⟩) (fun r_2 hw => ?_)
  rcases hw with rfl | rfl
  · refine lv_if_eq (tgt := 11) hx hb dX9_let_4 (by decide) (fun k_3 => ?_) (fun k_3 => absurd (by decide) k_3)
    refine lv_aload_n hx hb dX9_let_11 rfl (lv_at hl 0 rfl) ?_
    refine lv_iconst (v := 1) hx hb dX9_let_12 (by decide) ?_
    have hPc := hP.sub (ws' := [(x, .inr (9, gF q 0 0 (-1) (-1) b 0 0))]) [0] rfl
    have hKc := hK.sub (tys' := []) [] rfl
    have hDc := hD.sub (ws' := [(x, .inr (9, gF q 0 0 (-1) (-1) b 0 0))]) [0] (by decide) rfl
    have hFc := va_free (wc := [(x, .inr (9, gF q 0 0 (-1) (-1) b 0 0))]) hD hS hA [0] rfl
    refine va_calli (va_runV (As := [.int 1]) (rest := []) ⟨hx, hb, hml, hown, hts⟩ (c_refuse l dC dI x q 0 0 (-1) (-1) b 0 0 H.size 1) (cwV 1 hts mg_X9_let_X9_refuse_80 rfl rfl rfl (by decide +kernel) ⟨Nat.le_of_ble_eq_true rfl, Nat.le_of_ble_eq_true rfl⟩) ⟨fun a U g mk q => by obtain ⟨q0, q1, qP, qK, qD⟩ := q; exact ⟨q0, q1, qP, va_K.moved (u := U) (U := U.calling g mk a) (Vm.Alike.refl U.vm) qK, qD⟩, va_recv hKc hPc (ci := 9) (q0 := 0) rfl rfl, fun U hU hW => ⟨rfl, by rw [hU], by rw [hU]; exact hPc, va_K.moved hW.alike hKc, hDc.weaken (fun _ _ _ _ => trivial)⟩⟩ rfl rfl hl.1 rfl (lv_room (Nat.le_of_ble_eq_true rfl)) dX9_let_13 ⟨Nat.le_of_ble_eq_true rfl, Nat.le_of_ble_eq_true rfl⟩) hS (fun q _ h => hFc q h) hFc (fun r_5 u t H1 locs ht hvm hw hB hz1 hk1 hS => ?_)
    exact W.iret hx hb hr (fun t ht hW => ⟨⟨_, (), rfl, hw, trivial⟩, hS.F ht⟩) hS.2.2 dX9_let_16
  · refine lv_if_eq (tgt := 11) hx hb dX9_let_4 (by decide) (fun k_6 => absurd k_6 (by decide)) (fun k_6 => ?_)
    refine lv_iload_n hx hb dX9_let_7 rfl (lv_at hl 2 rfl) ?_
    refine lv_if_ge (tgt := 17) hx hb dX9_let_8 (by decide) (fun k_7 => ?_) (fun k_7 => ?_)
    · refine lv_aload_n hx hb dX9_let_17 rfl (lv_at hl 0 rfl) ?_
      refine va_get (D := (dC, dI)) (ci := 9) (v := .ref b) (C := RX9) (T := TX9) (N := 16) hx hb hts fin_X9_let_X9 hown hK hP 0 rfl rfl 5 (by decide) (hts (.fieldLink RX9 29 "PatternGate" "book" "LPatternGate$Book;") (List.mem_of_getElem? (i := 10) (by decide +kernel))) (fun _ h9 => h9) rfl dX9_let_18 ?_
      refine lv_iload_n hx hb dX9_let_21 rfl (lv_at hl 1 rfl) ?_
      have hPc := hP.sub (ws' := [(b, .inr (0, [.ref d0, .ref p0, .null])), (d0, .inl (cD, 0, .inr (.inr (.inr (.inr (fun _ => none)))))), (p0, .inl (cP, 0, .inr (.inr (.inr (.inr (fun _ => none))))))]) [2, 3, 4] rfl
      have hKc := hK.sub (tys' := [(cD, .object "PatternGate$Doc"), (cP, .object "PatternGate$Pattern")]) [1, 2] rfl
      refine va_csq (W.runV (As := [.int i0]) (rest := []) ⟨hx, hb, hml, hown, hts⟩ (c_docAt l dC dI b d0 p0 cD cP i0) (cwV 1 hts mg_X9_let_X0_docAt_123 rfl rfl rfl (by decide +kernel) ⟨Nat.le_of_ble_eq_true rfl, Nat.le_of_ble_eq_true rfl⟩) ⟨fun a U g mk q => by obtain ⟨q0, qP, qK⟩ := q; exact ⟨q0, qP, va_K.moved (u := U) (U := U.calling g mk a) (Vm.Alike.refl U.vm) qK⟩, va_recv hKc hPc (ci := 0) (q0 := 0) rfl rfl, fun U hU hW => ⟨rfl, by rw [hU]; exact hPc, va_K.moved hW.alike hKc⟩⟩ rfl rfl hl.1 rfl (lv_room (Nat.le_of_ble_eq_true rfl)) dX9_let_22 ⟨Nat.le_of_ble_eq_true rfl, Nat.le_of_ble_eq_true rfl⟩) (fun r_9 hw => ?_)
      subst hw
      refine W.eq (g2 := F0 m 25 ls [.null]) rfl ?_
      refine lv_astoreN (lv' := [(4, .null), (0, .ref x), (1, .int i0), (2, .int i1), (3, .int i2)]) hx hb dX9_let_25 hl (by decide) rfl (fun ls hl => ?_)
      refine lv_aloadN hx hb dX9_let_27 (lv_at hl 0 rfl) ?_
      refine lv_ifnonnullN hx hb dX9_let_29 ?_
      refine lv_aload_n hx hb dX9_let_32 rfl (lv_at hl 1 rfl) ?_
      refine lv_iconst (v := 2) hx hb dX9_let_33 (by decide) ?_
      have hPc := hP.sub (ws' := [(x, .inr (9, gF q 0 0 (-1) (-1) b 0 0))]) [0] rfl
      have hKc := hK.sub (tys' := []) [] rfl
      have hDc := hD.sub (ws' := [(x, .inr (9, gF q 0 0 (-1) (-1) b 0 0))]) [0] (by decide) rfl
      have hFc := va_free (wc := [(x, .inr (9, gF q 0 0 (-1) (-1) b 0 0))]) hD hS hA [0] rfl
      refine va_calli (va_runV (As := [.int 2]) (rest := []) ⟨hx, hb, hml, hown, hts⟩ (c_refuse l dC dI x q 0 0 (-1) (-1) b 0 0 H.size 2) (cwV 1 hts mg_X9_let_X9_refuse_80 rfl rfl rfl (by decide +kernel) ⟨Nat.le_of_ble_eq_true rfl, Nat.le_of_ble_eq_true rfl⟩) ⟨fun a U g mk q => by obtain ⟨q0, q1, qP, qK, qD⟩ := q; exact ⟨q0, q1, qP, va_K.moved (u := U) (U := U.calling g mk a) (Vm.Alike.refl U.vm) qK, qD⟩, va_recv hKc hPc (ci := 9) (q0 := 0) rfl rfl, fun U hU hW => ⟨rfl, by rw [hU], by rw [hU]; exact hPc, va_K.moved hW.alike hKc, hDc.weaken (fun _ _ _ _ => trivial)⟩⟩ rfl rfl hl.1 rfl (lv_room (Nat.le_of_ble_eq_true rfl)) dX9_let_34 ⟨Nat.le_of_ble_eq_true rfl, Nat.le_of_ble_eq_true rfl⟩) hS (fun q _ h => hFc q h) hFc (fun r_11 u t H1 locs ht hvm hw hB hz1 hk1 hS => ?_)
      exact W.iret hx hb hr (fun t ht hW => ⟨⟨_, (), rfl, hw, trivial⟩, hS.F ht⟩) hS.2.2 dX9_let_37
    · refine lv_aload_n hx hb dX9_let_11 rfl (lv_at hl 0 rfl) ?_
      refine lv_iconst (v := 1) hx hb dX9_let_12 (by decide) ?_
      have hPc := hP.sub (ws' := [(x, .inr (9, gF q 0 0 (-1) (-1) b 0 0))]) [0] rfl
      have hKc := hK.sub (tys' := []) [] rfl
      have hDc := hD.sub (ws' := [(x, .inr (9, gF q 0 0 (-1) (-1) b 0 0))]) [0] (by decide) rfl
      have hFc := va_free (wc := [(x, .inr (9, gF q 0 0 (-1) (-1) b 0 0))]) hD hS hA [0] rfl
      refine va_calli (va_runV (As := [.int 1]) (rest := []) ⟨hx, hb, hml, hown, hts⟩ (c_refuse l dC dI x q 0 0 (-1) (-1) b 0 0 H.size 1) (cwV 1 hts mg_X9_let_X9_refuse_80 rfl rfl rfl (by decide +kernel) ⟨Nat.le_of_ble_eq_true rfl, Nat.le_of_ble_eq_true rfl⟩) ⟨fun a U g mk q => by obtain ⟨q0, q1, qP, qK, qD⟩ := q; exact ⟨q0, q1, qP, va_K.moved (u := U) (U := U.calling g mk a) (Vm.Alike.refl U.vm) qK, qD⟩, va_recv hKc hPc (ci := 9) (q0 := 0) rfl rfl, fun U hU hW => ⟨rfl, by rw [hU], by rw [hU]; exact hPc, va_K.moved hW.alike hKc, hDc.weaken (fun _ _ _ _ => trivial)⟩⟩ rfl rfl hl.1 rfl (lv_room (Nat.le_of_ble_eq_true rfl)) dX9_let_13 ⟨Nat.le_of_ble_eq_true rfl, Nat.le_of_ble_eq_true rfl⟩) hS (fun q _ h => hFc q h) hFc (fun r_13 u t H1 locs ht hvm hw hB hz1 hk1 hS => ?_)
      exact W.iret hx hb hr (fun t ht hW => ⟨⟨_, (), rfl, hw, trivial⟩, hS.F ht⟩) hS.2.2 dX9_let_16
theorem dX9_cut_0 : decode cX9_cut 0 = .ok (.iload_n 2, 1) := by decide +kernel
theorem dX9_cut_1 : decode cX9_cut 1 = .ok (.ifCond .lt 8, 3) := by decide +kernel
theorem dX9_cut_4 : decode cX9_cut 4 = .ok (.iload_n 3, 1) := by decide +kernel
theorem dX9_cut_5 : decode cX9_cut 5 = .ok (.iconst 1, 1) := by decide +kernel
theorem dX9_cut_6 : decode cX9_cut 6 = .ok (.if_icmp .ge 9, 3) := by decide +kernel
theorem dX9_cut_9 : decode cX9_cut 9 = .ok (.aload_n 0, 1) := by decide +kernel
theorem dX9_cut_10 : decode cX9_cut 10 = .ok (.iconst 1, 1) := by decide +kernel
theorem dX9_cut_11 : decode cX9_cut 11 = .ok (.invokevirtual 80, 3) := by decide +kernel
theorem dX9_cut_14 : decode cX9_cut 14 = .ok (.ireturn, 1) := by decide +kernel
theorem dX9_cut_15 : decode cX9_cut 15 = .ok (.aload_n 0, 1) := by decide +kernel
theorem dX9_cut_16 : decode cX9_cut 16 = .ok (.getfield 29, 3) := by decide +kernel
theorem dX9_cut_19 : decode cX9_cut 19 = .ok (.iload_n 1, 1) := by decide +kernel
theorem dX9_cut_20 : decode cX9_cut 20 = .ok (.invokevirtual 123, 3) := by decide +kernel
theorem dX9_cut_23 : decode cX9_cut 23 = .ok (.astore 4, 2) := by decide +kernel
theorem dX9_cut_25 : decode cX9_cut 25 = .ok (.aload 4, 2) := by decide +kernel
theorem dX9_cut_27 : decode cX9_cut 27 = .ok (.ifnonnull 9, 3) := by decide +kernel
theorem dX9_cut_30 : decode cX9_cut 30 = .ok (.aload_n 0, 1) := by decide +kernel
theorem dX9_cut_31 : decode cX9_cut 31 = .ok (.iconst 2, 1) := by decide +kernel
theorem dX9_cut_32 : decode cX9_cut 32 = .ok (.invokevirtual 80, 3) := by decide +kernel
theorem dX9_cut_35 : decode cX9_cut 35 = .ok (.ireturn, 1) := by decide +kernel
def mwX9_cut : List Cond := .code yX9_cut cX9_cut 8 (some .int) :: ([.code yX9_refuse cX9_refuse 2 (some .int), .fieldLink RX9 70 "PatternGate" "lastStatus" "I", .methodLink RX9 80 yX9_refuse, .instanceMethod yX9_refuse, .selects RX9 yX9_refuse yX9_refuse, .initialized RX9, .fieldLink RX9 29 "PatternGate" "book" "LPatternGate$Book;", .code yX0_docAt cX0_docAt 2 (some (.object "PatternGate$Doc")), .fieldLink RX0 7 "PatternGate$Book" "docs" "[LPatternGate$Doc;", .methodLink RX9 123 yX0_docAt, .instanceMethod yX0_docAt, .selects RX0 yX0_docAt yX0_docAt, .initialized RX0] ++ wsX90 ++ wsX00)
theorem fin_X9_cut_X9 : ∀ w ∈ wsX90, w ∈ mwX9_cut := fun w h => List.mem_cons_of_mem _ (List.mem_append_left _ (List.mem_append_right _ h))
set_option maxRecDepth 20000 in
theorem mg_X9_cut_X9_refuse_80 : GoodIn mwX9_cut (wsV RX9 80 RX9 yX9_refuse mwX9_refuse) := goodIn_r _ [3, 4, 5, 6, 1, 2, 14, 15, 16, 17, 18, 19, 20, 21, 22, 23, 24, 25, 26, 27, 28, 29] (by decide +kernel) (by decide +kernel)
set_option maxRecDepth 20000 in
theorem mg_X9_cut_X0_docAt_123 : GoodIn mwX9_cut (wsV RX9 123 RX0 yX0_docAt mwX0_docAt) := goodIn_r _ [10, 11, 12, 13, 8, 9, 30, 31, 32] (by decide +kernel) (by decide +kernel)
set_option maxHeartbeats 4000000 in
set_option maxRecDepth 100000 in
/-- cut on a new object -/
theorem c_cut (l : Launch) (dC : Nat → ClassId) (dI : Nat → Nat → Nat) (x : Nat) (q : Nat → Nat) (b d0 p0 : Nat) (cT cD cP cB cU : ClassId) (r : Nat → Nat) (sz : Nat) (i0 i1 i2 : Int32) : Met l yX9_cut mwX9_cut ({ frames := 1, cells := 0, slots := 0, locals := 60 }) (va_Pc [.ref x, .int i0, .int i1, .int i2] (fun U => U.heap.size = sz ∧ va_P (dC, dI) vwCl (gW x q b d0 p0 cT cD cP cB cU r) U.heap ∧ va_K (dC, dI) vwCl (gT cT cD cP cB cU) U ∧ va_D (fun _ => True) (gW x q b d0 p0 cT cD cP cB cU r))) (va_Qi (fun (o : Int32) (_ : Unit) => o = (-1)) (fun _ _ => True) (va_A (gW x q b d0 p0 cT cD cP cB cU r) sz)) 0 0 (va_A (gW x q b d0 p0 cT cD cP cB cU r) sz) := by
  refine Met.ofW (cc := cX9_cut) (maxL := 8) (ret := (some .int)) (by decide +kernel) rfl ?_
  intro p e s m args below meth c s₁ B hml hv
  obtain ⟨rfl, hsz, hP, hK, hD0⟩ := hv
  have hx := B.exec
  have hb := B.bytes
  have hr := B.returns
  have hts := atoms_spec (ws := mwX9_cut) B.pre
  have hown : s.vm.findClass RX9 = some m.cls := findClass_of_methodNamed B.named
  have hlocks := B.notSynchronized
  subst hsz
  have hD := hD0.self (sz := s.heap.size)
  generalize hAe : va_A (gW x q b d0 p0 cT cD cP cB cU r) s.heap.size = A at hD ⊢
  have hA : ∀ q : Nat, s.heap.size ≤ q → A q := fun q h => by rw [← hAe]; exact Or.inr h
  have hP : va_P (dC, dI) vwCl [(x, .inr (9, gF q 0 0 (-1) (-1) b 0 0)), (q 0, .inl (cT, 900, .inl (fun _ => 0))), (b, .inr (0, [.ref d0, .ref p0, .null])), (d0, .inl (cD, 0, .inr (.inr (.inr (.inr (fun _ => none)))))), (p0, .inl (cP, 0, .inr (.inr (.inr (.inr (fun _ => none)))))), (q 1, .inl (cB, 3, .inr (.inr (.inr (.inr (fun _ => none)))))), (q 2, .inl (cU, 3, .inl (fun _ => 0))), (q 3, .inr (6, rF r 0 0 0 0 0 0 0 0))] s.heap := hP
  have hD : va_D A [(x, .inr (9, gF q 0 0 (-1) (-1) b 0 0)), (q 0, .inl (cT, 900, .inl (fun _ => 0))), (b, .inr (0, [.ref d0, .ref p0, .null])), (d0, .inl (cD, 0, .inr (.inr (.inr (.inr (fun _ => none)))))), (p0, .inl (cP, 0, .inr (.inr (.inr (.inr (fun _ => none)))))), (q 1, .inl (cB, 3, .inr (.inr (.inr (.inr (fun _ => none)))))), (q 2, .inl (cU, 3, .inl (fun _ => 0))), (q 3, .inr (6, rF r 0 0 0 0 0 0 0 0))] := hD
  have hK : va_K (dC, dI) vwCl [(cT, .int), (cD, .object "PatternGate$Doc"), (cP, .object "PatternGate$Pattern"), (cB, .object "PatternGate$Book"), (cU, .int)] s := hK
  generalize hH : s.heap = H at hP ⊢
  have hS : va_S A s.heap H [] := by rw [← hH]; exact va_S.rf
  have hl := lv_entry ([.ref x, .int i0, .int i1, .int i2]) (n := 8) (Nat.le_of_ble_eq_true rfl)
  rw [lg_entry_eq]
  generalize (lg_sl ([.ref x, .int i0, .int i1, .int i2]) ++ List.replicate (8 - (lg_sl ([.ref x, .int i0, .int i1, .int i2])).length) Slot.unset).toArray = ls at hl ⊢
  have hl : lv_has ls 8 [(0, .ref x), (1, .int i0), (2, .int i1), (3, .int i2)] := hl
  refine lv_iload_n hx hb dX9_cut_0 rfl (lv_at hl 2 rfl) ?_
  refine lv_if_lt (tgt := 9) hx hb dX9_cut_1 (by decide) (fun k_1 => ?_) (fun k_1 => ?_)
  · refine lv_aload_n hx hb dX9_cut_9 rfl (lv_at hl 0 rfl) ?_
    refine lv_iconst (v := 1) hx hb dX9_cut_10 (by decide) ?_
    have hPc := hP.sub (ws' := [(x, .inr (9, gF q 0 0 (-1) (-1) b 0 0))]) [0] rfl
    have hKc := hK.sub (tys' := []) [] rfl
    have hDc := hD.sub (ws' := [(x, .inr (9, gF q 0 0 (-1) (-1) b 0 0))]) [0] (by decide) rfl
    have hFc := va_free (wc := [(x, .inr (9, gF q 0 0 (-1) (-1) b 0 0))]) hD hS hA [0] rfl
    refine va_calli (va_runV (As := [.int 1]) (rest := []) ⟨hx, hb, hml, hown, hts⟩ (c_refuse l dC dI x q 0 0 (-1) (-1) b 0 0 H.size 1) (cwV 1 hts mg_X9_cut_X9_refuse_80 rfl rfl rfl (by decide +kernel) ⟨Nat.le_of_ble_eq_true rfl, Nat.le_of_ble_eq_true rfl⟩) ⟨fun a U g mk q => by obtain ⟨q0, q1, qP, qK, qD⟩ := q; exact ⟨q0, q1, qP, va_K.moved (u := U) (U := U.calling g mk a) (Vm.Alike.refl U.vm) qK, qD⟩, va_recv hKc hPc (ci := 9) (q0 := 0) rfl rfl, fun U hU hW => ⟨rfl, by rw [hU], by rw [hU]; exact hPc, va_K.moved hW.alike hKc, hDc.weaken (fun _ _ _ _ => trivial)⟩⟩ rfl rfl hl.1 rfl (lv_room (Nat.le_of_ble_eq_true rfl)) dX9_cut_11 ⟨Nat.le_of_ble_eq_true rfl, Nat.le_of_ble_eq_true rfl⟩) hS (fun q _ h => hFc q h) hFc (fun r_3 u t H1 locs ht hvm hw hB hz1 hk1 hS => ?_)
    exact W.iret hx hb hr (fun t ht hW => ⟨⟨_, (), rfl, hw, trivial⟩, hS.F ht⟩) hS.2.2 dX9_cut_14
  · refine lv_iload_n hx hb dX9_cut_4 rfl (lv_at hl 3 rfl) ?_
    refine lv_iconst (v := 1) hx hb dX9_cut_5 (by decide) ?_
    refine lv_icmp_ge (tgt := 15) hx hb dX9_cut_6 (by decide) (fun k_4 => ?_) (fun k_4 => ?_)
    · refine lv_aload_n hx hb dX9_cut_15 rfl (lv_at hl 0 rfl) ?_
      refine va_get (D := (dC, dI)) (ci := 9) (v := .ref b) (C := RX9) (T := TX9) (N := 16) hx hb hts fin_X9_cut_X9 hown hK hP 0 rfl rfl 5 (by decide) (hts (.fieldLink RX9 29 "PatternGate" "book" "LPatternGate$Book;") (List.mem_of_getElem? (i := 7) (by decide +kernel))) (fun _ h9 => h9) rfl dX9_cut_16 ?_
      refine lv_iload_n hx hb dX9_cut_19 rfl (lv_at hl 1 rfl) ?_
      have hPc := hP.sub (ws' := [(b, .inr (0, [.ref d0, .ref p0, .null])), (d0, .inl (cD, 0, .inr (.inr (.inr (.inr (fun _ => none)))))), (p0, .inl (cP, 0, .inr (.inr (.inr (.inr (fun _ => none))))))]) [2, 3, 4] rfl
      have hKc := hK.sub (tys' := [(cD, .object "PatternGate$Doc"), (cP, .object "PatternGate$Pattern")]) [1, 2] rfl
      refine va_csq (W.runV (As := [.int i0]) (rest := []) ⟨hx, hb, hml, hown, hts⟩ (c_docAt l dC dI b d0 p0 cD cP i0) (cwV 1 hts mg_X9_cut_X0_docAt_123 rfl rfl rfl (by decide +kernel) ⟨Nat.le_of_ble_eq_true rfl, Nat.le_of_ble_eq_true rfl⟩) ⟨fun a U g mk q => by obtain ⟨q0, qP, qK⟩ := q; exact ⟨q0, qP, va_K.moved (u := U) (U := U.calling g mk a) (Vm.Alike.refl U.vm) qK⟩, va_recv hKc hPc (ci := 0) (q0 := 0) rfl rfl, fun U hU hW => ⟨rfl, by rw [hU]; exact hPc, va_K.moved hW.alike hKc⟩⟩ rfl rfl hl.1 rfl (lv_room (Nat.le_of_ble_eq_true rfl)) dX9_cut_20 ⟨Nat.le_of_ble_eq_true rfl, Nat.le_of_ble_eq_true rfl⟩) (fun r_6 hw => ?_)
      subst hw
      refine W.eq (g2 := F0 m 23 ls [.null]) rfl ?_
      refine lv_astoreN (lv' := [(4, .null), (0, .ref x), (1, .int i0), (2, .int i1), (3, .int i2)]) hx hb dX9_cut_23 hl (by decide) rfl (fun ls hl => ?_)
      refine lv_aloadN hx hb dX9_cut_25 (lv_at hl 0 rfl) ?_
      refine lv_ifnonnullN hx hb dX9_cut_27 ?_
      refine lv_aload_n hx hb dX9_cut_30 rfl (lv_at hl 1 rfl) ?_
      refine lv_iconst (v := 2) hx hb dX9_cut_31 (by decide) ?_
      have hPc := hP.sub (ws' := [(x, .inr (9, gF q 0 0 (-1) (-1) b 0 0))]) [0] rfl
      have hKc := hK.sub (tys' := []) [] rfl
      have hDc := hD.sub (ws' := [(x, .inr (9, gF q 0 0 (-1) (-1) b 0 0))]) [0] (by decide) rfl
      have hFc := va_free (wc := [(x, .inr (9, gF q 0 0 (-1) (-1) b 0 0))]) hD hS hA [0] rfl
      refine va_calli (va_runV (As := [.int 2]) (rest := []) ⟨hx, hb, hml, hown, hts⟩ (c_refuse l dC dI x q 0 0 (-1) (-1) b 0 0 H.size 2) (cwV 1 hts mg_X9_cut_X9_refuse_80 rfl rfl rfl (by decide +kernel) ⟨Nat.le_of_ble_eq_true rfl, Nat.le_of_ble_eq_true rfl⟩) ⟨fun a U g mk q => by obtain ⟨q0, q1, qP, qK, qD⟩ := q; exact ⟨q0, q1, qP, va_K.moved (u := U) (U := U.calling g mk a) (Vm.Alike.refl U.vm) qK, qD⟩, va_recv hKc hPc (ci := 9) (q0 := 0) rfl rfl, fun U hU hW => ⟨rfl, by rw [hU], by rw [hU]; exact hPc, va_K.moved hW.alike hKc, hDc.weaken (fun _ _ _ _ => trivial)⟩⟩ rfl rfl hl.1 rfl (lv_room (Nat.le_of_ble_eq_true rfl)) dX9_cut_32 ⟨Nat.le_of_ble_eq_true rfl, Nat.le_of_ble_eq_true rfl⟩) hS (fun q _ h => hFc q h) hFc (fun r_8 u t H1 locs ht hvm hw hB hz1 hk1 hS => ?_)
      exact W.iret hx hb hr (fun t ht hW => ⟨⟨_, (), rfl, hw, trivial⟩, hS.F ht⟩) hS.2.2 dX9_cut_35
    · refine lv_aload_n hx hb dX9_cut_9 rfl (lv_at hl 0 rfl) ?_
      refine lv_iconst (v := 1) hx hb dX9_cut_10 (by decide) ?_
      have hPc := hP.sub (ws' := [(x, .inr (9, gF q 0 0 (-1) (-1) b 0 0))]) [0] rfl
      have hKc := hK.sub (tys' := []) [] rfl
      have hDc := hD.sub (ws' := [(x, .inr (9, gF q 0 0 (-1) (-1) b 0 0))]) [0] (by decide) rfl
      have hFc := va_free (wc := [(x, .inr (9, gF q 0 0 (-1) (-1) b 0 0))]) hD hS hA [0] rfl
      refine va_calli (va_runV (As := [.int 1]) (rest := []) ⟨hx, hb, hml, hown, hts⟩ (c_refuse l dC dI x q 0 0 (-1) (-1) b 0 0 H.size 1) (cwV 1 hts mg_X9_cut_X9_refuse_80 rfl rfl rfl (by decide +kernel) ⟨Nat.le_of_ble_eq_true rfl, Nat.le_of_ble_eq_true rfl⟩) ⟨fun a U g mk q => by obtain ⟨q0, q1, qP, qK, qD⟩ := q; exact ⟨q0, q1, qP, va_K.moved (u := U) (U := U.calling g mk a) (Vm.Alike.refl U.vm) qK, qD⟩, va_recv hKc hPc (ci := 9) (q0 := 0) rfl rfl, fun U hU hW => ⟨rfl, by rw [hU], by rw [hU]; exact hPc, va_K.moved hW.alike hKc, hDc.weaken (fun _ _ _ _ => trivial)⟩⟩ rfl rfl hl.1 rfl (lv_room (Nat.le_of_ble_eq_true rfl)) dX9_cut_11 ⟨Nat.le_of_ble_eq_true rfl, Nat.le_of_ble_eq_true rfl⟩) hS (fun q _ h => hFc q h) hFc (fun r_10 u t H1 locs ht hvm hw hB hz1 hk1 hS => ?_)
      exact W.iret hx hb hr (fun t ht hW => ⟨⟨_, (), rfl, hw, trivial⟩, hS.F ht⟩) hS.2.2 dX9_cut_14
theorem dX9_copy_0 : decode cX9_copy 0 = .ok (.iload_n 2, 1) := by decide +kernel
theorem dX9_copy_1 : decode cX9_copy 1 = .ok (.ifCond .lt 8, 3) := by decide +kernel
theorem dX9_copy_4 : decode cX9_copy 4 = .ok (.iload_n 3, 1) := by decide +kernel
theorem dX9_copy_5 : decode cX9_copy 5 = .ok (.iconst 1, 1) := by decide +kernel
theorem dX9_copy_6 : decode cX9_copy 6 = .ok (.if_icmp .ge 9, 3) := by decide +kernel
theorem dX9_copy_9 : decode cX9_copy 9 = .ok (.aload_n 0, 1) := by decide +kernel
theorem dX9_copy_10 : decode cX9_copy 10 = .ok (.iconst 1, 1) := by decide +kernel
theorem dX9_copy_11 : decode cX9_copy 11 = .ok (.invokevirtual 80, 3) := by decide +kernel
theorem dX9_copy_14 : decode cX9_copy 14 = .ok (.ireturn, 1) := by decide +kernel
theorem dX9_copy_15 : decode cX9_copy 15 = .ok (.aload_n 0, 1) := by decide +kernel
theorem dX9_copy_16 : decode cX9_copy 16 = .ok (.getfield 29, 3) := by decide +kernel
theorem dX9_copy_19 : decode cX9_copy 19 = .ok (.iload_n 1, 1) := by decide +kernel
theorem dX9_copy_20 : decode cX9_copy 20 = .ok (.invokevirtual 123, 3) := by decide +kernel
theorem dX9_copy_23 : decode cX9_copy 23 = .ok (.astore 4, 2) := by decide +kernel
theorem dX9_copy_25 : decode cX9_copy 25 = .ok (.aload 4, 2) := by decide +kernel
theorem dX9_copy_27 : decode cX9_copy 27 = .ok (.ifnonnull 9, 3) := by decide +kernel
theorem dX9_copy_30 : decode cX9_copy 30 = .ok (.aload_n 0, 1) := by decide +kernel
theorem dX9_copy_31 : decode cX9_copy 31 = .ok (.iconst 2, 1) := by decide +kernel
theorem dX9_copy_32 : decode cX9_copy 32 = .ok (.invokevirtual 80, 3) := by decide +kernel
theorem dX9_copy_35 : decode cX9_copy 35 = .ok (.ireturn, 1) := by decide +kernel
def mwX9_copy : List Cond := .code yX9_copy cX9_copy 7 (some .int) :: ([.code yX9_refuse cX9_refuse 2 (some .int), .fieldLink RX9 70 "PatternGate" "lastStatus" "I", .methodLink RX9 80 yX9_refuse, .instanceMethod yX9_refuse, .selects RX9 yX9_refuse yX9_refuse, .initialized RX9, .fieldLink RX9 29 "PatternGate" "book" "LPatternGate$Book;", .code yX0_docAt cX0_docAt 2 (some (.object "PatternGate$Doc")), .fieldLink RX0 7 "PatternGate$Book" "docs" "[LPatternGate$Doc;", .methodLink RX9 123 yX0_docAt, .instanceMethod yX0_docAt, .selects RX0 yX0_docAt yX0_docAt, .initialized RX0] ++ wsX90 ++ wsX00)
theorem fin_X9_copy_X9 : ∀ w ∈ wsX90, w ∈ mwX9_copy := fun w h => List.mem_cons_of_mem _ (List.mem_append_left _ (List.mem_append_right _ h))
set_option maxRecDepth 20000 in
theorem mg_X9_copy_X9_refuse_80 : GoodIn mwX9_copy (wsV RX9 80 RX9 yX9_refuse mwX9_refuse) := goodIn_r _ [3, 4, 5, 6, 1, 2, 14, 15, 16, 17, 18, 19, 20, 21, 22, 23, 24, 25, 26, 27, 28, 29] (by decide +kernel) (by decide +kernel)
set_option maxRecDepth 20000 in
theorem mg_X9_copy_X0_docAt_123 : GoodIn mwX9_copy (wsV RX9 123 RX0 yX0_docAt mwX0_docAt) := goodIn_r _ [10, 11, 12, 13, 8, 9, 30, 31, 32] (by decide +kernel) (by decide +kernel)
set_option maxHeartbeats 4000000 in
set_option maxRecDepth 100000 in
/-- copy on a new object -/
theorem c_copy (l : Launch) (dC : Nat → ClassId) (dI : Nat → Nat → Nat) (x : Nat) (q : Nat → Nat) (b d0 p0 : Nat) (cT cD cP cB cU : ClassId) (r : Nat → Nat) (sz : Nat) (i0 i1 i2 : Int32) : Met l yX9_copy mwX9_copy ({ frames := 1, cells := 0, slots := 0, locals := 60 }) (va_Pc [.ref x, .int i0, .int i1, .int i2] (fun U => U.heap.size = sz ∧ va_P (dC, dI) vwCl (gW x q b d0 p0 cT cD cP cB cU r) U.heap ∧ va_K (dC, dI) vwCl (gT cT cD cP cB cU) U ∧ va_D (fun _ => True) (gW x q b d0 p0 cT cD cP cB cU r))) (va_Qi (fun (o : Int32) (_ : Unit) => o = (-1)) (fun _ _ => True) (va_A (gW x q b d0 p0 cT cD cP cB cU r) sz)) 0 0 (va_A (gW x q b d0 p0 cT cD cP cB cU r) sz) := by
  refine Met.ofW (cc := cX9_copy) (maxL := 7) (ret := (some .int)) (by decide +kernel) rfl ?_
  intro p e s m args below meth c s₁ B hml hv
  obtain ⟨rfl, hsz, hP, hK, hD0⟩ := hv
  have hx := B.exec
  have hb := B.bytes
  have hr := B.returns
  have hts := atoms_spec (ws := mwX9_copy) B.pre
  have hown : s.vm.findClass RX9 = some m.cls := findClass_of_methodNamed B.named
  have hlocks := B.notSynchronized
  subst hsz
  have hD := hD0.self (sz := s.heap.size)
  generalize hAe : va_A (gW x q b d0 p0 cT cD cP cB cU r) s.heap.size = A at hD ⊢
  have hA : ∀ q : Nat, s.heap.size ≤ q → A q := fun q h => by rw [← hAe]; exact Or.inr h
  have hP : va_P (dC, dI) vwCl [(x, .inr (9, gF q 0 0 (-1) (-1) b 0 0)), (q 0, .inl (cT, 900, .inl (fun _ => 0))), (b, .inr (0, [.ref d0, .ref p0, .null])), (d0, .inl (cD, 0, .inr (.inr (.inr (.inr (fun _ => none)))))), (p0, .inl (cP, 0, .inr (.inr (.inr (.inr (fun _ => none)))))), (q 1, .inl (cB, 3, .inr (.inr (.inr (.inr (fun _ => none)))))), (q 2, .inl (cU, 3, .inl (fun _ => 0))), (q 3, .inr (6, rF r 0 0 0 0 0 0 0 0))] s.heap := hP
  have hD : va_D A [(x, .inr (9, gF q 0 0 (-1) (-1) b 0 0)), (q 0, .inl (cT, 900, .inl (fun _ => 0))), (b, .inr (0, [.ref d0, .ref p0, .null])), (d0, .inl (cD, 0, .inr (.inr (.inr (.inr (fun _ => none)))))), (p0, .inl (cP, 0, .inr (.inr (.inr (.inr (fun _ => none)))))), (q 1, .inl (cB, 3, .inr (.inr (.inr (.inr (fun _ => none)))))), (q 2, .inl (cU, 3, .inl (fun _ => 0))), (q 3, .inr (6, rF r 0 0 0 0 0 0 0 0))] := hD
  have hK : va_K (dC, dI) vwCl [(cT, .int), (cD, .object "PatternGate$Doc"), (cP, .object "PatternGate$Pattern"), (cB, .object "PatternGate$Book"), (cU, .int)] s := hK
  generalize hH : s.heap = H at hP ⊢
  have hS : va_S A s.heap H [] := by rw [← hH]; exact va_S.rf
  have hl := lv_entry ([.ref x, .int i0, .int i1, .int i2]) (n := 7) (Nat.le_of_ble_eq_true rfl)
  rw [lg_entry_eq]
  generalize (lg_sl ([.ref x, .int i0, .int i1, .int i2]) ++ List.replicate (7 - (lg_sl ([.ref x, .int i0, .int i1, .int i2])).length) Slot.unset).toArray = ls at hl ⊢
  have hl : lv_has ls 7 [(0, .ref x), (1, .int i0), (2, .int i1), (3, .int i2)] := hl
  refine lv_iload_n hx hb dX9_copy_0 rfl (lv_at hl 2 rfl) ?_
  refine lv_if_lt (tgt := 9) hx hb dX9_copy_1 (by decide) (fun k_1 => ?_) (fun k_1 => ?_)
  · refine lv_aload_n hx hb dX9_copy_9 rfl (lv_at hl 0 rfl) ?_
    refine lv_iconst (v := 1) hx hb dX9_copy_10 (by decide) ?_
    have hPc := hP.sub (ws' := [(x, .inr (9, gF q 0 0 (-1) (-1) b 0 0))]) [0] rfl
    have hKc := hK.sub (tys' := []) [] rfl
    have hDc := hD.sub (ws' := [(x, .inr (9, gF q 0 0 (-1) (-1) b 0 0))]) [0] (by decide) rfl
    have hFc := va_free (wc := [(x, .inr (9, gF q 0 0 (-1) (-1) b 0 0))]) hD hS hA [0] rfl
    refine va_calli (va_runV (As := [.int 1]) (rest := []) ⟨hx, hb, hml, hown, hts⟩ (c_refuse l dC dI x q 0 0 (-1) (-1) b 0 0 H.size 1) (cwV 1 hts mg_X9_copy_X9_refuse_80 rfl rfl rfl (by decide +kernel) ⟨Nat.le_of_ble_eq_true rfl, Nat.le_of_ble_eq_true rfl⟩) ⟨fun a U g mk q => by obtain ⟨q0, q1, qP, qK, qD⟩ := q; exact ⟨q0, q1, qP, va_K.moved (u := U) (U := U.calling g mk a) (Vm.Alike.refl U.vm) qK, qD⟩, va_recv hKc hPc (ci := 9) (q0 := 0) rfl rfl, fun U hU hW => ⟨rfl, by rw [hU], by rw [hU]; exact hPc, va_K.moved hW.alike hKc, hDc.weaken (fun _ _ _ _ => trivial)⟩⟩ rfl rfl hl.1 rfl (lv_room (Nat.le_of_ble_eq_true rfl)) dX9_copy_11 ⟨Nat.le_of_ble_eq_true rfl, Nat.le_of_ble_eq_true rfl⟩) hS (fun q _ h => hFc q h) hFc (fun r_3 u t H1 locs ht hvm hw hB hz1 hk1 hS => ?_)
    exact W.iret hx hb hr (fun t ht hW => ⟨⟨_, (), rfl, hw, trivial⟩, hS.F ht⟩) hS.2.2 dX9_copy_14
  · refine lv_iload_n hx hb dX9_copy_4 rfl (lv_at hl 3 rfl) ?_
    refine lv_iconst (v := 1) hx hb dX9_copy_5 (by decide) ?_
    refine lv_icmp_ge (tgt := 15) hx hb dX9_copy_6 (by decide) (fun k_4 => ?_) (fun k_4 => ?_)
    · refine lv_aload_n hx hb dX9_copy_15 rfl (lv_at hl 0 rfl) ?_
      refine va_get (D := (dC, dI)) (ci := 9) (v := .ref b) (C := RX9) (T := TX9) (N := 16) hx hb hts fin_X9_copy_X9 hown hK hP 0 rfl rfl 5 (by decide) (hts (.fieldLink RX9 29 "PatternGate" "book" "LPatternGate$Book;") (List.mem_of_getElem? (i := 7) (by decide +kernel))) (fun _ h9 => h9) rfl dX9_copy_16 ?_
      refine lv_iload_n hx hb dX9_copy_19 rfl (lv_at hl 1 rfl) ?_
      have hPc := hP.sub (ws' := [(b, .inr (0, [.ref d0, .ref p0, .null])), (d0, .inl (cD, 0, .inr (.inr (.inr (.inr (fun _ => none)))))), (p0, .inl (cP, 0, .inr (.inr (.inr (.inr (fun _ => none))))))]) [2, 3, 4] rfl
      have hKc := hK.sub (tys' := [(cD, .object "PatternGate$Doc"), (cP, .object "PatternGate$Pattern")]) [1, 2] rfl
      refine va_csq (W.runV (As := [.int i0]) (rest := []) ⟨hx, hb, hml, hown, hts⟩ (c_docAt l dC dI b d0 p0 cD cP i0) (cwV 1 hts mg_X9_copy_X0_docAt_123 rfl rfl rfl (by decide +kernel) ⟨Nat.le_of_ble_eq_true rfl, Nat.le_of_ble_eq_true rfl⟩) ⟨fun a U g mk q => by obtain ⟨q0, qP, qK⟩ := q; exact ⟨q0, qP, va_K.moved (u := U) (U := U.calling g mk a) (Vm.Alike.refl U.vm) qK⟩, va_recv hKc hPc (ci := 0) (q0 := 0) rfl rfl, fun U hU hW => ⟨rfl, by rw [hU]; exact hPc, va_K.moved hW.alike hKc⟩⟩ rfl rfl hl.1 rfl (lv_room (Nat.le_of_ble_eq_true rfl)) dX9_copy_20 ⟨Nat.le_of_ble_eq_true rfl, Nat.le_of_ble_eq_true rfl⟩) (fun r_6 hw => ?_)
      subst hw
      refine W.eq (g2 := F0 m 23 ls [.null]) rfl ?_
      refine lv_astoreN (lv' := [(4, .null), (0, .ref x), (1, .int i0), (2, .int i1), (3, .int i2)]) hx hb dX9_copy_23 hl (by decide) rfl (fun ls hl => ?_)
      refine lv_aloadN hx hb dX9_copy_25 (lv_at hl 0 rfl) ?_
      refine lv_ifnonnullN hx hb dX9_copy_27 ?_
      refine lv_aload_n hx hb dX9_copy_30 rfl (lv_at hl 1 rfl) ?_
      refine lv_iconst (v := 2) hx hb dX9_copy_31 (by decide) ?_
      have hPc := hP.sub (ws' := [(x, .inr (9, gF q 0 0 (-1) (-1) b 0 0))]) [0] rfl
      have hKc := hK.sub (tys' := []) [] rfl
      have hDc := hD.sub (ws' := [(x, .inr (9, gF q 0 0 (-1) (-1) b 0 0))]) [0] (by decide) rfl
      have hFc := va_free (wc := [(x, .inr (9, gF q 0 0 (-1) (-1) b 0 0))]) hD hS hA [0] rfl
      refine va_calli (va_runV (As := [.int 2]) (rest := []) ⟨hx, hb, hml, hown, hts⟩ (c_refuse l dC dI x q 0 0 (-1) (-1) b 0 0 H.size 2) (cwV 1 hts mg_X9_copy_X9_refuse_80 rfl rfl rfl (by decide +kernel) ⟨Nat.le_of_ble_eq_true rfl, Nat.le_of_ble_eq_true rfl⟩) ⟨fun a U g mk q => by obtain ⟨q0, q1, qP, qK, qD⟩ := q; exact ⟨q0, q1, qP, va_K.moved (u := U) (U := U.calling g mk a) (Vm.Alike.refl U.vm) qK, qD⟩, va_recv hKc hPc (ci := 9) (q0 := 0) rfl rfl, fun U hU hW => ⟨rfl, by rw [hU], by rw [hU]; exact hPc, va_K.moved hW.alike hKc, hDc.weaken (fun _ _ _ _ => trivial)⟩⟩ rfl rfl hl.1 rfl (lv_room (Nat.le_of_ble_eq_true rfl)) dX9_copy_32 ⟨Nat.le_of_ble_eq_true rfl, Nat.le_of_ble_eq_true rfl⟩) hS (fun q _ h => hFc q h) hFc (fun r_8 u t H1 locs ht hvm hw hB hz1 hk1 hS => ?_)
      exact W.iret hx hb hr (fun t ht hW => ⟨⟨_, (), rfl, hw, trivial⟩, hS.F ht⟩) hS.2.2 dX9_copy_35
    · refine lv_aload_n hx hb dX9_copy_9 rfl (lv_at hl 0 rfl) ?_
      refine lv_iconst (v := 1) hx hb dX9_copy_10 (by decide) ?_
      have hPc := hP.sub (ws' := [(x, .inr (9, gF q 0 0 (-1) (-1) b 0 0))]) [0] rfl
      have hKc := hK.sub (tys' := []) [] rfl
      have hDc := hD.sub (ws' := [(x, .inr (9, gF q 0 0 (-1) (-1) b 0 0))]) [0] (by decide) rfl
      have hFc := va_free (wc := [(x, .inr (9, gF q 0 0 (-1) (-1) b 0 0))]) hD hS hA [0] rfl
      refine va_calli (va_runV (As := [.int 1]) (rest := []) ⟨hx, hb, hml, hown, hts⟩ (c_refuse l dC dI x q 0 0 (-1) (-1) b 0 0 H.size 1) (cwV 1 hts mg_X9_copy_X9_refuse_80 rfl rfl rfl (by decide +kernel) ⟨Nat.le_of_ble_eq_true rfl, Nat.le_of_ble_eq_true rfl⟩) ⟨fun a U g mk q => by obtain ⟨q0, q1, qP, qK, qD⟩ := q; exact ⟨q0, q1, qP, va_K.moved (u := U) (U := U.calling g mk a) (Vm.Alike.refl U.vm) qK, qD⟩, va_recv hKc hPc (ci := 9) (q0 := 0) rfl rfl, fun U hU hW => ⟨rfl, by rw [hU], by rw [hU]; exact hPc, va_K.moved hW.alike hKc, hDc.weaken (fun _ _ _ _ => trivial)⟩⟩ rfl rfl hl.1 rfl (lv_room (Nat.le_of_ble_eq_true rfl)) dX9_copy_11 ⟨Nat.le_of_ble_eq_true rfl, Nat.le_of_ble_eq_true rfl⟩) hS (fun q _ h => hFc q h) hFc (fun r_10 u t H1 locs ht hvm hw hB hz1 hk1 hS => ?_)
      exact W.iret hx hb hr (fun t ht hW => ⟨⟨_, (), rfl, hw, trivial⟩, hS.F ht⟩) hS.2.2 dX9_copy_14
theorem dX9_drop_0 : decode cX9_drop 0 = .ok (.aload_n 0, 1) := by decide +kernel
theorem dX9_drop_1 : decode cX9_drop 1 = .ok (.getfield 29, 3) := by decide +kernel
theorem dX9_drop_4 : decode cX9_drop 4 = .ok (.iload_n 1, 1) := by decide +kernel
theorem dX9_drop_5 : decode cX9_drop 5 = .ok (.invokevirtual 123, 3) := by decide +kernel
theorem dX9_drop_8 : decode cX9_drop 8 = .ok (.ifnonnull 9, 3) := by decide +kernel
theorem dX9_drop_11 : decode cX9_drop 11 = .ok (.aload_n 0, 1) := by decide +kernel
theorem dX9_drop_12 : decode cX9_drop 12 = .ok (.iconst 2, 1) := by decide +kernel
theorem dX9_drop_13 : decode cX9_drop 13 = .ok (.invokevirtual 80, 3) := by decide +kernel
theorem dX9_drop_16 : decode cX9_drop 16 = .ok (.ireturn, 1) := by decide +kernel
def mwX9_drop : List Cond := .code yX9_drop cX9_drop 2 (some .int) :: ([.fieldLink RX9 29 "PatternGate" "book" "LPatternGate$Book;", .code yX0_docAt cX0_docAt 2 (some (.object "PatternGate$Doc")), .fieldLink RX0 7 "PatternGate$Book" "docs" "[LPatternGate$Doc;", .methodLink RX9 123 yX0_docAt, .instanceMethod yX0_docAt, .selects RX0 yX0_docAt yX0_docAt, .initialized RX0, .code yX9_refuse cX9_refuse 2 (some .int), .fieldLink RX9 70 "PatternGate" "lastStatus" "I", .methodLink RX9 80 yX9_refuse, .instanceMethod yX9_refuse, .selects RX9 yX9_refuse yX9_refuse, .initialized RX9] ++ wsX90 ++ wsX00)
theorem fin_X9_drop_X9 : ∀ w ∈ wsX90, w ∈ mwX9_drop := fun w h => List.mem_cons_of_mem _ (List.mem_append_left _ (List.mem_append_right _ h))
set_option maxRecDepth 20000 in
theorem mg_X9_drop_X0_docAt_123 : GoodIn mwX9_drop (wsV RX9 123 RX0 yX0_docAt mwX0_docAt) := goodIn_r _ [4, 5, 6, 7, 2, 3, 30, 31, 32] (by decide +kernel) (by decide +kernel)
set_option maxRecDepth 20000 in
theorem mg_X9_drop_X9_refuse_80 : GoodIn mwX9_drop (wsV RX9 80 RX9 yX9_refuse mwX9_refuse) := goodIn_r _ [10, 11, 12, 13, 8, 9, 14, 15, 16, 17, 18, 19, 20, 21, 22, 23, 24, 25, 26, 27, 28, 29] (by decide +kernel) (by decide +kernel)
set_option maxHeartbeats 4000000 in
set_option maxRecDepth 100000 in
/-- drop on a new object -/
theorem c_drop (l : Launch) (dC : Nat → ClassId) (dI : Nat → Nat → Nat) (x : Nat) (q : Nat → Nat) (b d0 p0 : Nat) (cT cD cP cB cU : ClassId) (r : Nat → Nat) (sz : Nat) (i0 : Int32) : Met l yX9_drop mwX9_drop ({ frames := 1, cells := 0, slots := 0, locals := 60 }) (va_Pc [.ref x, .int i0] (fun U => U.heap.size = sz ∧ va_P (dC, dI) vwCl (gW x q b d0 p0 cT cD cP cB cU r) U.heap ∧ va_K (dC, dI) vwCl (gT cT cD cP cB cU) U ∧ va_D (fun _ => True) (gW x q b d0 p0 cT cD cP cB cU r))) (va_Qi (fun (o : Int32) (_ : Unit) => o = (-1)) (fun _ _ => True) (va_A (gW x q b d0 p0 cT cD cP cB cU r) sz)) 0 0 (va_A (gW x q b d0 p0 cT cD cP cB cU r) sz) := by
  refine Met.ofW (cc := cX9_drop) (maxL := 2) (ret := (some .int)) (by decide +kernel) rfl ?_
  intro p e s m args below meth c s₁ B hml hv
  obtain ⟨rfl, hsz, hP, hK, hD0⟩ := hv
  have hx := B.exec
  have hb := B.bytes
  have hr := B.returns
  have hts := atoms_spec (ws := mwX9_drop) B.pre
  have hown : s.vm.findClass RX9 = some m.cls := findClass_of_methodNamed B.named
  have hlocks := B.notSynchronized
  subst hsz
  have hD := hD0.self (sz := s.heap.size)
  generalize hAe : va_A (gW x q b d0 p0 cT cD cP cB cU r) s.heap.size = A at hD ⊢
  have hA : ∀ q : Nat, s.heap.size ≤ q → A q := fun q h => by rw [← hAe]; exact Or.inr h
  have hP : va_P (dC, dI) vwCl [(x, .inr (9, gF q 0 0 (-1) (-1) b 0 0)), (q 0, .inl (cT, 900, .inl (fun _ => 0))), (b, .inr (0, [.ref d0, .ref p0, .null])), (d0, .inl (cD, 0, .inr (.inr (.inr (.inr (fun _ => none)))))), (p0, .inl (cP, 0, .inr (.inr (.inr (.inr (fun _ => none)))))), (q 1, .inl (cB, 3, .inr (.inr (.inr (.inr (fun _ => none)))))), (q 2, .inl (cU, 3, .inl (fun _ => 0))), (q 3, .inr (6, rF r 0 0 0 0 0 0 0 0))] s.heap := hP
  have hD : va_D A [(x, .inr (9, gF q 0 0 (-1) (-1) b 0 0)), (q 0, .inl (cT, 900, .inl (fun _ => 0))), (b, .inr (0, [.ref d0, .ref p0, .null])), (d0, .inl (cD, 0, .inr (.inr (.inr (.inr (fun _ => none)))))), (p0, .inl (cP, 0, .inr (.inr (.inr (.inr (fun _ => none)))))), (q 1, .inl (cB, 3, .inr (.inr (.inr (.inr (fun _ => none)))))), (q 2, .inl (cU, 3, .inl (fun _ => 0))), (q 3, .inr (6, rF r 0 0 0 0 0 0 0 0))] := hD
  have hK : va_K (dC, dI) vwCl [(cT, .int), (cD, .object "PatternGate$Doc"), (cP, .object "PatternGate$Pattern"), (cB, .object "PatternGate$Book"), (cU, .int)] s := hK
  generalize hH : s.heap = H at hP ⊢
  have hS : va_S A s.heap H [] := by rw [← hH]; exact va_S.rf
  have hl := lv_entry ([.ref x, .int i0]) (n := 2) (Nat.le_of_ble_eq_true rfl)
  rw [lg_entry_eq]
  generalize (lg_sl ([.ref x, .int i0]) ++ List.replicate (2 - (lg_sl ([.ref x, .int i0])).length) Slot.unset).toArray = ls at hl ⊢
  have hl : lv_has ls 2 [(0, .ref x), (1, .int i0)] := hl
  refine lv_aload_n hx hb dX9_drop_0 rfl (lv_at hl 0 rfl) ?_
  refine va_get (D := (dC, dI)) (ci := 9) (v := .ref b) (C := RX9) (T := TX9) (N := 16) hx hb hts fin_X9_drop_X9 hown hK hP 0 rfl rfl 5 (by decide) (hts (.fieldLink RX9 29 "PatternGate" "book" "LPatternGate$Book;") (List.mem_of_getElem? (i := 1) (by decide +kernel))) (fun _ h9 => h9) rfl dX9_drop_1 ?_
  refine lv_iload_n hx hb dX9_drop_4 rfl (lv_at hl 1 rfl) ?_
  have hPc := hP.sub (ws' := [(b, .inr (0, [.ref d0, .ref p0, .null])), (d0, .inl (cD, 0, .inr (.inr (.inr (.inr (fun _ => none)))))), (p0, .inl (cP, 0, .inr (.inr (.inr (.inr (fun _ => none))))))]) [2, 3, 4] rfl
  have hKc := hK.sub (tys' := [(cD, .object "PatternGate$Doc"), (cP, .object "PatternGate$Pattern")]) [1, 2] rfl
  refine va_csq (W.runV (As := [.int i0]) (rest := []) ⟨hx, hb, hml, hown, hts⟩ (c_docAt l dC dI b d0 p0 cD cP i0) (cwV 1 hts mg_X9_drop_X0_docAt_123 rfl rfl rfl (by decide +kernel) ⟨Nat.le_of_ble_eq_true rfl, Nat.le_of_ble_eq_true rfl⟩) ⟨fun a U g mk q => by obtain ⟨q0, qP, qK⟩ := q; exact ⟨q0, qP, va_K.moved (u := U) (U := U.calling g mk a) (Vm.Alike.refl U.vm) qK⟩, va_recv hKc hPc (ci := 0) (q0 := 0) rfl rfl, fun U hU hW => ⟨rfl, by rw [hU]; exact hPc, va_K.moved hW.alike hKc⟩⟩ rfl rfl hl.1 rfl (lv_room (Nat.le_of_ble_eq_true rfl)) dX9_drop_5 ⟨Nat.le_of_ble_eq_true rfl, Nat.le_of_ble_eq_true rfl⟩) (fun r_2 hw => ?_)
  subst hw
  refine W.eq (g2 := F0 m 8 ls [.null]) rfl ?_
  refine lv_ifnonnullN hx hb dX9_drop_8 ?_
  refine lv_aload_n hx hb dX9_drop_11 rfl (lv_at hl 0 rfl) ?_
  refine lv_iconst (v := 2) hx hb dX9_drop_12 (by decide) ?_
  have hPc := hP.sub (ws' := [(x, .inr (9, gF q 0 0 (-1) (-1) b 0 0))]) [0] rfl
  have hKc := hK.sub (tys' := []) [] rfl
  have hDc := hD.sub (ws' := [(x, .inr (9, gF q 0 0 (-1) (-1) b 0 0))]) [0] (by decide) rfl
  have hFc := va_free (wc := [(x, .inr (9, gF q 0 0 (-1) (-1) b 0 0))]) hD hS hA [0] rfl
  refine va_calli (va_runV (As := [.int 2]) (rest := []) ⟨hx, hb, hml, hown, hts⟩ (c_refuse l dC dI x q 0 0 (-1) (-1) b 0 0 H.size 2) (cwV 1 hts mg_X9_drop_X9_refuse_80 rfl rfl rfl (by decide +kernel) ⟨Nat.le_of_ble_eq_true rfl, Nat.le_of_ble_eq_true rfl⟩) ⟨fun a U g mk q => by obtain ⟨q0, q1, qP, qK, qD⟩ := q; exact ⟨q0, q1, qP, va_K.moved (u := U) (U := U.calling g mk a) (Vm.Alike.refl U.vm) qK, qD⟩, va_recv hKc hPc (ci := 9) (q0 := 0) rfl rfl, fun U hU hW => ⟨rfl, by rw [hU], by rw [hU]; exact hPc, va_K.moved hW.alike hKc, hDc.weaken (fun _ _ _ _ => trivial)⟩⟩ rfl rfl hl.1 rfl (lv_room (Nat.le_of_ble_eq_true rfl)) dX9_drop_13 ⟨Nat.le_of_ble_eq_true rfl, Nat.le_of_ble_eq_true rfl⟩) hS (fun q _ h => hFc q h) hFc (fun r_4 u t H1 locs ht hvm hw hB hz1 hk1 hS => ?_)
  exact W.iret hx hb hr (fun t ht hW => ⟨⟨_, (), rfl, hw, trivial⟩, hS.F ht⟩) hS.2.2 dX9_drop_16
theorem dX9_forget_0 : decode cX9_forget 0 = .ok (.aload_n 0, 1) := by decide +kernel
theorem dX9_forget_1 : decode cX9_forget 1 = .ok (.getfield 29, 3) := by decide +kernel
theorem dX9_forget_4 : decode cX9_forget 4 = .ok (.iload_n 1, 1) := by decide +kernel
theorem dX9_forget_5 : decode cX9_forget 5 = .ok (.invokevirtual 140, 3) := by decide +kernel
theorem dX9_forget_8 : decode cX9_forget 8 = .ok (.ifnonnull 9, 3) := by decide +kernel
theorem dX9_forget_11 : decode cX9_forget 11 = .ok (.aload_n 0, 1) := by decide +kernel
theorem dX9_forget_12 : decode cX9_forget 12 = .ok (.iconst 2, 1) := by decide +kernel
theorem dX9_forget_13 : decode cX9_forget 13 = .ok (.invokevirtual 80, 3) := by decide +kernel
theorem dX9_forget_16 : decode cX9_forget 16 = .ok (.ireturn, 1) := by decide +kernel
def mwX9_forget : List Cond := .code yX9_forget cX9_forget 2 (some .int) :: ([.fieldLink RX9 29 "PatternGate" "book" "LPatternGate$Book;", .code yX0_patternAt cX0_patternAt 2 (some (.object "PatternGate$Pattern")), .fieldLink RX0 13 "PatternGate$Book" "patterns" "[LPatternGate$Pattern;", .methodLink RX9 140 yX0_patternAt, .instanceMethod yX0_patternAt, .selects RX0 yX0_patternAt yX0_patternAt, .initialized RX0, .code yX9_refuse cX9_refuse 2 (some .int), .fieldLink RX9 70 "PatternGate" "lastStatus" "I", .methodLink RX9 80 yX9_refuse, .instanceMethod yX9_refuse, .selects RX9 yX9_refuse yX9_refuse, .initialized RX9] ++ wsX90 ++ wsX00)
theorem fin_X9_forget_X9 : ∀ w ∈ wsX90, w ∈ mwX9_forget := fun w h => List.mem_cons_of_mem _ (List.mem_append_left _ (List.mem_append_right _ h))
set_option maxRecDepth 20000 in
theorem mg_X9_forget_X0_patternAt_140 : GoodIn mwX9_forget (wsV RX9 140 RX0 yX0_patternAt mwX0_patternAt) := goodIn_r _ [4, 5, 6, 7, 2, 3, 30, 31, 32] (by decide +kernel) (by decide +kernel)
set_option maxRecDepth 20000 in
theorem mg_X9_forget_X9_refuse_80 : GoodIn mwX9_forget (wsV RX9 80 RX9 yX9_refuse mwX9_refuse) := goodIn_r _ [10, 11, 12, 13, 8, 9, 14, 15, 16, 17, 18, 19, 20, 21, 22, 23, 24, 25, 26, 27, 28, 29] (by decide +kernel) (by decide +kernel)
set_option maxHeartbeats 4000000 in
set_option maxRecDepth 100000 in
/-- forget on a new object -/
theorem c_forget (l : Launch) (dC : Nat → ClassId) (dI : Nat → Nat → Nat) (x : Nat) (q : Nat → Nat) (b d0 p0 : Nat) (cT cD cP cB cU : ClassId) (r : Nat → Nat) (sz : Nat) (i0 : Int32) : Met l yX9_forget mwX9_forget ({ frames := 1, cells := 0, slots := 0, locals := 60 }) (va_Pc [.ref x, .int i0] (fun U => U.heap.size = sz ∧ va_P (dC, dI) vwCl (gW x q b d0 p0 cT cD cP cB cU r) U.heap ∧ va_K (dC, dI) vwCl (gT cT cD cP cB cU) U ∧ va_D (fun _ => True) (gW x q b d0 p0 cT cD cP cB cU r))) (va_Qi (fun (o : Int32) (_ : Unit) => o = (-1)) (fun _ _ => True) (va_A (gW x q b d0 p0 cT cD cP cB cU r) sz)) 0 0 (va_A (gW x q b d0 p0 cT cD cP cB cU r) sz) := by
  refine Met.ofW (cc := cX9_forget) (maxL := 2) (ret := (some .int)) (by decide +kernel) rfl ?_
  intro p e s m args below meth c s₁ B hml hv
  obtain ⟨rfl, hsz, hP, hK, hD0⟩ := hv
  have hx := B.exec
  have hb := B.bytes
  have hr := B.returns
  have hts := atoms_spec (ws := mwX9_forget) B.pre
  have hown : s.vm.findClass RX9 = some m.cls := findClass_of_methodNamed B.named
  have hlocks := B.notSynchronized
  subst hsz
  have hD := hD0.self (sz := s.heap.size)
  generalize hAe : va_A (gW x q b d0 p0 cT cD cP cB cU r) s.heap.size = A at hD ⊢
  have hA : ∀ q : Nat, s.heap.size ≤ q → A q := fun q h => by rw [← hAe]; exact Or.inr h
  have hP : va_P (dC, dI) vwCl [(x, .inr (9, gF q 0 0 (-1) (-1) b 0 0)), (q 0, .inl (cT, 900, .inl (fun _ => 0))), (b, .inr (0, [.ref d0, .ref p0, .null])), (d0, .inl (cD, 0, .inr (.inr (.inr (.inr (fun _ => none)))))), (p0, .inl (cP, 0, .inr (.inr (.inr (.inr (fun _ => none)))))), (q 1, .inl (cB, 3, .inr (.inr (.inr (.inr (fun _ => none)))))), (q 2, .inl (cU, 3, .inl (fun _ => 0))), (q 3, .inr (6, rF r 0 0 0 0 0 0 0 0))] s.heap := hP
  have hD : va_D A [(x, .inr (9, gF q 0 0 (-1) (-1) b 0 0)), (q 0, .inl (cT, 900, .inl (fun _ => 0))), (b, .inr (0, [.ref d0, .ref p0, .null])), (d0, .inl (cD, 0, .inr (.inr (.inr (.inr (fun _ => none)))))), (p0, .inl (cP, 0, .inr (.inr (.inr (.inr (fun _ => none)))))), (q 1, .inl (cB, 3, .inr (.inr (.inr (.inr (fun _ => none)))))), (q 2, .inl (cU, 3, .inl (fun _ => 0))), (q 3, .inr (6, rF r 0 0 0 0 0 0 0 0))] := hD
  have hK : va_K (dC, dI) vwCl [(cT, .int), (cD, .object "PatternGate$Doc"), (cP, .object "PatternGate$Pattern"), (cB, .object "PatternGate$Book"), (cU, .int)] s := hK
  generalize hH : s.heap = H at hP ⊢
  have hS : va_S A s.heap H [] := by rw [← hH]; exact va_S.rf
  have hl := lv_entry ([.ref x, .int i0]) (n := 2) (Nat.le_of_ble_eq_true rfl)
  rw [lg_entry_eq]
  generalize (lg_sl ([.ref x, .int i0]) ++ List.replicate (2 - (lg_sl ([.ref x, .int i0])).length) Slot.unset).toArray = ls at hl ⊢
  have hl : lv_has ls 2 [(0, .ref x), (1, .int i0)] := hl
  refine lv_aload_n hx hb dX9_forget_0 rfl (lv_at hl 0 rfl) ?_
  refine va_get (D := (dC, dI)) (ci := 9) (v := .ref b) (C := RX9) (T := TX9) (N := 16) hx hb hts fin_X9_forget_X9 hown hK hP 0 rfl rfl 5 (by decide) (hts (.fieldLink RX9 29 "PatternGate" "book" "LPatternGate$Book;") (List.mem_of_getElem? (i := 1) (by decide +kernel))) (fun _ h9 => h9) rfl dX9_forget_1 ?_
  refine lv_iload_n hx hb dX9_forget_4 rfl (lv_at hl 1 rfl) ?_
  have hPc := hP.sub (ws' := [(b, .inr (0, [.ref d0, .ref p0, .null])), (d0, .inl (cD, 0, .inr (.inr (.inr (.inr (fun _ => none)))))), (p0, .inl (cP, 0, .inr (.inr (.inr (.inr (fun _ => none))))))]) [2, 3, 4] rfl
  have hKc := hK.sub (tys' := [(cD, .object "PatternGate$Doc"), (cP, .object "PatternGate$Pattern")]) [1, 2] rfl
  refine va_csq (W.runV (As := [.int i0]) (rest := []) ⟨hx, hb, hml, hown, hts⟩ (c_patternAt l dC dI b d0 p0 cD cP i0) (cwV 1 hts mg_X9_forget_X0_patternAt_140 rfl rfl rfl (by decide +kernel) ⟨Nat.le_of_ble_eq_true rfl, Nat.le_of_ble_eq_true rfl⟩) ⟨fun a U g mk q => by obtain ⟨q0, qP, qK⟩ := q; exact ⟨q0, qP, va_K.moved (u := U) (U := U.calling g mk a) (Vm.Alike.refl U.vm) qK⟩, va_recv hKc hPc (ci := 0) (q0 := 0) rfl rfl, fun U hU hW => ⟨rfl, by rw [hU]; exact hPc, va_K.moved hW.alike hKc⟩⟩ rfl rfl hl.1 rfl (lv_room (Nat.le_of_ble_eq_true rfl)) dX9_forget_5 ⟨Nat.le_of_ble_eq_true rfl, Nat.le_of_ble_eq_true rfl⟩) (fun r_2 hw => ?_)
  subst hw
  refine W.eq (g2 := F0 m 8 ls [.null]) rfl ?_
  refine lv_ifnonnullN hx hb dX9_forget_8 ?_
  refine lv_aload_n hx hb dX9_forget_11 rfl (lv_at hl 0 rfl) ?_
  refine lv_iconst (v := 2) hx hb dX9_forget_12 (by decide) ?_
  have hPc := hP.sub (ws' := [(x, .inr (9, gF q 0 0 (-1) (-1) b 0 0))]) [0] rfl
  have hKc := hK.sub (tys' := []) [] rfl
  have hDc := hD.sub (ws' := [(x, .inr (9, gF q 0 0 (-1) (-1) b 0 0))]) [0] (by decide) rfl
  have hFc := va_free (wc := [(x, .inr (9, gF q 0 0 (-1) (-1) b 0 0))]) hD hS hA [0] rfl
  refine va_calli (va_runV (As := [.int 2]) (rest := []) ⟨hx, hb, hml, hown, hts⟩ (c_refuse l dC dI x q 0 0 (-1) (-1) b 0 0 H.size 2) (cwV 1 hts mg_X9_forget_X9_refuse_80 rfl rfl rfl (by decide +kernel) ⟨Nat.le_of_ble_eq_true rfl, Nat.le_of_ble_eq_true rfl⟩) ⟨fun a U g mk q => by obtain ⟨q0, q1, qP, qK, qD⟩ := q; exact ⟨q0, q1, qP, va_K.moved (u := U) (U := U.calling g mk a) (Vm.Alike.refl U.vm) qK, qD⟩, va_recv hKc hPc (ci := 9) (q0 := 0) rfl rfl, fun U hU hW => ⟨rfl, by rw [hU], by rw [hU]; exact hPc, va_K.moved hW.alike hKc, hDc.weaken (fun _ _ _ _ => trivial)⟩⟩ rfl rfl hl.1 rfl (lv_room (Nat.le_of_ble_eq_true rfl)) dX9_forget_13 ⟨Nat.le_of_ble_eq_true rfl, Nat.le_of_ble_eq_true rfl⟩) hS (fun q _ h => hFc q h) hFc (fun r_4 u t H1 locs ht hvm hw hB hz1 hk1 hS => ?_)
  exact W.iret hx hb hr (fun t ht hW => ⟨⟨_, (), rfl, hw, trivial⟩, hS.F ht⟩) hS.2.2 dX9_forget_16
theorem dX9_would_0 : decode cX9_would 0 = .ok (.iload_n 3, 1) := by decide +kernel
theorem dX9_would_1 : decode cX9_would 1 = .ok (.invokestatic 239, 3) := by decide +kernel
theorem dX9_would_4 : decode cX9_would 4 = .ok (.ifCond .eq 7, 3) := by decide +kernel
theorem dX9_would_7 : decode cX9_would 7 = .ok (.iload_n 2, 1) := by decide +kernel
theorem dX9_would_8 : decode cX9_would 8 = .ok (.ifCond .ge 9, 3) := by decide +kernel
theorem dX9_would_11 : decode cX9_would 11 = .ok (.aload_n 0, 1) := by decide +kernel
theorem dX9_would_12 : decode cX9_would 12 = .ok (.iconst 1, 1) := by decide +kernel
theorem dX9_would_13 : decode cX9_would 13 = .ok (.invokevirtual 80, 3) := by decide +kernel
theorem dX9_would_16 : decode cX9_would 16 = .ok (.ireturn, 1) := by decide +kernel
theorem dX9_would_17 : decode cX9_would 17 = .ok (.aload_n 0, 1) := by decide +kernel
theorem dX9_would_18 : decode cX9_would 18 = .ok (.getfield 29, 3) := by decide +kernel
theorem dX9_would_21 : decode cX9_would 21 = .ok (.iload_n 1, 1) := by decide +kernel
theorem dX9_would_22 : decode cX9_would 22 = .ok (.invokevirtual 123, 3) := by decide +kernel
theorem dX9_would_25 : decode cX9_would 25 = .ok (.astore 4, 2) := by decide +kernel
theorem dX9_would_27 : decode cX9_would 27 = .ok (.aload 4, 2) := by decide +kernel
theorem dX9_would_29 : decode cX9_would 29 = .ok (.ifnonnull 9, 3) := by decide +kernel
theorem dX9_would_32 : decode cX9_would 32 = .ok (.aload_n 0, 1) := by decide +kernel
theorem dX9_would_33 : decode cX9_would 33 = .ok (.iconst 2, 1) := by decide +kernel
theorem dX9_would_34 : decode cX9_would 34 = .ok (.invokevirtual 80, 3) := by decide +kernel
theorem dX9_would_37 : decode cX9_would 37 = .ok (.ireturn, 1) := by decide +kernel
def mwX9_would : List Cond := .code yX9_would cX9_would 6 (some .int) :: ([.code yX9_isLetter cX9_isLetter 1 (some .boolean), .methodLink RX9 239 yX9_isLetter, .static yX9_isLetter, .initialized RX9, .code yX9_refuse cX9_refuse 2 (some .int), .fieldLink RX9 70 "PatternGate" "lastStatus" "I", .methodLink RX9 80 yX9_refuse, .instanceMethod yX9_refuse, .selects RX9 yX9_refuse yX9_refuse, .fieldLink RX9 29 "PatternGate" "book" "LPatternGate$Book;", .code yX0_docAt cX0_docAt 2 (some (.object "PatternGate$Doc")), .fieldLink RX0 7 "PatternGate$Book" "docs" "[LPatternGate$Doc;", .methodLink RX9 123 yX0_docAt, .instanceMethod yX0_docAt, .selects RX0 yX0_docAt yX0_docAt, .initialized RX0] ++ wsX90 ++ wsX00)
theorem fin_X9_would_X9 : ∀ w ∈ wsX90, w ∈ mwX9_would := fun w h => List.mem_cons_of_mem _ (List.mem_append_left _ (List.mem_append_right _ h))
set_option maxRecDepth 20000 in
theorem mg_X9_would_X9_isLetter_239 : GoodIn mwX9_would (va_wsS RX9 239 yX9_isLetter mwX9_isLetter) := goodIn_r _ [2, 3, 4, 1] (by decide +kernel) (by decide +kernel)
set_option maxRecDepth 20000 in
theorem mg_X9_would_X9_refuse_80 : GoodIn mwX9_would (wsV RX9 80 RX9 yX9_refuse mwX9_refuse) := goodIn_r _ [7, 8, 9, 4, 5, 6, 17, 18, 19, 20, 21, 22, 23, 24, 25, 26, 27, 28, 29, 30, 31, 32] (by decide +kernel) (by decide +kernel)
set_option maxRecDepth 20000 in
theorem mg_X9_would_X0_docAt_123 : GoodIn mwX9_would (wsV RX9 123 RX0 yX0_docAt mwX0_docAt) := goodIn_r _ [13, 14, 15, 16, 11, 12, 33, 34, 35] (by decide +kernel) (by decide +kernel)
set_option maxHeartbeats 4000000 in
set_option maxRecDepth 100000 in
/-- would on a new object -/
theorem c_would (l : Launch) (dC : Nat → ClassId) (dI : Nat → Nat → Nat) (x : Nat) (q : Nat → Nat) (b d0 p0 : Nat) (cT cD cP cB cU : ClassId) (r : Nat → Nat) (sz : Nat) (i0 i1 i2 : Int32) : Met l yX9_would mwX9_would ({ frames := 1, cells := 0, slots := 0, locals := 60 }) (va_Pc [.ref x, .int i0, .int i1, .int i2] (fun U => U.heap.size = sz ∧ va_P (dC, dI) vwCl (gW x q b d0 p0 cT cD cP cB cU r) U.heap ∧ va_K (dC, dI) vwCl (gT cT cD cP cB cU) U ∧ va_D (fun _ => True) (gW x q b d0 p0 cT cD cP cB cU r))) (va_Qi (fun (o : Int32) (_ : Unit) => o = (-1)) (fun _ _ => True) (va_A (gW x q b d0 p0 cT cD cP cB cU r) sz)) 0 0 (va_A (gW x q b d0 p0 cT cD cP cB cU r) sz) := by
  refine Met.ofW (cc := cX9_would) (maxL := 6) (ret := (some .int)) (by decide +kernel) rfl ?_
  intro p e s m args below meth c s₁ B hml hv
  obtain ⟨rfl, hsz, hP, hK, hD0⟩ := hv
  have hx := B.exec
  have hb := B.bytes
  have hr := B.returns
  have hts := atoms_spec (ws := mwX9_would) B.pre
  have hown : s.vm.findClass RX9 = some m.cls := findClass_of_methodNamed B.named
  have hlocks := B.notSynchronized
  subst hsz
  have hD := hD0.self (sz := s.heap.size)
  generalize hAe : va_A (gW x q b d0 p0 cT cD cP cB cU r) s.heap.size = A at hD ⊢
  have hA : ∀ q : Nat, s.heap.size ≤ q → A q := fun q h => by rw [← hAe]; exact Or.inr h
  have hP : va_P (dC, dI) vwCl [(x, .inr (9, gF q 0 0 (-1) (-1) b 0 0)), (q 0, .inl (cT, 900, .inl (fun _ => 0))), (b, .inr (0, [.ref d0, .ref p0, .null])), (d0, .inl (cD, 0, .inr (.inr (.inr (.inr (fun _ => none)))))), (p0, .inl (cP, 0, .inr (.inr (.inr (.inr (fun _ => none)))))), (q 1, .inl (cB, 3, .inr (.inr (.inr (.inr (fun _ => none)))))), (q 2, .inl (cU, 3, .inl (fun _ => 0))), (q 3, .inr (6, rF r 0 0 0 0 0 0 0 0))] s.heap := hP
  have hD : va_D A [(x, .inr (9, gF q 0 0 (-1) (-1) b 0 0)), (q 0, .inl (cT, 900, .inl (fun _ => 0))), (b, .inr (0, [.ref d0, .ref p0, .null])), (d0, .inl (cD, 0, .inr (.inr (.inr (.inr (fun _ => none)))))), (p0, .inl (cP, 0, .inr (.inr (.inr (.inr (fun _ => none)))))), (q 1, .inl (cB, 3, .inr (.inr (.inr (.inr (fun _ => none)))))), (q 2, .inl (cU, 3, .inl (fun _ => 0))), (q 3, .inr (6, rF r 0 0 0 0 0 0 0 0))] := hD
  have hK : va_K (dC, dI) vwCl [(cT, .int), (cD, .object "PatternGate$Doc"), (cP, .object "PatternGate$Pattern"), (cB, .object "PatternGate$Book"), (cU, .int)] s := hK
  generalize hH : s.heap = H at hP ⊢
  have hS : va_S A s.heap H [] := by rw [← hH]; exact va_S.rf
  have hl := lv_entry ([.ref x, .int i0, .int i1, .int i2]) (n := 6) (Nat.le_of_ble_eq_true rfl)
  rw [lg_entry_eq]
  generalize (lg_sl ([.ref x, .int i0, .int i1, .int i2]) ++ List.replicate (6 - (lg_sl ([.ref x, .int i0, .int i1, .int i2])).length) Slot.unset).toArray = ls at hl ⊢
  have hl : lv_has ls 6 [(0, .ref x), (1, .int i0), (2, .int i1), (3, .int i2)] := hl
  refine lv_iload_n hx hb dX9_would_0 rfl (lv_at hl 3 rfl) ?_
  refine vp_callSi (W.runS (As := [.int i2]) (rest := []) ⟨hx, hb, hml, hown, hts⟩ (c_isLetter l dC dI i2) (va_cwS 1 hts mg_X9_would_X9_isLetter_239 rfl rfl rfl (by decide +kernel) ⟨Nat.le_of_ble_eq_true rfl, Nat.le_of_ble_eq_true rfl⟩) ⟨fun a U g mk q => ⟨q.1, trivial⟩, fun U hU hW => ⟨rfl, trivial⟩⟩ rfl rfl hl.1 rfl (lv_room (Nat.le_of_ble_eq_true rfl)) dX9_would_1 ⟨Nat.le_of_ble_eq_true rfl, Nat.le_of_ble_eq_true rfl⟩) (fun r_2 hw => ?_)
  rcases hw with rfl | rfl
  · refine lv_if_eq (tgt := 11) hx hb dX9_would_4 (by decide) (fun k_3 => ?_) (fun k_3 => absurd (by decide) k_3)
    refine lv_aload_n hx hb dX9_would_11 rfl (lv_at hl 0 rfl) ?_
    refine lv_iconst (v := 1) hx hb dX9_would_12 (by decide) ?_
    have hPc := hP.sub (ws' := [(x, .inr (9, gF q 0 0 (-1) (-1) b 0 0))]) [0] rfl
    have hKc := hK.sub (tys' := []) [] rfl
    have hDc := hD.sub (ws' := [(x, .inr (9, gF q 0 0 (-1) (-1) b 0 0))]) [0] (by decide) rfl
    have hFc := va_free (wc := [(x, .inr (9, gF q 0 0 (-1) (-1) b 0 0))]) hD hS hA [0] rfl
    refine va_calli (va_runV (As := [.int 1]) (rest := []) ⟨hx, hb, hml, hown, hts⟩ (c_refuse l dC dI x q 0 0 (-1) (-1) b 0 0 H.size 1) (cwV 1 hts mg_X9_would_X9_refuse_80 rfl rfl rfl (by decide +kernel) ⟨Nat.le_of_ble_eq_true rfl, Nat.le_of_ble_eq_true rfl⟩) ⟨fun a U g mk q => by obtain ⟨q0, q1, qP, qK, qD⟩ := q; exact ⟨q0, q1, qP, va_K.moved (u := U) (U := U.calling g mk a) (Vm.Alike.refl U.vm) qK, qD⟩, va_recv hKc hPc (ci := 9) (q0 := 0) rfl rfl, fun U hU hW => ⟨rfl, by rw [hU], by rw [hU]; exact hPc, va_K.moved hW.alike hKc, hDc.weaken (fun _ _ _ _ => trivial)⟩⟩ rfl rfl hl.1 rfl (lv_room (Nat.le_of_ble_eq_true rfl)) dX9_would_13 ⟨Nat.le_of_ble_eq_true rfl, Nat.le_of_ble_eq_true rfl⟩) hS (fun q _ h => hFc q h) hFc (fun r_5 u t H1 locs ht hvm hw hB hz1 hk1 hS => ?_)
    exact W.iret hx hb hr (fun t ht hW => ⟨⟨_, (), rfl, hw, trivial⟩, hS.F ht⟩) hS.2.2 dX9_would_16
  · refine lv_if_eq (tgt := 11) hx hb dX9_would_4 (by decide) (fun k_6 => absurd k_6 (by decide)) (fun k_6 => ?_)
    refine lv_iload_n hx hb dX9_would_7 rfl (lv_at hl 2 rfl) ?_
    refine lv_if_ge (tgt := 17) hx hb dX9_would_8 (by decide) (fun k_7 => ?_) (fun k_7 => ?_)
    · refine lv_aload_n hx hb dX9_would_17 rfl (lv_at hl 0 rfl) ?_
      refine va_get (D := (dC, dI)) (ci := 9) (v := .ref b) (C := RX9) (T := TX9) (N := 16) hx hb hts fin_X9_would_X9 hown hK hP 0 rfl rfl 5 (by decide) (hts (.fieldLink RX9 29 "PatternGate" "book" "LPatternGate$Book;") (List.mem_of_getElem? (i := 10) (by decide +kernel))) (fun _ h9 => h9) rfl dX9_would_18 ?_
      refine lv_iload_n hx hb dX9_would_21 rfl (lv_at hl 1 rfl) ?_
      have hPc := hP.sub (ws' := [(b, .inr (0, [.ref d0, .ref p0, .null])), (d0, .inl (cD, 0, .inr (.inr (.inr (.inr (fun _ => none)))))), (p0, .inl (cP, 0, .inr (.inr (.inr (.inr (fun _ => none))))))]) [2, 3, 4] rfl
      have hKc := hK.sub (tys' := [(cD, .object "PatternGate$Doc"), (cP, .object "PatternGate$Pattern")]) [1, 2] rfl
      refine va_csq (W.runV (As := [.int i0]) (rest := []) ⟨hx, hb, hml, hown, hts⟩ (c_docAt l dC dI b d0 p0 cD cP i0) (cwV 1 hts mg_X9_would_X0_docAt_123 rfl rfl rfl (by decide +kernel) ⟨Nat.le_of_ble_eq_true rfl, Nat.le_of_ble_eq_true rfl⟩) ⟨fun a U g mk q => by obtain ⟨q0, qP, qK⟩ := q; exact ⟨q0, qP, va_K.moved (u := U) (U := U.calling g mk a) (Vm.Alike.refl U.vm) qK⟩, va_recv hKc hPc (ci := 0) (q0 := 0) rfl rfl, fun U hU hW => ⟨rfl, by rw [hU]; exact hPc, va_K.moved hW.alike hKc⟩⟩ rfl rfl hl.1 rfl (lv_room (Nat.le_of_ble_eq_true rfl)) dX9_would_22 ⟨Nat.le_of_ble_eq_true rfl, Nat.le_of_ble_eq_true rfl⟩) (fun r_9 hw => ?_)
      subst hw
      refine W.eq (g2 := F0 m 25 ls [.null]) rfl ?_
      refine lv_astoreN (lv' := [(4, .null), (0, .ref x), (1, .int i0), (2, .int i1), (3, .int i2)]) hx hb dX9_would_25 hl (by decide) rfl (fun ls hl => ?_)
      refine lv_aloadN hx hb dX9_would_27 (lv_at hl 0 rfl) ?_
      refine lv_ifnonnullN hx hb dX9_would_29 ?_
      refine lv_aload_n hx hb dX9_would_32 rfl (lv_at hl 1 rfl) ?_
      refine lv_iconst (v := 2) hx hb dX9_would_33 (by decide) ?_
      have hPc := hP.sub (ws' := [(x, .inr (9, gF q 0 0 (-1) (-1) b 0 0))]) [0] rfl
      have hKc := hK.sub (tys' := []) [] rfl
      have hDc := hD.sub (ws' := [(x, .inr (9, gF q 0 0 (-1) (-1) b 0 0))]) [0] (by decide) rfl
      have hFc := va_free (wc := [(x, .inr (9, gF q 0 0 (-1) (-1) b 0 0))]) hD hS hA [0] rfl
      refine va_calli (va_runV (As := [.int 2]) (rest := []) ⟨hx, hb, hml, hown, hts⟩ (c_refuse l dC dI x q 0 0 (-1) (-1) b 0 0 H.size 2) (cwV 1 hts mg_X9_would_X9_refuse_80 rfl rfl rfl (by decide +kernel) ⟨Nat.le_of_ble_eq_true rfl, Nat.le_of_ble_eq_true rfl⟩) ⟨fun a U g mk q => by obtain ⟨q0, q1, qP, qK, qD⟩ := q; exact ⟨q0, q1, qP, va_K.moved (u := U) (U := U.calling g mk a) (Vm.Alike.refl U.vm) qK, qD⟩, va_recv hKc hPc (ci := 9) (q0 := 0) rfl rfl, fun U hU hW => ⟨rfl, by rw [hU], by rw [hU]; exact hPc, va_K.moved hW.alike hKc, hDc.weaken (fun _ _ _ _ => trivial)⟩⟩ rfl rfl hl.1 rfl (lv_room (Nat.le_of_ble_eq_true rfl)) dX9_would_34 ⟨Nat.le_of_ble_eq_true rfl, Nat.le_of_ble_eq_true rfl⟩) hS (fun q _ h => hFc q h) hFc (fun r_11 u t H1 locs ht hvm hw hB hz1 hk1 hS => ?_)
      exact W.iret hx hb hr (fun t ht hW => ⟨⟨_, (), rfl, hw, trivial⟩, hS.F ht⟩) hS.2.2 dX9_would_37
    · refine lv_aload_n hx hb dX9_would_11 rfl (lv_at hl 0 rfl) ?_
      refine lv_iconst (v := 1) hx hb dX9_would_12 (by decide) ?_
      have hPc := hP.sub (ws' := [(x, .inr (9, gF q 0 0 (-1) (-1) b 0 0))]) [0] rfl
      have hKc := hK.sub (tys' := []) [] rfl
      have hDc := hD.sub (ws' := [(x, .inr (9, gF q 0 0 (-1) (-1) b 0 0))]) [0] (by decide) rfl
      have hFc := va_free (wc := [(x, .inr (9, gF q 0 0 (-1) (-1) b 0 0))]) hD hS hA [0] rfl
      refine va_calli (va_runV (As := [.int 1]) (rest := []) ⟨hx, hb, hml, hown, hts⟩ (c_refuse l dC dI x q 0 0 (-1) (-1) b 0 0 H.size 1) (cwV 1 hts mg_X9_would_X9_refuse_80 rfl rfl rfl (by decide +kernel) ⟨Nat.le_of_ble_eq_true rfl, Nat.le_of_ble_eq_true rfl⟩) ⟨fun a U g mk q => by obtain ⟨q0, q1, qP, qK, qD⟩ := q; exact ⟨q0, q1, qP, va_K.moved (u := U) (U := U.calling g mk a) (Vm.Alike.refl U.vm) qK, qD⟩, va_recv hKc hPc (ci := 9) (q0 := 0) rfl rfl, fun U hU hW => ⟨rfl, by rw [hU], by rw [hU]; exact hPc, va_K.moved hW.alike hKc, hDc.weaken (fun _ _ _ _ => trivial)⟩⟩ rfl rfl hl.1 rfl (lv_room (Nat.le_of_ble_eq_true rfl)) dX9_would_13 ⟨Nat.le_of_ble_eq_true rfl, Nat.le_of_ble_eq_true rfl⟩) hS (fun q _ h => hFc q h) hFc (fun r_13 u t H1 locs ht hvm hw hB hz1 hk1 hS => ?_)
      exact W.iret hx hb hr (fun t ht hW => ⟨⟨_, (), rfl, hw, trivial⟩, hS.F ht⟩) hS.2.2 dX9_would_16
theorem dX9_best_0 : decode cX9_best 0 = .ok (.iload_n 2, 1) := by decide +kernel
theorem dX9_best_1 : decode cX9_best 1 = .ok (.ifCond .ge 9, 3) := by decide +kernel
theorem dX9_best_4 : decode cX9_best 4 = .ok (.aload_n 0, 1) := by decide +kernel
theorem dX9_best_5 : decode cX9_best 5 = .ok (.iconst 1, 1) := by decide +kernel
theorem dX9_best_6 : decode cX9_best 6 = .ok (.invokevirtual 80, 3) := by decide +kernel
theorem dX9_best_9 : decode cX9_best 9 = .ok (.ireturn, 1) := by decide +kernel
theorem dX9_best_10 : decode cX9_best 10 = .ok (.aload_n 0, 1) := by decide +kernel
theorem dX9_best_11 : decode cX9_best 11 = .ok (.getfield 29, 3) := by decide +kernel
theorem dX9_best_14 : decode cX9_best 14 = .ok (.iload_n 1, 1) := by decide +kernel
theorem dX9_best_15 : decode cX9_best 15 = .ok (.invokevirtual 123, 3) := by decide +kernel
theorem dX9_best_18 : decode cX9_best 18 = .ok (.astore_n 3, 1) := by decide +kernel
theorem dX9_best_19 : decode cX9_best 19 = .ok (.aload_n 3, 1) := by decide +kernel
theorem dX9_best_20 : decode cX9_best 20 = .ok (.ifnonnull 9, 3) := by decide +kernel
theorem dX9_best_23 : decode cX9_best 23 = .ok (.aload_n 0, 1) := by decide +kernel
theorem dX9_best_24 : decode cX9_best 24 = .ok (.iconst 2, 1) := by decide +kernel
theorem dX9_best_25 : decode cX9_best 25 = .ok (.invokevirtual 80, 3) := by decide +kernel
theorem dX9_best_28 : decode cX9_best 28 = .ok (.ireturn, 1) := by decide +kernel
def mwX9_best : List Cond := .code yX9_best cX9_best 6 (some .int) :: ([.fieldLink RX9 29 "PatternGate" "book" "LPatternGate$Book;", .code yX0_docAt cX0_docAt 2 (some (.object "PatternGate$Doc")), .fieldLink RX0 7 "PatternGate$Book" "docs" "[LPatternGate$Doc;", .methodLink RX9 123 yX0_docAt, .instanceMethod yX0_docAt, .selects RX0 yX0_docAt yX0_docAt, .initialized RX0, .code yX9_refuse cX9_refuse 2 (some .int), .fieldLink RX9 70 "PatternGate" "lastStatus" "I", .methodLink RX9 80 yX9_refuse, .instanceMethod yX9_refuse, .selects RX9 yX9_refuse yX9_refuse, .initialized RX9] ++ wsX90 ++ wsX00)
theorem fin_X9_best_X9 : ∀ w ∈ wsX90, w ∈ mwX9_best := fun w h => List.mem_cons_of_mem _ (List.mem_append_left _ (List.mem_append_right _ h))
set_option maxRecDepth 20000 in
theorem mg_X9_best_X0_docAt_123 : GoodIn mwX9_best (wsV RX9 123 RX0 yX0_docAt mwX0_docAt) := goodIn_r _ [4, 5, 6, 7, 2, 3, 30, 31, 32] (by decide +kernel) (by decide +kernel)
set_option maxRecDepth 20000 in
theorem mg_X9_best_X9_refuse_80 : GoodIn mwX9_best (wsV RX9 80 RX9 yX9_refuse mwX9_refuse) := goodIn_r _ [10, 11, 12, 13, 8, 9, 14, 15, 16, 17, 18, 19, 20, 21, 22, 23, 24, 25, 26, 27, 28, 29] (by decide +kernel) (by decide +kernel)
set_option maxHeartbeats 4000000 in
set_option maxRecDepth 100000 in
/-- best on a new object -/
theorem c_best (l : Launch) (dC : Nat → ClassId) (dI : Nat → Nat → Nat) (x : Nat) (q : Nat → Nat) (b d0 p0 : Nat) (cT cD cP cB cU : ClassId) (r : Nat → Nat) (sz : Nat) (i0 i1 : Int32) : Met l yX9_best mwX9_best ({ frames := 1, cells := 0, slots := 0, locals := 60 }) (va_Pc [.ref x, .int i0, .int i1] (fun U => U.heap.size = sz ∧ va_P (dC, dI) vwCl (gW x q b d0 p0 cT cD cP cB cU r) U.heap ∧ va_K (dC, dI) vwCl (gT cT cD cP cB cU) U ∧ va_D (fun _ => True) (gW x q b d0 p0 cT cD cP cB cU r))) (va_Qi (fun (o : Int32) (_ : Unit) => o = (-1)) (fun _ _ => True) (va_A (gW x q b d0 p0 cT cD cP cB cU r) sz)) 0 0 (va_A (gW x q b d0 p0 cT cD cP cB cU r) sz) := by
  refine Met.ofW (cc := cX9_best) (maxL := 6) (ret := (some .int)) (by decide +kernel) rfl ?_
  intro p e s m args below meth c s₁ B hml hv
  obtain ⟨rfl, hsz, hP, hK, hD0⟩ := hv
  have hx := B.exec
  have hb := B.bytes
  have hr := B.returns
  have hts := atoms_spec (ws := mwX9_best) B.pre
  have hown : s.vm.findClass RX9 = some m.cls := findClass_of_methodNamed B.named
  have hlocks := B.notSynchronized
  subst hsz
  have hD := hD0.self (sz := s.heap.size)
  generalize hAe : va_A (gW x q b d0 p0 cT cD cP cB cU r) s.heap.size = A at hD ⊢
  have hA : ∀ q : Nat, s.heap.size ≤ q → A q := fun q h => by rw [← hAe]; exact Or.inr h
  have hP : va_P (dC, dI) vwCl [(x, .inr (9, gF q 0 0 (-1) (-1) b 0 0)), (q 0, .inl (cT, 900, .inl (fun _ => 0))), (b, .inr (0, [.ref d0, .ref p0, .null])), (d0, .inl (cD, 0, .inr (.inr (.inr (.inr (fun _ => none)))))), (p0, .inl (cP, 0, .inr (.inr (.inr (.inr (fun _ => none)))))), (q 1, .inl (cB, 3, .inr (.inr (.inr (.inr (fun _ => none)))))), (q 2, .inl (cU, 3, .inl (fun _ => 0))), (q 3, .inr (6, rF r 0 0 0 0 0 0 0 0))] s.heap := hP
  have hD : va_D A [(x, .inr (9, gF q 0 0 (-1) (-1) b 0 0)), (q 0, .inl (cT, 900, .inl (fun _ => 0))), (b, .inr (0, [.ref d0, .ref p0, .null])), (d0, .inl (cD, 0, .inr (.inr (.inr (.inr (fun _ => none)))))), (p0, .inl (cP, 0, .inr (.inr (.inr (.inr (fun _ => none)))))), (q 1, .inl (cB, 3, .inr (.inr (.inr (.inr (fun _ => none)))))), (q 2, .inl (cU, 3, .inl (fun _ => 0))), (q 3, .inr (6, rF r 0 0 0 0 0 0 0 0))] := hD
  have hK : va_K (dC, dI) vwCl [(cT, .int), (cD, .object "PatternGate$Doc"), (cP, .object "PatternGate$Pattern"), (cB, .object "PatternGate$Book"), (cU, .int)] s := hK
  generalize hH : s.heap = H at hP ⊢
  have hS : va_S A s.heap H [] := by rw [← hH]; exact va_S.rf
  have hl := lv_entry ([.ref x, .int i0, .int i1]) (n := 6) (Nat.le_of_ble_eq_true rfl)
  rw [lg_entry_eq]
  generalize (lg_sl ([.ref x, .int i0, .int i1]) ++ List.replicate (6 - (lg_sl ([.ref x, .int i0, .int i1])).length) Slot.unset).toArray = ls at hl ⊢
  have hl : lv_has ls 6 [(0, .ref x), (1, .int i0), (2, .int i1)] := hl
  refine lv_iload_n hx hb dX9_best_0 rfl (lv_at hl 2 rfl) ?_
  refine lv_if_ge (tgt := 10) hx hb dX9_best_1 (by decide) (fun k_1 => ?_) (fun k_1 => ?_)
  · refine lv_aload_n hx hb dX9_best_10 rfl (lv_at hl 0 rfl) ?_
    refine va_get (D := (dC, dI)) (ci := 9) (v := .ref b) (C := RX9) (T := TX9) (N := 16) hx hb hts fin_X9_best_X9 hown hK hP 0 rfl rfl 5 (by decide) (hts (.fieldLink RX9 29 "PatternGate" "book" "LPatternGate$Book;") (List.mem_of_getElem? (i := 1) (by decide +kernel))) (fun _ h9 => h9) rfl dX9_best_11 ?_
    refine lv_iload_n hx hb dX9_best_14 rfl (lv_at hl 1 rfl) ?_
    have hPc := hP.sub (ws' := [(b, .inr (0, [.ref d0, .ref p0, .null])), (d0, .inl (cD, 0, .inr (.inr (.inr (.inr (fun _ => none)))))), (p0, .inl (cP, 0, .inr (.inr (.inr (.inr (fun _ => none))))))]) [2, 3, 4] rfl
    have hKc := hK.sub (tys' := [(cD, .object "PatternGate$Doc"), (cP, .object "PatternGate$Pattern")]) [1, 2] rfl
    refine va_csq (W.runV (As := [.int i0]) (rest := []) ⟨hx, hb, hml, hown, hts⟩ (c_docAt l dC dI b d0 p0 cD cP i0) (cwV 1 hts mg_X9_best_X0_docAt_123 rfl rfl rfl (by decide +kernel) ⟨Nat.le_of_ble_eq_true rfl, Nat.le_of_ble_eq_true rfl⟩) ⟨fun a U g mk q => by obtain ⟨q0, qP, qK⟩ := q; exact ⟨q0, qP, va_K.moved (u := U) (U := U.calling g mk a) (Vm.Alike.refl U.vm) qK⟩, va_recv hKc hPc (ci := 0) (q0 := 0) rfl rfl, fun U hU hW => ⟨rfl, by rw [hU]; exact hPc, va_K.moved hW.alike hKc⟩⟩ rfl rfl hl.1 rfl (lv_room (Nat.le_of_ble_eq_true rfl)) dX9_best_15 ⟨Nat.le_of_ble_eq_true rfl, Nat.le_of_ble_eq_true rfl⟩) (fun r_3 hw => ?_)
    subst hw
    refine W.eq (g2 := F0 m 18 ls [.null]) rfl ?_
    refine lv_astore_nN (lv' := [(3, .null), (0, .ref x), (1, .int i0), (2, .int i1)]) hx hb dX9_best_18 rfl hl (by decide) rfl (fun ls hl => ?_)
    refine lv_aload_nN hx hb dX9_best_19 rfl (lv_at hl 0 rfl) ?_
    refine lv_ifnonnullN hx hb dX9_best_20 ?_
    refine lv_aload_n hx hb dX9_best_23 rfl (lv_at hl 1 rfl) ?_
    refine lv_iconst (v := 2) hx hb dX9_best_24 (by decide) ?_
    have hPc := hP.sub (ws' := [(x, .inr (9, gF q 0 0 (-1) (-1) b 0 0))]) [0] rfl
    have hKc := hK.sub (tys' := []) [] rfl
    have hDc := hD.sub (ws' := [(x, .inr (9, gF q 0 0 (-1) (-1) b 0 0))]) [0] (by decide) rfl
    have hFc := va_free (wc := [(x, .inr (9, gF q 0 0 (-1) (-1) b 0 0))]) hD hS hA [0] rfl
    refine va_calli (va_runV (As := [.int 2]) (rest := []) ⟨hx, hb, hml, hown, hts⟩ (c_refuse l dC dI x q 0 0 (-1) (-1) b 0 0 H.size 2) (cwV 1 hts mg_X9_best_X9_refuse_80 rfl rfl rfl (by decide +kernel) ⟨Nat.le_of_ble_eq_true rfl, Nat.le_of_ble_eq_true rfl⟩) ⟨fun a U g mk q => by obtain ⟨q0, q1, qP, qK, qD⟩ := q; exact ⟨q0, q1, qP, va_K.moved (u := U) (U := U.calling g mk a) (Vm.Alike.refl U.vm) qK, qD⟩, va_recv hKc hPc (ci := 9) (q0 := 0) rfl rfl, fun U hU hW => ⟨rfl, by rw [hU], by rw [hU]; exact hPc, va_K.moved hW.alike hKc, hDc.weaken (fun _ _ _ _ => trivial)⟩⟩ rfl rfl hl.1 rfl (lv_room (Nat.le_of_ble_eq_true rfl)) dX9_best_25 ⟨Nat.le_of_ble_eq_true rfl, Nat.le_of_ble_eq_true rfl⟩) hS (fun q _ h => hFc q h) hFc (fun r_5 u t H1 locs ht hvm hw hB hz1 hk1 hS => ?_)
    exact W.iret hx hb hr (fun t ht hW => ⟨⟨_, (), rfl, hw, trivial⟩, hS.F ht⟩) hS.2.2 dX9_best_28
  · refine lv_aload_n hx hb dX9_best_4 rfl (lv_at hl 0 rfl) ?_
    refine lv_iconst (v := 1) hx hb dX9_best_5 (by decide) ?_
    have hPc := hP.sub (ws' := [(x, .inr (9, gF q 0 0 (-1) (-1) b 0 0))]) [0] rfl
    have hKc := hK.sub (tys' := []) [] rfl
    have hDc := hD.sub (ws' := [(x, .inr (9, gF q 0 0 (-1) (-1) b 0 0))]) [0] (by decide) rfl
    have hFc := va_free (wc := [(x, .inr (9, gF q 0 0 (-1) (-1) b 0 0))]) hD hS hA [0] rfl
    refine va_calli (va_runV (As := [.int 1]) (rest := []) ⟨hx, hb, hml, hown, hts⟩ (c_refuse l dC dI x q 0 0 (-1) (-1) b 0 0 H.size 1) (cwV 1 hts mg_X9_best_X9_refuse_80 rfl rfl rfl (by decide +kernel) ⟨Nat.le_of_ble_eq_true rfl, Nat.le_of_ble_eq_true rfl⟩) ⟨fun a U g mk q => by obtain ⟨q0, q1, qP, qK, qD⟩ := q; exact ⟨q0, q1, qP, va_K.moved (u := U) (U := U.calling g mk a) (Vm.Alike.refl U.vm) qK, qD⟩, va_recv hKc hPc (ci := 9) (q0 := 0) rfl rfl, fun U hU hW => ⟨rfl, by rw [hU], by rw [hU]; exact hPc, va_K.moved hW.alike hKc, hDc.weaken (fun _ _ _ _ => trivial)⟩⟩ rfl rfl hl.1 rfl (lv_room (Nat.le_of_ble_eq_true rfl)) dX9_best_6 ⟨Nat.le_of_ble_eq_true rfl, Nat.le_of_ble_eq_true rfl⟩) hS (fun q _ h => hFc q h) hFc (fun r_7 u t H1 locs ht hvm hw hB hz1 hk1 hS => ?_)
    exact W.iret hx hb hr (fun t ht hW => ⟨⟨_, (), rfl, hw, trivial⟩, hS.F ht⟩) hS.2.2 dX9_best_9
theorem dX9_document_0 : decode cX9_document 0 = .ok (.iload_n 2, 1) := by decide +kernel
theorem dX9_document_1 : decode cX9_document 1 = .ok (.ifCond .lt 8, 3) := by decide +kernel
theorem dX9_document_4 : decode cX9_document 4 = .ok (.iload_n 2, 1) := by decide +kernel
theorem dX9_document_5 : decode cX9_document 5 = .ok (.iconst 3, 1) := by decide +kernel
theorem dX9_document_6 : decode cX9_document 6 = .ok (.if_icmp .le 9, 3) := by decide +kernel
theorem dX9_document_9 : decode cX9_document 9 = .ok (.aload_n 0, 1) := by decide +kernel
theorem dX9_document_10 : decode cX9_document 10 = .ok (.iconst 1, 1) := by decide +kernel
theorem dX9_document_11 : decode cX9_document 11 = .ok (.invokevirtual 80, 3) := by decide +kernel
theorem dX9_document_14 : decode cX9_document 14 = .ok (.ireturn, 1) := by decide +kernel
theorem dX9_document_15 : decode cX9_document 15 = .ok (.aload_n 0, 1) := by decide +kernel
theorem dX9_document_16 : decode cX9_document 16 = .ok (.getfield 29, 3) := by decide +kernel
theorem dX9_document_19 : decode cX9_document 19 = .ok (.iload_n 1, 1) := by decide +kernel
theorem dX9_document_20 : decode cX9_document 20 = .ok (.invokevirtual 123, 3) := by decide +kernel
theorem dX9_document_23 : decode cX9_document 23 = .ok (.astore_n 3, 1) := by decide +kernel
theorem dX9_document_24 : decode cX9_document 24 = .ok (.aload_n 3, 1) := by decide +kernel
theorem dX9_document_25 : decode cX9_document 25 = .ok (.ifnonnull 9, 3) := by decide +kernel
theorem dX9_document_28 : decode cX9_document 28 = .ok (.aload_n 0, 1) := by decide +kernel
theorem dX9_document_29 : decode cX9_document 29 = .ok (.iconst 2, 1) := by decide +kernel
theorem dX9_document_30 : decode cX9_document 30 = .ok (.invokevirtual 80, 3) := by decide +kernel
theorem dX9_document_33 : decode cX9_document 33 = .ok (.ireturn, 1) := by decide +kernel
def mwX9_document : List Cond := .code yX9_document cX9_document 4 (some .int) :: ([.code yX9_refuse cX9_refuse 2 (some .int), .fieldLink RX9 70 "PatternGate" "lastStatus" "I", .methodLink RX9 80 yX9_refuse, .instanceMethod yX9_refuse, .selects RX9 yX9_refuse yX9_refuse, .initialized RX9, .fieldLink RX9 29 "PatternGate" "book" "LPatternGate$Book;", .code yX0_docAt cX0_docAt 2 (some (.object "PatternGate$Doc")), .fieldLink RX0 7 "PatternGate$Book" "docs" "[LPatternGate$Doc;", .methodLink RX9 123 yX0_docAt, .instanceMethod yX0_docAt, .selects RX0 yX0_docAt yX0_docAt, .initialized RX0] ++ wsX90 ++ wsX00)
theorem fin_X9_document_X9 : ∀ w ∈ wsX90, w ∈ mwX9_document := fun w h => List.mem_cons_of_mem _ (List.mem_append_left _ (List.mem_append_right _ h))
set_option maxRecDepth 20000 in
theorem mg_X9_document_X9_refuse_80 : GoodIn mwX9_document (wsV RX9 80 RX9 yX9_refuse mwX9_refuse) := goodIn_r _ [3, 4, 5, 6, 1, 2, 14, 15, 16, 17, 18, 19, 20, 21, 22, 23, 24, 25, 26, 27, 28, 29] (by decide +kernel) (by decide +kernel)
set_option maxRecDepth 20000 in
theorem mg_X9_document_X0_docAt_123 : GoodIn mwX9_document (wsV RX9 123 RX0 yX0_docAt mwX0_docAt) := goodIn_r _ [10, 11, 12, 13, 8, 9, 30, 31, 32] (by decide +kernel) (by decide +kernel)
set_option maxHeartbeats 4000000 in
set_option maxRecDepth 100000 in
/-- document on a new object -/
theorem c_document (l : Launch) (dC : Nat → ClassId) (dI : Nat → Nat → Nat) (x : Nat) (q : Nat → Nat) (b d0 p0 : Nat) (cT cD cP cB cU : ClassId) (r : Nat → Nat) (sz : Nat) (i0 i1 : Int32) : Met l yX9_document mwX9_document ({ frames := 1, cells := 0, slots := 0, locals := 60 }) (va_Pc [.ref x, .int i0, .int i1] (fun U => U.heap.size = sz ∧ va_P (dC, dI) vwCl (gW x q b d0 p0 cT cD cP cB cU r) U.heap ∧ va_K (dC, dI) vwCl (gT cT cD cP cB cU) U ∧ va_D (fun _ => True) (gW x q b d0 p0 cT cD cP cB cU r))) (va_Qi (fun (o : Int32) (_ : Unit) => o = (-1)) (fun _ _ => True) (va_A (gW x q b d0 p0 cT cD cP cB cU r) sz)) 0 0 (va_A (gW x q b d0 p0 cT cD cP cB cU r) sz) := by
  refine Met.ofW (cc := cX9_document) (maxL := 4) (ret := (some .int)) (by decide +kernel) rfl ?_
  intro p e s m args below meth c s₁ B hml hv
  obtain ⟨rfl, hsz, hP, hK, hD0⟩ := hv
  have hx := B.exec
  have hb := B.bytes
  have hr := B.returns
  have hts := atoms_spec (ws := mwX9_document) B.pre
  have hown : s.vm.findClass RX9 = some m.cls := findClass_of_methodNamed B.named
  have hlocks := B.notSynchronized
  subst hsz
  have hD := hD0.self (sz := s.heap.size)
  generalize hAe : va_A (gW x q b d0 p0 cT cD cP cB cU r) s.heap.size = A at hD ⊢
  have hA : ∀ q : Nat, s.heap.size ≤ q → A q := fun q h => by rw [← hAe]; exact Or.inr h
  have hP : va_P (dC, dI) vwCl [(x, .inr (9, gF q 0 0 (-1) (-1) b 0 0)), (q 0, .inl (cT, 900, .inl (fun _ => 0))), (b, .inr (0, [.ref d0, .ref p0, .null])), (d0, .inl (cD, 0, .inr (.inr (.inr (.inr (fun _ => none)))))), (p0, .inl (cP, 0, .inr (.inr (.inr (.inr (fun _ => none)))))), (q 1, .inl (cB, 3, .inr (.inr (.inr (.inr (fun _ => none)))))), (q 2, .inl (cU, 3, .inl (fun _ => 0))), (q 3, .inr (6, rF r 0 0 0 0 0 0 0 0))] s.heap := hP
  have hD : va_D A [(x, .inr (9, gF q 0 0 (-1) (-1) b 0 0)), (q 0, .inl (cT, 900, .inl (fun _ => 0))), (b, .inr (0, [.ref d0, .ref p0, .null])), (d0, .inl (cD, 0, .inr (.inr (.inr (.inr (fun _ => none)))))), (p0, .inl (cP, 0, .inr (.inr (.inr (.inr (fun _ => none)))))), (q 1, .inl (cB, 3, .inr (.inr (.inr (.inr (fun _ => none)))))), (q 2, .inl (cU, 3, .inl (fun _ => 0))), (q 3, .inr (6, rF r 0 0 0 0 0 0 0 0))] := hD
  have hK : va_K (dC, dI) vwCl [(cT, .int), (cD, .object "PatternGate$Doc"), (cP, .object "PatternGate$Pattern"), (cB, .object "PatternGate$Book"), (cU, .int)] s := hK
  generalize hH : s.heap = H at hP ⊢
  have hS : va_S A s.heap H [] := by rw [← hH]; exact va_S.rf
  have hl := lv_entry ([.ref x, .int i0, .int i1]) (n := 4) (Nat.le_of_ble_eq_true rfl)
  rw [lg_entry_eq]
  generalize (lg_sl ([.ref x, .int i0, .int i1]) ++ List.replicate (4 - (lg_sl ([.ref x, .int i0, .int i1])).length) Slot.unset).toArray = ls at hl ⊢
  have hl : lv_has ls 4 [(0, .ref x), (1, .int i0), (2, .int i1)] := hl
  refine lv_iload_n hx hb dX9_document_0 rfl (lv_at hl 2 rfl) ?_
  refine lv_if_lt (tgt := 9) hx hb dX9_document_1 (by decide) (fun k_1 => ?_) (fun k_1 => ?_)
  · refine lv_aload_n hx hb dX9_document_9 rfl (lv_at hl 0 rfl) ?_
    refine lv_iconst (v := 1) hx hb dX9_document_10 (by decide) ?_
    have hPc := hP.sub (ws' := [(x, .inr (9, gF q 0 0 (-1) (-1) b 0 0))]) [0] rfl
    have hKc := hK.sub (tys' := []) [] rfl
    have hDc := hD.sub (ws' := [(x, .inr (9, gF q 0 0 (-1) (-1) b 0 0))]) [0] (by decide) rfl
    have hFc := va_free (wc := [(x, .inr (9, gF q 0 0 (-1) (-1) b 0 0))]) hD hS hA [0] rfl
    refine va_calli (va_runV (As := [.int 1]) (rest := []) ⟨hx, hb, hml, hown, hts⟩ (c_refuse l dC dI x q 0 0 (-1) (-1) b 0 0 H.size 1) (cwV 1 hts mg_X9_document_X9_refuse_80 rfl rfl rfl (by decide +kernel) ⟨Nat.le_of_ble_eq_true rfl, Nat.le_of_ble_eq_true rfl⟩) ⟨fun a U g mk q => by obtain ⟨q0, q1, qP, qK, qD⟩ := q; exact ⟨q0, q1, qP, va_K.moved (u := U) (U := U.calling g mk a) (Vm.Alike.refl U.vm) qK, qD⟩, va_recv hKc hPc (ci := 9) (q0 := 0) rfl rfl, fun U hU hW => ⟨rfl, by rw [hU], by rw [hU]; exact hPc, va_K.moved hW.alike hKc, hDc.weaken (fun _ _ _ _ => trivial)⟩⟩ rfl rfl hl.1 rfl (lv_room (Nat.le_of_ble_eq_true rfl)) dX9_document_11 ⟨Nat.le_of_ble_eq_true rfl, Nat.le_of_ble_eq_true rfl⟩) hS (fun q _ h => hFc q h) hFc (fun r_3 u t H1 locs ht hvm hw hB hz1 hk1 hS => ?_)
    exact W.iret hx hb hr (fun t ht hW => ⟨⟨_, (), rfl, hw, trivial⟩, hS.F ht⟩) hS.2.2 dX9_document_14
  · refine lv_iload_n hx hb dX9_document_4 rfl (lv_at hl 2 rfl) ?_
    refine lv_iconst (v := 3) hx hb dX9_document_5 (by decide) ?_
    refine lv_icmp_le (tgt := 15) hx hb dX9_document_6 (by decide) (fun k_4 => ?_) (fun k_4 => ?_)
    · refine lv_aload_n hx hb dX9_document_15 rfl (lv_at hl 0 rfl) ?_
      refine va_get (D := (dC, dI)) (ci := 9) (v := .ref b) (C := RX9) (T := TX9) (N := 16) hx hb hts fin_X9_document_X9 hown hK hP 0 rfl rfl 5 (by decide) (hts (.fieldLink RX9 29 "PatternGate" "book" "LPatternGate$Book;") (List.mem_of_getElem? (i := 7) (by decide +kernel))) (fun _ h9 => h9) rfl dX9_document_16 ?_
      refine lv_iload_n hx hb dX9_document_19 rfl (lv_at hl 1 rfl) ?_
      have hPc := hP.sub (ws' := [(b, .inr (0, [.ref d0, .ref p0, .null])), (d0, .inl (cD, 0, .inr (.inr (.inr (.inr (fun _ => none)))))), (p0, .inl (cP, 0, .inr (.inr (.inr (.inr (fun _ => none))))))]) [2, 3, 4] rfl
      have hKc := hK.sub (tys' := [(cD, .object "PatternGate$Doc"), (cP, .object "PatternGate$Pattern")]) [1, 2] rfl
      refine va_csq (W.runV (As := [.int i0]) (rest := []) ⟨hx, hb, hml, hown, hts⟩ (c_docAt l dC dI b d0 p0 cD cP i0) (cwV 1 hts mg_X9_document_X0_docAt_123 rfl rfl rfl (by decide +kernel) ⟨Nat.le_of_ble_eq_true rfl, Nat.le_of_ble_eq_true rfl⟩) ⟨fun a U g mk q => by obtain ⟨q0, qP, qK⟩ := q; exact ⟨q0, qP, va_K.moved (u := U) (U := U.calling g mk a) (Vm.Alike.refl U.vm) qK⟩, va_recv hKc hPc (ci := 0) (q0 := 0) rfl rfl, fun U hU hW => ⟨rfl, by rw [hU]; exact hPc, va_K.moved hW.alike hKc⟩⟩ rfl rfl hl.1 rfl (lv_room (Nat.le_of_ble_eq_true rfl)) dX9_document_20 ⟨Nat.le_of_ble_eq_true rfl, Nat.le_of_ble_eq_true rfl⟩) (fun r_6 hw => ?_)
      subst hw
      refine W.eq (g2 := F0 m 23 ls [.null]) rfl ?_
      refine lv_astore_nN (lv' := [(3, .null), (0, .ref x), (1, .int i0), (2, .int i1)]) hx hb dX9_document_23 rfl hl (by decide) rfl (fun ls hl => ?_)
      refine lv_aload_nN hx hb dX9_document_24 rfl (lv_at hl 0 rfl) ?_
      refine lv_ifnonnullN hx hb dX9_document_25 ?_
      refine lv_aload_n hx hb dX9_document_28 rfl (lv_at hl 1 rfl) ?_
      refine lv_iconst (v := 2) hx hb dX9_document_29 (by decide) ?_
      have hPc := hP.sub (ws' := [(x, .inr (9, gF q 0 0 (-1) (-1) b 0 0))]) [0] rfl
      have hKc := hK.sub (tys' := []) [] rfl
      have hDc := hD.sub (ws' := [(x, .inr (9, gF q 0 0 (-1) (-1) b 0 0))]) [0] (by decide) rfl
      have hFc := va_free (wc := [(x, .inr (9, gF q 0 0 (-1) (-1) b 0 0))]) hD hS hA [0] rfl
      refine va_calli (va_runV (As := [.int 2]) (rest := []) ⟨hx, hb, hml, hown, hts⟩ (c_refuse l dC dI x q 0 0 (-1) (-1) b 0 0 H.size 2) (cwV 1 hts mg_X9_document_X9_refuse_80 rfl rfl rfl (by decide +kernel) ⟨Nat.le_of_ble_eq_true rfl, Nat.le_of_ble_eq_true rfl⟩) ⟨fun a U g mk q => by obtain ⟨q0, q1, qP, qK, qD⟩ := q; exact ⟨q0, q1, qP, va_K.moved (u := U) (U := U.calling g mk a) (Vm.Alike.refl U.vm) qK, qD⟩, va_recv hKc hPc (ci := 9) (q0 := 0) rfl rfl, fun U hU hW => ⟨rfl, by rw [hU], by rw [hU]; exact hPc, va_K.moved hW.alike hKc, hDc.weaken (fun _ _ _ _ => trivial)⟩⟩ rfl rfl hl.1 rfl (lv_room (Nat.le_of_ble_eq_true rfl)) dX9_document_30 ⟨Nat.le_of_ble_eq_true rfl, Nat.le_of_ble_eq_true rfl⟩) hS (fun q _ h => hFc q h) hFc (fun r_8 u t H1 locs ht hvm hw hB hz1 hk1 hS => ?_)
      exact W.iret hx hb hr (fun t ht hW => ⟨⟨_, (), rfl, hw, trivial⟩, hS.F ht⟩) hS.2.2 dX9_document_33
    · refine lv_aload_n hx hb dX9_document_9 rfl (lv_at hl 0 rfl) ?_
      refine lv_iconst (v := 1) hx hb dX9_document_10 (by decide) ?_
      have hPc := hP.sub (ws' := [(x, .inr (9, gF q 0 0 (-1) (-1) b 0 0))]) [0] rfl
      have hKc := hK.sub (tys' := []) [] rfl
      have hDc := hD.sub (ws' := [(x, .inr (9, gF q 0 0 (-1) (-1) b 0 0))]) [0] (by decide) rfl
      have hFc := va_free (wc := [(x, .inr (9, gF q 0 0 (-1) (-1) b 0 0))]) hD hS hA [0] rfl
      refine va_calli (va_runV (As := [.int 1]) (rest := []) ⟨hx, hb, hml, hown, hts⟩ (c_refuse l dC dI x q 0 0 (-1) (-1) b 0 0 H.size 1) (cwV 1 hts mg_X9_document_X9_refuse_80 rfl rfl rfl (by decide +kernel) ⟨Nat.le_of_ble_eq_true rfl, Nat.le_of_ble_eq_true rfl⟩) ⟨fun a U g mk q => by obtain ⟨q0, q1, qP, qK, qD⟩ := q; exact ⟨q0, q1, qP, va_K.moved (u := U) (U := U.calling g mk a) (Vm.Alike.refl U.vm) qK, qD⟩, va_recv hKc hPc (ci := 9) (q0 := 0) rfl rfl, fun U hU hW => ⟨rfl, by rw [hU], by rw [hU]; exact hPc, va_K.moved hW.alike hKc, hDc.weaken (fun _ _ _ _ => trivial)⟩⟩ rfl rfl hl.1 rfl (lv_room (Nat.le_of_ble_eq_true rfl)) dX9_document_11 ⟨Nat.le_of_ble_eq_true rfl, Nat.le_of_ble_eq_true rfl⟩) hS (fun q _ h => hFc q h) hFc (fun r_10 u t H1 locs ht hvm hw hB hz1 hk1 hS => ?_)
      exact W.iret hx hb hr (fun t ht hW => ⟨⟨_, (), rfl, hw, trivial⟩, hS.F ht⟩) hS.2.2 dX9_document_14
theorem dX9_status_0 : decode cX9_status 0 = .ok (.aload_n 0, 1) := by decide +kernel
theorem dX9_status_1 : decode cX9_status 1 = .ok (.getfield 70, 3) := by decide +kernel
theorem dX9_status_4 : decode cX9_status 4 = .ok (.ireturn, 1) := by decide +kernel
def mwX9_status : List Cond := .code yX9_status cX9_status 1 (some .int) :: ([.fieldLink RX9 70 "PatternGate" "lastStatus" "I"] ++ wsX90)
theorem fin_X9_status_X9 : ∀ w ∈ wsX90, w ∈ mwX9_status := fun w h => List.mem_cons_of_mem _ (List.mem_append_right _ h)
set_option maxHeartbeats 4000000 in
set_option maxRecDepth 100000 in
/-- status on a new object -/
theorem c_status (l : Launch) (dC : Nat → ClassId) (dI : Nat → Nat → Nat) (x : Nat) (q : Nat → Nat) (b d0 p0 : Nat) (cT cD cP cB cU : ClassId) (r : Nat → Nat) (sz : Nat) : Met l yX9_status mwX9_status ({ frames := 1, cells := 0, slots := 0, locals := 60 }) (va_Pc [.ref x] (fun U => U.heap.size = sz ∧ va_P (dC, dI) vwCl (gW x q b d0 p0 cT cD cP cB cU r) U.heap ∧ va_K (dC, dI) vwCl (gT cT cD cP cB cU) U ∧ va_D (fun _ => True) (gW x q b d0 p0 cT cD cP cB cU r))) (va_Qi (fun (o : Int32) (_ : Unit) => o = 0) (fun _ _ => True) (va_A (gW x q b d0 p0 cT cD cP cB cU r) sz)) 0 0 (va_A (gW x q b d0 p0 cT cD cP cB cU r) sz) := by
  refine Met.ofW (cc := cX9_status) (maxL := 1) (ret := (some .int)) (by decide +kernel) rfl ?_
  intro p e s m args below meth c s₁ B hml hv
  obtain ⟨rfl, hsz, hP, hK, hD0⟩ := hv
  have hx := B.exec
  have hb := B.bytes
  have hr := B.returns
  have hts := atoms_spec (ws := mwX9_status) B.pre
  have hown : s.vm.findClass RX9 = some m.cls := findClass_of_methodNamed B.named
  have hlocks := B.notSynchronized
  subst hsz
  have hD := hD0.self (sz := s.heap.size)
  generalize hAe : va_A (gW x q b d0 p0 cT cD cP cB cU r) s.heap.size = A at hD ⊢
  have hA : ∀ q : Nat, s.heap.size ≤ q → A q := fun q h => by rw [← hAe]; exact Or.inr h
  have hP : va_P (dC, dI) vwCl [(x, .inr (9, gF q 0 0 (-1) (-1) b 0 0)), (q 0, .inl (cT, 900, .inl (fun _ => 0))), (b, .inr (0, [.ref d0, .ref p0, .null])), (d0, .inl (cD, 0, .inr (.inr (.inr (.inr (fun _ => none)))))), (p0, .inl (cP, 0, .inr (.inr (.inr (.inr (fun _ => none)))))), (q 1, .inl (cB, 3, .inr (.inr (.inr (.inr (fun _ => none)))))), (q 2, .inl (cU, 3, .inl (fun _ => 0))), (q 3, .inr (6, rF r 0 0 0 0 0 0 0 0))] s.heap := hP
  have hD : va_D A [(x, .inr (9, gF q 0 0 (-1) (-1) b 0 0)), (q 0, .inl (cT, 900, .inl (fun _ => 0))), (b, .inr (0, [.ref d0, .ref p0, .null])), (d0, .inl (cD, 0, .inr (.inr (.inr (.inr (fun _ => none)))))), (p0, .inl (cP, 0, .inr (.inr (.inr (.inr (fun _ => none)))))), (q 1, .inl (cB, 3, .inr (.inr (.inr (.inr (fun _ => none)))))), (q 2, .inl (cU, 3, .inl (fun _ => 0))), (q 3, .inr (6, rF r 0 0 0 0 0 0 0 0))] := hD
  have hK : va_K (dC, dI) vwCl [(cT, .int), (cD, .object "PatternGate$Doc"), (cP, .object "PatternGate$Pattern"), (cB, .object "PatternGate$Book"), (cU, .int)] s := hK
  generalize hH : s.heap = H at hP ⊢
  have hS : va_S A s.heap H [] := by rw [← hH]; exact va_S.rf
  have hl := lv_entry ([.ref x]) (n := 1) (Nat.le_of_ble_eq_true rfl)
  rw [lg_entry_eq]
  generalize (lg_sl ([.ref x]) ++ List.replicate (1 - (lg_sl ([.ref x])).length) Slot.unset).toArray = ls at hl ⊢
  have hl : lv_has ls 1 [(0, .ref x)] := hl
  refine lv_aload_n hx hb dX9_status_0 rfl (lv_at hl 0 rfl) ?_
  refine va_get (D := (dC, dI)) (ci := 9) (v := .int 0) (C := RX9) (T := TX9) (N := 16) hx hb hts fin_X9_status_X9 hown hK hP 0 rfl rfl 0 (by decide) (hts (.fieldLink RX9 70 "PatternGate" "lastStatus" "I") (List.mem_of_getElem? (i := 1) (by decide +kernel))) (fun _ h9 => h9) rfl dX9_status_1 ?_
  exact W.iret hx hb hr (fun t ht hW => ⟨⟨_, (), rfl, rfl, trivial⟩, hS.F ht⟩) hS.2.2 dX9_status_4
theorem dX9_list_0 : decode cX9_list 0 = .ok (.iload_n 1, 1) := by decide +kernel
theorem dX9_list_1 : decode cX9_list 1 = .ok (.invokestatic 190, 3) := by decide +kernel
theorem dX9_list_4 : decode cX9_list 4 = .ok (.ifCond .eq 7, 3) := by decide +kernel
theorem dX9_list_7 : decode cX9_list 7 = .ok (.iload_n 2, 1) := by decide +kernel
theorem dX9_list_8 : decode cX9_list 8 = .ok (.ifCond .ge 9, 3) := by decide +kernel
theorem dX9_list_11 : decode cX9_list 11 = .ok (.aload_n 0, 1) := by decide +kernel
theorem dX9_list_12 : decode cX9_list 12 = .ok (.iconst 1, 1) := by decide +kernel
theorem dX9_list_13 : decode cX9_list 13 = .ok (.invokevirtual 80, 3) := by decide +kernel
theorem dX9_list_16 : decode cX9_list 16 = .ok (.ireturn, 1) := by decide +kernel
theorem dX9_list_17 : decode cX9_list 17 = .ok (.aload_n 0, 1) := by decide +kernel
theorem dX9_list_18 : decode cX9_list 18 = .ok (.getfield 29, 3) := by decide +kernel
theorem dX9_list_21 : decode cX9_list 21 = .ok (.iload_n 1, 1) := by decide +kernel
theorem dX9_list_22 : decode cX9_list 22 = .ok (.invokevirtual 194, 3) := by decide +kernel
theorem dX9_list_25 : decode cX9_list 25 = .ok (.istore_n 3, 1) := by decide +kernel
theorem dX9_list_26 : decode cX9_list 26 = .ok (.iload_n 2, 1) := by decide +kernel
theorem dX9_list_27 : decode cX9_list 27 = .ok (.iload_n 3, 1) := by decide +kernel
theorem dX9_list_28 : decode cX9_list 28 = .ok (.invokestatic 197, 3) := by decide +kernel
theorem dX9_list_31 : decode cX9_list 31 = .ok (.if_icmp .lt 9, 3) := by decide +kernel
theorem dX9_list_34 : decode cX9_list 34 = .ok (.aload_n 0, 1) := by decide +kernel
theorem dX9_list_35 : decode cX9_list 35 = .ok (.iconst 5, 1) := by decide +kernel
theorem dX9_list_36 : decode cX9_list 36 = .ok (.invokevirtual 80, 3) := by decide +kernel
theorem dX9_list_39 : decode cX9_list 39 = .ok (.ireturn, 1) := by decide +kernel
def mwX9_list : List Cond := .code yX9_list cX9_list 5 (some .int) :: ([.code yX9_isTriple cX9_isTriple 1 (some .boolean), .methodLink RX9 190 yX9_isTriple, .static yX9_isTriple, .initialized RX9, .code yX9_refuse cX9_refuse 2 (some .int), .fieldLink RX9 70 "PatternGate" "lastStatus" "I", .methodLink RX9 80 yX9_refuse, .instanceMethod yX9_refuse, .selects RX9 yX9_refuse yX9_refuse, .fieldLink RX9 29 "PatternGate" "book" "LPatternGate$Book;", .code yX0_listBits cX0_listBits 4 (some .int), .fieldLink RX0 7 "PatternGate$Book" "docs" "[LPatternGate$Doc;", .methodLink RX9 194 yX0_listBits, .instanceMethod yX0_listBits, .selects RX0 yX0_listBits yX0_listBits, .initialized RX0, .code yJ6_bitCount_0f7a4 cJ6_bitCount_0f7a4 1 (some .int), .constant RJ6 265 (1431655765), .constant RJ6 266 (858993459), .constant RJ6 267 (252645135), .methodLink RX9 197 yJ6_bitCount_0f7a4, .static yJ6_bitCount_0f7a4, .initialized RJ6] ++ wsX90 ++ wsX00)
theorem fin_X9_list_X9 : ∀ w ∈ wsX90, w ∈ mwX9_list := fun w h => List.mem_cons_of_mem _ (List.mem_append_left _ (List.mem_append_right _ h))
set_option maxRecDepth 20000 in
theorem mg_X9_list_X9_isTriple_190 : GoodIn mwX9_list (va_wsS RX9 190 yX9_isTriple mwX9_isTriple) := goodIn_r _ [2, 3, 4, 1] (by decide +kernel) (by decide +kernel)
set_option maxRecDepth 20000 in
theorem mg_X9_list_X9_refuse_80 : GoodIn mwX9_list (wsV RX9 80 RX9 yX9_refuse mwX9_refuse) := goodIn_r _ [7, 8, 9, 4, 5, 6, 24, 25, 26, 27, 28, 29, 30, 31, 32, 33, 34, 35, 36, 37, 38, 39] (by decide +kernel) (by decide +kernel)
set_option maxRecDepth 20000 in
theorem mg_X9_list_X0_listBits_194 : GoodIn mwX9_list (wsV RX9 194 RX0 yX0_listBits mwX0_listBits) := goodIn_r _ [13, 14, 15, 16, 11, 12, 40, 41, 42] (by decide +kernel) (by decide +kernel)
set_option maxRecDepth 20000 in
theorem mg_X9_list_J6_bitCount_0f7a4_197 : GoodIn mwX9_list (va_wsS RX9 197 yJ6_bitCount_0f7a4 mwJ6_bitCount_0f7a4) := goodIn_r _ [21, 22, 23, 17, 18, 19, 20] (by decide +kernel) (by decide +kernel)
set_option maxHeartbeats 4000000 in
set_option maxRecDepth 100000 in
/-- list on a new object -/
theorem c_list (l : Launch) (dC : Nat → ClassId) (dI : Nat → Nat → Nat) (x : Nat) (q : Nat → Nat) (b d0 p0 : Nat) (cT cD cP cB cU : ClassId) (r : Nat → Nat) (sz : Nat) (i0 i1 : Int32) : Met l yX9_list mwX9_list ({ frames := 1, cells := 0, slots := 0, locals := 60 }) (va_Pc [.ref x, .int i0, .int i1] (fun U => U.heap.size = sz ∧ va_P (dC, dI) vwCl (gW x q b d0 p0 cT cD cP cB cU r) U.heap ∧ va_K (dC, dI) vwCl (gT cT cD cP cB cU) U ∧ va_D (fun _ => True) (gW x q b d0 p0 cT cD cP cB cU r))) (va_Qi (fun (o : Int32) (_ : Unit) => o = (-1)) (fun _ _ => True) (va_A (gW x q b d0 p0 cT cD cP cB cU r) sz)) 0 0 (va_A (gW x q b d0 p0 cT cD cP cB cU r) sz) := by
  refine Met.ofW (cc := cX9_list) (maxL := 5) (ret := (some .int)) (by decide +kernel) rfl ?_
  intro p e s m args below meth c s₁ B hml hv
  obtain ⟨rfl, hsz, hP, hK, hD0⟩ := hv
  have hx := B.exec
  have hb := B.bytes
  have hr := B.returns
  have hts := atoms_spec (ws := mwX9_list) B.pre
  have hown : s.vm.findClass RX9 = some m.cls := findClass_of_methodNamed B.named
  have hlocks := B.notSynchronized
  subst hsz
  have hD := hD0.self (sz := s.heap.size)
  generalize hAe : va_A (gW x q b d0 p0 cT cD cP cB cU r) s.heap.size = A at hD ⊢
  have hA : ∀ q : Nat, s.heap.size ≤ q → A q := fun q h => by rw [← hAe]; exact Or.inr h
  have hP : va_P (dC, dI) vwCl [(x, .inr (9, gF q 0 0 (-1) (-1) b 0 0)), (q 0, .inl (cT, 900, .inl (fun _ => 0))), (b, .inr (0, [.ref d0, .ref p0, .null])), (d0, .inl (cD, 0, .inr (.inr (.inr (.inr (fun _ => none)))))), (p0, .inl (cP, 0, .inr (.inr (.inr (.inr (fun _ => none)))))), (q 1, .inl (cB, 3, .inr (.inr (.inr (.inr (fun _ => none)))))), (q 2, .inl (cU, 3, .inl (fun _ => 0))), (q 3, .inr (6, rF r 0 0 0 0 0 0 0 0))] s.heap := hP
  have hD : va_D A [(x, .inr (9, gF q 0 0 (-1) (-1) b 0 0)), (q 0, .inl (cT, 900, .inl (fun _ => 0))), (b, .inr (0, [.ref d0, .ref p0, .null])), (d0, .inl (cD, 0, .inr (.inr (.inr (.inr (fun _ => none)))))), (p0, .inl (cP, 0, .inr (.inr (.inr (.inr (fun _ => none)))))), (q 1, .inl (cB, 3, .inr (.inr (.inr (.inr (fun _ => none)))))), (q 2, .inl (cU, 3, .inl (fun _ => 0))), (q 3, .inr (6, rF r 0 0 0 0 0 0 0 0))] := hD
  have hK : va_K (dC, dI) vwCl [(cT, .int), (cD, .object "PatternGate$Doc"), (cP, .object "PatternGate$Pattern"), (cB, .object "PatternGate$Book"), (cU, .int)] s := hK
  generalize hH : s.heap = H at hP ⊢
  have hS : va_S A s.heap H [] := by rw [← hH]; exact va_S.rf
  have hl := lv_entry ([.ref x, .int i0, .int i1]) (n := 5) (Nat.le_of_ble_eq_true rfl)
  rw [lg_entry_eq]
  generalize (lg_sl ([.ref x, .int i0, .int i1]) ++ List.replicate (5 - (lg_sl ([.ref x, .int i0, .int i1])).length) Slot.unset).toArray = ls at hl ⊢
  have hl : lv_has ls 5 [(0, .ref x), (1, .int i0), (2, .int i1)] := hl
  refine lv_iload_n hx hb dX9_list_0 rfl (lv_at hl 1 rfl) ?_
  refine vp_callSi (W.runS (As := [.int i0]) (rest := []) ⟨hx, hb, hml, hown, hts⟩ (c_isTriple l dC dI i0) (va_cwS 1 hts mg_X9_list_X9_isTriple_190 rfl rfl rfl (by decide +kernel) ⟨Nat.le_of_ble_eq_true rfl, Nat.le_of_ble_eq_true rfl⟩) ⟨fun a U g mk q => ⟨q.1, trivial⟩, fun U hU hW => ⟨rfl, trivial⟩⟩ rfl rfl hl.1 rfl (lv_room (Nat.le_of_ble_eq_true rfl)) dX9_list_1 ⟨Nat.le_of_ble_eq_true rfl, Nat.le_of_ble_eq_true rfl⟩) (fun r_2 hw => ?_)
  rcases hw with rfl | rfl
  · refine lv_if_eq (tgt := 11) hx hb dX9_list_4 (by decide) (fun k_3 => ?_) (fun k_3 => absurd (by decide) k_3)
    refine lv_aload_n hx hb dX9_list_11 rfl (lv_at hl 0 rfl) ?_
    refine lv_iconst (v := 1) hx hb dX9_list_12 (by decide) ?_
    have hPc := hP.sub (ws' := [(x, .inr (9, gF q 0 0 (-1) (-1) b 0 0))]) [0] rfl
    have hKc := hK.sub (tys' := []) [] rfl
    have hDc := hD.sub (ws' := [(x, .inr (9, gF q 0 0 (-1) (-1) b 0 0))]) [0] (by decide) rfl
    have hFc := va_free (wc := [(x, .inr (9, gF q 0 0 (-1) (-1) b 0 0))]) hD hS hA [0] rfl
    refine va_calli (va_runV (As := [.int 1]) (rest := []) ⟨hx, hb, hml, hown, hts⟩ (c_refuse l dC dI x q 0 0 (-1) (-1) b 0 0 H.size 1) (cwV 1 hts mg_X9_list_X9_refuse_80 rfl rfl rfl (by decide +kernel) ⟨Nat.le_of_ble_eq_true rfl, Nat.le_of_ble_eq_true rfl⟩) ⟨fun a U g mk q => by obtain ⟨q0, q1, qP, qK, qD⟩ := q; exact ⟨q0, q1, qP, va_K.moved (u := U) (U := U.calling g mk a) (Vm.Alike.refl U.vm) qK, qD⟩, va_recv hKc hPc (ci := 9) (q0 := 0) rfl rfl, fun U hU hW => ⟨rfl, by rw [hU], by rw [hU]; exact hPc, va_K.moved hW.alike hKc, hDc.weaken (fun _ _ _ _ => trivial)⟩⟩ rfl rfl hl.1 rfl (lv_room (Nat.le_of_ble_eq_true rfl)) dX9_list_13 ⟨Nat.le_of_ble_eq_true rfl, Nat.le_of_ble_eq_true rfl⟩) hS (fun q _ h => hFc q h) hFc (fun r_5 u t H1 locs ht hvm hw hB hz1 hk1 hS => ?_)
    exact W.iret hx hb hr (fun t ht hW => ⟨⟨_, (), rfl, hw, trivial⟩, hS.F ht⟩) hS.2.2 dX9_list_16
  · refine lv_if_eq (tgt := 11) hx hb dX9_list_4 (by decide) (fun k_6 => absurd k_6 (by decide)) (fun k_6 => ?_)
    refine lv_iload_n hx hb dX9_list_7 rfl (lv_at hl 2 rfl) ?_
    refine lv_if_ge (tgt := 17) hx hb dX9_list_8 (by decide) (fun k_7 => ?_) (fun k_7 => ?_)
    · refine lv_aload_n hx hb dX9_list_17 rfl (lv_at hl 0 rfl) ?_
      refine va_get (D := (dC, dI)) (ci := 9) (v := .ref b) (C := RX9) (T := TX9) (N := 16) hx hb hts fin_X9_list_X9 hown hK hP 0 rfl rfl 5 (by decide) (hts (.fieldLink RX9 29 "PatternGate" "book" "LPatternGate$Book;") (List.mem_of_getElem? (i := 10) (by decide +kernel))) (fun _ h9 => h9) rfl dX9_list_18 ?_
      refine lv_iload_n hx hb dX9_list_21 rfl (lv_at hl 1 rfl) ?_
      have hPc := hP.sub (ws' := [(b, .inr (0, [.ref d0, .ref p0, .null])), (d0, .inl (cD, 0, .inr (.inr (.inr (.inr (fun _ => none)))))), (p0, .inl (cP, 0, .inr (.inr (.inr (.inr (fun _ => none))))))]) [2, 3, 4] rfl
      have hKc := hK.sub (tys' := [(cD, .object "PatternGate$Doc"), (cP, .object "PatternGate$Pattern")]) [1, 2] rfl
      refine vp_callSi (W.runV (As := [.int i0]) (rest := []) ⟨hx, hb, hml, hown, hts⟩ (c_listBits l dC dI b d0 p0 cD cP i0) (cwV 1 hts mg_X9_list_X0_listBits_194 rfl rfl rfl (by decide +kernel) ⟨Nat.le_of_ble_eq_true rfl, Nat.le_of_ble_eq_true rfl⟩) ⟨fun a U g mk q => by obtain ⟨q0, qP, qK⟩ := q; exact ⟨q0, qP, va_K.moved (u := U) (U := U.calling g mk a) (Vm.Alike.refl U.vm) qK⟩, va_recv hKc hPc (ci := 0) (q0 := 0) rfl rfl, fun U hU hW => ⟨rfl, by rw [hU]; exact hPc, va_K.moved hW.alike hKc⟩⟩ rfl rfl hl.1 rfl (lv_room (Nat.le_of_ble_eq_true rfl)) dX9_list_22 ⟨Nat.le_of_ble_eq_true rfl, Nat.le_of_ble_eq_true rfl⟩) (fun r_9 hw => ?_)
      subst hw
      refine lv_istore_n (lv' := [(3, .int 0), (0, .ref x), (1, .int i0), (2, .int i1)]) hx hb dX9_list_25 rfl hl (by decide) rfl (fun ls hl => ?_)
      refine lv_iload_n hx hb dX9_list_26 rfl (lv_at hl 3 rfl) ?_
      refine lv_iload_n hx hb dX9_list_27 rfl (lv_at hl 0 rfl) ?_
      refine vp_callSi (W.runS (As := [.int 0]) (rest := [.int i1]) ⟨hx, hb, hml, hown, hts⟩ (c_bitCount l dC dI ) (va_cwS 1 hts mg_X9_list_J6_bitCount_0f7a4_197 rfl rfl rfl (by decide +kernel) ⟨Nat.le_of_ble_eq_true rfl, Nat.le_of_ble_eq_true rfl⟩) ⟨fun a U g mk q => ⟨q.1, trivial⟩, fun U hU hW => ⟨rfl, trivial⟩⟩ rfl rfl hl.1 rfl (lv_room (Nat.le_of_ble_eq_true rfl)) dX9_list_28 ⟨Nat.le_of_ble_eq_true rfl, Nat.le_of_ble_eq_true rfl⟩) (fun r_11 hw => ?_)
      subst hw
      refine lv_icmp_lt (tgt := 40) hx hb dX9_list_31 (by decide) (fun k_12 => absurd k_12 (fun h => zz_dn k_7 h)) (fun k_12 => ?_)
      refine lv_aload_n hx hb dX9_list_34 rfl (lv_at hl 1 rfl) ?_
      refine lv_iconst (v := 5) hx hb dX9_list_35 (by decide) ?_
      have hPc := hP.sub (ws' := [(x, .inr (9, gF q 0 0 (-1) (-1) b 0 0))]) [0] rfl
      have hKc := hK.sub (tys' := []) [] rfl
      have hDc := hD.sub (ws' := [(x, .inr (9, gF q 0 0 (-1) (-1) b 0 0))]) [0] (by decide) rfl
      have hFc := va_free (wc := [(x, .inr (9, gF q 0 0 (-1) (-1) b 0 0))]) hD hS hA [0] rfl
      refine va_calli (va_runV (As := [.int 5]) (rest := []) ⟨hx, hb, hml, hown, hts⟩ (c_refuse l dC dI x q 0 0 (-1) (-1) b 0 0 H.size 5) (cwV 1 hts mg_X9_list_X9_refuse_80 rfl rfl rfl (by decide +kernel) ⟨Nat.le_of_ble_eq_true rfl, Nat.le_of_ble_eq_true rfl⟩) ⟨fun a U g mk q => by obtain ⟨q0, q1, qP, qK, qD⟩ := q; exact ⟨q0, q1, qP, va_K.moved (u := U) (U := U.calling g mk a) (Vm.Alike.refl U.vm) qK, qD⟩, va_recv hKc hPc (ci := 9) (q0 := 0) rfl rfl, fun U hU hW => ⟨rfl, by rw [hU], by rw [hU]; exact hPc, va_K.moved hW.alike hKc, hDc.weaken (fun _ _ _ _ => trivial)⟩⟩ rfl rfl hl.1 rfl (lv_room (Nat.le_of_ble_eq_true rfl)) dX9_list_36 ⟨Nat.le_of_ble_eq_true rfl, Nat.le_of_ble_eq_true rfl⟩) hS (fun q _ h => hFc q h) hFc (fun r_14 u t H1 locs ht hvm hw hB hz1 hk1 hS => ?_)
      exact W.iret hx hb hr (fun t ht hW => ⟨⟨_, (), rfl, hw, trivial⟩, hS.F ht⟩) hS.2.2 dX9_list_39
    · refine lv_aload_n hx hb dX9_list_11 rfl (lv_at hl 0 rfl) ?_
      refine lv_iconst (v := 1) hx hb dX9_list_12 (by decide) ?_
      have hPc := hP.sub (ws' := [(x, .inr (9, gF q 0 0 (-1) (-1) b 0 0))]) [0] rfl
      have hKc := hK.sub (tys' := []) [] rfl
      have hDc := hD.sub (ws' := [(x, .inr (9, gF q 0 0 (-1) (-1) b 0 0))]) [0] (by decide) rfl
      have hFc := va_free (wc := [(x, .inr (9, gF q 0 0 (-1) (-1) b 0 0))]) hD hS hA [0] rfl
      refine va_calli (va_runV (As := [.int 1]) (rest := []) ⟨hx, hb, hml, hown, hts⟩ (c_refuse l dC dI x q 0 0 (-1) (-1) b 0 0 H.size 1) (cwV 1 hts mg_X9_list_X9_refuse_80 rfl rfl rfl (by decide +kernel) ⟨Nat.le_of_ble_eq_true rfl, Nat.le_of_ble_eq_true rfl⟩) ⟨fun a U g mk q => by obtain ⟨q0, q1, qP, qK, qD⟩ := q; exact ⟨q0, q1, qP, va_K.moved (u := U) (U := U.calling g mk a) (Vm.Alike.refl U.vm) qK, qD⟩, va_recv hKc hPc (ci := 9) (q0 := 0) rfl rfl, fun U hU hW => ⟨rfl, by rw [hU], by rw [hU]; exact hPc, va_K.moved hW.alike hKc, hDc.weaken (fun _ _ _ _ => trivial)⟩⟩ rfl rfl hl.1 rfl (lv_room (Nat.le_of_ble_eq_true rfl)) dX9_list_13 ⟨Nat.le_of_ble_eq_true rfl, Nat.le_of_ble_eq_true rfl⟩) hS (fun q _ h => hFc q h) hFc (fun r_16 u t H1 locs ht hvm hw hB hz1 hk1 hS => ?_)
      exact W.iret hx hb hr (fun t ht hW => ⟨⟨_, (), rfl, hw, trivial⟩, hS.F ht⟩) hS.2.2 dX9_list_16
theorem dX9_undo_0 : decode cX9_undo 0 = .ok (.aload_n 0, 1) := by decide +kernel
theorem dX9_undo_1 : decode cX9_undo 1 = .ok (.getfield 29, 3) := by decide +kernel
theorem dX9_undo_4 : decode cX9_undo 4 = .ok (.getfield 278, 3) := by decide +kernel
theorem dX9_undo_7 : decode cX9_undo 7 = .ok (.astore_n 1, 1) := by decide +kernel
theorem dX9_undo_8 : decode cX9_undo 8 = .ok (.aload_n 0, 1) := by decide +kernel
theorem dX9_undo_9 : decode cX9_undo 9 = .ok (.getfield 117, 3) := by decide +kernel
theorem dX9_undo_12 : decode cX9_undo 12 = .ok (.ifCond .le 7, 3) := by decide +kernel
theorem dX9_undo_19 : decode cX9_undo 19 = .ok (.aload_n 0, 1) := by decide +kernel
theorem dX9_undo_20 : decode cX9_undo 20 = .ok (.iconst 5, 1) := by decide +kernel
theorem dX9_undo_21 : decode cX9_undo 21 = .ok (.invokevirtual 80, 3) := by decide +kernel
theorem dX9_undo_24 : decode cX9_undo 24 = .ok (.ireturn, 1) := by decide +kernel
def mwX9_undo : List Cond := .code yX9_undo cX9_undo 2 (some .int) :: ([.fieldLink RX9 29 "PatternGate" "book" "LPatternGate$Book;", .fieldLink RX9 278 "PatternGate$Book" "earlier" "LPatternGate$Book;", .fieldLink RX9 117 "PatternGate" "undoable" "I", .code yX9_refuse cX9_refuse 2 (some .int), .fieldLink RX9 70 "PatternGate" "lastStatus" "I", .methodLink RX9 80 yX9_refuse, .instanceMethod yX9_refuse, .selects RX9 yX9_refuse yX9_refuse, .initialized RX9] ++ wsX90 ++ wsX00)
theorem fin_X9_undo_X0 : ∀ w ∈ wsX00, w ∈ mwX9_undo := fun w h => List.mem_cons_of_mem _ (List.mem_append_right _ h)
theorem fin_X9_undo_X9 : ∀ w ∈ wsX90, w ∈ mwX9_undo := fun w h => List.mem_cons_of_mem _ (List.mem_append_left _ (List.mem_append_right _ h))
set_option maxRecDepth 20000 in
theorem mg_X9_undo_X9_refuse_80 : GoodIn mwX9_undo (wsV RX9 80 RX9 yX9_refuse mwX9_refuse) := goodIn_r _ [6, 7, 8, 9, 4, 5, 10, 11, 12, 13, 14, 15, 16, 17, 18, 19, 20, 21, 22, 23, 24, 25] (by decide +kernel) (by decide +kernel)
set_option maxHeartbeats 4000000 in
set_option maxRecDepth 100000 in
/-- undo on a new object -/
theorem c_undo (l : Launch) (dC : Nat → ClassId) (dI : Nat → Nat → Nat) (x : Nat) (q : Nat → Nat) (b d0 p0 : Nat) (cT cD cP cB cU : ClassId) (r : Nat → Nat) (sz : Nat) : Met l yX9_undo mwX9_undo ({ frames := 1, cells := 0, slots := 0, locals := 60 }) (va_Pc [.ref x] (fun U => U.heap.size = sz ∧ va_P (dC, dI) vwCl (gW x q b d0 p0 cT cD cP cB cU r) U.heap ∧ va_K (dC, dI) vwCl (gT cT cD cP cB cU) U ∧ va_D (fun _ => True) (gW x q b d0 p0 cT cD cP cB cU r))) (va_Qi (fun (o : Int32) (_ : Unit) => o = (-1)) (fun _ _ => True) (va_A (gW x q b d0 p0 cT cD cP cB cU r) sz)) 0 0 (va_A (gW x q b d0 p0 cT cD cP cB cU r) sz) := by
  refine Met.ofW (cc := cX9_undo) (maxL := 2) (ret := (some .int)) (by decide +kernel) rfl ?_
  intro p e s m args below meth c s₁ B hml hv
  obtain ⟨rfl, hsz, hP, hK, hD0⟩ := hv
  have hx := B.exec
  have hb := B.bytes
  have hr := B.returns
  have hts := atoms_spec (ws := mwX9_undo) B.pre
  have hown : s.vm.findClass RX9 = some m.cls := findClass_of_methodNamed B.named
  have hlocks := B.notSynchronized
  subst hsz
  have hD := hD0.self (sz := s.heap.size)
  generalize hAe : va_A (gW x q b d0 p0 cT cD cP cB cU r) s.heap.size = A at hD ⊢
  have hA : ∀ q : Nat, s.heap.size ≤ q → A q := fun q h => by rw [← hAe]; exact Or.inr h
  have hP : va_P (dC, dI) vwCl [(x, .inr (9, gF q 0 0 (-1) (-1) b 0 0)), (q 0, .inl (cT, 900, .inl (fun _ => 0))), (b, .inr (0, [.ref d0, .ref p0, .null])), (d0, .inl (cD, 0, .inr (.inr (.inr (.inr (fun _ => none)))))), (p0, .inl (cP, 0, .inr (.inr (.inr (.inr (fun _ => none)))))), (q 1, .inl (cB, 3, .inr (.inr (.inr (.inr (fun _ => none)))))), (q 2, .inl (cU, 3, .inl (fun _ => 0))), (q 3, .inr (6, rF r 0 0 0 0 0 0 0 0))] s.heap := hP
  have hD : va_D A [(x, .inr (9, gF q 0 0 (-1) (-1) b 0 0)), (q 0, .inl (cT, 900, .inl (fun _ => 0))), (b, .inr (0, [.ref d0, .ref p0, .null])), (d0, .inl (cD, 0, .inr (.inr (.inr (.inr (fun _ => none)))))), (p0, .inl (cP, 0, .inr (.inr (.inr (.inr (fun _ => none)))))), (q 1, .inl (cB, 3, .inr (.inr (.inr (.inr (fun _ => none)))))), (q 2, .inl (cU, 3, .inl (fun _ => 0))), (q 3, .inr (6, rF r 0 0 0 0 0 0 0 0))] := hD
  have hK : va_K (dC, dI) vwCl [(cT, .int), (cD, .object "PatternGate$Doc"), (cP, .object "PatternGate$Pattern"), (cB, .object "PatternGate$Book"), (cU, .int)] s := hK
  generalize hH : s.heap = H at hP ⊢
  have hS : va_S A s.heap H [] := by rw [← hH]; exact va_S.rf
  have hl := lv_entry ([.ref x]) (n := 2) (Nat.le_of_ble_eq_true rfl)
  rw [lg_entry_eq]
  generalize (lg_sl ([.ref x]) ++ List.replicate (2 - (lg_sl ([.ref x])).length) Slot.unset).toArray = ls at hl ⊢
  have hl : lv_has ls 2 [(0, .ref x)] := hl
  refine lv_aload_n hx hb dX9_undo_0 rfl (lv_at hl 0 rfl) ?_
  refine va_get (D := (dC, dI)) (ci := 9) (v := .ref b) (C := RX9) (T := TX9) (N := 16) hx hb hts fin_X9_undo_X9 hown hK hP 0 rfl rfl 5 (by decide) (hts (.fieldLink RX9 29 "PatternGate" "book" "LPatternGate$Book;") (List.mem_of_getElem? (i := 1) (by decide +kernel))) (fun _ h9 => h9) rfl dX9_undo_1 ?_
  refine va_get (D := (dC, dI)) (ci := 0) (v := .null) (C := RX0) (T := TX0) (N := 3) hx hb hts fin_X9_undo_X0 hown hK hP 2 rfl rfl 2 (by decide) (hts (.fieldLink RX9 278 "PatternGate$Book" "earlier" "LPatternGate$Book;") (List.mem_of_getElem? (i := 2) (by decide +kernel))) (fun _ h9 => h9) rfl dX9_undo_4 ?_
  refine lv_astore_nN (lv' := [(1, .null), (0, .ref x)]) hx hb dX9_undo_7 rfl hl (by decide) rfl (fun ls hl => ?_)
  refine lv_aload_n hx hb dX9_undo_8 rfl (lv_at hl 1 rfl) ?_
  refine va_get (D := (dC, dI)) (ci := 9) (v := .int 0) (C := RX9) (T := TX9) (N := 16) hx hb hts fin_X9_undo_X9 hown hK hP 0 rfl rfl 6 (by decide) (hts (.fieldLink RX9 117 "PatternGate" "undoable" "I") (List.mem_of_getElem? (i := 3) (by decide +kernel))) (fun _ h9 => h9) rfl dX9_undo_9 ?_
  refine lv_if_le (tgt := 19) hx hb dX9_undo_12 (by decide) (fun k_1 => ?_) (fun k_1 => absurd (by decide) k_1)
  refine lv_aload_n hx hb dX9_undo_19 rfl (lv_at hl 1 rfl) ?_
  refine lv_iconst (v := 5) hx hb dX9_undo_20 (by decide) ?_
  have hPc := hP.sub (ws' := [(x, .inr (9, gF q 0 0 (-1) (-1) b 0 0))]) [0] rfl
  have hKc := hK.sub (tys' := []) [] rfl
  have hDc := hD.sub (ws' := [(x, .inr (9, gF q 0 0 (-1) (-1) b 0 0))]) [0] (by decide) rfl
  have hFc := va_free (wc := [(x, .inr (9, gF q 0 0 (-1) (-1) b 0 0))]) hD hS hA [0] rfl
  refine va_calli (va_runV (As := [.int 5]) (rest := []) ⟨hx, hb, hml, hown, hts⟩ (c_refuse l dC dI x q 0 0 (-1) (-1) b 0 0 H.size 5) (cwV 1 hts mg_X9_undo_X9_refuse_80 rfl rfl rfl (by decide +kernel) ⟨Nat.le_of_ble_eq_true rfl, Nat.le_of_ble_eq_true rfl⟩) ⟨fun a U g mk q => by obtain ⟨q0, q1, qP, qK, qD⟩ := q; exact ⟨q0, q1, qP, va_K.moved (u := U) (U := U.calling g mk a) (Vm.Alike.refl U.vm) qK, qD⟩, va_recv hKc hPc (ci := 9) (q0 := 0) rfl rfl, fun U hU hW => ⟨rfl, by rw [hU], by rw [hU]; exact hPc, va_K.moved hW.alike hKc, hDc.weaken (fun _ _ _ _ => trivial)⟩⟩ rfl rfl hl.1 rfl (lv_room (Nat.le_of_ble_eq_true rfl)) dX9_undo_21 ⟨Nat.le_of_ble_eq_true rfl, Nat.le_of_ble_eq_true rfl⟩) hS (fun q _ h => hFc q h) hFc (fun r_3 u t H1 locs ht hvm hw hB hz1 hk1 hS => ?_)
  exact W.iret hx hb hr (fun t ht hW => ⟨⟨_, (), rfl, hw, trivial⟩, hS.F ht⟩) hS.2.2 dX9_undo_24
theorem dX9_back_0 : decode cX9_back 0 = .ok (.aload_n 0, 1) := by decide +kernel
theorem dX9_back_1 : decode cX9_back 1 = .ok (.getfield 120, 3) := by decide +kernel
theorem dX9_back_4 : decode cX9_back 4 = .ok (.ifCond .le 11, 3) := by decide +kernel
theorem dX9_back_15 : decode cX9_back 15 = .ok (.aload_n 0, 1) := by decide +kernel
theorem dX9_back_16 : decode cX9_back 16 = .ok (.iconst 5, 1) := by decide +kernel
theorem dX9_back_17 : decode cX9_back 17 = .ok (.invokevirtual 80, 3) := by decide +kernel
theorem dX9_back_20 : decode cX9_back 20 = .ok (.ireturn, 1) := by decide +kernel
def mwX9_back : List Cond := .code yX9_back cX9_back 2 (some .int) :: ([.fieldLink RX9 120 "PatternGate" "marks" "I", .code yX9_refuse cX9_refuse 2 (some .int), .fieldLink RX9 70 "PatternGate" "lastStatus" "I", .methodLink RX9 80 yX9_refuse, .instanceMethod yX9_refuse, .selects RX9 yX9_refuse yX9_refuse, .initialized RX9] ++ wsX90)
theorem fin_X9_back_X9 : ∀ w ∈ wsX90, w ∈ mwX9_back := fun w h => List.mem_cons_of_mem _ (List.mem_append_right _ h)
set_option maxRecDepth 20000 in
theorem mg_X9_back_X9_refuse_80 : GoodIn mwX9_back (wsV RX9 80 RX9 yX9_refuse mwX9_refuse) := goodIn_r _ [4, 5, 6, 7, 2, 3, 8, 9, 10, 11, 12, 13, 14, 15, 16, 17, 18, 19, 20, 21, 22, 23] (by decide +kernel) (by decide +kernel)
set_option maxHeartbeats 4000000 in
set_option maxRecDepth 100000 in
/-- back on a new object -/
theorem c_back (l : Launch) (dC : Nat → ClassId) (dI : Nat → Nat → Nat) (x : Nat) (q : Nat → Nat) (b d0 p0 : Nat) (cT cD cP cB cU : ClassId) (r : Nat → Nat) (sz : Nat) : Met l yX9_back mwX9_back ({ frames := 1, cells := 0, slots := 0, locals := 60 }) (va_Pc [.ref x] (fun U => U.heap.size = sz ∧ va_P (dC, dI) vwCl (gW x q b d0 p0 cT cD cP cB cU r) U.heap ∧ va_K (dC, dI) vwCl (gT cT cD cP cB cU) U ∧ va_D (fun _ => True) (gW x q b d0 p0 cT cD cP cB cU r))) (va_Qi (fun (o : Int32) (_ : Unit) => o = (-1)) (fun _ _ => True) (va_A (gW x q b d0 p0 cT cD cP cB cU r) sz)) 0 0 (va_A (gW x q b d0 p0 cT cD cP cB cU r) sz) := by
  refine Met.ofW (cc := cX9_back) (maxL := 2) (ret := (some .int)) (by decide +kernel) rfl ?_
  intro p e s m args below meth c s₁ B hml hv
  obtain ⟨rfl, hsz, hP, hK, hD0⟩ := hv
  have hx := B.exec
  have hb := B.bytes
  have hr := B.returns
  have hts := atoms_spec (ws := mwX9_back) B.pre
  have hown : s.vm.findClass RX9 = some m.cls := findClass_of_methodNamed B.named
  have hlocks := B.notSynchronized
  subst hsz
  have hD := hD0.self (sz := s.heap.size)
  generalize hAe : va_A (gW x q b d0 p0 cT cD cP cB cU r) s.heap.size = A at hD ⊢
  have hA : ∀ q : Nat, s.heap.size ≤ q → A q := fun q h => by rw [← hAe]; exact Or.inr h
  have hP : va_P (dC, dI) vwCl [(x, .inr (9, gF q 0 0 (-1) (-1) b 0 0)), (q 0, .inl (cT, 900, .inl (fun _ => 0))), (b, .inr (0, [.ref d0, .ref p0, .null])), (d0, .inl (cD, 0, .inr (.inr (.inr (.inr (fun _ => none)))))), (p0, .inl (cP, 0, .inr (.inr (.inr (.inr (fun _ => none)))))), (q 1, .inl (cB, 3, .inr (.inr (.inr (.inr (fun _ => none)))))), (q 2, .inl (cU, 3, .inl (fun _ => 0))), (q 3, .inr (6, rF r 0 0 0 0 0 0 0 0))] s.heap := hP
  have hD : va_D A [(x, .inr (9, gF q 0 0 (-1) (-1) b 0 0)), (q 0, .inl (cT, 900, .inl (fun _ => 0))), (b, .inr (0, [.ref d0, .ref p0, .null])), (d0, .inl (cD, 0, .inr (.inr (.inr (.inr (fun _ => none)))))), (p0, .inl (cP, 0, .inr (.inr (.inr (.inr (fun _ => none)))))), (q 1, .inl (cB, 3, .inr (.inr (.inr (.inr (fun _ => none)))))), (q 2, .inl (cU, 3, .inl (fun _ => 0))), (q 3, .inr (6, rF r 0 0 0 0 0 0 0 0))] := hD
  have hK : va_K (dC, dI) vwCl [(cT, .int), (cD, .object "PatternGate$Doc"), (cP, .object "PatternGate$Pattern"), (cB, .object "PatternGate$Book"), (cU, .int)] s := hK
  generalize hH : s.heap = H at hP ⊢
  have hS : va_S A s.heap H [] := by rw [← hH]; exact va_S.rf
  have hl := lv_entry ([.ref x]) (n := 2) (Nat.le_of_ble_eq_true rfl)
  rw [lg_entry_eq]
  generalize (lg_sl ([.ref x]) ++ List.replicate (2 - (lg_sl ([.ref x])).length) Slot.unset).toArray = ls at hl ⊢
  have hl : lv_has ls 2 [(0, .ref x)] := hl
  refine lv_aload_n hx hb dX9_back_0 rfl (lv_at hl 0 rfl) ?_
  refine va_get (D := (dC, dI)) (ci := 9) (v := .int 0) (C := RX9) (T := TX9) (N := 16) hx hb hts fin_X9_back_X9 hown hK hP 0 rfl rfl 9 (by decide) (hts (.fieldLink RX9 120 "PatternGate" "marks" "I") (List.mem_of_getElem? (i := 1) (by decide +kernel))) (fun _ h9 => h9) rfl dX9_back_1 ?_
  refine lv_if_le (tgt := 15) hx hb dX9_back_4 (by decide) (fun k_1 => ?_) (fun k_1 => absurd (by decide) k_1)
  refine lv_aload_n hx hb dX9_back_15 rfl (lv_at hl 0 rfl) ?_
  refine lv_iconst (v := 5) hx hb dX9_back_16 (by decide) ?_
  have hPc := hP.sub (ws' := [(x, .inr (9, gF q 0 0 (-1) (-1) b 0 0))]) [0] rfl
  have hKc := hK.sub (tys' := []) [] rfl
  have hDc := hD.sub (ws' := [(x, .inr (9, gF q 0 0 (-1) (-1) b 0 0))]) [0] (by decide) rfl
  have hFc := va_free (wc := [(x, .inr (9, gF q 0 0 (-1) (-1) b 0 0))]) hD hS hA [0] rfl
  refine va_calli (va_runV (As := [.int 5]) (rest := []) ⟨hx, hb, hml, hown, hts⟩ (c_refuse l dC dI x q 0 0 (-1) (-1) b 0 0 H.size 5) (cwV 1 hts mg_X9_back_X9_refuse_80 rfl rfl rfl (by decide +kernel) ⟨Nat.le_of_ble_eq_true rfl, Nat.le_of_ble_eq_true rfl⟩) ⟨fun a U g mk q => by obtain ⟨q0, q1, qP, qK, qD⟩ := q; exact ⟨q0, q1, qP, va_K.moved (u := U) (U := U.calling g mk a) (Vm.Alike.refl U.vm) qK, qD⟩, va_recv hKc hPc (ci := 9) (q0 := 0) rfl rfl, fun U hU hW => ⟨rfl, by rw [hU], by rw [hU]; exact hPc, va_K.moved hW.alike hKc, hDc.weaken (fun _ _ _ _ => trivial)⟩⟩ rfl rfl hl.1 rfl (lv_room (Nat.le_of_ble_eq_true rfl)) dX9_back_17 ⟨Nat.le_of_ble_eq_true rfl, Nat.le_of_ble_eq_true rfl⟩) hS (fun q _ h => hFc q h) hFc (fun r_3 u t H1 locs ht hvm hw hB hz1 hk1 hS => ?_)
  exact W.iret hx hb hr (fun t ht hW => ⟨⟨_, (), rfl, hw, trivial⟩, hS.F ht⟩) hS.2.2 dX9_back_20
theorem dX9_fault_0 : decode cX9_fault 0 = .ok (.iload_n 1, 1) := by decide +kernel
theorem dX9_fault_1 : decode cX9_fault 1 = .ok (.ifCond .ne 8, 3) := by decide +kernel
theorem dX9_fault_4 : decode cX9_fault 4 = .ok (.aload_n 0, 1) := by decide +kernel
theorem dX9_fault_5 : decode cX9_fault 5 = .ok (.getfield 13, 3) := by decide +kernel
theorem dX9_fault_8 : decode cX9_fault 8 = .ok (.ireturn, 1) := by decide +kernel
theorem dX9_fault_9 : decode cX9_fault 9 = .ok (.iload_n 1, 1) := by decide +kernel
theorem dX9_fault_10 : decode cX9_fault 10 = .ok (.iconst 1, 1) := by decide +kernel
theorem dX9_fault_11 : decode cX9_fault 11 = .ok (.if_icmp .ne 10, 3) := by decide +kernel
theorem dX9_fault_14 : decode cX9_fault 14 = .ok (.aload_n 0, 1) := by decide +kernel
theorem dX9_fault_15 : decode cX9_fault 15 = .ok (.getfield 17, 3) := by decide +kernel
theorem dX9_fault_18 : decode cX9_fault 18 = .ok (.goto 4, 3) := by decide +kernel
theorem dX9_fault_21 : decode cX9_fault 21 = .ok (.iconst (-1), 1) := by decide +kernel
theorem dX9_fault_22 : decode cX9_fault 22 = .ok (.ireturn, 1) := by decide +kernel
def mwX9_fault : List Cond := .code yX9_fault cX9_fault 2 (some .int) :: ([.fieldLink RX9 17 "PatternGate" "faultPlace" "I", .fieldLink RX9 13 "PatternGate" "faultKind" "I"] ++ wsX90)
theorem fin_X9_fault_X9 : ∀ w ∈ wsX90, w ∈ mwX9_fault := fun w h => List.mem_cons_of_mem _ (List.mem_append_right _ h)
set_option maxHeartbeats 4000000 in
set_option maxRecDepth 100000 in
/-- fault on a new object -/
theorem c_fault (l : Launch) (dC : Nat → ClassId) (dI : Nat → Nat → Nat) (x : Nat) (q : Nat → Nat) (b d0 p0 : Nat) (cT cD cP cB cU : ClassId) (r : Nat → Nat) (sz : Nat) (i0 : Int32) : Met l yX9_fault mwX9_fault ({ frames := 0, cells := 0, slots := 0, locals := 0 }) (va_Pc [.ref x, .int i0] (fun U => U.heap.size = sz ∧ va_P (dC, dI) vwCl (gW x q b d0 p0 cT cD cP cB cU r) U.heap ∧ va_K (dC, dI) vwCl (gT cT cD cP cB cU) U ∧ va_D (fun _ => True) (gW x q b d0 p0 cT cD cP cB cU r))) (va_Qi (fun (o : Int32) (_ : Unit) => o = (-1)) (fun _ _ => True) (va_A (gW x q b d0 p0 cT cD cP cB cU r) sz)) 0 0 (va_A (gW x q b d0 p0 cT cD cP cB cU r) sz) := by
  refine Met.ofW (cc := cX9_fault) (maxL := 2) (ret := (some .int)) (by decide +kernel) rfl ?_
  intro p e s m args below meth c s₁ B hml hv
  obtain ⟨rfl, hsz, hP, hK, hD0⟩ := hv
  have hx := B.exec
  have hb := B.bytes
  have hr := B.returns
  have hts := atoms_spec (ws := mwX9_fault) B.pre
  have hown : s.vm.findClass RX9 = some m.cls := findClass_of_methodNamed B.named
  have hlocks := B.notSynchronized
  subst hsz
  have hD := hD0.self (sz := s.heap.size)
  generalize hAe : va_A (gW x q b d0 p0 cT cD cP cB cU r) s.heap.size = A at hD ⊢
  have hA : ∀ q : Nat, s.heap.size ≤ q → A q := fun q h => by rw [← hAe]; exact Or.inr h
  have hP : va_P (dC, dI) vwCl [(x, .inr (9, gF q 0 0 (-1) (-1) b 0 0)), (q 0, .inl (cT, 900, .inl (fun _ => 0))), (b, .inr (0, [.ref d0, .ref p0, .null])), (d0, .inl (cD, 0, .inr (.inr (.inr (.inr (fun _ => none)))))), (p0, .inl (cP, 0, .inr (.inr (.inr (.inr (fun _ => none)))))), (q 1, .inl (cB, 3, .inr (.inr (.inr (.inr (fun _ => none)))))), (q 2, .inl (cU, 3, .inl (fun _ => 0))), (q 3, .inr (6, rF r 0 0 0 0 0 0 0 0))] s.heap := hP
  have hD : va_D A [(x, .inr (9, gF q 0 0 (-1) (-1) b 0 0)), (q 0, .inl (cT, 900, .inl (fun _ => 0))), (b, .inr (0, [.ref d0, .ref p0, .null])), (d0, .inl (cD, 0, .inr (.inr (.inr (.inr (fun _ => none)))))), (p0, .inl (cP, 0, .inr (.inr (.inr (.inr (fun _ => none)))))), (q 1, .inl (cB, 3, .inr (.inr (.inr (.inr (fun _ => none)))))), (q 2, .inl (cU, 3, .inl (fun _ => 0))), (q 3, .inr (6, rF r 0 0 0 0 0 0 0 0))] := hD
  have hK : va_K (dC, dI) vwCl [(cT, .int), (cD, .object "PatternGate$Doc"), (cP, .object "PatternGate$Pattern"), (cB, .object "PatternGate$Book"), (cU, .int)] s := hK
  generalize hH : s.heap = H at hP ⊢
  have hS : va_S A s.heap H [] := by rw [← hH]; exact va_S.rf
  have hl := lv_entry ([.ref x, .int i0]) (n := 2) (Nat.le_of_ble_eq_true rfl)
  rw [lg_entry_eq]
  generalize (lg_sl ([.ref x, .int i0]) ++ List.replicate (2 - (lg_sl ([.ref x, .int i0])).length) Slot.unset).toArray = ls at hl ⊢
  have hl : lv_has ls 2 [(0, .ref x), (1, .int i0)] := hl
  refine lv_iload_n hx hb dX9_fault_0 rfl (lv_at hl 1 rfl) ?_
  refine lv_if_ne (tgt := 9) hx hb dX9_fault_1 (by decide) (fun k_1 => ?_) (fun k_1 => ?_)
  · refine lv_iload_n hx hb dX9_fault_9 rfl (lv_at hl 1 rfl) ?_
    refine lv_iconst (v := 1) hx hb dX9_fault_10 (by decide) ?_
    refine lv_icmp_ne (tgt := 21) hx hb dX9_fault_11 (by decide) (fun k_2 => ?_) (fun k_2 => ?_)
    · refine lv_iconst (v := (-1)) hx hb dX9_fault_21 (by decide) ?_
      exact W.iret hx hb hr (fun t ht hW => ⟨⟨_, (), rfl, rfl, trivial⟩, hS.F ht⟩) hS.2.2 dX9_fault_22
    · refine lv_aload_n hx hb dX9_fault_14 rfl (lv_at hl 0 rfl) ?_
      refine va_get (D := (dC, dI)) (ci := 9) (v := .int (-1)) (C := RX9) (T := TX9) (N := 16) hx hb hts fin_X9_fault_X9 hown hK hP 0 rfl rfl 4 (by decide) (hts (.fieldLink RX9 17 "PatternGate" "faultPlace" "I") (List.mem_of_getElem? (i := 1) (by decide +kernel))) (fun _ h9 => h9) rfl dX9_fault_15 ?_
      refine lv_goto (tgt := 22) hx hb dX9_fault_18 (by decide) ?_
      exact W.iret hx hb hr (fun t ht hW => ⟨⟨_, (), rfl, rfl, trivial⟩, hS.F ht⟩) hS.2.2 dX9_fault_22
  · refine lv_aload_n hx hb dX9_fault_4 rfl (lv_at hl 0 rfl) ?_
    refine va_get (D := (dC, dI)) (ci := 9) (v := .int (-1)) (C := RX9) (T := TX9) (N := 16) hx hb hts fin_X9_fault_X9 hown hK hP 0 rfl rfl 3 (by decide) (hts (.fieldLink RX9 13 "PatternGate" "faultKind" "I") (List.mem_of_getElem? (i := 2) (by decide +kernel))) (fun _ h9 => h9) rfl dX9_fault_5 ?_
    exact W.iret hx hb hr (fun t ht hW => ⟨⟨_, (), rfl, rfl, trivial⟩, hS.F ht⟩) hS.2.2 dX9_fault_8

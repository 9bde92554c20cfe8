theorem dX10_ahead_0 : decode cX10_ahead 0 = .ok (.aload_n 0, 1) := by decide +kernel
theorem dX10_ahead_1 : decode cX10_ahead 1 = .ok (.aload_n 0, 1) := by decide +kernel
theorem dX10_ahead_2 : decode cX10_ahead 2 = .ok (.getfield 130, 3) := by decide +kernel
theorem dX10_ahead_5 : decode cX10_ahead 5 = .ok (.invokevirtual 133, 3) := by decide +kernel
theorem dX10_ahead_8 : decode cX10_ahead 8 = .ok (.bipush 32, 2) := by decide +kernel
theorem dX10_ahead_10 : decode cX10_ahead 10 = .ok (.if_icmp .eq 16, 3) := by decide +kernel
theorem dX10_ahead_13 : decode cX10_ahead 13 = .ok (.aload_n 0, 1) := by decide +kernel
theorem dX10_ahead_14 : decode cX10_ahead 14 = .ok (.aload_n 0, 1) := by decide +kernel
theorem dX10_ahead_15 : decode cX10_ahead 15 = .ok (.getfield 130, 3) := by decide +kernel
theorem dX10_ahead_18 : decode cX10_ahead 18 = .ok (.invokevirtual 133, 3) := by decide +kernel
theorem dX10_ahead_21 : decode cX10_ahead 21 = .ok (.bipush 10, 2) := by decide +kernel
theorem dX10_ahead_23 : decode cX10_ahead 23 = .ok (.if_icmp .ne 16, 3) := by decide +kernel
theorem dX10_ahead_39 : decode cX10_ahead 39 = .ok (.aload_n 0, 1) := by decide +kernel
theorem dX10_ahead_40 : decode cX10_ahead 40 = .ok (.aload_n 0, 1) := by decide +kernel
theorem dX10_ahead_41 : decode cX10_ahead 41 = .ok (.getfield 130, 3) := by decide +kernel
theorem dX10_ahead_44 : decode cX10_ahead 44 = .ok (.putfield 123, 3) := by decide +kernel
theorem dX10_ahead_47 : decode cX10_ahead 47 = .ok (.aload_n 0, 1) := by decide +kernel
theorem dX10_ahead_48 : decode cX10_ahead 48 = .ok (.aload_n 0, 1) := by decide +kernel
theorem dX10_ahead_49 : decode cX10_ahead 49 = .ok (.getfield 130, 3) := by decide +kernel
theorem dX10_ahead_52 : decode cX10_ahead 52 = .ok (.invokevirtual 133, 3) := by decide +kernel
theorem dX10_ahead_55 : decode cX10_ahead 55 = .ok (.istore_n 1, 1) := by decide +kernel
theorem dX10_ahead_56 : decode cX10_ahead 56 = .ok (.iload_n 1, 1) := by decide +kernel
theorem dX10_ahead_57 : decode cX10_ahead 57 = .ok (.iconst (-1), 1) := by decide +kernel
theorem dX10_ahead_58 : decode cX10_ahead 58 = .ok (.if_icmp .ne 11, 3) := by decide +kernel
theorem dX10_ahead_61 : decode cX10_ahead 61 = .ok (.aload_n 0, 1) := by decide +kernel
theorem dX10_ahead_62 : decode cX10_ahead 62 = .ok (.iconst 0, 1) := by decide +kernel
theorem dX10_ahead_63 : decode cX10_ahead 63 = .ok (.putfield 120, 3) := by decide +kernel
theorem dX10_ahead_66 : decode cX10_ahead 66 = .ok (.goto 80, 3) := by decide +kernel
theorem dX10_ahead_146 : decode cX10_ahead 146 = .ok (.return_, 1) := by decide +kernel
def mwX10_ahead : List Cond := .code yX10_ahead cX10_ahead 2 none :: ([.fieldLink RX10 130 "PatternGateModel" "end" "I", .code yX10_byteAt cX10_byteAt 2 (some .int), .fieldLink RX10 114 "PatternGateModel" "size" "I", .methodLink RX10 133 yX10_byteAt, .instanceMethod yX10_byteAt, .selects RX10 yX10_byteAt yX10_byteAt, .initialized RX10, .fieldLink RX10 123 "PatternGateModel" "begin" "I", .fieldLink RX10 120 "PatternGateModel" "token" "I"] ++ wsX100)
theorem fin_X10_ahead_X10 : ∀ w ∈ wsX100, w ∈ mwX10_ahead := fun w h => List.mem_cons_of_mem _ (List.mem_append_right _ h)
set_option maxRecDepth 20000 in
theorem mg_X10_ahead_X10_byteAt_133 : GoodIn mwX10_ahead (wsV RX10 133 RX10 yX10_byteAt mwX10_byteAt) := goodIn_r _ [4, 5, 6, 7, 2, 3, 10, 11, 12, 13, 14, 15, 16, 17, 18, 19, 20, 21, 22, 23, 24, 25, 26, 27, 28, 29, 30, 31, 32, 33, 34, 35, 36, 37, 38, 39, 40, 41, 42, 43, 44, 45, 46, 47, 48, 49, 50, 51, 52, 53, 54, 55, 56, 57] (by decide +kernel) (by decide +kernel)
set_option maxHeartbeats 4000000 in
set_option maxRecDepth 100000 in
/-- ahead: END -/
theorem m_ahead (l : Launch) (dC : Nat → ClassId) (dI : Nat → Nat → Nat) (y : Nat) (z : Nat → Nat) (a0 a1 a2 a3 a5 a6 a8 a9 a10 : Int32) (sz : Nat) : Met l yX10_ahead mwX10_ahead ({ frames := 1, cells := 0, slots := 0, locals := 60 }) (va_Pc [.ref y] (fun U => U.heap.size = sz ∧ va_P (dC, dI) vwCl ([(y, .inr (10, mF z a0 a1 a2 a3 0 a5 a6 0 a8 a9 a10))]) U.heap ∧ va_K (dC, dI) vwCl ([]) U ∧ va_D (fun _ => True) ([(y, .inr (10, mF z a0 a1 a2 a3 0 a5 a6 0 a8 a9 a10))]))) (va_Qv (fun (_ : Unit) => True) (fun _ t => va_P (dC, dI) vwCl [(y, .inr (10, mF z a0 a1 a2 a3 0 0 0 0 a8 a9 a10))] t.heap ∧ va_K (dC, dI) vwCl [] t ∧ va_D (va_A ([(y, .inr (10, mF z a0 a1 a2 a3 0 a5 a6 0 a8 a9 a10))]) sz) [(y, .inr (10, mF z a0 a1 a2 a3 0 0 0 0 a8 a9 a10))]) (va_A ([(y, .inr (10, mF z a0 a1 a2 a3 0 a5 a6 0 a8 a9 a10))]) sz)) 0 0 (va_A ([(y, .inr (10, mF z a0 a1 a2 a3 0 a5 a6 0 a8 a9 a10))]) sz) := by
  refine Met.ofW (cc := cX10_ahead) (maxL := 2) (ret := none) (by decide +kernel) rfl ?_
  intro p e s m args below meth c s₁ B hml hv
  obtain ⟨rfl, hsz, hP, hK, hD0⟩ := hv
  have hx := B.exec
  have hb := B.bytes
  have hr := B.returns
  have hts := atoms_spec (ws := mwX10_ahead) B.pre
  have hown : s.vm.findClass RX10 = some m.cls := findClass_of_methodNamed B.named
  have hlocks := B.notSynchronized
  subst hsz
  have hD := hD0.self (sz := s.heap.size)
  generalize hAe : va_A ([(y, .inr (10, mF z a0 a1 a2 a3 0 a5 a6 0 a8 a9 a10))]) s.heap.size = A at hD ⊢
  have hA : ∀ q : Nat, s.heap.size ≤ q → A q := fun q h => by rw [← hAe]; exact Or.inr h
  have hP : va_P (dC, dI) vwCl [(y, .inr (10, mF z a0 a1 a2 a3 0 a5 a6 0 a8 a9 a10))] s.heap := hP
  have hD : va_D A [(y, .inr (10, mF z a0 a1 a2 a3 0 a5 a6 0 a8 a9 a10))] := hD
  have hK : va_K (dC, dI) vwCl [] s := hK
  generalize hH : s.heap = H at hP ⊢
  have hS : va_S A s.heap H [] := by rw [← hH]; exact va_S.rf
  have hl := lv_entry ([.ref y]) (n := 2) (Nat.le_of_ble_eq_true rfl)
  rw [lg_entry_eq]
  generalize (lg_sl ([.ref y]) ++ List.replicate (2 - (lg_sl ([.ref y])).length) Slot.unset).toArray = ls at hl ⊢
  have hl : lv_has ls 2 [(0, .ref y)] := hl
  refine lv_aload_n hx hb dX10_ahead_0 rfl (lv_at hl 0 rfl) ?_
  refine lv_aload_n hx hb dX10_ahead_1 rfl (lv_at hl 0 rfl) ?_
  refine va_get (D := (dC, dI)) (ci := 10) (v := .int 0) (C := RX10) (T := TX10) (N := 48) hx hb hts fin_X10_ahead_X10 hown hK hP 0 rfl rfl 10 (by decide) (hts (.fieldLink RX10 130 "PatternGateModel" "end" "I") (List.mem_of_getElem? (i := 1) (by decide +kernel))) (fun _ h9 => h9) rfl dX10_ahead_2 ?_
  have hPc := hP.sub (ws' := [(y, .inr (10, mF z a0 a1 a2 a3 0 a5 a6 0 a8 a9 a10))]) [0] rfl
  have hKc := hK.sub (tys' := []) [] rfl
  refine vp_callSi (W.runV (As := [.int 0]) (rest := []) ⟨hx, hb, hml, hown, hts⟩ (m_byteAt l dC dI y z a0 a1 a2 a3 a5 a6 0 a8 a9 a10) (cwV 1 hts mg_X10_ahead_X10_byteAt_133 rfl rfl rfl (by decide +kernel) ⟨Nat.le_of_ble_eq_true rfl, Nat.le_of_ble_eq_true rfl⟩) ⟨fun a U g mk q => by obtain ⟨q0, qP, qK⟩ := q; exact ⟨q0, qP, va_K.moved (u := U) (U := U.calling g mk a) (Vm.Alike.refl U.vm) qK⟩, va_recv hKc hPc (ci := 10) (q0 := 0) rfl rfl, fun U hU hW => ⟨rfl, by rw [hU]; exact hPc, va_K.moved hW.alike hKc⟩⟩ rfl rfl hl.1 rfl (lv_room (Nat.le_of_ble_eq_true rfl)) dX10_ahead_5 ⟨Nat.le_of_ble_eq_true rfl, Nat.le_of_ble_eq_true rfl⟩) (fun r_2 hw => ?_)
  subst hw
  refine lv_bipush (v := 32) hx hb dX10_ahead_8 (by decide) ?_
  refine lv_icmp_eq (tgt := 26) hx hb dX10_ahead_10 (by decide) (fun k_3 => absurd k_3 (by decide)) (fun k_3 => ?_)
  refine lv_aload_n hx hb dX10_ahead_13 rfl (lv_at hl 0 rfl) ?_
  refine lv_aload_n hx hb dX10_ahead_14 rfl (lv_at hl 0 rfl) ?_
  refine va_get (D := (dC, dI)) (ci := 10) (v := .int 0) (C := RX10) (T := TX10) (N := 48) hx hb hts fin_X10_ahead_X10 hown hK hP 0 rfl rfl 10 (by decide) (hts (.fieldLink RX10 130 "PatternGateModel" "end" "I") (List.mem_of_getElem? (i := 1) (by decide +kernel))) (fun _ h9 => h9) rfl dX10_ahead_15 ?_
  have hPc := hP.sub (ws' := [(y, .inr (10, mF z a0 a1 a2 a3 0 a5 a6 0 a8 a9 a10))]) [0] rfl
  have hKc := hK.sub (tys' := []) [] rfl
  refine vp_callSi (W.runV (As := [.int 0]) (rest := []) ⟨hx, hb, hml, hown, hts⟩ (m_byteAt l dC dI y z a0 a1 a2 a3 a5 a6 0 a8 a9 a10) (cwV 1 hts mg_X10_ahead_X10_byteAt_133 rfl rfl rfl (by decide +kernel) ⟨Nat.le_of_ble_eq_true rfl, Nat.le_of_ble_eq_true rfl⟩) ⟨fun a U g mk q => by obtain ⟨q0, qP, qK⟩ := q; exact ⟨q0, qP, va_K.moved (u := U) (U := U.calling g mk a) (Vm.Alike.refl U.vm) qK⟩, va_recv hKc hPc (ci := 10) (q0 := 0) rfl rfl, fun U hU hW => ⟨rfl, by rw [hU]; exact hPc, va_K.moved hW.alike hKc⟩⟩ rfl rfl hl.1 rfl (lv_room (Nat.le_of_ble_eq_true rfl)) dX10_ahead_18 ⟨Nat.le_of_ble_eq_true rfl, Nat.le_of_ble_eq_true rfl⟩) (fun r_5 hw => ?_)
  subst hw
  refine lv_bipush (v := 10) hx hb dX10_ahead_21 (by decide) ?_
  refine lv_icmp_ne (tgt := 39) hx hb dX10_ahead_23 (by decide) (fun k_6 => ?_) (fun k_6 => absurd k_6 (by decide))
  refine lv_aload_n hx hb dX10_ahead_39 rfl (lv_at hl 0 rfl) ?_
  refine lv_aload_n hx hb dX10_ahead_40 rfl (lv_at hl 0 rfl) ?_
  refine va_get (D := (dC, dI)) (ci := 10) (v := .int 0) (C := RX10) (T := TX10) (N := 48) hx hb hts fin_X10_ahead_X10 hown hK hP 0 rfl rfl 10 (by decide) (hts (.fieldLink RX10 130 "PatternGateModel" "end" "I") (List.mem_of_getElem? (i := 1) (by decide +kernel))) (fun _ h9 => h9) rfl dX10_ahead_41 ?_
  refine va_put (D := (dC, dI)) (ci := 10) (v := .int 0) (ty := .int) (C := RX10) (T := TX10) (N := 48) hx hb hts fin_X10_ahead_X10 tyX10 tyX10_ok nmX10 hown hK hP hD hS 0 rfl rfl 9 (by decide) (hts (.fieldLink RX10 123 "PatternGateModel" "begin" "I") (List.mem_of_getElem? (i := 8) (by decide +kernel))) (fun _ h9 => h9) rfl (by decide +kernel) rfl rfl (Nat.le_of_ble_eq_true rfl) dX10_ahead_44 (fun H locs hP hD hS => ?_)
  have hP : va_P (dC, dI) vwCl [(y, .inr (10, mF z a0 a1 a2 a3 0 a5 0 0 a8 a9 a10))] H := hP
  have hD : va_D A [(y, .inr (10, mF z a0 a1 a2 a3 0 a5 0 0 a8 a9 a10))] := hD
  refine lv_aload_n hx hb dX10_ahead_47 rfl (lv_at hl 0 rfl) ?_
  refine lv_aload_n hx hb dX10_ahead_48 rfl (lv_at hl 0 rfl) ?_
  refine va_get (D := (dC, dI)) (ci := 10) (v := .int 0) (C := RX10) (T := TX10) (N := 48) hx hb hts fin_X10_ahead_X10 hown hK hP 0 rfl rfl 10 (by decide) (hts (.fieldLink RX10 130 "PatternGateModel" "end" "I") (List.mem_of_getElem? (i := 1) (by decide +kernel))) (fun _ h9 => h9) rfl dX10_ahead_49 ?_
  have hPc := hP.sub (ws' := [(y, .inr (10, mF z a0 a1 a2 a3 0 a5 0 0 a8 a9 a10))]) [0] rfl
  have hKc := hK.sub (tys' := []) [] rfl
  refine vp_callSi (W.runV (As := [.int 0]) (rest := []) ⟨hx, hb, hml, hown, hts⟩ (m_byteAt l dC dI y z a0 a1 a2 a3 a5 0 0 a8 a9 a10) (cwV 1 hts mg_X10_ahead_X10_byteAt_133 rfl rfl rfl (by decide +kernel) ⟨Nat.le_of_ble_eq_true rfl, Nat.le_of_ble_eq_true rfl⟩) ⟨fun a U g mk q => by obtain ⟨q0, qP, qK⟩ := q; exact ⟨q0, qP, va_K.moved (u := U) (U := U.calling g mk a) (Vm.Alike.refl U.vm) qK⟩, va_recv hKc hPc (ci := 10) (q0 := 0) rfl rfl, fun U hU hW => ⟨rfl, by rw [hU]; exact hPc, va_K.moved hW.alike hKc⟩⟩ rfl rfl hl.1 rfl (lv_room (Nat.le_of_ble_eq_true rfl)) dX10_ahead_52 ⟨Nat.le_of_ble_eq_true rfl, Nat.le_of_ble_eq_true rfl⟩) (fun r_8 hw => ?_)
  subst hw
  refine lv_istore_n (lv' := [(1, .int (-1)), (0, .ref y)]) hx hb dX10_ahead_55 rfl hl (by decide) rfl (fun ls hl => ?_)
  refine lv_iload_n hx hb dX10_ahead_56 rfl (lv_at hl 0 rfl) ?_
  refine lv_iconst (v := (-1)) hx hb dX10_ahead_57 (by decide) ?_
  refine lv_icmp_ne (tgt := 69) hx hb dX10_ahead_58 (by decide) (fun k_9 => absurd (by decide) k_9) (fun k_9 => ?_)
  refine lv_aload_n hx hb dX10_ahead_61 rfl (lv_at hl 1 rfl) ?_
  refine lv_iconst (v := 0) hx hb dX10_ahead_62 (by decide) ?_
  refine va_put (D := (dC, dI)) (ci := 10) (v := .int 0) (ty := .int) (C := RX10) (T := TX10) (N := 48) hx hb hts fin_X10_ahead_X10 tyX10 tyX10_ok nmX10 hown hK hP hD hS 0 rfl rfl 8 (by decide) (hts (.fieldLink RX10 120 "PatternGateModel" "token" "I") (List.mem_of_getElem? (i := 9) (by decide +kernel))) (fun _ h9 => h9) rfl (by decide +kernel) rfl rfl (Nat.le_of_ble_eq_true rfl) dX10_ahead_63 (fun H locs hP hD hS => ?_)
  have hP : va_P (dC, dI) vwCl [(y, .inr (10, mF z a0 a1 a2 a3 0 0 0 0 a8 a9 a10))] H := hP
  have hD : va_D A [(y, .inr (10, mF z a0 a1 a2 a3 0 0 0 0 a8 a9 a10))] := hD
  refine lv_goto (tgt := 146) hx hb dX10_ahead_66 (by decide) ?_
  have hP9 := hP.sub (ws' := [(y, .inr (10, mF z a0 a1 a2 a3 0 0 0 0 a8 a9 a10))]) [0] rfl
  have hD9 := hD.sub (ws' := [(y, .inr (10, mF z a0 a1 a2 a3 0 0 0 0 a8 a9 a10))]) [0] (by decide) rfl
  have hK9 := hK.sub (tys' := []) [] rfl
  exact W.vret hx hb hr (fun t ht hW => ⟨⟨(), rfl, trivial, by rw [ht]; exact hP9, va_K.moved hW.alike hK9, hD9⟩, hS.F ht⟩) hS.2.2 dX10_ahead_146
theorem dX10_reads_0 : decode cX10_reads 0 = .ok (.aload_n 0, 1) := by decide +kernel
theorem dX10_reads_1 : decode cX10_reads 1 = .ok (.iload_n 1, 1) := by decide +kernel
theorem dX10_reads_2 : decode cX10_reads 2 = .ok (.putfield 114, 3) := by decide +kernel
theorem dX10_reads_5 : decode cX10_reads 5 = .ok (.iconst 0, 1) := by decide +kernel
theorem dX10_reads_6 : decode cX10_reads 6 = .ok (.istore_n 3, 1) := by decide +kernel
theorem dX10_reads_7 : decode cX10_reads 7 = .ok (.iload_n 3, 1) := by decide +kernel
theorem dX10_reads_8 : decode cX10_reads 8 = .ok (.iload_n 1, 1) := by decide +kernel
theorem dX10_reads_9 : decode cX10_reads 9 = .ok (.if_icmp .ge 21, 3) := by decide +kernel
theorem dX10_reads_30 : decode cX10_reads 30 = .ok (.aload_n 0, 1) := by decide +kernel
theorem dX10_reads_31 : decode cX10_reads 31 = .ok (.iconst 0, 1) := by decide +kernel
theorem dX10_reads_32 : decode cX10_reads 32 = .ok (.putfield 107, 3) := by decide +kernel
theorem dX10_reads_35 : decode cX10_reads 35 = .ok (.aload_n 0, 1) := by decide +kernel
theorem dX10_reads_36 : decode cX10_reads 36 = .ok (.iconst 0, 1) := by decide +kernel
theorem dX10_reads_37 : decode cX10_reads 37 = .ok (.putfield 117, 3) := by decide +kernel
theorem dX10_reads_40 : decode cX10_reads 40 = .ok (.aload_n 0, 1) := by decide +kernel
theorem dX10_reads_41 : decode cX10_reads 41 = .ok (.iconst (-1), 1) := by decide +kernel
theorem dX10_reads_42 : decode cX10_reads 42 = .ok (.putfield 21, 3) := by decide +kernel
theorem dX10_reads_45 : decode cX10_reads 45 = .ok (.aload_n 0, 1) := by decide +kernel
theorem dX10_reads_46 : decode cX10_reads 46 = .ok (.iconst 0, 1) := by decide +kernel
theorem dX10_reads_47 : decode cX10_reads 47 = .ok (.putfield 130, 3) := by decide +kernel
theorem dX10_reads_50 : decode cX10_reads 50 = .ok (.aload_n 0, 1) := by decide +kernel
theorem dX10_reads_51 : decode cX10_reads 51 = .ok (.iconst 0, 1) := by decide +kernel
theorem dX10_reads_52 : decode cX10_reads 52 = .ok (.sipush 7820, 3) := by decide +kernel
theorem dX10_reads_55 : decode cX10_reads 55 = .ok (.invokevirtual 193, 3) := by decide +kernel
theorem dX10_reads_58 : decode cX10_reads 58 = .ok (.iload_n 2, 1) := by decide +kernel
theorem dX10_reads_59 : decode cX10_reads 59 = .ok (.ifCond .eq 19, 3) := by decide +kernel
theorem dX10_reads_62 : decode cX10_reads 62 = .ok (.aload_n 0, 1) := by decide +kernel
theorem dX10_reads_63 : decode cX10_reads 63 = .ok (.getfield 8, 3) := by decide +kernel
theorem dX10_reads_66 : decode cX10_reads 66 = .ok (.iconst 0, 1) := by decide +kernel
theorem dX10_reads_67 : decode cX10_reads 67 = .ok (.iconst 0, 1) := by decide +kernel
theorem dX10_reads_68 : decode cX10_reads 68 = .ok (.iastore, 1) := by decide +kernel
theorem dX10_reads_69 : decode cX10_reads 69 = .ok (.aload_n 0, 1) := by decide +kernel
theorem dX10_reads_70 : decode cX10_reads 70 = .ok (.getfield 8, 3) := by decide +kernel
theorem dX10_reads_73 : decode cX10_reads 73 = .ok (.sipush 611, 3) := by decide +kernel
theorem dX10_reads_76 : decode cX10_reads 76 = .ok (.iconst 0, 1) := by decide +kernel
theorem dX10_reads_77 : decode cX10_reads 77 = .ok (.iastore, 1) := by decide +kernel
theorem dX10_reads_78 : decode cX10_reads 78 = .ok (.aload_n 0, 1) := by decide +kernel
theorem dX10_reads_79 : decode cX10_reads 79 = .ok (.invokevirtual 184, 3) := by decide +kernel
theorem dX10_reads_82 : decode cX10_reads 82 = .ok (.iconst 1, 1) := by decide +kernel
theorem dX10_reads_83 : decode cX10_reads 83 = .ok (.istore_n 3, 1) := by decide +kernel
theorem dX10_reads_84 : decode cX10_reads 84 = .ok (.iload_n 3, 1) := by decide +kernel
theorem dX10_reads_85 : decode cX10_reads 85 = .ok (.ifCond .eq 18, 3) := by decide +kernel
theorem dX10_reads_88 : decode cX10_reads 88 = .ok (.aload_n 0, 1) := by decide +kernel
theorem dX10_reads_89 : decode cX10_reads 89 = .ok (.getfield 120, 3) := by decide +kernel
theorem dX10_reads_92 : decode cX10_reads 92 = .ok (.ifCond .eq 11, 3) := by decide +kernel
theorem dX10_reads_103 : decode cX10_reads 103 = .ok (.aload_n 0, 1) := by decide +kernel
theorem dX10_reads_104 : decode cX10_reads 104 = .ok (.aload_n 0, 1) := by decide +kernel
theorem dX10_reads_105 : decode cX10_reads 105 = .ok (.getfield 117, 3) := by decide +kernel
theorem dX10_reads_108 : decode cX10_reads 108 = .ok (.putfield 25, 3) := by decide +kernel
theorem dX10_reads_111 : decode cX10_reads 111 = .ok (.aload_n 0, 1) := by decide +kernel
theorem dX10_reads_112 : decode cX10_reads 112 = .ok (.getfield 117, 3) := by decide +kernel
theorem dX10_reads_115 : decode cX10_reads 115 = .ok (.ifCond .le 11, 3) := by decide +kernel
theorem dX10_reads_126 : decode cX10_reads 126 = .ok (.aload_n 0, 1) := by decide +kernel
theorem dX10_reads_127 : decode cX10_reads 127 = .ok (.getfield 117, 3) := by decide +kernel
theorem dX10_reads_130 : decode cX10_reads 130 = .ok (.ifCond .ne 7, 3) := by decide +kernel
theorem dX10_reads_133 : decode cX10_reads 133 = .ok (.iconst 1, 1) := by decide +kernel
theorem dX10_reads_134 : decode cX10_reads 134 = .ok (.goto 4, 3) := by decide +kernel
theorem dX10_reads_138 : decode cX10_reads 138 = .ok (.ireturn, 1) := by decide +kernel
def mwX10_reads : List Cond := .code yX10_reads cX10_reads 4 (some .boolean) :: ([.fieldLink RX10 114 "PatternGateModel" "size" "I", .fieldLink RX10 107 "PatternGateModel" "taped" "I", .fieldLink RX10 117 "PatternGateModel" "faults" "I", .fieldLink RX10 21 "PatternGateModel" "faultPlace" "I", .fieldLink RX10 130 "PatternGateModel" "end" "I", .code yX10_copies cX10_copies 4 none, .fieldLink RX10 8 "PatternGateModel" "all" "[I", .methodLink RX10 193 yX10_copies, .instanceMethod yX10_copies, .selects RX10 yX10_copies yX10_copies, .initialized RX10, .code yX10_ahead cX10_ahead 2 none, .code yX10_byteAt cX10_byteAt 2 (some .int), .methodLink RX10 133 yX10_byteAt, .instanceMethod yX10_byteAt, .selects RX10 yX10_byteAt yX10_byteAt, .fieldLink RX10 123 "PatternGateModel" "begin" "I", .fieldLink RX10 120 "PatternGateModel" "token" "I", .methodLink RX10 184 yX10_ahead, .instanceMethod yX10_ahead, .selects RX10 yX10_ahead yX10_ahead, .fieldLink RX10 25 "PatternGateModel" "faultKind" "I"] ++ wsX100)
theorem fin_X10_reads_X10 : ∀ w ∈ wsX100, w ∈ mwX10_reads := fun w h => List.mem_cons_of_mem _ (List.mem_append_right _ h)
set_option maxRecDepth 20000 in
theorem mg_X10_reads_X10_copies_193 : GoodIn mwX10_reads (wsV RX10 193 RX10 yX10_copies mwX10_copies) := goodIn_r _ [8, 9, 10, 11, 6, 7, 23, 24, 25, 26, 27, 28, 29, 30, 31, 32, 33, 34, 35, 36, 37, 38, 39, 40, 41, 42, 43, 44, 45, 46, 47, 48, 49, 50, 51, 52, 53, 54, 55, 56, 57, 58, 59, 60, 61, 62, 63, 64, 65, 66, 67, 68, 69, 70] (by decide +kernel) (by decide +kernel)
set_option maxRecDepth 20000 in
theorem mg_X10_reads_X10_ahead_184 : GoodIn mwX10_reads (wsV RX10 184 RX10 yX10_ahead mwX10_ahead) := goodIn_r _ [19, 20, 21, 11, 12, 5, 13, 1, 14, 15, 16, 11, 17, 18, 23, 24, 25, 26, 27, 28, 29, 30, 31, 32, 33, 34, 35, 36, 37, 38, 39, 40, 41, 42, 43, 44, 45, 46, 47, 48, 49, 50, 51, 52, 53, 54, 55, 56, 57, 58, 59, 60, 61, 62, 63, 64, 65, 66, 67, 68, 69, 70] (by decide +kernel) (by decide +kernel)
set_option maxHeartbeats 4000000 in
set_option maxRecDepth 100000 in
/-- reads nothing: no FAULT -/
theorem m_reads (l : Launch) (dC : Nat → ClassId) (dI : Nat → Nat → Nat) (y : Nat) (z : Nat → Nat) (a0 a1 a2 a3 a4 a5 a6 a7 a8 a9 a10 : Int32) (mA : ClassId) (sz : Nat) (v : Int32) : Met l yX10_reads mwX10_reads ({ frames := 2, cells := 0, slots := 0, locals := 120 }) (va_Pc [.ref y, .int 0, .int v] (fun U => U.heap.size = sz ∧ va_P (dC, dI) vwCl ([(y, .inr (10, mF z a0 a1 a2 a3 a4 a5 a6 a7 a8 a9 a10)), (z 0, .inl (mA, 101660, .inl (fun _ => 0)))]) U.heap ∧ va_K (dC, dI) vwCl ([(mA, .int)]) U ∧ va_D (fun _ => True) ([(y, .inr (10, mF z a0 a1 a2 a3 a4 a5 a6 a7 a8 a9 a10)), (z 0, .inl (mA, 101660, .inl (fun _ => 0)))]))) (va_Qi (fun (o : Int32) (_ : Unit) => o = 1) (fun _ t => va_P (dC, dI) vwCl [(y, .inr (10, mF z a0 a1 a2 0 0 0 0 0 0 (-1) 0)), (z 0, .inl (mA, 101660, .inl (fun _ => 0)))] t.heap ∧ va_K (dC, dI) vwCl [(mA, .int)] t ∧ va_D (va_A ([(y, .inr (10, mF z a0 a1 a2 a3 a4 a5 a6 a7 a8 a9 a10)), (z 0, .inl (mA, 101660, .inl (fun _ => 0)))]) sz) [(y, .inr (10, mF z a0 a1 a2 0 0 0 0 0 0 (-1) 0)), (z 0, .inl (mA, 101660, .inl (fun _ => 0)))]) (va_A ([(y, .inr (10, mF z a0 a1 a2 a3 a4 a5 a6 a7 a8 a9 a10)), (z 0, .inl (mA, 101660, .inl (fun _ => 0)))]) sz)) 0 0 (va_A ([(y, .inr (10, mF z a0 a1 a2 a3 a4 a5 a6 a7 a8 a9 a10)), (z 0, .inl (mA, 101660, .inl (fun _ => 0)))]) sz) := by
  refine Met.ofW (cc := cX10_reads) (maxL := 4) (ret := (some .boolean)) (by decide +kernel) rfl ?_
  intro p e s m args below meth c s₁ B hml hv
  obtain ⟨rfl, hsz, hP, hK, hD0⟩ := hv
  have hx := B.exec
  have hb := B.bytes
  have hr := B.returns
  have hts := atoms_spec (ws := mwX10_reads) B.pre
  have hown : s.vm.findClass RX10 = some m.cls := findClass_of_methodNamed B.named
  have hlocks := B.notSynchronized
  subst hsz
  have hD := hD0.self (sz := s.heap.size)
  generalize hAe : va_A ([(y, .inr (10, mF z a0 a1 a2 a3 a4 a5 a6 a7 a8 a9 a10)), (z 0, .inl (mA, 101660, .inl (fun _ => 0)))]) s.heap.size = A at hD ⊢
  have hA : ∀ q : Nat, s.heap.size ≤ q → A q := fun q h => by rw [← hAe]; exact Or.inr h
  have hP : va_P (dC, dI) vwCl [(y, .inr (10, mF z a0 a1 a2 a3 a4 a5 a6 a7 a8 a9 a10)), (z 0, .inl (mA, 101660, .inl (fun _ => 0)))] s.heap := hP
  have hD : va_D A [(y, .inr (10, mF z a0 a1 a2 a3 a4 a5 a6 a7 a8 a9 a10)), (z 0, .inl (mA, 101660, .inl (fun _ => 0)))] := hD
  have hK : va_K (dC, dI) vwCl [(mA, .int)] s := hK
  generalize hH : s.heap = H at hP ⊢
  have hS : va_S A s.heap H [] := by rw [← hH]; exact va_S.rf
  have hl := lv_entry ([.ref y, .int 0, .int v]) (n := 4) (Nat.le_of_ble_eq_true rfl)
  rw [lg_entry_eq]
  generalize (lg_sl ([.ref y, .int 0, .int v]) ++ List.replicate (4 - (lg_sl ([.ref y, .int 0, .int v])).length) Slot.unset).toArray = ls at hl ⊢
  have hl : lv_has ls 4 [(0, .ref y), (1, .int 0), (2, .int v)] := hl
  refine lv_aload_n hx hb dX10_reads_0 rfl (lv_at hl 0 rfl) ?_
  refine lv_iload_n hx hb dX10_reads_1 rfl (lv_at hl 1 rfl) ?_
  refine va_put (D := (dC, dI)) (ci := 10) (v := .int 0) (ty := .int) (C := RX10) (T := TX10) (N := 48) hx hb hts fin_X10_reads_X10 tyX10 tyX10_ok nmX10 hown hK hP hD hS 0 rfl rfl 7 (by decide) (hts (.fieldLink RX10 114 "PatternGateModel" "size" "I") (List.mem_of_getElem? (i := 1) (by decide +kernel))) (fun _ h9 => h9) rfl (by decide +kernel) rfl rfl (Nat.le_of_ble_eq_true rfl) dX10_reads_2 (fun H locs hP hD hS => ?_)
  have hP : va_P (dC, dI) vwCl [(y, .inr (10, mF z a0 a1 a2 a3 0 a5 a6 a7 a8 a9 a10)), (z 0, .inl (mA, 101660, .inl (fun _ => 0)))] H := hP
  have hD : va_D A [(y, .inr (10, mF z a0 a1 a2 a3 0 a5 a6 a7 a8 a9 a10)), (z 0, .inl (mA, 101660, .inl (fun _ => 0)))] := hD
  refine lv_iconst (v := 0) hx hb dX10_reads_5 (by decide) ?_
  refine lv_istore_n (lv' := [(3, .int 0), (0, .ref y), (1, .int 0), (2, .int v)]) hx hb dX10_reads_6 rfl hl (by decide) rfl (fun ls hl => ?_)
  refine lv_iload_n hx hb dX10_reads_7 rfl (lv_at hl 0 rfl) ?_
  refine lv_iload_n hx hb dX10_reads_8 rfl (lv_at hl 2 rfl) ?_
  refine lv_icmp_ge (tgt := 30) hx hb dX10_reads_9 (by decide) (fun k_1 => ?_) (fun k_1 => absurd (by decide) k_1)
  refine lv_aload_n hx hb dX10_reads_30 rfl (lv_at hl 1 rfl) ?_
  refine lv_iconst (v := 0) hx hb dX10_reads_31 (by decide) ?_
  refine va_put (D := (dC, dI)) (ci := 10) (v := .int 0) (ty := .int) (C := RX10) (T := TX10) (N := 48) hx hb hts fin_X10_reads_X10 tyX10 tyX10_ok nmX10 hown hK hP hD hS 0 rfl rfl 6 (by decide) (hts (.fieldLink RX10 107 "PatternGateModel" "taped" "I") (List.mem_of_getElem? (i := 2) (by decide +kernel))) (fun _ h9 => h9) rfl (by decide +kernel) rfl rfl (Nat.le_of_ble_eq_true rfl) dX10_reads_32 (fun H locs hP hD hS => ?_)
  have hP : va_P (dC, dI) vwCl [(y, .inr (10, mF z a0 a1 a2 0 0 a5 a6 a7 a8 a9 a10)), (z 0, .inl (mA, 101660, .inl (fun _ => 0)))] H := hP
  have hD : va_D A [(y, .inr (10, mF z a0 a1 a2 0 0 a5 a6 a7 a8 a9 a10)), (z 0, .inl (mA, 101660, .inl (fun _ => 0)))] := hD
  refine lv_aload_n hx hb dX10_reads_35 rfl (lv_at hl 1 rfl) ?_
  refine lv_iconst (v := 0) hx hb dX10_reads_36 (by decide) ?_
  refine va_put (D := (dC, dI)) (ci := 10) (v := .int 0) (ty := .int) (C := RX10) (T := TX10) (N := 48) hx hb hts fin_X10_reads_X10 tyX10 tyX10_ok nmX10 hown hK hP hD hS 0 rfl rfl 11 (by decide) (hts (.fieldLink RX10 117 "PatternGateModel" "faults" "I") (List.mem_of_getElem? (i := 3) (by decide +kernel))) (fun _ h9 => h9) rfl (by decide +kernel) rfl rfl (Nat.le_of_ble_eq_true rfl) dX10_reads_37 (fun H locs hP hD hS => ?_)
  have hP : va_P (dC, dI) vwCl [(y, .inr (10, mF z a0 a1 a2 0 0 a5 a6 a7 0 a9 a10)), (z 0, .inl (mA, 101660, .inl (fun _ => 0)))] H := hP
  have hD : va_D A [(y, .inr (10, mF z a0 a1 a2 0 0 a5 a6 a7 0 a9 a10)), (z 0, .inl (mA, 101660, .inl (fun _ => 0)))] := hD
  refine lv_aload_n hx hb dX10_reads_40 rfl (lv_at hl 1 rfl) ?_
  refine lv_iconst (v := (-1)) hx hb dX10_reads_41 (by decide) ?_
  refine va_put (D := (dC, dI)) (ci := 10) (v := .int (-1)) (ty := .int) (C := RX10) (T := TX10) (N := 48) hx hb hts fin_X10_reads_X10 tyX10 tyX10_ok nmX10 hown hK hP hD hS 0 rfl rfl 12 (by decide) (hts (.fieldLink RX10 21 "PatternGateModel" "faultPlace" "I") (List.mem_of_getElem? (i := 4) (by decide +kernel))) (fun _ h9 => h9) rfl (by decide +kernel) rfl rfl (Nat.le_of_ble_eq_true rfl) dX10_reads_42 (fun H locs hP hD hS => ?_)
  have hP : va_P (dC, dI) vwCl [(y, .inr (10, mF z a0 a1 a2 0 0 a5 a6 a7 0 (-1) a10)), (z 0, .inl (mA, 101660, .inl (fun _ => 0)))] H := hP
  have hD : va_D A [(y, .inr (10, mF z a0 a1 a2 0 0 a5 a6 a7 0 (-1) a10)), (z 0, .inl (mA, 101660, .inl (fun _ => 0)))] := hD
  refine lv_aload_n hx hb dX10_reads_45 rfl (lv_at hl 1 rfl) ?_
  refine lv_iconst (v := 0) hx hb dX10_reads_46 (by decide) ?_
  refine va_put (D := (dC, dI)) (ci := 10) (v := .int 0) (ty := .int) (C := RX10) (T := TX10) (N := 48) hx hb hts fin_X10_reads_X10 tyX10 tyX10_ok nmX10 hown hK hP hD hS 0 rfl rfl 10 (by decide) (hts (.fieldLink RX10 130 "PatternGateModel" "end" "I") (List.mem_of_getElem? (i := 5) (by decide +kernel))) (fun _ h9 => h9) rfl (by decide +kernel) rfl rfl (Nat.le_of_ble_eq_true rfl) dX10_reads_47 (fun H locs hP hD hS => ?_)
  have hP : va_P (dC, dI) vwCl [(y, .inr (10, mF z a0 a1 a2 0 0 a5 a6 0 0 (-1) a10)), (z 0, .inl (mA, 101660, .inl (fun _ => 0)))] H := hP
  have hD : va_D A [(y, .inr (10, mF z a0 a1 a2 0 0 a5 a6 0 0 (-1) a10)), (z 0, .inl (mA, 101660, .inl (fun _ => 0)))] := hD
  refine lv_aload_n hx hb dX10_reads_50 rfl (lv_at hl 1 rfl) ?_
  refine lv_iconst (v := 0) hx hb dX10_reads_51 (by decide) ?_
  refine lv_sipush (v := 7820) hx hb dX10_reads_52 (by decide) ?_
  have hPc := hP.sub (ws' := [(y, .inr (10, mF z a0 a1 a2 0 0 a5 a6 0 0 (-1) a10)), (z 0, .inl (mA, 101660, .inl (fun _ => 0)))]) [0, 1] rfl
  have hKc := hK.sub (tys' := [(mA, .int)]) [0] rfl
  have hDc := hD.sub (ws' := [(y, .inr (10, mF z a0 a1 a2 0 0 a5 a6 0 0 (-1) a10)), (z 0, .inl (mA, 101660, .inl (fun _ => 0)))]) [0, 1] (by decide) rfl
  have hFc := va_free (wc := [(y, .inr (10, mF z a0 a1 a2 0 0 a5 a6 0 0 (-1) a10)), (z 0, .inl (mA, 101660, .inl (fun _ => 0)))]) hD hS hA [0, 1] rfl
  refine va_callv (va_runV (As := [.int 0, .int 7820]) (rest := []) ⟨hx, hb, hml, hown, hts⟩ (m_copies l dC dI y z a0 a1 a2 0 0 a5 a6 0 0 (-1) a10 mA 0 7820 H.size (by decide) (by decide)) (cwV 2 hts mg_X10_reads_X10_copies_193 rfl rfl rfl (by decide +kernel) ⟨Nat.le_of_ble_eq_true rfl, Nat.le_of_ble_eq_true rfl⟩) ⟨fun a U g mk q => by obtain ⟨q0, q1, qP, qK, qD⟩ := q; exact ⟨q0, q1, qP, va_K.moved (u := U) (U := U.calling g mk a) (Vm.Alike.refl U.vm) qK, qD⟩, va_recv hKc hPc (ci := 10) (q0 := 0) rfl rfl, fun U hU hW => ⟨rfl, by rw [hU], by rw [hU]; exact hPc, va_K.moved hW.alike hKc, hDc.weaken (fun _ _ _ _ => trivial)⟩⟩ rfl rfl hl.1 rfl (lv_room (Nat.le_of_ble_eq_true rfl)) dX10_reads_55 ⟨Nat.le_of_ble_eq_true rfl, Nat.le_of_ble_eq_true rfl⟩) hS (fun q _ h => hFc q h) hFc (fun u t H1 locs ht hvm hw hB hz1 hk1 hS => ?_)
  obtain ⟨hP1, hK1, hD1⟩ := hB
  rw [ht] at hP1
  obtain ⟨hP, hD⟩ := va_join (wr := []) (w1 := [(y, .inr (10, mF z a0 a1 a2 0 0 a5 a6 0 0 (-1) a10)), (z 0, .inl (mA, 101660, .inl (fun _ => 0)))]) hP hD [0, 1] [] rfl rfl (by decide) (by decide) hk1 hFc hP1 hD1
  generalize H1 = H at hP hS ⊢
  have hP : va_P (dC, dI) vwCl [(y, .inr (10, mF z a0 a1 a2 0 0 a5 a6 0 0 (-1) a10)), (z 0, .inl (mA, 101660, .inl (fun _ => 0)))] H := hP
  have hD : va_D A [(y, .inr (10, mF z a0 a1 a2 0 0 a5 a6 0 0 (-1) a10)), (z 0, .inl (mA, 101660, .inl (fun _ => 0)))] := hD
  refine lv_iload_n hx hb dX10_reads_58 rfl (lv_at hl 3 rfl) ?_
  refine lv_if_eq (tgt := 78) hx hb dX10_reads_59 (by decide) (fun k_4 => ?_) (fun k_4 => ?_)
  · refine lv_aload_n hx hb dX10_reads_78 rfl (lv_at hl 1 rfl) ?_
    have hPc := hP.sub (ws' := [(y, .inr (10, mF z a0 a1 a2 0 0 a5 a6 0 0 (-1) a10))]) [0] rfl
    have hKc := hK.sub (tys' := []) [] rfl
    have hDc := hD.sub (ws' := [(y, .inr (10, mF z a0 a1 a2 0 0 a5 a6 0 0 (-1) a10))]) [0] (by decide) rfl
    have hFc := va_free (wc := [(y, .inr (10, mF z a0 a1 a2 0 0 a5 a6 0 0 (-1) a10))]) hD hS hA [0] rfl
    refine va_callv (va_runV (As := []) (rest := []) ⟨hx, hb, hml, hown, hts⟩ (m_ahead l dC dI y z a0 a1 a2 0 a5 a6 0 (-1) a10 H.size) (cwV 0 hts mg_X10_reads_X10_ahead_184 rfl rfl rfl (by decide +kernel) ⟨Nat.le_of_ble_eq_true rfl, Nat.le_of_ble_eq_true rfl⟩) ⟨fun a U g mk q => by obtain ⟨q0, q1, qP, qK, qD⟩ := q; exact ⟨q0, q1, qP, va_K.moved (u := U) (U := U.calling g mk a) (Vm.Alike.refl U.vm) qK, qD⟩, va_recv hKc hPc (ci := 10) (q0 := 0) rfl rfl, fun U hU hW => ⟨rfl, by rw [hU], by rw [hU]; exact hPc, va_K.moved hW.alike hKc, hDc.weaken (fun _ _ _ _ => trivial)⟩⟩ rfl rfl hl.1 rfl (lv_room (Nat.le_of_ble_eq_true rfl)) dX10_reads_79 ⟨Nat.le_of_ble_eq_true rfl, Nat.le_of_ble_eq_true rfl⟩) hS (fun q _ h => hFc q h) hFc (fun u t H1 locs ht hvm hw hB hz1 hk1 hS => ?_)
    obtain ⟨hP1, hK1, hD1⟩ := hB
    rw [ht] at hP1
    obtain ⟨hP, hD⟩ := va_join (wr := [(z 0, .inl (mA, 101660, .inl (fun _ => 0)))]) (w1 := [(y, .inr (10, mF z a0 a1 a2 0 0 0 0 0 0 (-1) a10))]) hP hD [0] [1] rfl rfl (by decide) (by decide) hk1 hFc hP1 hD1
    generalize H1 = H at hP hS ⊢
    have hP : va_P (dC, dI) vwCl [(z 0, .inl (mA, 101660, .inl (fun _ => 0))), (y, .inr (10, mF z a0 a1 a2 0 0 0 0 0 0 (-1) a10))] H := hP
    have hD : va_D A [(z 0, .inl (mA, 101660, .inl (fun _ => 0))), (y, .inr (10, mF z a0 a1 a2 0 0 0 0 0 0 (-1) a10))] := hD
    refine lv_iconst (v := 1) hx hb dX10_reads_82 (by decide) ?_
    refine lv_istore_n (lv' := [(3, .int 1), (0, .ref y), (1, .int 0), (2, .int v)]) hx hb dX10_reads_83 rfl hl (by decide) rfl (fun ls hl => ?_)
    refine lv_iload_n hx hb dX10_reads_84 rfl (lv_at hl 0 rfl) ?_
    refine lv_if_eq (tgt := 103) hx hb dX10_reads_85 (by decide) (fun k_7 => absurd k_7 (by decide)) (fun k_7 => ?_)
    refine lv_aload_n hx hb dX10_reads_88 rfl (lv_at hl 1 rfl) ?_
    refine va_get (D := (dC, dI)) (ci := 10) (v := .int 0) (C := RX10) (T := TX10) (N := 48) hx hb hts fin_X10_reads_X10 hown hK hP 1 rfl rfl 8 (by decide) (hts (.fieldLink RX10 120 "PatternGateModel" "token" "I") (List.mem_of_getElem? (i := 18) (by decide +kernel))) (fun _ h9 => h9) rfl dX10_reads_89 ?_
    refine lv_if_eq (tgt := 103) hx hb dX10_reads_92 (by decide) (fun k_8 => ?_) (fun k_8 => absurd (by decide) k_8)
    refine lv_aload_n hx hb dX10_reads_103 rfl (lv_at hl 1 rfl) ?_
    refine lv_aload_n hx hb dX10_reads_104 rfl (lv_at hl 1 rfl) ?_
    refine va_get (D := (dC, dI)) (ci := 10) (v := .int 0) (C := RX10) (T := TX10) (N := 48) hx hb hts fin_X10_reads_X10 hown hK hP 1 rfl rfl 11 (by decide) (hts (.fieldLink RX10 117 "PatternGateModel" "faults" "I") (List.mem_of_getElem? (i := 3) (by decide +kernel))) (fun _ h9 => h9) rfl dX10_reads_105 ?_
    refine va_put (D := (dC, dI)) (ci := 10) (v := .int 0) (ty := .int) (C := RX10) (T := TX10) (N := 48) hx hb hts fin_X10_reads_X10 tyX10 tyX10_ok nmX10 hown hK hP hD hS 1 rfl rfl 13 (by decide) (hts (.fieldLink RX10 25 "PatternGateModel" "faultKind" "I") (List.mem_of_getElem? (i := 22) (by decide +kernel))) (fun _ h9 => h9) rfl (by decide +kernel) rfl rfl (Nat.le_of_ble_eq_true rfl) dX10_reads_108 (fun H locs hP hD hS => ?_)
    have hP : va_P (dC, dI) vwCl [(z 0, .inl (mA, 101660, .inl (fun _ => 0))), (y, .inr (10, mF z a0 a1 a2 0 0 0 0 0 0 (-1) 0))] H := hP
    have hD : va_D A [(z 0, .inl (mA, 101660, .inl (fun _ => 0))), (y, .inr (10, mF z a0 a1 a2 0 0 0 0 0 0 (-1) 0))] := hD
    refine lv_aload_n hx hb dX10_reads_111 rfl (lv_at hl 1 rfl) ?_
    refine va_get (D := (dC, dI)) (ci := 10) (v := .int 0) (C := RX10) (T := TX10) (N := 48) hx hb hts fin_X10_reads_X10 hown hK hP 1 rfl rfl 11 (by decide) (hts (.fieldLink RX10 117 "PatternGateModel" "faults" "I") (List.mem_of_getElem? (i := 3) (by decide +kernel))) (fun _ h9 => h9) rfl dX10_reads_112 ?_
    refine lv_if_le (tgt := 126) hx hb dX10_reads_115 (by decide) (fun k_9 => ?_) (fun k_9 => absurd (by decide) k_9)
    refine lv_aload_n hx hb dX10_reads_126 rfl (lv_at hl 1 rfl) ?_
    refine va_get (D := (dC, dI)) (ci := 10) (v := .int 0) (C := RX10) (T := TX10) (N := 48) hx hb hts fin_X10_reads_X10 hown hK hP 1 rfl rfl 11 (by decide) (hts (.fieldLink RX10 117 "PatternGateModel" "faults" "I") (List.mem_of_getElem? (i := 3) (by decide +kernel))) (fun _ h9 => h9) rfl dX10_reads_127 ?_
    refine lv_if_ne (tgt := 137) hx hb dX10_reads_130 (by decide) (fun k_10 => absurd (by decide) k_10) (fun k_10 => ?_)
    refine lv_iconst (v := 1) hx hb dX10_reads_133 (by decide) ?_
    refine lv_goto (tgt := 138) hx hb dX10_reads_134 (by decide) ?_
    have hP9 := hP.sub (ws' := [(y, .inr (10, mF z a0 a1 a2 0 0 0 0 0 0 (-1) 0)), (z 0, .inl (mA, 101660, .inl (fun _ => 0)))]) [1, 0] rfl
    have hD9 := hD.sub (ws' := [(y, .inr (10, mF z a0 a1 a2 0 0 0 0 0 0 (-1) 0)), (z 0, .inl (mA, 101660, .inl (fun _ => 0)))]) [1, 0] (by decide) rfl
    have hK9 := hK.sub (tys' := [(mA, .int)]) [0] rfl
    exact W.zret hx hb hr rfl (fun t ht hW => ⟨⟨_, (), rfl, rfl, by rw [ht]; exact hP9, va_K.moved hW.alike hK9, hD9⟩, hS.F ht⟩) hS.2.2 dX10_reads_138
  · refine lv_aload_n hx hb dX10_reads_62 rfl (lv_at hl 1 rfl) ?_
    refine va_get (D := (dC, dI)) (ci := 10) (v := .ref (z 0)) (C := RX10) (T := TX10) (N := 48) hx hb hts fin_X10_reads_X10 hown hK hP 0 rfl rfl 0 (by decide) (hts (.fieldLink RX10 8 "PatternGateModel" "all" "[I") (List.mem_of_getElem? (i := 7) (by decide +kernel))) (fun _ h9 => h9) rfl dX10_reads_63 ?_
    refine lv_iconst (v := 0) hx hb dX10_reads_66 (by decide) ?_
    refine lv_iconst (v := 0) hx hb dX10_reads_67 (by decide) ?_
    refine va_iast hx hb hK hP hD hS 1 0 rfl rfl (i := 0) (by unfold vp_in; decide +kernel) dX10_reads_68 (fun H locs hP hD hS => ?_)
    rw [zz_i] at hP hD
    have hP : va_P (dC, dI) vwCl [(y, .inr (10, mF z a0 a1 a2 0 0 a5 a6 0 0 (-1) a10)), (z 0, .inl (mA, 101660, .inl (fun _ => 0)))] H := hP
    have hD : va_D A [(y, .inr (10, mF z a0 a1 a2 0 0 a5 a6 0 0 (-1) a10)), (z 0, .inl (mA, 101660, .inl (fun _ => 0)))] := hD
    refine lv_aload_n hx hb dX10_reads_69 rfl (lv_at hl 1 rfl) ?_
    refine va_get (D := (dC, dI)) (ci := 10) (v := .ref (z 0)) (C := RX10) (T := TX10) (N := 48) hx hb hts fin_X10_reads_X10 hown hK hP 0 rfl rfl 0 (by decide) (hts (.fieldLink RX10 8 "PatternGateModel" "all" "[I") (List.mem_of_getElem? (i := 7) (by decide +kernel))) (fun _ h9 => h9) rfl dX10_reads_70 ?_
    refine lv_sipush (v := 611) hx hb dX10_reads_73 (by decide) ?_
    refine lv_iconst (v := 0) hx hb dX10_reads_76 (by decide) ?_
    refine va_iast hx hb hK hP hD hS 1 0 rfl rfl (i := 611) (by unfold vp_in; decide +kernel) dX10_reads_77 (fun H locs hP hD hS => ?_)
    rw [zz_i] at hP hD
    have hP : va_P (dC, dI) vwCl [(y, .inr (10, mF z a0 a1 a2 0 0 a5 a6 0 0 (-1) a10)), (z 0, .inl (mA, 101660, .inl (fun _ => 0)))] H := hP
    have hD : va_D A [(y, .inr (10, mF z a0 a1 a2 0 0 a5 a6 0 0 (-1) a10)), (z 0, .inl (mA, 101660, .inl (fun _ => 0)))] := hD
    refine lv_aload_n hx hb dX10_reads_78 rfl (lv_at hl 1 rfl) ?_
    have hPc := hP.sub (ws' := [(y, .inr (10, mF z a0 a1 a2 0 0 a5 a6 0 0 (-1) a10))]) [0] rfl
    have hKc := hK.sub (tys' := []) [] rfl
    have hDc := hD.sub (ws' := [(y, .inr (10, mF z a0 a1 a2 0 0 a5 a6 0 0 (-1) a10))]) [0] (by decide) rfl
    have hFc := va_free (wc := [(y, .inr (10, mF z a0 a1 a2 0 0 a5 a6 0 0 (-1) a10))]) hD hS hA [0] rfl
    refine va_callv (va_runV (As := []) (rest := []) ⟨hx, hb, hml, hown, hts⟩ (m_ahead l dC dI y z a0 a1 a2 0 a5 a6 0 (-1) a10 H.size) (cwV 0 hts mg_X10_reads_X10_ahead_184 rfl rfl rfl (by decide +kernel) ⟨Nat.le_of_ble_eq_true rfl, Nat.le_of_ble_eq_true rfl⟩) ⟨fun a U g mk q => by obtain ⟨q0, q1, qP, qK, qD⟩ := q; exact ⟨q0, q1, qP, va_K.moved (u := U) (U := U.calling g mk a) (Vm.Alike.refl U.vm) qK, qD⟩, va_recv hKc hPc (ci := 10) (q0 := 0) rfl rfl, fun U hU hW => ⟨rfl, by rw [hU], by rw [hU]; exact hPc, va_K.moved hW.alike hKc, hDc.weaken (fun _ _ _ _ => trivial)⟩⟩ rfl rfl hl.1 rfl (lv_room (Nat.le_of_ble_eq_true rfl)) dX10_reads_79 ⟨Nat.le_of_ble_eq_true rfl, Nat.le_of_ble_eq_true rfl⟩) hS (fun q _ h => hFc q h) hFc (fun u t H1 locs ht hvm hw hB hz1 hk1 hS => ?_)
    obtain ⟨hP1, hK1, hD1⟩ := hB
    rw [ht] at hP1
    obtain ⟨hP, hD⟩ := va_join (wr := [(z 0, .inl (mA, 101660, .inl (fun _ => 0)))]) (w1 := [(y, .inr (10, mF z a0 a1 a2 0 0 0 0 0 0 (-1) a10))]) hP hD [0] [1] rfl rfl (by decide) (by decide) hk1 hFc hP1 hD1
    generalize H1 = H at hP hS ⊢
    have hP : va_P (dC, dI) vwCl [(z 0, .inl (mA, 101660, .inl (fun _ => 0))), (y, .inr (10, mF z a0 a1 a2 0 0 0 0 0 0 (-1) a10))] H := hP
    have hD : va_D A [(z 0, .inl (mA, 101660, .inl (fun _ => 0))), (y, .inr (10, mF z a0 a1 a2 0 0 0 0 0 0 (-1) a10))] := hD
    refine lv_iconst (v := 1) hx hb dX10_reads_82 (by decide) ?_
    refine lv_istore_n (lv' := [(3, .int 1), (0, .ref y), (1, .int 0), (2, .int v)]) hx hb dX10_reads_83 rfl hl (by decide) rfl (fun ls hl => ?_)
    refine lv_iload_n hx hb dX10_reads_84 rfl (lv_at hl 0 rfl) ?_
    refine lv_if_eq (tgt := 103) hx hb dX10_reads_85 (by decide) (fun k_13 => absurd k_13 (by decide)) (fun k_13 => ?_)
    refine lv_aload_n hx hb dX10_reads_88 rfl (lv_at hl 1 rfl) ?_
    refine va_get (D := (dC, dI)) (ci := 10) (v := .int 0) (C := RX10) (T := TX10) (N := 48) hx hb hts fin_X10_reads_X10 hown hK hP 1 rfl rfl 8 (by decide) (hts (.fieldLink RX10 120 "PatternGateModel" "token" "I") (List.mem_of_getElem? (i := 18) (by decide +kernel))) (fun _ h9 => h9) rfl dX10_reads_89 ?_
    refine lv_if_eq (tgt := 103) hx hb dX10_reads_92 (by decide) (fun k_14 => ?_) (fun k_14 => absurd (by decide) k_14)
    refine lv_aload_n hx hb dX10_reads_103 rfl (lv_at hl 1 rfl) ?_
    refine lv_aload_n hx hb dX10_reads_104 rfl (lv_at hl 1 rfl) ?_
    refine va_get (D := (dC, dI)) (ci := 10) (v := .int 0) (C := RX10) (T := TX10) (N := 48) hx hb hts fin_X10_reads_X10 hown hK hP 1 rfl rfl 11 (by decide) (hts (.fieldLink RX10 117 "PatternGateModel" "faults" "I") (List.mem_of_getElem? (i := 3) (by decide +kernel))) (fun _ h9 => h9) rfl dX10_reads_105 ?_
    refine va_put (D := (dC, dI)) (ci := 10) (v := .int 0) (ty := .int) (C := RX10) (T := TX10) (N := 48) hx hb hts fin_X10_reads_X10 tyX10 tyX10_ok nmX10 hown hK hP hD hS 1 rfl rfl 13 (by decide) (hts (.fieldLink RX10 25 "PatternGateModel" "faultKind" "I") (List.mem_of_getElem? (i := 22) (by decide +kernel))) (fun _ h9 => h9) rfl (by decide +kernel) rfl rfl (Nat.le_of_ble_eq_true rfl) dX10_reads_108 (fun H locs hP hD hS => ?_)
    have hP : va_P (dC, dI) vwCl [(z 0, .inl (mA, 101660, .inl (fun _ => 0))), (y, .inr (10, mF z a0 a1 a2 0 0 0 0 0 0 (-1) 0))] H := hP
    have hD : va_D A [(z 0, .inl (mA, 101660, .inl (fun _ => 0))), (y, .inr (10, mF z a0 a1 a2 0 0 0 0 0 0 (-1) 0))] := hD
    refine lv_aload_n hx hb dX10_reads_111 rfl (lv_at hl 1 rfl) ?_
    refine va_get (D := (dC, dI)) (ci := 10) (v := .int 0) (C := RX10) (T := TX10) (N := 48) hx hb hts fin_X10_reads_X10 hown hK hP 1 rfl rfl 11 (by decide) (hts (.fieldLink RX10 117 "PatternGateModel" "faults" "I") (List.mem_of_getElem? (i := 3) (by decide +kernel))) (fun _ h9 => h9) rfl dX10_reads_112 ?_
    refine lv_if_le (tgt := 126) hx hb dX10_reads_115 (by decide) (fun k_15 => ?_) (fun k_15 => absurd (by decide) k_15)
    refine lv_aload_n hx hb dX10_reads_126 rfl (lv_at hl 1 rfl) ?_
    refine va_get (D := (dC, dI)) (ci := 10) (v := .int 0) (C := RX10) (T := TX10) (N := 48) hx hb hts fin_X10_reads_X10 hown hK hP 1 rfl rfl 11 (by decide) (hts (.fieldLink RX10 117 "PatternGateModel" "faults" "I") (List.mem_of_getElem? (i := 3) (by decide +kernel))) (fun _ h9 => h9) rfl dX10_reads_127 ?_
    refine lv_if_ne (tgt := 137) hx hb dX10_reads_130 (by decide) (fun k_16 => absurd (by decide) k_16) (fun k_16 => ?_)
    refine lv_iconst (v := 1) hx hb dX10_reads_133 (by decide) ?_
    refine lv_goto (tgt := 138) hx hb dX10_reads_134 (by decide) ?_
    have hP9 := hP.sub (ws' := [(y, .inr (10, mF z a0 a1 a2 0 0 0 0 0 0 (-1) 0)), (z 0, .inl (mA, 101660, .inl (fun _ => 0)))]) [1, 0] rfl
    have hD9 := hD.sub (ws' := [(y, .inr (10, mF z a0 a1 a2 0 0 0 0 0 0 (-1) 0)), (z 0, .inl (mA, 101660, .inl (fun _ => 0)))]) [1, 0] (by decide) rfl
    have hK9 := hK.sub (tys' := [(mA, .int)]) [0] rfl
    exact W.zret hx hb hr rfl (fun t ht hW => ⟨⟨_, (), rfl, rfl, by rw [ht]; exact hP9, va_K.moved hW.alike hK9, hD9⟩, hS.F ht⟩) hS.2.2 dX10_reads_138
theorem dX10_acted_0 : decode cX10_acted 0 = .ok (.aload_n 0, 1) := by decide +kernel
theorem dX10_acted_1 : decode cX10_acted 1 = .ok (.getfield 439, 3) := by decide +kernel
theorem dX10_acted_4 : decode cX10_acted 4 = .ok (.bipush 8, 2) := by decide +kernel
theorem dX10_acted_6 : decode cX10_acted 6 = .ok (.if_icmp .ne 51, 3) := by decide +kernel
theorem dX10_acted_57 : decode cX10_acted 57 = .ok (.aload_n 0, 1) := by decide +kernel
theorem dX10_acted_58 : decode cX10_acted 58 = .ok (.sipush 7820, 3) := by decide +kernel
theorem dX10_acted_61 : decode cX10_acted 61 = .ok (.sipush 15640, 3) := by decide +kernel
theorem dX10_acted_64 : decode cX10_acted 64 = .ok (.sipush 7820, 3) := by decide +kernel
theorem dX10_acted_67 : decode cX10_acted 67 = .ok (.aload_n 0, 1) := by decide +kernel
theorem dX10_acted_68 : decode cX10_acted 68 = .ok (.getfield 439, 3) := by decide +kernel
theorem dX10_acted_71 : decode cX10_acted 71 = .ok (.imul, 1) := by decide +kernel
theorem dX10_acted_72 : decode cX10_acted 72 = .ok (.iadd, 1) := by decide +kernel
theorem dX10_acted_73 : decode cX10_acted 73 = .ok (.invokevirtual 193, 3) := by decide +kernel
theorem dX10_acted_76 : decode cX10_acted 76 = .ok (.aload_n 0, 1) := by decide +kernel
theorem dX10_acted_77 : decode cX10_acted 77 = .ok (.dup, 1) := by decide +kernel
theorem dX10_acted_78 : decode cX10_acted 78 = .ok (.getfield 439, 3) := by decide +kernel
theorem dX10_acted_81 : decode cX10_acted 81 = .ok (.iconst 1, 1) := by decide +kernel
theorem dX10_acted_82 : decode cX10_acted 82 = .ok (.iadd, 1) := by decide +kernel
theorem dX10_acted_83 : decode cX10_acted 83 = .ok (.putfield 439, 3) := by decide +kernel
theorem dX10_acted_86 : decode cX10_acted 86 = .ok (.return_, 1) := by decide +kernel
def mwX10_acted : List Cond := .code yX10_acted cX10_acted 2 none :: ([.fieldLink RX10 439 "PatternGateModel" "acts" "I", .code yX10_copies cX10_copies 4 none, .fieldLink RX10 8 "PatternGateModel" "all" "[I", .methodLink RX10 193 yX10_copies, .instanceMethod yX10_copies, .selects RX10 yX10_copies yX10_copies, .initialized RX10] ++ wsX100)
theorem fin_X10_acted_X10 : ∀ w ∈ wsX100, w ∈ mwX10_acted := fun w h => List.mem_cons_of_mem _ (List.mem_append_right _ h)
set_option maxRecDepth 20000 in
theorem mg_X10_acted_X10_copies_193 : GoodIn mwX10_acted (wsV RX10 193 RX10 yX10_copies mwX10_copies) := goodIn_r _ [4, 5, 6, 7, 2, 3, 8, 9, 10, 11, 12, 13, 14, 15, 16, 17, 18, 19, 20, 21, 22, 23, 24, 25, 26, 27, 28, 29, 30, 31, 32, 33, 34, 35, 36, 37, 38, 39, 40, 41, 42, 43, 44, 45, 46, 47, 48, 49, 50, 51, 52, 53, 54, 55] (by decide +kernel) (by decide +kernel)
set_option maxHeartbeats 4000000 in
set_option maxRecDepth 100000 in
/-- acted: the first ACT -/
theorem m_acted (l : Launch) (dC : Nat → ClassId) (dI : Nat → Nat → Nat) (y : Nat) (z : Nat → Nat) (a0 a2 a3 a4 a5 a6 a7 a8 a9 a10 : Int32) (mA : ClassId) (sz : Nat) : Met l yX10_acted mwX10_acted ({ frames := 1, cells := 0, slots := 0, locals := 60 }) (va_Pc [.ref y] (fun U => U.heap.size = sz ∧ va_P (dC, dI) vwCl ([(y, .inr (10, mF z a0 0 a2 a3 a4 a5 a6 a7 a8 a9 a10)), (z 0, .inl (mA, 101660, .inl (fun _ => 0)))]) U.heap ∧ va_K (dC, dI) vwCl ([(mA, .int)]) U ∧ va_D (fun _ => True) ([(y, .inr (10, mF z a0 0 a2 a3 a4 a5 a6 a7 a8 a9 a10)), (z 0, .inl (mA, 101660, .inl (fun _ => 0)))]))) (va_Qv (fun (_ : Unit) => True) (fun _ t => va_P (dC, dI) vwCl [(y, .inr (10, mF z a0 1 a2 a3 a4 a5 a6 a7 a8 a9 a10)), (z 0, .inl (mA, 101660, .inl (fun _ => 0)))] t.heap ∧ va_K (dC, dI) vwCl [(mA, .int)] t ∧ va_D (va_A ([(y, .inr (10, mF z a0 0 a2 a3 a4 a5 a6 a7 a8 a9 a10)), (z 0, .inl (mA, 101660, .inl (fun _ => 0)))]) sz) [(y, .inr (10, mF z a0 1 a2 a3 a4 a5 a6 a7 a8 a9 a10)), (z 0, .inl (mA, 101660, .inl (fun _ => 0)))]) (va_A ([(y, .inr (10, mF z a0 0 a2 a3 a4 a5 a6 a7 a8 a9 a10)), (z 0, .inl (mA, 101660, .inl (fun _ => 0)))]) sz)) 0 0 (va_A ([(y, .inr (10, mF z a0 0 a2 a3 a4 a5 a6 a7 a8 a9 a10)), (z 0, .inl (mA, 101660, .inl (fun _ => 0)))]) sz) := by
  refine Met.ofW (cc := cX10_acted) (maxL := 2) (ret := none) (by decide +kernel) rfl ?_
  intro p e s m args below meth c s₁ B hml hv
  obtain ⟨rfl, hsz, hP, hK, hD0⟩ := hv
  have hx := B.exec
  have hb := B.bytes
  have hr := B.returns
  have hts := atoms_spec (ws := mwX10_acted) B.pre
  have hown : s.vm.findClass RX10 = some m.cls := findClass_of_methodNamed B.named
  have hlocks := B.notSynchronized
  subst hsz
  have hD := hD0.self (sz := s.heap.size)
  generalize hAe : va_A ([(y, .inr (10, mF z a0 0 a2 a3 a4 a5 a6 a7 a8 a9 a10)), (z 0, .inl (mA, 101660, .inl (fun _ => 0)))]) s.heap.size = A at hD ⊢
  have hA : ∀ q : Nat, s.heap.size ≤ q → A q := fun q h => by rw [← hAe]; exact Or.inr h
  have hP : va_P (dC, dI) vwCl [(y, .inr (10, mF z a0 0 a2 a3 a4 a5 a6 a7 a8 a9 a10)), (z 0, .inl (mA, 101660, .inl (fun _ => 0)))] s.heap := hP
  have hD : va_D A [(y, .inr (10, mF z a0 0 a2 a3 a4 a5 a6 a7 a8 a9 a10)), (z 0, .inl (mA, 101660, .inl (fun _ => 0)))] := hD
  have hK : va_K (dC, dI) vwCl [(mA, .int)] s := hK
  generalize hH : s.heap = H at hP ⊢
  have hS : va_S A s.heap H [] := by rw [← hH]; exact va_S.rf
  have hl := lv_entry ([.ref y]) (n := 2) (Nat.le_of_ble_eq_true rfl)
  rw [lg_entry_eq]
  generalize (lg_sl ([.ref y]) ++ List.replicate (2 - (lg_sl ([.ref y])).length) Slot.unset).toArray = ls at hl ⊢
  have hl : lv_has ls 2 [(0, .ref y)] := hl
  refine lv_aload_n hx hb dX10_acted_0 rfl (lv_at hl 0 rfl) ?_
  refine va_get (D := (dC, dI)) (ci := 10) (v := .int 0) (C := RX10) (T := TX10) (N := 48) hx hb hts fin_X10_acted_X10 hown hK hP 0 rfl rfl 2 (by decide) (hts (.fieldLink RX10 439 "PatternGateModel" "acts" "I") (List.mem_of_getElem? (i := 1) (by decide +kernel))) (fun _ h9 => h9) rfl dX10_acted_1 ?_
  refine lv_bipush (v := 8) hx hb dX10_acted_4 (by decide) ?_
  refine lv_icmp_ne (tgt := 57) hx hb dX10_acted_6 (by decide) (fun k_1 => ?_) (fun k_1 => absurd k_1 (by decide))
  refine lv_aload_n hx hb dX10_acted_57 rfl (lv_at hl 0 rfl) ?_
  refine lv_sipush (v := 7820) hx hb dX10_acted_58 (by decide) ?_
  refine lv_sipush (v := 15640) hx hb dX10_acted_61 (by decide) ?_
  refine lv_sipush (v := 7820) hx hb dX10_acted_64 (by decide) ?_
  refine lv_aload_n hx hb dX10_acted_67 rfl (lv_at hl 0 rfl) ?_
  refine va_get (D := (dC, dI)) (ci := 10) (v := .int 0) (C := RX10) (T := TX10) (N := 48) hx hb hts fin_X10_acted_X10 hown hK hP 0 rfl rfl 2 (by decide) (hts (.fieldLink RX10 439 "PatternGateModel" "acts" "I") (List.mem_of_getElem? (i := 1) (by decide +kernel))) (fun _ h9 => h9) rfl dX10_acted_68 ?_
  refine lv_imul hx hb dX10_acted_71 ?_
  refine lv_topi (fun y_2 ey_2 => ?_)
  obtain rfl : y_2 = 0 := ey_2.trans (by first | rfl | decide)
  refine lv_iadd hx hb dX10_acted_72 ?_
  refine lv_topi (fun y_3 ey_3 => ?_)
  obtain rfl : y_3 = 15640 := ey_3.trans (by first | rfl | decide)
  have hPc := hP.sub (ws' := [(y, .inr (10, mF z a0 0 a2 a3 a4 a5 a6 a7 a8 a9 a10)), (z 0, .inl (mA, 101660, .inl (fun _ => 0)))]) [0, 1] rfl
  have hKc := hK.sub (tys' := [(mA, .int)]) [0] rfl
  have hDc := hD.sub (ws' := [(y, .inr (10, mF z a0 0 a2 a3 a4 a5 a6 a7 a8 a9 a10)), (z 0, .inl (mA, 101660, .inl (fun _ => 0)))]) [0, 1] (by decide) rfl
  have hFc := va_free (wc := [(y, .inr (10, mF z a0 0 a2 a3 a4 a5 a6 a7 a8 a9 a10)), (z 0, .inl (mA, 101660, .inl (fun _ => 0)))]) hD hS hA [0, 1] rfl
  refine va_callv (va_runV (As := [.int 7820, .int 15640]) (rest := []) ⟨hx, hb, hml, hown, hts⟩ (m_copies l dC dI y z a0 0 a2 a3 a4 a5 a6 a7 a8 a9 a10 mA 7820 15640 H.size (by decide) (by decide)) (cwV 2 hts mg_X10_acted_X10_copies_193 rfl rfl rfl (by decide +kernel) ⟨Nat.le_of_ble_eq_true rfl, Nat.le_of_ble_eq_true rfl⟩) ⟨fun a U g mk q => by obtain ⟨q0, q1, qP, qK, qD⟩ := q; exact ⟨q0, q1, qP, va_K.moved (u := U) (U := U.calling g mk a) (Vm.Alike.refl U.vm) qK, qD⟩, va_recv hKc hPc (ci := 10) (q0 := 0) rfl rfl, fun U hU hW => ⟨rfl, by rw [hU], by rw [hU]; exact hPc, va_K.moved hW.alike hKc, hDc.weaken (fun _ _ _ _ => trivial)⟩⟩ rfl rfl hl.1 rfl (lv_room (Nat.le_of_ble_eq_true rfl)) dX10_acted_73 ⟨Nat.le_of_ble_eq_true rfl, Nat.le_of_ble_eq_true rfl⟩) hS (fun q _ h => hFc q h) hFc (fun u t H1 locs ht hvm hw hB hz1 hk1 hS => ?_)
  obtain ⟨hP1, hK1, hD1⟩ := hB
  rw [ht] at hP1
  obtain ⟨hP, hD⟩ := va_join (wr := []) (w1 := [(y, .inr (10, mF z a0 0 a2 a3 a4 a5 a6 a7 a8 a9 a10)), (z 0, .inl (mA, 101660, .inl (fun _ => 0)))]) hP hD [0, 1] [] rfl rfl (by decide) (by decide) hk1 hFc hP1 hD1
  generalize H1 = H at hP hS ⊢
  have hP : va_P (dC, dI) vwCl [(y, .inr (10, mF z a0 0 a2 a3 a4 a5 a6 a7 a8 a9 a10)), (z 0, .inl (mA, 101660, .inl (fun _ => 0)))] H := hP
  have hD : va_D A [(y, .inr (10, mF z a0 0 a2 a3 a4 a5 a6 a7 a8 a9 a10)), (z 0, .inl (mA, 101660, .inl (fun _ => 0)))] := hD
  refine lv_aload_n hx hb dX10_acted_76 rfl (lv_at hl 0 rfl) ?_
  refine lv_dup hx hb dX10_acted_77 rfl ?_
  refine va_get (D := (dC, dI)) (ci := 10) (v := .int 0) (C := RX10) (T := TX10) (N := 48) hx hb hts fin_X10_acted_X10 hown hK hP 0 rfl rfl 2 (by decide) (hts (.fieldLink RX10 439 "PatternGateModel" "acts" "I") (List.mem_of_getElem? (i := 1) (by decide +kernel))) (fun _ h9 => h9) rfl dX10_acted_78 ?_
  refine lv_iconst (v := 1) hx hb dX10_acted_81 (by decide) ?_
  refine lv_iadd hx hb dX10_acted_82 ?_
  refine lv_topi (fun y_6 ey_6 => ?_)
  obtain rfl : y_6 = 1 := ey_6.trans (by first | rfl | decide)
  refine va_put (D := (dC, dI)) (ci := 10) (v := .int 1) (ty := .int) (C := RX10) (T := TX10) (N := 48) hx hb hts fin_X10_acted_X10 tyX10 tyX10_ok nmX10 hown hK hP hD hS 0 rfl rfl 2 (by decide) (hts (.fieldLink RX10 439 "PatternGateModel" "acts" "I") (List.mem_of_getElem? (i := 1) (by decide +kernel))) (fun _ h9 => h9) rfl (by decide +kernel) rfl rfl (Nat.le_of_ble_eq_true rfl) dX10_acted_83 (fun H locs hP hD hS => ?_)
  have hP : va_P (dC, dI) vwCl [(y, .inr (10, mF z a0 1 a2 a3 a4 a5 a6 a7 a8 a9 a10)), (z 0, .inl (mA, 101660, .inl (fun _ => 0)))] H := hP
  have hD : va_D A [(y, .inr (10, mF z a0 1 a2 a3 a4 a5 a6 a7 a8 a9 a10)), (z 0, .inl (mA, 101660, .inl (fun _ => 0)))] := hD
  have hP9 := hP.sub (ws' := [(y, .inr (10, mF z a0 1 a2 a3 a4 a5 a6 a7 a8 a9 a10)), (z 0, .inl (mA, 101660, .inl (fun _ => 0)))]) [0, 1] rfl
  have hD9 := hD.sub (ws' := [(y, .inr (10, mF z a0 1 a2 a3 a4 a5 a6 a7 a8 a9 a10)), (z 0, .inl (mA, 101660, .inl (fun _ => 0)))]) [0, 1] (by decide) rfl
  have hK9 := hK.sub (tys' := [(mA, .int)]) [0] rfl
  exact W.vret hx hb hr (fun t ht hW => ⟨⟨(), rfl, trivial, by rw [ht]; exact hP9, va_K.moved hW.alike hK9, hD9⟩, hS.F ht⟩) hS.2.2 dX10_acted_86
theorem dX10_four_0 : decode cX10_four 0 = .ok (.iconst 3, 1) := by decide +kernel
theorem dX10_four_1 : decode cX10_four 1 = .ok (.istore_n 2, 1) := by decide +kernel
theorem dX10_four_2 : decode cX10_four 2 = .ok (.iload_n 2, 1) := by decide +kernel
theorem dX10_four_3 : decode cX10_four 3 = .ok (.ifCond .lt 35, 3) := by decide +kernel
theorem dX10_four_6 : decode cX10_four 6 = .ok (.aload_n 0, 1) := by decide +kernel
theorem dX10_four_7 : decode cX10_four 7 = .ok (.getfield 14, 3) := by decide +kernel
theorem dX10_four_10 : decode cX10_four 10 = .ok (.aload_n 0, 1) := by decide +kernel
theorem dX10_four_11 : decode cX10_four 11 = .ok (.getfield 107, 3) := by decide +kernel
theorem dX10_four_14 : decode cX10_four 14 = .ok (.iload_n 1, 1) := by decide +kernel
theorem dX10_four_15 : decode cX10_four 15 = .ok (.bipush 8, 2) := by decide +kernel
theorem dX10_four_17 : decode cX10_four 17 = .ok (.iload_n 2, 1) := by decide +kernel
theorem dX10_four_18 : decode cX10_four 18 = .ok (.imul, 1) := by decide +kernel
theorem dX10_four_19 : decode cX10_four 19 = .ok (.ishr, 1) := by decide +kernel
theorem dX10_four_20 : decode cX10_four 20 = .ok (.i2b, 1) := by decide +kernel
theorem dX10_four_21 : decode cX10_four 21 = .ok (.bastore, 1) := by decide +kernel
theorem dX10_four_22 : decode cX10_four 22 = .ok (.aload_n 0, 1) := by decide +kernel
theorem dX10_four_23 : decode cX10_four 23 = .ok (.dup, 1) := by decide +kernel
theorem dX10_four_24 : decode cX10_four 24 = .ok (.getfield 107, 3) := by decide +kernel
theorem dX10_four_27 : decode cX10_four 27 = .ok (.iconst 1, 1) := by decide +kernel
theorem dX10_four_28 : decode cX10_four 28 = .ok (.iadd, 1) := by decide +kernel
theorem dX10_four_29 : decode cX10_four 29 = .ok (.putfield 107, 3) := by decide +kernel
theorem dX10_four_32 : decode cX10_four 32 = .ok (.iinc 2 (-1), 3) := by decide +kernel
theorem dX10_four_35 : decode cX10_four 35 = .ok (.goto (-33), 3) := by decide +kernel
theorem dX10_four_38 : decode cX10_four 38 = .ok (.return_, 1) := by decide +kernel
def mwX10_four : List Cond := .code yX10_four cX10_four 3 none :: ([.fieldLink RX10 14 "PatternGateModel" "tape" "[B", .fieldLink RX10 107 "PatternGateModel" "taped" "I"] ++ wsX100)
theorem fin_X10_four_X10 : ∀ w ∈ wsX100, w ∈ mwX10_four := fun w h => List.mem_cons_of_mem _ (List.mem_append_right _ h)
set_option maxHeartbeats 4000000 in
set_option maxRecDepth 100000 in
/-- four: four bytes more -/
theorem m_four (l : Launch) (dC : Nat → ClassId) (dI : Nat → Nat → Nat) (y : Nat) (z : Nat → Nat) (a0 a1 a2 a4 a5 a6 a7 a8 a9 a10 : Int32) (mT : ClassId) (f : Nat → Int32) (n sz : Nat) (v : Int32) (hn : n + 4 ≤ 900) : Met l yX10_four mwX10_four ({ frames := 0, cells := 0, slots := 0, locals := 0 }) (va_Pc [.ref y, .int v] (fun U => U.heap.size = sz ∧ va_P (dC, dI) vwCl ([(y, .inr (10, mF z a0 a1 a2 (nI n) a4 a5 a6 a7 a8 a9 a10)), (z 1, .inl (mT, 900, .inl f))]) U.heap ∧ va_K (dC, dI) vwCl ([(mT, .byte)]) U ∧ va_D (fun _ => True) ([(y, .inr (10, mF z a0 a1 a2 (nI n) a4 a5 a6 a7 a8 a9 a10)), (z 1, .inl (mT, 900, .inl f))]))) (va_Qv (fun (_ : Nat → Int32) => True) (fun u t => va_P (dC, dI) vwCl [(y, .inr (10, mF z a0 a1 a2 (nI (n + 4)) a4 a5 a6 a7 a8 a9 a10)), (z 1, .inl (mT, 900, .inl u))] t.heap ∧ va_K (dC, dI) vwCl [(mT, .byte)] t ∧ va_D (va_A ([(y, .inr (10, mF z a0 a1 a2 (nI n) a4 a5 a6 a7 a8 a9 a10)), (z 1, .inl (mT, 900, .inl f))]) sz) [(y, .inr (10, mF z a0 a1 a2 (nI (n + 4)) a4 a5 a6 a7 a8 a9 a10)), (z 1, .inl (mT, 900, .inl u))]) (va_A ([(y, .inr (10, mF z a0 a1 a2 (nI n) a4 a5 a6 a7 a8 a9 a10)), (z 1, .inl (mT, 900, .inl f))]) sz)) 0 0 (va_A ([(y, .inr (10, mF z a0 a1 a2 (nI n) a4 a5 a6 a7 a8 a9 a10)), (z 1, .inl (mT, 900, .inl f))]) sz) := by
  refine Met.ofW (cc := cX10_four) (maxL := 3) (ret := none) (by decide +kernel) rfl ?_
  intro p e s m args below meth c s₁ B hml hv
  obtain ⟨rfl, hsz, hP, hK, hD0⟩ := hv
  have hx := B.exec
  have hb := B.bytes
  have hr := B.returns
  have hts := atoms_spec (ws := mwX10_four) B.pre
  have hown : s.vm.findClass RX10 = some m.cls := findClass_of_methodNamed B.named
  have hlocks := B.notSynchronized
  subst hsz
  have hD := hD0.self (sz := s.heap.size)
  generalize hAe : va_A ([(y, .inr (10, mF z a0 a1 a2 (nI n) a4 a5 a6 a7 a8 a9 a10)), (z 1, .inl (mT, 900, .inl f))]) s.heap.size = A at hD ⊢
  have hA : ∀ q : Nat, s.heap.size ≤ q → A q := fun q h => by rw [← hAe]; exact Or.inr h
  have hP : va_P (dC, dI) vwCl [(y, .inr (10, mF z a0 a1 a2 (nI n) a4 a5 a6 a7 a8 a9 a10)), (z 1, .inl (mT, 900, .inl f))] s.heap := hP
  have hD : va_D A [(y, .inr (10, mF z a0 a1 a2 (nI n) a4 a5 a6 a7 a8 a9 a10)), (z 1, .inl (mT, 900, .inl f))] := hD
  have hK : va_K (dC, dI) vwCl [(mT, .byte)] s := hK
  generalize hH : s.heap = H at hP ⊢
  have hS : va_S A s.heap H [] := by rw [← hH]; exact va_S.rf
  have hl := lv_entry ([.ref y, .int v]) (n := 3) (Nat.le_of_ble_eq_true rfl)
  rw [lg_entry_eq]
  generalize (lg_sl ([.ref y, .int v]) ++ List.replicate (3 - (lg_sl ([.ref y, .int v])).length) Slot.unset).toArray = ls at hl ⊢
  have hl : lv_has ls 3 [(0, .ref y), (1, .int v)] := hl
  refine lv_iconst (v := 3) hx hb dX10_four_0 (by decide) ?_
  refine lv_istore_n (lv' := [(2, .int 3), (0, .ref y), (1, .int v)]) hx hb dX10_four_1 rfl hl (by decide) rfl (fun ls hl => ?_)
  refine lv_iload_n hx hb dX10_four_2 rfl (lv_at hl 0 rfl) ?_
  refine lv_if_lt (tgt := 38) hx hb dX10_four_3 (by decide) (fun k_1 => absurd k_1 (by decide)) (fun k_1 => ?_)
  refine lv_aload_n hx hb dX10_four_6 rfl (lv_at hl 1 rfl) ?_
  refine va_get (D := (dC, dI)) (ci := 10) (v := .ref (z 1)) (C := RX10) (T := TX10) (N := 48) hx hb hts fin_X10_four_X10 hown hK hP 0 rfl rfl 4 (by decide) (hts (.fieldLink RX10 14 "PatternGateModel" "tape" "[B") (List.mem_of_getElem? (i := 1) (by decide +kernel))) (fun _ h9 => h9) rfl dX10_four_7 ?_
  refine lv_aload_n hx hb dX10_four_10 rfl (lv_at hl 1 rfl) ?_
  refine va_get (D := (dC, dI)) (ci := 10) (v := .int (nI n)) (C := RX10) (T := TX10) (N := 48) hx hb hts fin_X10_four_X10 hown hK hP 0 rfl rfl 6 (by decide) (hts (.fieldLink RX10 107 "PatternGateModel" "taped" "I") (List.mem_of_getElem? (i := 2) (by decide +kernel))) (fun _ h9 => h9) rfl dX10_four_11 ?_
  refine lv_iload_n hx hb dX10_four_14 rfl (lv_at hl 2 rfl) ?_
  refine lv_bipush (v := 8) hx hb dX10_four_15 (by decide) ?_
  refine lv_iload_n hx hb dX10_four_17 rfl (lv_at hl 0 rfl) ?_
  refine lv_imul hx hb dX10_four_18 ?_
  refine lv_topi (fun y_2 ey_2 => ?_)
  obtain rfl : y_2 = 24 := ey_2.trans (by first | rfl | decide)
  refine lv_ishr hx hb dX10_four_19 ?_
  refine lv_topi (fun y_3 ey_3 => ?_)
  refine lv_i2b hx hb dX10_four_20 rfl ?_
  refine lv_topi (fun y_4 ey_4 => ?_)
  refine va_bast hx hb hK hP hD hS 1 0 rfl rfl (i := (nI n)) (vp_in_nI (n := n) (by omega) (by decide)) dX10_four_21 (fun H locs hP hD hS => ?_)
  generalize hf_f_5 : upd f _ _ = f_5 at hP hD
  have hP : va_P (dC, dI) vwCl [(y, .inr (10, mF z a0 a1 a2 (nI n) a4 a5 a6 a7 a8 a9 a10)), (z 1, .inl (mT, 900, .inl f_5))] H := hP
  have hD : va_D A [(y, .inr (10, mF z a0 a1 a2 (nI n) a4 a5 a6 a7 a8 a9 a10)), (z 1, .inl (mT, 900, .inl f_5))] := hD
  refine lv_aload_n hx hb dX10_four_22 rfl (lv_at hl 1 rfl) ?_
  refine lv_dup hx hb dX10_four_23 rfl ?_
  refine va_get (D := (dC, dI)) (ci := 10) (v := .int (nI n)) (C := RX10) (T := TX10) (N := 48) hx hb hts fin_X10_four_X10 hown hK hP 0 rfl rfl 6 (by decide) (hts (.fieldLink RX10 107 "PatternGateModel" "taped" "I") (List.mem_of_getElem? (i := 2) (by decide +kernel))) (fun _ h9 => h9) rfl dX10_four_24 ?_
  refine lv_iconst (v := 1) hx hb dX10_four_27 (by decide) ?_
  refine lv_iadd hx hb dX10_four_28 ?_
  refine lv_topi (fun y_6 ey_6 => ?_)
  obtain rfl : y_6 = nI (n + 1) := ey_6.trans (nI_1 _)
  refine va_put (D := (dC, dI)) (ci := 10) (v := .int (nI (n + 1))) (ty := .int) (C := RX10) (T := TX10) (N := 48) hx hb hts fin_X10_four_X10 tyX10 tyX10_ok nmX10 hown hK hP hD hS 0 rfl rfl 6 (by decide) (hts (.fieldLink RX10 107 "PatternGateModel" "taped" "I") (List.mem_of_getElem? (i := 2) (by decide +kernel))) (fun _ h9 => h9) rfl (by decide +kernel) rfl rfl (Nat.le_of_ble_eq_true rfl) dX10_four_29 (fun H locs hP hD hS => ?_)
  have hP : va_P (dC, dI) vwCl [(y, .inr (10, mF z a0 a1 a2 (nI (n + 1)) a4 a5 a6 a7 a8 a9 a10)), (z 1, .inl (mT, 900, .inl f_5))] H := hP
  have hD : va_D A [(y, .inr (10, mF z a0 a1 a2 (nI (n + 1)) a4 a5 a6 a7 a8 a9 a10)), (z 1, .inl (mT, 900, .inl f_5))] := hD
  refine lv_iinc (v := 2) (lv' := [(2, .int 2), (0, .ref y), (1, .int v)]) hx hb dX10_four_32 hl (k := 0) rfl (by decide) (by decide) rfl (fun ls hl => ?_)
  refine lv_goto (tgt := 2) hx hb dX10_four_35 (by decide) ?_
  refine lv_iload_n hx hb dX10_four_2 rfl (lv_at hl 0 rfl) ?_
  refine lv_if_lt (tgt := 38) hx hb dX10_four_3 (by decide) (fun k_7 => absurd k_7 (by decide)) (fun k_7 => ?_)
  refine lv_aload_n hx hb dX10_four_6 rfl (lv_at hl 1 rfl) ?_
  refine va_get (D := (dC, dI)) (ci := 10) (v := .ref (z 1)) (C := RX10) (T := TX10) (N := 48) hx hb hts fin_X10_four_X10 hown hK hP 0 rfl rfl 4 (by decide) (hts (.fieldLink RX10 14 "PatternGateModel" "tape" "[B") (List.mem_of_getElem? (i := 1) (by decide +kernel))) (fun _ h9 => h9) rfl dX10_four_7 ?_
  refine lv_aload_n hx hb dX10_four_10 rfl (lv_at hl 1 rfl) ?_
  refine va_get (D := (dC, dI)) (ci := 10) (v := .int (nI (n + 1))) (C := RX10) (T := TX10) (N := 48) hx hb hts fin_X10_four_X10 hown hK hP 0 rfl rfl 6 (by decide) (hts (.fieldLink RX10 107 "PatternGateModel" "taped" "I") (List.mem_of_getElem? (i := 2) (by decide +kernel))) (fun _ h9 => h9) rfl dX10_four_11 ?_
  refine lv_iload_n hx hb dX10_four_14 rfl (lv_at hl 2 rfl) ?_
  refine lv_bipush (v := 8) hx hb dX10_four_15 (by decide) ?_
  refine lv_iload_n hx hb dX10_four_17 rfl (lv_at hl 0 rfl) ?_
  refine lv_imul hx hb dX10_four_18 ?_
  refine lv_topi (fun y_8 ey_8 => ?_)
  obtain rfl : y_8 = 16 := ey_8.trans (by first | rfl | decide)
  refine lv_ishr hx hb dX10_four_19 ?_
  refine lv_topi (fun y_9 ey_9 => ?_)
  refine lv_i2b hx hb dX10_four_20 rfl ?_
  refine lv_topi (fun y_10 ey_10 => ?_)
  refine va_bast hx hb hK hP hD hS 1 0 rfl rfl (i := (nI (n + 1))) (vp_in_nI (n := n + 1) (by omega) (by decide)) dX10_four_21 (fun H locs hP hD hS => ?_)
  generalize hf_f_11 : upd f_5 _ _ = f_11 at hP hD
  have hP : va_P (dC, dI) vwCl [(y, .inr (10, mF z a0 a1 a2 (nI (n + 1)) a4 a5 a6 a7 a8 a9 a10)), (z 1, .inl (mT, 900, .inl f_11))] H := hP
  have hD : va_D A [(y, .inr (10, mF z a0 a1 a2 (nI (n + 1)) a4 a5 a6 a7 a8 a9 a10)), (z 1, .inl (mT, 900, .inl f_11))] := hD
  refine lv_aload_n hx hb dX10_four_22 rfl (lv_at hl 1 rfl) ?_
  refine lv_dup hx hb dX10_four_23 rfl ?_
  refine va_get (D := (dC, dI)) (ci := 10) (v := .int (nI (n + 1))) (C := RX10) (T := TX10) (N := 48) hx hb hts fin_X10_four_X10 hown hK hP 0 rfl rfl 6 (by decide) (hts (.fieldLink RX10 107 "PatternGateModel" "taped" "I") (List.mem_of_getElem? (i := 2) (by decide +kernel))) (fun _ h9 => h9) rfl dX10_four_24 ?_
  refine lv_iconst (v := 1) hx hb dX10_four_27 (by decide) ?_
  refine lv_iadd hx hb dX10_four_28 ?_
  refine lv_topi (fun y_12 ey_12 => ?_)
  obtain rfl : y_12 = nI (n + 2) := ey_12.trans (nI_1 _)
  refine va_put (D := (dC, dI)) (ci := 10) (v := .int (nI (n + 2))) (ty := .int) (C := RX10) (T := TX10) (N := 48) hx hb hts fin_X10_four_X10 tyX10 tyX10_ok nmX10 hown hK hP hD hS 0 rfl rfl 6 (by decide) (hts (.fieldLink RX10 107 "PatternGateModel" "taped" "I") (List.mem_of_getElem? (i := 2) (by decide +kernel))) (fun _ h9 => h9) rfl (by decide +kernel) rfl rfl (Nat.le_of_ble_eq_true rfl) dX10_four_29 (fun H locs hP hD hS => ?_)
  have hP : va_P (dC, dI) vwCl [(y, .inr (10, mF z a0 a1 a2 (nI (n + 2)) a4 a5 a6 a7 a8 a9 a10)), (z 1, .inl (mT, 900, .inl f_11))] H := hP
  have hD : va_D A [(y, .inr (10, mF z a0 a1 a2 (nI (n + 2)) a4 a5 a6 a7 a8 a9 a10)), (z 1, .inl (mT, 900, .inl f_11))] := hD
  refine lv_iinc (v := 1) (lv' := [(2, .int 1), (0, .ref y), (1, .int v)]) hx hb dX10_four_32 hl (k := 0) rfl (by decide) (by decide) rfl (fun ls hl => ?_)
  refine lv_goto (tgt := 2) hx hb dX10_four_35 (by decide) ?_
  refine lv_iload_n hx hb dX10_four_2 rfl (lv_at hl 0 rfl) ?_
  refine lv_if_lt (tgt := 38) hx hb dX10_four_3 (by decide) (fun k_13 => absurd k_13 (by decide)) (fun k_13 => ?_)
  refine lv_aload_n hx hb dX10_four_6 rfl (lv_at hl 1 rfl) ?_
  refine va_get (D := (dC, dI)) (ci := 10) (v := .ref (z 1)) (C := RX10) (T := TX10) (N := 48) hx hb hts fin_X10_four_X10 hown hK hP 0 rfl rfl 4 (by decide) (hts (.fieldLink RX10 14 "PatternGateModel" "tape" "[B") (List.mem_of_getElem? (i := 1) (by decide +kernel))) (fun _ h9 => h9) rfl dX10_four_7 ?_
  refine lv_aload_n hx hb dX10_four_10 rfl (lv_at hl 1 rfl) ?_
  refine va_get (D := (dC, dI)) (ci := 10) (v := .int (nI (n + 2))) (C := RX10) (T := TX10) (N := 48) hx hb hts fin_X10_four_X10 hown hK hP 0 rfl rfl 6 (by decide) (hts (.fieldLink RX10 107 "PatternGateModel" "taped" "I") (List.mem_of_getElem? (i := 2) (by decide +kernel))) (fun _ h9 => h9) rfl dX10_four_11 ?_
  refine lv_iload_n hx hb dX10_four_14 rfl (lv_at hl 2 rfl) ?_
  refine lv_bipush (v := 8) hx hb dX10_four_15 (by decide) ?_
  refine lv_iload_n hx hb dX10_four_17 rfl (lv_at hl 0 rfl) ?_
  refine lv_imul hx hb dX10_four_18 ?_
  refine lv_topi (fun y_14 ey_14 => ?_)
  obtain rfl : y_14 = 8 := ey_14.trans (by first | rfl | decide)
  refine lv_ishr hx hb dX10_four_19 ?_
  refine lv_topi (fun y_15 ey_15 => ?_)
  refine lv_i2b hx hb dX10_four_20 rfl ?_
  refine lv_topi (fun y_16 ey_16 => ?_)
  refine va_bast hx hb hK hP hD hS 1 0 rfl rfl (i := (nI (n + 2))) (vp_in_nI (n := n + 2) (by omega) (by decide)) dX10_four_21 (fun H locs hP hD hS => ?_)
  generalize hf_f_17 : upd f_11 _ _ = f_17 at hP hD
  have hP : va_P (dC, dI) vwCl [(y, .inr (10, mF z a0 a1 a2 (nI (n + 2)) a4 a5 a6 a7 a8 a9 a10)), (z 1, .inl (mT, 900, .inl f_17))] H := hP
  have hD : va_D A [(y, .inr (10, mF z a0 a1 a2 (nI (n + 2)) a4 a5 a6 a7 a8 a9 a10)), (z 1, .inl (mT, 900, .inl f_17))] := hD
  refine lv_aload_n hx hb dX10_four_22 rfl (lv_at hl 1 rfl) ?_
  refine lv_dup hx hb dX10_four_23 rfl ?_
  refine va_get (D := (dC, dI)) (ci := 10) (v := .int (nI (n + 2))) (C := RX10) (T := TX10) (N := 48) hx hb hts fin_X10_four_X10 hown hK hP 0 rfl rfl 6 (by decide) (hts (.fieldLink RX10 107 "PatternGateModel" "taped" "I") (List.mem_of_getElem? (i := 2) (by decide +kernel))) (fun _ h9 => h9) rfl dX10_four_24 ?_
  refine lv_iconst (v := 1) hx hb dX10_four_27 (by decide) ?_
  refine lv_iadd hx hb dX10_four_28 ?_
  refine lv_topi (fun y_18 ey_18 => ?_)
  obtain rfl : y_18 = nI (n + 3) := ey_18.trans (nI_1 _)
  refine va_put (D := (dC, dI)) (ci := 10) (v := .int (nI (n + 3))) (ty := .int) (C := RX10) (T := TX10) (N := 48) hx hb hts fin_X10_four_X10 tyX10 tyX10_ok nmX10 hown hK hP hD hS 0 rfl rfl 6 (by decide) (hts (.fieldLink RX10 107 "PatternGateModel" "taped" "I") (List.mem_of_getElem? (i := 2) (by decide +kernel))) (fun _ h9 => h9) rfl (by decide +kernel) rfl rfl (Nat.le_of_ble_eq_true rfl) dX10_four_29 (fun H locs hP hD hS => ?_)
  have hP : va_P (dC, dI) vwCl [(y, .inr (10, mF z a0 a1 a2 (nI (n + 3)) a4 a5 a6 a7 a8 a9 a10)), (z 1, .inl (mT, 900, .inl f_17))] H := hP
  have hD : va_D A [(y, .inr (10, mF z a0 a1 a2 (nI (n + 3)) a4 a5 a6 a7 a8 a9 a10)), (z 1, .inl (mT, 900, .inl f_17))] := hD
  refine lv_iinc (v := 0) (lv' := [(2, .int 0), (0, .ref y), (1, .int v)]) hx hb dX10_four_32 hl (k := 0) rfl (by decide) (by decide) rfl (fun ls hl => ?_)
  refine lv_goto (tgt := 2) hx hb dX10_four_35 (by decide) ?_
  refine lv_iload_n hx hb dX10_four_2 rfl (lv_at hl 0 rfl) ?_
  refine lv_if_lt (tgt := 38) hx hb dX10_four_3 (by decide) (fun k_19 => absurd k_19 (by decide)) (fun k_19 => ?_)
  refine lv_aload_n hx hb dX10_four_6 rfl (lv_at hl 1 rfl) ?_
  refine va_get (D := (dC, dI)) (ci := 10) (v := .ref (z 1)) (C := RX10) (T := TX10) (N := 48) hx hb hts fin_X10_four_X10 hown hK hP 0 rfl rfl 4 (by decide) (hts (.fieldLink RX10 14 "PatternGateModel" "tape" "[B") (List.mem_of_getElem? (i := 1) (by decide +kernel))) (fun _ h9 => h9) rfl dX10_four_7 ?_
  refine lv_aload_n hx hb dX10_four_10 rfl (lv_at hl 1 rfl) ?_
  refine va_get (D := (dC, dI)) (ci := 10) (v := .int (nI (n + 3))) (C := RX10) (T := TX10) (N := 48) hx hb hts fin_X10_four_X10 hown hK hP 0 rfl rfl 6 (by decide) (hts (.fieldLink RX10 107 "PatternGateModel" "taped" "I") (List.mem_of_getElem? (i := 2) (by decide +kernel))) (fun _ h9 => h9) rfl dX10_four_11 ?_
  refine lv_iload_n hx hb dX10_four_14 rfl (lv_at hl 2 rfl) ?_
  refine lv_bipush (v := 8) hx hb dX10_four_15 (by decide) ?_
  refine lv_iload_n hx hb dX10_four_17 rfl (lv_at hl 0 rfl) ?_
  refine lv_imul hx hb dX10_four_18 ?_
  refine lv_topi (fun y_20 ey_20 => ?_)
  obtain rfl : y_20 = 0 := ey_20.trans (by first | rfl | decide)
  refine lv_ishr hx hb dX10_four_19 ?_
  refine lv_topi (fun y_21 ey_21 => ?_)
  refine lv_i2b hx hb dX10_four_20 rfl ?_
  refine lv_topi (fun y_22 ey_22 => ?_)
  refine va_bast hx hb hK hP hD hS 1 0 rfl rfl (i := (nI (n + 3))) (vp_in_nI (n := n + 3) (by omega) (by decide)) dX10_four_21 (fun H locs hP hD hS => ?_)
  generalize hf_f_23 : upd f_17 _ _ = f_23 at hP hD
  have hP : va_P (dC, dI) vwCl [(y, .inr (10, mF z a0 a1 a2 (nI (n + 3)) a4 a5 a6 a7 a8 a9 a10)), (z 1, .inl (mT, 900, .inl f_23))] H := hP
  have hD : va_D A [(y, .inr (10, mF z a0 a1 a2 (nI (n + 3)) a4 a5 a6 a7 a8 a9 a10)), (z 1, .inl (mT, 900, .inl f_23))] := hD
  refine lv_aload_n hx hb dX10_four_22 rfl (lv_at hl 1 rfl) ?_
  refine lv_dup hx hb dX10_four_23 rfl ?_
  refine va_get (D := (dC, dI)) (ci := 10) (v := .int (nI (n + 3))) (C := RX10) (T := TX10) (N := 48) hx hb hts fin_X10_four_X10 hown hK hP 0 rfl rfl 6 (by decide) (hts (.fieldLink RX10 107 "PatternGateModel" "taped" "I") (List.mem_of_getElem? (i := 2) (by decide +kernel))) (fun _ h9 => h9) rfl dX10_four_24 ?_
  refine lv_iconst (v := 1) hx hb dX10_four_27 (by decide) ?_
  refine lv_iadd hx hb dX10_four_28 ?_
  refine lv_topi (fun y_24 ey_24 => ?_)
  obtain rfl : y_24 = nI (n + 4) := ey_24.trans (nI_1 _)
  refine va_put (D := (dC, dI)) (ci := 10) (v := .int (nI (n + 4))) (ty := .int) (C := RX10) (T := TX10) (N := 48) hx hb hts fin_X10_four_X10 tyX10 tyX10_ok nmX10 hown hK hP hD hS 0 rfl rfl 6 (by decide) (hts (.fieldLink RX10 107 "PatternGateModel" "taped" "I") (List.mem_of_getElem? (i := 2) (by decide +kernel))) (fun _ h9 => h9) rfl (by decide +kernel) rfl rfl (Nat.le_of_ble_eq_true rfl) dX10_four_29 (fun H locs hP hD hS => ?_)
  have hP : va_P (dC, dI) vwCl [(y, .inr (10, mF z a0 a1 a2 (nI (n + 4)) a4 a5 a6 a7 a8 a9 a10)), (z 1, .inl (mT, 900, .inl f_23))] H := hP
  have hD : va_D A [(y, .inr (10, mF z a0 a1 a2 (nI (n + 4)) a4 a5 a6 a7 a8 a9 a10)), (z 1, .inl (mT, 900, .inl f_23))] := hD
  refine lv_iinc (v := (-1)) (lv' := [(2, .int (-1)), (0, .ref y), (1, .int v)]) hx hb dX10_four_32 hl (k := 0) rfl (by decide) (by decide) rfl (fun ls hl => ?_)
  refine lv_goto (tgt := 2) hx hb dX10_four_35 (by decide) ?_
  refine lv_iload_n hx hb dX10_four_2 rfl (lv_at hl 0 rfl) ?_
  refine lv_if_lt (tgt := 38) hx hb dX10_four_3 (by decide) (fun k_25 => ?_) (fun k_25 => absurd (by decide) k_25)
  exact W.vret hx hb hr (fun t ht hW => ⟨⟨f_23, rfl, trivial, by rw [ht]; exact hP, va_K.moved hW.alike hK, hD⟩, hS.F ht⟩) hS.2.2 dX10_four_38
theorem dX10_unlike_0 : decode cX10_unlike 0 = .ok (.iconst 0, 1) := by decide +kernel
theorem dX10_unlike_1 : decode cX10_unlike 1 = .ok (.istore_n 3, 1) := by decide +kernel
theorem dX10_unlike_2 : decode cX10_unlike 2 = .ok (.iconst 0, 1) := by decide +kernel
theorem dX10_unlike_3 : decode cX10_unlike 3 = .ok (.istore 4, 2) := by decide +kernel
theorem dX10_unlike_5 : decode cX10_unlike 5 = .ok (.iload 4, 2) := by decide +kernel
theorem dX10_unlike_7 : decode cX10_unlike 7 = .ok (.sipush 17576, 3) := by decide +kernel
theorem dX10_unlike_10 : decode cX10_unlike 10 = .ok (.if_icmp .ge 17, 3) := by decide +kernel
theorem dX10_unlike_13 : decode cX10_unlike 13 = .ok (.aload_n 0, 1) := by decide +kernel
theorem dX10_unlike_14 : decode cX10_unlike 14 = .ok (.getfield 95, 3) := by decide +kernel
theorem dX10_unlike_17 : decode cX10_unlike 17 = .ok (.iload 4, 2) := by decide +kernel
theorem dX10_unlike_19 : decode cX10_unlike 19 = .ok (.iconst 0, 1) := by decide +kernel
theorem dX10_unlike_20 : decode cX10_unlike 20 = .ok (.bastore, 1) := by decide +kernel
theorem dX10_unlike_21 : decode cX10_unlike 21 = .ok (.iinc 4 1, 3) := by decide +kernel
theorem dX10_unlike_24 : decode cX10_unlike 24 = .ok (.goto (-19), 3) := by decide +kernel
theorem dX10_unlike_27 : decode cX10_unlike 27 = .ok (.iload_n 1, 1) := by decide +kernel
theorem dX10_unlike_28 : decode cX10_unlike 28 = .ok (.istore 4, 2) := by decide +kernel
theorem dX10_unlike_30 : decode cX10_unlike 30 = .ok (.iload 4, 2) := by decide +kernel
theorem dX10_unlike_32 : decode cX10_unlike 32 = .ok (.iload_n 2, 1) := by decide +kernel
theorem dX10_unlike_33 : decode cX10_unlike 33 = .ok (.if_icmp .ge 69, 3) := by decide +kernel
theorem dX10_unlike_102 : decode cX10_unlike 102 = .ok (.iload_n 3, 1) := by decide +kernel
theorem dX10_unlike_103 : decode cX10_unlike 103 = .ok (.ireturn, 1) := by decide +kernel
def mwX10_unlike : List Cond := .code yX10_unlike cX10_unlike 6 (some .int) :: ([.fieldLink RX10 95 "PatternGateModel" "came" "[Z"] ++ wsX100)
theorem fin_X10_unlike_X10 : ∀ w ∈ wsX100, w ∈ mwX10_unlike := fun w h => List.mem_cons_of_mem _ (List.mem_append_right _ h)
set_option maxHeartbeats 4000000 in
set_option maxRecDepth 100000 in
/-- unlike of no DOCUMENTS -/
theorem m_unlike (l : Launch) (dC : Nat → ClassId) (dI : Nat → Nat → Nat) (y : Nat) (z : Nat → Nat) (a0 a1 a2 a3 a4 a5 a6 a7 a8 a9 a10 : Int32) (mC : ClassId) (sz : Nat) : Met l yX10_unlike mwX10_unlike ({ frames := 0, cells := 0, slots := 0, locals := 0 }) (va_Pc [.ref y, .int 0, .int 0] (fun U => U.heap.size = sz ∧ va_P (dC, dI) vwCl ([(y, .inr (10, mF z a0 a1 a2 a3 a4 a5 a6 a7 a8 a9 a10)), (z 23, .inl (mC, 17576, .inl (fun _ => 0)))]) U.heap ∧ va_K (dC, dI) vwCl ([(mC, .boolean)]) U ∧ va_D (fun _ => True) ([(y, .inr (10, mF z a0 a1 a2 a3 a4 a5 a6 a7 a8 a9 a10)), (z 23, .inl (mC, 17576, .inl (fun _ => 0)))]))) (va_Qi (fun (o : Int32) (_ : Unit) => o = 0) (fun _ t => va_P (dC, dI) vwCl [(y, .inr (10, mF z a0 a1 a2 a3 a4 a5 a6 a7 a8 a9 a10)), (z 23, .inl (mC, 17576, .inl (fun _ => 0)))] t.heap ∧ va_K (dC, dI) vwCl [(mC, .boolean)] t ∧ va_D (va_A ([(y, .inr (10, mF z a0 a1 a2 a3 a4 a5 a6 a7 a8 a9 a10)), (z 23, .inl (mC, 17576, .inl (fun _ => 0)))]) sz) [(y, .inr (10, mF z a0 a1 a2 a3 a4 a5 a6 a7 a8 a9 a10)), (z 23, .inl (mC, 17576, .inl (fun _ => 0)))]) (va_A ([(y, .inr (10, mF z a0 a1 a2 a3 a4 a5 a6 a7 a8 a9 a10)), (z 23, .inl (mC, 17576, .inl (fun _ => 0)))]) sz)) 0 0 (va_A ([(y, .inr (10, mF z a0 a1 a2 a3 a4 a5 a6 a7 a8 a9 a10)), (z 23, .inl (mC, 17576, .inl (fun _ => 0)))]) sz) := by
  refine Met.ofW (cc := cX10_unlike) (maxL := 6) (ret := (some .int)) (by decide +kernel) rfl ?_
  intro p e s m args below meth c s₁ B hml hv
  obtain ⟨rfl, hsz, hP, hK, hD0⟩ := hv
  have hx := B.exec
  have hb := B.bytes
  have hr := B.returns
  have hts := atoms_spec (ws := mwX10_unlike) B.pre
  have hown : s.vm.findClass RX10 = some m.cls := findClass_of_methodNamed B.named
  have hlocks := B.notSynchronized
  subst hsz
  have hD := hD0.self (sz := s.heap.size)
  generalize hAe : va_A ([(y, .inr (10, mF z a0 a1 a2 a3 a4 a5 a6 a7 a8 a9 a10)), (z 23, .inl (mC, 17576, .inl (fun _ => 0)))]) s.heap.size = A at hD ⊢
  have hA : ∀ q : Nat, s.heap.size ≤ q → A q := fun q h => by rw [← hAe]; exact Or.inr h
  have hP : va_P (dC, dI) vwCl [(y, .inr (10, mF z a0 a1 a2 a3 a4 a5 a6 a7 a8 a9 a10)), (z 23, .inl (mC, 17576, .inl (fun _ => 0)))] s.heap := hP
  have hD : va_D A [(y, .inr (10, mF z a0 a1 a2 a3 a4 a5 a6 a7 a8 a9 a10)), (z 23, .inl (mC, 17576, .inl (fun _ => 0)))] := hD
  have hK : va_K (dC, dI) vwCl [(mC, .boolean)] s := hK
  generalize hH : s.heap = H at hP ⊢
  have hS : va_S A s.heap H [] := by rw [← hH]; exact va_S.rf
  have hl := lv_entry ([.ref y, .int 0, .int 0]) (n := 6) (Nat.le_of_ble_eq_true rfl)
  rw [lg_entry_eq]
  generalize (lg_sl ([.ref y, .int 0, .int 0]) ++ List.replicate (6 - (lg_sl ([.ref y, .int 0, .int 0])).length) Slot.unset).toArray = ls at hl ⊢
  have hl : lv_has ls 6 [(0, .ref y), (1, .int 0), (2, .int 0)] := hl
  refine lv_iconst (v := 0) hx hb dX10_unlike_0 (by decide) ?_
  refine lv_istore_n (lv' := [(3, .int 0), (0, .ref y), (1, .int 0), (2, .int 0)]) hx hb dX10_unlike_1 rfl hl (by decide) rfl (fun ls hl => ?_)
  refine lv_iconst (v := 0) hx hb dX10_unlike_2 (by decide) ?_
  refine lv_istore (lv' := [(4, .int 0), (3, .int 0), (0, .ref y), (1, .int 0), (2, .int 0)]) hx hb dX10_unlike_3 hl (by decide) rfl (fun ls hl => ?_)
  have loop : ∀ (n k : Nat), k + n = 17576 → ∀ (H : Heap) (locs : List Loc) (ls : Array Slot), va_P (dC, dI) vwCl [(y, .inr (10, mF z a0 a1 a2 a3 a4 a5 a6 a7 a8 a9 a10)), (z 23, .inl (mC, 17576, .inl (fun _ => 0)))] H → va_D A [(y, .inr (10, mF z a0 a1 a2 a3 a4 a5 a6 a7 a8 a9 a10)), (z 23, .inl (mC, 17576, .inl (fun _ => 0)))] → va_S A s.heap H locs → lv_has ls 6 [(4, .int (nI k)), (3, .int 0), (0, .ref y), (1, .int 0), (2, .int 0)] → W p l e (headSpec mwX10_unlike ({ frames := 0, cells := 0, slots := 0, locals := 0 })).room s m ([.ref y, .int 0, .int 0]).toArray below meth c H locs 0 0 (MQ below (va_Qi (fun (o : Int32) (_ : Unit) => o = 0) (fun _ t => va_P (dC, dI) vwCl [(y, .inr (10, mF z a0 a1 a2 a3 a4 a5 a6 a7 a8 a9 a10)), (z 23, .inl (mC, 17576, .inl (fun _ => 0)))] t.heap ∧ va_K (dC, dI) vwCl [(mC, .boolean)] t ∧ va_D A [(y, .inr (10, mF z a0 a1 a2 a3 a4 a5 a6 a7 a8 a9 a10)), (z 23, .inl (mC, 17576, .inl (fun _ => 0)))]) A) ([.ref y, .int 0, .int 0]).toArray s 0 0 A) (F0 m 5 ls []) := by
    intro n
    induction n with
    | zero =>
      intro k hk H locs ls hP hD hS hl
      obtain rfl : k = 17576 := by omega
      refine lv_iload hx hb dX10_unlike_5 (lv_at hl 0 rfl) ?_
      refine lv_sipush (v := 17576) hx hb dX10_unlike_7 (by decide) ?_
      refine lv_icmp_ge (tgt := 27) hx hb dX10_unlike_10 (by decide) (fun k_1 => ?_) (fun k_1 => absurd (by decide +kernel) k_1)
      refine lv_iload_n hx hb dX10_unlike_27 rfl (lv_at hl 3 rfl) ?_
      refine lv_istore (lv' := [(4, .int 0), (3, .int 0), (0, .ref y), (1, .int 0), (2, .int 0)]) hx hb dX10_unlike_28 hl (by decide) rfl (fun ls hl => ?_)
      refine lv_iload hx hb dX10_unlike_30 (lv_at hl 0 rfl) ?_
      refine lv_iload_n hx hb dX10_unlike_32 rfl (lv_at hl 4 rfl) ?_
      refine lv_icmp_ge (tgt := 102) hx hb dX10_unlike_33 (by decide) (fun k_2 => ?_) (fun k_2 => absurd (by decide) k_2)
      refine lv_iload_n hx hb dX10_unlike_102 rfl (lv_at hl 1 rfl) ?_
      have hP9 := hP.sub (ws' := [(y, .inr (10, mF z a0 a1 a2 a3 a4 a5 a6 a7 a8 a9 a10)), (z 23, .inl (mC, 17576, .inl (fun _ => 0)))]) [0, 1] rfl
      have hD9 := hD.sub (ws' := [(y, .inr (10, mF z a0 a1 a2 a3 a4 a5 a6 a7 a8 a9 a10)), (z 23, .inl (mC, 17576, .inl (fun _ => 0)))]) [0, 1] (by decide) rfl
      have hK9 := hK.sub (tys' := [(mC, .boolean)]) [0] rfl
      exact W.iret hx hb hr (fun t ht hW => ⟨⟨_, (), rfl, rfl, by rw [ht]; exact hP9, va_K.moved hW.alike hK9, hD9⟩, hS.F ht⟩) hS.2.2 dX10_unlike_103
    | succ n ih =>
      intro k hk H locs ls hP hD hS hl
      refine lv_iload hx hb dX10_unlike_5 (lv_at hl 0 rfl) ?_
      refine lv_sipush (v := 17576) hx hb dX10_unlike_7 (by decide) ?_
      refine lv_icmp_ge (tgt := 27) hx hb dX10_unlike_10 (by decide) (fun k_3 => absurd k_3 (nI_ge (a := k) (b := 17576) (by omega) (by decide))) (fun k_3 => ?_)
      refine lv_aload_n hx hb dX10_unlike_13 rfl (lv_at hl 2 rfl) ?_
      refine va_get (D := (dC, dI)) (ci := 10) (v := .ref (z 23)) (C := RX10) (T := TX10) (N := 48) hx hb hts fin_X10_unlike_X10 hown hK hP 0 rfl rfl 45 (by decide) (hts (.fieldLink RX10 95 "PatternGateModel" "came" "[Z") (List.mem_of_getElem? (i := 1) (by decide +kernel))) (fun _ h9 => h9) rfl dX10_unlike_14 ?_
      refine lv_iload hx hb dX10_unlike_17 (lv_at hl 0 rfl) ?_
      refine lv_iconst (v := 0) hx hb dX10_unlike_19 (by decide) ?_
      refine va_zast hx hb hK hP hD hS 1 0 rfl rfl (i := (nI k)) (vp_in_nI (n := k) (by omega) (by decide)) dX10_unlike_20 (fun H locs hP hD hS => ?_)
      rw [zz_z] at hP hD
      have hP : va_P (dC, dI) vwCl [(y, .inr (10, mF z a0 a1 a2 a3 a4 a5 a6 a7 a8 a9 a10)), (z 23, .inl (mC, 17576, .inl (fun _ => 0)))] H := hP
      have hD : va_D A [(y, .inr (10, mF z a0 a1 a2 a3 a4 a5 a6 a7 a8 a9 a10)), (z 23, .inl (mC, 17576, .inl (fun _ => 0)))] := hD
      obtain ⟨y_4, ey_4⟩ : ∃ y : Int32, y = nI k + 1 := ⟨_, rfl⟩
      refine lv_iinc (v := y_4) (lv' := [(4, .int y_4), (3, .int 0), (0, .ref y), (1, .int 0), (2, .int 0)]) hx hb dX10_unlike_21 hl (k := 0) rfl (by rw [ey_4]; rfl) (by decide) rfl (fun ls hl => ?_)
      refine lv_goto (tgt := 5) hx hb dX10_unlike_24 (by decide) ?_
      obtain rfl : y_4 = nI (k + 1) := ey_4.trans (nI_1 _)
      exact ih (k + 1) (by omega) _ _ ls hP hD hS (lv_sub hl [0, 1, 2, 3, 4] rfl)
  exact loop 17576 0 rfl _ _ ls hP hD hS (lv_sub hl [0, 1, 2, 3, 4] rfl)

theorem dX9_mark_0 : decode cX9_mark 0 = .ok (.aload_n 0, 1) := by decide +kernel
theorem dX9_mark_1 : decode cX9_mark 1 = .ok (.getfield 120, 3) := by decide +kernel
theorem dX9_mark_4 : decode cX9_mark 4 = .ok (.iconst 3, 1) := by decide +kernel
theorem dX9_mark_5 : decode cX9_mark 5 = .ok (.if_icmp .lt 9, 3) := by decide +kernel
theorem dX9_mark_14 : decode cX9_mark 14 = .ok (.aload_n 0, 1) := by decide +kernel
theorem dX9_mark_15 : decode cX9_mark 15 = .ok (.getfield 33, 3) := by decide +kernel
theorem dX9_mark_18 : decode cX9_mark 18 = .ok (.aload_n 0, 1) := by decide +kernel
theorem dX9_mark_19 : decode cX9_mark 19 = .ok (.getfield 120, 3) := by decide +kernel
theorem dX9_mark_22 : decode cX9_mark 22 = .ok (.aload_n 0, 1) := by decide +kernel
theorem dX9_mark_23 : decode cX9_mark 23 = .ok (.getfield 29, 3) := by decide +kernel
theorem dX9_mark_26 : decode cX9_mark 26 = .ok (.aastore, 1) := by decide +kernel
theorem dX9_mark_27 : decode cX9_mark 27 = .ok (.aload_n 0, 1) := by decide +kernel
theorem dX9_mark_28 : decode cX9_mark 28 = .ok (.getfield 37, 3) := by decide +kernel
theorem dX9_mark_31 : decode cX9_mark 31 = .ok (.aload_n 0, 1) := by decide +kernel
theorem dX9_mark_32 : decode cX9_mark 32 = .ok (.getfield 120, 3) := by decide +kernel
theorem dX9_mark_35 : decode cX9_mark 35 = .ok (.aload_n 0, 1) := by decide +kernel
theorem dX9_mark_36 : decode cX9_mark 36 = .ok (.getfield 117, 3) := by decide +kernel
theorem dX9_mark_39 : decode cX9_mark 39 = .ok (.iastore, 1) := by decide +kernel
theorem dX9_mark_40 : decode cX9_mark 40 = .ok (.aload_n 0, 1) := by decide +kernel
theorem dX9_mark_41 : decode cX9_mark 41 = .ok (.dup, 1) := by decide +kernel
theorem dX9_mark_42 : decode cX9_mark 42 = .ok (.getfield 120, 3) := by decide +kernel
theorem dX9_mark_45 : decode cX9_mark 45 = .ok (.iconst 1, 1) := by decide +kernel
theorem dX9_mark_46 : decode cX9_mark 46 = .ok (.iadd, 1) := by decide +kernel
theorem dX9_mark_47 : decode cX9_mark 47 = .ok (.putfield 120, 3) := by decide +kernel
theorem dX9_mark_50 : decode cX9_mark 50 = .ok (.aload_n 0, 1) := by decide +kernel
theorem dX9_mark_51 : decode cX9_mark 51 = .ok (.aload_n 0, 1) := by decide +kernel
theorem dX9_mark_52 : decode cX9_mark 52 = .ok (.getfield 120, 3) := by decide +kernel
theorem dX9_mark_55 : decode cX9_mark 55 = .ok (.invokevirtual 100, 3) := by decide +kernel
theorem dX9_mark_58 : decode cX9_mark 58 = .ok (.ireturn, 1) := by decide +kernel
def mwX9_mark : List Cond := .code yX9_mark cX9_mark 1 (some .int) :: ([.fieldLink RX9 120 "PatternGate" "marks" "I", .fieldLink RX9 33 "PatternGate" "markedBooks" "[LPatternGate$Book;", .fieldLink RX9 29 "PatternGate" "book" "LPatternGate$Book;", .fieldLink RX9 37 "PatternGate" "markedUndoable" "[I", .fieldLink RX9 117 "PatternGate" "undoable" "I", .code yX9_answer cX9_answer 2 (some .int), .fieldLink RX9 70 "PatternGate" "lastStatus" "I", .methodLink RX9 100 yX9_answer, .instanceMethod yX9_answer, .selects RX9 yX9_answer yX9_answer, .initialized RX9] ++ wsX90)
theorem fin_X9_mark_X9 : ∀ w ∈ wsX90, w ∈ mwX9_mark := fun w h => List.mem_cons_of_mem _ (List.mem_append_right _ h)
set_option maxRecDepth 20000 in
theorem mg_X9_mark_X9_answer_100 : GoodIn mwX9_mark (wsV RX9 100 RX9 yX9_answer mwX9_answer) := goodIn_r _ [8, 9, 10, 11, 6, 7, 12, 13, 14, 15, 16, 17, 18, 19, 20, 21, 22, 23, 24, 25, 26, 27] (by decide +kernel) (by decide +kernel)
set_option maxHeartbeats 4000000 in
set_option maxRecDepth 100000 in
/-- mark on a new object -/
theorem c_mark (l : Launch) (dC : Nat → ClassId) (dI : Nat → Nat → Nat) (x : Nat) (q : Nat → Nat) (b d0 p0 : Nat) (cT cD cP cB cU : ClassId) (r : Nat → Nat) (sz : Nat) : Met l yX9_mark mwX9_mark ({ frames := 1, cells := 0, slots := 0, locals := 60 }) (va_Pc [.ref x] (fun U => U.heap.size = sz ∧ va_P (dC, dI) vwCl (gW x q b d0 p0 cT cD cP cB cU r) U.heap ∧ va_K (dC, dI) vwCl (gT cT cD cP cB cU) U ∧ va_D (fun _ => True) (gW x q b d0 p0 cT cD cP cB cU r))) (va_Qi (fun (o : Int32) (_ : Unit) => o = 1) (fun _ _ => True) (va_A (gW x q b d0 p0 cT cD cP cB cU r) sz)) 0 0 (va_A (gW x q b d0 p0 cT cD cP cB cU r) sz) := by
  refine Met.ofW (cc := cX9_mark) (maxL := 1) (ret := (some .int)) (by decide +kernel) rfl ?_
  intro p e s m args below meth c s₁ B hml hv
  obtain ⟨rfl, hsz, hP, hK, hD0⟩ := hv
  have hx := B.exec
  have hb := B.bytes
  have hr := B.returns
  have hts := atoms_spec (ws := mwX9_mark) B.pre
  have hown : s.vm.findClass RX9 = some m.cls := findClass_of_methodNamed B.named
  have hlocks := B.notSynchronized
  subst hsz
  have hD := hD0.self (sz := s.heap.size)
  generalize hAe : va_A (gW x q b d0 p0 cT cD cP cB cU r) s.heap.size = A at hD ⊢
  have hA : ∀ q : Nat, s.heap.size ≤ q → A q := fun q h => by rw [← hAe]; exact Or.inr h
  have hP : va_P (dC, dI) vwCl [(x, .inr (9, gF q 0 0 (-1) (-1) b 0 0)), (q 0, .inl (cT, 900, .inl (fun _ => 0))), (b, .inr (0, [.ref d0, .ref p0, .null])), (d0, .inl (cD, 0, .inr (.inr (.inr (.inr (fun _ => none)))))), (p0, .inl (cP, 0, .inr (.inr (.inr (.inr (fun _ => none)))))), (q 1, .inl (cB, 3, .inr (.inr (.inr (.inr (fun _ => none)))))), (q 2, .inl (cU, 3, .inl (fun _ => 0))), (q 3, .inr (6, rF r 0 0 0 0 0 0 0 0))] s.heap := hP
  have hD : va_D A [(x, .inr (9, gF q 0 0 (-1) (-1) b 0 0)), (q 0, .inl (cT, 900, .inl (fun _ => 0))), (b, .inr (0, [.ref d0, .ref p0, .null])), (d0, .inl (cD, 0, .inr (.inr (.inr (.inr (fun _ => none)))))), (p0, .inl (cP, 0, .inr (.inr (.inr (.inr (fun _ => none)))))), (q 1, .inl (cB, 3, .inr (.inr (.inr (.inr (fun _ => none)))))), (q 2, .inl (cU, 3, .inl (fun _ => 0))), (q 3, .inr (6, rF r 0 0 0 0 0 0 0 0))] := hD
  have hK : va_K (dC, dI) vwCl [(cT, .int), (cD, .object "PatternGate$Doc"), (cP, .object "PatternGate$Pattern"), (cB, .object "PatternGate$Book"), (cU, .int)] s := hK
  generalize hH : s.heap = H at hP ⊢
  have hS : va_S A s.heap H [] := by rw [← hH]; exact va_S.rf
  have hl := lv_entry ([.ref x]) (n := 1) (Nat.le_of_ble_eq_true rfl)
  rw [lg_entry_eq]
  generalize (lg_sl ([.ref x]) ++ List.replicate (1 - (lg_sl ([.ref x])).length) Slot.unset).toArray = ls at hl ⊢
  have hl : lv_has ls 1 [(0, .ref x)] := hl
  refine lv_aload_n hx hb dX9_mark_0 rfl (lv_at hl 0 rfl) ?_
  refine va_get (D := (dC, dI)) (ci := 9) (v := .int 0) (C := RX9) (T := TX9) (N := 16) hx hb hts fin_X9_mark_X9 hown hK hP 0 rfl rfl 9 (by decide) (hts (.fieldLink RX9 120 "PatternGate" "marks" "I") (List.mem_of_getElem? (i := 1) (by decide +kernel))) (fun _ h9 => h9) rfl dX9_mark_1 ?_
  refine lv_iconst (v := 3) hx hb dX9_mark_4 (by decide) ?_
  refine lv_icmp_lt (tgt := 14) hx hb dX9_mark_5 (by decide) (fun k_1 => ?_) (fun k_1 => absurd (by decide) k_1)
  refine lv_aload_n hx hb dX9_mark_14 rfl (lv_at hl 0 rfl) ?_
  refine va_get (D := (dC, dI)) (ci := 9) (v := .ref (q 1)) (C := RX9) (T := TX9) (N := 16) hx hb hts fin_X9_mark_X9 hown hK hP 0 rfl rfl 7 (by decide) (hts (.fieldLink RX9 33 "PatternGate" "markedBooks" "[LPatternGate$Book;") (List.mem_of_getElem? (i := 2) (by decide +kernel))) (fun _ h9 => h9) rfl dX9_mark_15 ?_
  refine lv_aload_n hx hb dX9_mark_18 rfl (lv_at hl 0 rfl) ?_
  refine va_get (D := (dC, dI)) (ci := 9) (v := .int 0) (C := RX9) (T := TX9) (N := 16) hx hb hts fin_X9_mark_X9 hown hK hP 0 rfl rfl 9 (by decide) (hts (.fieldLink RX9 120 "PatternGate" "marks" "I") (List.mem_of_getElem? (i := 1) (by decide +kernel))) (fun _ h9 => h9) rfl dX9_mark_19 ?_
  refine lv_aload_n hx hb dX9_mark_22 rfl (lv_at hl 0 rfl) ?_
  refine va_get (D := (dC, dI)) (ci := 9) (v := .ref b) (C := RX9) (T := TX9) (N := 16) hx hb hts fin_X9_mark_X9 hown hK hP 0 rfl rfl 5 (by decide) (hts (.fieldLink RX9 29 "PatternGate" "book" "LPatternGate$Book;") (List.mem_of_getElem? (i := 3) (by decide +kernel))) (fun _ h9 => h9) rfl dX9_mark_23 ?_
  refine va_astq (r := (RX0, TX0, 3)) hx hb hK hP hD hS 5 3 2 0 rfl rfl rfl rfl (i := 0) (by unfold vp_in; decide +kernel) dX9_mark_26 (fun H locs hP hD hS => ?_)
  generalize hf_f_2 : va_up (fun _ => none) _ _ = f_2 at hP hD
  have hP : va_P (dC, dI) vwCl [(x, .inr (9, gF q 0 0 (-1) (-1) b 0 0)), (q 0, .inl (cT, 900, .inl (fun _ => 0))), (b, .inr (0, [.ref d0, .ref p0, .null])), (d0, .inl (cD, 0, .inr (.inr (.inr (.inr (fun _ => none)))))), (p0, .inl (cP, 0, .inr (.inr (.inr (.inr (fun _ => none)))))), (q 1, .inl (cB, 3, .inr (.inr (.inr (.inr f_2))))), (q 2, .inl (cU, 3, .inl (fun _ => 0))), (q 3, .inr (6, rF r 0 0 0 0 0 0 0 0))] H := hP
  have hD : va_D A [(x, .inr (9, gF q 0 0 (-1) (-1) b 0 0)), (q 0, .inl (cT, 900, .inl (fun _ => 0))), (b, .inr (0, [.ref d0, .ref p0, .null])), (d0, .inl (cD, 0, .inr (.inr (.inr (.inr (fun _ => none)))))), (p0, .inl (cP, 0, .inr (.inr (.inr (.inr (fun _ => none)))))), (q 1, .inl (cB, 3, .inr (.inr (.inr (.inr f_2))))), (q 2, .inl (cU, 3, .inl (fun _ => 0))), (q 3, .inr (6, rF r 0 0 0 0 0 0 0 0))] := hD
  refine lv_aload_n hx hb dX9_mark_27 rfl (lv_at hl 0 rfl) ?_
  refine va_get (D := (dC, dI)) (ci := 9) (v := .ref (q 2)) (C := RX9) (T := TX9) (N := 16) hx hb hts fin_X9_mark_X9 hown hK hP 0 rfl rfl 8 (by decide) (hts (.fieldLink RX9 37 "PatternGate" "markedUndoable" "[I") (List.mem_of_getElem? (i := 4) (by decide +kernel))) (fun _ h9 => h9) rfl dX9_mark_28 ?_
  refine lv_aload_n hx hb dX9_mark_31 rfl (lv_at hl 0 rfl) ?_
  refine va_get (D := (dC, dI)) (ci := 9) (v := .int 0) (C := RX9) (T := TX9) (N := 16) hx hb hts fin_X9_mark_X9 hown hK hP 0 rfl rfl 9 (by decide) (hts (.fieldLink RX9 120 "PatternGate" "marks" "I") (List.mem_of_getElem? (i := 1) (by decide +kernel))) (fun _ h9 => h9) rfl dX9_mark_32 ?_
  refine lv_aload_n hx hb dX9_mark_35 rfl (lv_at hl 0 rfl) ?_
  refine va_get (D := (dC, dI)) (ci := 9) (v := .int 0) (C := RX9) (T := TX9) (N := 16) hx hb hts fin_X9_mark_X9 hown hK hP 0 rfl rfl 6 (by decide) (hts (.fieldLink RX9 117 "PatternGate" "undoable" "I") (List.mem_of_getElem? (i := 5) (by decide +kernel))) (fun _ h9 => h9) rfl dX9_mark_36 ?_
  refine va_iast hx hb hK hP hD hS 6 4 rfl rfl (i := 0) (by unfold vp_in; decide +kernel) dX9_mark_39 (fun H locs hP hD hS => ?_)
  rw [zz_i] at hP hD
  have hP : va_P (dC, dI) vwCl [(x, .inr (9, gF q 0 0 (-1) (-1) b 0 0)), (q 0, .inl (cT, 900, .inl (fun _ => 0))), (b, .inr (0, [.ref d0, .ref p0, .null])), (d0, .inl (cD, 0, .inr (.inr (.inr (.inr (fun _ => none)))))), (p0, .inl (cP, 0, .inr (.inr (.inr (.inr (fun _ => none)))))), (q 1, .inl (cB, 3, .inr (.inr (.inr (.inr f_2))))), (q 2, .inl (cU, 3, .inl (fun _ => 0))), (q 3, .inr (6, rF r 0 0 0 0 0 0 0 0))] H := hP
  have hD : va_D A [(x, .inr (9, gF q 0 0 (-1) (-1) b 0 0)), (q 0, .inl (cT, 900, .inl (fun _ => 0))), (b, .inr (0, [.ref d0, .ref p0, .null])), (d0, .inl (cD, 0, .inr (.inr (.inr (.inr (fun _ => none)))))), (p0, .inl (cP, 0, .inr (.inr (.inr (.inr (fun _ => none)))))), (q 1, .inl (cB, 3, .inr (.inr (.inr (.inr f_2))))), (q 2, .inl (cU, 3, .inl (fun _ => 0))), (q 3, .inr (6, rF r 0 0 0 0 0 0 0 0))] := hD
  refine lv_aload_n hx hb dX9_mark_40 rfl (lv_at hl 0 rfl) ?_
  refine lv_dup hx hb dX9_mark_41 rfl ?_
  refine va_get (D := (dC, dI)) (ci := 9) (v := .int 0) (C := RX9) (T := TX9) (N := 16) hx hb hts fin_X9_mark_X9 hown hK hP 0 rfl rfl 9 (by decide) (hts (.fieldLink RX9 120 "PatternGate" "marks" "I") (List.mem_of_getElem? (i := 1) (by decide +kernel))) (fun _ h9 => h9) rfl dX9_mark_42 ?_
  refine lv_iconst (v := 1) hx hb dX9_mark_45 (by decide) ?_
  refine lv_iadd hx hb dX9_mark_46 ?_
  refine lv_topi (fun y_3 ey_3 => ?_)
  obtain rfl : y_3 = 1 := ey_3.trans (by first | rfl | decide)
  refine va_put (D := (dC, dI)) (ci := 9) (v := .int 1) (ty := .int) (C := RX9) (T := TX9) (N := 16) hx hb hts fin_X9_mark_X9 tyX9 tyX9_ok nmX9 hown hK hP hD hS 0 rfl rfl 9 (by decide) (hts (.fieldLink RX9 120 "PatternGate" "marks" "I") (List.mem_of_getElem? (i := 1) (by decide +kernel))) (fun _ h9 => h9) rfl (by decide +kernel) rfl rfl (Nat.le_of_ble_eq_true rfl) dX9_mark_47 (fun H locs hP hD hS => ?_)
  have hP : va_P (dC, dI) vwCl [(x, .inr (9, gF q 0 0 (-1) (-1) b 0 1)), (q 0, .inl (cT, 900, .inl (fun _ => 0))), (b, .inr (0, [.ref d0, .ref p0, .null])), (d0, .inl (cD, 0, .inr (.inr (.inr (.inr (fun _ => none)))))), (p0, .inl (cP, 0, .inr (.inr (.inr (.inr (fun _ => none)))))), (q 1, .inl (cB, 3, .inr (.inr (.inr (.inr f_2))))), (q 2, .inl (cU, 3, .inl (fun _ => 0))), (q 3, .inr (6, rF r 0 0 0 0 0 0 0 0))] H := hP
  have hD : va_D A [(x, .inr (9, gF q 0 0 (-1) (-1) b 0 1)), (q 0, .inl (cT, 900, .inl (fun _ => 0))), (b, .inr (0, [.ref d0, .ref p0, .null])), (d0, .inl (cD, 0, .inr (.inr (.inr (.inr (fun _ => none)))))), (p0, .inl (cP, 0, .inr (.inr (.inr (.inr (fun _ => none)))))), (q 1, .inl (cB, 3, .inr (.inr (.inr (.inr f_2))))), (q 2, .inl (cU, 3, .inl (fun _ => 0))), (q 3, .inr (6, rF r 0 0 0 0 0 0 0 0))] := hD
  refine lv_aload_n hx hb dX9_mark_50 rfl (lv_at hl 0 rfl) ?_
  refine lv_aload_n hx hb dX9_mark_51 rfl (lv_at hl 0 rfl) ?_
  refine va_get (D := (dC, dI)) (ci := 9) (v := .int 1) (C := RX9) (T := TX9) (N := 16) hx hb hts fin_X9_mark_X9 hown hK hP 0 rfl rfl 9 (by decide) (hts (.fieldLink RX9 120 "PatternGate" "marks" "I") (List.mem_of_getElem? (i := 1) (by decide +kernel))) (fun _ h9 => h9) rfl dX9_mark_52 ?_
  have hPc := hP.sub (ws' := [(x, .inr (9, gF q 0 0 (-1) (-1) b 0 1))]) [0] rfl
  have hKc := hK.sub (tys' := []) [] rfl
  have hDc := hD.sub (ws' := [(x, .inr (9, gF q 0 0 (-1) (-1) b 0 1))]) [0] (by decide) rfl
  have hFc := va_free (wc := [(x, .inr (9, gF q 0 0 (-1) (-1) b 0 1))]) hD hS hA [0] rfl
  refine va_calli (va_runV (As := [.int 1]) (rest := []) ⟨hx, hb, hml, hown, hts⟩ (c_answer l dC dI x q 0 0 (-1) (-1) b 0 1 H.size 1) (cwV 1 hts mg_X9_mark_X9_answer_100 rfl rfl rfl (by decide +kernel) ⟨Nat.le_of_ble_eq_true rfl, Nat.le_of_ble_eq_true rfl⟩) ⟨fun a U g mk q => by obtain ⟨q0, q1, qP, qK, qD⟩ := q; exact ⟨q0, q1, qP, va_K.moved (u := U) (U := U.calling g mk a) (Vm.Alike.refl U.vm) qK, qD⟩, va_recv hKc hPc (ci := 9) (q0 := 0) rfl rfl, fun U hU hW => ⟨rfl, by rw [hU], by rw [hU]; exact hPc, va_K.moved hW.alike hKc, hDc.weaken (fun _ _ _ _ => trivial)⟩⟩ rfl rfl hl.1 rfl (lv_room (Nat.le_of_ble_eq_true rfl)) dX9_mark_55 ⟨Nat.le_of_ble_eq_true rfl, Nat.le_of_ble_eq_true rfl⟩) hS (fun q _ h => hFc q h) hFc (fun r_5 u t H1 locs ht hvm hw hB hz1 hk1 hS => ?_)
  exact W.iret hx hb hr (fun t ht hW => ⟨⟨_, (), rfl, hw, trivial⟩, hS.F ht⟩) hS.2.2 dX9_mark_58
theorem dX9_many_0 : decode cX9_many 0 = .ok (.iload_n 1, 1) := by decide +kernel
theorem dX9_many_1 : decode cX9_many 1 = .ok (.tableswitch 107 0 5 #[39, 52, 65, 77, 89, 98], 39) := by decide +kernel
theorem dX9_many_40 : decode cX9_many 40 = .ok (.aload_n 0, 1) := by decide +kernel
theorem dX9_many_41 : decode cX9_many 41 = .ok (.aload_n 0, 1) := by decide +kernel
theorem dX9_many_42 : decode cX9_many 42 = .ok (.getfield 29, 3) := by decide +kernel
theorem dX9_many_45 : decode cX9_many 45 = .ok (.getfield 96, 3) := by decide +kernel
theorem dX9_many_48 : decode cX9_many 48 = .ok (.arraylength, 1) := by decide +kernel
theorem dX9_many_49 : decode cX9_many 49 = .ok (.invokevirtual 100, 3) := by decide +kernel
theorem dX9_many_52 : decode cX9_many 52 = .ok (.ireturn, 1) := by decide +kernel
theorem dX9_many_53 : decode cX9_many 53 = .ok (.aload_n 0, 1) := by decide +kernel
theorem dX9_many_54 : decode cX9_many 54 = .ok (.aload_n 0, 1) := by decide +kernel
theorem dX9_many_55 : decode cX9_many 55 = .ok (.getfield 29, 3) := by decide +kernel
theorem dX9_many_58 : decode cX9_many 58 = .ok (.getfield 103, 3) := by decide +kernel
theorem dX9_many_61 : decode cX9_many 61 = .ok (.arraylength, 1) := by decide +kernel
theorem dX9_many_62 : decode cX9_many 62 = .ok (.invokevirtual 100, 3) := by decide +kernel
theorem dX9_many_65 : decode cX9_many 65 = .ok (.ireturn, 1) := by decide +kernel
theorem dX9_many_66 : decode cX9_many 66 = .ok (.aload_n 0, 1) := by decide +kernel
theorem dX9_many_67 : decode cX9_many 67 = .ok (.aload_n 0, 1) := by decide +kernel
theorem dX9_many_68 : decode cX9_many 68 = .ok (.getfield 29, 3) := by decide +kernel
theorem dX9_many_71 : decode cX9_many 71 = .ok (.invokevirtual 110, 3) := by decide +kernel
theorem dX9_many_74 : decode cX9_many 74 = .ok (.invokevirtual 100, 3) := by decide +kernel
theorem dX9_many_77 : decode cX9_many 77 = .ok (.ireturn, 1) := by decide +kernel
theorem dX9_many_78 : decode cX9_many 78 = .ok (.aload_n 0, 1) := by decide +kernel
theorem dX9_many_79 : decode cX9_many 79 = .ok (.aload_n 0, 1) := by decide +kernel
theorem dX9_many_80 : decode cX9_many 80 = .ok (.getfield 29, 3) := by decide +kernel
theorem dX9_many_83 : decode cX9_many 83 = .ok (.invokevirtual 114, 3) := by decide +kernel
theorem dX9_many_86 : decode cX9_many 86 = .ok (.invokevirtual 100, 3) := by decide +kernel
theorem dX9_many_89 : decode cX9_many 89 = .ok (.ireturn, 1) := by decide +kernel
theorem dX9_many_90 : decode cX9_many 90 = .ok (.aload_n 0, 1) := by decide +kernel
theorem dX9_many_91 : decode cX9_many 91 = .ok (.aload_n 0, 1) := by decide +kernel
theorem dX9_many_92 : decode cX9_many 92 = .ok (.getfield 117, 3) := by decide +kernel
theorem dX9_many_95 : decode cX9_many 95 = .ok (.invokevirtual 100, 3) := by decide +kernel
theorem dX9_many_98 : decode cX9_many 98 = .ok (.ireturn, 1) := by decide +kernel
theorem dX9_many_99 : decode cX9_many 99 = .ok (.aload_n 0, 1) := by decide +kernel
theorem dX9_many_100 : decode cX9_many 100 = .ok (.aload_n 0, 1) := by decide +kernel
theorem dX9_many_101 : decode cX9_many 101 = .ok (.getfield 120, 3) := by decide +kernel
theorem dX9_many_104 : decode cX9_many 104 = .ok (.invokevirtual 100, 3) := by decide +kernel
theorem dX9_many_107 : decode cX9_many 107 = .ok (.ireturn, 1) := by decide +kernel
theorem dX9_many_108 : decode cX9_many 108 = .ok (.aload_n 0, 1) := by decide +kernel
theorem dX9_many_109 : decode cX9_many 109 = .ok (.iconst 1, 1) := by decide +kernel
theorem dX9_many_110 : decode cX9_many 110 = .ok (.invokevirtual 80, 3) := by decide +kernel
theorem dX9_many_113 : decode cX9_many 113 = .ok (.ireturn, 1) := by decide +kernel
def mwX9_many : List Cond := .code yX9_many cX9_many 2 (some .int) :: ([.code yX9_refuse cX9_refuse 2 (some .int), .fieldLink RX9 70 "PatternGate" "lastStatus" "I", .methodLink RX9 80 yX9_refuse, .instanceMethod yX9_refuse, .selects RX9 yX9_refuse yX9_refuse, .initialized RX9, .fieldLink RX9 29 "PatternGate" "book" "LPatternGate$Book;", .fieldLink RX9 96 "PatternGate$Book" "docs" "[LPatternGate$Doc;", .code yX9_answer cX9_answer 2 (some .int), .methodLink RX9 100 yX9_answer, .instanceMethod yX9_answer, .selects RX9 yX9_answer yX9_answer, .fieldLink RX9 103 "PatternGate$Book" "patterns" "[LPatternGate$Pattern;", .code yX0_allLetters cX0_allLetters 3 (some .int), .fieldLink RX0 7 "PatternGate$Book" "docs" "[LPatternGate$Doc;", .methodLink RX9 110 yX0_allLetters, .instanceMethod yX0_allLetters, .selects RX0 yX0_allLetters yX0_allLetters, .initialized RX0, .code yX0_allTriples cX0_allTriples 5 (some .int), .methodLink RX9 114 yX0_allTriples, .instanceMethod yX0_allTriples, .selects RX0 yX0_allTriples yX0_allTriples, .fieldLink RX9 117 "PatternGate" "undoable" "I", .fieldLink RX9 120 "PatternGate" "marks" "I"] ++ wsX90 ++ wsX00)
theorem fin_X9_many_X0 : ∀ w ∈ wsX00, w ∈ mwX9_many := fun w h => List.mem_cons_of_mem _ (List.mem_append_right _ h)
theorem fin_X9_many_X9 : ∀ w ∈ wsX90, w ∈ mwX9_many := fun w h => List.mem_cons_of_mem _ (List.mem_append_left _ (List.mem_append_right _ h))
set_option maxRecDepth 20000 in
theorem mg_X9_many_X9_refuse_80 : GoodIn mwX9_many (wsV RX9 80 RX9 yX9_refuse mwX9_refuse) := goodIn_r _ [3, 4, 5, 6, 1, 2, 26, 27, 28, 29, 30, 31, 32, 33, 34, 35, 36, 37, 38, 39, 40, 41] (by decide +kernel) (by decide +kernel)
set_option maxRecDepth 20000 in
theorem mg_X9_many_X9_answer_100 : GoodIn mwX9_many (wsV RX9 100 RX9 yX9_answer mwX9_answer) := goodIn_r _ [10, 11, 12, 6, 9, 2, 26, 27, 28, 29, 30, 31, 32, 33, 34, 35, 36, 37, 38, 39, 40, 41] (by decide +kernel) (by decide +kernel)
set_option maxRecDepth 20000 in
theorem mg_X9_many_X0_allLetters_110 : GoodIn mwX9_many (wsV RX9 110 RX0 yX0_allLetters mwX0_allLetters) := goodIn_r _ [16, 17, 18, 19, 14, 15, 42, 43, 44] (by decide +kernel) (by decide +kernel)
set_option maxRecDepth 20000 in
theorem mg_X9_many_X0_allTriples_114 : GoodIn mwX9_many (wsV RX9 114 RX0 yX0_allTriples mwX0_allTriples) := goodIn_r _ [21, 22, 23, 19, 20, 15, 42, 43, 44] (by decide +kernel) (by decide +kernel)
set_option maxHeartbeats 4000000 in
set_option maxRecDepth 100000 in
/-- many on a new object -/
theorem c_many (l : Launch) (dC : Nat → ClassId) (dI : Nat → Nat → Nat) (x : Nat) (q : Nat → Nat) (b d0 p0 : Nat) (cT cD cP cB cU : ClassId) (r : Nat → Nat) (sz : Nat) (i0 : Int32) : Met l yX9_many mwX9_many ({ frames := 1, cells := 0, slots := 0, locals := 60 }) (va_Pc [.ref x, .int i0] (fun U => U.heap.size = sz ∧ va_P (dC, dI) vwCl (gW x q b d0 p0 cT cD cP cB cU r) U.heap ∧ va_K (dC, dI) vwCl (gT cT cD cP cB cU) U ∧ va_D (fun _ => True) (gW x q b d0 p0 cT cD cP cB cU r))) (va_Qi (fun (o : Int32) (_ : Unit) => o = s_many i0) (fun _ _ => True) (va_A (gW x q b d0 p0 cT cD cP cB cU r) sz)) 0 0 (va_A (gW x q b d0 p0 cT cD cP cB cU r) sz) := by
  refine Met.ofW (cc := cX9_many) (maxL := 2) (ret := (some .int)) (by decide +kernel) rfl ?_
  intro p e s m args below meth c s₁ B hml hv
  obtain ⟨rfl, hsz, hP, hK, hD0⟩ := hv
  have hx := B.exec
  have hb := B.bytes
  have hr := B.returns
  have hts := atoms_spec (ws := mwX9_many) B.pre
  have hown : s.vm.findClass RX9 = some m.cls := findClass_of_methodNamed B.named
  have hlocks := B.notSynchronized
  subst hsz
  have hD := hD0.self (sz := s.heap.size)
  generalize hAe : va_A (gW x q b d0 p0 cT cD cP cB cU r) s.heap.size = A at hD ⊢
  have hA : ∀ q : Nat, s.heap.size ≤ q → A q := fun q h => by rw [← hAe]; exact Or.inr h
  have hP : va_P (dC, dI) vwCl [(x, .inr (9, gF q 0 0 (-1) (-1) b 0 0)), (q 0, .inl (cT, 900, .inl (fun _ => 0))), (b, .inr (0, [.ref d0, .ref p0, .null])), (d0, .inl (cD, 0, .inr (.inr (.inr (.inr (fun _ => none)))))), (p0, .inl (cP, 0, .inr (.inr (.inr (.inr (fun _ => none)))))), (q 1, .inl (cB, 3, .inr (.inr (.inr (.inr (fun _ => none)))))), (q 2, .inl (cU, 3, .inl (fun _ => 0))), (q 3, .inr (6, rF r 0 0 0 0 0 0 0 0))] s.heap := hP
  have hD : va_D A [(x, .inr (9, gF q 0 0 (-1) (-1) b 0 0)), (q 0, .inl (cT, 900, .inl (fun _ => 0))), (b, .inr (0, [.ref d0, .ref p0, .null])), (d0, .inl (cD, 0, .inr (.inr (.inr (.inr (fun _ => none)))))), (p0, .inl (cP, 0, .inr (.inr (.inr (.inr (fun _ => none)))))), (q 1, .inl (cB, 3, .inr (.inr (.inr (.inr (fun _ => none)))))), (q 2, .inl (cU, 3, .inl (fun _ => 0))), (q 3, .inr (6, rF r 0 0 0 0 0 0 0 0))] := hD
  have hK : va_K (dC, dI) vwCl [(cT, .int), (cD, .object "PatternGate$Doc"), (cP, .object "PatternGate$Pattern"), (cB, .object "PatternGate$Book"), (cU, .int)] s := hK
  generalize hH : s.heap = H at hP ⊢
  have hS : va_S A s.heap H [] := by rw [← hH]; exact va_S.rf
  have hl := lv_entry ([.ref x, .int i0]) (n := 2) (Nat.le_of_ble_eq_true rfl)
  rw [lg_entry_eq]
  generalize (lg_sl ([.ref x, .int i0]) ++ List.replicate (2 - (lg_sl ([.ref x, .int i0])).length) Slot.unset).toArray = ls at hl ⊢
  have hl : lv_has ls 2 [(0, .ref x), (1, .int i0)] := hl
  refine lv_iload_n hx hb dX9_many_0 rfl (lv_at hl 1 rfl) ?_
  by_cases hA1 : i0.toInt < 0 ∨ 5 < i0.toInt
  · refine lv_tableOut (tgt := 108) hx hb dX9_many_1 hA1 (by decide) ?_
    refine lv_aload_n hx hb dX9_many_108 rfl (lv_at hl 0 rfl) ?_
    refine lv_iconst (v := 1) hx hb dX9_many_109 (by decide) ?_
    have hPc := hP.sub (ws' := [(x, .inr (9, gF q 0 0 (-1) (-1) b 0 0))]) [0] rfl
    have hKc := hK.sub (tys' := []) [] rfl
    have hDc := hD.sub (ws' := [(x, .inr (9, gF q 0 0 (-1) (-1) b 0 0))]) [0] (by decide) rfl
    have hFc := va_free (wc := [(x, .inr (9, gF q 0 0 (-1) (-1) b 0 0))]) hD hS hA [0] rfl
    refine va_calli (va_runV (As := [.int 1]) (rest := []) ⟨hx, hb, hml, hown, hts⟩ (c_refuse l dC dI x q 0 0 (-1) (-1) b 0 0 H.size 1) (cwV 1 hts mg_X9_many_X9_refuse_80 rfl rfl rfl (by decide +kernel) ⟨Nat.le_of_ble_eq_true rfl, Nat.le_of_ble_eq_true rfl⟩) ⟨fun a U g mk q => by obtain ⟨q0, q1, qP, qK, qD⟩ := q; exact ⟨q0, q1, qP, va_K.moved (u := U) (U := U.calling g mk a) (Vm.Alike.refl U.vm) qK, qD⟩, va_recv hKc hPc (ci := 9) (q0 := 0) rfl rfl, fun U hU hW => ⟨rfl, by rw [hU], by rw [hU]; exact hPc, va_K.moved hW.alike hKc, hDc.weaken (fun _ _ _ _ => trivial)⟩⟩ rfl rfl hl.1 rfl (lv_room (Nat.le_of_ble_eq_true rfl)) dX9_many_110 ⟨Nat.le_of_ble_eq_true rfl, Nat.le_of_ble_eq_true rfl⟩) hS (fun q _ h => hFc q h) hFc (fun r_2 u t H1 locs ht hvm hw hB hz1 hk1 hS => ?_)
    exact W.iret hx hb hr (fun t ht hW => ⟨⟨_, (), rfl, (hw.trans (if_pos hA1).symm), trivial⟩, hS.F ht⟩) hS.2.2 dX9_many_113
  · have hA2 : ¬ i0.toInt < 0 := fun h => hA1 (Or.inl h)
    have hA3 : ¬ 5 < i0.toInt := fun h => hA1 (Or.inr h)
    rcases (show i0.toInt = 0 ∨ i0.toInt = 1 ∨ i0.toInt = 2 ∨ i0.toInt = 3 ∨ i0.toInt = 4 ∨ i0.toInt = 5 by omega) with hA4 | hA4 | hA4 | hA4 | hA4 | hA4
    · refine lv_tableIn (off := 39) (tgt := 40) hx hb dX9_many_1 hA2 hA3 (by rw [hA4]; rfl) (by decide) ?_
      refine lv_aload_n hx hb dX9_many_40 rfl (lv_at hl 0 rfl) ?_
      refine lv_aload_n hx hb dX9_many_41 rfl (lv_at hl 0 rfl) ?_
      refine va_get (D := (dC, dI)) (ci := 9) (v := .ref b) (C := RX9) (T := TX9) (N := 16) hx hb hts fin_X9_many_X9 hown hK hP 0 rfl rfl 5 (by decide) (hts (.fieldLink RX9 29 "PatternGate" "book" "LPatternGate$Book;") (List.mem_of_getElem? (i := 7) (by decide +kernel))) (fun _ h9 => h9) rfl dX9_many_42 ?_
      refine va_get (D := (dC, dI)) (ci := 0) (v := .ref d0) (C := RX0) (T := TX0) (N := 3) hx hb hts fin_X9_many_X0 hown hK hP 2 rfl rfl 0 (by decide) (hts (.fieldLink RX9 96 "PatternGate$Book" "docs" "[LPatternGate$Doc;") (List.mem_of_getElem? (i := 8) (by decide +kernel))) (fun _ h9 => h9) rfl dX9_many_45 ?_
      refine va_alen (v := 0) hx hb hK hP 3 1 rfl rfl rfl dX9_many_48 ?_
      have hPc := hP.sub (ws' := [(x, .inr (9, gF q 0 0 (-1) (-1) b 0 0))]) [0] rfl
      have hKc := hK.sub (tys' := []) [] rfl
      have hDc := hD.sub (ws' := [(x, .inr (9, gF q 0 0 (-1) (-1) b 0 0))]) [0] (by decide) rfl
      have hFc := va_free (wc := [(x, .inr (9, gF q 0 0 (-1) (-1) b 0 0))]) hD hS hA [0] rfl
      refine va_calli (va_runV (As := [.int 0]) (rest := []) ⟨hx, hb, hml, hown, hts⟩ (c_answer l dC dI x q 0 0 (-1) (-1) b 0 0 H.size 0) (cwV 1 hts mg_X9_many_X9_answer_100 rfl rfl rfl (by decide +kernel) ⟨Nat.le_of_ble_eq_true rfl, Nat.le_of_ble_eq_true rfl⟩) ⟨fun a U g mk q => by obtain ⟨q0, q1, qP, qK, qD⟩ := q; exact ⟨q0, q1, qP, va_K.moved (u := U) (U := U.calling g mk a) (Vm.Alike.refl U.vm) qK, qD⟩, va_recv hKc hPc (ci := 9) (q0 := 0) rfl rfl, fun U hU hW => ⟨rfl, by rw [hU], by rw [hU]; exact hPc, va_K.moved hW.alike hKc, hDc.weaken (fun _ _ _ _ => trivial)⟩⟩ rfl rfl hl.1 rfl (lv_room (Nat.le_of_ble_eq_true rfl)) dX9_many_49 ⟨Nat.le_of_ble_eq_true rfl, Nat.le_of_ble_eq_true rfl⟩) hS (fun q _ h => hFc q h) hFc (fun r_4 u t H1 locs ht hvm hw hB hz1 hk1 hS => ?_)
      exact W.iret hx hb hr (fun t ht hW => ⟨⟨_, (), rfl, (hw.trans (if_neg hA1).symm), trivial⟩, hS.F ht⟩) hS.2.2 dX9_many_52
    · refine lv_tableIn (off := 52) (tgt := 53) hx hb dX9_many_1 hA2 hA3 (by rw [hA4]; rfl) (by decide) ?_
      refine lv_aload_n hx hb dX9_many_53 rfl (lv_at hl 0 rfl) ?_
      refine lv_aload_n hx hb dX9_many_54 rfl (lv_at hl 0 rfl) ?_
      refine va_get (D := (dC, dI)) (ci := 9) (v := .ref b) (C := RX9) (T := TX9) (N := 16) hx hb hts fin_X9_many_X9 hown hK hP 0 rfl rfl 5 (by decide) (hts (.fieldLink RX9 29 "PatternGate" "book" "LPatternGate$Book;") (List.mem_of_getElem? (i := 7) (by decide +kernel))) (fun _ h9 => h9) rfl dX9_many_55 ?_
      refine va_get (D := (dC, dI)) (ci := 0) (v := .ref p0) (C := RX0) (T := TX0) (N := 3) hx hb hts fin_X9_many_X0 hown hK hP 2 rfl rfl 1 (by decide) (hts (.fieldLink RX9 103 "PatternGate$Book" "patterns" "[LPatternGate$Pattern;") (List.mem_of_getElem? (i := 13) (by decide +kernel))) (fun _ h9 => h9) rfl dX9_many_58 ?_
      refine va_alen (v := 0) hx hb hK hP 4 2 rfl rfl rfl dX9_many_61 ?_
      have hPc := hP.sub (ws' := [(x, .inr (9, gF q 0 0 (-1) (-1) b 0 0))]) [0] rfl
      have hKc := hK.sub (tys' := []) [] rfl
      have hDc := hD.sub (ws' := [(x, .inr (9, gF q 0 0 (-1) (-1) b 0 0))]) [0] (by decide) rfl
      have hFc := va_free (wc := [(x, .inr (9, gF q 0 0 (-1) (-1) b 0 0))]) hD hS hA [0] rfl
      refine va_calli (va_runV (As := [.int 0]) (rest := []) ⟨hx, hb, hml, hown, hts⟩ (c_answer l dC dI x q 0 0 (-1) (-1) b 0 0 H.size 0) (cwV 1 hts mg_X9_many_X9_answer_100 rfl rfl rfl (by decide +kernel) ⟨Nat.le_of_ble_eq_true rfl, Nat.le_of_ble_eq_true rfl⟩) ⟨fun a U g mk q => by obtain ⟨q0, q1, qP, qK, qD⟩ := q; exact ⟨q0, q1, qP, va_K.moved (u := U) (U := U.calling g mk a) (Vm.Alike.refl U.vm) qK, qD⟩, va_recv hKc hPc (ci := 9) (q0 := 0) rfl rfl, fun U hU hW => ⟨rfl, by rw [hU], by rw [hU]; exact hPc, va_K.moved hW.alike hKc, hDc.weaken (fun _ _ _ _ => trivial)⟩⟩ rfl rfl hl.1 rfl (lv_room (Nat.le_of_ble_eq_true rfl)) dX9_many_62 ⟨Nat.le_of_ble_eq_true rfl, Nat.le_of_ble_eq_true rfl⟩) hS (fun q _ h => hFc q h) hFc (fun r_6 u t H1 locs ht hvm hw hB hz1 hk1 hS => ?_)
      exact W.iret hx hb hr (fun t ht hW => ⟨⟨_, (), rfl, (hw.trans (if_neg hA1).symm), trivial⟩, hS.F ht⟩) hS.2.2 dX9_many_65
    · refine lv_tableIn (off := 65) (tgt := 66) hx hb dX9_many_1 hA2 hA3 (by rw [hA4]; rfl) (by decide) ?_
      refine lv_aload_n hx hb dX9_many_66 rfl (lv_at hl 0 rfl) ?_
      refine lv_aload_n hx hb dX9_many_67 rfl (lv_at hl 0 rfl) ?_
      refine va_get (D := (dC, dI)) (ci := 9) (v := .ref b) (C := RX9) (T := TX9) (N := 16) hx hb hts fin_X9_many_X9 hown hK hP 0 rfl rfl 5 (by decide) (hts (.fieldLink RX9 29 "PatternGate" "book" "LPatternGate$Book;") (List.mem_of_getElem? (i := 7) (by decide +kernel))) (fun _ h9 => h9) rfl dX9_many_68 ?_
      have hPc := hP.sub (ws' := [(b, .inr (0, [.ref d0, .ref p0, .null])), (d0, .inl (cD, 0, .inr (.inr (.inr (.inr (fun _ => none)))))), (p0, .inl (cP, 0, .inr (.inr (.inr (.inr (fun _ => none))))))]) [2, 3, 4] rfl
      have hKc := hK.sub (tys' := [(cD, .object "PatternGate$Doc"), (cP, .object "PatternGate$Pattern")]) [1, 2] rfl
      refine vp_callSi (W.runV (As := []) (rest := [.ref x]) ⟨hx, hb, hml, hown, hts⟩ (c_allLetters l dC dI b d0 p0 cD cP) (cwV 0 hts mg_X9_many_X0_allLetters_110 rfl rfl rfl (by decide +kernel) ⟨Nat.le_of_ble_eq_true rfl, Nat.le_of_ble_eq_true rfl⟩) ⟨fun a U g mk q => by obtain ⟨q0, qP, qK⟩ := q; exact ⟨q0, qP, va_K.moved (u := U) (U := U.calling g mk a) (Vm.Alike.refl U.vm) qK⟩, va_recv hKc hPc (ci := 0) (q0 := 0) rfl rfl, fun U hU hW => ⟨rfl, by rw [hU]; exact hPc, va_K.moved hW.alike hKc⟩⟩ rfl rfl hl.1 rfl (lv_room (Nat.le_of_ble_eq_true rfl)) dX9_many_71 ⟨Nat.le_of_ble_eq_true rfl, Nat.le_of_ble_eq_true rfl⟩) (fun r_8 hw => ?_)
      subst hw
      have hPc := hP.sub (ws' := [(x, .inr (9, gF q 0 0 (-1) (-1) b 0 0))]) [0] rfl
      have hKc := hK.sub (tys' := []) [] rfl
      have hDc := hD.sub (ws' := [(x, .inr (9, gF q 0 0 (-1) (-1) b 0 0))]) [0] (by decide) rfl
      have hFc := va_free (wc := [(x, .inr (9, gF q 0 0 (-1) (-1) b 0 0))]) hD hS hA [0] rfl
      refine va_calli (va_runV (As := [.int 0]) (rest := []) ⟨hx, hb, hml, hown, hts⟩ (c_answer l dC dI x q 0 0 (-1) (-1) b 0 0 H.size 0) (cwV 1 hts mg_X9_many_X9_answer_100 rfl rfl rfl (by decide +kernel) ⟨Nat.le_of_ble_eq_true rfl, Nat.le_of_ble_eq_true rfl⟩) ⟨fun a U g mk q => by obtain ⟨q0, q1, qP, qK, qD⟩ := q; exact ⟨q0, q1, qP, va_K.moved (u := U) (U := U.calling g mk a) (Vm.Alike.refl U.vm) qK, qD⟩, va_recv hKc hPc (ci := 9) (q0 := 0) rfl rfl, fun U hU hW => ⟨rfl, by rw [hU], by rw [hU]; exact hPc, va_K.moved hW.alike hKc, hDc.weaken (fun _ _ _ _ => trivial)⟩⟩ rfl rfl hl.1 rfl (lv_room (Nat.le_of_ble_eq_true rfl)) dX9_many_74 ⟨Nat.le_of_ble_eq_true rfl, Nat.le_of_ble_eq_true rfl⟩) hS (fun q _ h => hFc q h) hFc (fun r_10 u t H1 locs ht hvm hw hB hz1 hk1 hS => ?_)
      exact W.iret hx hb hr (fun t ht hW => ⟨⟨_, (), rfl, (hw.trans (if_neg hA1).symm), trivial⟩, hS.F ht⟩) hS.2.2 dX9_many_77
    · refine lv_tableIn (off := 77) (tgt := 78) hx hb dX9_many_1 hA2 hA3 (by rw [hA4]; rfl) (by decide) ?_
      refine lv_aload_n hx hb dX9_many_78 rfl (lv_at hl 0 rfl) ?_
      refine lv_aload_n hx hb dX9_many_79 rfl (lv_at hl 0 rfl) ?_
      refine va_get (D := (dC, dI)) (ci := 9) (v := .ref b) (C := RX9) (T := TX9) (N := 16) hx hb hts fin_X9_many_X9 hown hK hP 0 rfl rfl 5 (by decide) (hts (.fieldLink RX9 29 "PatternGate" "book" "LPatternGate$Book;") (List.mem_of_getElem? (i := 7) (by decide +kernel))) (fun _ h9 => h9) rfl dX9_many_80 ?_
      have hPc := hP.sub (ws' := [(b, .inr (0, [.ref d0, .ref p0, .null])), (d0, .inl (cD, 0, .inr (.inr (.inr (.inr (fun _ => none)))))), (p0, .inl (cP, 0, .inr (.inr (.inr (.inr (fun _ => none))))))]) [2, 3, 4] rfl
      have hKc := hK.sub (tys' := [(cD, .object "PatternGate$Doc"), (cP, .object "PatternGate$Pattern")]) [1, 2] rfl
      refine vp_callSi (W.runV (As := []) (rest := [.ref x]) ⟨hx, hb, hml, hown, hts⟩ (c_allTriples l dC dI b d0 p0 cD cP) (cwV 0 hts mg_X9_many_X0_allTriples_114 rfl rfl rfl (by decide +kernel) ⟨Nat.le_of_ble_eq_true rfl, Nat.le_of_ble_eq_true rfl⟩) ⟨fun a U g mk q => by obtain ⟨q0, qP, qK⟩ := q; exact ⟨q0, qP, va_K.moved (u := U) (U := U.calling g mk a) (Vm.Alike.refl U.vm) qK⟩, va_recv hKc hPc (ci := 0) (q0 := 0) rfl rfl, fun U hU hW => ⟨rfl, by rw [hU]; exact hPc, va_K.moved hW.alike hKc⟩⟩ rfl rfl hl.1 rfl (lv_room (Nat.le_of_ble_eq_true rfl)) dX9_many_83 ⟨Nat.le_of_ble_eq_true rfl, Nat.le_of_ble_eq_true rfl⟩) (fun r_12 hw => ?_)
      subst hw
      have hPc := hP.sub (ws' := [(x, .inr (9, gF q 0 0 (-1) (-1) b 0 0))]) [0] rfl
      have hKc := hK.sub (tys' := []) [] rfl
      have hDc := hD.sub (ws' := [(x, .inr (9, gF q 0 0 (-1) (-1) b 0 0))]) [0] (by decide) rfl
      have hFc := va_free (wc := [(x, .inr (9, gF q 0 0 (-1) (-1) b 0 0))]) hD hS hA [0] rfl
      refine va_calli (va_runV (As := [.int 0]) (rest := []) ⟨hx, hb, hml, hown, hts⟩ (c_answer l dC dI x q 0 0 (-1) (-1) b 0 0 H.size 0) (cwV 1 hts mg_X9_many_X9_answer_100 rfl rfl rfl (by decide +kernel) ⟨Nat.le_of_ble_eq_true rfl, Nat.le_of_ble_eq_true rfl⟩) ⟨fun a U g mk q => by obtain ⟨q0, q1, qP, qK, qD⟩ := q; exact ⟨q0, q1, qP, va_K.moved (u := U) (U := U.calling g mk a) (Vm.Alike.refl U.vm) qK, qD⟩, va_recv hKc hPc (ci := 9) (q0 := 0) rfl rfl, fun U hU hW => ⟨rfl, by rw [hU], by rw [hU]; exact hPc, va_K.moved hW.alike hKc, hDc.weaken (fun _ _ _ _ => trivial)⟩⟩ rfl rfl hl.1 rfl (lv_room (Nat.le_of_ble_eq_true rfl)) dX9_many_86 ⟨Nat.le_of_ble_eq_true rfl, Nat.le_of_ble_eq_true rfl⟩) hS (fun q _ h => hFc q h) hFc (fun r_14 u t H1 locs ht hvm hw hB hz1 hk1 hS => ?_)
      exact W.iret hx hb hr (fun t ht hW => ⟨⟨_, (), rfl, (hw.trans (if_neg hA1).symm), trivial⟩, hS.F ht⟩) hS.2.2 dX9_many_89
    · refine lv_tableIn (off := 89) (tgt := 90) hx hb dX9_many_1 hA2 hA3 (by rw [hA4]; rfl) (by decide) ?_
      refine lv_aload_n hx hb dX9_many_90 rfl (lv_at hl 0 rfl) ?_
      refine lv_aload_n hx hb dX9_many_91 rfl (lv_at hl 0 rfl) ?_
      refine va_get (D := (dC, dI)) (ci := 9) (v := .int 0) (C := RX9) (T := TX9) (N := 16) hx hb hts fin_X9_many_X9 hown hK hP 0 rfl rfl 6 (by decide) (hts (.fieldLink RX9 117 "PatternGate" "undoable" "I") (List.mem_of_getElem? (i := 24) (by decide +kernel))) (fun _ h9 => h9) rfl dX9_many_92 ?_
      have hPc := hP.sub (ws' := [(x, .inr (9, gF q 0 0 (-1) (-1) b 0 0))]) [0] rfl
      have hKc := hK.sub (tys' := []) [] rfl
      have hDc := hD.sub (ws' := [(x, .inr (9, gF q 0 0 (-1) (-1) b 0 0))]) [0] (by decide) rfl
      have hFc := va_free (wc := [(x, .inr (9, gF q 0 0 (-1) (-1) b 0 0))]) hD hS hA [0] rfl
      refine va_calli (va_runV (As := [.int 0]) (rest := []) ⟨hx, hb, hml, hown, hts⟩ (c_answer l dC dI x q 0 0 (-1) (-1) b 0 0 H.size 0) (cwV 1 hts mg_X9_many_X9_answer_100 rfl rfl rfl (by decide +kernel) ⟨Nat.le_of_ble_eq_true rfl, Nat.le_of_ble_eq_true rfl⟩) ⟨fun a U g mk q => by obtain ⟨q0, q1, qP, qK, qD⟩ := q; exact ⟨q0, q1, qP, va_K.moved (u := U) (U := U.calling g mk a) (Vm.Alike.refl U.vm) qK, qD⟩, va_recv hKc hPc (ci := 9) (q0 := 0) rfl rfl, fun U hU hW => ⟨rfl, by rw [hU], by rw [hU]; exact hPc, va_K.moved hW.alike hKc, hDc.weaken (fun _ _ _ _ => trivial)⟩⟩ rfl rfl hl.1 rfl (lv_room (Nat.le_of_ble_eq_true rfl)) dX9_many_95 ⟨Nat.le_of_ble_eq_true rfl, Nat.le_of_ble_eq_true rfl⟩) hS (fun q _ h => hFc q h) hFc (fun r_16 u t H1 locs ht hvm hw hB hz1 hk1 hS => ?_)
      exact W.iret hx hb hr (fun t ht hW => ⟨⟨_, (), rfl, (hw.trans (if_neg hA1).symm), trivial⟩, hS.F ht⟩) hS.2.2 dX9_many_98
    · refine lv_tableIn (off := 98) (tgt := 99) hx hb dX9_many_1 hA2 hA3 (by rw [hA4]; rfl) (by decide) ?_
      refine lv_aload_n hx hb dX9_many_99 rfl (lv_at hl 0 rfl) ?_
      refine lv_aload_n hx hb dX9_many_100 rfl (lv_at hl 0 rfl) ?_
      refine va_get (D := (dC, dI)) (ci := 9) (v := .int 0) (C := RX9) (T := TX9) (N := 16) hx hb hts fin_X9_many_X9 hown hK hP 0 rfl rfl 9 (by decide) (hts (.fieldLink RX9 120 "PatternGate" "marks" "I") (List.mem_of_getElem? (i := 25) (by decide +kernel))) (fun _ h9 => h9) rfl dX9_many_101 ?_
      have hPc := hP.sub (ws' := [(x, .inr (9, gF q 0 0 (-1) (-1) b 0 0))]) [0] rfl
      have hKc := hK.sub (tys' := []) [] rfl
      have hDc := hD.sub (ws' := [(x, .inr (9, gF q 0 0 (-1) (-1) b 0 0))]) [0] (by decide) rfl
      have hFc := va_free (wc := [(x, .inr (9, gF q 0 0 (-1) (-1) b 0 0))]) hD hS hA [0] rfl
      refine va_calli (va_runV (As := [.int 0]) (rest := []) ⟨hx, hb, hml, hown, hts⟩ (c_answer l dC dI x q 0 0 (-1) (-1) b 0 0 H.size 0) (cwV 1 hts mg_X9_many_X9_answer_100 rfl rfl rfl (by decide +kernel) ⟨Nat.le_of_ble_eq_true rfl, Nat.le_of_ble_eq_true rfl⟩) ⟨fun a U g mk q => by obtain ⟨q0, q1, qP, qK, qD⟩ := q; exact ⟨q0, q1, qP, va_K.moved (u := U) (U := U.calling g mk a) (Vm.Alike.refl U.vm) qK, qD⟩, va_recv hKc hPc (ci := 9) (q0 := 0) rfl rfl, fun U hU hW => ⟨rfl, by rw [hU], by rw [hU]; exact hPc, va_K.moved hW.alike hKc, hDc.weaken (fun _ _ _ _ => trivial)⟩⟩ rfl rfl hl.1 rfl (lv_room (Nat.le_of_ble_eq_true rfl)) dX9_many_104 ⟨Nat.le_of_ble_eq_true rfl, Nat.le_of_ble_eq_true rfl⟩) hS (fun q _ h => hFc q h) hFc (fun r_18 u t H1 locs ht hvm hw hB hz1 hk1 hS => ?_)
      exact W.iret hx hb hr (fun t ht hW => ⟨⟨_, (), rfl, (hw.trans (if_neg hA1).symm), trivial⟩, hS.F ht⟩) hS.2.2 dX9_many_107
theorem dX9_putBytes_0 : decode cX9_putBytes 0 = .ok (.bipush 24, 2) := by decide +kernel
theorem dX9_putBytes_2 : decode cX9_putBytes 2 = .ok (.istore_n 2, 1) := by decide +kernel
theorem dX9_putBytes_3 : decode cX9_putBytes 3 = .ok (.iload_n 2, 1) := by decide +kernel
theorem dX9_putBytes_4 : decode cX9_putBytes 4 = .ok (.ifCond .lt 45, 3) := by decide +kernel
theorem dX9_putBytes_7 : decode cX9_putBytes 7 = .ok (.aload_n 0, 1) := by decide +kernel
theorem dX9_putBytes_8 : decode cX9_putBytes 8 = .ok (.getfield 73, 3) := by decide +kernel
theorem dX9_putBytes_11 : decode cX9_putBytes 11 = .ok (.sipush 900, 3) := by decide +kernel
theorem dX9_putBytes_14 : decode cX9_putBytes 14 = .ok (.if_icmp .ge 29, 3) := by decide +kernel
theorem dX9_putBytes_17 : decode cX9_putBytes 17 = .ok (.aload_n 0, 1) := by decide +kernel
theorem dX9_putBytes_18 : decode cX9_putBytes 18 = .ok (.getfield 9, 3) := by decide +kernel
theorem dX9_putBytes_21 : decode cX9_putBytes 21 = .ok (.aload_n 0, 1) := by decide +kernel
theorem dX9_putBytes_22 : decode cX9_putBytes 22 = .ok (.getfield 73, 3) := by decide +kernel
theorem dX9_putBytes_25 : decode cX9_putBytes 25 = .ok (.iload_n 1, 1) := by decide +kernel
theorem dX9_putBytes_26 : decode cX9_putBytes 26 = .ok (.iload_n 2, 1) := by decide +kernel
theorem dX9_putBytes_27 : decode cX9_putBytes 27 = .ok (.iushr, 1) := by decide +kernel
theorem dX9_putBytes_28 : decode cX9_putBytes 28 = .ok (.sipush 255, 3) := by decide +kernel
theorem dX9_putBytes_31 : decode cX9_putBytes 31 = .ok (.iand, 1) := by decide +kernel
theorem dX9_putBytes_32 : decode cX9_putBytes 32 = .ok (.iastore, 1) := by decide +kernel
theorem dX9_putBytes_33 : decode cX9_putBytes 33 = .ok (.aload_n 0, 1) := by decide +kernel
theorem dX9_putBytes_34 : decode cX9_putBytes 34 = .ok (.dup, 1) := by decide +kernel
theorem dX9_putBytes_35 : decode cX9_putBytes 35 = .ok (.getfield 73, 3) := by decide +kernel
theorem dX9_putBytes_38 : decode cX9_putBytes 38 = .ok (.iconst 1, 1) := by decide +kernel
theorem dX9_putBytes_39 : decode cX9_putBytes 39 = .ok (.iadd, 1) := by decide +kernel
theorem dX9_putBytes_40 : decode cX9_putBytes 40 = .ok (.putfield 73, 3) := by decide +kernel
theorem dX9_putBytes_43 : decode cX9_putBytes 43 = .ok (.iinc 2 (-8), 3) := by decide +kernel
theorem dX9_putBytes_46 : decode cX9_putBytes 46 = .ok (.goto (-43), 3) := by decide +kernel
theorem dX9_putBytes_49 : decode cX9_putBytes 49 = .ok (.return_, 1) := by decide +kernel
def mwX9_putBytes : List Cond := .code yX9_putBytes cX9_putBytes 3 none :: ([.fieldLink RX9 73 "PatternGate" "taped" "I", .fieldLink RX9 9 "PatternGate" "tape" "[I"] ++ wsX90)
theorem fin_X9_putBytes_X9 : ∀ w ∈ wsX90, w ∈ mwX9_putBytes := fun w h => List.mem_cons_of_mem _ (List.mem_append_right _ h)
set_option maxHeartbeats 4000000 in
set_option maxRecDepth 100000 in
/-- putBytes: four bytes more -/
theorem c_putBytes (l : Launch) (dC : Nat → ClassId) (dI : Nat → Nat → Nat) (x : Nat) (q : Nat → Nat) (a0 a2 a3 : Int32) (a4 : Nat) (a5 a6 : Int32) (cT : ClassId) (f : Nat → Int32) (n sz : Nat) (v : Int32) (hn : n + 4 ≤ 900) : Met l yX9_putBytes mwX9_putBytes ({ frames := 0, cells := 0, slots := 0, locals := 0 }) (va_Pc [.ref x, .int v] (fun U => U.heap.size = sz ∧ va_P (dC, dI) vwCl ([(x, .inr (9, gF q a0 (nI n) a2 a3 a4 a5 a6)), (q 0, .inl (cT, 900, .inl f))]) U.heap ∧ va_K (dC, dI) vwCl ([(cT, .int)]) U ∧ va_D (fun _ => True) ([(x, .inr (9, gF q a0 (nI n) a2 a3 a4 a5 a6)), (q 0, .inl (cT, 900, .inl f))]))) (va_Qv (fun (_ : Nat → Int32) => True) (fun u t => va_P (dC, dI) vwCl [(x, .inr (9, gF q a0 (nI (n + 4)) a2 a3 a4 a5 a6)), (q 0, .inl (cT, 900, .inl u))] t.heap ∧ va_K (dC, dI) vwCl [(cT, .int)] t ∧ va_D (va_A ([(x, .inr (9, gF q a0 (nI n) a2 a3 a4 a5 a6)), (q 0, .inl (cT, 900, .inl f))]) sz) [(x, .inr (9, gF q a0 (nI (n + 4)) a2 a3 a4 a5 a6)), (q 0, .inl (cT, 900, .inl u))]) (va_A ([(x, .inr (9, gF q a0 (nI n) a2 a3 a4 a5 a6)), (q 0, .inl (cT, 900, .inl f))]) sz)) 0 0 (va_A ([(x, .inr (9, gF q a0 (nI n) a2 a3 a4 a5 a6)), (q 0, .inl (cT, 900, .inl f))]) sz) := by
  refine Met.ofW (cc := cX9_putBytes) (maxL := 3) (ret := none) (by decide +kernel) rfl ?_
  intro p e s m args below meth c s₁ B hml hv
  obtain ⟨rfl, hsz, hP, hK, hD0⟩ := hv
  have hx := B.exec
  have hb := B.bytes
  have hr := B.returns
  have hts := atoms_spec (ws := mwX9_putBytes) B.pre
  have hown : s.vm.findClass RX9 = some m.cls := findClass_of_methodNamed B.named
  have hlocks := B.notSynchronized
  subst hsz
  have hD := hD0.self (sz := s.heap.size)
  generalize hAe : va_A ([(x, .inr (9, gF q a0 (nI n) a2 a3 a4 a5 a6)), (q 0, .inl (cT, 900, .inl f))]) s.heap.size = A at hD ⊢
  have hA : ∀ q : Nat, s.heap.size ≤ q → A q := fun q h => by rw [← hAe]; exact Or.inr h
  have hP : va_P (dC, dI) vwCl [(x, .inr (9, gF q a0 (nI n) a2 a3 a4 a5 a6)), (q 0, .inl (cT, 900, .inl f))] s.heap := hP
  have hD : va_D A [(x, .inr (9, gF q a0 (nI n) a2 a3 a4 a5 a6)), (q 0, .inl (cT, 900, .inl f))] := hD
  have hK : va_K (dC, dI) vwCl [(cT, .int)] s := hK
  generalize hH : s.heap = H at hP ⊢
  have hS : va_S A s.heap H [] := by rw [← hH]; exact va_S.rf
  have hl := lv_entry ([.ref x, .int v]) (n := 3) (Nat.le_of_ble_eq_true rfl)
  rw [lg_entry_eq]
  generalize (lg_sl ([.ref x, .int v]) ++ List.replicate (3 - (lg_sl ([.ref x, .int v])).length) Slot.unset).toArray = ls at hl ⊢
  have hl : lv_has ls 3 [(0, .ref x), (1, .int v)] := hl
  refine lv_bipush (v := 24) hx hb dX9_putBytes_0 (by decide) ?_
  refine lv_istore_n (lv' := [(2, .int 24), (0, .ref x), (1, .int v)]) hx hb dX9_putBytes_2 rfl hl (by decide) rfl (fun ls hl => ?_)
  refine lv_iload_n hx hb dX9_putBytes_3 rfl (lv_at hl 0 rfl) ?_
  refine lv_if_lt (tgt := 49) hx hb dX9_putBytes_4 (by decide) (fun k_1 => absurd k_1 (by decide)) (fun k_1 => ?_)
  refine lv_aload_n hx hb dX9_putBytes_7 rfl (lv_at hl 1 rfl) ?_
  refine va_get (D := (dC, dI)) (ci := 9) (v := .int (nI n)) (C := RX9) (T := TX9) (N := 16) hx hb hts fin_X9_putBytes_X9 hown hK hP 0 rfl rfl 2 (by decide) (hts (.fieldLink RX9 73 "PatternGate" "taped" "I") (List.mem_of_getElem? (i := 1) (by decide +kernel))) (fun _ h9 => h9) rfl dX9_putBytes_8 ?_
  refine lv_sipush (v := 900) hx hb dX9_putBytes_11 (by decide) ?_
  refine lv_icmp_ge (tgt := 43) hx hb dX9_putBytes_14 (by decide) (fun k_2 => absurd k_2 (nI_ge (a := n) (b := 900) (by omega) (by decide))) (fun k_2 => ?_)
  refine lv_aload_n hx hb dX9_putBytes_17 rfl (lv_at hl 1 rfl) ?_
  refine va_get (D := (dC, dI)) (ci := 9) (v := .ref (q 0)) (C := RX9) (T := TX9) (N := 16) hx hb hts fin_X9_putBytes_X9 hown hK hP 0 rfl rfl 1 (by decide) (hts (.fieldLink RX9 9 "PatternGate" "tape" "[I") (List.mem_of_getElem? (i := 2) (by decide +kernel))) (fun _ h9 => h9) rfl dX9_putBytes_18 ?_
  refine lv_aload_n hx hb dX9_putBytes_21 rfl (lv_at hl 1 rfl) ?_
  refine va_get (D := (dC, dI)) (ci := 9) (v := .int (nI n)) (C := RX9) (T := TX9) (N := 16) hx hb hts fin_X9_putBytes_X9 hown hK hP 0 rfl rfl 2 (by decide) (hts (.fieldLink RX9 73 "PatternGate" "taped" "I") (List.mem_of_getElem? (i := 1) (by decide +kernel))) (fun _ h9 => h9) rfl dX9_putBytes_22 ?_
  refine lv_iload_n hx hb dX9_putBytes_25 rfl (lv_at hl 2 rfl) ?_
  refine lv_iload_n hx hb dX9_putBytes_26 rfl (lv_at hl 0 rfl) ?_
  refine lv_iushr hx hb dX9_putBytes_27 rfl ?_
  refine lv_topi (fun y_3 ey_3 => ?_)
  refine lv_sipush (v := 255) hx hb dX9_putBytes_28 (by decide) ?_
  refine lv_iand hx hb dX9_putBytes_31 ?_
  refine lv_topi (fun y_4 ey_4 => ?_)
  refine va_iast hx hb hK hP hD hS 1 0 rfl rfl (i := (nI n)) (vp_in_nI (n := n) (by omega) (by decide)) dX9_putBytes_32 (fun H locs hP hD hS => ?_)
  generalize hf_f_5 : upd f _ _ = f_5 at hP hD
  have hP : va_P (dC, dI) vwCl [(x, .inr (9, gF q a0 (nI n) a2 a3 a4 a5 a6)), (q 0, .inl (cT, 900, .inl f_5))] H := hP
  have hD : va_D A [(x, .inr (9, gF q a0 (nI n) a2 a3 a4 a5 a6)), (q 0, .inl (cT, 900, .inl f_5))] := hD
  refine lv_aload_n hx hb dX9_putBytes_33 rfl (lv_at hl 1 rfl) ?_
  refine lv_dup hx hb dX9_putBytes_34 rfl ?_
  refine va_get (D := (dC, dI)) (ci := 9) (v := .int (nI n)) (C := RX9) (T := TX9) (N := 16) hx hb hts fin_X9_putBytes_X9 hown hK hP 0 rfl rfl 2 (by decide) (hts (.fieldLink RX9 73 "PatternGate" "taped" "I") (List.mem_of_getElem? (i := 1) (by decide +kernel))) (fun _ h9 => h9) rfl dX9_putBytes_35 ?_
  refine lv_iconst (v := 1) hx hb dX9_putBytes_38 (by decide) ?_
  refine lv_iadd hx hb dX9_putBytes_39 ?_
  refine lv_topi (fun y_6 ey_6 => ?_)
  obtain rfl : y_6 = nI (n + 1) := ey_6.trans (nI_1 _)
  refine va_put (D := (dC, dI)) (ci := 9) (v := .int (nI (n + 1))) (ty := .int) (C := RX9) (T := TX9) (N := 16) hx hb hts fin_X9_putBytes_X9 tyX9 tyX9_ok nmX9 hown hK hP hD hS 0 rfl rfl 2 (by decide) (hts (.fieldLink RX9 73 "PatternGate" "taped" "I") (List.mem_of_getElem? (i := 1) (by decide +kernel))) (fun _ h9 => h9) rfl (by decide +kernel) rfl rfl (Nat.le_of_ble_eq_true rfl) dX9_putBytes_40 (fun H locs hP hD hS => ?_)
  have hP : va_P (dC, dI) vwCl [(x, .inr (9, gF q a0 (nI (n + 1)) a2 a3 a4 a5 a6)), (q 0, .inl (cT, 900, .inl f_5))] H := hP
  have hD : va_D A [(x, .inr (9, gF q a0 (nI (n + 1)) a2 a3 a4 a5 a6)), (q 0, .inl (cT, 900, .inl f_5))] := hD
  refine lv_iinc (v := 16) (lv' := [(2, .int 16), (0, .ref x), (1, .int v)]) hx hb dX9_putBytes_43 hl (k := 0) rfl (by decide) (by decide) rfl (fun ls hl => ?_)
  refine lv_goto (tgt := 3) hx hb dX9_putBytes_46 (by decide) ?_
  refine lv_iload_n hx hb dX9_putBytes_3 rfl (lv_at hl 0 rfl) ?_
  refine lv_if_lt (tgt := 49) hx hb dX9_putBytes_4 (by decide) (fun k_7 => absurd k_7 (by decide)) (fun k_7 => ?_)
  refine lv_aload_n hx hb dX9_putBytes_7 rfl (lv_at hl 1 rfl) ?_
  refine va_get (D := (dC, dI)) (ci := 9) (v := .int (nI (n + 1))) (C := RX9) (T := TX9) (N := 16) hx hb hts fin_X9_putBytes_X9 hown hK hP 0 rfl rfl 2 (by decide) (hts (.fieldLink RX9 73 "PatternGate" "taped" "I") (List.mem_of_getElem? (i := 1) (by decide +kernel))) (fun _ h9 => h9) rfl dX9_putBytes_8 ?_
  refine lv_sipush (v := 900) hx hb dX9_putBytes_11 (by decide) ?_
  refine lv_icmp_ge (tgt := 43) hx hb dX9_putBytes_14 (by decide) (fun k_8 => absurd k_8 (nI_ge (a := n + 1) (b := 900) (by omega) (by decide))) (fun k_8 => ?_)
  refine lv_aload_n hx hb dX9_putBytes_17 rfl (lv_at hl 1 rfl) ?_
  refine va_get (D := (dC, dI)) (ci := 9) (v := .ref (q 0)) (C := RX9) (T := TX9) (N := 16) hx hb hts fin_X9_putBytes_X9 hown hK hP 0 rfl rfl 1 (by decide) (hts (.fieldLink RX9 9 "PatternGate" "tape" "[I") (List.mem_of_getElem? (i := 2) (by decide +kernel))) (fun _ h9 => h9) rfl dX9_putBytes_18 ?_
  refine lv_aload_n hx hb dX9_putBytes_21 rfl (lv_at hl 1 rfl) ?_
  refine va_get (D := (dC, dI)) (ci := 9) (v := .int (nI (n + 1))) (C := RX9) (T := TX9) (N := 16) hx hb hts fin_X9_putBytes_X9 hown hK hP 0 rfl rfl 2 (by decide) (hts (.fieldLink RX9 73 "PatternGate" "taped" "I") (List.mem_of_getElem? (i := 1) (by decide +kernel))) (fun _ h9 => h9) rfl dX9_putBytes_22 ?_
  refine lv_iload_n hx hb dX9_putBytes_25 rfl (lv_at hl 2 rfl) ?_
  refine lv_iload_n hx hb dX9_putBytes_26 rfl (lv_at hl 0 rfl) ?_
  refine lv_iushr hx hb dX9_putBytes_27 rfl ?_
  refine lv_topi (fun y_9 ey_9 => ?_)
  refine lv_sipush (v := 255) hx hb dX9_putBytes_28 (by decide) ?_
  refine lv_iand hx hb dX9_putBytes_31 ?_
  refine lv_topi (fun y_10 ey_10 => ?_)
  refine va_iast hx hb hK hP hD hS 1 0 rfl rfl (i := (nI (n + 1))) (vp_in_nI (n := n + 1) (by omega) (by decide)) dX9_putBytes_32 (fun H locs hP hD hS => ?_)
  generalize hf_f_11 : upd f_5 _ _ = f_11 at hP hD
  have hP : va_P (dC, dI) vwCl [(x, .inr (9, gF q a0 (nI (n + 1)) a2 a3 a4 a5 a6)), (q 0, .inl (cT, 900, .inl f_11))] H := hP
  have hD : va_D A [(x, .inr (9, gF q a0 (nI (n + 1)) a2 a3 a4 a5 a6)), (q 0, .inl (cT, 900, .inl f_11))] := hD
  refine lv_aload_n hx hb dX9_putBytes_33 rfl (lv_at hl 1 rfl) ?_
  refine lv_dup hx hb dX9_putBytes_34 rfl ?_
  refine va_get (D := (dC, dI)) (ci := 9) (v := .int (nI (n + 1))) (C := RX9) (T := TX9) (N := 16) hx hb hts fin_X9_putBytes_X9 hown hK hP 0 rfl rfl 2 (by decide) (hts (.fieldLink RX9 73 "PatternGate" "taped" "I") (List.mem_of_getElem? (i := 1) (by decide +kernel))) (fun _ h9 => h9) rfl dX9_putBytes_35 ?_
  refine lv_iconst (v := 1) hx hb dX9_putBytes_38 (by decide) ?_
  refine lv_iadd hx hb dX9_putBytes_39 ?_
  refine lv_topi (fun y_12 ey_12 => ?_)
  obtain rfl : y_12 = nI (n + 2) := ey_12.trans (nI_1 _)
  refine va_put (D := (dC, dI)) (ci := 9) (v := .int (nI (n + 2))) (ty := .int) (C := RX9) (T := TX9) (N := 16) hx hb hts fin_X9_putBytes_X9 tyX9 tyX9_ok nmX9 hown hK hP hD hS 0 rfl rfl 2 (by decide) (hts (.fieldLink RX9 73 "PatternGate" "taped" "I") (List.mem_of_getElem? (i := 1) (by decide +kernel))) (fun _ h9 => h9) rfl (by decide +kernel) rfl rfl (Nat.le_of_ble_eq_true rfl) dX9_putBytes_40 (fun H locs hP hD hS => ?_)
  have hP : va_P (dC, dI) vwCl [(x, .inr (9, gF q a0 (nI (n + 2)) a2 a3 a4 a5 a6)), (q 0, .inl (cT, 900, .inl f_11))] H := hP
  have hD : va_D A [(x, .inr (9, gF q a0 (nI (n + 2)) a2 a3 a4 a5 a6)), (q 0, .inl (cT, 900, .inl f_11))] := hD
  refine lv_iinc (v := 8) (lv' := [(2, .int 8), (0, .ref x), (1, .int v)]) hx hb dX9_putBytes_43 hl (k := 0) rfl (by decide) (by decide) rfl (fun ls hl => ?_)
  refine lv_goto (tgt := 3) hx hb dX9_putBytes_46 (by decide) ?_
  refine lv_iload_n hx hb dX9_putBytes_3 rfl (lv_at hl 0 rfl) ?_
  refine lv_if_lt (tgt := 49) hx hb dX9_putBytes_4 (by decide) (fun k_13 => absurd k_13 (by decide)) (fun k_13 => ?_)
  refine lv_aload_n hx hb dX9_putBytes_7 rfl (lv_at hl 1 rfl) ?_
  refine va_get (D := (dC, dI)) (ci := 9) (v := .int (nI (n + 2))) (C := RX9) (T := TX9) (N := 16) hx hb hts fin_X9_putBytes_X9 hown hK hP 0 rfl rfl 2 (by decide) (hts (.fieldLink RX9 73 "PatternGate" "taped" "I") (List.mem_of_getElem? (i := 1) (by decide +kernel))) (fun _ h9 => h9) rfl dX9_putBytes_8 ?_
  refine lv_sipush (v := 900) hx hb dX9_putBytes_11 (by decide) ?_
  refine lv_icmp_ge (tgt := 43) hx hb dX9_putBytes_14 (by decide) (fun k_14 => absurd k_14 (nI_ge (a := n + 2) (b := 900) (by omega) (by decide))) (fun k_14 => ?_)
  refine lv_aload_n hx hb dX9_putBytes_17 rfl (lv_at hl 1 rfl) ?_
  refine va_get (D := (dC, dI)) (ci := 9) (v := .ref (q 0)) (C := RX9) (T := TX9) (N := 16) hx hb hts fin_X9_putBytes_X9 hown hK hP 0 rfl rfl 1 (by decide) (hts (.fieldLink RX9 9 "PatternGate" "tape" "[I") (List.mem_of_getElem? (i := 2) (by decide +kernel))) (fun _ h9 => h9) rfl dX9_putBytes_18 ?_
  refine lv_aload_n hx hb dX9_putBytes_21 rfl (lv_at hl 1 rfl) ?_
  refine va_get (D := (dC, dI)) (ci := 9) (v := .int (nI (n + 2))) (C := RX9) (T := TX9) (N := 16) hx hb hts fin_X9_putBytes_X9 hown hK hP 0 rfl rfl 2 (by decide) (hts (.fieldLink RX9 73 "PatternGate" "taped" "I") (List.mem_of_getElem? (i := 1) (by decide +kernel))) (fun _ h9 => h9) rfl dX9_putBytes_22 ?_
  refine lv_iload_n hx hb dX9_putBytes_25 rfl (lv_at hl 2 rfl) ?_
  refine lv_iload_n hx hb dX9_putBytes_26 rfl (lv_at hl 0 rfl) ?_
  refine lv_iushr hx hb dX9_putBytes_27 rfl ?_
  refine lv_topi (fun y_15 ey_15 => ?_)
  refine lv_sipush (v := 255) hx hb dX9_putBytes_28 (by decide) ?_
  refine lv_iand hx hb dX9_putBytes_31 ?_
  refine lv_topi (fun y_16 ey_16 => ?_)
  refine va_iast hx hb hK hP hD hS 1 0 rfl rfl (i := (nI (n + 2))) (vp_in_nI (n := n + 2) (by omega) (by decide)) dX9_putBytes_32 (fun H locs hP hD hS => ?_)
  generalize hf_f_17 : upd f_11 _ _ = f_17 at hP hD
  have hP : va_P (dC, dI) vwCl [(x, .inr (9, gF q a0 (nI (n + 2)) a2 a3 a4 a5 a6)), (q 0, .inl (cT, 900, .inl f_17))] H := hP
  have hD : va_D A [(x, .inr (9, gF q a0 (nI (n + 2)) a2 a3 a4 a5 a6)), (q 0, .inl (cT, 900, .inl f_17))] := hD
  refine lv_aload_n hx hb dX9_putBytes_33 rfl (lv_at hl 1 rfl) ?_
  refine lv_dup hx hb dX9_putBytes_34 rfl ?_
  refine va_get (D := (dC, dI)) (ci := 9) (v := .int (nI (n + 2))) (C := RX9) (T := TX9) (N := 16) hx hb hts fin_X9_putBytes_X9 hown hK hP 0 rfl rfl 2 (by decide) (hts (.fieldLink RX9 73 "PatternGate" "taped" "I") (List.mem_of_getElem? (i := 1) (by decide +kernel))) (fun _ h9 => h9) rfl dX9_putBytes_35 ?_
  refine lv_iconst (v := 1) hx hb dX9_putBytes_38 (by decide) ?_
  refine lv_iadd hx hb dX9_putBytes_39 ?_
  refine lv_topi (fun y_18 ey_18 => ?_)
  obtain rfl : y_18 = nI (n + 3) := ey_18.trans (nI_1 _)
  refine va_put (D := (dC, dI)) (ci := 9) (v := .int (nI (n + 3))) (ty := .int) (C := RX9) (T := TX9) (N := 16) hx hb hts fin_X9_putBytes_X9 tyX9 tyX9_ok nmX9 hown hK hP hD hS 0 rfl rfl 2 (by decide) (hts (.fieldLink RX9 73 "PatternGate" "taped" "I") (List.mem_of_getElem? (i := 1) (by decide +kernel))) (fun _ h9 => h9) rfl (by decide +kernel) rfl rfl (Nat.le_of_ble_eq_true rfl) dX9_putBytes_40 (fun H locs hP hD hS => ?_)
  have hP : va_P (dC, dI) vwCl [(x, .inr (9, gF q a0 (nI (n + 3)) a2 a3 a4 a5 a6)), (q 0, .inl (cT, 900, .inl f_17))] H := hP
  have hD : va_D A [(x, .inr (9, gF q a0 (nI (n + 3)) a2 a3 a4 a5 a6)), (q 0, .inl (cT, 900, .inl f_17))] := hD
  refine lv_iinc (v := 0) (lv' := [(2, .int 0), (0, .ref x), (1, .int v)]) hx hb dX9_putBytes_43 hl (k := 0) rfl (by decide) (by decide) rfl (fun ls hl => ?_)
  refine lv_goto (tgt := 3) hx hb dX9_putBytes_46 (by decide) ?_
  refine lv_iload_n hx hb dX9_putBytes_3 rfl (lv_at hl 0 rfl) ?_
  refine lv_if_lt (tgt := 49) hx hb dX9_putBytes_4 (by decide) (fun k_19 => absurd k_19 (by decide)) (fun k_19 => ?_)
  refine lv_aload_n hx hb dX9_putBytes_7 rfl (lv_at hl 1 rfl) ?_
  refine va_get (D := (dC, dI)) (ci := 9) (v := .int (nI (n + 3))) (C := RX9) (T := TX9) (N := 16) hx hb hts fin_X9_putBytes_X9 hown hK hP 0 rfl rfl 2 (by decide) (hts (.fieldLink RX9 73 "PatternGate" "taped" "I") (List.mem_of_getElem? (i := 1) (by decide +kernel))) (fun _ h9 => h9) rfl dX9_putBytes_8 ?_
  refine lv_sipush (v := 900) hx hb dX9_putBytes_11 (by decide) ?_
  refine lv_icmp_ge (tgt := 43) hx hb dX9_putBytes_14 (by decide) (fun k_20 => absurd k_20 (nI_ge (a := n + 3) (b := 900) (by omega) (by decide))) (fun k_20 => ?_)
  refine lv_aload_n hx hb dX9_putBytes_17 rfl (lv_at hl 1 rfl) ?_
  refine va_get (D := (dC, dI)) (ci := 9) (v := .ref (q 0)) (C := RX9) (T := TX9) (N := 16) hx hb hts fin_X9_putBytes_X9 hown hK hP 0 rfl rfl 1 (by decide) (hts (.fieldLink RX9 9 "PatternGate" "tape" "[I") (List.mem_of_getElem? (i := 2) (by decide +kernel))) (fun _ h9 => h9) rfl dX9_putBytes_18 ?_
  refine lv_aload_n hx hb dX9_putBytes_21 rfl (lv_at hl 1 rfl) ?_
  refine va_get (D := (dC, dI)) (ci := 9) (v := .int (nI (n + 3))) (C := RX9) (T := TX9) (N := 16) hx hb hts fin_X9_putBytes_X9 hown hK hP 0 rfl rfl 2 (by decide) (hts (.fieldLink RX9 73 "PatternGate" "taped" "I") (List.mem_of_getElem? (i := 1) (by decide +kernel))) (fun _ h9 => h9) rfl dX9_putBytes_22 ?_
  refine lv_iload_n hx hb dX9_putBytes_25 rfl (lv_at hl 2 rfl) ?_
  refine lv_iload_n hx hb dX9_putBytes_26 rfl (lv_at hl 0 rfl) ?_
  refine lv_iushr hx hb dX9_putBytes_27 rfl ?_
  refine lv_topi (fun y_21 ey_21 => ?_)
  refine lv_sipush (v := 255) hx hb dX9_putBytes_28 (by decide) ?_
  refine lv_iand hx hb dX9_putBytes_31 ?_
  refine lv_topi (fun y_22 ey_22 => ?_)
  refine va_iast hx hb hK hP hD hS 1 0 rfl rfl (i := (nI (n + 3))) (vp_in_nI (n := n + 3) (by omega) (by decide)) dX9_putBytes_32 (fun H locs hP hD hS => ?_)
  generalize hf_f_23 : upd f_17 _ _ = f_23 at hP hD
  have hP : va_P (dC, dI) vwCl [(x, .inr (9, gF q a0 (nI (n + 3)) a2 a3 a4 a5 a6)), (q 0, .inl (cT, 900, .inl f_23))] H := hP
  have hD : va_D A [(x, .inr (9, gF q a0 (nI (n + 3)) a2 a3 a4 a5 a6)), (q 0, .inl (cT, 900, .inl f_23))] := hD
  refine lv_aload_n hx hb dX9_putBytes_33 rfl (lv_at hl 1 rfl) ?_
  refine lv_dup hx hb dX9_putBytes_34 rfl ?_
  refine va_get (D := (dC, dI)) (ci := 9) (v := .int (nI (n + 3))) (C := RX9) (T := TX9) (N := 16) hx hb hts fin_X9_putBytes_X9 hown hK hP 0 rfl rfl 2 (by decide) (hts (.fieldLink RX9 73 "PatternGate" "taped" "I") (List.mem_of_getElem? (i := 1) (by decide +kernel))) (fun _ h9 => h9) rfl dX9_putBytes_35 ?_
  refine lv_iconst (v := 1) hx hb dX9_putBytes_38 (by decide) ?_
  refine lv_iadd hx hb dX9_putBytes_39 ?_
  refine lv_topi (fun y_24 ey_24 => ?_)
  obtain rfl : y_24 = nI (n + 4) := ey_24.trans (nI_1 _)
  refine va_put (D := (dC, dI)) (ci := 9) (v := .int (nI (n + 4))) (ty := .int) (C := RX9) (T := TX9) (N := 16) hx hb hts fin_X9_putBytes_X9 tyX9 tyX9_ok nmX9 hown hK hP hD hS 0 rfl rfl 2 (by decide) (hts (.fieldLink RX9 73 "PatternGate" "taped" "I") (List.mem_of_getElem? (i := 1) (by decide +kernel))) (fun _ h9 => h9) rfl (by decide +kernel) rfl rfl (Nat.le_of_ble_eq_true rfl) dX9_putBytes_40 (fun H locs hP hD hS => ?_)
  have hP : va_P (dC, dI) vwCl [(x, .inr (9, gF q a0 (nI (n + 4)) a2 a3 a4 a5 a6)), (q 0, .inl (cT, 900, .inl f_23))] H := hP
  have hD : va_D A [(x, .inr (9, gF q a0 (nI (n + 4)) a2 a3 a4 a5 a6)), (q 0, .inl (cT, 900, .inl f_23))] := hD
  refine lv_iinc (v := (-8)) (lv' := [(2, .int (-8)), (0, .ref x), (1, .int v)]) hx hb dX9_putBytes_43 hl (k := 0) rfl (by decide) (by decide) rfl (fun ls hl => ?_)
  refine lv_goto (tgt := 3) hx hb dX9_putBytes_46 (by decide) ?_
  refine lv_iload_n hx hb dX9_putBytes_3 rfl (lv_at hl 0 rfl) ?_
  refine lv_if_lt (tgt := 49) hx hb dX9_putBytes_4 (by decide) (fun k_25 => ?_) (fun k_25 => absurd (by decide) k_25)
  exact W.vret hx hb hr (fun t ht hW => ⟨⟨f_23, rfl, trivial, by rw [ht]; exact hP, va_K.moved hW.alike hK, hD⟩, hS.F ht⟩) hS.2.2 dX9_putBytes_49
theorem dX9_feed_0 : decode cX9_feed 0 = .ok (.aload_n 0, 1) := by decide +kernel
theorem dX9_feed_1 : decode cX9_feed 1 = .ok (.getfield 73, 3) := by decide +kernel
theorem dX9_feed_4 : decode cX9_feed 4 = .ok (.bipush 20, 2) := by decide +kernel
theorem dX9_feed_6 : decode cX9_feed 6 = .ok (.iadd, 1) := by decide +kernel
theorem dX9_feed_7 : decode cX9_feed 7 = .ok (.sipush 900, 3) := by decide +kernel
theorem dX9_feed_10 : decode cX9_feed 10 = .ok (.if_icmp .le 5, 3) := by decide +kernel
theorem dX9_feed_15 : decode cX9_feed 15 = .ok (.aload_n 0, 1) := by decide +kernel
theorem dX9_feed_16 : decode cX9_feed 16 = .ok (.iload_n 1, 1) := by decide +kernel
theorem dX9_feed_17 : decode cX9_feed 17 = .ok (.invokevirtual 76, 3) := by decide +kernel
theorem dX9_feed_20 : decode cX9_feed 20 = .ok (.aload_n 0, 1) := by decide +kernel
theorem dX9_feed_21 : decode cX9_feed 21 = .ok (.iload_n 2, 1) := by decide +kernel
theorem dX9_feed_22 : decode cX9_feed 22 = .ok (.invokevirtual 76, 3) := by decide +kernel
theorem dX9_feed_25 : decode cX9_feed 25 = .ok (.aload_n 0, 1) := by decide +kernel
theorem dX9_feed_26 : decode cX9_feed 26 = .ok (.iload_n 3, 1) := by decide +kernel
theorem dX9_feed_27 : decode cX9_feed 27 = .ok (.invokevirtual 76, 3) := by decide +kernel
theorem dX9_feed_30 : decode cX9_feed 30 = .ok (.aload_n 0, 1) := by decide +kernel
theorem dX9_feed_31 : decode cX9_feed 31 = .ok (.iload 4, 2) := by decide +kernel
theorem dX9_feed_33 : decode cX9_feed 33 = .ok (.invokevirtual 76, 3) := by decide +kernel
theorem dX9_feed_36 : decode cX9_feed 36 = .ok (.aload_n 0, 1) := by decide +kernel
theorem dX9_feed_37 : decode cX9_feed 37 = .ok (.iload 5, 2) := by decide +kernel
theorem dX9_feed_39 : decode cX9_feed 39 = .ok (.invokevirtual 76, 3) := by decide +kernel
theorem dX9_feed_42 : decode cX9_feed 42 = .ok (.aload_n 0, 1) := by decide +kernel
theorem dX9_feed_43 : decode cX9_feed 43 = .ok (.getfield 73, 3) := by decide +kernel
theorem dX9_feed_46 : decode cX9_feed 46 = .ok (.ireturn, 1) := by decide +kernel
def mwX9_feed : List Cond := .code yX9_feed cX9_feed 6 (some .int) :: ([.fieldLink RX9 73 "PatternGate" "taped" "I", .code yX9_putBytes cX9_putBytes 3 none, .fieldLink RX9 9 "PatternGate" "tape" "[I", .methodLink RX9 76 yX9_putBytes, .instanceMethod yX9_putBytes, .selects RX9 yX9_putBytes yX9_putBytes, .initialized RX9] ++ wsX90)
theorem fin_X9_feed_X9 : ∀ w ∈ wsX90, w ∈ mwX9_feed := fun w h => List.mem_cons_of_mem _ (List.mem_append_right _ h)
set_option maxRecDepth 20000 in
theorem mg_X9_feed_X9_putBytes_76 : GoodIn mwX9_feed (wsV RX9 76 RX9 yX9_putBytes mwX9_putBytes) := goodIn_r _ [4, 5, 6, 7, 2, 1, 3, 8, 9, 10, 11, 12, 13, 14, 15, 16, 17, 18, 19, 20, 21, 22, 23] (by decide +kernel) (by decide +kernel)
set_option maxHeartbeats 4000000 in
set_option maxRecDepth 100000 in
/-- feed on a new object -/
theorem c_feed (l : Launch) (dC : Nat → ClassId) (dI : Nat → Nat → Nat) (x : Nat) (q : Nat → Nat) (b d0 p0 : Nat) (cT cD cP cB cU : ClassId) (r : Nat → Nat) (sz : Nat) (i0 i1 i2 i3 i4 : Int32) : Met l yX9_feed mwX9_feed ({ frames := 1, cells := 0, slots := 0, locals := 60 }) (va_Pc [.ref x, .int i0, .int i1, .int i2, .int i3, .int i4] (fun U => U.heap.size = sz ∧ va_P (dC, dI) vwCl (gW x q b d0 p0 cT cD cP cB cU r) U.heap ∧ va_K (dC, dI) vwCl (gT cT cD cP cB cU) U ∧ va_D (fun _ => True) (gW x q b d0 p0 cT cD cP cB cU r))) (va_Qi (fun (o : Int32) (_ : Unit) => o = 20) (fun _ _ => True) (va_A (gW x q b d0 p0 cT cD cP cB cU r) sz)) 0 0 (va_A (gW x q b d0 p0 cT cD cP cB cU r) sz) := by
  refine Met.ofW (cc := cX9_feed) (maxL := 6) (ret := (some .int)) (by decide +kernel) rfl ?_
  intro p e s m args below meth c s₁ B hml hv
  obtain ⟨rfl, hsz, hP, hK, hD0⟩ := hv
  have hx := B.exec
  have hb := B.bytes
  have hr := B.returns
  have hts := atoms_spec (ws := mwX9_feed) B.pre
  have hown : s.vm.findClass RX9 = some m.cls := findClass_of_methodNamed B.named
  have hlocks := B.notSynchronized
  subst hsz
  have hD := hD0.self (sz := s.heap.size)
  generalize hAe : va_A (gW x q b d0 p0 cT cD cP cB cU r) s.heap.size = A at hD ⊢
  have hA : ∀ q : Nat, s.heap.size ≤ q → A q := fun q h => by rw [← hAe]; exact Or.inr h
  have hP : va_P (dC, dI) vwCl [(x, .inr (9, gF q 0 0 (-1) (-1) b 0 0)), (q 0, .inl (cT, 900, .inl (fun _ => 0))), (b, .inr (0, [.ref d0, .ref p0, .null])), (d0, .inl (cD, 0, .inr (.inr (.inr (.inr (fun _ => none)))))), (p0, .inl (cP, 0, .inr (.inr (.inr (.inr (fun _ => none)))))), (q 1, .inl (cB, 3, .inr (.inr (.inr (.inr (fun _ => none)))))), (q 2, .inl (cU, 3, .inl (fun _ => 0))), (q 3, .inr (6, rF r 0 0 0 0 0 0 0 0))] s.heap := hP
  have hD : va_D A [(x, .inr (9, gF q 0 0 (-1) (-1) b 0 0)), (q 0, .inl (cT, 900, .inl (fun _ => 0))), (b, .inr (0, [.ref d0, .ref p0, .null])), (d0, .inl (cD, 0, .inr (.inr (.inr (.inr (fun _ => none)))))), (p0, .inl (cP, 0, .inr (.inr (.inr (.inr (fun _ => none)))))), (q 1, .inl (cB, 3, .inr (.inr (.inr (.inr (fun _ => none)))))), (q 2, .inl (cU, 3, .inl (fun _ => 0))), (q 3, .inr (6, rF r 0 0 0 0 0 0 0 0))] := hD
  have hK : va_K (dC, dI) vwCl [(cT, .int), (cD, .object "PatternGate$Doc"), (cP, .object "PatternGate$Pattern"), (cB, .object "PatternGate$Book"), (cU, .int)] s := hK
  generalize hH : s.heap = H at hP ⊢
  have hS : va_S A s.heap H [] := by rw [← hH]; exact va_S.rf
  have hl := lv_entry ([.ref x, .int i0, .int i1, .int i2, .int i3, .int i4]) (n := 6) (Nat.le_of_ble_eq_true rfl)
  rw [lg_entry_eq]
  generalize (lg_sl ([.ref x, .int i0, .int i1, .int i2, .int i3, .int i4]) ++ List.replicate (6 - (lg_sl ([.ref x, .int i0, .int i1, .int i2, .int i3, .int i4])).length) Slot.unset).toArray = ls at hl ⊢
  have hl : lv_has ls 6 [(0, .ref x), (1, .int i0), (2, .int i1), (3, .int i2), (4, .int i3), (5, .int i4)] := hl
  refine lv_aload_n hx hb dX9_feed_0 rfl (lv_at hl 0 rfl) ?_
  refine va_get (D := (dC, dI)) (ci := 9) (v := .int 0) (C := RX9) (T := TX9) (N := 16) hx hb hts fin_X9_feed_X9 hown hK hP 0 rfl rfl 2 (by decide) (hts (.fieldLink RX9 73 "PatternGate" "taped" "I") (List.mem_of_getElem? (i := 1) (by decide +kernel))) (fun _ h9 => h9) rfl dX9_feed_1 ?_
  refine lv_bipush (v := 20) hx hb dX9_feed_4 (by decide) ?_
  refine lv_iadd hx hb dX9_feed_6 ?_
  refine lv_topi (fun y_1 ey_1 => ?_)
  obtain rfl : y_1 = 20 := ey_1.trans (by first | rfl | decide)
  refine lv_sipush (v := 900) hx hb dX9_feed_7 (by decide) ?_
  refine lv_icmp_le (tgt := 15) hx hb dX9_feed_10 (by decide) (fun k_2 => ?_) (fun k_2 => absurd (by decide) k_2)
  refine lv_aload_n hx hb dX9_feed_15 rfl (lv_at hl 0 rfl) ?_
  refine lv_iload_n hx hb dX9_feed_16 rfl (lv_at hl 1 rfl) ?_
  have hPc := hP.sub (ws' := [(x, .inr (9, gF q 0 0 (-1) (-1) b 0 0)), (q 0, .inl (cT, 900, .inl (fun _ => 0)))]) [0, 1] rfl
  have hKc := hK.sub (tys' := [(cT, .int)]) [0] rfl
  have hDc := hD.sub (ws' := [(x, .inr (9, gF q 0 0 (-1) (-1) b 0 0)), (q 0, .inl (cT, 900, .inl (fun _ => 0)))]) [0, 1] (by decide) rfl
  have hFc := va_free (wc := [(x, .inr (9, gF q 0 0 (-1) (-1) b 0 0)), (q 0, .inl (cT, 900, .inl (fun _ => 0)))]) hD hS hA [0, 1] rfl
  refine va_callv (va_runV (As := [.int i0]) (rest := []) ⟨hx, hb, hml, hown, hts⟩ (c_putBytes l dC dI x q 0 (-1) (-1) b 0 0 cT (fun _ => 0) 0 H.size i0 (by decide)) (cwV 1 hts mg_X9_feed_X9_putBytes_76 rfl rfl rfl (by decide +kernel) ⟨Nat.le_of_ble_eq_true rfl, Nat.le_of_ble_eq_true rfl⟩) ⟨fun a U g mk q => by obtain ⟨q0, q1, qP, qK, qD⟩ := q; exact ⟨q0, q1, qP, va_K.moved (u := U) (U := U.calling g mk a) (Vm.Alike.refl U.vm) qK, qD⟩, va_recv hKc hPc (ci := 9) (q0 := 0) rfl rfl, fun U hU hW => ⟨rfl, by rw [hU], by rw [hU]; exact hPc, va_K.moved hW.alike hKc, hDc.weaken (fun _ _ _ _ => trivial)⟩⟩ rfl rfl hl.1 rfl (lv_room (Nat.le_of_ble_eq_true rfl)) dX9_feed_17 ⟨Nat.le_of_ble_eq_true rfl, Nat.le_of_ble_eq_true rfl⟩) hS (fun q _ h => hFc q h) hFc (fun u t H1 locs ht hvm hw hB hz1 hk1 hS => ?_)
  obtain ⟨hP1, hK1, hD1⟩ := hB
  rw [ht] at hP1
  generalize u = f_5 at hP1 hD1
  obtain ⟨hP, hD⟩ := va_join (wr := [(b, .inr (0, [.ref d0, .ref p0, .null])), (d0, .inl (cD, 0, .inr (.inr (.inr (.inr (fun _ => none)))))), (p0, .inl (cP, 0, .inr (.inr (.inr (.inr (fun _ => none)))))), (q 1, .inl (cB, 3, .inr (.inr (.inr (.inr (fun _ => none)))))), (q 2, .inl (cU, 3, .inl (fun _ => 0))), (q 3, .inr (6, rF r 0 0 0 0 0 0 0 0))]) (w1 := [(x, .inr (9, gF q 0 (nI 4) (-1) (-1) b 0 0)), (q 0, .inl (cT, 900, .inl f_5))]) hP hD [0, 1] [2, 3, 4, 5, 6, 7] rfl rfl (by decide) (by decide) hk1 hFc hP1 hD1
  generalize H1 = H at hP hS ⊢
  have hP : va_P (dC, dI) vwCl [(b, .inr (0, [.ref d0, .ref p0, .null])), (d0, .inl (cD, 0, .inr (.inr (.inr (.inr (fun _ => none)))))), (p0, .inl (cP, 0, .inr (.inr (.inr (.inr (fun _ => none)))))), (q 1, .inl (cB, 3, .inr (.inr (.inr (.inr (fun _ => none)))))), (q 2, .inl (cU, 3, .inl (fun _ => 0))), (q 3, .inr (6, rF r 0 0 0 0 0 0 0 0)), (x, .inr (9, gF q 0 (nI 4) (-1) (-1) b 0 0)), (q 0, .inl (cT, 900, .inl f_5))] H := hP
  have hD : va_D A [(b, .inr (0, [.ref d0, .ref p0, .null])), (d0, .inl (cD, 0, .inr (.inr (.inr (.inr (fun _ => none)))))), (p0, .inl (cP, 0, .inr (.inr (.inr (.inr (fun _ => none)))))), (q 1, .inl (cB, 3, .inr (.inr (.inr (.inr (fun _ => none)))))), (q 2, .inl (cU, 3, .inl (fun _ => 0))), (q 3, .inr (6, rF r 0 0 0 0 0 0 0 0)), (x, .inr (9, gF q 0 (nI 4) (-1) (-1) b 0 0)), (q 0, .inl (cT, 900, .inl f_5))] := hD
  refine lv_aload_n hx hb dX9_feed_20 rfl (lv_at hl 0 rfl) ?_
  refine lv_iload_n hx hb dX9_feed_21 rfl (lv_at hl 2 rfl) ?_
  have hPc := hP.sub (ws' := [(x, .inr (9, gF q 0 (nI 4) (-1) (-1) b 0 0)), (q 0, .inl (cT, 900, .inl f_5))]) [6, 7] rfl
  have hKc := hK.sub (tys' := [(cT, .int)]) [0] rfl
  have hDc := hD.sub (ws' := [(x, .inr (9, gF q 0 (nI 4) (-1) (-1) b 0 0)), (q 0, .inl (cT, 900, .inl f_5))]) [6, 7] (by decide) rfl
  have hFc := va_free (wc := [(x, .inr (9, gF q 0 (nI 4) (-1) (-1) b 0 0)), (q 0, .inl (cT, 900, .inl f_5))]) hD hS hA [6, 7] rfl
  refine va_callv (va_runV (As := [.int i1]) (rest := []) ⟨hx, hb, hml, hown, hts⟩ (c_putBytes l dC dI x q 0 (-1) (-1) b 0 0 cT f_5 4 H.size i1 (by decide)) (cwV 1 hts mg_X9_feed_X9_putBytes_76 rfl rfl rfl (by decide +kernel) ⟨Nat.le_of_ble_eq_true rfl, Nat.le_of_ble_eq_true rfl⟩) ⟨fun a U g mk q => by obtain ⟨q0, q1, qP, qK, qD⟩ := q; exact ⟨q0, q1, qP, va_K.moved (u := U) (U := U.calling g mk a) (Vm.Alike.refl U.vm) qK, qD⟩, va_recv hKc hPc (ci := 9) (q0 := 0) rfl rfl, fun U hU hW => ⟨rfl, by rw [hU], by rw [hU]; exact hPc, va_K.moved hW.alike hKc, hDc.weaken (fun _ _ _ _ => trivial)⟩⟩ rfl rfl hl.1 rfl (lv_room (Nat.le_of_ble_eq_true rfl)) dX9_feed_22 ⟨Nat.le_of_ble_eq_true rfl, Nat.le_of_ble_eq_true rfl⟩) hS (fun q _ h => hFc q h) hFc (fun u t H1 locs ht hvm hw hB hz1 hk1 hS => ?_)
  obtain ⟨hP1, hK1, hD1⟩ := hB
  rw [ht] at hP1
  generalize u = f_8 at hP1 hD1
  obtain ⟨hP, hD⟩ := va_join (wr := [(b, .inr (0, [.ref d0, .ref p0, .null])), (d0, .inl (cD, 0, .inr (.inr (.inr (.inr (fun _ => none)))))), (p0, .inl (cP, 0, .inr (.inr (.inr (.inr (fun _ => none)))))), (q 1, .inl (cB, 3, .inr (.inr (.inr (.inr (fun _ => none)))))), (q 2, .inl (cU, 3, .inl (fun _ => 0))), (q 3, .inr (6, rF r 0 0 0 0 0 0 0 0))]) (w1 := [(x, .inr (9, gF q 0 (nI 8) (-1) (-1) b 0 0)), (q 0, .inl (cT, 900, .inl f_8))]) hP hD [6, 7] [0, 1, 2, 3, 4, 5] rfl rfl (by decide) (by decide) hk1 hFc hP1 hD1
  generalize H1 = H at hP hS ⊢
  have hP : va_P (dC, dI) vwCl [(b, .inr (0, [.ref d0, .ref p0, .null])), (d0, .inl (cD, 0, .inr (.inr (.inr (.inr (fun _ => none)))))), (p0, .inl (cP, 0, .inr (.inr (.inr (.inr (fun _ => none)))))), (q 1, .inl (cB, 3, .inr (.inr (.inr (.inr (fun _ => none)))))), (q 2, .inl (cU, 3, .inl (fun _ => 0))), (q 3, .inr (6, rF r 0 0 0 0 0 0 0 0)), (x, .inr (9, gF q 0 (nI 8) (-1) (-1) b 0 0)), (q 0, .inl (cT, 900, .inl f_8))] H := hP
  have hD : va_D A [(b, .inr (0, [.ref d0, .ref p0, .null])), (d0, .inl (cD, 0, .inr (.inr (.inr (.inr (fun _ => none)))))), (p0, .inl (cP, 0, .inr (.inr (.inr (.inr (fun _ => none)))))), (q 1, .inl (cB, 3, .inr (.inr (.inr (.inr (fun _ => none)))))), (q 2, .inl (cU, 3, .inl (fun _ => 0))), (q 3, .inr (6, rF r 0 0 0 0 0 0 0 0)), (x, .inr (9, gF q 0 (nI 8) (-1) (-1) b 0 0)), (q 0, .inl (cT, 900, .inl f_8))] := hD
  refine lv_aload_n hx hb dX9_feed_25 rfl (lv_at hl 0 rfl) ?_
  refine lv_iload_n hx hb dX9_feed_26 rfl (lv_at hl 3 rfl) ?_
  have hPc := hP.sub (ws' := [(x, .inr (9, gF q 0 (nI 8) (-1) (-1) b 0 0)), (q 0, .inl (cT, 900, .inl f_8))]) [6, 7] rfl
  have hKc := hK.sub (tys' := [(cT, .int)]) [0] rfl
  have hDc := hD.sub (ws' := [(x, .inr (9, gF q 0 (nI 8) (-1) (-1) b 0 0)), (q 0, .inl (cT, 900, .inl f_8))]) [6, 7] (by decide) rfl
  have hFc := va_free (wc := [(x, .inr (9, gF q 0 (nI 8) (-1) (-1) b 0 0)), (q 0, .inl (cT, 900, .inl f_8))]) hD hS hA [6, 7] rfl
  refine va_callv (va_runV (As := [.int i2]) (rest := []) ⟨hx, hb, hml, hown, hts⟩ (c_putBytes l dC dI x q 0 (-1) (-1) b 0 0 cT f_8 8 H.size i2 (by decide)) (cwV 1 hts mg_X9_feed_X9_putBytes_76 rfl rfl rfl (by decide +kernel) ⟨Nat.le_of_ble_eq_true rfl, Nat.le_of_ble_eq_true rfl⟩) ⟨fun a U g mk q => by obtain ⟨q0, q1, qP, qK, qD⟩ := q; exact ⟨q0, q1, qP, va_K.moved (u := U) (U := U.calling g mk a) (Vm.Alike.refl U.vm) qK, qD⟩, va_recv hKc hPc (ci := 9) (q0 := 0) rfl rfl, fun U hU hW => ⟨rfl, by rw [hU], by rw [hU]; exact hPc, va_K.moved hW.alike hKc, hDc.weaken (fun _ _ _ _ => trivial)⟩⟩ rfl rfl hl.1 rfl (lv_room (Nat.le_of_ble_eq_true rfl)) dX9_feed_27 ⟨Nat.le_of_ble_eq_true rfl, Nat.le_of_ble_eq_true rfl⟩) hS (fun q _ h => hFc q h) hFc (fun u t H1 locs ht hvm hw hB hz1 hk1 hS => ?_)
  obtain ⟨hP1, hK1, hD1⟩ := hB
  rw [ht] at hP1
  generalize u = f_11 at hP1 hD1
  obtain ⟨hP, hD⟩ := va_join (wr := [(b, .inr (0, [.ref d0, .ref p0, .null])), (d0, .inl (cD, 0, .inr (.inr (.inr (.inr (fun _ => none)))))), (p0, .inl (cP, 0, .inr (.inr (.inr (.inr (fun _ => none)))))), (q 1, .inl (cB, 3, .inr (.inr (.inr (.inr (fun _ => none)))))), (q 2, .inl (cU, 3, .inl (fun _ => 0))), (q 3, .inr (6, rF r 0 0 0 0 0 0 0 0))]) (w1 := [(x, .inr (9, gF q 0 (nI 12) (-1) (-1) b 0 0)), (q 0, .inl (cT, 900, .inl f_11))]) hP hD [6, 7] [0, 1, 2, 3, 4, 5] rfl rfl (by decide) (by decide) hk1 hFc hP1 hD1
  generalize H1 = H at hP hS ⊢
  have hP : va_P (dC, dI) vwCl [(b, .inr (0, [.ref d0, .ref p0, .null])), (d0, .inl (cD, 0, .inr (.inr (.inr (.inr (fun _ => none)))))), (p0, .inl (cP, 0, .inr (.inr (.inr (.inr (fun _ => none)))))), (q 1, .inl (cB, 3, .inr (.inr (.inr (.inr (fun _ => none)))))), (q 2, .inl (cU, 3, .inl (fun _ => 0))), (q 3, .inr (6, rF r 0 0 0 0 0 0 0 0)), (x, .inr (9, gF q 0 (nI 12) (-1) (-1) b 0 0)), (q 0, .inl (cT, 900, .inl f_11))] H := hP
  have hD : va_D A [(b, .inr (0, [.ref d0, .ref p0, .null])), (d0, .inl (cD, 0, .inr (.inr (.inr (.inr (fun _ => none)))))), (p0, .inl (cP, 0, .inr (.inr (.inr (.inr (fun _ => none)))))), (q 1, .inl (cB, 3, .inr (.inr (.inr (.inr (fun _ => none)))))), (q 2, .inl (cU, 3, .inl (fun _ => 0))), (q 3, .inr (6, rF r 0 0 0 0 0 0 0 0)), (x, .inr (9, gF q 0 (nI 12) (-1) (-1) b 0 0)), (q 0, .inl (cT, 900, .inl f_11))] := hD
  refine lv_aload_n hx hb dX9_feed_30 rfl (lv_at hl 0 rfl) ?_
  refine lv_iload hx hb dX9_feed_31 (lv_at hl 4 rfl) ?_
  have hPc := hP.sub (ws' := [(x, .inr (9, gF q 0 (nI 12) (-1) (-1) b 0 0)), (q 0, .inl (cT, 900, .inl f_11))]) [6, 7] rfl
  have hKc := hK.sub (tys' := [(cT, .int)]) [0] rfl
  have hDc := hD.sub (ws' := [(x, .inr (9, gF q 0 (nI 12) (-1) (-1) b 0 0)), (q 0, .inl (cT, 900, .inl f_11))]) [6, 7] (by decide) rfl
  have hFc := va_free (wc := [(x, .inr (9, gF q 0 (nI 12) (-1) (-1) b 0 0)), (q 0, .inl (cT, 900, .inl f_11))]) hD hS hA [6, 7] rfl
  refine va_callv (va_runV (As := [.int i3]) (rest := []) ⟨hx, hb, hml, hown, hts⟩ (c_putBytes l dC dI x q 0 (-1) (-1) b 0 0 cT f_11 12 H.size i3 (by decide)) (cwV 1 hts mg_X9_feed_X9_putBytes_76 rfl rfl rfl (by decide +kernel) ⟨Nat.le_of_ble_eq_true rfl, Nat.le_of_ble_eq_true rfl⟩) ⟨fun a U g mk q => by obtain ⟨q0, q1, qP, qK, qD⟩ := q; exact ⟨q0, q1, qP, va_K.moved (u := U) (U := U.calling g mk a) (Vm.Alike.refl U.vm) qK, qD⟩, va_recv hKc hPc (ci := 9) (q0 := 0) rfl rfl, fun U hU hW => ⟨rfl, by rw [hU], by rw [hU]; exact hPc, va_K.moved hW.alike hKc, hDc.weaken (fun _ _ _ _ => trivial)⟩⟩ rfl rfl hl.1 rfl (lv_room (Nat.le_of_ble_eq_true rfl)) dX9_feed_33 ⟨Nat.le_of_ble_eq_true rfl, Nat.le_of_ble_eq_true rfl⟩) hS (fun q _ h => hFc q h) hFc (fun u t H1 locs ht hvm hw hB hz1 hk1 hS => ?_)
  obtain ⟨hP1, hK1, hD1⟩ := hB
  rw [ht] at hP1
  generalize u = f_14 at hP1 hD1
  obtain ⟨hP, hD⟩ := va_join (wr := [(b, .inr (0, [.ref d0, .ref p0, .null])), (d0, .inl (cD, 0, .inr (.inr (.inr (.inr (fun _ => none)))))), (p0, .inl (cP, 0, .inr (.inr (.inr (.inr (fun _ => none)))))), (q 1, .inl (cB, 3, .inr (.inr (.inr (.inr (fun _ => none)))))), (q 2, .inl (cU, 3, .inl (fun _ => 0))), (q 3, .inr (6, rF r 0 0 0 0 0 0 0 0))]) (w1 := [(x, .inr (9, gF q 0 (nI 16) (-1) (-1) b 0 0)), (q 0, .inl (cT, 900, .inl f_14))]) hP hD [6, 7] [0, 1, 2, 3, 4, 5] rfl rfl (by decide) (by decide) hk1 hFc hP1 hD1
  generalize H1 = H at hP hS ⊢
  have hP : va_P (dC, dI) vwCl [(b, .inr (0, [.ref d0, .ref p0, .null])), (d0, .inl (cD, 0, .inr (.inr (.inr (.inr (fun _ => none)))))), (p0, .inl (cP, 0, .inr (.inr (.inr (.inr (fun _ => none)))))), (q 1, .inl (cB, 3, .inr (.inr (.inr (.inr (fun _ => none)))))), (q 2, .inl (cU, 3, .inl (fun _ => 0))), (q 3, .inr (6, rF r 0 0 0 0 0 0 0 0)), (x, .inr (9, gF q 0 (nI 16) (-1) (-1) b 0 0)), (q 0, .inl (cT, 900, .inl f_14))] H := hP
  have hD : va_D A [(b, .inr (0, [.ref d0, .ref p0, .null])), (d0, .inl (cD, 0, .inr (.inr (.inr (.inr (fun _ => none)))))), (p0, .inl (cP, 0, .inr (.inr (.inr (.inr (fun _ => none)))))), (q 1, .inl (cB, 3, .inr (.inr (.inr (.inr (fun _ => none)))))), (q 2, .inl (cU, 3, .inl (fun _ => 0))), (q 3, .inr (6, rF r 0 0 0 0 0 0 0 0)), (x, .inr (9, gF q 0 (nI 16) (-1) (-1) b 0 0)), (q 0, .inl (cT, 900, .inl f_14))] := hD
  refine lv_aload_n hx hb dX9_feed_36 rfl (lv_at hl 0 rfl) ?_
  refine lv_iload hx hb dX9_feed_37 (lv_at hl 5 rfl) ?_
  have hPc := hP.sub (ws' := [(x, .inr (9, gF q 0 (nI 16) (-1) (-1) b 0 0)), (q 0, .inl (cT, 900, .inl f_14))]) [6, 7] rfl
  have hKc := hK.sub (tys' := [(cT, .int)]) [0] rfl
  have hDc := hD.sub (ws' := [(x, .inr (9, gF q 0 (nI 16) (-1) (-1) b 0 0)), (q 0, .inl (cT, 900, .inl f_14))]) [6, 7] (by decide) rfl
  have hFc := va_free (wc := [(x, .inr (9, gF q 0 (nI 16) (-1) (-1) b 0 0)), (q 0, .inl (cT, 900, .inl f_14))]) hD hS hA [6, 7] rfl
  refine va_callv (va_runV (As := [.int i4]) (rest := []) ⟨hx, hb, hml, hown, hts⟩ (c_putBytes l dC dI x q 0 (-1) (-1) b 0 0 cT f_14 16 H.size i4 (by decide)) (cwV 1 hts mg_X9_feed_X9_putBytes_76 rfl rfl rfl (by decide +kernel) ⟨Nat.le_of_ble_eq_true rfl, Nat.le_of_ble_eq_true rfl⟩) ⟨fun a U g mk q => by obtain ⟨q0, q1, qP, qK, qD⟩ := q; exact ⟨q0, q1, qP, va_K.moved (u := U) (U := U.calling g mk a) (Vm.Alike.refl U.vm) qK, qD⟩, va_recv hKc hPc (ci := 9) (q0 := 0) rfl rfl, fun U hU hW => ⟨rfl, by rw [hU], by rw [hU]; exact hPc, va_K.moved hW.alike hKc, hDc.weaken (fun _ _ _ _ => trivial)⟩⟩ rfl rfl hl.1 rfl (lv_room (Nat.le_of_ble_eq_true rfl)) dX9_feed_39 ⟨Nat.le_of_ble_eq_true rfl, Nat.le_of_ble_eq_true rfl⟩) hS (fun q _ h => hFc q h) hFc (fun u t H1 locs ht hvm hw hB hz1 hk1 hS => ?_)
  obtain ⟨hP1, hK1, hD1⟩ := hB
  rw [ht] at hP1
  generalize u = f_17 at hP1 hD1
  obtain ⟨hP, hD⟩ := va_join (wr := [(b, .inr (0, [.ref d0, .ref p0, .null])), (d0, .inl (cD, 0, .inr (.inr (.inr (.inr (fun _ => none)))))), (p0, .inl (cP, 0, .inr (.inr (.inr (.inr (fun _ => none)))))), (q 1, .inl (cB, 3, .inr (.inr (.inr (.inr (fun _ => none)))))), (q 2, .inl (cU, 3, .inl (fun _ => 0))), (q 3, .inr (6, rF r 0 0 0 0 0 0 0 0))]) (w1 := [(x, .inr (9, gF q 0 (nI 20) (-1) (-1) b 0 0)), (q 0, .inl (cT, 900, .inl f_17))]) hP hD [6, 7] [0, 1, 2, 3, 4, 5] rfl rfl (by decide) (by decide) hk1 hFc hP1 hD1
  generalize H1 = H at hP hS ⊢
  have hP : va_P (dC, dI) vwCl [(b, .inr (0, [.ref d0, .ref p0, .null])), (d0, .inl (cD, 0, .inr (.inr (.inr (.inr (fun _ => none)))))), (p0, .inl (cP, 0, .inr (.inr (.inr (.inr (fun _ => none)))))), (q 1, .inl (cB, 3, .inr (.inr (.inr (.inr (fun _ => none)))))), (q 2, .inl (cU, 3, .inl (fun _ => 0))), (q 3, .inr (6, rF r 0 0 0 0 0 0 0 0)), (x, .inr (9, gF q 0 (nI 20) (-1) (-1) b 0 0)), (q 0, .inl (cT, 900, .inl f_17))] H := hP
  have hD : va_D A [(b, .inr (0, [.ref d0, .ref p0, .null])), (d0, .inl (cD, 0, .inr (.inr (.inr (.inr (fun _ => none)))))), (p0, .inl (cP, 0, .inr (.inr (.inr (.inr (fun _ => none)))))), (q 1, .inl (cB, 3, .inr (.inr (.inr (.inr (fun _ => none)))))), (q 2, .inl (cU, 3, .inl (fun _ => 0))), (q 3, .inr (6, rF r 0 0 0 0 0 0 0 0)), (x, .inr (9, gF q 0 (nI 20) (-1) (-1) b 0 0)), (q 0, .inl (cT, 900, .inl f_17))] := hD
  refine lv_aload_n hx hb dX9_feed_42 rfl (lv_at hl 0 rfl) ?_
  refine va_get (D := (dC, dI)) (ci := 9) (v := .int (nI 20)) (C := RX9) (T := TX9) (N := 16) hx hb hts fin_X9_feed_X9 hown hK hP 6 rfl rfl 2 (by decide) (hts (.fieldLink RX9 73 "PatternGate" "taped" "I") (List.mem_of_getElem? (i := 1) (by decide +kernel))) (fun _ h9 => h9) rfl dX9_feed_43 ?_
  exact W.iret hx hb hr (fun t ht hW => ⟨⟨_, (), rfl, rfl, trivial⟩, hS.F ht⟩) hS.2.2 dX9_feed_46

theorem gi_sub {big A : List Cond} (hA : A.all goodWord = true) (hs : ∀ w ∈ A, w ∈ big) : GoodIn big A := fun w h => ⟨hs w h, good_of_word (List.all_eq_true.mp hA w h)⟩
theorem gi_app {big A B : List Cond} (h1 : GoodIn big A) (h2 : GoodIn big B) : GoodIn big (A ++ B) := fun w h => (List.mem_append.mp h).elim (h1 w) (h2 w)
theorem i_rem {x z y : Int32} {a b : Int} (ha : x.toInt = a) (hb : z.toInt = b) (h0 : 0 ≤ a) (h1 : 0 < b) (e : y = x - x / z * z) : 0 ≤ y.toInt ∧ y.toInt < b := by
  have ra := i_rng x
  have rb := i_rng z
  have hd : (x / z).toInt = a / b := i_div (y := x / z) ha hb h0 h1 rfl
  have e1 : a / b * b ≤ a := Int.ediv_mul_le a (by omega)
  have e2 : a < (a / b + 1) * b := Int.lt_ediv_add_one_mul_self a h1
  have e3 : 0 ≤ a / b := Int.ediv_nonneg h0 (by omega)
  have e4 : 0 ≤ a / b * b := Int.mul_nonneg e3 (by omega)
  have hm : (x / z * z).toInt = a / b * b := i_mul (a := a / b) (b := b) hd hb rfl (by omega) (by omega)
  have hs := i_sub (a := a) (b := a / b * b) ha hm e (by omega) (by omega)
  rw [Int.add_mul, Int.one_mul] at e2
  omega
theorem OKd.sz {f : Nat → Int32} {d : Int} (h : OKd f 0) (h0 : 0 ≤ d) (h1 : d < vI f 0) : 1 ≤ vI f (1 + d) ∧ vI f (1 + d) ≤ 60 := by
  have a := h.2.1 d h0 h1
  rw [show (0 : Int) + 1 + d = 1 + d by omega] at a
  exact ⟨a.1, a.2.1⟩
theorem OKd.lt {f : Nat → Int32} {d k : Int} (h : OKd f 0) (h0 : 0 ≤ d) (h1 : d < vI f 0) (k0 : 0 ≤ k) (k1 : k < vI f (1 + d)) : 0 ≤ vI f (11 + 60 * d + k) ∧ vI f (11 + 60 * d + k) ≤ 25 := by
  have a := h.2.1 d h0 h1
  rw [show (0 : Int) + 1 + d = 1 + d by omega] at a
  have b := a.2.2 k k0 k1
  rw [show (0 : Int) + 11 + 60 * d + k = 11 + 60 * d + k by omega] at b
  exact b
theorem OKd.ps {f : Nat → Int32} {p : Int} (h : OKd f 0) (h0 : 0 ≤ p) (h1 : p < vI f 611) : 1 ≤ vI f (612 + p) ∧ vI f (612 + p) ≤ 900 := (h.pt h0 h1).1
/-- what always holds of the reference -/
def mI (a k t : Int) (f : Nat → Int32) (P : Nat → Nat → Nat) : Prop := (0 ≤ a ∧ a ≤ 8) ∧ (0 ≤ k ∧ k ≤ 3) ∧ (0 ≤ t ∧ t ≤ 900) ∧ OKd f 0 ∧ (∀ j : Int, 0 ≤ j → j < a → OKd f (15640 + 7820 * j)) ∧ (∀ j : Int, 0 ≤ j → j < k → OKd f (78200 + 7820 * j)) ∧ PI P
theorem mI.d {a k t : Int} {f : Nat → Int32} {P : Nat → Nat → Nat} (h : mI a k t f P) : OKd f 0 := h.2.2.2.1
theorem mI.p {a k t : Int} {f : Nat → Int32} {P : Nat → Nat → Nat} (h : mI a k t f P) : PI P := h.2.2.2.2.2.2
theorem mI.setP {a k t : Int} {f : Nat → Int32} {P P' : Nat → Nat → Nat} (h : mI a k t f P) (hp : PI P') : mI a k t f P' := ⟨h.1, h.2.1, h.2.2.1, h.2.2.2.1, h.2.2.2.2.1, h.2.2.2.2.2.1, hp⟩
theorem mI.setT {a k t t' : Int} {f : Nat → Int32} {P : Nat → Nat → Nat} (h : mI a k t f P) (h0 : 0 ≤ t') (h1 : t' ≤ 900) : mI a k t' f P := ⟨h.1, h.2.1, ⟨h0, h1⟩, h.2.2.2⟩
theorem dX10_tripleAt_0 : decode cX10_tripleAt 0 = .ok (.sipush 676, 3) := by decide +kernel
theorem dX10_tripleAt_3 : decode cX10_tripleAt 3 = .ok (.aload_n 0, 1) := by decide +kernel
theorem dX10_tripleAt_4 : decode cX10_tripleAt 4 = .ok (.iload_n 1, 1) := by decide +kernel
theorem dX10_tripleAt_5 : decode cX10_tripleAt 5 = .ok (.iload_n 2, 1) := by decide +kernel
theorem dX10_tripleAt_6 : decode cX10_tripleAt 6 = .ok (.invokevirtual 399, 3) := by decide +kernel
theorem dX10_tripleAt_9 : decode cX10_tripleAt 9 = .ok (.imul, 1) := by decide +kernel
theorem dX10_tripleAt_10 : decode cX10_tripleAt 10 = .ok (.bipush 26, 2) := by decide +kernel
theorem dX10_tripleAt_12 : decode cX10_tripleAt 12 = .ok (.aload_n 0, 1) := by decide +kernel
theorem dX10_tripleAt_13 : decode cX10_tripleAt 13 = .ok (.iload_n 1, 1) := by decide +kernel
theorem dX10_tripleAt_14 : decode cX10_tripleAt 14 = .ok (.iload_n 2, 1) := by decide +kernel
theorem dX10_tripleAt_15 : decode cX10_tripleAt 15 = .ok (.iconst 1, 1) := by decide +kernel
theorem dX10_tripleAt_16 : decode cX10_tripleAt 16 = .ok (.iadd, 1) := by decide +kernel
theorem dX10_tripleAt_17 : decode cX10_tripleAt 17 = .ok (.invokevirtual 399, 3) := by decide +kernel
theorem dX10_tripleAt_20 : decode cX10_tripleAt 20 = .ok (.imul, 1) := by decide +kernel
theorem dX10_tripleAt_21 : decode cX10_tripleAt 21 = .ok (.iadd, 1) := by decide +kernel
theorem dX10_tripleAt_22 : decode cX10_tripleAt 22 = .ok (.aload_n 0, 1) := by decide +kernel
theorem dX10_tripleAt_23 : decode cX10_tripleAt 23 = .ok (.iload_n 1, 1) := by decide +kernel
theorem dX10_tripleAt_24 : decode cX10_tripleAt 24 = .ok (.iload_n 2, 1) := by decide +kernel
theorem dX10_tripleAt_25 : decode cX10_tripleAt 25 = .ok (.iconst 2, 1) := by decide +kernel
theorem dX10_tripleAt_26 : decode cX10_tripleAt 26 = .ok (.iadd, 1) := by decide +kernel
theorem dX10_tripleAt_27 : decode cX10_tripleAt 27 = .ok (.invokevirtual 399, 3) := by decide +kernel
theorem dX10_tripleAt_30 : decode cX10_tripleAt 30 = .ok (.iadd, 1) := by decide +kernel
theorem dX10_tripleAt_31 : decode cX10_tripleAt 31 = .ok (.ireturn, 1) := by decide +kernel
def mwX10_tripleAtm : List Cond := .code yX10_tripleAt cX10_tripleAt 3 (some .int) :: (([.methodLink RX10 399 yX10_at, .instanceMethod yX10_at, .selects RX10 yX10_at yX10_at, .initialized RX10] : List Cond) ++ (mwX10_atm))
set_option maxRecDepth 100000 in
theorem gd_mwX10_atm : mwX10_atm.all goodWord = true := by decide +kernel
set_option maxRecDepth 20000 in
theorem mg_X10_tripleAtm_X10_at_399 : GoodIn mwX10_tripleAtm (wsV RX10 399 RX10 yX10_at mwX10_atm) := gi_app (A := [.methodLink RX10 399 yX10_at, .instanceMethod yX10_at, .selects RX10 yX10_at yX10_at, .initialized RX10]) (goodIn_r _ [1, 2, 3, 4] (by decide +kernel) (by decide +kernel)) (gi_sub gd_mwX10_atm (fun w h => List.mem_cons_of_mem _ (List.mem_append_right _ (h))))
set_option maxHeartbeats 4000000 in
set_option maxRecDepth 100000 in
theorem m_tripleAt (l : Launch) (dC : Nat → ClassId) (dI : Nat → Nat → Nat) (ad : Nat → Nat) (kc : Nat → ClassId) (x0 x1 x2 x3 x4 x5 x6 x7 x8 x9 x10 x11 x12 x13 x14 x15 x16 x17 x18 x19 x20 x21 : Int32) (f0 f1 f2 f3 f4 f5 f6 f7 f8 f9 f10 f11 f12 f13 f14 f15 f16 f17 f18 f19 f20 f21 : Nat → Int32) (fL : Nat → Nat → Int64) (fN : Nat → Nat → Int32) (fP : Nat → Nat → Nat) (fM : Nat → Nat → Int32) (fO : Nat → Nat → Int32) (i1 i2 : Int32) (q0 : OKd f0 0) (q1 : 0 ≤ i1.toInt ∧ i1.toInt < vI f0 0) (q2 : 0 ≤ i2.toInt ∧ i2.toInt + 2 < vI f0 (1 + i1.toInt)) : Met l yX10_tripleAt mwX10_tripleAtm ({ frames := 1, cells := 0, slots := 0, locals := 60 }) (va_Pc [.ref (ad 0), .int i1, .int i2] (fun U => va_P (dC, dI) vwCl (mW ad kc x0 x1 x2 x3 x4 x5 x6 x7 x8 x9 x10 x11 x12 x13 x14 x15 x16 x17 x18 x19 x20 x21 f0 f1 f2 f3 f4 f5 f6 f7 f8 f9 f10 f11 f12 f13 f14 f15 f16 f17 f18 f19 f20 f21 fL fN fP fM fO) U.heap ∧ va_K (dC, dI) vwCl (mT kc) U)) (vp_Si (fun o9 => (0 ≤ o9.toInt ∧ o9.toInt ≤ 17575))) 0 0 (fun _ => False) := by
  refine Met.ofW (cc := cX10_tripleAt) (maxL := 3) (ret := (some .int)) (by decide +kernel) rfl ?_
  intro p e s m args below meth c s₁ B hml hv
  obtain ⟨rfl, hP, hK⟩ := hv
  have hx := B.exec
  have hb := B.bytes
  have hr := B.returns
  have hts := atoms_spec (ws := mwX10_tripleAtm) B.pre
  have hown : s.vm.findClass RX10 = some m.cls := findClass_of_methodNamed B.named
  have hlocks := B.notSynchronized
  have hP : va_P (dC, dI) vwCl (mW ad kc x0 x1 x2 x3 x4 x5 x6 x7 x8 x9 x10 x11 x12 x13 x14 x15 x16 x17 x18 x19 x20 x21 f0 f1 f2 f3 f4 f5 f6 f7 f8 f9 f10 f11 f12 f13 f14 f15 f16 f17 f18 f19 f20 f21 fL fN fP fM fO) s.heap := hP
  have hK : va_K (dC, dI) vwCl (mT kc) s := hK
  generalize hH : s.heap = H at hP ⊢
  have hl := lv_entry ([.ref (ad 0), .int i1, .int i2]) (n := 3) (Nat.le_of_ble_eq_true rfl)
  rw [lg_entry_eq]
  generalize (lg_sl ([.ref (ad 0), .int i1, .int i2]) ++ List.replicate (3 - (lg_sl ([.ref (ad 0), .int i1, .int i2])).length) Slot.unset).toArray = ls at hl ⊢
  have hl : lv_has ls 3 [(0, .ref (ad 0)), (1, .int i1), (2, .int i2)] := hl
  have rg_i1 := i_rng i1
  have rg_i2 := i_rng i2
  have hd10 := q0.n0
  have hsz := q0.sz q1.1 q1.2
  refine lv_sipush (v := 676) hx hb dX10_tripleAt_0 (by decide) ?_
  refine lv_aload_n hx hb dX10_tripleAt_3 rfl (lv_at hl 0 rfl) ?_
  refine lv_iload_n hx hb dX10_tripleAt_4 rfl (lv_at hl 1 rfl) ?_
  refine lv_iload_n hx hb dX10_tripleAt_5 rfl (lv_at hl 2 rfl) ?_
  refine vp_callSi (W.runV (As := [.int i1, .int i2]) (rest := [.int 676]) ⟨hx, hb, hml, hown, hts⟩ (m_at l dC dI ad kc x0 x1 x2 x3 x4 x5 x6 x7 x8 x9 x10 x11 x12 x13 x14 x15 x16 x17 x18 x19 x20 x21 f0 f1 f2 f3 f4 f5 f6 f7 f8 f9 f10 f11 f12 f13 f14 f15 f16 f17 f18 f19 f20 f21 fL fN fP fM fO i1 i2 (by first | omega | assumption | decide | (have l0 := Int32.toInt_zero; omega)) (by first | omega | assumption | decide | (have l0 := Int32.toInt_zero; omega)) (by first | omega | assumption | decide | (have l0 := Int32.toInt_zero; omega)) (by first | omega | assumption | decide | (have l0 := Int32.toInt_zero; omega))) (cwV 2 hts mg_X10_tripleAtm_X10_at_399 rfl rfl rfl (by decide +kernel) ⟨Nat.le_of_ble_eq_true rfl, Nat.le_of_ble_eq_true rfl⟩) ⟨fun a U g mk q => by obtain ⟨q0, qP, qK⟩ := q; exact ⟨q0, qP, va_K.moved (u := U) (U := U.calling g mk a) (Vm.Alike.refl U.vm) qK⟩, va_recv hK hP (ci := 10) (q0 := 0) rfl rfl, fun U hU hW => ⟨rfl, by rw [hU]; exact hP, va_K.moved hW.alike hK⟩⟩ rfl rfl hl.1 rfl (lv_room (Nat.le_of_ble_eq_true rfl)) dX10_tripleAt_6 ⟨Nat.le_of_ble_eq_true rfl, Nat.le_of_ble_eq_true rfl⟩) (fun r_1 hr_1 => ?_)
  have rg_r_1 := i_rng r_1
  have hlr_1 := OKd.lt q0 (d := i1.toInt) (k := i2.toInt) (by omega) (by omega) (by omega) (by omega)
  refine lv_imul hx hb dX10_tripleAt_9 ?_
  refine lv_topi (fun y_2 ey_2 => ?_)
  first | have ty_2 := i_mul (a := 676) (b := r_1.toInt) (by decide) rfl ey_2 (by omega) (by omega) | skip
  refine lv_bipush (v := 26) hx hb dX10_tripleAt_10 (by decide) ?_
  refine lv_aload_n hx hb dX10_tripleAt_12 rfl (lv_at hl 0 rfl) ?_
  refine lv_iload_n hx hb dX10_tripleAt_13 rfl (lv_at hl 1 rfl) ?_
  refine lv_iload_n hx hb dX10_tripleAt_14 rfl (lv_at hl 2 rfl) ?_
  refine lv_iconst (v := 1) hx hb dX10_tripleAt_15 (by decide) ?_
  refine lv_iadd hx hb dX10_tripleAt_16 ?_
  refine lv_topi (fun y_3 ey_3 => ?_)
  first | have ty_3 := i_add (a := i2.toInt) (b := 1) rfl (by decide) ey_3 (by omega) (by omega) | skip
  refine vp_callSi (W.runV (As := [.int i1, .int y_3]) (rest := [.int 26, .int y_2]) ⟨hx, hb, hml, hown, hts⟩ (m_at l dC dI ad kc x0 x1 x2 x3 x4 x5 x6 x7 x8 x9 x10 x11 x12 x13 x14 x15 x16 x17 x18 x19 x20 x21 f0 f1 f2 f3 f4 f5 f6 f7 f8 f9 f10 f11 f12 f13 f14 f15 f16 f17 f18 f19 f20 f21 fL fN fP fM fO i1 y_3 (by first | omega | assumption | decide | (have l0 := Int32.toInt_zero; omega)) (by first | omega | assumption | decide | (have l0 := Int32.toInt_zero; omega)) (by first | omega | assumption | decide | (have l0 := Int32.toInt_zero; omega)) (by first | omega | assumption | decide | (have l0 := Int32.toInt_zero; omega))) (cwV 2 hts mg_X10_tripleAtm_X10_at_399 rfl rfl rfl (by decide +kernel) ⟨Nat.le_of_ble_eq_true rfl, Nat.le_of_ble_eq_true rfl⟩) ⟨fun a U g mk q => by obtain ⟨q0, qP, qK⟩ := q; exact ⟨q0, qP, va_K.moved (u := U) (U := U.calling g mk a) (Vm.Alike.refl U.vm) qK⟩, va_recv hK hP (ci := 10) (q0 := 0) rfl rfl, fun U hU hW => ⟨rfl, by rw [hU]; exact hP, va_K.moved hW.alike hK⟩⟩ rfl rfl hl.1 rfl (lv_room (Nat.le_of_ble_eq_true rfl)) dX10_tripleAt_17 ⟨Nat.le_of_ble_eq_true rfl, Nat.le_of_ble_eq_true rfl⟩) (fun r_4 hr_4 => ?_)
  have rg_r_4 := i_rng r_4
  have hlr_4 := OKd.lt q0 (d := i1.toInt) (k := y_3.toInt) (by omega) (by omega) (by omega) (by omega)
  refine lv_imul hx hb dX10_tripleAt_20 ?_
  refine lv_topi (fun y_5 ey_5 => ?_)
  first | have ty_5 := i_mul (a := 26) (b := r_4.toInt) (by decide) rfl ey_5 (by omega) (by omega) | skip
  refine lv_iadd hx hb dX10_tripleAt_21 ?_
  refine lv_topi (fun y_6 ey_6 => ?_)
  first | have ty_6 := i_add (a := y_2.toInt) (b := y_5.toInt) rfl rfl ey_6 (by omega) (by omega) | skip
  refine lv_aload_n hx hb dX10_tripleAt_22 rfl (lv_at hl 0 rfl) ?_
  refine lv_iload_n hx hb dX10_tripleAt_23 rfl (lv_at hl 1 rfl) ?_
  refine lv_iload_n hx hb dX10_tripleAt_24 rfl (lv_at hl 2 rfl) ?_
  refine lv_iconst (v := 2) hx hb dX10_tripleAt_25 (by decide) ?_
  refine lv_iadd hx hb dX10_tripleAt_26 ?_
  refine lv_topi (fun y_7 ey_7 => ?_)
  first | have ty_7 := i_add (a := i2.toInt) (b := 2) rfl (by decide) ey_7 (by omega) (by omega) | skip
  refine vp_callSi (W.runV (As := [.int i1, .int y_7]) (rest := [.int y_6]) ⟨hx, hb, hml, hown, hts⟩ (m_at l dC dI ad kc x0 x1 x2 x3 x4 x5 x6 x7 x8 x9 x10 x11 x12 x13 x14 x15 x16 x17 x18 x19 x20 x21 f0 f1 f2 f3 f4 f5 f6 f7 f8 f9 f10 f11 f12 f13 f14 f15 f16 f17 f18 f19 f20 f21 fL fN fP fM fO i1 y_7 (by first | omega | assumption | decide | (have l0 := Int32.toInt_zero; omega)) (by first | omega | assumption | decide | (have l0 := Int32.toInt_zero; omega)) (by first | omega | assumption | decide | (have l0 := Int32.toInt_zero; omega)) (by first | omega | assumption | decide | (have l0 := Int32.toInt_zero; omega))) (cwV 2 hts mg_X10_tripleAtm_X10_at_399 rfl rfl rfl (by decide +kernel) ⟨Nat.le_of_ble_eq_true rfl, Nat.le_of_ble_eq_true rfl⟩) ⟨fun a U g mk q => by obtain ⟨q0, qP, qK⟩ := q; exact ⟨q0, qP, va_K.moved (u := U) (U := U.calling g mk a) (Vm.Alike.refl U.vm) qK⟩, va_recv hK hP (ci := 10) (q0 := 0) rfl rfl, fun U hU hW => ⟨rfl, by rw [hU]; exact hP, va_K.moved hW.alike hK⟩⟩ rfl rfl hl.1 rfl (lv_room (Nat.le_of_ble_eq_true rfl)) dX10_tripleAt_27 ⟨Nat.le_of_ble_eq_true rfl, Nat.le_of_ble_eq_true rfl⟩) (fun r_8 hr_8 => ?_)
  have rg_r_8 := i_rng r_8
  have hlr_8 := OKd.lt q0 (d := i1.toInt) (k := y_7.toInt) (by omega) (by omega) (by omega) (by omega)
  refine lv_iadd hx hb dX10_tripleAt_30 ?_
  refine lv_topi (fun y_9 ey_9 => ?_)
  first | have ty_9 := i_add (a := y_6.toInt) (b := r_8.toInt) rfl rfl ey_9 (by omega) (by omega) | skip
  exact W.iret hx hb hr (fun t ht hW => ⟨_, rfl, (by first | omega | assumption | rfl | decide), ht.trans hH.symm⟩) t_nil dX10_tripleAt_31
theorem dX10_stands_0 : decode cX10_stands 0 = .ok (.iconst 0, 1) := by decide +kernel
theorem dX10_stands_1 : decode cX10_stands 1 = .ok (.istore_n 3, 1) := by decide +kernel
theorem dX10_stands_2 : decode cX10_stands 2 = .ok (.iload_n 3, 1) := by decide +kernel
theorem dX10_stands_3 : decode cX10_stands 3 = .ok (.iconst 2, 1) := by decide +kernel
theorem dX10_stands_4 : decode cX10_stands 4 = .ok (.iadd, 1) := by decide +kernel
theorem dX10_stands_5 : decode cX10_stands 5 = .ok (.aload_n 0, 1) := by decide +kernel
theorem dX10_stands_6 : decode cX10_stands 6 = .ok (.iload_n 1, 1) := by decide +kernel
theorem dX10_stands_7 : decode cX10_stands 7 = .ok (.invokevirtual 396, 3) := by decide +kernel
theorem dX10_stands_10 : decode cX10_stands 10 = .ok (.if_icmp .ge 21, 3) := by decide +kernel
theorem dX10_stands_13 : decode cX10_stands 13 = .ok (.aload_n 0, 1) := by decide +kernel
theorem dX10_stands_14 : decode cX10_stands 14 = .ok (.iload_n 1, 1) := by decide +kernel
theorem dX10_stands_15 : decode cX10_stands 15 = .ok (.iload_n 3, 1) := by decide +kernel
theorem dX10_stands_16 : decode cX10_stands 16 = .ok (.invokevirtual 408, 3) := by decide +kernel
theorem dX10_stands_19 : decode cX10_stands 19 = .ok (.iload_n 2, 1) := by decide +kernel
theorem dX10_stands_20 : decode cX10_stands 20 = .ok (.if_icmp .ne 5, 3) := by decide +kernel
theorem dX10_stands_23 : decode cX10_stands 23 = .ok (.iconst 1, 1) := by decide +kernel
theorem dX10_stands_24 : decode cX10_stands 24 = .ok (.ireturn, 1) := by decide +kernel
theorem dX10_stands_25 : decode cX10_stands 25 = .ok (.iinc 3 1, 3) := by decide +kernel
theorem dX10_stands_28 : decode cX10_stands 28 = .ok (.goto (-26), 3) := by decide +kernel
theorem dX10_stands_31 : decode cX10_stands 31 = .ok (.iconst 0, 1) := by decide +kernel
theorem dX10_stands_32 : decode cX10_stands 32 = .ok (.ireturn, 1) := by decide +kernel
def mwX10_standsm : List Cond := .code yX10_stands cX10_stands 4 (some .boolean) :: (([.methodLink RX10 396 yX10_sizeOf, .instanceMethod yX10_sizeOf, .selects RX10 yX10_sizeOf yX10_sizeOf, .initialized RX10, .methodLink RX10 408 yX10_tripleAt, .instanceMethod yX10_tripleAt, .selects RX10 yX10_tripleAt yX10_tripleAt] : List Cond) ++ (mwX10_sizeOfm ++ (mwX10_tripleAtm)))
set_option maxRecDepth 100000 in
theorem gd_mwX10_sizeOfm : mwX10_sizeOfm.all goodWord = true := by decide +kernel
set_option maxRecDepth 100000 in
theorem gd_mwX10_tripleAtm : mwX10_tripleAtm.all goodWord = true := by decide +kernel
set_option maxRecDepth 20000 in
theorem mg_X10_standsm_X10_sizeOf_396 : GoodIn mwX10_standsm (wsV RX10 396 RX10 yX10_sizeOf mwX10_sizeOfm) := gi_app (A := [.methodLink RX10 396 yX10_sizeOf, .instanceMethod yX10_sizeOf, .selects RX10 yX10_sizeOf yX10_sizeOf, .initialized RX10]) (goodIn_r _ [1, 2, 3, 4] (by decide +kernel) (by decide +kernel)) (gi_sub gd_mwX10_sizeOfm (fun w h => List.mem_cons_of_mem _ (List.mem_append_right _ (List.mem_append_left _ h))))
set_option maxRecDepth 20000 in
theorem mg_X10_standsm_X10_tripleAt_408 : GoodIn mwX10_standsm (wsV RX10 408 RX10 yX10_tripleAt mwX10_tripleAtm) := gi_app (A := [.methodLink RX10 408 yX10_tripleAt, .instanceMethod yX10_tripleAt, .selects RX10 yX10_tripleAt yX10_tripleAt, .initialized RX10]) (goodIn_r _ [5, 6, 7, 4] (by decide +kernel) (by decide +kernel)) (gi_sub gd_mwX10_tripleAtm (fun w h => List.mem_cons_of_mem _ (List.mem_append_right _ (List.mem_append_right _ (h)))))
set_option maxHeartbeats 4000000 in
set_option maxRecDepth 100000 in
theorem m_stands (l : Launch) (dC : Nat → ClassId) (dI : Nat → Nat → Nat) (ad : Nat → Nat) (kc : Nat → ClassId) (x0 x1 x2 x3 x4 x5 x6 x7 x8 x9 x10 x11 x12 x13 x14 x15 x16 x17 x18 x19 x20 x21 : Int32) (f0 f1 f2 f3 f4 f5 f6 f7 f8 f9 f10 f11 f12 f13 f14 f15 f16 f17 f18 f19 f20 f21 : Nat → Int32) (fL : Nat → Nat → Int64) (fN : Nat → Nat → Int32) (fP : Nat → Nat → Nat) (fM : Nat → Nat → Int32) (fO : Nat → Nat → Int32) (sz : Nat) (i1 i2 : Int32) (q0 : OKd f0 0) (q1 : 0 ≤ i1.toInt ∧ i1.toInt < vI f0 0) : Met l yX10_stands mwX10_standsm ({ frames := 2, cells := 0, slots := 0, locals := 120 }) (va_Pc [.ref (ad 0), .int i1, .int i2] (fun U => U.heap.size = sz ∧ va_P (dC, dI) vwCl (mW ad kc x0 x1 x2 x3 x4 x5 x6 x7 x8 x9 x10 x11 x12 x13 x14 x15 x16 x17 x18 x19 x20 x21 f0 f1 f2 f3 f4 f5 f6 f7 f8 f9 f10 f11 f12 f13 f14 f15 f16 f17 f18 f19 f20 f21 fL fN fP fM fO) U.heap ∧ va_K (dC, dI) vwCl (mT kc) U ∧ va_D (fun _ => True) (mW ad kc x0 x1 x2 x3 x4 x5 x6 x7 x8 x9 x10 x11 x12 x13 x14 x15 x16 x17 x18 x19 x20 x21 f0 f1 f2 f3 f4 f5 f6 f7 f8 f9 f10 f11 f12 f13 f14 f15 f16 f17 f18 f19 f20 f21 fL fN fP fM fO))) (va_Qi (fun (o9 u9 : Int32) => o9 = u9) (fun (o9 : Int32) t => (o9.toInt = 0 ∨ o9.toInt = 1) ∧ va_P (dC, dI) vwCl (mW ad kc x0 x1 x2 x3 x4 x5 x6 x7 x8 x9 x10 x11 x12 x13 x14 x15 x16 x17 x18 x19 x20 x21 f0 f1 f2 f3 f4 f5 f6 f7 f8 f9 f10 f11 f12 f13 f14 f15 f16 f17 f18 f19 f20 f21 fL fN fP fM fO) t.heap ∧ va_K (dC, dI) vwCl (mT kc) t ∧ va_D (va_A (mW ad kc x0 x1 x2 x3 x4 x5 x6 x7 x8 x9 x10 x11 x12 x13 x14 x15 x16 x17 x18 x19 x20 x21 f0 f1 f2 f3 f4 f5 f6 f7 f8 f9 f10 f11 f12 f13 f14 f15 f16 f17 f18 f19 f20 f21 fL fN fP fM fO) sz) (mW ad kc x0 x1 x2 x3 x4 x5 x6 x7 x8 x9 x10 x11 x12 x13 x14 x15 x16 x17 x18 x19 x20 x21 f0 f1 f2 f3 f4 f5 f6 f7 f8 f9 f10 f11 f12 f13 f14 f15 f16 f17 f18 f19 f20 f21 fL fN fP fM fO)) (va_A (mW ad kc x0 x1 x2 x3 x4 x5 x6 x7 x8 x9 x10 x11 x12 x13 x14 x15 x16 x17 x18 x19 x20 x21 f0 f1 f2 f3 f4 f5 f6 f7 f8 f9 f10 f11 f12 f13 f14 f15 f16 f17 f18 f19 f20 f21 fL fN fP fM fO) sz)) 0 0 (va_A (mW ad kc x0 x1 x2 x3 x4 x5 x6 x7 x8 x9 x10 x11 x12 x13 x14 x15 x16 x17 x18 x19 x20 x21 f0 f1 f2 f3 f4 f5 f6 f7 f8 f9 f10 f11 f12 f13 f14 f15 f16 f17 f18 f19 f20 f21 fL fN fP fM fO) sz) := by
  refine Met.ofW (cc := cX10_stands) (maxL := 4) (ret := (some .boolean)) (by decide +kernel) rfl ?_
  intro p e s m args below meth c s₁ B hml hv
  obtain ⟨rfl, hsz, hP, hK, hD0⟩ := hv
  have hx := B.exec
  have hb := B.bytes
  have hr := B.returns
  have hts := atoms_spec (ws := mwX10_standsm) B.pre
  have hown : s.vm.findClass RX10 = some m.cls := findClass_of_methodNamed B.named
  have hlocks := B.notSynchronized
  subst hsz
  have hD := hD0.self (sz := s.heap.size)
  generalize hAe : va_A (mW ad kc x0 x1 x2 x3 x4 x5 x6 x7 x8 x9 x10 x11 x12 x13 x14 x15 x16 x17 x18 x19 x20 x21 f0 f1 f2 f3 f4 f5 f6 f7 f8 f9 f10 f11 f12 f13 f14 f15 f16 f17 f18 f19 f20 f21 fL fN fP fM fO) s.heap.size = A at hD ⊢
  have hA : ∀ q : Nat, s.heap.size ≤ q → A q := fun q h => by rw [← hAe]; exact Or.inr h
  have hP : va_P (dC, dI) vwCl (mW ad kc x0 x1 x2 x3 x4 x5 x6 x7 x8 x9 x10 x11 x12 x13 x14 x15 x16 x17 x18 x19 x20 x21 f0 f1 f2 f3 f4 f5 f6 f7 f8 f9 f10 f11 f12 f13 f14 f15 f16 f17 f18 f19 f20 f21 fL fN fP fM fO) s.heap := hP
  have hD : va_D A (mW ad kc x0 x1 x2 x3 x4 x5 x6 x7 x8 x9 x10 x11 x12 x13 x14 x15 x16 x17 x18 x19 x20 x21 f0 f1 f2 f3 f4 f5 f6 f7 f8 f9 f10 f11 f12 f13 f14 f15 f16 f17 f18 f19 f20 f21 fL fN fP fM fO) := hD
  have hK : va_K (dC, dI) vwCl (mT kc) s := hK
  generalize hH : s.heap = H at hP ⊢
  have hS : va_S A s.heap H [] := by rw [← hH]; exact va_S.rf
  have hl := lv_entry ([.ref (ad 0), .int i1, .int i2]) (n := 4) (Nat.le_of_ble_eq_true rfl)
  rw [lg_entry_eq]
  generalize (lg_sl ([.ref (ad 0), .int i1, .int i2]) ++ List.replicate (4 - (lg_sl ([.ref (ad 0), .int i1, .int i2])).length) Slot.unset).toArray = ls at hl ⊢
  have hl : lv_has ls 4 [(0, .ref (ad 0)), (1, .int i1), (2, .int i2)] := hl
  have rg_i1 := i_rng i1
  have rg_i2 := i_rng i2
  have hd10 := q0.n0
  have hp8 := q0.P0
  refine lv_iconst (v := 0) hx hb dX10_stands_0 (by decide) ?_
  refine lv_istore_n (lv' := [(3, .int 0), (0, .ref (ad 0)), (1, .int i1), (2, .int i2)]) hx hb dX10_stands_1 rfl hl (by decide) rfl (fun ls hl => ?_)
  have loop2 : ∀ (lm2 : Nat) (kk : Int32), (0 ≤ kk.toInt ∧ kk.toInt ≤ 60) → ((60 - kk.toInt).toNat) < lm2 → ∀ (H : Heap) (locs : List Loc) (ls : Array Slot), va_P (dC, dI) vwCl (mW ad kc x0 x1 x2 x3 x4 x5 x6 x7 x8 x9 x10 x11 x12 x13 x14 x15 x16 x17 x18 x19 x20 x21 f0 f1 f2 f3 f4 f5 f6 f7 f8 f9 f10 f11 f12 f13 f14 f15 f16 f17 f18 f19 f20 f21 fL fN fP fM fO) H → va_D A (mW ad kc x0 x1 x2 x3 x4 x5 x6 x7 x8 x9 x10 x11 x12 x13 x14 x15 x16 x17 x18 x19 x20 x21 f0 f1 f2 f3 f4 f5 f6 f7 f8 f9 f10 f11 f12 f13 f14 f15 f16 f17 f18 f19 f20 f21 fL fN fP fM fO) → va_S A s.heap H locs → lv_has ls 4 [(3, .int kk), (0, .ref (ad 0)), (1, .int i1), (2, .int i2)] → W p l e (headSpec mwX10_standsm ({ frames := 2, cells := 0, slots := 0, locals := 120 })).room s m ([.ref (ad 0), .int i1, .int i2]).toArray below meth c H locs 0 0 (MQ below (va_Qi (fun (o9 u9 : Int32) => o9 = u9) (fun (o9 : Int32) t => (o9.toInt = 0 ∨ o9.toInt = 1) ∧ va_P (dC, dI) vwCl (mW ad kc x0 x1 x2 x3 x4 x5 x6 x7 x8 x9 x10 x11 x12 x13 x14 x15 x16 x17 x18 x19 x20 x21 f0 f1 f2 f3 f4 f5 f6 f7 f8 f9 f10 f11 f12 f13 f14 f15 f16 f17 f18 f19 f20 f21 fL fN fP fM fO) t.heap ∧ va_K (dC, dI) vwCl (mT kc) t ∧ va_D A (mW ad kc x0 x1 x2 x3 x4 x5 x6 x7 x8 x9 x10 x11 x12 x13 x14 x15 x16 x17 x18 x19 x20 x21 f0 f1 f2 f3 f4 f5 f6 f7 f8 f9 f10 f11 f12 f13 f14 f15 f16 f17 f18 f19 f20 f21 fL fN fP fM fO)) A) ([.ref (ad 0), .int i1, .int i2]).toArray s 0 0 A) (F0 m 2 ls []) := by
    intro lm2
    induction lm2 with
    | zero => intro kk v2_0 hm2; exact absurd hm2 (Nat.not_lt_zero _)
    | succ lm2 ih2 =>
      intro kk v2_0 hm2 H locs ls hP hD hS hl
      have rg_kk := i_rng kk
      refine lv_iload_n hx hb dX10_stands_2 rfl (lv_at hl 0 rfl) ?_
      refine lv_iconst (v := 2) hx hb dX10_stands_3 (by decide) ?_
      refine lv_iadd hx hb dX10_stands_4 ?_
      refine lv_topi (fun y_1 ey_1 => ?_)
      first | have ty_1 := i_add (a := kk.toInt) (b := 2) rfl (by decide) ey_1 (by omega) (by omega) | skip
      refine lv_aload_n hx hb dX10_stands_5 rfl (lv_at hl 1 rfl) ?_
      refine lv_iload_n hx hb dX10_stands_6 rfl (lv_at hl 2 rfl) ?_
      refine vp_callSi (W.runV (As := [.int i1]) (rest := [.int y_1]) ⟨hx, hb, hml, hown, hts⟩ (m_sizeOf l dC dI ad kc x0 x1 x2 x3 x4 x5 x6 x7 x8 x9 x10 x11 x12 x13 x14 x15 x16 x17 x18 x19 x20 x21 f0 f1 f2 f3 f4 f5 f6 f7 f8 f9 f10 f11 f12 f13 f14 f15 f16 f17 f18 f19 f20 f21 fL fN fP fM fO i1 (by first | omega | assumption | decide | (have l0 := Int32.toInt_zero; omega)) (by first | omega | assumption | decide | (have l0 := Int32.toInt_zero; omega))) (cwV 1 hts mg_X10_standsm_X10_sizeOf_396 rfl rfl rfl (by decide +kernel) ⟨Nat.le_of_ble_eq_true rfl, Nat.le_of_ble_eq_true rfl⟩) ⟨fun a U g mk q => by obtain ⟨q0, qP, qK⟩ := q; exact ⟨q0, qP, va_K.moved (u := U) (U := U.calling g mk a) (Vm.Alike.refl U.vm) qK⟩, va_recv hK hP (ci := 10) (q0 := 0) rfl rfl, fun U hU hW => ⟨rfl, by rw [hU]; exact hP, va_K.moved hW.alike hK⟩⟩ rfl rfl hl.1 rfl (lv_room (Nat.le_of_ble_eq_true rfl)) dX10_stands_7 ⟨Nat.le_of_ble_eq_true rfl, Nat.le_of_ble_eq_true rfl⟩) (fun r_2 hr_2 => ?_)
      have rg_r_2 := i_rng r_2
      have hlr_2 := OKd.sz q0 (d := i1.toInt) (by omega) (by omega)
      refine lv_icmp_ge (tgt := 31) hx hb dX10_stands_10 (by decide) (fun k_3 => ?_) (fun k_3 => ?_)
      · have tk_3 := c_ge (a := y_1.toInt) (b := r_2.toInt) rfl rfl k_3
        refine lv_iconst (v := 0) hx hb dX10_stands_31 (by decide) ?_
        have lit_3 : (0 : Int32).toInt = 0 := by decide
        exact W.zret hx hb hr (z_nar (by first | assumption | decide | exact z_of (by omega))) (fun t ht hW => ⟨⟨_, _, rfl, rfl, (by first | omega | assumption | rfl | decide), by rw [ht]; exact hP, va_K.moved hW.alike hK, hD⟩, hS.F ht⟩) hS.2.2 dX10_stands_32
      · have tk_3 := c_nge (a := y_1.toInt) (b := r_2.toInt) rfl rfl k_3
        refine lv_aload_n hx hb dX10_stands_13 rfl (lv_at hl 1 rfl) ?_
        refine lv_iload_n hx hb dX10_stands_14 rfl (lv_at hl 2 rfl) ?_
        refine lv_iload_n hx hb dX10_stands_15 rfl (lv_at hl 0 rfl) ?_
        refine vp_callSi (W.runV (As := [.int i1, .int kk]) (rest := []) ⟨hx, hb, hml, hown, hts⟩ (m_tripleAt l dC dI ad kc x0 x1 x2 x3 x4 x5 x6 x7 x8 x9 x10 x11 x12 x13 x14 x15 x16 x17 x18 x19 x20 x21 f0 f1 f2 f3 f4 f5 f6 f7 f8 f9 f10 f11 f12 f13 f14 f15 f16 f17 f18 f19 f20 f21 fL fN fP fM fO i1 kk (by first | omega | assumption | decide | (have l0 := Int32.toInt_zero; omega)) (by first | omega | assumption | decide | (have l0 := Int32.toInt_zero; omega)) (by first | omega | assumption | decide | (have l0 := Int32.toInt_zero; omega))) (cwV 2 hts mg_X10_standsm_X10_tripleAt_408 rfl rfl rfl (by decide +kernel) ⟨Nat.le_of_ble_eq_true rfl, Nat.le_of_ble_eq_true rfl⟩) ⟨fun a U g mk q => by obtain ⟨q0, qP, qK⟩ := q; exact ⟨q0, qP, va_K.moved (u := U) (U := U.calling g mk a) (Vm.Alike.refl U.vm) qK⟩, va_recv hK hP (ci := 10) (q0 := 0) rfl rfl, fun U hU hW => ⟨rfl, by rw [hU]; exact hP, va_K.moved hW.alike hK⟩⟩ rfl rfl hl.1 rfl (lv_room (Nat.le_of_ble_eq_true rfl)) dX10_stands_16 ⟨Nat.le_of_ble_eq_true rfl, Nat.le_of_ble_eq_true rfl⟩) (fun r_5 hr_5 => ?_)
        have rg_r_5 := i_rng r_5
        refine lv_iload_n hx hb dX10_stands_19 rfl (lv_at hl 3 rfl) ?_
        refine lv_icmp_ne (tgt := 25) hx hb dX10_stands_20 (by decide) (fun k_6 => ?_) (fun k_6 => ?_)
        · have tk_6 := c_ne (a := r_5.toInt) (b := i2.toInt) rfl rfl k_6
          obtain ⟨y_7, ey_7⟩ : ∃ y : Int32, y = kk + 1 := ⟨_, rfl⟩
          first | have ty_7 := i_add (a := kk.toInt) (b := 1) rfl (by decide) ey_7 (by omega) (by omega) | skip
          refine lv_iinc (v := y_7) (lv' := [(3, .int y_7), (0, .ref (ad 0)), (1, .int i1), (2, .int i2)]) hx hb dX10_stands_25 hl (k := 0) rfl (by rw [ey_7]; rfl) (by decide) rfl (fun ls hl => ?_)
          refine lv_goto (tgt := 2) hx hb dX10_stands_28 (by decide) ?_
          exact ih2 y_7 (by first | omega | assumption | decide) (by omega) _ _ ls hP hD hS (lv_sub hl [0, 1, 2, 3] rfl)
        · have tk_6 := c_eq (a := r_5.toInt) (b := i2.toInt) rfl rfl k_6
          refine lv_iconst (v := 1) hx hb dX10_stands_23 (by decide) ?_
          have lit_7 : (1 : Int32).toInt = 1 := by decide
          exact W.zret hx hb hr (z_nar (by first | assumption | decide | exact z_of (by omega))) (fun t ht hW => ⟨⟨_, _, rfl, rfl, (by first | omega | assumption | rfl | decide), by rw [ht]; exact hP, va_K.moved hW.alike hK, hD⟩, hS.F ht⟩) hS.2.2 dX10_stands_24
  have lit_8 : (0 : Int32).toInt = 0 := by decide
  exact loop2 _ 0 (by first | omega | assumption | decide) (Nat.lt_succ_self _) _ _ ls hP hD hS (lv_sub hl [0, 1, 2, 3] rfl)
theorem dX10_listOf_0 : decode cX10_listOf 0 = .ok (.iconst 0, 1) := by decide +kernel
theorem dX10_listOf_1 : decode cX10_listOf 1 = .ok (.istore_n 2, 1) := by decide +kernel
theorem dX10_listOf_2 : decode cX10_listOf 2 = .ok (.iconst 0, 1) := by decide +kernel
theorem dX10_listOf_3 : decode cX10_listOf 3 = .ok (.istore_n 3, 1) := by decide +kernel
theorem dX10_listOf_4 : decode cX10_listOf 4 = .ok (.iload_n 3, 1) := by decide +kernel
theorem dX10_listOf_5 : decode cX10_listOf 5 = .ok (.aload_n 0, 1) := by decide +kernel
theorem dX10_listOf_6 : decode cX10_listOf 6 = .ok (.getfield 8, 3) := by decide +kernel
theorem dX10_listOf_9 : decode cX10_listOf 9 = .ok (.iconst 0, 1) := by decide +kernel
theorem dX10_listOf_10 : decode cX10_listOf 10 = .ok (.iaload, 1) := by decide +kernel
theorem dX10_listOf_11 : decode cX10_listOf 11 = .ok (.if_icmp .ge 28, 3) := by decide +kernel
theorem dX10_listOf_14 : decode cX10_listOf 14 = .ok (.iload_n 2, 1) := by decide +kernel
theorem dX10_listOf_15 : decode cX10_listOf 15 = .ok (.aload_n 0, 1) := by decide +kernel
theorem dX10_listOf_16 : decode cX10_listOf 16 = .ok (.iload_n 3, 1) := by decide +kernel
theorem dX10_listOf_17 : decode cX10_listOf 17 = .ok (.iload_n 1, 1) := by decide +kernel
theorem dX10_listOf_18 : decode cX10_listOf 18 = .ok (.invokevirtual 411, 3) := by decide +kernel
theorem dX10_listOf_21 : decode cX10_listOf 21 = .ok (.ifCond .eq 9, 3) := by decide +kernel
theorem dX10_listOf_24 : decode cX10_listOf 24 = .ok (.iconst 1, 1) := by decide +kernel
theorem dX10_listOf_25 : decode cX10_listOf 25 = .ok (.iload_n 3, 1) := by decide +kernel
theorem dX10_listOf_26 : decode cX10_listOf 26 = .ok (.ishl, 1) := by decide +kernel
theorem dX10_listOf_27 : decode cX10_listOf 27 = .ok (.goto 4, 3) := by decide +kernel
theorem dX10_listOf_30 : decode cX10_listOf 30 = .ok (.iconst 0, 1) := by decide +kernel
theorem dX10_listOf_31 : decode cX10_listOf 31 = .ok (.ior, 1) := by decide +kernel
theorem dX10_listOf_32 : decode cX10_listOf 32 = .ok (.istore_n 2, 1) := by decide +kernel
theorem dX10_listOf_33 : decode cX10_listOf 33 = .ok (.iinc 3 1, 3) := by decide +kernel
theorem dX10_listOf_36 : decode cX10_listOf 36 = .ok (.goto (-32), 3) := by decide +kernel
theorem dX10_listOf_39 : decode cX10_listOf 39 = .ok (.iload_n 2, 1) := by decide +kernel
theorem dX10_listOf_40 : decode cX10_listOf 40 = .ok (.ireturn, 1) := by decide +kernel
def mwX10_listOfm : List Cond := .code yX10_listOf cX10_listOf 4 (some .int) :: (([.fieldLink RX10 8 "PatternGateModel" "all" "[I", .methodLink RX10 411 yX10_stands, .instanceMethod yX10_stands, .selects RX10 yX10_stands yX10_stands, .initialized RX10] : List Cond) ++ (wsX100 ++ (mwX10_standsm)))
theorem fin_X10_listOfm_X10 : ∀ w ∈ wsX100, w ∈ mwX10_listOfm := fun w h => List.mem_cons_of_mem _ (List.mem_append_right _ (List.mem_append_left _ h))
set_option maxRecDepth 100000 in
theorem gd_mwX10_standsm : mwX10_standsm.all goodWord = true := by decide +kernel
set_option maxRecDepth 20000 in
theorem mg_X10_listOfm_X10_stands_411 : GoodIn mwX10_listOfm (wsV RX10 411 RX10 yX10_stands mwX10_standsm) := gi_app (A := [.methodLink RX10 411 yX10_stands, .instanceMethod yX10_stands, .selects RX10 yX10_stands yX10_stands, .initialized RX10]) (goodIn_r _ [2, 3, 4, 5] (by decide +kernel) (by decide +kernel)) (gi_sub gd_mwX10_standsm (fun w h => List.mem_cons_of_mem _ (List.mem_append_right _ (List.mem_append_right _ (h)))))
set_option maxHeartbeats 4000000 in
set_option maxRecDepth 100000 in
theorem m_listOf (l : Launch) (dC : Nat → ClassId) (dI : Nat → Nat → Nat) (ad : Nat → Nat) (kc : Nat → ClassId) (x0 x1 x2 x3 x4 x5 x6 x7 x8 x9 x10 x11 x12 x13 x14 x15 x16 x17 x18 x19 x20 x21 : Int32) (f0 f1 f2 f3 f4 f5 f6 f7 f8 f9 f10 f11 f12 f13 f14 f15 f16 f17 f18 f19 f20 f21 : Nat → Int32) (fL : Nat → Nat → Int64) (fN : Nat → Nat → Int32) (fP : Nat → Nat → Nat) (fM : Nat → Nat → Int32) (fO : Nat → Nat → Int32) (sz : Nat) (i1 : Int32) (q0 : OKd f0 0) : Met l yX10_listOf mwX10_listOfm ({ frames := 3, cells := 0, slots := 0, locals := 180 }) (va_Pc [.ref (ad 0), .int i1] (fun U => U.heap.size = sz ∧ va_P (dC, dI) vwCl (mW ad kc x0 x1 x2 x3 x4 x5 x6 x7 x8 x9 x10 x11 x12 x13 x14 x15 x16 x17 x18 x19 x20 x21 f0 f1 f2 f3 f4 f5 f6 f7 f8 f9 f10 f11 f12 f13 f14 f15 f16 f17 f18 f19 f20 f21 fL fN fP fM fO) U.heap ∧ va_K (dC, dI) vwCl (mT kc) U ∧ va_D (fun _ => True) (mW ad kc x0 x1 x2 x3 x4 x5 x6 x7 x8 x9 x10 x11 x12 x13 x14 x15 x16 x17 x18 x19 x20 x21 f0 f1 f2 f3 f4 f5 f6 f7 f8 f9 f10 f11 f12 f13 f14 f15 f16 f17 f18 f19 f20 f21 fL fN fP fM fO))) (va_Qi (fun (o9 u9 : Int32) => o9 = u9) (fun (o9 : Int32) t => va_P (dC, dI) vwCl (mW ad kc x0 x1 x2 x3 x4 x5 x6 x7 x8 x9 x10 x11 x12 x13 x14 x15 x16 x17 x18 x19 x20 x21 f0 f1 f2 f3 f4 f5 f6 f7 f8 f9 f10 f11 f12 f13 f14 f15 f16 f17 f18 f19 f20 f21 fL fN fP fM fO) t.heap ∧ va_K (dC, dI) vwCl (mT kc) t ∧ va_D (va_A (mW ad kc x0 x1 x2 x3 x4 x5 x6 x7 x8 x9 x10 x11 x12 x13 x14 x15 x16 x17 x18 x19 x20 x21 f0 f1 f2 f3 f4 f5 f6 f7 f8 f9 f10 f11 f12 f13 f14 f15 f16 f17 f18 f19 f20 f21 fL fN fP fM fO) sz) (mW ad kc x0 x1 x2 x3 x4 x5 x6 x7 x8 x9 x10 x11 x12 x13 x14 x15 x16 x17 x18 x19 x20 x21 f0 f1 f2 f3 f4 f5 f6 f7 f8 f9 f10 f11 f12 f13 f14 f15 f16 f17 f18 f19 f20 f21 fL fN fP fM fO)) (va_A (mW ad kc x0 x1 x2 x3 x4 x5 x6 x7 x8 x9 x10 x11 x12 x13 x14 x15 x16 x17 x18 x19 x20 x21 f0 f1 f2 f3 f4 f5 f6 f7 f8 f9 f10 f11 f12 f13 f14 f15 f16 f17 f18 f19 f20 f21 fL fN fP fM fO) sz)) 0 0 (va_A (mW ad kc x0 x1 x2 x3 x4 x5 x6 x7 x8 x9 x10 x11 x12 x13 x14 x15 x16 x17 x18 x19 x20 x21 f0 f1 f2 f3 f4 f5 f6 f7 f8 f9 f10 f11 f12 f13 f14 f15 f16 f17 f18 f19 f20 f21 fL fN fP fM fO) sz) := by
  refine Met.ofW (cc := cX10_listOf) (maxL := 4) (ret := (some .int)) (by decide +kernel) rfl ?_
  intro p e s m args below meth c s₁ B hml hv
  obtain ⟨rfl, hsz, hP, hK, hD0⟩ := hv
  have hx := B.exec
  have hb := B.bytes
  have hr := B.returns
  have hts := atoms_spec (ws := mwX10_listOfm) B.pre
  have hown : s.vm.findClass RX10 = some m.cls := findClass_of_methodNamed B.named
  have hlocks := B.notSynchronized
  subst hsz
  have hD := hD0.self (sz := s.heap.size)
  generalize hAe : va_A (mW ad kc x0 x1 x2 x3 x4 x5 x6 x7 x8 x9 x10 x11 x12 x13 x14 x15 x16 x17 x18 x19 x20 x21 f0 f1 f2 f3 f4 f5 f6 f7 f8 f9 f10 f11 f12 f13 f14 f15 f16 f17 f18 f19 f20 f21 fL fN fP fM fO) s.heap.size = A at hD ⊢
  have hA : ∀ q : Nat, s.heap.size ≤ q → A q := fun q h => by rw [← hAe]; exact Or.inr h
  have hP : va_P (dC, dI) vwCl (mW ad kc x0 x1 x2 x3 x4 x5 x6 x7 x8 x9 x10 x11 x12 x13 x14 x15 x16 x17 x18 x19 x20 x21 f0 f1 f2 f3 f4 f5 f6 f7 f8 f9 f10 f11 f12 f13 f14 f15 f16 f17 f18 f19 f20 f21 fL fN fP fM fO) s.heap := hP
  have hD : va_D A (mW ad kc x0 x1 x2 x3 x4 x5 x6 x7 x8 x9 x10 x11 x12 x13 x14 x15 x16 x17 x18 x19 x20 x21 f0 f1 f2 f3 f4 f5 f6 f7 f8 f9 f10 f11 f12 f13 f14 f15 f16 f17 f18 f19 f20 f21 fL fN fP fM fO) := hD
  have hK : va_K (dC, dI) vwCl (mT kc) s := hK
  generalize hH : s.heap = H at hP ⊢
  have hS : va_S A s.heap H [] := by rw [← hH]; exact va_S.rf
  have hl := lv_entry ([.ref (ad 0), .int i1]) (n := 4) (Nat.le_of_ble_eq_true rfl)
  rw [lg_entry_eq]
  generalize (lg_sl ([.ref (ad 0), .int i1]) ++ List.replicate (4 - (lg_sl ([.ref (ad 0), .int i1])).length) Slot.unset).toArray = ls at hl ⊢
  have hl : lv_has ls 4 [(0, .ref (ad 0)), (1, .int i1)] := hl
  have rg_i1 := i_rng i1
  have hd10 := q0.n0
  have hp8 := q0.P0
  refine lv_iconst (v := 0) hx hb dX10_listOf_0 (by decide) ?_
  refine lv_istore_n (lv' := [(2, .int 0), (0, .ref (ad 0)), (1, .int i1)]) hx hb dX10_listOf_1 rfl hl (by decide) rfl (fun ls hl => ?_)
  refine lv_iconst (v := 0) hx hb dX10_listOf_2 (by decide) ?_
  refine lv_istore_n (lv' := [(3, .int 0), (2, .int 0), (0, .ref (ad 0)), (1, .int i1)]) hx hb dX10_listOf_3 rfl hl (by decide) rfl (fun ls hl => ?_)
  have loop4 : ∀ (lm4 : Nat) (bi kk : Int32), (0 ≤ kk.toInt ∧ kk.toInt ≤ vI f0 0) → ((vI f0 0 - kk.toInt).toNat) < lm4 → ∀ (H : Heap) (locs : List Loc) (ls : Array Slot), va_P (dC, dI) vwCl (mW ad kc x0 x1 x2 x3 x4 x5 x6 x7 x8 x9 x10 x11 x12 x13 x14 x15 x16 x17 x18 x19 x20 x21 f0 f1 f2 f3 f4 f5 f6 f7 f8 f9 f10 f11 f12 f13 f14 f15 f16 f17 f18 f19 f20 f21 fL fN fP fM fO) H → va_D A (mW ad kc x0 x1 x2 x3 x4 x5 x6 x7 x8 x9 x10 x11 x12 x13 x14 x15 x16 x17 x18 x19 x20 x21 f0 f1 f2 f3 f4 f5 f6 f7 f8 f9 f10 f11 f12 f13 f14 f15 f16 f17 f18 f19 f20 f21 fL fN fP fM fO) → va_S A s.heap H locs → lv_has ls 4 [(3, .int kk), (2, .int bi), (0, .ref (ad 0)), (1, .int i1)] → W p l e (headSpec mwX10_listOfm ({ frames := 3, cells := 0, slots := 0, locals := 180 })).room s m ([.ref (ad 0), .int i1]).toArray below meth c H locs 0 0 (MQ below (va_Qi (fun (o9 u9 : Int32) => o9 = u9) (fun (o9 : Int32) t => va_P (dC, dI) vwCl (mW ad kc x0 x1 x2 x3 x4 x5 x6 x7 x8 x9 x10 x11 x12 x13 x14 x15 x16 x17 x18 x19 x20 x21 f0 f1 f2 f3 f4 f5 f6 f7 f8 f9 f10 f11 f12 f13 f14 f15 f16 f17 f18 f19 f20 f21 fL fN fP fM fO) t.heap ∧ va_K (dC, dI) vwCl (mT kc) t ∧ va_D A (mW ad kc x0 x1 x2 x3 x4 x5 x6 x7 x8 x9 x10 x11 x12 x13 x14 x15 x16 x17 x18 x19 x20 x21 f0 f1 f2 f3 f4 f5 f6 f7 f8 f9 f10 f11 f12 f13 f14 f15 f16 f17 f18 f19 f20 f21 fL fN fP fM fO)) A) ([.ref (ad 0), .int i1]).toArray s 0 0 A) (F0 m 4 ls []) := by
    intro lm4
    induction lm4 with
    | zero => intro bi kk v4_0 hm4; exact absurd hm4 (Nat.not_lt_zero _)
    | succ lm4 ih4 =>
      intro bi kk v4_0 hm4 H locs ls hP hD hS hl
      have rg_bi := i_rng bi
      have rg_kk := i_rng kk
      refine lv_iload_n hx hb dX10_listOf_4 rfl (lv_at hl 0 rfl) ?_
      refine lv_aload_n hx hb dX10_listOf_5 rfl (lv_at hl 2 rfl) ?_
      refine va_get (D := (dC, dI)) (ci := 10) (v := .ref (ad 1)) (C := RX10) (T := TX10) (N := 48) hx hb hts fin_X10_listOfm_X10 hown hK hP 0 rfl rfl 0 (by decide) (hts (.fieldLink RX10 8 "PatternGateModel" "all" "[I") (List.mem_of_getElem? (i := 1) (by decide +kernel))) (fun _ h9 => h9) rfl dX10_listOf_6 ?_
      refine lv_iconst (v := 0) hx hb dX10_listOf_9 (by decide) ?_
      refine va_iald hx hb hK hP 1 0 rfl rfl (i := 0) (by unfold vp_in; decide +kernel) dX10_listOf_10 ?_
      refine lv_topi (fun y_1 ey_1 => ?_)
      have rg_y_1 := i_rng y_1
      have vy_1 := vI_lda (f := f0) (i := 0) (a := 0) ey_1 (by first | omega | decide)
      have rg_y_1 := i_rng y_1
      refine lv_icmp_ge (tgt := 39) hx hb dX10_listOf_11 (by decide) (fun k_2 => ?_) (fun k_2 => ?_)
      · have tk_2 := c_ge (a := kk.toInt) (b := y_1.toInt) rfl rfl k_2
        refine lv_iload_n hx hb dX10_listOf_39 rfl (lv_at hl 1 rfl) ?_
        exact W.iret hx hb hr (fun t ht hW => ⟨⟨_, _, rfl, rfl, by rw [ht]; exact hP, va_K.moved hW.alike hK, hD⟩, hS.F ht⟩) hS.2.2 dX10_listOf_40
      · have tk_2 := c_nge (a := kk.toInt) (b := y_1.toInt) rfl rfl k_2
        refine lv_iload_n hx hb dX10_listOf_14 rfl (lv_at hl 1 rfl) ?_
        refine lv_aload_n hx hb dX10_listOf_15 rfl (lv_at hl 2 rfl) ?_
        refine lv_iload_n hx hb dX10_listOf_16 rfl (lv_at hl 0 rfl) ?_
        refine lv_iload_n hx hb dX10_listOf_17 rfl (lv_at hl 3 rfl) ?_
        have hFc := m_free hD hS hA
        refine va_calli (va_runV (As := [.int kk, .int i1]) (rest := [.int bi]) ⟨hx, hb, hml, hown, hts⟩ (m_stands l dC dI ad kc x0 x1 x2 x3 x4 x5 x6 x7 x8 x9 x10 x11 x12 x13 x14 x15 x16 x17 x18 x19 x20 x21 f0 f1 f2 f3 f4 f5 f6 f7 f8 f9 f10 f11 f12 f13 f14 f15 f16 f17 f18 f19 f20 f21 fL fN fP fM fO H.size kk i1 (by first | omega | assumption | decide | (have l0 := Int32.toInt_zero; omega)) (by first | omega | assumption | decide | (have l0 := Int32.toInt_zero; omega))) (cwV 2 hts mg_X10_listOfm_X10_stands_411 rfl rfl rfl (by decide +kernel) ⟨Nat.le_of_ble_eq_true rfl, Nat.le_of_ble_eq_true rfl⟩) ⟨fun a U g mk q => by obtain ⟨q0, q1, qP, qK, qD⟩ := q; exact ⟨q0, q1, qP, va_K.moved (u := U) (U := U.calling g mk a) (Vm.Alike.refl U.vm) qK, qD⟩, va_recv hK hP (ci := 10) (q0 := 0) rfl rfl, fun U hU hW => ⟨rfl, by rw [hU], by rw [hU]; exact hP, va_K.moved hW.alike hK, hD.weaken (fun _ _ _ _ => trivial)⟩⟩ rfl rfl hl.1 rfl (lv_room (Nat.le_of_ble_eq_true rfl)) dX10_listOf_18 ⟨Nat.le_of_ble_eq_true rfl, Nat.le_of_ble_eq_true rfl⟩) hS (fun q _ h => hFc q h) hFc (fun r_3 u t H1 locs ht hvm hw hB hz1 hk1 hS => ?_)
        subst hw
        obtain ⟨hr_3_0, hP, hK1, hD1⟩ := hB
        rw [ht] at hP
        have hD := hD1.weaken (fun k q _ h => hFc q.1 h)
        clear hz1 hk1 hFc hD1 hK1 hvm
        generalize H1 = H at hP hS ⊢
        have rg_r_3 := i_rng r_3
        have hP : va_P (dC, dI) vwCl (mW ad kc x0 x1 x2 x3 x4 x5 x6 x7 x8 x9 x10 x11 x12 x13 x14 x15 x16 x17 x18 x19 x20 x21 f0 f1 f2 f3 f4 f5 f6 f7 f8 f9 f10 f11 f12 f13 f14 f15 f16 f17 f18 f19 f20 f21 fL fN fP fM fO) H := hP
        have hD : va_D A (mW ad kc x0 x1 x2 x3 x4 x5 x6 x7 x8 x9 x10 x11 x12 x13 x14 x15 x16 x17 x18 x19 x20 x21 f0 f1 f2 f3 f4 f5 f6 f7 f8 f9 f10 f11 f12 f13 f14 f15 f16 f17 f18 f19 f20 f21 fL fN fP fM fO) := hD
        refine lv_if_eq (tgt := 30) hx hb dX10_listOf_21 (by decide) (fun k_4 => ?_) (fun k_4 => ?_)
        · have tk_4 := c_eq (a := r_3.toInt) (b := 0) rfl (by decide) k_4
          refine lv_iconst (v := 0) hx hb dX10_listOf_30 (by decide) ?_
          refine lv_ior hx hb dX10_listOf_31 ?_
          refine lv_topi (fun y_5 ey_5 => ?_)
          have rg_y_5 := i_rng y_5
          refine lv_istore_n (lv' := [(2, .int y_5), (3, .int kk), (0, .ref (ad 0)), (1, .int i1)]) hx hb dX10_listOf_32 rfl hl (by decide) rfl (fun ls hl => ?_)
          obtain ⟨y_6, ey_6⟩ : ∃ y : Int32, y = kk + 1 := ⟨_, rfl⟩
          first | have ty_6 := i_add (a := kk.toInt) (b := 1) rfl (by decide) ey_6 (by omega) (by omega) | skip
          refine lv_iinc (v := y_6) (lv' := [(3, .int y_6), (2, .int y_5), (0, .ref (ad 0)), (1, .int i1)]) hx hb dX10_listOf_33 hl (k := 1) rfl (by rw [ey_6]; rfl) (by decide) rfl (fun ls hl => ?_)
          refine lv_goto (tgt := 4) hx hb dX10_listOf_36 (by decide) ?_
          exact ih4 y_5 y_6 (by first | omega | assumption | decide) (by omega) _ _ ls hP hD hS (lv_sub hl [0, 1, 2, 3] rfl)
        · have tk_4 := c_ne (a := r_3.toInt) (b := 0) rfl (by decide) k_4
          refine lv_iconst (v := 1) hx hb dX10_listOf_24 (by decide) ?_
          refine lv_iload_n hx hb dX10_listOf_25 rfl (lv_at hl 0 rfl) ?_
          refine lv_ishl hx hb dX10_listOf_26 ?_
          refine lv_topi (fun y_7 ey_7 => ?_)
          have rg_y_7 := i_rng y_7
          refine lv_goto (tgt := 31) hx hb dX10_listOf_27 (by decide) ?_
          refine lv_ior hx hb dX10_listOf_31 ?_
          refine lv_topi (fun y_8 ey_8 => ?_)
          have rg_y_8 := i_rng y_8
          refine lv_istore_n (lv' := [(2, .int y_8), (3, .int kk), (0, .ref (ad 0)), (1, .int i1)]) hx hb dX10_listOf_32 rfl hl (by decide) rfl (fun ls hl => ?_)
          obtain ⟨y_9, ey_9⟩ : ∃ y : Int32, y = kk + 1 := ⟨_, rfl⟩
          first | have ty_9 := i_add (a := kk.toInt) (b := 1) rfl (by decide) ey_9 (by omega) (by omega) | skip
          refine lv_iinc (v := y_9) (lv' := [(3, .int y_9), (2, .int y_8), (0, .ref (ad 0)), (1, .int i1)]) hx hb dX10_listOf_33 hl (k := 1) rfl (by rw [ey_9]; rfl) (by decide) rfl (fun ls hl => ?_)
          refine lv_goto (tgt := 4) hx hb dX10_listOf_36 (by decide) ?_
          exact ih4 y_8 y_9 (by first | omega | assumption | decide) (by omega) _ _ ls hP hD hS (lv_sub hl [0, 1, 2, 3] rfl)
  have lit_9 : (0 : Int32).toInt = 0 := by decide
  have lit_10 : (0 : Int32).toInt = 0 := by decide
  exact loop4 _ 0 0 (by first | omega | assumption | decide) (Nat.lt_succ_self _) _ _ ls hP hD hS (lv_sub hl [0, 1, 2, 3] rfl)
theorem dX10_ones_0 : decode cX10_ones 0 = .ok (.iconst 0, 1) := by decide +kernel
theorem dX10_ones_1 : decode cX10_ones 1 = .ok (.istore_n 1, 1) := by decide +kernel
theorem dX10_ones_2 : decode cX10_ones 2 = .ok (.iconst 0, 1) := by decide +kernel
theorem dX10_ones_3 : decode cX10_ones 3 = .ok (.istore_n 2, 1) := by decide +kernel
theorem dX10_ones_4 : decode cX10_ones 4 = .ok (.iload_n 2, 1) := by decide +kernel
theorem dX10_ones_5 : decode cX10_ones 5 = .ok (.bipush 10, 2) := by decide +kernel
theorem dX10_ones_7 : decode cX10_ones 7 = .ok (.if_icmp .ge 25, 3) := by decide +kernel
theorem dX10_ones_10 : decode cX10_ones 10 = .ok (.iload_n 1, 1) := by decide +kernel
theorem dX10_ones_11 : decode cX10_ones 11 = .ok (.iload_n 0, 1) := by decide +kernel
theorem dX10_ones_12 : decode cX10_ones 12 = .ok (.iload_n 2, 1) := by decide +kernel
theorem dX10_ones_13 : decode cX10_ones 13 = .ok (.invokestatic 170, 3) := by decide +kernel
theorem dX10_ones_16 : decode cX10_ones 16 = .ok (.ifCond .eq 7, 3) := by decide +kernel
theorem dX10_ones_19 : decode cX10_ones 19 = .ok (.iconst 1, 1) := by decide +kernel
theorem dX10_ones_20 : decode cX10_ones 20 = .ok (.goto 4, 3) := by decide +kernel
theorem dX10_ones_23 : decode cX10_ones 23 = .ok (.iconst 0, 1) := by decide +kernel
theorem dX10_ones_24 : decode cX10_ones 24 = .ok (.iadd, 1) := by decide +kernel
theorem dX10_ones_25 : decode cX10_ones 25 = .ok (.istore_n 1, 1) := by decide +kernel
theorem dX10_ones_26 : decode cX10_ones 26 = .ok (.iinc 2 1, 3) := by decide +kernel
theorem dX10_ones_29 : decode cX10_ones 29 = .ok (.goto (-25), 3) := by decide +kernel
theorem dX10_ones_32 : decode cX10_ones 32 = .ok (.iload_n 1, 1) := by decide +kernel
theorem dX10_ones_33 : decode cX10_ones 33 = .ok (.ireturn, 1) := by decide +kernel
def mwX10_onesm : List Cond := .code yX10_ones cX10_ones 3 (some .int) :: (([.methodLink RX10 170 yX10_has, .static yX10_has, .initialized RX10] : List Cond) ++ (mwX10_hasm))
set_option maxRecDepth 100000 in
theorem gd_mwX10_hasm : mwX10_hasm.all goodWord = true := by decide +kernel
set_option maxRecDepth 20000 in
theorem mg_X10_onesm_X10_has_170 : GoodIn mwX10_onesm (va_wsS RX10 170 yX10_has mwX10_hasm) := gi_app (A := [.methodLink RX10 170 yX10_has, .static yX10_has, .initialized RX10]) (goodIn_r _ [1, 2, 3] (by decide +kernel) (by decide +kernel)) (gi_sub gd_mwX10_hasm (fun w h => List.mem_cons_of_mem _ (List.mem_append_right _ (h))))
set_option maxHeartbeats 4000000 in
set_option maxRecDepth 100000 in
theorem m_ones (l : Launch) (dC : Nat → ClassId) (dI : Nat → Nat → Nat) (ad : Nat → Nat) (kc : Nat → ClassId) (x0 x1 x2 x3 x4 x5 x6 x7 x8 x9 x10 x11 x12 x13 x14 x15 x16 x17 x18 x19 x20 x21 : Int32) (f0 f1 f2 f3 f4 f5 f6 f7 f8 f9 f10 f11 f12 f13 f14 f15 f16 f17 f18 f19 f20 f21 : Nat → Int32) (fL : Nat → Nat → Int64) (fN : Nat → Nat → Int32) (fP : Nat → Nat → Nat) (fM : Nat → Nat → Int32) (fO : Nat → Nat → Int32) (sz : Nat) (i1 : Int32) : Met l yX10_ones mwX10_onesm ({ frames := 1, cells := 0, slots := 0, locals := 60 }) (va_Pc [.int i1] (fun U => U.heap.size = sz ∧ va_P (dC, dI) vwCl (mW ad kc x0 x1 x2 x3 x4 x5 x6 x7 x8 x9 x10 x11 x12 x13 x14 x15 x16 x17 x18 x19 x20 x21 f0 f1 f2 f3 f4 f5 f6 f7 f8 f9 f10 f11 f12 f13 f14 f15 f16 f17 f18 f19 f20 f21 fL fN fP fM fO) U.heap ∧ va_K (dC, dI) vwCl (mT kc) U ∧ va_D (fun _ => True) (mW ad kc x0 x1 x2 x3 x4 x5 x6 x7 x8 x9 x10 x11 x12 x13 x14 x15 x16 x17 x18 x19 x20 x21 f0 f1 f2 f3 f4 f5 f6 f7 f8 f9 f10 f11 f12 f13 f14 f15 f16 f17 f18 f19 f20 f21 fL fN fP fM fO))) (va_Qi (fun (o9 u9 : Int32) => o9 = u9) (fun (o9 : Int32) t => va_P (dC, dI) vwCl (mW ad kc x0 x1 x2 x3 x4 x5 x6 x7 x8 x9 x10 x11 x12 x13 x14 x15 x16 x17 x18 x19 x20 x21 f0 f1 f2 f3 f4 f5 f6 f7 f8 f9 f10 f11 f12 f13 f14 f15 f16 f17 f18 f19 f20 f21 fL fN fP fM fO) t.heap ∧ va_K (dC, dI) vwCl (mT kc) t ∧ va_D (va_A (mW ad kc x0 x1 x2 x3 x4 x5 x6 x7 x8 x9 x10 x11 x12 x13 x14 x15 x16 x17 x18 x19 x20 x21 f0 f1 f2 f3 f4 f5 f6 f7 f8 f9 f10 f11 f12 f13 f14 f15 f16 f17 f18 f19 f20 f21 fL fN fP fM fO) sz) (mW ad kc x0 x1 x2 x3 x4 x5 x6 x7 x8 x9 x10 x11 x12 x13 x14 x15 x16 x17 x18 x19 x20 x21 f0 f1 f2 f3 f4 f5 f6 f7 f8 f9 f10 f11 f12 f13 f14 f15 f16 f17 f18 f19 f20 f21 fL fN fP fM fO)) (va_A (mW ad kc x0 x1 x2 x3 x4 x5 x6 x7 x8 x9 x10 x11 x12 x13 x14 x15 x16 x17 x18 x19 x20 x21 f0 f1 f2 f3 f4 f5 f6 f7 f8 f9 f10 f11 f12 f13 f14 f15 f16 f17 f18 f19 f20 f21 fL fN fP fM fO) sz)) 0 0 (va_A (mW ad kc x0 x1 x2 x3 x4 x5 x6 x7 x8 x9 x10 x11 x12 x13 x14 x15 x16 x17 x18 x19 x20 x21 f0 f1 f2 f3 f4 f5 f6 f7 f8 f9 f10 f11 f12 f13 f14 f15 f16 f17 f18 f19 f20 f21 fL fN fP fM fO) sz) := by
  refine Met.ofW (cc := cX10_ones) (maxL := 3) (ret := (some .int)) (by decide +kernel) rfl ?_
  intro p e s m args below meth c s₁ B hml hv
  obtain ⟨rfl, hsz, hP, hK, hD0⟩ := hv
  have hx := B.exec
  have hb := B.bytes
  have hr := B.returns
  have hts := atoms_spec (ws := mwX10_onesm) B.pre
  have hown : s.vm.findClass RX10 = some m.cls := findClass_of_methodNamed B.named
  have hlocks := B.notSynchronized
  subst hsz
  have hD := hD0.self (sz := s.heap.size)
  generalize hAe : va_A (mW ad kc x0 x1 x2 x3 x4 x5 x6 x7 x8 x9 x10 x11 x12 x13 x14 x15 x16 x17 x18 x19 x20 x21 f0 f1 f2 f3 f4 f5 f6 f7 f8 f9 f10 f11 f12 f13 f14 f15 f16 f17 f18 f19 f20 f21 fL fN fP fM fO) s.heap.size = A at hD ⊢
  have hA : ∀ q : Nat, s.heap.size ≤ q → A q := fun q h => by rw [← hAe]; exact Or.inr h
  have hP : va_P (dC, dI) vwCl (mW ad kc x0 x1 x2 x3 x4 x5 x6 x7 x8 x9 x10 x11 x12 x13 x14 x15 x16 x17 x18 x19 x20 x21 f0 f1 f2 f3 f4 f5 f6 f7 f8 f9 f10 f11 f12 f13 f14 f15 f16 f17 f18 f19 f20 f21 fL fN fP fM fO) s.heap := hP
  have hD : va_D A (mW ad kc x0 x1 x2 x3 x4 x5 x6 x7 x8 x9 x10 x11 x12 x13 x14 x15 x16 x17 x18 x19 x20 x21 f0 f1 f2 f3 f4 f5 f6 f7 f8 f9 f10 f11 f12 f13 f14 f15 f16 f17 f18 f19 f20 f21 fL fN fP fM fO) := hD
  have hK : va_K (dC, dI) vwCl (mT kc) s := hK
  generalize hH : s.heap = H at hP ⊢
  have hS : va_S A s.heap H [] := by rw [← hH]; exact va_S.rf
  have hl := lv_entry ([.int i1]) (n := 3) (Nat.le_of_ble_eq_true rfl)
  rw [lg_entry_eq]
  generalize (lg_sl ([.int i1]) ++ List.replicate (3 - (lg_sl ([.int i1])).length) Slot.unset).toArray = ls at hl ⊢
  have hl : lv_has ls 3 [(0, .int i1)] := hl
  have rg_i1 := i_rng i1
  refine lv_iconst (v := 0) hx hb dX10_ones_0 (by decide) ?_
  refine lv_istore_n (lv' := [(1, .int 0), (0, .int i1)]) hx hb dX10_ones_1 rfl hl (by decide) rfl (fun ls hl => ?_)
  refine lv_iconst (v := 0) hx hb dX10_ones_2 (by decide) ?_
  refine lv_istore_n (lv' := [(2, .int 0), (1, .int 0), (0, .int i1)]) hx hb dX10_ones_3 rfl hl (by decide) rfl (fun ls hl => ?_)
  have loop4 : ∀ (lm4 : Nat) (nn kk : Int32), (0 ≤ kk.toInt ∧ kk.toInt ≤ 10) → ((10 - kk.toInt).toNat) < lm4 → ∀ (H : Heap) (locs : List Loc) (ls : Array Slot), va_P (dC, dI) vwCl (mW ad kc x0 x1 x2 x3 x4 x5 x6 x7 x8 x9 x10 x11 x12 x13 x14 x15 x16 x17 x18 x19 x20 x21 f0 f1 f2 f3 f4 f5 f6 f7 f8 f9 f10 f11 f12 f13 f14 f15 f16 f17 f18 f19 f20 f21 fL fN fP fM fO) H → va_D A (mW ad kc x0 x1 x2 x3 x4 x5 x6 x7 x8 x9 x10 x11 x12 x13 x14 x15 x16 x17 x18 x19 x20 x21 f0 f1 f2 f3 f4 f5 f6 f7 f8 f9 f10 f11 f12 f13 f14 f15 f16 f17 f18 f19 f20 f21 fL fN fP fM fO) → va_S A s.heap H locs → lv_has ls 3 [(2, .int kk), (1, .int nn), (0, .int i1)] → W p l e (headSpec mwX10_onesm ({ frames := 1, cells := 0, slots := 0, locals := 60 })).room s m ([.int i1]).toArray below meth c H locs 0 0 (MQ below (va_Qi (fun (o9 u9 : Int32) => o9 = u9) (fun (o9 : Int32) t => va_P (dC, dI) vwCl (mW ad kc x0 x1 x2 x3 x4 x5 x6 x7 x8 x9 x10 x11 x12 x13 x14 x15 x16 x17 x18 x19 x20 x21 f0 f1 f2 f3 f4 f5 f6 f7 f8 f9 f10 f11 f12 f13 f14 f15 f16 f17 f18 f19 f20 f21 fL fN fP fM fO) t.heap ∧ va_K (dC, dI) vwCl (mT kc) t ∧ va_D A (mW ad kc x0 x1 x2 x3 x4 x5 x6 x7 x8 x9 x10 x11 x12 x13 x14 x15 x16 x17 x18 x19 x20 x21 f0 f1 f2 f3 f4 f5 f6 f7 f8 f9 f10 f11 f12 f13 f14 f15 f16 f17 f18 f19 f20 f21 fL fN fP fM fO)) A) ([.int i1]).toArray s 0 0 A) (F0 m 4 ls []) := by
    intro lm4
    induction lm4 with
    | zero => intro nn kk v4_0 hm4; exact absurd hm4 (Nat.not_lt_zero _)
    | succ lm4 ih4 =>
      intro nn kk v4_0 hm4 H locs ls hP hD hS hl
      have rg_nn := i_rng nn
      have rg_kk := i_rng kk
      refine lv_iload_n hx hb dX10_ones_4 rfl (lv_at hl 0 rfl) ?_
      refine lv_bipush (v := 10) hx hb dX10_ones_5 (by decide) ?_
      refine lv_icmp_ge (tgt := 32) hx hb dX10_ones_7 (by decide) (fun k_1 => ?_) (fun k_1 => ?_)
      · have tk_1 := c_ge (a := kk.toInt) (b := 10) rfl (by decide) k_1
        refine lv_iload_n hx hb dX10_ones_32 rfl (lv_at hl 1 rfl) ?_
        exact W.iret hx hb hr (fun t ht hW => ⟨⟨_, _, rfl, rfl, by rw [ht]; exact hP, va_K.moved hW.alike hK, hD⟩, hS.F ht⟩) hS.2.2 dX10_ones_33
      · have tk_1 := c_nge (a := kk.toInt) (b := 10) rfl (by decide) k_1
        refine lv_iload_n hx hb dX10_ones_10 rfl (lv_at hl 1 rfl) ?_
        refine lv_iload_n hx hb dX10_ones_11 rfl (lv_at hl 2 rfl) ?_
        refine lv_iload_n hx hb dX10_ones_12 rfl (lv_at hl 0 rfl) ?_
        refine vp_callSi (W.runS (As := [.int i1, .int kk]) (rest := [.int nn]) ⟨hx, hb, hml, hown, hts⟩ (m_has l dC dI  i1 kk ) (va_cwS 2 hts mg_X10_onesm_X10_has_170 rfl rfl rfl (by decide +kernel) ⟨Nat.le_of_ble_eq_true rfl, Nat.le_of_ble_eq_true rfl⟩) ⟨fun a U g mk q => ⟨q.1, trivial⟩, fun U hU hW => ⟨rfl, trivial⟩⟩ rfl rfl hl.1 rfl (lv_room (Nat.le_of_ble_eq_true rfl)) dX10_ones_13 ⟨Nat.le_of_ble_eq_true rfl, Nat.le_of_ble_eq_true rfl⟩) (fun r_2 hr_2 => ?_)
        have rg_r_2 := i_rng r_2
        refine lv_if_eq (tgt := 23) hx hb dX10_ones_16 (by decide) (fun k_3 => ?_) (fun k_3 => ?_)
        · have tk_3 := c_eq (a := r_2.toInt) (b := 0) rfl (by decide) k_3
          refine lv_iconst (v := 0) hx hb dX10_ones_23 (by decide) ?_
          refine lv_iadd hx hb dX10_ones_24 ?_
          refine lv_topi (fun y_4 ey_4 => ?_)
          first | have ty_4 := i_add (a := nn.toInt) (b := 0) rfl (by decide) ey_4 (by omega) (by omega) | skip
          refine lv_istore_n (lv' := [(1, .int y_4), (2, .int kk), (0, .int i1)]) hx hb dX10_ones_25 rfl hl (by decide) rfl (fun ls hl => ?_)
          obtain ⟨y_5, ey_5⟩ : ∃ y : Int32, y = kk + 1 := ⟨_, rfl⟩
          first | have ty_5 := i_add (a := kk.toInt) (b := 1) rfl (by decide) ey_5 (by omega) (by omega) | skip
          refine lv_iinc (v := y_5) (lv' := [(2, .int y_5), (1, .int y_4), (0, .int i1)]) hx hb dX10_ones_26 hl (k := 1) rfl (by rw [ey_5]; rfl) (by decide) rfl (fun ls hl => ?_)
          refine lv_goto (tgt := 4) hx hb dX10_ones_29 (by decide) ?_
          exact ih4 y_4 y_5 (by first | omega | assumption | decide) (by omega) _ _ ls hP hD hS (lv_sub hl [0, 1, 2] rfl)
        · have tk_3 := c_ne (a := r_2.toInt) (b := 0) rfl (by decide) k_3
          refine lv_iconst (v := 1) hx hb dX10_ones_19 (by decide) ?_
          refine lv_goto (tgt := 24) hx hb dX10_ones_20 (by decide) ?_
          refine lv_iadd hx hb dX10_ones_24 ?_
          refine lv_topi (fun y_6 ey_6 => ?_)
          first | have ty_6 := i_add (a := nn.toInt) (b := 1) rfl (by decide) ey_6 (by omega) (by omega) | skip
          refine lv_istore_n (lv' := [(1, .int y_6), (2, .int kk), (0, .int i1)]) hx hb dX10_ones_25 rfl hl (by decide) rfl (fun ls hl => ?_)
          obtain ⟨y_7, ey_7⟩ : ∃ y : Int32, y = kk + 1 := ⟨_, rfl⟩
          first | have ty_7 := i_add (a := kk.toInt) (b := 1) rfl (by decide) ey_7 (by omega) (by omega) | skip
          refine lv_iinc (v := y_7) (lv' := [(2, .int y_7), (1, .int y_6), (0, .int i1)]) hx hb dX10_ones_26 hl (k := 1) rfl (by rw [ey_7]; rfl) (by decide) rfl (fun ls hl => ?_)
          refine lv_goto (tgt := 4) hx hb dX10_ones_29 (by decide) ?_
          exact ih4 y_6 y_7 (by first | omega | assumption | decide) (by omega) _ _ ls hP hD hS (lv_sub hl [0, 1, 2] rfl)
  have lit_7 : (0 : Int32).toInt = 0 := by decide
  have lit_8 : (0 : Int32).toInt = 0 := by decide
  exact loop4 _ 0 0 (by first | omega | assumption | decide) (Nat.lt_succ_self _) _ _ ls hP hD hS (lv_sub hl [0, 1, 2] rfl)
theorem dX10_goesOn_0 : decode cX10_goesOn 0 = .ok (.iload_n 3, 1) := by decide +kernel
theorem dX10_goesOn_1 : decode cX10_goesOn 1 = .ok (.istore 4, 2) := by decide +kernel
theorem dX10_goesOn_3 : decode cX10_goesOn 3 = .ok (.iconst 0, 1) := by decide +kernel
theorem dX10_goesOn_4 : decode cX10_goesOn 4 = .ok (.istore 5, 2) := by decide +kernel
theorem dX10_goesOn_6 : decode cX10_goesOn 6 = .ok (.iload 5, 2) := by decide +kernel
theorem dX10_goesOn_8 : decode cX10_goesOn 8 = .ok (.aload_n 0, 1) := by decide +kernel
theorem dX10_goesOn_9 : decode cX10_goesOn 9 = .ok (.getfield 248, 3) := by decide +kernel
theorem dX10_goesOn_12 : decode cX10_goesOn 12 = .ok (.if_icmp .ge 30, 3) := by decide +kernel
theorem dX10_goesOn_15 : decode cX10_goesOn 15 = .ok (.iload_n 1, 1) := by decide +kernel
theorem dX10_goesOn_16 : decode cX10_goesOn 16 = .ok (.iload 5, 2) := by decide +kernel
theorem dX10_goesOn_18 : decode cX10_goesOn 18 = .ok (.invokestatic 170, 3) := by decide +kernel
theorem dX10_goesOn_21 : decode cX10_goesOn 21 = .ok (.ifCond .eq 15, 3) := by decide +kernel
theorem dX10_goesOn_24 : decode cX10_goesOn 24 = .ok (.iload 4, 2) := by decide +kernel
theorem dX10_goesOn_26 : decode cX10_goesOn 26 = .ok (.aload_n 0, 1) := by decide +kernel
theorem dX10_goesOn_27 : decode cX10_goesOn 27 = .ok (.getfield 86, 3) := by decide +kernel
theorem dX10_goesOn_30 : decode cX10_goesOn 30 = .ok (.iload 5, 2) := by decide +kernel
theorem dX10_goesOn_32 : decode cX10_goesOn 32 = .ok (.iaload, 1) := by decide +kernel
theorem dX10_goesOn_33 : decode cX10_goesOn 33 = .ok (.ior, 1) := by decide +kernel
theorem dX10_goesOn_34 : decode cX10_goesOn 34 = .ok (.istore 4, 2) := by decide +kernel
theorem dX10_goesOn_36 : decode cX10_goesOn 36 = .ok (.iinc 5 1, 3) := by decide +kernel
theorem dX10_goesOn_39 : decode cX10_goesOn 39 = .ok (.goto (-33), 3) := by decide +kernel
theorem dX10_goesOn_42 : decode cX10_goesOn 42 = .ok (.iconst 0, 1) := by decide +kernel
theorem dX10_goesOn_43 : decode cX10_goesOn 43 = .ok (.istore 5, 2) := by decide +kernel
theorem dX10_goesOn_45 : decode cX10_goesOn 45 = .ok (.iconst 0, 1) := by decide +kernel
theorem dX10_goesOn_46 : decode cX10_goesOn 46 = .ok (.istore 6, 2) := by decide +kernel
theorem dX10_goesOn_48 : decode cX10_goesOn 48 = .ok (.iload 6, 2) := by decide +kernel
theorem dX10_goesOn_50 : decode cX10_goesOn 50 = .ok (.aload_n 0, 1) := by decide +kernel
theorem dX10_goesOn_51 : decode cX10_goesOn 51 = .ok (.getfield 248, 3) := by decide +kernel
theorem dX10_goesOn_54 : decode cX10_goesOn 54 = .ok (.if_icmp .ge 46, 3) := by decide +kernel
theorem dX10_goesOn_57 : decode cX10_goesOn 57 = .ok (.iload 5, 2) := by decide +kernel
theorem dX10_goesOn_59 : decode cX10_goesOn 59 = .ok (.iload 4, 2) := by decide +kernel
theorem dX10_goesOn_61 : decode cX10_goesOn 61 = .ok (.iload 6, 2) := by decide +kernel
theorem dX10_goesOn_63 : decode cX10_goesOn 63 = .ok (.invokestatic 170, 3) := by decide +kernel
theorem dX10_goesOn_66 : decode cX10_goesOn 66 = .ok (.ifCond .eq 24, 3) := by decide +kernel
theorem dX10_goesOn_69 : decode cX10_goesOn 69 = .ok (.aload_n 0, 1) := by decide +kernel
theorem dX10_goesOn_70 : decode cX10_goesOn 70 = .ok (.getfield 89, 3) := by decide +kernel
theorem dX10_goesOn_73 : decode cX10_goesOn 73 = .ok (.iload 6, 2) := by decide +kernel
theorem dX10_goesOn_75 : decode cX10_goesOn 75 = .ok (.iaload, 1) := by decide +kernel
theorem dX10_goesOn_76 : decode cX10_goesOn 76 = .ok (.iload_n 2, 1) := by decide +kernel
theorem dX10_goesOn_77 : decode cX10_goesOn 77 = .ok (.invokestatic 170, 3) := by decide +kernel
theorem dX10_goesOn_80 : decode cX10_goesOn 80 = .ok (.ifCond .eq 10, 3) := by decide +kernel
theorem dX10_goesOn_83 : decode cX10_goesOn 83 = .ok (.iconst 1, 1) := by decide +kernel
theorem dX10_goesOn_84 : decode cX10_goesOn 84 = .ok (.iload 6, 2) := by decide +kernel
theorem dX10_goesOn_86 : decode cX10_goesOn 86 = .ok (.ishl, 1) := by decide +kernel
theorem dX10_goesOn_87 : decode cX10_goesOn 87 = .ok (.goto 4, 3) := by decide +kernel
theorem dX10_goesOn_90 : decode cX10_goesOn 90 = .ok (.iconst 0, 1) := by decide +kernel
theorem dX10_goesOn_91 : decode cX10_goesOn 91 = .ok (.ior, 1) := by decide +kernel
theorem dX10_goesOn_92 : decode cX10_goesOn 92 = .ok (.istore 5, 2) := by decide +kernel
theorem dX10_goesOn_94 : decode cX10_goesOn 94 = .ok (.iinc 6 1, 3) := by decide +kernel
theorem dX10_goesOn_97 : decode cX10_goesOn 97 = .ok (.goto (-49), 3) := by decide +kernel
theorem dX10_goesOn_100 : decode cX10_goesOn 100 = .ok (.iload 5, 2) := by decide +kernel
theorem dX10_goesOn_102 : decode cX10_goesOn 102 = .ok (.ireturn, 1) := by decide +kernel
def mwX10_goesOnm : List Cond := .code yX10_goesOn cX10_goesOn 7 (some .int) :: (([.fieldLink RX10 248 "PatternGateModel" "spotMany" "I", .methodLink RX10 170 yX10_has, .static yX10_has, .initialized RX10, .fieldLink RX10 89 "PatternGateModel" "lets" "[I", .fieldLink RX10 86 "PatternGateModel" "follow" "[I"] : List Cond) ++ (wsX100 ++ (mwX10_hasm)))
theorem fin_X10_goesOnm_X10 : ∀ w ∈ wsX100, w ∈ mwX10_goesOnm := fun w h => List.mem_cons_of_mem _ (List.mem_append_right _ (List.mem_append_left _ h))
set_option maxRecDepth 20000 in
theorem mg_X10_goesOnm_X10_has_170 : GoodIn mwX10_goesOnm (va_wsS RX10 170 yX10_has mwX10_hasm) := gi_app (A := [.methodLink RX10 170 yX10_has, .static yX10_has, .initialized RX10]) (goodIn_r _ [2, 3, 4] (by decide +kernel) (by decide +kernel)) (gi_sub gd_mwX10_hasm (fun w h => List.mem_cons_of_mem _ (List.mem_append_right _ (List.mem_append_right _ (h)))))
set_option maxHeartbeats 4000000 in
set_option maxRecDepth 100000 in
theorem m_goesOn (l : Launch) (dC : Nat → ClassId) (dI : Nat → Nat → Nat) (ad : Nat → Nat) (kc : Nat → ClassId) (x0 x1 x2 x3 x4 x5 x6 x7 x8 x9 x10 x11 x12 x13 x14 x15 x16 x17 x18 x19 x20 x21 : Int32) (f0 f1 f2 f3 f4 f5 f6 f7 f8 f9 f10 f11 f12 f13 f14 f15 f16 f17 f18 f19 f20 f21 : Nat → Int32) (fL : Nat → Nat → Int64) (fN : Nat → Nat → Int32) (fP : Nat → Nat → Nat) (fM : Nat → Nat → Int32) (fO : Nat → Nat → Int32) (sz : Nat) (i1 i2 i3 : Int32) (q0 : 0 ≤ x15.toInt ∧ x15.toInt ≤ 24) : Met l yX10_goesOn mwX10_goesOnm ({ frames := 1, cells := 0, slots := 0, locals := 60 }) (va_Pc [.ref (ad 0), .int i1, .int i2, .int i3] (fun U => U.heap.size = sz ∧ va_P (dC, dI) vwCl (mW ad kc x0 x1 x2 x3 x4 x5 x6 x7 x8 x9 x10 x11 x12 x13 x14 x15 x16 x17 x18 x19 x20 x21 f0 f1 f2 f3 f4 f5 f6 f7 f8 f9 f10 f11 f12 f13 f14 f15 f16 f17 f18 f19 f20 f21 fL fN fP fM fO) U.heap ∧ va_K (dC, dI) vwCl (mT kc) U ∧ va_D (fun _ => True) (mW ad kc x0 x1 x2 x3 x4 x5 x6 x7 x8 x9 x10 x11 x12 x13 x14 x15 x16 x17 x18 x19 x20 x21 f0 f1 f2 f3 f4 f5 f6 f7 f8 f9 f10 f11 f12 f13 f14 f15 f16 f17 f18 f19 f20 f21 fL fN fP fM fO))) (va_Qi (fun (o9 u9 : Int32) => o9 = u9) (fun (o9 : Int32) t => va_P (dC, dI) vwCl (mW ad kc x0 x1 x2 x3 x4 x5 x6 x7 x8 x9 x10 x11 x12 x13 x14 x15 x16 x17 x18 x19 x20 x21 f0 f1 f2 f3 f4 f5 f6 f7 f8 f9 f10 f11 f12 f13 f14 f15 f16 f17 f18 f19 f20 f21 fL fN fP fM fO) t.heap ∧ va_K (dC, dI) vwCl (mT kc) t ∧ va_D (va_A (mW ad kc x0 x1 x2 x3 x4 x5 x6 x7 x8 x9 x10 x11 x12 x13 x14 x15 x16 x17 x18 x19 x20 x21 f0 f1 f2 f3 f4 f5 f6 f7 f8 f9 f10 f11 f12 f13 f14 f15 f16 f17 f18 f19 f20 f21 fL fN fP fM fO) sz) (mW ad kc x0 x1 x2 x3 x4 x5 x6 x7 x8 x9 x10 x11 x12 x13 x14 x15 x16 x17 x18 x19 x20 x21 f0 f1 f2 f3 f4 f5 f6 f7 f8 f9 f10 f11 f12 f13 f14 f15 f16 f17 f18 f19 f20 f21 fL fN fP fM fO)) (va_A (mW ad kc x0 x1 x2 x3 x4 x5 x6 x7 x8 x9 x10 x11 x12 x13 x14 x15 x16 x17 x18 x19 x20 x21 f0 f1 f2 f3 f4 f5 f6 f7 f8 f9 f10 f11 f12 f13 f14 f15 f16 f17 f18 f19 f20 f21 fL fN fP fM fO) sz)) 0 0 (va_A (mW ad kc x0 x1 x2 x3 x4 x5 x6 x7 x8 x9 x10 x11 x12 x13 x14 x15 x16 x17 x18 x19 x20 x21 f0 f1 f2 f3 f4 f5 f6 f7 f8 f9 f10 f11 f12 f13 f14 f15 f16 f17 f18 f19 f20 f21 fL fN fP fM fO) sz) := by
  refine Met.ofW (cc := cX10_goesOn) (maxL := 7) (ret := (some .int)) (by decide +kernel) rfl ?_
  intro p e s m args below meth c s₁ B hml hv
  obtain ⟨rfl, hsz, hP, hK, hD0⟩ := hv
  have hx := B.exec
  have hb := B.bytes
  have hr := B.returns
  have hts := atoms_spec (ws := mwX10_goesOnm) B.pre
  have hown : s.vm.findClass RX10 = some m.cls := findClass_of_methodNamed B.named
  have hlocks := B.notSynchronized
  subst hsz
  have hD := hD0.self (sz := s.heap.size)
  generalize hAe : va_A (mW ad kc x0 x1 x2 x3 x4 x5 x6 x7 x8 x9 x10 x11 x12 x13 x14 x15 x16 x17 x18 x19 x20 x21 f0 f1 f2 f3 f4 f5 f6 f7 f8 f9 f10 f11 f12 f13 f14 f15 f16 f17 f18 f19 f20 f21 fL fN fP fM fO) s.heap.size = A at hD ⊢
  have hA : ∀ q : Nat, s.heap.size ≤ q → A q := fun q h => by rw [← hAe]; exact Or.inr h
  have hP : va_P (dC, dI) vwCl (mW ad kc x0 x1 x2 x3 x4 x5 x6 x7 x8 x9 x10 x11 x12 x13 x14 x15 x16 x17 x18 x19 x20 x21 f0 f1 f2 f3 f4 f5 f6 f7 f8 f9 f10 f11 f12 f13 f14 f15 f16 f17 f18 f19 f20 f21 fL fN fP fM fO) s.heap := hP
  have hD : va_D A (mW ad kc x0 x1 x2 x3 x4 x5 x6 x7 x8 x9 x10 x11 x12 x13 x14 x15 x16 x17 x18 x19 x20 x21 f0 f1 f2 f3 f4 f5 f6 f7 f8 f9 f10 f11 f12 f13 f14 f15 f16 f17 f18 f19 f20 f21 fL fN fP fM fO) := hD
  have hK : va_K (dC, dI) vwCl (mT kc) s := hK
  generalize hH : s.heap = H at hP ⊢
  have hS : va_S A s.heap H [] := by rw [← hH]; exact va_S.rf
  have hl := lv_entry ([.ref (ad 0), .int i1, .int i2, .int i3]) (n := 7) (Nat.le_of_ble_eq_true rfl)
  rw [lg_entry_eq]
  generalize (lg_sl ([.ref (ad 0), .int i1, .int i2, .int i3]) ++ List.replicate (7 - (lg_sl ([.ref (ad 0), .int i1, .int i2, .int i3])).length) Slot.unset).toArray = ls at hl ⊢
  have hl : lv_has ls 7 [(0, .ref (ad 0)), (1, .int i1), (2, .int i2), (3, .int i3)] := hl
  have rg_i1 := i_rng i1
  have rg_i2 := i_rng i2
  have rg_i3 := i_rng i3
  refine lv_iload_n hx hb dX10_goesOn_0 rfl (lv_at hl 3 rfl) ?_
  refine lv_istore (lv' := [(4, .int i3), (0, .ref (ad 0)), (1, .int i1), (2, .int i2), (3, .int i3)]) hx hb dX10_goesOn_1 hl (by decide) rfl (fun ls hl => ?_)
  refine lv_iconst (v := 0) hx hb dX10_goesOn_3 (by decide) ?_
  refine lv_istore (lv' := [(5, .int 0), (4, .int i3), (0, .ref (ad 0)), (1, .int i1), (2, .int i2), (3, .int i3)]) hx hb dX10_goesOn_4 hl (by decide) rfl (fun ls hl => ?_)
  have loop6 : ∀ (lm6 : Nat) (to kk : Int32), (0 ≤ kk.toInt ∧ kk.toInt ≤ 24) → ((24 - kk.toInt).toNat) < lm6 → ∀ (H : Heap) (locs : List Loc) (ls : Array Slot), va_P (dC, dI) vwCl (mW ad kc x0 x1 x2 x3 x4 x5 x6 x7 x8 x9 x10 x11 x12 x13 x14 x15 x16 x17 x18 x19 x20 x21 f0 f1 f2 f3 f4 f5 f6 f7 f8 f9 f10 f11 f12 f13 f14 f15 f16 f17 f18 f19 f20 f21 fL fN fP fM fO) H → va_D A (mW ad kc x0 x1 x2 x3 x4 x5 x6 x7 x8 x9 x10 x11 x12 x13 x14 x15 x16 x17 x18 x19 x20 x21 f0 f1 f2 f3 f4 f5 f6 f7 f8 f9 f10 f11 f12 f13 f14 f15 f16 f17 f18 f19 f20 f21 fL fN fP fM fO) → va_S A s.heap H locs → lv_has ls 7 [(5, .int kk), (4, .int to), (0, .ref (ad 0)), (1, .int i1), (2, .int i2), (3, .int i3)] → W p l e (headSpec mwX10_goesOnm ({ frames := 1, cells := 0, slots := 0, locals := 60 })).room s m ([.ref (ad 0), .int i1, .int i2, .int i3]).toArray below meth c H locs 0 0 (MQ below (va_Qi (fun (o9 u9 : Int32) => o9 = u9) (fun (o9 : Int32) t => va_P (dC, dI) vwCl (mW ad kc x0 x1 x2 x3 x4 x5 x6 x7 x8 x9 x10 x11 x12 x13 x14 x15 x16 x17 x18 x19 x20 x21 f0 f1 f2 f3 f4 f5 f6 f7 f8 f9 f10 f11 f12 f13 f14 f15 f16 f17 f18 f19 f20 f21 fL fN fP fM fO) t.heap ∧ va_K (dC, dI) vwCl (mT kc) t ∧ va_D A (mW ad kc x0 x1 x2 x3 x4 x5 x6 x7 x8 x9 x10 x11 x12 x13 x14 x15 x16 x17 x18 x19 x20 x21 f0 f1 f2 f3 f4 f5 f6 f7 f8 f9 f10 f11 f12 f13 f14 f15 f16 f17 f18 f19 f20 f21 fL fN fP fM fO)) A) ([.ref (ad 0), .int i1, .int i2, .int i3]).toArray s 0 0 A) (F0 m 6 ls []) := by
    intro lm6
    induction lm6 with
    | zero => intro to kk v6_0 hm6; exact absurd hm6 (Nat.not_lt_zero _)
    | succ lm6 ih6 =>
      intro to kk v6_0 hm6 H locs ls hP hD hS hl
      have rg_to := i_rng to
      have rg_kk := i_rng kk
      refine lv_iload hx hb dX10_goesOn_6 (lv_at hl 0 rfl) ?_
      refine lv_aload_n hx hb dX10_goesOn_8 rfl (lv_at hl 2 rfl) ?_
      refine va_get (D := (dC, dI)) (ci := 10) (v := .int x15) (C := RX10) (T := TX10) (N := 48) hx hb hts fin_X10_goesOnm_X10 hown hK hP 0 rfl rfl 24 (by decide) (hts (.fieldLink RX10 248 "PatternGateModel" "spotMany" "I") (List.mem_of_getElem? (i := 1) (by decide +kernel))) (fun _ h9 => h9) rfl dX10_goesOn_9 ?_
      refine lv_icmp_ge (tgt := 42) hx hb dX10_goesOn_12 (by decide) (fun k_1 => ?_) (fun k_1 => ?_)
      · have tk_1 := c_ge (a := kk.toInt) (b := x15.toInt) rfl rfl k_1
        refine lv_iconst (v := 0) hx hb dX10_goesOn_42 (by decide) ?_
        refine lv_istore (lv' := [(5, .int 0), (4, .int to), (0, .ref (ad 0)), (1, .int i1), (2, .int i2), (3, .int i3)]) hx hb dX10_goesOn_43 hl (by decide) rfl (fun ls hl => ?_)
        refine lv_iconst (v := 0) hx hb dX10_goesOn_45 (by decide) ?_
        refine lv_istore (lv' := [(6, .int 0), (5, .int 0), (4, .int to), (0, .ref (ad 0)), (1, .int i1), (2, .int i2), (3, .int i3)]) hx hb dX10_goesOn_46 hl (by decide) rfl (fun ls hl => ?_)
        have loop48 : ∀ (lm48 : Nat) (on k2 : Int32), (0 ≤ k2.toInt ∧ k2.toInt ≤ 24) → ((24 - k2.toInt).toNat) < lm48 → ∀ (H : Heap) (locs : List Loc) (ls : Array Slot), va_P (dC, dI) vwCl (mW ad kc x0 x1 x2 x3 x4 x5 x6 x7 x8 x9 x10 x11 x12 x13 x14 x15 x16 x17 x18 x19 x20 x21 f0 f1 f2 f3 f4 f5 f6 f7 f8 f9 f10 f11 f12 f13 f14 f15 f16 f17 f18 f19 f20 f21 fL fN fP fM fO) H → va_D A (mW ad kc x0 x1 x2 x3 x4 x5 x6 x7 x8 x9 x10 x11 x12 x13 x14 x15 x16 x17 x18 x19 x20 x21 f0 f1 f2 f3 f4 f5 f6 f7 f8 f9 f10 f11 f12 f13 f14 f15 f16 f17 f18 f19 f20 f21 fL fN fP fM fO) → va_S A s.heap H locs → lv_has ls 7 [(6, .int k2), (5, .int on), (4, .int to), (0, .ref (ad 0)), (1, .int i1), (2, .int i2), (3, .int i3)] → W p l e (headSpec mwX10_goesOnm ({ frames := 1, cells := 0, slots := 0, locals := 60 })).room s m ([.ref (ad 0), .int i1, .int i2, .int i3]).toArray below meth c H locs 0 0 (MQ below (va_Qi (fun (o9 u9 : Int32) => o9 = u9) (fun (o9 : Int32) t => va_P (dC, dI) vwCl (mW ad kc x0 x1 x2 x3 x4 x5 x6 x7 x8 x9 x10 x11 x12 x13 x14 x15 x16 x17 x18 x19 x20 x21 f0 f1 f2 f3 f4 f5 f6 f7 f8 f9 f10 f11 f12 f13 f14 f15 f16 f17 f18 f19 f20 f21 fL fN fP fM fO) t.heap ∧ va_K (dC, dI) vwCl (mT kc) t ∧ va_D A (mW ad kc x0 x1 x2 x3 x4 x5 x6 x7 x8 x9 x10 x11 x12 x13 x14 x15 x16 x17 x18 x19 x20 x21 f0 f1 f2 f3 f4 f5 f6 f7 f8 f9 f10 f11 f12 f13 f14 f15 f16 f17 f18 f19 f20 f21 fL fN fP fM fO)) A) ([.ref (ad 0), .int i1, .int i2, .int i3]).toArray s 0 0 A) (F0 m 48 ls []) := by
          intro lm48
          induction lm48 with
          | zero => intro on k2 v48_0 hm48; exact absurd hm48 (Nat.not_lt_zero _)
          | succ lm48 ih48 =>
            intro on k2 v48_0 hm48 H locs ls hP hD hS hl
            have rg_on := i_rng on
            have rg_k2 := i_rng k2
            refine lv_iload hx hb dX10_goesOn_48 (lv_at hl 0 rfl) ?_
            refine lv_aload_n hx hb dX10_goesOn_50 rfl (lv_at hl 3 rfl) ?_
            refine va_get (D := (dC, dI)) (ci := 10) (v := .int x15) (C := RX10) (T := TX10) (N := 48) hx hb hts fin_X10_goesOnm_X10 hown hK hP 0 rfl rfl 24 (by decide) (hts (.fieldLink RX10 248 "PatternGateModel" "spotMany" "I") (List.mem_of_getElem? (i := 1) (by decide +kernel))) (fun _ h9 => h9) rfl dX10_goesOn_51 ?_
            refine lv_icmp_ge (tgt := 100) hx hb dX10_goesOn_54 (by decide) (fun k_2 => ?_) (fun k_2 => ?_)
            · have tk_2 := c_ge (a := k2.toInt) (b := x15.toInt) rfl rfl k_2
              refine lv_iload hx hb dX10_goesOn_100 (lv_at hl 1 rfl) ?_
              exact W.iret hx hb hr (fun t ht hW => ⟨⟨_, _, rfl, rfl, by rw [ht]; exact hP, va_K.moved hW.alike hK, hD⟩, hS.F ht⟩) hS.2.2 dX10_goesOn_102
            · have tk_2 := c_nge (a := k2.toInt) (b := x15.toInt) rfl rfl k_2
              refine lv_iload hx hb dX10_goesOn_57 (lv_at hl 1 rfl) ?_
              refine lv_iload hx hb dX10_goesOn_59 (lv_at hl 2 rfl) ?_
              refine lv_iload hx hb dX10_goesOn_61 (lv_at hl 0 rfl) ?_
              refine vp_callSi (W.runS (As := [.int to, .int k2]) (rest := [.int on]) ⟨hx, hb, hml, hown, hts⟩ (m_has l dC dI  to k2 ) (va_cwS 2 hts mg_X10_goesOnm_X10_has_170 rfl rfl rfl (by decide +kernel) ⟨Nat.le_of_ble_eq_true rfl, Nat.le_of_ble_eq_true rfl⟩) ⟨fun a U g mk q => ⟨q.1, trivial⟩, fun U hU hW => ⟨rfl, trivial⟩⟩ rfl rfl hl.1 rfl (lv_room (Nat.le_of_ble_eq_true rfl)) dX10_goesOn_63 ⟨Nat.le_of_ble_eq_true rfl, Nat.le_of_ble_eq_true rfl⟩) (fun r_3 hr_3 => ?_)
              have rg_r_3 := i_rng r_3
              refine lv_if_eq (tgt := 90) hx hb dX10_goesOn_66 (by decide) (fun k_4 => ?_) (fun k_4 => ?_)
              · have tk_4 := c_eq (a := r_3.toInt) (b := 0) rfl (by decide) k_4
                refine lv_iconst (v := 0) hx hb dX10_goesOn_90 (by decide) ?_
                refine lv_ior hx hb dX10_goesOn_91 ?_
                refine lv_topi (fun y_5 ey_5 => ?_)
                have rg_y_5 := i_rng y_5
                refine lv_istore (lv' := [(5, .int y_5), (6, .int k2), (4, .int to), (0, .ref (ad 0)), (1, .int i1), (2, .int i2), (3, .int i3)]) hx hb dX10_goesOn_92 hl (by decide) rfl (fun ls hl => ?_)
                obtain ⟨y_6, ey_6⟩ : ∃ y : Int32, y = k2 + 1 := ⟨_, rfl⟩
                first | have ty_6 := i_add (a := k2.toInt) (b := 1) rfl (by decide) ey_6 (by omega) (by omega) | skip
                refine lv_iinc (v := y_6) (lv' := [(6, .int y_6), (5, .int y_5), (4, .int to), (0, .ref (ad 0)), (1, .int i1), (2, .int i2), (3, .int i3)]) hx hb dX10_goesOn_94 hl (k := 1) rfl (by rw [ey_6]; rfl) (by decide) rfl (fun ls hl => ?_)
                refine lv_goto (tgt := 48) hx hb dX10_goesOn_97 (by decide) ?_
                exact ih48 y_5 y_6 (by first | omega | assumption | decide) (by omega) _ _ ls hP hD hS (lv_sub hl [0, 1, 2, 3, 4, 5, 6] rfl)
              · have tk_4 := c_ne (a := r_3.toInt) (b := 0) rfl (by decide) k_4
                refine lv_aload_n hx hb dX10_goesOn_69 rfl (lv_at hl 3 rfl) ?_
                refine va_get (D := (dC, dI)) (ci := 10) (v := .ref (ad 19)) (C := RX10) (T := TX10) (N := 48) hx hb hts fin_X10_goesOnm_X10 hown hK hP 0 rfl rfl 41 (by decide) (hts (.fieldLink RX10 89 "PatternGateModel" "lets" "[I") (List.mem_of_getElem? (i := 5) (by decide +kernel))) (fun _ h9 => h9) rfl dX10_goesOn_70 ?_
                refine lv_iload hx hb dX10_goesOn_73 (lv_at hl 0 rfl) ?_
                refine va_iald hx hb hK hP 19 18 rfl rfl (i := k2) (vp_of (a := k2.toInt) rfl (by omega) (by omega)) dX10_goesOn_75 ?_
                refine lv_topi (fun y_7 ey_7 => ?_)
                have rg_y_7 := i_rng y_7
                refine lv_iload_n hx hb dX10_goesOn_76 rfl (lv_at hl 5 rfl) ?_
                refine vp_callSi (W.runS (As := [.int y_7, .int i2]) (rest := [.int on]) ⟨hx, hb, hml, hown, hts⟩ (m_has l dC dI  y_7 i2 ) (va_cwS 2 hts mg_X10_goesOnm_X10_has_170 rfl rfl rfl (by decide +kernel) ⟨Nat.le_of_ble_eq_true rfl, Nat.le_of_ble_eq_true rfl⟩) ⟨fun a U g mk q => ⟨q.1, trivial⟩, fun U hU hW => ⟨rfl, trivial⟩⟩ rfl rfl hl.1 rfl (lv_room (Nat.le_of_ble_eq_true rfl)) dX10_goesOn_77 ⟨Nat.le_of_ble_eq_true rfl, Nat.le_of_ble_eq_true rfl⟩) (fun r_8 hr_8 => ?_)
                have rg_r_8 := i_rng r_8
                refine lv_if_eq (tgt := 90) hx hb dX10_goesOn_80 (by decide) (fun k_9 => ?_) (fun k_9 => ?_)
                · have tk_9 := c_eq (a := r_8.toInt) (b := 0) rfl (by decide) k_9
                  refine lv_iconst (v := 0) hx hb dX10_goesOn_90 (by decide) ?_
                  refine lv_ior hx hb dX10_goesOn_91 ?_
                  refine lv_topi (fun y_10 ey_10 => ?_)
                  have rg_y_10 := i_rng y_10
                  refine lv_istore (lv' := [(5, .int y_10), (6, .int k2), (4, .int to), (0, .ref (ad 0)), (1, .int i1), (2, .int i2), (3, .int i3)]) hx hb dX10_goesOn_92 hl (by decide) rfl (fun ls hl => ?_)
                  obtain ⟨y_11, ey_11⟩ : ∃ y : Int32, y = k2 + 1 := ⟨_, rfl⟩
                  first | have ty_11 := i_add (a := k2.toInt) (b := 1) rfl (by decide) ey_11 (by omega) (by omega) | skip
                  refine lv_iinc (v := y_11) (lv' := [(6, .int y_11), (5, .int y_10), (4, .int to), (0, .ref (ad 0)), (1, .int i1), (2, .int i2), (3, .int i3)]) hx hb dX10_goesOn_94 hl (k := 1) rfl (by rw [ey_11]; rfl) (by decide) rfl (fun ls hl => ?_)
                  refine lv_goto (tgt := 48) hx hb dX10_goesOn_97 (by decide) ?_
                  exact ih48 y_10 y_11 (by first | omega | assumption | decide) (by omega) _ _ ls hP hD hS (lv_sub hl [0, 1, 2, 3, 4, 5, 6] rfl)
                · have tk_9 := c_ne (a := r_8.toInt) (b := 0) rfl (by decide) k_9
                  refine lv_iconst (v := 1) hx hb dX10_goesOn_83 (by decide) ?_
                  refine lv_iload hx hb dX10_goesOn_84 (lv_at hl 0 rfl) ?_
                  refine lv_ishl hx hb dX10_goesOn_86 ?_
                  refine lv_topi (fun y_12 ey_12 => ?_)
                  have rg_y_12 := i_rng y_12
                  refine lv_goto (tgt := 91) hx hb dX10_goesOn_87 (by decide) ?_
                  refine lv_ior hx hb dX10_goesOn_91 ?_
                  refine lv_topi (fun y_13 ey_13 => ?_)
                  have rg_y_13 := i_rng y_13
                  refine lv_istore (lv' := [(5, .int y_13), (6, .int k2), (4, .int to), (0, .ref (ad 0)), (1, .int i1), (2, .int i2), (3, .int i3)]) hx hb dX10_goesOn_92 hl (by decide) rfl (fun ls hl => ?_)
                  obtain ⟨y_14, ey_14⟩ : ∃ y : Int32, y = k2 + 1 := ⟨_, rfl⟩
                  first | have ty_14 := i_add (a := k2.toInt) (b := 1) rfl (by decide) ey_14 (by omega) (by omega) | skip
                  refine lv_iinc (v := y_14) (lv' := [(6, .int y_14), (5, .int y_13), (4, .int to), (0, .ref (ad 0)), (1, .int i1), (2, .int i2), (3, .int i3)]) hx hb dX10_goesOn_94 hl (k := 1) rfl (by rw [ey_14]; rfl) (by decide) rfl (fun ls hl => ?_)
                  refine lv_goto (tgt := 48) hx hb dX10_goesOn_97 (by decide) ?_
                  exact ih48 y_13 y_14 (by first | omega | assumption | decide) (by omega) _ _ ls hP hD hS (lv_sub hl [0, 1, 2, 3, 4, 5, 6] rfl)
        have lit_14 : (0 : Int32).toInt = 0 := by decide
        have lit_15 : (0 : Int32).toInt = 0 := by decide
        exact loop48 _ 0 0 (by first | omega | assumption | decide) (Nat.lt_succ_self _) _ _ ls hP hD hS (lv_sub hl [0, 1, 2, 3, 4, 5, 6] rfl)
      · have tk_1 := c_nge (a := kk.toInt) (b := x15.toInt) rfl rfl k_1
        refine lv_iload_n hx hb dX10_goesOn_15 rfl (lv_at hl 3 rfl) ?_
        refine lv_iload hx hb dX10_goesOn_16 (lv_at hl 0 rfl) ?_
        refine vp_callSi (W.runS (As := [.int i1, .int kk]) (rest := []) ⟨hx, hb, hml, hown, hts⟩ (m_has l dC dI  i1 kk ) (va_cwS 2 hts mg_X10_goesOnm_X10_has_170 rfl rfl rfl (by decide +kernel) ⟨Nat.le_of_ble_eq_true rfl, Nat.le_of_ble_eq_true rfl⟩) ⟨fun a U g mk q => ⟨q.1, trivial⟩, fun U hU hW => ⟨rfl, trivial⟩⟩ rfl rfl hl.1 rfl (lv_room (Nat.le_of_ble_eq_true rfl)) dX10_goesOn_18 ⟨Nat.le_of_ble_eq_true rfl, Nat.le_of_ble_eq_true rfl⟩) (fun r_17 hr_17 => ?_)
        have rg_r_17 := i_rng r_17
        refine lv_if_eq (tgt := 36) hx hb dX10_goesOn_21 (by decide) (fun k_18 => ?_) (fun k_18 => ?_)
        · have tk_18 := c_eq (a := r_17.toInt) (b := 0) rfl (by decide) k_18
          obtain ⟨y_19, ey_19⟩ : ∃ y : Int32, y = kk + 1 := ⟨_, rfl⟩
          first | have ty_19 := i_add (a := kk.toInt) (b := 1) rfl (by decide) ey_19 (by omega) (by omega) | skip
          refine lv_iinc (v := y_19) (lv' := [(5, .int y_19), (4, .int to), (0, .ref (ad 0)), (1, .int i1), (2, .int i2), (3, .int i3)]) hx hb dX10_goesOn_36 hl (k := 0) rfl (by rw [ey_19]; rfl) (by decide) rfl (fun ls hl => ?_)
          refine lv_goto (tgt := 6) hx hb dX10_goesOn_39 (by decide) ?_
          exact ih6 to y_19 (by first | omega | assumption | decide) (by omega) _ _ ls hP hD hS (lv_sub hl [0, 1, 2, 3, 4, 5] rfl)
        · have tk_18 := c_ne (a := r_17.toInt) (b := 0) rfl (by decide) k_18
          refine lv_iload hx hb dX10_goesOn_24 (lv_at hl 1 rfl) ?_
          refine lv_aload_n hx hb dX10_goesOn_26 rfl (lv_at hl 2 rfl) ?_
          refine va_get (D := (dC, dI)) (ci := 10) (v := .ref (ad 18)) (C := RX10) (T := TX10) (N := 48) hx hb hts fin_X10_goesOnm_X10 hown hK hP 0 rfl rfl 40 (by decide) (hts (.fieldLink RX10 86 "PatternGateModel" "follow" "[I") (List.mem_of_getElem? (i := 6) (by decide +kernel))) (fun _ h9 => h9) rfl dX10_goesOn_27 ?_
          refine lv_iload hx hb dX10_goesOn_30 (lv_at hl 0 rfl) ?_
          refine va_iald hx hb hK hP 18 17 rfl rfl (i := kk) (vp_of (a := kk.toInt) rfl (by omega) (by omega)) dX10_goesOn_32 ?_
          refine lv_topi (fun y_20 ey_20 => ?_)
          have rg_y_20 := i_rng y_20
          refine lv_ior hx hb dX10_goesOn_33 ?_
          refine lv_topi (fun y_21 ey_21 => ?_)
          have rg_y_21 := i_rng y_21
          refine lv_istore (lv' := [(4, .int y_21), (5, .int kk), (0, .ref (ad 0)), (1, .int i1), (2, .int i2), (3, .int i3)]) hx hb dX10_goesOn_34 hl (by decide) rfl (fun ls hl => ?_)
          obtain ⟨y_22, ey_22⟩ : ∃ y : Int32, y = kk + 1 := ⟨_, rfl⟩
          first | have ty_22 := i_add (a := kk.toInt) (b := 1) rfl (by decide) ey_22 (by omega) (by omega) | skip
          refine lv_iinc (v := y_22) (lv' := [(5, .int y_22), (4, .int y_21), (0, .ref (ad 0)), (1, .int i1), (2, .int i2), (3, .int i3)]) hx hb dX10_goesOn_36 hl (k := 1) rfl (by rw [ey_22]; rfl) (by decide) rfl (fun ls hl => ?_)
          refine lv_goto (tgt := 6) hx hb dX10_goesOn_39 (by decide) ?_
          exact ih6 y_21 y_22 (by first | omega | assumption | decide) (by omega) _ _ ls hP hD hS (lv_sub hl [0, 1, 2, 3, 4, 5] rfl)
  have lit_22 : (0 : Int32).toInt = 0 := by decide
  exact loop6 _ i3 0 (by first | omega | assumption | decide) (Nat.lt_succ_self _) _ _ ls hP hD hS (lv_sub hl [0, 1, 2, 3, 4, 5] rfl)
theorem dX10_longest_0 : decode cX10_longest 0 = .ok (.aload_n 0, 1) := by decide +kernel
theorem dX10_longest_1 : decode cX10_longest 1 = .ok (.getfield 71, 3) := by decide +kernel
theorem dX10_longest_4 : decode cX10_longest 4 = .ok (.aload_n 0, 1) := by decide +kernel
theorem dX10_longest_5 : decode cX10_longest 5 = .ok (.getfield 393, 3) := by decide +kernel
theorem dX10_longest_8 : decode cX10_longest 8 = .ok (.iaload, 1) := by decide +kernel
theorem dX10_longest_9 : decode cX10_longest 9 = .ok (.iconst 1, 1) := by decide +kernel
theorem dX10_longest_10 : decode cX10_longest 10 = .ok (.if_icmp .ne 7, 3) := by decide +kernel
theorem dX10_longest_13 : decode cX10_longest 13 = .ok (.iconst 0, 1) := by decide +kernel
theorem dX10_longest_14 : decode cX10_longest 14 = .ok (.goto 4, 3) := by decide +kernel
theorem dX10_longest_17 : decode cX10_longest 17 = .ok (.iconst (-1), 1) := by decide +kernel
theorem dX10_longest_18 : decode cX10_longest 18 = .ok (.istore_n 3, 1) := by decide +kernel
theorem dX10_longest_19 : decode cX10_longest 19 = .ok (.iconst 0, 1) := by decide +kernel
theorem dX10_longest_20 : decode cX10_longest 20 = .ok (.istore 4, 2) := by decide +kernel
theorem dX10_longest_22 : decode cX10_longest 22 = .ok (.iload_n 2, 1) := by decide +kernel
theorem dX10_longest_23 : decode cX10_longest 23 = .ok (.istore 5, 2) := by decide +kernel
theorem dX10_longest_25 : decode cX10_longest 25 = .ok (.iload 5, 2) := by decide +kernel
theorem dX10_longest_27 : decode cX10_longest 27 = .ok (.aload_n 0, 1) := by decide +kernel
theorem dX10_longest_28 : decode cX10_longest 28 = .ok (.iload_n 1, 1) := by decide +kernel
theorem dX10_longest_29 : decode cX10_longest 29 = .ok (.invokevirtual 396, 3) := by decide +kernel
theorem dX10_longest_32 : decode cX10_longest 32 = .ok (.if_icmp .ge 80, 3) := by decide +kernel
theorem dX10_longest_35 : decode cX10_longest 35 = .ok (.iload 5, 2) := by decide +kernel
theorem dX10_longest_37 : decode cX10_longest 37 = .ok (.iload_n 2, 1) := by decide +kernel
theorem dX10_longest_38 : decode cX10_longest 38 = .ok (.if_icmp .eq 8, 3) := by decide +kernel
theorem dX10_longest_41 : decode cX10_longest 41 = .ok (.iload 4, 2) := by decide +kernel
theorem dX10_longest_43 : decode cX10_longest 43 = .ok (.ifCond .eq 69, 3) := by decide +kernel
theorem dX10_longest_46 : decode cX10_longest 46 = .ok (.aload_n 0, 1) := by decide +kernel
theorem dX10_longest_47 : decode cX10_longest 47 = .ok (.iload 4, 2) := by decide +kernel
theorem dX10_longest_49 : decode cX10_longest 49 = .ok (.aload_n 0, 1) := by decide +kernel
theorem dX10_longest_50 : decode cX10_longest 50 = .ok (.iload_n 1, 1) := by decide +kernel
theorem dX10_longest_51 : decode cX10_longest 51 = .ok (.iload 5, 2) := by decide +kernel
theorem dX10_longest_53 : decode cX10_longest 53 = .ok (.invokevirtual 399, 3) := by decide +kernel
theorem dX10_longest_56 : decode cX10_longest 56 = .ok (.iload 5, 2) := by decide +kernel
theorem dX10_longest_58 : decode cX10_longest 58 = .ok (.iload_n 2, 1) := by decide +kernel
theorem dX10_longest_59 : decode cX10_longest 59 = .ok (.if_icmp .ne 15, 3) := by decide +kernel
theorem dX10_longest_62 : decode cX10_longest 62 = .ok (.aload_n 0, 1) := by decide +kernel
theorem dX10_longest_63 : decode cX10_longest 63 = .ok (.getfield 74, 3) := by decide +kernel
theorem dX10_longest_66 : decode cX10_longest 66 = .ok (.aload_n 0, 1) := by decide +kernel
theorem dX10_longest_67 : decode cX10_longest 67 = .ok (.getfield 393, 3) := by decide +kernel
theorem dX10_longest_70 : decode cX10_longest 70 = .ok (.iaload, 1) := by decide +kernel
theorem dX10_longest_71 : decode cX10_longest 71 = .ok (.goto 4, 3) := by decide +kernel
theorem dX10_longest_74 : decode cX10_longest 74 = .ok (.iconst 0, 1) := by decide +kernel
theorem dX10_longest_75 : decode cX10_longest 75 = .ok (.invokevirtual 402, 3) := by decide +kernel
theorem dX10_longest_78 : decode cX10_longest 78 = .ok (.istore 4, 2) := by decide +kernel
theorem dX10_longest_80 : decode cX10_longest 80 = .ok (.iload 4, 2) := by decide +kernel
theorem dX10_longest_82 : decode cX10_longest 82 = .ok (.aload_n 0, 1) := by decide +kernel
theorem dX10_longest_83 : decode cX10_longest 83 = .ok (.getfield 77, 3) := by decide +kernel
theorem dX10_longest_86 : decode cX10_longest 86 = .ok (.aload_n 0, 1) := by decide +kernel
theorem dX10_longest_87 : decode cX10_longest 87 = .ok (.getfield 393, 3) := by decide +kernel
theorem dX10_longest_90 : decode cX10_longest 90 = .ok (.iaload, 1) := by decide +kernel
theorem dX10_longest_91 : decode cX10_longest 91 = .ok (.iand, 1) := by decide +kernel
theorem dX10_longest_92 : decode cX10_longest 92 = .ok (.ifCond .eq 12, 3) := by decide +kernel
theorem dX10_longest_95 : decode cX10_longest 95 = .ok (.iload 5, 2) := by decide +kernel
theorem dX10_longest_97 : decode cX10_longest 97 = .ok (.iconst 1, 1) := by decide +kernel
theorem dX10_longest_98 : decode cX10_longest 98 = .ok (.iadd, 1) := by decide +kernel
theorem dX10_longest_99 : decode cX10_longest 99 = .ok (.iload_n 2, 1) := by decide +kernel
theorem dX10_longest_100 : decode cX10_longest 100 = .ok (.isub, 1) := by decide +kernel
theorem dX10_longest_101 : decode cX10_longest 101 = .ok (.goto 4, 3) := by decide +kernel
theorem dX10_longest_104 : decode cX10_longest 104 = .ok (.iload_n 3, 1) := by decide +kernel
theorem dX10_longest_105 : decode cX10_longest 105 = .ok (.istore_n 3, 1) := by decide +kernel
theorem dX10_longest_106 : decode cX10_longest 106 = .ok (.iinc 5 1, 3) := by decide +kernel
theorem dX10_longest_109 : decode cX10_longest 109 = .ok (.goto (-84), 3) := by decide +kernel
theorem dX10_longest_112 : decode cX10_longest 112 = .ok (.iload_n 3, 1) := by decide +kernel
theorem dX10_longest_113 : decode cX10_longest 113 = .ok (.ireturn, 1) := by decide +kernel
def mwX10_longestm : List Cond := .code yX10_longest cX10_longest 6 (some .int) :: (([.fieldLink RX10 71 "PatternGateModel" "nullable" "[I", .fieldLink RX10 393 "PatternGateModel" "top" "I", .methodLink RX10 396 yX10_sizeOf, .instanceMethod yX10_sizeOf, .selects RX10 yX10_sizeOf yX10_sizeOf, .initialized RX10, .methodLink RX10 399 yX10_at, .instanceMethod yX10_at, .selects RX10 yX10_at yX10_at, .methodLink RX10 402 yX10_goesOn, .instanceMethod yX10_goesOn, .selects RX10 yX10_goesOn yX10_goesOn, .fieldLink RX10 77 "PatternGateModel" "tails" "[I", .fieldLink RX10 74 "PatternGateModel" "heads" "[I"] : List Cond) ++ (wsX100 ++ (mwX10_sizeOfm ++ (mwX10_atm ++ (mwX10_goesOnm)))))
theorem fin_X10_longestm_X10 : ∀ w ∈ wsX100, w ∈ mwX10_longestm := fun w h => List.mem_cons_of_mem _ (List.mem_append_right _ (List.mem_append_left _ h))
set_option maxRecDepth 100000 in
theorem gd_mwX10_goesOnm : mwX10_goesOnm.all goodWord = true := by decide +kernel
set_option maxRecDepth 20000 in
theorem mg_X10_longestm_X10_sizeOf_396 : GoodIn mwX10_longestm (wsV RX10 396 RX10 yX10_sizeOf mwX10_sizeOfm) := gi_app (A := [.methodLink RX10 396 yX10_sizeOf, .instanceMethod yX10_sizeOf, .selects RX10 yX10_sizeOf yX10_sizeOf, .initialized RX10]) (goodIn_r _ [3, 4, 5, 6] (by decide +kernel) (by decide +kernel)) (gi_sub gd_mwX10_sizeOfm (fun w h => List.mem_cons_of_mem _ (List.mem_append_right _ (List.mem_append_right _ (List.mem_append_left _ h)))))
set_option maxRecDepth 20000 in
theorem mg_X10_longestm_X10_at_399 : GoodIn mwX10_longestm (wsV RX10 399 RX10 yX10_at mwX10_atm) := gi_app (A := [.methodLink RX10 399 yX10_at, .instanceMethod yX10_at, .selects RX10 yX10_at yX10_at, .initialized RX10]) (goodIn_r _ [7, 8, 9, 6] (by decide +kernel) (by decide +kernel)) (gi_sub gd_mwX10_atm (fun w h => List.mem_cons_of_mem _ (List.mem_append_right _ (List.mem_append_right _ (List.mem_append_right _ (List.mem_append_left _ h))))))
set_option maxRecDepth 20000 in
theorem mg_X10_longestm_X10_goesOn_402 : GoodIn mwX10_longestm (wsV RX10 402 RX10 yX10_goesOn mwX10_goesOnm) := gi_app (A := [.methodLink RX10 402 yX10_goesOn, .instanceMethod yX10_goesOn, .selects RX10 yX10_goesOn yX10_goesOn, .initialized RX10]) (goodIn_r _ [10, 11, 12, 6] (by decide +kernel) (by decide +kernel)) (gi_sub gd_mwX10_goesOnm (fun w h => List.mem_cons_of_mem _ (List.mem_append_right _ (List.mem_append_right _ (List.mem_append_right _ (List.mem_append_right _ (h)))))))
set_option maxHeartbeats 4000000 in
set_option maxRecDepth 100000 in
theorem m_longest (l : Launch) (dC : Nat → ClassId) (dI : Nat → Nat → Nat) (ad : Nat → Nat) (kc : Nat → ClassId) (x0 x1 x2 x3 x4 x5 x6 x7 x8 x9 x10 x11 x12 x13 x14 x15 x16 x17 x18 x19 x20 x21 : Int32) (f0 f1 f2 f3 f4 f5 f6 f7 f8 f9 f10 f11 f12 f13 f14 f15 f16 f17 f18 f19 f20 f21 : Nat → Int32) (fL : Nat → Nat → Int64) (fN : Nat → Nat → Int32) (fP : Nat → Nat → Nat) (fM : Nat → Nat → Int32) (fO : Nat → Nat → Int32) (sz : Nat) (i1 i2 : Int32) (q0 : OKd f0 0) (q1 : 0 ≤ i1.toInt ∧ i1.toInt < vI f0 0) (q2 : 0 ≤ i2.toInt ∧ i2.toInt ≤ vI f0 (1 + i1.toInt)) (q3 : 0 ≤ x15.toInt ∧ x15.toInt ≤ 24) (q4 : 0 ≤ x20.toInt ∧ x20.toInt < 1600) : Met l yX10_longest mwX10_longestm ({ frames := 2, cells := 0, slots := 0, locals := 120 }) (va_Pc [.ref (ad 0), .int i1, .int i2] (fun U => U.heap.size = sz ∧ va_P (dC, dI) vwCl (mW ad kc x0 x1 x2 x3 x4 x5 x6 x7 x8 x9 x10 x11 x12 x13 x14 x15 x16 x17 x18 x19 x20 x21 f0 f1 f2 f3 f4 f5 f6 f7 f8 f9 f10 f11 f12 f13 f14 f15 f16 f17 f18 f19 f20 f21 fL fN fP fM fO) U.heap ∧ va_K (dC, dI) vwCl (mT kc) U ∧ va_D (fun _ => True) (mW ad kc x0 x1 x2 x3 x4 x5 x6 x7 x8 x9 x10 x11 x12 x13 x14 x15 x16 x17 x18 x19 x20 x21 f0 f1 f2 f3 f4 f5 f6 f7 f8 f9 f10 f11 f12 f13 f14 f15 f16 f17 f18 f19 f20 f21 fL fN fP fM fO))) (va_Qi (fun (o9 u9 : Int32) => o9 = u9) (fun (o9 : Int32) t => (-1 ≤ o9.toInt ∧ o9.toInt ≤ 61) ∧ va_P (dC, dI) vwCl (mW ad kc x0 x1 x2 x3 x4 x5 x6 x7 x8 x9 x10 x11 x12 x13 x14 x15 x16 x17 x18 x19 x20 x21 f0 f1 f2 f3 f4 f5 f6 f7 f8 f9 f10 f11 f12 f13 f14 f15 f16 f17 f18 f19 f20 f21 fL fN fP fM fO) t.heap ∧ va_K (dC, dI) vwCl (mT kc) t ∧ va_D (va_A (mW ad kc x0 x1 x2 x3 x4 x5 x6 x7 x8 x9 x10 x11 x12 x13 x14 x15 x16 x17 x18 x19 x20 x21 f0 f1 f2 f3 f4 f5 f6 f7 f8 f9 f10 f11 f12 f13 f14 f15 f16 f17 f18 f19 f20 f21 fL fN fP fM fO) sz) (mW ad kc x0 x1 x2 x3 x4 x5 x6 x7 x8 x9 x10 x11 x12 x13 x14 x15 x16 x17 x18 x19 x20 x21 f0 f1 f2 f3 f4 f5 f6 f7 f8 f9 f10 f11 f12 f13 f14 f15 f16 f17 f18 f19 f20 f21 fL fN fP fM fO)) (va_A (mW ad kc x0 x1 x2 x3 x4 x5 x6 x7 x8 x9 x10 x11 x12 x13 x14 x15 x16 x17 x18 x19 x20 x21 f0 f1 f2 f3 f4 f5 f6 f7 f8 f9 f10 f11 f12 f13 f14 f15 f16 f17 f18 f19 f20 f21 fL fN fP fM fO) sz)) 0 0 (va_A (mW ad kc x0 x1 x2 x3 x4 x5 x6 x7 x8 x9 x10 x11 x12 x13 x14 x15 x16 x17 x18 x19 x20 x21 f0 f1 f2 f3 f4 f5 f6 f7 f8 f9 f10 f11 f12 f13 f14 f15 f16 f17 f18 f19 f20 f21 fL fN fP fM fO) sz) := by
  refine Met.ofW (cc := cX10_longest) (maxL := 6) (ret := (some .int)) (by decide +kernel) rfl ?_
  intro p e s m args below meth c s₁ B hml hv
  obtain ⟨rfl, hsz, hP, hK, hD0⟩ := hv
  have hx := B.exec
  have hb := B.bytes
  have hr := B.returns
  have hts := atoms_spec (ws := mwX10_longestm) B.pre
  have hown : s.vm.findClass RX10 = some m.cls := findClass_of_methodNamed B.named
  have hlocks := B.notSynchronized
  subst hsz
  have hD := hD0.self (sz := s.heap.size)
  generalize hAe : va_A (mW ad kc x0 x1 x2 x3 x4 x5 x6 x7 x8 x9 x10 x11 x12 x13 x14 x15 x16 x17 x18 x19 x20 x21 f0 f1 f2 f3 f4 f5 f6 f7 f8 f9 f10 f11 f12 f13 f14 f15 f16 f17 f18 f19 f20 f21 fL fN fP fM fO) s.heap.size = A at hD ⊢
  have hA : ∀ q : Nat, s.heap.size ≤ q → A q := fun q h => by rw [← hAe]; exact Or.inr h
  have hP : va_P (dC, dI) vwCl (mW ad kc x0 x1 x2 x3 x4 x5 x6 x7 x8 x9 x10 x11 x12 x13 x14 x15 x16 x17 x18 x19 x20 x21 f0 f1 f2 f3 f4 f5 f6 f7 f8 f9 f10 f11 f12 f13 f14 f15 f16 f17 f18 f19 f20 f21 fL fN fP fM fO) s.heap := hP
  have hD : va_D A (mW ad kc x0 x1 x2 x3 x4 x5 x6 x7 x8 x9 x10 x11 x12 x13 x14 x15 x16 x17 x18 x19 x20 x21 f0 f1 f2 f3 f4 f5 f6 f7 f8 f9 f10 f11 f12 f13 f14 f15 f16 f17 f18 f19 f20 f21 fL fN fP fM fO) := hD
  have hK : va_K (dC, dI) vwCl (mT kc) s := hK
  generalize hH : s.heap = H at hP ⊢
  have hS : va_S A s.heap H [] := by rw [← hH]; exact va_S.rf
  have hl := lv_entry ([.ref (ad 0), .int i1, .int i2]) (n := 6) (Nat.le_of_ble_eq_true rfl)
  rw [lg_entry_eq]
  generalize (lg_sl ([.ref (ad 0), .int i1, .int i2]) ++ List.replicate (6 - (lg_sl ([.ref (ad 0), .int i1, .int i2])).length) Slot.unset).toArray = ls at hl ⊢
  have hl : lv_has ls 6 [(0, .ref (ad 0)), (1, .int i1), (2, .int i2)] := hl
  have rg_i1 := i_rng i1
  have rg_i2 := i_rng i2
  have hd10 := q0.n0
  have hsz := q0.sz q1.1 q1.2
  refine lv_aload_n hx hb dX10_longest_0 rfl (lv_at hl 0 rfl) ?_
  refine va_get (D := (dC, dI)) (ci := 10) (v := .ref (ad 13)) (C := RX10) (T := TX10) (N := 48) hx hb hts fin_X10_longestm_X10 hown hK hP 0 rfl rfl 35 (by decide) (hts (.fieldLink RX10 71 "PatternGateModel" "nullable" "[I") (List.mem_of_getElem? (i := 1) (by decide +kernel))) (fun _ h9 => h9) rfl dX10_longest_1 ?_
  refine lv_aload_n hx hb dX10_longest_4 rfl (lv_at hl 0 rfl) ?_
  refine va_get (D := (dC, dI)) (ci := 10) (v := .int x20) (C := RX10) (T := TX10) (N := 48) hx hb hts fin_X10_longestm_X10 hown hK hP 0 rfl rfl 42 (by decide) (hts (.fieldLink RX10 393 "PatternGateModel" "top" "I") (List.mem_of_getElem? (i := 2) (by decide +kernel))) (fun _ h9 => h9) rfl dX10_longest_5 ?_
  refine va_iald hx hb hK hP 13 12 rfl rfl (i := x20) (vp_of (a := x20.toInt) rfl (by omega) (by omega)) dX10_longest_8 ?_
  refine lv_topi (fun y_1 ey_1 => ?_)
  have rg_y_1 := i_rng y_1
  refine lv_iconst (v := 1) hx hb dX10_longest_9 (by decide) ?_
  refine lv_icmp_ne (tgt := 17) hx hb dX10_longest_10 (by decide) (fun k_2 => ?_) (fun k_2 => ?_)
  · have tk_2 := c_ne (a := y_1.toInt) (b := 1) rfl (by decide) k_2
    refine lv_iconst (v := (-1)) hx hb dX10_longest_17 (by decide) ?_
    refine lv_istore_n (lv' := [(3, .int (-1)), (0, .ref (ad 0)), (1, .int i1), (2, .int i2)]) hx hb dX10_longest_18 rfl hl (by decide) rfl (fun ls hl => ?_)
    refine lv_iconst (v := 0) hx hb dX10_longest_19 (by decide) ?_
    refine lv_istore (lv' := [(4, .int 0), (3, .int (-1)), (0, .ref (ad 0)), (1, .int i1), (2, .int i2)]) hx hb dX10_longest_20 hl (by decide) rfl (fun ls hl => ?_)
    refine lv_iload_n hx hb dX10_longest_22 rfl (lv_at hl 4 rfl) ?_
    refine lv_istore (lv' := [(5, .int i2), (4, .int 0), (3, .int (-1)), (0, .ref (ad 0)), (1, .int i1), (2, .int i2)]) hx hb dX10_longest_23 hl (by decide) rfl (fun ls hl => ?_)
    have loop25 : ∀ (lm25 : Nat) (be se kk : Int32), (-1 ≤ be.toInt ∧ be.toInt ≤ 61) → (i2.toInt ≤ kk.toInt ∧ kk.toInt ≤ 60) → ((60 - kk.toInt).toNat) < lm25 → ∀ (H : Heap) (locs : List Loc) (ls : Array Slot), va_P (dC, dI) vwCl (mW ad kc x0 x1 x2 x3 x4 x5 x6 x7 x8 x9 x10 x11 x12 x13 x14 x15 x16 x17 x18 x19 x20 x21 f0 f1 f2 f3 f4 f5 f6 f7 f8 f9 f10 f11 f12 f13 f14 f15 f16 f17 f18 f19 f20 f21 fL fN fP fM fO) H → va_D A (mW ad kc x0 x1 x2 x3 x4 x5 x6 x7 x8 x9 x10 x11 x12 x13 x14 x15 x16 x17 x18 x19 x20 x21 f0 f1 f2 f3 f4 f5 f6 f7 f8 f9 f10 f11 f12 f13 f14 f15 f16 f17 f18 f19 f20 f21 fL fN fP fM fO) → va_S A s.heap H locs → lv_has ls 6 [(5, .int kk), (4, .int se), (3, .int be), (0, .ref (ad 0)), (1, .int i1), (2, .int i2)] → W p l e (headSpec mwX10_longestm ({ frames := 2, cells := 0, slots := 0, locals := 120 })).room s m ([.ref (ad 0), .int i1, .int i2]).toArray below meth c H locs 0 0 (MQ below (va_Qi (fun (o9 u9 : Int32) => o9 = u9) (fun (o9 : Int32) t => (-1 ≤ o9.toInt ∧ o9.toInt ≤ 61) ∧ va_P (dC, dI) vwCl (mW ad kc x0 x1 x2 x3 x4 x5 x6 x7 x8 x9 x10 x11 x12 x13 x14 x15 x16 x17 x18 x19 x20 x21 f0 f1 f2 f3 f4 f5 f6 f7 f8 f9 f10 f11 f12 f13 f14 f15 f16 f17 f18 f19 f20 f21 fL fN fP fM fO) t.heap ∧ va_K (dC, dI) vwCl (mT kc) t ∧ va_D A (mW ad kc x0 x1 x2 x3 x4 x5 x6 x7 x8 x9 x10 x11 x12 x13 x14 x15 x16 x17 x18 x19 x20 x21 f0 f1 f2 f3 f4 f5 f6 f7 f8 f9 f10 f11 f12 f13 f14 f15 f16 f17 f18 f19 f20 f21 fL fN fP fM fO)) A) ([.ref (ad 0), .int i1, .int i2]).toArray s 0 0 A) (F0 m 25 ls []) := by
      intro lm25
      induction lm25 with
      | zero => intro be se kk v25_0 v25_1 hm25; exact absurd hm25 (Nat.not_lt_zero _)
      | succ lm25 ih25 =>
        intro be se kk v25_0 v25_1 hm25 H locs ls hP hD hS hl
        have rg_be := i_rng be
        have rg_se := i_rng se
        have rg_kk := i_rng kk
        refine lv_iload hx hb dX10_longest_25 (lv_at hl 0 rfl) ?_
        refine lv_aload_n hx hb dX10_longest_27 rfl (lv_at hl 3 rfl) ?_
        refine lv_iload_n hx hb dX10_longest_28 rfl (lv_at hl 4 rfl) ?_
        refine vp_callSi (W.runV (As := [.int i1]) (rest := [.int kk]) ⟨hx, hb, hml, hown, hts⟩ (m_sizeOf l dC dI ad kc x0 x1 x2 x3 x4 x5 x6 x7 x8 x9 x10 x11 x12 x13 x14 x15 x16 x17 x18 x19 x20 x21 f0 f1 f2 f3 f4 f5 f6 f7 f8 f9 f10 f11 f12 f13 f14 f15 f16 f17 f18 f19 f20 f21 fL fN fP fM fO i1 (by first | omega | assumption | decide | (have l0 := Int32.toInt_zero; omega)) (by first | omega | assumption | decide | (have l0 := Int32.toInt_zero; omega))) (cwV 1 hts mg_X10_longestm_X10_sizeOf_396 rfl rfl rfl (by decide +kernel) ⟨Nat.le_of_ble_eq_true rfl, Nat.le_of_ble_eq_true rfl⟩) ⟨fun a U g mk q => by obtain ⟨q0, qP, qK⟩ := q; exact ⟨q0, qP, va_K.moved (u := U) (U := U.calling g mk a) (Vm.Alike.refl U.vm) qK⟩, va_recv hK hP (ci := 10) (q0 := 0) rfl rfl, fun U hU hW => ⟨rfl, by rw [hU]; exact hP, va_K.moved hW.alike hK⟩⟩ rfl rfl hl.1 rfl (lv_room (Nat.le_of_ble_eq_true rfl)) dX10_longest_29 ⟨Nat.le_of_ble_eq_true rfl, Nat.le_of_ble_eq_true rfl⟩) (fun r_3 hr_3 => ?_)
        have rg_r_3 := i_rng r_3
        have hlr_3 := OKd.sz q0 (d := i1.toInt) (by omega) (by omega)
        refine lv_icmp_ge (tgt := 112) hx hb dX10_longest_32 (by decide) (fun k_4 => ?_) (fun k_4 => ?_)
        · have tk_4 := c_ge (a := kk.toInt) (b := r_3.toInt) rfl rfl k_4
          refine lv_iload_n hx hb dX10_longest_112 rfl (lv_at hl 2 rfl) ?_
          exact W.iret hx hb hr (fun t ht hW => ⟨⟨_, _, rfl, rfl, (by first | omega | assumption | rfl | decide), by rw [ht]; exact hP, va_K.moved hW.alike hK, hD⟩, hS.F ht⟩) hS.2.2 dX10_longest_113
        · have tk_4 := c_nge (a := kk.toInt) (b := r_3.toInt) rfl rfl k_4
          refine lv_iload hx hb dX10_longest_35 (lv_at hl 0 rfl) ?_
          refine lv_iload_n hx hb dX10_longest_37 rfl (lv_at hl 5 rfl) ?_
          refine lv_icmp_eq (tgt := 46) hx hb dX10_longest_38 (by decide) (fun k_5 => ?_) (fun k_5 => ?_)
          · have tk_5 := c_eq (a := kk.toInt) (b := i2.toInt) rfl rfl k_5
            refine lv_aload_n hx hb dX10_longest_46 rfl (lv_at hl 3 rfl) ?_
            refine lv_iload hx hb dX10_longest_47 (lv_at hl 1 rfl) ?_
            refine lv_aload_n hx hb dX10_longest_49 rfl (lv_at hl 3 rfl) ?_
            refine lv_iload_n hx hb dX10_longest_50 rfl (lv_at hl 4 rfl) ?_
            refine lv_iload hx hb dX10_longest_51 (lv_at hl 0 rfl) ?_
            refine vp_callSi (W.runV (As := [.int i1, .int kk]) (rest := [.int se, .ref (ad 0)]) ⟨hx, hb, hml, hown, hts⟩ (m_at l dC dI ad kc x0 x1 x2 x3 x4 x5 x6 x7 x8 x9 x10 x11 x12 x13 x14 x15 x16 x17 x18 x19 x20 x21 f0 f1 f2 f3 f4 f5 f6 f7 f8 f9 f10 f11 f12 f13 f14 f15 f16 f17 f18 f19 f20 f21 fL fN fP fM fO i1 kk (by first | omega | assumption | decide | (have l0 := Int32.toInt_zero; omega)) (by first | omega | assumption | decide | (have l0 := Int32.toInt_zero; omega)) (by first | omega | assumption | decide | (have l0 := Int32.toInt_zero; omega)) (by first | omega | assumption | decide | (have l0 := Int32.toInt_zero; omega))) (cwV 2 hts mg_X10_longestm_X10_at_399 rfl rfl rfl (by decide +kernel) ⟨Nat.le_of_ble_eq_true rfl, Nat.le_of_ble_eq_true rfl⟩) ⟨fun a U g mk q => by obtain ⟨q0, qP, qK⟩ := q; exact ⟨q0, qP, va_K.moved (u := U) (U := U.calling g mk a) (Vm.Alike.refl U.vm) qK⟩, va_recv hK hP (ci := 10) (q0 := 0) rfl rfl, fun U hU hW => ⟨rfl, by rw [hU]; exact hP, va_K.moved hW.alike hK⟩⟩ rfl rfl hl.1 rfl (lv_room (Nat.le_of_ble_eq_true rfl)) dX10_longest_53 ⟨Nat.le_of_ble_eq_true rfl, Nat.le_of_ble_eq_true rfl⟩) (fun r_6 hr_6 => ?_)
            have rg_r_6 := i_rng r_6
            refine lv_iload hx hb dX10_longest_56 (lv_at hl 0 rfl) ?_
            refine lv_iload_n hx hb dX10_longest_58 rfl (lv_at hl 5 rfl) ?_
            refine lv_icmp_ne (tgt := 74) hx hb dX10_longest_59 (by decide) (fun k_7 => ?_) (fun k_7 => ?_)
            · have tk_7 := c_ne (a := kk.toInt) (b := i2.toInt) rfl rfl k_7
              refine lv_iconst (v := 0) hx hb dX10_longest_74 (by decide) ?_
              have hFc := m_free hD hS hA
              refine va_calli (va_runV (As := [.int se, .int r_6, .int 0]) (rest := []) ⟨hx, hb, hml, hown, hts⟩ (m_goesOn l dC dI ad kc x0 x1 x2 x3 x4 x5 x6 x7 x8 x9 x10 x11 x12 x13 x14 x15 x16 x17 x18 x19 x20 x21 f0 f1 f2 f3 f4 f5 f6 f7 f8 f9 f10 f11 f12 f13 f14 f15 f16 f17 f18 f19 f20 f21 fL fN fP fM fO H.size se r_6 0 (by first | omega | assumption | decide | (have l0 := Int32.toInt_zero; omega))) (cwV 3 hts mg_X10_longestm_X10_goesOn_402 rfl rfl rfl (by decide +kernel) ⟨Nat.le_of_ble_eq_true rfl, Nat.le_of_ble_eq_true rfl⟩) ⟨fun a U g mk q => by obtain ⟨q0, q1, qP, qK, qD⟩ := q; exact ⟨q0, q1, qP, va_K.moved (u := U) (U := U.calling g mk a) (Vm.Alike.refl U.vm) qK, qD⟩, va_recv hK hP (ci := 10) (q0 := 0) rfl rfl, fun U hU hW => ⟨rfl, by rw [hU], by rw [hU]; exact hP, va_K.moved hW.alike hK, hD.weaken (fun _ _ _ _ => trivial)⟩⟩ rfl rfl hl.1 rfl (lv_room (Nat.le_of_ble_eq_true rfl)) dX10_longest_75 ⟨Nat.le_of_ble_eq_true rfl, Nat.le_of_ble_eq_true rfl⟩) hS (fun q _ h => hFc q h) hFc (fun r_8 u t H1 locs ht hvm hw hB hz1 hk1 hS => ?_)
              subst hw
              obtain ⟨hP, hK1, hD1⟩ := hB
              rw [ht] at hP
              have hD := hD1.weaken (fun k q _ h => hFc q.1 h)
              clear hz1 hk1 hFc hD1 hK1 hvm
              generalize H1 = H at hP hS ⊢
              have rg_r_8 := i_rng r_8
              have hP : va_P (dC, dI) vwCl (mW ad kc x0 x1 x2 x3 x4 x5 x6 x7 x8 x9 x10 x11 x12 x13 x14 x15 x16 x17 x18 x19 x20 x21 f0 f1 f2 f3 f4 f5 f6 f7 f8 f9 f10 f11 f12 f13 f14 f15 f16 f17 f18 f19 f20 f21 fL fN fP fM fO) H := hP
              have hD : va_D A (mW ad kc x0 x1 x2 x3 x4 x5 x6 x7 x8 x9 x10 x11 x12 x13 x14 x15 x16 x17 x18 x19 x20 x21 f0 f1 f2 f3 f4 f5 f6 f7 f8 f9 f10 f11 f12 f13 f14 f15 f16 f17 f18 f19 f20 f21 fL fN fP fM fO) := hD
              refine lv_istore (lv' := [(4, .int r_8), (5, .int kk), (3, .int be), (0, .ref (ad 0)), (1, .int i1), (2, .int i2)]) hx hb dX10_longest_78 hl (by decide) rfl (fun ls hl => ?_)
              refine lv_iload hx hb dX10_longest_80 (lv_at hl 0 rfl) ?_
              refine lv_aload_n hx hb dX10_longest_82 rfl (lv_at hl 3 rfl) ?_
              refine va_get (D := (dC, dI)) (ci := 10) (v := .ref (ad 15)) (C := RX10) (T := TX10) (N := 48) hx hb hts fin_X10_longestm_X10 hown hK hP 0 rfl rfl 37 (by decide) (hts (.fieldLink RX10 77 "PatternGateModel" "tails" "[I") (List.mem_of_getElem? (i := 13) (by decide +kernel))) (fun _ h9 => h9) rfl dX10_longest_83 ?_
              refine lv_aload_n hx hb dX10_longest_86 rfl (lv_at hl 3 rfl) ?_
              refine va_get (D := (dC, dI)) (ci := 10) (v := .int x20) (C := RX10) (T := TX10) (N := 48) hx hb hts fin_X10_longestm_X10 hown hK hP 0 rfl rfl 42 (by decide) (hts (.fieldLink RX10 393 "PatternGateModel" "top" "I") (List.mem_of_getElem? (i := 2) (by decide +kernel))) (fun _ h9 => h9) rfl dX10_longest_87 ?_
              refine va_iald hx hb hK hP 15 14 rfl rfl (i := x20) (vp_of (a := x20.toInt) rfl (by omega) (by omega)) dX10_longest_90 ?_
              refine lv_topi (fun y_9 ey_9 => ?_)
              have rg_y_9 := i_rng y_9
              refine lv_iand hx hb dX10_longest_91 ?_
              refine lv_topi (fun y_10 ey_10 => ?_)
              have rg_y_10 := i_rng y_10
              refine lv_if_eq (tgt := 104) hx hb dX10_longest_92 (by decide) (fun k_11 => ?_) (fun k_11 => ?_)
              · have tk_11 := c_eq (a := y_10.toInt) (b := 0) rfl (by decide) k_11
                refine lv_iload_n hx hb dX10_longest_104 rfl (lv_at hl 2 rfl) ?_
                refine lv_istore_n (lv' := [(3, .int be), (4, .int r_8), (5, .int kk), (0, .ref (ad 0)), (1, .int i1), (2, .int i2)]) hx hb dX10_longest_105 rfl hl (by decide) rfl (fun ls hl => ?_)
                obtain ⟨y_12, ey_12⟩ : ∃ y : Int32, y = kk + 1 := ⟨_, rfl⟩
                first | have ty_12 := i_add (a := kk.toInt) (b := 1) rfl (by decide) ey_12 (by omega) (by omega) | skip
                refine lv_iinc (v := y_12) (lv' := [(5, .int y_12), (3, .int be), (4, .int r_8), (0, .ref (ad 0)), (1, .int i1), (2, .int i2)]) hx hb dX10_longest_106 hl (k := 2) rfl (by rw [ey_12]; rfl) (by decide) rfl (fun ls hl => ?_)
                refine lv_goto (tgt := 25) hx hb dX10_longest_109 (by decide) ?_
                exact ih25 be r_8 y_12 (by first | omega | assumption | decide) (by first | omega | assumption | decide) (by omega) _ _ ls hP hD hS (lv_sub hl [0, 2, 1, 3, 4, 5] rfl)
              · have tk_11 := c_ne (a := y_10.toInt) (b := 0) rfl (by decide) k_11
                refine lv_iload hx hb dX10_longest_95 (lv_at hl 1 rfl) ?_
                refine lv_iconst (v := 1) hx hb dX10_longest_97 (by decide) ?_
                refine lv_iadd hx hb dX10_longest_98 ?_
                refine lv_topi (fun y_13 ey_13 => ?_)
                first | have ty_13 := i_add (a := kk.toInt) (b := 1) rfl (by decide) ey_13 (by omega) (by omega) | skip
                refine lv_iload_n hx hb dX10_longest_99 rfl (lv_at hl 5 rfl) ?_
                refine lv_isub hx hb dX10_longest_100 ?_
                refine lv_topi (fun y_14 ey_14 => ?_)
                first | have ty_14 := i_sub (a := y_13.toInt) (b := i2.toInt) rfl rfl ey_14 (by omega) (by omega) | skip
                refine lv_goto (tgt := 105) hx hb dX10_longest_101 (by decide) ?_
                refine lv_istore_n (lv' := [(3, .int y_14), (4, .int r_8), (5, .int kk), (0, .ref (ad 0)), (1, .int i1), (2, .int i2)]) hx hb dX10_longest_105 rfl hl (by decide) rfl (fun ls hl => ?_)
                obtain ⟨y_15, ey_15⟩ : ∃ y : Int32, y = kk + 1 := ⟨_, rfl⟩
                first | have ty_15 := i_add (a := kk.toInt) (b := 1) rfl (by decide) ey_15 (by omega) (by omega) | skip
                refine lv_iinc (v := y_15) (lv' := [(5, .int y_15), (3, .int y_14), (4, .int r_8), (0, .ref (ad 0)), (1, .int i1), (2, .int i2)]) hx hb dX10_longest_106 hl (k := 2) rfl (by rw [ey_15]; rfl) (by decide) rfl (fun ls hl => ?_)
                refine lv_goto (tgt := 25) hx hb dX10_longest_109 (by decide) ?_
                exact ih25 y_14 r_8 y_15 (by first | omega | assumption | decide) (by first | omega | assumption | decide) (by omega) _ _ ls hP hD hS (lv_sub hl [0, 2, 1, 3, 4, 5] rfl)
            · have tk_7 := c_eq (a := kk.toInt) (b := i2.toInt) rfl rfl k_7
              refine lv_aload_n hx hb dX10_longest_62 rfl (lv_at hl 3 rfl) ?_
              refine va_get (D := (dC, dI)) (ci := 10) (v := .ref (ad 14)) (C := RX10) (T := TX10) (N := 48) hx hb hts fin_X10_longestm_X10 hown hK hP 0 rfl rfl 36 (by decide) (hts (.fieldLink RX10 74 "PatternGateModel" "heads" "[I") (List.mem_of_getElem? (i := 14) (by decide +kernel))) (fun _ h9 => h9) rfl dX10_longest_63 ?_
              refine lv_aload_n hx hb dX10_longest_66 rfl (lv_at hl 3 rfl) ?_
              refine va_get (D := (dC, dI)) (ci := 10) (v := .int x20) (C := RX10) (T := TX10) (N := 48) hx hb hts fin_X10_longestm_X10 hown hK hP 0 rfl rfl 42 (by decide) (hts (.fieldLink RX10 393 "PatternGateModel" "top" "I") (List.mem_of_getElem? (i := 2) (by decide +kernel))) (fun _ h9 => h9) rfl dX10_longest_67 ?_
              refine va_iald hx hb hK hP 14 13 rfl rfl (i := x20) (vp_of (a := x20.toInt) rfl (by omega) (by omega)) dX10_longest_70 ?_
              refine lv_topi (fun y_16 ey_16 => ?_)
              have rg_y_16 := i_rng y_16
              refine lv_goto (tgt := 75) hx hb dX10_longest_71 (by decide) ?_
              have hFc := m_free hD hS hA
              refine va_calli (va_runV (As := [.int se, .int r_6, .int y_16]) (rest := []) ⟨hx, hb, hml, hown, hts⟩ (m_goesOn l dC dI ad kc x0 x1 x2 x3 x4 x5 x6 x7 x8 x9 x10 x11 x12 x13 x14 x15 x16 x17 x18 x19 x20 x21 f0 f1 f2 f3 f4 f5 f6 f7 f8 f9 f10 f11 f12 f13 f14 f15 f16 f17 f18 f19 f20 f21 fL fN fP fM fO H.size se r_6 y_16 (by first | omega | assumption | decide | (have l0 := Int32.toInt_zero; omega))) (cwV 3 hts mg_X10_longestm_X10_goesOn_402 rfl rfl rfl (by decide +kernel) ⟨Nat.le_of_ble_eq_true rfl, Nat.le_of_ble_eq_true rfl⟩) ⟨fun a U g mk q => by obtain ⟨q0, q1, qP, qK, qD⟩ := q; exact ⟨q0, q1, qP, va_K.moved (u := U) (U := U.calling g mk a) (Vm.Alike.refl U.vm) qK, qD⟩, va_recv hK hP (ci := 10) (q0 := 0) rfl rfl, fun U hU hW => ⟨rfl, by rw [hU], by rw [hU]; exact hP, va_K.moved hW.alike hK, hD.weaken (fun _ _ _ _ => trivial)⟩⟩ rfl rfl hl.1 rfl (lv_room (Nat.le_of_ble_eq_true rfl)) dX10_longest_75 ⟨Nat.le_of_ble_eq_true rfl, Nat.le_of_ble_eq_true rfl⟩) hS (fun q _ h => hFc q h) hFc (fun r_17 u t H1 locs ht hvm hw hB hz1 hk1 hS => ?_)
              subst hw
              obtain ⟨hP, hK1, hD1⟩ := hB
              rw [ht] at hP
              have hD := hD1.weaken (fun k q _ h => hFc q.1 h)
              clear hz1 hk1 hFc hD1 hK1 hvm
              generalize H1 = H at hP hS ⊢
              have rg_r_17 := i_rng r_17
              have hP : va_P (dC, dI) vwCl (mW ad kc x0 x1 x2 x3 x4 x5 x6 x7 x8 x9 x10 x11 x12 x13 x14 x15 x16 x17 x18 x19 x20 x21 f0 f1 f2 f3 f4 f5 f6 f7 f8 f9 f10 f11 f12 f13 f14 f15 f16 f17 f18 f19 f20 f21 fL fN fP fM fO) H := hP
              have hD : va_D A (mW ad kc x0 x1 x2 x3 x4 x5 x6 x7 x8 x9 x10 x11 x12 x13 x14 x15 x16 x17 x18 x19 x20 x21 f0 f1 f2 f3 f4 f5 f6 f7 f8 f9 f10 f11 f12 f13 f14 f15 f16 f17 f18 f19 f20 f21 fL fN fP fM fO) := hD
              refine lv_istore (lv' := [(4, .int r_17), (5, .int kk), (3, .int be), (0, .ref (ad 0)), (1, .int i1), (2, .int i2)]) hx hb dX10_longest_78 hl (by decide) rfl (fun ls hl => ?_)
              refine lv_iload hx hb dX10_longest_80 (lv_at hl 0 rfl) ?_
              refine lv_aload_n hx hb dX10_longest_82 rfl (lv_at hl 3 rfl) ?_
              refine va_get (D := (dC, dI)) (ci := 10) (v := .ref (ad 15)) (C := RX10) (T := TX10) (N := 48) hx hb hts fin_X10_longestm_X10 hown hK hP 0 rfl rfl 37 (by decide) (hts (.fieldLink RX10 77 "PatternGateModel" "tails" "[I") (List.mem_of_getElem? (i := 13) (by decide +kernel))) (fun _ h9 => h9) rfl dX10_longest_83 ?_
              refine lv_aload_n hx hb dX10_longest_86 rfl (lv_at hl 3 rfl) ?_
              refine va_get (D := (dC, dI)) (ci := 10) (v := .int x20) (C := RX10) (T := TX10) (N := 48) hx hb hts fin_X10_longestm_X10 hown hK hP 0 rfl rfl 42 (by decide) (hts (.fieldLink RX10 393 "PatternGateModel" "top" "I") (List.mem_of_getElem? (i := 2) (by decide +kernel))) (fun _ h9 => h9) rfl dX10_longest_87 ?_
              refine va_iald hx hb hK hP 15 14 rfl rfl (i := x20) (vp_of (a := x20.toInt) rfl (by omega) (by omega)) dX10_longest_90 ?_
              refine lv_topi (fun y_18 ey_18 => ?_)
              have rg_y_18 := i_rng y_18
              refine lv_iand hx hb dX10_longest_91 ?_
              refine lv_topi (fun y_19 ey_19 => ?_)
              have rg_y_19 := i_rng y_19
              refine lv_if_eq (tgt := 104) hx hb dX10_longest_92 (by decide) (fun k_20 => ?_) (fun k_20 => ?_)
              · have tk_20 := c_eq (a := y_19.toInt) (b := 0) rfl (by decide) k_20
                refine lv_iload_n hx hb dX10_longest_104 rfl (lv_at hl 2 rfl) ?_
                refine lv_istore_n (lv' := [(3, .int be), (4, .int r_17), (5, .int kk), (0, .ref (ad 0)), (1, .int i1), (2, .int i2)]) hx hb dX10_longest_105 rfl hl (by decide) rfl (fun ls hl => ?_)
                obtain ⟨y_21, ey_21⟩ : ∃ y : Int32, y = kk + 1 := ⟨_, rfl⟩
                first | have ty_21 := i_add (a := kk.toInt) (b := 1) rfl (by decide) ey_21 (by omega) (by omega) | skip
                refine lv_iinc (v := y_21) (lv' := [(5, .int y_21), (3, .int be), (4, .int r_17), (0, .ref (ad 0)), (1, .int i1), (2, .int i2)]) hx hb dX10_longest_106 hl (k := 2) rfl (by rw [ey_21]; rfl) (by decide) rfl (fun ls hl => ?_)
                refine lv_goto (tgt := 25) hx hb dX10_longest_109 (by decide) ?_
                exact ih25 be r_17 y_21 (by first | omega | assumption | decide) (by first | omega | assumption | decide) (by omega) _ _ ls hP hD hS (lv_sub hl [0, 2, 1, 3, 4, 5] rfl)
              · have tk_20 := c_ne (a := y_19.toInt) (b := 0) rfl (by decide) k_20
                refine lv_iload hx hb dX10_longest_95 (lv_at hl 1 rfl) ?_
                refine lv_iconst (v := 1) hx hb dX10_longest_97 (by decide) ?_
                refine lv_iadd hx hb dX10_longest_98 ?_
                refine lv_topi (fun y_22 ey_22 => ?_)
                first | have ty_22 := i_add (a := kk.toInt) (b := 1) rfl (by decide) ey_22 (by omega) (by omega) | skip
                refine lv_iload_n hx hb dX10_longest_99 rfl (lv_at hl 5 rfl) ?_
                refine lv_isub hx hb dX10_longest_100 ?_
                refine lv_topi (fun y_23 ey_23 => ?_)
                first | have ty_23 := i_sub (a := y_22.toInt) (b := i2.toInt) rfl rfl ey_23 (by omega) (by omega) | skip
                refine lv_goto (tgt := 105) hx hb dX10_longest_101 (by decide) ?_
                refine lv_istore_n (lv' := [(3, .int y_23), (4, .int r_17), (5, .int kk), (0, .ref (ad 0)), (1, .int i1), (2, .int i2)]) hx hb dX10_longest_105 rfl hl (by decide) rfl (fun ls hl => ?_)
                obtain ⟨y_24, ey_24⟩ : ∃ y : Int32, y = kk + 1 := ⟨_, rfl⟩
                first | have ty_24 := i_add (a := kk.toInt) (b := 1) rfl (by decide) ey_24 (by omega) (by omega) | skip
                refine lv_iinc (v := y_24) (lv' := [(5, .int y_24), (3, .int y_23), (4, .int r_17), (0, .ref (ad 0)), (1, .int i1), (2, .int i2)]) hx hb dX10_longest_106 hl (k := 2) rfl (by rw [ey_24]; rfl) (by decide) rfl (fun ls hl => ?_)
                refine lv_goto (tgt := 25) hx hb dX10_longest_109 (by decide) ?_
                exact ih25 y_23 r_17 y_24 (by first | omega | assumption | decide) (by first | omega | assumption | decide) (by omega) _ _ ls hP hD hS (lv_sub hl [0, 2, 1, 3, 4, 5] rfl)
          · have tk_5 := c_ne (a := kk.toInt) (b := i2.toInt) rfl rfl k_5
            refine lv_iload hx hb dX10_longest_41 (lv_at hl 1 rfl) ?_
            refine lv_if_eq (tgt := 112) hx hb dX10_longest_43 (by decide) (fun k_25 => ?_) (fun k_25 => ?_)
            · have tk_25 := c_eq (a := se.toInt) (b := 0) rfl (by decide) k_25
              refine lv_iload_n hx hb dX10_longest_112 rfl (lv_at hl 2 rfl) ?_
              exact W.iret hx hb hr (fun t ht hW => ⟨⟨_, _, rfl, rfl, (by first | omega | assumption | rfl | decide), by rw [ht]; exact hP, va_K.moved hW.alike hK, hD⟩, hS.F ht⟩) hS.2.2 dX10_longest_113
            · have tk_25 := c_ne (a := se.toInt) (b := 0) rfl (by decide) k_25
              refine lv_aload_n hx hb dX10_longest_46 rfl (lv_at hl 3 rfl) ?_
              refine lv_iload hx hb dX10_longest_47 (lv_at hl 1 rfl) ?_
              refine lv_aload_n hx hb dX10_longest_49 rfl (lv_at hl 3 rfl) ?_
              refine lv_iload_n hx hb dX10_longest_50 rfl (lv_at hl 4 rfl) ?_
              refine lv_iload hx hb dX10_longest_51 (lv_at hl 0 rfl) ?_
              refine vp_callSi (W.runV (As := [.int i1, .int kk]) (rest := [.int se, .ref (ad 0)]) ⟨hx, hb, hml, hown, hts⟩ (m_at l dC dI ad kc x0 x1 x2 x3 x4 x5 x6 x7 x8 x9 x10 x11 x12 x13 x14 x15 x16 x17 x18 x19 x20 x21 f0 f1 f2 f3 f4 f5 f6 f7 f8 f9 f10 f11 f12 f13 f14 f15 f16 f17 f18 f19 f20 f21 fL fN fP fM fO i1 kk (by first | omega | assumption | decide | (have l0 := Int32.toInt_zero; omega)) (by first | omega | assumption | decide | (have l0 := Int32.toInt_zero; omega)) (by first | omega | assumption | decide | (have l0 := Int32.toInt_zero; omega)) (by first | omega | assumption | decide | (have l0 := Int32.toInt_zero; omega))) (cwV 2 hts mg_X10_longestm_X10_at_399 rfl rfl rfl (by decide +kernel) ⟨Nat.le_of_ble_eq_true rfl, Nat.le_of_ble_eq_true rfl⟩) ⟨fun a U g mk q => by obtain ⟨q0, qP, qK⟩ := q; exact ⟨q0, qP, va_K.moved (u := U) (U := U.calling g mk a) (Vm.Alike.refl U.vm) qK⟩, va_recv hK hP (ci := 10) (q0 := 0) rfl rfl, fun U hU hW => ⟨rfl, by rw [hU]; exact hP, va_K.moved hW.alike hK⟩⟩ rfl rfl hl.1 rfl (lv_room (Nat.le_of_ble_eq_true rfl)) dX10_longest_53 ⟨Nat.le_of_ble_eq_true rfl, Nat.le_of_ble_eq_true rfl⟩) (fun r_26 hr_26 => ?_)
              have rg_r_26 := i_rng r_26
              refine lv_iload hx hb dX10_longest_56 (lv_at hl 0 rfl) ?_
              refine lv_iload_n hx hb dX10_longest_58 rfl (lv_at hl 5 rfl) ?_
              refine lv_icmp_ne (tgt := 74) hx hb dX10_longest_59 (by decide) (fun k_27 => ?_) (fun k_27 => ?_)
              · have tk_27 := c_ne (a := kk.toInt) (b := i2.toInt) rfl rfl k_27
                refine lv_iconst (v := 0) hx hb dX10_longest_74 (by decide) ?_
                have hFc := m_free hD hS hA
                refine va_calli (va_runV (As := [.int se, .int r_26, .int 0]) (rest := []) ⟨hx, hb, hml, hown, hts⟩ (m_goesOn l dC dI ad kc x0 x1 x2 x3 x4 x5 x6 x7 x8 x9 x10 x11 x12 x13 x14 x15 x16 x17 x18 x19 x20 x21 f0 f1 f2 f3 f4 f5 f6 f7 f8 f9 f10 f11 f12 f13 f14 f15 f16 f17 f18 f19 f20 f21 fL fN fP fM fO H.size se r_26 0 (by first | omega | assumption | decide | (have l0 := Int32.toInt_zero; omega))) (cwV 3 hts mg_X10_longestm_X10_goesOn_402 rfl rfl rfl (by decide +kernel) ⟨Nat.le_of_ble_eq_true rfl, Nat.le_of_ble_eq_true rfl⟩) ⟨fun a U g mk q => by obtain ⟨q0, q1, qP, qK, qD⟩ := q; exact ⟨q0, q1, qP, va_K.moved (u := U) (U := U.calling g mk a) (Vm.Alike.refl U.vm) qK, qD⟩, va_recv hK hP (ci := 10) (q0 := 0) rfl rfl, fun U hU hW => ⟨rfl, by rw [hU], by rw [hU]; exact hP, va_K.moved hW.alike hK, hD.weaken (fun _ _ _ _ => trivial)⟩⟩ rfl rfl hl.1 rfl (lv_room (Nat.le_of_ble_eq_true rfl)) dX10_longest_75 ⟨Nat.le_of_ble_eq_true rfl, Nat.le_of_ble_eq_true rfl⟩) hS (fun q _ h => hFc q h) hFc (fun r_28 u t H1 locs ht hvm hw hB hz1 hk1 hS => ?_)
                subst hw
                obtain ⟨hP, hK1, hD1⟩ := hB
                rw [ht] at hP
                have hD := hD1.weaken (fun k q _ h => hFc q.1 h)
                clear hz1 hk1 hFc hD1 hK1 hvm
                generalize H1 = H at hP hS ⊢
                have rg_r_28 := i_rng r_28
                have hP : va_P (dC, dI) vwCl (mW ad kc x0 x1 x2 x3 x4 x5 x6 x7 x8 x9 x10 x11 x12 x13 x14 x15 x16 x17 x18 x19 x20 x21 f0 f1 f2 f3 f4 f5 f6 f7 f8 f9 f10 f11 f12 f13 f14 f15 f16 f17 f18 f19 f20 f21 fL fN fP fM fO) H := hP
                have hD : va_D A (mW ad kc x0 x1 x2 x3 x4 x5 x6 x7 x8 x9 x10 x11 x12 x13 x14 x15 x16 x17 x18 x19 x20 x21 f0 f1 f2 f3 f4 f5 f6 f7 f8 f9 f10 f11 f12 f13 f14 f15 f16 f17 f18 f19 f20 f21 fL fN fP fM fO) := hD
                refine lv_istore (lv' := [(4, .int r_28), (5, .int kk), (3, .int be), (0, .ref (ad 0)), (1, .int i1), (2, .int i2)]) hx hb dX10_longest_78 hl (by decide) rfl (fun ls hl => ?_)
                refine lv_iload hx hb dX10_longest_80 (lv_at hl 0 rfl) ?_
                refine lv_aload_n hx hb dX10_longest_82 rfl (lv_at hl 3 rfl) ?_
                refine va_get (D := (dC, dI)) (ci := 10) (v := .ref (ad 15)) (C := RX10) (T := TX10) (N := 48) hx hb hts fin_X10_longestm_X10 hown hK hP 0 rfl rfl 37 (by decide) (hts (.fieldLink RX10 77 "PatternGateModel" "tails" "[I") (List.mem_of_getElem? (i := 13) (by decide +kernel))) (fun _ h9 => h9) rfl dX10_longest_83 ?_
                refine lv_aload_n hx hb dX10_longest_86 rfl (lv_at hl 3 rfl) ?_
                refine va_get (D := (dC, dI)) (ci := 10) (v := .int x20) (C := RX10) (T := TX10) (N := 48) hx hb hts fin_X10_longestm_X10 hown hK hP 0 rfl rfl 42 (by decide) (hts (.fieldLink RX10 393 "PatternGateModel" "top" "I") (List.mem_of_getElem? (i := 2) (by decide +kernel))) (fun _ h9 => h9) rfl dX10_longest_87 ?_
                refine va_iald hx hb hK hP 15 14 rfl rfl (i := x20) (vp_of (a := x20.toInt) rfl (by omega) (by omega)) dX10_longest_90 ?_
                refine lv_topi (fun y_29 ey_29 => ?_)
                have rg_y_29 := i_rng y_29
                refine lv_iand hx hb dX10_longest_91 ?_
                refine lv_topi (fun y_30 ey_30 => ?_)
                have rg_y_30 := i_rng y_30
                refine lv_if_eq (tgt := 104) hx hb dX10_longest_92 (by decide) (fun k_31 => ?_) (fun k_31 => ?_)
                · have tk_31 := c_eq (a := y_30.toInt) (b := 0) rfl (by decide) k_31
                  refine lv_iload_n hx hb dX10_longest_104 rfl (lv_at hl 2 rfl) ?_
                  refine lv_istore_n (lv' := [(3, .int be), (4, .int r_28), (5, .int kk), (0, .ref (ad 0)), (1, .int i1), (2, .int i2)]) hx hb dX10_longest_105 rfl hl (by decide) rfl (fun ls hl => ?_)
                  obtain ⟨y_32, ey_32⟩ : ∃ y : Int32, y = kk + 1 := ⟨_, rfl⟩
                  first | have ty_32 := i_add (a := kk.toInt) (b := 1) rfl (by decide) ey_32 (by omega) (by omega) | skip
                  refine lv_iinc (v := y_32) (lv' := [(5, .int y_32), (3, .int be), (4, .int r_28), (0, .ref (ad 0)), (1, .int i1), (2, .int i2)]) hx hb dX10_longest_106 hl (k := 2) rfl (by rw [ey_32]; rfl) (by decide) rfl (fun ls hl => ?_)
                  refine lv_goto (tgt := 25) hx hb dX10_longest_109 (by decide) ?_
                  exact ih25 be r_28 y_32 (by first | omega | assumption | decide) (by first | omega | assumption | decide) (by omega) _ _ ls hP hD hS (lv_sub hl [0, 2, 1, 3, 4, 5] rfl)
                · have tk_31 := c_ne (a := y_30.toInt) (b := 0) rfl (by decide) k_31
                  refine lv_iload hx hb dX10_longest_95 (lv_at hl 1 rfl) ?_
                  refine lv_iconst (v := 1) hx hb dX10_longest_97 (by decide) ?_
                  refine lv_iadd hx hb dX10_longest_98 ?_
                  refine lv_topi (fun y_33 ey_33 => ?_)
                  first | have ty_33 := i_add (a := kk.toInt) (b := 1) rfl (by decide) ey_33 (by omega) (by omega) | skip
                  refine lv_iload_n hx hb dX10_longest_99 rfl (lv_at hl 5 rfl) ?_
                  refine lv_isub hx hb dX10_longest_100 ?_
                  refine lv_topi (fun y_34 ey_34 => ?_)
                  first | have ty_34 := i_sub (a := y_33.toInt) (b := i2.toInt) rfl rfl ey_34 (by omega) (by omega) | skip
                  refine lv_goto (tgt := 105) hx hb dX10_longest_101 (by decide) ?_
                  refine lv_istore_n (lv' := [(3, .int y_34), (4, .int r_28), (5, .int kk), (0, .ref (ad 0)), (1, .int i1), (2, .int i2)]) hx hb dX10_longest_105 rfl hl (by decide) rfl (fun ls hl => ?_)
                  obtain ⟨y_35, ey_35⟩ : ∃ y : Int32, y = kk + 1 := ⟨_, rfl⟩
                  first | have ty_35 := i_add (a := kk.toInt) (b := 1) rfl (by decide) ey_35 (by omega) (by omega) | skip
                  refine lv_iinc (v := y_35) (lv' := [(5, .int y_35), (3, .int y_34), (4, .int r_28), (0, .ref (ad 0)), (1, .int i1), (2, .int i2)]) hx hb dX10_longest_106 hl (k := 2) rfl (by rw [ey_35]; rfl) (by decide) rfl (fun ls hl => ?_)
                  refine lv_goto (tgt := 25) hx hb dX10_longest_109 (by decide) ?_
                  exact ih25 y_34 r_28 y_35 (by first | omega | assumption | decide) (by first | omega | assumption | decide) (by omega) _ _ ls hP hD hS (lv_sub hl [0, 2, 1, 3, 4, 5] rfl)
              · have tk_27 := c_eq (a := kk.toInt) (b := i2.toInt) rfl rfl k_27
                refine lv_aload_n hx hb dX10_longest_62 rfl (lv_at hl 3 rfl) ?_
                refine va_get (D := (dC, dI)) (ci := 10) (v := .ref (ad 14)) (C := RX10) (T := TX10) (N := 48) hx hb hts fin_X10_longestm_X10 hown hK hP 0 rfl rfl 36 (by decide) (hts (.fieldLink RX10 74 "PatternGateModel" "heads" "[I") (List.mem_of_getElem? (i := 14) (by decide +kernel))) (fun _ h9 => h9) rfl dX10_longest_63 ?_
                refine lv_aload_n hx hb dX10_longest_66 rfl (lv_at hl 3 rfl) ?_
                refine va_get (D := (dC, dI)) (ci := 10) (v := .int x20) (C := RX10) (T := TX10) (N := 48) hx hb hts fin_X10_longestm_X10 hown hK hP 0 rfl rfl 42 (by decide) (hts (.fieldLink RX10 393 "PatternGateModel" "top" "I") (List.mem_of_getElem? (i := 2) (by decide +kernel))) (fun _ h9 => h9) rfl dX10_longest_67 ?_
                refine va_iald hx hb hK hP 14 13 rfl rfl (i := x20) (vp_of (a := x20.toInt) rfl (by omega) (by omega)) dX10_longest_70 ?_
                refine lv_topi (fun y_36 ey_36 => ?_)
                have rg_y_36 := i_rng y_36
                refine lv_goto (tgt := 75) hx hb dX10_longest_71 (by decide) ?_
                have hFc := m_free hD hS hA
                refine va_calli (va_runV (As := [.int se, .int r_26, .int y_36]) (rest := []) ⟨hx, hb, hml, hown, hts⟩ (m_goesOn l dC dI ad kc x0 x1 x2 x3 x4 x5 x6 x7 x8 x9 x10 x11 x12 x13 x14 x15 x16 x17 x18 x19 x20 x21 f0 f1 f2 f3 f4 f5 f6 f7 f8 f9 f10 f11 f12 f13 f14 f15 f16 f17 f18 f19 f20 f21 fL fN fP fM fO H.size se r_26 y_36 (by first | omega | assumption | decide | (have l0 := Int32.toInt_zero; omega))) (cwV 3 hts mg_X10_longestm_X10_goesOn_402 rfl rfl rfl (by decide +kernel) ⟨Nat.le_of_ble_eq_true rfl, Nat.le_of_ble_eq_true rfl⟩) ⟨fun a U g mk q => by obtain ⟨q0, q1, qP, qK, qD⟩ := q; exact ⟨q0, q1, qP, va_K.moved (u := U) (U := U.calling g mk a) (Vm.Alike.refl U.vm) qK, qD⟩, va_recv hK hP (ci := 10) (q0 := 0) rfl rfl, fun U hU hW => ⟨rfl, by rw [hU], by rw [hU]; exact hP, va_K.moved hW.alike hK, hD.weaken (fun _ _ _ _ => trivial)⟩⟩ rfl rfl hl.1 rfl (lv_room (Nat.le_of_ble_eq_true rfl)) dX10_longest_75 ⟨Nat.le_of_ble_eq_true rfl, Nat.le_of_ble_eq_true rfl⟩) hS (fun q _ h => hFc q h) hFc (fun r_37 u t H1 locs ht hvm hw hB hz1 hk1 hS => ?_)
                subst hw
                obtain ⟨hP, hK1, hD1⟩ := hB
                rw [ht] at hP
                have hD := hD1.weaken (fun k q _ h => hFc q.1 h)
                clear hz1 hk1 hFc hD1 hK1 hvm
                generalize H1 = H at hP hS ⊢
                have rg_r_37 := i_rng r_37
                have hP : va_P (dC, dI) vwCl (mW ad kc x0 x1 x2 x3 x4 x5 x6 x7 x8 x9 x10 x11 x12 x13 x14 x15 x16 x17 x18 x19 x20 x21 f0 f1 f2 f3 f4 f5 f6 f7 f8 f9 f10 f11 f12 f13 f14 f15 f16 f17 f18 f19 f20 f21 fL fN fP fM fO) H := hP
                have hD : va_D A (mW ad kc x0 x1 x2 x3 x4 x5 x6 x7 x8 x9 x10 x11 x12 x13 x14 x15 x16 x17 x18 x19 x20 x21 f0 f1 f2 f3 f4 f5 f6 f7 f8 f9 f10 f11 f12 f13 f14 f15 f16 f17 f18 f19 f20 f21 fL fN fP fM fO) := hD
                refine lv_istore (lv' := [(4, .int r_37), (5, .int kk), (3, .int be), (0, .ref (ad 0)), (1, .int i1), (2, .int i2)]) hx hb dX10_longest_78 hl (by decide) rfl (fun ls hl => ?_)
                refine lv_iload hx hb dX10_longest_80 (lv_at hl 0 rfl) ?_
                refine lv_aload_n hx hb dX10_longest_82 rfl (lv_at hl 3 rfl) ?_
                refine va_get (D := (dC, dI)) (ci := 10) (v := .ref (ad 15)) (C := RX10) (T := TX10) (N := 48) hx hb hts fin_X10_longestm_X10 hown hK hP 0 rfl rfl 37 (by decide) (hts (.fieldLink RX10 77 "PatternGateModel" "tails" "[I") (List.mem_of_getElem? (i := 13) (by decide +kernel))) (fun _ h9 => h9) rfl dX10_longest_83 ?_
                refine lv_aload_n hx hb dX10_longest_86 rfl (lv_at hl 3 rfl) ?_
                refine va_get (D := (dC, dI)) (ci := 10) (v := .int x20) (C := RX10) (T := TX10) (N := 48) hx hb hts fin_X10_longestm_X10 hown hK hP 0 rfl rfl 42 (by decide) (hts (.fieldLink RX10 393 "PatternGateModel" "top" "I") (List.mem_of_getElem? (i := 2) (by decide +kernel))) (fun _ h9 => h9) rfl dX10_longest_87 ?_
                refine va_iald hx hb hK hP 15 14 rfl rfl (i := x20) (vp_of (a := x20.toInt) rfl (by omega) (by omega)) dX10_longest_90 ?_
                refine lv_topi (fun y_38 ey_38 => ?_)
                have rg_y_38 := i_rng y_38
                refine lv_iand hx hb dX10_longest_91 ?_
                refine lv_topi (fun y_39 ey_39 => ?_)
                have rg_y_39 := i_rng y_39
                refine lv_if_eq (tgt := 104) hx hb dX10_longest_92 (by decide) (fun k_40 => ?_) (fun k_40 => ?_)
                · have tk_40 := c_eq (a := y_39.toInt) (b := 0) rfl (by decide) k_40
                  refine lv_iload_n hx hb dX10_longest_104 rfl (lv_at hl 2 rfl) ?_
                  refine lv_istore_n (lv' := [(3, .int be), (4, .int r_37), (5, .int kk), (0, .ref (ad 0)), (1, .int i1), (2, .int i2)]) hx hb dX10_longest_105 rfl hl (by decide) rfl (fun ls hl => ?_)
                  obtain ⟨y_41, ey_41⟩ : ∃ y : Int32, y = kk + 1 := ⟨_, rfl⟩
                  first | have ty_41 := i_add (a := kk.toInt) (b := 1) rfl (by decide) ey_41 (by omega) (by omega) | skip
                  refine lv_iinc (v := y_41) (lv' := [(5, .int y_41), (3, .int be), (4, .int r_37), (0, .ref (ad 0)), (1, .int i1), (2, .int i2)]) hx hb dX10_longest_106 hl (k := 2) rfl (by rw [ey_41]; rfl) (by decide) rfl (fun ls hl => ?_)
                  refine lv_goto (tgt := 25) hx hb dX10_longest_109 (by decide) ?_
                  exact ih25 be r_37 y_41 (by first | omega | assumption | decide) (by first | omega | assumption | decide) (by omega) _ _ ls hP hD hS (lv_sub hl [0, 2, 1, 3, 4, 5] rfl)
                · have tk_40 := c_ne (a := y_39.toInt) (b := 0) rfl (by decide) k_40
                  refine lv_iload hx hb dX10_longest_95 (lv_at hl 1 rfl) ?_
                  refine lv_iconst (v := 1) hx hb dX10_longest_97 (by decide) ?_
                  refine lv_iadd hx hb dX10_longest_98 ?_
                  refine lv_topi (fun y_42 ey_42 => ?_)
                  first | have ty_42 := i_add (a := kk.toInt) (b := 1) rfl (by decide) ey_42 (by omega) (by omega) | skip
                  refine lv_iload_n hx hb dX10_longest_99 rfl (lv_at hl 5 rfl) ?_
                  refine lv_isub hx hb dX10_longest_100 ?_
                  refine lv_topi (fun y_43 ey_43 => ?_)
                  first | have ty_43 := i_sub (a := y_42.toInt) (b := i2.toInt) rfl rfl ey_43 (by omega) (by omega) | skip
                  refine lv_goto (tgt := 105) hx hb dX10_longest_101 (by decide) ?_
                  refine lv_istore_n (lv' := [(3, .int y_43), (4, .int r_37), (5, .int kk), (0, .ref (ad 0)), (1, .int i1), (2, .int i2)]) hx hb dX10_longest_105 rfl hl (by decide) rfl (fun ls hl => ?_)
                  obtain ⟨y_44, ey_44⟩ : ∃ y : Int32, y = kk + 1 := ⟨_, rfl⟩
                  first | have ty_44 := i_add (a := kk.toInt) (b := 1) rfl (by decide) ey_44 (by omega) (by omega) | skip
                  refine lv_iinc (v := y_44) (lv' := [(5, .int y_44), (3, .int y_43), (4, .int r_37), (0, .ref (ad 0)), (1, .int i1), (2, .int i2)]) hx hb dX10_longest_106 hl (k := 2) rfl (by rw [ey_44]; rfl) (by decide) rfl (fun ls hl => ?_)
                  refine lv_goto (tgt := 25) hx hb dX10_longest_109 (by decide) ?_
                  exact ih25 y_43 r_37 y_44 (by first | omega | assumption | decide) (by first | omega | assumption | decide) (by omega) _ _ ls hP hD hS (lv_sub hl [0, 2, 1, 3, 4, 5] rfl)
    have lit_44 : ((-1) : Int32).toInt = (-1) := by decide
    have lit_45 : (0 : Int32).toInt = 0 := by decide
    exact loop25 _ (-1) 0 i2 (by first | omega | assumption | decide) (by first | omega | assumption | decide) (Nat.lt_succ_self _) _ _ ls hP hD hS (lv_sub hl [0, 1, 2, 3, 4, 5] rfl)
  · have tk_2 := c_eq (a := y_1.toInt) (b := 1) rfl (by decide) k_2
    refine lv_iconst (v := 0) hx hb dX10_longest_13 (by decide) ?_
    refine lv_goto (tgt := 18) hx hb dX10_longest_14 (by decide) ?_
    refine lv_istore_n (lv' := [(3, .int 0), (0, .ref (ad 0)), (1, .int i1), (2, .int i2)]) hx hb dX10_longest_18 rfl hl (by decide) rfl (fun ls hl => ?_)
    refine lv_iconst (v := 0) hx hb dX10_longest_19 (by decide) ?_
    refine lv_istore (lv' := [(4, .int 0), (3, .int 0), (0, .ref (ad 0)), (1, .int i1), (2, .int i2)]) hx hb dX10_longest_20 hl (by decide) rfl (fun ls hl => ?_)
    refine lv_iload_n hx hb dX10_longest_22 rfl (lv_at hl 4 rfl) ?_
    refine lv_istore (lv' := [(5, .int i2), (4, .int 0), (3, .int 0), (0, .ref (ad 0)), (1, .int i1), (2, .int i2)]) hx hb dX10_longest_23 hl (by decide) rfl (fun ls hl => ?_)
    have loop25 : ∀ (lm25 : Nat) (be se kk : Int32), (-1 ≤ be.toInt ∧ be.toInt ≤ 61) → (i2.toInt ≤ kk.toInt ∧ kk.toInt ≤ 60) → ((60 - kk.toInt).toNat) < lm25 → ∀ (H : Heap) (locs : List Loc) (ls : Array Slot), va_P (dC, dI) vwCl (mW ad kc x0 x1 x2 x3 x4 x5 x6 x7 x8 x9 x10 x11 x12 x13 x14 x15 x16 x17 x18 x19 x20 x21 f0 f1 f2 f3 f4 f5 f6 f7 f8 f9 f10 f11 f12 f13 f14 f15 f16 f17 f18 f19 f20 f21 fL fN fP fM fO) H → va_D A (mW ad kc x0 x1 x2 x3 x4 x5 x6 x7 x8 x9 x10 x11 x12 x13 x14 x15 x16 x17 x18 x19 x20 x21 f0 f1 f2 f3 f4 f5 f6 f7 f8 f9 f10 f11 f12 f13 f14 f15 f16 f17 f18 f19 f20 f21 fL fN fP fM fO) → va_S A s.heap H locs → lv_has ls 6 [(5, .int kk), (4, .int se), (3, .int be), (0, .ref (ad 0)), (1, .int i1), (2, .int i2)] → W p l e (headSpec mwX10_longestm ({ frames := 2, cells := 0, slots := 0, locals := 120 })).room s m ([.ref (ad 0), .int i1, .int i2]).toArray below meth c H locs 0 0 (MQ below (va_Qi (fun (o9 u9 : Int32) => o9 = u9) (fun (o9 : Int32) t => (-1 ≤ o9.toInt ∧ o9.toInt ≤ 61) ∧ va_P (dC, dI) vwCl (mW ad kc x0 x1 x2 x3 x4 x5 x6 x7 x8 x9 x10 x11 x12 x13 x14 x15 x16 x17 x18 x19 x20 x21 f0 f1 f2 f3 f4 f5 f6 f7 f8 f9 f10 f11 f12 f13 f14 f15 f16 f17 f18 f19 f20 f21 fL fN fP fM fO) t.heap ∧ va_K (dC, dI) vwCl (mT kc) t ∧ va_D A (mW ad kc x0 x1 x2 x3 x4 x5 x6 x7 x8 x9 x10 x11 x12 x13 x14 x15 x16 x17 x18 x19 x20 x21 f0 f1 f2 f3 f4 f5 f6 f7 f8 f9 f10 f11 f12 f13 f14 f15 f16 f17 f18 f19 f20 f21 fL fN fP fM fO)) A) ([.ref (ad 0), .int i1, .int i2]).toArray s 0 0 A) (F0 m 25 ls []) := by
      intro lm25
      induction lm25 with
      | zero => intro be se kk v25_0 v25_1 hm25; exact absurd hm25 (Nat.not_lt_zero _)
      | succ lm25 ih25 =>
        intro be se kk v25_0 v25_1 hm25 H locs ls hP hD hS hl
        have rg_be := i_rng be
        have rg_se := i_rng se
        have rg_kk := i_rng kk
        refine lv_iload hx hb dX10_longest_25 (lv_at hl 0 rfl) ?_
        refine lv_aload_n hx hb dX10_longest_27 rfl (lv_at hl 3 rfl) ?_
        refine lv_iload_n hx hb dX10_longest_28 rfl (lv_at hl 4 rfl) ?_
        refine vp_callSi (W.runV (As := [.int i1]) (rest := [.int kk]) ⟨hx, hb, hml, hown, hts⟩ (m_sizeOf l dC dI ad kc x0 x1 x2 x3 x4 x5 x6 x7 x8 x9 x10 x11 x12 x13 x14 x15 x16 x17 x18 x19 x20 x21 f0 f1 f2 f3 f4 f5 f6 f7 f8 f9 f10 f11 f12 f13 f14 f15 f16 f17 f18 f19 f20 f21 fL fN fP fM fO i1 (by first | omega | assumption | decide | (have l0 := Int32.toInt_zero; omega)) (by first | omega | assumption | decide | (have l0 := Int32.toInt_zero; omega))) (cwV 1 hts mg_X10_longestm_X10_sizeOf_396 rfl rfl rfl (by decide +kernel) ⟨Nat.le_of_ble_eq_true rfl, Nat.le_of_ble_eq_true rfl⟩) ⟨fun a U g mk q => by obtain ⟨q0, qP, qK⟩ := q; exact ⟨q0, qP, va_K.moved (u := U) (U := U.calling g mk a) (Vm.Alike.refl U.vm) qK⟩, va_recv hK hP (ci := 10) (q0 := 0) rfl rfl, fun U hU hW => ⟨rfl, by rw [hU]; exact hP, va_K.moved hW.alike hK⟩⟩ rfl rfl hl.1 rfl (lv_room (Nat.le_of_ble_eq_true rfl)) dX10_longest_29 ⟨Nat.le_of_ble_eq_true rfl, Nat.le_of_ble_eq_true rfl⟩) (fun r_47 hr_47 => ?_)
        have rg_r_47 := i_rng r_47
        have hlr_47 := OKd.sz q0 (d := i1.toInt) (by omega) (by omega)
        refine lv_icmp_ge (tgt := 112) hx hb dX10_longest_32 (by decide) (fun k_48 => ?_) (fun k_48 => ?_)
        · have tk_48 := c_ge (a := kk.toInt) (b := r_47.toInt) rfl rfl k_48
          refine lv_iload_n hx hb dX10_longest_112 rfl (lv_at hl 2 rfl) ?_
          exact W.iret hx hb hr (fun t ht hW => ⟨⟨_, _, rfl, rfl, (by first | omega | assumption | rfl | decide), by rw [ht]; exact hP, va_K.moved hW.alike hK, hD⟩, hS.F ht⟩) hS.2.2 dX10_longest_113
        · have tk_48 := c_nge (a := kk.toInt) (b := r_47.toInt) rfl rfl k_48
          refine lv_iload hx hb dX10_longest_35 (lv_at hl 0 rfl) ?_
          refine lv_iload_n hx hb dX10_longest_37 rfl (lv_at hl 5 rfl) ?_
          refine lv_icmp_eq (tgt := 46) hx hb dX10_longest_38 (by decide) (fun k_49 => ?_) (fun k_49 => ?_)
          · have tk_49 := c_eq (a := kk.toInt) (b := i2.toInt) rfl rfl k_49
            refine lv_aload_n hx hb dX10_longest_46 rfl (lv_at hl 3 rfl) ?_
            refine lv_iload hx hb dX10_longest_47 (lv_at hl 1 rfl) ?_
            refine lv_aload_n hx hb dX10_longest_49 rfl (lv_at hl 3 rfl) ?_
            refine lv_iload_n hx hb dX10_longest_50 rfl (lv_at hl 4 rfl) ?_
            refine lv_iload hx hb dX10_longest_51 (lv_at hl 0 rfl) ?_
            refine vp_callSi (W.runV (As := [.int i1, .int kk]) (rest := [.int se, .ref (ad 0)]) ⟨hx, hb, hml, hown, hts⟩ (m_at l dC dI ad kc x0 x1 x2 x3 x4 x5 x6 x7 x8 x9 x10 x11 x12 x13 x14 x15 x16 x17 x18 x19 x20 x21 f0 f1 f2 f3 f4 f5 f6 f7 f8 f9 f10 f11 f12 f13 f14 f15 f16 f17 f18 f19 f20 f21 fL fN fP fM fO i1 kk (by first | omega | assumption | decide | (have l0 := Int32.toInt_zero; omega)) (by first | omega | assumption | decide | (have l0 := Int32.toInt_zero; omega)) (by first | omega | assumption | decide | (have l0 := Int32.toInt_zero; omega)) (by first | omega | assumption | decide | (have l0 := Int32.toInt_zero; omega))) (cwV 2 hts mg_X10_longestm_X10_at_399 rfl rfl rfl (by decide +kernel) ⟨Nat.le_of_ble_eq_true rfl, Nat.le_of_ble_eq_true rfl⟩) ⟨fun a U g mk q => by obtain ⟨q0, qP, qK⟩ := q; exact ⟨q0, qP, va_K.moved (u := U) (U := U.calling g mk a) (Vm.Alike.refl U.vm) qK⟩, va_recv hK hP (ci := 10) (q0 := 0) rfl rfl, fun U hU hW => ⟨rfl, by rw [hU]; exact hP, va_K.moved hW.alike hK⟩⟩ rfl rfl hl.1 rfl (lv_room (Nat.le_of_ble_eq_true rfl)) dX10_longest_53 ⟨Nat.le_of_ble_eq_true rfl, Nat.le_of_ble_eq_true rfl⟩) (fun r_50 hr_50 => ?_)
            have rg_r_50 := i_rng r_50
            refine lv_iload hx hb dX10_longest_56 (lv_at hl 0 rfl) ?_
            refine lv_iload_n hx hb dX10_longest_58 rfl (lv_at hl 5 rfl) ?_
            refine lv_icmp_ne (tgt := 74) hx hb dX10_longest_59 (by decide) (fun k_51 => ?_) (fun k_51 => ?_)
            · have tk_51 := c_ne (a := kk.toInt) (b := i2.toInt) rfl rfl k_51
              refine lv_iconst (v := 0) hx hb dX10_longest_74 (by decide) ?_
              have hFc := m_free hD hS hA
              refine va_calli (va_runV (As := [.int se, .int r_50, .int 0]) (rest := []) ⟨hx, hb, hml, hown, hts⟩ (m_goesOn l dC dI ad kc x0 x1 x2 x3 x4 x5 x6 x7 x8 x9 x10 x11 x12 x13 x14 x15 x16 x17 x18 x19 x20 x21 f0 f1 f2 f3 f4 f5 f6 f7 f8 f9 f10 f11 f12 f13 f14 f15 f16 f17 f18 f19 f20 f21 fL fN fP fM fO H.size se r_50 0 (by first | omega | assumption | decide | (have l0 := Int32.toInt_zero; omega))) (cwV 3 hts mg_X10_longestm_X10_goesOn_402 rfl rfl rfl (by decide +kernel) ⟨Nat.le_of_ble_eq_true rfl, Nat.le_of_ble_eq_true rfl⟩) ⟨fun a U g mk q => by obtain ⟨q0, q1, qP, qK, qD⟩ := q; exact ⟨q0, q1, qP, va_K.moved (u := U) (U := U.calling g mk a) (Vm.Alike.refl U.vm) qK, qD⟩, va_recv hK hP (ci := 10) (q0 := 0) rfl rfl, fun U hU hW => ⟨rfl, by rw [hU], by rw [hU]; exact hP, va_K.moved hW.alike hK, hD.weaken (fun _ _ _ _ => trivial)⟩⟩ rfl rfl hl.1 rfl (lv_room (Nat.le_of_ble_eq_true rfl)) dX10_longest_75 ⟨Nat.le_of_ble_eq_true rfl, Nat.le_of_ble_eq_true rfl⟩) hS (fun q _ h => hFc q h) hFc (fun r_52 u t H1 locs ht hvm hw hB hz1 hk1 hS => ?_)
              subst hw
              obtain ⟨hP, hK1, hD1⟩ := hB
              rw [ht] at hP
              have hD := hD1.weaken (fun k q _ h => hFc q.1 h)
              clear hz1 hk1 hFc hD1 hK1 hvm
              generalize H1 = H at hP hS ⊢
              have rg_r_52 := i_rng r_52
              have hP : va_P (dC, dI) vwCl (mW ad kc x0 x1 x2 x3 x4 x5 x6 x7 x8 x9 x10 x11 x12 x13 x14 x15 x16 x17 x18 x19 x20 x21 f0 f1 f2 f3 f4 f5 f6 f7 f8 f9 f10 f11 f12 f13 f14 f15 f16 f17 f18 f19 f20 f21 fL fN fP fM fO) H := hP
              have hD : va_D A (mW ad kc x0 x1 x2 x3 x4 x5 x6 x7 x8 x9 x10 x11 x12 x13 x14 x15 x16 x17 x18 x19 x20 x21 f0 f1 f2 f3 f4 f5 f6 f7 f8 f9 f10 f11 f12 f13 f14 f15 f16 f17 f18 f19 f20 f21 fL fN fP fM fO) := hD
              refine lv_istore (lv' := [(4, .int r_52), (5, .int kk), (3, .int be), (0, .ref (ad 0)), (1, .int i1), (2, .int i2)]) hx hb dX10_longest_78 hl (by decide) rfl (fun ls hl => ?_)
              refine lv_iload hx hb dX10_longest_80 (lv_at hl 0 rfl) ?_
              refine lv_aload_n hx hb dX10_longest_82 rfl (lv_at hl 3 rfl) ?_
              refine va_get (D := (dC, dI)) (ci := 10) (v := .ref (ad 15)) (C := RX10) (T := TX10) (N := 48) hx hb hts fin_X10_longestm_X10 hown hK hP 0 rfl rfl 37 (by decide) (hts (.fieldLink RX10 77 "PatternGateModel" "tails" "[I") (List.mem_of_getElem? (i := 13) (by decide +kernel))) (fun _ h9 => h9) rfl dX10_longest_83 ?_
              refine lv_aload_n hx hb dX10_longest_86 rfl (lv_at hl 3 rfl) ?_
              refine va_get (D := (dC, dI)) (ci := 10) (v := .int x20) (C := RX10) (T := TX10) (N := 48) hx hb hts fin_X10_longestm_X10 hown hK hP 0 rfl rfl 42 (by decide) (hts (.fieldLink RX10 393 "PatternGateModel" "top" "I") (List.mem_of_getElem? (i := 2) (by decide +kernel))) (fun _ h9 => h9) rfl dX10_longest_87 ?_
              refine va_iald hx hb hK hP 15 14 rfl rfl (i := x20) (vp_of (a := x20.toInt) rfl (by omega) (by omega)) dX10_longest_90 ?_
              refine lv_topi (fun y_53 ey_53 => ?_)
              have rg_y_53 := i_rng y_53
              refine lv_iand hx hb dX10_longest_91 ?_
              refine lv_topi (fun y_54 ey_54 => ?_)
              have rg_y_54 := i_rng y_54
              refine lv_if_eq (tgt := 104) hx hb dX10_longest_92 (by decide) (fun k_55 => ?_) (fun k_55 => ?_)
              · have tk_55 := c_eq (a := y_54.toInt) (b := 0) rfl (by decide) k_55
                refine lv_iload_n hx hb dX10_longest_104 rfl (lv_at hl 2 rfl) ?_
                refine lv_istore_n (lv' := [(3, .int be), (4, .int r_52), (5, .int kk), (0, .ref (ad 0)), (1, .int i1), (2, .int i2)]) hx hb dX10_longest_105 rfl hl (by decide) rfl (fun ls hl => ?_)
                obtain ⟨y_56, ey_56⟩ : ∃ y : Int32, y = kk + 1 := ⟨_, rfl⟩
                first | have ty_56 := i_add (a := kk.toInt) (b := 1) rfl (by decide) ey_56 (by omega) (by omega) | skip
                refine lv_iinc (v := y_56) (lv' := [(5, .int y_56), (3, .int be), (4, .int r_52), (0, .ref (ad 0)), (1, .int i1), (2, .int i2)]) hx hb dX10_longest_106 hl (k := 2) rfl (by rw [ey_56]; rfl) (by decide) rfl (fun ls hl => ?_)
                refine lv_goto (tgt := 25) hx hb dX10_longest_109 (by decide) ?_
                exact ih25 be r_52 y_56 (by first | omega | assumption | decide) (by first | omega | assumption | decide) (by omega) _ _ ls hP hD hS (lv_sub hl [0, 2, 1, 3, 4, 5] rfl)
              · have tk_55 := c_ne (a := y_54.toInt) (b := 0) rfl (by decide) k_55
                refine lv_iload hx hb dX10_longest_95 (lv_at hl 1 rfl) ?_
                refine lv_iconst (v := 1) hx hb dX10_longest_97 (by decide) ?_
                refine lv_iadd hx hb dX10_longest_98 ?_
                refine lv_topi (fun y_57 ey_57 => ?_)
                first | have ty_57 := i_add (a := kk.toInt) (b := 1) rfl (by decide) ey_57 (by omega) (by omega) | skip
                refine lv_iload_n hx hb dX10_longest_99 rfl (lv_at hl 5 rfl) ?_
                refine lv_isub hx hb dX10_longest_100 ?_
                refine lv_topi (fun y_58 ey_58 => ?_)
                first | have ty_58 := i_sub (a := y_57.toInt) (b := i2.toInt) rfl rfl ey_58 (by omega) (by omega) | skip
                refine lv_goto (tgt := 105) hx hb dX10_longest_101 (by decide) ?_
                refine lv_istore_n (lv' := [(3, .int y_58), (4, .int r_52), (5, .int kk), (0, .ref (ad 0)), (1, .int i1), (2, .int i2)]) hx hb dX10_longest_105 rfl hl (by decide) rfl (fun ls hl => ?_)
                obtain ⟨y_59, ey_59⟩ : ∃ y : Int32, y = kk + 1 := ⟨_, rfl⟩
                first | have ty_59 := i_add (a := kk.toInt) (b := 1) rfl (by decide) ey_59 (by omega) (by omega) | skip
                refine lv_iinc (v := y_59) (lv' := [(5, .int y_59), (3, .int y_58), (4, .int r_52), (0, .ref (ad 0)), (1, .int i1), (2, .int i2)]) hx hb dX10_longest_106 hl (k := 2) rfl (by rw [ey_59]; rfl) (by decide) rfl (fun ls hl => ?_)
                refine lv_goto (tgt := 25) hx hb dX10_longest_109 (by decide) ?_
                exact ih25 y_58 r_52 y_59 (by first | omega | assumption | decide) (by first | omega | assumption | decide) (by omega) _ _ ls hP hD hS (lv_sub hl [0, 2, 1, 3, 4, 5] rfl)
            · have tk_51 := c_eq (a := kk.toInt) (b := i2.toInt) rfl rfl k_51
              refine lv_aload_n hx hb dX10_longest_62 rfl (lv_at hl 3 rfl) ?_
              refine va_get (D := (dC, dI)) (ci := 10) (v := .ref (ad 14)) (C := RX10) (T := TX10) (N := 48) hx hb hts fin_X10_longestm_X10 hown hK hP 0 rfl rfl 36 (by decide) (hts (.fieldLink RX10 74 "PatternGateModel" "heads" "[I") (List.mem_of_getElem? (i := 14) (by decide +kernel))) (fun _ h9 => h9) rfl dX10_longest_63 ?_
              refine lv_aload_n hx hb dX10_longest_66 rfl (lv_at hl 3 rfl) ?_
              refine va_get (D := (dC, dI)) (ci := 10) (v := .int x20) (C := RX10) (T := TX10) (N := 48) hx hb hts fin_X10_longestm_X10 hown hK hP 0 rfl rfl 42 (by decide) (hts (.fieldLink RX10 393 "PatternGateModel" "top" "I") (List.mem_of_getElem? (i := 2) (by decide +kernel))) (fun _ h9 => h9) rfl dX10_longest_67 ?_
              refine va_iald hx hb hK hP 14 13 rfl rfl (i := x20) (vp_of (a := x20.toInt) rfl (by omega) (by omega)) dX10_longest_70 ?_
              refine lv_topi (fun y_60 ey_60 => ?_)
              have rg_y_60 := i_rng y_60
              refine lv_goto (tgt := 75) hx hb dX10_longest_71 (by decide) ?_
              have hFc := m_free hD hS hA
              refine va_calli (va_runV (As := [.int se, .int r_50, .int y_60]) (rest := []) ⟨hx, hb, hml, hown, hts⟩ (m_goesOn l dC dI ad kc x0 x1 x2 x3 x4 x5 x6 x7 x8 x9 x10 x11 x12 x13 x14 x15 x16 x17 x18 x19 x20 x21 f0 f1 f2 f3 f4 f5 f6 f7 f8 f9 f10 f11 f12 f13 f14 f15 f16 f17 f18 f19 f20 f21 fL fN fP fM fO H.size se r_50 y_60 (by first | omega | assumption | decide | (have l0 := Int32.toInt_zero; omega))) (cwV 3 hts mg_X10_longestm_X10_goesOn_402 rfl rfl rfl (by decide +kernel) ⟨Nat.le_of_ble_eq_true rfl, Nat.le_of_ble_eq_true rfl⟩) ⟨fun a U g mk q => by obtain ⟨q0, q1, qP, qK, qD⟩ := q; exact ⟨q0, q1, qP, va_K.moved (u := U) (U := U.calling g mk a) (Vm.Alike.refl U.vm) qK, qD⟩, va_recv hK hP (ci := 10) (q0 := 0) rfl rfl, fun U hU hW => ⟨rfl, by rw [hU], by rw [hU]; exact hP, va_K.moved hW.alike hK, hD.weaken (fun _ _ _ _ => trivial)⟩⟩ rfl rfl hl.1 rfl (lv_room (Nat.le_of_ble_eq_true rfl)) dX10_longest_75 ⟨Nat.le_of_ble_eq_true rfl, Nat.le_of_ble_eq_true rfl⟩) hS (fun q _ h => hFc q h) hFc (fun r_61 u t H1 locs ht hvm hw hB hz1 hk1 hS => ?_)
              subst hw
              obtain ⟨hP, hK1, hD1⟩ := hB
              rw [ht] at hP
              have hD := hD1.weaken (fun k q _ h => hFc q.1 h)
              clear hz1 hk1 hFc hD1 hK1 hvm
              generalize H1 = H at hP hS ⊢
              have rg_r_61 := i_rng r_61
              have hP : va_P (dC, dI) vwCl (mW ad kc x0 x1 x2 x3 x4 x5 x6 x7 x8 x9 x10 x11 x12 x13 x14 x15 x16 x17 x18 x19 x20 x21 f0 f1 f2 f3 f4 f5 f6 f7 f8 f9 f10 f11 f12 f13 f14 f15 f16 f17 f18 f19 f20 f21 fL fN fP fM fO) H := hP
              have hD : va_D A (mW ad kc x0 x1 x2 x3 x4 x5 x6 x7 x8 x9 x10 x11 x12 x13 x14 x15 x16 x17 x18 x19 x20 x21 f0 f1 f2 f3 f4 f5 f6 f7 f8 f9 f10 f11 f12 f13 f14 f15 f16 f17 f18 f19 f20 f21 fL fN fP fM fO) := hD
              refine lv_istore (lv' := [(4, .int r_61), (5, .int kk), (3, .int be), (0, .ref (ad 0)), (1, .int i1), (2, .int i2)]) hx hb dX10_longest_78 hl (by decide) rfl (fun ls hl => ?_)
              refine lv_iload hx hb dX10_longest_80 (lv_at hl 0 rfl) ?_
              refine lv_aload_n hx hb dX10_longest_82 rfl (lv_at hl 3 rfl) ?_
              refine va_get (D := (dC, dI)) (ci := 10) (v := .ref (ad 15)) (C := RX10) (T := TX10) (N := 48) hx hb hts fin_X10_longestm_X10 hown hK hP 0 rfl rfl 37 (by decide) (hts (.fieldLink RX10 77 "PatternGateModel" "tails" "[I") (List.mem_of_getElem? (i := 13) (by decide +kernel))) (fun _ h9 => h9) rfl dX10_longest_83 ?_
              refine lv_aload_n hx hb dX10_longest_86 rfl (lv_at hl 3 rfl) ?_
              refine va_get (D := (dC, dI)) (ci := 10) (v := .int x20) (C := RX10) (T := TX10) (N := 48) hx hb hts fin_X10_longestm_X10 hown hK hP 0 rfl rfl 42 (by decide) (hts (.fieldLink RX10 393 "PatternGateModel" "top" "I") (List.mem_of_getElem? (i := 2) (by decide +kernel))) (fun _ h9 => h9) rfl dX10_longest_87 ?_
              refine va_iald hx hb hK hP 15 14 rfl rfl (i := x20) (vp_of (a := x20.toInt) rfl (by omega) (by omega)) dX10_longest_90 ?_
              refine lv_topi (fun y_62 ey_62 => ?_)
              have rg_y_62 := i_rng y_62
              refine lv_iand hx hb dX10_longest_91 ?_
              refine lv_topi (fun y_63 ey_63 => ?_)
              have rg_y_63 := i_rng y_63
              refine lv_if_eq (tgt := 104) hx hb dX10_longest_92 (by decide) (fun k_64 => ?_) (fun k_64 => ?_)
              · have tk_64 := c_eq (a := y_63.toInt) (b := 0) rfl (by decide) k_64
                refine lv_iload_n hx hb dX10_longest_104 rfl (lv_at hl 2 rfl) ?_
                refine lv_istore_n (lv' := [(3, .int be), (4, .int r_61), (5, .int kk), (0, .ref (ad 0)), (1, .int i1), (2, .int i2)]) hx hb dX10_longest_105 rfl hl (by decide) rfl (fun ls hl => ?_)
                obtain ⟨y_65, ey_65⟩ : ∃ y : Int32, y = kk + 1 := ⟨_, rfl⟩
                first | have ty_65 := i_add (a := kk.toInt) (b := 1) rfl (by decide) ey_65 (by omega) (by omega) | skip
                refine lv_iinc (v := y_65) (lv' := [(5, .int y_65), (3, .int be), (4, .int r_61), (0, .ref (ad 0)), (1, .int i1), (2, .int i2)]) hx hb dX10_longest_106 hl (k := 2) rfl (by rw [ey_65]; rfl) (by decide) rfl (fun ls hl => ?_)
                refine lv_goto (tgt := 25) hx hb dX10_longest_109 (by decide) ?_
                exact ih25 be r_61 y_65 (by first | omega | assumption | decide) (by first | omega | assumption | decide) (by omega) _ _ ls hP hD hS (lv_sub hl [0, 2, 1, 3, 4, 5] rfl)
              · have tk_64 := c_ne (a := y_63.toInt) (b := 0) rfl (by decide) k_64
                refine lv_iload hx hb dX10_longest_95 (lv_at hl 1 rfl) ?_
                refine lv_iconst (v := 1) hx hb dX10_longest_97 (by decide) ?_
                refine lv_iadd hx hb dX10_longest_98 ?_
                refine lv_topi (fun y_66 ey_66 => ?_)
                first | have ty_66 := i_add (a := kk.toInt) (b := 1) rfl (by decide) ey_66 (by omega) (by omega) | skip
                refine lv_iload_n hx hb dX10_longest_99 rfl (lv_at hl 5 rfl) ?_
                refine lv_isub hx hb dX10_longest_100 ?_
                refine lv_topi (fun y_67 ey_67 => ?_)
                first | have ty_67 := i_sub (a := y_66.toInt) (b := i2.toInt) rfl rfl ey_67 (by omega) (by omega) | skip
                refine lv_goto (tgt := 105) hx hb dX10_longest_101 (by decide) ?_
                refine lv_istore_n (lv' := [(3, .int y_67), (4, .int r_61), (5, .int kk), (0, .ref (ad 0)), (1, .int i1), (2, .int i2)]) hx hb dX10_longest_105 rfl hl (by decide) rfl (fun ls hl => ?_)
                obtain ⟨y_68, ey_68⟩ : ∃ y : Int32, y = kk + 1 := ⟨_, rfl⟩
                first | have ty_68 := i_add (a := kk.toInt) (b := 1) rfl (by decide) ey_68 (by omega) (by omega) | skip
                refine lv_iinc (v := y_68) (lv' := [(5, .int y_68), (3, .int y_67), (4, .int r_61), (0, .ref (ad 0)), (1, .int i1), (2, .int i2)]) hx hb dX10_longest_106 hl (k := 2) rfl (by rw [ey_68]; rfl) (by decide) rfl (fun ls hl => ?_)
                refine lv_goto (tgt := 25) hx hb dX10_longest_109 (by decide) ?_
                exact ih25 y_67 r_61 y_68 (by first | omega | assumption | decide) (by first | omega | assumption | decide) (by omega) _ _ ls hP hD hS (lv_sub hl [0, 2, 1, 3, 4, 5] rfl)
          · have tk_49 := c_ne (a := kk.toInt) (b := i2.toInt) rfl rfl k_49
            refine lv_iload hx hb dX10_longest_41 (lv_at hl 1 rfl) ?_
            refine lv_if_eq (tgt := 112) hx hb dX10_longest_43 (by decide) (fun k_69 => ?_) (fun k_69 => ?_)
            · have tk_69 := c_eq (a := se.toInt) (b := 0) rfl (by decide) k_69
              refine lv_iload_n hx hb dX10_longest_112 rfl (lv_at hl 2 rfl) ?_
              exact W.iret hx hb hr (fun t ht hW => ⟨⟨_, _, rfl, rfl, (by first | omega | assumption | rfl | decide), by rw [ht]; exact hP, va_K.moved hW.alike hK, hD⟩, hS.F ht⟩) hS.2.2 dX10_longest_113
            · have tk_69 := c_ne (a := se.toInt) (b := 0) rfl (by decide) k_69
              refine lv_aload_n hx hb dX10_longest_46 rfl (lv_at hl 3 rfl) ?_
              refine lv_iload hx hb dX10_longest_47 (lv_at hl 1 rfl) ?_
              refine lv_aload_n hx hb dX10_longest_49 rfl (lv_at hl 3 rfl) ?_
              refine lv_iload_n hx hb dX10_longest_50 rfl (lv_at hl 4 rfl) ?_
              refine lv_iload hx hb dX10_longest_51 (lv_at hl 0 rfl) ?_
              refine vp_callSi (W.runV (As := [.int i1, .int kk]) (rest := [.int se, .ref (ad 0)]) ⟨hx, hb, hml, hown, hts⟩ (m_at l dC dI ad kc x0 x1 x2 x3 x4 x5 x6 x7 x8 x9 x10 x11 x12 x13 x14 x15 x16 x17 x18 x19 x20 x21 f0 f1 f2 f3 f4 f5 f6 f7 f8 f9 f10 f11 f12 f13 f14 f15 f16 f17 f18 f19 f20 f21 fL fN fP fM fO i1 kk (by first | omega | assumption | decide | (have l0 := Int32.toInt_zero; omega)) (by first | omega | assumption | decide | (have l0 := Int32.toInt_zero; omega)) (by first | omega | assumption | decide | (have l0 := Int32.toInt_zero; omega)) (by first | omega | assumption | decide | (have l0 := Int32.toInt_zero; omega))) (cwV 2 hts mg_X10_longestm_X10_at_399 rfl rfl rfl (by decide +kernel) ⟨Nat.le_of_ble_eq_true rfl, Nat.le_of_ble_eq_true rfl⟩) ⟨fun a U g mk q => by obtain ⟨q0, qP, qK⟩ := q; exact ⟨q0, qP, va_K.moved (u := U) (U := U.calling g mk a) (Vm.Alike.refl U.vm) qK⟩, va_recv hK hP (ci := 10) (q0 := 0) rfl rfl, fun U hU hW => ⟨rfl, by rw [hU]; exact hP, va_K.moved hW.alike hK⟩⟩ rfl rfl hl.1 rfl (lv_room (Nat.le_of_ble_eq_true rfl)) dX10_longest_53 ⟨Nat.le_of_ble_eq_true rfl, Nat.le_of_ble_eq_true rfl⟩) (fun r_70 hr_70 => ?_)
              have rg_r_70 := i_rng r_70
              refine lv_iload hx hb dX10_longest_56 (lv_at hl 0 rfl) ?_
              refine lv_iload_n hx hb dX10_longest_58 rfl (lv_at hl 5 rfl) ?_
              refine lv_icmp_ne (tgt := 74) hx hb dX10_longest_59 (by decide) (fun k_71 => ?_) (fun k_71 => ?_)
              · have tk_71 := c_ne (a := kk.toInt) (b := i2.toInt) rfl rfl k_71
                refine lv_iconst (v := 0) hx hb dX10_longest_74 (by decide) ?_
                have hFc := m_free hD hS hA
                refine va_calli (va_runV (As := [.int se, .int r_70, .int 0]) (rest := []) ⟨hx, hb, hml, hown, hts⟩ (m_goesOn l dC dI ad kc x0 x1 x2 x3 x4 x5 x6 x7 x8 x9 x10 x11 x12 x13 x14 x15 x16 x17 x18 x19 x20 x21 f0 f1 f2 f3 f4 f5 f6 f7 f8 f9 f10 f11 f12 f13 f14 f15 f16 f17 f18 f19 f20 f21 fL fN fP fM fO H.size se r_70 0 (by first | omega | assumption | decide | (have l0 := Int32.toInt_zero; omega))) (cwV 3 hts mg_X10_longestm_X10_goesOn_402 rfl rfl rfl (by decide +kernel) ⟨Nat.le_of_ble_eq_true rfl, Nat.le_of_ble_eq_true rfl⟩) ⟨fun a U g mk q => by obtain ⟨q0, q1, qP, qK, qD⟩ := q; exact ⟨q0, q1, qP, va_K.moved (u := U) (U := U.calling g mk a) (Vm.Alike.refl U.vm) qK, qD⟩, va_recv hK hP (ci := 10) (q0 := 0) rfl rfl, fun U hU hW => ⟨rfl, by rw [hU], by rw [hU]; exact hP, va_K.moved hW.alike hK, hD.weaken (fun _ _ _ _ => trivial)⟩⟩ rfl rfl hl.1 rfl (lv_room (Nat.le_of_ble_eq_true rfl)) dX10_longest_75 ⟨Nat.le_of_ble_eq_true rfl, Nat.le_of_ble_eq_true rfl⟩) hS (fun q _ h => hFc q h) hFc (fun r_72 u t H1 locs ht hvm hw hB hz1 hk1 hS => ?_)
                subst hw
                obtain ⟨hP, hK1, hD1⟩ := hB
                rw [ht] at hP
                have hD := hD1.weaken (fun k q _ h => hFc q.1 h)
                clear hz1 hk1 hFc hD1 hK1 hvm
                generalize H1 = H at hP hS ⊢
                have rg_r_72 := i_rng r_72
                have hP : va_P (dC, dI) vwCl (mW ad kc x0 x1 x2 x3 x4 x5 x6 x7 x8 x9 x10 x11 x12 x13 x14 x15 x16 x17 x18 x19 x20 x21 f0 f1 f2 f3 f4 f5 f6 f7 f8 f9 f10 f11 f12 f13 f14 f15 f16 f17 f18 f19 f20 f21 fL fN fP fM fO) H := hP
                have hD : va_D A (mW ad kc x0 x1 x2 x3 x4 x5 x6 x7 x8 x9 x10 x11 x12 x13 x14 x15 x16 x17 x18 x19 x20 x21 f0 f1 f2 f3 f4 f5 f6 f7 f8 f9 f10 f11 f12 f13 f14 f15 f16 f17 f18 f19 f20 f21 fL fN fP fM fO) := hD
                refine lv_istore (lv' := [(4, .int r_72), (5, .int kk), (3, .int be), (0, .ref (ad 0)), (1, .int i1), (2, .int i2)]) hx hb dX10_longest_78 hl (by decide) rfl (fun ls hl => ?_)
                refine lv_iload hx hb dX10_longest_80 (lv_at hl 0 rfl) ?_
                refine lv_aload_n hx hb dX10_longest_82 rfl (lv_at hl 3 rfl) ?_
                refine va_get (D := (dC, dI)) (ci := 10) (v := .ref (ad 15)) (C := RX10) (T := TX10) (N := 48) hx hb hts fin_X10_longestm_X10 hown hK hP 0 rfl rfl 37 (by decide) (hts (.fieldLink RX10 77 "PatternGateModel" "tails" "[I") (List.mem_of_getElem? (i := 13) (by decide +kernel))) (fun _ h9 => h9) rfl dX10_longest_83 ?_
                refine lv_aload_n hx hb dX10_longest_86 rfl (lv_at hl 3 rfl) ?_
                refine va_get (D := (dC, dI)) (ci := 10) (v := .int x20) (C := RX10) (T := TX10) (N := 48) hx hb hts fin_X10_longestm_X10 hown hK hP 0 rfl rfl 42 (by decide) (hts (.fieldLink RX10 393 "PatternGateModel" "top" "I") (List.mem_of_getElem? (i := 2) (by decide +kernel))) (fun _ h9 => h9) rfl dX10_longest_87 ?_
                refine va_iald hx hb hK hP 15 14 rfl rfl (i := x20) (vp_of (a := x20.toInt) rfl (by omega) (by omega)) dX10_longest_90 ?_
                refine lv_topi (fun y_73 ey_73 => ?_)
                have rg_y_73 := i_rng y_73
                refine lv_iand hx hb dX10_longest_91 ?_
                refine lv_topi (fun y_74 ey_74 => ?_)
                have rg_y_74 := i_rng y_74
                refine lv_if_eq (tgt := 104) hx hb dX10_longest_92 (by decide) (fun k_75 => ?_) (fun k_75 => ?_)
                · have tk_75 := c_eq (a := y_74.toInt) (b := 0) rfl (by decide) k_75
                  refine lv_iload_n hx hb dX10_longest_104 rfl (lv_at hl 2 rfl) ?_
                  refine lv_istore_n (lv' := [(3, .int be), (4, .int r_72), (5, .int kk), (0, .ref (ad 0)), (1, .int i1), (2, .int i2)]) hx hb dX10_longest_105 rfl hl (by decide) rfl (fun ls hl => ?_)
                  obtain ⟨y_76, ey_76⟩ : ∃ y : Int32, y = kk + 1 := ⟨_, rfl⟩
                  first | have ty_76 := i_add (a := kk.toInt) (b := 1) rfl (by decide) ey_76 (by omega) (by omega) | skip
                  refine lv_iinc (v := y_76) (lv' := [(5, .int y_76), (3, .int be), (4, .int r_72), (0, .ref (ad 0)), (1, .int i1), (2, .int i2)]) hx hb dX10_longest_106 hl (k := 2) rfl (by rw [ey_76]; rfl) (by decide) rfl (fun ls hl => ?_)
                  refine lv_goto (tgt := 25) hx hb dX10_longest_109 (by decide) ?_
                  exact ih25 be r_72 y_76 (by first | omega | assumption | decide) (by first | omega | assumption | decide) (by omega) _ _ ls hP hD hS (lv_sub hl [0, 2, 1, 3, 4, 5] rfl)
                · have tk_75 := c_ne (a := y_74.toInt) (b := 0) rfl (by decide) k_75
                  refine lv_iload hx hb dX10_longest_95 (lv_at hl 1 rfl) ?_
                  refine lv_iconst (v := 1) hx hb dX10_longest_97 (by decide) ?_
                  refine lv_iadd hx hb dX10_longest_98 ?_
                  refine lv_topi (fun y_77 ey_77 => ?_)
                  first | have ty_77 := i_add (a := kk.toInt) (b := 1) rfl (by decide) ey_77 (by omega) (by omega) | skip
                  refine lv_iload_n hx hb dX10_longest_99 rfl (lv_at hl 5 rfl) ?_
                  refine lv_isub hx hb dX10_longest_100 ?_
                  refine lv_topi (fun y_78 ey_78 => ?_)
                  first | have ty_78 := i_sub (a := y_77.toInt) (b := i2.toInt) rfl rfl ey_78 (by omega) (by omega) | skip
                  refine lv_goto (tgt := 105) hx hb dX10_longest_101 (by decide) ?_
                  refine lv_istore_n (lv' := [(3, .int y_78), (4, .int r_72), (5, .int kk), (0, .ref (ad 0)), (1, .int i1), (2, .int i2)]) hx hb dX10_longest_105 rfl hl (by decide) rfl (fun ls hl => ?_)
                  obtain ⟨y_79, ey_79⟩ : ∃ y : Int32, y = kk + 1 := ⟨_, rfl⟩
                  first | have ty_79 := i_add (a := kk.toInt) (b := 1) rfl (by decide) ey_79 (by omega) (by omega) | skip
                  refine lv_iinc (v := y_79) (lv' := [(5, .int y_79), (3, .int y_78), (4, .int r_72), (0, .ref (ad 0)), (1, .int i1), (2, .int i2)]) hx hb dX10_longest_106 hl (k := 2) rfl (by rw [ey_79]; rfl) (by decide) rfl (fun ls hl => ?_)
                  refine lv_goto (tgt := 25) hx hb dX10_longest_109 (by decide) ?_
                  exact ih25 y_78 r_72 y_79 (by first | omega | assumption | decide) (by first | omega | assumption | decide) (by omega) _ _ ls hP hD hS (lv_sub hl [0, 2, 1, 3, 4, 5] rfl)
              · have tk_71 := c_eq (a := kk.toInt) (b := i2.toInt) rfl rfl k_71
                refine lv_aload_n hx hb dX10_longest_62 rfl (lv_at hl 3 rfl) ?_
                refine va_get (D := (dC, dI)) (ci := 10) (v := .ref (ad 14)) (C := RX10) (T := TX10) (N := 48) hx hb hts fin_X10_longestm_X10 hown hK hP 0 rfl rfl 36 (by decide) (hts (.fieldLink RX10 74 "PatternGateModel" "heads" "[I") (List.mem_of_getElem? (i := 14) (by decide +kernel))) (fun _ h9 => h9) rfl dX10_longest_63 ?_
                refine lv_aload_n hx hb dX10_longest_66 rfl (lv_at hl 3 rfl) ?_
                refine va_get (D := (dC, dI)) (ci := 10) (v := .int x20) (C := RX10) (T := TX10) (N := 48) hx hb hts fin_X10_longestm_X10 hown hK hP 0 rfl rfl 42 (by decide) (hts (.fieldLink RX10 393 "PatternGateModel" "top" "I") (List.mem_of_getElem? (i := 2) (by decide +kernel))) (fun _ h9 => h9) rfl dX10_longest_67 ?_
                refine va_iald hx hb hK hP 14 13 rfl rfl (i := x20) (vp_of (a := x20.toInt) rfl (by omega) (by omega)) dX10_longest_70 ?_
                refine lv_topi (fun y_80 ey_80 => ?_)
                have rg_y_80 := i_rng y_80
                refine lv_goto (tgt := 75) hx hb dX10_longest_71 (by decide) ?_
                have hFc := m_free hD hS hA
                refine va_calli (va_runV (As := [.int se, .int r_70, .int y_80]) (rest := []) ⟨hx, hb, hml, hown, hts⟩ (m_goesOn l dC dI ad kc x0 x1 x2 x3 x4 x5 x6 x7 x8 x9 x10 x11 x12 x13 x14 x15 x16 x17 x18 x19 x20 x21 f0 f1 f2 f3 f4 f5 f6 f7 f8 f9 f10 f11 f12 f13 f14 f15 f16 f17 f18 f19 f20 f21 fL fN fP fM fO H.size se r_70 y_80 (by first | omega | assumption | decide | (have l0 := Int32.toInt_zero; omega))) (cwV 3 hts mg_X10_longestm_X10_goesOn_402 rfl rfl rfl (by decide +kernel) ⟨Nat.le_of_ble_eq_true rfl, Nat.le_of_ble_eq_true rfl⟩) ⟨fun a U g mk q => by obtain ⟨q0, q1, qP, qK, qD⟩ := q; exact ⟨q0, q1, qP, va_K.moved (u := U) (U := U.calling g mk a) (Vm.Alike.refl U.vm) qK, qD⟩, va_recv hK hP (ci := 10) (q0 := 0) rfl rfl, fun U hU hW => ⟨rfl, by rw [hU], by rw [hU]; exact hP, va_K.moved hW.alike hK, hD.weaken (fun _ _ _ _ => trivial)⟩⟩ rfl rfl hl.1 rfl (lv_room (Nat.le_of_ble_eq_true rfl)) dX10_longest_75 ⟨Nat.le_of_ble_eq_true rfl, Nat.le_of_ble_eq_true rfl⟩) hS (fun q _ h => hFc q h) hFc (fun r_81 u t H1 locs ht hvm hw hB hz1 hk1 hS => ?_)
                subst hw
                obtain ⟨hP, hK1, hD1⟩ := hB
                rw [ht] at hP
                have hD := hD1.weaken (fun k q _ h => hFc q.1 h)
                clear hz1 hk1 hFc hD1 hK1 hvm
                generalize H1 = H at hP hS ⊢
                have rg_r_81 := i_rng r_81
                have hP : va_P (dC, dI) vwCl (mW ad kc x0 x1 x2 x3 x4 x5 x6 x7 x8 x9 x10 x11 x12 x13 x14 x15 x16 x17 x18 x19 x20 x21 f0 f1 f2 f3 f4 f5 f6 f7 f8 f9 f10 f11 f12 f13 f14 f15 f16 f17 f18 f19 f20 f21 fL fN fP fM fO) H := hP
                have hD : va_D A (mW ad kc x0 x1 x2 x3 x4 x5 x6 x7 x8 x9 x10 x11 x12 x13 x14 x15 x16 x17 x18 x19 x20 x21 f0 f1 f2 f3 f4 f5 f6 f7 f8 f9 f10 f11 f12 f13 f14 f15 f16 f17 f18 f19 f20 f21 fL fN fP fM fO) := hD
                refine lv_istore (lv' := [(4, .int r_81), (5, .int kk), (3, .int be), (0, .ref (ad 0)), (1, .int i1), (2, .int i2)]) hx hb dX10_longest_78 hl (by decide) rfl (fun ls hl => ?_)
                refine lv_iload hx hb dX10_longest_80 (lv_at hl 0 rfl) ?_
                refine lv_aload_n hx hb dX10_longest_82 rfl (lv_at hl 3 rfl) ?_
                refine va_get (D := (dC, dI)) (ci := 10) (v := .ref (ad 15)) (C := RX10) (T := TX10) (N := 48) hx hb hts fin_X10_longestm_X10 hown hK hP 0 rfl rfl 37 (by decide) (hts (.fieldLink RX10 77 "PatternGateModel" "tails" "[I") (List.mem_of_getElem? (i := 13) (by decide +kernel))) (fun _ h9 => h9) rfl dX10_longest_83 ?_
                refine lv_aload_n hx hb dX10_longest_86 rfl (lv_at hl 3 rfl) ?_
                refine va_get (D := (dC, dI)) (ci := 10) (v := .int x20) (C := RX10) (T := TX10) (N := 48) hx hb hts fin_X10_longestm_X10 hown hK hP 0 rfl rfl 42 (by decide) (hts (.fieldLink RX10 393 "PatternGateModel" "top" "I") (List.mem_of_getElem? (i := 2) (by decide +kernel))) (fun _ h9 => h9) rfl dX10_longest_87 ?_
                refine va_iald hx hb hK hP 15 14 rfl rfl (i := x20) (vp_of (a := x20.toInt) rfl (by omega) (by omega)) dX10_longest_90 ?_
                refine lv_topi (fun y_82 ey_82 => ?_)
                have rg_y_82 := i_rng y_82
                refine lv_iand hx hb dX10_longest_91 ?_
                refine lv_topi (fun y_83 ey_83 => ?_)
                have rg_y_83 := i_rng y_83
                refine lv_if_eq (tgt := 104) hx hb dX10_longest_92 (by decide) (fun k_84 => ?_) (fun k_84 => ?_)
                · have tk_84 := c_eq (a := y_83.toInt) (b := 0) rfl (by decide) k_84
                  refine lv_iload_n hx hb dX10_longest_104 rfl (lv_at hl 2 rfl) ?_
                  refine lv_istore_n (lv' := [(3, .int be), (4, .int r_81), (5, .int kk), (0, .ref (ad 0)), (1, .int i1), (2, .int i2)]) hx hb dX10_longest_105 rfl hl (by decide) rfl (fun ls hl => ?_)
                  obtain ⟨y_85, ey_85⟩ : ∃ y : Int32, y = kk + 1 := ⟨_, rfl⟩
                  first | have ty_85 := i_add (a := kk.toInt) (b := 1) rfl (by decide) ey_85 (by omega) (by omega) | skip
                  refine lv_iinc (v := y_85) (lv' := [(5, .int y_85), (3, .int be), (4, .int r_81), (0, .ref (ad 0)), (1, .int i1), (2, .int i2)]) hx hb dX10_longest_106 hl (k := 2) rfl (by rw [ey_85]; rfl) (by decide) rfl (fun ls hl => ?_)
                  refine lv_goto (tgt := 25) hx hb dX10_longest_109 (by decide) ?_
                  exact ih25 be r_81 y_85 (by first | omega | assumption | decide) (by first | omega | assumption | decide) (by omega) _ _ ls hP hD hS (lv_sub hl [0, 2, 1, 3, 4, 5] rfl)
                · have tk_84 := c_ne (a := y_83.toInt) (b := 0) rfl (by decide) k_84
                  refine lv_iload hx hb dX10_longest_95 (lv_at hl 1 rfl) ?_
                  refine lv_iconst (v := 1) hx hb dX10_longest_97 (by decide) ?_
                  refine lv_iadd hx hb dX10_longest_98 ?_
                  refine lv_topi (fun y_86 ey_86 => ?_)
                  first | have ty_86 := i_add (a := kk.toInt) (b := 1) rfl (by decide) ey_86 (by omega) (by omega) | skip
                  refine lv_iload_n hx hb dX10_longest_99 rfl (lv_at hl 5 rfl) ?_
                  refine lv_isub hx hb dX10_longest_100 ?_
                  refine lv_topi (fun y_87 ey_87 => ?_)
                  first | have ty_87 := i_sub (a := y_86.toInt) (b := i2.toInt) rfl rfl ey_87 (by omega) (by omega) | skip
                  refine lv_goto (tgt := 105) hx hb dX10_longest_101 (by decide) ?_
                  refine lv_istore_n (lv' := [(3, .int y_87), (4, .int r_81), (5, .int kk), (0, .ref (ad 0)), (1, .int i1), (2, .int i2)]) hx hb dX10_longest_105 rfl hl (by decide) rfl (fun ls hl => ?_)
                  obtain ⟨y_88, ey_88⟩ : ∃ y : Int32, y = kk + 1 := ⟨_, rfl⟩
                  first | have ty_88 := i_add (a := kk.toInt) (b := 1) rfl (by decide) ey_88 (by omega) (by omega) | skip
                  refine lv_iinc (v := y_88) (lv' := [(5, .int y_88), (3, .int y_87), (4, .int r_81), (0, .ref (ad 0)), (1, .int i1), (2, .int i2)]) hx hb dX10_longest_106 hl (k := 2) rfl (by rw [ey_88]; rfl) (by decide) rfl (fun ls hl => ?_)
                  refine lv_goto (tgt := 25) hx hb dX10_longest_109 (by decide) ?_
                  exact ih25 y_87 r_81 y_88 (by first | omega | assumption | decide) (by first | omega | assumption | decide) (by omega) _ _ ls hP hD hS (lv_sub hl [0, 2, 1, 3, 4, 5] rfl)
    have lit_88 : (0 : Int32).toInt = 0 := by decide
    have lit_89 : (0 : Int32).toInt = 0 := by decide
    exact loop25 _ 0 0 i2 (by first | omega | assumption | decide) (by first | omega | assumption | decide) (Nat.lt_succ_self _) _ _ ls hP hD hS (lv_sub hl [0, 1, 2, 3, 4, 5] rfl)
theorem dX10_firstMatch_0 : decode cX10_firstMatch 0 = .ok (.iload_n 2, 1) := by decide +kernel
theorem dX10_firstMatch_1 : decode cX10_firstMatch 1 = .ok (.istore_n 3, 1) := by decide +kernel
theorem dX10_firstMatch_2 : decode cX10_firstMatch 2 = .ok (.iload_n 3, 1) := by decide +kernel
theorem dX10_firstMatch_3 : decode cX10_firstMatch 3 = .ok (.aload_n 0, 1) := by decide +kernel
theorem dX10_firstMatch_4 : decode cX10_firstMatch 4 = .ok (.iload_n 1, 1) := by decide +kernel
theorem dX10_firstMatch_5 : decode cX10_firstMatch 5 = .ok (.invokevirtual 396, 3) := by decide +kernel
theorem dX10_firstMatch_8 : decode cX10_firstMatch 8 = .ok (.if_icmp .gt 21, 3) := by decide +kernel
theorem dX10_firstMatch_11 : decode cX10_firstMatch 11 = .ok (.aload_n 0, 1) := by decide +kernel
theorem dX10_firstMatch_12 : decode cX10_firstMatch 12 = .ok (.iload_n 1, 1) := by decide +kernel
theorem dX10_firstMatch_13 : decode cX10_firstMatch 13 = .ok (.iload_n 3, 1) := by decide +kernel
theorem dX10_firstMatch_14 : decode cX10_firstMatch 14 = .ok (.invokevirtual 405, 3) := by decide +kernel
theorem dX10_firstMatch_17 : decode cX10_firstMatch 17 = .ok (.iconst (-1), 1) := by decide +kernel
theorem dX10_firstMatch_18 : decode cX10_firstMatch 18 = .ok (.if_icmp .eq 5, 3) := by decide +kernel
theorem dX10_firstMatch_21 : decode cX10_firstMatch 21 = .ok (.iload_n 3, 1) := by decide +kernel
theorem dX10_firstMatch_22 : decode cX10_firstMatch 22 = .ok (.ireturn, 1) := by decide +kernel
theorem dX10_firstMatch_23 : decode cX10_firstMatch 23 = .ok (.iinc 3 1, 3) := by decide +kernel
theorem dX10_firstMatch_26 : decode cX10_firstMatch 26 = .ok (.goto (-24), 3) := by decide +kernel
theorem dX10_firstMatch_29 : decode cX10_firstMatch 29 = .ok (.iconst (-1), 1) := by decide +kernel
theorem dX10_firstMatch_30 : decode cX10_firstMatch 30 = .ok (.ireturn, 1) := by decide +kernel
def mwX10_firstMatchm : List Cond := .code yX10_firstMatch cX10_firstMatch 4 (some .int) :: (([.methodLink RX10 396 yX10_sizeOf, .instanceMethod yX10_sizeOf, .selects RX10 yX10_sizeOf yX10_sizeOf, .initialized RX10, .methodLink RX10 405 yX10_longest, .instanceMethod yX10_longest, .selects RX10 yX10_longest yX10_longest] : List Cond) ++ (mwX10_sizeOfm ++ (mwX10_longestm)))
set_option maxRecDepth 100000 in
theorem gd_mwX10_longestm : mwX10_longestm.all goodWord = true := by decide +kernel
set_option maxRecDepth 20000 in
theorem mg_X10_firstMatchm_X10_sizeOf_396 : GoodIn mwX10_firstMatchm (wsV RX10 396 RX10 yX10_sizeOf mwX10_sizeOfm) := gi_app (A := [.methodLink RX10 396 yX10_sizeOf, .instanceMethod yX10_sizeOf, .selects RX10 yX10_sizeOf yX10_sizeOf, .initialized RX10]) (goodIn_r _ [1, 2, 3, 4] (by decide +kernel) (by decide +kernel)) (gi_sub gd_mwX10_sizeOfm (fun w h => List.mem_cons_of_mem _ (List.mem_append_right _ (List.mem_append_left _ h))))
set_option maxRecDepth 20000 in
theorem mg_X10_firstMatchm_X10_longest_405 : GoodIn mwX10_firstMatchm (wsV RX10 405 RX10 yX10_longest mwX10_longestm) := gi_app (A := [.methodLink RX10 405 yX10_longest, .instanceMethod yX10_longest, .selects RX10 yX10_longest yX10_longest, .initialized RX10]) (goodIn_r _ [5, 6, 7, 4] (by decide +kernel) (by decide +kernel)) (gi_sub gd_mwX10_longestm (fun w h => List.mem_cons_of_mem _ (List.mem_append_right _ (List.mem_append_right _ (h)))))
set_option maxHeartbeats 4000000 in
set_option maxRecDepth 100000 in
theorem m_firstMatch (l : Launch) (dC : Nat → ClassId) (dI : Nat → Nat → Nat) (ad : Nat → Nat) (kc : Nat → ClassId) (x0 x1 x2 x3 x4 x5 x6 x7 x8 x9 x10 x11 x12 x13 x14 x15 x16 x17 x18 x19 x20 x21 : Int32) (f0 f1 f2 f3 f4 f5 f6 f7 f8 f9 f10 f11 f12 f13 f14 f15 f16 f17 f18 f19 f20 f21 : Nat → Int32) (fL : Nat → Nat → Int64) (fN : Nat → Nat → Int32) (fP : Nat → Nat → Nat) (fM : Nat → Nat → Int32) (fO : Nat → Nat → Int32) (sz : Nat) (i1 i2 : Int32) (q0 : OKd f0 0) (q1 : 0 ≤ i1.toInt ∧ i1.toInt < vI f0 0) (q2 : 0 ≤ i2.toInt ∧ i2.toInt ≤ 61) (q3 : 0 ≤ x15.toInt ∧ x15.toInt ≤ 24) (q4 : 0 ≤ x20.toInt ∧ x20.toInt < 1600) : Met l yX10_firstMatch mwX10_firstMatchm ({ frames := 3, cells := 0, slots := 0, locals := 180 }) (va_Pc [.ref (ad 0), .int i1, .int i2] (fun U => U.heap.size = sz ∧ va_P (dC, dI) vwCl (mW ad kc x0 x1 x2 x3 x4 x5 x6 x7 x8 x9 x10 x11 x12 x13 x14 x15 x16 x17 x18 x19 x20 x21 f0 f1 f2 f3 f4 f5 f6 f7 f8 f9 f10 f11 f12 f13 f14 f15 f16 f17 f18 f19 f20 f21 fL fN fP fM fO) U.heap ∧ va_K (dC, dI) vwCl (mT kc) U ∧ va_D (fun _ => True) (mW ad kc x0 x1 x2 x3 x4 x5 x6 x7 x8 x9 x10 x11 x12 x13 x14 x15 x16 x17 x18 x19 x20 x21 f0 f1 f2 f3 f4 f5 f6 f7 f8 f9 f10 f11 f12 f13 f14 f15 f16 f17 f18 f19 f20 f21 fL fN fP fM fO))) (va_Qi (fun (o9 u9 : Int32) => o9 = u9) (fun (o9 : Int32) t => (o9.toInt = -1 ∨ (i2.toInt ≤ o9.toInt ∧ o9.toInt ≤ vI f0 (1 + i1.toInt))) ∧ va_P (dC, dI) vwCl (mW ad kc x0 x1 x2 x3 x4 x5 x6 x7 x8 x9 x10 x11 x12 x13 x14 x15 x16 x17 x18 x19 x20 x21 f0 f1 f2 f3 f4 f5 f6 f7 f8 f9 f10 f11 f12 f13 f14 f15 f16 f17 f18 f19 f20 f21 fL fN fP fM fO) t.heap ∧ va_K (dC, dI) vwCl (mT kc) t ∧ va_D (va_A (mW ad kc x0 x1 x2 x3 x4 x5 x6 x7 x8 x9 x10 x11 x12 x13 x14 x15 x16 x17 x18 x19 x20 x21 f0 f1 f2 f3 f4 f5 f6 f7 f8 f9 f10 f11 f12 f13 f14 f15 f16 f17 f18 f19 f20 f21 fL fN fP fM fO) sz) (mW ad kc x0 x1 x2 x3 x4 x5 x6 x7 x8 x9 x10 x11 x12 x13 x14 x15 x16 x17 x18 x19 x20 x21 f0 f1 f2 f3 f4 f5 f6 f7 f8 f9 f10 f11 f12 f13 f14 f15 f16 f17 f18 f19 f20 f21 fL fN fP fM fO)) (va_A (mW ad kc x0 x1 x2 x3 x4 x5 x6 x7 x8 x9 x10 x11 x12 x13 x14 x15 x16 x17 x18 x19 x20 x21 f0 f1 f2 f3 f4 f5 f6 f7 f8 f9 f10 f11 f12 f13 f14 f15 f16 f17 f18 f19 f20 f21 fL fN fP fM fO) sz)) 0 0 (va_A (mW ad kc x0 x1 x2 x3 x4 x5 x6 x7 x8 x9 x10 x11 x12 x13 x14 x15 x16 x17 x18 x19 x20 x21 f0 f1 f2 f3 f4 f5 f6 f7 f8 f9 f10 f11 f12 f13 f14 f15 f16 f17 f18 f19 f20 f21 fL fN fP fM fO) sz) := by
  refine Met.ofW (cc := cX10_firstMatch) (maxL := 4) (ret := (some .int)) (by decide +kernel) rfl ?_
  intro p e s m args below meth c s₁ B hml hv
  obtain ⟨rfl, hsz, hP, hK, hD0⟩ := hv
  have hx := B.exec
  have hb := B.bytes
  have hr := B.returns
  have hts := atoms_spec (ws := mwX10_firstMatchm) B.pre
  have hown : s.vm.findClass RX10 = some m.cls := findClass_of_methodNamed B.named
  have hlocks := B.notSynchronized
  subst hsz
  have hD := hD0.self (sz := s.heap.size)
  generalize hAe : va_A (mW ad kc x0 x1 x2 x3 x4 x5 x6 x7 x8 x9 x10 x11 x12 x13 x14 x15 x16 x17 x18 x19 x20 x21 f0 f1 f2 f3 f4 f5 f6 f7 f8 f9 f10 f11 f12 f13 f14 f15 f16 f17 f18 f19 f20 f21 fL fN fP fM fO) s.heap.size = A at hD ⊢
  have hA : ∀ q : Nat, s.heap.size ≤ q → A q := fun q h => by rw [← hAe]; exact Or.inr h
  have hP : va_P (dC, dI) vwCl (mW ad kc x0 x1 x2 x3 x4 x5 x6 x7 x8 x9 x10 x11 x12 x13 x14 x15 x16 x17 x18 x19 x20 x21 f0 f1 f2 f3 f4 f5 f6 f7 f8 f9 f10 f11 f12 f13 f14 f15 f16 f17 f18 f19 f20 f21 fL fN fP fM fO) s.heap := hP
  have hD : va_D A (mW ad kc x0 x1 x2 x3 x4 x5 x6 x7 x8 x9 x10 x11 x12 x13 x14 x15 x16 x17 x18 x19 x20 x21 f0 f1 f2 f3 f4 f5 f6 f7 f8 f9 f10 f11 f12 f13 f14 f15 f16 f17 f18 f19 f20 f21 fL fN fP fM fO) := hD
  have hK : va_K (dC, dI) vwCl (mT kc) s := hK
  generalize hH : s.heap = H at hP ⊢
  have hS : va_S A s.heap H [] := by rw [← hH]; exact va_S.rf
  have hl := lv_entry ([.ref (ad 0), .int i1, .int i2]) (n := 4) (Nat.le_of_ble_eq_true rfl)
  rw [lg_entry_eq]
  generalize (lg_sl ([.ref (ad 0), .int i1, .int i2]) ++ List.replicate (4 - (lg_sl ([.ref (ad 0), .int i1, .int i2])).length) Slot.unset).toArray = ls at hl ⊢
  have hl : lv_has ls 4 [(0, .ref (ad 0)), (1, .int i1), (2, .int i2)] := hl
  have rg_i1 := i_rng i1
  have rg_i2 := i_rng i2
  have hd10 := q0.n0
  have hp8 := q0.P0
  refine lv_iload_n hx hb dX10_firstMatch_0 rfl (lv_at hl 2 rfl) ?_
  refine lv_istore_n (lv' := [(3, .int i2), (0, .ref (ad 0)), (1, .int i1), (2, .int i2)]) hx hb dX10_firstMatch_1 rfl hl (by decide) rfl (fun ls hl => ?_)
  have loop2 : ∀ (lm2 : Nat) (kk : Int32), (i2.toInt ≤ kk.toInt ∧ kk.toInt ≤ 61) → ((61 - kk.toInt).toNat) < lm2 → ∀ (H : Heap) (locs : List Loc) (ls : Array Slot), va_P (dC, dI) vwCl (mW ad kc x0 x1 x2 x3 x4 x5 x6 x7 x8 x9 x10 x11 x12 x13 x14 x15 x16 x17 x18 x19 x20 x21 f0 f1 f2 f3 f4 f5 f6 f7 f8 f9 f10 f11 f12 f13 f14 f15 f16 f17 f18 f19 f20 f21 fL fN fP fM fO) H → va_D A (mW ad kc x0 x1 x2 x3 x4 x5 x6 x7 x8 x9 x10 x11 x12 x13 x14 x15 x16 x17 x18 x19 x20 x21 f0 f1 f2 f3 f4 f5 f6 f7 f8 f9 f10 f11 f12 f13 f14 f15 f16 f17 f18 f19 f20 f21 fL fN fP fM fO) → va_S A s.heap H locs → lv_has ls 4 [(3, .int kk), (0, .ref (ad 0)), (1, .int i1), (2, .int i2)] → W p l e (headSpec mwX10_firstMatchm ({ frames := 3, cells := 0, slots := 0, locals := 180 })).room s m ([.ref (ad 0), .int i1, .int i2]).toArray below meth c H locs 0 0 (MQ below (va_Qi (fun (o9 u9 : Int32) => o9 = u9) (fun (o9 : Int32) t => (o9.toInt = -1 ∨ (i2.toInt ≤ o9.toInt ∧ o9.toInt ≤ vI f0 (1 + i1.toInt))) ∧ va_P (dC, dI) vwCl (mW ad kc x0 x1 x2 x3 x4 x5 x6 x7 x8 x9 x10 x11 x12 x13 x14 x15 x16 x17 x18 x19 x20 x21 f0 f1 f2 f3 f4 f5 f6 f7 f8 f9 f10 f11 f12 f13 f14 f15 f16 f17 f18 f19 f20 f21 fL fN fP fM fO) t.heap ∧ va_K (dC, dI) vwCl (mT kc) t ∧ va_D A (mW ad kc x0 x1 x2 x3 x4 x5 x6 x7 x8 x9 x10 x11 x12 x13 x14 x15 x16 x17 x18 x19 x20 x21 f0 f1 f2 f3 f4 f5 f6 f7 f8 f9 f10 f11 f12 f13 f14 f15 f16 f17 f18 f19 f20 f21 fL fN fP fM fO)) A) ([.ref (ad 0), .int i1, .int i2]).toArray s 0 0 A) (F0 m 2 ls []) := by
    intro lm2
    induction lm2 with
    | zero => intro kk v2_0 hm2; exact absurd hm2 (Nat.not_lt_zero _)
    | succ lm2 ih2 =>
      intro kk v2_0 hm2 H locs ls hP hD hS hl
      have rg_kk := i_rng kk
      refine lv_iload_n hx hb dX10_firstMatch_2 rfl (lv_at hl 0 rfl) ?_
      refine lv_aload_n hx hb dX10_firstMatch_3 rfl (lv_at hl 1 rfl) ?_
      refine lv_iload_n hx hb dX10_firstMatch_4 rfl (lv_at hl 2 rfl) ?_
      refine vp_callSi (W.runV (As := [.int i1]) (rest := [.int kk]) ⟨hx, hb, hml, hown, hts⟩ (m_sizeOf l dC dI ad kc x0 x1 x2 x3 x4 x5 x6 x7 x8 x9 x10 x11 x12 x13 x14 x15 x16 x17 x18 x19 x20 x21 f0 f1 f2 f3 f4 f5 f6 f7 f8 f9 f10 f11 f12 f13 f14 f15 f16 f17 f18 f19 f20 f21 fL fN fP fM fO i1 (by first | omega | assumption | decide | (have l0 := Int32.toInt_zero; omega)) (by first | omega | assumption | decide | (have l0 := Int32.toInt_zero; omega))) (cwV 1 hts mg_X10_firstMatchm_X10_sizeOf_396 rfl rfl rfl (by decide +kernel) ⟨Nat.le_of_ble_eq_true rfl, Nat.le_of_ble_eq_true rfl⟩) ⟨fun a U g mk q => by obtain ⟨q0, qP, qK⟩ := q; exact ⟨q0, qP, va_K.moved (u := U) (U := U.calling g mk a) (Vm.Alike.refl U.vm) qK⟩, va_recv hK hP (ci := 10) (q0 := 0) rfl rfl, fun U hU hW => ⟨rfl, by rw [hU]; exact hP, va_K.moved hW.alike hK⟩⟩ rfl rfl hl.1 rfl (lv_room (Nat.le_of_ble_eq_true rfl)) dX10_firstMatch_5 ⟨Nat.le_of_ble_eq_true rfl, Nat.le_of_ble_eq_true rfl⟩) (fun r_1 hr_1 => ?_)
      have rg_r_1 := i_rng r_1
      have hlr_1 := OKd.sz q0 (d := i1.toInt) (by omega) (by omega)
      refine lv_icmp_gt (tgt := 29) hx hb dX10_firstMatch_8 (by decide) (fun k_2 => ?_) (fun k_2 => ?_)
      · have tk_2 := c_gt (a := kk.toInt) (b := r_1.toInt) rfl rfl k_2
        refine lv_iconst (v := (-1)) hx hb dX10_firstMatch_29 (by decide) ?_
        have lit_2 : ((-1) : Int32).toInt = (-1) := by decide
        exact W.iret hx hb hr (fun t ht hW => ⟨⟨_, _, rfl, rfl, (by first | omega | assumption | rfl | decide), by rw [ht]; exact hP, va_K.moved hW.alike hK, hD⟩, hS.F ht⟩) hS.2.2 dX10_firstMatch_30
      · have tk_2 := c_ngt (a := kk.toInt) (b := r_1.toInt) rfl rfl k_2
        refine lv_aload_n hx hb dX10_firstMatch_11 rfl (lv_at hl 1 rfl) ?_
        refine lv_iload_n hx hb dX10_firstMatch_12 rfl (lv_at hl 2 rfl) ?_
        refine lv_iload_n hx hb dX10_firstMatch_13 rfl (lv_at hl 0 rfl) ?_
        have hFc := m_free hD hS hA
        refine va_calli (va_runV (As := [.int i1, .int kk]) (rest := []) ⟨hx, hb, hml, hown, hts⟩ (m_longest l dC dI ad kc x0 x1 x2 x3 x4 x5 x6 x7 x8 x9 x10 x11 x12 x13 x14 x15 x16 x17 x18 x19 x20 x21 f0 f1 f2 f3 f4 f5 f6 f7 f8 f9 f10 f11 f12 f13 f14 f15 f16 f17 f18 f19 f20 f21 fL fN fP fM fO H.size i1 kk (by first | omega | assumption | decide | (have l0 := Int32.toInt_zero; omega)) (by first | omega | assumption | decide | (have l0 := Int32.toInt_zero; omega)) (by first | omega | assumption | decide | (have l0 := Int32.toInt_zero; omega)) (by first | omega | assumption | decide | (have l0 := Int32.toInt_zero; omega)) (by first | omega | assumption | decide | (have l0 := Int32.toInt_zero; omega))) (cwV 2 hts mg_X10_firstMatchm_X10_longest_405 rfl rfl rfl (by decide +kernel) ⟨Nat.le_of_ble_eq_true rfl, Nat.le_of_ble_eq_true rfl⟩) ⟨fun a U g mk q => by obtain ⟨q0, q1, qP, qK, qD⟩ := q; exact ⟨q0, q1, qP, va_K.moved (u := U) (U := U.calling g mk a) (Vm.Alike.refl U.vm) qK, qD⟩, va_recv hK hP (ci := 10) (q0 := 0) rfl rfl, fun U hU hW => ⟨rfl, by rw [hU], by rw [hU]; exact hP, va_K.moved hW.alike hK, hD.weaken (fun _ _ _ _ => trivial)⟩⟩ rfl rfl hl.1 rfl (lv_room (Nat.le_of_ble_eq_true rfl)) dX10_firstMatch_14 ⟨Nat.le_of_ble_eq_true rfl, Nat.le_of_ble_eq_true rfl⟩) hS (fun q _ h => hFc q h) hFc (fun r_4 u t H1 locs ht hvm hw hB hz1 hk1 hS => ?_)
        subst hw
        obtain ⟨hr_4_0, hP, hK1, hD1⟩ := hB
        rw [ht] at hP
        have hD := hD1.weaken (fun k q _ h => hFc q.1 h)
        clear hz1 hk1 hFc hD1 hK1 hvm
        generalize H1 = H at hP hS ⊢
        have rg_r_4 := i_rng r_4
        have hP : va_P (dC, dI) vwCl (mW ad kc x0 x1 x2 x3 x4 x5 x6 x7 x8 x9 x10 x11 x12 x13 x14 x15 x16 x17 x18 x19 x20 x21 f0 f1 f2 f3 f4 f5 f6 f7 f8 f9 f10 f11 f12 f13 f14 f15 f16 f17 f18 f19 f20 f21 fL fN fP fM fO) H := hP
        have hD : va_D A (mW ad kc x0 x1 x2 x3 x4 x5 x6 x7 x8 x9 x10 x11 x12 x13 x14 x15 x16 x17 x18 x19 x20 x21 f0 f1 f2 f3 f4 f5 f6 f7 f8 f9 f10 f11 f12 f13 f14 f15 f16 f17 f18 f19 f20 f21 fL fN fP fM fO) := hD
        refine lv_iconst (v := (-1)) hx hb dX10_firstMatch_17 (by decide) ?_
        refine lv_icmp_eq (tgt := 23) hx hb dX10_firstMatch_18 (by decide) (fun k_5 => ?_) (fun k_5 => ?_)
        · have tk_5 := c_eq (a := r_4.toInt) (b := (-1)) rfl (by decide) k_5
          obtain ⟨y_6, ey_6⟩ : ∃ y : Int32, y = kk + 1 := ⟨_, rfl⟩
          first | have ty_6 := i_add (a := kk.toInt) (b := 1) rfl (by decide) ey_6 (by omega) (by omega) | skip
          refine lv_iinc (v := y_6) (lv' := [(3, .int y_6), (0, .ref (ad 0)), (1, .int i1), (2, .int i2)]) hx hb dX10_firstMatch_23 hl (k := 0) rfl (by rw [ey_6]; rfl) (by decide) rfl (fun ls hl => ?_)
          refine lv_goto (tgt := 2) hx hb dX10_firstMatch_26 (by decide) ?_
          exact ih2 y_6 (by first | omega | assumption | decide) (by omega) _ _ ls hP hD hS (lv_sub hl [0, 1, 2, 3] rfl)
        · have tk_5 := c_ne (a := r_4.toInt) (b := (-1)) rfl (by decide) k_5
          refine lv_iload_n hx hb dX10_firstMatch_21 rfl (lv_at hl 0 rfl) ?_
          exact W.iret hx hb hr (fun t ht hW => ⟨⟨_, _, rfl, rfl, (by first | omega | assumption | rfl | decide), by rw [ht]; exact hP, va_K.moved hW.alike hK, hD⟩, hS.F ht⟩) hS.2.2 dX10_firstMatch_22
  exact loop2 _ i2 (by first | omega | assumption | decide) (Nat.lt_succ_self _) _ _ ls hP hD hS (lv_sub hl [0, 1, 2, 3] rfl)
theorem dX10_matchMany_0 : decode cX10_matchMany 0 = .ok (.iconst 0, 1) := by decide +kernel
theorem dX10_matchMany_1 : decode cX10_matchMany 1 = .ok (.istore_n 2, 1) := by decide +kernel
theorem dX10_matchMany_2 : decode cX10_matchMany 2 = .ok (.iconst 0, 1) := by decide +kernel
theorem dX10_matchMany_3 : decode cX10_matchMany 3 = .ok (.istore_n 3, 1) := by decide +kernel
theorem dX10_matchMany_4 : decode cX10_matchMany 4 = .ok (.iload_n 3, 1) := by decide +kernel
theorem dX10_matchMany_5 : decode cX10_matchMany 5 = .ok (.aload_n 0, 1) := by decide +kernel
theorem dX10_matchMany_6 : decode cX10_matchMany 6 = .ok (.iload_n 1, 1) := by decide +kernel
theorem dX10_matchMany_7 : decode cX10_matchMany 7 = .ok (.invokevirtual 396, 3) := by decide +kernel
theorem dX10_matchMany_10 : decode cX10_matchMany 10 = .ok (.if_icmp .gt 40, 3) := by decide +kernel
theorem dX10_matchMany_13 : decode cX10_matchMany 13 = .ok (.aload_n 0, 1) := by decide +kernel
theorem dX10_matchMany_14 : decode cX10_matchMany 14 = .ok (.iload_n 1, 1) := by decide +kernel
theorem dX10_matchMany_15 : decode cX10_matchMany 15 = .ok (.iload_n 3, 1) := by decide +kernel
theorem dX10_matchMany_16 : decode cX10_matchMany 16 = .ok (.invokevirtual 430, 3) := by decide +kernel
theorem dX10_matchMany_19 : decode cX10_matchMany 19 = .ok (.istore 4, 2) := by decide +kernel
theorem dX10_matchMany_21 : decode cX10_matchMany 21 = .ok (.iload 4, 2) := by decide +kernel
theorem dX10_matchMany_23 : decode cX10_matchMany 23 = .ok (.iconst (-1), 1) := by decide +kernel
theorem dX10_matchMany_24 : decode cX10_matchMany 24 = .ok (.if_icmp .ne 5, 3) := by decide +kernel
theorem dX10_matchMany_27 : decode cX10_matchMany 27 = .ok (.iload_n 2, 1) := by decide +kernel
theorem dX10_matchMany_28 : decode cX10_matchMany 28 = .ok (.ireturn, 1) := by decide +kernel
theorem dX10_matchMany_29 : decode cX10_matchMany 29 = .ok (.iinc 2 1, 3) := by decide +kernel
theorem dX10_matchMany_32 : decode cX10_matchMany 32 = .ok (.iload 4, 2) := by decide +kernel
theorem dX10_matchMany_34 : decode cX10_matchMany 34 = .ok (.iconst 1, 1) := by decide +kernel
theorem dX10_matchMany_35 : decode cX10_matchMany 35 = .ok (.aload_n 0, 1) := by decide +kernel
theorem dX10_matchMany_36 : decode cX10_matchMany 36 = .ok (.iload_n 1, 1) := by decide +kernel
theorem dX10_matchMany_37 : decode cX10_matchMany 37 = .ok (.iload 4, 2) := by decide +kernel
theorem dX10_matchMany_39 : decode cX10_matchMany 39 = .ok (.invokevirtual 405, 3) := by decide +kernel
theorem dX10_matchMany_42 : decode cX10_matchMany 42 = .ok (.invokestatic 268, 3) := by decide +kernel
theorem dX10_matchMany_45 : decode cX10_matchMany 45 = .ok (.iadd, 1) := by decide +kernel
theorem dX10_matchMany_46 : decode cX10_matchMany 46 = .ok (.istore_n 3, 1) := by decide +kernel
theorem dX10_matchMany_47 : decode cX10_matchMany 47 = .ok (.goto (-43), 3) := by decide +kernel
theorem dX10_matchMany_50 : decode cX10_matchMany 50 = .ok (.iload_n 2, 1) := by decide +kernel
theorem dX10_matchMany_51 : decode cX10_matchMany 51 = .ok (.ireturn, 1) := by decide +kernel
def mwX10_matchManym : List Cond := .code yX10_matchMany cX10_matchMany 5 (some .int) :: (([.methodLink RX10 396 yX10_sizeOf, .instanceMethod yX10_sizeOf, .selects RX10 yX10_sizeOf yX10_sizeOf, .initialized RX10, .methodLink RX10 430 yX10_firstMatch, .instanceMethod yX10_firstMatch, .selects RX10 yX10_firstMatch yX10_firstMatch, .methodLink RX10 405 yX10_longest, .instanceMethod yX10_longest, .selects RX10 yX10_longest yX10_longest, .methodLink RX10 268 Lib.Math.max.name, .static Lib.Math.max.name, .initialized "java/lang/Math", .code Lib.Math.max.name Lib.Math.max.code 2 (some .int)] : List Cond) ++ (mwX10_sizeOfm ++ (mwX10_firstMatchm ++ (mwX10_longestm))))
set_option maxRecDepth 100000 in
theorem gd_mwX10_firstMatchm : mwX10_firstMatchm.all goodWord = true := by decide +kernel
set_option maxRecDepth 20000 in
theorem mg_X10_matchManym_X10_sizeOf_396 : GoodIn mwX10_matchManym (wsV RX10 396 RX10 yX10_sizeOf mwX10_sizeOfm) := gi_app (A := [.methodLink RX10 396 yX10_sizeOf, .instanceMethod yX10_sizeOf, .selects RX10 yX10_sizeOf yX10_sizeOf, .initialized RX10]) (goodIn_r _ [1, 2, 3, 4] (by decide +kernel) (by decide +kernel)) (gi_sub gd_mwX10_sizeOfm (fun w h => List.mem_cons_of_mem _ (List.mem_append_right _ (List.mem_append_left _ h))))
set_option maxRecDepth 20000 in
theorem mg_X10_matchManym_X10_firstMatch_430 : GoodIn mwX10_matchManym (wsV RX10 430 RX10 yX10_firstMatch mwX10_firstMatchm) := gi_app (A := [.methodLink RX10 430 yX10_firstMatch, .instanceMethod yX10_firstMatch, .selects RX10 yX10_firstMatch yX10_firstMatch, .initialized RX10]) (goodIn_r _ [5, 6, 7, 4] (by decide +kernel) (by decide +kernel)) (gi_sub gd_mwX10_firstMatchm (fun w h => List.mem_cons_of_mem _ (List.mem_append_right _ (List.mem_append_right _ (List.mem_append_left _ h)))))
set_option maxRecDepth 20000 in
theorem mg_X10_matchManym_X10_longest_405 : GoodIn mwX10_matchManym (wsV RX10 405 RX10 yX10_longest mwX10_longestm) := gi_app (A := [.methodLink RX10 405 yX10_longest, .instanceMethod yX10_longest, .selects RX10 yX10_longest yX10_longest, .initialized RX10]) (goodIn_r _ [8, 9, 10, 4] (by decide +kernel) (by decide +kernel)) (gi_sub gd_mwX10_longestm (fun w h => List.mem_cons_of_mem _ (List.mem_append_right _ (List.mem_append_right _ (List.mem_append_right _ (h))))))
set_option maxHeartbeats 4000000 in
set_option maxRecDepth 100000 in
theorem m_matchMany (l : Launch) (dC : Nat → ClassId) (dI : Nat → Nat → Nat) (ad : Nat → Nat) (kc : Nat → ClassId) (x0 x1 x2 x3 x4 x5 x6 x7 x8 x9 x10 x11 x12 x13 x14 x15 x16 x17 x18 x19 x20 x21 : Int32) (f0 f1 f2 f3 f4 f5 f6 f7 f8 f9 f10 f11 f12 f13 f14 f15 f16 f17 f18 f19 f20 f21 : Nat → Int32) (fL : Nat → Nat → Int64) (fN : Nat → Nat → Int32) (fP : Nat → Nat → Nat) (fM : Nat → Nat → Int32) (fO : Nat → Nat → Int32) (sz : Nat) (i1 : Int32) (q0 : OKd f0 0) (q1 : 0 ≤ i1.toInt ∧ i1.toInt < vI f0 0) (q2 : 0 ≤ x15.toInt ∧ x15.toInt ≤ 24) (q3 : 0 ≤ x20.toInt ∧ x20.toInt < 1600) : Met l yX10_matchMany mwX10_matchManym ({ frames := 4, cells := 0, slots := 0, locals := 240 }) (va_Pc [.ref (ad 0), .int i1] (fun U => U.heap.size = sz ∧ va_P (dC, dI) vwCl (mW ad kc x0 x1 x2 x3 x4 x5 x6 x7 x8 x9 x10 x11 x12 x13 x14 x15 x16 x17 x18 x19 x20 x21 f0 f1 f2 f3 f4 f5 f6 f7 f8 f9 f10 f11 f12 f13 f14 f15 f16 f17 f18 f19 f20 f21 fL fN fP fM fO) U.heap ∧ va_K (dC, dI) vwCl (mT kc) U ∧ va_D (fun _ => True) (mW ad kc x0 x1 x2 x3 x4 x5 x6 x7 x8 x9 x10 x11 x12 x13 x14 x15 x16 x17 x18 x19 x20 x21 f0 f1 f2 f3 f4 f5 f6 f7 f8 f9 f10 f11 f12 f13 f14 f15 f16 f17 f18 f19 f20 f21 fL fN fP fM fO))) (va_Qi (fun (o9 u9 : Int32) => o9 = u9) (fun (o9 : Int32) t => va_P (dC, dI) vwCl (mW ad kc x0 x1 x2 x3 x4 x5 x6 x7 x8 x9 x10 x11 x12 x13 x14 x15 x16 x17 x18 x19 x20 x21 f0 f1 f2 f3 f4 f5 f6 f7 f8 f9 f10 f11 f12 f13 f14 f15 f16 f17 f18 f19 f20 f21 fL fN fP fM fO) t.heap ∧ va_K (dC, dI) vwCl (mT kc) t ∧ va_D (va_A (mW ad kc x0 x1 x2 x3 x4 x5 x6 x7 x8 x9 x10 x11 x12 x13 x14 x15 x16 x17 x18 x19 x20 x21 f0 f1 f2 f3 f4 f5 f6 f7 f8 f9 f10 f11 f12 f13 f14 f15 f16 f17 f18 f19 f20 f21 fL fN fP fM fO) sz) (mW ad kc x0 x1 x2 x3 x4 x5 x6 x7 x8 x9 x10 x11 x12 x13 x14 x15 x16 x17 x18 x19 x20 x21 f0 f1 f2 f3 f4 f5 f6 f7 f8 f9 f10 f11 f12 f13 f14 f15 f16 f17 f18 f19 f20 f21 fL fN fP fM fO)) (va_A (mW ad kc x0 x1 x2 x3 x4 x5 x6 x7 x8 x9 x10 x11 x12 x13 x14 x15 x16 x17 x18 x19 x20 x21 f0 f1 f2 f3 f4 f5 f6 f7 f8 f9 f10 f11 f12 f13 f14 f15 f16 f17 f18 f19 f20 f21 fL fN fP fM fO) sz)) 0 0 (va_A (mW ad kc x0 x1 x2 x3 x4 x5 x6 x7 x8 x9 x10 x11 x12 x13 x14 x15 x16 x17 x18 x19 x20 x21 f0 f1 f2 f3 f4 f5 f6 f7 f8 f9 f10 f11 f12 f13 f14 f15 f16 f17 f18 f19 f20 f21 fL fN fP fM fO) sz) := by
  refine Met.ofW (cc := cX10_matchMany) (maxL := 5) (ret := (some .int)) (by decide +kernel) rfl ?_
  intro p e s m args below meth c s₁ B hml hv
  obtain ⟨rfl, hsz, hP, hK, hD0⟩ := hv
  have hx := B.exec
  have hb := B.bytes
  have hr := B.returns
  have hts := atoms_spec (ws := mwX10_matchManym) B.pre
  have hown : s.vm.findClass RX10 = some m.cls := findClass_of_methodNamed B.named
  have hlocks := B.notSynchronized
  subst hsz
  have hD := hD0.self (sz := s.heap.size)
  generalize hAe : va_A (mW ad kc x0 x1 x2 x3 x4 x5 x6 x7 x8 x9 x10 x11 x12 x13 x14 x15 x16 x17 x18 x19 x20 x21 f0 f1 f2 f3 f4 f5 f6 f7 f8 f9 f10 f11 f12 f13 f14 f15 f16 f17 f18 f19 f20 f21 fL fN fP fM fO) s.heap.size = A at hD ⊢
  have hA : ∀ q : Nat, s.heap.size ≤ q → A q := fun q h => by rw [← hAe]; exact Or.inr h
  have hP : va_P (dC, dI) vwCl (mW ad kc x0 x1 x2 x3 x4 x5 x6 x7 x8 x9 x10 x11 x12 x13 x14 x15 x16 x17 x18 x19 x20 x21 f0 f1 f2 f3 f4 f5 f6 f7 f8 f9 f10 f11 f12 f13 f14 f15 f16 f17 f18 f19 f20 f21 fL fN fP fM fO) s.heap := hP
  have hD : va_D A (mW ad kc x0 x1 x2 x3 x4 x5 x6 x7 x8 x9 x10 x11 x12 x13 x14 x15 x16 x17 x18 x19 x20 x21 f0 f1 f2 f3 f4 f5 f6 f7 f8 f9 f10 f11 f12 f13 f14 f15 f16 f17 f18 f19 f20 f21 fL fN fP fM fO) := hD
  have hK : va_K (dC, dI) vwCl (mT kc) s := hK
  generalize hH : s.heap = H at hP ⊢
  have hS : va_S A s.heap H [] := by rw [← hH]; exact va_S.rf
  have hl := lv_entry ([.ref (ad 0), .int i1]) (n := 5) (Nat.le_of_ble_eq_true rfl)
  rw [lg_entry_eq]
  generalize (lg_sl ([.ref (ad 0), .int i1]) ++ List.replicate (5 - (lg_sl ([.ref (ad 0), .int i1])).length) Slot.unset).toArray = ls at hl ⊢
  have hl : lv_has ls 5 [(0, .ref (ad 0)), (1, .int i1)] := hl
  have rg_i1 := i_rng i1
  have hd10 := q0.n0
  have hp8 := q0.P0
  refine lv_iconst (v := 0) hx hb dX10_matchMany_0 (by decide) ?_
  refine lv_istore_n (lv' := [(2, .int 0), (0, .ref (ad 0)), (1, .int i1)]) hx hb dX10_matchMany_1 rfl hl (by decide) rfl (fun ls hl => ?_)
  refine lv_iconst (v := 0) hx hb dX10_matchMany_2 (by decide) ?_
  refine lv_istore_n (lv' := [(3, .int 0), (2, .int 0), (0, .ref (ad 0)), (1, .int i1)]) hx hb dX10_matchMany_3 rfl hl (by decide) rfl (fun ls hl => ?_)
  have loop4 : ∀ (lm4 : Nat) (nn fr : Int32), (0 ≤ fr.toInt ∧ fr.toInt ≤ 200) → ((200 - fr.toInt).toNat) < lm4 → ∀ (H : Heap) (locs : List Loc) (ls : Array Slot), va_P (dC, dI) vwCl (mW ad kc x0 x1 x2 x3 x4 x5 x6 x7 x8 x9 x10 x11 x12 x13 x14 x15 x16 x17 x18 x19 x20 x21 f0 f1 f2 f3 f4 f5 f6 f7 f8 f9 f10 f11 f12 f13 f14 f15 f16 f17 f18 f19 f20 f21 fL fN fP fM fO) H → va_D A (mW ad kc x0 x1 x2 x3 x4 x5 x6 x7 x8 x9 x10 x11 x12 x13 x14 x15 x16 x17 x18 x19 x20 x21 f0 f1 f2 f3 f4 f5 f6 f7 f8 f9 f10 f11 f12 f13 f14 f15 f16 f17 f18 f19 f20 f21 fL fN fP fM fO) → va_S A s.heap H locs → lv_has ls 5 [(3, .int fr), (2, .int nn), (0, .ref (ad 0)), (1, .int i1)] → W p l e (headSpec mwX10_matchManym ({ frames := 4, cells := 0, slots := 0, locals := 240 })).room s m ([.ref (ad 0), .int i1]).toArray below meth c H locs 0 0 (MQ below (va_Qi (fun (o9 u9 : Int32) => o9 = u9) (fun (o9 : Int32) t => va_P (dC, dI) vwCl (mW ad kc x0 x1 x2 x3 x4 x5 x6 x7 x8 x9 x10 x11 x12 x13 x14 x15 x16 x17 x18 x19 x20 x21 f0 f1 f2 f3 f4 f5 f6 f7 f8 f9 f10 f11 f12 f13 f14 f15 f16 f17 f18 f19 f20 f21 fL fN fP fM fO) t.heap ∧ va_K (dC, dI) vwCl (mT kc) t ∧ va_D A (mW ad kc x0 x1 x2 x3 x4 x5 x6 x7 x8 x9 x10 x11 x12 x13 x14 x15 x16 x17 x18 x19 x20 x21 f0 f1 f2 f3 f4 f5 f6 f7 f8 f9 f10 f11 f12 f13 f14 f15 f16 f17 f18 f19 f20 f21 fL fN fP fM fO)) A) ([.ref (ad 0), .int i1]).toArray s 0 0 A) (F0 m 4 ls []) := by
    intro lm4
    induction lm4 with
    | zero => intro nn fr v4_0 hm4; exact absurd hm4 (Nat.not_lt_zero _)
    | succ lm4 ih4 =>
      intro nn fr v4_0 hm4 H locs ls hP hD hS hl
      have rg_nn := i_rng nn
      have rg_fr := i_rng fr
      refine lv_iload_n hx hb dX10_matchMany_4 rfl (lv_at hl 0 rfl) ?_
      refine lv_aload_n hx hb dX10_matchMany_5 rfl (lv_at hl 2 rfl) ?_
      refine lv_iload_n hx hb dX10_matchMany_6 rfl (lv_at hl 3 rfl) ?_
      refine vp_callSi (W.runV (As := [.int i1]) (rest := [.int fr]) ⟨hx, hb, hml, hown, hts⟩ (m_sizeOf l dC dI ad kc x0 x1 x2 x3 x4 x5 x6 x7 x8 x9 x10 x11 x12 x13 x14 x15 x16 x17 x18 x19 x20 x21 f0 f1 f2 f3 f4 f5 f6 f7 f8 f9 f10 f11 f12 f13 f14 f15 f16 f17 f18 f19 f20 f21 fL fN fP fM fO i1 (by first | omega | assumption | decide | (have l0 := Int32.toInt_zero; omega)) (by first | omega | assumption | decide | (have l0 := Int32.toInt_zero; omega))) (cwV 1 hts mg_X10_matchManym_X10_sizeOf_396 rfl rfl rfl (by decide +kernel) ⟨Nat.le_of_ble_eq_true rfl, Nat.le_of_ble_eq_true rfl⟩) ⟨fun a U g mk q => by obtain ⟨q0, qP, qK⟩ := q; exact ⟨q0, qP, va_K.moved (u := U) (U := U.calling g mk a) (Vm.Alike.refl U.vm) qK⟩, va_recv hK hP (ci := 10) (q0 := 0) rfl rfl, fun U hU hW => ⟨rfl, by rw [hU]; exact hP, va_K.moved hW.alike hK⟩⟩ rfl rfl hl.1 rfl (lv_room (Nat.le_of_ble_eq_true rfl)) dX10_matchMany_7 ⟨Nat.le_of_ble_eq_true rfl, Nat.le_of_ble_eq_true rfl⟩) (fun r_1 hr_1 => ?_)
      have rg_r_1 := i_rng r_1
      have hlr_1 := OKd.sz q0 (d := i1.toInt) (by omega) (by omega)
      refine lv_icmp_gt (tgt := 50) hx hb dX10_matchMany_10 (by decide) (fun k_2 => ?_) (fun k_2 => ?_)
      · have tk_2 := c_gt (a := fr.toInt) (b := r_1.toInt) rfl rfl k_2
        refine lv_iload_n hx hb dX10_matchMany_50 rfl (lv_at hl 1 rfl) ?_
        exact W.iret hx hb hr (fun t ht hW => ⟨⟨_, _, rfl, rfl, by rw [ht]; exact hP, va_K.moved hW.alike hK, hD⟩, hS.F ht⟩) hS.2.2 dX10_matchMany_51
      · have tk_2 := c_ngt (a := fr.toInt) (b := r_1.toInt) rfl rfl k_2
        refine lv_aload_n hx hb dX10_matchMany_13 rfl (lv_at hl 2 rfl) ?_
        refine lv_iload_n hx hb dX10_matchMany_14 rfl (lv_at hl 3 rfl) ?_
        refine lv_iload_n hx hb dX10_matchMany_15 rfl (lv_at hl 0 rfl) ?_
        have hFc := m_free hD hS hA
        refine va_calli (va_runV (As := [.int i1, .int fr]) (rest := []) ⟨hx, hb, hml, hown, hts⟩ (m_firstMatch l dC dI ad kc x0 x1 x2 x3 x4 x5 x6 x7 x8 x9 x10 x11 x12 x13 x14 x15 x16 x17 x18 x19 x20 x21 f0 f1 f2 f3 f4 f5 f6 f7 f8 f9 f10 f11 f12 f13 f14 f15 f16 f17 f18 f19 f20 f21 fL fN fP fM fO H.size i1 fr (by first | omega | assumption | decide | (have l0 := Int32.toInt_zero; omega)) (by first | omega | assumption | decide | (have l0 := Int32.toInt_zero; omega)) (by first | omega | assumption | decide | (have l0 := Int32.toInt_zero; omega)) (by first | omega | assumption | decide | (have l0 := Int32.toInt_zero; omega)) (by first | omega | assumption | decide | (have l0 := Int32.toInt_zero; omega))) (cwV 2 hts mg_X10_matchManym_X10_firstMatch_430 rfl rfl rfl (by decide +kernel) ⟨Nat.le_of_ble_eq_true rfl, Nat.le_of_ble_eq_true rfl⟩) ⟨fun a U g mk q => by obtain ⟨q0, q1, qP, qK, qD⟩ := q; exact ⟨q0, q1, qP, va_K.moved (u := U) (U := U.calling g mk a) (Vm.Alike.refl U.vm) qK, qD⟩, va_recv hK hP (ci := 10) (q0 := 0) rfl rfl, fun U hU hW => ⟨rfl, by rw [hU], by rw [hU]; exact hP, va_K.moved hW.alike hK, hD.weaken (fun _ _ _ _ => trivial)⟩⟩ rfl rfl hl.1 rfl (lv_room (Nat.le_of_ble_eq_true rfl)) dX10_matchMany_16 ⟨Nat.le_of_ble_eq_true rfl, Nat.le_of_ble_eq_true rfl⟩) hS (fun q _ h => hFc q h) hFc (fun r_3 u t H1 locs ht hvm hw hB hz1 hk1 hS => ?_)
        subst hw
        obtain ⟨hr_3_0, hP, hK1, hD1⟩ := hB
        rw [ht] at hP
        have hD := hD1.weaken (fun k q _ h => hFc q.1 h)
        clear hz1 hk1 hFc hD1 hK1 hvm
        generalize H1 = H at hP hS ⊢
        have rg_r_3 := i_rng r_3
        have hP : va_P (dC, dI) vwCl (mW ad kc x0 x1 x2 x3 x4 x5 x6 x7 x8 x9 x10 x11 x12 x13 x14 x15 x16 x17 x18 x19 x20 x21 f0 f1 f2 f3 f4 f5 f6 f7 f8 f9 f10 f11 f12 f13 f14 f15 f16 f17 f18 f19 f20 f21 fL fN fP fM fO) H := hP
        have hD : va_D A (mW ad kc x0 x1 x2 x3 x4 x5 x6 x7 x8 x9 x10 x11 x12 x13 x14 x15 x16 x17 x18 x19 x20 x21 f0 f1 f2 f3 f4 f5 f6 f7 f8 f9 f10 f11 f12 f13 f14 f15 f16 f17 f18 f19 f20 f21 fL fN fP fM fO) := hD
        refine lv_istore (lv' := [(4, .int r_3), (3, .int fr), (2, .int nn), (0, .ref (ad 0)), (1, .int i1)]) hx hb dX10_matchMany_19 hl (by decide) rfl (fun ls hl => ?_)
        refine lv_iload hx hb dX10_matchMany_21 (lv_at hl 0 rfl) ?_
        refine lv_iconst (v := (-1)) hx hb dX10_matchMany_23 (by decide) ?_
        refine lv_icmp_ne (tgt := 29) hx hb dX10_matchMany_24 (by decide) (fun k_4 => ?_) (fun k_4 => ?_)
        · have tk_4 := c_ne (a := r_3.toInt) (b := (-1)) rfl (by decide) k_4
          obtain ⟨y_5, ey_5⟩ : ∃ y : Int32, y = nn + 1 := ⟨_, rfl⟩
          first | have ty_5 := i_add (a := nn.toInt) (b := 1) rfl (by decide) ey_5 (by omega) (by omega) | skip
          refine lv_iinc (v := y_5) (lv' := [(2, .int y_5), (4, .int r_3), (3, .int fr), (0, .ref (ad 0)), (1, .int i1)]) hx hb dX10_matchMany_29 hl (k := 2) rfl (by rw [ey_5]; rfl) (by decide) rfl (fun ls hl => ?_)
          refine lv_iload hx hb dX10_matchMany_32 (lv_at hl 1 rfl) ?_
          refine lv_iconst (v := 1) hx hb dX10_matchMany_34 (by decide) ?_
          refine lv_aload_n hx hb dX10_matchMany_35 rfl (lv_at hl 3 rfl) ?_
          refine lv_iload_n hx hb dX10_matchMany_36 rfl (lv_at hl 4 rfl) ?_
          refine lv_iload hx hb dX10_matchMany_37 (lv_at hl 1 rfl) ?_
          have hFc := m_free hD hS hA
          refine va_calli (va_runV (As := [.int i1, .int r_3]) (rest := [.int 1, .int r_3]) ⟨hx, hb, hml, hown, hts⟩ (m_longest l dC dI ad kc x0 x1 x2 x3 x4 x5 x6 x7 x8 x9 x10 x11 x12 x13 x14 x15 x16 x17 x18 x19 x20 x21 f0 f1 f2 f3 f4 f5 f6 f7 f8 f9 f10 f11 f12 f13 f14 f15 f16 f17 f18 f19 f20 f21 fL fN fP fM fO H.size i1 r_3 (by first | omega | assumption | decide | (have l0 := Int32.toInt_zero; omega)) (by first | omega | assumption | decide | (have l0 := Int32.toInt_zero; omega)) (by first | omega | assumption | decide | (have l0 := Int32.toInt_zero; omega)) (by first | omega | assumption | decide | (have l0 := Int32.toInt_zero; omega)) (by first | omega | assumption | decide | (have l0 := Int32.toInt_zero; omega))) (cwV 2 hts mg_X10_matchManym_X10_longest_405 rfl rfl rfl (by decide +kernel) ⟨Nat.le_of_ble_eq_true rfl, Nat.le_of_ble_eq_true rfl⟩) ⟨fun a U g mk q => by obtain ⟨q0, q1, qP, qK, qD⟩ := q; exact ⟨q0, q1, qP, va_K.moved (u := U) (U := U.calling g mk a) (Vm.Alike.refl U.vm) qK, qD⟩, va_recv hK hP (ci := 10) (q0 := 0) rfl rfl, fun U hU hW => ⟨rfl, by rw [hU], by rw [hU]; exact hP, va_K.moved hW.alike hK, hD.weaken (fun _ _ _ _ => trivial)⟩⟩ rfl rfl hl.1 rfl (lv_room (Nat.le_of_ble_eq_true rfl)) dX10_matchMany_39 ⟨Nat.le_of_ble_eq_true rfl, Nat.le_of_ble_eq_true rfl⟩) hS (fun q _ h => hFc q h) hFc (fun r_6 u t H1 locs ht hvm hw hB hz1 hk1 hS => ?_)
          subst hw
          obtain ⟨hr_6_0, hP, hK1, hD1⟩ := hB
          rw [ht] at hP
          have hD := hD1.weaken (fun k q _ h => hFc q.1 h)
          clear hz1 hk1 hFc hD1 hK1 hvm
          generalize H1 = H at hP hS ⊢
          have rg_r_6 := i_rng r_6
          have hP : va_P (dC, dI) vwCl (mW ad kc x0 x1 x2 x3 x4 x5 x6 x7 x8 x9 x10 x11 x12 x13 x14 x15 x16 x17 x18 x19 x20 x21 f0 f1 f2 f3 f4 f5 f6 f7 f8 f9 f10 f11 f12 f13 f14 f15 f16 f17 f18 f19 f20 f21 fL fN fP fM fO) H := hP
          have hD : va_D A (mW ad kc x0 x1 x2 x3 x4 x5 x6 x7 x8 x9 x10 x11 x12 x13 x14 x15 x16 x17 x18 x19 x20 x21 f0 f1 f2 f3 f4 f5 f6 f7 f8 f9 f10 f11 f12 f13 f14 f15 f16 f17 f18 f19 f20 f21 fL fN fP fM fO) := hD
          refine va_mmax hx hb (hml.trans hl.1.symm) hown (hts (.methodLink RX10 268 Lib.Math.max.name) (List.mem_of_getElem? (i := 11) (by decide +kernel))) (hts (.static Lib.Math.max.name) (List.mem_of_getElem? (i := 12) (by decide +kernel))) (hts (.initialized "java/lang/Math") (List.mem_of_getElem? (i := 13) (by decide +kernel))) (hts (.code Lib.Math.max.name Lib.Math.max.code 2 (some .int)) (List.mem_of_getElem? (i := 14) (by decide +kernel))) (Nat.le_of_ble_eq_true rfl) (Nat.le_of_ble_eq_true rfl) (Nat.le_of_ble_eq_true rfl) (Nat.le_of_ble_eq_true rfl) dX10_matchMany_42 ?_
          refine lv_topi (fun y_7 ey_7 => ?_)
          have ty_7 := i_max (a := 1) (b := r_6.toInt) (by decide) rfl ey_7
          refine lv_iadd hx hb dX10_matchMany_45 ?_
          refine lv_topi (fun y_8 ey_8 => ?_)
          first | have ty_8 := i_add (a := r_3.toInt) (b := y_7.toInt) rfl rfl ey_8 (by omega) (by omega) | skip
          refine lv_istore_n (lv' := [(3, .int y_8), (2, .int y_5), (4, .int r_3), (0, .ref (ad 0)), (1, .int i1)]) hx hb dX10_matchMany_46 rfl hl (by decide) rfl (fun ls hl => ?_)
          refine lv_goto (tgt := 4) hx hb dX10_matchMany_47 (by decide) ?_
          exact ih4 y_5 y_8 (by first | omega | assumption | decide) (by omega) _ _ ls hP hD hS (lv_sub hl [0, 1, 3, 4] rfl)
        · have tk_4 := c_eq (a := r_3.toInt) (b := (-1)) rfl (by decide) k_4
          refine lv_iload_n hx hb dX10_matchMany_27 rfl (lv_at hl 2 rfl) ?_
          exact W.iret hx hb hr (fun t ht hW => ⟨⟨_, _, rfl, rfl, by rw [ht]; exact hP, va_K.moved hW.alike hK, hD⟩, hS.F ht⟩) hS.2.2 dX10_matchMany_28
  have lit_8 : (0 : Int32).toInt = 0 := by decide
  have lit_9 : (0 : Int32).toInt = 0 := by decide
  exact loop4 _ 0 0 (by first | omega | assumption | decide) (Nat.lt_succ_self _) _ _ ls hP hD hS (lv_sub hl [0, 1, 2, 3] rfl)
theorem dX10_allLetters_0 : decode cX10_allLetters 0 = .ok (.iconst 0, 1) := by decide +kernel
theorem dX10_allLetters_1 : decode cX10_allLetters 1 = .ok (.istore_n 1, 1) := by decide +kernel
theorem dX10_allLetters_2 : decode cX10_allLetters 2 = .ok (.iconst 0, 1) := by decide +kernel
theorem dX10_allLetters_3 : decode cX10_allLetters 3 = .ok (.istore_n 2, 1) := by decide +kernel
theorem dX10_allLetters_4 : decode cX10_allLetters 4 = .ok (.iload_n 2, 1) := by decide +kernel
theorem dX10_allLetters_5 : decode cX10_allLetters 5 = .ok (.aload_n 0, 1) := by decide +kernel
theorem dX10_allLetters_6 : decode cX10_allLetters 6 = .ok (.getfield 8, 3) := by decide +kernel
theorem dX10_allLetters_9 : decode cX10_allLetters 9 = .ok (.iconst 0, 1) := by decide +kernel
theorem dX10_allLetters_10 : decode cX10_allLetters 10 = .ok (.iaload, 1) := by decide +kernel
theorem dX10_allLetters_11 : decode cX10_allLetters 11 = .ok (.if_icmp .ge 17, 3) := by decide +kernel
theorem dX10_allLetters_14 : decode cX10_allLetters 14 = .ok (.iload_n 1, 1) := by decide +kernel
theorem dX10_allLetters_15 : decode cX10_allLetters 15 = .ok (.aload_n 0, 1) := by decide +kernel
theorem dX10_allLetters_16 : decode cX10_allLetters 16 = .ok (.iload_n 2, 1) := by decide +kernel
theorem dX10_allLetters_17 : decode cX10_allLetters 17 = .ok (.invokevirtual 396, 3) := by decide +kernel
theorem dX10_allLetters_20 : decode cX10_allLetters 20 = .ok (.iadd, 1) := by decide +kernel
theorem dX10_allLetters_21 : decode cX10_allLetters 21 = .ok (.istore_n 1, 1) := by decide +kernel
theorem dX10_allLetters_22 : decode cX10_allLetters 22 = .ok (.iinc 2 1, 3) := by decide +kernel
theorem dX10_allLetters_25 : decode cX10_allLetters 25 = .ok (.goto (-21), 3) := by decide +kernel
theorem dX10_allLetters_28 : decode cX10_allLetters 28 = .ok (.iload_n 1, 1) := by decide +kernel
theorem dX10_allLetters_29 : decode cX10_allLetters 29 = .ok (.ireturn, 1) := by decide +kernel
def mwX10_allLettersm : List Cond := .code yX10_allLetters cX10_allLetters 3 (some .int) :: (([.fieldLink RX10 8 "PatternGateModel" "all" "[I", .methodLink RX10 396 yX10_sizeOf, .instanceMethod yX10_sizeOf, .selects RX10 yX10_sizeOf yX10_sizeOf, .initialized RX10] : List Cond) ++ (wsX100 ++ (mwX10_sizeOfm)))
theorem fin_X10_allLettersm_X10 : ∀ w ∈ wsX100, w ∈ mwX10_allLettersm := fun w h => List.mem_cons_of_mem _ (List.mem_append_right _ (List.mem_append_left _ h))
set_option maxRecDepth 20000 in
theorem mg_X10_allLettersm_X10_sizeOf_396 : GoodIn mwX10_allLettersm (wsV RX10 396 RX10 yX10_sizeOf mwX10_sizeOfm) := gi_app (A := [.methodLink RX10 396 yX10_sizeOf, .instanceMethod yX10_sizeOf, .selects RX10 yX10_sizeOf yX10_sizeOf, .initialized RX10]) (goodIn_r _ [2, 3, 4, 5] (by decide +kernel) (by decide +kernel)) (gi_sub gd_mwX10_sizeOfm (fun w h => List.mem_cons_of_mem _ (List.mem_append_right _ (List.mem_append_right _ (h)))))
set_option maxHeartbeats 4000000 in
set_option maxRecDepth 100000 in
theorem m_allLetters (l : Launch) (dC : Nat → ClassId) (dI : Nat → Nat → Nat) (ad : Nat → Nat) (kc : Nat → ClassId) (x0 x1 x2 x3 x4 x5 x6 x7 x8 x9 x10 x11 x12 x13 x14 x15 x16 x17 x18 x19 x20 x21 : Int32) (f0 f1 f2 f3 f4 f5 f6 f7 f8 f9 f10 f11 f12 f13 f14 f15 f16 f17 f18 f19 f20 f21 : Nat → Int32) (fL : Nat → Nat → Int64) (fN : Nat → Nat → Int32) (fP : Nat → Nat → Nat) (fM : Nat → Nat → Int32) (fO : Nat → Nat → Int32) (sz : Nat) (q0 : OKd f0 0) : Met l yX10_allLetters mwX10_allLettersm ({ frames := 1, cells := 0, slots := 0, locals := 60 }) (va_Pc [.ref (ad 0)] (fun U => U.heap.size = sz ∧ va_P (dC, dI) vwCl (mW ad kc x0 x1 x2 x3 x4 x5 x6 x7 x8 x9 x10 x11 x12 x13 x14 x15 x16 x17 x18 x19 x20 x21 f0 f1 f2 f3 f4 f5 f6 f7 f8 f9 f10 f11 f12 f13 f14 f15 f16 f17 f18 f19 f20 f21 fL fN fP fM fO) U.heap ∧ va_K (dC, dI) vwCl (mT kc) U ∧ va_D (fun _ => True) (mW ad kc x0 x1 x2 x3 x4 x5 x6 x7 x8 x9 x10 x11 x12 x13 x14 x15 x16 x17 x18 x19 x20 x21 f0 f1 f2 f3 f4 f5 f6 f7 f8 f9 f10 f11 f12 f13 f14 f15 f16 f17 f18 f19 f20 f21 fL fN fP fM fO))) (va_Qi (fun (o9 u9 : Int32) => o9 = u9) (fun (o9 : Int32) t => va_P (dC, dI) vwCl (mW ad kc x0 x1 x2 x3 x4 x5 x6 x7 x8 x9 x10 x11 x12 x13 x14 x15 x16 x17 x18 x19 x20 x21 f0 f1 f2 f3 f4 f5 f6 f7 f8 f9 f10 f11 f12 f13 f14 f15 f16 f17 f18 f19 f20 f21 fL fN fP fM fO) t.heap ∧ va_K (dC, dI) vwCl (mT kc) t ∧ va_D (va_A (mW ad kc x0 x1 x2 x3 x4 x5 x6 x7 x8 x9 x10 x11 x12 x13 x14 x15 x16 x17 x18 x19 x20 x21 f0 f1 f2 f3 f4 f5 f6 f7 f8 f9 f10 f11 f12 f13 f14 f15 f16 f17 f18 f19 f20 f21 fL fN fP fM fO) sz) (mW ad kc x0 x1 x2 x3 x4 x5 x6 x7 x8 x9 x10 x11 x12 x13 x14 x15 x16 x17 x18 x19 x20 x21 f0 f1 f2 f3 f4 f5 f6 f7 f8 f9 f10 f11 f12 f13 f14 f15 f16 f17 f18 f19 f20 f21 fL fN fP fM fO)) (va_A (mW ad kc x0 x1 x2 x3 x4 x5 x6 x7 x8 x9 x10 x11 x12 x13 x14 x15 x16 x17 x18 x19 x20 x21 f0 f1 f2 f3 f4 f5 f6 f7 f8 f9 f10 f11 f12 f13 f14 f15 f16 f17 f18 f19 f20 f21 fL fN fP fM fO) sz)) 0 0 (va_A (mW ad kc x0 x1 x2 x3 x4 x5 x6 x7 x8 x9 x10 x11 x12 x13 x14 x15 x16 x17 x18 x19 x20 x21 f0 f1 f2 f3 f4 f5 f6 f7 f8 f9 f10 f11 f12 f13 f14 f15 f16 f17 f18 f19 f20 f21 fL fN fP fM fO) sz) := by
  refine Met.ofW (cc := cX10_allLetters) (maxL := 3) (ret := (some .int)) (by decide +kernel) rfl ?_
  intro p e s m args below meth c s₁ B hml hv
  obtain ⟨rfl, hsz, hP, hK, hD0⟩ := hv
  have hx := B.exec
  have hb := B.bytes
  have hr := B.returns
  have hts := atoms_spec (ws := mwX10_allLettersm) B.pre
  have hown : s.vm.findClass RX10 = some m.cls := findClass_of_methodNamed B.named
  have hlocks := B.notSynchronized
  subst hsz
  have hD := hD0.self (sz := s.heap.size)
  generalize hAe : va_A (mW ad kc x0 x1 x2 x3 x4 x5 x6 x7 x8 x9 x10 x11 x12 x13 x14 x15 x16 x17 x18 x19 x20 x21 f0 f1 f2 f3 f4 f5 f6 f7 f8 f9 f10 f11 f12 f13 f14 f15 f16 f17 f18 f19 f20 f21 fL fN fP fM fO) s.heap.size = A at hD ⊢
  have hA : ∀ q : Nat, s.heap.size ≤ q → A q := fun q h => by rw [← hAe]; exact Or.inr h
  have hP : va_P (dC, dI) vwCl (mW ad kc x0 x1 x2 x3 x4 x5 x6 x7 x8 x9 x10 x11 x12 x13 x14 x15 x16 x17 x18 x19 x20 x21 f0 f1 f2 f3 f4 f5 f6 f7 f8 f9 f10 f11 f12 f13 f14 f15 f16 f17 f18 f19 f20 f21 fL fN fP fM fO) s.heap := hP
  have hD : va_D A (mW ad kc x0 x1 x2 x3 x4 x5 x6 x7 x8 x9 x10 x11 x12 x13 x14 x15 x16 x17 x18 x19 x20 x21 f0 f1 f2 f3 f4 f5 f6 f7 f8 f9 f10 f11 f12 f13 f14 f15 f16 f17 f18 f19 f20 f21 fL fN fP fM fO) := hD
  have hK : va_K (dC, dI) vwCl (mT kc) s := hK
  generalize hH : s.heap = H at hP ⊢
  have hS : va_S A s.heap H [] := by rw [← hH]; exact va_S.rf
  have hl := lv_entry ([.ref (ad 0)]) (n := 3) (Nat.le_of_ble_eq_true rfl)
  rw [lg_entry_eq]
  generalize (lg_sl ([.ref (ad 0)]) ++ List.replicate (3 - (lg_sl ([.ref (ad 0)])).length) Slot.unset).toArray = ls at hl ⊢
  have hl : lv_has ls 3 [(0, .ref (ad 0))] := hl
  have hd10 := q0.n0
  have hp8 := q0.P0
  refine lv_iconst (v := 0) hx hb dX10_allLetters_0 (by decide) ?_
  refine lv_istore_n (lv' := [(1, .int 0), (0, .ref (ad 0))]) hx hb dX10_allLetters_1 rfl hl (by decide) rfl (fun ls hl => ?_)
  refine lv_iconst (v := 0) hx hb dX10_allLetters_2 (by decide) ?_
  refine lv_istore_n (lv' := [(2, .int 0), (1, .int 0), (0, .ref (ad 0))]) hx hb dX10_allLetters_3 rfl hl (by decide) rfl (fun ls hl => ?_)
  have loop4 : ∀ (lm4 : Nat) (nn kk : Int32), (0 ≤ kk.toInt ∧ kk.toInt ≤ vI f0 0) → ((vI f0 0 - kk.toInt).toNat) < lm4 → ∀ (H : Heap) (locs : List Loc) (ls : Array Slot), va_P (dC, dI) vwCl (mW ad kc x0 x1 x2 x3 x4 x5 x6 x7 x8 x9 x10 x11 x12 x13 x14 x15 x16 x17 x18 x19 x20 x21 f0 f1 f2 f3 f4 f5 f6 f7 f8 f9 f10 f11 f12 f13 f14 f15 f16 f17 f18 f19 f20 f21 fL fN fP fM fO) H → va_D A (mW ad kc x0 x1 x2 x3 x4 x5 x6 x7 x8 x9 x10 x11 x12 x13 x14 x15 x16 x17 x18 x19 x20 x21 f0 f1 f2 f3 f4 f5 f6 f7 f8 f9 f10 f11 f12 f13 f14 f15 f16 f17 f18 f19 f20 f21 fL fN fP fM fO) → va_S A s.heap H locs → lv_has ls 3 [(2, .int kk), (1, .int nn), (0, .ref (ad 0))] → W p l e (headSpec mwX10_allLettersm ({ frames := 1, cells := 0, slots := 0, locals := 60 })).room s m ([.ref (ad 0)]).toArray below meth c H locs 0 0 (MQ below (va_Qi (fun (o9 u9 : Int32) => o9 = u9) (fun (o9 : Int32) t => va_P (dC, dI) vwCl (mW ad kc x0 x1 x2 x3 x4 x5 x6 x7 x8 x9 x10 x11 x12 x13 x14 x15 x16 x17 x18 x19 x20 x21 f0 f1 f2 f3 f4 f5 f6 f7 f8 f9 f10 f11 f12 f13 f14 f15 f16 f17 f18 f19 f20 f21 fL fN fP fM fO) t.heap ∧ va_K (dC, dI) vwCl (mT kc) t ∧ va_D A (mW ad kc x0 x1 x2 x3 x4 x5 x6 x7 x8 x9 x10 x11 x12 x13 x14 x15 x16 x17 x18 x19 x20 x21 f0 f1 f2 f3 f4 f5 f6 f7 f8 f9 f10 f11 f12 f13 f14 f15 f16 f17 f18 f19 f20 f21 fL fN fP fM fO)) A) ([.ref (ad 0)]).toArray s 0 0 A) (F0 m 4 ls []) := by
    intro lm4
    induction lm4 with
    | zero => intro nn kk v4_0 hm4; exact absurd hm4 (Nat.not_lt_zero _)
    | succ lm4 ih4 =>
      intro nn kk v4_0 hm4 H locs ls hP hD hS hl
      have rg_nn := i_rng nn
      have rg_kk := i_rng kk
      refine lv_iload_n hx hb dX10_allLetters_4 rfl (lv_at hl 0 rfl) ?_
      refine lv_aload_n hx hb dX10_allLetters_5 rfl (lv_at hl 2 rfl) ?_
      refine va_get (D := (dC, dI)) (ci := 10) (v := .ref (ad 1)) (C := RX10) (T := TX10) (N := 48) hx hb hts fin_X10_allLettersm_X10 hown hK hP 0 rfl rfl 0 (by decide) (hts (.fieldLink RX10 8 "PatternGateModel" "all" "[I") (List.mem_of_getElem? (i := 1) (by decide +kernel))) (fun _ h9 => h9) rfl dX10_allLetters_6 ?_
      refine lv_iconst (v := 0) hx hb dX10_allLetters_9 (by decide) ?_
      refine va_iald hx hb hK hP 1 0 rfl rfl (i := 0) (by unfold vp_in; decide +kernel) dX10_allLetters_10 ?_
      refine lv_topi (fun y_1 ey_1 => ?_)
      have rg_y_1 := i_rng y_1
      have vy_1 := vI_lda (f := f0) (i := 0) (a := 0) ey_1 (by first | omega | decide)
      have rg_y_1 := i_rng y_1
      refine lv_icmp_ge (tgt := 28) hx hb dX10_allLetters_11 (by decide) (fun k_2 => ?_) (fun k_2 => ?_)
      · have tk_2 := c_ge (a := kk.toInt) (b := y_1.toInt) rfl rfl k_2
        refine lv_iload_n hx hb dX10_allLetters_28 rfl (lv_at hl 1 rfl) ?_
        exact W.iret hx hb hr (fun t ht hW => ⟨⟨_, _, rfl, rfl, by rw [ht]; exact hP, va_K.moved hW.alike hK, hD⟩, hS.F ht⟩) hS.2.2 dX10_allLetters_29
      · have tk_2 := c_nge (a := kk.toInt) (b := y_1.toInt) rfl rfl k_2
        refine lv_iload_n hx hb dX10_allLetters_14 rfl (lv_at hl 1 rfl) ?_
        refine lv_aload_n hx hb dX10_allLetters_15 rfl (lv_at hl 2 rfl) ?_
        refine lv_iload_n hx hb dX10_allLetters_16 rfl (lv_at hl 0 rfl) ?_
        refine vp_callSi (W.runV (As := [.int kk]) (rest := [.int nn]) ⟨hx, hb, hml, hown, hts⟩ (m_sizeOf l dC dI ad kc x0 x1 x2 x3 x4 x5 x6 x7 x8 x9 x10 x11 x12 x13 x14 x15 x16 x17 x18 x19 x20 x21 f0 f1 f2 f3 f4 f5 f6 f7 f8 f9 f10 f11 f12 f13 f14 f15 f16 f17 f18 f19 f20 f21 fL fN fP fM fO kk (by first | omega | assumption | decide | (have l0 := Int32.toInt_zero; omega)) (by first | omega | assumption | decide | (have l0 := Int32.toInt_zero; omega))) (cwV 1 hts mg_X10_allLettersm_X10_sizeOf_396 rfl rfl rfl (by decide +kernel) ⟨Nat.le_of_ble_eq_true rfl, Nat.le_of_ble_eq_true rfl⟩) ⟨fun a U g mk q => by obtain ⟨q0, qP, qK⟩ := q; exact ⟨q0, qP, va_K.moved (u := U) (U := U.calling g mk a) (Vm.Alike.refl U.vm) qK⟩, va_recv hK hP (ci := 10) (q0 := 0) rfl rfl, fun U hU hW => ⟨rfl, by rw [hU]; exact hP, va_K.moved hW.alike hK⟩⟩ rfl rfl hl.1 rfl (lv_room (Nat.le_of_ble_eq_true rfl)) dX10_allLetters_17 ⟨Nat.le_of_ble_eq_true rfl, Nat.le_of_ble_eq_true rfl⟩) (fun r_3 hr_3 => ?_)
        have rg_r_3 := i_rng r_3
        have hlr_3 := OKd.sz q0 (d := kk.toInt) (by omega) (by omega)
        refine lv_iadd hx hb dX10_allLetters_20 ?_
        refine lv_topi (fun y_4 ey_4 => ?_)
        first | have ty_4 := i_add (a := nn.toInt) (b := r_3.toInt) rfl rfl ey_4 (by omega) (by omega) | skip
        refine lv_istore_n (lv' := [(1, .int y_4), (2, .int kk), (0, .ref (ad 0))]) hx hb dX10_allLetters_21 rfl hl (by decide) rfl (fun ls hl => ?_)
        obtain ⟨y_5, ey_5⟩ : ∃ y : Int32, y = kk + 1 := ⟨_, rfl⟩
        first | have ty_5 := i_add (a := kk.toInt) (b := 1) rfl (by decide) ey_5 (by omega) (by omega) | skip
        refine lv_iinc (v := y_5) (lv' := [(2, .int y_5), (1, .int y_4), (0, .ref (ad 0))]) hx hb dX10_allLetters_22 hl (k := 1) rfl (by rw [ey_5]; rfl) (by decide) rfl (fun ls hl => ?_)
        refine lv_goto (tgt := 4) hx hb dX10_allLetters_25 (by decide) ?_
        exact ih4 y_4 y_5 (by first | omega | assumption | decide) (by omega) _ _ ls hP hD hS (lv_sub hl [0, 1, 2] rfl)
  have lit_5 : (0 : Int32).toInt = 0 := by decide
  have lit_6 : (0 : Int32).toInt = 0 := by decide
  exact loop4 _ 0 0 (by first | omega | assumption | decide) (Nat.lt_succ_self _) _ _ ls hP hD hS (lv_sub hl [0, 1, 2] rfl)
theorem dX10_unlike_0 : decode cX10_unlike 0 = .ok (.iconst 0, 1) := by decide +kernel
theorem dX10_unlike_1 : decode cX10_unlike 1 = .ok (.istore_n 3, 1) := by decide +kernel
theorem dX10_unlike_2 : decode cX10_unlike 2 = .ok (.iconst 0, 1) := by decide +kernel
theorem dX10_unlike_3 : decode cX10_unlike 3 = .ok (.istore 4, 2) := by decide +kernel
theorem dX10_unlike_5 : decode cX10_unlike 5 = .ok (.iload 4, 2) := by decide +kernel
theorem dX10_unlike_7 : decode cX10_unlike 7 = .ok (.sipush 17576, 3) := by decide +kernel
theorem dX10_unlike_10 : decode cX10_unlike 10 = .ok (.if_icmp .ge 17, 3) := by decide +kernel
theorem dX10_unlike_13 : decode cX10_unlike 13 = .ok (.aload_n 0, 1) := by decide +kernel
theorem dX10_unlike_14 : decode cX10_unlike 14 = .ok (.getfield 95, 3) := by decide +kernel
theorem dX10_unlike_17 : decode cX10_unlike 17 = .ok (.iload 4, 2) := by decide +kernel
theorem dX10_unlike_19 : decode cX10_unlike 19 = .ok (.iconst 0, 1) := by decide +kernel
theorem dX10_unlike_20 : decode cX10_unlike 20 = .ok (.bastore, 1) := by decide +kernel
theorem dX10_unlike_21 : decode cX10_unlike 21 = .ok (.iinc 4 1, 3) := by decide +kernel
theorem dX10_unlike_24 : decode cX10_unlike 24 = .ok (.goto (-19), 3) := by decide +kernel
theorem dX10_unlike_27 : decode cX10_unlike 27 = .ok (.iload_n 1, 1) := by decide +kernel
theorem dX10_unlike_28 : decode cX10_unlike 28 = .ok (.istore 4, 2) := by decide +kernel
theorem dX10_unlike_30 : decode cX10_unlike 30 = .ok (.iload 4, 2) := by decide +kernel
theorem dX10_unlike_32 : decode cX10_unlike 32 = .ok (.iload_n 2, 1) := by decide +kernel
theorem dX10_unlike_33 : decode cX10_unlike 33 = .ok (.if_icmp .ge 69, 3) := by decide +kernel
theorem dX10_unlike_36 : decode cX10_unlike 36 = .ok (.iconst 0, 1) := by decide +kernel
theorem dX10_unlike_37 : decode cX10_unlike 37 = .ok (.istore 5, 2) := by decide +kernel
theorem dX10_unlike_39 : decode cX10_unlike 39 = .ok (.iload 5, 2) := by decide +kernel
theorem dX10_unlike_41 : decode cX10_unlike 41 = .ok (.iconst 2, 1) := by decide +kernel
theorem dX10_unlike_42 : decode cX10_unlike 42 = .ok (.iadd, 1) := by decide +kernel
theorem dX10_unlike_43 : decode cX10_unlike 43 = .ok (.aload_n 0, 1) := by decide +kernel
theorem dX10_unlike_44 : decode cX10_unlike 44 = .ok (.iload 4, 2) := by decide +kernel
theorem dX10_unlike_46 : decode cX10_unlike 46 = .ok (.invokevirtual 396, 3) := by decide +kernel
theorem dX10_unlike_49 : decode cX10_unlike 49 = .ok (.if_icmp .ge 47, 3) := by decide +kernel
theorem dX10_unlike_52 : decode cX10_unlike 52 = .ok (.iload_n 3, 1) := by decide +kernel
theorem dX10_unlike_53 : decode cX10_unlike 53 = .ok (.aload_n 0, 1) := by decide +kernel
theorem dX10_unlike_54 : decode cX10_unlike 54 = .ok (.getfield 95, 3) := by decide +kernel
theorem dX10_unlike_57 : decode cX10_unlike 57 = .ok (.aload_n 0, 1) := by decide +kernel
theorem dX10_unlike_58 : decode cX10_unlike 58 = .ok (.iload 4, 2) := by decide +kernel
theorem dX10_unlike_60 : decode cX10_unlike 60 = .ok (.iload 5, 2) := by decide +kernel
theorem dX10_unlike_62 : decode cX10_unlike 62 = .ok (.invokevirtual 408, 3) := by decide +kernel
theorem dX10_unlike_65 : decode cX10_unlike 65 = .ok (.baload, 1) := by decide +kernel
theorem dX10_unlike_66 : decode cX10_unlike 66 = .ok (.ifCond .eq 7, 3) := by decide +kernel
theorem dX10_unlike_69 : decode cX10_unlike 69 = .ok (.iconst 0, 1) := by decide +kernel
theorem dX10_unlike_70 : decode cX10_unlike 70 = .ok (.goto 4, 3) := by decide +kernel
theorem dX10_unlike_73 : decode cX10_unlike 73 = .ok (.iconst 1, 1) := by decide +kernel
theorem dX10_unlike_74 : decode cX10_unlike 74 = .ok (.iadd, 1) := by decide +kernel
theorem dX10_unlike_75 : decode cX10_unlike 75 = .ok (.istore_n 3, 1) := by decide +kernel
theorem dX10_unlike_76 : decode cX10_unlike 76 = .ok (.aload_n 0, 1) := by decide +kernel
theorem dX10_unlike_77 : decode cX10_unlike 77 = .ok (.getfield 95, 3) := by decide +kernel
theorem dX10_unlike_80 : decode cX10_unlike 80 = .ok (.aload_n 0, 1) := by decide +kernel
theorem dX10_unlike_81 : decode cX10_unlike 81 = .ok (.iload 4, 2) := by decide +kernel
theorem dX10_unlike_83 : decode cX10_unlike 83 = .ok (.iload 5, 2) := by decide +kernel
theorem dX10_unlike_85 : decode cX10_unlike 85 = .ok (.invokevirtual 408, 3) := by decide +kernel
theorem dX10_unlike_88 : decode cX10_unlike 88 = .ok (.iconst 1, 1) := by decide +kernel
theorem dX10_unlike_89 : decode cX10_unlike 89 = .ok (.bastore, 1) := by decide +kernel
theorem dX10_unlike_90 : decode cX10_unlike 90 = .ok (.iinc 5 1, 3) := by decide +kernel
theorem dX10_unlike_93 : decode cX10_unlike 93 = .ok (.goto (-54), 3) := by decide +kernel
theorem dX10_unlike_96 : decode cX10_unlike 96 = .ok (.iinc 4 1, 3) := by decide +kernel
theorem dX10_unlike_99 : decode cX10_unlike 99 = .ok (.goto (-69), 3) := by decide +kernel
theorem dX10_unlike_102 : decode cX10_unlike 102 = .ok (.iload_n 3, 1) := by decide +kernel
theorem dX10_unlike_103 : decode cX10_unlike 103 = .ok (.ireturn, 1) := by decide +kernel
def mwX10_unlikem : List Cond := .code yX10_unlike cX10_unlike 6 (some .int) :: (([.methodLink RX10 396 yX10_sizeOf, .instanceMethod yX10_sizeOf, .selects RX10 yX10_sizeOf yX10_sizeOf, .initialized RX10, .fieldLink RX10 95 "PatternGateModel" "came" "[Z", .methodLink RX10 408 yX10_tripleAt, .instanceMethod yX10_tripleAt, .selects RX10 yX10_tripleAt yX10_tripleAt] : List Cond) ++ (wsX100 ++ (mwX10_sizeOfm ++ (mwX10_tripleAtm))))
theorem fin_X10_unlikem_X10 : ∀ w ∈ wsX100, w ∈ mwX10_unlikem := fun w h => List.mem_cons_of_mem _ (List.mem_append_right _ (List.mem_append_left _ h))
set_option maxRecDepth 20000 in
theorem mg_X10_unlikem_X10_sizeOf_396 : GoodIn mwX10_unlikem (wsV RX10 396 RX10 yX10_sizeOf mwX10_sizeOfm) := gi_app (A := [.methodLink RX10 396 yX10_sizeOf, .instanceMethod yX10_sizeOf, .selects RX10 yX10_sizeOf yX10_sizeOf, .initialized RX10]) (goodIn_r _ [1, 2, 3, 4] (by decide +kernel) (by decide +kernel)) (gi_sub gd_mwX10_sizeOfm (fun w h => List.mem_cons_of_mem _ (List.mem_append_right _ (List.mem_append_right _ (List.mem_append_left _ h)))))
set_option maxRecDepth 20000 in
theorem mg_X10_unlikem_X10_tripleAt_408 : GoodIn mwX10_unlikem (wsV RX10 408 RX10 yX10_tripleAt mwX10_tripleAtm) := gi_app (A := [.methodLink RX10 408 yX10_tripleAt, .instanceMethod yX10_tripleAt, .selects RX10 yX10_tripleAt yX10_tripleAt, .initialized RX10]) (goodIn_r _ [6, 7, 8, 4] (by decide +kernel) (by decide +kernel)) (gi_sub gd_mwX10_tripleAtm (fun w h => List.mem_cons_of_mem _ (List.mem_append_right _ (List.mem_append_right _ (List.mem_append_right _ (h))))))
set_option maxHeartbeats 4000000 in
set_option maxRecDepth 100000 in
theorem m_unlike (l : Launch) (dC : Nat → ClassId) (dI : Nat → Nat → Nat) (ad : Nat → Nat) (kc : Nat → ClassId) (x0 x1 x2 x3 x4 x5 x6 x7 x8 x9 x10 x11 x12 x13 x14 x15 x16 x17 x18 x19 x20 x21 : Int32) (f0 f1 f2 f3 f4 f5 f6 f7 f8 f9 f10 f11 f12 f13 f14 f15 f16 f17 f18 f19 f20 f21 : Nat → Int32) (fL : Nat → Nat → Int64) (fN : Nat → Nat → Int32) (fP : Nat → Nat → Nat) (fM : Nat → Nat → Int32) (fO : Nat → Nat → Int32) (sz : Nat) (i1 i2 : Int32) (q0 : OKd f0 0) (q1 : 0 ≤ i1.toInt ∧ i1.toInt ≤ 10) (q2 : i2.toInt ≤ vI f0 0) : Met l yX10_unlike mwX10_unlikem ({ frames := 2, cells := 0, slots := 0, locals := 120 }) (va_Pc [.ref (ad 0), .int i1, .int i2] (fun U => U.heap.size = sz ∧ va_P (dC, dI) vwCl (mW ad kc x0 x1 x2 x3 x4 x5 x6 x7 x8 x9 x10 x11 x12 x13 x14 x15 x16 x17 x18 x19 x20 x21 f0 f1 f2 f3 f4 f5 f6 f7 f8 f9 f10 f11 f12 f13 f14 f15 f16 f17 f18 f19 f20 f21 fL fN fP fM fO) U.heap ∧ va_K (dC, dI) vwCl (mT kc) U ∧ va_D (fun _ => True) (mW ad kc x0 x1 x2 x3 x4 x5 x6 x7 x8 x9 x10 x11 x12 x13 x14 x15 x16 x17 x18 x19 x20 x21 f0 f1 f2 f3 f4 f5 f6 f7 f8 f9 f10 f11 f12 f13 f14 f15 f16 f17 f18 f19 f20 f21 fL fN fP fM fO))) (va_Qi (fun (o9 u9 : Int32) => o9 = u9) (fun (o9 : Int32) t => ∃ (g20 : Nat → Int32), va_P (dC, dI) vwCl (mW ad kc x0 x1 x2 x3 x4 x5 x6 x7 x8 x9 x10 x11 x12 x13 x14 x15 x16 x17 x18 x19 x20 x21 f0 f1 f2 f3 f4 f5 f6 f7 f8 f9 f10 f11 f12 f13 f14 f15 f16 f17 f18 f19 g20 f21 fL fN fP fM fO) t.heap ∧ va_K (dC, dI) vwCl (mT kc) t ∧ va_D (va_A (mW ad kc x0 x1 x2 x3 x4 x5 x6 x7 x8 x9 x10 x11 x12 x13 x14 x15 x16 x17 x18 x19 x20 x21 f0 f1 f2 f3 f4 f5 f6 f7 f8 f9 f10 f11 f12 f13 f14 f15 f16 f17 f18 f19 f20 f21 fL fN fP fM fO) sz) (mW ad kc x0 x1 x2 x3 x4 x5 x6 x7 x8 x9 x10 x11 x12 x13 x14 x15 x16 x17 x18 x19 x20 x21 f0 f1 f2 f3 f4 f5 f6 f7 f8 f9 f10 f11 f12 f13 f14 f15 f16 f17 f18 f19 g20 f21 fL fN fP fM fO)) (va_A (mW ad kc x0 x1 x2 x3 x4 x5 x6 x7 x8 x9 x10 x11 x12 x13 x14 x15 x16 x17 x18 x19 x20 x21 f0 f1 f2 f3 f4 f5 f6 f7 f8 f9 f10 f11 f12 f13 f14 f15 f16 f17 f18 f19 f20 f21 fL fN fP fM fO) sz)) 0 0 (va_A (mW ad kc x0 x1 x2 x3 x4 x5 x6 x7 x8 x9 x10 x11 x12 x13 x14 x15 x16 x17 x18 x19 x20 x21 f0 f1 f2 f3 f4 f5 f6 f7 f8 f9 f10 f11 f12 f13 f14 f15 f16 f17 f18 f19 f20 f21 fL fN fP fM fO) sz) := by
  refine Met.ofW (cc := cX10_unlike) (maxL := 6) (ret := (some .int)) (by decide +kernel) rfl ?_
  intro p e s m args below meth c s₁ B hml hv
  obtain ⟨rfl, hsz, hP, hK, hD0⟩ := hv
  have hx := B.exec
  have hb := B.bytes
  have hr := B.returns
  have hts := atoms_spec (ws := mwX10_unlikem) B.pre
  have hown : s.vm.findClass RX10 = some m.cls := findClass_of_methodNamed B.named
  have hlocks := B.notSynchronized
  subst hsz
  have hD := hD0.self (sz := s.heap.size)
  generalize hAe : va_A (mW ad kc x0 x1 x2 x3 x4 x5 x6 x7 x8 x9 x10 x11 x12 x13 x14 x15 x16 x17 x18 x19 x20 x21 f0 f1 f2 f3 f4 f5 f6 f7 f8 f9 f10 f11 f12 f13 f14 f15 f16 f17 f18 f19 f20 f21 fL fN fP fM fO) s.heap.size = A at hD ⊢
  have hA : ∀ q : Nat, s.heap.size ≤ q → A q := fun q h => by rw [← hAe]; exact Or.inr h
  have hP : va_P (dC, dI) vwCl (mW ad kc x0 x1 x2 x3 x4 x5 x6 x7 x8 x9 x10 x11 x12 x13 x14 x15 x16 x17 x18 x19 x20 x21 f0 f1 f2 f3 f4 f5 f6 f7 f8 f9 f10 f11 f12 f13 f14 f15 f16 f17 f18 f19 f20 f21 fL fN fP fM fO) s.heap := hP
  have hD : va_D A (mW ad kc x0 x1 x2 x3 x4 x5 x6 x7 x8 x9 x10 x11 x12 x13 x14 x15 x16 x17 x18 x19 x20 x21 f0 f1 f2 f3 f4 f5 f6 f7 f8 f9 f10 f11 f12 f13 f14 f15 f16 f17 f18 f19 f20 f21 fL fN fP fM fO) := hD
  have hK : va_K (dC, dI) vwCl (mT kc) s := hK
  generalize hH : s.heap = H at hP ⊢
  have hS : va_S A s.heap H [] := by rw [← hH]; exact va_S.rf
  have hl := lv_entry ([.ref (ad 0), .int i1, .int i2]) (n := 6) (Nat.le_of_ble_eq_true rfl)
  rw [lg_entry_eq]
  generalize (lg_sl ([.ref (ad 0), .int i1, .int i2]) ++ List.replicate (6 - (lg_sl ([.ref (ad 0), .int i1, .int i2])).length) Slot.unset).toArray = ls at hl ⊢
  have hl : lv_has ls 6 [(0, .ref (ad 0)), (1, .int i1), (2, .int i2)] := hl
  have rg_i1 := i_rng i1
  have rg_i2 := i_rng i2
  have hd10 := q0.n0
  have hp8 := q0.P0
  refine lv_iconst (v := 0) hx hb dX10_unlike_0 (by decide) ?_
  refine lv_istore_n (lv' := [(3, .int 0), (0, .ref (ad 0)), (1, .int i1), (2, .int i2)]) hx hb dX10_unlike_1 rfl hl (by decide) rfl (fun ls hl => ?_)
  refine lv_iconst (v := 0) hx hb dX10_unlike_2 (by decide) ?_
  refine lv_istore (lv' := [(4, .int 0), (3, .int 0), (0, .ref (ad 0)), (1, .int i1), (2, .int i2)]) hx hb dX10_unlike_3 hl (by decide) rfl (fun ls hl => ?_)
  have loop5 : ∀ (lm5 : Nat) (kk : Int32) (ga : Nat → Int32), (0 ≤ kk.toInt ∧ kk.toInt ≤ 17576) → ((17576 - kk.toInt).toNat) < lm5 → ∀ (H : Heap) (locs : List Loc) (ls : Array Slot), va_P (dC, dI) vwCl (mW ad kc x0 x1 x2 x3 x4 x5 x6 x7 x8 x9 x10 x11 x12 x13 x14 x15 x16 x17 x18 x19 x20 x21 f0 f1 f2 f3 f4 f5 f6 f7 f8 f9 f10 f11 f12 f13 f14 f15 f16 f17 f18 f19 ga f21 fL fN fP fM fO) H → va_D A (mW ad kc x0 x1 x2 x3 x4 x5 x6 x7 x8 x9 x10 x11 x12 x13 x14 x15 x16 x17 x18 x19 x20 x21 f0 f1 f2 f3 f4 f5 f6 f7 f8 f9 f10 f11 f12 f13 f14 f15 f16 f17 f18 f19 ga f21 fL fN fP fM fO) → va_S A s.heap H locs → lv_has ls 6 [(4, .int kk), (3, .int 0), (0, .ref (ad 0)), (1, .int i1), (2, .int i2)] → W p l e (headSpec mwX10_unlikem ({ frames := 2, cells := 0, slots := 0, locals := 120 })).room s m ([.ref (ad 0), .int i1, .int i2]).toArray below meth c H locs 0 0 (MQ below (va_Qi (fun (o9 u9 : Int32) => o9 = u9) (fun (o9 : Int32) t => ∃ (g20 : Nat → Int32), va_P (dC, dI) vwCl (mW ad kc x0 x1 x2 x3 x4 x5 x6 x7 x8 x9 x10 x11 x12 x13 x14 x15 x16 x17 x18 x19 x20 x21 f0 f1 f2 f3 f4 f5 f6 f7 f8 f9 f10 f11 f12 f13 f14 f15 f16 f17 f18 f19 g20 f21 fL fN fP fM fO) t.heap ∧ va_K (dC, dI) vwCl (mT kc) t ∧ va_D A (mW ad kc x0 x1 x2 x3 x4 x5 x6 x7 x8 x9 x10 x11 x12 x13 x14 x15 x16 x17 x18 x19 x20 x21 f0 f1 f2 f3 f4 f5 f6 f7 f8 f9 f10 f11 f12 f13 f14 f15 f16 f17 f18 f19 g20 f21 fL fN fP fM fO)) A) ([.ref (ad 0), .int i1, .int i2]).toArray s 0 0 A) (F0 m 5 ls []) := by
    intro lm5
    induction lm5 with
    | zero => intro kk ga v5_0 hm5; exact absurd hm5 (Nat.not_lt_zero _)
    | succ lm5 ih5 =>
      intro kk ga v5_0 hm5 H locs ls hP hD hS hl
      have rg_kk := i_rng kk
      refine lv_iload hx hb dX10_unlike_5 (lv_at hl 0 rfl) ?_
      refine lv_sipush (v := 17576) hx hb dX10_unlike_7 (by decide) ?_
      refine lv_icmp_ge (tgt := 27) hx hb dX10_unlike_10 (by decide) (fun k_1 => ?_) (fun k_1 => ?_)
      · have tk_1 := c_ge (a := kk.toInt) (b := 17576) rfl (by decide) k_1
        refine lv_iload_n hx hb dX10_unlike_27 rfl (lv_at hl 3 rfl) ?_
        refine lv_istore (lv' := [(4, .int i1), (3, .int 0), (0, .ref (ad 0)), (1, .int i1), (2, .int i2)]) hx hb dX10_unlike_28 hl (by decide) rfl (fun ls hl => ?_)
        have loop30 : ∀ (lm30 : Nat) (nn dd : Int32) (gb : Nat → Int32), (0 ≤ dd.toInt ∧ dd.toInt ≤ 10) → ((10 - dd.toInt).toNat) < lm30 → ∀ (H : Heap) (locs : List Loc) (ls : Array Slot), va_P (dC, dI) vwCl (mW ad kc x0 x1 x2 x3 x4 x5 x6 x7 x8 x9 x10 x11 x12 x13 x14 x15 x16 x17 x18 x19 x20 x21 f0 f1 f2 f3 f4 f5 f6 f7 f8 f9 f10 f11 f12 f13 f14 f15 f16 f17 f18 f19 gb f21 fL fN fP fM fO) H → va_D A (mW ad kc x0 x1 x2 x3 x4 x5 x6 x7 x8 x9 x10 x11 x12 x13 x14 x15 x16 x17 x18 x19 x20 x21 f0 f1 f2 f3 f4 f5 f6 f7 f8 f9 f10 f11 f12 f13 f14 f15 f16 f17 f18 f19 gb f21 fL fN fP fM fO) → va_S A s.heap H locs → lv_has ls 6 [(4, .int dd), (3, .int nn), (0, .ref (ad 0)), (1, .int i1), (2, .int i2)] → W p l e (headSpec mwX10_unlikem ({ frames := 2, cells := 0, slots := 0, locals := 120 })).room s m ([.ref (ad 0), .int i1, .int i2]).toArray below meth c H locs 0 0 (MQ below (va_Qi (fun (o9 u9 : Int32) => o9 = u9) (fun (o9 : Int32) t => ∃ (g20 : Nat → Int32), va_P (dC, dI) vwCl (mW ad kc x0 x1 x2 x3 x4 x5 x6 x7 x8 x9 x10 x11 x12 x13 x14 x15 x16 x17 x18 x19 x20 x21 f0 f1 f2 f3 f4 f5 f6 f7 f8 f9 f10 f11 f12 f13 f14 f15 f16 f17 f18 f19 g20 f21 fL fN fP fM fO) t.heap ∧ va_K (dC, dI) vwCl (mT kc) t ∧ va_D A (mW ad kc x0 x1 x2 x3 x4 x5 x6 x7 x8 x9 x10 x11 x12 x13 x14 x15 x16 x17 x18 x19 x20 x21 f0 f1 f2 f3 f4 f5 f6 f7 f8 f9 f10 f11 f12 f13 f14 f15 f16 f17 f18 f19 g20 f21 fL fN fP fM fO)) A) ([.ref (ad 0), .int i1, .int i2]).toArray s 0 0 A) (F0 m 30 ls []) := by
          intro lm30
          induction lm30 with
          | zero => intro nn dd gb v30_0 hm30; exact absurd hm30 (Nat.not_lt_zero _)
          | succ lm30 ih30 =>
            intro nn dd gb v30_0 hm30 H locs ls hP hD hS hl
            have rg_nn := i_rng nn
            have rg_dd := i_rng dd
            refine lv_iload hx hb dX10_unlike_30 (lv_at hl 0 rfl) ?_
            refine lv_iload_n hx hb dX10_unlike_32 rfl (lv_at hl 4 rfl) ?_
            refine lv_icmp_ge (tgt := 102) hx hb dX10_unlike_33 (by decide) (fun k_2 => ?_) (fun k_2 => ?_)
            · have tk_2 := c_ge (a := dd.toInt) (b := i2.toInt) rfl rfl k_2
              refine lv_iload_n hx hb dX10_unlike_102 rfl (lv_at hl 1 rfl) ?_
              exact W.iret hx hb hr (fun t ht hW => ⟨⟨_, _, rfl, rfl, gb, by rw [ht]; exact hP, va_K.moved hW.alike hK, hD⟩, hS.F ht⟩) hS.2.2 dX10_unlike_103
            · have tk_2 := c_nge (a := dd.toInt) (b := i2.toInt) rfl rfl k_2
              refine lv_iconst (v := 0) hx hb dX10_unlike_36 (by decide) ?_
              refine lv_istore (lv' := [(5, .int 0), (4, .int dd), (3, .int nn), (0, .ref (ad 0)), (1, .int i1), (2, .int i2)]) hx hb dX10_unlike_37 hl (by decide) rfl (fun ls hl => ?_)
              have loop39 : ∀ (lm39 : Nat) (nm k2 : Int32) (gc : Nat → Int32), (0 ≤ k2.toInt ∧ k2.toInt ≤ 60) → ((60 - k2.toInt).toNat) < lm39 → ∀ (H : Heap) (locs : List Loc) (ls : Array Slot), va_P (dC, dI) vwCl (mW ad kc x0 x1 x2 x3 x4 x5 x6 x7 x8 x9 x10 x11 x12 x13 x14 x15 x16 x17 x18 x19 x20 x21 f0 f1 f2 f3 f4 f5 f6 f7 f8 f9 f10 f11 f12 f13 f14 f15 f16 f17 f18 f19 gc f21 fL fN fP fM fO) H → va_D A (mW ad kc x0 x1 x2 x3 x4 x5 x6 x7 x8 x9 x10 x11 x12 x13 x14 x15 x16 x17 x18 x19 x20 x21 f0 f1 f2 f3 f4 f5 f6 f7 f8 f9 f10 f11 f12 f13 f14 f15 f16 f17 f18 f19 gc f21 fL fN fP fM fO) → va_S A s.heap H locs → lv_has ls 6 [(5, .int k2), (4, .int dd), (3, .int nm), (0, .ref (ad 0)), (1, .int i1), (2, .int i2)] → W p l e (headSpec mwX10_unlikem ({ frames := 2, cells := 0, slots := 0, locals := 120 })).room s m ([.ref (ad 0), .int i1, .int i2]).toArray below meth c H locs 0 0 (MQ below (va_Qi (fun (o9 u9 : Int32) => o9 = u9) (fun (o9 : Int32) t => ∃ (g20 : Nat → Int32), va_P (dC, dI) vwCl (mW ad kc x0 x1 x2 x3 x4 x5 x6 x7 x8 x9 x10 x11 x12 x13 x14 x15 x16 x17 x18 x19 x20 x21 f0 f1 f2 f3 f4 f5 f6 f7 f8 f9 f10 f11 f12 f13 f14 f15 f16 f17 f18 f19 g20 f21 fL fN fP fM fO) t.heap ∧ va_K (dC, dI) vwCl (mT kc) t ∧ va_D A (mW ad kc x0 x1 x2 x3 x4 x5 x6 x7 x8 x9 x10 x11 x12 x13 x14 x15 x16 x17 x18 x19 x20 x21 f0 f1 f2 f3 f4 f5 f6 f7 f8 f9 f10 f11 f12 f13 f14 f15 f16 f17 f18 f19 g20 f21 fL fN fP fM fO)) A) ([.ref (ad 0), .int i1, .int i2]).toArray s 0 0 A) (F0 m 39 ls []) := by
                intro lm39
                induction lm39 with
                | zero => intro nm k2 gc v39_0 hm39; exact absurd hm39 (Nat.not_lt_zero _)
                | succ lm39 ih39 =>
                  intro nm k2 gc v39_0 hm39 H locs ls hP hD hS hl
                  have rg_nm := i_rng nm
                  have rg_k2 := i_rng k2
                  refine lv_iload hx hb dX10_unlike_39 (lv_at hl 0 rfl) ?_
                  refine lv_iconst (v := 2) hx hb dX10_unlike_41 (by decide) ?_
                  refine lv_iadd hx hb dX10_unlike_42 ?_
                  refine lv_topi (fun y_3 ey_3 => ?_)
                  first | have ty_3 := i_add (a := k2.toInt) (b := 2) rfl (by decide) ey_3 (by omega) (by omega) | skip
                  refine lv_aload_n hx hb dX10_unlike_43 rfl (lv_at hl 3 rfl) ?_
                  refine lv_iload hx hb dX10_unlike_44 (lv_at hl 1 rfl) ?_
                  refine vp_callSi (W.runV (As := [.int dd]) (rest := [.int y_3]) ⟨hx, hb, hml, hown, hts⟩ (m_sizeOf l dC dI ad kc x0 x1 x2 x3 x4 x5 x6 x7 x8 x9 x10 x11 x12 x13 x14 x15 x16 x17 x18 x19 x20 x21 f0 f1 f2 f3 f4 f5 f6 f7 f8 f9 f10 f11 f12 f13 f14 f15 f16 f17 f18 f19 gc f21 fL fN fP fM fO dd (by first | omega | assumption | decide | (have l0 := Int32.toInt_zero; omega)) (by first | omega | assumption | decide | (have l0 := Int32.toInt_zero; omega))) (cwV 1 hts mg_X10_unlikem_X10_sizeOf_396 rfl rfl rfl (by decide +kernel) ⟨Nat.le_of_ble_eq_true rfl, Nat.le_of_ble_eq_true rfl⟩) ⟨fun a U g mk q => by obtain ⟨q0, qP, qK⟩ := q; exact ⟨q0, qP, va_K.moved (u := U) (U := U.calling g mk a) (Vm.Alike.refl U.vm) qK⟩, va_recv hK hP (ci := 10) (q0 := 0) rfl rfl, fun U hU hW => ⟨rfl, by rw [hU]; exact hP, va_K.moved hW.alike hK⟩⟩ rfl rfl hl.1 rfl (lv_room (Nat.le_of_ble_eq_true rfl)) dX10_unlike_46 ⟨Nat.le_of_ble_eq_true rfl, Nat.le_of_ble_eq_true rfl⟩) (fun r_4 hr_4 => ?_)
                  have rg_r_4 := i_rng r_4
                  have hlr_4 := OKd.sz q0 (d := dd.toInt) (by omega) (by omega)
                  refine lv_icmp_ge (tgt := 96) hx hb dX10_unlike_49 (by decide) (fun k_5 => ?_) (fun k_5 => ?_)
                  · have tk_5 := c_ge (a := y_3.toInt) (b := r_4.toInt) rfl rfl k_5
                    obtain ⟨y_6, ey_6⟩ : ∃ y : Int32, y = dd + 1 := ⟨_, rfl⟩
                    first | have ty_6 := i_add (a := dd.toInt) (b := 1) rfl (by decide) ey_6 (by omega) (by omega) | skip
                    refine lv_iinc (v := y_6) (lv' := [(4, .int y_6), (5, .int k2), (3, .int nm), (0, .ref (ad 0)), (1, .int i1), (2, .int i2)]) hx hb dX10_unlike_96 hl (k := 1) rfl (by rw [ey_6]; rfl) (by decide) rfl (fun ls hl => ?_)
                    refine lv_goto (tgt := 30) hx hb dX10_unlike_99 (by decide) ?_
                    exact ih30 nm y_6 gc (by first | omega | assumption | decide) (by omega) _ _ ls hP hD hS (lv_sub hl [0, 2, 3, 4, 5] rfl)
                  · have tk_5 := c_nge (a := y_3.toInt) (b := r_4.toInt) rfl rfl k_5
                    refine lv_iload_n hx hb dX10_unlike_52 rfl (lv_at hl 2 rfl) ?_
                    refine lv_aload_n hx hb dX10_unlike_53 rfl (lv_at hl 3 rfl) ?_
                    refine va_get (D := (dC, dI)) (ci := 10) (v := .ref (ad 21)) (C := RX10) (T := TX10) (N := 48) hx hb hts fin_X10_unlikem_X10 hown hK hP 0 rfl rfl 45 (by decide) (hts (.fieldLink RX10 95 "PatternGateModel" "came" "[Z") (List.mem_of_getElem? (i := 5) (by decide +kernel))) (fun _ h9 => h9) rfl dX10_unlike_54 ?_
                    refine lv_aload_n hx hb dX10_unlike_57 rfl (lv_at hl 3 rfl) ?_
                    refine lv_iload hx hb dX10_unlike_58 (lv_at hl 1 rfl) ?_
                    refine lv_iload hx hb dX10_unlike_60 (lv_at hl 0 rfl) ?_
                    refine vp_callSi (W.runV (As := [.int dd, .int k2]) (rest := [.ref (ad 21), .int nm]) ⟨hx, hb, hml, hown, hts⟩ (m_tripleAt l dC dI ad kc x0 x1 x2 x3 x4 x5 x6 x7 x8 x9 x10 x11 x12 x13 x14 x15 x16 x17 x18 x19 x20 x21 f0 f1 f2 f3 f4 f5 f6 f7 f8 f9 f10 f11 f12 f13 f14 f15 f16 f17 f18 f19 gc f21 fL fN fP fM fO dd k2 (by first | omega | assumption | decide | (have l0 := Int32.toInt_zero; omega)) (by first | omega | assumption | decide | (have l0 := Int32.toInt_zero; omega)) (by first | omega | assumption | decide | (have l0 := Int32.toInt_zero; omega))) (cwV 2 hts mg_X10_unlikem_X10_tripleAt_408 rfl rfl rfl (by decide +kernel) ⟨Nat.le_of_ble_eq_true rfl, Nat.le_of_ble_eq_true rfl⟩) ⟨fun a U g mk q => by obtain ⟨q0, qP, qK⟩ := q; exact ⟨q0, qP, va_K.moved (u := U) (U := U.calling g mk a) (Vm.Alike.refl U.vm) qK⟩, va_recv hK hP (ci := 10) (q0 := 0) rfl rfl, fun U hU hW => ⟨rfl, by rw [hU]; exact hP, va_K.moved hW.alike hK⟩⟩ rfl rfl hl.1 rfl (lv_room (Nat.le_of_ble_eq_true rfl)) dX10_unlike_62 ⟨Nat.le_of_ble_eq_true rfl, Nat.le_of_ble_eq_true rfl⟩) (fun r_7 hr_7 => ?_)
                    have rg_r_7 := i_rng r_7
                    refine va_zald hx hb hK hP 21 20 rfl rfl (i := r_7) (vp_of (a := r_7.toInt) rfl (by omega) (by omega)) dX10_unlike_65 ?_
                    refine lv_topi (fun y_8 ey_8 => ?_)
                    have rg_y_8 := i_rng y_8
                    refine lv_if_eq (tgt := 73) hx hb dX10_unlike_66 (by decide) (fun k_9 => ?_) (fun k_9 => ?_)
                    · have tk_9 := c_eq (a := y_8.toInt) (b := 0) rfl (by decide) k_9
                      refine lv_iconst (v := 1) hx hb dX10_unlike_73 (by decide) ?_
                      refine lv_iadd hx hb dX10_unlike_74 ?_
                      refine lv_topi (fun y_10 ey_10 => ?_)
                      first | have ty_10 := i_add (a := nm.toInt) (b := 1) rfl (by decide) ey_10 (by omega) (by omega) | skip
                      refine lv_istore_n (lv' := [(3, .int y_10), (5, .int k2), (4, .int dd), (0, .ref (ad 0)), (1, .int i1), (2, .int i2)]) hx hb dX10_unlike_75 rfl hl (by decide) rfl (fun ls hl => ?_)
                      refine lv_aload_n hx hb dX10_unlike_76 rfl (lv_at hl 3 rfl) ?_
                      refine va_get (D := (dC, dI)) (ci := 10) (v := .ref (ad 21)) (C := RX10) (T := TX10) (N := 48) hx hb hts fin_X10_unlikem_X10 hown hK hP 0 rfl rfl 45 (by decide) (hts (.fieldLink RX10 95 "PatternGateModel" "came" "[Z") (List.mem_of_getElem? (i := 5) (by decide +kernel))) (fun _ h9 => h9) rfl dX10_unlike_77 ?_
                      refine lv_aload_n hx hb dX10_unlike_80 rfl (lv_at hl 3 rfl) ?_
                      refine lv_iload hx hb dX10_unlike_81 (lv_at hl 2 rfl) ?_
                      refine lv_iload hx hb dX10_unlike_83 (lv_at hl 1 rfl) ?_
                      refine vp_callSi (W.runV (As := [.int dd, .int k2]) (rest := [.ref (ad 21)]) ⟨hx, hb, hml, hown, hts⟩ (m_tripleAt l dC dI ad kc x0 x1 x2 x3 x4 x5 x6 x7 x8 x9 x10 x11 x12 x13 x14 x15 x16 x17 x18 x19 x20 x21 f0 f1 f2 f3 f4 f5 f6 f7 f8 f9 f10 f11 f12 f13 f14 f15 f16 f17 f18 f19 gc f21 fL fN fP fM fO dd k2 (by first | omega | assumption | decide | (have l0 := Int32.toInt_zero; omega)) (by first | omega | assumption | decide | (have l0 := Int32.toInt_zero; omega)) (by first | omega | assumption | decide | (have l0 := Int32.toInt_zero; omega))) (cwV 2 hts mg_X10_unlikem_X10_tripleAt_408 rfl rfl rfl (by decide +kernel) ⟨Nat.le_of_ble_eq_true rfl, Nat.le_of_ble_eq_true rfl⟩) ⟨fun a U g mk q => by obtain ⟨q0, qP, qK⟩ := q; exact ⟨q0, qP, va_K.moved (u := U) (U := U.calling g mk a) (Vm.Alike.refl U.vm) qK⟩, va_recv hK hP (ci := 10) (q0 := 0) rfl rfl, fun U hU hW => ⟨rfl, by rw [hU]; exact hP, va_K.moved hW.alike hK⟩⟩ rfl rfl hl.1 rfl (lv_room (Nat.le_of_ble_eq_true rfl)) dX10_unlike_85 ⟨Nat.le_of_ble_eq_true rfl, Nat.le_of_ble_eq_true rfl⟩) (fun r_11 hr_11 => ?_)
                      have rg_r_11 := i_rng r_11
                      refine lv_iconst (v := 1) hx hb dX10_unlike_88 (by decide) ?_
                      refine va_zast hx hb hK hP hD hS 21 20 rfl rfl (i := r_11) (vp_of (a := r_11.toInt) rfl (by omega) (by omega)) dX10_unlike_89 (fun H locs hP hD hS => ?_)
                      generalize hf_f_12 : upd gc _ _ = f_12 at hP hD
                      have hP : va_P (dC, dI) vwCl (mW ad kc x0 x1 x2 x3 x4 x5 x6 x7 x8 x9 x10 x11 x12 x13 x14 x15 x16 x17 x18 x19 x20 x21 f0 f1 f2 f3 f4 f5 f6 f7 f8 f9 f10 f11 f12 f13 f14 f15 f16 f17 f18 f19 f_12 f21 fL fN fP fM fO) H := hP
                      have hD : va_D A (mW ad kc x0 x1 x2 x3 x4 x5 x6 x7 x8 x9 x10 x11 x12 x13 x14 x15 x16 x17 x18 x19 x20 x21 f0 f1 f2 f3 f4 f5 f6 f7 f8 f9 f10 f11 f12 f13 f14 f15 f16 f17 f18 f19 f_12 f21 fL fN fP fM fO) := hD
                      obtain ⟨y_13, ey_13⟩ : ∃ y : Int32, y = k2 + 1 := ⟨_, rfl⟩
                      first | have ty_13 := i_add (a := k2.toInt) (b := 1) rfl (by decide) ey_13 (by omega) (by omega) | skip
                      refine lv_iinc (v := y_13) (lv' := [(5, .int y_13), (3, .int y_10), (4, .int dd), (0, .ref (ad 0)), (1, .int i1), (2, .int i2)]) hx hb dX10_unlike_90 hl (k := 1) rfl (by rw [ey_13]; rfl) (by decide) rfl (fun ls hl => ?_)
                      refine lv_goto (tgt := 39) hx hb dX10_unlike_93 (by decide) ?_
                      exact ih39 y_10 y_13 f_12 (by first | omega | assumption | decide) (by omega) _ _ ls hP hD hS (lv_sub hl [0, 2, 1, 3, 4, 5] rfl)
                    · have tk_9 := c_ne (a := y_8.toInt) (b := 0) rfl (by decide) k_9
                      refine lv_iconst (v := 0) hx hb dX10_unlike_69 (by decide) ?_
                      refine lv_goto (tgt := 74) hx hb dX10_unlike_70 (by decide) ?_
                      refine lv_iadd hx hb dX10_unlike_74 ?_
                      refine lv_topi (fun y_14 ey_14 => ?_)
                      first | have ty_14 := i_add (a := nm.toInt) (b := 0) rfl (by decide) ey_14 (by omega) (by omega) | skip
                      refine lv_istore_n (lv' := [(3, .int y_14), (5, .int k2), (4, .int dd), (0, .ref (ad 0)), (1, .int i1), (2, .int i2)]) hx hb dX10_unlike_75 rfl hl (by decide) rfl (fun ls hl => ?_)
                      refine lv_aload_n hx hb dX10_unlike_76 rfl (lv_at hl 3 rfl) ?_
                      refine va_get (D := (dC, dI)) (ci := 10) (v := .ref (ad 21)) (C := RX10) (T := TX10) (N := 48) hx hb hts fin_X10_unlikem_X10 hown hK hP 0 rfl rfl 45 (by decide) (hts (.fieldLink RX10 95 "PatternGateModel" "came" "[Z") (List.mem_of_getElem? (i := 5) (by decide +kernel))) (fun _ h9 => h9) rfl dX10_unlike_77 ?_
                      refine lv_aload_n hx hb dX10_unlike_80 rfl (lv_at hl 3 rfl) ?_
                      refine lv_iload hx hb dX10_unlike_81 (lv_at hl 2 rfl) ?_
                      refine lv_iload hx hb dX10_unlike_83 (lv_at hl 1 rfl) ?_
                      refine vp_callSi (W.runV (As := [.int dd, .int k2]) (rest := [.ref (ad 21)]) ⟨hx, hb, hml, hown, hts⟩ (m_tripleAt l dC dI ad kc x0 x1 x2 x3 x4 x5 x6 x7 x8 x9 x10 x11 x12 x13 x14 x15 x16 x17 x18 x19 x20 x21 f0 f1 f2 f3 f4 f5 f6 f7 f8 f9 f10 f11 f12 f13 f14 f15 f16 f17 f18 f19 gc f21 fL fN fP fM fO dd k2 (by first | omega | assumption | decide | (have l0 := Int32.toInt_zero; omega)) (by first | omega | assumption | decide | (have l0 := Int32.toInt_zero; omega)) (by first | omega | assumption | decide | (have l0 := Int32.toInt_zero; omega))) (cwV 2 hts mg_X10_unlikem_X10_tripleAt_408 rfl rfl rfl (by decide +kernel) ⟨Nat.le_of_ble_eq_true rfl, Nat.le_of_ble_eq_true rfl⟩) ⟨fun a U g mk q => by obtain ⟨q0, qP, qK⟩ := q; exact ⟨q0, qP, va_K.moved (u := U) (U := U.calling g mk a) (Vm.Alike.refl U.vm) qK⟩, va_recv hK hP (ci := 10) (q0 := 0) rfl rfl, fun U hU hW => ⟨rfl, by rw [hU]; exact hP, va_K.moved hW.alike hK⟩⟩ rfl rfl hl.1 rfl (lv_room (Nat.le_of_ble_eq_true rfl)) dX10_unlike_85 ⟨Nat.le_of_ble_eq_true rfl, Nat.le_of_ble_eq_true rfl⟩) (fun r_15 hr_15 => ?_)
                      have rg_r_15 := i_rng r_15
                      refine lv_iconst (v := 1) hx hb dX10_unlike_88 (by decide) ?_
                      refine va_zast hx hb hK hP hD hS 21 20 rfl rfl (i := r_15) (vp_of (a := r_15.toInt) rfl (by omega) (by omega)) dX10_unlike_89 (fun H locs hP hD hS => ?_)
                      generalize hf_f_16 : upd gc _ _ = f_16 at hP hD
                      have hP : va_P (dC, dI) vwCl (mW ad kc x0 x1 x2 x3 x4 x5 x6 x7 x8 x9 x10 x11 x12 x13 x14 x15 x16 x17 x18 x19 x20 x21 f0 f1 f2 f3 f4 f5 f6 f7 f8 f9 f10 f11 f12 f13 f14 f15 f16 f17 f18 f19 f_16 f21 fL fN fP fM fO) H := hP
                      have hD : va_D A (mW ad kc x0 x1 x2 x3 x4 x5 x6 x7 x8 x9 x10 x11 x12 x13 x14 x15 x16 x17 x18 x19 x20 x21 f0 f1 f2 f3 f4 f5 f6 f7 f8 f9 f10 f11 f12 f13 f14 f15 f16 f17 f18 f19 f_16 f21 fL fN fP fM fO) := hD
                      obtain ⟨y_17, ey_17⟩ : ∃ y : Int32, y = k2 + 1 := ⟨_, rfl⟩
                      first | have ty_17 := i_add (a := k2.toInt) (b := 1) rfl (by decide) ey_17 (by omega) (by omega) | skip
                      refine lv_iinc (v := y_17) (lv' := [(5, .int y_17), (3, .int y_14), (4, .int dd), (0, .ref (ad 0)), (1, .int i1), (2, .int i2)]) hx hb dX10_unlike_90 hl (k := 1) rfl (by rw [ey_17]; rfl) (by decide) rfl (fun ls hl => ?_)
                      refine lv_goto (tgt := 39) hx hb dX10_unlike_93 (by decide) ?_
                      exact ih39 y_14 y_17 f_16 (by first | omega | assumption | decide) (by omega) _ _ ls hP hD hS (lv_sub hl [0, 2, 1, 3, 4, 5] rfl)
              have lit_17 : (0 : Int32).toInt = 0 := by decide
              exact loop39 _ nn 0 gb (by first | omega | assumption | decide) (Nat.lt_succ_self _) _ _ ls hP hD hS (lv_sub hl [0, 1, 2, 3, 4, 5] rfl)
        have lit_18 : (0 : Int32).toInt = 0 := by decide
        exact loop30 _ 0 i1 ga (by first | omega | assumption | decide) (Nat.lt_succ_self _) _ _ ls hP hD hS (lv_sub hl [0, 1, 2, 3, 4] rfl)
      · have tk_1 := c_nge (a := kk.toInt) (b := 17576) rfl (by decide) k_1
        refine lv_aload_n hx hb dX10_unlike_13 rfl (lv_at hl 2 rfl) ?_
        refine va_get (D := (dC, dI)) (ci := 10) (v := .ref (ad 21)) (C := RX10) (T := TX10) (N := 48) hx hb hts fin_X10_unlikem_X10 hown hK hP 0 rfl rfl 45 (by decide) (hts (.fieldLink RX10 95 "PatternGateModel" "came" "[Z") (List.mem_of_getElem? (i := 5) (by decide +kernel))) (fun _ h9 => h9) rfl dX10_unlike_14 ?_
        refine lv_iload hx hb dX10_unlike_17 (lv_at hl 0 rfl) ?_
        refine lv_iconst (v := 0) hx hb dX10_unlike_19 (by decide) ?_
        refine va_zast hx hb hK hP hD hS 21 20 rfl rfl (i := kk) (vp_of (a := kk.toInt) rfl (by omega) (by omega)) dX10_unlike_20 (fun H locs hP hD hS => ?_)
        generalize hf_f_20 : upd ga _ _ = f_20 at hP hD
        have hP : va_P (dC, dI) vwCl (mW ad kc x0 x1 x2 x3 x4 x5 x6 x7 x8 x9 x10 x11 x12 x13 x14 x15 x16 x17 x18 x19 x20 x21 f0 f1 f2 f3 f4 f5 f6 f7 f8 f9 f10 f11 f12 f13 f14 f15 f16 f17 f18 f19 f_20 f21 fL fN fP fM fO) H := hP
        have hD : va_D A (mW ad kc x0 x1 x2 x3 x4 x5 x6 x7 x8 x9 x10 x11 x12 x13 x14 x15 x16 x17 x18 x19 x20 x21 f0 f1 f2 f3 f4 f5 f6 f7 f8 f9 f10 f11 f12 f13 f14 f15 f16 f17 f18 f19 f_20 f21 fL fN fP fM fO) := hD
        obtain ⟨y_21, ey_21⟩ : ∃ y : Int32, y = kk + 1 := ⟨_, rfl⟩
        first | have ty_21 := i_add (a := kk.toInt) (b := 1) rfl (by decide) ey_21 (by omega) (by omega) | skip
        refine lv_iinc (v := y_21) (lv' := [(4, .int y_21), (3, .int 0), (0, .ref (ad 0)), (1, .int i1), (2, .int i2)]) hx hb dX10_unlike_21 hl (k := 0) rfl (by rw [ey_21]; rfl) (by decide) rfl (fun ls hl => ?_)
        refine lv_goto (tgt := 5) hx hb dX10_unlike_24 (by decide) ?_
        exact ih5 y_21 f_20 (by first | omega | assumption | decide) (by omega) _ _ ls hP hD hS (lv_sub hl [0, 1, 2, 3, 4] rfl)
  have lit_21 : (0 : Int32).toInt = 0 := by decide
  exact loop5 _ 0 f20 (by first | omega | assumption | decide) (Nat.lt_succ_self _) _ _ ls hP hD hS (lv_sub hl [0, 1, 2, 3, 4] rfl)
theorem dX10_candidatesOf_0 : decode cX10_candidatesOf 0 = .ok (.aload_n 1, 1) := by decide +kernel
theorem dX10_candidatesOf_1 : decode cX10_candidatesOf 1 = .ok (.iconst 0, 1) := by decide +kernel
theorem dX10_candidatesOf_2 : decode cX10_candidatesOf 2 = .ok (.iaload, 1) := by decide +kernel
theorem dX10_candidatesOf_3 : decode cX10_candidatesOf 3 = .ok (.ifCond .ne 14, 3) := by decide +kernel
theorem dX10_candidatesOf_6 : decode cX10_candidatesOf 6 = .ok (.iconst 1, 1) := by decide +kernel
theorem dX10_candidatesOf_7 : decode cX10_candidatesOf 7 = .ok (.aload_n 0, 1) := by decide +kernel
theorem dX10_candidatesOf_8 : decode cX10_candidatesOf 8 = .ok (.getfield 8, 3) := by decide +kernel
theorem dX10_candidatesOf_11 : decode cX10_candidatesOf 11 = .ok (.iconst 0, 1) := by decide +kernel
theorem dX10_candidatesOf_12 : decode cX10_candidatesOf 12 = .ok (.iaload, 1) := by decide +kernel
theorem dX10_candidatesOf_13 : decode cX10_candidatesOf 13 = .ok (.ishl, 1) := by decide +kernel
theorem dX10_candidatesOf_14 : decode cX10_candidatesOf 14 = .ok (.iconst 1, 1) := by decide +kernel
theorem dX10_candidatesOf_15 : decode cX10_candidatesOf 15 = .ok (.isub, 1) := by decide +kernel
theorem dX10_candidatesOf_16 : decode cX10_candidatesOf 16 = .ok (.ireturn, 1) := by decide +kernel
theorem dX10_candidatesOf_17 : decode cX10_candidatesOf 17 = .ok (.iconst 0, 1) := by decide +kernel
theorem dX10_candidatesOf_18 : decode cX10_candidatesOf 18 = .ok (.istore_n 2, 1) := by decide +kernel
theorem dX10_candidatesOf_19 : decode cX10_candidatesOf 19 = .ok (.iload_n 2, 1) := by decide +kernel
theorem dX10_candidatesOf_20 : decode cX10_candidatesOf 20 = .ok (.aload_n 1, 1) := by decide +kernel
theorem dX10_candidatesOf_21 : decode cX10_candidatesOf 21 = .ok (.iconst 0, 1) := by decide +kernel
theorem dX10_candidatesOf_22 : decode cX10_candidatesOf 22 = .ok (.iaload, 1) := by decide +kernel
theorem dX10_candidatesOf_23 : decode cX10_candidatesOf 23 = .ok (.if_icmp .ge 24, 3) := by decide +kernel
theorem dX10_candidatesOf_26 : decode cX10_candidatesOf 26 = .ok (.aload_n 0, 1) := by decide +kernel
theorem dX10_candidatesOf_27 : decode cX10_candidatesOf 27 = .ok (.getfield 92, 3) := by decide +kernel
theorem dX10_candidatesOf_30 : decode cX10_candidatesOf 30 = .ok (.iload_n 2, 1) := by decide +kernel
theorem dX10_candidatesOf_31 : decode cX10_candidatesOf 31 = .ok (.aload_n 0, 1) := by decide +kernel
theorem dX10_candidatesOf_32 : decode cX10_candidatesOf 32 = .ok (.aload_n 1, 1) := by decide +kernel
theorem dX10_candidatesOf_33 : decode cX10_candidatesOf 33 = .ok (.iload_n 2, 1) := by decide +kernel
theorem dX10_candidatesOf_34 : decode cX10_candidatesOf 34 = .ok (.iconst 1, 1) := by decide +kernel
theorem dX10_candidatesOf_35 : decode cX10_candidatesOf 35 = .ok (.iadd, 1) := by decide +kernel
theorem dX10_candidatesOf_36 : decode cX10_candidatesOf 36 = .ok (.iaload, 1) := by decide +kernel
theorem dX10_candidatesOf_37 : decode cX10_candidatesOf 37 = .ok (.invokevirtual 414, 3) := by decide +kernel
theorem dX10_candidatesOf_40 : decode cX10_candidatesOf 40 = .ok (.iastore, 1) := by decide +kernel
theorem dX10_candidatesOf_41 : decode cX10_candidatesOf 41 = .ok (.iinc 2 1, 3) := by decide +kernel
theorem dX10_candidatesOf_44 : decode cX10_candidatesOf 44 = .ok (.goto (-25), 3) := by decide +kernel
theorem dX10_candidatesOf_47 : decode cX10_candidatesOf 47 = .ok (.iconst 0, 1) := by decide +kernel
theorem dX10_candidatesOf_48 : decode cX10_candidatesOf 48 = .ok (.istore_n 2, 1) := by decide +kernel
theorem dX10_candidatesOf_49 : decode cX10_candidatesOf 49 = .ok (.iconst 0, 1) := by decide +kernel
theorem dX10_candidatesOf_50 : decode cX10_candidatesOf 50 = .ok (.istore_n 3, 1) := by decide +kernel
theorem dX10_candidatesOf_51 : decode cX10_candidatesOf 51 = .ok (.iconst 0, 1) := by decide +kernel
theorem dX10_candidatesOf_52 : decode cX10_candidatesOf 52 = .ok (.istore 4, 2) := by decide +kernel
theorem dX10_candidatesOf_54 : decode cX10_candidatesOf 54 = .ok (.iconst 0, 1) := by decide +kernel
theorem dX10_candidatesOf_55 : decode cX10_candidatesOf 55 = .ok (.istore 5, 2) := by decide +kernel
theorem dX10_candidatesOf_57 : decode cX10_candidatesOf 57 = .ok (.aload_n 0, 1) := by decide +kernel
theorem dX10_candidatesOf_58 : decode cX10_candidatesOf 58 = .ok (.dup, 1) := by decide +kernel
theorem dX10_candidatesOf_59 : decode cX10_candidatesOf 59 = .ok (.getfield 417, 3) := by decide +kernel
theorem dX10_candidatesOf_62 : decode cX10_candidatesOf 62 = .ok (.iconst 1, 1) := by decide +kernel
theorem dX10_candidatesOf_63 : decode cX10_candidatesOf 63 = .ok (.iadd, 1) := by decide +kernel
theorem dX10_candidatesOf_64 : decode cX10_candidatesOf 64 = .ok (.putfield 417, 3) := by decide +kernel
theorem dX10_candidatesOf_67 : decode cX10_candidatesOf 67 = .ok (.iload_n 3, 1) := by decide +kernel
theorem dX10_candidatesOf_68 : decode cX10_candidatesOf 68 = .ok (.istore 6, 2) := by decide +kernel
theorem dX10_candidatesOf_70 : decode cX10_candidatesOf 70 = .ok (.iload 6, 2) := by decide +kernel
theorem dX10_candidatesOf_72 : decode cX10_candidatesOf 72 = .ok (.aload_n 0, 1) := by decide +kernel
theorem dX10_candidatesOf_73 : decode cX10_candidatesOf 73 = .ok (.getfield 8, 3) := by decide +kernel
theorem dX10_candidatesOf_76 : decode cX10_candidatesOf 76 = .ok (.iconst 0, 1) := by decide +kernel
theorem dX10_candidatesOf_77 : decode cX10_candidatesOf 77 = .ok (.iaload, 1) := by decide +kernel
theorem dX10_candidatesOf_78 : decode cX10_candidatesOf 78 = .ok (.if_icmp .ge 24, 3) := by decide +kernel
theorem dX10_candidatesOf_81 : decode cX10_candidatesOf 81 = .ok (.aload_n 0, 1) := by decide +kernel
theorem dX10_candidatesOf_82 : decode cX10_candidatesOf 82 = .ok (.getfield 92, 3) := by decide +kernel
theorem dX10_candidatesOf_85 : decode cX10_candidatesOf 85 = .ok (.iload 5, 2) := by decide +kernel
theorem dX10_candidatesOf_87 : decode cX10_candidatesOf 87 = .ok (.iaload, 1) := by decide +kernel
theorem dX10_candidatesOf_88 : decode cX10_candidatesOf 88 = .ok (.iload 6, 2) := by decide +kernel
theorem dX10_candidatesOf_90 : decode cX10_candidatesOf 90 = .ok (.invokestatic 170, 3) := by decide +kernel
theorem dX10_candidatesOf_93 : decode cX10_candidatesOf 93 = .ok (.ifCond .ne 9, 3) := by decide +kernel
theorem dX10_candidatesOf_96 : decode cX10_candidatesOf 96 = .ok (.iinc 6 1, 3) := by decide +kernel
theorem dX10_candidatesOf_99 : decode cX10_candidatesOf 99 = .ok (.goto (-29), 3) := by decide +kernel
theorem dX10_candidatesOf_102 : decode cX10_candidatesOf 102 = .ok (.iload 6, 2) := by decide +kernel
theorem dX10_candidatesOf_104 : decode cX10_candidatesOf 104 = .ok (.aload_n 0, 1) := by decide +kernel
theorem dX10_candidatesOf_105 : decode cX10_candidatesOf 105 = .ok (.getfield 8, 3) := by decide +kernel
theorem dX10_candidatesOf_108 : decode cX10_candidatesOf 108 = .ok (.iconst 0, 1) := by decide +kernel
theorem dX10_candidatesOf_109 : decode cX10_candidatesOf 109 = .ok (.iaload, 1) := by decide +kernel
theorem dX10_candidatesOf_110 : decode cX10_candidatesOf 110 = .ok (.if_icmp .lt 5, 3) := by decide +kernel
theorem dX10_candidatesOf_113 : decode cX10_candidatesOf 113 = .ok (.iload_n 2, 1) := by decide +kernel
theorem dX10_candidatesOf_114 : decode cX10_candidatesOf 114 = .ok (.ireturn, 1) := by decide +kernel
theorem dX10_candidatesOf_115 : decode cX10_candidatesOf 115 = .ok (.iload 6, 2) := by decide +kernel
theorem dX10_candidatesOf_117 : decode cX10_candidatesOf 117 = .ok (.iload_n 3, 1) := by decide +kernel
theorem dX10_candidatesOf_118 : decode cX10_candidatesOf 118 = .ok (.if_icmp .le 7, 3) := by decide +kernel
theorem dX10_candidatesOf_121 : decode cX10_candidatesOf 121 = .ok (.iconst 1, 1) := by decide +kernel
theorem dX10_candidatesOf_122 : decode cX10_candidatesOf 122 = .ok (.goto 7, 3) := by decide +kernel
theorem dX10_candidatesOf_125 : decode cX10_candidatesOf 125 = .ok (.iload 4, 2) := by decide +kernel
theorem dX10_candidatesOf_127 : decode cX10_candidatesOf 127 = .ok (.iconst 1, 1) := by decide +kernel
theorem dX10_candidatesOf_128 : decode cX10_candidatesOf 128 = .ok (.iadd, 1) := by decide +kernel
theorem dX10_candidatesOf_129 : decode cX10_candidatesOf 129 = .ok (.istore 4, 2) := by decide +kernel
theorem dX10_candidatesOf_131 : decode cX10_candidatesOf 131 = .ok (.iload 6, 2) := by decide +kernel
theorem dX10_candidatesOf_133 : decode cX10_candidatesOf 133 = .ok (.istore_n 3, 1) := by decide +kernel
theorem dX10_candidatesOf_134 : decode cX10_candidatesOf 134 = .ok (.iload 4, 2) := by decide +kernel
theorem dX10_candidatesOf_136 : decode cX10_candidatesOf 136 = .ok (.aload_n 1, 1) := by decide +kernel
theorem dX10_candidatesOf_137 : decode cX10_candidatesOf 137 = .ok (.iconst 0, 1) := by decide +kernel
theorem dX10_candidatesOf_138 : decode cX10_candidatesOf 138 = .ok (.iaload, 1) := by decide +kernel
theorem dX10_candidatesOf_139 : decode cX10_candidatesOf 139 = .ok (.if_icmp .ge 6, 3) := by decide +kernel
theorem dX10_candidatesOf_142 : decode cX10_candidatesOf 142 = .ok (.goto 15, 3) := by decide +kernel
theorem dX10_candidatesOf_145 : decode cX10_candidatesOf 145 = .ok (.iload_n 2, 1) := by decide +kernel
theorem dX10_candidatesOf_146 : decode cX10_candidatesOf 146 = .ok (.iconst 1, 1) := by decide +kernel
theorem dX10_candidatesOf_147 : decode cX10_candidatesOf 147 = .ok (.iload_n 3, 1) := by decide +kernel
theorem dX10_candidatesOf_148 : decode cX10_candidatesOf 148 = .ok (.ishl, 1) := by decide +kernel
theorem dX10_candidatesOf_149 : decode cX10_candidatesOf 149 = .ok (.ior, 1) := by decide +kernel
theorem dX10_candidatesOf_150 : decode cX10_candidatesOf 150 = .ok (.istore_n 2, 1) := by decide +kernel
theorem dX10_candidatesOf_151 : decode cX10_candidatesOf 151 = .ok (.iinc 3 1, 3) := by decide +kernel
theorem dX10_candidatesOf_154 : decode cX10_candidatesOf 154 = .ok (.iconst 0, 1) := by decide +kernel
theorem dX10_candidatesOf_155 : decode cX10_candidatesOf 155 = .ok (.istore 4, 2) := by decide +kernel
theorem dX10_candidatesOf_157 : decode cX10_candidatesOf 157 = .ok (.iload 5, 2) := by decide +kernel
theorem dX10_candidatesOf_159 : decode cX10_candidatesOf 159 = .ok (.iconst 1, 1) := by decide +kernel
theorem dX10_candidatesOf_160 : decode cX10_candidatesOf 160 = .ok (.iadd, 1) := by decide +kernel
theorem dX10_candidatesOf_161 : decode cX10_candidatesOf 161 = .ok (.aload_n 1, 1) := by decide +kernel
theorem dX10_candidatesOf_162 : decode cX10_candidatesOf 162 = .ok (.iconst 0, 1) := by decide +kernel
theorem dX10_candidatesOf_163 : decode cX10_candidatesOf 163 = .ok (.iaload, 1) := by decide +kernel
theorem dX10_candidatesOf_164 : decode cX10_candidatesOf 164 = .ok (.irem, 1) := by decide +kernel
theorem dX10_candidatesOf_165 : decode cX10_candidatesOf 165 = .ok (.istore 5, 2) := by decide +kernel
theorem dX10_candidatesOf_167 : decode cX10_candidatesOf 167 = .ok (.goto (-110), 3) := by decide +kernel
def mwX10_candidatesOfm : List Cond := .code yX10_candidatesOf cX10_candidatesOf 7 (some .int) :: (([.fieldLink RX10 417 "PatternGateModel" "leaps" "I", .fieldLink RX10 8 "PatternGateModel" "all" "[I", .fieldLink RX10 92 "PatternGateModel" "lists" "[I", .methodLink RX10 170 yX10_has, .static yX10_has, .initialized RX10, .methodLink RX10 414 yX10_listOf, .instanceMethod yX10_listOf, .selects RX10 yX10_listOf yX10_listOf] : List Cond) ++ (wsX100 ++ (mwX10_hasm ++ (mwX10_listOfm))))
theorem fin_X10_candidatesOfm_X10 : ∀ w ∈ wsX100, w ∈ mwX10_candidatesOfm := fun w h => List.mem_cons_of_mem _ (List.mem_append_right _ (List.mem_append_left _ h))
set_option maxRecDepth 100000 in
theorem gd_mwX10_listOfm : mwX10_listOfm.all goodWord = true := by decide +kernel
set_option maxRecDepth 20000 in
theorem mg_X10_candidatesOfm_X10_has_170 : GoodIn mwX10_candidatesOfm (va_wsS RX10 170 yX10_has mwX10_hasm) := gi_app (A := [.methodLink RX10 170 yX10_has, .static yX10_has, .initialized RX10]) (goodIn_r _ [4, 5, 6] (by decide +kernel) (by decide +kernel)) (gi_sub gd_mwX10_hasm (fun w h => List.mem_cons_of_mem _ (List.mem_append_right _ (List.mem_append_right _ (List.mem_append_left _ h)))))
set_option maxRecDepth 20000 in
theorem mg_X10_candidatesOfm_X10_listOf_414 : GoodIn mwX10_candidatesOfm (wsV RX10 414 RX10 yX10_listOf mwX10_listOfm) := gi_app (A := [.methodLink RX10 414 yX10_listOf, .instanceMethod yX10_listOf, .selects RX10 yX10_listOf yX10_listOf, .initialized RX10]) (goodIn_r _ [7, 8, 9, 6] (by decide +kernel) (by decide +kernel)) (gi_sub gd_mwX10_listOfm (fun w h => List.mem_cons_of_mem _ (List.mem_append_right _ (List.mem_append_right _ (List.mem_append_right _ (h))))))
set_option maxHeartbeats 4000000 in
set_option maxRecDepth 100000 in
theorem m_candidatesOf (l : Launch) (dC : Nat → ClassId) (dI : Nat → Nat → Nat) (ad : Nat → Nat) (kc : Nat → ClassId) (x0 x1 x2 x3 x4 x5 x6 x7 x8 x9 x10 x11 x12 x13 x14 x15 x16 x17 x18 x19 x20 x21 : Int32) (f0 f1 f2 f3 f4 f5 f6 f7 f8 f9 f10 f11 f12 f13 f14 f15 f16 f17 f18 f19 f20 f21 : Nat → Int32) (fL : Nat → Nat → Int64) (fN : Nat → Nat → Int32) (fP : Nat → Nat → Nat) (fM : Nat → Nat → Int32) (fO : Nat → Nat → Int32) (sz : Nat) (a1 : Nat) (q0 : OKd f0 0) (q1 : IR a1) (q2 : 0 ≤ vI ((rO fN fM fO) a1) 0 ∧ vI ((rO fN fM fO) a1) 0 ≤ 100) : Met l yX10_candidatesOf mwX10_candidatesOfm ({ frames := 4, cells := 0, slots := 0, locals := 240 }) (va_Pc [.ref (ad 0), .ref (ad a1)] (fun U => U.heap.size = sz ∧ va_P (dC, dI) vwCl (mW ad kc x0 x1 x2 x3 x4 x5 x6 x7 x8 x9 x10 x11 x12 x13 x14 x15 x16 x17 x18 x19 x20 x21 f0 f1 f2 f3 f4 f5 f6 f7 f8 f9 f10 f11 f12 f13 f14 f15 f16 f17 f18 f19 f20 f21 fL fN fP fM fO) U.heap ∧ va_K (dC, dI) vwCl (mT kc) U ∧ va_D (fun _ => True) (mW ad kc x0 x1 x2 x3 x4 x5 x6 x7 x8 x9 x10 x11 x12 x13 x14 x15 x16 x17 x18 x19 x20 x21 f0 f1 f2 f3 f4 f5 f6 f7 f8 f9 f10 f11 f12 f13 f14 f15 f16 f17 f18 f19 f20 f21 fL fN fP fM fO))) (va_Qi (fun (o9 u9 : Int32) => o9 = u9) (fun (o9 : Int32) t => ∃ (y21 : Int32) (g19 : Nat → Int32), va_P (dC, dI) vwCl (mW ad kc x0 x1 x2 x3 x4 x5 x6 x7 x8 x9 x10 x11 x12 x13 x14 x15 x16 x17 x18 x19 x20 y21 f0 f1 f2 f3 f4 f5 f6 f7 f8 f9 f10 f11 f12 f13 f14 f15 f16 f17 f18 g19 f20 f21 fL fN fP fM fO) t.heap ∧ va_K (dC, dI) vwCl (mT kc) t ∧ va_D (va_A (mW ad kc x0 x1 x2 x3 x4 x5 x6 x7 x8 x9 x10 x11 x12 x13 x14 x15 x16 x17 x18 x19 x20 x21 f0 f1 f2 f3 f4 f5 f6 f7 f8 f9 f10 f11 f12 f13 f14 f15 f16 f17 f18 f19 f20 f21 fL fN fP fM fO) sz) (mW ad kc x0 x1 x2 x3 x4 x5 x6 x7 x8 x9 x10 x11 x12 x13 x14 x15 x16 x17 x18 x19 x20 y21 f0 f1 f2 f3 f4 f5 f6 f7 f8 f9 f10 f11 f12 f13 f14 f15 f16 f17 f18 g19 f20 f21 fL fN fP fM fO)) (va_A (mW ad kc x0 x1 x2 x3 x4 x5 x6 x7 x8 x9 x10 x11 x12 x13 x14 x15 x16 x17 x18 x19 x20 x21 f0 f1 f2 f3 f4 f5 f6 f7 f8 f9 f10 f11 f12 f13 f14 f15 f16 f17 f18 f19 f20 f21 fL fN fP fM fO) sz)) 0 0 (va_A (mW ad kc x0 x1 x2 x3 x4 x5 x6 x7 x8 x9 x10 x11 x12 x13 x14 x15 x16 x17 x18 x19 x20 x21 f0 f1 f2 f3 f4 f5 f6 f7 f8 f9 f10 f11 f12 f13 f14 f15 f16 f17 f18 f19 f20 f21 fL fN fP fM fO) sz) := by
  refine Met.ofW (cc := cX10_candidatesOf) (maxL := 7) (ret := (some .int)) (by decide +kernel) rfl ?_
  intro p e s m args below meth c s₁ B hml hv
  obtain ⟨rfl, hsz, hP, hK, hD0⟩ := hv
  have hx := B.exec
  have hb := B.bytes
  have hr := B.returns
  have hts := atoms_spec (ws := mwX10_candidatesOfm) B.pre
  have hown : s.vm.findClass RX10 = some m.cls := findClass_of_methodNamed B.named
  have hlocks := B.notSynchronized
  subst hsz
  have hD := hD0.self (sz := s.heap.size)
  generalize hAe : va_A (mW ad kc x0 x1 x2 x3 x4 x5 x6 x7 x8 x9 x10 x11 x12 x13 x14 x15 x16 x17 x18 x19 x20 x21 f0 f1 f2 f3 f4 f5 f6 f7 f8 f9 f10 f11 f12 f13 f14 f15 f16 f17 f18 f19 f20 f21 fL fN fP fM fO) s.heap.size = A at hD ⊢
  have hA : ∀ q : Nat, s.heap.size ≤ q → A q := fun q h => by rw [← hAe]; exact Or.inr h
  have hP : va_P (dC, dI) vwCl (mW ad kc x0 x1 x2 x3 x4 x5 x6 x7 x8 x9 x10 x11 x12 x13 x14 x15 x16 x17 x18 x19 x20 x21 f0 f1 f2 f3 f4 f5 f6 f7 f8 f9 f10 f11 f12 f13 f14 f15 f16 f17 f18 f19 f20 f21 fL fN fP fM fO) s.heap := hP
  have hD : va_D A (mW ad kc x0 x1 x2 x3 x4 x5 x6 x7 x8 x9 x10 x11 x12 x13 x14 x15 x16 x17 x18 x19 x20 x21 f0 f1 f2 f3 f4 f5 f6 f7 f8 f9 f10 f11 f12 f13 f14 f15 f16 f17 f18 f19 f20 f21 fL fN fP fM fO) := hD
  have hK : va_K (dC, dI) vwCl (mT kc) s := hK
  generalize hH : s.heap = H at hP ⊢
  have hS : va_S A s.heap H [] := by rw [← hH]; exact va_S.rf
  have hl := lv_entry ([.ref (ad 0), .ref (ad a1)]) (n := 7) (Nat.le_of_ble_eq_true rfl)
  rw [lg_entry_eq]
  generalize (lg_sl ([.ref (ad 0), .ref (ad a1)]) ++ List.replicate (7 - (lg_sl ([.ref (ad 0), .ref (ad a1)])).length) Slot.unset).toArray = ls at hl ⊢
  have hl : lv_has ls 7 [(0, .ref (ad 0)), (1, .ref (ad a1))] := hl
  have hd10 := q0.n0
  have hp8 := q0.P0
  refine lv_aload_n hx hb dX10_candidatesOf_0 rfl (lv_at hl 1 rfl) ?_
  refine lv_iconst (v := 0) hx hb dX10_candidatesOf_1 (by decide) ?_
  refine va_iald hx hb hK hP (rPos (a1)) (rTy (a1)) (mW_R (by first | assumption | (unfold IR; omega))) (mT_R _) (i := 0) (by unfold vp_in; decide +kernel) dX10_candidatesOf_2 ?_
  refine lv_topi (fun y_1 ey_1 => ?_)
  have rg_y_1 := i_rng y_1
  have vy_1 := vI_lda (f := (rO fN fM fO) a1) (i := 0) (a := 0) ey_1 (by first | omega | decide)
  refine lv_if_ne (tgt := 17) hx hb dX10_candidatesOf_3 (by decide) (fun k_2 => ?_) (fun k_2 => ?_)
  · have tk_2 := c_ne (a := y_1.toInt) (b := 0) rfl (by decide) k_2
    refine lv_iconst (v := 0) hx hb dX10_candidatesOf_17 (by decide) ?_
    refine lv_istore_n (lv' := [(2, .int 0), (0, .ref (ad 0)), (1, .ref (ad a1))]) hx hb dX10_candidatesOf_18 rfl hl (by decide) rfl (fun ls hl => ?_)
    have loop19 : ∀ (lm19 : Nat) (kk : Int32) (ga : Nat → Int32), (0 ≤ kk.toInt ∧ kk.toInt ≤ vI ((rO fN fM fO) a1) 0) → ((vI ((rO fN fM fO) a1) 0 - kk.toInt).toNat) < lm19 → ∀ (H : Heap) (locs : List Loc) (ls : Array Slot), va_P (dC, dI) vwCl (mW ad kc x0 x1 x2 x3 x4 x5 x6 x7 x8 x9 x10 x11 x12 x13 x14 x15 x16 x17 x18 x19 x20 x21 f0 f1 f2 f3 f4 f5 f6 f7 f8 f9 f10 f11 f12 f13 f14 f15 f16 f17 f18 ga f20 f21 fL fN fP fM fO) H → va_D A (mW ad kc x0 x1 x2 x3 x4 x5 x6 x7 x8 x9 x10 x11 x12 x13 x14 x15 x16 x17 x18 x19 x20 x21 f0 f1 f2 f3 f4 f5 f6 f7 f8 f9 f10 f11 f12 f13 f14 f15 f16 f17 f18 ga f20 f21 fL fN fP fM fO) → va_S A s.heap H locs → lv_has ls 7 [(2, .int kk), (0, .ref (ad 0)), (1, .ref (ad a1))] → W p l e (headSpec mwX10_candidatesOfm ({ frames := 4, cells := 0, slots := 0, locals := 240 })).room s m ([.ref (ad 0), .ref (ad a1)]).toArray below meth c H locs 0 0 (MQ below (va_Qi (fun (o9 u9 : Int32) => o9 = u9) (fun (o9 : Int32) t => ∃ (y21 : Int32) (g19 : Nat → Int32), va_P (dC, dI) vwCl (mW ad kc x0 x1 x2 x3 x4 x5 x6 x7 x8 x9 x10 x11 x12 x13 x14 x15 x16 x17 x18 x19 x20 y21 f0 f1 f2 f3 f4 f5 f6 f7 f8 f9 f10 f11 f12 f13 f14 f15 f16 f17 f18 g19 f20 f21 fL fN fP fM fO) t.heap ∧ va_K (dC, dI) vwCl (mT kc) t ∧ va_D A (mW ad kc x0 x1 x2 x3 x4 x5 x6 x7 x8 x9 x10 x11 x12 x13 x14 x15 x16 x17 x18 x19 x20 y21 f0 f1 f2 f3 f4 f5 f6 f7 f8 f9 f10 f11 f12 f13 f14 f15 f16 f17 f18 g19 f20 f21 fL fN fP fM fO)) A) ([.ref (ad 0), .ref (ad a1)]).toArray s 0 0 A) (F0 m 19 ls []) := by
      intro lm19
      induction lm19 with
      | zero => intro kk ga v19_0 hm19; exact absurd hm19 (Nat.not_lt_zero _)
      | succ lm19 ih19 =>
        intro kk ga v19_0 hm19 H locs ls hP hD hS hl
        have rg_kk := i_rng kk
        refine lv_iload_n hx hb dX10_candidatesOf_19 rfl (lv_at hl 0 rfl) ?_
        refine lv_aload_n hx hb dX10_candidatesOf_20 rfl (lv_at hl 2 rfl) ?_
        refine lv_iconst (v := 0) hx hb dX10_candidatesOf_21 (by decide) ?_
        refine va_iald hx hb hK hP (rPos (a1)) (rTy (a1)) (mW_R (by first | assumption | (unfold IR; omega))) (mT_R _) (i := 0) (by unfold vp_in; decide +kernel) dX10_candidatesOf_22 ?_
        refine lv_topi (fun y_3 ey_3 => ?_)
        have rg_y_3 := i_rng y_3
        have vy_3 := vI_lda (f := (rO fN fM fO) a1) (i := 0) (a := 0) ey_3 (by first | omega | decide)
        refine lv_icmp_ge (tgt := 47) hx hb dX10_candidatesOf_23 (by decide) (fun k_4 => ?_) (fun k_4 => ?_)
        · have tk_4 := c_ge (a := kk.toInt) (b := y_3.toInt) rfl rfl k_4
          refine lv_iconst (v := 0) hx hb dX10_candidatesOf_47 (by decide) ?_
          refine lv_istore_n (lv' := [(2, .int 0), (0, .ref (ad 0)), (1, .ref (ad a1))]) hx hb dX10_candidatesOf_48 rfl hl (by decide) rfl (fun ls hl => ?_)
          refine lv_iconst (v := 0) hx hb dX10_candidatesOf_49 (by decide) ?_
          refine lv_istore_n (lv' := [(3, .int 0), (2, .int 0), (0, .ref (ad 0)), (1, .ref (ad a1))]) hx hb dX10_candidatesOf_50 rfl hl (by decide) rfl (fun ls hl => ?_)
          refine lv_iconst (v := 0) hx hb dX10_candidatesOf_51 (by decide) ?_
          refine lv_istore (lv' := [(4, .int 0), (3, .int 0), (2, .int 0), (0, .ref (ad 0)), (1, .ref (ad a1))]) hx hb dX10_candidatesOf_52 hl (by decide) rfl (fun ls hl => ?_)
          refine lv_iconst (v := 0) hx hb dX10_candidatesOf_54 (by decide) ?_
          refine lv_istore (lv' := [(5, .int 0), (4, .int 0), (3, .int 0), (2, .int 0), (0, .ref (ad 0)), (1, .ref (ad a1))]) hx hb dX10_candidatesOf_55 hl (by decide) rfl (fun ls hl => ?_)
          have loop57 : ∀ (lm57 : Nat) (se aa ag k2 lp : Int32), (0 ≤ aa.toInt ∧ aa.toInt ≤ vI f0 0) → (0 ≤ ag.toInt ∧ ag.toInt < vI ((rO fN fM fO) a1) 0) → (0 ≤ k2.toInt ∧ k2.toInt < vI ((rO fN fM fO) a1) 0) → (((vI f0 0 - aa.toInt) * 400 + (vI ((rO fN fM fO) a1) 0 - ag.toInt)).toNat) < lm57 → ∀ (H : Heap) (locs : List Loc) (ls : Array Slot), va_P (dC, dI) vwCl (mW ad kc x0 x1 x2 x3 x4 x5 x6 x7 x8 x9 x10 x11 x12 x13 x14 x15 x16 x17 x18 x19 x20 lp f0 f1 f2 f3 f4 f5 f6 f7 f8 f9 f10 f11 f12 f13 f14 f15 f16 f17 f18 ga f20 f21 fL fN fP fM fO) H → va_D A (mW ad kc x0 x1 x2 x3 x4 x5 x6 x7 x8 x9 x10 x11 x12 x13 x14 x15 x16 x17 x18 x19 x20 lp f0 f1 f2 f3 f4 f5 f6 f7 f8 f9 f10 f11 f12 f13 f14 f15 f16 f17 f18 ga f20 f21 fL fN fP fM fO) → va_S A s.heap H locs → lv_has ls 7 [(5, .int k2), (4, .int ag), (3, .int aa), (2, .int se), (0, .ref (ad 0)), (1, .ref (ad a1))] → W p l e (headSpec mwX10_candidatesOfm ({ frames := 4, cells := 0, slots := 0, locals := 240 })).room s m ([.ref (ad 0), .ref (ad a1)]).toArray below meth c H locs 0 0 (MQ below (va_Qi (fun (o9 u9 : Int32) => o9 = u9) (fun (o9 : Int32) t => ∃ (y21 : Int32) (g19 : Nat → Int32), va_P (dC, dI) vwCl (mW ad kc x0 x1 x2 x3 x4 x5 x6 x7 x8 x9 x10 x11 x12 x13 x14 x15 x16 x17 x18 x19 x20 y21 f0 f1 f2 f3 f4 f5 f6 f7 f8 f9 f10 f11 f12 f13 f14 f15 f16 f17 f18 g19 f20 f21 fL fN fP fM fO) t.heap ∧ va_K (dC, dI) vwCl (mT kc) t ∧ va_D A (mW ad kc x0 x1 x2 x3 x4 x5 x6 x7 x8 x9 x10 x11 x12 x13 x14 x15 x16 x17 x18 x19 x20 y21 f0 f1 f2 f3 f4 f5 f6 f7 f8 f9 f10 f11 f12 f13 f14 f15 f16 f17 f18 g19 f20 f21 fL fN fP fM fO)) A) ([.ref (ad 0), .ref (ad a1)]).toArray s 0 0 A) (F0 m 57 ls []) := by
            intro lm57
            induction lm57 with
            | zero => intro se aa ag k2 lp v57_0 v57_1 v57_2 hm57; exact absurd hm57 (Nat.not_lt_zero _)
            | succ lm57 ih57 =>
              intro se aa ag k2 lp v57_0 v57_1 v57_2 hm57 H locs ls hP hD hS hl
              have rg_se := i_rng se
              have rg_aa := i_rng aa
              have rg_ag := i_rng ag
              have rg_k2 := i_rng k2
              have rg_lp := i_rng lp
              refine lv_aload_n hx hb dX10_candidatesOf_57 rfl (lv_at hl 4 rfl) ?_
              refine lv_dup hx hb dX10_candidatesOf_58 rfl ?_
              refine va_get (D := (dC, dI)) (ci := 10) (v := .int lp) (C := RX10) (T := TX10) (N := 48) hx hb hts fin_X10_candidatesOfm_X10 hown hK hP 0 rfl rfl 43 (by decide) (hts (.fieldLink RX10 417 "PatternGateModel" "leaps" "I") (List.mem_of_getElem? (i := 1) (by decide +kernel))) (fun _ h9 => h9) rfl dX10_candidatesOf_59 ?_
              refine lv_iconst (v := 1) hx hb dX10_candidatesOf_62 (by decide) ?_
              refine lv_iadd hx hb dX10_candidatesOf_63 ?_
              refine lv_topi (fun y_5 ey_5 => ?_)
              first | have ty_5 := i_add (a := lp.toInt) (b := 1) rfl (by decide) ey_5 (by omega) (by omega) | skip
              refine va_put (D := (dC, dI)) (ci := 10) (v := .int y_5) (ty := .int) (C := RX10) (T := TX10) (N := 48) hx hb hts fin_X10_candidatesOfm_X10 tyX10 tyX10_ok nmX10 hown hK hP hD hS 0 rfl rfl 43 (by decide) (hts (.fieldLink RX10 417 "PatternGateModel" "leaps" "I") (List.mem_of_getElem? (i := 1) (by decide +kernel))) (fun _ h9 => h9) rfl (by decide +kernel) rfl rfl (Nat.le_of_ble_eq_true rfl) dX10_candidatesOf_64 (fun H locs hP hD hS => ?_)
              have hP : va_P (dC, dI) vwCl (mW ad kc x0 x1 x2 x3 x4 x5 x6 x7 x8 x9 x10 x11 x12 x13 x14 x15 x16 x17 x18 x19 x20 y_5 f0 f1 f2 f3 f4 f5 f6 f7 f8 f9 f10 f11 f12 f13 f14 f15 f16 f17 f18 ga f20 f21 fL fN fP fM fO) H := hP
              have hD : va_D A (mW ad kc x0 x1 x2 x3 x4 x5 x6 x7 x8 x9 x10 x11 x12 x13 x14 x15 x16 x17 x18 x19 x20 y_5 f0 f1 f2 f3 f4 f5 f6 f7 f8 f9 f10 f11 f12 f13 f14 f15 f16 f17 f18 ga f20 f21 fL fN fP fM fO) := hD
              refine lv_iload_n hx hb dX10_candidatesOf_67 rfl (lv_at hl 2 rfl) ?_
              refine lv_istore (lv' := [(6, .int aa), (5, .int k2), (4, .int ag), (3, .int aa), (2, .int se), (0, .ref (ad 0)), (1, .ref (ad a1))]) hx hb dX10_candidatesOf_68 hl (by decide) rfl (fun ls hl => ?_)
              have loop70 : ∀ (lm70 : Nat) (de : Int32), (aa.toInt ≤ de.toInt ∧ de.toInt ≤ vI f0 0) → ((vI f0 0 - de.toInt).toNat) < lm70 → ∀ (H : Heap) (locs : List Loc) (ls : Array Slot), va_P (dC, dI) vwCl (mW ad kc x0 x1 x2 x3 x4 x5 x6 x7 x8 x9 x10 x11 x12 x13 x14 x15 x16 x17 x18 x19 x20 y_5 f0 f1 f2 f3 f4 f5 f6 f7 f8 f9 f10 f11 f12 f13 f14 f15 f16 f17 f18 ga f20 f21 fL fN fP fM fO) H → va_D A (mW ad kc x0 x1 x2 x3 x4 x5 x6 x7 x8 x9 x10 x11 x12 x13 x14 x15 x16 x17 x18 x19 x20 y_5 f0 f1 f2 f3 f4 f5 f6 f7 f8 f9 f10 f11 f12 f13 f14 f15 f16 f17 f18 ga f20 f21 fL fN fP fM fO) → va_S A s.heap H locs → lv_has ls 7 [(6, .int de), (5, .int k2), (4, .int ag), (3, .int aa), (2, .int se), (0, .ref (ad 0)), (1, .ref (ad a1))] → W p l e (headSpec mwX10_candidatesOfm ({ frames := 4, cells := 0, slots := 0, locals := 240 })).room s m ([.ref (ad 0), .ref (ad a1)]).toArray below meth c H locs 0 0 (MQ below (va_Qi (fun (o9 u9 : Int32) => o9 = u9) (fun (o9 : Int32) t => ∃ (y21 : Int32) (g19 : Nat → Int32), va_P (dC, dI) vwCl (mW ad kc x0 x1 x2 x3 x4 x5 x6 x7 x8 x9 x10 x11 x12 x13 x14 x15 x16 x17 x18 x19 x20 y21 f0 f1 f2 f3 f4 f5 f6 f7 f8 f9 f10 f11 f12 f13 f14 f15 f16 f17 f18 g19 f20 f21 fL fN fP fM fO) t.heap ∧ va_K (dC, dI) vwCl (mT kc) t ∧ va_D A (mW ad kc x0 x1 x2 x3 x4 x5 x6 x7 x8 x9 x10 x11 x12 x13 x14 x15 x16 x17 x18 x19 x20 y21 f0 f1 f2 f3 f4 f5 f6 f7 f8 f9 f10 f11 f12 f13 f14 f15 f16 f17 f18 g19 f20 f21 fL fN fP fM fO)) A) ([.ref (ad 0), .ref (ad a1)]).toArray s 0 0 A) (F0 m 70 ls []) := by
                intro lm70
                induction lm70 with
                | zero => intro de v70_0 hm70; exact absurd hm70 (Nat.not_lt_zero _)
                | succ lm70 ih70 =>
                  intro de v70_0 hm70 H locs ls hP hD hS hl
                  have rg_de := i_rng de
                  refine lv_iload hx hb dX10_candidatesOf_70 (lv_at hl 0 rfl) ?_
                  refine lv_aload_n hx hb dX10_candidatesOf_72 rfl (lv_at hl 5 rfl) ?_
                  refine va_get (D := (dC, dI)) (ci := 10) (v := .ref (ad 1)) (C := RX10) (T := TX10) (N := 48) hx hb hts fin_X10_candidatesOfm_X10 hown hK hP 0 rfl rfl 0 (by decide) (hts (.fieldLink RX10 8 "PatternGateModel" "all" "[I") (List.mem_of_getElem? (i := 2) (by decide +kernel))) (fun _ h9 => h9) rfl dX10_candidatesOf_73 ?_
                  refine lv_iconst (v := 0) hx hb dX10_candidatesOf_76 (by decide) ?_
                  refine va_iald hx hb hK hP 1 0 rfl rfl (i := 0) (by unfold vp_in; decide +kernel) dX10_candidatesOf_77 ?_
                  refine lv_topi (fun y_6 ey_6 => ?_)
                  have rg_y_6 := i_rng y_6
                  have vy_6 := vI_lda (f := f0) (i := 0) (a := 0) ey_6 (by first | omega | decide)
                  have rg_y_6 := i_rng y_6
                  refine lv_icmp_ge (tgt := 102) hx hb dX10_candidatesOf_78 (by decide) (fun k_7 => ?_) (fun k_7 => ?_)
                  · have tk_7 := c_ge (a := de.toInt) (b := y_6.toInt) rfl rfl k_7
                    refine lv_iload hx hb dX10_candidatesOf_102 (lv_at hl 0 rfl) ?_
                    refine lv_aload_n hx hb dX10_candidatesOf_104 rfl (lv_at hl 5 rfl) ?_
                    refine va_get (D := (dC, dI)) (ci := 10) (v := .ref (ad 1)) (C := RX10) (T := TX10) (N := 48) hx hb hts fin_X10_candidatesOfm_X10 hown hK hP 0 rfl rfl 0 (by decide) (hts (.fieldLink RX10 8 "PatternGateModel" "all" "[I") (List.mem_of_getElem? (i := 2) (by decide +kernel))) (fun _ h9 => h9) rfl dX10_candidatesOf_105 ?_
                    refine lv_iconst (v := 0) hx hb dX10_candidatesOf_108 (by decide) ?_
                    refine va_iald hx hb hK hP 1 0 rfl rfl (i := 0) (by unfold vp_in; decide +kernel) dX10_candidatesOf_109 ?_
                    refine lv_topi (fun y_8 ey_8 => ?_)
                    have rg_y_8 := i_rng y_8
                    have vy_8 := vI_lda (f := f0) (i := 0) (a := 0) ey_8 (by first | omega | decide)
                    have rg_y_8 := i_rng y_8
                    refine lv_icmp_lt (tgt := 115) hx hb dX10_candidatesOf_110 (by decide) (fun k_9 => ?_) (fun k_9 => ?_)
                    · have tk_9 := c_lt (a := de.toInt) (b := y_8.toInt) rfl rfl k_9
                      refine lv_iload hx hb dX10_candidatesOf_115 (lv_at hl 0 rfl) ?_
                      refine lv_iload_n hx hb dX10_candidatesOf_117 rfl (lv_at hl 3 rfl) ?_
                      refine lv_icmp_le (tgt := 125) hx hb dX10_candidatesOf_118 (by decide) (fun k_10 => ?_) (fun k_10 => ?_)
                      · have tk_10 := c_le (a := de.toInt) (b := aa.toInt) rfl rfl k_10
                        refine lv_iload hx hb dX10_candidatesOf_125 (lv_at hl 2 rfl) ?_
                        refine lv_iconst (v := 1) hx hb dX10_candidatesOf_127 (by decide) ?_
                        refine lv_iadd hx hb dX10_candidatesOf_128 ?_
                        refine lv_topi (fun y_11 ey_11 => ?_)
                        first | have ty_11 := i_add (a := ag.toInt) (b := 1) rfl (by decide) ey_11 (by omega) (by omega) | skip
                        refine lv_istore (lv' := [(4, .int y_11), (6, .int de), (5, .int k2), (3, .int aa), (2, .int se), (0, .ref (ad 0)), (1, .ref (ad a1))]) hx hb dX10_candidatesOf_129 hl (by decide) rfl (fun ls hl => ?_)
                        refine lv_iload hx hb dX10_candidatesOf_131 (lv_at hl 1 rfl) ?_
                        refine lv_istore_n (lv' := [(3, .int de), (4, .int y_11), (6, .int de), (5, .int k2), (2, .int se), (0, .ref (ad 0)), (1, .ref (ad a1))]) hx hb dX10_candidatesOf_133 rfl hl (by decide) rfl (fun ls hl => ?_)
                        refine lv_iload hx hb dX10_candidatesOf_134 (lv_at hl 1 rfl) ?_
                        refine lv_aload_n hx hb dX10_candidatesOf_136 rfl (lv_at hl 6 rfl) ?_
                        refine lv_iconst (v := 0) hx hb dX10_candidatesOf_137 (by decide) ?_
                        refine va_iald hx hb hK hP (rPos (a1)) (rTy (a1)) (mW_R (by first | assumption | (unfold IR; omega))) (mT_R _) (i := 0) (by unfold vp_in; decide +kernel) dX10_candidatesOf_138 ?_
                        refine lv_topi (fun y_12 ey_12 => ?_)
                        have rg_y_12 := i_rng y_12
                        have vy_12 := vI_lda (f := (rO fN fM fO) a1) (i := 0) (a := 0) ey_12 (by first | omega | decide)
                        refine lv_icmp_ge (tgt := 145) hx hb dX10_candidatesOf_139 (by decide) (fun k_13 => ?_) (fun k_13 => ?_)
                        · have tk_13 := c_ge (a := y_11.toInt) (b := y_12.toInt) rfl rfl k_13
                          refine lv_iload_n hx hb dX10_candidatesOf_145 rfl (lv_at hl 4 rfl) ?_
                          refine lv_iconst (v := 1) hx hb dX10_candidatesOf_146 (by decide) ?_
                          refine lv_iload_n hx hb dX10_candidatesOf_147 rfl (lv_at hl 0 rfl) ?_
                          refine lv_ishl hx hb dX10_candidatesOf_148 ?_
                          refine lv_topi (fun y_14 ey_14 => ?_)
                          have rg_y_14 := i_rng y_14
                          refine lv_ior hx hb dX10_candidatesOf_149 ?_
                          refine lv_topi (fun y_15 ey_15 => ?_)
                          have rg_y_15 := i_rng y_15
                          refine lv_istore_n (lv' := [(2, .int y_15), (3, .int de), (4, .int y_11), (6, .int de), (5, .int k2), (0, .ref (ad 0)), (1, .ref (ad a1))]) hx hb dX10_candidatesOf_150 rfl hl (by decide) rfl (fun ls hl => ?_)
                          obtain ⟨y_16, ey_16⟩ : ∃ y : Int32, y = de + 1 := ⟨_, rfl⟩
                          first | have ty_16 := i_add (a := de.toInt) (b := 1) rfl (by decide) ey_16 (by omega) (by omega) | skip
                          refine lv_iinc (v := y_16) (lv' := [(3, .int y_16), (2, .int y_15), (4, .int y_11), (6, .int de), (5, .int k2), (0, .ref (ad 0)), (1, .ref (ad a1))]) hx hb dX10_candidatesOf_151 hl (k := 1) rfl (by rw [ey_16]; rfl) (by decide) rfl (fun ls hl => ?_)
                          refine lv_iconst (v := 0) hx hb dX10_candidatesOf_154 (by decide) ?_
                          refine lv_istore (lv' := [(4, .int 0), (3, .int y_16), (2, .int y_15), (6, .int de), (5, .int k2), (0, .ref (ad 0)), (1, .ref (ad a1))]) hx hb dX10_candidatesOf_155 hl (by decide) rfl (fun ls hl => ?_)
                          refine lv_iload hx hb dX10_candidatesOf_157 (lv_at hl 4 rfl) ?_
                          refine lv_iconst (v := 1) hx hb dX10_candidatesOf_159 (by decide) ?_
                          refine lv_iadd hx hb dX10_candidatesOf_160 ?_
                          refine lv_topi (fun y_17 ey_17 => ?_)
                          first | have ty_17 := i_add (a := k2.toInt) (b := 1) rfl (by decide) ey_17 (by omega) (by omega) | skip
                          refine lv_aload_n hx hb dX10_candidatesOf_161 rfl (lv_at hl 6 rfl) ?_
                          refine lv_iconst (v := 0) hx hb dX10_candidatesOf_162 (by decide) ?_
                          refine va_iald hx hb hK hP (rPos (a1)) (rTy (a1)) (mW_R (by first | assumption | (unfold IR; omega))) (mT_R _) (i := 0) (by unfold vp_in; decide +kernel) dX10_candidatesOf_163 ?_
                          refine lv_topi (fun y_18 ey_18 => ?_)
                          have rg_y_18 := i_rng y_18
                          have vy_18 := vI_lda (f := (rO fN fM fO) a1) (i := 0) (a := 0) ey_18 (by first | omega | decide)
                          refine lv_irem hx hb dX10_candidatesOf_164 (fun h9 => by have h8 := congrArg Int32.toInt h9; have h7 : (0 : Int32).toInt = 0 := (by decide); omega) ?_
                          refine lv_topi (fun y_19 ey_19 => ?_)
                          have ty_19 := i_rem (a := y_17.toInt) (b := y_18.toInt) rfl rfl (by omega) (by omega) ey_19
                          refine lv_istore (lv' := [(5, .int y_19), (4, .int 0), (3, .int y_16), (2, .int y_15), (6, .int de), (0, .ref (ad 0)), (1, .ref (ad a1))]) hx hb dX10_candidatesOf_165 hl (by decide) rfl (fun ls hl => ?_)
                          refine lv_goto (tgt := 57) hx hb dX10_candidatesOf_167 (by decide) ?_
                          have lit_19 : (0 : Int32).toInt = 0 := by decide
                          exact ih57 y_15 y_16 0 y_19 y_5 (by first | omega | assumption | decide) (by first | omega | assumption | decide) (by first | omega | assumption | decide) (by omega) _ _ ls hP hD hS (lv_sub hl [0, 1, 2, 3, 5, 6] rfl)
                        · have tk_13 := c_nge (a := y_11.toInt) (b := y_12.toInt) rfl rfl k_13
                          refine lv_goto (tgt := 157) hx hb dX10_candidatesOf_142 (by decide) ?_
                          refine lv_iload hx hb dX10_candidatesOf_157 (lv_at hl 3 rfl) ?_
                          refine lv_iconst (v := 1) hx hb dX10_candidatesOf_159 (by decide) ?_
                          refine lv_iadd hx hb dX10_candidatesOf_160 ?_
                          refine lv_topi (fun y_21 ey_21 => ?_)
                          first | have ty_21 := i_add (a := k2.toInt) (b := 1) rfl (by decide) ey_21 (by omega) (by omega) | skip
                          refine lv_aload_n hx hb dX10_candidatesOf_161 rfl (lv_at hl 6 rfl) ?_
                          refine lv_iconst (v := 0) hx hb dX10_candidatesOf_162 (by decide) ?_
                          refine va_iald hx hb hK hP (rPos (a1)) (rTy (a1)) (mW_R (by first | assumption | (unfold IR; omega))) (mT_R _) (i := 0) (by unfold vp_in; decide +kernel) dX10_candidatesOf_163 ?_
                          refine lv_topi (fun y_22 ey_22 => ?_)
                          have rg_y_22 := i_rng y_22
                          have vy_22 := vI_lda (f := (rO fN fM fO) a1) (i := 0) (a := 0) ey_22 (by first | omega | decide)
                          refine lv_irem hx hb dX10_candidatesOf_164 (fun h9 => by have h8 := congrArg Int32.toInt h9; have h7 : (0 : Int32).toInt = 0 := (by decide); omega) ?_
                          refine lv_topi (fun y_23 ey_23 => ?_)
                          have ty_23 := i_rem (a := y_21.toInt) (b := y_22.toInt) rfl rfl (by omega) (by omega) ey_23
                          refine lv_istore (lv' := [(5, .int y_23), (3, .int de), (4, .int y_11), (6, .int de), (2, .int se), (0, .ref (ad 0)), (1, .ref (ad a1))]) hx hb dX10_candidatesOf_165 hl (by decide) rfl (fun ls hl => ?_)
                          refine lv_goto (tgt := 57) hx hb dX10_candidatesOf_167 (by decide) ?_
                          exact ih57 se de y_11 y_23 y_5 (by first | omega | assumption | decide) (by first | omega | assumption | decide) (by first | omega | assumption | decide) (by omega) _ _ ls hP hD hS (lv_sub hl [0, 2, 1, 4, 5, 6] rfl)
                      · have tk_10 := c_nle (a := de.toInt) (b := aa.toInt) rfl rfl k_10
                        refine lv_iconst (v := 1) hx hb dX10_candidatesOf_121 (by decide) ?_
                        refine lv_goto (tgt := 129) hx hb dX10_candidatesOf_122 (by decide) ?_
                        refine lv_istore (lv' := [(4, .int 1), (6, .int de), (5, .int k2), (3, .int aa), (2, .int se), (0, .ref (ad 0)), (1, .ref (ad a1))]) hx hb dX10_candidatesOf_129 hl (by decide) rfl (fun ls hl => ?_)
                        refine lv_iload hx hb dX10_candidatesOf_131 (lv_at hl 1 rfl) ?_
                        refine lv_istore_n (lv' := [(3, .int de), (4, .int 1), (6, .int de), (5, .int k2), (2, .int se), (0, .ref (ad 0)), (1, .ref (ad a1))]) hx hb dX10_candidatesOf_133 rfl hl (by decide) rfl (fun ls hl => ?_)
                        refine lv_iload hx hb dX10_candidatesOf_134 (lv_at hl 1 rfl) ?_
                        refine lv_aload_n hx hb dX10_candidatesOf_136 rfl (lv_at hl 6 rfl) ?_
                        refine lv_iconst (v := 0) hx hb dX10_candidatesOf_137 (by decide) ?_
                        refine va_iald hx hb hK hP (rPos (a1)) (rTy (a1)) (mW_R (by first | assumption | (unfold IR; omega))) (mT_R _) (i := 0) (by unfold vp_in; decide +kernel) dX10_candidatesOf_138 ?_
                        refine lv_topi (fun y_24 ey_24 => ?_)
                        have rg_y_24 := i_rng y_24
                        have vy_24 := vI_lda (f := (rO fN fM fO) a1) (i := 0) (a := 0) ey_24 (by first | omega | decide)
                        refine lv_icmp_ge (tgt := 145) hx hb dX10_candidatesOf_139 (by decide) (fun k_25 => ?_) (fun k_25 => ?_)
                        · have tk_25 := c_ge (a := 1) (b := y_24.toInt) (by decide) rfl k_25
                          refine lv_iload_n hx hb dX10_candidatesOf_145 rfl (lv_at hl 4 rfl) ?_
                          refine lv_iconst (v := 1) hx hb dX10_candidatesOf_146 (by decide) ?_
                          refine lv_iload_n hx hb dX10_candidatesOf_147 rfl (lv_at hl 0 rfl) ?_
                          refine lv_ishl hx hb dX10_candidatesOf_148 ?_
                          refine lv_topi (fun y_26 ey_26 => ?_)
                          have rg_y_26 := i_rng y_26
                          refine lv_ior hx hb dX10_candidatesOf_149 ?_
                          refine lv_topi (fun y_27 ey_27 => ?_)
                          have rg_y_27 := i_rng y_27
                          refine lv_istore_n (lv' := [(2, .int y_27), (3, .int de), (4, .int 1), (6, .int de), (5, .int k2), (0, .ref (ad 0)), (1, .ref (ad a1))]) hx hb dX10_candidatesOf_150 rfl hl (by decide) rfl (fun ls hl => ?_)
                          obtain ⟨y_28, ey_28⟩ : ∃ y : Int32, y = de + 1 := ⟨_, rfl⟩
                          first | have ty_28 := i_add (a := de.toInt) (b := 1) rfl (by decide) ey_28 (by omega) (by omega) | skip
                          refine lv_iinc (v := y_28) (lv' := [(3, .int y_28), (2, .int y_27), (4, .int 1), (6, .int de), (5, .int k2), (0, .ref (ad 0)), (1, .ref (ad a1))]) hx hb dX10_candidatesOf_151 hl (k := 1) rfl (by rw [ey_28]; rfl) (by decide) rfl (fun ls hl => ?_)
                          refine lv_iconst (v := 0) hx hb dX10_candidatesOf_154 (by decide) ?_
                          refine lv_istore (lv' := [(4, .int 0), (3, .int y_28), (2, .int y_27), (6, .int de), (5, .int k2), (0, .ref (ad 0)), (1, .ref (ad a1))]) hx hb dX10_candidatesOf_155 hl (by decide) rfl (fun ls hl => ?_)
                          refine lv_iload hx hb dX10_candidatesOf_157 (lv_at hl 4 rfl) ?_
                          refine lv_iconst (v := 1) hx hb dX10_candidatesOf_159 (by decide) ?_
                          refine lv_iadd hx hb dX10_candidatesOf_160 ?_
                          refine lv_topi (fun y_29 ey_29 => ?_)
                          first | have ty_29 := i_add (a := k2.toInt) (b := 1) rfl (by decide) ey_29 (by omega) (by omega) | skip
                          refine lv_aload_n hx hb dX10_candidatesOf_161 rfl (lv_at hl 6 rfl) ?_
                          refine lv_iconst (v := 0) hx hb dX10_candidatesOf_162 (by decide) ?_
                          refine va_iald hx hb hK hP (rPos (a1)) (rTy (a1)) (mW_R (by first | assumption | (unfold IR; omega))) (mT_R _) (i := 0) (by unfold vp_in; decide +kernel) dX10_candidatesOf_163 ?_
                          refine lv_topi (fun y_30 ey_30 => ?_)
                          have rg_y_30 := i_rng y_30
                          have vy_30 := vI_lda (f := (rO fN fM fO) a1) (i := 0) (a := 0) ey_30 (by first | omega | decide)
                          refine lv_irem hx hb dX10_candidatesOf_164 (fun h9 => by have h8 := congrArg Int32.toInt h9; have h7 : (0 : Int32).toInt = 0 := (by decide); omega) ?_
                          refine lv_topi (fun y_31 ey_31 => ?_)
                          have ty_31 := i_rem (a := y_29.toInt) (b := y_30.toInt) rfl rfl (by omega) (by omega) ey_31
                          refine lv_istore (lv' := [(5, .int y_31), (4, .int 0), (3, .int y_28), (2, .int y_27), (6, .int de), (0, .ref (ad 0)), (1, .ref (ad a1))]) hx hb dX10_candidatesOf_165 hl (by decide) rfl (fun ls hl => ?_)
                          refine lv_goto (tgt := 57) hx hb dX10_candidatesOf_167 (by decide) ?_
                          have lit_31 : (0 : Int32).toInt = 0 := by decide
                          exact ih57 y_27 y_28 0 y_31 y_5 (by first | omega | assumption | decide) (by first | omega | assumption | decide) (by first | omega | assumption | decide) (by omega) _ _ ls hP hD hS (lv_sub hl [0, 1, 2, 3, 5, 6] rfl)
                        · have tk_25 := c_nge (a := 1) (b := y_24.toInt) (by decide) rfl k_25
                          refine lv_goto (tgt := 157) hx hb dX10_candidatesOf_142 (by decide) ?_
                          refine lv_iload hx hb dX10_candidatesOf_157 (lv_at hl 3 rfl) ?_
                          refine lv_iconst (v := 1) hx hb dX10_candidatesOf_159 (by decide) ?_
                          refine lv_iadd hx hb dX10_candidatesOf_160 ?_
                          refine lv_topi (fun y_33 ey_33 => ?_)
                          first | have ty_33 := i_add (a := k2.toInt) (b := 1) rfl (by decide) ey_33 (by omega) (by omega) | skip
                          refine lv_aload_n hx hb dX10_candidatesOf_161 rfl (lv_at hl 6 rfl) ?_
                          refine lv_iconst (v := 0) hx hb dX10_candidatesOf_162 (by decide) ?_
                          refine va_iald hx hb hK hP (rPos (a1)) (rTy (a1)) (mW_R (by first | assumption | (unfold IR; omega))) (mT_R _) (i := 0) (by unfold vp_in; decide +kernel) dX10_candidatesOf_163 ?_
                          refine lv_topi (fun y_34 ey_34 => ?_)
                          have rg_y_34 := i_rng y_34
                          have vy_34 := vI_lda (f := (rO fN fM fO) a1) (i := 0) (a := 0) ey_34 (by first | omega | decide)
                          refine lv_irem hx hb dX10_candidatesOf_164 (fun h9 => by have h8 := congrArg Int32.toInt h9; have h7 : (0 : Int32).toInt = 0 := (by decide); omega) ?_
                          refine lv_topi (fun y_35 ey_35 => ?_)
                          have ty_35 := i_rem (a := y_33.toInt) (b := y_34.toInt) rfl rfl (by omega) (by omega) ey_35
                          refine lv_istore (lv' := [(5, .int y_35), (3, .int de), (4, .int 1), (6, .int de), (2, .int se), (0, .ref (ad 0)), (1, .ref (ad a1))]) hx hb dX10_candidatesOf_165 hl (by decide) rfl (fun ls hl => ?_)
                          refine lv_goto (tgt := 57) hx hb dX10_candidatesOf_167 (by decide) ?_
                          have lit_35 : (1 : Int32).toInt = 1 := by decide
                          exact ih57 se de 1 y_35 y_5 (by first | omega | assumption | decide) (by first | omega | assumption | decide) (by first | omega | assumption | decide) (by omega) _ _ ls hP hD hS (lv_sub hl [0, 2, 1, 4, 5, 6] rfl)
                    · have tk_9 := c_nlt (a := de.toInt) (b := y_8.toInt) rfl rfl k_9
                      refine lv_iload_n hx hb dX10_candidatesOf_113 rfl (lv_at hl 4 rfl) ?_
                      exact W.iret hx hb hr (fun t ht hW => ⟨⟨_, _, rfl, rfl, y_5, ga, by rw [ht]; exact hP, va_K.moved hW.alike hK, hD⟩, hS.F ht⟩) hS.2.2 dX10_candidatesOf_114
                  · have tk_7 := c_nge (a := de.toInt) (b := y_6.toInt) rfl rfl k_7
                    refine lv_aload_n hx hb dX10_candidatesOf_81 rfl (lv_at hl 5 rfl) ?_
                    refine va_get (D := (dC, dI)) (ci := 10) (v := .ref (ad 20)) (C := RX10) (T := TX10) (N := 48) hx hb hts fin_X10_candidatesOfm_X10 hown hK hP 0 rfl rfl 44 (by decide) (hts (.fieldLink RX10 92 "PatternGateModel" "lists" "[I") (List.mem_of_getElem? (i := 3) (by decide +kernel))) (fun _ h9 => h9) rfl dX10_candidatesOf_82 ?_
                    refine lv_iload hx hb dX10_candidatesOf_85 (lv_at hl 1 rfl) ?_
                    refine va_iald hx hb hK hP 20 19 rfl rfl (i := k2) (vp_of (a := k2.toInt) rfl (by omega) (by omega)) dX10_candidatesOf_87 ?_
                    refine lv_topi (fun y_37 ey_37 => ?_)
                    have rg_y_37 := i_rng y_37
                    refine lv_iload hx hb dX10_candidatesOf_88 (lv_at hl 0 rfl) ?_
                    refine vp_callSi (W.runS (As := [.int y_37, .int de]) (rest := []) ⟨hx, hb, hml, hown, hts⟩ (m_has l dC dI  y_37 de ) (va_cwS 2 hts mg_X10_candidatesOfm_X10_has_170 rfl rfl rfl (by decide +kernel) ⟨Nat.le_of_ble_eq_true rfl, Nat.le_of_ble_eq_true rfl⟩) ⟨fun a U g mk q => ⟨q.1, trivial⟩, fun U hU hW => ⟨rfl, trivial⟩⟩ rfl rfl hl.1 rfl (lv_room (Nat.le_of_ble_eq_true rfl)) dX10_candidatesOf_90 ⟨Nat.le_of_ble_eq_true rfl, Nat.le_of_ble_eq_true rfl⟩) (fun r_38 hr_38 => ?_)
                    have rg_r_38 := i_rng r_38
                    refine lv_if_ne (tgt := 102) hx hb dX10_candidatesOf_93 (by decide) (fun k_39 => ?_) (fun k_39 => ?_)
                    · have tk_39 := c_ne (a := r_38.toInt) (b := 0) rfl (by decide) k_39
                      refine lv_iload hx hb dX10_candidatesOf_102 (lv_at hl 0 rfl) ?_
                      refine lv_aload_n hx hb dX10_candidatesOf_104 rfl (lv_at hl 5 rfl) ?_
                      refine va_get (D := (dC, dI)) (ci := 10) (v := .ref (ad 1)) (C := RX10) (T := TX10) (N := 48) hx hb hts fin_X10_candidatesOfm_X10 hown hK hP 0 rfl rfl 0 (by decide) (hts (.fieldLink RX10 8 "PatternGateModel" "all" "[I") (List.mem_of_getElem? (i := 2) (by decide +kernel))) (fun _ h9 => h9) rfl dX10_candidatesOf_105 ?_
                      refine lv_iconst (v := 0) hx hb dX10_candidatesOf_108 (by decide) ?_
                      refine va_iald hx hb hK hP 1 0 rfl rfl (i := 0) (by unfold vp_in; decide +kernel) dX10_candidatesOf_109 ?_
                      refine lv_topi (fun y_40 ey_40 => ?_)
                      have rg_y_40 := i_rng y_40
                      have vy_40 := vI_lda (f := f0) (i := 0) (a := 0) ey_40 (by first | omega | decide)
                      have rg_y_40 := i_rng y_40
                      refine lv_icmp_lt (tgt := 115) hx hb dX10_candidatesOf_110 (by decide) (fun k_41 => ?_) (fun k_41 => ?_)
                      · have tk_41 := c_lt (a := de.toInt) (b := y_40.toInt) rfl rfl k_41
                        refine lv_iload hx hb dX10_candidatesOf_115 (lv_at hl 0 rfl) ?_
                        refine lv_iload_n hx hb dX10_candidatesOf_117 rfl (lv_at hl 3 rfl) ?_
                        refine lv_icmp_le (tgt := 125) hx hb dX10_candidatesOf_118 (by decide) (fun k_42 => ?_) (fun k_42 => ?_)
                        · have tk_42 := c_le (a := de.toInt) (b := aa.toInt) rfl rfl k_42
                          refine lv_iload hx hb dX10_candidatesOf_125 (lv_at hl 2 rfl) ?_
                          refine lv_iconst (v := 1) hx hb dX10_candidatesOf_127 (by decide) ?_
                          refine lv_iadd hx hb dX10_candidatesOf_128 ?_
                          refine lv_topi (fun y_43 ey_43 => ?_)
                          first | have ty_43 := i_add (a := ag.toInt) (b := 1) rfl (by decide) ey_43 (by omega) (by omega) | skip
                          refine lv_istore (lv' := [(4, .int y_43), (6, .int de), (5, .int k2), (3, .int aa), (2, .int se), (0, .ref (ad 0)), (1, .ref (ad a1))]) hx hb dX10_candidatesOf_129 hl (by decide) rfl (fun ls hl => ?_)
                          refine lv_iload hx hb dX10_candidatesOf_131 (lv_at hl 1 rfl) ?_
                          refine lv_istore_n (lv' := [(3, .int de), (4, .int y_43), (6, .int de), (5, .int k2), (2, .int se), (0, .ref (ad 0)), (1, .ref (ad a1))]) hx hb dX10_candidatesOf_133 rfl hl (by decide) rfl (fun ls hl => ?_)
                          refine lv_iload hx hb dX10_candidatesOf_134 (lv_at hl 1 rfl) ?_
                          refine lv_aload_n hx hb dX10_candidatesOf_136 rfl (lv_at hl 6 rfl) ?_
                          refine lv_iconst (v := 0) hx hb dX10_candidatesOf_137 (by decide) ?_
                          refine va_iald hx hb hK hP (rPos (a1)) (rTy (a1)) (mW_R (by first | assumption | (unfold IR; omega))) (mT_R _) (i := 0) (by unfold vp_in; decide +kernel) dX10_candidatesOf_138 ?_
                          refine lv_topi (fun y_44 ey_44 => ?_)
                          have rg_y_44 := i_rng y_44
                          have vy_44 := vI_lda (f := (rO fN fM fO) a1) (i := 0) (a := 0) ey_44 (by first | omega | decide)
                          refine lv_icmp_ge (tgt := 145) hx hb dX10_candidatesOf_139 (by decide) (fun k_45 => ?_) (fun k_45 => ?_)
                          · have tk_45 := c_ge (a := y_43.toInt) (b := y_44.toInt) rfl rfl k_45
                            refine lv_iload_n hx hb dX10_candidatesOf_145 rfl (lv_at hl 4 rfl) ?_
                            refine lv_iconst (v := 1) hx hb dX10_candidatesOf_146 (by decide) ?_
                            refine lv_iload_n hx hb dX10_candidatesOf_147 rfl (lv_at hl 0 rfl) ?_
                            refine lv_ishl hx hb dX10_candidatesOf_148 ?_
                            refine lv_topi (fun y_46 ey_46 => ?_)
                            have rg_y_46 := i_rng y_46
                            refine lv_ior hx hb dX10_candidatesOf_149 ?_
                            refine lv_topi (fun y_47 ey_47 => ?_)
                            have rg_y_47 := i_rng y_47
                            refine lv_istore_n (lv' := [(2, .int y_47), (3, .int de), (4, .int y_43), (6, .int de), (5, .int k2), (0, .ref (ad 0)), (1, .ref (ad a1))]) hx hb dX10_candidatesOf_150 rfl hl (by decide) rfl (fun ls hl => ?_)
                            obtain ⟨y_48, ey_48⟩ : ∃ y : Int32, y = de + 1 := ⟨_, rfl⟩
                            first | have ty_48 := i_add (a := de.toInt) (b := 1) rfl (by decide) ey_48 (by omega) (by omega) | skip
                            refine lv_iinc (v := y_48) (lv' := [(3, .int y_48), (2, .int y_47), (4, .int y_43), (6, .int de), (5, .int k2), (0, .ref (ad 0)), (1, .ref (ad a1))]) hx hb dX10_candidatesOf_151 hl (k := 1) rfl (by rw [ey_48]; rfl) (by decide) rfl (fun ls hl => ?_)
                            refine lv_iconst (v := 0) hx hb dX10_candidatesOf_154 (by decide) ?_
                            refine lv_istore (lv' := [(4, .int 0), (3, .int y_48), (2, .int y_47), (6, .int de), (5, .int k2), (0, .ref (ad 0)), (1, .ref (ad a1))]) hx hb dX10_candidatesOf_155 hl (by decide) rfl (fun ls hl => ?_)
                            refine lv_iload hx hb dX10_candidatesOf_157 (lv_at hl 4 rfl) ?_
                            refine lv_iconst (v := 1) hx hb dX10_candidatesOf_159 (by decide) ?_
                            refine lv_iadd hx hb dX10_candidatesOf_160 ?_
                            refine lv_topi (fun y_49 ey_49 => ?_)
                            first | have ty_49 := i_add (a := k2.toInt) (b := 1) rfl (by decide) ey_49 (by omega) (by omega) | skip
                            refine lv_aload_n hx hb dX10_candidatesOf_161 rfl (lv_at hl 6 rfl) ?_
                            refine lv_iconst (v := 0) hx hb dX10_candidatesOf_162 (by decide) ?_
                            refine va_iald hx hb hK hP (rPos (a1)) (rTy (a1)) (mW_R (by first | assumption | (unfold IR; omega))) (mT_R _) (i := 0) (by unfold vp_in; decide +kernel) dX10_candidatesOf_163 ?_
                            refine lv_topi (fun y_50 ey_50 => ?_)
                            have rg_y_50 := i_rng y_50
                            have vy_50 := vI_lda (f := (rO fN fM fO) a1) (i := 0) (a := 0) ey_50 (by first | omega | decide)
                            refine lv_irem hx hb dX10_candidatesOf_164 (fun h9 => by have h8 := congrArg Int32.toInt h9; have h7 : (0 : Int32).toInt = 0 := (by decide); omega) ?_
                            refine lv_topi (fun y_51 ey_51 => ?_)
                            have ty_51 := i_rem (a := y_49.toInt) (b := y_50.toInt) rfl rfl (by omega) (by omega) ey_51
                            refine lv_istore (lv' := [(5, .int y_51), (4, .int 0), (3, .int y_48), (2, .int y_47), (6, .int de), (0, .ref (ad 0)), (1, .ref (ad a1))]) hx hb dX10_candidatesOf_165 hl (by decide) rfl (fun ls hl => ?_)
                            refine lv_goto (tgt := 57) hx hb dX10_candidatesOf_167 (by decide) ?_
                            have lit_51 : (0 : Int32).toInt = 0 := by decide
                            exact ih57 y_47 y_48 0 y_51 y_5 (by first | omega | assumption | decide) (by first | omega | assumption | decide) (by first | omega | assumption | decide) (by omega) _ _ ls hP hD hS (lv_sub hl [0, 1, 2, 3, 5, 6] rfl)
                          · have tk_45 := c_nge (a := y_43.toInt) (b := y_44.toInt) rfl rfl k_45
                            refine lv_goto (tgt := 157) hx hb dX10_candidatesOf_142 (by decide) ?_
                            refine lv_iload hx hb dX10_candidatesOf_157 (lv_at hl 3 rfl) ?_
                            refine lv_iconst (v := 1) hx hb dX10_candidatesOf_159 (by decide) ?_
                            refine lv_iadd hx hb dX10_candidatesOf_160 ?_
                            refine lv_topi (fun y_53 ey_53 => ?_)
                            first | have ty_53 := i_add (a := k2.toInt) (b := 1) rfl (by decide) ey_53 (by omega) (by omega) | skip
                            refine lv_aload_n hx hb dX10_candidatesOf_161 rfl (lv_at hl 6 rfl) ?_
                            refine lv_iconst (v := 0) hx hb dX10_candidatesOf_162 (by decide) ?_
                            refine va_iald hx hb hK hP (rPos (a1)) (rTy (a1)) (mW_R (by first | assumption | (unfold IR; omega))) (mT_R _) (i := 0) (by unfold vp_in; decide +kernel) dX10_candidatesOf_163 ?_
                            refine lv_topi (fun y_54 ey_54 => ?_)
                            have rg_y_54 := i_rng y_54
                            have vy_54 := vI_lda (f := (rO fN fM fO) a1) (i := 0) (a := 0) ey_54 (by first | omega | decide)
                            refine lv_irem hx hb dX10_candidatesOf_164 (fun h9 => by have h8 := congrArg Int32.toInt h9; have h7 : (0 : Int32).toInt = 0 := (by decide); omega) ?_
                            refine lv_topi (fun y_55 ey_55 => ?_)
                            have ty_55 := i_rem (a := y_53.toInt) (b := y_54.toInt) rfl rfl (by omega) (by omega) ey_55
                            refine lv_istore (lv' := [(5, .int y_55), (3, .int de), (4, .int y_43), (6, .int de), (2, .int se), (0, .ref (ad 0)), (1, .ref (ad a1))]) hx hb dX10_candidatesOf_165 hl (by decide) rfl (fun ls hl => ?_)
                            refine lv_goto (tgt := 57) hx hb dX10_candidatesOf_167 (by decide) ?_
                            exact ih57 se de y_43 y_55 y_5 (by first | omega | assumption | decide) (by first | omega | assumption | decide) (by first | omega | assumption | decide) (by omega) _ _ ls hP hD hS (lv_sub hl [0, 2, 1, 4, 5, 6] rfl)
                        · have tk_42 := c_nle (a := de.toInt) (b := aa.toInt) rfl rfl k_42
                          refine lv_iconst (v := 1) hx hb dX10_candidatesOf_121 (by decide) ?_
                          refine lv_goto (tgt := 129) hx hb dX10_candidatesOf_122 (by decide) ?_
                          refine lv_istore (lv' := [(4, .int 1), (6, .int de), (5, .int k2), (3, .int aa), (2, .int se), (0, .ref (ad 0)), (1, .ref (ad a1))]) hx hb dX10_candidatesOf_129 hl (by decide) rfl (fun ls hl => ?_)
                          refine lv_iload hx hb dX10_candidatesOf_131 (lv_at hl 1 rfl) ?_
                          refine lv_istore_n (lv' := [(3, .int de), (4, .int 1), (6, .int de), (5, .int k2), (2, .int se), (0, .ref (ad 0)), (1, .ref (ad a1))]) hx hb dX10_candidatesOf_133 rfl hl (by decide) rfl (fun ls hl => ?_)
                          refine lv_iload hx hb dX10_candidatesOf_134 (lv_at hl 1 rfl) ?_
                          refine lv_aload_n hx hb dX10_candidatesOf_136 rfl (lv_at hl 6 rfl) ?_
                          refine lv_iconst (v := 0) hx hb dX10_candidatesOf_137 (by decide) ?_
                          refine va_iald hx hb hK hP (rPos (a1)) (rTy (a1)) (mW_R (by first | assumption | (unfold IR; omega))) (mT_R _) (i := 0) (by unfold vp_in; decide +kernel) dX10_candidatesOf_138 ?_
                          refine lv_topi (fun y_56 ey_56 => ?_)
                          have rg_y_56 := i_rng y_56
                          have vy_56 := vI_lda (f := (rO fN fM fO) a1) (i := 0) (a := 0) ey_56 (by first | omega | decide)
                          refine lv_icmp_ge (tgt := 145) hx hb dX10_candidatesOf_139 (by decide) (fun k_57 => ?_) (fun k_57 => ?_)
                          · have tk_57 := c_ge (a := 1) (b := y_56.toInt) (by decide) rfl k_57
                            refine lv_iload_n hx hb dX10_candidatesOf_145 rfl (lv_at hl 4 rfl) ?_
                            refine lv_iconst (v := 1) hx hb dX10_candidatesOf_146 (by decide) ?_
                            refine lv_iload_n hx hb dX10_candidatesOf_147 rfl (lv_at hl 0 rfl) ?_
                            refine lv_ishl hx hb dX10_candidatesOf_148 ?_
                            refine lv_topi (fun y_58 ey_58 => ?_)
                            have rg_y_58 := i_rng y_58
                            refine lv_ior hx hb dX10_candidatesOf_149 ?_
                            refine lv_topi (fun y_59 ey_59 => ?_)
                            have rg_y_59 := i_rng y_59
                            refine lv_istore_n (lv' := [(2, .int y_59), (3, .int de), (4, .int 1), (6, .int de), (5, .int k2), (0, .ref (ad 0)), (1, .ref (ad a1))]) hx hb dX10_candidatesOf_150 rfl hl (by decide) rfl (fun ls hl => ?_)
                            obtain ⟨y_60, ey_60⟩ : ∃ y : Int32, y = de + 1 := ⟨_, rfl⟩
                            first | have ty_60 := i_add (a := de.toInt) (b := 1) rfl (by decide) ey_60 (by omega) (by omega) | skip
                            refine lv_iinc (v := y_60) (lv' := [(3, .int y_60), (2, .int y_59), (4, .int 1), (6, .int de), (5, .int k2), (0, .ref (ad 0)), (1, .ref (ad a1))]) hx hb dX10_candidatesOf_151 hl (k := 1) rfl (by rw [ey_60]; rfl) (by decide) rfl (fun ls hl => ?_)
                            refine lv_iconst (v := 0) hx hb dX10_candidatesOf_154 (by decide) ?_
                            refine lv_istore (lv' := [(4, .int 0), (3, .int y_60), (2, .int y_59), (6, .int de), (5, .int k2), (0, .ref (ad 0)), (1, .ref (ad a1))]) hx hb dX10_candidatesOf_155 hl (by decide) rfl (fun ls hl => ?_)
                            refine lv_iload hx hb dX10_candidatesOf_157 (lv_at hl 4 rfl) ?_
                            refine lv_iconst (v := 1) hx hb dX10_candidatesOf_159 (by decide) ?_
                            refine lv_iadd hx hb dX10_candidatesOf_160 ?_
                            refine lv_topi (fun y_61 ey_61 => ?_)
                            first | have ty_61 := i_add (a := k2.toInt) (b := 1) rfl (by decide) ey_61 (by omega) (by omega) | skip
                            refine lv_aload_n hx hb dX10_candidatesOf_161 rfl (lv_at hl 6 rfl) ?_
                            refine lv_iconst (v := 0) hx hb dX10_candidatesOf_162 (by decide) ?_
                            refine va_iald hx hb hK hP (rPos (a1)) (rTy (a1)) (mW_R (by first | assumption | (unfold IR; omega))) (mT_R _) (i := 0) (by unfold vp_in; decide +kernel) dX10_candidatesOf_163 ?_
                            refine lv_topi (fun y_62 ey_62 => ?_)
                            have rg_y_62 := i_rng y_62
                            have vy_62 := vI_lda (f := (rO fN fM fO) a1) (i := 0) (a := 0) ey_62 (by first | omega | decide)
                            refine lv_irem hx hb dX10_candidatesOf_164 (fun h9 => by have h8 := congrArg Int32.toInt h9; have h7 : (0 : Int32).toInt = 0 := (by decide); omega) ?_
                            refine lv_topi (fun y_63 ey_63 => ?_)
                            have ty_63 := i_rem (a := y_61.toInt) (b := y_62.toInt) rfl rfl (by omega) (by omega) ey_63
                            refine lv_istore (lv' := [(5, .int y_63), (4, .int 0), (3, .int y_60), (2, .int y_59), (6, .int de), (0, .ref (ad 0)), (1, .ref (ad a1))]) hx hb dX10_candidatesOf_165 hl (by decide) rfl (fun ls hl => ?_)
                            refine lv_goto (tgt := 57) hx hb dX10_candidatesOf_167 (by decide) ?_
                            have lit_63 : (0 : Int32).toInt = 0 := by decide
                            exact ih57 y_59 y_60 0 y_63 y_5 (by first | omega | assumption | decide) (by first | omega | assumption | decide) (by first | omega | assumption | decide) (by omega) _ _ ls hP hD hS (lv_sub hl [0, 1, 2, 3, 5, 6] rfl)
                          · have tk_57 := c_nge (a := 1) (b := y_56.toInt) (by decide) rfl k_57
                            refine lv_goto (tgt := 157) hx hb dX10_candidatesOf_142 (by decide) ?_
                            refine lv_iload hx hb dX10_candidatesOf_157 (lv_at hl 3 rfl) ?_
                            refine lv_iconst (v := 1) hx hb dX10_candidatesOf_159 (by decide) ?_
                            refine lv_iadd hx hb dX10_candidatesOf_160 ?_
                            refine lv_topi (fun y_65 ey_65 => ?_)
                            first | have ty_65 := i_add (a := k2.toInt) (b := 1) rfl (by decide) ey_65 (by omega) (by omega) | skip
                            refine lv_aload_n hx hb dX10_candidatesOf_161 rfl (lv_at hl 6 rfl) ?_
                            refine lv_iconst (v := 0) hx hb dX10_candidatesOf_162 (by decide) ?_
                            refine va_iald hx hb hK hP (rPos (a1)) (rTy (a1)) (mW_R (by first | assumption | (unfold IR; omega))) (mT_R _) (i := 0) (by unfold vp_in; decide +kernel) dX10_candidatesOf_163 ?_
                            refine lv_topi (fun y_66 ey_66 => ?_)
                            have rg_y_66 := i_rng y_66
                            have vy_66 := vI_lda (f := (rO fN fM fO) a1) (i := 0) (a := 0) ey_66 (by first | omega | decide)
                            refine lv_irem hx hb dX10_candidatesOf_164 (fun h9 => by have h8 := congrArg Int32.toInt h9; have h7 : (0 : Int32).toInt = 0 := (by decide); omega) ?_
                            refine lv_topi (fun y_67 ey_67 => ?_)
                            have ty_67 := i_rem (a := y_65.toInt) (b := y_66.toInt) rfl rfl (by omega) (by omega) ey_67
                            refine lv_istore (lv' := [(5, .int y_67), (3, .int de), (4, .int 1), (6, .int de), (2, .int se), (0, .ref (ad 0)), (1, .ref (ad a1))]) hx hb dX10_candidatesOf_165 hl (by decide) rfl (fun ls hl => ?_)
                            refine lv_goto (tgt := 57) hx hb dX10_candidatesOf_167 (by decide) ?_
                            have lit_67 : (1 : Int32).toInt = 1 := by decide
                            exact ih57 se de 1 y_67 y_5 (by first | omega | assumption | decide) (by first | omega | assumption | decide) (by first | omega | assumption | decide) (by omega) _ _ ls hP hD hS (lv_sub hl [0, 2, 1, 4, 5, 6] rfl)
                      · have tk_41 := c_nlt (a := de.toInt) (b := y_40.toInt) rfl rfl k_41
                        refine lv_iload_n hx hb dX10_candidatesOf_113 rfl (lv_at hl 4 rfl) ?_
                        exact W.iret hx hb hr (fun t ht hW => ⟨⟨_, _, rfl, rfl, y_5, ga, by rw [ht]; exact hP, va_K.moved hW.alike hK, hD⟩, hS.F ht⟩) hS.2.2 dX10_candidatesOf_114
                    · have tk_39 := c_eq (a := r_38.toInt) (b := 0) rfl (by decide) k_39
                      obtain ⟨y_69, ey_69⟩ : ∃ y : Int32, y = de + 1 := ⟨_, rfl⟩
                      first | have ty_69 := i_add (a := de.toInt) (b := 1) rfl (by decide) ey_69 (by omega) (by omega) | skip
                      refine lv_iinc (v := y_69) (lv' := [(6, .int y_69), (5, .int k2), (4, .int ag), (3, .int aa), (2, .int se), (0, .ref (ad 0)), (1, .ref (ad a1))]) hx hb dX10_candidatesOf_96 hl (k := 0) rfl (by rw [ey_69]; rfl) (by decide) rfl (fun ls hl => ?_)
                      refine lv_goto (tgt := 70) hx hb dX10_candidatesOf_99 (by decide) ?_
                      exact ih70 y_69 (by first | omega | assumption | decide) (by omega) _ _ ls hP hD hS (lv_sub hl [0, 1, 2, 3, 4, 5, 6] rfl)
              exact loop70 _ aa (by first | omega | assumption | decide) (Nat.lt_succ_self _) _ _ ls hP hD hS (lv_sub hl [0, 1, 2, 3, 4, 5, 6] rfl)
          have lit_69 : (0 : Int32).toInt = 0 := by decide
          have lit_70 : (0 : Int32).toInt = 0 := by decide
          have lit_71 : (0 : Int32).toInt = 0 := by decide
          have lit_72 : (0 : Int32).toInt = 0 := by decide
          exact loop57 _ 0 0 0 0 x21 (by first | omega | assumption | decide) (by first | omega | assumption | decide) (by first | omega | assumption | decide) (Nat.lt_succ_self _) _ _ ls hP hD hS (lv_sub hl [0, 1, 2, 3, 4, 5] rfl)
        · have tk_4 := c_nge (a := kk.toInt) (b := y_3.toInt) rfl rfl k_4
          refine lv_aload_n hx hb dX10_candidatesOf_26 rfl (lv_at hl 1 rfl) ?_
          refine va_get (D := (dC, dI)) (ci := 10) (v := .ref (ad 20)) (C := RX10) (T := TX10) (N := 48) hx hb hts fin_X10_candidatesOfm_X10 hown hK hP 0 rfl rfl 44 (by decide) (hts (.fieldLink RX10 92 "PatternGateModel" "lists" "[I") (List.mem_of_getElem? (i := 3) (by decide +kernel))) (fun _ h9 => h9) rfl dX10_candidatesOf_27 ?_
          refine lv_iload_n hx hb dX10_candidatesOf_30 rfl (lv_at hl 0 rfl) ?_
          refine lv_aload_n hx hb dX10_candidatesOf_31 rfl (lv_at hl 1 rfl) ?_
          refine lv_aload_n hx hb dX10_candidatesOf_32 rfl (lv_at hl 2 rfl) ?_
          refine lv_iload_n hx hb dX10_candidatesOf_33 rfl (lv_at hl 0 rfl) ?_
          refine lv_iconst (v := 1) hx hb dX10_candidatesOf_34 (by decide) ?_
          refine lv_iadd hx hb dX10_candidatesOf_35 ?_
          refine lv_topi (fun y_74 ey_74 => ?_)
          first | have ty_74 := i_add (a := kk.toInt) (b := 1) rfl (by decide) ey_74 (by omega) (by omega) | skip
          refine va_iald hx hb hK hP (rPos (a1)) (rTy (a1)) (mW_R (by first | assumption | (unfold IR; omega))) (mT_R _) (i := y_74) (vp_of (a := y_74.toInt) rfl (by omega) (by omega)) dX10_candidatesOf_36 ?_
          refine lv_topi (fun y_75 ey_75 => ?_)
          have rg_y_75 := i_rng y_75
          have vy_75 := vI_lda (f := (rO fN fM fO) a1) (i := y_74) (a := (kk.toInt + 1)) ey_75 (by first | omega | decide)
          have hFc := m_free hD hS hA
          refine va_calli (va_runV (As := [.int y_75]) (rest := [.int kk, .ref (ad 20)]) ⟨hx, hb, hml, hown, hts⟩ (m_listOf l dC dI ad kc x0 x1 x2 x3 x4 x5 x6 x7 x8 x9 x10 x11 x12 x13 x14 x15 x16 x17 x18 x19 x20 x21 f0 f1 f2 f3 f4 f5 f6 f7 f8 f9 f10 f11 f12 f13 f14 f15 f16 f17 f18 ga f20 f21 fL fN fP fM fO H.size y_75 (by first | omega | assumption | decide | (have l0 := Int32.toInt_zero; omega))) (cwV 1 hts mg_X10_candidatesOfm_X10_listOf_414 rfl rfl rfl (by decide +kernel) ⟨Nat.le_of_ble_eq_true rfl, Nat.le_of_ble_eq_true rfl⟩) ⟨fun a U g mk q => by obtain ⟨q0, q1, qP, qK, qD⟩ := q; exact ⟨q0, q1, qP, va_K.moved (u := U) (U := U.calling g mk a) (Vm.Alike.refl U.vm) qK, qD⟩, va_recv hK hP (ci := 10) (q0 := 0) rfl rfl, fun U hU hW => ⟨rfl, by rw [hU], by rw [hU]; exact hP, va_K.moved hW.alike hK, hD.weaken (fun _ _ _ _ => trivial)⟩⟩ rfl rfl hl.1 rfl (lv_room (Nat.le_of_ble_eq_true rfl)) dX10_candidatesOf_37 ⟨Nat.le_of_ble_eq_true rfl, Nat.le_of_ble_eq_true rfl⟩) hS (fun q _ h => hFc q h) hFc (fun r_76 u t H1 locs ht hvm hw hB hz1 hk1 hS => ?_)
          subst hw
          obtain ⟨hP, hK1, hD1⟩ := hB
          rw [ht] at hP
          have hD := hD1.weaken (fun k q _ h => hFc q.1 h)
          clear hz1 hk1 hFc hD1 hK1 hvm
          generalize H1 = H at hP hS ⊢
          have rg_r_76 := i_rng r_76
          have hP : va_P (dC, dI) vwCl (mW ad kc x0 x1 x2 x3 x4 x5 x6 x7 x8 x9 x10 x11 x12 x13 x14 x15 x16 x17 x18 x19 x20 x21 f0 f1 f2 f3 f4 f5 f6 f7 f8 f9 f10 f11 f12 f13 f14 f15 f16 f17 f18 ga f20 f21 fL fN fP fM fO) H := hP
          have hD : va_D A (mW ad kc x0 x1 x2 x3 x4 x5 x6 x7 x8 x9 x10 x11 x12 x13 x14 x15 x16 x17 x18 x19 x20 x21 f0 f1 f2 f3 f4 f5 f6 f7 f8 f9 f10 f11 f12 f13 f14 f15 f16 f17 f18 ga f20 f21 fL fN fP fM fO) := hD
          refine va_iast hx hb hK hP hD hS 20 19 rfl rfl (i := kk) (vp_of (a := kk.toInt) rfl (by omega) (by omega)) dX10_candidatesOf_40 (fun H locs hP hD hS => ?_)
          generalize hf_f_77 : upd ga _ _ = f_77 at hP hD
          have hP : va_P (dC, dI) vwCl (mW ad kc x0 x1 x2 x3 x4 x5 x6 x7 x8 x9 x10 x11 x12 x13 x14 x15 x16 x17 x18 x19 x20 x21 f0 f1 f2 f3 f4 f5 f6 f7 f8 f9 f10 f11 f12 f13 f14 f15 f16 f17 f18 f_77 f20 f21 fL fN fP fM fO) H := hP
          have hD : va_D A (mW ad kc x0 x1 x2 x3 x4 x5 x6 x7 x8 x9 x10 x11 x12 x13 x14 x15 x16 x17 x18 x19 x20 x21 f0 f1 f2 f3 f4 f5 f6 f7 f8 f9 f10 f11 f12 f13 f14 f15 f16 f17 f18 f_77 f20 f21 fL fN fP fM fO) := hD
          obtain ⟨y_78, ey_78⟩ : ∃ y : Int32, y = kk + 1 := ⟨_, rfl⟩
          first | have ty_78 := i_add (a := kk.toInt) (b := 1) rfl (by decide) ey_78 (by omega) (by omega) | skip
          refine lv_iinc (v := y_78) (lv' := [(2, .int y_78), (0, .ref (ad 0)), (1, .ref (ad a1))]) hx hb dX10_candidatesOf_41 hl (k := 0) rfl (by rw [ey_78]; rfl) (by decide) rfl (fun ls hl => ?_)
          refine lv_goto (tgt := 19) hx hb dX10_candidatesOf_44 (by decide) ?_
          exact ih19 y_78 f_77 (by first | omega | assumption | decide) (by omega) _ _ ls hP hD hS (lv_sub hl [0, 1, 2] rfl)
    have lit_78 : (0 : Int32).toInt = 0 := by decide
    exact loop19 _ 0 f19 (by first | omega | assumption | decide) (Nat.lt_succ_self _) _ _ ls hP hD hS (lv_sub hl [0, 1, 2] rfl)
  · have tk_2 := c_eq (a := y_1.toInt) (b := 0) rfl (by decide) k_2
    refine lv_iconst (v := 1) hx hb dX10_candidatesOf_6 (by decide) ?_
    refine lv_aload_n hx hb dX10_candidatesOf_7 rfl (lv_at hl 0 rfl) ?_
    refine va_get (D := (dC, dI)) (ci := 10) (v := .ref (ad 1)) (C := RX10) (T := TX10) (N := 48) hx hb hts fin_X10_candidatesOfm_X10 hown hK hP 0 rfl rfl 0 (by decide) (hts (.fieldLink RX10 8 "PatternGateModel" "all" "[I") (List.mem_of_getElem? (i := 2) (by decide +kernel))) (fun _ h9 => h9) rfl dX10_candidatesOf_8 ?_
    refine lv_iconst (v := 0) hx hb dX10_candidatesOf_11 (by decide) ?_
    refine va_iald hx hb hK hP 1 0 rfl rfl (i := 0) (by unfold vp_in; decide +kernel) dX10_candidatesOf_12 ?_
    refine lv_topi (fun y_80 ey_80 => ?_)
    have rg_y_80 := i_rng y_80
    have vy_80 := vI_lda (f := f0) (i := 0) (a := 0) ey_80 (by first | omega | decide)
    have rg_y_80 := i_rng y_80
    refine lv_ishl hx hb dX10_candidatesOf_13 ?_
    refine lv_topi (fun y_81 ey_81 => ?_)
    have rg_y_81 := i_rng y_81
    refine lv_iconst (v := 1) hx hb dX10_candidatesOf_14 (by decide) ?_
    refine lv_isub hx hb dX10_candidatesOf_15 ?_
    refine lv_topi (fun y_82 ey_82 => ?_)
    first | have ty_82 := i_sub (a := y_81.toInt) (b := 1) rfl (by decide) ey_82 (by omega) (by omega) | skip
    exact W.iret hx hb hr (fun t ht hW => ⟨⟨_, _, rfl, rfl, x21, f19, by rw [ht]; exact hP, va_K.moved hW.alike hK, hD⟩, hS.F ht⟩) hS.2.2 dX10_candidatesOf_16
theorem dX10_candidates_0 : decode cX10_candidates 0 = .ok (.aload_n 0, 1) := by decide +kernel
theorem dX10_candidates_1 : decode cX10_candidates 1 = .ok (.iload_n 1, 1) := by decide +kernel
theorem dX10_candidates_2 : decode cX10_candidates 2 = .ok (.invokevirtual 420, 3) := by decide +kernel
theorem dX10_candidates_5 : decode cX10_candidates 5 = .ok (.aload_n 0, 1) := by decide +kernel
theorem dX10_candidates_6 : decode cX10_candidates 6 = .ok (.iconst 0, 1) := by decide +kernel
theorem dX10_candidates_7 : decode cX10_candidates 7 = .ok (.putfield 417, 3) := by decide +kernel
theorem dX10_candidates_10 : decode cX10_candidates 10 = .ok (.iconst 0, 1) := by decide +kernel
theorem dX10_candidates_11 : decode cX10_candidates 11 = .ok (.istore_n 2, 1) := by decide +kernel
theorem dX10_candidates_12 : decode cX10_candidates 12 = .ok (.iconst 0, 1) := by decide +kernel
theorem dX10_candidates_13 : decode cX10_candidates 13 = .ok (.istore_n 3, 1) := by decide +kernel
theorem dX10_candidates_14 : decode cX10_candidates 14 = .ok (.iload_n 3, 1) := by decide +kernel
theorem dX10_candidates_15 : decode cX10_candidates 15 = .ok (.aload_n 0, 1) := by decide +kernel
theorem dX10_candidates_16 : decode cX10_candidates 16 = .ok (.getfield 64, 3) := by decide +kernel
theorem dX10_candidates_19 : decode cX10_candidates 19 = .ok (.iconst 0, 1) := by decide +kernel
theorem dX10_candidates_20 : decode cX10_candidates 20 = .ok (.iaload, 1) := by decide +kernel
theorem dX10_candidates_21 : decode cX10_candidates 21 = .ok (.if_icmp .ge 24, 3) := by decide +kernel
theorem dX10_candidates_24 : decode cX10_candidates 24 = .ok (.iload_n 2, 1) := by decide +kernel
theorem dX10_candidates_25 : decode cX10_candidates 25 = .ok (.aload_n 0, 1) := by decide +kernel
theorem dX10_candidates_26 : decode cX10_candidates 26 = .ok (.aload_n 0, 1) := by decide +kernel
theorem dX10_candidates_27 : decode cX10_candidates 27 = .ok (.getfield 56, 3) := by decide +kernel
theorem dX10_candidates_30 : decode cX10_candidates 30 = .ok (.iconst 0, 1) := by decide +kernel
theorem dX10_candidates_31 : decode cX10_candidates 31 = .ok (.aaload, 1) := by decide +kernel
theorem dX10_candidates_32 : decode cX10_candidates 32 = .ok (.iload_n 3, 1) := by decide +kernel
theorem dX10_candidates_33 : decode cX10_candidates 33 = .ok (.aaload, 1) := by decide +kernel
theorem dX10_candidates_34 : decode cX10_candidates 34 = .ok (.invokevirtual 423, 3) := by decide +kernel
theorem dX10_candidates_37 : decode cX10_candidates 37 = .ok (.ior, 1) := by decide +kernel
theorem dX10_candidates_38 : decode cX10_candidates 38 = .ok (.istore_n 2, 1) := by decide +kernel
theorem dX10_candidates_39 : decode cX10_candidates 39 = .ok (.iinc 3 1, 3) := by decide +kernel
theorem dX10_candidates_42 : decode cX10_candidates 42 = .ok (.goto (-28), 3) := by decide +kernel
theorem dX10_candidates_45 : decode cX10_candidates 45 = .ok (.iload_n 2, 1) := by decide +kernel
theorem dX10_candidates_46 : decode cX10_candidates 46 = .ok (.ireturn, 1) := by decide +kernel
def mwX10_candidatesm : List Cond := .code yX10_candidates cX10_candidates 4 (some .int) :: (([.methodLink RX10 420 yX10_needsOf, .instanceMethod yX10_needsOf, .selects RX10 yX10_needsOf yX10_needsOf, .initialized RX10, .fieldLink RX10 417 "PatternGateModel" "leaps" "I", .fieldLink RX10 64 "PatternGateModel" "needMany" "[I", .fieldLink RX10 56 "PatternGateModel" "needs" "[[[I", .methodLink RX10 423 yX10_candidatesOf, .instanceMethod yX10_candidatesOf, .selects RX10 yX10_candidatesOf yX10_candidatesOf] : List Cond) ++ (wsX100 ++ (mwX10_needsOfm ++ (mwX10_candidatesOfm))))
theorem fin_X10_candidatesm_X10 : ∀ w ∈ wsX100, w ∈ mwX10_candidatesm := fun w h => List.mem_cons_of_mem _ (List.mem_append_right _ (List.mem_append_left _ h))
set_option maxRecDepth 100000 in
theorem gd_mwX10_needsOfm : mwX10_needsOfm.all goodWord = true := by decide +kernel
set_option maxRecDepth 100000 in
theorem gd_mwX10_candidatesOfm : mwX10_candidatesOfm.all goodWord = true := by decide +kernel
set_option maxRecDepth 20000 in
theorem mg_X10_candidatesm_X10_needsOf_420 : GoodIn mwX10_candidatesm (wsV RX10 420 RX10 yX10_needsOf mwX10_needsOfm) := gi_app (A := [.methodLink RX10 420 yX10_needsOf, .instanceMethod yX10_needsOf, .selects RX10 yX10_needsOf yX10_needsOf, .initialized RX10]) (goodIn_r _ [1, 2, 3, 4] (by decide +kernel) (by decide +kernel)) (gi_sub gd_mwX10_needsOfm (fun w h => List.mem_cons_of_mem _ (List.mem_append_right _ (List.mem_append_right _ (List.mem_append_left _ h)))))
set_option maxRecDepth 20000 in
theorem mg_X10_candidatesm_X10_candidatesOf_423 : GoodIn mwX10_candidatesm (wsV RX10 423 RX10 yX10_candidatesOf mwX10_candidatesOfm) := gi_app (A := [.methodLink RX10 423 yX10_candidatesOf, .instanceMethod yX10_candidatesOf, .selects RX10 yX10_candidatesOf yX10_candidatesOf, .initialized RX10]) (goodIn_r _ [8, 9, 10, 4] (by decide +kernel) (by decide +kernel)) (gi_sub gd_mwX10_candidatesOfm (fun w h => List.mem_cons_of_mem _ (List.mem_append_right _ (List.mem_append_right _ (List.mem_append_right _ (h))))))
set_option maxHeartbeats 4000000 in
set_option maxRecDepth 100000 in
theorem m_candidates (l : Launch) (dC : Nat → ClassId) (dI : Nat → Nat → Nat) (ad : Nat → Nat) (kc : Nat → ClassId) (x0 x1 x2 x3 x4 x5 x6 x7 x8 x9 x10 x11 x12 x13 x14 x15 x16 x17 x18 x19 x20 x21 : Int32) (f0 f1 f2 f3 f4 f5 f6 f7 f8 f9 f10 f11 f12 f13 f14 f15 f16 f17 f18 f19 f20 f21 : Nat → Int32) (fL : Nat → Nat → Int64) (fN : Nat → Nat → Int32) (fP : Nat → Nat → Nat) (fM : Nat → Nat → Int32) (fO : Nat → Nat → Int32) (sz : Nat) (i1 : Int32) (q0 : OKd f0 0) (q1 : 0 ≤ i1.toInt ∧ i1.toInt < vI f0 611) (q2 : PI fP) : Met l yX10_candidates mwX10_candidatesm ({ frames := 42, cells := 0, slots := 0, locals := 2520 }) (va_Pc [.ref (ad 0), .int i1] (fun U => U.heap.size = sz ∧ va_P (dC, dI) vwCl (mW ad kc x0 x1 x2 x3 x4 x5 x6 x7 x8 x9 x10 x11 x12 x13 x14 x15 x16 x17 x18 x19 x20 x21 f0 f1 f2 f3 f4 f5 f6 f7 f8 f9 f10 f11 f12 f13 f14 f15 f16 f17 f18 f19 f20 f21 fL fN fP fM fO) U.heap ∧ va_K (dC, dI) vwCl (mT kc) U ∧ va_D (fun _ => True) (mW ad kc x0 x1 x2 x3 x4 x5 x6 x7 x8 x9 x10 x11 x12 x13 x14 x15 x16 x17 x18 x19 x20 x21 f0 f1 f2 f3 f4 f5 f6 f7 f8 f9 f10 f11 f12 f13 f14 f15 f16 f17 f18 f19 f20 f21 fL fN fP fM fO) ∧ (Cond.arrayOver (.array .int)).before #[] U = true)) (va_Qi (fun (o9 u9 : Int32) => o9 = u9) (fun (o9 : Int32) t => ∃ (y12 y13 y14 y15 y16 y17 y18 y19 y21 : Int32) (g3 g4 g5 g6 g7 g8 g9 g10 g11 g19 : Nat → Int32) (L9 : Nat → Nat → Int64) (Nn9 : Nat → Nat → Int32) (P9 : Nat → Nat → Nat) (M9 : Nat → Nat → Int32) (O9 : Nat → Nat → Int32), (PI P9) ∧ va_P (dC, dI) vwCl (mW ad kc x0 x1 x2 x3 x4 x5 x6 x7 x8 x9 x10 x11 y12 y13 y14 y15 y16 y17 y18 y19 x20 y21 f0 f1 f2 g3 g4 g5 g6 g7 g8 g9 g10 g11 f12 f13 f14 f15 f16 f17 f18 g19 f20 f21 L9 Nn9 P9 M9 O9) t.heap ∧ va_K (dC, dI) vwCl (mT kc) t ∧ va_D (va_A (mW ad kc x0 x1 x2 x3 x4 x5 x6 x7 x8 x9 x10 x11 x12 x13 x14 x15 x16 x17 x18 x19 x20 x21 f0 f1 f2 f3 f4 f5 f6 f7 f8 f9 f10 f11 f12 f13 f14 f15 f16 f17 f18 f19 f20 f21 fL fN fP fM fO) sz) (mW ad kc x0 x1 x2 x3 x4 x5 x6 x7 x8 x9 x10 x11 y12 y13 y14 y15 y16 y17 y18 y19 x20 y21 f0 f1 f2 g3 g4 g5 g6 g7 g8 g9 g10 g11 f12 f13 f14 f15 f16 f17 f18 g19 f20 f21 L9 Nn9 P9 M9 O9)) (va_A (mW ad kc x0 x1 x2 x3 x4 x5 x6 x7 x8 x9 x10 x11 x12 x13 x14 x15 x16 x17 x18 x19 x20 x21 f0 f1 f2 f3 f4 f5 f6 f7 f8 f9 f10 f11 f12 f13 f14 f15 f16 f17 f18 f19 f20 f21 fL fN fP fM fO) sz)) 0 0 (va_A (mW ad kc x0 x1 x2 x3 x4 x5 x6 x7 x8 x9 x10 x11 x12 x13 x14 x15 x16 x17 x18 x19 x20 x21 f0 f1 f2 f3 f4 f5 f6 f7 f8 f9 f10 f11 f12 f13 f14 f15 f16 f17 f18 f19 f20 f21 fL fN fP fM fO) sz) := by
  refine Met.ofW (cc := cX10_candidates) (maxL := 4) (ret := (some .int)) (by decide +kernel) rfl ?_
  intro p e s m args below meth c s₁ B hml hv
  obtain ⟨rfl, hsz, hP, hK, hD0, hOV⟩ := hv
  have hx := B.exec
  have hb := B.bytes
  have hr := B.returns
  have hts := atoms_spec (ws := mwX10_candidatesm) B.pre
  have hown : s.vm.findClass RX10 = some m.cls := findClass_of_methodNamed B.named
  have hlocks := B.notSynchronized
  subst hsz
  have hD := hD0.self (sz := s.heap.size)
  generalize hAe : va_A (mW ad kc x0 x1 x2 x3 x4 x5 x6 x7 x8 x9 x10 x11 x12 x13 x14 x15 x16 x17 x18 x19 x20 x21 f0 f1 f2 f3 f4 f5 f6 f7 f8 f9 f10 f11 f12 f13 f14 f15 f16 f17 f18 f19 f20 f21 fL fN fP fM fO) s.heap.size = A at hD ⊢
  have hA : ∀ q : Nat, s.heap.size ≤ q → A q := fun q h => by rw [← hAe]; exact Or.inr h
  have hP : va_P (dC, dI) vwCl (mW ad kc x0 x1 x2 x3 x4 x5 x6 x7 x8 x9 x10 x11 x12 x13 x14 x15 x16 x17 x18 x19 x20 x21 f0 f1 f2 f3 f4 f5 f6 f7 f8 f9 f10 f11 f12 f13 f14 f15 f16 f17 f18 f19 f20 f21 fL fN fP fM fO) s.heap := hP
  have hD : va_D A (mW ad kc x0 x1 x2 x3 x4 x5 x6 x7 x8 x9 x10 x11 x12 x13 x14 x15 x16 x17 x18 x19 x20 x21 f0 f1 f2 f3 f4 f5 f6 f7 f8 f9 f10 f11 f12 f13 f14 f15 f16 f17 f18 f19 f20 f21 fL fN fP fM fO) := hD
  have hK : va_K (dC, dI) vwCl (mT kc) s := hK
  generalize hH : s.heap = H at hP ⊢
  have hS : va_S A s.heap H [] := by rw [← hH]; exact va_S.rf
  have hl := lv_entry ([.ref (ad 0), .int i1]) (n := 4) (Nat.le_of_ble_eq_true rfl)
  rw [lg_entry_eq]
  generalize (lg_sl ([.ref (ad 0), .int i1]) ++ List.replicate (4 - (lg_sl ([.ref (ad 0), .int i1])).length) Slot.unset).toArray = ls at hl ⊢
  have hl : lv_has ls 4 [(0, .ref (ad 0)), (1, .int i1)] := hl
  have rg_i1 := i_rng i1
  refine lv_aload_n hx hb dX10_candidates_0 rfl (lv_at hl 0 rfl) ?_
  refine lv_iload_n hx hb dX10_candidates_1 rfl (lv_at hl 1 rfl) ?_
  have hFc := m_free hD hS hA
  refine va_callv (va_runV (As := [.int i1]) (rest := []) ⟨hx, hb, hml, hown, hts⟩ (m_needsOf l dC dI ad kc x0 x1 x2 x3 x4 x5 x6 x7 x8 x9 x10 x11 x12 x13 x14 x15 x16 x17 x18 x19 x20 x21 f0 f1 f2 f3 f4 f5 f6 f7 f8 f9 f10 f11 f12 f13 f14 f15 f16 f17 f18 f19 f20 f21 fL fN fP fM fO H.size i1 (by first | omega | assumption | decide | (have l0 := Int32.toInt_zero; omega)) (by first | omega | assumption | decide | (have l0 := Int32.toInt_zero; omega)) (by first | omega | assumption | decide | (have l0 := Int32.toInt_zero; omega))) (cwV 1 hts mg_X10_candidatesm_X10_needsOf_420 rfl rfl rfl (by decide +kernel) ⟨Nat.le_of_ble_eq_true rfl, Nat.le_of_ble_eq_true rfl⟩) ⟨fun a U g mk q => by obtain ⟨q0, q1, qP, qK, qD, qE⟩ := q; exact ⟨q0, q1, qP, va_K.moved (u := U) (U := U.calling g mk a) (Vm.Alike.refl U.vm) qK, qD, over_moved (u := U) (E := U.calling g mk a) (Vm.Alike.refl U.vm) qE⟩, va_recv hK hP (ci := 10) (q0 := 0) rfl rfl, fun U hU hW => ⟨rfl, by rw [hU], by rw [hU]; exact hP, va_K.moved hW.alike hK, hD.weaken (fun _ _ _ _ => trivial), over_moved hW.alike hOV⟩⟩ rfl rfl hl.1 rfl (lv_room (Nat.le_of_ble_eq_true rfl)) dX10_candidates_2 ⟨Nat.le_of_ble_eq_true rfl, Nat.le_of_ble_eq_true rfl⟩) hS (fun q _ h => hFc q h) hFc (fun u t H1 locs ht hvm hw hB hz1 hk1 hS => ?_)
  obtain ⟨x_2, x_3, x_4, x_5, x_6, x_7, x_8, x_9, f_10, f_11, f_12, f_13, f_14, f_15, f_16, f_17, f_18, L_19, Nn_20, P_21, M_22, O_23, hr_1_0, hr_1_1, hr_1_2, hr_1_3, hr_1_4, hP, hK1, hD1⟩ := hB
  rw [ht] at hP
  have hD := hD1.weaken (fun k q _ h => hFc q.1 h)
  clear hz1 hk1 hFc hD1 hK1 hvm
  generalize H1 = H at hP hS ⊢
  have rg_x_2 := i_rng x_2
  have rg_x_3 := i_rng x_3
  have rg_x_4 := i_rng x_4
  have rg_x_5 := i_rng x_5
  have rg_x_6 := i_rng x_6
  have rg_x_7 := i_rng x_7
  have rg_x_8 := i_rng x_8
  have rg_x_9 := i_rng x_9
  have hP : va_P (dC, dI) vwCl (mW ad kc x0 x1 x2 x3 x4 x5 x6 x7 x8 x9 x10 x11 x_2 x_3 x_4 x_5 x_6 x_7 x_8 x_9 x20 x21 f0 f1 f2 f_10 f_11 f_12 f_13 f_14 f_15 f_16 f_17 f_18 f12 f13 f14 f15 f16 f17 f18 f19 f20 f21 L_19 Nn_20 P_21 M_22 O_23) H := hP
  have hD : va_D A (mW ad kc x0 x1 x2 x3 x4 x5 x6 x7 x8 x9 x10 x11 x_2 x_3 x_4 x_5 x_6 x_7 x_8 x_9 x20 x21 f0 f1 f2 f_10 f_11 f_12 f_13 f_14 f_15 f_16 f_17 f_18 f12 f13 f14 f15 f16 f17 f18 f19 f20 f21 L_19 Nn_20 P_21 M_22 O_23) := hD
  have hPI9 := hr_1_0
  have hN9 := hr_1_1
  have hN9a := hN9.2.1
  refine lv_aload_n hx hb dX10_candidates_5 rfl (lv_at hl 0 rfl) ?_
  refine lv_iconst (v := 0) hx hb dX10_candidates_6 (by decide) ?_
  refine va_put (D := (dC, dI)) (ci := 10) (v := .int 0) (ty := .int) (C := RX10) (T := TX10) (N := 48) hx hb hts fin_X10_candidatesm_X10 tyX10 tyX10_ok nmX10 hown hK hP hD hS 0 rfl rfl 43 (by decide) (hts (.fieldLink RX10 417 "PatternGateModel" "leaps" "I") (List.mem_of_getElem? (i := 5) (by decide +kernel))) (fun _ h9 => h9) rfl (by decide +kernel) rfl rfl (Nat.le_of_ble_eq_true rfl) dX10_candidates_7 (fun H locs hP hD hS => ?_)
  have hP : va_P (dC, dI) vwCl (mW ad kc x0 x1 x2 x3 x4 x5 x6 x7 x8 x9 x10 x11 x_2 x_3 x_4 x_5 x_6 x_7 x_8 x_9 x20 0 f0 f1 f2 f_10 f_11 f_12 f_13 f_14 f_15 f_16 f_17 f_18 f12 f13 f14 f15 f16 f17 f18 f19 f20 f21 L_19 Nn_20 P_21 M_22 O_23) H := hP
  have hD : va_D A (mW ad kc x0 x1 x2 x3 x4 x5 x6 x7 x8 x9 x10 x11 x_2 x_3 x_4 x_5 x_6 x_7 x_8 x_9 x20 0 f0 f1 f2 f_10 f_11 f_12 f_13 f_14 f_15 f_16 f_17 f_18 f12 f13 f14 f15 f16 f17 f18 f19 f20 f21 L_19 Nn_20 P_21 M_22 O_23) := hD
  have lit_23 : (0 : Int32).toInt = 0 := by decide
  refine lv_iconst (v := 0) hx hb dX10_candidates_10 (by decide) ?_
  refine lv_istore_n (lv' := [(2, .int 0), (0, .ref (ad 0)), (1, .int i1)]) hx hb dX10_candidates_11 rfl hl (by decide) rfl (fun ls hl => ?_)
  refine lv_iconst (v := 0) hx hb dX10_candidates_12 (by decide) ?_
  refine lv_istore_n (lv' := [(3, .int 0), (2, .int 0), (0, .ref (ad 0)), (1, .int i1)]) hx hb dX10_candidates_13 rfl hl (by decide) rfl (fun ls hl => ?_)
  have loop14 : ∀ (lm14 : Nat) (bi kk lp : Int32) (gl : Nat → Int32), (0 ≤ kk.toInt ∧ kk.toInt ≤ 12) → ((12 - kk.toInt).toNat) < lm14 → ∀ (H : Heap) (locs : List Loc) (ls : Array Slot), va_P (dC, dI) vwCl (mW ad kc x0 x1 x2 x3 x4 x5 x6 x7 x8 x9 x10 x11 x_2 x_3 x_4 x_5 x_6 x_7 x_8 x_9 x20 lp f0 f1 f2 f_10 f_11 f_12 f_13 f_14 f_15 f_16 f_17 f_18 f12 f13 f14 f15 f16 f17 f18 gl f20 f21 L_19 Nn_20 P_21 M_22 O_23) H → va_D A (mW ad kc x0 x1 x2 x3 x4 x5 x6 x7 x8 x9 x10 x11 x_2 x_3 x_4 x_5 x_6 x_7 x_8 x_9 x20 lp f0 f1 f2 f_10 f_11 f_12 f_13 f_14 f_15 f_16 f_17 f_18 f12 f13 f14 f15 f16 f17 f18 gl f20 f21 L_19 Nn_20 P_21 M_22 O_23) → va_S A s.heap H locs → lv_has ls 4 [(3, .int kk), (2, .int bi), (0, .ref (ad 0)), (1, .int i1)] → W p l e (headSpec mwX10_candidatesm ({ frames := 42, cells := 0, slots := 0, locals := 2520 })).room s m ([.ref (ad 0), .int i1]).toArray below meth c H locs 0 0 (MQ below (va_Qi (fun (o9 u9 : Int32) => o9 = u9) (fun (o9 : Int32) t => ∃ (y12 y13 y14 y15 y16 y17 y18 y19 y21 : Int32) (g3 g4 g5 g6 g7 g8 g9 g10 g11 g19 : Nat → Int32) (L9 : Nat → Nat → Int64) (Nn9 : Nat → Nat → Int32) (P9 : Nat → Nat → Nat) (M9 : Nat → Nat → Int32) (O9 : Nat → Nat → Int32), (PI P9) ∧ va_P (dC, dI) vwCl (mW ad kc x0 x1 x2 x3 x4 x5 x6 x7 x8 x9 x10 x11 y12 y13 y14 y15 y16 y17 y18 y19 x20 y21 f0 f1 f2 g3 g4 g5 g6 g7 g8 g9 g10 g11 f12 f13 f14 f15 f16 f17 f18 g19 f20 f21 L9 Nn9 P9 M9 O9) t.heap ∧ va_K (dC, dI) vwCl (mT kc) t ∧ va_D A (mW ad kc x0 x1 x2 x3 x4 x5 x6 x7 x8 x9 x10 x11 y12 y13 y14 y15 y16 y17 y18 y19 x20 y21 f0 f1 f2 g3 g4 g5 g6 g7 g8 g9 g10 g11 f12 f13 f14 f15 f16 f17 f18 g19 f20 f21 L9 Nn9 P9 M9 O9)) A) ([.ref (ad 0), .int i1]).toArray s 0 0 A) (F0 m 14 ls []) := by
    intro lm14
    induction lm14 with
    | zero => intro bi kk lp gl v14_0 hm14; exact absurd hm14 (Nat.not_lt_zero _)
    | succ lm14 ih14 =>
      intro bi kk lp gl v14_0 hm14 H locs ls hP hD hS hl
      have rg_bi := i_rng bi
      have rg_kk := i_rng kk
      have rg_lp := i_rng lp
      refine lv_iload_n hx hb dX10_candidates_14 rfl (lv_at hl 0 rfl) ?_
      refine lv_aload_n hx hb dX10_candidates_15 rfl (lv_at hl 2 rfl) ?_
      refine va_get (D := (dC, dI)) (ci := 10) (v := .ref (ad 11)) (C := RX10) (T := TX10) (N := 48) hx hb hts fin_X10_candidatesm_X10 hown hK hP 0 rfl rfl 30 (by decide) (hts (.fieldLink RX10 64 "PatternGateModel" "needMany" "[I") (List.mem_of_getElem? (i := 6) (by decide +kernel))) (fun _ h9 => h9) rfl dX10_candidates_16 ?_
      refine lv_iconst (v := 0) hx hb dX10_candidates_19 (by decide) ?_
      refine va_iald hx hb hK hP 11 10 rfl rfl (i := 0) (by unfold vp_in; decide +kernel) dX10_candidates_20 ?_
      refine lv_topi (fun y_25 ey_25 => ?_)
      have rg_y_25 := i_rng y_25
      have vy_25 := vI_lda (f := f_17) (i := 0) (a := 0) ey_25 (by first | omega | decide)
      have rg_y_25 := i_rng y_25
      refine lv_icmp_ge (tgt := 45) hx hb dX10_candidates_21 (by decide) (fun k_26 => ?_) (fun k_26 => ?_)
      · have tk_26 := c_ge (a := kk.toInt) (b := y_25.toInt) rfl rfl k_26
        refine lv_iload_n hx hb dX10_candidates_45 rfl (lv_at hl 1 rfl) ?_
        exact W.iret hx hb hr (fun t ht hW => ⟨⟨_, _, rfl, rfl, x_2, x_3, x_4, x_5, x_6, x_7, x_8, x_9, lp, f_10, f_11, f_12, f_13, f_14, f_15, f_16, f_17, f_18, gl, L_19, Nn_20, P_21, M_22, O_23, hPI9, by rw [ht]; exact hP, va_K.moved hW.alike hK, hD⟩, hS.F ht⟩) hS.2.2 dX10_candidates_46
      · have tk_26 := c_nge (a := kk.toInt) (b := y_25.toInt) rfl rfl k_26
        refine lv_iload_n hx hb dX10_candidates_24 rfl (lv_at hl 1 rfl) ?_
        refine lv_aload_n hx hb dX10_candidates_25 rfl (lv_at hl 2 rfl) ?_
        refine lv_aload_n hx hb dX10_candidates_26 rfl (lv_at hl 2 rfl) ?_
        refine va_get (D := (dC, dI)) (ci := 10) (v := .ref (ad 24)) (C := RX10) (T := TX10) (N := 48) hx hb hts fin_X10_candidatesm_X10 hown hK hP 0 rfl rfl 28 (by decide) (hts (.fieldLink RX10 56 "PatternGateModel" "needs" "[[[I") (List.mem_of_getElem? (i := 7) (by decide +kernel))) (fun _ h9 => h9) rfl dX10_candidates_27 ?_
        refine lv_iconst (v := 0) hx hb dX10_candidates_30 (by decide) ?_
        refine m_aak hx hb hK hP 24 23 (k := 0) (b := ad (200 + 0)) rfl rfl rfl (i := 0) (by decide) (by omega) rfl dX10_candidates_31 ?_
        refine lv_iload_n hx hb dX10_candidates_32 rfl (lv_at hl 0 rfl) ?_
        refine m_aak hx hb hK hP (117 + 0) 27 (k := kk.toInt.toNat) (b := ad (300 + (12 * 0 + P_21 0 kk.toInt.toNat))) (mW_P (by omega)) rfl rfl (i := kk) (by omega) (by omega) rfl dX10_candidates_33 ?_
        have hp33 := (hPI9 0 kk.toInt.toNat (by omega)).1
        have hz0 : 0 ≤ vI ((rO Nn_20 M_22 O_23) (300 + (12 * 0 + P_21 0 kk.toInt.toNat))) 0 ∧ vI ((rO Nn_20 M_22 O_23) (300 + (12 * 0 + P_21 0 kk.toInt.toNat))) 0 ≤ 24 := hN9.2.2 kk.toInt.toNat (by omega)
        have hFc := m_free hD hS hA
        refine va_calli (va_runV (As := [.ref (ad (300 + (12 * 0 + P_21 0 kk.toInt.toNat)))]) (rest := [.int bi]) ⟨hx, hb, hml, hown, hts⟩ (m_candidatesOf l dC dI ad kc x0 x1 x2 x3 x4 x5 x6 x7 x8 x9 x10 x11 x_2 x_3 x_4 x_5 x_6 x_7 x_8 x_9 x20 lp f0 f1 f2 f_10 f_11 f_12 f_13 f_14 f_15 f_16 f_17 f_18 f12 f13 f14 f15 f16 f17 f18 gl f20 f21 L_19 Nn_20 P_21 M_22 O_23 H.size (300 + (12 * 0 + P_21 0 kk.toInt.toNat)) (by first | omega | assumption | decide | (have l0 := Int32.toInt_zero; omega)) (by first | assumption | (unfold IR; omega)) (by first | omega | assumption | decide | (have l0 := Int32.toInt_zero; omega))) (cwV 1 hts mg_X10_candidatesm_X10_candidatesOf_423 rfl rfl rfl (by decide +kernel) ⟨Nat.le_of_ble_eq_true rfl, Nat.le_of_ble_eq_true rfl⟩) ⟨fun a U g mk q => by obtain ⟨q0, q1, qP, qK, qD⟩ := q; exact ⟨q0, q1, qP, va_K.moved (u := U) (U := U.calling g mk a) (Vm.Alike.refl U.vm) qK, qD⟩, va_recv hK hP (ci := 10) (q0 := 0) rfl rfl, fun U hU hW => ⟨rfl, by rw [hU], by rw [hU]; exact hP, va_K.moved hW.alike hK, hD.weaken (fun _ _ _ _ => trivial)⟩⟩ rfl rfl hl.1 rfl (lv_room (Nat.le_of_ble_eq_true rfl)) dX10_candidates_34 ⟨Nat.le_of_ble_eq_true rfl, Nat.le_of_ble_eq_true rfl⟩) hS (fun q _ h => hFc q h) hFc (fun r_27 u t H1 locs ht hvm hw hB hz1 hk1 hS => ?_)
        subst hw
        obtain ⟨x_28, f_29, hP, hK1, hD1⟩ := hB
        rw [ht] at hP
        have hD := hD1.weaken (fun k q _ h => hFc q.1 h)
        clear hz1 hk1 hFc hD1 hK1 hvm
        generalize H1 = H at hP hS ⊢
        have rg_x_28 := i_rng x_28
        have rg_r_27 := i_rng r_27
        have hP : va_P (dC, dI) vwCl (mW ad kc x0 x1 x2 x3 x4 x5 x6 x7 x8 x9 x10 x11 x_2 x_3 x_4 x_5 x_6 x_7 x_8 x_9 x20 x_28 f0 f1 f2 f_10 f_11 f_12 f_13 f_14 f_15 f_16 f_17 f_18 f12 f13 f14 f15 f16 f17 f18 f_29 f20 f21 L_19 Nn_20 P_21 M_22 O_23) H := hP
        have hD : va_D A (mW ad kc x0 x1 x2 x3 x4 x5 x6 x7 x8 x9 x10 x11 x_2 x_3 x_4 x_5 x_6 x_7 x_8 x_9 x20 x_28 f0 f1 f2 f_10 f_11 f_12 f_13 f_14 f_15 f_16 f_17 f_18 f12 f13 f14 f15 f16 f17 f18 f_29 f20 f21 L_19 Nn_20 P_21 M_22 O_23) := hD
        refine lv_ior hx hb dX10_candidates_37 ?_
        refine lv_topi (fun y_30 ey_30 => ?_)
        have rg_y_30 := i_rng y_30
        refine lv_istore_n (lv' := [(2, .int y_30), (3, .int kk), (0, .ref (ad 0)), (1, .int i1)]) hx hb dX10_candidates_38 rfl hl (by decide) rfl (fun ls hl => ?_)
        obtain ⟨y_31, ey_31⟩ : ∃ y : Int32, y = kk + 1 := ⟨_, rfl⟩
        first | have ty_31 := i_add (a := kk.toInt) (b := 1) rfl (by decide) ey_31 (by omega) (by omega) | skip
        refine lv_iinc (v := y_31) (lv' := [(3, .int y_31), (2, .int y_30), (0, .ref (ad 0)), (1, .int i1)]) hx hb dX10_candidates_39 hl (k := 1) rfl (by rw [ey_31]; rfl) (by decide) rfl (fun ls hl => ?_)
        refine lv_goto (tgt := 14) hx hb dX10_candidates_42 (by decide) ?_
        exact ih14 y_30 y_31 x_28 f_29 (by first | omega | assumption | decide) (by omega) _ _ ls hP hD hS (lv_sub hl [0, 1, 2, 3] rfl)
  have lit_31 : (0 : Int32).toInt = 0 := by decide
  have lit_32 : (0 : Int32).toInt = 0 := by decide
  have lit_33 : (0 : Int32).toInt = 0 := by decide
  exact loop14 _ 0 0 0 f19 (by first | omega | assumption | decide) (Nat.lt_succ_self _) _ _ ls hP hD hS (lv_sub hl [0, 1, 2, 3] rfl)
theorem dX10_fitting_0 : decode cX10_fitting 0 = .ok (.aload_n 0, 1) := by decide +kernel
theorem dX10_fitting_1 : decode cX10_fitting 1 = .ok (.iload_n 1, 1) := by decide +kernel
theorem dX10_fitting_2 : decode cX10_fitting 2 = .ok (.invokevirtual 427, 3) := by decide +kernel
theorem dX10_fitting_5 : decode cX10_fitting 5 = .ok (.iconst 0, 1) := by decide +kernel
theorem dX10_fitting_6 : decode cX10_fitting 6 = .ok (.istore_n 2, 1) := by decide +kernel
theorem dX10_fitting_7 : decode cX10_fitting 7 = .ok (.iconst 0, 1) := by decide +kernel
theorem dX10_fitting_8 : decode cX10_fitting 8 = .ok (.istore_n 3, 1) := by decide +kernel
theorem dX10_fitting_9 : decode cX10_fitting 9 = .ok (.iload_n 3, 1) := by decide +kernel
theorem dX10_fitting_10 : decode cX10_fitting 10 = .ok (.aload_n 0, 1) := by decide +kernel
theorem dX10_fitting_11 : decode cX10_fitting 11 = .ok (.getfield 8, 3) := by decide +kernel
theorem dX10_fitting_14 : decode cX10_fitting 14 = .ok (.iconst 0, 1) := by decide +kernel
theorem dX10_fitting_15 : decode cX10_fitting 15 = .ok (.iaload, 1) := by decide +kernel
theorem dX10_fitting_16 : decode cX10_fitting 16 = .ok (.if_icmp .ge 29, 3) := by decide +kernel
theorem dX10_fitting_19 : decode cX10_fitting 19 = .ok (.iload_n 2, 1) := by decide +kernel
theorem dX10_fitting_20 : decode cX10_fitting 20 = .ok (.aload_n 0, 1) := by decide +kernel
theorem dX10_fitting_21 : decode cX10_fitting 21 = .ok (.iload_n 3, 1) := by decide +kernel
theorem dX10_fitting_22 : decode cX10_fitting 22 = .ok (.iconst 0, 1) := by decide +kernel
theorem dX10_fitting_23 : decode cX10_fitting 23 = .ok (.invokevirtual 430, 3) := by decide +kernel
theorem dX10_fitting_26 : decode cX10_fitting 26 = .ok (.iconst (-1), 1) := by decide +kernel
theorem dX10_fitting_27 : decode cX10_fitting 27 = .ok (.if_icmp .eq 9, 3) := by decide +kernel
theorem dX10_fitting_30 : decode cX10_fitting 30 = .ok (.iconst 1, 1) := by decide +kernel
theorem dX10_fitting_31 : decode cX10_fitting 31 = .ok (.iload_n 3, 1) := by decide +kernel
theorem dX10_fitting_32 : decode cX10_fitting 32 = .ok (.ishl, 1) := by decide +kernel
theorem dX10_fitting_33 : decode cX10_fitting 33 = .ok (.goto 4, 3) := by decide +kernel
theorem dX10_fitting_36 : decode cX10_fitting 36 = .ok (.iconst 0, 1) := by decide +kernel
theorem dX10_fitting_37 : decode cX10_fitting 37 = .ok (.ior, 1) := by decide +kernel
theorem dX10_fitting_38 : decode cX10_fitting 38 = .ok (.istore_n 2, 1) := by decide +kernel
theorem dX10_fitting_39 : decode cX10_fitting 39 = .ok (.iinc 3 1, 3) := by decide +kernel
theorem dX10_fitting_42 : decode cX10_fitting 42 = .ok (.goto (-33), 3) := by decide +kernel
theorem dX10_fitting_45 : decode cX10_fitting 45 = .ok (.iload_n 2, 1) := by decide +kernel
theorem dX10_fitting_46 : decode cX10_fitting 46 = .ok (.ireturn, 1) := by decide +kernel
def mwX10_fittingm : List Cond := .code yX10_fitting cX10_fitting 4 (some .int) :: (([.methodLink RX10 427 yX10_matches, .instanceMethod yX10_matches, .selects RX10 yX10_matches yX10_matches, .initialized RX10, .fieldLink RX10 8 "PatternGateModel" "all" "[I", .methodLink RX10 430 yX10_firstMatch, .instanceMethod yX10_firstMatch, .selects RX10 yX10_firstMatch yX10_firstMatch] : List Cond) ++ (wsX100 ++ (mwX10_matchesm ++ (mwX10_firstMatchm))))
theorem fin_X10_fittingm_X10 : ∀ w ∈ wsX100, w ∈ mwX10_fittingm := fun w h => List.mem_cons_of_mem _ (List.mem_append_right _ (List.mem_append_left _ h))
set_option maxRecDepth 100000 in
theorem gd_mwX10_matchesm : mwX10_matchesm.all goodWord = true := by decide +kernel
set_option maxRecDepth 20000 in
theorem mg_X10_fittingm_X10_matches_427 : GoodIn mwX10_fittingm (wsV RX10 427 RX10 yX10_matches mwX10_matchesm) := gi_app (A := [.methodLink RX10 427 yX10_matches, .instanceMethod yX10_matches, .selects RX10 yX10_matches yX10_matches, .initialized RX10]) (goodIn_r _ [1, 2, 3, 4] (by decide +kernel) (by decide +kernel)) (gi_sub gd_mwX10_matchesm (fun w h => List.mem_cons_of_mem _ (List.mem_append_right _ (List.mem_append_right _ (List.mem_append_left _ h)))))
set_option maxRecDepth 20000 in
theorem mg_X10_fittingm_X10_firstMatch_430 : GoodIn mwX10_fittingm (wsV RX10 430 RX10 yX10_firstMatch mwX10_firstMatchm) := gi_app (A := [.methodLink RX10 430 yX10_firstMatch, .instanceMethod yX10_firstMatch, .selects RX10 yX10_firstMatch yX10_firstMatch, .initialized RX10]) (goodIn_r _ [6, 7, 8, 4] (by decide +kernel) (by decide +kernel)) (gi_sub gd_mwX10_firstMatchm (fun w h => List.mem_cons_of_mem _ (List.mem_append_right _ (List.mem_append_right _ (List.mem_append_right _ (h))))))
set_option maxHeartbeats 4000000 in
set_option maxRecDepth 100000 in
theorem m_fitting (l : Launch) (dC : Nat → ClassId) (dI : Nat → Nat → Nat) (ad : Nat → Nat) (kc : Nat → ClassId) (x0 x1 x2 x3 x4 x5 x6 x7 x8 x9 x10 x11 x12 x13 x14 x15 x16 x17 x18 x19 x20 x21 : Int32) (f0 f1 f2 f3 f4 f5 f6 f7 f8 f9 f10 f11 f12 f13 f14 f15 f16 f17 f18 f19 f20 f21 : Nat → Int32) (fL : Nat → Nat → Int64) (fN : Nat → Nat → Int32) (fP : Nat → Nat → Nat) (fM : Nat → Nat → Int32) (fO : Nat → Nat → Int32) (sz : Nat) (i1 : Int32) (q0 : OKd f0 0) (q1 : 0 ≤ i1.toInt ∧ i1.toInt < vI f0 611) : Met l yX10_fitting mwX10_fittingm ({ frames := 23, cells := 0, slots := 0, locals := 1380 }) (va_Pc [.ref (ad 0), .int i1] (fun U => U.heap.size = sz ∧ va_P (dC, dI) vwCl (mW ad kc x0 x1 x2 x3 x4 x5 x6 x7 x8 x9 x10 x11 x12 x13 x14 x15 x16 x17 x18 x19 x20 x21 f0 f1 f2 f3 f4 f5 f6 f7 f8 f9 f10 f11 f12 f13 f14 f15 f16 f17 f18 f19 f20 f21 fL fN fP fM fO) U.heap ∧ va_K (dC, dI) vwCl (mT kc) U ∧ va_D (fun _ => True) (mW ad kc x0 x1 x2 x3 x4 x5 x6 x7 x8 x9 x10 x11 x12 x13 x14 x15 x16 x17 x18 x19 x20 x21 f0 f1 f2 f3 f4 f5 f6 f7 f8 f9 f10 f11 f12 f13 f14 f15 f16 f17 f18 f19 f20 f21 fL fN fP fM fO))) (va_Qi (fun (o9 u9 : Int32) => o9 = u9) (fun (o9 : Int32) t => ∃ (y12 y13 y14 y15 y20 : Int32) (g3 g4 g5 g6 g7 g8 g12 g13 g14 g15 g16 g17 g18 : Nat → Int32), va_P (dC, dI) vwCl (mW ad kc x0 x1 x2 x3 x4 x5 x6 x7 x8 x9 x10 x11 y12 y13 y14 y15 x16 x17 x18 x19 y20 x21 f0 f1 f2 g3 g4 g5 g6 g7 g8 f9 f10 f11 g12 g13 g14 g15 g16 g17 g18 f19 f20 f21 fL fN fP fM fO) t.heap ∧ va_K (dC, dI) vwCl (mT kc) t ∧ va_D (va_A (mW ad kc x0 x1 x2 x3 x4 x5 x6 x7 x8 x9 x10 x11 x12 x13 x14 x15 x16 x17 x18 x19 x20 x21 f0 f1 f2 f3 f4 f5 f6 f7 f8 f9 f10 f11 f12 f13 f14 f15 f16 f17 f18 f19 f20 f21 fL fN fP fM fO) sz) (mW ad kc x0 x1 x2 x3 x4 x5 x6 x7 x8 x9 x10 x11 y12 y13 y14 y15 x16 x17 x18 x19 y20 x21 f0 f1 f2 g3 g4 g5 g6 g7 g8 f9 f10 f11 g12 g13 g14 g15 g16 g17 g18 f19 f20 f21 fL fN fP fM fO)) (va_A (mW ad kc x0 x1 x2 x3 x4 x5 x6 x7 x8 x9 x10 x11 x12 x13 x14 x15 x16 x17 x18 x19 x20 x21 f0 f1 f2 f3 f4 f5 f6 f7 f8 f9 f10 f11 f12 f13 f14 f15 f16 f17 f18 f19 f20 f21 fL fN fP fM fO) sz)) 0 0 (va_A (mW ad kc x0 x1 x2 x3 x4 x5 x6 x7 x8 x9 x10 x11 x12 x13 x14 x15 x16 x17 x18 x19 x20 x21 f0 f1 f2 f3 f4 f5 f6 f7 f8 f9 f10 f11 f12 f13 f14 f15 f16 f17 f18 f19 f20 f21 fL fN fP fM fO) sz) := by
  refine Met.ofW (cc := cX10_fitting) (maxL := 4) (ret := (some .int)) (by decide +kernel) rfl ?_
  intro p e s m args below meth c s₁ B hml hv
  obtain ⟨rfl, hsz, hP, hK, hD0⟩ := hv
  have hx := B.exec
  have hb := B.bytes
  have hr := B.returns
  have hts := atoms_spec (ws := mwX10_fittingm) B.pre
  have hown : s.vm.findClass RX10 = some m.cls := findClass_of_methodNamed B.named
  have hlocks := B.notSynchronized
  subst hsz
  have hD := hD0.self (sz := s.heap.size)
  generalize hAe : va_A (mW ad kc x0 x1 x2 x3 x4 x5 x6 x7 x8 x9 x10 x11 x12 x13 x14 x15 x16 x17 x18 x19 x20 x21 f0 f1 f2 f3 f4 f5 f6 f7 f8 f9 f10 f11 f12 f13 f14 f15 f16 f17 f18 f19 f20 f21 fL fN fP fM fO) s.heap.size = A at hD ⊢
  have hA : ∀ q : Nat, s.heap.size ≤ q → A q := fun q h => by rw [← hAe]; exact Or.inr h
  have hP : va_P (dC, dI) vwCl (mW ad kc x0 x1 x2 x3 x4 x5 x6 x7 x8 x9 x10 x11 x12 x13 x14 x15 x16 x17 x18 x19 x20 x21 f0 f1 f2 f3 f4 f5 f6 f7 f8 f9 f10 f11 f12 f13 f14 f15 f16 f17 f18 f19 f20 f21 fL fN fP fM fO) s.heap := hP
  have hD : va_D A (mW ad kc x0 x1 x2 x3 x4 x5 x6 x7 x8 x9 x10 x11 x12 x13 x14 x15 x16 x17 x18 x19 x20 x21 f0 f1 f2 f3 f4 f5 f6 f7 f8 f9 f10 f11 f12 f13 f14 f15 f16 f17 f18 f19 f20 f21 fL fN fP fM fO) := hD
  have hK : va_K (dC, dI) vwCl (mT kc) s := hK
  generalize hH : s.heap = H at hP ⊢
  have hS : va_S A s.heap H [] := by rw [← hH]; exact va_S.rf
  have hl := lv_entry ([.ref (ad 0), .int i1]) (n := 4) (Nat.le_of_ble_eq_true rfl)
  rw [lg_entry_eq]
  generalize (lg_sl ([.ref (ad 0), .int i1]) ++ List.replicate (4 - (lg_sl ([.ref (ad 0), .int i1])).length) Slot.unset).toArray = ls at hl ⊢
  have hl : lv_has ls 4 [(0, .ref (ad 0)), (1, .int i1)] := hl
  have rg_i1 := i_rng i1
  have hd10 := q0.n0
  have hp8 := q0.P0
  refine lv_aload_n hx hb dX10_fitting_0 rfl (lv_at hl 0 rfl) ?_
  refine lv_iload_n hx hb dX10_fitting_1 rfl (lv_at hl 1 rfl) ?_
  have hFc := m_free hD hS hA
  refine va_callv (va_runV (As := [.int i1]) (rest := []) ⟨hx, hb, hml, hown, hts⟩ (m_matches l dC dI ad kc x0 x1 x2 x3 x4 x5 x6 x7 x8 x9 x10 x11 x12 x13 x14 x15 x16 x17 x18 x19 x20 x21 f0 f1 f2 f3 f4 f5 f6 f7 f8 f9 f10 f11 f12 f13 f14 f15 f16 f17 f18 f19 f20 f21 fL fN fP fM fO H.size i1 (by first | omega | assumption | decide | (have l0 := Int32.toInt_zero; omega)) (by first | omega | assumption | decide | (have l0 := Int32.toInt_zero; omega))) (cwV 1 hts mg_X10_fittingm_X10_matches_427 rfl rfl rfl (by decide +kernel) ⟨Nat.le_of_ble_eq_true rfl, Nat.le_of_ble_eq_true rfl⟩) ⟨fun a U g mk q => by obtain ⟨q0, q1, qP, qK, qD⟩ := q; exact ⟨q0, q1, qP, va_K.moved (u := U) (U := U.calling g mk a) (Vm.Alike.refl U.vm) qK, qD⟩, va_recv hK hP (ci := 10) (q0 := 0) rfl rfl, fun U hU hW => ⟨rfl, by rw [hU], by rw [hU]; exact hP, va_K.moved hW.alike hK, hD.weaken (fun _ _ _ _ => trivial)⟩⟩ rfl rfl hl.1 rfl (lv_room (Nat.le_of_ble_eq_true rfl)) dX10_fitting_2 ⟨Nat.le_of_ble_eq_true rfl, Nat.le_of_ble_eq_true rfl⟩) hS (fun q _ h => hFc q h) hFc (fun u t H1 locs ht hvm hw hB hz1 hk1 hS => ?_)
  obtain ⟨x_2, x_3, x_4, x_5, x_6, f_7, f_8, f_9, f_10, f_11, f_12, f_13, f_14, f_15, f_16, f_17, f_18, f_19, hr_1_0, hr_1_1, hP, hK1, hD1⟩ := hB
  rw [ht] at hP
  have hD := hD1.weaken (fun k q _ h => hFc q.1 h)
  clear hz1 hk1 hFc hD1 hK1 hvm
  generalize H1 = H at hP hS ⊢
  have rg_x_2 := i_rng x_2
  have rg_x_3 := i_rng x_3
  have rg_x_4 := i_rng x_4
  have rg_x_5 := i_rng x_5
  have rg_x_6 := i_rng x_6
  have hP : va_P (dC, dI) vwCl (mW ad kc x0 x1 x2 x3 x4 x5 x6 x7 x8 x9 x10 x11 x_2 x_3 x_4 x_5 x16 x17 x18 x19 x_6 x21 f0 f1 f2 f_7 f_8 f_9 f_10 f_11 f_12 f9 f10 f11 f_13 f_14 f_15 f_16 f_17 f_18 f_19 f19 f20 f21 fL fN fP fM fO) H := hP
  have hD : va_D A (mW ad kc x0 x1 x2 x3 x4 x5 x6 x7 x8 x9 x10 x11 x_2 x_3 x_4 x_5 x16 x17 x18 x19 x_6 x21 f0 f1 f2 f_7 f_8 f_9 f_10 f_11 f_12 f9 f10 f11 f_13 f_14 f_15 f_16 f_17 f_18 f_19 f19 f20 f21 fL fN fP fM fO) := hD
  have hT9 := hr_1_0
  have hS9 := hr_1_1
  refine lv_iconst (v := 0) hx hb dX10_fitting_5 (by decide) ?_
  refine lv_istore_n (lv' := [(2, .int 0), (0, .ref (ad 0)), (1, .int i1)]) hx hb dX10_fitting_6 rfl hl (by decide) rfl (fun ls hl => ?_)
  refine lv_iconst (v := 0) hx hb dX10_fitting_7 (by decide) ?_
  refine lv_istore_n (lv' := [(3, .int 0), (2, .int 0), (0, .ref (ad 0)), (1, .int i1)]) hx hb dX10_fitting_8 rfl hl (by decide) rfl (fun ls hl => ?_)
  have loop9 : ∀ (lm9 : Nat) (bi kk : Int32), (0 ≤ kk.toInt ∧ kk.toInt ≤ vI f0 0) → ((vI f0 0 - kk.toInt).toNat) < lm9 → ∀ (H : Heap) (locs : List Loc) (ls : Array Slot), va_P (dC, dI) vwCl (mW ad kc x0 x1 x2 x3 x4 x5 x6 x7 x8 x9 x10 x11 x_2 x_3 x_4 x_5 x16 x17 x18 x19 x_6 x21 f0 f1 f2 f_7 f_8 f_9 f_10 f_11 f_12 f9 f10 f11 f_13 f_14 f_15 f_16 f_17 f_18 f_19 f19 f20 f21 fL fN fP fM fO) H → va_D A (mW ad kc x0 x1 x2 x3 x4 x5 x6 x7 x8 x9 x10 x11 x_2 x_3 x_4 x_5 x16 x17 x18 x19 x_6 x21 f0 f1 f2 f_7 f_8 f_9 f_10 f_11 f_12 f9 f10 f11 f_13 f_14 f_15 f_16 f_17 f_18 f_19 f19 f20 f21 fL fN fP fM fO) → va_S A s.heap H locs → lv_has ls 4 [(3, .int kk), (2, .int bi), (0, .ref (ad 0)), (1, .int i1)] → W p l e (headSpec mwX10_fittingm ({ frames := 23, cells := 0, slots := 0, locals := 1380 })).room s m ([.ref (ad 0), .int i1]).toArray below meth c H locs 0 0 (MQ below (va_Qi (fun (o9 u9 : Int32) => o9 = u9) (fun (o9 : Int32) t => ∃ (y12 y13 y14 y15 y20 : Int32) (g3 g4 g5 g6 g7 g8 g12 g13 g14 g15 g16 g17 g18 : Nat → Int32), va_P (dC, dI) vwCl (mW ad kc x0 x1 x2 x3 x4 x5 x6 x7 x8 x9 x10 x11 y12 y13 y14 y15 x16 x17 x18 x19 y20 x21 f0 f1 f2 g3 g4 g5 g6 g7 g8 f9 f10 f11 g12 g13 g14 g15 g16 g17 g18 f19 f20 f21 fL fN fP fM fO) t.heap ∧ va_K (dC, dI) vwCl (mT kc) t ∧ va_D A (mW ad kc x0 x1 x2 x3 x4 x5 x6 x7 x8 x9 x10 x11 y12 y13 y14 y15 x16 x17 x18 x19 y20 x21 f0 f1 f2 g3 g4 g5 g6 g7 g8 f9 f10 f11 g12 g13 g14 g15 g16 g17 g18 f19 f20 f21 fL fN fP fM fO)) A) ([.ref (ad 0), .int i1]).toArray s 0 0 A) (F0 m 9 ls []) := by
    intro lm9
    induction lm9 with
    | zero => intro bi kk v9_0 hm9; exact absurd hm9 (Nat.not_lt_zero _)
    | succ lm9 ih9 =>
      intro bi kk v9_0 hm9 H locs ls hP hD hS hl
      have rg_bi := i_rng bi
      have rg_kk := i_rng kk
      refine lv_iload_n hx hb dX10_fitting_9 rfl (lv_at hl 0 rfl) ?_
      refine lv_aload_n hx hb dX10_fitting_10 rfl (lv_at hl 2 rfl) ?_
      refine va_get (D := (dC, dI)) (ci := 10) (v := .ref (ad 1)) (C := RX10) (T := TX10) (N := 48) hx hb hts fin_X10_fittingm_X10 hown hK hP 0 rfl rfl 0 (by decide) (hts (.fieldLink RX10 8 "PatternGateModel" "all" "[I") (List.mem_of_getElem? (i := 5) (by decide +kernel))) (fun _ h9 => h9) rfl dX10_fitting_11 ?_
      refine lv_iconst (v := 0) hx hb dX10_fitting_14 (by decide) ?_
      refine va_iald hx hb hK hP 1 0 rfl rfl (i := 0) (by unfold vp_in; decide +kernel) dX10_fitting_15 ?_
      refine lv_topi (fun y_20 ey_20 => ?_)
      have rg_y_20 := i_rng y_20
      have vy_20 := vI_lda (f := f0) (i := 0) (a := 0) ey_20 (by first | omega | decide)
      have rg_y_20 := i_rng y_20
      refine lv_icmp_ge (tgt := 45) hx hb dX10_fitting_16 (by decide) (fun k_21 => ?_) (fun k_21 => ?_)
      · have tk_21 := c_ge (a := kk.toInt) (b := y_20.toInt) rfl rfl k_21
        refine lv_iload_n hx hb dX10_fitting_45 rfl (lv_at hl 1 rfl) ?_
        exact W.iret hx hb hr (fun t ht hW => ⟨⟨_, _, rfl, rfl, x_2, x_3, x_4, x_5, x_6, f_7, f_8, f_9, f_10, f_11, f_12, f_13, f_14, f_15, f_16, f_17, f_18, f_19, by rw [ht]; exact hP, va_K.moved hW.alike hK, hD⟩, hS.F ht⟩) hS.2.2 dX10_fitting_46
      · have tk_21 := c_nge (a := kk.toInt) (b := y_20.toInt) rfl rfl k_21
        refine lv_iload_n hx hb dX10_fitting_19 rfl (lv_at hl 1 rfl) ?_
        refine lv_aload_n hx hb dX10_fitting_20 rfl (lv_at hl 2 rfl) ?_
        refine lv_iload_n hx hb dX10_fitting_21 rfl (lv_at hl 0 rfl) ?_
        refine lv_iconst (v := 0) hx hb dX10_fitting_22 (by decide) ?_
        have hFc := m_free hD hS hA
        refine va_calli (va_runV (As := [.int kk, .int 0]) (rest := [.int bi]) ⟨hx, hb, hml, hown, hts⟩ (m_firstMatch l dC dI ad kc x0 x1 x2 x3 x4 x5 x6 x7 x8 x9 x10 x11 x_2 x_3 x_4 x_5 x16 x17 x18 x19 x_6 x21 f0 f1 f2 f_7 f_8 f_9 f_10 f_11 f_12 f9 f10 f11 f_13 f_14 f_15 f_16 f_17 f_18 f_19 f19 f20 f21 fL fN fP fM fO H.size kk 0 (by first | omega | assumption | decide | (have l0 := Int32.toInt_zero; omega)) (by first | omega | assumption | decide | (have l0 := Int32.toInt_zero; omega)) (by first | omega | assumption | decide | (have l0 := Int32.toInt_zero; omega)) (by first | omega | assumption | decide | (have l0 := Int32.toInt_zero; omega)) (by first | omega | assumption | decide | (have l0 := Int32.toInt_zero; omega))) (cwV 2 hts mg_X10_fittingm_X10_firstMatch_430 rfl rfl rfl (by decide +kernel) ⟨Nat.le_of_ble_eq_true rfl, Nat.le_of_ble_eq_true rfl⟩) ⟨fun a U g mk q => by obtain ⟨q0, q1, qP, qK, qD⟩ := q; exact ⟨q0, q1, qP, va_K.moved (u := U) (U := U.calling g mk a) (Vm.Alike.refl U.vm) qK, qD⟩, va_recv hK hP (ci := 10) (q0 := 0) rfl rfl, fun U hU hW => ⟨rfl, by rw [hU], by rw [hU]; exact hP, va_K.moved hW.alike hK, hD.weaken (fun _ _ _ _ => trivial)⟩⟩ rfl rfl hl.1 rfl (lv_room (Nat.le_of_ble_eq_true rfl)) dX10_fitting_23 ⟨Nat.le_of_ble_eq_true rfl, Nat.le_of_ble_eq_true rfl⟩) hS (fun q _ h => hFc q h) hFc (fun r_22 u t H1 locs ht hvm hw hB hz1 hk1 hS => ?_)
        subst hw
        obtain ⟨hr_22_0, hP, hK1, hD1⟩ := hB
        rw [ht] at hP
        have hD := hD1.weaken (fun k q _ h => hFc q.1 h)
        clear hz1 hk1 hFc hD1 hK1 hvm
        generalize H1 = H at hP hS ⊢
        have rg_r_22 := i_rng r_22
        have hP : va_P (dC, dI) vwCl (mW ad kc x0 x1 x2 x3 x4 x5 x6 x7 x8 x9 x10 x11 x_2 x_3 x_4 x_5 x16 x17 x18 x19 x_6 x21 f0 f1 f2 f_7 f_8 f_9 f_10 f_11 f_12 f9 f10 f11 f_13 f_14 f_15 f_16 f_17 f_18 f_19 f19 f20 f21 fL fN fP fM fO) H := hP
        have hD : va_D A (mW ad kc x0 x1 x2 x3 x4 x5 x6 x7 x8 x9 x10 x11 x_2 x_3 x_4 x_5 x16 x17 x18 x19 x_6 x21 f0 f1 f2 f_7 f_8 f_9 f_10 f_11 f_12 f9 f10 f11 f_13 f_14 f_15 f_16 f_17 f_18 f_19 f19 f20 f21 fL fN fP fM fO) := hD
        refine lv_iconst (v := (-1)) hx hb dX10_fitting_26 (by decide) ?_
        refine lv_icmp_eq (tgt := 36) hx hb dX10_fitting_27 (by decide) (fun k_23 => ?_) (fun k_23 => ?_)
        · have tk_23 := c_eq (a := r_22.toInt) (b := (-1)) rfl (by decide) k_23
          refine lv_iconst (v := 0) hx hb dX10_fitting_36 (by decide) ?_
          refine lv_ior hx hb dX10_fitting_37 ?_
          refine lv_topi (fun y_24 ey_24 => ?_)
          have rg_y_24 := i_rng y_24
          refine lv_istore_n (lv' := [(2, .int y_24), (3, .int kk), (0, .ref (ad 0)), (1, .int i1)]) hx hb dX10_fitting_38 rfl hl (by decide) rfl (fun ls hl => ?_)
          obtain ⟨y_25, ey_25⟩ : ∃ y : Int32, y = kk + 1 := ⟨_, rfl⟩
          first | have ty_25 := i_add (a := kk.toInt) (b := 1) rfl (by decide) ey_25 (by omega) (by omega) | skip
          refine lv_iinc (v := y_25) (lv' := [(3, .int y_25), (2, .int y_24), (0, .ref (ad 0)), (1, .int i1)]) hx hb dX10_fitting_39 hl (k := 1) rfl (by rw [ey_25]; rfl) (by decide) rfl (fun ls hl => ?_)
          refine lv_goto (tgt := 9) hx hb dX10_fitting_42 (by decide) ?_
          exact ih9 y_24 y_25 (by first | omega | assumption | decide) (by omega) _ _ ls hP hD hS (lv_sub hl [0, 1, 2, 3] rfl)
        · have tk_23 := c_ne (a := r_22.toInt) (b := (-1)) rfl (by decide) k_23
          refine lv_iconst (v := 1) hx hb dX10_fitting_30 (by decide) ?_
          refine lv_iload_n hx hb dX10_fitting_31 rfl (lv_at hl 0 rfl) ?_
          refine lv_ishl hx hb dX10_fitting_32 ?_
          refine lv_topi (fun y_26 ey_26 => ?_)
          have rg_y_26 := i_rng y_26
          refine lv_goto (tgt := 37) hx hb dX10_fitting_33 (by decide) ?_
          refine lv_ior hx hb dX10_fitting_37 ?_
          refine lv_topi (fun y_27 ey_27 => ?_)
          have rg_y_27 := i_rng y_27
          refine lv_istore_n (lv' := [(2, .int y_27), (3, .int kk), (0, .ref (ad 0)), (1, .int i1)]) hx hb dX10_fitting_38 rfl hl (by decide) rfl (fun ls hl => ?_)
          obtain ⟨y_28, ey_28⟩ : ∃ y : Int32, y = kk + 1 := ⟨_, rfl⟩
          first | have ty_28 := i_add (a := kk.toInt) (b := 1) rfl (by decide) ey_28 (by omega) (by omega) | skip
          refine lv_iinc (v := y_28) (lv' := [(3, .int y_28), (2, .int y_27), (0, .ref (ad 0)), (1, .int i1)]) hx hb dX10_fitting_39 hl (k := 1) rfl (by rw [ey_28]; rfl) (by decide) rfl (fun ls hl => ?_)
          refine lv_goto (tgt := 9) hx hb dX10_fitting_42 (by decide) ?_
          exact ih9 y_27 y_28 (by first | omega | assumption | decide) (by omega) _ _ ls hP hD hS (lv_sub hl [0, 1, 2, 3] rfl)
  have lit_28 : (0 : Int32).toInt = 0 := by decide
  have lit_29 : (0 : Int32).toInt = 0 := by decide
  exact loop9 _ 0 0 (by first | omega | assumption | decide) (Nat.lt_succ_self _) _ _ ls hP hD hS (lv_sub hl [0, 1, 2, 3] rfl)
theorem dX10_patternsOf_0 : decode cX10_patternsOf 0 = .ok (.iconst 0, 1) := by decide +kernel
theorem dX10_patternsOf_1 : decode cX10_patternsOf 1 = .ok (.istore_n 3, 1) := by decide +kernel
theorem dX10_patternsOf_2 : decode cX10_patternsOf 2 = .ok (.iconst 0, 1) := by decide +kernel
theorem dX10_patternsOf_3 : decode cX10_patternsOf 3 = .ok (.istore 4, 2) := by decide +kernel
theorem dX10_patternsOf_5 : decode cX10_patternsOf 5 = .ok (.iload 4, 2) := by decide +kernel
theorem dX10_patternsOf_7 : decode cX10_patternsOf 7 = .ok (.aload_n 0, 1) := by decide +kernel
theorem dX10_patternsOf_8 : decode cX10_patternsOf 8 = .ok (.getfield 8, 3) := by decide +kernel
theorem dX10_patternsOf_11 : decode cX10_patternsOf 11 = .ok (.sipush 611, 3) := by decide +kernel
theorem dX10_patternsOf_14 : decode cX10_patternsOf 14 = .ok (.iaload, 1) := by decide +kernel
theorem dX10_patternsOf_15 : decode cX10_patternsOf 15 = .ok (.if_icmp .ge 46, 3) := by decide +kernel
theorem dX10_patternsOf_18 : decode cX10_patternsOf 18 = .ok (.iload_n 3, 1) := by decide +kernel
theorem dX10_patternsOf_19 : decode cX10_patternsOf 19 = .ok (.iload_n 2, 1) := by decide +kernel
theorem dX10_patternsOf_20 : decode cX10_patternsOf 20 = .ok (.ifCond .eq 12, 3) := by decide +kernel
theorem dX10_patternsOf_23 : decode cX10_patternsOf 23 = .ok (.aload_n 0, 1) := by decide +kernel
theorem dX10_patternsOf_24 : decode cX10_patternsOf 24 = .ok (.iload 4, 2) := by decide +kernel
theorem dX10_patternsOf_26 : decode cX10_patternsOf 26 = .ok (.invokevirtual 445, 3) := by decide +kernel
theorem dX10_patternsOf_29 : decode cX10_patternsOf 29 = .ok (.goto 9, 3) := by decide +kernel
theorem dX10_patternsOf_32 : decode cX10_patternsOf 32 = .ok (.aload_n 0, 1) := by decide +kernel
theorem dX10_patternsOf_33 : decode cX10_patternsOf 33 = .ok (.iload 4, 2) := by decide +kernel
theorem dX10_patternsOf_35 : decode cX10_patternsOf 35 = .ok (.invokevirtual 448, 3) := by decide +kernel
theorem dX10_patternsOf_38 : decode cX10_patternsOf 38 = .ok (.iload_n 1, 1) := by decide +kernel
theorem dX10_patternsOf_39 : decode cX10_patternsOf 39 = .ok (.invokestatic 170, 3) := by decide +kernel
theorem dX10_patternsOf_42 : decode cX10_patternsOf 42 = .ok (.ifCond .eq 10, 3) := by decide +kernel
theorem dX10_patternsOf_45 : decode cX10_patternsOf 45 = .ok (.iconst 1, 1) := by decide +kernel
theorem dX10_patternsOf_46 : decode cX10_patternsOf 46 = .ok (.iload 4, 2) := by decide +kernel
theorem dX10_patternsOf_48 : decode cX10_patternsOf 48 = .ok (.ishl, 1) := by decide +kernel
theorem dX10_patternsOf_49 : decode cX10_patternsOf 49 = .ok (.goto 4, 3) := by decide +kernel
theorem dX10_patternsOf_52 : decode cX10_patternsOf 52 = .ok (.iconst 0, 1) := by decide +kernel
theorem dX10_patternsOf_53 : decode cX10_patternsOf 53 = .ok (.ior, 1) := by decide +kernel
theorem dX10_patternsOf_54 : decode cX10_patternsOf 54 = .ok (.istore_n 3, 1) := by decide +kernel
theorem dX10_patternsOf_55 : decode cX10_patternsOf 55 = .ok (.iinc 4 1, 3) := by decide +kernel
theorem dX10_patternsOf_58 : decode cX10_patternsOf 58 = .ok (.goto (-53), 3) := by decide +kernel
theorem dX10_patternsOf_61 : decode cX10_patternsOf 61 = .ok (.iload_n 3, 1) := by decide +kernel
theorem dX10_patternsOf_62 : decode cX10_patternsOf 62 = .ok (.ireturn, 1) := by decide +kernel
def mwX10_patternsOfm : List Cond := .code yX10_patternsOf cX10_patternsOf 5 (some .int) :: (([.fieldLink RX10 8 "PatternGateModel" "all" "[I", .methodLink RX10 448 yX10_fitting, .instanceMethod yX10_fitting, .selects RX10 yX10_fitting yX10_fitting, .initialized RX10, .methodLink RX10 170 yX10_has, .static yX10_has, .methodLink RX10 445 yX10_candidates, .instanceMethod yX10_candidates, .selects RX10 yX10_candidates yX10_candidates] : List Cond) ++ (wsX100 ++ (mwX10_fittingm ++ (mwX10_hasm ++ (mwX10_candidatesm)))))
theorem fin_X10_patternsOfm_X10 : ∀ w ∈ wsX100, w ∈ mwX10_patternsOfm := fun w h => List.mem_cons_of_mem _ (List.mem_append_right _ (List.mem_append_left _ h))
set_option maxRecDepth 100000 in
theorem gd_mwX10_fittingm : mwX10_fittingm.all goodWord = true := by decide +kernel
set_option maxRecDepth 100000 in
theorem gd_mwX10_candidatesm : mwX10_candidatesm.all goodWord = true := by decide +kernel
set_option maxRecDepth 20000 in
theorem mg_X10_patternsOfm_X10_fitting_448 : GoodIn mwX10_patternsOfm (wsV RX10 448 RX10 yX10_fitting mwX10_fittingm) := gi_app (A := [.methodLink RX10 448 yX10_fitting, .instanceMethod yX10_fitting, .selects RX10 yX10_fitting yX10_fitting, .initialized RX10]) (goodIn_r _ [2, 3, 4, 5] (by decide +kernel) (by decide +kernel)) (gi_sub gd_mwX10_fittingm (fun w h => List.mem_cons_of_mem _ (List.mem_append_right _ (List.mem_append_right _ (List.mem_append_left _ h)))))
set_option maxRecDepth 20000 in
theorem mg_X10_patternsOfm_X10_has_170 : GoodIn mwX10_patternsOfm (va_wsS RX10 170 yX10_has mwX10_hasm) := gi_app (A := [.methodLink RX10 170 yX10_has, .static yX10_has, .initialized RX10]) (goodIn_r _ [6, 7, 5] (by decide +kernel) (by decide +kernel)) (gi_sub gd_mwX10_hasm (fun w h => List.mem_cons_of_mem _ (List.mem_append_right _ (List.mem_append_right _ (List.mem_append_right _ (List.mem_append_left _ h))))))
set_option maxRecDepth 20000 in
theorem mg_X10_patternsOfm_X10_candidates_445 : GoodIn mwX10_patternsOfm (wsV RX10 445 RX10 yX10_candidates mwX10_candidatesm) := gi_app (A := [.methodLink RX10 445 yX10_candidates, .instanceMethod yX10_candidates, .selects RX10 yX10_candidates yX10_candidates, .initialized RX10]) (goodIn_r _ [8, 9, 10, 5] (by decide +kernel) (by decide +kernel)) (gi_sub gd_mwX10_candidatesm (fun w h => List.mem_cons_of_mem _ (List.mem_append_right _ (List.mem_append_right _ (List.mem_append_right _ (List.mem_append_right _ (h)))))))
set_option maxHeartbeats 4000000 in
set_option maxRecDepth 100000 in
theorem m_patternsOf (l : Launch) (dC : Nat → ClassId) (dI : Nat → Nat → Nat) (ad : Nat → Nat) (kc : Nat → ClassId) (x0 x1 x2 x3 x4 x5 x6 x7 x8 x9 x10 x11 x12 x13 x14 x15 x16 x17 x18 x19 x20 x21 : Int32) (f0 f1 f2 f3 f4 f5 f6 f7 f8 f9 f10 f11 f12 f13 f14 f15 f16 f17 f18 f19 f20 f21 : Nat → Int32) (fL : Nat → Nat → Int64) (fN : Nat → Nat → Int32) (fP : Nat → Nat → Nat) (fM : Nat → Nat → Int32) (fO : Nat → Nat → Int32) (sz : Nat) (i1 i2 : Int32) (q0 : OKd f0 0) (q1 : PI fP) : Met l yX10_patternsOf mwX10_patternsOfm ({ frames := 43, cells := 0, slots := 0, locals := 2580 }) (va_Pc [.ref (ad 0), .int i1, .int i2] (fun U => U.heap.size = sz ∧ va_P (dC, dI) vwCl (mW ad kc x0 x1 x2 x3 x4 x5 x6 x7 x8 x9 x10 x11 x12 x13 x14 x15 x16 x17 x18 x19 x20 x21 f0 f1 f2 f3 f4 f5 f6 f7 f8 f9 f10 f11 f12 f13 f14 f15 f16 f17 f18 f19 f20 f21 fL fN fP fM fO) U.heap ∧ va_K (dC, dI) vwCl (mT kc) U ∧ va_D (fun _ => True) (mW ad kc x0 x1 x2 x3 x4 x5 x6 x7 x8 x9 x10 x11 x12 x13 x14 x15 x16 x17 x18 x19 x20 x21 f0 f1 f2 f3 f4 f5 f6 f7 f8 f9 f10 f11 f12 f13 f14 f15 f16 f17 f18 f19 f20 f21 fL fN fP fM fO) ∧ (Cond.arrayOver (.array .int)).before #[] U = true)) (va_Qi (fun (o9 u9 : Int32) => o9 = u9) (fun (o9 : Int32) t => ∃ (y12 y13 y14 y15 y16 y17 y18 y19 y20 y21 : Int32) (g3 g4 g5 g6 g7 g8 g9 g10 g11 g12 g13 g14 g15 g16 g17 g18 g19 : Nat → Int32) (L9 : Nat → Nat → Int64) (Nn9 : Nat → Nat → Int32) (P9 : Nat → Nat → Nat) (M9 : Nat → Nat → Int32) (O9 : Nat → Nat → Int32), (PI P9) ∧ va_P (dC, dI) vwCl (mW ad kc x0 x1 x2 x3 x4 x5 x6 x7 x8 x9 x10 x11 y12 y13 y14 y15 y16 y17 y18 y19 y20 y21 f0 f1 f2 g3 g4 g5 g6 g7 g8 g9 g10 g11 g12 g13 g14 g15 g16 g17 g18 g19 f20 f21 L9 Nn9 P9 M9 O9) t.heap ∧ va_K (dC, dI) vwCl (mT kc) t ∧ va_D (va_A (mW ad kc x0 x1 x2 x3 x4 x5 x6 x7 x8 x9 x10 x11 x12 x13 x14 x15 x16 x17 x18 x19 x20 x21 f0 f1 f2 f3 f4 f5 f6 f7 f8 f9 f10 f11 f12 f13 f14 f15 f16 f17 f18 f19 f20 f21 fL fN fP fM fO) sz) (mW ad kc x0 x1 x2 x3 x4 x5 x6 x7 x8 x9 x10 x11 y12 y13 y14 y15 y16 y17 y18 y19 y20 y21 f0 f1 f2 g3 g4 g5 g6 g7 g8 g9 g10 g11 g12 g13 g14 g15 g16 g17 g18 g19 f20 f21 L9 Nn9 P9 M9 O9)) (va_A (mW ad kc x0 x1 x2 x3 x4 x5 x6 x7 x8 x9 x10 x11 x12 x13 x14 x15 x16 x17 x18 x19 x20 x21 f0 f1 f2 f3 f4 f5 f6 f7 f8 f9 f10 f11 f12 f13 f14 f15 f16 f17 f18 f19 f20 f21 fL fN fP fM fO) sz)) 0 0 (va_A (mW ad kc x0 x1 x2 x3 x4 x5 x6 x7 x8 x9 x10 x11 x12 x13 x14 x15 x16 x17 x18 x19 x20 x21 f0 f1 f2 f3 f4 f5 f6 f7 f8 f9 f10 f11 f12 f13 f14 f15 f16 f17 f18 f19 f20 f21 fL fN fP fM fO) sz) := by
  refine Met.ofW (cc := cX10_patternsOf) (maxL := 5) (ret := (some .int)) (by decide +kernel) rfl ?_
  intro p e s m args below meth c s₁ B hml hv
  obtain ⟨rfl, hsz, hP, hK, hD0, hOV⟩ := hv
  have hx := B.exec
  have hb := B.bytes
  have hr := B.returns
  have hts := atoms_spec (ws := mwX10_patternsOfm) B.pre
  have hown : s.vm.findClass RX10 = some m.cls := findClass_of_methodNamed B.named
  have hlocks := B.notSynchronized
  subst hsz
  have hD := hD0.self (sz := s.heap.size)
  generalize hAe : va_A (mW ad kc x0 x1 x2 x3 x4 x5 x6 x7 x8 x9 x10 x11 x12 x13 x14 x15 x16 x17 x18 x19 x20 x21 f0 f1 f2 f3 f4 f5 f6 f7 f8 f9 f10 f11 f12 f13 f14 f15 f16 f17 f18 f19 f20 f21 fL fN fP fM fO) s.heap.size = A at hD ⊢
  have hA : ∀ q : Nat, s.heap.size ≤ q → A q := fun q h => by rw [← hAe]; exact Or.inr h
  have hP : va_P (dC, dI) vwCl (mW ad kc x0 x1 x2 x3 x4 x5 x6 x7 x8 x9 x10 x11 x12 x13 x14 x15 x16 x17 x18 x19 x20 x21 f0 f1 f2 f3 f4 f5 f6 f7 f8 f9 f10 f11 f12 f13 f14 f15 f16 f17 f18 f19 f20 f21 fL fN fP fM fO) s.heap := hP
  have hD : va_D A (mW ad kc x0 x1 x2 x3 x4 x5 x6 x7 x8 x9 x10 x11 x12 x13 x14 x15 x16 x17 x18 x19 x20 x21 f0 f1 f2 f3 f4 f5 f6 f7 f8 f9 f10 f11 f12 f13 f14 f15 f16 f17 f18 f19 f20 f21 fL fN fP fM fO) := hD
  have hK : va_K (dC, dI) vwCl (mT kc) s := hK
  generalize hH : s.heap = H at hP ⊢
  have hS : va_S A s.heap H [] := by rw [← hH]; exact va_S.rf
  have hl := lv_entry ([.ref (ad 0), .int i1, .int i2]) (n := 5) (Nat.le_of_ble_eq_true rfl)
  rw [lg_entry_eq]
  generalize (lg_sl ([.ref (ad 0), .int i1, .int i2]) ++ List.replicate (5 - (lg_sl ([.ref (ad 0), .int i1, .int i2])).length) Slot.unset).toArray = ls at hl ⊢
  have hl : lv_has ls 5 [(0, .ref (ad 0)), (1, .int i1), (2, .int i2)] := hl
  have rg_i1 := i_rng i1
  have rg_i2 := i_rng i2
  have hd10 := q0.n0
  have hp8 := q0.P0
  refine lv_iconst (v := 0) hx hb dX10_patternsOf_0 (by decide) ?_
  refine lv_istore_n (lv' := [(3, .int 0), (0, .ref (ad 0)), (1, .int i1), (2, .int i2)]) hx hb dX10_patternsOf_1 rfl hl (by decide) rfl (fun ls hl => ?_)
  refine lv_iconst (v := 0) hx hb dX10_patternsOf_2 (by decide) ?_
  refine lv_istore (lv' := [(4, .int 0), (3, .int 0), (0, .ref (ad 0)), (1, .int i1), (2, .int i2)]) hx hb dX10_patternsOf_3 hl (by decide) rfl (fun ls hl => ?_)
  have loop5 : ∀ (lm5 : Nat) (bi kk xx12 xx13 xx14 xx15 xx16 xx17 xx18 xx19 xx20 xx21 : Int32) (gg3 gg4 gg5 gg6 gg7 gg8 gg9 gg10 gg11 gg12 gg13 gg14 gg15 gg16 gg17 gg18 gg19 : Nat → Int32) (la : Nat → Nat → Int64) (hn : Nat → Nat → Int32) (pp : Nat → Nat → Nat) (hm : Nat → Nat → Int32) (ho : Nat → Nat → Int32), (0 ≤ kk.toInt ∧ kk.toInt ≤ 8) → (PI pp) → ((8 - kk.toInt).toNat) < lm5 → ∀ (H : Heap) (locs : List Loc) (ls : Array Slot), va_P (dC, dI) vwCl (mW ad kc x0 x1 x2 x3 x4 x5 x6 x7 x8 x9 x10 x11 xx12 xx13 xx14 xx15 xx16 xx17 xx18 xx19 xx20 xx21 f0 f1 f2 gg3 gg4 gg5 gg6 gg7 gg8 gg9 gg10 gg11 gg12 gg13 gg14 gg15 gg16 gg17 gg18 gg19 f20 f21 la hn pp hm ho) H → va_D A (mW ad kc x0 x1 x2 x3 x4 x5 x6 x7 x8 x9 x10 x11 xx12 xx13 xx14 xx15 xx16 xx17 xx18 xx19 xx20 xx21 f0 f1 f2 gg3 gg4 gg5 gg6 gg7 gg8 gg9 gg10 gg11 gg12 gg13 gg14 gg15 gg16 gg17 gg18 gg19 f20 f21 la hn pp hm ho) → va_S A s.heap H locs → lv_has ls 5 [(4, .int kk), (3, .int bi), (0, .ref (ad 0)), (1, .int i1), (2, .int i2)] → W p l e (headSpec mwX10_patternsOfm ({ frames := 43, cells := 0, slots := 0, locals := 2580 })).room s m ([.ref (ad 0), .int i1, .int i2]).toArray below meth c H locs 0 0 (MQ below (va_Qi (fun (o9 u9 : Int32) => o9 = u9) (fun (o9 : Int32) t => ∃ (y12 y13 y14 y15 y16 y17 y18 y19 y20 y21 : Int32) (g3 g4 g5 g6 g7 g8 g9 g10 g11 g12 g13 g14 g15 g16 g17 g18 g19 : Nat → Int32) (L9 : Nat → Nat → Int64) (Nn9 : Nat → Nat → Int32) (P9 : Nat → Nat → Nat) (M9 : Nat → Nat → Int32) (O9 : Nat → Nat → Int32), (PI P9) ∧ va_P (dC, dI) vwCl (mW ad kc x0 x1 x2 x3 x4 x5 x6 x7 x8 x9 x10 x11 y12 y13 y14 y15 y16 y17 y18 y19 y20 y21 f0 f1 f2 g3 g4 g5 g6 g7 g8 g9 g10 g11 g12 g13 g14 g15 g16 g17 g18 g19 f20 f21 L9 Nn9 P9 M9 O9) t.heap ∧ va_K (dC, dI) vwCl (mT kc) t ∧ va_D A (mW ad kc x0 x1 x2 x3 x4 x5 x6 x7 x8 x9 x10 x11 y12 y13 y14 y15 y16 y17 y18 y19 y20 y21 f0 f1 f2 g3 g4 g5 g6 g7 g8 g9 g10 g11 g12 g13 g14 g15 g16 g17 g18 g19 f20 f21 L9 Nn9 P9 M9 O9)) A) ([.ref (ad 0), .int i1, .int i2]).toArray s 0 0 A) (F0 m 5 ls []) := by
    intro lm5
    induction lm5 with
    | zero => intro bi kk xx12 xx13 xx14 xx15 xx16 xx17 xx18 xx19 xx20 xx21 gg3 gg4 gg5 gg6 gg7 gg8 gg9 gg10 gg11 gg12 gg13 gg14 gg15 gg16 gg17 gg18 gg19 la hn pp hm ho v5_0 v5_1 hm5; exact absurd hm5 (Nat.not_lt_zero _)
    | succ lm5 ih5 =>
      intro bi kk xx12 xx13 xx14 xx15 xx16 xx17 xx18 xx19 xx20 xx21 gg3 gg4 gg5 gg6 gg7 gg8 gg9 gg10 gg11 gg12 gg13 gg14 gg15 gg16 gg17 gg18 gg19 la hn pp hm ho v5_0 v5_1 hm5 H locs ls hP hD hS hl
      have rg_bi := i_rng bi
      have rg_kk := i_rng kk
      have rg_xx12 := i_rng xx12
      have rg_xx13 := i_rng xx13
      have rg_xx14 := i_rng xx14
      have rg_xx15 := i_rng xx15
      have rg_xx16 := i_rng xx16
      have rg_xx17 := i_rng xx17
      have rg_xx18 := i_rng xx18
      have rg_xx19 := i_rng xx19
      have rg_xx20 := i_rng xx20
      have rg_xx21 := i_rng xx21
      refine lv_iload hx hb dX10_patternsOf_5 (lv_at hl 0 rfl) ?_
      refine lv_aload_n hx hb dX10_patternsOf_7 rfl (lv_at hl 2 rfl) ?_
      refine va_get (D := (dC, dI)) (ci := 10) (v := .ref (ad 1)) (C := RX10) (T := TX10) (N := 48) hx hb hts fin_X10_patternsOfm_X10 hown hK hP 0 rfl rfl 0 (by decide) (hts (.fieldLink RX10 8 "PatternGateModel" "all" "[I") (List.mem_of_getElem? (i := 1) (by decide +kernel))) (fun _ h9 => h9) rfl dX10_patternsOf_8 ?_
      refine lv_sipush (v := 611) hx hb dX10_patternsOf_11 (by decide) ?_
      refine va_iald hx hb hK hP 1 0 rfl rfl (i := 611) (by unfold vp_in; decide +kernel) dX10_patternsOf_14 ?_
      refine lv_topi (fun y_1 ey_1 => ?_)
      have rg_y_1 := i_rng y_1
      have vy_1 := vI_lda (f := f0) (i := 611) (a := 611) ey_1 (by first | omega | decide)
      have rg_y_1 := i_rng y_1
      refine lv_icmp_ge (tgt := 61) hx hb dX10_patternsOf_15 (by decide) (fun k_2 => ?_) (fun k_2 => ?_)
      · have tk_2 := c_ge (a := kk.toInt) (b := y_1.toInt) rfl rfl k_2
        refine lv_iload_n hx hb dX10_patternsOf_61 rfl (lv_at hl 1 rfl) ?_
        exact W.iret hx hb hr (fun t ht hW => ⟨⟨_, _, rfl, rfl, xx12, xx13, xx14, xx15, xx16, xx17, xx18, xx19, xx20, xx21, gg3, gg4, gg5, gg6, gg7, gg8, gg9, gg10, gg11, gg12, gg13, gg14, gg15, gg16, gg17, gg18, gg19, la, hn, pp, hm, ho, v5_1, by rw [ht]; exact hP, va_K.moved hW.alike hK, hD⟩, hS.F ht⟩) hS.2.2 dX10_patternsOf_62
      · have tk_2 := c_nge (a := kk.toInt) (b := y_1.toInt) rfl rfl k_2
        refine lv_iload_n hx hb dX10_patternsOf_18 rfl (lv_at hl 1 rfl) ?_
        refine lv_iload_n hx hb dX10_patternsOf_19 rfl (lv_at hl 4 rfl) ?_
        refine lv_if_eq (tgt := 32) hx hb dX10_patternsOf_20 (by decide) (fun k_3 => ?_) (fun k_3 => ?_)
        · have tk_3 := c_eq (a := i2.toInt) (b := 0) rfl (by decide) k_3
          refine lv_aload_n hx hb dX10_patternsOf_32 rfl (lv_at hl 2 rfl) ?_
          refine lv_iload hx hb dX10_patternsOf_33 (lv_at hl 0 rfl) ?_
          have hFc := m_free hD hS hA
          refine va_calli (va_runV (As := [.int kk]) (rest := [.int bi]) ⟨hx, hb, hml, hown, hts⟩ (m_fitting l dC dI ad kc x0 x1 x2 x3 x4 x5 x6 x7 x8 x9 x10 x11 xx12 xx13 xx14 xx15 xx16 xx17 xx18 xx19 xx20 xx21 f0 f1 f2 gg3 gg4 gg5 gg6 gg7 gg8 gg9 gg10 gg11 gg12 gg13 gg14 gg15 gg16 gg17 gg18 gg19 f20 f21 la hn pp hm ho H.size kk (by first | omega | assumption | decide | (have l0 := Int32.toInt_zero; omega)) (by first | omega | assumption | decide | (have l0 := Int32.toInt_zero; omega))) (cwV 1 hts mg_X10_patternsOfm_X10_fitting_448 rfl rfl rfl (by decide +kernel) ⟨Nat.le_of_ble_eq_true rfl, Nat.le_of_ble_eq_true rfl⟩) ⟨fun a U g mk q => by obtain ⟨q0, q1, qP, qK, qD⟩ := q; exact ⟨q0, q1, qP, va_K.moved (u := U) (U := U.calling g mk a) (Vm.Alike.refl U.vm) qK, qD⟩, va_recv hK hP (ci := 10) (q0 := 0) rfl rfl, fun U hU hW => ⟨rfl, by rw [hU], by rw [hU]; exact hP, va_K.moved hW.alike hK, hD.weaken (fun _ _ _ _ => trivial)⟩⟩ rfl rfl hl.1 rfl (lv_room (Nat.le_of_ble_eq_true rfl)) dX10_patternsOf_35 ⟨Nat.le_of_ble_eq_true rfl, Nat.le_of_ble_eq_true rfl⟩) hS (fun q _ h => hFc q h) hFc (fun r_4 u t H1 locs ht hvm hw hB hz1 hk1 hS => ?_)
          subst hw
          obtain ⟨x_5, x_6, x_7, x_8, x_9, f_10, f_11, f_12, f_13, f_14, f_15, f_16, f_17, f_18, f_19, f_20, f_21, f_22, hP, hK1, hD1⟩ := hB
          rw [ht] at hP
          have hD := hD1.weaken (fun k q _ h => hFc q.1 h)
          clear hz1 hk1 hFc hD1 hK1 hvm
          generalize H1 = H at hP hS ⊢
          have rg_x_5 := i_rng x_5
          have rg_x_6 := i_rng x_6
          have rg_x_7 := i_rng x_7
          have rg_x_8 := i_rng x_8
          have rg_x_9 := i_rng x_9
          have rg_r_4 := i_rng r_4
          have hP : va_P (dC, dI) vwCl (mW ad kc x0 x1 x2 x3 x4 x5 x6 x7 x8 x9 x10 x11 x_5 x_6 x_7 x_8 xx16 xx17 xx18 xx19 x_9 xx21 f0 f1 f2 f_10 f_11 f_12 f_13 f_14 f_15 gg9 gg10 gg11 f_16 f_17 f_18 f_19 f_20 f_21 f_22 gg19 f20 f21 la hn pp hm ho) H := hP
          have hD : va_D A (mW ad kc x0 x1 x2 x3 x4 x5 x6 x7 x8 x9 x10 x11 x_5 x_6 x_7 x_8 xx16 xx17 xx18 xx19 x_9 xx21 f0 f1 f2 f_10 f_11 f_12 f_13 f_14 f_15 gg9 gg10 gg11 f_16 f_17 f_18 f_19 f_20 f_21 f_22 gg19 f20 f21 la hn pp hm ho) := hD
          refine lv_iload_n hx hb dX10_patternsOf_38 rfl (lv_at hl 3 rfl) ?_
          refine vp_callSi (W.runS (As := [.int r_4, .int i1]) (rest := [.int bi]) ⟨hx, hb, hml, hown, hts⟩ (m_has l dC dI  r_4 i1 ) (va_cwS 2 hts mg_X10_patternsOfm_X10_has_170 rfl rfl rfl (by decide +kernel) ⟨Nat.le_of_ble_eq_true rfl, Nat.le_of_ble_eq_true rfl⟩) ⟨fun a U g mk q => ⟨q.1, trivial⟩, fun U hU hW => ⟨rfl, trivial⟩⟩ rfl rfl hl.1 rfl (lv_room (Nat.le_of_ble_eq_true rfl)) dX10_patternsOf_39 ⟨Nat.le_of_ble_eq_true rfl, Nat.le_of_ble_eq_true rfl⟩) (fun r_23 hr_23 => ?_)
          have rg_r_23 := i_rng r_23
          refine lv_if_eq (tgt := 52) hx hb dX10_patternsOf_42 (by decide) (fun k_24 => ?_) (fun k_24 => ?_)
          · have tk_24 := c_eq (a := r_23.toInt) (b := 0) rfl (by decide) k_24
            refine lv_iconst (v := 0) hx hb dX10_patternsOf_52 (by decide) ?_
            refine lv_ior hx hb dX10_patternsOf_53 ?_
            refine lv_topi (fun y_25 ey_25 => ?_)
            have rg_y_25 := i_rng y_25
            refine lv_istore_n (lv' := [(3, .int y_25), (4, .int kk), (0, .ref (ad 0)), (1, .int i1), (2, .int i2)]) hx hb dX10_patternsOf_54 rfl hl (by decide) rfl (fun ls hl => ?_)
            obtain ⟨y_26, ey_26⟩ : ∃ y : Int32, y = kk + 1 := ⟨_, rfl⟩
            first | have ty_26 := i_add (a := kk.toInt) (b := 1) rfl (by decide) ey_26 (by omega) (by omega) | skip
            refine lv_iinc (v := y_26) (lv' := [(4, .int y_26), (3, .int y_25), (0, .ref (ad 0)), (1, .int i1), (2, .int i2)]) hx hb dX10_patternsOf_55 hl (k := 1) rfl (by rw [ey_26]; rfl) (by decide) rfl (fun ls hl => ?_)
            refine lv_goto (tgt := 5) hx hb dX10_patternsOf_58 (by decide) ?_
            exact ih5 y_25 y_26 x_5 x_6 x_7 x_8 xx16 xx17 xx18 xx19 x_9 xx21 f_10 f_11 f_12 f_13 f_14 f_15 gg9 gg10 gg11 f_16 f_17 f_18 f_19 f_20 f_21 f_22 gg19 la hn pp hm ho (by first | omega | assumption | decide) v5_1 (by omega) _ _ ls hP hD hS (lv_sub hl [0, 1, 2, 3, 4] rfl)
          · have tk_24 := c_ne (a := r_23.toInt) (b := 0) rfl (by decide) k_24
            refine lv_iconst (v := 1) hx hb dX10_patternsOf_45 (by decide) ?_
            refine lv_iload hx hb dX10_patternsOf_46 (lv_at hl 0 rfl) ?_
            refine lv_ishl hx hb dX10_patternsOf_48 ?_
            refine lv_topi (fun y_27 ey_27 => ?_)
            have rg_y_27 := i_rng y_27
            refine lv_goto (tgt := 53) hx hb dX10_patternsOf_49 (by decide) ?_
            refine lv_ior hx hb dX10_patternsOf_53 ?_
            refine lv_topi (fun y_28 ey_28 => ?_)
            have rg_y_28 := i_rng y_28
            refine lv_istore_n (lv' := [(3, .int y_28), (4, .int kk), (0, .ref (ad 0)), (1, .int i1), (2, .int i2)]) hx hb dX10_patternsOf_54 rfl hl (by decide) rfl (fun ls hl => ?_)
            obtain ⟨y_29, ey_29⟩ : ∃ y : Int32, y = kk + 1 := ⟨_, rfl⟩
            first | have ty_29 := i_add (a := kk.toInt) (b := 1) rfl (by decide) ey_29 (by omega) (by omega) | skip
            refine lv_iinc (v := y_29) (lv' := [(4, .int y_29), (3, .int y_28), (0, .ref (ad 0)), (1, .int i1), (2, .int i2)]) hx hb dX10_patternsOf_55 hl (k := 1) rfl (by rw [ey_29]; rfl) (by decide) rfl (fun ls hl => ?_)
            refine lv_goto (tgt := 5) hx hb dX10_patternsOf_58 (by decide) ?_
            exact ih5 y_28 y_29 x_5 x_6 x_7 x_8 xx16 xx17 xx18 xx19 x_9 xx21 f_10 f_11 f_12 f_13 f_14 f_15 gg9 gg10 gg11 f_16 f_17 f_18 f_19 f_20 f_21 f_22 gg19 la hn pp hm ho (by first | omega | assumption | decide) v5_1 (by omega) _ _ ls hP hD hS (lv_sub hl [0, 1, 2, 3, 4] rfl)
        · have tk_3 := c_ne (a := i2.toInt) (b := 0) rfl (by decide) k_3
          refine lv_aload_n hx hb dX10_patternsOf_23 rfl (lv_at hl 2 rfl) ?_
          refine lv_iload hx hb dX10_patternsOf_24 (lv_at hl 0 rfl) ?_
          have hFc := m_free hD hS hA
          refine va_calli (va_runV (As := [.int kk]) (rest := [.int bi]) ⟨hx, hb, hml, hown, hts⟩ (m_candidates l dC dI ad kc x0 x1 x2 x3 x4 x5 x6 x7 x8 x9 x10 x11 xx12 xx13 xx14 xx15 xx16 xx17 xx18 xx19 xx20 xx21 f0 f1 f2 gg3 gg4 gg5 gg6 gg7 gg8 gg9 gg10 gg11 gg12 gg13 gg14 gg15 gg16 gg17 gg18 gg19 f20 f21 la hn pp hm ho H.size kk (by first | omega | assumption | decide | (have l0 := Int32.toInt_zero; omega)) (by first | omega | assumption | decide | (have l0 := Int32.toInt_zero; omega)) (by first | omega | assumption | decide | (have l0 := Int32.toInt_zero; omega))) (cwV 1 hts mg_X10_patternsOfm_X10_candidates_445 rfl rfl rfl (by decide +kernel) ⟨Nat.le_of_ble_eq_true rfl, Nat.le_of_ble_eq_true rfl⟩) ⟨fun a U g mk q => by obtain ⟨q0, q1, qP, qK, qD, qE⟩ := q; exact ⟨q0, q1, qP, va_K.moved (u := U) (U := U.calling g mk a) (Vm.Alike.refl U.vm) qK, qD, over_moved (u := U) (E := U.calling g mk a) (Vm.Alike.refl U.vm) qE⟩, va_recv hK hP (ci := 10) (q0 := 0) rfl rfl, fun U hU hW => ⟨rfl, by rw [hU], by rw [hU]; exact hP, va_K.moved hW.alike hK, hD.weaken (fun _ _ _ _ => trivial), over_moved hW.alike hOV⟩⟩ rfl rfl hl.1 rfl (lv_room (Nat.le_of_ble_eq_true rfl)) dX10_patternsOf_26 ⟨Nat.le_of_ble_eq_true rfl, Nat.le_of_ble_eq_true rfl⟩) hS (fun q _ h => hFc q h) hFc (fun r_30 u t H1 locs ht hvm hw hB hz1 hk1 hS => ?_)
          subst hw
          obtain ⟨x_31, x_32, x_33, x_34, x_35, x_36, x_37, x_38, x_39, f_40, f_41, f_42, f_43, f_44, f_45, f_46, f_47, f_48, f_49, L_50, Nn_51, P_52, M_53, O_54, hr_30_0, hP, hK1, hD1⟩ := hB
          rw [ht] at hP
          have hD := hD1.weaken (fun k q _ h => hFc q.1 h)
          clear hz1 hk1 hFc hD1 hK1 hvm
          generalize H1 = H at hP hS ⊢
          have rg_x_31 := i_rng x_31
          have rg_x_32 := i_rng x_32
          have rg_x_33 := i_rng x_33
          have rg_x_34 := i_rng x_34
          have rg_x_35 := i_rng x_35
          have rg_x_36 := i_rng x_36
          have rg_x_37 := i_rng x_37
          have rg_x_38 := i_rng x_38
          have rg_x_39 := i_rng x_39
          have rg_r_30 := i_rng r_30
          have hP : va_P (dC, dI) vwCl (mW ad kc x0 x1 x2 x3 x4 x5 x6 x7 x8 x9 x10 x11 x_31 x_32 x_33 x_34 x_35 x_36 x_37 x_38 xx20 x_39 f0 f1 f2 f_40 f_41 f_42 f_43 f_44 f_45 f_46 f_47 f_48 gg12 gg13 gg14 gg15 gg16 gg17 gg18 f_49 f20 f21 L_50 Nn_51 P_52 M_53 O_54) H := hP
          have hD : va_D A (mW ad kc x0 x1 x2 x3 x4 x5 x6 x7 x8 x9 x10 x11 x_31 x_32 x_33 x_34 x_35 x_36 x_37 x_38 xx20 x_39 f0 f1 f2 f_40 f_41 f_42 f_43 f_44 f_45 f_46 f_47 f_48 gg12 gg13 gg14 gg15 gg16 gg17 gg18 f_49 f20 f21 L_50 Nn_51 P_52 M_53 O_54) := hD
          refine lv_goto (tgt := 38) hx hb dX10_patternsOf_29 (by decide) ?_
          refine lv_iload_n hx hb dX10_patternsOf_38 rfl (lv_at hl 3 rfl) ?_
          refine vp_callSi (W.runS (As := [.int r_30, .int i1]) (rest := [.int bi]) ⟨hx, hb, hml, hown, hts⟩ (m_has l dC dI  r_30 i1 ) (va_cwS 2 hts mg_X10_patternsOfm_X10_has_170 rfl rfl rfl (by decide +kernel) ⟨Nat.le_of_ble_eq_true rfl, Nat.le_of_ble_eq_true rfl⟩) ⟨fun a U g mk q => ⟨q.1, trivial⟩, fun U hU hW => ⟨rfl, trivial⟩⟩ rfl rfl hl.1 rfl (lv_room (Nat.le_of_ble_eq_true rfl)) dX10_patternsOf_39 ⟨Nat.le_of_ble_eq_true rfl, Nat.le_of_ble_eq_true rfl⟩) (fun r_55 hr_55 => ?_)
          have rg_r_55 := i_rng r_55
          refine lv_if_eq (tgt := 52) hx hb dX10_patternsOf_42 (by decide) (fun k_56 => ?_) (fun k_56 => ?_)
          · have tk_56 := c_eq (a := r_55.toInt) (b := 0) rfl (by decide) k_56
            refine lv_iconst (v := 0) hx hb dX10_patternsOf_52 (by decide) ?_
            refine lv_ior hx hb dX10_patternsOf_53 ?_
            refine lv_topi (fun y_57 ey_57 => ?_)
            have rg_y_57 := i_rng y_57
            refine lv_istore_n (lv' := [(3, .int y_57), (4, .int kk), (0, .ref (ad 0)), (1, .int i1), (2, .int i2)]) hx hb dX10_patternsOf_54 rfl hl (by decide) rfl (fun ls hl => ?_)
            obtain ⟨y_58, ey_58⟩ : ∃ y : Int32, y = kk + 1 := ⟨_, rfl⟩
            first | have ty_58 := i_add (a := kk.toInt) (b := 1) rfl (by decide) ey_58 (by omega) (by omega) | skip
            refine lv_iinc (v := y_58) (lv' := [(4, .int y_58), (3, .int y_57), (0, .ref (ad 0)), (1, .int i1), (2, .int i2)]) hx hb dX10_patternsOf_55 hl (k := 1) rfl (by rw [ey_58]; rfl) (by decide) rfl (fun ls hl => ?_)
            refine lv_goto (tgt := 5) hx hb dX10_patternsOf_58 (by decide) ?_
            exact ih5 y_57 y_58 x_31 x_32 x_33 x_34 x_35 x_36 x_37 x_38 xx20 x_39 f_40 f_41 f_42 f_43 f_44 f_45 f_46 f_47 f_48 gg12 gg13 gg14 gg15 gg16 gg17 gg18 f_49 L_50 Nn_51 P_52 M_53 O_54 (by first | omega | assumption | decide) hr_30_0 (by omega) _ _ ls hP hD hS (lv_sub hl [0, 1, 2, 3, 4] rfl)
          · have tk_56 := c_ne (a := r_55.toInt) (b := 0) rfl (by decide) k_56
            refine lv_iconst (v := 1) hx hb dX10_patternsOf_45 (by decide) ?_
            refine lv_iload hx hb dX10_patternsOf_46 (lv_at hl 0 rfl) ?_
            refine lv_ishl hx hb dX10_patternsOf_48 ?_
            refine lv_topi (fun y_59 ey_59 => ?_)
            have rg_y_59 := i_rng y_59
            refine lv_goto (tgt := 53) hx hb dX10_patternsOf_49 (by decide) ?_
            refine lv_ior hx hb dX10_patternsOf_53 ?_
            refine lv_topi (fun y_60 ey_60 => ?_)
            have rg_y_60 := i_rng y_60
            refine lv_istore_n (lv' := [(3, .int y_60), (4, .int kk), (0, .ref (ad 0)), (1, .int i1), (2, .int i2)]) hx hb dX10_patternsOf_54 rfl hl (by decide) rfl (fun ls hl => ?_)
            obtain ⟨y_61, ey_61⟩ : ∃ y : Int32, y = kk + 1 := ⟨_, rfl⟩
            first | have ty_61 := i_add (a := kk.toInt) (b := 1) rfl (by decide) ey_61 (by omega) (by omega) | skip
            refine lv_iinc (v := y_61) (lv' := [(4, .int y_61), (3, .int y_60), (0, .ref (ad 0)), (1, .int i1), (2, .int i2)]) hx hb dX10_patternsOf_55 hl (k := 1) rfl (by rw [ey_61]; rfl) (by decide) rfl (fun ls hl => ?_)
            refine lv_goto (tgt := 5) hx hb dX10_patternsOf_58 (by decide) ?_
            exact ih5 y_60 y_61 x_31 x_32 x_33 x_34 x_35 x_36 x_37 x_38 xx20 x_39 f_40 f_41 f_42 f_43 f_44 f_45 f_46 f_47 f_48 gg12 gg13 gg14 gg15 gg16 gg17 gg18 f_49 L_50 Nn_51 P_52 M_53 O_54 (by first | omega | assumption | decide) hr_30_0 (by omega) _ _ ls hP hD hS (lv_sub hl [0, 1, 2, 3, 4] rfl)
  have lit_61 : (0 : Int32).toInt = 0 := by decide
  have lit_62 : (0 : Int32).toInt = 0 := by decide
  exact loop5 _ 0 0 x12 x13 x14 x15 x16 x17 x18 x19 x20 x21 f3 f4 f5 f6 f7 f8 f9 f10 f11 f12 f13 f14 f15 f16 f17 f18 f19 fL fN fP fM fO (by first | omega | assumption | decide) q1 (Nat.lt_succ_self _) _ _ ls hP hD hS (lv_sub hl [0, 1, 2, 3, 4] rfl)
def mwX10_addsmT : List Cond := .code yX10_adds cX10_adds 4 none :: (([] : List Cond))
set_option maxHeartbeats 4000000 in
set_option maxRecDepth 100000 in
theorem m_addsT (l : Launch) (dC : Nat → ClassId) (dI : Nat → Nat → Nat) (ad : Nat → Nat) (kc : Nat → ClassId) (x0 x1 x2 x3 x4 x5 x6 x7 x8 x9 x10 x11 x12 x13 x14 x15 x16 x17 x18 x19 x20 x21 : Int32) (f0 f1 f2 f3 f4 f5 f6 f7 f8 f9 f10 f11 f12 f13 f14 f15 f16 f17 f18 f19 f20 f21 : Nat → Int32) (fL : Nat → Nat → Int64) (fN : Nat → Nat → Int32) (fP : Nat → Nat → Nat) (fM : Nat → Nat → Int32) (fO : Nat → Nat → Int32) (sz : Nat) (i2 : Int32) (q0 : 0 ≤ vI f21 0 ∧ vI f21 0 ≤ 2000) : Met l yX10_adds mwX10_addsmT ({ frames := 0, cells := 0, slots := 0, locals := 0 }) (va_Pc [.ref (ad 22), .int i2] (fun U => U.heap.size = sz ∧ va_P (dC, dI) vwCl (mW ad kc x0 x1 x2 x3 x4 x5 x6 x7 x8 x9 x10 x11 x12 x13 x14 x15 x16 x17 x18 x19 x20 x21 f0 f1 f2 f3 f4 f5 f6 f7 f8 f9 f10 f11 f12 f13 f14 f15 f16 f17 f18 f19 f20 f21 fL fN fP fM fO) U.heap ∧ va_K (dC, dI) vwCl (mT kc) U ∧ va_D (fun _ => True) (mW ad kc x0 x1 x2 x3 x4 x5 x6 x7 x8 x9 x10 x11 x12 x13 x14 x15 x16 x17 x18 x19 x20 x21 f0 f1 f2 f3 f4 f5 f6 f7 f8 f9 f10 f11 f12 f13 f14 f15 f16 f17 f18 f19 f20 f21 fL fN fP fM fO))) (va_Qv (fun (_ : Unit) => True) (fun _ t => ∃ (g21 : Nat → Int32), (vI f21 0 ≤ vI g21 0 ∧ vI g21 0 ≤ vI f21 0 + 1) ∧ va_P (dC, dI) vwCl (mW ad kc x0 x1 x2 x3 x4 x5 x6 x7 x8 x9 x10 x11 x12 x13 x14 x15 x16 x17 x18 x19 x20 x21 f0 f1 f2 f3 f4 f5 f6 f7 f8 f9 f10 f11 f12 f13 f14 f15 f16 f17 f18 f19 f20 g21 fL fN fP fM fO) t.heap ∧ va_K (dC, dI) vwCl (mT kc) t ∧ va_D (va_A (mW ad kc x0 x1 x2 x3 x4 x5 x6 x7 x8 x9 x10 x11 x12 x13 x14 x15 x16 x17 x18 x19 x20 x21 f0 f1 f2 f3 f4 f5 f6 f7 f8 f9 f10 f11 f12 f13 f14 f15 f16 f17 f18 f19 f20 f21 fL fN fP fM fO) sz) (mW ad kc x0 x1 x2 x3 x4 x5 x6 x7 x8 x9 x10 x11 x12 x13 x14 x15 x16 x17 x18 x19 x20 x21 f0 f1 f2 f3 f4 f5 f6 f7 f8 f9 f10 f11 f12 f13 f14 f15 f16 f17 f18 f19 f20 g21 fL fN fP fM fO)) (va_A (mW ad kc x0 x1 x2 x3 x4 x5 x6 x7 x8 x9 x10 x11 x12 x13 x14 x15 x16 x17 x18 x19 x20 x21 f0 f1 f2 f3 f4 f5 f6 f7 f8 f9 f10 f11 f12 f13 f14 f15 f16 f17 f18 f19 f20 f21 fL fN fP fM fO) sz)) 0 0 (va_A (mW ad kc x0 x1 x2 x3 x4 x5 x6 x7 x8 x9 x10 x11 x12 x13 x14 x15 x16 x17 x18 x19 x20 x21 f0 f1 f2 f3 f4 f5 f6 f7 f8 f9 f10 f11 f12 f13 f14 f15 f16 f17 f18 f19 f20 f21 fL fN fP fM fO) sz) := by
  refine Met.ofW (cc := cX10_adds) (maxL := 4) (ret := none) (by decide +kernel) rfl ?_
  intro p e s m args below meth c s₁ B hml hv
  obtain ⟨rfl, hsz, hP, hK, hD0⟩ := hv
  have hx := B.exec
  have hb := B.bytes
  have hr := B.returns
  have hts := atoms_spec (ws := mwX10_addsmT) B.pre
  have hown : s.vm.findClass RX10 = some m.cls := findClass_of_methodNamed B.named
  have hlocks := B.notSynchronized
  subst hsz
  have hD := hD0.self (sz := s.heap.size)
  generalize hAe : va_A (mW ad kc x0 x1 x2 x3 x4 x5 x6 x7 x8 x9 x10 x11 x12 x13 x14 x15 x16 x17 x18 x19 x20 x21 f0 f1 f2 f3 f4 f5 f6 f7 f8 f9 f10 f11 f12 f13 f14 f15 f16 f17 f18 f19 f20 f21 fL fN fP fM fO) s.heap.size = A at hD ⊢
  have hA : ∀ q : Nat, s.heap.size ≤ q → A q := fun q h => by rw [← hAe]; exact Or.inr h
  have hP : va_P (dC, dI) vwCl (mW ad kc x0 x1 x2 x3 x4 x5 x6 x7 x8 x9 x10 x11 x12 x13 x14 x15 x16 x17 x18 x19 x20 x21 f0 f1 f2 f3 f4 f5 f6 f7 f8 f9 f10 f11 f12 f13 f14 f15 f16 f17 f18 f19 f20 f21 fL fN fP fM fO) s.heap := hP
  have hD : va_D A (mW ad kc x0 x1 x2 x3 x4 x5 x6 x7 x8 x9 x10 x11 x12 x13 x14 x15 x16 x17 x18 x19 x20 x21 f0 f1 f2 f3 f4 f5 f6 f7 f8 f9 f10 f11 f12 f13 f14 f15 f16 f17 f18 f19 f20 f21 fL fN fP fM fO) := hD
  have hK : va_K (dC, dI) vwCl (mT kc) s := hK
  generalize hH : s.heap = H at hP ⊢
  have hS : va_S A s.heap H [] := by rw [← hH]; exact va_S.rf
  have hl := lv_entry ([.ref (ad 22), .int i2]) (n := 4) (Nat.le_of_ble_eq_true rfl)
  rw [lg_entry_eq]
  generalize (lg_sl ([.ref (ad 22), .int i2]) ++ List.replicate (4 - (lg_sl ([.ref (ad 22), .int i2])).length) Slot.unset).toArray = ls at hl ⊢
  have hl : lv_has ls 4 [(0, .ref (ad 22)), (1, .int i2)] := hl
  have rg_i2 := i_rng i2
  refine lv_aload_n hx hb dX10_adds_0 rfl (lv_at hl 0 rfl) ?_
  refine lv_iconst (v := 0) hx hb dX10_adds_1 (by decide) ?_
  refine va_iald hx hb hK hP 22 21 rfl rfl (i := 0) (by unfold vp_in; decide +kernel) dX10_adds_2 ?_
  refine lv_topi (fun y_1 ey_1 => ?_)
  have rg_y_1 := i_rng y_1
  have vy_1 := vI_lda (f := f21) (i := 0) (a := 0) ey_1 (by first | omega | decide)
  have rg_y_1 := i_rng y_1
  refine lv_istore_n (lv' := [(2, .int y_1), (0, .ref (ad 22)), (1, .int i2)]) hx hb dX10_adds_3 rfl hl (by decide) rfl (fun ls hl => ?_)
  have loop4 : ∀ (lm4 : Nat) (kk : Int32), (0 ≤ kk.toInt ∧ kk.toInt ≤ vI f21 0) → kk.toInt.toNat < lm4 → ∀ (H : Heap) (locs : List Loc) (ls : Array Slot), va_P (dC, dI) vwCl (mW ad kc x0 x1 x2 x3 x4 x5 x6 x7 x8 x9 x10 x11 x12 x13 x14 x15 x16 x17 x18 x19 x20 x21 f0 f1 f2 f3 f4 f5 f6 f7 f8 f9 f10 f11 f12 f13 f14 f15 f16 f17 f18 f19 f20 f21 fL fN fP fM fO) H → va_D A (mW ad kc x0 x1 x2 x3 x4 x5 x6 x7 x8 x9 x10 x11 x12 x13 x14 x15 x16 x17 x18 x19 x20 x21 f0 f1 f2 f3 f4 f5 f6 f7 f8 f9 f10 f11 f12 f13 f14 f15 f16 f17 f18 f19 f20 f21 fL fN fP fM fO) → va_S A s.heap H locs → lv_has ls 4 [(2, .int kk), (0, .ref (ad 22)), (1, .int i2)] → W p l e (headSpec mwX10_addsmT ({ frames := 0, cells := 0, slots := 0, locals := 0 })).room s m ([.ref (ad 22), .int i2]).toArray below meth c H locs 0 0 (MQ below (va_Qv (fun (_ : Unit) => True) (fun _ t => ∃ (g21 : Nat → Int32), (vI f21 0 ≤ vI g21 0 ∧ vI g21 0 ≤ vI f21 0 + 1) ∧ va_P (dC, dI) vwCl (mW ad kc x0 x1 x2 x3 x4 x5 x6 x7 x8 x9 x10 x11 x12 x13 x14 x15 x16 x17 x18 x19 x20 x21 f0 f1 f2 f3 f4 f5 f6 f7 f8 f9 f10 f11 f12 f13 f14 f15 f16 f17 f18 f19 f20 g21 fL fN fP fM fO) t.heap ∧ va_K (dC, dI) vwCl (mT kc) t ∧ va_D A (mW ad kc x0 x1 x2 x3 x4 x5 x6 x7 x8 x9 x10 x11 x12 x13 x14 x15 x16 x17 x18 x19 x20 x21 f0 f1 f2 f3 f4 f5 f6 f7 f8 f9 f10 f11 f12 f13 f14 f15 f16 f17 f18 f19 f20 g21 fL fN fP fM fO)) A) ([.ref (ad 22), .int i2]).toArray s 0 0 A) (F0 m 4 ls []) := by
    intro lm4
    induction lm4 with
    | zero => intro kk v4_0 hm4; exact absurd hm4 (Nat.not_lt_zero _)
    | succ lm4 ih4 =>
      intro kk v4_0 hm4 H locs ls hP hD hS hl
      have rg_kk := i_rng kk
      refine lv_iload_n hx hb dX10_adds_4 rfl (lv_at hl 0 rfl) ?_
      refine lv_if_le (tgt := 21) hx hb dX10_adds_5 (by decide) (fun k_2 => ?_) (fun k_2 => ?_)
      · have tk_2 := c_le (a := kk.toInt) (b := 0) rfl (by decide) k_2
        refine lv_iload_n hx hb dX10_adds_21 rfl (lv_at hl 0 rfl) ?_
        refine lv_if_le (tgt := 33) hx hb dX10_adds_22 (by decide) (fun k_3 => ?_) (fun k_3 => ?_)
        · have tk_3 := c_le (a := kk.toInt) (b := 0) rfl (by decide) k_3
          refine lv_aload_n hx hb dX10_adds_33 rfl (lv_at hl 1 rfl) ?_
          refine lv_iconst (v := 0) hx hb dX10_adds_34 (by decide) ?_
          refine va_iald hx hb hK hP 22 21 rfl rfl (i := 0) (by unfold vp_in; decide +kernel) dX10_adds_35 ?_
          refine lv_topi (fun y_4 ey_4 => ?_)
          have rg_y_4 := i_rng y_4
          have vy_4 := vI_lda (f := f21) (i := 0) (a := 0) ey_4 (by first | omega | decide)
          have rg_y_4 := i_rng y_4
          refine lv_istore_n (lv' := [(3, .int y_4), (2, .int kk), (0, .ref (ad 22)), (1, .int i2)]) hx hb dX10_adds_36 rfl hl (by decide) rfl (fun ls hl => ?_)
          have loop37 : ∀ (lm37 : Nat) (ii : Int32) (ga : Nat → Int32), (kk.toInt ≤ ii.toInt) → (ii.toInt ≤ vI f21 0) → (vI ga 0 = vI f21 0) → ii.toInt.toNat < lm37 → ∀ (H : Heap) (locs : List Loc) (ls : Array Slot), va_P (dC, dI) vwCl (mW ad kc x0 x1 x2 x3 x4 x5 x6 x7 x8 x9 x10 x11 x12 x13 x14 x15 x16 x17 x18 x19 x20 x21 f0 f1 f2 f3 f4 f5 f6 f7 f8 f9 f10 f11 f12 f13 f14 f15 f16 f17 f18 f19 f20 ga fL fN fP fM fO) H → va_D A (mW ad kc x0 x1 x2 x3 x4 x5 x6 x7 x8 x9 x10 x11 x12 x13 x14 x15 x16 x17 x18 x19 x20 x21 f0 f1 f2 f3 f4 f5 f6 f7 f8 f9 f10 f11 f12 f13 f14 f15 f16 f17 f18 f19 f20 ga fL fN fP fM fO) → va_S A s.heap H locs → lv_has ls 4 [(3, .int ii), (2, .int kk), (0, .ref (ad 22)), (1, .int i2)] → W p l e (headSpec mwX10_addsmT ({ frames := 0, cells := 0, slots := 0, locals := 0 })).room s m ([.ref (ad 22), .int i2]).toArray below meth c H locs 0 0 (MQ below (va_Qv (fun (_ : Unit) => True) (fun _ t => ∃ (g21 : Nat → Int32), (vI f21 0 ≤ vI g21 0 ∧ vI g21 0 ≤ vI f21 0 + 1) ∧ va_P (dC, dI) vwCl (mW ad kc x0 x1 x2 x3 x4 x5 x6 x7 x8 x9 x10 x11 x12 x13 x14 x15 x16 x17 x18 x19 x20 x21 f0 f1 f2 f3 f4 f5 f6 f7 f8 f9 f10 f11 f12 f13 f14 f15 f16 f17 f18 f19 f20 g21 fL fN fP fM fO) t.heap ∧ va_K (dC, dI) vwCl (mT kc) t ∧ va_D A (mW ad kc x0 x1 x2 x3 x4 x5 x6 x7 x8 x9 x10 x11 x12 x13 x14 x15 x16 x17 x18 x19 x20 x21 f0 f1 f2 f3 f4 f5 f6 f7 f8 f9 f10 f11 f12 f13 f14 f15 f16 f17 f18 f19 f20 g21 fL fN fP fM fO)) A) ([.ref (ad 22), .int i2]).toArray s 0 0 A) (F0 m 37 ls []) := by
            intro lm37
            induction lm37 with
            | zero => intro ii ga v37_0 v37_1 v37_2 hm37; exact absurd hm37 (Nat.not_lt_zero _)
            | succ lm37 ih37 =>
              intro ii ga v37_0 v37_1 v37_2 hm37 H locs ls hP hD hS hl
              have rg_ii := i_rng ii
              refine lv_iload_n hx hb dX10_adds_37 rfl (lv_at hl 0 rfl) ?_
              refine lv_iload_n hx hb dX10_adds_38 rfl (lv_at hl 1 rfl) ?_
              refine lv_icmp_le (tgt := 56) hx hb dX10_adds_39 (by decide) (fun k_5 => ?_) (fun k_5 => ?_)
              · have tk_5 := c_le (a := ii.toInt) (b := kk.toInt) rfl rfl k_5
                refine lv_aload_n hx hb dX10_adds_56 rfl (lv_at hl 2 rfl) ?_
                refine lv_iload_n hx hb dX10_adds_57 rfl (lv_at hl 1 rfl) ?_
                refine lv_iconst (v := 1) hx hb dX10_adds_58 (by decide) ?_
                refine lv_iadd hx hb dX10_adds_59 ?_
                refine lv_topi (fun y_6 ey_6 => ?_)
                first | have ty_6 := i_add (a := kk.toInt) (b := 1) rfl (by decide) ey_6 (by omega) (by omega) | skip
                refine lv_iload_n hx hb dX10_adds_60 rfl (lv_at hl 3 rfl) ?_
                refine va_iast hx hb hK hP hD hS 22 21 rfl rfl (i := y_6) (vp_of (a := y_6.toInt) rfl (by omega) (by omega)) dX10_adds_61 (fun H locs hP hD hS => ?_)
                generalize hf_f_7 : upd ga _ _ = f_7 at hP hD
                have uf_7 := vI_up (a := (kk.toInt + 1)) (b := i2.toInt) hf_f_7 (by first | omega | decide) (by omega) rfl
                have hP : va_P (dC, dI) vwCl (mW ad kc x0 x1 x2 x3 x4 x5 x6 x7 x8 x9 x10 x11 x12 x13 x14 x15 x16 x17 x18 x19 x20 x21 f0 f1 f2 f3 f4 f5 f6 f7 f8 f9 f10 f11 f12 f13 f14 f15 f16 f17 f18 f19 f20 f_7 fL fN fP fM fO) H := hP
                have hD : va_D A (mW ad kc x0 x1 x2 x3 x4 x5 x6 x7 x8 x9 x10 x11 x12 x13 x14 x15 x16 x17 x18 x19 x20 x21 f0 f1 f2 f3 f4 f5 f6 f7 f8 f9 f10 f11 f12 f13 f14 f15 f16 f17 f18 f19 f20 f_7 fL fN fP fM fO) := hD
                refine lv_aload_n hx hb dX10_adds_62 rfl (lv_at hl 2 rfl) ?_
                refine lv_iconst (v := 0) hx hb dX10_adds_63 (by decide) ?_
                refine lv_dup2_11 hx hb dX10_adds_64 rfl rfl ?_
                refine va_iald hx hb hK hP 22 21 rfl rfl (i := 0) (by unfold vp_in; decide +kernel) dX10_adds_65 ?_
                refine lv_topi (fun y_8 ey_8 => ?_)
                have rg_y_8 := i_rng y_8
                have vy_8 := vI_lda (f := f_7) (i := 0) (a := 0) ey_8 (by first | omega | decide)
                have rg_y_8 := i_rng y_8
                have wy_8 := (uf_7.2 0 (by omega) (by omega)).trans v37_2
                refine lv_iconst (v := 1) hx hb dX10_adds_66 (by decide) ?_
                refine lv_iadd hx hb dX10_adds_67 ?_
                refine lv_topi (fun y_9 ey_9 => ?_)
                first | have ty_9 := i_add (a := y_8.toInt) (b := 1) rfl (by decide) ey_9 (by omega) (by omega) | skip
                refine va_iast hx hb hK hP hD hS 22 21 rfl rfl (i := 0) (by unfold vp_in; decide +kernel) dX10_adds_68 (fun H locs hP hD hS => ?_)
                generalize hf_f_10 : upd f_7 _ _ = f_10 at hP hD
                have uf_10 := vI_up (a := 0) (b := y_9.toInt) hf_f_10 (by first | omega | decide) (by omega) rfl
                have hP : va_P (dC, dI) vwCl (mW ad kc x0 x1 x2 x3 x4 x5 x6 x7 x8 x9 x10 x11 x12 x13 x14 x15 x16 x17 x18 x19 x20 x21 f0 f1 f2 f3 f4 f5 f6 f7 f8 f9 f10 f11 f12 f13 f14 f15 f16 f17 f18 f19 f20 f_10 fL fN fP fM fO) H := hP
                have hD : va_D A (mW ad kc x0 x1 x2 x3 x4 x5 x6 x7 x8 x9 x10 x11 x12 x13 x14 x15 x16 x17 x18 x19 x20 x21 f0 f1 f2 f3 f4 f5 f6 f7 f8 f9 f10 f11 f12 f13 f14 f15 f16 f17 f18 f19 f20 f_10 fL fN fP fM fO) := hD
                exact W.vret hx hb hr (fun t ht hW => ⟨⟨(), rfl, trivial, f_10, (by have h9 := uf_10.1; omega), by rw [ht]; exact hP, va_K.moved hW.alike hK, hD⟩, hS.F ht⟩) hS.2.2 dX10_adds_69
              · have tk_5 := c_nle (a := ii.toInt) (b := kk.toInt) rfl rfl k_5
                refine lv_aload_n hx hb dX10_adds_42 rfl (lv_at hl 2 rfl) ?_
                refine lv_iload_n hx hb dX10_adds_43 rfl (lv_at hl 0 rfl) ?_
                refine lv_iconst (v := 1) hx hb dX10_adds_44 (by decide) ?_
                refine lv_iadd hx hb dX10_adds_45 ?_
                refine lv_topi (fun y_11 ey_11 => ?_)
                first | have ty_11 := i_add (a := ii.toInt) (b := 1) rfl (by decide) ey_11 (by omega) (by omega) | skip
                refine lv_aload_n hx hb dX10_adds_46 rfl (lv_at hl 2 rfl) ?_
                refine lv_iload_n hx hb dX10_adds_47 rfl (lv_at hl 0 rfl) ?_
                refine va_iald hx hb hK hP 22 21 rfl rfl (i := ii) (vp_of (a := ii.toInt) rfl (by omega) (by omega)) dX10_adds_48 ?_
                refine lv_topi (fun y_12 ey_12 => ?_)
                have rg_y_12 := i_rng y_12
                have vy_12 := vI_lda (f := ga) (i := ii) (a := ii.toInt) ey_12 (by first | omega | decide)
                have rg_y_12 := i_rng y_12
                refine va_iast hx hb hK hP hD hS 22 21 rfl rfl (i := y_11) (vp_of (a := y_11.toInt) rfl (by omega) (by omega)) dX10_adds_49 (fun H locs hP hD hS => ?_)
                generalize hf_f_13 : upd ga _ _ = f_13 at hP hD
                have uf_13 := vI_up (a := (ii.toInt + 1)) (b := y_12.toInt) hf_f_13 (by first | omega | decide) (by omega) rfl
                have hP : va_P (dC, dI) vwCl (mW ad kc x0 x1 x2 x3 x4 x5 x6 x7 x8 x9 x10 x11 x12 x13 x14 x15 x16 x17 x18 x19 x20 x21 f0 f1 f2 f3 f4 f5 f6 f7 f8 f9 f10 f11 f12 f13 f14 f15 f16 f17 f18 f19 f20 f_13 fL fN fP fM fO) H := hP
                have hD : va_D A (mW ad kc x0 x1 x2 x3 x4 x5 x6 x7 x8 x9 x10 x11 x12 x13 x14 x15 x16 x17 x18 x19 x20 x21 f0 f1 f2 f3 f4 f5 f6 f7 f8 f9 f10 f11 f12 f13 f14 f15 f16 f17 f18 f19 f20 f_13 fL fN fP fM fO) := hD
                obtain ⟨y_14, ey_14⟩ : ∃ y : Int32, y = ii + (-1) := ⟨_, rfl⟩
                first | have ty_14 := i_add (a := ii.toInt) (b := (-1)) rfl (by decide) ey_14 (by omega) (by omega) | skip
                refine lv_iinc (v := y_14) (lv' := [(3, .int y_14), (2, .int kk), (0, .ref (ad 22)), (1, .int i2)]) hx hb dX10_adds_50 hl (k := 0) rfl (by rw [ey_14]; rfl) (by decide) rfl (fun ls hl => ?_)
                refine lv_goto (tgt := 37) hx hb dX10_adds_53 (by decide) ?_
                exact ih37 y_14 f_13 (by first | omega | assumption | decide) (by first | omega | assumption | decide) (by rw [uf_13.2 0 (by omega) (by omega)]; exact v37_2) (by omega) _ _ ls hP hD hS (lv_sub hl [0, 1, 2, 3] rfl)
          exact loop37 _ y_4 f21 (by first | omega | assumption | decide) (by first | omega | assumption | decide) rfl (Nat.lt_succ_self _) _ _ ls hP hD hS (lv_sub hl [0, 1, 2, 3] rfl)
        · have tk_3 := c_nle (a := kk.toInt) (b := 0) rfl (by decide) k_3
          refine lv_aload_n hx hb dX10_adds_25 rfl (lv_at hl 1 rfl) ?_
          refine lv_iload_n hx hb dX10_adds_26 rfl (lv_at hl 0 rfl) ?_
          refine va_iald hx hb hK hP 22 21 rfl rfl (i := kk) (vp_of (a := kk.toInt) rfl (by omega) (by omega)) dX10_adds_27 ?_
          refine lv_topi (fun y_15 ey_15 => ?_)
          have rg_y_15 := i_rng y_15
          have vy_15 := vI_lda (f := f21) (i := kk) (a := kk.toInt) ey_15 (by first | omega | decide)
          have rg_y_15 := i_rng y_15
          refine lv_iload_n hx hb dX10_adds_28 rfl (lv_at hl 2 rfl) ?_
          refine lv_icmp_ne (tgt := 33) hx hb dX10_adds_29 (by decide) (fun k_16 => ?_) (fun k_16 => ?_)
          · have tk_16 := c_ne (a := y_15.toInt) (b := i2.toInt) rfl rfl k_16
            refine lv_aload_n hx hb dX10_adds_33 rfl (lv_at hl 1 rfl) ?_
            refine lv_iconst (v := 0) hx hb dX10_adds_34 (by decide) ?_
            refine va_iald hx hb hK hP 22 21 rfl rfl (i := 0) (by unfold vp_in; decide +kernel) dX10_adds_35 ?_
            refine lv_topi (fun y_17 ey_17 => ?_)
            have rg_y_17 := i_rng y_17
            have vy_17 := vI_lda (f := f21) (i := 0) (a := 0) ey_17 (by first | omega | decide)
            have rg_y_17 := i_rng y_17
            refine lv_istore_n (lv' := [(3, .int y_17), (2, .int kk), (0, .ref (ad 22)), (1, .int i2)]) hx hb dX10_adds_36 rfl hl (by decide) rfl (fun ls hl => ?_)
            have loop37 : ∀ (lm37 : Nat) (ii : Int32) (ga : Nat → Int32), (kk.toInt ≤ ii.toInt) → (ii.toInt ≤ vI f21 0) → (vI ga 0 = vI f21 0) → ii.toInt.toNat < lm37 → ∀ (H : Heap) (locs : List Loc) (ls : Array Slot), va_P (dC, dI) vwCl (mW ad kc x0 x1 x2 x3 x4 x5 x6 x7 x8 x9 x10 x11 x12 x13 x14 x15 x16 x17 x18 x19 x20 x21 f0 f1 f2 f3 f4 f5 f6 f7 f8 f9 f10 f11 f12 f13 f14 f15 f16 f17 f18 f19 f20 ga fL fN fP fM fO) H → va_D A (mW ad kc x0 x1 x2 x3 x4 x5 x6 x7 x8 x9 x10 x11 x12 x13 x14 x15 x16 x17 x18 x19 x20 x21 f0 f1 f2 f3 f4 f5 f6 f7 f8 f9 f10 f11 f12 f13 f14 f15 f16 f17 f18 f19 f20 ga fL fN fP fM fO) → va_S A s.heap H locs → lv_has ls 4 [(3, .int ii), (2, .int kk), (0, .ref (ad 22)), (1, .int i2)] → W p l e (headSpec mwX10_addsmT ({ frames := 0, cells := 0, slots := 0, locals := 0 })).room s m ([.ref (ad 22), .int i2]).toArray below meth c H locs 0 0 (MQ below (va_Qv (fun (_ : Unit) => True) (fun _ t => ∃ (g21 : Nat → Int32), (vI f21 0 ≤ vI g21 0 ∧ vI g21 0 ≤ vI f21 0 + 1) ∧ va_P (dC, dI) vwCl (mW ad kc x0 x1 x2 x3 x4 x5 x6 x7 x8 x9 x10 x11 x12 x13 x14 x15 x16 x17 x18 x19 x20 x21 f0 f1 f2 f3 f4 f5 f6 f7 f8 f9 f10 f11 f12 f13 f14 f15 f16 f17 f18 f19 f20 g21 fL fN fP fM fO) t.heap ∧ va_K (dC, dI) vwCl (mT kc) t ∧ va_D A (mW ad kc x0 x1 x2 x3 x4 x5 x6 x7 x8 x9 x10 x11 x12 x13 x14 x15 x16 x17 x18 x19 x20 x21 f0 f1 f2 f3 f4 f5 f6 f7 f8 f9 f10 f11 f12 f13 f14 f15 f16 f17 f18 f19 f20 g21 fL fN fP fM fO)) A) ([.ref (ad 22), .int i2]).toArray s 0 0 A) (F0 m 37 ls []) := by
              intro lm37
              induction lm37 with
              | zero => intro ii ga v37_0 v37_1 v37_2 hm37; exact absurd hm37 (Nat.not_lt_zero _)
              | succ lm37 ih37 =>
                intro ii ga v37_0 v37_1 v37_2 hm37 H locs ls hP hD hS hl
                have rg_ii := i_rng ii
                refine lv_iload_n hx hb dX10_adds_37 rfl (lv_at hl 0 rfl) ?_
                refine lv_iload_n hx hb dX10_adds_38 rfl (lv_at hl 1 rfl) ?_
                refine lv_icmp_le (tgt := 56) hx hb dX10_adds_39 (by decide) (fun k_18 => ?_) (fun k_18 => ?_)
                · have tk_18 := c_le (a := ii.toInt) (b := kk.toInt) rfl rfl k_18
                  refine lv_aload_n hx hb dX10_adds_56 rfl (lv_at hl 2 rfl) ?_
                  refine lv_iload_n hx hb dX10_adds_57 rfl (lv_at hl 1 rfl) ?_
                  refine lv_iconst (v := 1) hx hb dX10_adds_58 (by decide) ?_
                  refine lv_iadd hx hb dX10_adds_59 ?_
                  refine lv_topi (fun y_19 ey_19 => ?_)
                  first | have ty_19 := i_add (a := kk.toInt) (b := 1) rfl (by decide) ey_19 (by omega) (by omega) | skip
                  refine lv_iload_n hx hb dX10_adds_60 rfl (lv_at hl 3 rfl) ?_
                  refine va_iast hx hb hK hP hD hS 22 21 rfl rfl (i := y_19) (vp_of (a := y_19.toInt) rfl (by omega) (by omega)) dX10_adds_61 (fun H locs hP hD hS => ?_)
                  generalize hf_f_20 : upd ga _ _ = f_20 at hP hD
                  have uf_20 := vI_up (a := (kk.toInt + 1)) (b := i2.toInt) hf_f_20 (by first | omega | decide) (by omega) rfl
                  have hP : va_P (dC, dI) vwCl (mW ad kc x0 x1 x2 x3 x4 x5 x6 x7 x8 x9 x10 x11 x12 x13 x14 x15 x16 x17 x18 x19 x20 x21 f0 f1 f2 f3 f4 f5 f6 f7 f8 f9 f10 f11 f12 f13 f14 f15 f16 f17 f18 f19 f20 f_20 fL fN fP fM fO) H := hP
                  have hD : va_D A (mW ad kc x0 x1 x2 x3 x4 x5 x6 x7 x8 x9 x10 x11 x12 x13 x14 x15 x16 x17 x18 x19 x20 x21 f0 f1 f2 f3 f4 f5 f6 f7 f8 f9 f10 f11 f12 f13 f14 f15 f16 f17 f18 f19 f20 f_20 fL fN fP fM fO) := hD
                  refine lv_aload_n hx hb dX10_adds_62 rfl (lv_at hl 2 rfl) ?_
                  refine lv_iconst (v := 0) hx hb dX10_adds_63 (by decide) ?_
                  refine lv_dup2_11 hx hb dX10_adds_64 rfl rfl ?_
                  refine va_iald hx hb hK hP 22 21 rfl rfl (i := 0) (by unfold vp_in; decide +kernel) dX10_adds_65 ?_
                  refine lv_topi (fun y_21 ey_21 => ?_)
                  have rg_y_21 := i_rng y_21
                  have vy_21 := vI_lda (f := f_20) (i := 0) (a := 0) ey_21 (by first | omega | decide)
                  have rg_y_21 := i_rng y_21
                  have wy_21 := (uf_20.2 0 (by omega) (by omega)).trans v37_2
                  refine lv_iconst (v := 1) hx hb dX10_adds_66 (by decide) ?_
                  refine lv_iadd hx hb dX10_adds_67 ?_
                  refine lv_topi (fun y_22 ey_22 => ?_)
                  first | have ty_22 := i_add (a := y_21.toInt) (b := 1) rfl (by decide) ey_22 (by omega) (by omega) | skip
                  refine va_iast hx hb hK hP hD hS 22 21 rfl rfl (i := 0) (by unfold vp_in; decide +kernel) dX10_adds_68 (fun H locs hP hD hS => ?_)
                  generalize hf_f_23 : upd f_20 _ _ = f_23 at hP hD
                  have uf_23 := vI_up (a := 0) (b := y_22.toInt) hf_f_23 (by first | omega | decide) (by omega) rfl
                  have hP : va_P (dC, dI) vwCl (mW ad kc x0 x1 x2 x3 x4 x5 x6 x7 x8 x9 x10 x11 x12 x13 x14 x15 x16 x17 x18 x19 x20 x21 f0 f1 f2 f3 f4 f5 f6 f7 f8 f9 f10 f11 f12 f13 f14 f15 f16 f17 f18 f19 f20 f_23 fL fN fP fM fO) H := hP
                  have hD : va_D A (mW ad kc x0 x1 x2 x3 x4 x5 x6 x7 x8 x9 x10 x11 x12 x13 x14 x15 x16 x17 x18 x19 x20 x21 f0 f1 f2 f3 f4 f5 f6 f7 f8 f9 f10 f11 f12 f13 f14 f15 f16 f17 f18 f19 f20 f_23 fL fN fP fM fO) := hD
                  exact W.vret hx hb hr (fun t ht hW => ⟨⟨(), rfl, trivial, f_23, (by have h9 := uf_23.1; omega), by rw [ht]; exact hP, va_K.moved hW.alike hK, hD⟩, hS.F ht⟩) hS.2.2 dX10_adds_69
                · have tk_18 := c_nle (a := ii.toInt) (b := kk.toInt) rfl rfl k_18
                  refine lv_aload_n hx hb dX10_adds_42 rfl (lv_at hl 2 rfl) ?_
                  refine lv_iload_n hx hb dX10_adds_43 rfl (lv_at hl 0 rfl) ?_
                  refine lv_iconst (v := 1) hx hb dX10_adds_44 (by decide) ?_
                  refine lv_iadd hx hb dX10_adds_45 ?_
                  refine lv_topi (fun y_24 ey_24 => ?_)
                  first | have ty_24 := i_add (a := ii.toInt) (b := 1) rfl (by decide) ey_24 (by omega) (by omega) | skip
                  refine lv_aload_n hx hb dX10_adds_46 rfl (lv_at hl 2 rfl) ?_
                  refine lv_iload_n hx hb dX10_adds_47 rfl (lv_at hl 0 rfl) ?_
                  refine va_iald hx hb hK hP 22 21 rfl rfl (i := ii) (vp_of (a := ii.toInt) rfl (by omega) (by omega)) dX10_adds_48 ?_
                  refine lv_topi (fun y_25 ey_25 => ?_)
                  have rg_y_25 := i_rng y_25
                  have vy_25 := vI_lda (f := ga) (i := ii) (a := ii.toInt) ey_25 (by first | omega | decide)
                  have rg_y_25 := i_rng y_25
                  refine va_iast hx hb hK hP hD hS 22 21 rfl rfl (i := y_24) (vp_of (a := y_24.toInt) rfl (by omega) (by omega)) dX10_adds_49 (fun H locs hP hD hS => ?_)
                  generalize hf_f_26 : upd ga _ _ = f_26 at hP hD
                  have uf_26 := vI_up (a := (ii.toInt + 1)) (b := y_25.toInt) hf_f_26 (by first | omega | decide) (by omega) rfl
                  have hP : va_P (dC, dI) vwCl (mW ad kc x0 x1 x2 x3 x4 x5 x6 x7 x8 x9 x10 x11 x12 x13 x14 x15 x16 x17 x18 x19 x20 x21 f0 f1 f2 f3 f4 f5 f6 f7 f8 f9 f10 f11 f12 f13 f14 f15 f16 f17 f18 f19 f20 f_26 fL fN fP fM fO) H := hP
                  have hD : va_D A (mW ad kc x0 x1 x2 x3 x4 x5 x6 x7 x8 x9 x10 x11 x12 x13 x14 x15 x16 x17 x18 x19 x20 x21 f0 f1 f2 f3 f4 f5 f6 f7 f8 f9 f10 f11 f12 f13 f14 f15 f16 f17 f18 f19 f20 f_26 fL fN fP fM fO) := hD
                  obtain ⟨y_27, ey_27⟩ : ∃ y : Int32, y = ii + (-1) := ⟨_, rfl⟩
                  first | have ty_27 := i_add (a := ii.toInt) (b := (-1)) rfl (by decide) ey_27 (by omega) (by omega) | skip
                  refine lv_iinc (v := y_27) (lv' := [(3, .int y_27), (2, .int kk), (0, .ref (ad 22)), (1, .int i2)]) hx hb dX10_adds_50 hl (k := 0) rfl (by rw [ey_27]; rfl) (by decide) rfl (fun ls hl => ?_)
                  refine lv_goto (tgt := 37) hx hb dX10_adds_53 (by decide) ?_
                  exact ih37 y_27 f_26 (by first | omega | assumption | decide) (by first | omega | assumption | decide) (by rw [uf_26.2 0 (by omega) (by omega)]; exact v37_2) (by omega) _ _ ls hP hD hS (lv_sub hl [0, 1, 2, 3] rfl)
            exact loop37 _ y_17 f21 (by first | omega | assumption | decide) (by first | omega | assumption | decide) rfl (Nat.lt_succ_self _) _ _ ls hP hD hS (lv_sub hl [0, 1, 2, 3] rfl)
          · have tk_16 := c_eq (a := y_15.toInt) (b := i2.toInt) rfl rfl k_16
            exact W.vret hx hb hr (fun t ht hW => ⟨⟨(), rfl, trivial, f21, ⟨by omega, by omega⟩, by rw [ht]; exact hP, va_K.moved hW.alike hK, hD⟩, hS.F ht⟩) hS.2.2 dX10_adds_32
      · have tk_2 := c_nle (a := kk.toInt) (b := 0) rfl (by decide) k_2
        refine lv_aload_n hx hb dX10_adds_8 rfl (lv_at hl 1 rfl) ?_
        refine lv_iload_n hx hb dX10_adds_9 rfl (lv_at hl 0 rfl) ?_
        refine va_iald hx hb hK hP 22 21 rfl rfl (i := kk) (vp_of (a := kk.toInt) rfl (by omega) (by omega)) dX10_adds_10 ?_
        refine lv_topi (fun y_28 ey_28 => ?_)
        have rg_y_28 := i_rng y_28
        have vy_28 := vI_lda (f := f21) (i := kk) (a := kk.toInt) ey_28 (by first | omega | decide)
        have rg_y_28 := i_rng y_28
        refine lv_iload_n hx hb dX10_adds_11 rfl (lv_at hl 2 rfl) ?_
        refine lv_icmp_le (tgt := 21) hx hb dX10_adds_12 (by decide) (fun k_29 => ?_) (fun k_29 => ?_)
        · have tk_29 := c_le (a := y_28.toInt) (b := i2.toInt) rfl rfl k_29
          refine lv_iload_n hx hb dX10_adds_21 rfl (lv_at hl 0 rfl) ?_
          refine lv_if_le (tgt := 33) hx hb dX10_adds_22 (by decide) (fun k_30 => ?_) (fun k_30 => ?_)
          · have tk_30 := c_le (a := kk.toInt) (b := 0) rfl (by decide) k_30
            refine lv_aload_n hx hb dX10_adds_33 rfl (lv_at hl 1 rfl) ?_
            refine lv_iconst (v := 0) hx hb dX10_adds_34 (by decide) ?_
            refine va_iald hx hb hK hP 22 21 rfl rfl (i := 0) (by unfold vp_in; decide +kernel) dX10_adds_35 ?_
            refine lv_topi (fun y_31 ey_31 => ?_)
            have rg_y_31 := i_rng y_31
            have vy_31 := vI_lda (f := f21) (i := 0) (a := 0) ey_31 (by first | omega | decide)
            have rg_y_31 := i_rng y_31
            refine lv_istore_n (lv' := [(3, .int y_31), (2, .int kk), (0, .ref (ad 22)), (1, .int i2)]) hx hb dX10_adds_36 rfl hl (by decide) rfl (fun ls hl => ?_)
            have loop37 : ∀ (lm37 : Nat) (ii : Int32) (ga : Nat → Int32), (kk.toInt ≤ ii.toInt) → (ii.toInt ≤ vI f21 0) → (vI ga 0 = vI f21 0) → ii.toInt.toNat < lm37 → ∀ (H : Heap) (locs : List Loc) (ls : Array Slot), va_P (dC, dI) vwCl (mW ad kc x0 x1 x2 x3 x4 x5 x6 x7 x8 x9 x10 x11 x12 x13 x14 x15 x16 x17 x18 x19 x20 x21 f0 f1 f2 f3 f4 f5 f6 f7 f8 f9 f10 f11 f12 f13 f14 f15 f16 f17 f18 f19 f20 ga fL fN fP fM fO) H → va_D A (mW ad kc x0 x1 x2 x3 x4 x5 x6 x7 x8 x9 x10 x11 x12 x13 x14 x15 x16 x17 x18 x19 x20 x21 f0 f1 f2 f3 f4 f5 f6 f7 f8 f9 f10 f11 f12 f13 f14 f15 f16 f17 f18 f19 f20 ga fL fN fP fM fO) → va_S A s.heap H locs → lv_has ls 4 [(3, .int ii), (2, .int kk), (0, .ref (ad 22)), (1, .int i2)] → W p l e (headSpec mwX10_addsmT ({ frames := 0, cells := 0, slots := 0, locals := 0 })).room s m ([.ref (ad 22), .int i2]).toArray below meth c H locs 0 0 (MQ below (va_Qv (fun (_ : Unit) => True) (fun _ t => ∃ (g21 : Nat → Int32), (vI f21 0 ≤ vI g21 0 ∧ vI g21 0 ≤ vI f21 0 + 1) ∧ va_P (dC, dI) vwCl (mW ad kc x0 x1 x2 x3 x4 x5 x6 x7 x8 x9 x10 x11 x12 x13 x14 x15 x16 x17 x18 x19 x20 x21 f0 f1 f2 f3 f4 f5 f6 f7 f8 f9 f10 f11 f12 f13 f14 f15 f16 f17 f18 f19 f20 g21 fL fN fP fM fO) t.heap ∧ va_K (dC, dI) vwCl (mT kc) t ∧ va_D A (mW ad kc x0 x1 x2 x3 x4 x5 x6 x7 x8 x9 x10 x11 x12 x13 x14 x15 x16 x17 x18 x19 x20 x21 f0 f1 f2 f3 f4 f5 f6 f7 f8 f9 f10 f11 f12 f13 f14 f15 f16 f17 f18 f19 f20 g21 fL fN fP fM fO)) A) ([.ref (ad 22), .int i2]).toArray s 0 0 A) (F0 m 37 ls []) := by
              intro lm37
              induction lm37 with
              | zero => intro ii ga v37_0 v37_1 v37_2 hm37; exact absurd hm37 (Nat.not_lt_zero _)
              | succ lm37 ih37 =>
                intro ii ga v37_0 v37_1 v37_2 hm37 H locs ls hP hD hS hl
                have rg_ii := i_rng ii
                refine lv_iload_n hx hb dX10_adds_37 rfl (lv_at hl 0 rfl) ?_
                refine lv_iload_n hx hb dX10_adds_38 rfl (lv_at hl 1 rfl) ?_
                refine lv_icmp_le (tgt := 56) hx hb dX10_adds_39 (by decide) (fun k_32 => ?_) (fun k_32 => ?_)
                · have tk_32 := c_le (a := ii.toInt) (b := kk.toInt) rfl rfl k_32
                  refine lv_aload_n hx hb dX10_adds_56 rfl (lv_at hl 2 rfl) ?_
                  refine lv_iload_n hx hb dX10_adds_57 rfl (lv_at hl 1 rfl) ?_
                  refine lv_iconst (v := 1) hx hb dX10_adds_58 (by decide) ?_
                  refine lv_iadd hx hb dX10_adds_59 ?_
                  refine lv_topi (fun y_33 ey_33 => ?_)
                  first | have ty_33 := i_add (a := kk.toInt) (b := 1) rfl (by decide) ey_33 (by omega) (by omega) | skip
                  refine lv_iload_n hx hb dX10_adds_60 rfl (lv_at hl 3 rfl) ?_
                  refine va_iast hx hb hK hP hD hS 22 21 rfl rfl (i := y_33) (vp_of (a := y_33.toInt) rfl (by omega) (by omega)) dX10_adds_61 (fun H locs hP hD hS => ?_)
                  generalize hf_f_34 : upd ga _ _ = f_34 at hP hD
                  have uf_34 := vI_up (a := (kk.toInt + 1)) (b := i2.toInt) hf_f_34 (by first | omega | decide) (by omega) rfl
                  have hP : va_P (dC, dI) vwCl (mW ad kc x0 x1 x2 x3 x4 x5 x6 x7 x8 x9 x10 x11 x12 x13 x14 x15 x16 x17 x18 x19 x20 x21 f0 f1 f2 f3 f4 f5 f6 f7 f8 f9 f10 f11 f12 f13 f14 f15 f16 f17 f18 f19 f20 f_34 fL fN fP fM fO) H := hP
                  have hD : va_D A (mW ad kc x0 x1 x2 x3 x4 x5 x6 x7 x8 x9 x10 x11 x12 x13 x14 x15 x16 x17 x18 x19 x20 x21 f0 f1 f2 f3 f4 f5 f6 f7 f8 f9 f10 f11 f12 f13 f14 f15 f16 f17 f18 f19 f20 f_34 fL fN fP fM fO) := hD
                  refine lv_aload_n hx hb dX10_adds_62 rfl (lv_at hl 2 rfl) ?_
                  refine lv_iconst (v := 0) hx hb dX10_adds_63 (by decide) ?_
                  refine lv_dup2_11 hx hb dX10_adds_64 rfl rfl ?_
                  refine va_iald hx hb hK hP 22 21 rfl rfl (i := 0) (by unfold vp_in; decide +kernel) dX10_adds_65 ?_
                  refine lv_topi (fun y_35 ey_35 => ?_)
                  have rg_y_35 := i_rng y_35
                  have vy_35 := vI_lda (f := f_34) (i := 0) (a := 0) ey_35 (by first | omega | decide)
                  have rg_y_35 := i_rng y_35
                  have wy_35 := (uf_34.2 0 (by omega) (by omega)).trans v37_2
                  refine lv_iconst (v := 1) hx hb dX10_adds_66 (by decide) ?_
                  refine lv_iadd hx hb dX10_adds_67 ?_
                  refine lv_topi (fun y_36 ey_36 => ?_)
                  first | have ty_36 := i_add (a := y_35.toInt) (b := 1) rfl (by decide) ey_36 (by omega) (by omega) | skip
                  refine va_iast hx hb hK hP hD hS 22 21 rfl rfl (i := 0) (by unfold vp_in; decide +kernel) dX10_adds_68 (fun H locs hP hD hS => ?_)
                  generalize hf_f_37 : upd f_34 _ _ = f_37 at hP hD
                  have uf_37 := vI_up (a := 0) (b := y_36.toInt) hf_f_37 (by first | omega | decide) (by omega) rfl
                  have hP : va_P (dC, dI) vwCl (mW ad kc x0 x1 x2 x3 x4 x5 x6 x7 x8 x9 x10 x11 x12 x13 x14 x15 x16 x17 x18 x19 x20 x21 f0 f1 f2 f3 f4 f5 f6 f7 f8 f9 f10 f11 f12 f13 f14 f15 f16 f17 f18 f19 f20 f_37 fL fN fP fM fO) H := hP
                  have hD : va_D A (mW ad kc x0 x1 x2 x3 x4 x5 x6 x7 x8 x9 x10 x11 x12 x13 x14 x15 x16 x17 x18 x19 x20 x21 f0 f1 f2 f3 f4 f5 f6 f7 f8 f9 f10 f11 f12 f13 f14 f15 f16 f17 f18 f19 f20 f_37 fL fN fP fM fO) := hD
                  exact W.vret hx hb hr (fun t ht hW => ⟨⟨(), rfl, trivial, f_37, (by have h9 := uf_37.1; omega), by rw [ht]; exact hP, va_K.moved hW.alike hK, hD⟩, hS.F ht⟩) hS.2.2 dX10_adds_69
                · have tk_32 := c_nle (a := ii.toInt) (b := kk.toInt) rfl rfl k_32
                  refine lv_aload_n hx hb dX10_adds_42 rfl (lv_at hl 2 rfl) ?_
                  refine lv_iload_n hx hb dX10_adds_43 rfl (lv_at hl 0 rfl) ?_
                  refine lv_iconst (v := 1) hx hb dX10_adds_44 (by decide) ?_
                  refine lv_iadd hx hb dX10_adds_45 ?_
                  refine lv_topi (fun y_38 ey_38 => ?_)
                  first | have ty_38 := i_add (a := ii.toInt) (b := 1) rfl (by decide) ey_38 (by omega) (by omega) | skip
                  refine lv_aload_n hx hb dX10_adds_46 rfl (lv_at hl 2 rfl) ?_
                  refine lv_iload_n hx hb dX10_adds_47 rfl (lv_at hl 0 rfl) ?_
                  refine va_iald hx hb hK hP 22 21 rfl rfl (i := ii) (vp_of (a := ii.toInt) rfl (by omega) (by omega)) dX10_adds_48 ?_
                  refine lv_topi (fun y_39 ey_39 => ?_)
                  have rg_y_39 := i_rng y_39
                  have vy_39 := vI_lda (f := ga) (i := ii) (a := ii.toInt) ey_39 (by first | omega | decide)
                  have rg_y_39 := i_rng y_39
                  refine va_iast hx hb hK hP hD hS 22 21 rfl rfl (i := y_38) (vp_of (a := y_38.toInt) rfl (by omega) (by omega)) dX10_adds_49 (fun H locs hP hD hS => ?_)
                  generalize hf_f_40 : upd ga _ _ = f_40 at hP hD
                  have uf_40 := vI_up (a := (ii.toInt + 1)) (b := y_39.toInt) hf_f_40 (by first | omega | decide) (by omega) rfl
                  have hP : va_P (dC, dI) vwCl (mW ad kc x0 x1 x2 x3 x4 x5 x6 x7 x8 x9 x10 x11 x12 x13 x14 x15 x16 x17 x18 x19 x20 x21 f0 f1 f2 f3 f4 f5 f6 f7 f8 f9 f10 f11 f12 f13 f14 f15 f16 f17 f18 f19 f20 f_40 fL fN fP fM fO) H := hP
                  have hD : va_D A (mW ad kc x0 x1 x2 x3 x4 x5 x6 x7 x8 x9 x10 x11 x12 x13 x14 x15 x16 x17 x18 x19 x20 x21 f0 f1 f2 f3 f4 f5 f6 f7 f8 f9 f10 f11 f12 f13 f14 f15 f16 f17 f18 f19 f20 f_40 fL fN fP fM fO) := hD
                  obtain ⟨y_41, ey_41⟩ : ∃ y : Int32, y = ii + (-1) := ⟨_, rfl⟩
                  first | have ty_41 := i_add (a := ii.toInt) (b := (-1)) rfl (by decide) ey_41 (by omega) (by omega) | skip
                  refine lv_iinc (v := y_41) (lv' := [(3, .int y_41), (2, .int kk), (0, .ref (ad 22)), (1, .int i2)]) hx hb dX10_adds_50 hl (k := 0) rfl (by rw [ey_41]; rfl) (by decide) rfl (fun ls hl => ?_)
                  refine lv_goto (tgt := 37) hx hb dX10_adds_53 (by decide) ?_
                  exact ih37 y_41 f_40 (by first | omega | assumption | decide) (by first | omega | assumption | decide) (by rw [uf_40.2 0 (by omega) (by omega)]; exact v37_2) (by omega) _ _ ls hP hD hS (lv_sub hl [0, 1, 2, 3] rfl)
            exact loop37 _ y_31 f21 (by first | omega | assumption | decide) (by first | omega | assumption | decide) rfl (Nat.lt_succ_self _) _ _ ls hP hD hS (lv_sub hl [0, 1, 2, 3] rfl)
          · have tk_30 := c_nle (a := kk.toInt) (b := 0) rfl (by decide) k_30
            refine lv_aload_n hx hb dX10_adds_25 rfl (lv_at hl 1 rfl) ?_
            refine lv_iload_n hx hb dX10_adds_26 rfl (lv_at hl 0 rfl) ?_
            refine va_iald hx hb hK hP 22 21 rfl rfl (i := kk) (vp_of (a := kk.toInt) rfl (by omega) (by omega)) dX10_adds_27 ?_
            refine lv_topi (fun y_42 ey_42 => ?_)
            have rg_y_42 := i_rng y_42
            have vy_42 := vI_lda (f := f21) (i := kk) (a := kk.toInt) ey_42 (by first | omega | decide)
            have rg_y_42 := i_rng y_42
            refine lv_iload_n hx hb dX10_adds_28 rfl (lv_at hl 2 rfl) ?_
            refine lv_icmp_ne (tgt := 33) hx hb dX10_adds_29 (by decide) (fun k_43 => ?_) (fun k_43 => ?_)
            · have tk_43 := c_ne (a := y_42.toInt) (b := i2.toInt) rfl rfl k_43
              refine lv_aload_n hx hb dX10_adds_33 rfl (lv_at hl 1 rfl) ?_
              refine lv_iconst (v := 0) hx hb dX10_adds_34 (by decide) ?_
              refine va_iald hx hb hK hP 22 21 rfl rfl (i := 0) (by unfold vp_in; decide +kernel) dX10_adds_35 ?_
              refine lv_topi (fun y_44 ey_44 => ?_)
              have rg_y_44 := i_rng y_44
              have vy_44 := vI_lda (f := f21) (i := 0) (a := 0) ey_44 (by first | omega | decide)
              have rg_y_44 := i_rng y_44
              refine lv_istore_n (lv' := [(3, .int y_44), (2, .int kk), (0, .ref (ad 22)), (1, .int i2)]) hx hb dX10_adds_36 rfl hl (by decide) rfl (fun ls hl => ?_)
              have loop37 : ∀ (lm37 : Nat) (ii : Int32) (ga : Nat → Int32), (kk.toInt ≤ ii.toInt) → (ii.toInt ≤ vI f21 0) → (vI ga 0 = vI f21 0) → ii.toInt.toNat < lm37 → ∀ (H : Heap) (locs : List Loc) (ls : Array Slot), va_P (dC, dI) vwCl (mW ad kc x0 x1 x2 x3 x4 x5 x6 x7 x8 x9 x10 x11 x12 x13 x14 x15 x16 x17 x18 x19 x20 x21 f0 f1 f2 f3 f4 f5 f6 f7 f8 f9 f10 f11 f12 f13 f14 f15 f16 f17 f18 f19 f20 ga fL fN fP fM fO) H → va_D A (mW ad kc x0 x1 x2 x3 x4 x5 x6 x7 x8 x9 x10 x11 x12 x13 x14 x15 x16 x17 x18 x19 x20 x21 f0 f1 f2 f3 f4 f5 f6 f7 f8 f9 f10 f11 f12 f13 f14 f15 f16 f17 f18 f19 f20 ga fL fN fP fM fO) → va_S A s.heap H locs → lv_has ls 4 [(3, .int ii), (2, .int kk), (0, .ref (ad 22)), (1, .int i2)] → W p l e (headSpec mwX10_addsmT ({ frames := 0, cells := 0, slots := 0, locals := 0 })).room s m ([.ref (ad 22), .int i2]).toArray below meth c H locs 0 0 (MQ below (va_Qv (fun (_ : Unit) => True) (fun _ t => ∃ (g21 : Nat → Int32), (vI f21 0 ≤ vI g21 0 ∧ vI g21 0 ≤ vI f21 0 + 1) ∧ va_P (dC, dI) vwCl (mW ad kc x0 x1 x2 x3 x4 x5 x6 x7 x8 x9 x10 x11 x12 x13 x14 x15 x16 x17 x18 x19 x20 x21 f0 f1 f2 f3 f4 f5 f6 f7 f8 f9 f10 f11 f12 f13 f14 f15 f16 f17 f18 f19 f20 g21 fL fN fP fM fO) t.heap ∧ va_K (dC, dI) vwCl (mT kc) t ∧ va_D A (mW ad kc x0 x1 x2 x3 x4 x5 x6 x7 x8 x9 x10 x11 x12 x13 x14 x15 x16 x17 x18 x19 x20 x21 f0 f1 f2 f3 f4 f5 f6 f7 f8 f9 f10 f11 f12 f13 f14 f15 f16 f17 f18 f19 f20 g21 fL fN fP fM fO)) A) ([.ref (ad 22), .int i2]).toArray s 0 0 A) (F0 m 37 ls []) := by
                intro lm37
                induction lm37 with
                | zero => intro ii ga v37_0 v37_1 v37_2 hm37; exact absurd hm37 (Nat.not_lt_zero _)
                | succ lm37 ih37 =>
                  intro ii ga v37_0 v37_1 v37_2 hm37 H locs ls hP hD hS hl
                  have rg_ii := i_rng ii
                  refine lv_iload_n hx hb dX10_adds_37 rfl (lv_at hl 0 rfl) ?_
                  refine lv_iload_n hx hb dX10_adds_38 rfl (lv_at hl 1 rfl) ?_
                  refine lv_icmp_le (tgt := 56) hx hb dX10_adds_39 (by decide) (fun k_45 => ?_) (fun k_45 => ?_)
                  · have tk_45 := c_le (a := ii.toInt) (b := kk.toInt) rfl rfl k_45
                    refine lv_aload_n hx hb dX10_adds_56 rfl (lv_at hl 2 rfl) ?_
                    refine lv_iload_n hx hb dX10_adds_57 rfl (lv_at hl 1 rfl) ?_
                    refine lv_iconst (v := 1) hx hb dX10_adds_58 (by decide) ?_
                    refine lv_iadd hx hb dX10_adds_59 ?_
                    refine lv_topi (fun y_46 ey_46 => ?_)
                    first | have ty_46 := i_add (a := kk.toInt) (b := 1) rfl (by decide) ey_46 (by omega) (by omega) | skip
                    refine lv_iload_n hx hb dX10_adds_60 rfl (lv_at hl 3 rfl) ?_
                    refine va_iast hx hb hK hP hD hS 22 21 rfl rfl (i := y_46) (vp_of (a := y_46.toInt) rfl (by omega) (by omega)) dX10_adds_61 (fun H locs hP hD hS => ?_)
                    generalize hf_f_47 : upd ga _ _ = f_47 at hP hD
                    have uf_47 := vI_up (a := (kk.toInt + 1)) (b := i2.toInt) hf_f_47 (by first | omega | decide) (by omega) rfl
                    have hP : va_P (dC, dI) vwCl (mW ad kc x0 x1 x2 x3 x4 x5 x6 x7 x8 x9 x10 x11 x12 x13 x14 x15 x16 x17 x18 x19 x20 x21 f0 f1 f2 f3 f4 f5 f6 f7 f8 f9 f10 f11 f12 f13 f14 f15 f16 f17 f18 f19 f20 f_47 fL fN fP fM fO) H := hP
                    have hD : va_D A (mW ad kc x0 x1 x2 x3 x4 x5 x6 x7 x8 x9 x10 x11 x12 x13 x14 x15 x16 x17 x18 x19 x20 x21 f0 f1 f2 f3 f4 f5 f6 f7 f8 f9 f10 f11 f12 f13 f14 f15 f16 f17 f18 f19 f20 f_47 fL fN fP fM fO) := hD
                    refine lv_aload_n hx hb dX10_adds_62 rfl (lv_at hl 2 rfl) ?_
                    refine lv_iconst (v := 0) hx hb dX10_adds_63 (by decide) ?_
                    refine lv_dup2_11 hx hb dX10_adds_64 rfl rfl ?_
                    refine va_iald hx hb hK hP 22 21 rfl rfl (i := 0) (by unfold vp_in; decide +kernel) dX10_adds_65 ?_
                    refine lv_topi (fun y_48 ey_48 => ?_)
                    have rg_y_48 := i_rng y_48
                    have vy_48 := vI_lda (f := f_47) (i := 0) (a := 0) ey_48 (by first | omega | decide)
                    have rg_y_48 := i_rng y_48
                    have wy_48 := (uf_47.2 0 (by omega) (by omega)).trans v37_2
                    refine lv_iconst (v := 1) hx hb dX10_adds_66 (by decide) ?_
                    refine lv_iadd hx hb dX10_adds_67 ?_
                    refine lv_topi (fun y_49 ey_49 => ?_)
                    first | have ty_49 := i_add (a := y_48.toInt) (b := 1) rfl (by decide) ey_49 (by omega) (by omega) | skip
                    refine va_iast hx hb hK hP hD hS 22 21 rfl rfl (i := 0) (by unfold vp_in; decide +kernel) dX10_adds_68 (fun H locs hP hD hS => ?_)
                    generalize hf_f_50 : upd f_47 _ _ = f_50 at hP hD
                    have uf_50 := vI_up (a := 0) (b := y_49.toInt) hf_f_50 (by first | omega | decide) (by omega) rfl
                    have hP : va_P (dC, dI) vwCl (mW ad kc x0 x1 x2 x3 x4 x5 x6 x7 x8 x9 x10 x11 x12 x13 x14 x15 x16 x17 x18 x19 x20 x21 f0 f1 f2 f3 f4 f5 f6 f7 f8 f9 f10 f11 f12 f13 f14 f15 f16 f17 f18 f19 f20 f_50 fL fN fP fM fO) H := hP
                    have hD : va_D A (mW ad kc x0 x1 x2 x3 x4 x5 x6 x7 x8 x9 x10 x11 x12 x13 x14 x15 x16 x17 x18 x19 x20 x21 f0 f1 f2 f3 f4 f5 f6 f7 f8 f9 f10 f11 f12 f13 f14 f15 f16 f17 f18 f19 f20 f_50 fL fN fP fM fO) := hD
                    exact W.vret hx hb hr (fun t ht hW => ⟨⟨(), rfl, trivial, f_50, (by have h9 := uf_50.1; omega), by rw [ht]; exact hP, va_K.moved hW.alike hK, hD⟩, hS.F ht⟩) hS.2.2 dX10_adds_69
                  · have tk_45 := c_nle (a := ii.toInt) (b := kk.toInt) rfl rfl k_45
                    refine lv_aload_n hx hb dX10_adds_42 rfl (lv_at hl 2 rfl) ?_
                    refine lv_iload_n hx hb dX10_adds_43 rfl (lv_at hl 0 rfl) ?_
                    refine lv_iconst (v := 1) hx hb dX10_adds_44 (by decide) ?_
                    refine lv_iadd hx hb dX10_adds_45 ?_
                    refine lv_topi (fun y_51 ey_51 => ?_)
                    first | have ty_51 := i_add (a := ii.toInt) (b := 1) rfl (by decide) ey_51 (by omega) (by omega) | skip
                    refine lv_aload_n hx hb dX10_adds_46 rfl (lv_at hl 2 rfl) ?_
                    refine lv_iload_n hx hb dX10_adds_47 rfl (lv_at hl 0 rfl) ?_
                    refine va_iald hx hb hK hP 22 21 rfl rfl (i := ii) (vp_of (a := ii.toInt) rfl (by omega) (by omega)) dX10_adds_48 ?_
                    refine lv_topi (fun y_52 ey_52 => ?_)
                    have rg_y_52 := i_rng y_52
                    have vy_52 := vI_lda (f := ga) (i := ii) (a := ii.toInt) ey_52 (by first | omega | decide)
                    have rg_y_52 := i_rng y_52
                    refine va_iast hx hb hK hP hD hS 22 21 rfl rfl (i := y_51) (vp_of (a := y_51.toInt) rfl (by omega) (by omega)) dX10_adds_49 (fun H locs hP hD hS => ?_)
                    generalize hf_f_53 : upd ga _ _ = f_53 at hP hD
                    have uf_53 := vI_up (a := (ii.toInt + 1)) (b := y_52.toInt) hf_f_53 (by first | omega | decide) (by omega) rfl
                    have hP : va_P (dC, dI) vwCl (mW ad kc x0 x1 x2 x3 x4 x5 x6 x7 x8 x9 x10 x11 x12 x13 x14 x15 x16 x17 x18 x19 x20 x21 f0 f1 f2 f3 f4 f5 f6 f7 f8 f9 f10 f11 f12 f13 f14 f15 f16 f17 f18 f19 f20 f_53 fL fN fP fM fO) H := hP
                    have hD : va_D A (mW ad kc x0 x1 x2 x3 x4 x5 x6 x7 x8 x9 x10 x11 x12 x13 x14 x15 x16 x17 x18 x19 x20 x21 f0 f1 f2 f3 f4 f5 f6 f7 f8 f9 f10 f11 f12 f13 f14 f15 f16 f17 f18 f19 f20 f_53 fL fN fP fM fO) := hD
                    obtain ⟨y_54, ey_54⟩ : ∃ y : Int32, y = ii + (-1) := ⟨_, rfl⟩
                    first | have ty_54 := i_add (a := ii.toInt) (b := (-1)) rfl (by decide) ey_54 (by omega) (by omega) | skip
                    refine lv_iinc (v := y_54) (lv' := [(3, .int y_54), (2, .int kk), (0, .ref (ad 22)), (1, .int i2)]) hx hb dX10_adds_50 hl (k := 0) rfl (by rw [ey_54]; rfl) (by decide) rfl (fun ls hl => ?_)
                    refine lv_goto (tgt := 37) hx hb dX10_adds_53 (by decide) ?_
                    exact ih37 y_54 f_53 (by first | omega | assumption | decide) (by first | omega | assumption | decide) (by rw [uf_53.2 0 (by omega) (by omega)]; exact v37_2) (by omega) _ _ ls hP hD hS (lv_sub hl [0, 1, 2, 3] rfl)
              exact loop37 _ y_44 f21 (by first | omega | assumption | decide) (by first | omega | assumption | decide) rfl (Nat.lt_succ_self _) _ _ ls hP hD hS (lv_sub hl [0, 1, 2, 3] rfl)
            · have tk_43 := c_eq (a := y_42.toInt) (b := i2.toInt) rfl rfl k_43
              exact W.vret hx hb hr (fun t ht hW => ⟨⟨(), rfl, trivial, f21, ⟨by omega, by omega⟩, by rw [ht]; exact hP, va_K.moved hW.alike hK, hD⟩, hS.F ht⟩) hS.2.2 dX10_adds_32
        · have tk_29 := c_nle (a := y_28.toInt) (b := i2.toInt) rfl rfl k_29
          obtain ⟨y_55, ey_55⟩ : ∃ y : Int32, y = kk + (-1) := ⟨_, rfl⟩
          first | have ty_55 := i_add (a := kk.toInt) (b := (-1)) rfl (by decide) ey_55 (by omega) (by omega) | skip
          refine lv_iinc (v := y_55) (lv' := [(2, .int y_55), (0, .ref (ad 22)), (1, .int i2)]) hx hb dX10_adds_15 hl (k := 0) rfl (by rw [ey_55]; rfl) (by decide) rfl (fun ls hl => ?_)
          refine lv_goto (tgt := 4) hx hb dX10_adds_18 (by decide) ?_
          exact ih4 y_55 (by first | omega | assumption | decide) (by omega) _ _ ls hP hD hS (lv_sub hl [0, 1, 2] rfl)
  exact loop4 _ y_1 (by first | omega | assumption | decide) (Nat.lt_succ_self _) _ _ ls hP hD hS (lv_sub hl [0, 1, 2] rfl)
theorem dX10_layTriples_0 : decode cX10_layTriples 0 = .ok (.aload_n 0, 1) := by decide +kernel
theorem dX10_layTriples_1 : decode cX10_layTriples 1 = .ok (.getfield 98, 3) := by decide +kernel
theorem dX10_layTriples_4 : decode cX10_layTriples 4 = .ok (.iconst 0, 1) := by decide +kernel
theorem dX10_layTriples_5 : decode cX10_layTriples 5 = .ok (.iconst 0, 1) := by decide +kernel
theorem dX10_layTriples_6 : decode cX10_layTriples 6 = .ok (.iastore, 1) := by decide +kernel
theorem dX10_layTriples_7 : decode cX10_layTriples 7 = .ok (.iconst 0, 1) := by decide +kernel
theorem dX10_layTriples_8 : decode cX10_layTriples 8 = .ok (.istore_n 1, 1) := by decide +kernel
theorem dX10_layTriples_9 : decode cX10_layTriples 9 = .ok (.iload_n 1, 1) := by decide +kernel
theorem dX10_layTriples_10 : decode cX10_layTriples 10 = .ok (.aload_n 0, 1) := by decide +kernel
theorem dX10_layTriples_11 : decode cX10_layTriples 11 = .ok (.getfield 64, 3) := by decide +kernel
theorem dX10_layTriples_14 : decode cX10_layTriples 14 = .ok (.iconst 0, 1) := by decide +kernel
theorem dX10_layTriples_15 : decode cX10_layTriples 15 = .ok (.iaload, 1) := by decide +kernel
theorem dX10_layTriples_16 : decode cX10_layTriples 16 = .ok (.if_icmp .ge 48, 3) := by decide +kernel
theorem dX10_layTriples_19 : decode cX10_layTriples 19 = .ok (.iconst 1, 1) := by decide +kernel
theorem dX10_layTriples_20 : decode cX10_layTriples 20 = .ok (.istore_n 2, 1) := by decide +kernel
theorem dX10_layTriples_21 : decode cX10_layTriples 21 = .ok (.iload_n 2, 1) := by decide +kernel
theorem dX10_layTriples_22 : decode cX10_layTriples 22 = .ok (.aload_n 0, 1) := by decide +kernel
theorem dX10_layTriples_23 : decode cX10_layTriples 23 = .ok (.getfield 56, 3) := by decide +kernel
theorem dX10_layTriples_26 : decode cX10_layTriples 26 = .ok (.iconst 0, 1) := by decide +kernel
theorem dX10_layTriples_27 : decode cX10_layTriples 27 = .ok (.aaload, 1) := by decide +kernel
theorem dX10_layTriples_28 : decode cX10_layTriples 28 = .ok (.iload_n 1, 1) := by decide +kernel
theorem dX10_layTriples_29 : decode cX10_layTriples 29 = .ok (.aaload, 1) := by decide +kernel
theorem dX10_layTriples_30 : decode cX10_layTriples 30 = .ok (.iconst 0, 1) := by decide +kernel
theorem dX10_layTriples_31 : decode cX10_layTriples 31 = .ok (.iaload, 1) := by decide +kernel
theorem dX10_layTriples_32 : decode cX10_layTriples 32 = .ok (.if_icmp .gt 26, 3) := by decide +kernel
theorem dX10_layTriples_35 : decode cX10_layTriples 35 = .ok (.aload_n 0, 1) := by decide +kernel
theorem dX10_layTriples_36 : decode cX10_layTriples 36 = .ok (.getfield 98, 3) := by decide +kernel
theorem dX10_layTriples_39 : decode cX10_layTriples 39 = .ok (.aload_n 0, 1) := by decide +kernel
theorem dX10_layTriples_40 : decode cX10_layTriples 40 = .ok (.getfield 56, 3) := by decide +kernel
theorem dX10_layTriples_43 : decode cX10_layTriples 43 = .ok (.iconst 0, 1) := by decide +kernel
theorem dX10_layTriples_44 : decode cX10_layTriples 44 = .ok (.aaload, 1) := by decide +kernel
theorem dX10_layTriples_45 : decode cX10_layTriples 45 = .ok (.iload_n 1, 1) := by decide +kernel
theorem dX10_layTriples_46 : decode cX10_layTriples 46 = .ok (.aaload, 1) := by decide +kernel
theorem dX10_layTriples_47 : decode cX10_layTriples 47 = .ok (.iload_n 2, 1) := by decide +kernel
theorem dX10_layTriples_48 : decode cX10_layTriples 48 = .ok (.iaload, 1) := by decide +kernel
theorem dX10_layTriples_49 : decode cX10_layTriples 49 = .ok (.invokestatic 315, 3) := by decide +kernel
theorem dX10_layTriples_52 : decode cX10_layTriples 52 = .ok (.iinc 2 1, 3) := by decide +kernel
theorem dX10_layTriples_55 : decode cX10_layTriples 55 = .ok (.goto (-34), 3) := by decide +kernel
theorem dX10_layTriples_58 : decode cX10_layTriples 58 = .ok (.iinc 1 1, 3) := by decide +kernel
theorem dX10_layTriples_61 : decode cX10_layTriples 61 = .ok (.goto (-52), 3) := by decide +kernel
theorem dX10_layTriples_64 : decode cX10_layTriples 64 = .ok (.aload_n 0, 1) := by decide +kernel
theorem dX10_layTriples_65 : decode cX10_layTriples 65 = .ok (.getfield 98, 3) := by decide +kernel
theorem dX10_layTriples_68 : decode cX10_layTriples 68 = .ok (.iconst 0, 1) := by decide +kernel
theorem dX10_layTriples_69 : decode cX10_layTriples 69 = .ok (.iaload, 1) := by decide +kernel
theorem dX10_layTriples_70 : decode cX10_layTriples 70 = .ok (.ireturn, 1) := by decide +kernel
def mwX10_layTriplesm : List Cond := .code yX10_layTriples cX10_layTriples 3 (some .int) :: (([.fieldLink RX10 98 "PatternGateModel" "triples" "[I", .fieldLink RX10 64 "PatternGateModel" "needMany" "[I", .fieldLink RX10 56 "PatternGateModel" "needs" "[[[I", .methodLink RX10 315 yX10_adds, .static yX10_adds, .initialized RX10] : List Cond) ++ (wsX100 ++ (mwX10_addsmT)))
theorem fin_X10_layTriplesm_X10 : ∀ w ∈ wsX100, w ∈ mwX10_layTriplesm := fun w h => List.mem_cons_of_mem _ (List.mem_append_right _ (List.mem_append_left _ h))
set_option maxRecDepth 100000 in
theorem gd_mwX10_addsmT : mwX10_addsmT.all goodWord = true := by decide +kernel
set_option maxRecDepth 20000 in
theorem mg_X10_layTriplesm_X10_adds_315 : GoodIn mwX10_layTriplesm (va_wsS RX10 315 yX10_adds mwX10_addsmT) := gi_app (A := [.methodLink RX10 315 yX10_adds, .static yX10_adds, .initialized RX10]) (goodIn_r _ [4, 5, 6] (by decide +kernel) (by decide +kernel)) (gi_sub gd_mwX10_addsmT (fun w h => List.mem_cons_of_mem _ (List.mem_append_right _ (List.mem_append_right _ (h)))))
set_option maxHeartbeats 4000000 in
set_option maxRecDepth 100000 in
theorem m_layTriples (l : Launch) (dC : Nat → ClassId) (dI : Nat → Nat → Nat) (ad : Nat → Nat) (kc : Nat → ClassId) (x0 x1 x2 x3 x4 x5 x6 x7 x8 x9 x10 x11 x12 x13 x14 x15 x16 x17 x18 x19 x20 x21 : Int32) (f0 f1 f2 f3 f4 f5 f6 f7 f8 f9 f10 f11 f12 f13 f14 f15 f16 f17 f18 f19 f20 f21 : Nat → Int32) (fL : Nat → Nat → Int64) (fN : Nat → Nat → Int32) (fP : Nat → Nat → Nat) (fM : Nat → Nat → Int32) (fO : Nat → Nat → Int32) (sz : Nat) (q0 : PI fP) (q1 : nOK (rO fN fM fO) fP f10 0 24) : Met l yX10_layTriples mwX10_layTriplesm ({ frames := 1, cells := 0, slots := 0, locals := 60 }) (va_Pc [.ref (ad 0)] (fun U => U.heap.size = sz ∧ va_P (dC, dI) vwCl (mW ad kc x0 x1 x2 x3 x4 x5 x6 x7 x8 x9 x10 x11 x12 x13 x14 x15 x16 x17 x18 x19 x20 x21 f0 f1 f2 f3 f4 f5 f6 f7 f8 f9 f10 f11 f12 f13 f14 f15 f16 f17 f18 f19 f20 f21 fL fN fP fM fO) U.heap ∧ va_K (dC, dI) vwCl (mT kc) U ∧ va_D (fun _ => True) (mW ad kc x0 x1 x2 x3 x4 x5 x6 x7 x8 x9 x10 x11 x12 x13 x14 x15 x16 x17 x18 x19 x20 x21 f0 f1 f2 f3 f4 f5 f6 f7 f8 f9 f10 f11 f12 f13 f14 f15 f16 f17 f18 f19 f20 f21 fL fN fP fM fO))) (va_Qi (fun (o9 u9 : Int32) => o9 = u9) (fun (o9 : Int32) t => ∃ (g21 : Nat → Int32), (o9.toInt = vI g21 0) ∧ (0 ≤ o9.toInt ∧ o9.toInt ≤ 1250) ∧ va_P (dC, dI) vwCl (mW ad kc x0 x1 x2 x3 x4 x5 x6 x7 x8 x9 x10 x11 x12 x13 x14 x15 x16 x17 x18 x19 x20 x21 f0 f1 f2 f3 f4 f5 f6 f7 f8 f9 f10 f11 f12 f13 f14 f15 f16 f17 f18 f19 f20 g21 fL fN fP fM fO) t.heap ∧ va_K (dC, dI) vwCl (mT kc) t ∧ va_D (va_A (mW ad kc x0 x1 x2 x3 x4 x5 x6 x7 x8 x9 x10 x11 x12 x13 x14 x15 x16 x17 x18 x19 x20 x21 f0 f1 f2 f3 f4 f5 f6 f7 f8 f9 f10 f11 f12 f13 f14 f15 f16 f17 f18 f19 f20 f21 fL fN fP fM fO) sz) (mW ad kc x0 x1 x2 x3 x4 x5 x6 x7 x8 x9 x10 x11 x12 x13 x14 x15 x16 x17 x18 x19 x20 x21 f0 f1 f2 f3 f4 f5 f6 f7 f8 f9 f10 f11 f12 f13 f14 f15 f16 f17 f18 f19 f20 g21 fL fN fP fM fO)) (va_A (mW ad kc x0 x1 x2 x3 x4 x5 x6 x7 x8 x9 x10 x11 x12 x13 x14 x15 x16 x17 x18 x19 x20 x21 f0 f1 f2 f3 f4 f5 f6 f7 f8 f9 f10 f11 f12 f13 f14 f15 f16 f17 f18 f19 f20 f21 fL fN fP fM fO) sz)) 0 0 (va_A (mW ad kc x0 x1 x2 x3 x4 x5 x6 x7 x8 x9 x10 x11 x12 x13 x14 x15 x16 x17 x18 x19 x20 x21 f0 f1 f2 f3 f4 f5 f6 f7 f8 f9 f10 f11 f12 f13 f14 f15 f16 f17 f18 f19 f20 f21 fL fN fP fM fO) sz) := by
  refine Met.ofW (cc := cX10_layTriples) (maxL := 3) (ret := (some .int)) (by decide +kernel) rfl ?_
  intro p e s m args below meth c s₁ B hml hv
  obtain ⟨rfl, hsz, hP, hK, hD0⟩ := hv
  have hx := B.exec
  have hb := B.bytes
  have hr := B.returns
  have hts := atoms_spec (ws := mwX10_layTriplesm) B.pre
  have hown : s.vm.findClass RX10 = some m.cls := findClass_of_methodNamed B.named
  have hlocks := B.notSynchronized
  subst hsz
  have hD := hD0.self (sz := s.heap.size)
  generalize hAe : va_A (mW ad kc x0 x1 x2 x3 x4 x5 x6 x7 x8 x9 x10 x11 x12 x13 x14 x15 x16 x17 x18 x19 x20 x21 f0 f1 f2 f3 f4 f5 f6 f7 f8 f9 f10 f11 f12 f13 f14 f15 f16 f17 f18 f19 f20 f21 fL fN fP fM fO) s.heap.size = A at hD ⊢
  have hA : ∀ q : Nat, s.heap.size ≤ q → A q := fun q h => by rw [← hAe]; exact Or.inr h
  have hP : va_P (dC, dI) vwCl (mW ad kc x0 x1 x2 x3 x4 x5 x6 x7 x8 x9 x10 x11 x12 x13 x14 x15 x16 x17 x18 x19 x20 x21 f0 f1 f2 f3 f4 f5 f6 f7 f8 f9 f10 f11 f12 f13 f14 f15 f16 f17 f18 f19 f20 f21 fL fN fP fM fO) s.heap := hP
  have hD : va_D A (mW ad kc x0 x1 x2 x3 x4 x5 x6 x7 x8 x9 x10 x11 x12 x13 x14 x15 x16 x17 x18 x19 x20 x21 f0 f1 f2 f3 f4 f5 f6 f7 f8 f9 f10 f11 f12 f13 f14 f15 f16 f17 f18 f19 f20 f21 fL fN fP fM fO) := hD
  have hK : va_K (dC, dI) vwCl (mT kc) s := hK
  generalize hH : s.heap = H at hP ⊢
  have hS : va_S A s.heap H [] := by rw [← hH]; exact va_S.rf
  have hl := lv_entry ([.ref (ad 0)]) (n := 3) (Nat.le_of_ble_eq_true rfl)
  rw [lg_entry_eq]
  generalize (lg_sl ([.ref (ad 0)]) ++ List.replicate (3 - (lg_sl ([.ref (ad 0)])).length) Slot.unset).toArray = ls at hl ⊢
  have hl : lv_has ls 3 [(0, .ref (ad 0))] := hl
  have q1b := q1.2.1
  refine lv_aload_n hx hb dX10_layTriples_0 rfl (lv_at hl 0 rfl) ?_
  refine va_get (D := (dC, dI)) (ci := 10) (v := .ref (ad 22)) (C := RX10) (T := TX10) (N := 48) hx hb hts fin_X10_layTriplesm_X10 hown hK hP 0 rfl rfl 46 (by decide) (hts (.fieldLink RX10 98 "PatternGateModel" "triples" "[I") (List.mem_of_getElem? (i := 1) (by decide +kernel))) (fun _ h9 => h9) rfl dX10_layTriples_1 ?_
  refine lv_iconst (v := 0) hx hb dX10_layTriples_4 (by decide) ?_
  refine lv_iconst (v := 0) hx hb dX10_layTriples_5 (by decide) ?_
  refine va_iast hx hb hK hP hD hS 22 21 rfl rfl (i := 0) (by unfold vp_in; decide +kernel) dX10_layTriples_6 (fun H locs hP hD hS => ?_)
  generalize hf_f_1 : upd f21 _ _ = f_1 at hP hD
  have uf_1 := vI_up (a := 0) (b := 0) hf_f_1 (by first | omega | decide) (by omega) (by decide)
  have hP : va_P (dC, dI) vwCl (mW ad kc x0 x1 x2 x3 x4 x5 x6 x7 x8 x9 x10 x11 x12 x13 x14 x15 x16 x17 x18 x19 x20 x21 f0 f1 f2 f3 f4 f5 f6 f7 f8 f9 f10 f11 f12 f13 f14 f15 f16 f17 f18 f19 f20 f_1 fL fN fP fM fO) H := hP
  have hD : va_D A (mW ad kc x0 x1 x2 x3 x4 x5 x6 x7 x8 x9 x10 x11 x12 x13 x14 x15 x16 x17 x18 x19 x20 x21 f0 f1 f2 f3 f4 f5 f6 f7 f8 f9 f10 f11 f12 f13 f14 f15 f16 f17 f18 f19 f20 f_1 fL fN fP fM fO) := hD
  refine lv_iconst (v := 0) hx hb dX10_layTriples_7 (by decide) ?_
  refine lv_istore_n (lv' := [(1, .int 0), (0, .ref (ad 0))]) hx hb dX10_layTriples_8 rfl hl (by decide) rfl (fun ls hl => ?_)
  have loop9 : ∀ (lm9 : Nat) (kk : Int32) (ga : Nat → Int32), (0 ≤ kk.toInt ∧ kk.toInt ≤ 12) → (0 ≤ vI ga 0 ∧ vI ga 0 ≤ 100 * kk.toInt) → ((12 - kk.toInt).toNat) < lm9 → ∀ (H : Heap) (locs : List Loc) (ls : Array Slot), va_P (dC, dI) vwCl (mW ad kc x0 x1 x2 x3 x4 x5 x6 x7 x8 x9 x10 x11 x12 x13 x14 x15 x16 x17 x18 x19 x20 x21 f0 f1 f2 f3 f4 f5 f6 f7 f8 f9 f10 f11 f12 f13 f14 f15 f16 f17 f18 f19 f20 ga fL fN fP fM fO) H → va_D A (mW ad kc x0 x1 x2 x3 x4 x5 x6 x7 x8 x9 x10 x11 x12 x13 x14 x15 x16 x17 x18 x19 x20 x21 f0 f1 f2 f3 f4 f5 f6 f7 f8 f9 f10 f11 f12 f13 f14 f15 f16 f17 f18 f19 f20 ga fL fN fP fM fO) → va_S A s.heap H locs → lv_has ls 3 [(1, .int kk), (0, .ref (ad 0))] → W p l e (headSpec mwX10_layTriplesm ({ frames := 1, cells := 0, slots := 0, locals := 60 })).room s m ([.ref (ad 0)]).toArray below meth c H locs 0 0 (MQ below (va_Qi (fun (o9 u9 : Int32) => o9 = u9) (fun (o9 : Int32) t => ∃ (g21 : Nat → Int32), (o9.toInt = vI g21 0) ∧ (0 ≤ o9.toInt ∧ o9.toInt ≤ 1250) ∧ va_P (dC, dI) vwCl (mW ad kc x0 x1 x2 x3 x4 x5 x6 x7 x8 x9 x10 x11 x12 x13 x14 x15 x16 x17 x18 x19 x20 x21 f0 f1 f2 f3 f4 f5 f6 f7 f8 f9 f10 f11 f12 f13 f14 f15 f16 f17 f18 f19 f20 g21 fL fN fP fM fO) t.heap ∧ va_K (dC, dI) vwCl (mT kc) t ∧ va_D A (mW ad kc x0 x1 x2 x3 x4 x5 x6 x7 x8 x9 x10 x11 x12 x13 x14 x15 x16 x17 x18 x19 x20 x21 f0 f1 f2 f3 f4 f5 f6 f7 f8 f9 f10 f11 f12 f13 f14 f15 f16 f17 f18 f19 f20 g21 fL fN fP fM fO)) A) ([.ref (ad 0)]).toArray s 0 0 A) (F0 m 9 ls []) := by
    intro lm9
    induction lm9 with
    | zero => intro kk ga v9_0 v9_1 hm9; exact absurd hm9 (Nat.not_lt_zero _)
    | succ lm9 ih9 =>
      intro kk ga v9_0 v9_1 hm9 H locs ls hP hD hS hl
      have rg_kk := i_rng kk
      refine lv_iload_n hx hb dX10_layTriples_9 rfl (lv_at hl 0 rfl) ?_
      refine lv_aload_n hx hb dX10_layTriples_10 rfl (lv_at hl 1 rfl) ?_
      refine va_get (D := (dC, dI)) (ci := 10) (v := .ref (ad 11)) (C := RX10) (T := TX10) (N := 48) hx hb hts fin_X10_layTriplesm_X10 hown hK hP 0 rfl rfl 30 (by decide) (hts (.fieldLink RX10 64 "PatternGateModel" "needMany" "[I") (List.mem_of_getElem? (i := 2) (by decide +kernel))) (fun _ h9 => h9) rfl dX10_layTriples_11 ?_
      refine lv_iconst (v := 0) hx hb dX10_layTriples_14 (by decide) ?_
      refine va_iald hx hb hK hP 11 10 rfl rfl (i := 0) (by unfold vp_in; decide +kernel) dX10_layTriples_15 ?_
      refine lv_topi (fun y_2 ey_2 => ?_)
      have rg_y_2 := i_rng y_2
      have vy_2 := vI_lda (f := f10) (i := 0) (a := 0) ey_2 (by first | omega | decide)
      have rg_y_2 := i_rng y_2
      refine lv_icmp_ge (tgt := 64) hx hb dX10_layTriples_16 (by decide) (fun k_3 => ?_) (fun k_3 => ?_)
      · have tk_3 := c_ge (a := kk.toInt) (b := y_2.toInt) rfl rfl k_3
        refine lv_aload_n hx hb dX10_layTriples_64 rfl (lv_at hl 1 rfl) ?_
        refine va_get (D := (dC, dI)) (ci := 10) (v := .ref (ad 22)) (C := RX10) (T := TX10) (N := 48) hx hb hts fin_X10_layTriplesm_X10 hown hK hP 0 rfl rfl 46 (by decide) (hts (.fieldLink RX10 98 "PatternGateModel" "triples" "[I") (List.mem_of_getElem? (i := 1) (by decide +kernel))) (fun _ h9 => h9) rfl dX10_layTriples_65 ?_
        refine lv_iconst (v := 0) hx hb dX10_layTriples_68 (by decide) ?_
        refine va_iald hx hb hK hP 22 21 rfl rfl (i := 0) (by unfold vp_in; decide +kernel) dX10_layTriples_69 ?_
        refine lv_topi (fun y_4 ey_4 => ?_)
        have rg_y_4 := i_rng y_4
        have vy_4 := vI_lda (f := ga) (i := 0) (a := 0) ey_4 (by first | omega | decide)
        have rg_y_4 := i_rng y_4
        exact W.iret hx hb hr (fun t ht hW => ⟨⟨_, _, rfl, rfl, ga, (by first | omega | assumption | rfl | decide), (by first | omega | assumption | rfl | decide), by rw [ht]; exact hP, va_K.moved hW.alike hK, hD⟩, hS.F ht⟩) hS.2.2 dX10_layTriples_70
      · have tk_3 := c_nge (a := kk.toInt) (b := y_2.toInt) rfl rfl k_3
        refine lv_iconst (v := 1) hx hb dX10_layTriples_19 (by decide) ?_
        refine lv_istore_n (lv' := [(2, .int 1), (1, .int kk), (0, .ref (ad 0))]) hx hb dX10_layTriples_20 rfl hl (by decide) rfl (fun ls hl => ?_)
        have loop21 : ∀ (lm21 : Nat) (i2 : Int32) (gb : Nat → Int32), (1 ≤ i2.toInt ∧ i2.toInt ≤ 25) → (0 ≤ vI gb 0 ∧ vI gb 0 ≤ 100 * kk.toInt + i2.toInt) → ((25 - i2.toInt).toNat) < lm21 → ∀ (H : Heap) (locs : List Loc) (ls : Array Slot), va_P (dC, dI) vwCl (mW ad kc x0 x1 x2 x3 x4 x5 x6 x7 x8 x9 x10 x11 x12 x13 x14 x15 x16 x17 x18 x19 x20 x21 f0 f1 f2 f3 f4 f5 f6 f7 f8 f9 f10 f11 f12 f13 f14 f15 f16 f17 f18 f19 f20 gb fL fN fP fM fO) H → va_D A (mW ad kc x0 x1 x2 x3 x4 x5 x6 x7 x8 x9 x10 x11 x12 x13 x14 x15 x16 x17 x18 x19 x20 x21 f0 f1 f2 f3 f4 f5 f6 f7 f8 f9 f10 f11 f12 f13 f14 f15 f16 f17 f18 f19 f20 gb fL fN fP fM fO) → va_S A s.heap H locs → lv_has ls 3 [(2, .int i2), (1, .int kk), (0, .ref (ad 0))] → W p l e (headSpec mwX10_layTriplesm ({ frames := 1, cells := 0, slots := 0, locals := 60 })).room s m ([.ref (ad 0)]).toArray below meth c H locs 0 0 (MQ below (va_Qi (fun (o9 u9 : Int32) => o9 = u9) (fun (o9 : Int32) t => ∃ (g21 : Nat → Int32), (o9.toInt = vI g21 0) ∧ (0 ≤ o9.toInt ∧ o9.toInt ≤ 1250) ∧ va_P (dC, dI) vwCl (mW ad kc x0 x1 x2 x3 x4 x5 x6 x7 x8 x9 x10 x11 x12 x13 x14 x15 x16 x17 x18 x19 x20 x21 f0 f1 f2 f3 f4 f5 f6 f7 f8 f9 f10 f11 f12 f13 f14 f15 f16 f17 f18 f19 f20 g21 fL fN fP fM fO) t.heap ∧ va_K (dC, dI) vwCl (mT kc) t ∧ va_D A (mW ad kc x0 x1 x2 x3 x4 x5 x6 x7 x8 x9 x10 x11 x12 x13 x14 x15 x16 x17 x18 x19 x20 x21 f0 f1 f2 f3 f4 f5 f6 f7 f8 f9 f10 f11 f12 f13 f14 f15 f16 f17 f18 f19 f20 g21 fL fN fP fM fO)) A) ([.ref (ad 0)]).toArray s 0 0 A) (F0 m 21 ls []) := by
          intro lm21
          induction lm21 with
          | zero => intro i2 gb v21_0 v21_1 hm21; exact absurd hm21 (Nat.not_lt_zero _)
          | succ lm21 ih21 =>
            intro i2 gb v21_0 v21_1 hm21 H locs ls hP hD hS hl
            have rg_i2 := i_rng i2
            refine lv_iload_n hx hb dX10_layTriples_21 rfl (lv_at hl 0 rfl) ?_
            refine lv_aload_n hx hb dX10_layTriples_22 rfl (lv_at hl 2 rfl) ?_
            refine va_get (D := (dC, dI)) (ci := 10) (v := .ref (ad 24)) (C := RX10) (T := TX10) (N := 48) hx hb hts fin_X10_layTriplesm_X10 hown hK hP 0 rfl rfl 28 (by decide) (hts (.fieldLink RX10 56 "PatternGateModel" "needs" "[[[I") (List.mem_of_getElem? (i := 3) (by decide +kernel))) (fun _ h9 => h9) rfl dX10_layTriples_23 ?_
            refine lv_iconst (v := 0) hx hb dX10_layTriples_26 (by decide) ?_
            refine m_aak hx hb hK hP 24 23 (k := 0) (b := ad (200 + 0)) rfl rfl rfl (i := 0) (by decide) (by omega) rfl dX10_layTriples_27 ?_
            refine lv_iload_n hx hb dX10_layTriples_28 rfl (lv_at hl 1 rfl) ?_
            refine m_aak hx hb hK hP (117 + 0) 27 (k := kk.toInt.toNat) (b := ad (300 + (12 * 0 + fP 0 kk.toInt.toNat))) (mW_P (by omega)) rfl rfl (i := kk) (by omega) (by omega) rfl dX10_layTriples_29 ?_
            have hp29 := (q0 0 kk.toInt.toNat (by omega)).1
            refine lv_iconst (v := 0) hx hb dX10_layTriples_30 (by decide) ?_
            refine va_iald hx hb hK hP (rPos (300 + (12 * 0 + fP 0 kk.toInt.toNat))) (rTy (300 + (12 * 0 + fP 0 kk.toInt.toNat))) (mW_R (by first | assumption | (unfold IR; omega))) (mT_R _) (i := 0) (by unfold vp_in; decide +kernel) dX10_layTriples_31 ?_
            refine lv_topi (fun y_5 ey_5 => ?_)
            have rg_y_5 := i_rng y_5
            have vy_5 := vI_lda (f := (rO fN fM fO) (300 + (12 * 0 + fP 0 kk.toInt.toNat))) (i := 0) (a := 0) ey_5 (by first | omega | decide)
            have hzy_5 : 0 ≤ vI ((rO fN fM fO) (300 + (12 * 0 + fP 0 kk.toInt.toNat))) 0 ∧ vI ((rO fN fM fO) (300 + (12 * 0 + fP 0 kk.toInt.toNat))) 0 ≤ 24 := q1.2.2 kk.toInt.toNat (by omega)
            refine lv_icmp_gt (tgt := 58) hx hb dX10_layTriples_32 (by decide) (fun k_6 => ?_) (fun k_6 => ?_)
            · have tk_6 := c_gt (a := i2.toInt) (b := y_5.toInt) rfl rfl k_6
              obtain ⟨y_7, ey_7⟩ : ∃ y : Int32, y = kk + 1 := ⟨_, rfl⟩
              first | have ty_7 := i_add (a := kk.toInt) (b := 1) rfl (by decide) ey_7 (by omega) (by omega) | skip
              refine lv_iinc (v := y_7) (lv' := [(1, .int y_7), (2, .int i2), (0, .ref (ad 0))]) hx hb dX10_layTriples_58 hl (k := 1) rfl (by rw [ey_7]; rfl) (by decide) rfl (fun ls hl => ?_)
              refine lv_goto (tgt := 9) hx hb dX10_layTriples_61 (by decide) ?_
              exact ih9 y_7 gb (by first | omega | assumption | decide) (by first | omega | assumption | decide) (by omega) _ _ ls hP hD hS (lv_sub hl [0, 2] rfl)
            · have tk_6 := c_ngt (a := i2.toInt) (b := y_5.toInt) rfl rfl k_6
              refine lv_aload_n hx hb dX10_layTriples_35 rfl (lv_at hl 2 rfl) ?_
              refine va_get (D := (dC, dI)) (ci := 10) (v := .ref (ad 22)) (C := RX10) (T := TX10) (N := 48) hx hb hts fin_X10_layTriplesm_X10 hown hK hP 0 rfl rfl 46 (by decide) (hts (.fieldLink RX10 98 "PatternGateModel" "triples" "[I") (List.mem_of_getElem? (i := 1) (by decide +kernel))) (fun _ h9 => h9) rfl dX10_layTriples_36 ?_
              refine lv_aload_n hx hb dX10_layTriples_39 rfl (lv_at hl 2 rfl) ?_
              refine va_get (D := (dC, dI)) (ci := 10) (v := .ref (ad 24)) (C := RX10) (T := TX10) (N := 48) hx hb hts fin_X10_layTriplesm_X10 hown hK hP 0 rfl rfl 28 (by decide) (hts (.fieldLink RX10 56 "PatternGateModel" "needs" "[[[I") (List.mem_of_getElem? (i := 3) (by decide +kernel))) (fun _ h9 => h9) rfl dX10_layTriples_40 ?_
              refine lv_iconst (v := 0) hx hb dX10_layTriples_43 (by decide) ?_
              refine m_aak hx hb hK hP 24 23 (k := 0) (b := ad (200 + 0)) rfl rfl rfl (i := 0) (by decide) (by omega) rfl dX10_layTriples_44 ?_
              refine lv_iload_n hx hb dX10_layTriples_45 rfl (lv_at hl 1 rfl) ?_
              refine m_aak hx hb hK hP (117 + 0) 27 (k := kk.toInt.toNat) (b := ad (300 + (12 * 0 + fP 0 kk.toInt.toNat))) (mW_P (by omega)) rfl rfl (i := kk) (by omega) (by omega) rfl dX10_layTriples_46 ?_
              have hp46 := (q0 0 kk.toInt.toNat (by omega)).1
              refine lv_iload_n hx hb dX10_layTriples_47 rfl (lv_at hl 0 rfl) ?_
              refine va_iald hx hb hK hP (rPos (300 + (12 * 0 + fP 0 kk.toInt.toNat))) (rTy (300 + (12 * 0 + fP 0 kk.toInt.toNat))) (mW_R (by first | assumption | (unfold IR; omega))) (mT_R _) (i := i2) (vp_of (a := i2.toInt) rfl (by omega) (by omega)) dX10_layTriples_48 ?_
              refine lv_topi (fun y_8 ey_8 => ?_)
              have rg_y_8 := i_rng y_8
              have vy_8 := vI_lda (f := (rO fN fM fO) (300 + (12 * 0 + fP 0 kk.toInt.toNat))) (i := i2) (a := i2.toInt) ey_8 (by first | omega | decide)
              have hFc := m_free hD hS hA
              refine va_callv (va_runS (As := [.ref (ad 22), .int y_8]) (rest := []) ⟨hx, hb, hml, hown, hts⟩ (m_addsT l dC dI ad kc x0 x1 x2 x3 x4 x5 x6 x7 x8 x9 x10 x11 x12 x13 x14 x15 x16 x17 x18 x19 x20 x21 f0 f1 f2 f3 f4 f5 f6 f7 f8 f9 f10 f11 f12 f13 f14 f15 f16 f17 f18 f19 f20 gb fL fN fP fM fO H.size y_8 (by first | omega | assumption | decide | (have l0 := Int32.toInt_zero; omega))) (va_cwS 2 hts mg_X10_layTriplesm_X10_adds_315 rfl rfl rfl (by decide +kernel) ⟨Nat.le_of_ble_eq_true rfl, Nat.le_of_ble_eq_true rfl⟩) ⟨fun a U g mk q => by obtain ⟨q0, q1, qP, qK, qD⟩ := q; exact ⟨q0, q1, qP, va_K.moved (u := U) (U := U.calling g mk a) (Vm.Alike.refl U.vm) qK, qD⟩, fun U hU hW => ⟨rfl, by rw [hU], by rw [hU]; exact hP, va_K.moved hW.alike hK, hD.weaken (fun _ _ _ _ => trivial)⟩⟩ rfl rfl hl.1 rfl (lv_room (Nat.le_of_ble_eq_true rfl)) dX10_layTriples_49 ⟨Nat.le_of_ble_eq_true rfl, Nat.le_of_ble_eq_true rfl⟩) hS (fun q _ h => hFc q h) hFc (fun u t H1 locs ht hvm hw hB hz1 hk1 hS => ?_)
              obtain ⟨f_10, hr_9_0, hP, hK1, hD1⟩ := hB
              rw [ht] at hP
              have hD := hD1.weaken (fun k q _ h => hFc q.1 h)
              clear hz1 hk1 hFc hD1 hK1 hvm
              generalize H1 = H at hP hS ⊢
              have hP : va_P (dC, dI) vwCl (mW ad kc x0 x1 x2 x3 x4 x5 x6 x7 x8 x9 x10 x11 x12 x13 x14 x15 x16 x17 x18 x19 x20 x21 f0 f1 f2 f3 f4 f5 f6 f7 f8 f9 f10 f11 f12 f13 f14 f15 f16 f17 f18 f19 f20 f_10 fL fN fP fM fO) H := hP
              have hD : va_D A (mW ad kc x0 x1 x2 x3 x4 x5 x6 x7 x8 x9 x10 x11 x12 x13 x14 x15 x16 x17 x18 x19 x20 x21 f0 f1 f2 f3 f4 f5 f6 f7 f8 f9 f10 f11 f12 f13 f14 f15 f16 f17 f18 f19 f20 f_10 fL fN fP fM fO) := hD
              obtain ⟨y_11, ey_11⟩ : ∃ y : Int32, y = i2 + 1 := ⟨_, rfl⟩
              first | have ty_11 := i_add (a := i2.toInt) (b := 1) rfl (by decide) ey_11 (by omega) (by omega) | skip
              refine lv_iinc (v := y_11) (lv' := [(2, .int y_11), (1, .int kk), (0, .ref (ad 0))]) hx hb dX10_layTriples_52 hl (k := 0) rfl (by rw [ey_11]; rfl) (by decide) rfl (fun ls hl => ?_)
              refine lv_goto (tgt := 21) hx hb dX10_layTriples_55 (by decide) ?_
              exact ih21 y_11 f_10 (by first | omega | assumption | decide) (by first | omega | assumption | decide) (by omega) _ _ ls hP hD hS (lv_sub hl [0, 1, 2] rfl)
        have lit_11 : (1 : Int32).toInt = 1 := by decide
        exact loop21 _ 1 ga (by first | omega | assumption | decide) (by omega) (Nat.lt_succ_self _) _ _ ls hP hD hS (lv_sub hl [0, 1, 2] rfl)
  have lit_12 : (0 : Int32).toInt = 0 := by decide
  exact loop9 _ 0 f_1 (by first | omega | assumption | decide) (by have h9 := uf_1.1; omega) (Nat.lt_succ_self _) _ _ ls hP hD hS (lv_sub hl [0, 1] rfl)

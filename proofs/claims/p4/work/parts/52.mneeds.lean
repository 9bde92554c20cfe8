theorem dX10_matches_0 : decode cX10_matches 0 = .ok (.aload_n 0, 1) := by decide +kernel
theorem dX10_matches_1 : decode cX10_matches 1 = .ok (.aload_n 0, 1) := by decide +kernel
theorem dX10_matches_2 : decode cX10_matches 2 = .ok (.iload_n 1, 1) := by decide +kernel
theorem dX10_matches_3 : decode cX10_matches 3 = .ok (.invokevirtual 359, 3) := by decide +kernel
theorem dX10_matches_6 : decode cX10_matches 6 = .ok (.putfield 393, 3) := by decide +kernel
theorem dX10_matches_9 : decode cX10_matches 9 = .ok (.aload_n 0, 1) := by decide +kernel
theorem dX10_matches_10 : decode cX10_matches 10 = .ok (.aload_n 0, 1) := by decide +kernel
theorem dX10_matches_11 : decode cX10_matches 11 = .ok (.getfield 393, 3) := by decide +kernel
theorem dX10_matches_14 : decode cX10_matches 14 = .ok (.invokevirtual 375, 3) := by decide +kernel
theorem dX10_matches_17 : decode cX10_matches 17 = .ok (.return_, 1) := by decide +kernel
def mwX10_matchesm : List Cond := .code yX10_matches cX10_matches 2 none :: (([.methodLink RX10 359 yX10_opens, .instanceMethod yX10_opens, .selects RX10 yX10_opens yX10_opens, .initialized RX10, .fieldLink RX10 393 "PatternGateModel" "top" "I", .methodLink RX10 375 yX10_walks, .instanceMethod yX10_walks, .selects RX10 yX10_walks yX10_walks] : List Cond) ++ (wsX100 ++ (mwX10_opensm ++ (mwg_X10_walksP))))
theorem fin_X10_matchesm_X10 : ∀ w ∈ wsX100, w ∈ mwX10_matchesm := fun w h => List.mem_cons_of_mem _ (List.mem_append_right _ (List.mem_append_left _ h))
set_option maxRecDepth 100000 in
theorem gd_mwX10_opensm : mwX10_opensm.all goodWord = true := by decide +kernel
set_option maxRecDepth 100000 in
theorem gd_mwg_X10_walksP : mwg_X10_walksP.all goodWord = true := by decide +kernel
set_option maxRecDepth 20000 in
theorem mg_X10_matchesm_X10_opens_359 : GoodIn mwX10_matchesm (wsV RX10 359 RX10 yX10_opens mwX10_opensm) := gj_app (A := [.methodLink RX10 359 yX10_opens, .instanceMethod yX10_opens, .selects RX10 yX10_opens yX10_opens, .initialized RX10]) (goodIn_r _ [1, 2, 3, 4] (by decide +kernel) (by decide +kernel)) (gj_sub gd_mwX10_opensm (fun w h => List.mem_cons_of_mem _ (List.mem_append_right _ (List.mem_append_right _ (List.mem_append_left _ h)))))
set_option maxRecDepth 20000 in
theorem mg_X10_matchesm_X10_walks_375 : GoodIn mwX10_matchesm (wsV RX10 375 RX10 yX10_walks mwg_X10_walksP) := gj_app (A := [.methodLink RX10 375 yX10_walks, .instanceMethod yX10_walks, .selects RX10 yX10_walks yX10_walks, .initialized RX10]) (goodIn_r _ [6, 7, 8, 4] (by decide +kernel) (by decide +kernel)) (gj_sub gd_mwg_X10_walksP (fun w h => List.mem_cons_of_mem _ (List.mem_append_right _ (List.mem_append_right _ (List.mem_append_right _ (h))))))
set_option maxHeartbeats 4000000 in
set_option maxRecDepth 100000 in
theorem m_matches (l : Launch) (dC : Nat → ClassId) (dI : Nat → Nat → Nat) (ad : Nat → Nat) (kc : Nat → ClassId) (x0 x1 x2 x3 x4 x5 x6 x7 x8 x9 x10 x11 x12 x13 x14 x15 x16 x17 x18 x19 x20 x21 : Int32) (f0 f1 f2 f3 f4 f5 f6 f7 f8 f9 f10 f11 f12 f13 f14 f15 f16 f17 f18 f19 f20 f21 : Nat → Int32) (fL : Nat → Nat → Int64) (fN : Nat → Nat → Int32) (fP : Nat → Nat → Nat) (fM : Nat → Nat → Int32) (fO : Nat → Nat → Int32) (sz : Nat) (i1 : Int32) (q0 : OKd f0 0) (q1 : 0 ≤ i1.toInt ∧ i1.toInt < vI f0 611) : Met l yX10_matches mwX10_matchesm ({ frames := 22, cells := 0, slots := 0, locals := 1320 }) (va_Pc [.ref (ad 0), .int i1] (fun U => U.heap.size = sz ∧ va_P (dC, dI) vwCl (mW ad kc x0 x1 x2 x3 x4 x5 x6 x7 x8 x9 x10 x11 x12 x13 x14 x15 x16 x17 x18 x19 x20 x21 f0 f1 f2 f3 f4 f5 f6 f7 f8 f9 f10 f11 f12 f13 f14 f15 f16 f17 f18 f19 f20 f21 fL fN fP fM fO) U.heap ∧ va_K (dC, dI) vwCl (mT kc) U ∧ va_D (fun _ => True) (mW ad kc x0 x1 x2 x3 x4 x5 x6 x7 x8 x9 x10 x11 x12 x13 x14 x15 x16 x17 x18 x19 x20 x21 f0 f1 f2 f3 f4 f5 f6 f7 f8 f9 f10 f11 f12 f13 f14 f15 f16 f17 f18 f19 f20 f21 fL fN fP fM fO))) (va_Qv (fun (_ : Unit) => True) (fun _ t => ∃ (y12 y13 y14 y15 y20 : Int32) (g3 g4 g5 g6 g7 g8 g12 g13 g14 g15 g16 g17 g18 : Nat → Int32), (0 ≤ y20.toInt ∧ y20.toInt < 1600) ∧ (1 ≤ y15.toInt ∧ y15.toInt ≤ 24) ∧ va_P (dC, dI) vwCl (mW ad kc x0 x1 x2 x3 x4 x5 x6 x7 x8 x9 x10 x11 y12 y13 y14 y15 x16 x17 x18 x19 y20 x21 f0 f1 f2 g3 g4 g5 g6 g7 g8 f9 f10 f11 g12 g13 g14 g15 g16 g17 g18 f19 f20 f21 fL fN fP fM fO) t.heap ∧ va_K (dC, dI) vwCl (mT kc) t ∧ va_D (va_A (mW ad kc x0 x1 x2 x3 x4 x5 x6 x7 x8 x9 x10 x11 x12 x13 x14 x15 x16 x17 x18 x19 x20 x21 f0 f1 f2 f3 f4 f5 f6 f7 f8 f9 f10 f11 f12 f13 f14 f15 f16 f17 f18 f19 f20 f21 fL fN fP fM fO) sz) (mW ad kc x0 x1 x2 x3 x4 x5 x6 x7 x8 x9 x10 x11 y12 y13 y14 y15 x16 x17 x18 x19 y20 x21 f0 f1 f2 g3 g4 g5 g6 g7 g8 f9 f10 f11 g12 g13 g14 g15 g16 g17 g18 f19 f20 f21 fL fN fP fM fO)) (va_A (mW ad kc x0 x1 x2 x3 x4 x5 x6 x7 x8 x9 x10 x11 x12 x13 x14 x15 x16 x17 x18 x19 x20 x21 f0 f1 f2 f3 f4 f5 f6 f7 f8 f9 f10 f11 f12 f13 f14 f15 f16 f17 f18 f19 f20 f21 fL fN fP fM fO) sz)) 0 0 (va_A (mW ad kc x0 x1 x2 x3 x4 x5 x6 x7 x8 x9 x10 x11 x12 x13 x14 x15 x16 x17 x18 x19 x20 x21 f0 f1 f2 f3 f4 f5 f6 f7 f8 f9 f10 f11 f12 f13 f14 f15 f16 f17 f18 f19 f20 f21 fL fN fP fM fO) sz) := by
  refine Met.ofW (cc := cX10_matches) (maxL := 2) (ret := none) (by decide +kernel) rfl ?_
  intro p e s m args below meth c s₁ B hml hv
  obtain ⟨rfl, hsz, hP, hK, hD0⟩ := hv
  have hx := B.exec
  have hb := B.bytes
  have hr := B.returns
  have hts := atoms_spec (ws := mwX10_matchesm) B.pre
  have hown : s.vm.findClass RX10 = some m.cls := findClass_of_methodNamed B.named
  have hlocks := B.notSynchronized
  subst hsz
  have hD := hD0.self (sz := s.heap.size)
  generalize hAe : va_A (mW ad kc x0 x1 x2 x3 x4 x5 x6 x7 x8 x9 x10 x11 x12 x13 x14 x15 x16 x17 x18 x19 x20 x21 f0 f1 f2 f3 f4 f5 f6 f7 f8 f9 f10 f11 f12 f13 f14 f15 f16 f17 f18 f19 f20 f21 fL fN fP fM fO) s.heap.size = A at hD ⊢
  have hA : ∀ q : Nat, s.heap.size ≤ q → A q := fun q h => by rw [← hAe]; exact Or.inr h
  have hP : va_P (dC, dI) vwCl (mW ad kc x0 x1 x2 x3 x4 x5 x6 x7 x8 x9 x10 x11 x12 x13 x14 x15 x16 x17 x18 x19 x20 x21 f0 f1 f2 f3 f4 f5 f6 f7 f8 f9 f10 f11 f12 f13 f14 f15 f16 f17 f18 f19 f20 f21 fL fN fP fM fO) s.heap := hP
  have hD : va_D A (mW ad kc x0 x1 x2 x3 x4 x5 x6 x7 x8 x9 x10 x11 x12 x13 x14 x15 x16 x17 x18 x19 x20 x21 f0 f1 f2 f3 f4 f5 f6 f7 f8 f9 f10 f11 f12 f13 f14 f15 f16 f17 f18 f19 f20 f21 fL fN fP fM fO) := hD
  have hK : va_K (dC, dI) vwCl (mT kc) s := hK
  generalize hH : s.heap = H at hP ⊢
  have hS : va_S A s.heap H [] := by rw [← hH]; exact va_S.rf
  have hl := lv_entry ([.ref (ad 0), .int i1]) (n := 2) (Nat.le_of_ble_eq_true rfl)
  rw [lg_entry_eq]
  generalize (lg_sl ([.ref (ad 0), .int i1]) ++ List.replicate (2 - (lg_sl ([.ref (ad 0), .int i1])).length) Slot.unset).toArray = ls at hl ⊢
  have hl : lv_has ls 2 [(0, .ref (ad 0)), (1, .int i1)] := hl
  have rg_i1 := i_rng i1
  refine lv_aload_n hx hb dX10_matches_0 rfl (lv_at hl 0 rfl) ?_
  refine lv_aload_n hx hb dX10_matches_1 rfl (lv_at hl 0 rfl) ?_
  refine lv_iload_n hx hb dX10_matches_2 rfl (lv_at hl 1 rfl) ?_
  have hFc := m_free hD hS hA
  refine va_calli (va_runV (As := [.int i1]) (rest := [.ref (ad 0)]) ⟨hx, hb, hml, hown, hts⟩ (m_opens l dC dI ad kc x0 x1 x2 x3 x4 x5 x6 x7 x8 x9 x10 x11 x12 x13 x14 x15 x16 x17 x18 x19 x20 x21 f0 f1 f2 f3 f4 f5 f6 f7 f8 f9 f10 f11 f12 f13 f14 f15 f16 f17 f18 f19 f20 f21 fL fN fP fM fO H.size i1 (by first | omega | assumption | decide | (have l0 := Int32.toInt_zero; omega)) (by first | omega | assumption | decide | (have l0 := Int32.toInt_zero; omega))) (cwV 1 hts mg_X10_matchesm_X10_opens_359 rfl rfl rfl (by decide +kernel) ⟨Nat.le_of_ble_eq_true rfl, Nat.le_of_ble_eq_true rfl⟩) ⟨fun a U g mk q => by obtain ⟨q0, q1, qP, qK, qD⟩ := q; exact ⟨q0, q1, qP, va_K.moved (u := U) (U := U.calling g mk a) (Vm.Alike.refl U.vm) qK, qD⟩, va_recv hK hP (ci := 10) (q0 := 0) rfl rfl, fun U hU hW => ⟨rfl, by rw [hU], by rw [hU]; exact hP, va_K.moved hW.alike hK, hD.weaken (fun _ _ _ _ => trivial)⟩⟩ rfl rfl hl.1 rfl (lv_room (Nat.le_of_ble_eq_true rfl)) dX10_matches_3 ⟨Nat.le_of_ble_eq_true rfl, Nat.le_of_ble_eq_true rfl⟩) hS (fun q _ h => hFc q h) hFc (fun r_1 u t H1 locs ht hvm hw hB hz1 hk1 hS => ?_)
  subst hw
  obtain ⟨x_2, x_3, x_4, x_5, f_6, f_7, f_8, f_9, f_10, f_11, e_12, hr_1_0, hr_1_1, hr_1_2, hr_1_3, hr_1_4, hr_1_5, hP, hK1, hD1⟩ := hB
  rw [ht] at hP
  have hD := hD1.weaken (fun k q _ h => hFc q.1 h)
  clear hz1 hk1 hFc hD1 hK1 hvm
  generalize H1 = H at hP hS ⊢
  have rg_x_2 := i_rng x_2
  have rg_x_3 := i_rng x_3
  have rg_x_4 := i_rng x_4
  have rg_x_5 := i_rng x_5
  have rg_r_1 := i_rng r_1
  have hP : va_P (dC, dI) vwCl (mW ad kc x0 x1 x2 x3 x4 x5 x6 x7 x8 x9 x10 x11 x_2 x_3 x_4 x_5 x16 x17 x18 x19 x20 x21 f0 f1 f2 f_6 f_7 f_8 f_9 f_10 f_11 f9 f10 f11 f12 f13 f14 f15 f16 f17 f18 f19 f20 f21 fL fN fP fM fO) H := hP
  have hD : va_D A (mW ad kc x0 x1 x2 x3 x4 x5 x6 x7 x8 x9 x10 x11 x_2 x_3 x_4 x_5 x16 x17 x18 x19 x20 x21 f0 f1 f2 f_6 f_7 f_8 f_9 f_10 f_11 f9 f10 f11 f12 f13 f14 f15 f16 f17 f18 f19 f20 f21 fL fN fP fM fO) := hD
  have hy0 : r_1.toInt = 0 := hr_1_0
  refine va_put (D := (dC, dI)) (ci := 10) (v := .int r_1) (ty := .int) (C := RX10) (T := TX10) (N := 48) hx hb hts fin_X10_matchesm_X10 tyX10 tyX10_ok nmX10 hown hK hP hD hS 0 rfl rfl 42 (by decide) (hts (.fieldLink RX10 393 "PatternGateModel" "top" "I") (List.mem_of_getElem? (i := 5) (by decide +kernel))) (fun _ h9 => h9) rfl (by decide +kernel) rfl rfl (Nat.le_of_ble_eq_true rfl) dX10_matches_6 (fun H locs hP hD hS => ?_)
  have hP : va_P (dC, dI) vwCl (mW ad kc x0 x1 x2 x3 x4 x5 x6 x7 x8 x9 x10 x11 x_2 x_3 x_4 x_5 x16 x17 x18 x19 r_1 x21 f0 f1 f2 f_6 f_7 f_8 f_9 f_10 f_11 f9 f10 f11 f12 f13 f14 f15 f16 f17 f18 f19 f20 f21 fL fN fP fM fO) H := hP
  have hD : va_D A (mW ad kc x0 x1 x2 x3 x4 x5 x6 x7 x8 x9 x10 x11 x_2 x_3 x_4 x_5 x16 x17 x18 x19 r_1 x21 f0 f1 f2 f_6 f_7 f_8 f_9 f_10 f_11 f9 f10 f11 f12 f13 f14 f15 f16 f17 f18 f19 f20 f21 fL fN fP fM fO) := hD
  refine lv_aload_n hx hb dX10_matches_9 rfl (lv_at hl 0 rfl) ?_
  refine lv_aload_n hx hb dX10_matches_10 rfl (lv_at hl 0 rfl) ?_
  refine va_get (D := (dC, dI)) (ci := 10) (v := .int r_1) (C := RX10) (T := TX10) (N := 48) hx hb hts fin_X10_matchesm_X10 hown hK hP 0 rfl rfl 42 (by decide) (hts (.fieldLink RX10 393 "PatternGateModel" "top" "I") (List.mem_of_getElem? (i := 5) (by decide +kernel))) (fun _ h9 => h9) rfl dX10_matches_11 ?_
  have hFc := m_free hD hS hA
  refine va_callv (va_runV (As := [.int r_1]) (rest := []) ⟨hx, hb, hml, hown, hts⟩ ((m_kP l dC dI 5) ad kc x0 x1 x2 x3 x4 x5 x6 x7 x8 x9 x10 x11 x_2 x_3 x_4 x_5 x16 x17 x18 x19 r_1 x21 f0 f1 f2 f_6 f_7 f_8 f_9 f_10 f_11 f9 f10 f11 f12 f13 f14 f15 f16 f17 f18 f19 f20 f21 fL fN fP fM fO H.size r_1 x_2.toInt e_12 (by first | omega | assumption | decide | (have l0 := Int32.toInt_zero; omega)) (by rw [hy0]; exact hr_1_2) (by first | omega | assumption | decide | (have l0 := Int32.toInt_zero; omega))) (cwV 1 hts mg_X10_matchesm_X10_walks_375 rfl rfl rfl (by decide +kernel) ⟨(show (3 * 5 + 5) + 1 ≤ 22 by omega), (show 8 + (3 + 11) + 60 * (3 * 5 + 5) ≤ 1320 by omega)⟩) ⟨fun a U g mk q => by obtain ⟨q0, q1, qP, qK, qD⟩ := q; exact ⟨q0, q1, qP, va_K.moved (u := U) (U := U.calling g mk a) (Vm.Alike.refl U.vm) qK, qD⟩, va_recv hK hP (ci := 10) (q0 := 0) rfl rfl, fun U hU hW => ⟨rfl, by rw [hU], by rw [hU]; exact hP, va_K.moved hW.alike hK, hD.weaken (fun _ _ _ _ => trivial)⟩⟩ rfl rfl hl.1 rfl (lv_room (Nat.le_of_ble_eq_true rfl)) dX10_matches_14 ⟨Nat.le_of_ble_eq_true rfl, Nat.le_of_ble_eq_true rfl⟩) hS (fun q _ h => hFc q h) hFc (fun u t H1 locs ht hvm hw hB hz1 hk1 hS => ?_)
  obtain ⟨f_14, f_15, f_16, f_17, f_18, f_19, f_20, hP, hK1, hD1⟩ := hB
  rw [ht] at hP
  have hD := hD1.weaken (fun k q _ h => hFc q.1 h)
  clear hz1 hk1 hFc hD1 hK1 hvm
  generalize H1 = H at hP hS ⊢
  have hP : va_P (dC, dI) vwCl (mW ad kc x0 x1 x2 x3 x4 x5 x6 x7 x8 x9 x10 x11 x_2 x_3 x_4 x_5 x16 x17 x18 x19 r_1 x21 f0 f1 f2 f_6 f_7 f_8 f_9 f_10 f_11 f9 f10 f11 f_14 f_15 f_16 f_17 f_18 f_19 f_20 f19 f20 f21 fL fN fP fM fO) H := hP
  have hD : va_D A (mW ad kc x0 x1 x2 x3 x4 x5 x6 x7 x8 x9 x10 x11 x_2 x_3 x_4 x_5 x16 x17 x18 x19 r_1 x21 f0 f1 f2 f_6 f_7 f_8 f_9 f_10 f_11 f9 f10 f11 f_14 f_15 f_16 f_17 f_18 f_19 f_20 f19 f20 f21 fL fN fP fM fO) := hD
  exact W.vret hx hb hr (fun t ht hW => ⟨⟨(), rfl, trivial, x_2, x_3, x_4, x_5, r_1, f_6, f_7, f_8, f_9, f_10, f_11, f_14, f_15, f_16, f_17, f_18, f_19, f_20, (by first | omega | assumption | rfl | decide), (by first | omega | assumption | rfl | decide), by rw [ht]; exact hP, va_K.moved hW.alike hK, hD⟩, hS.F ht⟩) hS.2.2 dX10_matches_17
theorem dX10_swapsNeed_0 : decode cX10_swapsNeed 0 = .ok (.aload_n 0, 1) := by decide +kernel
theorem dX10_swapsNeed_1 : decode cX10_swapsNeed 1 = .ok (.getfield 56, 3) := by decide +kernel
theorem dX10_swapsNeed_4 : decode cX10_swapsNeed 4 = .ok (.iconst 0, 1) := by decide +kernel
theorem dX10_swapsNeed_5 : decode cX10_swapsNeed 5 = .ok (.aaload, 1) := by decide +kernel
theorem dX10_swapsNeed_6 : decode cX10_swapsNeed 6 = .ok (.iload_n 1, 1) := by decide +kernel
theorem dX10_swapsNeed_7 : decode cX10_swapsNeed 7 = .ok (.aaload, 1) := by decide +kernel
theorem dX10_swapsNeed_8 : decode cX10_swapsNeed 8 = .ok (.astore_n 2, 1) := by decide +kernel
theorem dX10_swapsNeed_9 : decode cX10_swapsNeed 9 = .ok (.aload_n 0, 1) := by decide +kernel
theorem dX10_swapsNeed_10 : decode cX10_swapsNeed 10 = .ok (.getfield 56, 3) := by decide +kernel
theorem dX10_swapsNeed_13 : decode cX10_swapsNeed 13 = .ok (.iconst 0, 1) := by decide +kernel
theorem dX10_swapsNeed_14 : decode cX10_swapsNeed 14 = .ok (.aaload, 1) := by decide +kernel
theorem dX10_swapsNeed_15 : decode cX10_swapsNeed 15 = .ok (.iload_n 1, 1) := by decide +kernel
theorem dX10_swapsNeed_16 : decode cX10_swapsNeed 16 = .ok (.aload_n 0, 1) := by decide +kernel
theorem dX10_swapsNeed_17 : decode cX10_swapsNeed 17 = .ok (.getfield 56, 3) := by decide +kernel
theorem dX10_swapsNeed_20 : decode cX10_swapsNeed 20 = .ok (.iconst 0, 1) := by decide +kernel
theorem dX10_swapsNeed_21 : decode cX10_swapsNeed 21 = .ok (.aaload, 1) := by decide +kernel
theorem dX10_swapsNeed_22 : decode cX10_swapsNeed 22 = .ok (.iload_n 1, 1) := by decide +kernel
theorem dX10_swapsNeed_23 : decode cX10_swapsNeed 23 = .ok (.iconst 1, 1) := by decide +kernel
theorem dX10_swapsNeed_24 : decode cX10_swapsNeed 24 = .ok (.isub, 1) := by decide +kernel
theorem dX10_swapsNeed_25 : decode cX10_swapsNeed 25 = .ok (.aaload, 1) := by decide +kernel
theorem dX10_swapsNeed_26 : decode cX10_swapsNeed 26 = .ok (.aastore, 1) := by decide +kernel
theorem dX10_swapsNeed_27 : decode cX10_swapsNeed 27 = .ok (.aload_n 0, 1) := by decide +kernel
theorem dX10_swapsNeed_28 : decode cX10_swapsNeed 28 = .ok (.getfield 56, 3) := by decide +kernel
theorem dX10_swapsNeed_31 : decode cX10_swapsNeed 31 = .ok (.iconst 0, 1) := by decide +kernel
theorem dX10_swapsNeed_32 : decode cX10_swapsNeed 32 = .ok (.aaload, 1) := by decide +kernel
theorem dX10_swapsNeed_33 : decode cX10_swapsNeed 33 = .ok (.iload_n 1, 1) := by decide +kernel
theorem dX10_swapsNeed_34 : decode cX10_swapsNeed 34 = .ok (.iconst 1, 1) := by decide +kernel
theorem dX10_swapsNeed_35 : decode cX10_swapsNeed 35 = .ok (.isub, 1) := by decide +kernel
theorem dX10_swapsNeed_36 : decode cX10_swapsNeed 36 = .ok (.aload_n 2, 1) := by decide +kernel
theorem dX10_swapsNeed_37 : decode cX10_swapsNeed 37 = .ok (.aastore, 1) := by decide +kernel
theorem dX10_swapsNeed_38 : decode cX10_swapsNeed 38 = .ok (.return_, 1) := by decide +kernel
def mwX10_swapsNeedm : List Cond := .code yX10_swapsNeed cX10_swapsNeed 3 none :: (([.fieldLink RX10 56 "PatternGateModel" "needs" "[[[I"] : List Cond) ++ (wsX100))
theorem fin_X10_swapsNeedm_X10 : ∀ w ∈ wsX100, w ∈ mwX10_swapsNeedm := fun w h => List.mem_cons_of_mem _ (List.mem_append_right _ (h))
set_option maxHeartbeats 4000000 in
set_option maxRecDepth 100000 in
theorem m_swapsNeed (l : Launch) (dC : Nat → ClassId) (dI : Nat → Nat → Nat) (ad : Nat → Nat) (kc : Nat → ClassId) (x0 x1 x2 x3 x4 x5 x6 x7 x8 x9 x10 x11 x12 x13 x14 x15 x16 x17 x18 x19 x20 x21 : Int32) (f0 f1 f2 f3 f4 f5 f6 f7 f8 f9 f10 f11 f12 f13 f14 f15 f16 f17 f18 f19 f20 f21 : Nat → Int32) (fL : Nat → Nat → Int64) (fN : Nat → Nat → Int32) (fP : Nat → Nat → Nat) (fM : Nat → Nat → Int32) (fO : Nat → Nat → Int32) (sz : Nat) (i1 : Int32) (q0 : 1 ≤ i1.toInt ∧ i1.toInt < 12) (q1 : PI fP) : Met l yX10_swapsNeed mwX10_swapsNeedm ({ frames := 0, cells := 0, slots := 0, locals := 0 }) (va_Pc [.ref (ad 0), .int i1] (fun U => U.heap.size = sz ∧ va_P (dC, dI) vwCl (mW ad kc x0 x1 x2 x3 x4 x5 x6 x7 x8 x9 x10 x11 x12 x13 x14 x15 x16 x17 x18 x19 x20 x21 f0 f1 f2 f3 f4 f5 f6 f7 f8 f9 f10 f11 f12 f13 f14 f15 f16 f17 f18 f19 f20 f21 fL fN fP fM fO) U.heap ∧ va_K (dC, dI) vwCl (mT kc) U ∧ va_D (fun _ => True) (mW ad kc x0 x1 x2 x3 x4 x5 x6 x7 x8 x9 x10 x11 x12 x13 x14 x15 x16 x17 x18 x19 x20 x21 f0 f1 f2 f3 f4 f5 f6 f7 f8 f9 f10 f11 f12 f13 f14 f15 f16 f17 f18 f19 f20 f21 fL fN fP fM fO) ∧ (Cond.arrayOver (.array .int)).before #[] U = true)) (va_Qv (fun (_ : Unit) => True) (fun _ t => ∃ (P9 : Nat → Nat → Nat), (swP fP P9 i1.toInt.toNat (i1.toInt - 1).toNat) ∧ va_P (dC, dI) vwCl (mW ad kc x0 x1 x2 x3 x4 x5 x6 x7 x8 x9 x10 x11 x12 x13 x14 x15 x16 x17 x18 x19 x20 x21 f0 f1 f2 f3 f4 f5 f6 f7 f8 f9 f10 f11 f12 f13 f14 f15 f16 f17 f18 f19 f20 f21 fL fN P9 fM fO) t.heap ∧ va_K (dC, dI) vwCl (mT kc) t ∧ va_D (va_A (mW ad kc x0 x1 x2 x3 x4 x5 x6 x7 x8 x9 x10 x11 x12 x13 x14 x15 x16 x17 x18 x19 x20 x21 f0 f1 f2 f3 f4 f5 f6 f7 f8 f9 f10 f11 f12 f13 f14 f15 f16 f17 f18 f19 f20 f21 fL fN fP fM fO) sz) (mW ad kc x0 x1 x2 x3 x4 x5 x6 x7 x8 x9 x10 x11 x12 x13 x14 x15 x16 x17 x18 x19 x20 x21 f0 f1 f2 f3 f4 f5 f6 f7 f8 f9 f10 f11 f12 f13 f14 f15 f16 f17 f18 f19 f20 f21 fL fN P9 fM fO)) (va_A (mW ad kc x0 x1 x2 x3 x4 x5 x6 x7 x8 x9 x10 x11 x12 x13 x14 x15 x16 x17 x18 x19 x20 x21 f0 f1 f2 f3 f4 f5 f6 f7 f8 f9 f10 f11 f12 f13 f14 f15 f16 f17 f18 f19 f20 f21 fL fN fP fM fO) sz)) 0 0 (va_A (mW ad kc x0 x1 x2 x3 x4 x5 x6 x7 x8 x9 x10 x11 x12 x13 x14 x15 x16 x17 x18 x19 x20 x21 f0 f1 f2 f3 f4 f5 f6 f7 f8 f9 f10 f11 f12 f13 f14 f15 f16 f17 f18 f19 f20 f21 fL fN fP fM fO) sz) := by
  refine Met.ofW (cc := cX10_swapsNeed) (maxL := 3) (ret := none) (by decide +kernel) rfl ?_
  intro p e s m args below meth c s₁ B hml hv
  obtain ⟨rfl, hsz, hP, hK, hD0, hOV⟩ := hv
  have hx := B.exec
  have hb := B.bytes
  have hr := B.returns
  have hts := atoms_spec (ws := mwX10_swapsNeedm) B.pre
  have hown : s.vm.findClass RX10 = some m.cls := findClass_of_methodNamed B.named
  have hlocks := B.notSynchronized
  subst hsz
  have hD := hD0.self (sz := s.heap.size)
  generalize hAe : va_A (mW ad kc x0 x1 x2 x3 x4 x5 x6 x7 x8 x9 x10 x11 x12 x13 x14 x15 x16 x17 x18 x19 x20 x21 f0 f1 f2 f3 f4 f5 f6 f7 f8 f9 f10 f11 f12 f13 f14 f15 f16 f17 f18 f19 f20 f21 fL fN fP fM fO) s.heap.size = A at hD ⊢
  have hA : ∀ q : Nat, s.heap.size ≤ q → A q := fun q h => by rw [← hAe]; exact Or.inr h
  have hP : va_P (dC, dI) vwCl (mW ad kc x0 x1 x2 x3 x4 x5 x6 x7 x8 x9 x10 x11 x12 x13 x14 x15 x16 x17 x18 x19 x20 x21 f0 f1 f2 f3 f4 f5 f6 f7 f8 f9 f10 f11 f12 f13 f14 f15 f16 f17 f18 f19 f20 f21 fL fN fP fM fO) s.heap := hP
  have hD : va_D A (mW ad kc x0 x1 x2 x3 x4 x5 x6 x7 x8 x9 x10 x11 x12 x13 x14 x15 x16 x17 x18 x19 x20 x21 f0 f1 f2 f3 f4 f5 f6 f7 f8 f9 f10 f11 f12 f13 f14 f15 f16 f17 f18 f19 f20 f21 fL fN fP fM fO) := hD
  have hK : va_K (dC, dI) vwCl (mT kc) s := hK
  generalize hH : s.heap = H at hP ⊢
  have hS : va_S A s.heap H [] := by rw [← hH]; exact va_S.rf
  have hl := lv_entry ([.ref (ad 0), .int i1]) (n := 3) (Nat.le_of_ble_eq_true rfl)
  rw [lg_entry_eq]
  generalize (lg_sl ([.ref (ad 0), .int i1]) ++ List.replicate (3 - (lg_sl ([.ref (ad 0), .int i1])).length) Slot.unset).toArray = ls at hl ⊢
  have hl : lv_has ls 3 [(0, .ref (ad 0)), (1, .int i1)] := hl
  have rg_i1 := i_rng i1
  refine lv_aload_n hx hb dX10_swapsNeed_0 rfl (lv_at hl 0 rfl) ?_
  refine va_get (D := (dC, dI)) (ci := 10) (v := .ref (ad 24)) (C := RX10) (T := TX10) (N := 48) hx hb hts fin_X10_swapsNeedm_X10 hown hK hP 0 rfl rfl 28 (by decide) (hts (.fieldLink RX10 56 "PatternGateModel" "needs" "[[[I") (List.mem_of_getElem? (i := 1) (by decide +kernel))) (fun _ h9 => h9) rfl dX10_swapsNeed_1 ?_
  refine lv_iconst (v := 0) hx hb dX10_swapsNeed_4 (by decide) ?_
  refine m_aak hx hb hK hP 24 23 (k := 0) (b := ad (200 + 0)) rfl rfl rfl (i := 0) (by decide) (by omega) rfl dX10_swapsNeed_5 ?_
  refine lv_iload_n hx hb dX10_swapsNeed_6 rfl (lv_at hl 1 rfl) ?_
  refine m_aak hx hb hK hP (117 + 0) 27 (k := i1.toInt.toNat) (b := ad (300 + (12 * 0 + fP 0 i1.toInt.toNat))) (mW_P (by omega)) rfl rfl (i := i1) (by omega) (by omega) rfl dX10_swapsNeed_7 ?_
  have hp7 := (q1 0 i1.toInt.toNat (by omega)).1
  refine lv_astore_n (lv' := [(2, .ref (ad (300 + (12 * 0 + fP 0 i1.toInt.toNat)))), (0, .ref (ad 0)), (1, .int i1)]) hx hb dX10_swapsNeed_8 rfl hl (by decide) rfl (fun ls hl => ?_)
  refine lv_aload_n hx hb dX10_swapsNeed_9 rfl (lv_at hl 1 rfl) ?_
  refine va_get (D := (dC, dI)) (ci := 10) (v := .ref (ad 24)) (C := RX10) (T := TX10) (N := 48) hx hb hts fin_X10_swapsNeedm_X10 hown hK hP 0 rfl rfl 28 (by decide) (hts (.fieldLink RX10 56 "PatternGateModel" "needs" "[[[I") (List.mem_of_getElem? (i := 1) (by decide +kernel))) (fun _ h9 => h9) rfl dX10_swapsNeed_10 ?_
  refine lv_iconst (v := 0) hx hb dX10_swapsNeed_13 (by decide) ?_
  refine m_aak hx hb hK hP 24 23 (k := 0) (b := ad (200 + 0)) rfl rfl rfl (i := 0) (by decide) (by omega) rfl dX10_swapsNeed_14 ?_
  refine lv_iload_n hx hb dX10_swapsNeed_15 rfl (lv_at hl 2 rfl) ?_
  refine lv_aload_n hx hb dX10_swapsNeed_16 rfl (lv_at hl 1 rfl) ?_
  refine va_get (D := (dC, dI)) (ci := 10) (v := .ref (ad 24)) (C := RX10) (T := TX10) (N := 48) hx hb hts fin_X10_swapsNeedm_X10 hown hK hP 0 rfl rfl 28 (by decide) (hts (.fieldLink RX10 56 "PatternGateModel" "needs" "[[[I") (List.mem_of_getElem? (i := 1) (by decide +kernel))) (fun _ h9 => h9) rfl dX10_swapsNeed_17 ?_
  refine lv_iconst (v := 0) hx hb dX10_swapsNeed_20 (by decide) ?_
  refine m_aak hx hb hK hP 24 23 (k := 0) (b := ad (200 + 0)) rfl rfl rfl (i := 0) (by decide) (by omega) rfl dX10_swapsNeed_21 ?_
  refine lv_iload_n hx hb dX10_swapsNeed_22 rfl (lv_at hl 2 rfl) ?_
  refine lv_iconst (v := 1) hx hb dX10_swapsNeed_23 (by decide) ?_
  refine lv_isub hx hb dX10_swapsNeed_24 ?_
  refine lv_topi (fun y_1 ey_1 => ?_)
  first | have ty_1 := i_sub (a := i1.toInt) (b := 1) rfl (by decide) ey_1 (by omega) (by omega) | skip
  refine m_aak hx hb hK hP (117 + 0) 27 (k := y_1.toInt.toNat) (b := ad (300 + (12 * 0 + fP 0 y_1.toInt.toNat))) (mW_P (by omega)) rfl rfl (i := y_1) (by omega) (by omega) rfl dX10_swapsNeed_25 ?_
  have hp25 := (q1 0 y_1.toInt.toNat (by omega)).1
  refine m_aast hx hb hK hP hD hS (117 + 0) 27 (rPos (300 + (12 * 0 + fP 0 y_1.toInt.toNat))) (rTy (300 + (12 * 0 + fP 0 y_1.toInt.toNat))) (mW_P (by omega)) rfl (mW_R (by unfold IR; omega)) (mT_R _) (over_moved (Vm.Alike.refl _) hOV) (i := i1) (vp_of (a := i1.toInt) rfl (by omega) (by omega)) dX10_swapsNeed_26 (fun H locs hP hD hS => ?_)
  rw [m_upP, mW_Ps (by omega)] at hP hD
  generalize hP_2 : uF fP 0 (va_up _ _ _) = P_2 at hP hD
  have hP : va_P (dC, dI) vwCl (mW ad kc x0 x1 x2 x3 x4 x5 x6 x7 x8 x9 x10 x11 x12 x13 x14 x15 x16 x17 x18 x19 x20 x21 f0 f1 f2 f3 f4 f5 f6 f7 f8 f9 f10 f11 f12 f13 f14 f15 f16 f17 f18 f19 f20 f21 fL fN P_2 fM fO) H := hP
  have hD : va_D A (mW ad kc x0 x1 x2 x3 x4 x5 x6 x7 x8 x9 x10 x11 x12 x13 x14 x15 x16 x17 x18 x19 x20 x21 f0 f1 f2 f3 f4 f5 f6 f7 f8 f9 f10 f11 f12 f13 f14 f15 f16 f17 f18 f19 f20 f21 fL fN P_2 fM fO) := hD
  refine lv_aload_n hx hb dX10_swapsNeed_27 rfl (lv_at hl 1 rfl) ?_
  refine va_get (D := (dC, dI)) (ci := 10) (v := .ref (ad 24)) (C := RX10) (T := TX10) (N := 48) hx hb hts fin_X10_swapsNeedm_X10 hown hK hP 0 rfl rfl 28 (by decide) (hts (.fieldLink RX10 56 "PatternGateModel" "needs" "[[[I") (List.mem_of_getElem? (i := 1) (by decide +kernel))) (fun _ h9 => h9) rfl dX10_swapsNeed_28 ?_
  refine lv_iconst (v := 0) hx hb dX10_swapsNeed_31 (by decide) ?_
  refine m_aak hx hb hK hP 24 23 (k := 0) (b := ad (200 + 0)) rfl rfl rfl (i := 0) (by decide) (by omega) rfl dX10_swapsNeed_32 ?_
  refine lv_iload_n hx hb dX10_swapsNeed_33 rfl (lv_at hl 2 rfl) ?_
  refine lv_iconst (v := 1) hx hb dX10_swapsNeed_34 (by decide) ?_
  refine lv_isub hx hb dX10_swapsNeed_35 ?_
  refine lv_topi (fun y_3 ey_3 => ?_)
  first | have ty_3 := i_sub (a := i1.toInt) (b := 1) rfl (by decide) ey_3 (by omega) (by omega) | skip
  refine lv_aload_n hx hb dX10_swapsNeed_36 rfl (lv_at hl 0 rfl) ?_
  refine m_aast hx hb hK hP hD hS (117 + 0) 27 (rPos (300 + (12 * 0 + fP 0 i1.toInt.toNat))) (rTy (300 + (12 * 0 + fP 0 i1.toInt.toNat))) (mW_P (by omega)) rfl (mW_R (by unfold IR; omega)) (mT_R _) (over_moved (Vm.Alike.refl _) hOV) (i := y_3) (vp_of (a := y_3.toInt) rfl (by omega) (by omega)) dX10_swapsNeed_37 (fun H locs hP hD hS => ?_)
  rw [m_upP, mW_Ps (by omega)] at hP hD
  generalize hP_4 : uF P_2 0 (va_up _ _ _) = P_4 at hP hD
  have hP : va_P (dC, dI) vwCl (mW ad kc x0 x1 x2 x3 x4 x5 x6 x7 x8 x9 x10 x11 x12 x13 x14 x15 x16 x17 x18 x19 x20 x21 f0 f1 f2 f3 f4 f5 f6 f7 f8 f9 f10 f11 f12 f13 f14 f15 f16 f17 f18 f19 f20 f21 fL fN P_4 fM fO) H := hP
  have hD : va_D A (mW ad kc x0 x1 x2 x3 x4 x5 x6 x7 x8 x9 x10 x11 x12 x13 x14 x15 x16 x17 x18 x19 x20 x21 f0 f1 f2 f3 f4 f5 f6 f7 f8 f9 f10 f11 f12 f13 f14 f15 f16 f17 f18 f19 f20 f21 fL fN P_4 fM fO) := hD
  exact W.vret hx hb hr (fun t ht hW => ⟨⟨(), rfl, trivial, P_4, (swP.of (P1 := P_2) (a := i1.toInt.toNat) (b := (i1.toInt - 1).toNat) (by rw [show (i1.toInt - 1).toNat = y_1.toInt.toNat by omega]; exact hP_2) (by rw [show (i1.toInt - 1).toNat = y_3.toInt.toNat by omega]; exact hP_4) (by omega)), by rw [ht]; exact hP, va_K.moved hW.alike hK, hD⟩, hS.F ht⟩) hS.2.2 dX10_swapsNeed_38
theorem dX10_needsOf_0 : decode cX10_needsOf 0 = .ok (.aload_n 0, 1) := by decide +kernel
theorem dX10_needsOf_1 : decode cX10_needsOf 1 = .ok (.iload_n 1, 1) := by decide +kernel
theorem dX10_needsOf_2 : decode cX10_needsOf 2 = .ok (.invokevirtual 359, 3) := by decide +kernel
theorem dX10_needsOf_5 : decode cX10_needsOf 5 = .ok (.istore_n 2, 1) := by decide +kernel
theorem dX10_needsOf_6 : decode cX10_needsOf 6 = .ok (.aload_n 0, 1) := by decide +kernel
theorem dX10_needsOf_7 : decode cX10_needsOf 7 = .ok (.iconst 0, 1) := by decide +kernel
theorem dX10_needsOf_8 : decode cX10_needsOf 8 = .ok (.putfield 274, 3) := by decide +kernel
theorem dX10_needsOf_11 : decode cX10_needsOf 11 = .ok (.aload_n 0, 1) := by decide +kernel
theorem dX10_needsOf_12 : decode cX10_needsOf 12 = .ok (.iconst 0, 1) := by decide +kernel
theorem dX10_needsOf_13 : decode cX10_needsOf 13 = .ok (.putfield 300, 3) := by decide +kernel
theorem dX10_needsOf_16 : decode cX10_needsOf 16 = .ok (.aload_n 0, 1) := by decide +kernel
theorem dX10_needsOf_17 : decode cX10_needsOf 17 = .ok (.invokevirtual 334, 3) := by decide +kernel
theorem dX10_needsOf_20 : decode cX10_needsOf 20 = .ok (.pop, 1) := by decide +kernel
theorem dX10_needsOf_21 : decode cX10_needsOf 21 = .ok (.aload_n 0, 1) := by decide +kernel
theorem dX10_needsOf_22 : decode cX10_needsOf 22 = .ok (.invokevirtual 337, 3) := by decide +kernel
theorem dX10_needsOf_25 : decode cX10_needsOf 25 = .ok (.pop, 1) := by decide +kernel
theorem dX10_needsOf_26 : decode cX10_needsOf 26 = .ok (.aload_n 0, 1) := by decide +kernel
theorem dX10_needsOf_27 : decode cX10_needsOf 27 = .ok (.aload_n 0, 1) := by decide +kernel
theorem dX10_needsOf_28 : decode cX10_needsOf 28 = .ok (.iload_n 2, 1) := by decide +kernel
theorem dX10_needsOf_29 : decode cX10_needsOf 29 = .ok (.iconst 0, 1) := by decide +kernel
theorem dX10_needsOf_30 : decode cX10_needsOf 30 = .ok (.iconst 0, 1) := by decide +kernel
theorem dX10_needsOf_31 : decode cX10_needsOf 31 = .ok (.invokevirtual 331, 3) := by decide +kernel
theorem dX10_needsOf_34 : decode cX10_needsOf 34 = .ok (.putfield 362, 3) := by decide +kernel
theorem dX10_needsOf_37 : decode cX10_needsOf 37 = .ok (.iconst 1, 1) := by decide +kernel
theorem dX10_needsOf_38 : decode cX10_needsOf 38 = .ok (.istore_n 3, 1) := by decide +kernel
theorem dX10_needsOf_39 : decode cX10_needsOf 39 = .ok (.iload_n 3, 1) := by decide +kernel
theorem dX10_needsOf_40 : decode cX10_needsOf 40 = .ok (.aload_n 0, 1) := by decide +kernel
theorem dX10_needsOf_41 : decode cX10_needsOf 41 = .ok (.getfield 64, 3) := by decide +kernel
theorem dX10_needsOf_44 : decode cX10_needsOf 44 = .ok (.iconst 0, 1) := by decide +kernel
theorem dX10_needsOf_45 : decode cX10_needsOf 45 = .ok (.iaload, 1) := by decide +kernel
theorem dX10_needsOf_46 : decode cX10_needsOf 46 = .ok (.if_icmp .ge 55, 3) := by decide +kernel
theorem dX10_needsOf_49 : decode cX10_needsOf 49 = .ok (.iload_n 3, 1) := by decide +kernel
theorem dX10_needsOf_50 : decode cX10_needsOf 50 = .ok (.istore 4, 2) := by decide +kernel
theorem dX10_needsOf_52 : decode cX10_needsOf 52 = .ok (.iload 4, 2) := by decide +kernel
theorem dX10_needsOf_54 : decode cX10_needsOf 54 = .ok (.ifCond .le 41, 3) := by decide +kernel
theorem dX10_needsOf_57 : decode cX10_needsOf 57 = .ok (.aload_n 0, 1) := by decide +kernel
theorem dX10_needsOf_58 : decode cX10_needsOf 58 = .ok (.getfield 56, 3) := by decide +kernel
theorem dX10_needsOf_61 : decode cX10_needsOf 61 = .ok (.iconst 0, 1) := by decide +kernel
theorem dX10_needsOf_62 : decode cX10_needsOf 62 = .ok (.aaload, 1) := by decide +kernel
theorem dX10_needsOf_63 : decode cX10_needsOf 63 = .ok (.iload 4, 2) := by decide +kernel
theorem dX10_needsOf_65 : decode cX10_needsOf 65 = .ok (.aaload, 1) := by decide +kernel
theorem dX10_needsOf_66 : decode cX10_needsOf 66 = .ok (.aload_n 0, 1) := by decide +kernel
theorem dX10_needsOf_67 : decode cX10_needsOf 67 = .ok (.getfield 56, 3) := by decide +kernel
theorem dX10_needsOf_70 : decode cX10_needsOf 70 = .ok (.iconst 0, 1) := by decide +kernel
theorem dX10_needsOf_71 : decode cX10_needsOf 71 = .ok (.aaload, 1) := by decide +kernel
theorem dX10_needsOf_72 : decode cX10_needsOf 72 = .ok (.iload 4, 2) := by decide +kernel
theorem dX10_needsOf_74 : decode cX10_needsOf 74 = .ok (.iconst 1, 1) := by decide +kernel
theorem dX10_needsOf_75 : decode cX10_needsOf 75 = .ok (.isub, 1) := by decide +kernel
theorem dX10_needsOf_76 : decode cX10_needsOf 76 = .ok (.aaload, 1) := by decide +kernel
theorem dX10_needsOf_77 : decode cX10_needsOf 77 = .ok (.invokestatic 366, 3) := by decide +kernel
theorem dX10_needsOf_80 : decode cX10_needsOf 80 = .ok (.ifCond .eq 15, 3) := by decide +kernel
theorem dX10_needsOf_83 : decode cX10_needsOf 83 = .ok (.aload_n 0, 1) := by decide +kernel
theorem dX10_needsOf_84 : decode cX10_needsOf 84 = .ok (.iload 4, 2) := by decide +kernel
theorem dX10_needsOf_86 : decode cX10_needsOf 86 = .ok (.invokevirtual 369, 3) := by decide +kernel
theorem dX10_needsOf_89 : decode cX10_needsOf 89 = .ok (.iinc 4 (-1), 3) := by decide +kernel
theorem dX10_needsOf_92 : decode cX10_needsOf 92 = .ok (.goto (-40), 3) := by decide +kernel
theorem dX10_needsOf_95 : decode cX10_needsOf 95 = .ok (.iinc 3 1, 3) := by decide +kernel
theorem dX10_needsOf_98 : decode cX10_needsOf 98 = .ok (.goto (-59), 3) := by decide +kernel
theorem dX10_needsOf_101 : decode cX10_needsOf 101 = .ok (.iconst 1, 1) := by decide +kernel
theorem dX10_needsOf_102 : decode cX10_needsOf 102 = .ok (.istore_n 3, 1) := by decide +kernel
theorem dX10_needsOf_103 : decode cX10_needsOf 103 = .ok (.iload_n 3, 1) := by decide +kernel
theorem dX10_needsOf_104 : decode cX10_needsOf 104 = .ok (.aload_n 0, 1) := by decide +kernel
theorem dX10_needsOf_105 : decode cX10_needsOf 105 = .ok (.getfield 51, 3) := by decide +kernel
theorem dX10_needsOf_108 : decode cX10_needsOf 108 = .ok (.iconst 0, 1) := by decide +kernel
theorem dX10_needsOf_109 : decode cX10_needsOf 109 = .ok (.iaload, 1) := by decide +kernel
theorem dX10_needsOf_110 : decode cX10_needsOf 110 = .ok (.if_icmp .ge 100, 3) := by decide +kernel
theorem dX10_needsOf_113 : decode cX10_needsOf 113 = .ok (.aload_n 0, 1) := by decide +kernel
theorem dX10_needsOf_114 : decode cX10_needsOf 114 = .ok (.getfield 362, 3) := by decide +kernel
theorem dX10_needsOf_117 : decode cX10_needsOf 117 = .ok (.ifCond .eq 93, 3) := by decide +kernel
theorem dX10_needsOf_120 : decode cX10_needsOf 120 = .ok (.iload_n 3, 1) := by decide +kernel
theorem dX10_needsOf_121 : decode cX10_needsOf 121 = .ok (.istore 4, 2) := by decide +kernel
theorem dX10_needsOf_123 : decode cX10_needsOf 123 = .ok (.iload 4, 2) := by decide +kernel
theorem dX10_needsOf_125 : decode cX10_needsOf 125 = .ok (.ifCond .le 79, 3) := by decide +kernel
theorem dX10_needsOf_128 : decode cX10_needsOf 128 = .ok (.aload_n 0, 1) := by decide +kernel
theorem dX10_needsOf_129 : decode cX10_needsOf 129 = .ok (.getfield 48, 3) := by decide +kernel
theorem dX10_needsOf_132 : decode cX10_needsOf 132 = .ok (.iconst 0, 1) := by decide +kernel
theorem dX10_needsOf_133 : decode cX10_needsOf 133 = .ok (.aaload, 1) := by decide +kernel
theorem dX10_needsOf_134 : decode cX10_needsOf 134 = .ok (.iload 4, 2) := by decide +kernel
theorem dX10_needsOf_136 : decode cX10_needsOf 136 = .ok (.laload, 1) := by decide +kernel
theorem dX10_needsOf_137 : decode cX10_needsOf 137 = .ok (.aload_n 0, 1) := by decide +kernel
theorem dX10_needsOf_138 : decode cX10_needsOf 138 = .ok (.getfield 48, 3) := by decide +kernel
theorem dX10_needsOf_141 : decode cX10_needsOf 141 = .ok (.iconst 0, 1) := by decide +kernel
theorem dX10_needsOf_142 : decode cX10_needsOf 142 = .ok (.aaload, 1) := by decide +kernel
theorem dX10_needsOf_143 : decode cX10_needsOf 143 = .ok (.iload 4, 2) := by decide +kernel
theorem dX10_needsOf_145 : decode cX10_needsOf 145 = .ok (.iconst 1, 1) := by decide +kernel
theorem dX10_needsOf_146 : decode cX10_needsOf 146 = .ok (.isub, 1) := by decide +kernel
theorem dX10_needsOf_147 : decode cX10_needsOf 147 = .ok (.laload, 1) := by decide +kernel
theorem dX10_needsOf_148 : decode cX10_needsOf 148 = .ok (.invokestatic 372, 3) := by decide +kernel
theorem dX10_needsOf_151 : decode cX10_needsOf 151 = .ok (.ifCond .eq 53, 3) := by decide +kernel
theorem dX10_needsOf_154 : decode cX10_needsOf 154 = .ok (.aload_n 0, 1) := by decide +kernel
theorem dX10_needsOf_155 : decode cX10_needsOf 155 = .ok (.getfield 48, 3) := by decide +kernel
theorem dX10_needsOf_158 : decode cX10_needsOf 158 = .ok (.iconst 0, 1) := by decide +kernel
theorem dX10_needsOf_159 : decode cX10_needsOf 159 = .ok (.aaload, 1) := by decide +kernel
theorem dX10_needsOf_160 : decode cX10_needsOf 160 = .ok (.iload 4, 2) := by decide +kernel
theorem dX10_needsOf_162 : decode cX10_needsOf 162 = .ok (.laload, 1) := by decide +kernel
theorem dX10_needsOf_163 : decode cX10_needsOf 163 = .ok (.lstore 5, 2) := by decide +kernel
theorem dX10_needsOf_165 : decode cX10_needsOf 165 = .ok (.aload_n 0, 1) := by decide +kernel
theorem dX10_needsOf_166 : decode cX10_needsOf 166 = .ok (.getfield 48, 3) := by decide +kernel
theorem dX10_needsOf_169 : decode cX10_needsOf 169 = .ok (.iconst 0, 1) := by decide +kernel
theorem dX10_needsOf_170 : decode cX10_needsOf 170 = .ok (.aaload, 1) := by decide +kernel
theorem dX10_needsOf_171 : decode cX10_needsOf 171 = .ok (.iload 4, 2) := by decide +kernel
theorem dX10_needsOf_173 : decode cX10_needsOf 173 = .ok (.aload_n 0, 1) := by decide +kernel
theorem dX10_needsOf_174 : decode cX10_needsOf 174 = .ok (.getfield 48, 3) := by decide +kernel
theorem dX10_needsOf_177 : decode cX10_needsOf 177 = .ok (.iconst 0, 1) := by decide +kernel
theorem dX10_needsOf_178 : decode cX10_needsOf 178 = .ok (.aaload, 1) := by decide +kernel
theorem dX10_needsOf_179 : decode cX10_needsOf 179 = .ok (.iload 4, 2) := by decide +kernel
theorem dX10_needsOf_181 : decode cX10_needsOf 181 = .ok (.iconst 1, 1) := by decide +kernel
theorem dX10_needsOf_182 : decode cX10_needsOf 182 = .ok (.isub, 1) := by decide +kernel
theorem dX10_needsOf_183 : decode cX10_needsOf 183 = .ok (.laload, 1) := by decide +kernel
theorem dX10_needsOf_184 : decode cX10_needsOf 184 = .ok (.lastore, 1) := by decide +kernel
theorem dX10_needsOf_185 : decode cX10_needsOf 185 = .ok (.aload_n 0, 1) := by decide +kernel
theorem dX10_needsOf_186 : decode cX10_needsOf 186 = .ok (.getfield 48, 3) := by decide +kernel
theorem dX10_needsOf_189 : decode cX10_needsOf 189 = .ok (.iconst 0, 1) := by decide +kernel
theorem dX10_needsOf_190 : decode cX10_needsOf 190 = .ok (.aaload, 1) := by decide +kernel
theorem dX10_needsOf_191 : decode cX10_needsOf 191 = .ok (.iload 4, 2) := by decide +kernel
theorem dX10_needsOf_193 : decode cX10_needsOf 193 = .ok (.iconst 1, 1) := by decide +kernel
theorem dX10_needsOf_194 : decode cX10_needsOf 194 = .ok (.isub, 1) := by decide +kernel
theorem dX10_needsOf_195 : decode cX10_needsOf 195 = .ok (.lload 5, 2) := by decide +kernel
theorem dX10_needsOf_197 : decode cX10_needsOf 197 = .ok (.lastore, 1) := by decide +kernel
theorem dX10_needsOf_198 : decode cX10_needsOf 198 = .ok (.iinc 4 (-1), 3) := by decide +kernel
theorem dX10_needsOf_201 : decode cX10_needsOf 201 = .ok (.goto (-78), 3) := by decide +kernel
theorem dX10_needsOf_204 : decode cX10_needsOf 204 = .ok (.iinc 3 1, 3) := by decide +kernel
theorem dX10_needsOf_207 : decode cX10_needsOf 207 = .ok (.goto (-104), 3) := by decide +kernel
theorem dX10_needsOf_210 : decode cX10_needsOf 210 = .ok (.return_, 1) := by decide +kernel
def mwX10_needsOfm : List Cond := .code yX10_needsOf cX10_needsOf 7 none :: (([.methodLink RX10 359 yX10_opens, .instanceMethod yX10_opens, .selects RX10 yX10_opens yX10_opens, .initialized RX10, .fieldLink RX10 274 "PatternGateModel" "sets" "I", .fieldLink RX10 300 "PatternGateModel" "needTop" "I", .methodLink RX10 334 yX10_newSet, .instanceMethod yX10_newSet, .selects RX10 yX10_newSet yX10_newSet, .methodLink RX10 337 yX10_newNeed, .instanceMethod yX10_newNeed, .selects RX10 yX10_newNeed yX10_newNeed, .methodLink RX10 331 yX10_worksOut, .instanceMethod yX10_worksOut, .selects RX10 yX10_worksOut yX10_worksOut, .fieldLink RX10 362 "PatternGateModel" "isExact" "Z", .fieldLink RX10 64 "PatternGateModel" "needMany" "[I", .fieldLink RX10 51 "PatternGateModel" "rowMany" "[I", .fieldLink RX10 48 "PatternGateModel" "rows" "[[J", .methodLink RX10 372 yX10_isAhead_, .static yX10_isAhead_, .fieldLink RX10 56 "PatternGateModel" "needs" "[[[I", .methodLink RX10 366 yX10_isAhead, .static yX10_isAhead, .methodLink RX10 369 yX10_swapsNeed, .instanceMethod yX10_swapsNeed, .selects RX10 yX10_swapsNeed yX10_swapsNeed] : List Cond) ++ (wsX100 ++ (mwX10_opensm ++ (mwX10_newSetm ++ (mwX10_newNeedm ++ (mwg_X10_worksOutP ++ (mwX10_isAhead_m ++ (mwX10_isAheadm ++ (mwX10_swapsNeedm)))))))))
theorem fin_X10_needsOfm_X10 : ∀ w ∈ wsX100, w ∈ mwX10_needsOfm := fun w h => List.mem_cons_of_mem _ (List.mem_append_right _ (List.mem_append_left _ h))
set_option maxRecDepth 100000 in
theorem gd_mwg_X10_worksOutP : mwg_X10_worksOutP.all goodWord = true := by decide +kernel
set_option maxRecDepth 100000 in
theorem gd_mwX10_isAhead_m : mwX10_isAhead_m.all goodWord = true := by decide +kernel
set_option maxRecDepth 100000 in
theorem gd_mwX10_isAheadm : mwX10_isAheadm.all goodWord = true := by decide +kernel
set_option maxRecDepth 100000 in
theorem gd_mwX10_swapsNeedm : mwX10_swapsNeedm.all goodWord = true := by decide +kernel
set_option maxRecDepth 20000 in
theorem mg_X10_needsOfm_X10_opens_359 : GoodIn mwX10_needsOfm (wsV RX10 359 RX10 yX10_opens mwX10_opensm) := gj_app (A := [.methodLink RX10 359 yX10_opens, .instanceMethod yX10_opens, .selects RX10 yX10_opens yX10_opens, .initialized RX10]) (goodIn_r _ [1, 2, 3, 4] (by decide +kernel) (by decide +kernel)) (gj_sub gd_mwX10_opensm (fun w h => List.mem_cons_of_mem _ (List.mem_append_right _ (List.mem_append_right _ (List.mem_append_left _ h)))))
set_option maxRecDepth 20000 in
theorem mg_X10_needsOfm_X10_newSet_334 : GoodIn mwX10_needsOfm (wsV RX10 334 RX10 yX10_newSet mwX10_newSetm) := gj_app (A := [.methodLink RX10 334 yX10_newSet, .instanceMethod yX10_newSet, .selects RX10 yX10_newSet yX10_newSet, .initialized RX10]) (goodIn_r _ [7, 8, 9, 4] (by decide +kernel) (by decide +kernel)) (gj_sub gd_mwX10_newSetm (fun w h => List.mem_cons_of_mem _ (List.mem_append_right _ (List.mem_append_right _ (List.mem_append_right _ (List.mem_append_left _ h))))))
set_option maxRecDepth 20000 in
theorem mg_X10_needsOfm_X10_newNeed_337 : GoodIn mwX10_needsOfm (wsV RX10 337 RX10 yX10_newNeed mwX10_newNeedm) := gj_app (A := [.methodLink RX10 337 yX10_newNeed, .instanceMethod yX10_newNeed, .selects RX10 yX10_newNeed yX10_newNeed, .initialized RX10]) (goodIn_r _ [10, 11, 12, 4] (by decide +kernel) (by decide +kernel)) (gj_sub gd_mwX10_newNeedm (fun w h => List.mem_cons_of_mem _ (List.mem_append_right _ (List.mem_append_right _ (List.mem_append_right _ (List.mem_append_right _ (List.mem_append_left _ h)))))))
set_option maxRecDepth 20000 in
theorem mg_X10_needsOfm_X10_worksOut_331 : GoodIn mwX10_needsOfm (wsV RX10 331 RX10 yX10_worksOut mwg_X10_worksOutP) := gj_app (A := [.methodLink RX10 331 yX10_worksOut, .instanceMethod yX10_worksOut, .selects RX10 yX10_worksOut yX10_worksOut, .initialized RX10]) (goodIn_r _ [13, 14, 15, 4] (by decide +kernel) (by decide +kernel)) (gj_sub gd_mwg_X10_worksOutP (fun w h => List.mem_cons_of_mem _ (List.mem_append_right _ (List.mem_append_right _ (List.mem_append_right _ (List.mem_append_right _ (List.mem_append_right _ (List.mem_append_left _ h))))))))
set_option maxRecDepth 20000 in
theorem mg_X10_needsOfm_X10_isAhead__372 : GoodIn mwX10_needsOfm (va_wsS RX10 372 yX10_isAhead_ mwX10_isAhead_m) := gj_app (A := [.methodLink RX10 372 yX10_isAhead_, .static yX10_isAhead_, .initialized RX10]) (goodIn_r _ [20, 21, 4] (by decide +kernel) (by decide +kernel)) (gj_sub gd_mwX10_isAhead_m (fun w h => List.mem_cons_of_mem _ (List.mem_append_right _ (List.mem_append_right _ (List.mem_append_right _ (List.mem_append_right _ (List.mem_append_right _ (List.mem_append_right _ (List.mem_append_left _ h)))))))))
set_option maxRecDepth 20000 in
theorem mg_X10_needsOfm_X10_isAhead_366 : GoodIn mwX10_needsOfm (va_wsS RX10 366 yX10_isAhead mwX10_isAheadm) := gj_app (A := [.methodLink RX10 366 yX10_isAhead, .static yX10_isAhead, .initialized RX10]) (goodIn_r _ [23, 24, 4] (by decide +kernel) (by decide +kernel)) (gj_sub gd_mwX10_isAheadm (fun w h => List.mem_cons_of_mem _ (List.mem_append_right _ (List.mem_append_right _ (List.mem_append_right _ (List.mem_append_right _ (List.mem_append_right _ (List.mem_append_right _ (List.mem_append_right _ (List.mem_append_left _ h))))))))))
set_option maxRecDepth 20000 in
theorem mg_X10_needsOfm_X10_swapsNeed_369 : GoodIn mwX10_needsOfm (wsV RX10 369 RX10 yX10_swapsNeed mwX10_swapsNeedm) := gj_app (A := [.methodLink RX10 369 yX10_swapsNeed, .instanceMethod yX10_swapsNeed, .selects RX10 yX10_swapsNeed yX10_swapsNeed, .initialized RX10]) (goodIn_r _ [25, 26, 27, 4] (by decide +kernel) (by decide +kernel)) (gj_sub gd_mwX10_swapsNeedm (fun w h => List.mem_cons_of_mem _ (List.mem_append_right _ (List.mem_append_right _ (List.mem_append_right _ (List.mem_append_right _ (List.mem_append_right _ (List.mem_append_right _ (List.mem_append_right _ (List.mem_append_right _ (h)))))))))))
set_option maxHeartbeats 4000000 in
set_option maxRecDepth 100000 in
theorem m_needsOf (l : Launch) (dC : Nat → ClassId) (dI : Nat → Nat → Nat) (ad : Nat → Nat) (kc : Nat → ClassId) (x0 x1 x2 x3 x4 x5 x6 x7 x8 x9 x10 x11 x12 x13 x14 x15 x16 x17 x18 x19 x20 x21 : Int32) (f0 f1 f2 f3 f4 f5 f6 f7 f8 f9 f10 f11 f12 f13 f14 f15 f16 f17 f18 f19 f20 f21 : Nat → Int32) (fL : Nat → Nat → Int64) (fN : Nat → Nat → Int32) (fP : Nat → Nat → Nat) (fM : Nat → Nat → Int32) (fO : Nat → Nat → Int32) (sz : Nat) (i1 : Int32) (q0 : OKd f0 0) (q1 : 0 ≤ i1.toInt ∧ i1.toInt < vI f0 611) (q2 : PI fP) : Met l yX10_needsOf mwX10_needsOfm ({ frames := 41, cells := 0, slots := 0, locals := 2460 }) (va_Pc [.ref (ad 0), .int i1] (fun U => U.heap.size = sz ∧ va_P (dC, dI) vwCl (mW ad kc x0 x1 x2 x3 x4 x5 x6 x7 x8 x9 x10 x11 x12 x13 x14 x15 x16 x17 x18 x19 x20 x21 f0 f1 f2 f3 f4 f5 f6 f7 f8 f9 f10 f11 f12 f13 f14 f15 f16 f17 f18 f19 f20 f21 fL fN fP fM fO) U.heap ∧ va_K (dC, dI) vwCl (mT kc) U ∧ va_D (fun _ => True) (mW ad kc x0 x1 x2 x3 x4 x5 x6 x7 x8 x9 x10 x11 x12 x13 x14 x15 x16 x17 x18 x19 x20 x21 f0 f1 f2 f3 f4 f5 f6 f7 f8 f9 f10 f11 f12 f13 f14 f15 f16 f17 f18 f19 f20 f21 fL fN fP fM fO) ∧ (Cond.arrayOver (.array .int)).before #[] U = true)) (va_Qv (fun (_ : Unit) => True) (fun _ t => ∃ (y12 y13 y14 y15 y16 y17 y18 y19 : Int32) (g3 g4 g5 g6 g7 g8 g9 g10 g11 : Nat → Int32) (L9 : Nat → Nat → Int64) (Nn9 : Nat → Nat → Int32) (P9 : Nat → Nat → Nat) (M9 : Nat → Nat → Int32) (O9 : Nat → Nat → Int32), (PI P9) ∧ (nOK (rO Nn9 M9 O9) P9 g10 0 24) ∧ (y19.toInt = 0 ∨ y19.toInt = 1) ∧ (y19.toInt = 1 → sOK L9 g9 0 6 24) ∧ (∀ a, IR a → 1300 ≤ a → (rO Nn9 M9 O9) a = (rO fN fM fO) a) ∧ va_P (dC, dI) vwCl (mW ad kc x0 x1 x2 x3 x4 x5 x6 x7 x8 x9 x10 x11 y12 y13 y14 y15 y16 y17 y18 y19 x20 x21 f0 f1 f2 g3 g4 g5 g6 g7 g8 g9 g10 g11 f12 f13 f14 f15 f16 f17 f18 f19 f20 f21 L9 Nn9 P9 M9 O9) t.heap ∧ va_K (dC, dI) vwCl (mT kc) t ∧ va_D (va_A (mW ad kc x0 x1 x2 x3 x4 x5 x6 x7 x8 x9 x10 x11 x12 x13 x14 x15 x16 x17 x18 x19 x20 x21 f0 f1 f2 f3 f4 f5 f6 f7 f8 f9 f10 f11 f12 f13 f14 f15 f16 f17 f18 f19 f20 f21 fL fN fP fM fO) sz) (mW ad kc x0 x1 x2 x3 x4 x5 x6 x7 x8 x9 x10 x11 y12 y13 y14 y15 y16 y17 y18 y19 x20 x21 f0 f1 f2 g3 g4 g5 g6 g7 g8 g9 g10 g11 f12 f13 f14 f15 f16 f17 f18 f19 f20 f21 L9 Nn9 P9 M9 O9)) (va_A (mW ad kc x0 x1 x2 x3 x4 x5 x6 x7 x8 x9 x10 x11 x12 x13 x14 x15 x16 x17 x18 x19 x20 x21 f0 f1 f2 f3 f4 f5 f6 f7 f8 f9 f10 f11 f12 f13 f14 f15 f16 f17 f18 f19 f20 f21 fL fN fP fM fO) sz)) 0 0 (va_A (mW ad kc x0 x1 x2 x3 x4 x5 x6 x7 x8 x9 x10 x11 x12 x13 x14 x15 x16 x17 x18 x19 x20 x21 f0 f1 f2 f3 f4 f5 f6 f7 f8 f9 f10 f11 f12 f13 f14 f15 f16 f17 f18 f19 f20 f21 fL fN fP fM fO) sz) := by
  refine Met.ofW (cc := cX10_needsOf) (maxL := 7) (ret := none) (by decide +kernel) rfl ?_
  intro p e s m args below meth c s₁ B hml hv
  obtain ⟨rfl, hsz, hP, hK, hD0, hOV⟩ := hv
  have hx := B.exec
  have hb := B.bytes
  have hr := B.returns
  have hts := atoms_spec (ws := mwX10_needsOfm) B.pre
  have hown : s.vm.findClass RX10 = some m.cls := findClass_of_methodNamed B.named
  have hlocks := B.notSynchronized
  subst hsz
  have hD := hD0.self (sz := s.heap.size)
  generalize hAe : va_A (mW ad kc x0 x1 x2 x3 x4 x5 x6 x7 x8 x9 x10 x11 x12 x13 x14 x15 x16 x17 x18 x19 x20 x21 f0 f1 f2 f3 f4 f5 f6 f7 f8 f9 f10 f11 f12 f13 f14 f15 f16 f17 f18 f19 f20 f21 fL fN fP fM fO) s.heap.size = A at hD ⊢
  have hA : ∀ q : Nat, s.heap.size ≤ q → A q := fun q h => by rw [← hAe]; exact Or.inr h
  have hP : va_P (dC, dI) vwCl (mW ad kc x0 x1 x2 x3 x4 x5 x6 x7 x8 x9 x10 x11 x12 x13 x14 x15 x16 x17 x18 x19 x20 x21 f0 f1 f2 f3 f4 f5 f6 f7 f8 f9 f10 f11 f12 f13 f14 f15 f16 f17 f18 f19 f20 f21 fL fN fP fM fO) s.heap := hP
  have hD : va_D A (mW ad kc x0 x1 x2 x3 x4 x5 x6 x7 x8 x9 x10 x11 x12 x13 x14 x15 x16 x17 x18 x19 x20 x21 f0 f1 f2 f3 f4 f5 f6 f7 f8 f9 f10 f11 f12 f13 f14 f15 f16 f17 f18 f19 f20 f21 fL fN fP fM fO) := hD
  have hK : va_K (dC, dI) vwCl (mT kc) s := hK
  generalize hH : s.heap = H at hP ⊢
  have hS : va_S A s.heap H [] := by rw [← hH]; exact va_S.rf
  have hl := lv_entry ([.ref (ad 0), .int i1]) (n := 7) (Nat.le_of_ble_eq_true rfl)
  rw [lg_entry_eq]
  generalize (lg_sl ([.ref (ad 0), .int i1]) ++ List.replicate (7 - (lg_sl ([.ref (ad 0), .int i1])).length) Slot.unset).toArray = ls at hl ⊢
  have hl : lv_has ls 7 [(0, .ref (ad 0)), (1, .int i1)] := hl
  have rg_i1 := i_rng i1
  refine lv_aload_n hx hb dX10_needsOf_0 rfl (lv_at hl 0 rfl) ?_
  refine lv_iload_n hx hb dX10_needsOf_1 rfl (lv_at hl 1 rfl) ?_
  have hFc := m_free hD hS hA
  refine va_calli (va_runV (As := [.int i1]) (rest := []) ⟨hx, hb, hml, hown, hts⟩ (m_opens l dC dI ad kc x0 x1 x2 x3 x4 x5 x6 x7 x8 x9 x10 x11 x12 x13 x14 x15 x16 x17 x18 x19 x20 x21 f0 f1 f2 f3 f4 f5 f6 f7 f8 f9 f10 f11 f12 f13 f14 f15 f16 f17 f18 f19 f20 f21 fL fN fP fM fO H.size i1 (by first | omega | assumption | decide | (have l0 := Int32.toInt_zero; omega)) (by first | omega | assumption | decide | (have l0 := Int32.toInt_zero; omega))) (cwV 1 hts mg_X10_needsOfm_X10_opens_359 rfl rfl rfl (by decide +kernel) ⟨Nat.le_of_ble_eq_true rfl, Nat.le_of_ble_eq_true rfl⟩) ⟨fun a U g mk q => by obtain ⟨q0, q1, qP, qK, qD⟩ := q; exact ⟨q0, q1, qP, va_K.moved (u := U) (U := U.calling g mk a) (Vm.Alike.refl U.vm) qK, qD⟩, va_recv hK hP (ci := 10) (q0 := 0) rfl rfl, fun U hU hW => ⟨rfl, by rw [hU], by rw [hU]; exact hP, va_K.moved hW.alike hK, hD.weaken (fun _ _ _ _ => trivial)⟩⟩ rfl rfl hl.1 rfl (lv_room (Nat.le_of_ble_eq_true rfl)) dX10_needsOf_2 ⟨Nat.le_of_ble_eq_true rfl, Nat.le_of_ble_eq_true rfl⟩) hS (fun q _ h => hFc q h) hFc (fun r_1 u t H1 locs ht hvm hw hB hz1 hk1 hS => ?_)
  subst hw
  obtain ⟨x_2, x_3, x_4, x_5, f_6, f_7, f_8, f_9, f_10, f_11, e_12, hr_1_0, hr_1_1, hr_1_2, hr_1_3, hr_1_4, hr_1_5, hP, hK1, hD1⟩ := hB
  rw [ht] at hP
  have hD := hD1.weaken (fun k q _ h => hFc q.1 h)
  clear hz1 hk1 hFc hD1 hK1 hvm
  generalize H1 = H at hP hS ⊢
  have rg_x_2 := i_rng x_2
  have rg_x_3 := i_rng x_3
  have rg_x_4 := i_rng x_4
  have rg_x_5 := i_rng x_5
  have rg_r_1 := i_rng r_1
  have hP : va_P (dC, dI) vwCl (mW ad kc x0 x1 x2 x3 x4 x5 x6 x7 x8 x9 x10 x11 x_2 x_3 x_4 x_5 x16 x17 x18 x19 x20 x21 f0 f1 f2 f_6 f_7 f_8 f_9 f_10 f_11 f9 f10 f11 f12 f13 f14 f15 f16 f17 f18 f19 f20 f21 fL fN fP fM fO) H := hP
  have hD : va_D A (mW ad kc x0 x1 x2 x3 x4 x5 x6 x7 x8 x9 x10 x11 x_2 x_3 x_4 x_5 x16 x17 x18 x19 x20 x21 f0 f1 f2 f_6 f_7 f_8 f_9 f_10 f_11 f9 f10 f11 f12 f13 f14 f15 f16 f17 f18 f19 f20 f21 fL fN fP fM fO) := hD
  refine lv_istore_n (lv' := [(2, .int r_1), (0, .ref (ad 0)), (1, .int i1)]) hx hb dX10_needsOf_5 rfl hl (by decide) rfl (fun ls hl => ?_)
  refine lv_aload_n hx hb dX10_needsOf_6 rfl (lv_at hl 1 rfl) ?_
  refine lv_iconst (v := 0) hx hb dX10_needsOf_7 (by decide) ?_
  refine va_put (D := (dC, dI)) (ci := 10) (v := .int 0) (ty := .int) (C := RX10) (T := TX10) (N := 48) hx hb hts fin_X10_needsOfm_X10 tyX10 tyX10_ok nmX10 hown hK hP hD hS 0 rfl rfl 27 (by decide) (hts (.fieldLink RX10 274 "PatternGateModel" "sets" "I") (List.mem_of_getElem? (i := 5) (by decide +kernel))) (fun _ h9 => h9) rfl (by decide +kernel) rfl rfl (Nat.le_of_ble_eq_true rfl) dX10_needsOf_8 (fun H locs hP hD hS => ?_)
  have hP : va_P (dC, dI) vwCl (mW ad kc x0 x1 x2 x3 x4 x5 x6 x7 x8 x9 x10 x11 x_2 x_3 x_4 x_5 0 x17 x18 x19 x20 x21 f0 f1 f2 f_6 f_7 f_8 f_9 f_10 f_11 f9 f10 f11 f12 f13 f14 f15 f16 f17 f18 f19 f20 f21 fL fN fP fM fO) H := hP
  have hD : va_D A (mW ad kc x0 x1 x2 x3 x4 x5 x6 x7 x8 x9 x10 x11 x_2 x_3 x_4 x_5 0 x17 x18 x19 x20 x21 f0 f1 f2 f_6 f_7 f_8 f_9 f_10 f_11 f9 f10 f11 f12 f13 f14 f15 f16 f17 f18 f19 f20 f21 fL fN fP fM fO) := hD
  have lit_12 : (0 : Int32).toInt = 0 := by decide
  refine lv_aload_n hx hb dX10_needsOf_11 rfl (lv_at hl 1 rfl) ?_
  refine lv_iconst (v := 0) hx hb dX10_needsOf_12 (by decide) ?_
  refine va_put (D := (dC, dI)) (ci := 10) (v := .int 0) (ty := .int) (C := RX10) (T := TX10) (N := 48) hx hb hts fin_X10_needsOfm_X10 tyX10 tyX10_ok nmX10 hown hK hP hD hS 0 rfl rfl 31 (by decide) (hts (.fieldLink RX10 300 "PatternGateModel" "needTop" "I") (List.mem_of_getElem? (i := 6) (by decide +kernel))) (fun _ h9 => h9) rfl (by decide +kernel) rfl rfl (Nat.le_of_ble_eq_true rfl) dX10_needsOf_13 (fun H locs hP hD hS => ?_)
  have hP : va_P (dC, dI) vwCl (mW ad kc x0 x1 x2 x3 x4 x5 x6 x7 x8 x9 x10 x11 x_2 x_3 x_4 x_5 0 0 x18 x19 x20 x21 f0 f1 f2 f_6 f_7 f_8 f_9 f_10 f_11 f9 f10 f11 f12 f13 f14 f15 f16 f17 f18 f19 f20 f21 fL fN fP fM fO) H := hP
  have hD : va_D A (mW ad kc x0 x1 x2 x3 x4 x5 x6 x7 x8 x9 x10 x11 x_2 x_3 x_4 x_5 0 0 x18 x19 x20 x21 f0 f1 f2 f_6 f_7 f_8 f_9 f_10 f_11 f9 f10 f11 f12 f13 f14 f15 f16 f17 f18 f19 f20 f21 fL fN fP fM fO) := hD
  have lit_13 : (0 : Int32).toInt = 0 := by decide
  refine lv_aload_n hx hb dX10_needsOf_16 rfl (lv_at hl 1 rfl) ?_
  have hFc := m_free hD hS hA
  refine va_calli (va_runV (As := []) (rest := []) ⟨hx, hb, hml, hown, hts⟩ (m_newSet l dC dI ad kc x0 x1 x2 x3 x4 x5 x6 x7 x8 x9 x10 x11 x_2 x_3 x_4 x_5 0 0 x18 x19 x20 x21 f0 f1 f2 f_6 f_7 f_8 f_9 f_10 f_11 f9 f10 f11 f12 f13 f14 f15 f16 f17 f18 f19 f20 f21 fL fN fP fM fO H.size (by first | omega | assumption | decide | (have l0 := Int32.toInt_zero; omega)) (by first | omega | assumption | decide | (have l0 := Int32.toInt_zero; omega))) (cwV 0 hts mg_X10_needsOfm_X10_newSet_334 rfl rfl rfl (by decide +kernel) ⟨Nat.le_of_ble_eq_true rfl, Nat.le_of_ble_eq_true rfl⟩) ⟨fun a U g mk q => by obtain ⟨q0, q1, qP, qK, qD⟩ := q; exact ⟨q0, q1, qP, va_K.moved (u := U) (U := U.calling g mk a) (Vm.Alike.refl U.vm) qK, qD⟩, va_recv hK hP (ci := 10) (q0 := 0) rfl rfl, fun U hU hW => ⟨rfl, by rw [hU], by rw [hU]; exact hP, va_K.moved hW.alike hK, hD.weaken (fun _ _ _ _ => trivial)⟩⟩ rfl rfl hl.1 rfl (lv_room (Nat.le_of_ble_eq_true rfl)) dX10_needsOf_17 ⟨Nat.le_of_ble_eq_true rfl, Nat.le_of_ble_eq_true rfl⟩) hS (fun q _ h => hFc q h) hFc (fun r_15 u t H1 locs ht hvm hw hB hz1 hk1 hS => ?_)
  subst hw
  obtain ⟨x_16, f_17, hr_15_0, hr_15_1, hr_15_2, hP, hK1, hD1⟩ := hB
  rw [ht] at hP
  have hD := hD1.weaken (fun k q _ h => hFc q.1 h)
  clear hz1 hk1 hFc hD1 hK1 hvm
  generalize H1 = H at hP hS ⊢
  have rg_x_16 := i_rng x_16
  have rg_r_15 := i_rng r_15
  have hP : va_P (dC, dI) vwCl (mW ad kc x0 x1 x2 x3 x4 x5 x6 x7 x8 x9 x10 x11 x_2 x_3 x_4 x_5 x_16 0 x18 x19 x20 x21 f0 f1 f2 f_6 f_7 f_8 f_9 f_10 f_11 f_17 f10 f11 f12 f13 f14 f15 f16 f17 f18 f19 f20 f21 fL fN fP fM fO) H := hP
  have hD : va_D A (mW ad kc x0 x1 x2 x3 x4 x5 x6 x7 x8 x9 x10 x11 x_2 x_3 x_4 x_5 x_16 0 x18 x19 x20 x21 f0 f1 f2 f_6 f_7 f_8 f_9 f_10 f_11 f_17 f10 f11 f12 f13 f14 f15 f16 f17 f18 f19 f20 f21 fL fN fP fM fO) := hD
  refine lv_pop hx hb dX10_needsOf_20 rfl ?_
  refine lv_aload_n hx hb dX10_needsOf_21 rfl (lv_at hl 1 rfl) ?_
  have hFc := m_free hD hS hA
  refine va_calli (va_runV (As := []) (rest := []) ⟨hx, hb, hml, hown, hts⟩ (m_newNeed l dC dI ad kc x0 x1 x2 x3 x4 x5 x6 x7 x8 x9 x10 x11 x_2 x_3 x_4 x_5 x_16 0 x18 x19 x20 x21 f0 f1 f2 f_6 f_7 f_8 f_9 f_10 f_11 f_17 f10 f11 f12 f13 f14 f15 f16 f17 f18 f19 f20 f21 fL fN fP fM fO H.size (by first | omega | assumption | decide | (have l0 := Int32.toInt_zero; omega)) (by first | omega | assumption | decide | (have l0 := Int32.toInt_zero; omega))) (cwV 0 hts mg_X10_needsOfm_X10_newNeed_337 rfl rfl rfl (by decide +kernel) ⟨Nat.le_of_ble_eq_true rfl, Nat.le_of_ble_eq_true rfl⟩) ⟨fun a U g mk q => by obtain ⟨q0, q1, qP, qK, qD⟩ := q; exact ⟨q0, q1, qP, va_K.moved (u := U) (U := U.calling g mk a) (Vm.Alike.refl U.vm) qK, qD⟩, va_recv hK hP (ci := 10) (q0 := 0) rfl rfl, fun U hU hW => ⟨rfl, by rw [hU], by rw [hU]; exact hP, va_K.moved hW.alike hK, hD.weaken (fun _ _ _ _ => trivial)⟩⟩ rfl rfl hl.1 rfl (lv_room (Nat.le_of_ble_eq_true rfl)) dX10_needsOf_22 ⟨Nat.le_of_ble_eq_true rfl, Nat.le_of_ble_eq_true rfl⟩) hS (fun q _ h => hFc q h) hFc (fun r_18 u t H1 locs ht hvm hw hB hz1 hk1 hS => ?_)
  subst hw
  obtain ⟨x_19, f_20, Nn_21, M_22, O_23, hr_18_0, hr_18_1, hr_18_2, hr_18_3, hr_18_4, hP, hK1, hD1⟩ := hB
  rw [ht] at hP
  have hD := hD1.weaken (fun k q _ h => hFc q.1 h)
  clear hz1 hk1 hFc hD1 hK1 hvm
  generalize H1 = H at hP hS ⊢
  have rg_x_19 := i_rng x_19
  have rg_r_18 := i_rng r_18
  have hP : va_P (dC, dI) vwCl (mW ad kc x0 x1 x2 x3 x4 x5 x6 x7 x8 x9 x10 x11 x_2 x_3 x_4 x_5 x_16 x_19 x18 x19 x20 x21 f0 f1 f2 f_6 f_7 f_8 f_9 f_10 f_11 f_17 f_20 f11 f12 f13 f14 f15 f16 f17 f18 f19 f20 f21 fL Nn_21 fP M_22 O_23) H := hP
  have hD : va_D A (mW ad kc x0 x1 x2 x3 x4 x5 x6 x7 x8 x9 x10 x11 x_2 x_3 x_4 x_5 x_16 x_19 x18 x19 x20 x21 f0 f1 f2 f_6 f_7 f_8 f_9 f_10 f_11 f_17 f_20 f11 f12 f13 f14 f15 f16 f17 f18 f19 f20 f21 fL Nn_21 fP M_22 O_23) := hD
  refine lv_pop hx hb dX10_needsOf_25 rfl ?_
  refine lv_aload_n hx hb dX10_needsOf_26 rfl (lv_at hl 1 rfl) ?_
  refine lv_aload_n hx hb dX10_needsOf_27 rfl (lv_at hl 1 rfl) ?_
  refine lv_iload_n hx hb dX10_needsOf_28 rfl (lv_at hl 0 rfl) ?_
  refine lv_iconst (v := 0) hx hb dX10_needsOf_29 (by decide) ?_
  refine lv_iconst (v := 0) hx hb dX10_needsOf_30 (by decide) ?_
  have lit_23 : (0 : Int32).toInt = 0 := by decide
  have lit_24 : (0 : Int32).toInt = 0 := by decide
  have hFc := m_free hD hS hA
  refine va_calli (va_runV (As := [.int r_1, .int 0, .int 0]) (rest := [.ref (ad 0)]) ⟨hx, hb, hml, hown, hts⟩ ((m_wP l dC dI 5) ad kc x0 x1 x2 x3 x4 x5 x6 x7 x8 x9 x10 x11 x_2 x_3 x_4 x_5 x_16 x_19 x18 x19 x20 x21 f0 f1 f2 f_6 f_7 f_8 f_9 f_10 f_11 f_17 f_20 f11 f12 f13 f14 f15 f16 f17 f18 f19 f20 f21 fL Nn_21 fP M_22 O_23 H.size r_1 0 0 x_2.toInt e_12 (by first | omega | assumption | decide | (have l0 := Int32.toInt_zero; omega)) (by first | omega | assumption | decide | (have l0 := Int32.toInt_zero; omega)) (by first | omega | assumption | decide | (have l0 := Int32.toInt_zero; omega)) (by first | omega | assumption | decide | (have l0 := Int32.toInt_zero; omega)) (by first | omega | assumption | decide | (have l0 := Int32.toInt_zero; omega)) (by first | omega | assumption | decide | (have l0 := Int32.toInt_zero; omega)) (by rw [show r_1.toInt = 0 by omega]; exact hr_1_2) (by first | omega | assumption | decide | (have l0 := Int32.toInt_zero; omega)) (by first | omega | assumption | decide | (have l0 := Int32.toInt_zero; omega))) (cwV 3 hts mg_X10_needsOfm_X10_worksOut_331 rfl rfl rfl (by decide +kernel) ⟨(show (6 * 5 + 9) + 1 ≤ 41 by omega), (show 8 + (4 + 11) + 60 * (6 * 5 + 9) ≤ 2460 by omega)⟩) ⟨fun a U g mk q => by obtain ⟨q0, q1, qP, qK, qD⟩ := q; exact ⟨q0, q1, qP, va_K.moved (u := U) (U := U.calling g mk a) (Vm.Alike.refl U.vm) qK, qD⟩, va_recv hK hP (ci := 10) (q0 := 0) rfl rfl, fun U hU hW => ⟨rfl, by rw [hU], by rw [hU]; exact hP, va_K.moved hW.alike hK, hD.weaken (fun _ _ _ _ => trivial)⟩⟩ rfl rfl hl.1 rfl (lv_room (Nat.le_of_ble_eq_true rfl)) dX10_needsOf_31 ⟨Nat.le_of_ble_eq_true rfl, Nat.le_of_ble_eq_true rfl⟩) hS (fun q _ h => hFc q h) hFc (fun r_26 u t H1 locs ht hvm hw hB hz1 hk1 hS => ?_)
  subst hw
  obtain ⟨x_27, x_28, x_29, f_30, f_31, f_32, L_33, Nn_34, M_35, O_36, hr_26_0, hr_26_1, hr_26_2, hr_26_3, hr_26_4, hr_26_5, hP, hK1, hD1⟩ := hB
  rw [ht] at hP
  have hD := hD1.weaken (fun k q _ h => hFc q.1 h)
  clear hz1 hk1 hFc hD1 hK1 hvm
  generalize H1 = H at hP hS ⊢
  have rg_x_27 := i_rng x_27
  have rg_x_28 := i_rng x_28
  have rg_x_29 := i_rng x_29
  have rg_r_26 := i_rng r_26
  have hP : va_P (dC, dI) vwCl (mW ad kc x0 x1 x2 x3 x4 x5 x6 x7 x8 x9 x10 x11 x_2 x_3 x_4 x_5 x_27 x_28 x_29 x19 x20 x21 f0 f1 f2 f_6 f_7 f_8 f_9 f_10 f_11 f_30 f_31 f_32 f12 f13 f14 f15 f16 f17 f18 f19 f20 f21 L_33 Nn_34 fP M_35 O_36) H := hP
  have hD : va_D A (mW ad kc x0 x1 x2 x3 x4 x5 x6 x7 x8 x9 x10 x11 x_2 x_3 x_4 x_5 x_27 x_28 x_29 x19 x20 x21 f0 f1 f2 f_6 f_7 f_8 f_9 f_10 f_11 f_30 f_31 f_32 f12 f13 f14 f15 f16 f17 f18 f19 f20 f21 L_33 Nn_34 fP M_35 O_36) := hD
  have obr_26 : r_26 = 0 ∨ r_26 = 1 := z_of hr_26_0
  have hN0 : nOK (rO Nn_34 M_35 O_36) fP f_31 0 24 := nOK.mono (b := e_12) hr_26_4 (by omega)
  have hS0 : r_26.toInt = 1 → sOK L_33 f_30 0 6 24 := fun h9 => sOK.mono (c := 6) (b := e_12) (hr_26_5 h9) (by omega) (by omega)
  refine va_put (D := (dC, dI)) (ci := 10) (v := .int r_26) (ty := .boolean) (C := RX10) (T := TX10) (N := 48) hx hb hts fin_X10_needsOfm_X10 tyX10 tyX10_ok nmX10 hown hK hP hD hS 0 rfl rfl 34 (by decide) (hts (.fieldLink RX10 362 "PatternGateModel" "isExact" "Z") (List.mem_of_getElem? (i := 16) (by decide +kernel))) (fun _ h9 => h9) rfl (by decide +kernel) (z_nar (by first | assumption | decide)) (z_fit (by first | assumption | decide)) (Nat.le_of_ble_eq_true rfl) dX10_needsOf_34 (fun H locs hP hD hS => ?_)
  have hP : va_P (dC, dI) vwCl (mW ad kc x0 x1 x2 x3 x4 x5 x6 x7 x8 x9 x10 x11 x_2 x_3 x_4 x_5 x_27 x_28 x_29 r_26 x20 x21 f0 f1 f2 f_6 f_7 f_8 f_9 f_10 f_11 f_30 f_31 f_32 f12 f13 f14 f15 f16 f17 f18 f19 f20 f21 L_33 Nn_34 fP M_35 O_36) H := hP
  have hD : va_D A (mW ad kc x0 x1 x2 x3 x4 x5 x6 x7 x8 x9 x10 x11 x_2 x_3 x_4 x_5 x_27 x_28 x_29 r_26 x20 x21 f0 f1 f2 f_6 f_7 f_8 f_9 f_10 f_11 f_30 f_31 f_32 f12 f13 f14 f15 f16 f17 f18 f19 f20 f21 L_33 Nn_34 fP M_35 O_36) := hD
  refine lv_iconst (v := 1) hx hb dX10_needsOf_37 (by decide) ?_
  refine lv_istore_n (lv' := [(3, .int 1), (2, .int r_1), (0, .ref (ad 0)), (1, .int i1)]) hx hb dX10_needsOf_38 rfl hl (by decide) rfl (fun ls hl => ?_)
  have loop39 : ∀ (lm39 : Nat) (k1 : Int32) (pp : Nat → Nat → Nat), (1 ≤ k1.toInt) → (PI pp) → (nOK (rO Nn_34 M_35 O_36) pp f_31 0 24) → ((12 - k1.toInt).toNat) < lm39 → ∀ (H : Heap) (locs : List Loc) (ls : Array Slot), va_P (dC, dI) vwCl (mW ad kc x0 x1 x2 x3 x4 x5 x6 x7 x8 x9 x10 x11 x_2 x_3 x_4 x_5 x_27 x_28 x_29 r_26 x20 x21 f0 f1 f2 f_6 f_7 f_8 f_9 f_10 f_11 f_30 f_31 f_32 f12 f13 f14 f15 f16 f17 f18 f19 f20 f21 L_33 Nn_34 pp M_35 O_36) H → va_D A (mW ad kc x0 x1 x2 x3 x4 x5 x6 x7 x8 x9 x10 x11 x_2 x_3 x_4 x_5 x_27 x_28 x_29 r_26 x20 x21 f0 f1 f2 f_6 f_7 f_8 f_9 f_10 f_11 f_30 f_31 f_32 f12 f13 f14 f15 f16 f17 f18 f19 f20 f21 L_33 Nn_34 pp M_35 O_36) → va_S A s.heap H locs → lv_has ls 7 [(3, .int k1), (2, .int r_1), (0, .ref (ad 0)), (1, .int i1)] → W p l e (headSpec mwX10_needsOfm ({ frames := 41, cells := 0, slots := 0, locals := 2460 })).room s m ([.ref (ad 0), .int i1]).toArray below meth c H locs 0 0 (MQ below (va_Qv (fun (_ : Unit) => True) (fun _ t => ∃ (y12 y13 y14 y15 y16 y17 y18 y19 : Int32) (g3 g4 g5 g6 g7 g8 g9 g10 g11 : Nat → Int32) (L9 : Nat → Nat → Int64) (Nn9 : Nat → Nat → Int32) (P9 : Nat → Nat → Nat) (M9 : Nat → Nat → Int32) (O9 : Nat → Nat → Int32), (PI P9) ∧ (nOK (rO Nn9 M9 O9) P9 g10 0 24) ∧ (y19.toInt = 0 ∨ y19.toInt = 1) ∧ (y19.toInt = 1 → sOK L9 g9 0 6 24) ∧ (∀ a, IR a → 1300 ≤ a → (rO Nn9 M9 O9) a = (rO fN fM fO) a) ∧ va_P (dC, dI) vwCl (mW ad kc x0 x1 x2 x3 x4 x5 x6 x7 x8 x9 x10 x11 y12 y13 y14 y15 y16 y17 y18 y19 x20 x21 f0 f1 f2 g3 g4 g5 g6 g7 g8 g9 g10 g11 f12 f13 f14 f15 f16 f17 f18 f19 f20 f21 L9 Nn9 P9 M9 O9) t.heap ∧ va_K (dC, dI) vwCl (mT kc) t ∧ va_D A (mW ad kc x0 x1 x2 x3 x4 x5 x6 x7 x8 x9 x10 x11 y12 y13 y14 y15 y16 y17 y18 y19 x20 x21 f0 f1 f2 g3 g4 g5 g6 g7 g8 g9 g10 g11 f12 f13 f14 f15 f16 f17 f18 f19 f20 f21 L9 Nn9 P9 M9 O9)) A) ([.ref (ad 0), .int i1]).toArray s 0 0 A) (F0 m 39 ls []) := by
    intro lm39
    induction lm39 with
    | zero => intro k1 pp v39_0 v39_1 v39_2 hm39; exact absurd hm39 (Nat.not_lt_zero _)
    | succ lm39 ih39 =>
      intro k1 pp v39_0 v39_1 v39_2 hm39 H locs ls hP hD hS hl
      have rg_k1 := i_rng k1
      refine lv_iload_n hx hb dX10_needsOf_39 rfl (lv_at hl 0 rfl) ?_
      refine lv_aload_n hx hb dX10_needsOf_40 rfl (lv_at hl 2 rfl) ?_
      refine va_get (D := (dC, dI)) (ci := 10) (v := .ref (ad 11)) (C := RX10) (T := TX10) (N := 48) hx hb hts fin_X10_needsOfm_X10 hown hK hP 0 rfl rfl 30 (by decide) (hts (.fieldLink RX10 64 "PatternGateModel" "needMany" "[I") (List.mem_of_getElem? (i := 17) (by decide +kernel))) (fun _ h9 => h9) rfl dX10_needsOf_41 ?_
      refine lv_iconst (v := 0) hx hb dX10_needsOf_44 (by decide) ?_
      refine va_iald hx hb hK hP 11 10 rfl rfl (i := 0) (by unfold vp_in; decide +kernel) dX10_needsOf_45 ?_
      refine lv_topi (fun y_37 ey_37 => ?_)
      have rg_y_37 := i_rng y_37
      have vy_37 := vI_lda (f := f_31) (i := 0) (a := 0) ey_37 (by first | omega | decide)
      have rg_y_37 := i_rng y_37
      have hnb := v39_2.2.1
      refine lv_icmp_ge (tgt := 101) hx hb dX10_needsOf_46 (by decide) (fun k_38 => ?_) (fun k_38 => ?_)
      · have tk_38 := c_ge (a := k1.toInt) (b := y_37.toInt) rfl rfl k_38
        refine lv_iconst (v := 1) hx hb dX10_needsOf_101 (by decide) ?_
        refine lv_istore_n (lv' := [(3, .int 1), (2, .int r_1), (0, .ref (ad 0)), (1, .int i1)]) hx hb dX10_needsOf_102 rfl hl (by decide) rfl (fun ls hl => ?_)
        have loop103 : ∀ (lm103 : Nat) (k3 : Int32) (la : Nat → Nat → Int64), (1 ≤ k3.toInt) → (r_26.toInt = 1 → sOK la f_30 0 6 24) → ((6 - k3.toInt).toNat) < lm103 → ∀ (H : Heap) (locs : List Loc) (ls : Array Slot), va_P (dC, dI) vwCl (mW ad kc x0 x1 x2 x3 x4 x5 x6 x7 x8 x9 x10 x11 x_2 x_3 x_4 x_5 x_27 x_28 x_29 r_26 x20 x21 f0 f1 f2 f_6 f_7 f_8 f_9 f_10 f_11 f_30 f_31 f_32 f12 f13 f14 f15 f16 f17 f18 f19 f20 f21 la Nn_34 pp M_35 O_36) H → va_D A (mW ad kc x0 x1 x2 x3 x4 x5 x6 x7 x8 x9 x10 x11 x_2 x_3 x_4 x_5 x_27 x_28 x_29 r_26 x20 x21 f0 f1 f2 f_6 f_7 f_8 f_9 f_10 f_11 f_30 f_31 f_32 f12 f13 f14 f15 f16 f17 f18 f19 f20 f21 la Nn_34 pp M_35 O_36) → va_S A s.heap H locs → lv_has ls 7 [(3, .int k3), (2, .int r_1), (0, .ref (ad 0)), (1, .int i1)] → W p l e (headSpec mwX10_needsOfm ({ frames := 41, cells := 0, slots := 0, locals := 2460 })).room s m ([.ref (ad 0), .int i1]).toArray below meth c H locs 0 0 (MQ below (va_Qv (fun (_ : Unit) => True) (fun _ t => ∃ (y12 y13 y14 y15 y16 y17 y18 y19 : Int32) (g3 g4 g5 g6 g7 g8 g9 g10 g11 : Nat → Int32) (L9 : Nat → Nat → Int64) (Nn9 : Nat → Nat → Int32) (P9 : Nat → Nat → Nat) (M9 : Nat → Nat → Int32) (O9 : Nat → Nat → Int32), (PI P9) ∧ (nOK (rO Nn9 M9 O9) P9 g10 0 24) ∧ (y19.toInt = 0 ∨ y19.toInt = 1) ∧ (y19.toInt = 1 → sOK L9 g9 0 6 24) ∧ (∀ a, IR a → 1300 ≤ a → (rO Nn9 M9 O9) a = (rO fN fM fO) a) ∧ va_P (dC, dI) vwCl (mW ad kc x0 x1 x2 x3 x4 x5 x6 x7 x8 x9 x10 x11 y12 y13 y14 y15 y16 y17 y18 y19 x20 x21 f0 f1 f2 g3 g4 g5 g6 g7 g8 g9 g10 g11 f12 f13 f14 f15 f16 f17 f18 f19 f20 f21 L9 Nn9 P9 M9 O9) t.heap ∧ va_K (dC, dI) vwCl (mT kc) t ∧ va_D A (mW ad kc x0 x1 x2 x3 x4 x5 x6 x7 x8 x9 x10 x11 y12 y13 y14 y15 y16 y17 y18 y19 x20 x21 f0 f1 f2 g3 g4 g5 g6 g7 g8 g9 g10 g11 f12 f13 f14 f15 f16 f17 f18 f19 f20 f21 L9 Nn9 P9 M9 O9)) A) ([.ref (ad 0), .int i1]).toArray s 0 0 A) (F0 m 103 ls []) := by
          intro lm103
          induction lm103 with
          | zero => intro k3 la v103_0 v103_1 hm103; exact absurd hm103 (Nat.not_lt_zero _)
          | succ lm103 ih103 =>
            intro k3 la v103_0 v103_1 hm103 H locs ls hP hD hS hl
            have rg_k3 := i_rng k3
            refine lv_iload_n hx hb dX10_needsOf_103 rfl (lv_at hl 0 rfl) ?_
            refine lv_aload_n hx hb dX10_needsOf_104 rfl (lv_at hl 2 rfl) ?_
            refine va_get (D := (dC, dI)) (ci := 10) (v := .ref (ad 10)) (C := RX10) (T := TX10) (N := 48) hx hb hts fin_X10_needsOfm_X10 hown hK hP 0 rfl rfl 26 (by decide) (hts (.fieldLink RX10 51 "PatternGateModel" "rowMany" "[I") (List.mem_of_getElem? (i := 18) (by decide +kernel))) (fun _ h9 => h9) rfl dX10_needsOf_105 ?_
            refine lv_iconst (v := 0) hx hb dX10_needsOf_108 (by decide) ?_
            refine va_iald hx hb hK hP 10 9 rfl rfl (i := 0) (by unfold vp_in; decide +kernel) dX10_needsOf_109 ?_
            refine lv_topi (fun y_39 ey_39 => ?_)
            have rg_y_39 := i_rng y_39
            have vy_39 := vI_lda (f := f_30) (i := 0) (a := 0) ey_39 (by first | omega | decide)
            have rg_y_39 := i_rng y_39
            refine lv_icmp_ge (tgt := 210) hx hb dX10_needsOf_110 (by decide) (fun k_40 => ?_) (fun k_40 => ?_)
            · have tk_40 := c_ge (a := k3.toInt) (b := y_39.toInt) rfl rfl k_40
              exact W.vret hx hb hr (fun t ht hW => ⟨⟨(), rfl, trivial, x_2, x_3, x_4, x_5, x_27, x_28, x_29, r_26, f_6, f_7, f_8, f_9, f_10, f_11, f_30, f_31, f_32, la, Nn_34, pp, M_35, O_36, v39_1, v39_2, (z_to obr_26), v103_1, (fun a h1 h2 => (hr_26_3.2.2 a h1 (Or.inr h2)).trans (hr_18_3 a h1 (Or.inr h2) (by unfold IR at h1; omega))), by rw [ht]; exact hP, va_K.moved hW.alike hK, hD⟩, hS.F ht⟩) hS.2.2 dX10_needsOf_210
            · have tk_40 := c_nge (a := k3.toInt) (b := y_39.toInt) rfl rfl k_40
              refine lv_aload_n hx hb dX10_needsOf_113 rfl (lv_at hl 2 rfl) ?_
              refine va_get (D := (dC, dI)) (ci := 10) (v := .int r_26) (C := RX10) (T := TX10) (N := 48) hx hb hts fin_X10_needsOfm_X10 hown hK hP 0 rfl rfl 34 (by decide) (hts (.fieldLink RX10 362 "PatternGateModel" "isExact" "Z") (List.mem_of_getElem? (i := 16) (by decide +kernel))) (fun _ h9 => h9) rfl dX10_needsOf_114 ?_
              refine lv_if_eq (tgt := 210) hx hb dX10_needsOf_117 (by decide) (fun k_41 => ?_) (fun k_41 => ?_)
              · have tk_41 := c_eq (a := r_26.toInt) (b := 0) rfl (by decide) k_41
                exact W.vret hx hb hr (fun t ht hW => ⟨⟨(), rfl, trivial, x_2, x_3, x_4, x_5, x_27, x_28, x_29, r_26, f_6, f_7, f_8, f_9, f_10, f_11, f_30, f_31, f_32, la, Nn_34, pp, M_35, O_36, v39_1, v39_2, (z_to obr_26), v103_1, (fun a h1 h2 => (hr_26_3.2.2 a h1 (Or.inr h2)).trans (hr_18_3 a h1 (Or.inr h2) (by unfold IR at h1; omega))), by rw [ht]; exact hP, va_K.moved hW.alike hK, hD⟩, hS.F ht⟩) hS.2.2 dX10_needsOf_210
              · have tk_41 := c_ne (a := r_26.toInt) (b := 0) rfl (by decide) k_41
                have hS1 := v103_1 (by omega)
                have hS2 := hS1.2.1
                refine lv_iload_n hx hb dX10_needsOf_120 rfl (lv_at hl 0 rfl) ?_
                refine lv_istore (lv' := [(4, .int k3), (3, .int k3), (2, .int r_1), (0, .ref (ad 0)), (1, .int i1)]) hx hb dX10_needsOf_121 hl (by decide) rfl (fun ls hl => ?_)
                have loop123 : ∀ (lm123 : Nat) (jk : Int32) (lb : Nat → Nat → Int64), (0 ≤ jk.toInt ∧ jk.toInt ≤ k3.toInt) → (sOK lb f_30 0 6 24) → jk.toInt.toNat < lm123 → ∀ (H : Heap) (locs : List Loc) (ls : Array Slot), va_P (dC, dI) vwCl (mW ad kc x0 x1 x2 x3 x4 x5 x6 x7 x8 x9 x10 x11 x_2 x_3 x_4 x_5 x_27 x_28 x_29 r_26 x20 x21 f0 f1 f2 f_6 f_7 f_8 f_9 f_10 f_11 f_30 f_31 f_32 f12 f13 f14 f15 f16 f17 f18 f19 f20 f21 lb Nn_34 pp M_35 O_36) H → va_D A (mW ad kc x0 x1 x2 x3 x4 x5 x6 x7 x8 x9 x10 x11 x_2 x_3 x_4 x_5 x_27 x_28 x_29 r_26 x20 x21 f0 f1 f2 f_6 f_7 f_8 f_9 f_10 f_11 f_30 f_31 f_32 f12 f13 f14 f15 f16 f17 f18 f19 f20 f21 lb Nn_34 pp M_35 O_36) → va_S A s.heap H locs → lv_has ls 7 [(4, .int jk), (3, .int k3), (2, .int r_1), (0, .ref (ad 0)), (1, .int i1)] → W p l e (headSpec mwX10_needsOfm ({ frames := 41, cells := 0, slots := 0, locals := 2460 })).room s m ([.ref (ad 0), .int i1]).toArray below meth c H locs 0 0 (MQ below (va_Qv (fun (_ : Unit) => True) (fun _ t => ∃ (y12 y13 y14 y15 y16 y17 y18 y19 : Int32) (g3 g4 g5 g6 g7 g8 g9 g10 g11 : Nat → Int32) (L9 : Nat → Nat → Int64) (Nn9 : Nat → Nat → Int32) (P9 : Nat → Nat → Nat) (M9 : Nat → Nat → Int32) (O9 : Nat → Nat → Int32), (PI P9) ∧ (nOK (rO Nn9 M9 O9) P9 g10 0 24) ∧ (y19.toInt = 0 ∨ y19.toInt = 1) ∧ (y19.toInt = 1 → sOK L9 g9 0 6 24) ∧ (∀ a, IR a → 1300 ≤ a → (rO Nn9 M9 O9) a = (rO fN fM fO) a) ∧ va_P (dC, dI) vwCl (mW ad kc x0 x1 x2 x3 x4 x5 x6 x7 x8 x9 x10 x11 y12 y13 y14 y15 y16 y17 y18 y19 x20 x21 f0 f1 f2 g3 g4 g5 g6 g7 g8 g9 g10 g11 f12 f13 f14 f15 f16 f17 f18 f19 f20 f21 L9 Nn9 P9 M9 O9) t.heap ∧ va_K (dC, dI) vwCl (mT kc) t ∧ va_D A (mW ad kc x0 x1 x2 x3 x4 x5 x6 x7 x8 x9 x10 x11 y12 y13 y14 y15 y16 y17 y18 y19 x20 x21 f0 f1 f2 g3 g4 g5 g6 g7 g8 g9 g10 g11 f12 f13 f14 f15 f16 f17 f18 f19 f20 f21 L9 Nn9 P9 M9 O9)) A) ([.ref (ad 0), .int i1]).toArray s 0 0 A) (F0 m 123 ls []) := by
                  intro lm123
                  induction lm123 with
                  | zero => intro jk lb v123_0 v123_1 hm123; exact absurd hm123 (Nat.not_lt_zero _)
                  | succ lm123 ih123 =>
                    intro jk lb v123_0 v123_1 hm123 H locs ls hP hD hS hl
                    have rg_jk := i_rng jk
                    refine lv_iload hx hb dX10_needsOf_123 (lv_at hl 0 rfl) ?_
                    refine lv_if_le (tgt := 204) hx hb dX10_needsOf_125 (by decide) (fun k_42 => ?_) (fun k_42 => ?_)
                    · have tk_42 := c_le (a := jk.toInt) (b := 0) rfl (by decide) k_42
                      obtain ⟨y_43, ey_43⟩ : ∃ y : Int32, y = k3 + 1 := ⟨_, rfl⟩
                      first | have ty_43 := i_add (a := k3.toInt) (b := 1) rfl (by decide) ey_43 (by omega) (by omega) | skip
                      refine lv_iinc (v := y_43) (lv' := [(3, .int y_43), (4, .int jk), (2, .int r_1), (0, .ref (ad 0)), (1, .int i1)]) hx hb dX10_needsOf_204 hl (k := 1) rfl (by rw [ey_43]; rfl) (by decide) rfl (fun ls hl => ?_)
                      refine lv_goto (tgt := 103) hx hb dX10_needsOf_207 (by decide) ?_
                      exact ih103 y_43 lb (by first | omega | assumption | decide) (fun _ => v123_1) (by omega) _ _ ls hP hD hS (lv_sub hl [0, 2, 3, 4] rfl)
                    · have tk_42 := c_nle (a := jk.toInt) (b := 0) rfl (by decide) k_42
                      refine lv_aload_n hx hb dX10_needsOf_128 rfl (lv_at hl 3 rfl) ?_
                      refine va_get (D := (dC, dI)) (ci := 10) (v := .ref (ad 23)) (C := RX10) (T := TX10) (N := 48) hx hb hts fin_X10_needsOfm_X10 hown hK hP 0 rfl rfl 25 (by decide) (hts (.fieldLink RX10 48 "PatternGateModel" "rows" "[[J") (List.mem_of_getElem? (i := 19) (by decide +kernel))) (fun _ h9 => h9) rfl dX10_needsOf_129 ?_
                      refine lv_iconst (v := 0) hx hb dX10_needsOf_132 (by decide) ?_
                      refine m_aak hx hb hK hP 23 22 (k := 0) (b := ad (100 + 0)) rfl rfl rfl (i := 0) (by decide) (by omega) rfl dX10_needsOf_133 ?_
                      refine lv_iload hx hb dX10_needsOf_134 (lv_at hl 0 rfl) ?_
                      refine va_lald hx hb hK hP (27 + 0) 26 (mW_L (by omega)) rfl (i := jk) (vp_of (a := jk.toInt) rfl (by omega) (by omega)) dX10_needsOf_136 ?_
                      refine lv_topl (fun w_44 ew_44 => ?_)
                      obtain ⟨n1, hn1a, hn1b, hn1c⟩ := v123_1.2.2 jk.toInt.toNat (by omega)
                      have hn1w : rLen w_44 n1 := by rw [ew_44]; exact hn1c
                      refine lv_aload_n hx hb dX10_needsOf_137 rfl (lv_at hl 3 rfl) ?_
                      refine va_get (D := (dC, dI)) (ci := 10) (v := .ref (ad 23)) (C := RX10) (T := TX10) (N := 48) hx hb hts fin_X10_needsOfm_X10 hown hK hP 0 rfl rfl 25 (by decide) (hts (.fieldLink RX10 48 "PatternGateModel" "rows" "[[J") (List.mem_of_getElem? (i := 19) (by decide +kernel))) (fun _ h9 => h9) rfl dX10_needsOf_138 ?_
                      refine lv_iconst (v := 0) hx hb dX10_needsOf_141 (by decide) ?_
                      refine m_aak hx hb hK hP 23 22 (k := 0) (b := ad (100 + 0)) rfl rfl rfl (i := 0) (by decide) (by omega) rfl dX10_needsOf_142 ?_
                      refine lv_iload hx hb dX10_needsOf_143 (lv_at hl 0 rfl) ?_
                      refine lv_iconst (v := 1) hx hb dX10_needsOf_145 (by decide) ?_
                      refine lv_isub hx hb dX10_needsOf_146 ?_
                      refine lv_topi (fun y_45 ey_45 => ?_)
                      first | have ty_45 := i_sub (a := jk.toInt) (b := 1) rfl (by decide) ey_45 (by omega) (by omega) | skip
                      refine va_lald hx hb hK hP (27 + 0) 26 (mW_L (by omega)) rfl (i := y_45) (vp_of (a := y_45.toInt) rfl (by omega) (by omega)) dX10_needsOf_147 ?_
                      refine lv_topl (fun w_46 ew_46 => ?_)
                      obtain ⟨n2, hn2a, hn2b, hn2c⟩ := v123_1.2.2 y_45.toInt.toNat (by omega)
                      have hn2w : rLen w_46 n2 := by rw [ew_46]; exact hn2c
                      have hFc := m_free hD hS hA
                      refine va_calli (va_runS (As := [.long w_44, .long w_46]) (rest := []) ⟨hx, hb, hml, hown, hts⟩ (m_isAheadL l dC dI ad kc x0 x1 x2 x3 x4 x5 x6 x7 x8 x9 x10 x11 x_2 x_3 x_4 x_5 x_27 x_28 x_29 r_26 x20 x21 f0 f1 f2 f_6 f_7 f_8 f_9 f_10 f_11 f_30 f_31 f_32 f12 f13 f14 f15 f16 f17 f18 f19 f20 f21 lb Nn_34 pp M_35 O_36 H.size w_44 w_46 n1 n2 (by first | omega | assumption | decide | (have l0 := Int32.toInt_zero; omega)) (by first | omega | assumption | decide | (have l0 := Int32.toInt_zero; omega)) (by first | omega | assumption | decide | (have l0 := Int32.toInt_zero; omega)) (by first | omega | assumption | decide | (have l0 := Int32.toInt_zero; omega))) (va_cwS 2 hts mg_X10_needsOfm_X10_isAhead__372 rfl rfl rfl (by decide +kernel) ⟨Nat.le_of_ble_eq_true rfl, Nat.le_of_ble_eq_true rfl⟩) ⟨fun a U g mk q => by obtain ⟨q0, q1, qP, qK, qD⟩ := q; exact ⟨q0, q1, qP, va_K.moved (u := U) (U := U.calling g mk a) (Vm.Alike.refl U.vm) qK, qD⟩, fun U hU hW => ⟨rfl, by rw [hU], by rw [hU]; exact hP, va_K.moved hW.alike hK, hD.weaken (fun _ _ _ _ => trivial)⟩⟩ rfl rfl hl.1 rfl (lv_room (Nat.le_of_ble_eq_true rfl)) dX10_needsOf_148 ⟨Nat.le_of_ble_eq_true rfl, Nat.le_of_ble_eq_true rfl⟩) hS (fun q _ h => hFc q h) hFc (fun r_47 u t H1 locs ht hvm hw hB hz1 hk1 hS => ?_)
                      subst hw
                      obtain ⟨hr_47_0, hP, hK1, hD1⟩ := hB
                      rw [ht] at hP
                      have hD := hD1.weaken (fun k q _ h => hFc q.1 h)
                      clear hz1 hk1 hFc hD1 hK1 hvm
                      generalize H1 = H at hP hS ⊢
                      have rg_r_47 := i_rng r_47
                      have hP : va_P (dC, dI) vwCl (mW ad kc x0 x1 x2 x3 x4 x5 x6 x7 x8 x9 x10 x11 x_2 x_3 x_4 x_5 x_27 x_28 x_29 r_26 x20 x21 f0 f1 f2 f_6 f_7 f_8 f_9 f_10 f_11 f_30 f_31 f_32 f12 f13 f14 f15 f16 f17 f18 f19 f20 f21 lb Nn_34 pp M_35 O_36) H := hP
                      have hD : va_D A (mW ad kc x0 x1 x2 x3 x4 x5 x6 x7 x8 x9 x10 x11 x_2 x_3 x_4 x_5 x_27 x_28 x_29 r_26 x20 x21 f0 f1 f2 f_6 f_7 f_8 f_9 f_10 f_11 f_30 f_31 f_32 f12 f13 f14 f15 f16 f17 f18 f19 f20 f21 lb Nn_34 pp M_35 O_36) := hD
                      refine lv_if_eq (tgt := 204) hx hb dX10_needsOf_151 (by decide) (fun k_48 => ?_) (fun k_48 => ?_)
                      · have tk_48 := c_eq (a := r_47.toInt) (b := 0) rfl (by decide) k_48
                        obtain ⟨y_49, ey_49⟩ : ∃ y : Int32, y = k3 + 1 := ⟨_, rfl⟩
                        first | have ty_49 := i_add (a := k3.toInt) (b := 1) rfl (by decide) ey_49 (by omega) (by omega) | skip
                        refine lv_iinc (v := y_49) (lv' := [(3, .int y_49), (4, .int jk), (2, .int r_1), (0, .ref (ad 0)), (1, .int i1)]) hx hb dX10_needsOf_204 hl (k := 1) rfl (by rw [ey_49]; rfl) (by decide) rfl (fun ls hl => ?_)
                        refine lv_goto (tgt := 103) hx hb dX10_needsOf_207 (by decide) ?_
                        exact ih103 y_49 lb (by first | omega | assumption | decide) (fun _ => v123_1) (by omega) _ _ ls hP hD hS (lv_sub hl [0, 2, 3, 4] rfl)
                      · have tk_48 := c_ne (a := r_47.toInt) (b := 0) rfl (by decide) k_48
                        refine lv_aload_n hx hb dX10_needsOf_154 rfl (lv_at hl 3 rfl) ?_
                        refine va_get (D := (dC, dI)) (ci := 10) (v := .ref (ad 23)) (C := RX10) (T := TX10) (N := 48) hx hb hts fin_X10_needsOfm_X10 hown hK hP 0 rfl rfl 25 (by decide) (hts (.fieldLink RX10 48 "PatternGateModel" "rows" "[[J") (List.mem_of_getElem? (i := 19) (by decide +kernel))) (fun _ h9 => h9) rfl dX10_needsOf_155 ?_
                        refine lv_iconst (v := 0) hx hb dX10_needsOf_158 (by decide) ?_
                        refine m_aak hx hb hK hP 23 22 (k := 0) (b := ad (100 + 0)) rfl rfl rfl (i := 0) (by decide) (by omega) rfl dX10_needsOf_159 ?_
                        refine lv_iload hx hb dX10_needsOf_160 (lv_at hl 0 rfl) ?_
                        refine va_lald hx hb hK hP (27 + 0) 26 (mW_L (by omega)) rfl (i := jk) (vp_of (a := jk.toInt) rfl (by omega) (by omega)) dX10_needsOf_162 ?_
                        refine lv_topl (fun w_50 ew_50 => ?_)
                        refine lv_lstore (lv' := [(5, .long w_50), (4, .int jk), (3, .int k3), (2, .int r_1), (0, .ref (ad 0)), (1, .int i1)]) hx hb dX10_needsOf_163 hl (by decide) rfl (fun ls hl => ?_)
                        refine lv_aload_n hx hb dX10_needsOf_165 rfl (lv_at hl 4 rfl) ?_
                        refine va_get (D := (dC, dI)) (ci := 10) (v := .ref (ad 23)) (C := RX10) (T := TX10) (N := 48) hx hb hts fin_X10_needsOfm_X10 hown hK hP 0 rfl rfl 25 (by decide) (hts (.fieldLink RX10 48 "PatternGateModel" "rows" "[[J") (List.mem_of_getElem? (i := 19) (by decide +kernel))) (fun _ h9 => h9) rfl dX10_needsOf_166 ?_
                        refine lv_iconst (v := 0) hx hb dX10_needsOf_169 (by decide) ?_
                        refine m_aak hx hb hK hP 23 22 (k := 0) (b := ad (100 + 0)) rfl rfl rfl (i := 0) (by decide) (by omega) rfl dX10_needsOf_170 ?_
                        refine lv_iload hx hb dX10_needsOf_171 (lv_at hl 1 rfl) ?_
                        refine lv_aload_n hx hb dX10_needsOf_173 rfl (lv_at hl 4 rfl) ?_
                        refine va_get (D := (dC, dI)) (ci := 10) (v := .ref (ad 23)) (C := RX10) (T := TX10) (N := 48) hx hb hts fin_X10_needsOfm_X10 hown hK hP 0 rfl rfl 25 (by decide) (hts (.fieldLink RX10 48 "PatternGateModel" "rows" "[[J") (List.mem_of_getElem? (i := 19) (by decide +kernel))) (fun _ h9 => h9) rfl dX10_needsOf_174 ?_
                        refine lv_iconst (v := 0) hx hb dX10_needsOf_177 (by decide) ?_
                        refine m_aak hx hb hK hP 23 22 (k := 0) (b := ad (100 + 0)) rfl rfl rfl (i := 0) (by decide) (by omega) rfl dX10_needsOf_178 ?_
                        refine lv_iload hx hb dX10_needsOf_179 (lv_at hl 1 rfl) ?_
                        refine lv_iconst (v := 1) hx hb dX10_needsOf_181 (by decide) ?_
                        refine lv_isub hx hb dX10_needsOf_182 ?_
                        refine lv_topi (fun y_51 ey_51 => ?_)
                        first | have ty_51 := i_sub (a := jk.toInt) (b := 1) rfl (by decide) ey_51 (by omega) (by omega) | skip
                        refine va_lald hx hb hK hP (27 + 0) 26 (mW_L (by omega)) rfl (i := y_51) (vp_of (a := y_51.toInt) rfl (by omega) (by omega)) dX10_needsOf_183 ?_
                        refine lv_topl (fun w_52 ew_52 => ?_)
                        refine va_last hx hb hK hP hD hS (27 + 0) 26 (mW_L (by omega)) rfl (i := jk) (vp_of (a := jk.toInt) rfl (by omega) (by omega)) dX10_needsOf_184 (fun H locs hP hD hS => ?_)
                        rw [mW_Ls (by omega)] at hP hD
                        generalize hL_53 : uF lb 0 (vp_updL _ _ _) = L_53 at hP hD
                        have hP : va_P (dC, dI) vwCl (mW ad kc x0 x1 x2 x3 x4 x5 x6 x7 x8 x9 x10 x11 x_2 x_3 x_4 x_5 x_27 x_28 x_29 r_26 x20 x21 f0 f1 f2 f_6 f_7 f_8 f_9 f_10 f_11 f_30 f_31 f_32 f12 f13 f14 f15 f16 f17 f18 f19 f20 f21 L_53 Nn_34 pp M_35 O_36) H := hP
                        have hD : va_D A (mW ad kc x0 x1 x2 x3 x4 x5 x6 x7 x8 x9 x10 x11 x_2 x_3 x_4 x_5 x_27 x_28 x_29 r_26 x20 x21 f0 f1 f2 f_6 f_7 f_8 f_9 f_10 f_11 f_30 f_31 f_32 f12 f13 f14 f15 f16 f17 f18 f19 f20 f21 L_53 Nn_34 pp M_35 O_36) := hD
                        refine lv_aload_n hx hb dX10_needsOf_185 rfl (lv_at hl 4 rfl) ?_
                        refine va_get (D := (dC, dI)) (ci := 10) (v := .ref (ad 23)) (C := RX10) (T := TX10) (N := 48) hx hb hts fin_X10_needsOfm_X10 hown hK hP 0 rfl rfl 25 (by decide) (hts (.fieldLink RX10 48 "PatternGateModel" "rows" "[[J") (List.mem_of_getElem? (i := 19) (by decide +kernel))) (fun _ h9 => h9) rfl dX10_needsOf_186 ?_
                        refine lv_iconst (v := 0) hx hb dX10_needsOf_189 (by decide) ?_
                        refine m_aak hx hb hK hP 23 22 (k := 0) (b := ad (100 + 0)) rfl rfl rfl (i := 0) (by decide) (by omega) rfl dX10_needsOf_190 ?_
                        refine lv_iload hx hb dX10_needsOf_191 (lv_at hl 1 rfl) ?_
                        refine lv_iconst (v := 1) hx hb dX10_needsOf_193 (by decide) ?_
                        refine lv_isub hx hb dX10_needsOf_194 ?_
                        refine lv_topi (fun y_54 ey_54 => ?_)
                        first | have ty_54 := i_sub (a := jk.toInt) (b := 1) rfl (by decide) ey_54 (by omega) (by omega) | skip
                        refine lv_lload hx hb dX10_needsOf_195 (lv_at hl 0 rfl) ?_
                        refine va_last hx hb hK hP hD hS (27 + 0) 26 (mW_L (by omega)) rfl (i := y_54) (vp_of (a := y_54.toInt) rfl (by omega) (by omega)) dX10_needsOf_197 (fun H locs hP hD hS => ?_)
                        rw [mW_Ls (by omega)] at hP hD
                        generalize hL_55 : uF L_53 0 (vp_updL _ _ _) = L_55 at hP hD
                        have hP : va_P (dC, dI) vwCl (mW ad kc x0 x1 x2 x3 x4 x5 x6 x7 x8 x9 x10 x11 x_2 x_3 x_4 x_5 x_27 x_28 x_29 r_26 x20 x21 f0 f1 f2 f_6 f_7 f_8 f_9 f_10 f_11 f_30 f_31 f_32 f12 f13 f14 f15 f16 f17 f18 f19 f20 f21 L_55 Nn_34 pp M_35 O_36) H := hP
                        have hD : va_D A (mW ad kc x0 x1 x2 x3 x4 x5 x6 x7 x8 x9 x10 x11 x_2 x_3 x_4 x_5 x_27 x_28 x_29 r_26 x20 x21 f0 f1 f2 f_6 f_7 f_8 f_9 f_10 f_11 f_30 f_31 f_32 f12 f13 f14 f15 f16 f17 f18 f19 f20 f21 L_55 Nn_34 pp M_35 O_36) := hD
                        obtain ⟨y_56, ey_56⟩ : ∃ y : Int32, y = jk + (-1) := ⟨_, rfl⟩
                        first | have ty_56 := i_add (a := jk.toInt) (b := (-1)) rfl (by decide) ey_56 (by omega) (by omega) | skip
                        refine lv_iinc (v := y_56) (lv' := [(4, .int y_56), (5, .long w_50), (3, .int k3), (2, .int r_1), (0, .ref (ad 0)), (1, .int i1)]) hx hb dX10_needsOf_198 hl (k := 1) rfl (by rw [ey_56]; rfl) (by decide) rfl (fun ls hl => ?_)
                        refine lv_goto (tgt := 123) hx hb dX10_needsOf_201 (by decide) ?_
                        exact ih123 y_56 L_55 (by first | omega | assumption | decide) (v123_1.sw hL_53 hL_55 (by rw [show y_54 = y_51 from ey_54.trans ey_51.symm]; exact ew_52) ew_50 (by rw [clamp_nat]; omega) (by rw [clamp_nat]; omega)) (by omega) _ _ ls hP hD hS (lv_sub hl [0, 2, 3, 4, 5] rfl)
                exact loop123 _ k3 la (by first | omega | assumption | decide) hS1 (Nat.lt_succ_self _) _ _ ls hP hD hS (lv_sub hl [0, 1, 2, 3, 4] rfl)
        have lit_56 : (1 : Int32).toInt = 1 := by decide
        exact loop103 _ 1 L_33 (by first | omega | assumption | decide) hS0 (Nat.lt_succ_self _) _ _ ls hP hD hS (lv_sub hl [0, 1, 2, 3] rfl)
      · have tk_38 := c_nge (a := k1.toInt) (b := y_37.toInt) rfl rfl k_38
        refine lv_iload_n hx hb dX10_needsOf_49 rfl (lv_at hl 0 rfl) ?_
        refine lv_istore (lv' := [(4, .int k1), (3, .int k1), (2, .int r_1), (0, .ref (ad 0)), (1, .int i1)]) hx hb dX10_needsOf_50 hl (by decide) rfl (fun ls hl => ?_)
        have loop52 : ∀ (lm52 : Nat) (ik : Int32) (pq : Nat → Nat → Nat), (0 ≤ ik.toInt ∧ ik.toInt ≤ k1.toInt) → (PI pq) → (nOK (rO Nn_34 M_35 O_36) pq f_31 0 24) → ik.toInt.toNat < lm52 → ∀ (H : Heap) (locs : List Loc) (ls : Array Slot), va_P (dC, dI) vwCl (mW ad kc x0 x1 x2 x3 x4 x5 x6 x7 x8 x9 x10 x11 x_2 x_3 x_4 x_5 x_27 x_28 x_29 r_26 x20 x21 f0 f1 f2 f_6 f_7 f_8 f_9 f_10 f_11 f_30 f_31 f_32 f12 f13 f14 f15 f16 f17 f18 f19 f20 f21 L_33 Nn_34 pq M_35 O_36) H → va_D A (mW ad kc x0 x1 x2 x3 x4 x5 x6 x7 x8 x9 x10 x11 x_2 x_3 x_4 x_5 x_27 x_28 x_29 r_26 x20 x21 f0 f1 f2 f_6 f_7 f_8 f_9 f_10 f_11 f_30 f_31 f_32 f12 f13 f14 f15 f16 f17 f18 f19 f20 f21 L_33 Nn_34 pq M_35 O_36) → va_S A s.heap H locs → lv_has ls 7 [(4, .int ik), (3, .int k1), (2, .int r_1), (0, .ref (ad 0)), (1, .int i1)] → W p l e (headSpec mwX10_needsOfm ({ frames := 41, cells := 0, slots := 0, locals := 2460 })).room s m ([.ref (ad 0), .int i1]).toArray below meth c H locs 0 0 (MQ below (va_Qv (fun (_ : Unit) => True) (fun _ t => ∃ (y12 y13 y14 y15 y16 y17 y18 y19 : Int32) (g3 g4 g5 g6 g7 g8 g9 g10 g11 : Nat → Int32) (L9 : Nat → Nat → Int64) (Nn9 : Nat → Nat → Int32) (P9 : Nat → Nat → Nat) (M9 : Nat → Nat → Int32) (O9 : Nat → Nat → Int32), (PI P9) ∧ (nOK (rO Nn9 M9 O9) P9 g10 0 24) ∧ (y19.toInt = 0 ∨ y19.toInt = 1) ∧ (y19.toInt = 1 → sOK L9 g9 0 6 24) ∧ (∀ a, IR a → 1300 ≤ a → (rO Nn9 M9 O9) a = (rO fN fM fO) a) ∧ va_P (dC, dI) vwCl (mW ad kc x0 x1 x2 x3 x4 x5 x6 x7 x8 x9 x10 x11 y12 y13 y14 y15 y16 y17 y18 y19 x20 x21 f0 f1 f2 g3 g4 g5 g6 g7 g8 g9 g10 g11 f12 f13 f14 f15 f16 f17 f18 f19 f20 f21 L9 Nn9 P9 M9 O9) t.heap ∧ va_K (dC, dI) vwCl (mT kc) t ∧ va_D A (mW ad kc x0 x1 x2 x3 x4 x5 x6 x7 x8 x9 x10 x11 y12 y13 y14 y15 y16 y17 y18 y19 x20 x21 f0 f1 f2 g3 g4 g5 g6 g7 g8 g9 g10 g11 f12 f13 f14 f15 f16 f17 f18 f19 f20 f21 L9 Nn9 P9 M9 O9)) A) ([.ref (ad 0), .int i1]).toArray s 0 0 A) (F0 m 52 ls []) := by
          intro lm52
          induction lm52 with
          | zero => intro ik pq v52_0 v52_1 v52_2 hm52; exact absurd hm52 (Nat.not_lt_zero _)
          | succ lm52 ih52 =>
            intro ik pq v52_0 v52_1 v52_2 hm52 H locs ls hP hD hS hl
            have rg_ik := i_rng ik
            refine lv_iload hx hb dX10_needsOf_52 (lv_at hl 0 rfl) ?_
            refine lv_if_le (tgt := 95) hx hb dX10_needsOf_54 (by decide) (fun k_58 => ?_) (fun k_58 => ?_)
            · have tk_58 := c_le (a := ik.toInt) (b := 0) rfl (by decide) k_58
              obtain ⟨y_59, ey_59⟩ : ∃ y : Int32, y = k1 + 1 := ⟨_, rfl⟩
              first | have ty_59 := i_add (a := k1.toInt) (b := 1) rfl (by decide) ey_59 (by omega) (by omega) | skip
              refine lv_iinc (v := y_59) (lv' := [(3, .int y_59), (4, .int ik), (2, .int r_1), (0, .ref (ad 0)), (1, .int i1)]) hx hb dX10_needsOf_95 hl (k := 1) rfl (by rw [ey_59]; rfl) (by decide) rfl (fun ls hl => ?_)
              refine lv_goto (tgt := 39) hx hb dX10_needsOf_98 (by decide) ?_
              exact ih39 y_59 pq (by first | omega | assumption | decide) v52_1 v52_2 (by omega) _ _ ls hP hD hS (lv_sub hl [0, 2, 3, 4] rfl)
            · have tk_58 := c_nle (a := ik.toInt) (b := 0) rfl (by decide) k_58
              refine lv_aload_n hx hb dX10_needsOf_57 rfl (lv_at hl 3 rfl) ?_
              refine va_get (D := (dC, dI)) (ci := 10) (v := .ref (ad 24)) (C := RX10) (T := TX10) (N := 48) hx hb hts fin_X10_needsOfm_X10 hown hK hP 0 rfl rfl 28 (by decide) (hts (.fieldLink RX10 56 "PatternGateModel" "needs" "[[[I") (List.mem_of_getElem? (i := 22) (by decide +kernel))) (fun _ h9 => h9) rfl dX10_needsOf_58 ?_
              refine lv_iconst (v := 0) hx hb dX10_needsOf_61 (by decide) ?_
              refine m_aak hx hb hK hP 24 23 (k := 0) (b := ad (200 + 0)) rfl rfl rfl (i := 0) (by decide) (by omega) rfl dX10_needsOf_62 ?_
              refine lv_iload hx hb dX10_needsOf_63 (lv_at hl 0 rfl) ?_
              refine m_aak hx hb hK hP (117 + 0) 27 (k := ik.toInt.toNat) (b := ad (300 + (12 * 0 + pq 0 ik.toInt.toNat))) (mW_P (by omega)) rfl rfl (i := ik) (by omega) (by omega) rfl dX10_needsOf_65 ?_
              have hp65 := (v52_1 0 ik.toInt.toNat (by omega)).1
              refine lv_aload_n hx hb dX10_needsOf_66 rfl (lv_at hl 3 rfl) ?_
              refine va_get (D := (dC, dI)) (ci := 10) (v := .ref (ad 24)) (C := RX10) (T := TX10) (N := 48) hx hb hts fin_X10_needsOfm_X10 hown hK hP 0 rfl rfl 28 (by decide) (hts (.fieldLink RX10 56 "PatternGateModel" "needs" "[[[I") (List.mem_of_getElem? (i := 22) (by decide +kernel))) (fun _ h9 => h9) rfl dX10_needsOf_67 ?_
              refine lv_iconst (v := 0) hx hb dX10_needsOf_70 (by decide) ?_
              refine m_aak hx hb hK hP 24 23 (k := 0) (b := ad (200 + 0)) rfl rfl rfl (i := 0) (by decide) (by omega) rfl dX10_needsOf_71 ?_
              refine lv_iload hx hb dX10_needsOf_72 (lv_at hl 0 rfl) ?_
              refine lv_iconst (v := 1) hx hb dX10_needsOf_74 (by decide) ?_
              refine lv_isub hx hb dX10_needsOf_75 ?_
              refine lv_topi (fun y_60 ey_60 => ?_)
              first | have ty_60 := i_sub (a := ik.toInt) (b := 1) rfl (by decide) ey_60 (by omega) (by omega) | skip
              refine m_aak hx hb hK hP (117 + 0) 27 (k := y_60.toInt.toNat) (b := ad (300 + (12 * 0 + pq 0 y_60.toInt.toNat))) (mW_P (by omega)) rfl rfl (i := y_60) (by omega) (by omega) rfl dX10_needsOf_76 ?_
              have hp76 := (v52_1 0 y_60.toInt.toNat (by omega)).1
              have hz0 : 0 ≤ vI ((rO Nn_34 M_35 O_36) (300 + (12 * 0 + pq 0 ik.toInt.toNat))) 0 ∧ vI ((rO Nn_34 M_35 O_36) (300 + (12 * 0 + pq 0 ik.toInt.toNat))) 0 ≤ 24 := v52_2.2.2 ik.toInt.toNat (by omega)
              have hz1 : 0 ≤ vI ((rO Nn_34 M_35 O_36) (300 + (12 * 0 + pq 0 y_60.toInt.toNat))) 0 ∧ vI ((rO Nn_34 M_35 O_36) (300 + (12 * 0 + pq 0 y_60.toInt.toNat))) 0 ≤ 24 := v52_2.2.2 y_60.toInt.toNat (by omega)
              have hFc := m_free hD hS hA
              refine va_calli (va_runS (As := [.ref (ad (300 + (12 * 0 + pq 0 ik.toInt.toNat))), .ref (ad (300 + (12 * 0 + pq 0 y_60.toInt.toNat)))]) (rest := []) ⟨hx, hb, hml, hown, hts⟩ (m_isAhead l dC dI ad kc x0 x1 x2 x3 x4 x5 x6 x7 x8 x9 x10 x11 x_2 x_3 x_4 x_5 x_27 x_28 x_29 r_26 x20 x21 f0 f1 f2 f_6 f_7 f_8 f_9 f_10 f_11 f_30 f_31 f_32 f12 f13 f14 f15 f16 f17 f18 f19 f20 f21 L_33 Nn_34 pq M_35 O_36 H.size (300 + (12 * 0 + pq 0 ik.toInt.toNat)) (300 + (12 * 0 + pq 0 y_60.toInt.toNat)) (by first | assumption | (unfold IR; omega)) (by first | assumption | (unfold IR; omega)) (by first | omega | assumption | decide | (have l0 := Int32.toInt_zero; omega)) (by first | omega | assumption | decide | (have l0 := Int32.toInt_zero; omega))) (va_cwS 2 hts mg_X10_needsOfm_X10_isAhead_366 rfl rfl rfl (by decide +kernel) ⟨Nat.le_of_ble_eq_true rfl, Nat.le_of_ble_eq_true rfl⟩) ⟨fun a U g mk q => by obtain ⟨q0, q1, qP, qK, qD⟩ := q; exact ⟨q0, q1, qP, va_K.moved (u := U) (U := U.calling g mk a) (Vm.Alike.refl U.vm) qK, qD⟩, fun U hU hW => ⟨rfl, by rw [hU], by rw [hU]; exact hP, va_K.moved hW.alike hK, hD.weaken (fun _ _ _ _ => trivial)⟩⟩ rfl rfl hl.1 rfl (lv_room (Nat.le_of_ble_eq_true rfl)) dX10_needsOf_77 ⟨Nat.le_of_ble_eq_true rfl, Nat.le_of_ble_eq_true rfl⟩) hS (fun q _ h => hFc q h) hFc (fun r_61 u t H1 locs ht hvm hw hB hz1 hk1 hS => ?_)
              subst hw
              obtain ⟨hr_61_0, hP, hK1, hD1⟩ := hB
              rw [ht] at hP
              have hD := hD1.weaken (fun k q _ h => hFc q.1 h)
              clear hz1 hk1 hFc hD1 hK1 hvm
              generalize H1 = H at hP hS ⊢
              have rg_r_61 := i_rng r_61
              have hP : va_P (dC, dI) vwCl (mW ad kc x0 x1 x2 x3 x4 x5 x6 x7 x8 x9 x10 x11 x_2 x_3 x_4 x_5 x_27 x_28 x_29 r_26 x20 x21 f0 f1 f2 f_6 f_7 f_8 f_9 f_10 f_11 f_30 f_31 f_32 f12 f13 f14 f15 f16 f17 f18 f19 f20 f21 L_33 Nn_34 pq M_35 O_36) H := hP
              have hD : va_D A (mW ad kc x0 x1 x2 x3 x4 x5 x6 x7 x8 x9 x10 x11 x_2 x_3 x_4 x_5 x_27 x_28 x_29 r_26 x20 x21 f0 f1 f2 f_6 f_7 f_8 f_9 f_10 f_11 f_30 f_31 f_32 f12 f13 f14 f15 f16 f17 f18 f19 f20 f21 L_33 Nn_34 pq M_35 O_36) := hD
              refine lv_if_eq (tgt := 95) hx hb dX10_needsOf_80 (by decide) (fun k_62 => ?_) (fun k_62 => ?_)
              · have tk_62 := c_eq (a := r_61.toInt) (b := 0) rfl (by decide) k_62
                obtain ⟨y_63, ey_63⟩ : ∃ y : Int32, y = k1 + 1 := ⟨_, rfl⟩
                first | have ty_63 := i_add (a := k1.toInt) (b := 1) rfl (by decide) ey_63 (by omega) (by omega) | skip
                refine lv_iinc (v := y_63) (lv' := [(3, .int y_63), (4, .int ik), (2, .int r_1), (0, .ref (ad 0)), (1, .int i1)]) hx hb dX10_needsOf_95 hl (k := 1) rfl (by rw [ey_63]; rfl) (by decide) rfl (fun ls hl => ?_)
                refine lv_goto (tgt := 39) hx hb dX10_needsOf_98 (by decide) ?_
                exact ih39 y_63 pq (by first | omega | assumption | decide) v52_1 v52_2 (by omega) _ _ ls hP hD hS (lv_sub hl [0, 2, 3, 4] rfl)
              · have tk_62 := c_ne (a := r_61.toInt) (b := 0) rfl (by decide) k_62
                refine lv_aload_n hx hb dX10_needsOf_83 rfl (lv_at hl 3 rfl) ?_
                refine lv_iload hx hb dX10_needsOf_84 (lv_at hl 0 rfl) ?_
                have hFc := m_free hD hS hA
                refine va_callv (va_runV (As := [.int ik]) (rest := []) ⟨hx, hb, hml, hown, hts⟩ (m_swapsNeed l dC dI ad kc x0 x1 x2 x3 x4 x5 x6 x7 x8 x9 x10 x11 x_2 x_3 x_4 x_5 x_27 x_28 x_29 r_26 x20 x21 f0 f1 f2 f_6 f_7 f_8 f_9 f_10 f_11 f_30 f_31 f_32 f12 f13 f14 f15 f16 f17 f18 f19 f20 f21 L_33 Nn_34 pq M_35 O_36 H.size ik (by first | omega | assumption | decide | (have l0 := Int32.toInt_zero; omega)) (by first | omega | assumption | decide | (have l0 := Int32.toInt_zero; omega))) (cwV 1 hts mg_X10_needsOfm_X10_swapsNeed_369 rfl rfl rfl (by decide +kernel) ⟨Nat.le_of_ble_eq_true rfl, Nat.le_of_ble_eq_true rfl⟩) ⟨fun a U g mk q => by obtain ⟨q0, q1, qP, qK, qD, qE⟩ := q; exact ⟨q0, q1, qP, va_K.moved (u := U) (U := U.calling g mk a) (Vm.Alike.refl U.vm) qK, qD, over_moved (u := U) (E := U.calling g mk a) (Vm.Alike.refl U.vm) qE⟩, va_recv hK hP (ci := 10) (q0 := 0) rfl rfl, fun U hU hW => ⟨rfl, by rw [hU], by rw [hU]; exact hP, va_K.moved hW.alike hK, hD.weaken (fun _ _ _ _ => trivial), over_moved hW.alike hOV⟩⟩ rfl rfl hl.1 rfl (lv_room (Nat.le_of_ble_eq_true rfl)) dX10_needsOf_86 ⟨Nat.le_of_ble_eq_true rfl, Nat.le_of_ble_eq_true rfl⟩) hS (fun q _ h => hFc q h) hFc (fun u t H1 locs ht hvm hw hB hz1 hk1 hS => ?_)
                obtain ⟨P_65, hr_64_0, hP, hK1, hD1⟩ := hB
                rw [ht] at hP
                have hD := hD1.weaken (fun k q _ h => hFc q.1 h)
                clear hz1 hk1 hFc hD1 hK1 hvm
                generalize H1 = H at hP hS ⊢
                have hP : va_P (dC, dI) vwCl (mW ad kc x0 x1 x2 x3 x4 x5 x6 x7 x8 x9 x10 x11 x_2 x_3 x_4 x_5 x_27 x_28 x_29 r_26 x20 x21 f0 f1 f2 f_6 f_7 f_8 f_9 f_10 f_11 f_30 f_31 f_32 f12 f13 f14 f15 f16 f17 f18 f19 f20 f21 L_33 Nn_34 P_65 M_35 O_36) H := hP
                have hD : va_D A (mW ad kc x0 x1 x2 x3 x4 x5 x6 x7 x8 x9 x10 x11 x_2 x_3 x_4 x_5 x_27 x_28 x_29 r_26 x20 x21 f0 f1 f2 f_6 f_7 f_8 f_9 f_10 f_11 f_30 f_31 f_32 f12 f13 f14 f15 f16 f17 f18 f19 f20 f21 L_33 Nn_34 P_65 M_35 O_36) := hD
                obtain ⟨y_66, ey_66⟩ : ∃ y : Int32, y = ik + (-1) := ⟨_, rfl⟩
                first | have ty_66 := i_add (a := ik.toInt) (b := (-1)) rfl (by decide) ey_66 (by omega) (by omega) | skip
                refine lv_iinc (v := y_66) (lv' := [(4, .int y_66), (3, .int k1), (2, .int r_1), (0, .ref (ad 0)), (1, .int i1)]) hx hb dX10_needsOf_89 hl (k := 0) rfl (by rw [ey_66]; rfl) (by decide) rfl (fun ls hl => ?_)
                refine lv_goto (tgt := 52) hx hb dX10_needsOf_92 (by decide) ?_
                exact ih52 y_66 P_65 (by first | omega | assumption | decide) (hr_64_0.pi v52_1 (by omega) (by omega) (by omega)) (v52_2.swap hr_64_0 (by omega) (by omega)) (by omega) _ _ ls hP hD hS (lv_sub hl [0, 1, 2, 3, 4] rfl)
        exact loop52 _ k1 pp (by first | omega | assumption | decide) v39_1 v39_2 (Nat.lt_succ_self _) _ _ ls hP hD hS (lv_sub hl [0, 1, 2, 3, 4] rfl)
  have lit_66 : (1 : Int32).toInt = 1 := by decide
  exact loop39 _ 1 fP (by first | omega | assumption | decide) q2 hN0 (Nat.lt_succ_self _) _ _ ls hP hD hS (lv_sub hl [0, 1, 2, 3] rfl)

theorem dX10_many_0 : decode cX10_many 0 = .ok (.iload_n 1, 1) := by decide +kernel
theorem dX10_many_1 : decode cX10_many 1 = .ok (.tableswitch 106 0 5 #[39, 50, 63, 72, 88, 97], 39) := by decide +kernel
theorem dX10_many_40 : decode cX10_many 40 = .ok (.aload_n 0, 1) := by decide +kernel
theorem dX10_many_41 : decode cX10_many 41 = .ok (.aload_n 0, 1) := by decide +kernel
theorem dX10_many_42 : decode cX10_many 42 = .ok (.getfield 8, 3) := by decide +kernel
theorem dX10_many_45 : decode cX10_many 45 = .ok (.iconst 0, 1) := by decide +kernel
theorem dX10_many_46 : decode cX10_many 46 = .ok (.iaload, 1) := by decide +kernel
theorem dX10_many_47 : decode cX10_many 47 = .ok (.invokevirtual 214, 3) := by decide +kernel
theorem dX10_many_50 : decode cX10_many 50 = .ok (.ireturn, 1) := by decide +kernel
theorem dX10_many_51 : decode cX10_many 51 = .ok (.aload_n 0, 1) := by decide +kernel
theorem dX10_many_52 : decode cX10_many 52 = .ok (.aload_n 0, 1) := by decide +kernel
theorem dX10_many_53 : decode cX10_many 53 = .ok (.getfield 8, 3) := by decide +kernel
theorem dX10_many_56 : decode cX10_many 56 = .ok (.sipush 611, 3) := by decide +kernel
theorem dX10_many_59 : decode cX10_many 59 = .ok (.iaload, 1) := by decide +kernel
theorem dX10_many_60 : decode cX10_many 60 = .ok (.invokevirtual 214, 3) := by decide +kernel
theorem dX10_many_63 : decode cX10_many 63 = .ok (.ireturn, 1) := by decide +kernel
theorem dX10_many_64 : decode cX10_many 64 = .ok (.aload_n 0, 1) := by decide +kernel
theorem dX10_many_65 : decode cX10_many 65 = .ok (.aload_n 0, 1) := by decide +kernel
theorem dX10_many_66 : decode cX10_many 66 = .ok (.invokevirtual 433, 3) := by decide +kernel
theorem dX10_many_69 : decode cX10_many 69 = .ok (.invokevirtual 214, 3) := by decide +kernel
theorem dX10_many_72 : decode cX10_many 72 = .ok (.ireturn, 1) := by decide +kernel
theorem dX10_many_73 : decode cX10_many 73 = .ok (.aload_n 0, 1) := by decide +kernel
theorem dX10_many_74 : decode cX10_many 74 = .ok (.aload_n 0, 1) := by decide +kernel
theorem dX10_many_75 : decode cX10_many 75 = .ok (.iconst 0, 1) := by decide +kernel
theorem dX10_many_76 : decode cX10_many 76 = .ok (.aload_n 0, 1) := by decide +kernel
theorem dX10_many_77 : decode cX10_many 77 = .ok (.getfield 8, 3) := by decide +kernel
theorem dX10_many_80 : decode cX10_many 80 = .ok (.iconst 0, 1) := by decide +kernel
theorem dX10_many_81 : decode cX10_many 81 = .ok (.iaload, 1) := by decide +kernel
theorem dX10_many_82 : decode cX10_many 82 = .ok (.invokevirtual 436, 3) := by decide +kernel
theorem dX10_many_85 : decode cX10_many 85 = .ok (.invokevirtual 214, 3) := by decide +kernel
theorem dX10_many_88 : decode cX10_many 88 = .ok (.ireturn, 1) := by decide +kernel
theorem dX10_many_89 : decode cX10_many 89 = .ok (.aload_n 0, 1) := by decide +kernel
theorem dX10_many_90 : decode cX10_many 90 = .ok (.aload_n 0, 1) := by decide +kernel
theorem dX10_many_91 : decode cX10_many 91 = .ok (.getfield 439, 3) := by decide +kernel
theorem dX10_many_94 : decode cX10_many 94 = .ok (.invokevirtual 214, 3) := by decide +kernel
theorem dX10_many_97 : decode cX10_many 97 = .ok (.ireturn, 1) := by decide +kernel
theorem dX10_many_98 : decode cX10_many 98 = .ok (.aload_n 0, 1) := by decide +kernel
theorem dX10_many_99 : decode cX10_many 99 = .ok (.aload_n 0, 1) := by decide +kernel
theorem dX10_many_100 : decode cX10_many 100 = .ok (.getfield 442, 3) := by decide +kernel
theorem dX10_many_103 : decode cX10_many 103 = .ok (.invokevirtual 214, 3) := by decide +kernel
theorem dX10_many_106 : decode cX10_many 106 = .ok (.ireturn, 1) := by decide +kernel
theorem dX10_many_107 : decode cX10_many 107 = .ok (.aload_n 0, 1) := by decide +kernel
theorem dX10_many_108 : decode cX10_many 108 = .ok (.iconst 1, 1) := by decide +kernel
theorem dX10_many_109 : decode cX10_many 109 = .ok (.invokevirtual 204, 3) := by decide +kernel
theorem dX10_many_112 : decode cX10_many 112 = .ok (.ireturn, 1) := by decide +kernel
def mwX10_manym : List Cond := .code yX10_many cX10_many 2 (some .int) :: (([.fieldLink RX10 8 "PatternGateModel" "all" "[I", .methodLink RX10 214 yX10_gives, .instanceMethod yX10_gives, .selects RX10 yX10_gives yX10_gives, .initialized RX10, .methodLink RX10 433 yX10_allLetters, .instanceMethod yX10_allLetters, .selects RX10 yX10_allLetters yX10_allLetters, .methodLink RX10 436 yX10_unlike, .instanceMethod yX10_unlike, .selects RX10 yX10_unlike yX10_unlike, .fieldLink RX10 439 "PatternGateModel" "acts" "I", .fieldLink RX10 442 "PatternGateModel" "marks" "I", .methodLink RX10 204 yX10_refuse, .instanceMethod yX10_refuse, .selects RX10 yX10_refuse yX10_refuse] : List Cond) ++ (wsX100 ++ (mwX10_givesm ++ (mwX10_allLettersm ++ (mwX10_unlikem ++ (mwX10_refusem))))))
theorem fin_X10_manym_X10 : ∀ w ∈ wsX100, w ∈ mwX10_manym := fun w h => List.mem_cons_of_mem _ (List.mem_append_right _ (List.mem_append_left _ h))
set_option maxRecDepth 100000 in
theorem gd_mwX10_givesm : mwX10_givesm.all goodWord = true := by decide +kernel
set_option maxRecDepth 100000 in
theorem gd_mwX10_allLettersm : mwX10_allLettersm.all goodWord = true := by decide +kernel
set_option maxRecDepth 100000 in
theorem gd_mwX10_unlikem : mwX10_unlikem.all goodWord = true := by decide +kernel
set_option maxRecDepth 100000 in
theorem gd_mwX10_refusem : mwX10_refusem.all goodWord = true := by decide +kernel
set_option maxRecDepth 20000 in
theorem mg_X10_manym_X10_gives_214 : GoodIn mwX10_manym (wsV RX10 214 RX10 yX10_gives mwX10_givesm) := gi_app (A := [.methodLink RX10 214 yX10_gives, .instanceMethod yX10_gives, .selects RX10 yX10_gives yX10_gives, .initialized RX10]) (goodIn_r _ [2, 3, 4, 5] (by decide +kernel) (by decide +kernel)) (gi_sub gd_mwX10_givesm (fun w h => List.mem_cons_of_mem _ (List.mem_append_right _ (List.mem_append_right _ (List.mem_append_left _ h)))))
set_option maxRecDepth 20000 in
theorem mg_X10_manym_X10_allLetters_433 : GoodIn mwX10_manym (wsV RX10 433 RX10 yX10_allLetters mwX10_allLettersm) := gi_app (A := [.methodLink RX10 433 yX10_allLetters, .instanceMethod yX10_allLetters, .selects RX10 yX10_allLetters yX10_allLetters, .initialized RX10]) (goodIn_r _ [6, 7, 8, 5] (by decide +kernel) (by decide +kernel)) (gi_sub gd_mwX10_allLettersm (fun w h => List.mem_cons_of_mem _ (List.mem_append_right _ (List.mem_append_right _ (List.mem_append_right _ (List.mem_append_left _ h))))))
set_option maxRecDepth 20000 in
theorem mg_X10_manym_X10_unlike_436 : GoodIn mwX10_manym (wsV RX10 436 RX10 yX10_unlike mwX10_unlikem) := gi_app (A := [.methodLink RX10 436 yX10_unlike, .instanceMethod yX10_unlike, .selects RX10 yX10_unlike yX10_unlike, .initialized RX10]) (goodIn_r _ [9, 10, 11, 5] (by decide +kernel) (by decide +kernel)) (gi_sub gd_mwX10_unlikem (fun w h => List.mem_cons_of_mem _ (List.mem_append_right _ (List.mem_append_right _ (List.mem_append_right _ (List.mem_append_right _ (List.mem_append_left _ h)))))))
set_option maxRecDepth 20000 in
theorem mg_X10_manym_X10_refuse_204 : GoodIn mwX10_manym (wsV RX10 204 RX10 yX10_refuse mwX10_refusem) := gi_app (A := [.methodLink RX10 204 yX10_refuse, .instanceMethod yX10_refuse, .selects RX10 yX10_refuse yX10_refuse, .initialized RX10]) (goodIn_r _ [14, 15, 16, 5] (by decide +kernel) (by decide +kernel)) (gi_sub gd_mwX10_refusem (fun w h => List.mem_cons_of_mem _ (List.mem_append_right _ (List.mem_append_right _ (List.mem_append_right _ (List.mem_append_right _ (List.mem_append_right _ (h))))))))
set_option maxHeartbeats 4000000 in
set_option maxRecDepth 100000 in
theorem m_many (l : Launch) (dC : Nat → ClassId) (dI : Nat → Nat → Nat) (ad : Nat → Nat) (kc : Nat → ClassId) (x0 x1 x2 x3 x4 x5 x6 x7 x8 x9 x10 x11 x12 x13 x14 x15 x16 x17 x18 x19 x20 x21 : Int32) (f0 f1 f2 f3 f4 f5 f6 f7 f8 f9 f10 f11 f12 f13 f14 f15 f16 f17 f18 f19 f20 f21 : Nat → Int32) (fL : Nat → Nat → Int64) (fN : Nat → Nat → Int32) (fP : Nat → Nat → Nat) (fM : Nat → Nat → Int32) (fO : Nat → Nat → Int32) (sz : Nat) (i1 : Int32) (q0 : mI x1.toInt x2.toInt x3.toInt f0 fP) : Met l yX10_many mwX10_manym ({ frames := 3, cells := 0, slots := 0, locals := 180 }) (va_Pc [.ref (ad 0), .int i1] (fun U => U.heap.size = sz ∧ va_P (dC, dI) vwCl (mW ad kc x0 x1 x2 x3 x4 x5 x6 x7 x8 x9 x10 x11 x12 x13 x14 x15 x16 x17 x18 x19 x20 x21 f0 f1 f2 f3 f4 f5 f6 f7 f8 f9 f10 f11 f12 f13 f14 f15 f16 f17 f18 f19 f20 f21 fL fN fP fM fO) U.heap ∧ va_K (dC, dI) vwCl (mT kc) U ∧ va_D (fun _ => True) (mW ad kc x0 x1 x2 x3 x4 x5 x6 x7 x8 x9 x10 x11 x12 x13 x14 x15 x16 x17 x18 x19 x20 x21 f0 f1 f2 f3 f4 f5 f6 f7 f8 f9 f10 f11 f12 f13 f14 f15 f16 f17 f18 f19 f20 f21 fL fN fP fM fO))) (va_Qi (fun (o9 u9 : Int32) => o9 = u9) (fun (o9 : Int32) t => ∃ (y0 : Int32) (g20 : Nat → Int32), va_P (dC, dI) vwCl (mW ad kc y0 x1 x2 x3 x4 x5 x6 x7 x8 x9 x10 x11 x12 x13 x14 x15 x16 x17 x18 x19 x20 x21 f0 f1 f2 f3 f4 f5 f6 f7 f8 f9 f10 f11 f12 f13 f14 f15 f16 f17 f18 f19 g20 f21 fL fN fP fM fO) t.heap ∧ va_K (dC, dI) vwCl (mT kc) t ∧ va_D (va_A (mW ad kc x0 x1 x2 x3 x4 x5 x6 x7 x8 x9 x10 x11 x12 x13 x14 x15 x16 x17 x18 x19 x20 x21 f0 f1 f2 f3 f4 f5 f6 f7 f8 f9 f10 f11 f12 f13 f14 f15 f16 f17 f18 f19 f20 f21 fL fN fP fM fO) sz) (mW ad kc y0 x1 x2 x3 x4 x5 x6 x7 x8 x9 x10 x11 x12 x13 x14 x15 x16 x17 x18 x19 x20 x21 f0 f1 f2 f3 f4 f5 f6 f7 f8 f9 f10 f11 f12 f13 f14 f15 f16 f17 f18 f19 g20 f21 fL fN fP fM fO)) (va_A (mW ad kc x0 x1 x2 x3 x4 x5 x6 x7 x8 x9 x10 x11 x12 x13 x14 x15 x16 x17 x18 x19 x20 x21 f0 f1 f2 f3 f4 f5 f6 f7 f8 f9 f10 f11 f12 f13 f14 f15 f16 f17 f18 f19 f20 f21 fL fN fP fM fO) sz)) 0 0 (va_A (mW ad kc x0 x1 x2 x3 x4 x5 x6 x7 x8 x9 x10 x11 x12 x13 x14 x15 x16 x17 x18 x19 x20 x21 f0 f1 f2 f3 f4 f5 f6 f7 f8 f9 f10 f11 f12 f13 f14 f15 f16 f17 f18 f19 f20 f21 fL fN fP fM fO) sz) := by
  refine Met.ofW (cc := cX10_many) (maxL := 2) (ret := (some .int)) (by decide +kernel) rfl ?_
  intro p e s m args below meth c s₁ B hml hv
  obtain ⟨rfl, hsz, hP, hK, hD0⟩ := hv
  have hx := B.exec
  have hb := B.bytes
  have hr := B.returns
  have hts := atoms_spec (ws := mwX10_manym) B.pre
  have hown : s.vm.findClass RX10 = some m.cls := findClass_of_methodNamed B.named
  have hlocks := B.notSynchronized
  subst hsz
  have hD := hD0.self (sz := s.heap.size)
  generalize hAe : va_A (mW ad kc x0 x1 x2 x3 x4 x5 x6 x7 x8 x9 x10 x11 x12 x13 x14 x15 x16 x17 x18 x19 x20 x21 f0 f1 f2 f3 f4 f5 f6 f7 f8 f9 f10 f11 f12 f13 f14 f15 f16 f17 f18 f19 f20 f21 fL fN fP fM fO) s.heap.size = A at hD ⊢
  have hA : ∀ q : Nat, s.heap.size ≤ q → A q := fun q h => by rw [← hAe]; exact Or.inr h
  have hP : va_P (dC, dI) vwCl (mW ad kc x0 x1 x2 x3 x4 x5 x6 x7 x8 x9 x10 x11 x12 x13 x14 x15 x16 x17 x18 x19 x20 x21 f0 f1 f2 f3 f4 f5 f6 f7 f8 f9 f10 f11 f12 f13 f14 f15 f16 f17 f18 f19 f20 f21 fL fN fP fM fO) s.heap := hP
  have hD : va_D A (mW ad kc x0 x1 x2 x3 x4 x5 x6 x7 x8 x9 x10 x11 x12 x13 x14 x15 x16 x17 x18 x19 x20 x21 f0 f1 f2 f3 f4 f5 f6 f7 f8 f9 f10 f11 f12 f13 f14 f15 f16 f17 f18 f19 f20 f21 fL fN fP fM fO) := hD
  have hK : va_K (dC, dI) vwCl (mT kc) s := hK
  generalize hH : s.heap = H at hP ⊢
  have hS : va_S A s.heap H [] := by rw [← hH]; exact va_S.rf
  have hl := lv_entry ([.ref (ad 0), .int i1]) (n := 2) (Nat.le_of_ble_eq_true rfl)
  rw [lg_entry_eq]
  generalize (lg_sl ([.ref (ad 0), .int i1]) ++ List.replicate (2 - (lg_sl ([.ref (ad 0), .int i1])).length) Slot.unset).toArray = ls at hl ⊢
  have hl : lv_has ls 2 [(0, .ref (ad 0)), (1, .int i1)] := hl
  have rg_i1 := i_rng i1
  have hd := q0.d
  have hpi := q0.p
  have hq1 := q0.1
  have hq2 := q0.2.1
  have hq3 := q0.2.2.1
  have hd10 := hd.n0
  have hp8 := hd.P0
  refine lv_iload_n hx hb dX10_many_0 rfl (lv_at hl 1 rfl) ?_
  rcases (show i1.toInt = 0 ∨ i1.toInt = 1 ∨ i1.toInt = 2 ∨ i1.toInt = 3 ∨ i1.toInt = 4 ∨ i1.toInt = 5 ∨ (i1.toInt < 0 ∨ 5 < i1.toInt) by omega) with hsw | hsw | hsw | hsw | hsw | hsw | hsw
  · refine lv_tableIn (off := 39) (tgt := 40) hx hb dX10_many_1 (by omega) (by omega) (by rw [show (i1.toInt - 0).toNat = 0 by omega]; rfl) (by decide) ?_
    refine lv_aload_n hx hb dX10_many_40 rfl (lv_at hl 0 rfl) ?_
    refine lv_aload_n hx hb dX10_many_41 rfl (lv_at hl 0 rfl) ?_
    refine va_get (D := (dC, dI)) (ci := 10) (v := .ref (ad 1)) (C := RX10) (T := TX10) (N := 48) hx hb hts fin_X10_manym_X10 hown hK hP 0 rfl rfl 0 (by decide) (hts (.fieldLink RX10 8 "PatternGateModel" "all" "[I") (List.mem_of_getElem? (i := 1) (by decide +kernel))) (fun _ h9 => h9) rfl dX10_many_42 ?_
    refine lv_iconst (v := 0) hx hb dX10_many_45 (by decide) ?_
    refine va_iald hx hb hK hP 1 0 rfl rfl (i := 0) (by unfold vp_in; decide +kernel) dX10_many_46 ?_
    refine lv_topi (fun y_1 ey_1 => ?_)
    have rg_y_1 := i_rng y_1
    have vy_1 := vI_lda (f := f0) (i := 0) (a := 0) ey_1 (by first | omega | decide)
    have rg_y_1 := i_rng y_1
    have hFc := m_free hD hS hA
    refine va_calli (va_runV (As := [.int y_1]) (rest := []) ⟨hx, hb, hml, hown, hts⟩ (m_gives l dC dI ad kc x0 x1 x2 x3 x4 x5 x6 x7 x8 x9 x10 x11 x12 x13 x14 x15 x16 x17 x18 x19 x20 x21 f0 f1 f2 f3 f4 f5 f6 f7 f8 f9 f10 f11 f12 f13 f14 f15 f16 f17 f18 f19 f20 f21 fL fN fP fM fO H.size y_1 ) (cwV 1 hts mg_X10_manym_X10_gives_214 rfl rfl rfl (by decide +kernel) ⟨Nat.le_of_ble_eq_true rfl, Nat.le_of_ble_eq_true rfl⟩) ⟨fun a U g mk q => by obtain ⟨q0, q1, qP, qK, qD⟩ := q; exact ⟨q0, q1, qP, va_K.moved (u := U) (U := U.calling g mk a) (Vm.Alike.refl U.vm) qK, qD⟩, va_recv hK hP (ci := 10) (q0 := 0) rfl rfl, fun U hU hW => ⟨rfl, by rw [hU], by rw [hU]; exact hP, va_K.moved hW.alike hK, hD.weaken (fun _ _ _ _ => trivial)⟩⟩ rfl rfl hl.1 rfl (lv_room (Nat.le_of_ble_eq_true rfl)) dX10_many_47 ⟨Nat.le_of_ble_eq_true rfl, Nat.le_of_ble_eq_true rfl⟩) hS (fun q _ h => hFc q h) hFc (fun r_2 u t H1 locs ht hvm hw hB hz1 hk1 hS => ?_)
    subst hw
    obtain ⟨hr_2_0, hP, hK1, hD1⟩ := hB
    rw [ht] at hP
    have hD := hD1.weaken (fun k q _ h => hFc q.1 h)
    clear hz1 hk1 hFc hD1 hK1 hvm
    generalize H1 = H at hP hS ⊢
    have rg_r_2 := i_rng r_2
    have hP : va_P (dC, dI) vwCl (mW ad kc 0 x1 x2 x3 x4 x5 x6 x7 x8 x9 x10 x11 x12 x13 x14 x15 x16 x17 x18 x19 x20 x21 f0 f1 f2 f3 f4 f5 f6 f7 f8 f9 f10 f11 f12 f13 f14 f15 f16 f17 f18 f19 f20 f21 fL fN fP fM fO) H := hP
    have hD : va_D A (mW ad kc 0 x1 x2 x3 x4 x5 x6 x7 x8 x9 x10 x11 x12 x13 x14 x15 x16 x17 x18 x19 x20 x21 f0 f1 f2 f3 f4 f5 f6 f7 f8 f9 f10 f11 f12 f13 f14 f15 f16 f17 f18 f19 f20 f21 fL fN fP fM fO) := hD
    have lit_2 : (0 : Int32).toInt = 0 := by decide
    exact W.iret hx hb hr (fun t ht hW => ⟨⟨_, _, rfl, rfl, 0, f20, by rw [ht]; exact hP, va_K.moved hW.alike hK, hD⟩, hS.F ht⟩) hS.2.2 dX10_many_50
  · refine lv_tableIn (off := 50) (tgt := 51) hx hb dX10_many_1 (by omega) (by omega) (by rw [show (i1.toInt - 0).toNat = 1 by omega]; rfl) (by decide) ?_
    refine lv_aload_n hx hb dX10_many_51 rfl (lv_at hl 0 rfl) ?_
    refine lv_aload_n hx hb dX10_many_52 rfl (lv_at hl 0 rfl) ?_
    refine va_get (D := (dC, dI)) (ci := 10) (v := .ref (ad 1)) (C := RX10) (T := TX10) (N := 48) hx hb hts fin_X10_manym_X10 hown hK hP 0 rfl rfl 0 (by decide) (hts (.fieldLink RX10 8 "PatternGateModel" "all" "[I") (List.mem_of_getElem? (i := 1) (by decide +kernel))) (fun _ h9 => h9) rfl dX10_many_53 ?_
    refine lv_sipush (v := 611) hx hb dX10_many_56 (by decide) ?_
    refine va_iald hx hb hK hP 1 0 rfl rfl (i := 611) (by unfold vp_in; decide +kernel) dX10_many_59 ?_
    refine lv_topi (fun y_4 ey_4 => ?_)
    have rg_y_4 := i_rng y_4
    have vy_4 := vI_lda (f := f0) (i := 611) (a := 611) ey_4 (by first | omega | decide)
    have rg_y_4 := i_rng y_4
    have hFc := m_free hD hS hA
    refine va_calli (va_runV (As := [.int y_4]) (rest := []) ⟨hx, hb, hml, hown, hts⟩ (m_gives l dC dI ad kc x0 x1 x2 x3 x4 x5 x6 x7 x8 x9 x10 x11 x12 x13 x14 x15 x16 x17 x18 x19 x20 x21 f0 f1 f2 f3 f4 f5 f6 f7 f8 f9 f10 f11 f12 f13 f14 f15 f16 f17 f18 f19 f20 f21 fL fN fP fM fO H.size y_4 ) (cwV 1 hts mg_X10_manym_X10_gives_214 rfl rfl rfl (by decide +kernel) ⟨Nat.le_of_ble_eq_true rfl, Nat.le_of_ble_eq_true rfl⟩) ⟨fun a U g mk q => by obtain ⟨q0, q1, qP, qK, qD⟩ := q; exact ⟨q0, q1, qP, va_K.moved (u := U) (U := U.calling g mk a) (Vm.Alike.refl U.vm) qK, qD⟩, va_recv hK hP (ci := 10) (q0 := 0) rfl rfl, fun U hU hW => ⟨rfl, by rw [hU], by rw [hU]; exact hP, va_K.moved hW.alike hK, hD.weaken (fun _ _ _ _ => trivial)⟩⟩ rfl rfl hl.1 rfl (lv_room (Nat.le_of_ble_eq_true rfl)) dX10_many_60 ⟨Nat.le_of_ble_eq_true rfl, Nat.le_of_ble_eq_true rfl⟩) hS (fun q _ h => hFc q h) hFc (fun r_5 u t H1 locs ht hvm hw hB hz1 hk1 hS => ?_)
    subst hw
    obtain ⟨hr_5_0, hP, hK1, hD1⟩ := hB
    rw [ht] at hP
    have hD := hD1.weaken (fun k q _ h => hFc q.1 h)
    clear hz1 hk1 hFc hD1 hK1 hvm
    generalize H1 = H at hP hS ⊢
    have rg_r_5 := i_rng r_5
    have hP : va_P (dC, dI) vwCl (mW ad kc 0 x1 x2 x3 x4 x5 x6 x7 x8 x9 x10 x11 x12 x13 x14 x15 x16 x17 x18 x19 x20 x21 f0 f1 f2 f3 f4 f5 f6 f7 f8 f9 f10 f11 f12 f13 f14 f15 f16 f17 f18 f19 f20 f21 fL fN fP fM fO) H := hP
    have hD : va_D A (mW ad kc 0 x1 x2 x3 x4 x5 x6 x7 x8 x9 x10 x11 x12 x13 x14 x15 x16 x17 x18 x19 x20 x21 f0 f1 f2 f3 f4 f5 f6 f7 f8 f9 f10 f11 f12 f13 f14 f15 f16 f17 f18 f19 f20 f21 fL fN fP fM fO) := hD
    have lit_5 : (0 : Int32).toInt = 0 := by decide
    exact W.iret hx hb hr (fun t ht hW => ⟨⟨_, _, rfl, rfl, 0, f20, by rw [ht]; exact hP, va_K.moved hW.alike hK, hD⟩, hS.F ht⟩) hS.2.2 dX10_many_63
  · refine lv_tableIn (off := 63) (tgt := 64) hx hb dX10_many_1 (by omega) (by omega) (by rw [show (i1.toInt - 0).toNat = 2 by omega]; rfl) (by decide) ?_
    refine lv_aload_n hx hb dX10_many_64 rfl (lv_at hl 0 rfl) ?_
    refine lv_aload_n hx hb dX10_many_65 rfl (lv_at hl 0 rfl) ?_
    have hFc := m_free hD hS hA
    refine va_calli (va_runV (As := []) (rest := [.ref (ad 0)]) ⟨hx, hb, hml, hown, hts⟩ (m_allLetters l dC dI ad kc x0 x1 x2 x3 x4 x5 x6 x7 x8 x9 x10 x11 x12 x13 x14 x15 x16 x17 x18 x19 x20 x21 f0 f1 f2 f3 f4 f5 f6 f7 f8 f9 f10 f11 f12 f13 f14 f15 f16 f17 f18 f19 f20 f21 fL fN fP fM fO H.size (by first | omega | assumption | decide | (have l0 := Int32.toInt_zero; omega))) (cwV 0 hts mg_X10_manym_X10_allLetters_433 rfl rfl rfl (by decide +kernel) ⟨Nat.le_of_ble_eq_true rfl, Nat.le_of_ble_eq_true rfl⟩) ⟨fun a U g mk q => by obtain ⟨q0, q1, qP, qK, qD⟩ := q; exact ⟨q0, q1, qP, va_K.moved (u := U) (U := U.calling g mk a) (Vm.Alike.refl U.vm) qK, qD⟩, va_recv hK hP (ci := 10) (q0 := 0) rfl rfl, fun U hU hW => ⟨rfl, by rw [hU], by rw [hU]; exact hP, va_K.moved hW.alike hK, hD.weaken (fun _ _ _ _ => trivial)⟩⟩ rfl rfl hl.1 rfl (lv_room (Nat.le_of_ble_eq_true rfl)) dX10_many_66 ⟨Nat.le_of_ble_eq_true rfl, Nat.le_of_ble_eq_true rfl⟩) hS (fun q _ h => hFc q h) hFc (fun r_7 u t H1 locs ht hvm hw hB hz1 hk1 hS => ?_)
    subst hw
    obtain ⟨hP, hK1, hD1⟩ := hB
    rw [ht] at hP
    have hD := hD1.weaken (fun k q _ h => hFc q.1 h)
    clear hz1 hk1 hFc hD1 hK1 hvm
    generalize H1 = H at hP hS ⊢
    have rg_r_7 := i_rng r_7
    have hP : va_P (dC, dI) vwCl (mW ad kc x0 x1 x2 x3 x4 x5 x6 x7 x8 x9 x10 x11 x12 x13 x14 x15 x16 x17 x18 x19 x20 x21 f0 f1 f2 f3 f4 f5 f6 f7 f8 f9 f10 f11 f12 f13 f14 f15 f16 f17 f18 f19 f20 f21 fL fN fP fM fO) H := hP
    have hD : va_D A (mW ad kc x0 x1 x2 x3 x4 x5 x6 x7 x8 x9 x10 x11 x12 x13 x14 x15 x16 x17 x18 x19 x20 x21 f0 f1 f2 f3 f4 f5 f6 f7 f8 f9 f10 f11 f12 f13 f14 f15 f16 f17 f18 f19 f20 f21 fL fN fP fM fO) := hD
    have hFc := m_free hD hS hA
    refine va_calli (va_runV (As := [.int r_7]) (rest := []) ⟨hx, hb, hml, hown, hts⟩ (m_gives l dC dI ad kc x0 x1 x2 x3 x4 x5 x6 x7 x8 x9 x10 x11 x12 x13 x14 x15 x16 x17 x18 x19 x20 x21 f0 f1 f2 f3 f4 f5 f6 f7 f8 f9 f10 f11 f12 f13 f14 f15 f16 f17 f18 f19 f20 f21 fL fN fP fM fO H.size r_7 ) (cwV 1 hts mg_X10_manym_X10_gives_214 rfl rfl rfl (by decide +kernel) ⟨Nat.le_of_ble_eq_true rfl, Nat.le_of_ble_eq_true rfl⟩) ⟨fun a U g mk q => by obtain ⟨q0, q1, qP, qK, qD⟩ := q; exact ⟨q0, q1, qP, va_K.moved (u := U) (U := U.calling g mk a) (Vm.Alike.refl U.vm) qK, qD⟩, va_recv hK hP (ci := 10) (q0 := 0) rfl rfl, fun U hU hW => ⟨rfl, by rw [hU], by rw [hU]; exact hP, va_K.moved hW.alike hK, hD.weaken (fun _ _ _ _ => trivial)⟩⟩ rfl rfl hl.1 rfl (lv_room (Nat.le_of_ble_eq_true rfl)) dX10_many_69 ⟨Nat.le_of_ble_eq_true rfl, Nat.le_of_ble_eq_true rfl⟩) hS (fun q _ h => hFc q h) hFc (fun r_8 u t H1 locs ht hvm hw hB hz1 hk1 hS => ?_)
    subst hw
    obtain ⟨hr_8_0, hP, hK1, hD1⟩ := hB
    rw [ht] at hP
    have hD := hD1.weaken (fun k q _ h => hFc q.1 h)
    clear hz1 hk1 hFc hD1 hK1 hvm
    generalize H1 = H at hP hS ⊢
    have rg_r_8 := i_rng r_8
    have hP : va_P (dC, dI) vwCl (mW ad kc 0 x1 x2 x3 x4 x5 x6 x7 x8 x9 x10 x11 x12 x13 x14 x15 x16 x17 x18 x19 x20 x21 f0 f1 f2 f3 f4 f5 f6 f7 f8 f9 f10 f11 f12 f13 f14 f15 f16 f17 f18 f19 f20 f21 fL fN fP fM fO) H := hP
    have hD : va_D A (mW ad kc 0 x1 x2 x3 x4 x5 x6 x7 x8 x9 x10 x11 x12 x13 x14 x15 x16 x17 x18 x19 x20 x21 f0 f1 f2 f3 f4 f5 f6 f7 f8 f9 f10 f11 f12 f13 f14 f15 f16 f17 f18 f19 f20 f21 fL fN fP fM fO) := hD
    have lit_8 : (0 : Int32).toInt = 0 := by decide
    exact W.iret hx hb hr (fun t ht hW => ⟨⟨_, _, rfl, rfl, 0, f20, by rw [ht]; exact hP, va_K.moved hW.alike hK, hD⟩, hS.F ht⟩) hS.2.2 dX10_many_72
  · refine lv_tableIn (off := 72) (tgt := 73) hx hb dX10_many_1 (by omega) (by omega) (by rw [show (i1.toInt - 0).toNat = 3 by omega]; rfl) (by decide) ?_
    refine lv_aload_n hx hb dX10_many_73 rfl (lv_at hl 0 rfl) ?_
    refine lv_aload_n hx hb dX10_many_74 rfl (lv_at hl 0 rfl) ?_
    refine lv_iconst (v := 0) hx hb dX10_many_75 (by decide) ?_
    refine lv_aload_n hx hb dX10_many_76 rfl (lv_at hl 0 rfl) ?_
    refine va_get (D := (dC, dI)) (ci := 10) (v := .ref (ad 1)) (C := RX10) (T := TX10) (N := 48) hx hb hts fin_X10_manym_X10 hown hK hP 0 rfl rfl 0 (by decide) (hts (.fieldLink RX10 8 "PatternGateModel" "all" "[I") (List.mem_of_getElem? (i := 1) (by decide +kernel))) (fun _ h9 => h9) rfl dX10_many_77 ?_
    refine lv_iconst (v := 0) hx hb dX10_many_80 (by decide) ?_
    refine va_iald hx hb hK hP 1 0 rfl rfl (i := 0) (by unfold vp_in; decide +kernel) dX10_many_81 ?_
    refine lv_topi (fun y_10 ey_10 => ?_)
    have rg_y_10 := i_rng y_10
    have vy_10 := vI_lda (f := f0) (i := 0) (a := 0) ey_10 (by first | omega | decide)
    have rg_y_10 := i_rng y_10
    have hFc := m_free hD hS hA
    refine va_calli (va_runV (As := [.int 0, .int y_10]) (rest := [.ref (ad 0)]) ⟨hx, hb, hml, hown, hts⟩ (m_unlike l dC dI ad kc x0 x1 x2 x3 x4 x5 x6 x7 x8 x9 x10 x11 x12 x13 x14 x15 x16 x17 x18 x19 x20 x21 f0 f1 f2 f3 f4 f5 f6 f7 f8 f9 f10 f11 f12 f13 f14 f15 f16 f17 f18 f19 f20 f21 fL fN fP fM fO H.size 0 y_10 (by first | omega | assumption | decide | (have l0 := Int32.toInt_zero; omega)) (by first | omega | assumption | decide | (have l0 := Int32.toInt_zero; omega)) (by first | omega | assumption | decide | (have l0 := Int32.toInt_zero; omega))) (cwV 2 hts mg_X10_manym_X10_unlike_436 rfl rfl rfl (by decide +kernel) ⟨Nat.le_of_ble_eq_true rfl, Nat.le_of_ble_eq_true rfl⟩) ⟨fun a U g mk q => by obtain ⟨q0, q1, qP, qK, qD⟩ := q; exact ⟨q0, q1, qP, va_K.moved (u := U) (U := U.calling g mk a) (Vm.Alike.refl U.vm) qK, qD⟩, va_recv hK hP (ci := 10) (q0 := 0) rfl rfl, fun U hU hW => ⟨rfl, by rw [hU], by rw [hU]; exact hP, va_K.moved hW.alike hK, hD.weaken (fun _ _ _ _ => trivial)⟩⟩ rfl rfl hl.1 rfl (lv_room (Nat.le_of_ble_eq_true rfl)) dX10_many_82 ⟨Nat.le_of_ble_eq_true rfl, Nat.le_of_ble_eq_true rfl⟩) hS (fun q _ h => hFc q h) hFc (fun r_11 u t H1 locs ht hvm hw hB hz1 hk1 hS => ?_)
    subst hw
    obtain ⟨f_12, hP, hK1, hD1⟩ := hB
    rw [ht] at hP
    have hD := hD1.weaken (fun k q _ h => hFc q.1 h)
    clear hz1 hk1 hFc hD1 hK1 hvm
    generalize H1 = H at hP hS ⊢
    have rg_r_11 := i_rng r_11
    have hP : va_P (dC, dI) vwCl (mW ad kc x0 x1 x2 x3 x4 x5 x6 x7 x8 x9 x10 x11 x12 x13 x14 x15 x16 x17 x18 x19 x20 x21 f0 f1 f2 f3 f4 f5 f6 f7 f8 f9 f10 f11 f12 f13 f14 f15 f16 f17 f18 f19 f_12 f21 fL fN fP fM fO) H := hP
    have hD : va_D A (mW ad kc x0 x1 x2 x3 x4 x5 x6 x7 x8 x9 x10 x11 x12 x13 x14 x15 x16 x17 x18 x19 x20 x21 f0 f1 f2 f3 f4 f5 f6 f7 f8 f9 f10 f11 f12 f13 f14 f15 f16 f17 f18 f19 f_12 f21 fL fN fP fM fO) := hD
    have hFc := m_free hD hS hA
    refine va_calli (va_runV (As := [.int r_11]) (rest := []) ⟨hx, hb, hml, hown, hts⟩ (m_gives l dC dI ad kc x0 x1 x2 x3 x4 x5 x6 x7 x8 x9 x10 x11 x12 x13 x14 x15 x16 x17 x18 x19 x20 x21 f0 f1 f2 f3 f4 f5 f6 f7 f8 f9 f10 f11 f12 f13 f14 f15 f16 f17 f18 f19 f_12 f21 fL fN fP fM fO H.size r_11 ) (cwV 1 hts mg_X10_manym_X10_gives_214 rfl rfl rfl (by decide +kernel) ⟨Nat.le_of_ble_eq_true rfl, Nat.le_of_ble_eq_true rfl⟩) ⟨fun a U g mk q => by obtain ⟨q0, q1, qP, qK, qD⟩ := q; exact ⟨q0, q1, qP, va_K.moved (u := U) (U := U.calling g mk a) (Vm.Alike.refl U.vm) qK, qD⟩, va_recv hK hP (ci := 10) (q0 := 0) rfl rfl, fun U hU hW => ⟨rfl, by rw [hU], by rw [hU]; exact hP, va_K.moved hW.alike hK, hD.weaken (fun _ _ _ _ => trivial)⟩⟩ rfl rfl hl.1 rfl (lv_room (Nat.le_of_ble_eq_true rfl)) dX10_many_85 ⟨Nat.le_of_ble_eq_true rfl, Nat.le_of_ble_eq_true rfl⟩) hS (fun q _ h => hFc q h) hFc (fun r_13 u t H1 locs ht hvm hw hB hz1 hk1 hS => ?_)
    subst hw
    obtain ⟨hr_13_0, hP, hK1, hD1⟩ := hB
    rw [ht] at hP
    have hD := hD1.weaken (fun k q _ h => hFc q.1 h)
    clear hz1 hk1 hFc hD1 hK1 hvm
    generalize H1 = H at hP hS ⊢
    have rg_r_13 := i_rng r_13
    have hP : va_P (dC, dI) vwCl (mW ad kc 0 x1 x2 x3 x4 x5 x6 x7 x8 x9 x10 x11 x12 x13 x14 x15 x16 x17 x18 x19 x20 x21 f0 f1 f2 f3 f4 f5 f6 f7 f8 f9 f10 f11 f12 f13 f14 f15 f16 f17 f18 f19 f_12 f21 fL fN fP fM fO) H := hP
    have hD : va_D A (mW ad kc 0 x1 x2 x3 x4 x5 x6 x7 x8 x9 x10 x11 x12 x13 x14 x15 x16 x17 x18 x19 x20 x21 f0 f1 f2 f3 f4 f5 f6 f7 f8 f9 f10 f11 f12 f13 f14 f15 f16 f17 f18 f19 f_12 f21 fL fN fP fM fO) := hD
    have lit_13 : (0 : Int32).toInt = 0 := by decide
    exact W.iret hx hb hr (fun t ht hW => ⟨⟨_, _, rfl, rfl, 0, f_12, by rw [ht]; exact hP, va_K.moved hW.alike hK, hD⟩, hS.F ht⟩) hS.2.2 dX10_many_88
  · refine lv_tableIn (off := 88) (tgt := 89) hx hb dX10_many_1 (by omega) (by omega) (by rw [show (i1.toInt - 0).toNat = 4 by omega]; rfl) (by decide) ?_
    refine lv_aload_n hx hb dX10_many_89 rfl (lv_at hl 0 rfl) ?_
    refine lv_aload_n hx hb dX10_many_90 rfl (lv_at hl 0 rfl) ?_
    refine va_get (D := (dC, dI)) (ci := 10) (v := .int x1) (C := RX10) (T := TX10) (N := 48) hx hb hts fin_X10_manym_X10 hown hK hP 0 rfl rfl 2 (by decide) (hts (.fieldLink RX10 439 "PatternGateModel" "acts" "I") (List.mem_of_getElem? (i := 12) (by decide +kernel))) (fun _ h9 => h9) rfl dX10_many_91 ?_
    have hFc := m_free hD hS hA
    refine va_calli (va_runV (As := [.int x1]) (rest := []) ⟨hx, hb, hml, hown, hts⟩ (m_gives l dC dI ad kc x0 x1 x2 x3 x4 x5 x6 x7 x8 x9 x10 x11 x12 x13 x14 x15 x16 x17 x18 x19 x20 x21 f0 f1 f2 f3 f4 f5 f6 f7 f8 f9 f10 f11 f12 f13 f14 f15 f16 f17 f18 f19 f20 f21 fL fN fP fM fO H.size x1 ) (cwV 1 hts mg_X10_manym_X10_gives_214 rfl rfl rfl (by decide +kernel) ⟨Nat.le_of_ble_eq_true rfl, Nat.le_of_ble_eq_true rfl⟩) ⟨fun a U g mk q => by obtain ⟨q0, q1, qP, qK, qD⟩ := q; exact ⟨q0, q1, qP, va_K.moved (u := U) (U := U.calling g mk a) (Vm.Alike.refl U.vm) qK, qD⟩, va_recv hK hP (ci := 10) (q0 := 0) rfl rfl, fun U hU hW => ⟨rfl, by rw [hU], by rw [hU]; exact hP, va_K.moved hW.alike hK, hD.weaken (fun _ _ _ _ => trivial)⟩⟩ rfl rfl hl.1 rfl (lv_room (Nat.le_of_ble_eq_true rfl)) dX10_many_94 ⟨Nat.le_of_ble_eq_true rfl, Nat.le_of_ble_eq_true rfl⟩) hS (fun q _ h => hFc q h) hFc (fun r_15 u t H1 locs ht hvm hw hB hz1 hk1 hS => ?_)
    subst hw
    obtain ⟨hr_15_0, hP, hK1, hD1⟩ := hB
    rw [ht] at hP
    have hD := hD1.weaken (fun k q _ h => hFc q.1 h)
    clear hz1 hk1 hFc hD1 hK1 hvm
    generalize H1 = H at hP hS ⊢
    have rg_r_15 := i_rng r_15
    have hP : va_P (dC, dI) vwCl (mW ad kc 0 x1 x2 x3 x4 x5 x6 x7 x8 x9 x10 x11 x12 x13 x14 x15 x16 x17 x18 x19 x20 x21 f0 f1 f2 f3 f4 f5 f6 f7 f8 f9 f10 f11 f12 f13 f14 f15 f16 f17 f18 f19 f20 f21 fL fN fP fM fO) H := hP
    have hD : va_D A (mW ad kc 0 x1 x2 x3 x4 x5 x6 x7 x8 x9 x10 x11 x12 x13 x14 x15 x16 x17 x18 x19 x20 x21 f0 f1 f2 f3 f4 f5 f6 f7 f8 f9 f10 f11 f12 f13 f14 f15 f16 f17 f18 f19 f20 f21 fL fN fP fM fO) := hD
    have lit_15 : (0 : Int32).toInt = 0 := by decide
    exact W.iret hx hb hr (fun t ht hW => ⟨⟨_, _, rfl, rfl, 0, f20, by rw [ht]; exact hP, va_K.moved hW.alike hK, hD⟩, hS.F ht⟩) hS.2.2 dX10_many_97
  · refine lv_tableIn (off := 97) (tgt := 98) hx hb dX10_many_1 (by omega) (by omega) (by rw [show (i1.toInt - 0).toNat = 5 by omega]; rfl) (by decide) ?_
    refine lv_aload_n hx hb dX10_many_98 rfl (lv_at hl 0 rfl) ?_
    refine lv_aload_n hx hb dX10_many_99 rfl (lv_at hl 0 rfl) ?_
    refine va_get (D := (dC, dI)) (ci := 10) (v := .int x2) (C := RX10) (T := TX10) (N := 48) hx hb hts fin_X10_manym_X10 hown hK hP 0 rfl rfl 3 (by decide) (hts (.fieldLink RX10 442 "PatternGateModel" "marks" "I") (List.mem_of_getElem? (i := 13) (by decide +kernel))) (fun _ h9 => h9) rfl dX10_many_100 ?_
    have hFc := m_free hD hS hA
    refine va_calli (va_runV (As := [.int x2]) (rest := []) ⟨hx, hb, hml, hown, hts⟩ (m_gives l dC dI ad kc x0 x1 x2 x3 x4 x5 x6 x7 x8 x9 x10 x11 x12 x13 x14 x15 x16 x17 x18 x19 x20 x21 f0 f1 f2 f3 f4 f5 f6 f7 f8 f9 f10 f11 f12 f13 f14 f15 f16 f17 f18 f19 f20 f21 fL fN fP fM fO H.size x2 ) (cwV 1 hts mg_X10_manym_X10_gives_214 rfl rfl rfl (by decide +kernel) ⟨Nat.le_of_ble_eq_true rfl, Nat.le_of_ble_eq_true rfl⟩) ⟨fun a U g mk q => by obtain ⟨q0, q1, qP, qK, qD⟩ := q; exact ⟨q0, q1, qP, va_K.moved (u := U) (U := U.calling g mk a) (Vm.Alike.refl U.vm) qK, qD⟩, va_recv hK hP (ci := 10) (q0 := 0) rfl rfl, fun U hU hW => ⟨rfl, by rw [hU], by rw [hU]; exact hP, va_K.moved hW.alike hK, hD.weaken (fun _ _ _ _ => trivial)⟩⟩ rfl rfl hl.1 rfl (lv_room (Nat.le_of_ble_eq_true rfl)) dX10_many_103 ⟨Nat.le_of_ble_eq_true rfl, Nat.le_of_ble_eq_true rfl⟩) hS (fun q _ h => hFc q h) hFc (fun r_17 u t H1 locs ht hvm hw hB hz1 hk1 hS => ?_)
    subst hw
    obtain ⟨hr_17_0, hP, hK1, hD1⟩ := hB
    rw [ht] at hP
    have hD := hD1.weaken (fun k q _ h => hFc q.1 h)
    clear hz1 hk1 hFc hD1 hK1 hvm
    generalize H1 = H at hP hS ⊢
    have rg_r_17 := i_rng r_17
    have hP : va_P (dC, dI) vwCl (mW ad kc 0 x1 x2 x3 x4 x5 x6 x7 x8 x9 x10 x11 x12 x13 x14 x15 x16 x17 x18 x19 x20 x21 f0 f1 f2 f3 f4 f5 f6 f7 f8 f9 f10 f11 f12 f13 f14 f15 f16 f17 f18 f19 f20 f21 fL fN fP fM fO) H := hP
    have hD : va_D A (mW ad kc 0 x1 x2 x3 x4 x5 x6 x7 x8 x9 x10 x11 x12 x13 x14 x15 x16 x17 x18 x19 x20 x21 f0 f1 f2 f3 f4 f5 f6 f7 f8 f9 f10 f11 f12 f13 f14 f15 f16 f17 f18 f19 f20 f21 fL fN fP fM fO) := hD
    have lit_17 : (0 : Int32).toInt = 0 := by decide
    exact W.iret hx hb hr (fun t ht hW => ⟨⟨_, _, rfl, rfl, 0, f20, by rw [ht]; exact hP, va_K.moved hW.alike hK, hD⟩, hS.F ht⟩) hS.2.2 dX10_many_106
  · refine lv_tableOut (tgt := 107) hx hb dX10_many_1 hsw (by decide) ?_
    refine lv_aload_n hx hb dX10_many_107 rfl (lv_at hl 0 rfl) ?_
    refine lv_iconst (v := 1) hx hb dX10_many_108 (by decide) ?_
    have hFc := m_free hD hS hA
    refine va_calli (va_runV (As := [.int 1]) (rest := []) ⟨hx, hb, hml, hown, hts⟩ (m_refuse l dC dI ad kc x0 x1 x2 x3 x4 x5 x6 x7 x8 x9 x10 x11 x12 x13 x14 x15 x16 x17 x18 x19 x20 x21 f0 f1 f2 f3 f4 f5 f6 f7 f8 f9 f10 f11 f12 f13 f14 f15 f16 f17 f18 f19 f20 f21 fL fN fP fM fO H.size 1 ) (cwV 1 hts mg_X10_manym_X10_refuse_204 rfl rfl rfl (by decide +kernel) ⟨Nat.le_of_ble_eq_true rfl, Nat.le_of_ble_eq_true rfl⟩) ⟨fun a U g mk q => by obtain ⟨q0, q1, qP, qK, qD⟩ := q; exact ⟨q0, q1, qP, va_K.moved (u := U) (U := U.calling g mk a) (Vm.Alike.refl U.vm) qK, qD⟩, va_recv hK hP (ci := 10) (q0 := 0) rfl rfl, fun U hU hW => ⟨rfl, by rw [hU], by rw [hU]; exact hP, va_K.moved hW.alike hK, hD.weaken (fun _ _ _ _ => trivial)⟩⟩ rfl rfl hl.1 rfl (lv_room (Nat.le_of_ble_eq_true rfl)) dX10_many_109 ⟨Nat.le_of_ble_eq_true rfl, Nat.le_of_ble_eq_true rfl⟩) hS (fun q _ h => hFc q h) hFc (fun r_19 u t H1 locs ht hvm hw hB hz1 hk1 hS => ?_)
    subst hw
    obtain ⟨hr_19_0, hP, hK1, hD1⟩ := hB
    rw [ht] at hP
    have hD := hD1.weaken (fun k q _ h => hFc q.1 h)
    clear hz1 hk1 hFc hD1 hK1 hvm
    generalize H1 = H at hP hS ⊢
    have rg_r_19 := i_rng r_19
    have hP : va_P (dC, dI) vwCl (mW ad kc 1 x1 x2 x3 x4 x5 x6 x7 x8 x9 x10 x11 x12 x13 x14 x15 x16 x17 x18 x19 x20 x21 f0 f1 f2 f3 f4 f5 f6 f7 f8 f9 f10 f11 f12 f13 f14 f15 f16 f17 f18 f19 f20 f21 fL fN fP fM fO) H := hP
    have hD : va_D A (mW ad kc 1 x1 x2 x3 x4 x5 x6 x7 x8 x9 x10 x11 x12 x13 x14 x15 x16 x17 x18 x19 x20 x21 f0 f1 f2 f3 f4 f5 f6 f7 f8 f9 f10 f11 f12 f13 f14 f15 f16 f17 f18 f19 f20 f21 fL fN fP fM fO) := hD
    have lit_19 : (1 : Int32).toInt = 1 := by decide
    exact W.iret hx hb hr (fun t ht hW => ⟨⟨_, _, rfl, rfl, 1, f20, by rw [ht]; exact hP, va_K.moved hW.alike hK, hD⟩, hS.F ht⟩) hS.2.2 dX10_many_112
theorem dX10_letter_0 : decode cX10_letter 0 = .ok (.iload_n 2, 1) := by decide +kernel
theorem dX10_letter_1 : decode cX10_letter 1 = .ok (.ifCond .ge 9, 3) := by decide +kernel
theorem dX10_letter_4 : decode cX10_letter 4 = .ok (.aload_n 0, 1) := by decide +kernel
theorem dX10_letter_5 : decode cX10_letter 5 = .ok (.iconst 1, 1) := by decide +kernel
theorem dX10_letter_6 : decode cX10_letter 6 = .ok (.invokevirtual 204, 3) := by decide +kernel
theorem dX10_letter_9 : decode cX10_letter 9 = .ok (.ireturn, 1) := by decide +kernel
theorem dX10_letter_10 : decode cX10_letter 10 = .ok (.aload_n 0, 1) := by decide +kernel
theorem dX10_letter_11 : decode cX10_letter 11 = .ok (.iload_n 1, 1) := by decide +kernel
theorem dX10_letter_12 : decode cX10_letter 12 = .ok (.invokevirtual 451, 3) := by decide +kernel
theorem dX10_letter_15 : decode cX10_letter 15 = .ok (.ifCond .ne 9, 3) := by decide +kernel
theorem dX10_letter_18 : decode cX10_letter 18 = .ok (.aload_n 0, 1) := by decide +kernel
theorem dX10_letter_19 : decode cX10_letter 19 = .ok (.iconst 2, 1) := by decide +kernel
theorem dX10_letter_20 : decode cX10_letter 20 = .ok (.invokevirtual 204, 3) := by decide +kernel
theorem dX10_letter_23 : decode cX10_letter 23 = .ok (.ireturn, 1) := by decide +kernel
theorem dX10_letter_24 : decode cX10_letter 24 = .ok (.iload_n 2, 1) := by decide +kernel
theorem dX10_letter_25 : decode cX10_letter 25 = .ok (.aload_n 0, 1) := by decide +kernel
theorem dX10_letter_26 : decode cX10_letter 26 = .ok (.iload_n 1, 1) := by decide +kernel
theorem dX10_letter_27 : decode cX10_letter 27 = .ok (.invokevirtual 396, 3) := by decide +kernel
theorem dX10_letter_30 : decode cX10_letter 30 = .ok (.if_icmp .ge 16, 3) := by decide +kernel
theorem dX10_letter_33 : decode cX10_letter 33 = .ok (.aload_n 0, 1) := by decide +kernel
theorem dX10_letter_34 : decode cX10_letter 34 = .ok (.aload_n 0, 1) := by decide +kernel
theorem dX10_letter_35 : decode cX10_letter 35 = .ok (.iload_n 1, 1) := by decide +kernel
theorem dX10_letter_36 : decode cX10_letter 36 = .ok (.iload_n 2, 1) := by decide +kernel
theorem dX10_letter_37 : decode cX10_letter 37 = .ok (.invokevirtual 399, 3) := by decide +kernel
theorem dX10_letter_40 : decode cX10_letter 40 = .ok (.invokevirtual 214, 3) := by decide +kernel
theorem dX10_letter_43 : decode cX10_letter 43 = .ok (.goto 8, 3) := by decide +kernel
theorem dX10_letter_46 : decode cX10_letter 46 = .ok (.aload_n 0, 1) := by decide +kernel
theorem dX10_letter_47 : decode cX10_letter 47 = .ok (.iconst 5, 1) := by decide +kernel
theorem dX10_letter_48 : decode cX10_letter 48 = .ok (.invokevirtual 204, 3) := by decide +kernel
theorem dX10_letter_51 : decode cX10_letter 51 = .ok (.ireturn, 1) := by decide +kernel
def mwX10_letterm : List Cond := .code yX10_letter cX10_letter 3 (some .int) :: (([.methodLink RX10 451 yX10_isDoc, .instanceMethod yX10_isDoc, .selects RX10 yX10_isDoc yX10_isDoc, .initialized RX10, .methodLink RX10 396 yX10_sizeOf, .instanceMethod yX10_sizeOf, .selects RX10 yX10_sizeOf yX10_sizeOf, .methodLink RX10 204 yX10_refuse, .instanceMethod yX10_refuse, .selects RX10 yX10_refuse yX10_refuse, .methodLink RX10 399 yX10_at, .instanceMethod yX10_at, .selects RX10 yX10_at yX10_at, .methodLink RX10 214 yX10_gives, .instanceMethod yX10_gives, .selects RX10 yX10_gives yX10_gives] : List Cond) ++ (mwX10_isDocm ++ (mwX10_sizeOfm ++ (mwX10_refusem ++ (mwX10_atm ++ (mwX10_givesm))))))
set_option maxRecDepth 100000 in
theorem gd_mwX10_isDocm : mwX10_isDocm.all goodWord = true := by decide +kernel
set_option maxRecDepth 20000 in
theorem mg_X10_letterm_X10_isDoc_451 : GoodIn mwX10_letterm (wsV RX10 451 RX10 yX10_isDoc mwX10_isDocm) := gi_app (A := [.methodLink RX10 451 yX10_isDoc, .instanceMethod yX10_isDoc, .selects RX10 yX10_isDoc yX10_isDoc, .initialized RX10]) (goodIn_r _ [1, 2, 3, 4] (by decide +kernel) (by decide +kernel)) (gi_sub gd_mwX10_isDocm (fun w h => List.mem_cons_of_mem _ (List.mem_append_right _ (List.mem_append_left _ h))))
set_option maxRecDepth 20000 in
theorem mg_X10_letterm_X10_sizeOf_396 : GoodIn mwX10_letterm (wsV RX10 396 RX10 yX10_sizeOf mwX10_sizeOfm) := gi_app (A := [.methodLink RX10 396 yX10_sizeOf, .instanceMethod yX10_sizeOf, .selects RX10 yX10_sizeOf yX10_sizeOf, .initialized RX10]) (goodIn_r _ [5, 6, 7, 4] (by decide +kernel) (by decide +kernel)) (gi_sub gd_mwX10_sizeOfm (fun w h => List.mem_cons_of_mem _ (List.mem_append_right _ (List.mem_append_right _ (List.mem_append_left _ h)))))
set_option maxRecDepth 20000 in
theorem mg_X10_letterm_X10_refuse_204 : GoodIn mwX10_letterm (wsV RX10 204 RX10 yX10_refuse mwX10_refusem) := gi_app (A := [.methodLink RX10 204 yX10_refuse, .instanceMethod yX10_refuse, .selects RX10 yX10_refuse yX10_refuse, .initialized RX10]) (goodIn_r _ [8, 9, 10, 4] (by decide +kernel) (by decide +kernel)) (gi_sub gd_mwX10_refusem (fun w h => List.mem_cons_of_mem _ (List.mem_append_right _ (List.mem_append_right _ (List.mem_append_right _ (List.mem_append_left _ h))))))
set_option maxRecDepth 20000 in
theorem mg_X10_letterm_X10_at_399 : GoodIn mwX10_letterm (wsV RX10 399 RX10 yX10_at mwX10_atm) := gi_app (A := [.methodLink RX10 399 yX10_at, .instanceMethod yX10_at, .selects RX10 yX10_at yX10_at, .initialized RX10]) (goodIn_r _ [11, 12, 13, 4] (by decide +kernel) (by decide +kernel)) (gi_sub gd_mwX10_atm (fun w h => List.mem_cons_of_mem _ (List.mem_append_right _ (List.mem_append_right _ (List.mem_append_right _ (List.mem_append_right _ (List.mem_append_left _ h)))))))
set_option maxRecDepth 20000 in
theorem mg_X10_letterm_X10_gives_214 : GoodIn mwX10_letterm (wsV RX10 214 RX10 yX10_gives mwX10_givesm) := gi_app (A := [.methodLink RX10 214 yX10_gives, .instanceMethod yX10_gives, .selects RX10 yX10_gives yX10_gives, .initialized RX10]) (goodIn_r _ [14, 15, 16, 4] (by decide +kernel) (by decide +kernel)) (gi_sub gd_mwX10_givesm (fun w h => List.mem_cons_of_mem _ (List.mem_append_right _ (List.mem_append_right _ (List.mem_append_right _ (List.mem_append_right _ (List.mem_append_right _ (h))))))))
set_option maxHeartbeats 4000000 in
set_option maxRecDepth 100000 in
theorem m_letter (l : Launch) (dC : Nat → ClassId) (dI : Nat → Nat → Nat) (ad : Nat → Nat) (kc : Nat → ClassId) (x0 x1 x2 x3 x4 x5 x6 x7 x8 x9 x10 x11 x12 x13 x14 x15 x16 x17 x18 x19 x20 x21 : Int32) (f0 f1 f2 f3 f4 f5 f6 f7 f8 f9 f10 f11 f12 f13 f14 f15 f16 f17 f18 f19 f20 f21 : Nat → Int32) (fL : Nat → Nat → Int64) (fN : Nat → Nat → Int32) (fP : Nat → Nat → Nat) (fM : Nat → Nat → Int32) (fO : Nat → Nat → Int32) (sz : Nat) (i1 i2 : Int32) (q0 : mI x1.toInt x2.toInt x3.toInt f0 fP) : Met l yX10_letter mwX10_letterm ({ frames := 1, cells := 0, slots := 0, locals := 60 }) (va_Pc [.ref (ad 0), .int i1, .int i2] (fun U => U.heap.size = sz ∧ va_P (dC, dI) vwCl (mW ad kc x0 x1 x2 x3 x4 x5 x6 x7 x8 x9 x10 x11 x12 x13 x14 x15 x16 x17 x18 x19 x20 x21 f0 f1 f2 f3 f4 f5 f6 f7 f8 f9 f10 f11 f12 f13 f14 f15 f16 f17 f18 f19 f20 f21 fL fN fP fM fO) U.heap ∧ va_K (dC, dI) vwCl (mT kc) U ∧ va_D (fun _ => True) (mW ad kc x0 x1 x2 x3 x4 x5 x6 x7 x8 x9 x10 x11 x12 x13 x14 x15 x16 x17 x18 x19 x20 x21 f0 f1 f2 f3 f4 f5 f6 f7 f8 f9 f10 f11 f12 f13 f14 f15 f16 f17 f18 f19 f20 f21 fL fN fP fM fO))) (va_Qi (fun (o9 u9 : Int32) => o9 = u9) (fun (o9 : Int32) t => ∃ (y0 : Int32), va_P (dC, dI) vwCl (mW ad kc y0 x1 x2 x3 x4 x5 x6 x7 x8 x9 x10 x11 x12 x13 x14 x15 x16 x17 x18 x19 x20 x21 f0 f1 f2 f3 f4 f5 f6 f7 f8 f9 f10 f11 f12 f13 f14 f15 f16 f17 f18 f19 f20 f21 fL fN fP fM fO) t.heap ∧ va_K (dC, dI) vwCl (mT kc) t ∧ va_D (va_A (mW ad kc x0 x1 x2 x3 x4 x5 x6 x7 x8 x9 x10 x11 x12 x13 x14 x15 x16 x17 x18 x19 x20 x21 f0 f1 f2 f3 f4 f5 f6 f7 f8 f9 f10 f11 f12 f13 f14 f15 f16 f17 f18 f19 f20 f21 fL fN fP fM fO) sz) (mW ad kc y0 x1 x2 x3 x4 x5 x6 x7 x8 x9 x10 x11 x12 x13 x14 x15 x16 x17 x18 x19 x20 x21 f0 f1 f2 f3 f4 f5 f6 f7 f8 f9 f10 f11 f12 f13 f14 f15 f16 f17 f18 f19 f20 f21 fL fN fP fM fO)) (va_A (mW ad kc x0 x1 x2 x3 x4 x5 x6 x7 x8 x9 x10 x11 x12 x13 x14 x15 x16 x17 x18 x19 x20 x21 f0 f1 f2 f3 f4 f5 f6 f7 f8 f9 f10 f11 f12 f13 f14 f15 f16 f17 f18 f19 f20 f21 fL fN fP fM fO) sz)) 0 0 (va_A (mW ad kc x0 x1 x2 x3 x4 x5 x6 x7 x8 x9 x10 x11 x12 x13 x14 x15 x16 x17 x18 x19 x20 x21 f0 f1 f2 f3 f4 f5 f6 f7 f8 f9 f10 f11 f12 f13 f14 f15 f16 f17 f18 f19 f20 f21 fL fN fP fM fO) sz) := by
  refine Met.ofW (cc := cX10_letter) (maxL := 3) (ret := (some .int)) (by decide +kernel) rfl ?_
  intro p e s m args below meth c s₁ B hml hv
  obtain ⟨rfl, hsz, hP, hK, hD0⟩ := hv
  have hx := B.exec
  have hb := B.bytes
  have hr := B.returns
  have hts := atoms_spec (ws := mwX10_letterm) B.pre
  have hown : s.vm.findClass RX10 = some m.cls := findClass_of_methodNamed B.named
  have hlocks := B.notSynchronized
  subst hsz
  have hD := hD0.self (sz := s.heap.size)
  generalize hAe : va_A (mW ad kc x0 x1 x2 x3 x4 x5 x6 x7 x8 x9 x10 x11 x12 x13 x14 x15 x16 x17 x18 x19 x20 x21 f0 f1 f2 f3 f4 f5 f6 f7 f8 f9 f10 f11 f12 f13 f14 f15 f16 f17 f18 f19 f20 f21 fL fN fP fM fO) s.heap.size = A at hD ⊢
  have hA : ∀ q : Nat, s.heap.size ≤ q → A q := fun q h => by rw [← hAe]; exact Or.inr h
  have hP : va_P (dC, dI) vwCl (mW ad kc x0 x1 x2 x3 x4 x5 x6 x7 x8 x9 x10 x11 x12 x13 x14 x15 x16 x17 x18 x19 x20 x21 f0 f1 f2 f3 f4 f5 f6 f7 f8 f9 f10 f11 f12 f13 f14 f15 f16 f17 f18 f19 f20 f21 fL fN fP fM fO) s.heap := hP
  have hD : va_D A (mW ad kc x0 x1 x2 x3 x4 x5 x6 x7 x8 x9 x10 x11 x12 x13 x14 x15 x16 x17 x18 x19 x20 x21 f0 f1 f2 f3 f4 f5 f6 f7 f8 f9 f10 f11 f12 f13 f14 f15 f16 f17 f18 f19 f20 f21 fL fN fP fM fO) := hD
  have hK : va_K (dC, dI) vwCl (mT kc) s := hK
  generalize hH : s.heap = H at hP ⊢
  have hS : va_S A s.heap H [] := by rw [← hH]; exact va_S.rf
  have hl := lv_entry ([.ref (ad 0), .int i1, .int i2]) (n := 3) (Nat.le_of_ble_eq_true rfl)
  rw [lg_entry_eq]
  generalize (lg_sl ([.ref (ad 0), .int i1, .int i2]) ++ List.replicate (3 - (lg_sl ([.ref (ad 0), .int i1, .int i2])).length) Slot.unset).toArray = ls at hl ⊢
  have hl : lv_has ls 3 [(0, .ref (ad 0)), (1, .int i1), (2, .int i2)] := hl
  have rg_i1 := i_rng i1
  have rg_i2 := i_rng i2
  have hd := q0.d
  have hpi := q0.p
  have hq1 := q0.1
  have hq2 := q0.2.1
  have hq3 := q0.2.2.1
  have hd10 := hd.n0
  have hp8 := hd.P0
  refine lv_iload_n hx hb dX10_letter_0 rfl (lv_at hl 2 rfl) ?_
  refine lv_if_ge (tgt := 10) hx hb dX10_letter_1 (by decide) (fun k_1 => ?_) (fun k_1 => ?_)
  · have tk_1 := c_ge (a := i2.toInt) (b := 0) rfl (by decide) k_1
    refine lv_aload_n hx hb dX10_letter_10 rfl (lv_at hl 0 rfl) ?_
    refine lv_iload_n hx hb dX10_letter_11 rfl (lv_at hl 1 rfl) ?_
    refine vp_callSi (W.runV (As := [.int i1]) (rest := []) ⟨hx, hb, hml, hown, hts⟩ (m_isDoc l dC dI ad kc x0 x1 x2 x3 x4 x5 x6 x7 x8 x9 x10 x11 x12 x13 x14 x15 x16 x17 x18 x19 x20 x21 f0 f1 f2 f3 f4 f5 f6 f7 f8 f9 f10 f11 f12 f13 f14 f15 f16 f17 f18 f19 f20 f21 fL fN fP fM fO i1 ) (cwV 1 hts mg_X10_letterm_X10_isDoc_451 rfl rfl rfl (by decide +kernel) ⟨Nat.le_of_ble_eq_true rfl, Nat.le_of_ble_eq_true rfl⟩) ⟨fun a U g mk q => by obtain ⟨q0, qP, qK⟩ := q; exact ⟨q0, qP, va_K.moved (u := U) (U := U.calling g mk a) (Vm.Alike.refl U.vm) qK⟩, va_recv hK hP (ci := 10) (q0 := 0) rfl rfl, fun U hU hW => ⟨rfl, by rw [hU]; exact hP, va_K.moved hW.alike hK⟩⟩ rfl rfl hl.1 rfl (lv_room (Nat.le_of_ble_eq_true rfl)) dX10_letter_12 ⟨Nat.le_of_ble_eq_true rfl, Nat.le_of_ble_eq_true rfl⟩) (fun r_2 hr_2 => ?_)
    have rg_r_2 := i_rng r_2
    refine lv_if_ne (tgt := 24) hx hb dX10_letter_15 (by decide) (fun k_3 => ?_) (fun k_3 => ?_)
    · have tk_3 := c_ne (a := r_2.toInt) (b := 0) rfl (by decide) k_3
      refine lv_iload_n hx hb dX10_letter_24 rfl (lv_at hl 2 rfl) ?_
      refine lv_aload_n hx hb dX10_letter_25 rfl (lv_at hl 0 rfl) ?_
      refine lv_iload_n hx hb dX10_letter_26 rfl (lv_at hl 1 rfl) ?_
      refine vp_callSi (W.runV (As := [.int i1]) (rest := [.int i2]) ⟨hx, hb, hml, hown, hts⟩ (m_sizeOf l dC dI ad kc x0 x1 x2 x3 x4 x5 x6 x7 x8 x9 x10 x11 x12 x13 x14 x15 x16 x17 x18 x19 x20 x21 f0 f1 f2 f3 f4 f5 f6 f7 f8 f9 f10 f11 f12 f13 f14 f15 f16 f17 f18 f19 f20 f21 fL fN fP fM fO i1 (by first | omega | assumption | decide | (have l0 := Int32.toInt_zero; omega)) (by first | omega | assumption | decide | (have l0 := Int32.toInt_zero; omega))) (cwV 1 hts mg_X10_letterm_X10_sizeOf_396 rfl rfl rfl (by decide +kernel) ⟨Nat.le_of_ble_eq_true rfl, Nat.le_of_ble_eq_true rfl⟩) ⟨fun a U g mk q => by obtain ⟨q0, qP, qK⟩ := q; exact ⟨q0, qP, va_K.moved (u := U) (U := U.calling g mk a) (Vm.Alike.refl U.vm) qK⟩, va_recv hK hP (ci := 10) (q0 := 0) rfl rfl, fun U hU hW => ⟨rfl, by rw [hU]; exact hP, va_K.moved hW.alike hK⟩⟩ rfl rfl hl.1 rfl (lv_room (Nat.le_of_ble_eq_true rfl)) dX10_letter_27 ⟨Nat.le_of_ble_eq_true rfl, Nat.le_of_ble_eq_true rfl⟩) (fun r_4 hr_4 => ?_)
      have rg_r_4 := i_rng r_4
      have hlr_4 := OKd.sz hd (d := i1.toInt) (by omega) (by omega)
      refine lv_icmp_ge (tgt := 46) hx hb dX10_letter_30 (by decide) (fun k_5 => ?_) (fun k_5 => ?_)
      · have tk_5 := c_ge (a := i2.toInt) (b := r_4.toInt) rfl rfl k_5
        refine lv_aload_n hx hb dX10_letter_46 rfl (lv_at hl 0 rfl) ?_
        refine lv_iconst (v := 5) hx hb dX10_letter_47 (by decide) ?_
        have hFc := m_free hD hS hA
        refine va_calli (va_runV (As := [.int 5]) (rest := []) ⟨hx, hb, hml, hown, hts⟩ (m_refuse l dC dI ad kc x0 x1 x2 x3 x4 x5 x6 x7 x8 x9 x10 x11 x12 x13 x14 x15 x16 x17 x18 x19 x20 x21 f0 f1 f2 f3 f4 f5 f6 f7 f8 f9 f10 f11 f12 f13 f14 f15 f16 f17 f18 f19 f20 f21 fL fN fP fM fO H.size 5 ) (cwV 1 hts mg_X10_letterm_X10_refuse_204 rfl rfl rfl (by decide +kernel) ⟨Nat.le_of_ble_eq_true rfl, Nat.le_of_ble_eq_true rfl⟩) ⟨fun a U g mk q => by obtain ⟨q0, q1, qP, qK, qD⟩ := q; exact ⟨q0, q1, qP, va_K.moved (u := U) (U := U.calling g mk a) (Vm.Alike.refl U.vm) qK, qD⟩, va_recv hK hP (ci := 10) (q0 := 0) rfl rfl, fun U hU hW => ⟨rfl, by rw [hU], by rw [hU]; exact hP, va_K.moved hW.alike hK, hD.weaken (fun _ _ _ _ => trivial)⟩⟩ rfl rfl hl.1 rfl (lv_room (Nat.le_of_ble_eq_true rfl)) dX10_letter_48 ⟨Nat.le_of_ble_eq_true rfl, Nat.le_of_ble_eq_true rfl⟩) hS (fun q _ h => hFc q h) hFc (fun r_6 u t H1 locs ht hvm hw hB hz1 hk1 hS => ?_)
        subst hw
        obtain ⟨hr_6_0, hP, hK1, hD1⟩ := hB
        rw [ht] at hP
        have hD := hD1.weaken (fun k q _ h => hFc q.1 h)
        clear hz1 hk1 hFc hD1 hK1 hvm
        generalize H1 = H at hP hS ⊢
        have rg_r_6 := i_rng r_6
        have hP : va_P (dC, dI) vwCl (mW ad kc 5 x1 x2 x3 x4 x5 x6 x7 x8 x9 x10 x11 x12 x13 x14 x15 x16 x17 x18 x19 x20 x21 f0 f1 f2 f3 f4 f5 f6 f7 f8 f9 f10 f11 f12 f13 f14 f15 f16 f17 f18 f19 f20 f21 fL fN fP fM fO) H := hP
        have hD : va_D A (mW ad kc 5 x1 x2 x3 x4 x5 x6 x7 x8 x9 x10 x11 x12 x13 x14 x15 x16 x17 x18 x19 x20 x21 f0 f1 f2 f3 f4 f5 f6 f7 f8 f9 f10 f11 f12 f13 f14 f15 f16 f17 f18 f19 f20 f21 fL fN fP fM fO) := hD
        have lit_6 : (5 : Int32).toInt = 5 := by decide
        exact W.iret hx hb hr (fun t ht hW => ⟨⟨_, _, rfl, rfl, 5, by rw [ht]; exact hP, va_K.moved hW.alike hK, hD⟩, hS.F ht⟩) hS.2.2 dX10_letter_51
      · have tk_5 := c_nge (a := i2.toInt) (b := r_4.toInt) rfl rfl k_5
        refine lv_aload_n hx hb dX10_letter_33 rfl (lv_at hl 0 rfl) ?_
        refine lv_aload_n hx hb dX10_letter_34 rfl (lv_at hl 0 rfl) ?_
        refine lv_iload_n hx hb dX10_letter_35 rfl (lv_at hl 1 rfl) ?_
        refine lv_iload_n hx hb dX10_letter_36 rfl (lv_at hl 2 rfl) ?_
        refine vp_callSi (W.runV (As := [.int i1, .int i2]) (rest := [.ref (ad 0)]) ⟨hx, hb, hml, hown, hts⟩ (m_at l dC dI ad kc x0 x1 x2 x3 x4 x5 x6 x7 x8 x9 x10 x11 x12 x13 x14 x15 x16 x17 x18 x19 x20 x21 f0 f1 f2 f3 f4 f5 f6 f7 f8 f9 f10 f11 f12 f13 f14 f15 f16 f17 f18 f19 f20 f21 fL fN fP fM fO i1 i2 (by first | omega | assumption | decide | (have l0 := Int32.toInt_zero; omega)) (by first | omega | assumption | decide | (have l0 := Int32.toInt_zero; omega)) (by first | omega | assumption | decide | (have l0 := Int32.toInt_zero; omega)) (by first | omega | assumption | decide | (have l0 := Int32.toInt_zero; omega))) (cwV 2 hts mg_X10_letterm_X10_at_399 rfl rfl rfl (by decide +kernel) ⟨Nat.le_of_ble_eq_true rfl, Nat.le_of_ble_eq_true rfl⟩) ⟨fun a U g mk q => by obtain ⟨q0, qP, qK⟩ := q; exact ⟨q0, qP, va_K.moved (u := U) (U := U.calling g mk a) (Vm.Alike.refl U.vm) qK⟩, va_recv hK hP (ci := 10) (q0 := 0) rfl rfl, fun U hU hW => ⟨rfl, by rw [hU]; exact hP, va_K.moved hW.alike hK⟩⟩ rfl rfl hl.1 rfl (lv_room (Nat.le_of_ble_eq_true rfl)) dX10_letter_37 ⟨Nat.le_of_ble_eq_true rfl, Nat.le_of_ble_eq_true rfl⟩) (fun r_8 hr_8 => ?_)
        have rg_r_8 := i_rng r_8
        have hFc := m_free hD hS hA
        refine va_calli (va_runV (As := [.int r_8]) (rest := []) ⟨hx, hb, hml, hown, hts⟩ (m_gives l dC dI ad kc x0 x1 x2 x3 x4 x5 x6 x7 x8 x9 x10 x11 x12 x13 x14 x15 x16 x17 x18 x19 x20 x21 f0 f1 f2 f3 f4 f5 f6 f7 f8 f9 f10 f11 f12 f13 f14 f15 f16 f17 f18 f19 f20 f21 fL fN fP fM fO H.size r_8 ) (cwV 1 hts mg_X10_letterm_X10_gives_214 rfl rfl rfl (by decide +kernel) ⟨Nat.le_of_ble_eq_true rfl, Nat.le_of_ble_eq_true rfl⟩) ⟨fun a U g mk q => by obtain ⟨q0, q1, qP, qK, qD⟩ := q; exact ⟨q0, q1, qP, va_K.moved (u := U) (U := U.calling g mk a) (Vm.Alike.refl U.vm) qK, qD⟩, va_recv hK hP (ci := 10) (q0 := 0) rfl rfl, fun U hU hW => ⟨rfl, by rw [hU], by rw [hU]; exact hP, va_K.moved hW.alike hK, hD.weaken (fun _ _ _ _ => trivial)⟩⟩ rfl rfl hl.1 rfl (lv_room (Nat.le_of_ble_eq_true rfl)) dX10_letter_40 ⟨Nat.le_of_ble_eq_true rfl, Nat.le_of_ble_eq_true rfl⟩) hS (fun q _ h => hFc q h) hFc (fun r_9 u t H1 locs ht hvm hw hB hz1 hk1 hS => ?_)
        subst hw
        obtain ⟨hr_9_0, hP, hK1, hD1⟩ := hB
        rw [ht] at hP
        have hD := hD1.weaken (fun k q _ h => hFc q.1 h)
        clear hz1 hk1 hFc hD1 hK1 hvm
        generalize H1 = H at hP hS ⊢
        have rg_r_9 := i_rng r_9
        have hP : va_P (dC, dI) vwCl (mW ad kc 0 x1 x2 x3 x4 x5 x6 x7 x8 x9 x10 x11 x12 x13 x14 x15 x16 x17 x18 x19 x20 x21 f0 f1 f2 f3 f4 f5 f6 f7 f8 f9 f10 f11 f12 f13 f14 f15 f16 f17 f18 f19 f20 f21 fL fN fP fM fO) H := hP
        have hD : va_D A (mW ad kc 0 x1 x2 x3 x4 x5 x6 x7 x8 x9 x10 x11 x12 x13 x14 x15 x16 x17 x18 x19 x20 x21 f0 f1 f2 f3 f4 f5 f6 f7 f8 f9 f10 f11 f12 f13 f14 f15 f16 f17 f18 f19 f20 f21 fL fN fP fM fO) := hD
        refine lv_goto (tgt := 51) hx hb dX10_letter_43 (by decide) ?_
        have lit_9 : (0 : Int32).toInt = 0 := by decide
        exact W.iret hx hb hr (fun t ht hW => ⟨⟨_, _, rfl, rfl, 0, by rw [ht]; exact hP, va_K.moved hW.alike hK, hD⟩, hS.F ht⟩) hS.2.2 dX10_letter_51
    · have tk_3 := c_eq (a := r_2.toInt) (b := 0) rfl (by decide) k_3
      refine lv_aload_n hx hb dX10_letter_18 rfl (lv_at hl 0 rfl) ?_
      refine lv_iconst (v := 2) hx hb dX10_letter_19 (by decide) ?_
      have hFc := m_free hD hS hA
      refine va_calli (va_runV (As := [.int 2]) (rest := []) ⟨hx, hb, hml, hown, hts⟩ (m_refuse l dC dI ad kc x0 x1 x2 x3 x4 x5 x6 x7 x8 x9 x10 x11 x12 x13 x14 x15 x16 x17 x18 x19 x20 x21 f0 f1 f2 f3 f4 f5 f6 f7 f8 f9 f10 f11 f12 f13 f14 f15 f16 f17 f18 f19 f20 f21 fL fN fP fM fO H.size 2 ) (cwV 1 hts mg_X10_letterm_X10_refuse_204 rfl rfl rfl (by decide +kernel) ⟨Nat.le_of_ble_eq_true rfl, Nat.le_of_ble_eq_true rfl⟩) ⟨fun a U g mk q => by obtain ⟨q0, q1, qP, qK, qD⟩ := q; exact ⟨q0, q1, qP, va_K.moved (u := U) (U := U.calling g mk a) (Vm.Alike.refl U.vm) qK, qD⟩, va_recv hK hP (ci := 10) (q0 := 0) rfl rfl, fun U hU hW => ⟨rfl, by rw [hU], by rw [hU]; exact hP, va_K.moved hW.alike hK, hD.weaken (fun _ _ _ _ => trivial)⟩⟩ rfl rfl hl.1 rfl (lv_room (Nat.le_of_ble_eq_true rfl)) dX10_letter_20 ⟨Nat.le_of_ble_eq_true rfl, Nat.le_of_ble_eq_true rfl⟩) hS (fun q _ h => hFc q h) hFc (fun r_11 u t H1 locs ht hvm hw hB hz1 hk1 hS => ?_)
      subst hw
      obtain ⟨hr_11_0, hP, hK1, hD1⟩ := hB
      rw [ht] at hP
      have hD := hD1.weaken (fun k q _ h => hFc q.1 h)
      clear hz1 hk1 hFc hD1 hK1 hvm
      generalize H1 = H at hP hS ⊢
      have rg_r_11 := i_rng r_11
      have hP : va_P (dC, dI) vwCl (mW ad kc 2 x1 x2 x3 x4 x5 x6 x7 x8 x9 x10 x11 x12 x13 x14 x15 x16 x17 x18 x19 x20 x21 f0 f1 f2 f3 f4 f5 f6 f7 f8 f9 f10 f11 f12 f13 f14 f15 f16 f17 f18 f19 f20 f21 fL fN fP fM fO) H := hP
      have hD : va_D A (mW ad kc 2 x1 x2 x3 x4 x5 x6 x7 x8 x9 x10 x11 x12 x13 x14 x15 x16 x17 x18 x19 x20 x21 f0 f1 f2 f3 f4 f5 f6 f7 f8 f9 f10 f11 f12 f13 f14 f15 f16 f17 f18 f19 f20 f21 fL fN fP fM fO) := hD
      have lit_11 : (2 : Int32).toInt = 2 := by decide
      exact W.iret hx hb hr (fun t ht hW => ⟨⟨_, _, rfl, rfl, 2, by rw [ht]; exact hP, va_K.moved hW.alike hK, hD⟩, hS.F ht⟩) hS.2.2 dX10_letter_23
  · have tk_1 := c_nge (a := i2.toInt) (b := 0) rfl (by decide) k_1
    refine lv_aload_n hx hb dX10_letter_4 rfl (lv_at hl 0 rfl) ?_
    refine lv_iconst (v := 1) hx hb dX10_letter_5 (by decide) ?_
    have hFc := m_free hD hS hA
    refine va_calli (va_runV (As := [.int 1]) (rest := []) ⟨hx, hb, hml, hown, hts⟩ (m_refuse l dC dI ad kc x0 x1 x2 x3 x4 x5 x6 x7 x8 x9 x10 x11 x12 x13 x14 x15 x16 x17 x18 x19 x20 x21 f0 f1 f2 f3 f4 f5 f6 f7 f8 f9 f10 f11 f12 f13 f14 f15 f16 f17 f18 f19 f20 f21 fL fN fP fM fO H.size 1 ) (cwV 1 hts mg_X10_letterm_X10_refuse_204 rfl rfl rfl (by decide +kernel) ⟨Nat.le_of_ble_eq_true rfl, Nat.le_of_ble_eq_true rfl⟩) ⟨fun a U g mk q => by obtain ⟨q0, q1, qP, qK, qD⟩ := q; exact ⟨q0, q1, qP, va_K.moved (u := U) (U := U.calling g mk a) (Vm.Alike.refl U.vm) qK, qD⟩, va_recv hK hP (ci := 10) (q0 := 0) rfl rfl, fun U hU hW => ⟨rfl, by rw [hU], by rw [hU]; exact hP, va_K.moved hW.alike hK, hD.weaken (fun _ _ _ _ => trivial)⟩⟩ rfl rfl hl.1 rfl (lv_room (Nat.le_of_ble_eq_true rfl)) dX10_letter_6 ⟨Nat.le_of_ble_eq_true rfl, Nat.le_of_ble_eq_true rfl⟩) hS (fun q _ h => hFc q h) hFc (fun r_13 u t H1 locs ht hvm hw hB hz1 hk1 hS => ?_)
    subst hw
    obtain ⟨hr_13_0, hP, hK1, hD1⟩ := hB
    rw [ht] at hP
    have hD := hD1.weaken (fun k q _ h => hFc q.1 h)
    clear hz1 hk1 hFc hD1 hK1 hvm
    generalize H1 = H at hP hS ⊢
    have rg_r_13 := i_rng r_13
    have hP : va_P (dC, dI) vwCl (mW ad kc 1 x1 x2 x3 x4 x5 x6 x7 x8 x9 x10 x11 x12 x13 x14 x15 x16 x17 x18 x19 x20 x21 f0 f1 f2 f3 f4 f5 f6 f7 f8 f9 f10 f11 f12 f13 f14 f15 f16 f17 f18 f19 f20 f21 fL fN fP fM fO) H := hP
    have hD : va_D A (mW ad kc 1 x1 x2 x3 x4 x5 x6 x7 x8 x9 x10 x11 x12 x13 x14 x15 x16 x17 x18 x19 x20 x21 f0 f1 f2 f3 f4 f5 f6 f7 f8 f9 f10 f11 f12 f13 f14 f15 f16 f17 f18 f19 f20 f21 fL fN fP fM fO) := hD
    have lit_13 : (1 : Int32).toInt = 1 := by decide
    exact W.iret hx hb hr (fun t ht hW => ⟨⟨_, _, rfl, rfl, 1, by rw [ht]; exact hP, va_K.moved hW.alike hK, hD⟩, hS.F ht⟩) hS.2.2 dX10_letter_9
theorem dX10_document_0 : decode cX10_document 0 = .ok (.iload_n 2, 1) := by decide +kernel
theorem dX10_document_1 : decode cX10_document 1 = .ok (.iconst 0, 1) := by decide +kernel
theorem dX10_document_2 : decode cX10_document 2 = .ok (.iconst 3, 1) := by decide +kernel
theorem dX10_document_3 : decode cX10_document 3 = .ok (.invokestatic 200, 3) := by decide +kernel
theorem dX10_document_6 : decode cX10_document 6 = .ok (.ifCond .ne 9, 3) := by decide +kernel
theorem dX10_document_9 : decode cX10_document 9 = .ok (.aload_n 0, 1) := by decide +kernel
theorem dX10_document_10 : decode cX10_document 10 = .ok (.iconst 1, 1) := by decide +kernel
theorem dX10_document_11 : decode cX10_document 11 = .ok (.invokevirtual 204, 3) := by decide +kernel
theorem dX10_document_14 : decode cX10_document 14 = .ok (.ireturn, 1) := by decide +kernel
theorem dX10_document_15 : decode cX10_document 15 = .ok (.aload_n 0, 1) := by decide +kernel
theorem dX10_document_16 : decode cX10_document 16 = .ok (.iload_n 1, 1) := by decide +kernel
theorem dX10_document_17 : decode cX10_document 17 = .ok (.invokevirtual 451, 3) := by decide +kernel
theorem dX10_document_20 : decode cX10_document 20 = .ok (.ifCond .ne 9, 3) := by decide +kernel
theorem dX10_document_23 : decode cX10_document 23 = .ok (.aload_n 0, 1) := by decide +kernel
theorem dX10_document_24 : decode cX10_document 24 = .ok (.iconst 2, 1) := by decide +kernel
theorem dX10_document_25 : decode cX10_document 25 = .ok (.invokevirtual 204, 3) := by decide +kernel
theorem dX10_document_28 : decode cX10_document 28 = .ok (.ireturn, 1) := by decide +kernel
theorem dX10_document_29 : decode cX10_document 29 = .ok (.aload_n 0, 1) := by decide +kernel
theorem dX10_document_30 : decode cX10_document 30 = .ok (.iload_n 2, 1) := by decide +kernel
theorem dX10_document_31 : decode cX10_document 31 = .ok (.ifCond .ne 11, 3) := by decide +kernel
theorem dX10_document_34 : decode cX10_document 34 = .ok (.aload_n 0, 1) := by decide +kernel
theorem dX10_document_35 : decode cX10_document 35 = .ok (.iload_n 1, 1) := by decide +kernel
theorem dX10_document_36 : decode cX10_document 36 = .ok (.invokevirtual 396, 3) := by decide +kernel
theorem dX10_document_39 : decode cX10_document 39 = .ok (.goto 34, 3) := by decide +kernel
theorem dX10_document_42 : decode cX10_document 42 = .ok (.iload_n 2, 1) := by decide +kernel
theorem dX10_document_43 : decode cX10_document 43 = .ok (.iconst 1, 1) := by decide +kernel
theorem dX10_document_44 : decode cX10_document 44 = .ok (.if_icmp .ne 14, 3) := by decide +kernel
theorem dX10_document_47 : decode cX10_document 47 = .ok (.aload_n 0, 1) := by decide +kernel
theorem dX10_document_48 : decode cX10_document 48 = .ok (.iload_n 1, 1) := by decide +kernel
theorem dX10_document_49 : decode cX10_document 49 = .ok (.iload_n 1, 1) := by decide +kernel
theorem dX10_document_50 : decode cX10_document 50 = .ok (.iconst 1, 1) := by decide +kernel
theorem dX10_document_51 : decode cX10_document 51 = .ok (.iadd, 1) := by decide +kernel
theorem dX10_document_52 : decode cX10_document 52 = .ok (.invokevirtual 436, 3) := by decide +kernel
theorem dX10_document_55 : decode cX10_document 55 = .ok (.goto 18, 3) := by decide +kernel
theorem dX10_document_58 : decode cX10_document 58 = .ok (.aload_n 0, 1) := by decide +kernel
theorem dX10_document_59 : decode cX10_document 59 = .ok (.iload_n 1, 1) := by decide +kernel
theorem dX10_document_60 : decode cX10_document 60 = .ok (.iload_n 2, 1) := by decide +kernel
theorem dX10_document_61 : decode cX10_document 61 = .ok (.iconst 3, 1) := by decide +kernel
theorem dX10_document_62 : decode cX10_document 62 = .ok (.if_icmp .ne 7, 3) := by decide +kernel
theorem dX10_document_65 : decode cX10_document 65 = .ok (.iconst 1, 1) := by decide +kernel
theorem dX10_document_66 : decode cX10_document 66 = .ok (.goto 4, 3) := by decide +kernel
theorem dX10_document_69 : decode cX10_document 69 = .ok (.iconst 0, 1) := by decide +kernel
theorem dX10_document_70 : decode cX10_document 70 = .ok (.invokevirtual 454, 3) := by decide +kernel
theorem dX10_document_73 : decode cX10_document 73 = .ok (.invokevirtual 214, 3) := by decide +kernel
theorem dX10_document_76 : decode cX10_document 76 = .ok (.ireturn, 1) := by decide +kernel
def mwX10_documentm : List Cond := .code yX10_document cX10_document 3 (some .int) :: (([.methodLink RX10 200 yX10_isFrom, .static yX10_isFrom, .initialized RX10, .methodLink RX10 451 yX10_isDoc, .instanceMethod yX10_isDoc, .selects RX10 yX10_isDoc yX10_isDoc, .methodLink RX10 454 yX10_patternsOf, .instanceMethod yX10_patternsOf, .selects RX10 yX10_patternsOf yX10_patternsOf, .methodLink RX10 214 yX10_gives, .instanceMethod yX10_gives, .selects RX10 yX10_gives yX10_gives, .methodLink RX10 436 yX10_unlike, .instanceMethod yX10_unlike, .selects RX10 yX10_unlike yX10_unlike, .methodLink RX10 396 yX10_sizeOf, .instanceMethod yX10_sizeOf, .selects RX10 yX10_sizeOf yX10_sizeOf, .methodLink RX10 204 yX10_refuse, .instanceMethod yX10_refuse, .selects RX10 yX10_refuse yX10_refuse] : List Cond) ++ (mwX10_isFromm ++ (mwX10_isDocm ++ (mwX10_patternsOfm ++ (mwX10_givesm ++ (mwX10_unlikem ++ (mwX10_sizeOfm ++ (mwX10_refusem))))))))
set_option maxRecDepth 100000 in
theorem gd_mwX10_isFromm : mwX10_isFromm.all goodWord = true := by decide +kernel
set_option maxRecDepth 100000 in
theorem gd_mwX10_patternsOfm : mwX10_patternsOfm.all goodWord = true := by decide +kernel
set_option maxRecDepth 20000 in
theorem mg_X10_documentm_X10_isFrom_200 : GoodIn mwX10_documentm (va_wsS RX10 200 yX10_isFrom mwX10_isFromm) := gi_app (A := [.methodLink RX10 200 yX10_isFrom, .static yX10_isFrom, .initialized RX10]) (goodIn_r _ [1, 2, 3] (by decide +kernel) (by decide +kernel)) (gi_sub gd_mwX10_isFromm (fun w h => List.mem_cons_of_mem _ (List.mem_append_right _ (List.mem_append_left _ h))))
set_option maxRecDepth 20000 in
theorem mg_X10_documentm_X10_isDoc_451 : GoodIn mwX10_documentm (wsV RX10 451 RX10 yX10_isDoc mwX10_isDocm) := gi_app (A := [.methodLink RX10 451 yX10_isDoc, .instanceMethod yX10_isDoc, .selects RX10 yX10_isDoc yX10_isDoc, .initialized RX10]) (goodIn_r _ [4, 5, 6, 3] (by decide +kernel) (by decide +kernel)) (gi_sub gd_mwX10_isDocm (fun w h => List.mem_cons_of_mem _ (List.mem_append_right _ (List.mem_append_right _ (List.mem_append_left _ h)))))
set_option maxRecDepth 20000 in
theorem mg_X10_documentm_X10_patternsOf_454 : GoodIn mwX10_documentm (wsV RX10 454 RX10 yX10_patternsOf mwX10_patternsOfm) := gi_app (A := [.methodLink RX10 454 yX10_patternsOf, .instanceMethod yX10_patternsOf, .selects RX10 yX10_patternsOf yX10_patternsOf, .initialized RX10]) (goodIn_r _ [7, 8, 9, 3] (by decide +kernel) (by decide +kernel)) (gi_sub gd_mwX10_patternsOfm (fun w h => List.mem_cons_of_mem _ (List.mem_append_right _ (List.mem_append_right _ (List.mem_append_right _ (List.mem_append_left _ h))))))
set_option maxRecDepth 20000 in
theorem mg_X10_documentm_X10_gives_214 : GoodIn mwX10_documentm (wsV RX10 214 RX10 yX10_gives mwX10_givesm) := gi_app (A := [.methodLink RX10 214 yX10_gives, .instanceMethod yX10_gives, .selects RX10 yX10_gives yX10_gives, .initialized RX10]) (goodIn_r _ [10, 11, 12, 3] (by decide +kernel) (by decide +kernel)) (gi_sub gd_mwX10_givesm (fun w h => List.mem_cons_of_mem _ (List.mem_append_right _ (List.mem_append_right _ (List.mem_append_right _ (List.mem_append_right _ (List.mem_append_left _ h)))))))
set_option maxRecDepth 20000 in
theorem mg_X10_documentm_X10_unlike_436 : GoodIn mwX10_documentm (wsV RX10 436 RX10 yX10_unlike mwX10_unlikem) := gi_app (A := [.methodLink RX10 436 yX10_unlike, .instanceMethod yX10_unlike, .selects RX10 yX10_unlike yX10_unlike, .initialized RX10]) (goodIn_r _ [13, 14, 15, 3] (by decide +kernel) (by decide +kernel)) (gi_sub gd_mwX10_unlikem (fun w h => List.mem_cons_of_mem _ (List.mem_append_right _ (List.mem_append_right _ (List.mem_append_right _ (List.mem_append_right _ (List.mem_append_right _ (List.mem_append_left _ h))))))))
set_option maxRecDepth 20000 in
theorem mg_X10_documentm_X10_sizeOf_396 : GoodIn mwX10_documentm (wsV RX10 396 RX10 yX10_sizeOf mwX10_sizeOfm) := gi_app (A := [.methodLink RX10 396 yX10_sizeOf, .instanceMethod yX10_sizeOf, .selects RX10 yX10_sizeOf yX10_sizeOf, .initialized RX10]) (goodIn_r _ [16, 17, 18, 3] (by decide +kernel) (by decide +kernel)) (gi_sub gd_mwX10_sizeOfm (fun w h => List.mem_cons_of_mem _ (List.mem_append_right _ (List.mem_append_right _ (List.mem_append_right _ (List.mem_append_right _ (List.mem_append_right _ (List.mem_append_right _ (List.mem_append_left _ h)))))))))
set_option maxRecDepth 20000 in
theorem mg_X10_documentm_X10_refuse_204 : GoodIn mwX10_documentm (wsV RX10 204 RX10 yX10_refuse mwX10_refusem) := gi_app (A := [.methodLink RX10 204 yX10_refuse, .instanceMethod yX10_refuse, .selects RX10 yX10_refuse yX10_refuse, .initialized RX10]) (goodIn_r _ [19, 20, 21, 3] (by decide +kernel) (by decide +kernel)) (gi_sub gd_mwX10_refusem (fun w h => List.mem_cons_of_mem _ (List.mem_append_right _ (List.mem_append_right _ (List.mem_append_right _ (List.mem_append_right _ (List.mem_append_right _ (List.mem_append_right _ (List.mem_append_right _ (h))))))))))
set_option maxHeartbeats 4000000 in
set_option maxRecDepth 100000 in
theorem m_document (l : Launch) (dC : Nat → ClassId) (dI : Nat → Nat → Nat) (ad : Nat → Nat) (kc : Nat → ClassId) (x0 x1 x2 x3 x4 x5 x6 x7 x8 x9 x10 x11 x12 x13 x14 x15 x16 x17 x18 x19 x20 x21 : Int32) (f0 f1 f2 f3 f4 f5 f6 f7 f8 f9 f10 f11 f12 f13 f14 f15 f16 f17 f18 f19 f20 f21 : Nat → Int32) (fL : Nat → Nat → Int64) (fN : Nat → Nat → Int32) (fP : Nat → Nat → Nat) (fM : Nat → Nat → Int32) (fO : Nat → Nat → Int32) (sz : Nat) (i1 i2 : Int32) (q0 : mI x1.toInt x2.toInt x3.toInt f0 fP) : Met l yX10_document mwX10_documentm ({ frames := 44, cells := 0, slots := 0, locals := 2640 }) (va_Pc [.ref (ad 0), .int i1, .int i2] (fun U => U.heap.size = sz ∧ va_P (dC, dI) vwCl (mW ad kc x0 x1 x2 x3 x4 x5 x6 x7 x8 x9 x10 x11 x12 x13 x14 x15 x16 x17 x18 x19 x20 x21 f0 f1 f2 f3 f4 f5 f6 f7 f8 f9 f10 f11 f12 f13 f14 f15 f16 f17 f18 f19 f20 f21 fL fN fP fM fO) U.heap ∧ va_K (dC, dI) vwCl (mT kc) U ∧ va_D (fun _ => True) (mW ad kc x0 x1 x2 x3 x4 x5 x6 x7 x8 x9 x10 x11 x12 x13 x14 x15 x16 x17 x18 x19 x20 x21 f0 f1 f2 f3 f4 f5 f6 f7 f8 f9 f10 f11 f12 f13 f14 f15 f16 f17 f18 f19 f20 f21 fL fN fP fM fO) ∧ (Cond.arrayOver (.array .int)).before #[] U = true)) (va_Qi (fun (o9 u9 : Int32) => o9 = u9) (fun (o9 : Int32) t => ∃ (y0 y12 y13 y14 y15 y16 y17 y18 y19 y20 y21 : Int32) (g3 g4 g5 g6 g7 g8 g9 g10 g11 g12 g13 g14 g15 g16 g17 g18 g19 g20 : Nat → Int32) (L9 : Nat → Nat → Int64) (Nn9 : Nat → Nat → Int32) (P9 : Nat → Nat → Nat) (M9 : Nat → Nat → Int32) (O9 : Nat → Nat → Int32), (PI P9) ∧ va_P (dC, dI) vwCl (mW ad kc y0 x1 x2 x3 x4 x5 x6 x7 x8 x9 x10 x11 y12 y13 y14 y15 y16 y17 y18 y19 y20 y21 f0 f1 f2 g3 g4 g5 g6 g7 g8 g9 g10 g11 g12 g13 g14 g15 g16 g17 g18 g19 g20 f21 L9 Nn9 P9 M9 O9) t.heap ∧ va_K (dC, dI) vwCl (mT kc) t ∧ va_D (va_A (mW ad kc x0 x1 x2 x3 x4 x5 x6 x7 x8 x9 x10 x11 x12 x13 x14 x15 x16 x17 x18 x19 x20 x21 f0 f1 f2 f3 f4 f5 f6 f7 f8 f9 f10 f11 f12 f13 f14 f15 f16 f17 f18 f19 f20 f21 fL fN fP fM fO) sz) (mW ad kc y0 x1 x2 x3 x4 x5 x6 x7 x8 x9 x10 x11 y12 y13 y14 y15 y16 y17 y18 y19 y20 y21 f0 f1 f2 g3 g4 g5 g6 g7 g8 g9 g10 g11 g12 g13 g14 g15 g16 g17 g18 g19 g20 f21 L9 Nn9 P9 M9 O9)) (va_A (mW ad kc x0 x1 x2 x3 x4 x5 x6 x7 x8 x9 x10 x11 x12 x13 x14 x15 x16 x17 x18 x19 x20 x21 f0 f1 f2 f3 f4 f5 f6 f7 f8 f9 f10 f11 f12 f13 f14 f15 f16 f17 f18 f19 f20 f21 fL fN fP fM fO) sz)) 0 0 (va_A (mW ad kc x0 x1 x2 x3 x4 x5 x6 x7 x8 x9 x10 x11 x12 x13 x14 x15 x16 x17 x18 x19 x20 x21 f0 f1 f2 f3 f4 f5 f6 f7 f8 f9 f10 f11 f12 f13 f14 f15 f16 f17 f18 f19 f20 f21 fL fN fP fM fO) sz) := by
  refine Met.ofW (cc := cX10_document) (maxL := 3) (ret := (some .int)) (by decide +kernel) rfl ?_
  intro p e s m args below meth c s₁ B hml hv
  obtain ⟨rfl, hsz, hP, hK, hD0, hOV⟩ := hv
  have hx := B.exec
  have hb := B.bytes
  have hr := B.returns
  have hts := atoms_spec (ws := mwX10_documentm) B.pre
  have hown : s.vm.findClass RX10 = some m.cls := findClass_of_methodNamed B.named
  have hlocks := B.notSynchronized
  subst hsz
  have hD := hD0.self (sz := s.heap.size)
  generalize hAe : va_A (mW ad kc x0 x1 x2 x3 x4 x5 x6 x7 x8 x9 x10 x11 x12 x13 x14 x15 x16 x17 x18 x19 x20 x21 f0 f1 f2 f3 f4 f5 f6 f7 f8 f9 f10 f11 f12 f13 f14 f15 f16 f17 f18 f19 f20 f21 fL fN fP fM fO) s.heap.size = A at hD ⊢
  have hA : ∀ q : Nat, s.heap.size ≤ q → A q := fun q h => by rw [← hAe]; exact Or.inr h
  have hP : va_P (dC, dI) vwCl (mW ad kc x0 x1 x2 x3 x4 x5 x6 x7 x8 x9 x10 x11 x12 x13 x14 x15 x16 x17 x18 x19 x20 x21 f0 f1 f2 f3 f4 f5 f6 f7 f8 f9 f10 f11 f12 f13 f14 f15 f16 f17 f18 f19 f20 f21 fL fN fP fM fO) s.heap := hP
  have hD : va_D A (mW ad kc x0 x1 x2 x3 x4 x5 x6 x7 x8 x9 x10 x11 x12 x13 x14 x15 x16 x17 x18 x19 x20 x21 f0 f1 f2 f3 f4 f5 f6 f7 f8 f9 f10 f11 f12 f13 f14 f15 f16 f17 f18 f19 f20 f21 fL fN fP fM fO) := hD
  have hK : va_K (dC, dI) vwCl (mT kc) s := hK
  generalize hH : s.heap = H at hP ⊢
  have hS : va_S A s.heap H [] := by rw [← hH]; exact va_S.rf
  have hl := lv_entry ([.ref (ad 0), .int i1, .int i2]) (n := 3) (Nat.le_of_ble_eq_true rfl)
  rw [lg_entry_eq]
  generalize (lg_sl ([.ref (ad 0), .int i1, .int i2]) ++ List.replicate (3 - (lg_sl ([.ref (ad 0), .int i1, .int i2])).length) Slot.unset).toArray = ls at hl ⊢
  have hl : lv_has ls 3 [(0, .ref (ad 0)), (1, .int i1), (2, .int i2)] := hl
  have rg_i1 := i_rng i1
  have rg_i2 := i_rng i2
  have hd := q0.d
  have hpi := q0.p
  have hq1 := q0.1
  have hq2 := q0.2.1
  have hq3 := q0.2.2.1
  have hd10 := hd.n0
  have hp8 := hd.P0
  refine lv_iload_n hx hb dX10_document_0 rfl (lv_at hl 2 rfl) ?_
  refine lv_iconst (v := 0) hx hb dX10_document_1 (by decide) ?_
  refine lv_iconst (v := 3) hx hb dX10_document_2 (by decide) ?_
  refine vp_callSi (W.runS (As := [.int i2, .int 0, .int 3]) (rest := []) ⟨hx, hb, hml, hown, hts⟩ (m_isFrom l dC dI  i2 0 3 ) (va_cwS 3 hts mg_X10_documentm_X10_isFrom_200 rfl rfl rfl (by decide +kernel) ⟨Nat.le_of_ble_eq_true rfl, Nat.le_of_ble_eq_true rfl⟩) ⟨fun a U g mk q => ⟨q.1, trivial⟩, fun U hU hW => ⟨rfl, trivial⟩⟩ rfl rfl hl.1 rfl (lv_room (Nat.le_of_ble_eq_true rfl)) dX10_document_3 ⟨Nat.le_of_ble_eq_true rfl, Nat.le_of_ble_eq_true rfl⟩) (fun r_1 hr_1 => ?_)
  have rg_r_1 := i_rng r_1
  refine lv_if_ne (tgt := 15) hx hb dX10_document_6 (by decide) (fun k_2 => ?_) (fun k_2 => ?_)
  · have tk_2 := c_ne (a := r_1.toInt) (b := 0) rfl (by decide) k_2
    refine lv_aload_n hx hb dX10_document_15 rfl (lv_at hl 0 rfl) ?_
    refine lv_iload_n hx hb dX10_document_16 rfl (lv_at hl 1 rfl) ?_
    refine vp_callSi (W.runV (As := [.int i1]) (rest := []) ⟨hx, hb, hml, hown, hts⟩ (m_isDoc l dC dI ad kc x0 x1 x2 x3 x4 x5 x6 x7 x8 x9 x10 x11 x12 x13 x14 x15 x16 x17 x18 x19 x20 x21 f0 f1 f2 f3 f4 f5 f6 f7 f8 f9 f10 f11 f12 f13 f14 f15 f16 f17 f18 f19 f20 f21 fL fN fP fM fO i1 ) (cwV 1 hts mg_X10_documentm_X10_isDoc_451 rfl rfl rfl (by decide +kernel) ⟨Nat.le_of_ble_eq_true rfl, Nat.le_of_ble_eq_true rfl⟩) ⟨fun a U g mk q => by obtain ⟨q0, qP, qK⟩ := q; exact ⟨q0, qP, va_K.moved (u := U) (U := U.calling g mk a) (Vm.Alike.refl U.vm) qK⟩, va_recv hK hP (ci := 10) (q0 := 0) rfl rfl, fun U hU hW => ⟨rfl, by rw [hU]; exact hP, va_K.moved hW.alike hK⟩⟩ rfl rfl hl.1 rfl (lv_room (Nat.le_of_ble_eq_true rfl)) dX10_document_17 ⟨Nat.le_of_ble_eq_true rfl, Nat.le_of_ble_eq_true rfl⟩) (fun r_3 hr_3 => ?_)
    have rg_r_3 := i_rng r_3
    refine lv_if_ne (tgt := 29) hx hb dX10_document_20 (by decide) (fun k_4 => ?_) (fun k_4 => ?_)
    · have tk_4 := c_ne (a := r_3.toInt) (b := 0) rfl (by decide) k_4
      refine lv_aload_n hx hb dX10_document_29 rfl (lv_at hl 0 rfl) ?_
      refine lv_iload_n hx hb dX10_document_30 rfl (lv_at hl 2 rfl) ?_
      refine lv_if_ne (tgt := 42) hx hb dX10_document_31 (by decide) (fun k_5 => ?_) (fun k_5 => ?_)
      · have tk_5 := c_ne (a := i2.toInt) (b := 0) rfl (by decide) k_5
        refine lv_iload_n hx hb dX10_document_42 rfl (lv_at hl 2 rfl) ?_
        refine lv_iconst (v := 1) hx hb dX10_document_43 (by decide) ?_
        refine lv_icmp_ne (tgt := 58) hx hb dX10_document_44 (by decide) (fun k_6 => ?_) (fun k_6 => ?_)
        · have tk_6 := c_ne (a := i2.toInt) (b := 1) rfl (by decide) k_6
          refine lv_aload_n hx hb dX10_document_58 rfl (lv_at hl 0 rfl) ?_
          refine lv_iload_n hx hb dX10_document_59 rfl (lv_at hl 1 rfl) ?_
          refine lv_iload_n hx hb dX10_document_60 rfl (lv_at hl 2 rfl) ?_
          refine lv_iconst (v := 3) hx hb dX10_document_61 (by decide) ?_
          refine lv_icmp_ne (tgt := 69) hx hb dX10_document_62 (by decide) (fun k_7 => ?_) (fun k_7 => ?_)
          · have tk_7 := c_ne (a := i2.toInt) (b := 3) rfl (by decide) k_7
            refine lv_iconst (v := 0) hx hb dX10_document_69 (by decide) ?_
            have hFc := m_free hD hS hA
            refine va_calli (va_runV (As := [.int i1, .int 0]) (rest := [.ref (ad 0)]) ⟨hx, hb, hml, hown, hts⟩ (m_patternsOf l dC dI ad kc x0 x1 x2 x3 x4 x5 x6 x7 x8 x9 x10 x11 x12 x13 x14 x15 x16 x17 x18 x19 x20 x21 f0 f1 f2 f3 f4 f5 f6 f7 f8 f9 f10 f11 f12 f13 f14 f15 f16 f17 f18 f19 f20 f21 fL fN fP fM fO H.size i1 0 (by first | omega | assumption | decide | (have l0 := Int32.toInt_zero; omega)) (by first | omega | assumption | decide | (have l0 := Int32.toInt_zero; omega))) (cwV 2 hts mg_X10_documentm_X10_patternsOf_454 rfl rfl rfl (by decide +kernel) ⟨Nat.le_of_ble_eq_true rfl, Nat.le_of_ble_eq_true rfl⟩) ⟨fun a U g mk q => by obtain ⟨q0, q1, qP, qK, qD, qE⟩ := q; exact ⟨q0, q1, qP, va_K.moved (u := U) (U := U.calling g mk a) (Vm.Alike.refl U.vm) qK, qD, over_moved (u := U) (E := U.calling g mk a) (Vm.Alike.refl U.vm) qE⟩, va_recv hK hP (ci := 10) (q0 := 0) rfl rfl, fun U hU hW => ⟨rfl, by rw [hU], by rw [hU]; exact hP, va_K.moved hW.alike hK, hD.weaken (fun _ _ _ _ => trivial), over_moved hW.alike hOV⟩⟩ rfl rfl hl.1 rfl (lv_room (Nat.le_of_ble_eq_true rfl)) dX10_document_70 ⟨Nat.le_of_ble_eq_true rfl, Nat.le_of_ble_eq_true rfl⟩) hS (fun q _ h => hFc q h) hFc (fun r_8 u t H1 locs ht hvm hw hB hz1 hk1 hS => ?_)
            subst hw
            obtain ⟨x_9, x_10, x_11, x_12, x_13, x_14, x_15, x_16, x_17, x_18, f_19, f_20, f_21, f_22, f_23, f_24, f_25, f_26, f_27, f_28, f_29, f_30, f_31, f_32, f_33, f_34, f_35, L_36, Nn_37, P_38, M_39, O_40, hr_8_0, hP, hK1, hD1⟩ := hB
            rw [ht] at hP
            have hD := hD1.weaken (fun k q _ h => hFc q.1 h)
            clear hz1 hk1 hFc hD1 hK1 hvm
            generalize H1 = H at hP hS ⊢
            have rg_x_9 := i_rng x_9
            have rg_x_10 := i_rng x_10
            have rg_x_11 := i_rng x_11
            have rg_x_12 := i_rng x_12
            have rg_x_13 := i_rng x_13
            have rg_x_14 := i_rng x_14
            have rg_x_15 := i_rng x_15
            have rg_x_16 := i_rng x_16
            have rg_x_17 := i_rng x_17
            have rg_x_18 := i_rng x_18
            have rg_r_8 := i_rng r_8
            have hP : va_P (dC, dI) vwCl (mW ad kc x0 x1 x2 x3 x4 x5 x6 x7 x8 x9 x10 x11 x_9 x_10 x_11 x_12 x_13 x_14 x_15 x_16 x_17 x_18 f0 f1 f2 f_19 f_20 f_21 f_22 f_23 f_24 f_25 f_26 f_27 f_28 f_29 f_30 f_31 f_32 f_33 f_34 f_35 f20 f21 L_36 Nn_37 P_38 M_39 O_40) H := hP
            have hD : va_D A (mW ad kc x0 x1 x2 x3 x4 x5 x6 x7 x8 x9 x10 x11 x_9 x_10 x_11 x_12 x_13 x_14 x_15 x_16 x_17 x_18 f0 f1 f2 f_19 f_20 f_21 f_22 f_23 f_24 f_25 f_26 f_27 f_28 f_29 f_30 f_31 f_32 f_33 f_34 f_35 f20 f21 L_36 Nn_37 P_38 M_39 O_40) := hD
            have hPI9 := hr_8_0
            have hFc := m_free hD hS hA
            refine va_calli (va_runV (As := [.int r_8]) (rest := []) ⟨hx, hb, hml, hown, hts⟩ (m_gives l dC dI ad kc x0 x1 x2 x3 x4 x5 x6 x7 x8 x9 x10 x11 x_9 x_10 x_11 x_12 x_13 x_14 x_15 x_16 x_17 x_18 f0 f1 f2 f_19 f_20 f_21 f_22 f_23 f_24 f_25 f_26 f_27 f_28 f_29 f_30 f_31 f_32 f_33 f_34 f_35 f20 f21 L_36 Nn_37 P_38 M_39 O_40 H.size r_8 ) (cwV 1 hts mg_X10_documentm_X10_gives_214 rfl rfl rfl (by decide +kernel) ⟨Nat.le_of_ble_eq_true rfl, Nat.le_of_ble_eq_true rfl⟩) ⟨fun a U g mk q => by obtain ⟨q0, q1, qP, qK, qD⟩ := q; exact ⟨q0, q1, qP, va_K.moved (u := U) (U := U.calling g mk a) (Vm.Alike.refl U.vm) qK, qD⟩, va_recv hK hP (ci := 10) (q0 := 0) rfl rfl, fun U hU hW => ⟨rfl, by rw [hU], by rw [hU]; exact hP, va_K.moved hW.alike hK, hD.weaken (fun _ _ _ _ => trivial)⟩⟩ rfl rfl hl.1 rfl (lv_room (Nat.le_of_ble_eq_true rfl)) dX10_document_73 ⟨Nat.le_of_ble_eq_true rfl, Nat.le_of_ble_eq_true rfl⟩) hS (fun q _ h => hFc q h) hFc (fun r_41 u t H1 locs ht hvm hw hB hz1 hk1 hS => ?_)
            subst hw
            obtain ⟨hr_41_0, hP, hK1, hD1⟩ := hB
            rw [ht] at hP
            have hD := hD1.weaken (fun k q _ h => hFc q.1 h)
            clear hz1 hk1 hFc hD1 hK1 hvm
            generalize H1 = H at hP hS ⊢
            have rg_r_41 := i_rng r_41
            have hP : va_P (dC, dI) vwCl (mW ad kc 0 x1 x2 x3 x4 x5 x6 x7 x8 x9 x10 x11 x_9 x_10 x_11 x_12 x_13 x_14 x_15 x_16 x_17 x_18 f0 f1 f2 f_19 f_20 f_21 f_22 f_23 f_24 f_25 f_26 f_27 f_28 f_29 f_30 f_31 f_32 f_33 f_34 f_35 f20 f21 L_36 Nn_37 P_38 M_39 O_40) H := hP
            have hD : va_D A (mW ad kc 0 x1 x2 x3 x4 x5 x6 x7 x8 x9 x10 x11 x_9 x_10 x_11 x_12 x_13 x_14 x_15 x_16 x_17 x_18 f0 f1 f2 f_19 f_20 f_21 f_22 f_23 f_24 f_25 f_26 f_27 f_28 f_29 f_30 f_31 f_32 f_33 f_34 f_35 f20 f21 L_36 Nn_37 P_38 M_39 O_40) := hD
            have lit_41 : (0 : Int32).toInt = 0 := by decide
            exact W.iret hx hb hr (fun t ht hW => ⟨⟨_, _, rfl, rfl, 0, x_9, x_10, x_11, x_12, x_13, x_14, x_15, x_16, x_17, x_18, f_19, f_20, f_21, f_22, f_23, f_24, f_25, f_26, f_27, f_28, f_29, f_30, f_31, f_32, f_33, f_34, f_35, f20, L_36, Nn_37, P_38, M_39, O_40, hPI9, by rw [ht]; exact hP, va_K.moved hW.alike hK, hD⟩, hS.F ht⟩) hS.2.2 dX10_document_76
          · have tk_7 := c_eq (a := i2.toInt) (b := 3) rfl (by decide) k_7
            refine lv_iconst (v := 1) hx hb dX10_document_65 (by decide) ?_
            refine lv_goto (tgt := 70) hx hb dX10_document_66 (by decide) ?_
            have hFc := m_free hD hS hA
            refine va_calli (va_runV (As := [.int i1, .int 1]) (rest := [.ref (ad 0)]) ⟨hx, hb, hml, hown, hts⟩ (m_patternsOf l dC dI ad kc x0 x1 x2 x3 x4 x5 x6 x7 x8 x9 x10 x11 x12 x13 x14 x15 x16 x17 x18 x19 x20 x21 f0 f1 f2 f3 f4 f5 f6 f7 f8 f9 f10 f11 f12 f13 f14 f15 f16 f17 f18 f19 f20 f21 fL fN fP fM fO H.size i1 1 (by first | omega | assumption | decide | (have l0 := Int32.toInt_zero; omega)) (by first | omega | assumption | decide | (have l0 := Int32.toInt_zero; omega))) (cwV 2 hts mg_X10_documentm_X10_patternsOf_454 rfl rfl rfl (by decide +kernel) ⟨Nat.le_of_ble_eq_true rfl, Nat.le_of_ble_eq_true rfl⟩) ⟨fun a U g mk q => by obtain ⟨q0, q1, qP, qK, qD, qE⟩ := q; exact ⟨q0, q1, qP, va_K.moved (u := U) (U := U.calling g mk a) (Vm.Alike.refl U.vm) qK, qD, over_moved (u := U) (E := U.calling g mk a) (Vm.Alike.refl U.vm) qE⟩, va_recv hK hP (ci := 10) (q0 := 0) rfl rfl, fun U hU hW => ⟨rfl, by rw [hU], by rw [hU]; exact hP, va_K.moved hW.alike hK, hD.weaken (fun _ _ _ _ => trivial), over_moved hW.alike hOV⟩⟩ rfl rfl hl.1 rfl (lv_room (Nat.le_of_ble_eq_true rfl)) dX10_document_70 ⟨Nat.le_of_ble_eq_true rfl, Nat.le_of_ble_eq_true rfl⟩) hS (fun q _ h => hFc q h) hFc (fun r_43 u t H1 locs ht hvm hw hB hz1 hk1 hS => ?_)
            subst hw
            obtain ⟨x_44, x_45, x_46, x_47, x_48, x_49, x_50, x_51, x_52, x_53, f_54, f_55, f_56, f_57, f_58, f_59, f_60, f_61, f_62, f_63, f_64, f_65, f_66, f_67, f_68, f_69, f_70, L_71, Nn_72, P_73, M_74, O_75, hr_43_0, hP, hK1, hD1⟩ := hB
            rw [ht] at hP
            have hD := hD1.weaken (fun k q _ h => hFc q.1 h)
            clear hz1 hk1 hFc hD1 hK1 hvm
            generalize H1 = H at hP hS ⊢
            have rg_x_44 := i_rng x_44
            have rg_x_45 := i_rng x_45
            have rg_x_46 := i_rng x_46
            have rg_x_47 := i_rng x_47
            have rg_x_48 := i_rng x_48
            have rg_x_49 := i_rng x_49
            have rg_x_50 := i_rng x_50
            have rg_x_51 := i_rng x_51
            have rg_x_52 := i_rng x_52
            have rg_x_53 := i_rng x_53
            have rg_r_43 := i_rng r_43
            have hP : va_P (dC, dI) vwCl (mW ad kc x0 x1 x2 x3 x4 x5 x6 x7 x8 x9 x10 x11 x_44 x_45 x_46 x_47 x_48 x_49 x_50 x_51 x_52 x_53 f0 f1 f2 f_54 f_55 f_56 f_57 f_58 f_59 f_60 f_61 f_62 f_63 f_64 f_65 f_66 f_67 f_68 f_69 f_70 f20 f21 L_71 Nn_72 P_73 M_74 O_75) H := hP
            have hD : va_D A (mW ad kc x0 x1 x2 x3 x4 x5 x6 x7 x8 x9 x10 x11 x_44 x_45 x_46 x_47 x_48 x_49 x_50 x_51 x_52 x_53 f0 f1 f2 f_54 f_55 f_56 f_57 f_58 f_59 f_60 f_61 f_62 f_63 f_64 f_65 f_66 f_67 f_68 f_69 f_70 f20 f21 L_71 Nn_72 P_73 M_74 O_75) := hD
            have hPI9 := hr_43_0
            have hFc := m_free hD hS hA
            refine va_calli (va_runV (As := [.int r_43]) (rest := []) ⟨hx, hb, hml, hown, hts⟩ (m_gives l dC dI ad kc x0 x1 x2 x3 x4 x5 x6 x7 x8 x9 x10 x11 x_44 x_45 x_46 x_47 x_48 x_49 x_50 x_51 x_52 x_53 f0 f1 f2 f_54 f_55 f_56 f_57 f_58 f_59 f_60 f_61 f_62 f_63 f_64 f_65 f_66 f_67 f_68 f_69 f_70 f20 f21 L_71 Nn_72 P_73 M_74 O_75 H.size r_43 ) (cwV 1 hts mg_X10_documentm_X10_gives_214 rfl rfl rfl (by decide +kernel) ⟨Nat.le_of_ble_eq_true rfl, Nat.le_of_ble_eq_true rfl⟩) ⟨fun a U g mk q => by obtain ⟨q0, q1, qP, qK, qD⟩ := q; exact ⟨q0, q1, qP, va_K.moved (u := U) (U := U.calling g mk a) (Vm.Alike.refl U.vm) qK, qD⟩, va_recv hK hP (ci := 10) (q0 := 0) rfl rfl, fun U hU hW => ⟨rfl, by rw [hU], by rw [hU]; exact hP, va_K.moved hW.alike hK, hD.weaken (fun _ _ _ _ => trivial)⟩⟩ rfl rfl hl.1 rfl (lv_room (Nat.le_of_ble_eq_true rfl)) dX10_document_73 ⟨Nat.le_of_ble_eq_true rfl, Nat.le_of_ble_eq_true rfl⟩) hS (fun q _ h => hFc q h) hFc (fun r_76 u t H1 locs ht hvm hw hB hz1 hk1 hS => ?_)
            subst hw
            obtain ⟨hr_76_0, hP, hK1, hD1⟩ := hB
            rw [ht] at hP
            have hD := hD1.weaken (fun k q _ h => hFc q.1 h)
            clear hz1 hk1 hFc hD1 hK1 hvm
            generalize H1 = H at hP hS ⊢
            have rg_r_76 := i_rng r_76
            have hP : va_P (dC, dI) vwCl (mW ad kc 0 x1 x2 x3 x4 x5 x6 x7 x8 x9 x10 x11 x_44 x_45 x_46 x_47 x_48 x_49 x_50 x_51 x_52 x_53 f0 f1 f2 f_54 f_55 f_56 f_57 f_58 f_59 f_60 f_61 f_62 f_63 f_64 f_65 f_66 f_67 f_68 f_69 f_70 f20 f21 L_71 Nn_72 P_73 M_74 O_75) H := hP
            have hD : va_D A (mW ad kc 0 x1 x2 x3 x4 x5 x6 x7 x8 x9 x10 x11 x_44 x_45 x_46 x_47 x_48 x_49 x_50 x_51 x_52 x_53 f0 f1 f2 f_54 f_55 f_56 f_57 f_58 f_59 f_60 f_61 f_62 f_63 f_64 f_65 f_66 f_67 f_68 f_69 f_70 f20 f21 L_71 Nn_72 P_73 M_74 O_75) := hD
            have lit_76 : (0 : Int32).toInt = 0 := by decide
            exact W.iret hx hb hr (fun t ht hW => ⟨⟨_, _, rfl, rfl, 0, x_44, x_45, x_46, x_47, x_48, x_49, x_50, x_51, x_52, x_53, f_54, f_55, f_56, f_57, f_58, f_59, f_60, f_61, f_62, f_63, f_64, f_65, f_66, f_67, f_68, f_69, f_70, f20, L_71, Nn_72, P_73, M_74, O_75, hPI9, by rw [ht]; exact hP, va_K.moved hW.alike hK, hD⟩, hS.F ht⟩) hS.2.2 dX10_document_76
        · have tk_6 := c_eq (a := i2.toInt) (b := 1) rfl (by decide) k_6
          refine lv_aload_n hx hb dX10_document_47 rfl (lv_at hl 0 rfl) ?_
          refine lv_iload_n hx hb dX10_document_48 rfl (lv_at hl 1 rfl) ?_
          refine lv_iload_n hx hb dX10_document_49 rfl (lv_at hl 1 rfl) ?_
          refine lv_iconst (v := 1) hx hb dX10_document_50 (by decide) ?_
          refine lv_iadd hx hb dX10_document_51 ?_
          refine lv_topi (fun y_78 ey_78 => ?_)
          first | have ty_78 := i_add (a := i1.toInt) (b := 1) rfl (by decide) ey_78 (by omega) (by omega) | skip
          have hFc := m_free hD hS hA
          refine va_calli (va_runV (As := [.int i1, .int y_78]) (rest := [.ref (ad 0)]) ⟨hx, hb, hml, hown, hts⟩ (m_unlike l dC dI ad kc x0 x1 x2 x3 x4 x5 x6 x7 x8 x9 x10 x11 x12 x13 x14 x15 x16 x17 x18 x19 x20 x21 f0 f1 f2 f3 f4 f5 f6 f7 f8 f9 f10 f11 f12 f13 f14 f15 f16 f17 f18 f19 f20 f21 fL fN fP fM fO H.size i1 y_78 (by first | omega | assumption | decide | (have l0 := Int32.toInt_zero; omega)) (by first | omega | assumption | decide | (have l0 := Int32.toInt_zero; omega)) (by first | omega | assumption | decide | (have l0 := Int32.toInt_zero; omega))) (cwV 2 hts mg_X10_documentm_X10_unlike_436 rfl rfl rfl (by decide +kernel) ⟨Nat.le_of_ble_eq_true rfl, Nat.le_of_ble_eq_true rfl⟩) ⟨fun a U g mk q => by obtain ⟨q0, q1, qP, qK, qD⟩ := q; exact ⟨q0, q1, qP, va_K.moved (u := U) (U := U.calling g mk a) (Vm.Alike.refl U.vm) qK, qD⟩, va_recv hK hP (ci := 10) (q0 := 0) rfl rfl, fun U hU hW => ⟨rfl, by rw [hU], by rw [hU]; exact hP, va_K.moved hW.alike hK, hD.weaken (fun _ _ _ _ => trivial)⟩⟩ rfl rfl hl.1 rfl (lv_room (Nat.le_of_ble_eq_true rfl)) dX10_document_52 ⟨Nat.le_of_ble_eq_true rfl, Nat.le_of_ble_eq_true rfl⟩) hS (fun q _ h => hFc q h) hFc (fun r_79 u t H1 locs ht hvm hw hB hz1 hk1 hS => ?_)
          subst hw
          obtain ⟨f_80, hP, hK1, hD1⟩ := hB
          rw [ht] at hP
          have hD := hD1.weaken (fun k q _ h => hFc q.1 h)
          clear hz1 hk1 hFc hD1 hK1 hvm
          generalize H1 = H at hP hS ⊢
          have rg_r_79 := i_rng r_79
          have hP : va_P (dC, dI) vwCl (mW ad kc x0 x1 x2 x3 x4 x5 x6 x7 x8 x9 x10 x11 x12 x13 x14 x15 x16 x17 x18 x19 x20 x21 f0 f1 f2 f3 f4 f5 f6 f7 f8 f9 f10 f11 f12 f13 f14 f15 f16 f17 f18 f19 f_80 f21 fL fN fP fM fO) H := hP
          have hD : va_D A (mW ad kc x0 x1 x2 x3 x4 x5 x6 x7 x8 x9 x10 x11 x12 x13 x14 x15 x16 x17 x18 x19 x20 x21 f0 f1 f2 f3 f4 f5 f6 f7 f8 f9 f10 f11 f12 f13 f14 f15 f16 f17 f18 f19 f_80 f21 fL fN fP fM fO) := hD
          refine lv_goto (tgt := 73) hx hb dX10_document_55 (by decide) ?_
          have hFc := m_free hD hS hA
          refine va_calli (va_runV (As := [.int r_79]) (rest := []) ⟨hx, hb, hml, hown, hts⟩ (m_gives l dC dI ad kc x0 x1 x2 x3 x4 x5 x6 x7 x8 x9 x10 x11 x12 x13 x14 x15 x16 x17 x18 x19 x20 x21 f0 f1 f2 f3 f4 f5 f6 f7 f8 f9 f10 f11 f12 f13 f14 f15 f16 f17 f18 f19 f_80 f21 fL fN fP fM fO H.size r_79 ) (cwV 1 hts mg_X10_documentm_X10_gives_214 rfl rfl rfl (by decide +kernel) ⟨Nat.le_of_ble_eq_true rfl, Nat.le_of_ble_eq_true rfl⟩) ⟨fun a U g mk q => by obtain ⟨q0, q1, qP, qK, qD⟩ := q; exact ⟨q0, q1, qP, va_K.moved (u := U) (U := U.calling g mk a) (Vm.Alike.refl U.vm) qK, qD⟩, va_recv hK hP (ci := 10) (q0 := 0) rfl rfl, fun U hU hW => ⟨rfl, by rw [hU], by rw [hU]; exact hP, va_K.moved hW.alike hK, hD.weaken (fun _ _ _ _ => trivial)⟩⟩ rfl rfl hl.1 rfl (lv_room (Nat.le_of_ble_eq_true rfl)) dX10_document_73 ⟨Nat.le_of_ble_eq_true rfl, Nat.le_of_ble_eq_true rfl⟩) hS (fun q _ h => hFc q h) hFc (fun r_81 u t H1 locs ht hvm hw hB hz1 hk1 hS => ?_)
          subst hw
          obtain ⟨hr_81_0, hP, hK1, hD1⟩ := hB
          rw [ht] at hP
          have hD := hD1.weaken (fun k q _ h => hFc q.1 h)
          clear hz1 hk1 hFc hD1 hK1 hvm
          generalize H1 = H at hP hS ⊢
          have rg_r_81 := i_rng r_81
          have hP : va_P (dC, dI) vwCl (mW ad kc 0 x1 x2 x3 x4 x5 x6 x7 x8 x9 x10 x11 x12 x13 x14 x15 x16 x17 x18 x19 x20 x21 f0 f1 f2 f3 f4 f5 f6 f7 f8 f9 f10 f11 f12 f13 f14 f15 f16 f17 f18 f19 f_80 f21 fL fN fP fM fO) H := hP
          have hD : va_D A (mW ad kc 0 x1 x2 x3 x4 x5 x6 x7 x8 x9 x10 x11 x12 x13 x14 x15 x16 x17 x18 x19 x20 x21 f0 f1 f2 f3 f4 f5 f6 f7 f8 f9 f10 f11 f12 f13 f14 f15 f16 f17 f18 f19 f_80 f21 fL fN fP fM fO) := hD
          have lit_81 : (0 : Int32).toInt = 0 := by decide
          exact W.iret hx hb hr (fun t ht hW => ⟨⟨_, _, rfl, rfl, 0, x12, x13, x14, x15, x16, x17, x18, x19, x20, x21, f3, f4, f5, f6, f7, f8, f9, f10, f11, f12, f13, f14, f15, f16, f17, f18, f19, f_80, fL, fN, fP, fM, fO, hpi, by rw [ht]; exact hP, va_K.moved hW.alike hK, hD⟩, hS.F ht⟩) hS.2.2 dX10_document_76
      · have tk_5 := c_eq (a := i2.toInt) (b := 0) rfl (by decide) k_5
        refine lv_aload_n hx hb dX10_document_34 rfl (lv_at hl 0 rfl) ?_
        refine lv_iload_n hx hb dX10_document_35 rfl (lv_at hl 1 rfl) ?_
        refine vp_callSi (W.runV (As := [.int i1]) (rest := [.ref (ad 0)]) ⟨hx, hb, hml, hown, hts⟩ (m_sizeOf l dC dI ad kc x0 x1 x2 x3 x4 x5 x6 x7 x8 x9 x10 x11 x12 x13 x14 x15 x16 x17 x18 x19 x20 x21 f0 f1 f2 f3 f4 f5 f6 f7 f8 f9 f10 f11 f12 f13 f14 f15 f16 f17 f18 f19 f20 f21 fL fN fP fM fO i1 (by first | omega | assumption | decide | (have l0 := Int32.toInt_zero; omega)) (by first | omega | assumption | decide | (have l0 := Int32.toInt_zero; omega))) (cwV 1 hts mg_X10_documentm_X10_sizeOf_396 rfl rfl rfl (by decide +kernel) ⟨Nat.le_of_ble_eq_true rfl, Nat.le_of_ble_eq_true rfl⟩) ⟨fun a U g mk q => by obtain ⟨q0, qP, qK⟩ := q; exact ⟨q0, qP, va_K.moved (u := U) (U := U.calling g mk a) (Vm.Alike.refl U.vm) qK⟩, va_recv hK hP (ci := 10) (q0 := 0) rfl rfl, fun U hU hW => ⟨rfl, by rw [hU]; exact hP, va_K.moved hW.alike hK⟩⟩ rfl rfl hl.1 rfl (lv_room (Nat.le_of_ble_eq_true rfl)) dX10_document_36 ⟨Nat.le_of_ble_eq_true rfl, Nat.le_of_ble_eq_true rfl⟩) (fun r_83 hr_83 => ?_)
        have rg_r_83 := i_rng r_83
        refine lv_goto (tgt := 73) hx hb dX10_document_39 (by decide) ?_
        have hFc := m_free hD hS hA
        refine va_calli (va_runV (As := [.int r_83]) (rest := []) ⟨hx, hb, hml, hown, hts⟩ (m_gives l dC dI ad kc x0 x1 x2 x3 x4 x5 x6 x7 x8 x9 x10 x11 x12 x13 x14 x15 x16 x17 x18 x19 x20 x21 f0 f1 f2 f3 f4 f5 f6 f7 f8 f9 f10 f11 f12 f13 f14 f15 f16 f17 f18 f19 f20 f21 fL fN fP fM fO H.size r_83 ) (cwV 1 hts mg_X10_documentm_X10_gives_214 rfl rfl rfl (by decide +kernel) ⟨Nat.le_of_ble_eq_true rfl, Nat.le_of_ble_eq_true rfl⟩) ⟨fun a U g mk q => by obtain ⟨q0, q1, qP, qK, qD⟩ := q; exact ⟨q0, q1, qP, va_K.moved (u := U) (U := U.calling g mk a) (Vm.Alike.refl U.vm) qK, qD⟩, va_recv hK hP (ci := 10) (q0 := 0) rfl rfl, fun U hU hW => ⟨rfl, by rw [hU], by rw [hU]; exact hP, va_K.moved hW.alike hK, hD.weaken (fun _ _ _ _ => trivial)⟩⟩ rfl rfl hl.1 rfl (lv_room (Nat.le_of_ble_eq_true rfl)) dX10_document_73 ⟨Nat.le_of_ble_eq_true rfl, Nat.le_of_ble_eq_true rfl⟩) hS (fun q _ h => hFc q h) hFc (fun r_84 u t H1 locs ht hvm hw hB hz1 hk1 hS => ?_)
        subst hw
        obtain ⟨hr_84_0, hP, hK1, hD1⟩ := hB
        rw [ht] at hP
        have hD := hD1.weaken (fun k q _ h => hFc q.1 h)
        clear hz1 hk1 hFc hD1 hK1 hvm
        generalize H1 = H at hP hS ⊢
        have rg_r_84 := i_rng r_84
        have hP : va_P (dC, dI) vwCl (mW ad kc 0 x1 x2 x3 x4 x5 x6 x7 x8 x9 x10 x11 x12 x13 x14 x15 x16 x17 x18 x19 x20 x21 f0 f1 f2 f3 f4 f5 f6 f7 f8 f9 f10 f11 f12 f13 f14 f15 f16 f17 f18 f19 f20 f21 fL fN fP fM fO) H := hP
        have hD : va_D A (mW ad kc 0 x1 x2 x3 x4 x5 x6 x7 x8 x9 x10 x11 x12 x13 x14 x15 x16 x17 x18 x19 x20 x21 f0 f1 f2 f3 f4 f5 f6 f7 f8 f9 f10 f11 f12 f13 f14 f15 f16 f17 f18 f19 f20 f21 fL fN fP fM fO) := hD
        have lit_84 : (0 : Int32).toInt = 0 := by decide
        exact W.iret hx hb hr (fun t ht hW => ⟨⟨_, _, rfl, rfl, 0, x12, x13, x14, x15, x16, x17, x18, x19, x20, x21, f3, f4, f5, f6, f7, f8, f9, f10, f11, f12, f13, f14, f15, f16, f17, f18, f19, f20, fL, fN, fP, fM, fO, hpi, by rw [ht]; exact hP, va_K.moved hW.alike hK, hD⟩, hS.F ht⟩) hS.2.2 dX10_document_76
    · have tk_4 := c_eq (a := r_3.toInt) (b := 0) rfl (by decide) k_4
      refine lv_aload_n hx hb dX10_document_23 rfl (lv_at hl 0 rfl) ?_
      refine lv_iconst (v := 2) hx hb dX10_document_24 (by decide) ?_
      have hFc := m_free hD hS hA
      refine va_calli (va_runV (As := [.int 2]) (rest := []) ⟨hx, hb, hml, hown, hts⟩ (m_refuse l dC dI ad kc x0 x1 x2 x3 x4 x5 x6 x7 x8 x9 x10 x11 x12 x13 x14 x15 x16 x17 x18 x19 x20 x21 f0 f1 f2 f3 f4 f5 f6 f7 f8 f9 f10 f11 f12 f13 f14 f15 f16 f17 f18 f19 f20 f21 fL fN fP fM fO H.size 2 ) (cwV 1 hts mg_X10_documentm_X10_refuse_204 rfl rfl rfl (by decide +kernel) ⟨Nat.le_of_ble_eq_true rfl, Nat.le_of_ble_eq_true rfl⟩) ⟨fun a U g mk q => by obtain ⟨q0, q1, qP, qK, qD⟩ := q; exact ⟨q0, q1, qP, va_K.moved (u := U) (U := U.calling g mk a) (Vm.Alike.refl U.vm) qK, qD⟩, va_recv hK hP (ci := 10) (q0 := 0) rfl rfl, fun U hU hW => ⟨rfl, by rw [hU], by rw [hU]; exact hP, va_K.moved hW.alike hK, hD.weaken (fun _ _ _ _ => trivial)⟩⟩ rfl rfl hl.1 rfl (lv_room (Nat.le_of_ble_eq_true rfl)) dX10_document_25 ⟨Nat.le_of_ble_eq_true rfl, Nat.le_of_ble_eq_true rfl⟩) hS (fun q _ h => hFc q h) hFc (fun r_86 u t H1 locs ht hvm hw hB hz1 hk1 hS => ?_)
      subst hw
      obtain ⟨hr_86_0, hP, hK1, hD1⟩ := hB
      rw [ht] at hP
      have hD := hD1.weaken (fun k q _ h => hFc q.1 h)
      clear hz1 hk1 hFc hD1 hK1 hvm
      generalize H1 = H at hP hS ⊢
      have rg_r_86 := i_rng r_86
      have hP : va_P (dC, dI) vwCl (mW ad kc 2 x1 x2 x3 x4 x5 x6 x7 x8 x9 x10 x11 x12 x13 x14 x15 x16 x17 x18 x19 x20 x21 f0 f1 f2 f3 f4 f5 f6 f7 f8 f9 f10 f11 f12 f13 f14 f15 f16 f17 f18 f19 f20 f21 fL fN fP fM fO) H := hP
      have hD : va_D A (mW ad kc 2 x1 x2 x3 x4 x5 x6 x7 x8 x9 x10 x11 x12 x13 x14 x15 x16 x17 x18 x19 x20 x21 f0 f1 f2 f3 f4 f5 f6 f7 f8 f9 f10 f11 f12 f13 f14 f15 f16 f17 f18 f19 f20 f21 fL fN fP fM fO) := hD
      have lit_86 : (2 : Int32).toInt = 2 := by decide
      exact W.iret hx hb hr (fun t ht hW => ⟨⟨_, _, rfl, rfl, 2, x12, x13, x14, x15, x16, x17, x18, x19, x20, x21, f3, f4, f5, f6, f7, f8, f9, f10, f11, f12, f13, f14, f15, f16, f17, f18, f19, f20, fL, fN, fP, fM, fO, hpi, by rw [ht]; exact hP, va_K.moved hW.alike hK, hD⟩, hS.F ht⟩) hS.2.2 dX10_document_28
  · have tk_2 := c_eq (a := r_1.toInt) (b := 0) rfl (by decide) k_2
    refine lv_aload_n hx hb dX10_document_9 rfl (lv_at hl 0 rfl) ?_
    refine lv_iconst (v := 1) hx hb dX10_document_10 (by decide) ?_
    have hFc := m_free hD hS hA
    refine va_calli (va_runV (As := [.int 1]) (rest := []) ⟨hx, hb, hml, hown, hts⟩ (m_refuse l dC dI ad kc x0 x1 x2 x3 x4 x5 x6 x7 x8 x9 x10 x11 x12 x13 x14 x15 x16 x17 x18 x19 x20 x21 f0 f1 f2 f3 f4 f5 f6 f7 f8 f9 f10 f11 f12 f13 f14 f15 f16 f17 f18 f19 f20 f21 fL fN fP fM fO H.size 1 ) (cwV 1 hts mg_X10_documentm_X10_refuse_204 rfl rfl rfl (by decide +kernel) ⟨Nat.le_of_ble_eq_true rfl, Nat.le_of_ble_eq_true rfl⟩) ⟨fun a U g mk q => by obtain ⟨q0, q1, qP, qK, qD⟩ := q; exact ⟨q0, q1, qP, va_K.moved (u := U) (U := U.calling g mk a) (Vm.Alike.refl U.vm) qK, qD⟩, va_recv hK hP (ci := 10) (q0 := 0) rfl rfl, fun U hU hW => ⟨rfl, by rw [hU], by rw [hU]; exact hP, va_K.moved hW.alike hK, hD.weaken (fun _ _ _ _ => trivial)⟩⟩ rfl rfl hl.1 rfl (lv_room (Nat.le_of_ble_eq_true rfl)) dX10_document_11 ⟨Nat.le_of_ble_eq_true rfl, Nat.le_of_ble_eq_true rfl⟩) hS (fun q _ h => hFc q h) hFc (fun r_88 u t H1 locs ht hvm hw hB hz1 hk1 hS => ?_)
    subst hw
    obtain ⟨hr_88_0, hP, hK1, hD1⟩ := hB
    rw [ht] at hP
    have hD := hD1.weaken (fun k q _ h => hFc q.1 h)
    clear hz1 hk1 hFc hD1 hK1 hvm
    generalize H1 = H at hP hS ⊢
    have rg_r_88 := i_rng r_88
    have hP : va_P (dC, dI) vwCl (mW ad kc 1 x1 x2 x3 x4 x5 x6 x7 x8 x9 x10 x11 x12 x13 x14 x15 x16 x17 x18 x19 x20 x21 f0 f1 f2 f3 f4 f5 f6 f7 f8 f9 f10 f11 f12 f13 f14 f15 f16 f17 f18 f19 f20 f21 fL fN fP fM fO) H := hP
    have hD : va_D A (mW ad kc 1 x1 x2 x3 x4 x5 x6 x7 x8 x9 x10 x11 x12 x13 x14 x15 x16 x17 x18 x19 x20 x21 f0 f1 f2 f3 f4 f5 f6 f7 f8 f9 f10 f11 f12 f13 f14 f15 f16 f17 f18 f19 f20 f21 fL fN fP fM fO) := hD
    have lit_88 : (1 : Int32).toInt = 1 := by decide
    exact W.iret hx hb hr (fun t ht hW => ⟨⟨_, _, rfl, rfl, 1, x12, x13, x14, x15, x16, x17, x18, x19, x20, x21, f3, f4, f5, f6, f7, f8, f9, f10, f11, f12, f13, f14, f15, f16, f17, f18, f19, f20, fL, fN, fP, fM, fO, hpi, by rw [ht]; exact hP, va_K.moved hW.alike hK, hD⟩, hS.F ht⟩) hS.2.2 dX10_document_14
theorem dX10_pattern_0 : decode cX10_pattern 0 = .ok (.iload_n 2, 1) := by decide +kernel
theorem dX10_pattern_1 : decode cX10_pattern 1 = .ok (.iconst 0, 1) := by decide +kernel
theorem dX10_pattern_2 : decode cX10_pattern 2 = .ok (.bipush 7, 2) := by decide +kernel
theorem dX10_pattern_4 : decode cX10_pattern 4 = .ok (.invokestatic 200, 3) := by decide +kernel
theorem dX10_pattern_7 : decode cX10_pattern 7 = .ok (.ifCond .ne 9, 3) := by decide +kernel
theorem dX10_pattern_10 : decode cX10_pattern 10 = .ok (.aload_n 0, 1) := by decide +kernel
theorem dX10_pattern_11 : decode cX10_pattern 11 = .ok (.iconst 1, 1) := by decide +kernel
theorem dX10_pattern_12 : decode cX10_pattern 12 = .ok (.invokevirtual 204, 3) := by decide +kernel
theorem dX10_pattern_15 : decode cX10_pattern 15 = .ok (.ireturn, 1) := by decide +kernel
theorem dX10_pattern_16 : decode cX10_pattern 16 = .ok (.aload_n 0, 1) := by decide +kernel
theorem dX10_pattern_17 : decode cX10_pattern 17 = .ok (.iload_n 1, 1) := by decide +kernel
theorem dX10_pattern_18 : decode cX10_pattern 18 = .ok (.invokevirtual 458, 3) := by decide +kernel
theorem dX10_pattern_21 : decode cX10_pattern 21 = .ok (.ifCond .ne 9, 3) := by decide +kernel
theorem dX10_pattern_24 : decode cX10_pattern 24 = .ok (.aload_n 0, 1) := by decide +kernel
theorem dX10_pattern_25 : decode cX10_pattern 25 = .ok (.iconst 2, 1) := by decide +kernel
theorem dX10_pattern_26 : decode cX10_pattern 26 = .ok (.invokevirtual 204, 3) := by decide +kernel
theorem dX10_pattern_29 : decode cX10_pattern 29 = .ok (.ireturn, 1) := by decide +kernel
theorem dX10_pattern_30 : decode cX10_pattern 30 = .ok (.aload_n 0, 1) := by decide +kernel
theorem dX10_pattern_31 : decode cX10_pattern 31 = .ok (.iload_n 1, 1) := by decide +kernel
theorem dX10_pattern_32 : decode cX10_pattern 32 = .ok (.invokevirtual 420, 3) := by decide +kernel
theorem dX10_pattern_35 : decode cX10_pattern 35 = .ok (.aload_n 0, 1) := by decide +kernel
theorem dX10_pattern_36 : decode cX10_pattern 36 = .ok (.iload_n 1, 1) := by decide +kernel
theorem dX10_pattern_37 : decode cX10_pattern 37 = .ok (.invokevirtual 427, 3) := by decide +kernel
theorem dX10_pattern_40 : decode cX10_pattern 40 = .ok (.iload_n 2, 1) := by decide +kernel
theorem dX10_pattern_41 : decode cX10_pattern 41 = .ok (.tableswitch 137 0 6 #[43, 58, 67, 78, 100, 114, 128], 43) := by decide +kernel
theorem dX10_pattern_84 : decode cX10_pattern 84 = .ok (.aload_n 0, 1) := by decide +kernel
theorem dX10_pattern_85 : decode cX10_pattern 85 = .ok (.aload_n 0, 1) := by decide +kernel
theorem dX10_pattern_86 : decode cX10_pattern 86 = .ok (.getfield 8, 3) := by decide +kernel
theorem dX10_pattern_89 : decode cX10_pattern 89 = .ok (.sipush 612, 3) := by decide +kernel
theorem dX10_pattern_92 : decode cX10_pattern 92 = .ok (.iload_n 1, 1) := by decide +kernel
theorem dX10_pattern_93 : decode cX10_pattern 93 = .ok (.iadd, 1) := by decide +kernel
theorem dX10_pattern_94 : decode cX10_pattern 94 = .ok (.iaload, 1) := by decide +kernel
theorem dX10_pattern_95 : decode cX10_pattern 95 = .ok (.invokevirtual 214, 3) := by decide +kernel
theorem dX10_pattern_98 : decode cX10_pattern 98 = .ok (.ireturn, 1) := by decide +kernel
theorem dX10_pattern_99 : decode cX10_pattern 99 = .ok (.aload_n 0, 1) := by decide +kernel
theorem dX10_pattern_100 : decode cX10_pattern 100 = .ok (.aload_n 0, 1) := by decide +kernel
theorem dX10_pattern_101 : decode cX10_pattern 101 = .ok (.getfield 248, 3) := by decide +kernel
theorem dX10_pattern_104 : decode cX10_pattern 104 = .ok (.invokevirtual 214, 3) := by decide +kernel
theorem dX10_pattern_107 : decode cX10_pattern 107 = .ok (.ireturn, 1) := by decide +kernel
theorem dX10_pattern_108 : decode cX10_pattern 108 = .ok (.aload_n 0, 1) := by decide +kernel
theorem dX10_pattern_109 : decode cX10_pattern 109 = .ok (.aload_n 0, 1) := by decide +kernel
theorem dX10_pattern_110 : decode cX10_pattern 110 = .ok (.getfield 64, 3) := by decide +kernel
theorem dX10_pattern_113 : decode cX10_pattern 113 = .ok (.iconst 0, 1) := by decide +kernel
theorem dX10_pattern_114 : decode cX10_pattern 114 = .ok (.iaload, 1) := by decide +kernel
theorem dX10_pattern_115 : decode cX10_pattern 115 = .ok (.invokevirtual 214, 3) := by decide +kernel
theorem dX10_pattern_118 : decode cX10_pattern 118 = .ok (.ireturn, 1) := by decide +kernel
theorem dX10_pattern_119 : decode cX10_pattern 119 = .ok (.aload_n 0, 1) := by decide +kernel
theorem dX10_pattern_120 : decode cX10_pattern 120 = .ok (.aload_n 0, 1) := by decide +kernel
theorem dX10_pattern_121 : decode cX10_pattern 121 = .ok (.getfield 362, 3) := by decide +kernel
theorem dX10_pattern_124 : decode cX10_pattern 124 = .ok (.ifCond .eq 12, 3) := by decide +kernel
theorem dX10_pattern_127 : decode cX10_pattern 127 = .ok (.aload_n 0, 1) := by decide +kernel
theorem dX10_pattern_128 : decode cX10_pattern 128 = .ok (.getfield 51, 3) := by decide +kernel
theorem dX10_pattern_131 : decode cX10_pattern 131 = .ok (.iconst 0, 1) := by decide +kernel
theorem dX10_pattern_132 : decode cX10_pattern 132 = .ok (.iaload, 1) := by decide +kernel
theorem dX10_pattern_133 : decode cX10_pattern 133 = .ok (.goto 4, 3) := by decide +kernel
theorem dX10_pattern_136 : decode cX10_pattern 136 = .ok (.iconst (-1), 1) := by decide +kernel
theorem dX10_pattern_137 : decode cX10_pattern 137 = .ok (.invokevirtual 214, 3) := by decide +kernel
theorem dX10_pattern_140 : decode cX10_pattern 140 = .ok (.ireturn, 1) := by decide +kernel
theorem dX10_pattern_141 : decode cX10_pattern 141 = .ok (.aload_n 0, 1) := by decide +kernel
theorem dX10_pattern_142 : decode cX10_pattern 142 = .ok (.aload_n 0, 1) := by decide +kernel
theorem dX10_pattern_143 : decode cX10_pattern 143 = .ok (.getfield 71, 3) := by decide +kernel
theorem dX10_pattern_146 : decode cX10_pattern 146 = .ok (.aload_n 0, 1) := by decide +kernel
theorem dX10_pattern_147 : decode cX10_pattern 147 = .ok (.getfield 393, 3) := by decide +kernel
theorem dX10_pattern_150 : decode cX10_pattern 150 = .ok (.iaload, 1) := by decide +kernel
theorem dX10_pattern_151 : decode cX10_pattern 151 = .ok (.invokevirtual 214, 3) := by decide +kernel
theorem dX10_pattern_154 : decode cX10_pattern 154 = .ok (.ireturn, 1) := by decide +kernel
theorem dX10_pattern_155 : decode cX10_pattern 155 = .ok (.aload_n 0, 1) := by decide +kernel
theorem dX10_pattern_156 : decode cX10_pattern 156 = .ok (.aload_n 0, 1) := by decide +kernel
theorem dX10_pattern_157 : decode cX10_pattern 157 = .ok (.getfield 80, 3) := by decide +kernel
theorem dX10_pattern_160 : decode cX10_pattern 160 = .ok (.aload_n 0, 1) := by decide +kernel
theorem dX10_pattern_161 : decode cX10_pattern 161 = .ok (.getfield 393, 3) := by decide +kernel
theorem dX10_pattern_164 : decode cX10_pattern 164 = .ok (.iaload, 1) := by decide +kernel
theorem dX10_pattern_165 : decode cX10_pattern 165 = .ok (.invokevirtual 214, 3) := by decide +kernel
theorem dX10_pattern_168 : decode cX10_pattern 168 = .ok (.ireturn, 1) := by decide +kernel
theorem dX10_pattern_169 : decode cX10_pattern 169 = .ok (.aload_n 0, 1) := by decide +kernel
theorem dX10_pattern_170 : decode cX10_pattern 170 = .ok (.aload_n 0, 1) := by decide +kernel
theorem dX10_pattern_171 : decode cX10_pattern 171 = .ok (.invokevirtual 461, 3) := by decide +kernel
theorem dX10_pattern_174 : decode cX10_pattern 174 = .ok (.invokevirtual 214, 3) := by decide +kernel
theorem dX10_pattern_177 : decode cX10_pattern 177 = .ok (.ireturn, 1) := by decide +kernel
theorem dX10_pattern_178 : decode cX10_pattern 178 = .ok (.aload_n 0, 1) := by decide +kernel
theorem dX10_pattern_179 : decode cX10_pattern 179 = .ok (.aload_n 0, 1) := by decide +kernel
theorem dX10_pattern_180 : decode cX10_pattern 180 = .ok (.getfield 83, 3) := by decide +kernel
theorem dX10_pattern_183 : decode cX10_pattern 183 = .ok (.aload_n 0, 1) := by decide +kernel
theorem dX10_pattern_184 : decode cX10_pattern 184 = .ok (.getfield 393, 3) := by decide +kernel
theorem dX10_pattern_187 : decode cX10_pattern 187 = .ok (.iaload, 1) := by decide +kernel
theorem dX10_pattern_188 : decode cX10_pattern 188 = .ok (.invokevirtual 214, 3) := by decide +kernel
theorem dX10_pattern_191 : decode cX10_pattern 191 = .ok (.ireturn, 1) := by decide +kernel
def mwX10_patternm : List Cond := .code yX10_pattern cX10_pattern 3 (some .int) :: (([.methodLink RX10 200 yX10_isFrom, .static yX10_isFrom, .initialized RX10, .methodLink RX10 458 yX10_isPattern, .instanceMethod yX10_isPattern, .selects RX10 yX10_isPattern yX10_isPattern, .methodLink RX10 420 yX10_needsOf, .instanceMethod yX10_needsOf, .selects RX10 yX10_needsOf yX10_needsOf, .methodLink RX10 427 yX10_matches, .instanceMethod yX10_matches, .selects RX10 yX10_matches yX10_matches, .fieldLink RX10 8 "PatternGateModel" "all" "[I", .methodLink RX10 214 yX10_gives, .instanceMethod yX10_gives, .selects RX10 yX10_gives yX10_gives, .fieldLink RX10 248 "PatternGateModel" "spotMany" "I", .fieldLink RX10 64 "PatternGateModel" "needMany" "[I", .fieldLink RX10 362 "PatternGateModel" "isExact" "Z", .fieldLink RX10 51 "PatternGateModel" "rowMany" "[I", .fieldLink RX10 71 "PatternGateModel" "nullable" "[I", .fieldLink RX10 393 "PatternGateModel" "top" "I", .fieldLink RX10 80 "PatternGateModel" "fewest" "[I", .methodLink RX10 461 yX10_layTriples, .instanceMethod yX10_layTriples, .selects RX10 yX10_layTriples yX10_layTriples, .fieldLink RX10 83 "PatternGateModel" "deep" "[I", .methodLink RX10 204 yX10_refuse, .instanceMethod yX10_refuse, .selects RX10 yX10_refuse yX10_refuse] : List Cond) ++ (wsX100 ++ (mwX10_isFromm ++ (mwX10_isPatternm ++ (mwX10_needsOfm ++ (mwX10_matchesm ++ (mwX10_givesm ++ (mwX10_layTriplesm ++ (mwX10_refusem)))))))))
theorem fin_X10_patternm_X10 : ∀ w ∈ wsX100, w ∈ mwX10_patternm := fun w h => List.mem_cons_of_mem _ (List.mem_append_right _ (List.mem_append_left _ h))
set_option maxRecDepth 100000 in
theorem gd_mwX10_isPatternm : mwX10_isPatternm.all goodWord = true := by decide +kernel
set_option maxRecDepth 100000 in
theorem gd_mwX10_layTriplesm : mwX10_layTriplesm.all goodWord = true := by decide +kernel
set_option maxRecDepth 20000 in
theorem mg_X10_patternm_X10_isFrom_200 : GoodIn mwX10_patternm (va_wsS RX10 200 yX10_isFrom mwX10_isFromm) := gi_app (A := [.methodLink RX10 200 yX10_isFrom, .static yX10_isFrom, .initialized RX10]) (goodIn_r _ [1, 2, 3] (by decide +kernel) (by decide +kernel)) (gi_sub gd_mwX10_isFromm (fun w h => List.mem_cons_of_mem _ (List.mem_append_right _ (List.mem_append_right _ (List.mem_append_left _ h)))))
set_option maxRecDepth 20000 in
theorem mg_X10_patternm_X10_isPattern_458 : GoodIn mwX10_patternm (wsV RX10 458 RX10 yX10_isPattern mwX10_isPatternm) := gi_app (A := [.methodLink RX10 458 yX10_isPattern, .instanceMethod yX10_isPattern, .selects RX10 yX10_isPattern yX10_isPattern, .initialized RX10]) (goodIn_r _ [4, 5, 6, 3] (by decide +kernel) (by decide +kernel)) (gi_sub gd_mwX10_isPatternm (fun w h => List.mem_cons_of_mem _ (List.mem_append_right _ (List.mem_append_right _ (List.mem_append_right _ (List.mem_append_left _ h))))))
set_option maxRecDepth 20000 in
theorem mg_X10_patternm_X10_needsOf_420 : GoodIn mwX10_patternm (wsV RX10 420 RX10 yX10_needsOf mwX10_needsOfm) := gi_app (A := [.methodLink RX10 420 yX10_needsOf, .instanceMethod yX10_needsOf, .selects RX10 yX10_needsOf yX10_needsOf, .initialized RX10]) (goodIn_r _ [7, 8, 9, 3] (by decide +kernel) (by decide +kernel)) (gi_sub gd_mwX10_needsOfm (fun w h => List.mem_cons_of_mem _ (List.mem_append_right _ (List.mem_append_right _ (List.mem_append_right _ (List.mem_append_right _ (List.mem_append_left _ h)))))))
set_option maxRecDepth 20000 in
theorem mg_X10_patternm_X10_matches_427 : GoodIn mwX10_patternm (wsV RX10 427 RX10 yX10_matches mwX10_matchesm) := gi_app (A := [.methodLink RX10 427 yX10_matches, .instanceMethod yX10_matches, .selects RX10 yX10_matches yX10_matches, .initialized RX10]) (goodIn_r _ [10, 11, 12, 3] (by decide +kernel) (by decide +kernel)) (gi_sub gd_mwX10_matchesm (fun w h => List.mem_cons_of_mem _ (List.mem_append_right _ (List.mem_append_right _ (List.mem_append_right _ (List.mem_append_right _ (List.mem_append_right _ (List.mem_append_left _ h))))))))
set_option maxRecDepth 20000 in
theorem mg_X10_patternm_X10_gives_214 : GoodIn mwX10_patternm (wsV RX10 214 RX10 yX10_gives mwX10_givesm) := gi_app (A := [.methodLink RX10 214 yX10_gives, .instanceMethod yX10_gives, .selects RX10 yX10_gives yX10_gives, .initialized RX10]) (goodIn_r _ [14, 15, 16, 3] (by decide +kernel) (by decide +kernel)) (gi_sub gd_mwX10_givesm (fun w h => List.mem_cons_of_mem _ (List.mem_append_right _ (List.mem_append_right _ (List.mem_append_right _ (List.mem_append_right _ (List.mem_append_right _ (List.mem_append_right _ (List.mem_append_left _ h)))))))))
set_option maxRecDepth 20000 in
theorem mg_X10_patternm_X10_layTriples_461 : GoodIn mwX10_patternm (wsV RX10 461 RX10 yX10_layTriples mwX10_layTriplesm) := gi_app (A := [.methodLink RX10 461 yX10_layTriples, .instanceMethod yX10_layTriples, .selects RX10 yX10_layTriples yX10_layTriples, .initialized RX10]) (goodIn_r _ [24, 25, 26, 3] (by decide +kernel) (by decide +kernel)) (gi_sub gd_mwX10_layTriplesm (fun w h => List.mem_cons_of_mem _ (List.mem_append_right _ (List.mem_append_right _ (List.mem_append_right _ (List.mem_append_right _ (List.mem_append_right _ (List.mem_append_right _ (List.mem_append_right _ (List.mem_append_left _ h))))))))))
set_option maxRecDepth 20000 in
theorem mg_X10_patternm_X10_refuse_204 : GoodIn mwX10_patternm (wsV RX10 204 RX10 yX10_refuse mwX10_refusem) := gi_app (A := [.methodLink RX10 204 yX10_refuse, .instanceMethod yX10_refuse, .selects RX10 yX10_refuse yX10_refuse, .initialized RX10]) (goodIn_r _ [28, 29, 30, 3] (by decide +kernel) (by decide +kernel)) (gi_sub gd_mwX10_refusem (fun w h => List.mem_cons_of_mem _ (List.mem_append_right _ (List.mem_append_right _ (List.mem_append_right _ (List.mem_append_right _ (List.mem_append_right _ (List.mem_append_right _ (List.mem_append_right _ (List.mem_append_right _ (h)))))))))))
set_option maxHeartbeats 4000000 in
set_option maxRecDepth 100000 in
theorem m_pattern (l : Launch) (dC : Nat → ClassId) (dI : Nat → Nat → Nat) (ad : Nat → Nat) (kc : Nat → ClassId) (x0 x1 x2 x3 x4 x5 x6 x7 x8 x9 x10 x11 x12 x13 x14 x15 x16 x17 x18 x19 x20 x21 : Int32) (f0 f1 f2 f3 f4 f5 f6 f7 f8 f9 f10 f11 f12 f13 f14 f15 f16 f17 f18 f19 f20 f21 : Nat → Int32) (fL : Nat → Nat → Int64) (fN : Nat → Nat → Int32) (fP : Nat → Nat → Nat) (fM : Nat → Nat → Int32) (fO : Nat → Nat → Int32) (sz : Nat) (i1 i2 : Int32) (q0 : mI x1.toInt x2.toInt x3.toInt f0 fP) : Met l yX10_pattern mwX10_patternm ({ frames := 42, cells := 0, slots := 0, locals := 2520 }) (va_Pc [.ref (ad 0), .int i1, .int i2] (fun U => U.heap.size = sz ∧ va_P (dC, dI) vwCl (mW ad kc x0 x1 x2 x3 x4 x5 x6 x7 x8 x9 x10 x11 x12 x13 x14 x15 x16 x17 x18 x19 x20 x21 f0 f1 f2 f3 f4 f5 f6 f7 f8 f9 f10 f11 f12 f13 f14 f15 f16 f17 f18 f19 f20 f21 fL fN fP fM fO) U.heap ∧ va_K (dC, dI) vwCl (mT kc) U ∧ va_D (fun _ => True) (mW ad kc x0 x1 x2 x3 x4 x5 x6 x7 x8 x9 x10 x11 x12 x13 x14 x15 x16 x17 x18 x19 x20 x21 f0 f1 f2 f3 f4 f5 f6 f7 f8 f9 f10 f11 f12 f13 f14 f15 f16 f17 f18 f19 f20 f21 fL fN fP fM fO) ∧ (Cond.arrayOver (.array .int)).before #[] U = true)) (va_Qi (fun (o9 u9 : Int32) => o9 = u9) (fun (o9 : Int32) t => ∃ (y0 y12 y13 y14 y15 y16 y17 y18 y19 y20 : Int32) (g3 g4 g5 g6 g7 g8 g9 g10 g11 g12 g13 g14 g15 g16 g17 g18 g21 : Nat → Int32) (L9 : Nat → Nat → Int64) (Nn9 : Nat → Nat → Int32) (P9 : Nat → Nat → Nat) (M9 : Nat → Nat → Int32) (O9 : Nat → Nat → Int32), (PI P9) ∧ va_P (dC, dI) vwCl (mW ad kc y0 x1 x2 x3 x4 x5 x6 x7 x8 x9 x10 x11 y12 y13 y14 y15 y16 y17 y18 y19 y20 x21 f0 f1 f2 g3 g4 g5 g6 g7 g8 g9 g10 g11 g12 g13 g14 g15 g16 g17 g18 f19 f20 g21 L9 Nn9 P9 M9 O9) t.heap ∧ va_K (dC, dI) vwCl (mT kc) t ∧ va_D (va_A (mW ad kc x0 x1 x2 x3 x4 x5 x6 x7 x8 x9 x10 x11 x12 x13 x14 x15 x16 x17 x18 x19 x20 x21 f0 f1 f2 f3 f4 f5 f6 f7 f8 f9 f10 f11 f12 f13 f14 f15 f16 f17 f18 f19 f20 f21 fL fN fP fM fO) sz) (mW ad kc y0 x1 x2 x3 x4 x5 x6 x7 x8 x9 x10 x11 y12 y13 y14 y15 y16 y17 y18 y19 y20 x21 f0 f1 f2 g3 g4 g5 g6 g7 g8 g9 g10 g11 g12 g13 g14 g15 g16 g17 g18 f19 f20 g21 L9 Nn9 P9 M9 O9)) (va_A (mW ad kc x0 x1 x2 x3 x4 x5 x6 x7 x8 x9 x10 x11 x12 x13 x14 x15 x16 x17 x18 x19 x20 x21 f0 f1 f2 f3 f4 f5 f6 f7 f8 f9 f10 f11 f12 f13 f14 f15 f16 f17 f18 f19 f20 f21 fL fN fP fM fO) sz)) 0 0 (va_A (mW ad kc x0 x1 x2 x3 x4 x5 x6 x7 x8 x9 x10 x11 x12 x13 x14 x15 x16 x17 x18 x19 x20 x21 f0 f1 f2 f3 f4 f5 f6 f7 f8 f9 f10 f11 f12 f13 f14 f15 f16 f17 f18 f19 f20 f21 fL fN fP fM fO) sz) := by
  refine Met.ofW (cc := cX10_pattern) (maxL := 3) (ret := (some .int)) (by decide +kernel) rfl ?_
  intro p e s m args below meth c s₁ B hml hv
  obtain ⟨rfl, hsz, hP, hK, hD0, hOV⟩ := hv
  have hx := B.exec
  have hb := B.bytes
  have hr := B.returns
  have hts := atoms_spec (ws := mwX10_patternm) B.pre
  have hown : s.vm.findClass RX10 = some m.cls := findClass_of_methodNamed B.named
  have hlocks := B.notSynchronized
  subst hsz
  have hD := hD0.self (sz := s.heap.size)
  generalize hAe : va_A (mW ad kc x0 x1 x2 x3 x4 x5 x6 x7 x8 x9 x10 x11 x12 x13 x14 x15 x16 x17 x18 x19 x20 x21 f0 f1 f2 f3 f4 f5 f6 f7 f8 f9 f10 f11 f12 f13 f14 f15 f16 f17 f18 f19 f20 f21 fL fN fP fM fO) s.heap.size = A at hD ⊢
  have hA : ∀ q : Nat, s.heap.size ≤ q → A q := fun q h => by rw [← hAe]; exact Or.inr h
  have hP : va_P (dC, dI) vwCl (mW ad kc x0 x1 x2 x3 x4 x5 x6 x7 x8 x9 x10 x11 x12 x13 x14 x15 x16 x17 x18 x19 x20 x21 f0 f1 f2 f3 f4 f5 f6 f7 f8 f9 f10 f11 f12 f13 f14 f15 f16 f17 f18 f19 f20 f21 fL fN fP fM fO) s.heap := hP
  have hD : va_D A (mW ad kc x0 x1 x2 x3 x4 x5 x6 x7 x8 x9 x10 x11 x12 x13 x14 x15 x16 x17 x18 x19 x20 x21 f0 f1 f2 f3 f4 f5 f6 f7 f8 f9 f10 f11 f12 f13 f14 f15 f16 f17 f18 f19 f20 f21 fL fN fP fM fO) := hD
  have hK : va_K (dC, dI) vwCl (mT kc) s := hK
  generalize hH : s.heap = H at hP ⊢
  have hS : va_S A s.heap H [] := by rw [← hH]; exact va_S.rf
  have hl := lv_entry ([.ref (ad 0), .int i1, .int i2]) (n := 3) (Nat.le_of_ble_eq_true rfl)
  rw [lg_entry_eq]
  generalize (lg_sl ([.ref (ad 0), .int i1, .int i2]) ++ List.replicate (3 - (lg_sl ([.ref (ad 0), .int i1, .int i2])).length) Slot.unset).toArray = ls at hl ⊢
  have hl : lv_has ls 3 [(0, .ref (ad 0)), (1, .int i1), (2, .int i2)] := hl
  have rg_i1 := i_rng i1
  have rg_i2 := i_rng i2
  have hd := q0.d
  have hpi := q0.p
  have hq1 := q0.1
  have hq2 := q0.2.1
  have hq3 := q0.2.2.1
  have hd10 := hd.n0
  have hp8 := hd.P0
  refine lv_iload_n hx hb dX10_pattern_0 rfl (lv_at hl 2 rfl) ?_
  refine lv_iconst (v := 0) hx hb dX10_pattern_1 (by decide) ?_
  refine lv_bipush (v := 7) hx hb dX10_pattern_2 (by decide) ?_
  refine vp_callSi (W.runS (As := [.int i2, .int 0, .int 7]) (rest := []) ⟨hx, hb, hml, hown, hts⟩ (m_isFrom l dC dI  i2 0 7 ) (va_cwS 3 hts mg_X10_patternm_X10_isFrom_200 rfl rfl rfl (by decide +kernel) ⟨Nat.le_of_ble_eq_true rfl, Nat.le_of_ble_eq_true rfl⟩) ⟨fun a U g mk q => ⟨q.1, trivial⟩, fun U hU hW => ⟨rfl, trivial⟩⟩ rfl rfl hl.1 rfl (lv_room (Nat.le_of_ble_eq_true rfl)) dX10_pattern_4 ⟨Nat.le_of_ble_eq_true rfl, Nat.le_of_ble_eq_true rfl⟩) (fun r_1 hr_1 => ?_)
  have rg_r_1 := i_rng r_1
  refine lv_if_ne (tgt := 16) hx hb dX10_pattern_7 (by decide) (fun k_2 => ?_) (fun k_2 => ?_)
  · have tk_2 := c_ne (a := r_1.toInt) (b := 0) rfl (by decide) k_2
    refine lv_aload_n hx hb dX10_pattern_16 rfl (lv_at hl 0 rfl) ?_
    refine lv_iload_n hx hb dX10_pattern_17 rfl (lv_at hl 1 rfl) ?_
    refine vp_callSi (W.runV (As := [.int i1]) (rest := []) ⟨hx, hb, hml, hown, hts⟩ (m_isPattern l dC dI ad kc x0 x1 x2 x3 x4 x5 x6 x7 x8 x9 x10 x11 x12 x13 x14 x15 x16 x17 x18 x19 x20 x21 f0 f1 f2 f3 f4 f5 f6 f7 f8 f9 f10 f11 f12 f13 f14 f15 f16 f17 f18 f19 f20 f21 fL fN fP fM fO i1 ) (cwV 1 hts mg_X10_patternm_X10_isPattern_458 rfl rfl rfl (by decide +kernel) ⟨Nat.le_of_ble_eq_true rfl, Nat.le_of_ble_eq_true rfl⟩) ⟨fun a U g mk q => by obtain ⟨q0, qP, qK⟩ := q; exact ⟨q0, qP, va_K.moved (u := U) (U := U.calling g mk a) (Vm.Alike.refl U.vm) qK⟩, va_recv hK hP (ci := 10) (q0 := 0) rfl rfl, fun U hU hW => ⟨rfl, by rw [hU]; exact hP, va_K.moved hW.alike hK⟩⟩ rfl rfl hl.1 rfl (lv_room (Nat.le_of_ble_eq_true rfl)) dX10_pattern_18 ⟨Nat.le_of_ble_eq_true rfl, Nat.le_of_ble_eq_true rfl⟩) (fun r_3 hr_3 => ?_)
    have rg_r_3 := i_rng r_3
    refine lv_if_ne (tgt := 30) hx hb dX10_pattern_21 (by decide) (fun k_4 => ?_) (fun k_4 => ?_)
    · have tk_4 := c_ne (a := r_3.toInt) (b := 0) rfl (by decide) k_4
      refine lv_aload_n hx hb dX10_pattern_30 rfl (lv_at hl 0 rfl) ?_
      refine lv_iload_n hx hb dX10_pattern_31 rfl (lv_at hl 1 rfl) ?_
      have hFc := m_free hD hS hA
      refine va_callv (va_runV (As := [.int i1]) (rest := []) ⟨hx, hb, hml, hown, hts⟩ (m_needsOf l dC dI ad kc x0 x1 x2 x3 x4 x5 x6 x7 x8 x9 x10 x11 x12 x13 x14 x15 x16 x17 x18 x19 x20 x21 f0 f1 f2 f3 f4 f5 f6 f7 f8 f9 f10 f11 f12 f13 f14 f15 f16 f17 f18 f19 f20 f21 fL fN fP fM fO H.size i1 (by first | omega | assumption | decide | (have l0 := Int32.toInt_zero; omega)) (by first | omega | assumption | decide | (have l0 := Int32.toInt_zero; omega)) (by first | omega | assumption | decide | (have l0 := Int32.toInt_zero; omega))) (cwV 1 hts mg_X10_patternm_X10_needsOf_420 rfl rfl rfl (by decide +kernel) ⟨Nat.le_of_ble_eq_true rfl, Nat.le_of_ble_eq_true rfl⟩) ⟨fun a U g mk q => by obtain ⟨q0, q1, qP, qK, qD, qE⟩ := q; exact ⟨q0, q1, qP, va_K.moved (u := U) (U := U.calling g mk a) (Vm.Alike.refl U.vm) qK, qD, over_moved (u := U) (E := U.calling g mk a) (Vm.Alike.refl U.vm) qE⟩, va_recv hK hP (ci := 10) (q0 := 0) rfl rfl, fun U hU hW => ⟨rfl, by rw [hU], by rw [hU]; exact hP, va_K.moved hW.alike hK, hD.weaken (fun _ _ _ _ => trivial), over_moved hW.alike hOV⟩⟩ rfl rfl hl.1 rfl (lv_room (Nat.le_of_ble_eq_true rfl)) dX10_pattern_32 ⟨Nat.le_of_ble_eq_true rfl, Nat.le_of_ble_eq_true rfl⟩) hS (fun q _ h => hFc q h) hFc (fun u t H1 locs ht hvm hw hB hz1 hk1 hS => ?_)
      obtain ⟨x_6, x_7, x_8, x_9, x_10, x_11, x_12, x_13, f_14, f_15, f_16, f_17, f_18, f_19, f_20, f_21, f_22, L_23, Nn_24, P_25, M_26, O_27, hr_5_0, hr_5_1, hr_5_2, hr_5_3, hr_5_4, hP, hK1, hD1⟩ := hB
      rw [ht] at hP
      have hD := hD1.weaken (fun k q _ h => hFc q.1 h)
      clear hz1 hk1 hFc hD1 hK1 hvm
      generalize H1 = H at hP hS ⊢
      have rg_x_6 := i_rng x_6
      have rg_x_7 := i_rng x_7
      have rg_x_8 := i_rng x_8
      have rg_x_9 := i_rng x_9
      have rg_x_10 := i_rng x_10
      have rg_x_11 := i_rng x_11
      have rg_x_12 := i_rng x_12
      have rg_x_13 := i_rng x_13
      have hP : va_P (dC, dI) vwCl (mW ad kc x0 x1 x2 x3 x4 x5 x6 x7 x8 x9 x10 x11 x_6 x_7 x_8 x_9 x_10 x_11 x_12 x_13 x20 x21 f0 f1 f2 f_14 f_15 f_16 f_17 f_18 f_19 f_20 f_21 f_22 f12 f13 f14 f15 f16 f17 f18 f19 f20 f21 L_23 Nn_24 P_25 M_26 O_27) H := hP
      have hD : va_D A (mW ad kc x0 x1 x2 x3 x4 x5 x6 x7 x8 x9 x10 x11 x_6 x_7 x_8 x_9 x_10 x_11 x_12 x_13 x20 x21 f0 f1 f2 f_14 f_15 f_16 f_17 f_18 f_19 f_20 f_21 f_22 f12 f13 f14 f15 f16 f17 f18 f19 f20 f21 L_23 Nn_24 P_25 M_26 O_27) := hD
      have hPI9 := hr_5_0
      have hN9 := hr_5_1
      have hN9a := hN9.2.1
      have hN9b := hN9.1
      have hEx9 := hr_5_2
      refine lv_aload_n hx hb dX10_pattern_35 rfl (lv_at hl 0 rfl) ?_
      refine lv_iload_n hx hb dX10_pattern_36 rfl (lv_at hl 1 rfl) ?_
      have hFc := m_free hD hS hA
      refine va_callv (va_runV (As := [.int i1]) (rest := []) ⟨hx, hb, hml, hown, hts⟩ (m_matches l dC dI ad kc x0 x1 x2 x3 x4 x5 x6 x7 x8 x9 x10 x11 x_6 x_7 x_8 x_9 x_10 x_11 x_12 x_13 x20 x21 f0 f1 f2 f_14 f_15 f_16 f_17 f_18 f_19 f_20 f_21 f_22 f12 f13 f14 f15 f16 f17 f18 f19 f20 f21 L_23 Nn_24 P_25 M_26 O_27 H.size i1 (by first | omega | assumption | decide | (have l0 := Int32.toInt_zero; omega)) (by first | omega | assumption | decide | (have l0 := Int32.toInt_zero; omega))) (cwV 1 hts mg_X10_patternm_X10_matches_427 rfl rfl rfl (by decide +kernel) ⟨Nat.le_of_ble_eq_true rfl, Nat.le_of_ble_eq_true rfl⟩) ⟨fun a U g mk q => by obtain ⟨q0, q1, qP, qK, qD⟩ := q; exact ⟨q0, q1, qP, va_K.moved (u := U) (U := U.calling g mk a) (Vm.Alike.refl U.vm) qK, qD⟩, va_recv hK hP (ci := 10) (q0 := 0) rfl rfl, fun U hU hW => ⟨rfl, by rw [hU], by rw [hU]; exact hP, va_K.moved hW.alike hK, hD.weaken (fun _ _ _ _ => trivial)⟩⟩ rfl rfl hl.1 rfl (lv_room (Nat.le_of_ble_eq_true rfl)) dX10_pattern_37 ⟨Nat.le_of_ble_eq_true rfl, Nat.le_of_ble_eq_true rfl⟩) hS (fun q _ h => hFc q h) hFc (fun u t H1 locs ht hvm hw hB hz1 hk1 hS => ?_)
      obtain ⟨x_29, x_30, x_31, x_32, x_33, f_34, f_35, f_36, f_37, f_38, f_39, f_40, f_41, f_42, f_43, f_44, f_45, f_46, hr_28_0, hr_28_1, hP, hK1, hD1⟩ := hB
      rw [ht] at hP
      have hD := hD1.weaken (fun k q _ h => hFc q.1 h)
      clear hz1 hk1 hFc hD1 hK1 hvm
      generalize H1 = H at hP hS ⊢
      have rg_x_29 := i_rng x_29
      have rg_x_30 := i_rng x_30
      have rg_x_31 := i_rng x_31
      have rg_x_32 := i_rng x_32
      have rg_x_33 := i_rng x_33
      have hP : va_P (dC, dI) vwCl (mW ad kc x0 x1 x2 x3 x4 x5 x6 x7 x8 x9 x10 x11 x_29 x_30 x_31 x_32 x_10 x_11 x_12 x_13 x_33 x21 f0 f1 f2 f_34 f_35 f_36 f_37 f_38 f_39 f_20 f_21 f_22 f_40 f_41 f_42 f_43 f_44 f_45 f_46 f19 f20 f21 L_23 Nn_24 P_25 M_26 O_27) H := hP
      have hD : va_D A (mW ad kc x0 x1 x2 x3 x4 x5 x6 x7 x8 x9 x10 x11 x_29 x_30 x_31 x_32 x_10 x_11 x_12 x_13 x_33 x21 f0 f1 f2 f_34 f_35 f_36 f_37 f_38 f_39 f_20 f_21 f_22 f_40 f_41 f_42 f_43 f_44 f_45 f_46 f19 f20 f21 L_23 Nn_24 P_25 M_26 O_27) := hD
      have hT9 := hr_28_0
      have hS9 := hr_28_1
      refine lv_iload_n hx hb dX10_pattern_40 rfl (lv_at hl 2 rfl) ?_
      rcases (show i2.toInt = 0 ∨ i2.toInt = 1 ∨ i2.toInt = 2 ∨ i2.toInt = 3 ∨ i2.toInt = 4 ∨ i2.toInt = 5 ∨ i2.toInt = 6 ∨ (i2.toInt < 0 ∨ 6 < i2.toInt) by omega) with hsw | hsw | hsw | hsw | hsw | hsw | hsw | hsw
      · refine lv_tableIn (off := 43) (tgt := 84) hx hb dX10_pattern_41 (by omega) (by omega) (by rw [show (i2.toInt - 0).toNat = 0 by omega]; rfl) (by decide) ?_
        refine lv_aload_n hx hb dX10_pattern_84 rfl (lv_at hl 0 rfl) ?_
        refine lv_aload_n hx hb dX10_pattern_85 rfl (lv_at hl 0 rfl) ?_
        refine va_get (D := (dC, dI)) (ci := 10) (v := .ref (ad 1)) (C := RX10) (T := TX10) (N := 48) hx hb hts fin_X10_patternm_X10 hown hK hP 0 rfl rfl 0 (by decide) (hts (.fieldLink RX10 8 "PatternGateModel" "all" "[I") (List.mem_of_getElem? (i := 13) (by decide +kernel))) (fun _ h9 => h9) rfl dX10_pattern_86 ?_
        refine lv_sipush (v := 612) hx hb dX10_pattern_89 (by decide) ?_
        refine lv_iload_n hx hb dX10_pattern_92 rfl (lv_at hl 1 rfl) ?_
        refine lv_iadd hx hb dX10_pattern_93 ?_
        refine lv_topi (fun y_47 ey_47 => ?_)
        first | have ty_47 := i_add (a := 612) (b := i1.toInt) (by decide) rfl ey_47 (by omega) (by omega) | skip
        refine va_iald hx hb hK hP 1 0 rfl rfl (i := y_47) (vp_of (a := y_47.toInt) rfl (by omega) (by omega)) dX10_pattern_94 ?_
        refine lv_topi (fun y_48 ey_48 => ?_)
        have rg_y_48 := i_rng y_48
        have vy_48 := vI_lda (f := f0) (i := y_47) (a := (612 + i1.toInt)) ey_48 (by first | omega | decide)
        have rg_y_48 := i_rng y_48
        have hFc := m_free hD hS hA
        refine va_calli (va_runV (As := [.int y_48]) (rest := []) ⟨hx, hb, hml, hown, hts⟩ (m_gives l dC dI ad kc x0 x1 x2 x3 x4 x5 x6 x7 x8 x9 x10 x11 x_29 x_30 x_31 x_32 x_10 x_11 x_12 x_13 x_33 x21 f0 f1 f2 f_34 f_35 f_36 f_37 f_38 f_39 f_20 f_21 f_22 f_40 f_41 f_42 f_43 f_44 f_45 f_46 f19 f20 f21 L_23 Nn_24 P_25 M_26 O_27 H.size y_48 ) (cwV 1 hts mg_X10_patternm_X10_gives_214 rfl rfl rfl (by decide +kernel) ⟨Nat.le_of_ble_eq_true rfl, Nat.le_of_ble_eq_true rfl⟩) ⟨fun a U g mk q => by obtain ⟨q0, q1, qP, qK, qD⟩ := q; exact ⟨q0, q1, qP, va_K.moved (u := U) (U := U.calling g mk a) (Vm.Alike.refl U.vm) qK, qD⟩, va_recv hK hP (ci := 10) (q0 := 0) rfl rfl, fun U hU hW => ⟨rfl, by rw [hU], by rw [hU]; exact hP, va_K.moved hW.alike hK, hD.weaken (fun _ _ _ _ => trivial)⟩⟩ rfl rfl hl.1 rfl (lv_room (Nat.le_of_ble_eq_true rfl)) dX10_pattern_95 ⟨Nat.le_of_ble_eq_true rfl, Nat.le_of_ble_eq_true rfl⟩) hS (fun q _ h => hFc q h) hFc (fun r_49 u t H1 locs ht hvm hw hB hz1 hk1 hS => ?_)
        subst hw
        obtain ⟨hr_49_0, hP, hK1, hD1⟩ := hB
        rw [ht] at hP
        have hD := hD1.weaken (fun k q _ h => hFc q.1 h)
        clear hz1 hk1 hFc hD1 hK1 hvm
        generalize H1 = H at hP hS ⊢
        have rg_r_49 := i_rng r_49
        have hP : va_P (dC, dI) vwCl (mW ad kc 0 x1 x2 x3 x4 x5 x6 x7 x8 x9 x10 x11 x_29 x_30 x_31 x_32 x_10 x_11 x_12 x_13 x_33 x21 f0 f1 f2 f_34 f_35 f_36 f_37 f_38 f_39 f_20 f_21 f_22 f_40 f_41 f_42 f_43 f_44 f_45 f_46 f19 f20 f21 L_23 Nn_24 P_25 M_26 O_27) H := hP
        have hD : va_D A (mW ad kc 0 x1 x2 x3 x4 x5 x6 x7 x8 x9 x10 x11 x_29 x_30 x_31 x_32 x_10 x_11 x_12 x_13 x_33 x21 f0 f1 f2 f_34 f_35 f_36 f_37 f_38 f_39 f_20 f_21 f_22 f_40 f_41 f_42 f_43 f_44 f_45 f_46 f19 f20 f21 L_23 Nn_24 P_25 M_26 O_27) := hD
        have lit_49 : (0 : Int32).toInt = 0 := by decide
        exact W.iret hx hb hr (fun t ht hW => ⟨⟨_, _, rfl, rfl, 0, x_29, x_30, x_31, x_32, x_10, x_11, x_12, x_13, x_33, f_34, f_35, f_36, f_37, f_38, f_39, f_20, f_21, f_22, f_40, f_41, f_42, f_43, f_44, f_45, f_46, f21, L_23, Nn_24, P_25, M_26, O_27, hPI9, by rw [ht]; exact hP, va_K.moved hW.alike hK, hD⟩, hS.F ht⟩) hS.2.2 dX10_pattern_98
      · refine lv_tableIn (off := 58) (tgt := 99) hx hb dX10_pattern_41 (by omega) (by omega) (by rw [show (i2.toInt - 0).toNat = 1 by omega]; rfl) (by decide) ?_
        refine lv_aload_n hx hb dX10_pattern_99 rfl (lv_at hl 0 rfl) ?_
        refine lv_aload_n hx hb dX10_pattern_100 rfl (lv_at hl 0 rfl) ?_
        refine va_get (D := (dC, dI)) (ci := 10) (v := .int x_32) (C := RX10) (T := TX10) (N := 48) hx hb hts fin_X10_patternm_X10 hown hK hP 0 rfl rfl 24 (by decide) (hts (.fieldLink RX10 248 "PatternGateModel" "spotMany" "I") (List.mem_of_getElem? (i := 17) (by decide +kernel))) (fun _ h9 => h9) rfl dX10_pattern_101 ?_
        have hFc := m_free hD hS hA
        refine va_calli (va_runV (As := [.int x_32]) (rest := []) ⟨hx, hb, hml, hown, hts⟩ (m_gives l dC dI ad kc x0 x1 x2 x3 x4 x5 x6 x7 x8 x9 x10 x11 x_29 x_30 x_31 x_32 x_10 x_11 x_12 x_13 x_33 x21 f0 f1 f2 f_34 f_35 f_36 f_37 f_38 f_39 f_20 f_21 f_22 f_40 f_41 f_42 f_43 f_44 f_45 f_46 f19 f20 f21 L_23 Nn_24 P_25 M_26 O_27 H.size x_32 ) (cwV 1 hts mg_X10_patternm_X10_gives_214 rfl rfl rfl (by decide +kernel) ⟨Nat.le_of_ble_eq_true rfl, Nat.le_of_ble_eq_true rfl⟩) ⟨fun a U g mk q => by obtain ⟨q0, q1, qP, qK, qD⟩ := q; exact ⟨q0, q1, qP, va_K.moved (u := U) (U := U.calling g mk a) (Vm.Alike.refl U.vm) qK, qD⟩, va_recv hK hP (ci := 10) (q0 := 0) rfl rfl, fun U hU hW => ⟨rfl, by rw [hU], by rw [hU]; exact hP, va_K.moved hW.alike hK, hD.weaken (fun _ _ _ _ => trivial)⟩⟩ rfl rfl hl.1 rfl (lv_room (Nat.le_of_ble_eq_true rfl)) dX10_pattern_104 ⟨Nat.le_of_ble_eq_true rfl, Nat.le_of_ble_eq_true rfl⟩) hS (fun q _ h => hFc q h) hFc (fun r_51 u t H1 locs ht hvm hw hB hz1 hk1 hS => ?_)
        subst hw
        obtain ⟨hr_51_0, hP, hK1, hD1⟩ := hB
        rw [ht] at hP
        have hD := hD1.weaken (fun k q _ h => hFc q.1 h)
        clear hz1 hk1 hFc hD1 hK1 hvm
        generalize H1 = H at hP hS ⊢
        have rg_r_51 := i_rng r_51
        have hP : va_P (dC, dI) vwCl (mW ad kc 0 x1 x2 x3 x4 x5 x6 x7 x8 x9 x10 x11 x_29 x_30 x_31 x_32 x_10 x_11 x_12 x_13 x_33 x21 f0 f1 f2 f_34 f_35 f_36 f_37 f_38 f_39 f_20 f_21 f_22 f_40 f_41 f_42 f_43 f_44 f_45 f_46 f19 f20 f21 L_23 Nn_24 P_25 M_26 O_27) H := hP
        have hD : va_D A (mW ad kc 0 x1 x2 x3 x4 x5 x6 x7 x8 x9 x10 x11 x_29 x_30 x_31 x_32 x_10 x_11 x_12 x_13 x_33 x21 f0 f1 f2 f_34 f_35 f_36 f_37 f_38 f_39 f_20 f_21 f_22 f_40 f_41 f_42 f_43 f_44 f_45 f_46 f19 f20 f21 L_23 Nn_24 P_25 M_26 O_27) := hD
        have lit_51 : (0 : Int32).toInt = 0 := by decide
        exact W.iret hx hb hr (fun t ht hW => ⟨⟨_, _, rfl, rfl, 0, x_29, x_30, x_31, x_32, x_10, x_11, x_12, x_13, x_33, f_34, f_35, f_36, f_37, f_38, f_39, f_20, f_21, f_22, f_40, f_41, f_42, f_43, f_44, f_45, f_46, f21, L_23, Nn_24, P_25, M_26, O_27, hPI9, by rw [ht]; exact hP, va_K.moved hW.alike hK, hD⟩, hS.F ht⟩) hS.2.2 dX10_pattern_107
      · refine lv_tableIn (off := 67) (tgt := 108) hx hb dX10_pattern_41 (by omega) (by omega) (by rw [show (i2.toInt - 0).toNat = 2 by omega]; rfl) (by decide) ?_
        refine lv_aload_n hx hb dX10_pattern_108 rfl (lv_at hl 0 rfl) ?_
        refine lv_aload_n hx hb dX10_pattern_109 rfl (lv_at hl 0 rfl) ?_
        refine va_get (D := (dC, dI)) (ci := 10) (v := .ref (ad 11)) (C := RX10) (T := TX10) (N := 48) hx hb hts fin_X10_patternm_X10 hown hK hP 0 rfl rfl 30 (by decide) (hts (.fieldLink RX10 64 "PatternGateModel" "needMany" "[I") (List.mem_of_getElem? (i := 18) (by decide +kernel))) (fun _ h9 => h9) rfl dX10_pattern_110 ?_
        refine lv_iconst (v := 0) hx hb dX10_pattern_113 (by decide) ?_
        refine va_iald hx hb hK hP 11 10 rfl rfl (i := 0) (by unfold vp_in; decide +kernel) dX10_pattern_114 ?_
        refine lv_topi (fun y_53 ey_53 => ?_)
        have rg_y_53 := i_rng y_53
        have hFc := m_free hD hS hA
        refine va_calli (va_runV (As := [.int y_53]) (rest := []) ⟨hx, hb, hml, hown, hts⟩ (m_gives l dC dI ad kc x0 x1 x2 x3 x4 x5 x6 x7 x8 x9 x10 x11 x_29 x_30 x_31 x_32 x_10 x_11 x_12 x_13 x_33 x21 f0 f1 f2 f_34 f_35 f_36 f_37 f_38 f_39 f_20 f_21 f_22 f_40 f_41 f_42 f_43 f_44 f_45 f_46 f19 f20 f21 L_23 Nn_24 P_25 M_26 O_27 H.size y_53 ) (cwV 1 hts mg_X10_patternm_X10_gives_214 rfl rfl rfl (by decide +kernel) ⟨Nat.le_of_ble_eq_true rfl, Nat.le_of_ble_eq_true rfl⟩) ⟨fun a U g mk q => by obtain ⟨q0, q1, qP, qK, qD⟩ := q; exact ⟨q0, q1, qP, va_K.moved (u := U) (U := U.calling g mk a) (Vm.Alike.refl U.vm) qK, qD⟩, va_recv hK hP (ci := 10) (q0 := 0) rfl rfl, fun U hU hW => ⟨rfl, by rw [hU], by rw [hU]; exact hP, va_K.moved hW.alike hK, hD.weaken (fun _ _ _ _ => trivial)⟩⟩ rfl rfl hl.1 rfl (lv_room (Nat.le_of_ble_eq_true rfl)) dX10_pattern_115 ⟨Nat.le_of_ble_eq_true rfl, Nat.le_of_ble_eq_true rfl⟩) hS (fun q _ h => hFc q h) hFc (fun r_54 u t H1 locs ht hvm hw hB hz1 hk1 hS => ?_)
        subst hw
        obtain ⟨hr_54_0, hP, hK1, hD1⟩ := hB
        rw [ht] at hP
        have hD := hD1.weaken (fun k q _ h => hFc q.1 h)
        clear hz1 hk1 hFc hD1 hK1 hvm
        generalize H1 = H at hP hS ⊢
        have rg_r_54 := i_rng r_54
        have hP : va_P (dC, dI) vwCl (mW ad kc 0 x1 x2 x3 x4 x5 x6 x7 x8 x9 x10 x11 x_29 x_30 x_31 x_32 x_10 x_11 x_12 x_13 x_33 x21 f0 f1 f2 f_34 f_35 f_36 f_37 f_38 f_39 f_20 f_21 f_22 f_40 f_41 f_42 f_43 f_44 f_45 f_46 f19 f20 f21 L_23 Nn_24 P_25 M_26 O_27) H := hP
        have hD : va_D A (mW ad kc 0 x1 x2 x3 x4 x5 x6 x7 x8 x9 x10 x11 x_29 x_30 x_31 x_32 x_10 x_11 x_12 x_13 x_33 x21 f0 f1 f2 f_34 f_35 f_36 f_37 f_38 f_39 f_20 f_21 f_22 f_40 f_41 f_42 f_43 f_44 f_45 f_46 f19 f20 f21 L_23 Nn_24 P_25 M_26 O_27) := hD
        have lit_54 : (0 : Int32).toInt = 0 := by decide
        exact W.iret hx hb hr (fun t ht hW => ⟨⟨_, _, rfl, rfl, 0, x_29, x_30, x_31, x_32, x_10, x_11, x_12, x_13, x_33, f_34, f_35, f_36, f_37, f_38, f_39, f_20, f_21, f_22, f_40, f_41, f_42, f_43, f_44, f_45, f_46, f21, L_23, Nn_24, P_25, M_26, O_27, hPI9, by rw [ht]; exact hP, va_K.moved hW.alike hK, hD⟩, hS.F ht⟩) hS.2.2 dX10_pattern_118
      · refine lv_tableIn (off := 78) (tgt := 119) hx hb dX10_pattern_41 (by omega) (by omega) (by rw [show (i2.toInt - 0).toNat = 3 by omega]; rfl) (by decide) ?_
        refine lv_aload_n hx hb dX10_pattern_119 rfl (lv_at hl 0 rfl) ?_
        refine lv_aload_n hx hb dX10_pattern_120 rfl (lv_at hl 0 rfl) ?_
        refine va_get (D := (dC, dI)) (ci := 10) (v := .int x_13) (C := RX10) (T := TX10) (N := 48) hx hb hts fin_X10_patternm_X10 hown hK hP 0 rfl rfl 34 (by decide) (hts (.fieldLink RX10 362 "PatternGateModel" "isExact" "Z") (List.mem_of_getElem? (i := 19) (by decide +kernel))) (fun _ h9 => h9) rfl dX10_pattern_121 ?_
        refine lv_if_eq (tgt := 136) hx hb dX10_pattern_124 (by decide) (fun k_56 => ?_) (fun k_56 => ?_)
        · have tk_56 := c_eq (a := x_13.toInt) (b := 0) rfl (by decide) k_56
          refine lv_iconst (v := (-1)) hx hb dX10_pattern_136 (by decide) ?_
          have hFc := m_free hD hS hA
          refine va_calli (va_runV (As := [.int (-1)]) (rest := []) ⟨hx, hb, hml, hown, hts⟩ (m_gives l dC dI ad kc x0 x1 x2 x3 x4 x5 x6 x7 x8 x9 x10 x11 x_29 x_30 x_31 x_32 x_10 x_11 x_12 x_13 x_33 x21 f0 f1 f2 f_34 f_35 f_36 f_37 f_38 f_39 f_20 f_21 f_22 f_40 f_41 f_42 f_43 f_44 f_45 f_46 f19 f20 f21 L_23 Nn_24 P_25 M_26 O_27 H.size (-1) ) (cwV 1 hts mg_X10_patternm_X10_gives_214 rfl rfl rfl (by decide +kernel) ⟨Nat.le_of_ble_eq_true rfl, Nat.le_of_ble_eq_true rfl⟩) ⟨fun a U g mk q => by obtain ⟨q0, q1, qP, qK, qD⟩ := q; exact ⟨q0, q1, qP, va_K.moved (u := U) (U := U.calling g mk a) (Vm.Alike.refl U.vm) qK, qD⟩, va_recv hK hP (ci := 10) (q0 := 0) rfl rfl, fun U hU hW => ⟨rfl, by rw [hU], by rw [hU]; exact hP, va_K.moved hW.alike hK, hD.weaken (fun _ _ _ _ => trivial)⟩⟩ rfl rfl hl.1 rfl (lv_room (Nat.le_of_ble_eq_true rfl)) dX10_pattern_137 ⟨Nat.le_of_ble_eq_true rfl, Nat.le_of_ble_eq_true rfl⟩) hS (fun q _ h => hFc q h) hFc (fun r_57 u t H1 locs ht hvm hw hB hz1 hk1 hS => ?_)
          subst hw
          obtain ⟨hr_57_0, hP, hK1, hD1⟩ := hB
          rw [ht] at hP
          have hD := hD1.weaken (fun k q _ h => hFc q.1 h)
          clear hz1 hk1 hFc hD1 hK1 hvm
          generalize H1 = H at hP hS ⊢
          have rg_r_57 := i_rng r_57
          have hP : va_P (dC, dI) vwCl (mW ad kc 0 x1 x2 x3 x4 x5 x6 x7 x8 x9 x10 x11 x_29 x_30 x_31 x_32 x_10 x_11 x_12 x_13 x_33 x21 f0 f1 f2 f_34 f_35 f_36 f_37 f_38 f_39 f_20 f_21 f_22 f_40 f_41 f_42 f_43 f_44 f_45 f_46 f19 f20 f21 L_23 Nn_24 P_25 M_26 O_27) H := hP
          have hD : va_D A (mW ad kc 0 x1 x2 x3 x4 x5 x6 x7 x8 x9 x10 x11 x_29 x_30 x_31 x_32 x_10 x_11 x_12 x_13 x_33 x21 f0 f1 f2 f_34 f_35 f_36 f_37 f_38 f_39 f_20 f_21 f_22 f_40 f_41 f_42 f_43 f_44 f_45 f_46 f19 f20 f21 L_23 Nn_24 P_25 M_26 O_27) := hD
          have lit_57 : (0 : Int32).toInt = 0 := by decide
          exact W.iret hx hb hr (fun t ht hW => ⟨⟨_, _, rfl, rfl, 0, x_29, x_30, x_31, x_32, x_10, x_11, x_12, x_13, x_33, f_34, f_35, f_36, f_37, f_38, f_39, f_20, f_21, f_22, f_40, f_41, f_42, f_43, f_44, f_45, f_46, f21, L_23, Nn_24, P_25, M_26, O_27, hPI9, by rw [ht]; exact hP, va_K.moved hW.alike hK, hD⟩, hS.F ht⟩) hS.2.2 dX10_pattern_140
        · have tk_56 := c_ne (a := x_13.toInt) (b := 0) rfl (by decide) k_56
          refine lv_aload_n hx hb dX10_pattern_127 rfl (lv_at hl 0 rfl) ?_
          refine va_get (D := (dC, dI)) (ci := 10) (v := .ref (ad 10)) (C := RX10) (T := TX10) (N := 48) hx hb hts fin_X10_patternm_X10 hown hK hP 0 rfl rfl 26 (by decide) (hts (.fieldLink RX10 51 "PatternGateModel" "rowMany" "[I") (List.mem_of_getElem? (i := 20) (by decide +kernel))) (fun _ h9 => h9) rfl dX10_pattern_128 ?_
          refine lv_iconst (v := 0) hx hb dX10_pattern_131 (by decide) ?_
          refine va_iald hx hb hK hP 10 9 rfl rfl (i := 0) (by unfold vp_in; decide +kernel) dX10_pattern_132 ?_
          refine lv_topi (fun y_59 ey_59 => ?_)
          have rg_y_59 := i_rng y_59
          refine lv_goto (tgt := 137) hx hb dX10_pattern_133 (by decide) ?_
          have hFc := m_free hD hS hA
          refine va_calli (va_runV (As := [.int y_59]) (rest := []) ⟨hx, hb, hml, hown, hts⟩ (m_gives l dC dI ad kc x0 x1 x2 x3 x4 x5 x6 x7 x8 x9 x10 x11 x_29 x_30 x_31 x_32 x_10 x_11 x_12 x_13 x_33 x21 f0 f1 f2 f_34 f_35 f_36 f_37 f_38 f_39 f_20 f_21 f_22 f_40 f_41 f_42 f_43 f_44 f_45 f_46 f19 f20 f21 L_23 Nn_24 P_25 M_26 O_27 H.size y_59 ) (cwV 1 hts mg_X10_patternm_X10_gives_214 rfl rfl rfl (by decide +kernel) ⟨Nat.le_of_ble_eq_true rfl, Nat.le_of_ble_eq_true rfl⟩) ⟨fun a U g mk q => by obtain ⟨q0, q1, qP, qK, qD⟩ := q; exact ⟨q0, q1, qP, va_K.moved (u := U) (U := U.calling g mk a) (Vm.Alike.refl U.vm) qK, qD⟩, va_recv hK hP (ci := 10) (q0 := 0) rfl rfl, fun U hU hW => ⟨rfl, by rw [hU], by rw [hU]; exact hP, va_K.moved hW.alike hK, hD.weaken (fun _ _ _ _ => trivial)⟩⟩ rfl rfl hl.1 rfl (lv_room (Nat.le_of_ble_eq_true rfl)) dX10_pattern_137 ⟨Nat.le_of_ble_eq_true rfl, Nat.le_of_ble_eq_true rfl⟩) hS (fun q _ h => hFc q h) hFc (fun r_60 u t H1 locs ht hvm hw hB hz1 hk1 hS => ?_)
          subst hw
          obtain ⟨hr_60_0, hP, hK1, hD1⟩ := hB
          rw [ht] at hP
          have hD := hD1.weaken (fun k q _ h => hFc q.1 h)
          clear hz1 hk1 hFc hD1 hK1 hvm
          generalize H1 = H at hP hS ⊢
          have rg_r_60 := i_rng r_60
          have hP : va_P (dC, dI) vwCl (mW ad kc 0 x1 x2 x3 x4 x5 x6 x7 x8 x9 x10 x11 x_29 x_30 x_31 x_32 x_10 x_11 x_12 x_13 x_33 x21 f0 f1 f2 f_34 f_35 f_36 f_37 f_38 f_39 f_20 f_21 f_22 f_40 f_41 f_42 f_43 f_44 f_45 f_46 f19 f20 f21 L_23 Nn_24 P_25 M_26 O_27) H := hP
          have hD : va_D A (mW ad kc 0 x1 x2 x3 x4 x5 x6 x7 x8 x9 x10 x11 x_29 x_30 x_31 x_32 x_10 x_11 x_12 x_13 x_33 x21 f0 f1 f2 f_34 f_35 f_36 f_37 f_38 f_39 f_20 f_21 f_22 f_40 f_41 f_42 f_43 f_44 f_45 f_46 f19 f20 f21 L_23 Nn_24 P_25 M_26 O_27) := hD
          have lit_60 : (0 : Int32).toInt = 0 := by decide
          exact W.iret hx hb hr (fun t ht hW => ⟨⟨_, _, rfl, rfl, 0, x_29, x_30, x_31, x_32, x_10, x_11, x_12, x_13, x_33, f_34, f_35, f_36, f_37, f_38, f_39, f_20, f_21, f_22, f_40, f_41, f_42, f_43, f_44, f_45, f_46, f21, L_23, Nn_24, P_25, M_26, O_27, hPI9, by rw [ht]; exact hP, va_K.moved hW.alike hK, hD⟩, hS.F ht⟩) hS.2.2 dX10_pattern_140
      · refine lv_tableIn (off := 100) (tgt := 141) hx hb dX10_pattern_41 (by omega) (by omega) (by rw [show (i2.toInt - 0).toNat = 4 by omega]; rfl) (by decide) ?_
        refine lv_aload_n hx hb dX10_pattern_141 rfl (lv_at hl 0 rfl) ?_
        refine lv_aload_n hx hb dX10_pattern_142 rfl (lv_at hl 0 rfl) ?_
        refine va_get (D := (dC, dI)) (ci := 10) (v := .ref (ad 13)) (C := RX10) (T := TX10) (N := 48) hx hb hts fin_X10_patternm_X10 hown hK hP 0 rfl rfl 35 (by decide) (hts (.fieldLink RX10 71 "PatternGateModel" "nullable" "[I") (List.mem_of_getElem? (i := 21) (by decide +kernel))) (fun _ h9 => h9) rfl dX10_pattern_143 ?_
        refine lv_aload_n hx hb dX10_pattern_146 rfl (lv_at hl 0 rfl) ?_
        refine va_get (D := (dC, dI)) (ci := 10) (v := .int x_33) (C := RX10) (T := TX10) (N := 48) hx hb hts fin_X10_patternm_X10 hown hK hP 0 rfl rfl 42 (by decide) (hts (.fieldLink RX10 393 "PatternGateModel" "top" "I") (List.mem_of_getElem? (i := 22) (by decide +kernel))) (fun _ h9 => h9) rfl dX10_pattern_147 ?_
        refine va_iald hx hb hK hP 13 12 rfl rfl (i := x_33) (vp_of (a := x_33.toInt) rfl (by omega) (by omega)) dX10_pattern_150 ?_
        refine lv_topi (fun y_62 ey_62 => ?_)
        have rg_y_62 := i_rng y_62
        have hFc := m_free hD hS hA
        refine va_calli (va_runV (As := [.int y_62]) (rest := []) ⟨hx, hb, hml, hown, hts⟩ (m_gives l dC dI ad kc x0 x1 x2 x3 x4 x5 x6 x7 x8 x9 x10 x11 x_29 x_30 x_31 x_32 x_10 x_11 x_12 x_13 x_33 x21 f0 f1 f2 f_34 f_35 f_36 f_37 f_38 f_39 f_20 f_21 f_22 f_40 f_41 f_42 f_43 f_44 f_45 f_46 f19 f20 f21 L_23 Nn_24 P_25 M_26 O_27 H.size y_62 ) (cwV 1 hts mg_X10_patternm_X10_gives_214 rfl rfl rfl (by decide +kernel) ⟨Nat.le_of_ble_eq_true rfl, Nat.le_of_ble_eq_true rfl⟩) ⟨fun a U g mk q => by obtain ⟨q0, q1, qP, qK, qD⟩ := q; exact ⟨q0, q1, qP, va_K.moved (u := U) (U := U.calling g mk a) (Vm.Alike.refl U.vm) qK, qD⟩, va_recv hK hP (ci := 10) (q0 := 0) rfl rfl, fun U hU hW => ⟨rfl, by rw [hU], by rw [hU]; exact hP, va_K.moved hW.alike hK, hD.weaken (fun _ _ _ _ => trivial)⟩⟩ rfl rfl hl.1 rfl (lv_room (Nat.le_of_ble_eq_true rfl)) dX10_pattern_151 ⟨Nat.le_of_ble_eq_true rfl, Nat.le_of_ble_eq_true rfl⟩) hS (fun q _ h => hFc q h) hFc (fun r_63 u t H1 locs ht hvm hw hB hz1 hk1 hS => ?_)
        subst hw
        obtain ⟨hr_63_0, hP, hK1, hD1⟩ := hB
        rw [ht] at hP
        have hD := hD1.weaken (fun k q _ h => hFc q.1 h)
        clear hz1 hk1 hFc hD1 hK1 hvm
        generalize H1 = H at hP hS ⊢
        have rg_r_63 := i_rng r_63
        have hP : va_P (dC, dI) vwCl (mW ad kc 0 x1 x2 x3 x4 x5 x6 x7 x8 x9 x10 x11 x_29 x_30 x_31 x_32 x_10 x_11 x_12 x_13 x_33 x21 f0 f1 f2 f_34 f_35 f_36 f_37 f_38 f_39 f_20 f_21 f_22 f_40 f_41 f_42 f_43 f_44 f_45 f_46 f19 f20 f21 L_23 Nn_24 P_25 M_26 O_27) H := hP
        have hD : va_D A (mW ad kc 0 x1 x2 x3 x4 x5 x6 x7 x8 x9 x10 x11 x_29 x_30 x_31 x_32 x_10 x_11 x_12 x_13 x_33 x21 f0 f1 f2 f_34 f_35 f_36 f_37 f_38 f_39 f_20 f_21 f_22 f_40 f_41 f_42 f_43 f_44 f_45 f_46 f19 f20 f21 L_23 Nn_24 P_25 M_26 O_27) := hD
        have lit_63 : (0 : Int32).toInt = 0 := by decide
        exact W.iret hx hb hr (fun t ht hW => ⟨⟨_, _, rfl, rfl, 0, x_29, x_30, x_31, x_32, x_10, x_11, x_12, x_13, x_33, f_34, f_35, f_36, f_37, f_38, f_39, f_20, f_21, f_22, f_40, f_41, f_42, f_43, f_44, f_45, f_46, f21, L_23, Nn_24, P_25, M_26, O_27, hPI9, by rw [ht]; exact hP, va_K.moved hW.alike hK, hD⟩, hS.F ht⟩) hS.2.2 dX10_pattern_154
      · refine lv_tableIn (off := 114) (tgt := 155) hx hb dX10_pattern_41 (by omega) (by omega) (by rw [show (i2.toInt - 0).toNat = 5 by omega]; rfl) (by decide) ?_
        refine lv_aload_n hx hb dX10_pattern_155 rfl (lv_at hl 0 rfl) ?_
        refine lv_aload_n hx hb dX10_pattern_156 rfl (lv_at hl 0 rfl) ?_
        refine va_get (D := (dC, dI)) (ci := 10) (v := .ref (ad 16)) (C := RX10) (T := TX10) (N := 48) hx hb hts fin_X10_patternm_X10 hown hK hP 0 rfl rfl 38 (by decide) (hts (.fieldLink RX10 80 "PatternGateModel" "fewest" "[I") (List.mem_of_getElem? (i := 23) (by decide +kernel))) (fun _ h9 => h9) rfl dX10_pattern_157 ?_
        refine lv_aload_n hx hb dX10_pattern_160 rfl (lv_at hl 0 rfl) ?_
        refine va_get (D := (dC, dI)) (ci := 10) (v := .int x_33) (C := RX10) (T := TX10) (N := 48) hx hb hts fin_X10_patternm_X10 hown hK hP 0 rfl rfl 42 (by decide) (hts (.fieldLink RX10 393 "PatternGateModel" "top" "I") (List.mem_of_getElem? (i := 22) (by decide +kernel))) (fun _ h9 => h9) rfl dX10_pattern_161 ?_
        refine va_iald hx hb hK hP 16 15 rfl rfl (i := x_33) (vp_of (a := x_33.toInt) rfl (by omega) (by omega)) dX10_pattern_164 ?_
        refine lv_topi (fun y_65 ey_65 => ?_)
        have rg_y_65 := i_rng y_65
        have hFc := m_free hD hS hA
        refine va_calli (va_runV (As := [.int y_65]) (rest := []) ⟨hx, hb, hml, hown, hts⟩ (m_gives l dC dI ad kc x0 x1 x2 x3 x4 x5 x6 x7 x8 x9 x10 x11 x_29 x_30 x_31 x_32 x_10 x_11 x_12 x_13 x_33 x21 f0 f1 f2 f_34 f_35 f_36 f_37 f_38 f_39 f_20 f_21 f_22 f_40 f_41 f_42 f_43 f_44 f_45 f_46 f19 f20 f21 L_23 Nn_24 P_25 M_26 O_27 H.size y_65 ) (cwV 1 hts mg_X10_patternm_X10_gives_214 rfl rfl rfl (by decide +kernel) ⟨Nat.le_of_ble_eq_true rfl, Nat.le_of_ble_eq_true rfl⟩) ⟨fun a U g mk q => by obtain ⟨q0, q1, qP, qK, qD⟩ := q; exact ⟨q0, q1, qP, va_K.moved (u := U) (U := U.calling g mk a) (Vm.Alike.refl U.vm) qK, qD⟩, va_recv hK hP (ci := 10) (q0 := 0) rfl rfl, fun U hU hW => ⟨rfl, by rw [hU], by rw [hU]; exact hP, va_K.moved hW.alike hK, hD.weaken (fun _ _ _ _ => trivial)⟩⟩ rfl rfl hl.1 rfl (lv_room (Nat.le_of_ble_eq_true rfl)) dX10_pattern_165 ⟨Nat.le_of_ble_eq_true rfl, Nat.le_of_ble_eq_true rfl⟩) hS (fun q _ h => hFc q h) hFc (fun r_66 u t H1 locs ht hvm hw hB hz1 hk1 hS => ?_)
        subst hw
        obtain ⟨hr_66_0, hP, hK1, hD1⟩ := hB
        rw [ht] at hP
        have hD := hD1.weaken (fun k q _ h => hFc q.1 h)
        clear hz1 hk1 hFc hD1 hK1 hvm
        generalize H1 = H at hP hS ⊢
        have rg_r_66 := i_rng r_66
        have hP : va_P (dC, dI) vwCl (mW ad kc 0 x1 x2 x3 x4 x5 x6 x7 x8 x9 x10 x11 x_29 x_30 x_31 x_32 x_10 x_11 x_12 x_13 x_33 x21 f0 f1 f2 f_34 f_35 f_36 f_37 f_38 f_39 f_20 f_21 f_22 f_40 f_41 f_42 f_43 f_44 f_45 f_46 f19 f20 f21 L_23 Nn_24 P_25 M_26 O_27) H := hP
        have hD : va_D A (mW ad kc 0 x1 x2 x3 x4 x5 x6 x7 x8 x9 x10 x11 x_29 x_30 x_31 x_32 x_10 x_11 x_12 x_13 x_33 x21 f0 f1 f2 f_34 f_35 f_36 f_37 f_38 f_39 f_20 f_21 f_22 f_40 f_41 f_42 f_43 f_44 f_45 f_46 f19 f20 f21 L_23 Nn_24 P_25 M_26 O_27) := hD
        have lit_66 : (0 : Int32).toInt = 0 := by decide
        exact W.iret hx hb hr (fun t ht hW => ⟨⟨_, _, rfl, rfl, 0, x_29, x_30, x_31, x_32, x_10, x_11, x_12, x_13, x_33, f_34, f_35, f_36, f_37, f_38, f_39, f_20, f_21, f_22, f_40, f_41, f_42, f_43, f_44, f_45, f_46, f21, L_23, Nn_24, P_25, M_26, O_27, hPI9, by rw [ht]; exact hP, va_K.moved hW.alike hK, hD⟩, hS.F ht⟩) hS.2.2 dX10_pattern_168
      · refine lv_tableIn (off := 128) (tgt := 169) hx hb dX10_pattern_41 (by omega) (by omega) (by rw [show (i2.toInt - 0).toNat = 6 by omega]; rfl) (by decide) ?_
        refine lv_aload_n hx hb dX10_pattern_169 rfl (lv_at hl 0 rfl) ?_
        refine lv_aload_n hx hb dX10_pattern_170 rfl (lv_at hl 0 rfl) ?_
        have hFc := m_free hD hS hA
        refine va_calli (va_runV (As := []) (rest := [.ref (ad 0)]) ⟨hx, hb, hml, hown, hts⟩ (m_layTriples l dC dI ad kc x0 x1 x2 x3 x4 x5 x6 x7 x8 x9 x10 x11 x_29 x_30 x_31 x_32 x_10 x_11 x_12 x_13 x_33 x21 f0 f1 f2 f_34 f_35 f_36 f_37 f_38 f_39 f_20 f_21 f_22 f_40 f_41 f_42 f_43 f_44 f_45 f_46 f19 f20 f21 L_23 Nn_24 P_25 M_26 O_27 H.size (by first | omega | assumption | decide | (have l0 := Int32.toInt_zero; omega)) (by first | omega | assumption | decide | (have l0 := Int32.toInt_zero; omega))) (cwV 0 hts mg_X10_patternm_X10_layTriples_461 rfl rfl rfl (by decide +kernel) ⟨Nat.le_of_ble_eq_true rfl, Nat.le_of_ble_eq_true rfl⟩) ⟨fun a U g mk q => by obtain ⟨q0, q1, qP, qK, qD⟩ := q; exact ⟨q0, q1, qP, va_K.moved (u := U) (U := U.calling g mk a) (Vm.Alike.refl U.vm) qK, qD⟩, va_recv hK hP (ci := 10) (q0 := 0) rfl rfl, fun U hU hW => ⟨rfl, by rw [hU], by rw [hU]; exact hP, va_K.moved hW.alike hK, hD.weaken (fun _ _ _ _ => trivial)⟩⟩ rfl rfl hl.1 rfl (lv_room (Nat.le_of_ble_eq_true rfl)) dX10_pattern_171 ⟨Nat.le_of_ble_eq_true rfl, Nat.le_of_ble_eq_true rfl⟩) hS (fun q _ h => hFc q h) hFc (fun r_68 u t H1 locs ht hvm hw hB hz1 hk1 hS => ?_)
        subst hw
        obtain ⟨f_69, hr_68_0, hr_68_1, hP, hK1, hD1⟩ := hB
        rw [ht] at hP
        have hD := hD1.weaken (fun k q _ h => hFc q.1 h)
        clear hz1 hk1 hFc hD1 hK1 hvm
        generalize H1 = H at hP hS ⊢
        have rg_r_68 := i_rng r_68
        have hP : va_P (dC, dI) vwCl (mW ad kc x0 x1 x2 x3 x4 x5 x6 x7 x8 x9 x10 x11 x_29 x_30 x_31 x_32 x_10 x_11 x_12 x_13 x_33 x21 f0 f1 f2 f_34 f_35 f_36 f_37 f_38 f_39 f_20 f_21 f_22 f_40 f_41 f_42 f_43 f_44 f_45 f_46 f19 f20 f_69 L_23 Nn_24 P_25 M_26 O_27) H := hP
        have hD : va_D A (mW ad kc x0 x1 x2 x3 x4 x5 x6 x7 x8 x9 x10 x11 x_29 x_30 x_31 x_32 x_10 x_11 x_12 x_13 x_33 x21 f0 f1 f2 f_34 f_35 f_36 f_37 f_38 f_39 f_20 f_21 f_22 f_40 f_41 f_42 f_43 f_44 f_45 f_46 f19 f20 f_69 L_23 Nn_24 P_25 M_26 O_27) := hD
        have hFc := m_free hD hS hA
        refine va_calli (va_runV (As := [.int r_68]) (rest := []) ⟨hx, hb, hml, hown, hts⟩ (m_gives l dC dI ad kc x0 x1 x2 x3 x4 x5 x6 x7 x8 x9 x10 x11 x_29 x_30 x_31 x_32 x_10 x_11 x_12 x_13 x_33 x21 f0 f1 f2 f_34 f_35 f_36 f_37 f_38 f_39 f_20 f_21 f_22 f_40 f_41 f_42 f_43 f_44 f_45 f_46 f19 f20 f_69 L_23 Nn_24 P_25 M_26 O_27 H.size r_68 ) (cwV 1 hts mg_X10_patternm_X10_gives_214 rfl rfl rfl (by decide +kernel) ⟨Nat.le_of_ble_eq_true rfl, Nat.le_of_ble_eq_true rfl⟩) ⟨fun a U g mk q => by obtain ⟨q0, q1, qP, qK, qD⟩ := q; exact ⟨q0, q1, qP, va_K.moved (u := U) (U := U.calling g mk a) (Vm.Alike.refl U.vm) qK, qD⟩, va_recv hK hP (ci := 10) (q0 := 0) rfl rfl, fun U hU hW => ⟨rfl, by rw [hU], by rw [hU]; exact hP, va_K.moved hW.alike hK, hD.weaken (fun _ _ _ _ => trivial)⟩⟩ rfl rfl hl.1 rfl (lv_room (Nat.le_of_ble_eq_true rfl)) dX10_pattern_174 ⟨Nat.le_of_ble_eq_true rfl, Nat.le_of_ble_eq_true rfl⟩) hS (fun q _ h => hFc q h) hFc (fun r_70 u t H1 locs ht hvm hw hB hz1 hk1 hS => ?_)
        subst hw
        obtain ⟨hr_70_0, hP, hK1, hD1⟩ := hB
        rw [ht] at hP
        have hD := hD1.weaken (fun k q _ h => hFc q.1 h)
        clear hz1 hk1 hFc hD1 hK1 hvm
        generalize H1 = H at hP hS ⊢
        have rg_r_70 := i_rng r_70
        have hP : va_P (dC, dI) vwCl (mW ad kc 0 x1 x2 x3 x4 x5 x6 x7 x8 x9 x10 x11 x_29 x_30 x_31 x_32 x_10 x_11 x_12 x_13 x_33 x21 f0 f1 f2 f_34 f_35 f_36 f_37 f_38 f_39 f_20 f_21 f_22 f_40 f_41 f_42 f_43 f_44 f_45 f_46 f19 f20 f_69 L_23 Nn_24 P_25 M_26 O_27) H := hP
        have hD : va_D A (mW ad kc 0 x1 x2 x3 x4 x5 x6 x7 x8 x9 x10 x11 x_29 x_30 x_31 x_32 x_10 x_11 x_12 x_13 x_33 x21 f0 f1 f2 f_34 f_35 f_36 f_37 f_38 f_39 f_20 f_21 f_22 f_40 f_41 f_42 f_43 f_44 f_45 f_46 f19 f20 f_69 L_23 Nn_24 P_25 M_26 O_27) := hD
        have lit_70 : (0 : Int32).toInt = 0 := by decide
        exact W.iret hx hb hr (fun t ht hW => ⟨⟨_, _, rfl, rfl, 0, x_29, x_30, x_31, x_32, x_10, x_11, x_12, x_13, x_33, f_34, f_35, f_36, f_37, f_38, f_39, f_20, f_21, f_22, f_40, f_41, f_42, f_43, f_44, f_45, f_46, f_69, L_23, Nn_24, P_25, M_26, O_27, hPI9, by rw [ht]; exact hP, va_K.moved hW.alike hK, hD⟩, hS.F ht⟩) hS.2.2 dX10_pattern_177
      · refine lv_tableOut (tgt := 178) hx hb dX10_pattern_41 hsw (by decide) ?_
        refine lv_aload_n hx hb dX10_pattern_178 rfl (lv_at hl 0 rfl) ?_
        refine lv_aload_n hx hb dX10_pattern_179 rfl (lv_at hl 0 rfl) ?_
        refine va_get (D := (dC, dI)) (ci := 10) (v := .ref (ad 17)) (C := RX10) (T := TX10) (N := 48) hx hb hts fin_X10_patternm_X10 hown hK hP 0 rfl rfl 39 (by decide) (hts (.fieldLink RX10 83 "PatternGateModel" "deep" "[I") (List.mem_of_getElem? (i := 27) (by decide +kernel))) (fun _ h9 => h9) rfl dX10_pattern_180 ?_
        refine lv_aload_n hx hb dX10_pattern_183 rfl (lv_at hl 0 rfl) ?_
        refine va_get (D := (dC, dI)) (ci := 10) (v := .int x_33) (C := RX10) (T := TX10) (N := 48) hx hb hts fin_X10_patternm_X10 hown hK hP 0 rfl rfl 42 (by decide) (hts (.fieldLink RX10 393 "PatternGateModel" "top" "I") (List.mem_of_getElem? (i := 22) (by decide +kernel))) (fun _ h9 => h9) rfl dX10_pattern_184 ?_
        refine va_iald hx hb hK hP 17 16 rfl rfl (i := x_33) (vp_of (a := x_33.toInt) rfl (by omega) (by omega)) dX10_pattern_187 ?_
        refine lv_topi (fun y_72 ey_72 => ?_)
        have rg_y_72 := i_rng y_72
        have hFc := m_free hD hS hA
        refine va_calli (va_runV (As := [.int y_72]) (rest := []) ⟨hx, hb, hml, hown, hts⟩ (m_gives l dC dI ad kc x0 x1 x2 x3 x4 x5 x6 x7 x8 x9 x10 x11 x_29 x_30 x_31 x_32 x_10 x_11 x_12 x_13 x_33 x21 f0 f1 f2 f_34 f_35 f_36 f_37 f_38 f_39 f_20 f_21 f_22 f_40 f_41 f_42 f_43 f_44 f_45 f_46 f19 f20 f21 L_23 Nn_24 P_25 M_26 O_27 H.size y_72 ) (cwV 1 hts mg_X10_patternm_X10_gives_214 rfl rfl rfl (by decide +kernel) ⟨Nat.le_of_ble_eq_true rfl, Nat.le_of_ble_eq_true rfl⟩) ⟨fun a U g mk q => by obtain ⟨q0, q1, qP, qK, qD⟩ := q; exact ⟨q0, q1, qP, va_K.moved (u := U) (U := U.calling g mk a) (Vm.Alike.refl U.vm) qK, qD⟩, va_recv hK hP (ci := 10) (q0 := 0) rfl rfl, fun U hU hW => ⟨rfl, by rw [hU], by rw [hU]; exact hP, va_K.moved hW.alike hK, hD.weaken (fun _ _ _ _ => trivial)⟩⟩ rfl rfl hl.1 rfl (lv_room (Nat.le_of_ble_eq_true rfl)) dX10_pattern_188 ⟨Nat.le_of_ble_eq_true rfl, Nat.le_of_ble_eq_true rfl⟩) hS (fun q _ h => hFc q h) hFc (fun r_73 u t H1 locs ht hvm hw hB hz1 hk1 hS => ?_)
        subst hw
        obtain ⟨hr_73_0, hP, hK1, hD1⟩ := hB
        rw [ht] at hP
        have hD := hD1.weaken (fun k q _ h => hFc q.1 h)
        clear hz1 hk1 hFc hD1 hK1 hvm
        generalize H1 = H at hP hS ⊢
        have rg_r_73 := i_rng r_73
        have hP : va_P (dC, dI) vwCl (mW ad kc 0 x1 x2 x3 x4 x5 x6 x7 x8 x9 x10 x11 x_29 x_30 x_31 x_32 x_10 x_11 x_12 x_13 x_33 x21 f0 f1 f2 f_34 f_35 f_36 f_37 f_38 f_39 f_20 f_21 f_22 f_40 f_41 f_42 f_43 f_44 f_45 f_46 f19 f20 f21 L_23 Nn_24 P_25 M_26 O_27) H := hP
        have hD : va_D A (mW ad kc 0 x1 x2 x3 x4 x5 x6 x7 x8 x9 x10 x11 x_29 x_30 x_31 x_32 x_10 x_11 x_12 x_13 x_33 x21 f0 f1 f2 f_34 f_35 f_36 f_37 f_38 f_39 f_20 f_21 f_22 f_40 f_41 f_42 f_43 f_44 f_45 f_46 f19 f20 f21 L_23 Nn_24 P_25 M_26 O_27) := hD
        have lit_73 : (0 : Int32).toInt = 0 := by decide
        exact W.iret hx hb hr (fun t ht hW => ⟨⟨_, _, rfl, rfl, 0, x_29, x_30, x_31, x_32, x_10, x_11, x_12, x_13, x_33, f_34, f_35, f_36, f_37, f_38, f_39, f_20, f_21, f_22, f_40, f_41, f_42, f_43, f_44, f_45, f_46, f21, L_23, Nn_24, P_25, M_26, O_27, hPI9, by rw [ht]; exact hP, va_K.moved hW.alike hK, hD⟩, hS.F ht⟩) hS.2.2 dX10_pattern_191
    · have tk_4 := c_eq (a := r_3.toInt) (b := 0) rfl (by decide) k_4
      refine lv_aload_n hx hb dX10_pattern_24 rfl (lv_at hl 0 rfl) ?_
      refine lv_iconst (v := 2) hx hb dX10_pattern_25 (by decide) ?_
      have hFc := m_free hD hS hA
      refine va_calli (va_runV (As := [.int 2]) (rest := []) ⟨hx, hb, hml, hown, hts⟩ (m_refuse l dC dI ad kc x0 x1 x2 x3 x4 x5 x6 x7 x8 x9 x10 x11 x12 x13 x14 x15 x16 x17 x18 x19 x20 x21 f0 f1 f2 f3 f4 f5 f6 f7 f8 f9 f10 f11 f12 f13 f14 f15 f16 f17 f18 f19 f20 f21 fL fN fP fM fO H.size 2 ) (cwV 1 hts mg_X10_patternm_X10_refuse_204 rfl rfl rfl (by decide +kernel) ⟨Nat.le_of_ble_eq_true rfl, Nat.le_of_ble_eq_true rfl⟩) ⟨fun a U g mk q => by obtain ⟨q0, q1, qP, qK, qD⟩ := q; exact ⟨q0, q1, qP, va_K.moved (u := U) (U := U.calling g mk a) (Vm.Alike.refl U.vm) qK, qD⟩, va_recv hK hP (ci := 10) (q0 := 0) rfl rfl, fun U hU hW => ⟨rfl, by rw [hU], by rw [hU]; exact hP, va_K.moved hW.alike hK, hD.weaken (fun _ _ _ _ => trivial)⟩⟩ rfl rfl hl.1 rfl (lv_room (Nat.le_of_ble_eq_true rfl)) dX10_pattern_26 ⟨Nat.le_of_ble_eq_true rfl, Nat.le_of_ble_eq_true rfl⟩) hS (fun q _ h => hFc q h) hFc (fun r_75 u t H1 locs ht hvm hw hB hz1 hk1 hS => ?_)
      subst hw
      obtain ⟨hr_75_0, hP, hK1, hD1⟩ := hB
      rw [ht] at hP
      have hD := hD1.weaken (fun k q _ h => hFc q.1 h)
      clear hz1 hk1 hFc hD1 hK1 hvm
      generalize H1 = H at hP hS ⊢
      have rg_r_75 := i_rng r_75
      have hP : va_P (dC, dI) vwCl (mW ad kc 2 x1 x2 x3 x4 x5 x6 x7 x8 x9 x10 x11 x12 x13 x14 x15 x16 x17 x18 x19 x20 x21 f0 f1 f2 f3 f4 f5 f6 f7 f8 f9 f10 f11 f12 f13 f14 f15 f16 f17 f18 f19 f20 f21 fL fN fP fM fO) H := hP
      have hD : va_D A (mW ad kc 2 x1 x2 x3 x4 x5 x6 x7 x8 x9 x10 x11 x12 x13 x14 x15 x16 x17 x18 x19 x20 x21 f0 f1 f2 f3 f4 f5 f6 f7 f8 f9 f10 f11 f12 f13 f14 f15 f16 f17 f18 f19 f20 f21 fL fN fP fM fO) := hD
      have lit_75 : (2 : Int32).toInt = 2 := by decide
      exact W.iret hx hb hr (fun t ht hW => ⟨⟨_, _, rfl, rfl, 2, x12, x13, x14, x15, x16, x17, x18, x19, x20, f3, f4, f5, f6, f7, f8, f9, f10, f11, f12, f13, f14, f15, f16, f17, f18, f21, fL, fN, fP, fM, fO, hpi, by rw [ht]; exact hP, va_K.moved hW.alike hK, hD⟩, hS.F ht⟩) hS.2.2 dX10_pattern_29
  · have tk_2 := c_eq (a := r_1.toInt) (b := 0) rfl (by decide) k_2
    refine lv_aload_n hx hb dX10_pattern_10 rfl (lv_at hl 0 rfl) ?_
    refine lv_iconst (v := 1) hx hb dX10_pattern_11 (by decide) ?_
    have hFc := m_free hD hS hA
    refine va_calli (va_runV (As := [.int 1]) (rest := []) ⟨hx, hb, hml, hown, hts⟩ (m_refuse l dC dI ad kc x0 x1 x2 x3 x4 x5 x6 x7 x8 x9 x10 x11 x12 x13 x14 x15 x16 x17 x18 x19 x20 x21 f0 f1 f2 f3 f4 f5 f6 f7 f8 f9 f10 f11 f12 f13 f14 f15 f16 f17 f18 f19 f20 f21 fL fN fP fM fO H.size 1 ) (cwV 1 hts mg_X10_patternm_X10_refuse_204 rfl rfl rfl (by decide +kernel) ⟨Nat.le_of_ble_eq_true rfl, Nat.le_of_ble_eq_true rfl⟩) ⟨fun a U g mk q => by obtain ⟨q0, q1, qP, qK, qD⟩ := q; exact ⟨q0, q1, qP, va_K.moved (u := U) (U := U.calling g mk a) (Vm.Alike.refl U.vm) qK, qD⟩, va_recv hK hP (ci := 10) (q0 := 0) rfl rfl, fun U hU hW => ⟨rfl, by rw [hU], by rw [hU]; exact hP, va_K.moved hW.alike hK, hD.weaken (fun _ _ _ _ => trivial)⟩⟩ rfl rfl hl.1 rfl (lv_room (Nat.le_of_ble_eq_true rfl)) dX10_pattern_12 ⟨Nat.le_of_ble_eq_true rfl, Nat.le_of_ble_eq_true rfl⟩) hS (fun q _ h => hFc q h) hFc (fun r_77 u t H1 locs ht hvm hw hB hz1 hk1 hS => ?_)
    subst hw
    obtain ⟨hr_77_0, hP, hK1, hD1⟩ := hB
    rw [ht] at hP
    have hD := hD1.weaken (fun k q _ h => hFc q.1 h)
    clear hz1 hk1 hFc hD1 hK1 hvm
    generalize H1 = H at hP hS ⊢
    have rg_r_77 := i_rng r_77
    have hP : va_P (dC, dI) vwCl (mW ad kc 1 x1 x2 x3 x4 x5 x6 x7 x8 x9 x10 x11 x12 x13 x14 x15 x16 x17 x18 x19 x20 x21 f0 f1 f2 f3 f4 f5 f6 f7 f8 f9 f10 f11 f12 f13 f14 f15 f16 f17 f18 f19 f20 f21 fL fN fP fM fO) H := hP
    have hD : va_D A (mW ad kc 1 x1 x2 x3 x4 x5 x6 x7 x8 x9 x10 x11 x12 x13 x14 x15 x16 x17 x18 x19 x20 x21 f0 f1 f2 f3 f4 f5 f6 f7 f8 f9 f10 f11 f12 f13 f14 f15 f16 f17 f18 f19 f20 f21 fL fN fP fM fO) := hD
    have lit_77 : (1 : Int32).toInt = 1 := by decide
    exact W.iret hx hb hr (fun t ht hW => ⟨⟨_, _, rfl, rfl, 1, x12, x13, x14, x15, x16, x17, x18, x19, x20, f3, f4, f5, f6, f7, f8, f9, f10, f11, f12, f13, f14, f15, f16, f17, f18, f21, fL, fN, fP, fM, fO, hpi, by rw [ht]; exact hP, va_K.moved hW.alike hK, hD⟩, hS.F ht⟩) hS.2.2 dX10_pattern_15
theorem dX10_sign_0 : decode cX10_sign 0 = .ok (.iload_n 2, 1) := by decide +kernel
theorem dX10_sign_1 : decode cX10_sign 1 = .ok (.ifCond .ge 9, 3) := by decide +kernel
theorem dX10_sign_4 : decode cX10_sign 4 = .ok (.aload_n 0, 1) := by decide +kernel
theorem dX10_sign_5 : decode cX10_sign 5 = .ok (.iconst 1, 1) := by decide +kernel
theorem dX10_sign_6 : decode cX10_sign 6 = .ok (.invokevirtual 204, 3) := by decide +kernel
theorem dX10_sign_9 : decode cX10_sign 9 = .ok (.ireturn, 1) := by decide +kernel
theorem dX10_sign_10 : decode cX10_sign 10 = .ok (.aload_n 0, 1) := by decide +kernel
theorem dX10_sign_11 : decode cX10_sign 11 = .ok (.iload_n 1, 1) := by decide +kernel
theorem dX10_sign_12 : decode cX10_sign 12 = .ok (.invokevirtual 458, 3) := by decide +kernel
theorem dX10_sign_15 : decode cX10_sign 15 = .ok (.ifCond .ne 9, 3) := by decide +kernel
theorem dX10_sign_18 : decode cX10_sign 18 = .ok (.aload_n 0, 1) := by decide +kernel
theorem dX10_sign_19 : decode cX10_sign 19 = .ok (.iconst 2, 1) := by decide +kernel
theorem dX10_sign_20 : decode cX10_sign 20 = .ok (.invokevirtual 204, 3) := by decide +kernel
theorem dX10_sign_23 : decode cX10_sign 23 = .ok (.ireturn, 1) := by decide +kernel
theorem dX10_sign_24 : decode cX10_sign 24 = .ok (.iload_n 2, 1) := by decide +kernel
theorem dX10_sign_25 : decode cX10_sign 25 = .ok (.aload_n 0, 1) := by decide +kernel
theorem dX10_sign_26 : decode cX10_sign 26 = .ok (.getfield 8, 3) := by decide +kernel
theorem dX10_sign_29 : decode cX10_sign 29 = .ok (.sipush 612, 3) := by decide +kernel
theorem dX10_sign_32 : decode cX10_sign 32 = .ok (.iload_n 1, 1) := by decide +kernel
theorem dX10_sign_33 : decode cX10_sign 33 = .ok (.iadd, 1) := by decide +kernel
theorem dX10_sign_34 : decode cX10_sign 34 = .ok (.iaload, 1) := by decide +kernel
theorem dX10_sign_35 : decode cX10_sign 35 = .ok (.if_icmp .ge 26, 3) := by decide +kernel
theorem dX10_sign_38 : decode cX10_sign 38 = .ok (.aload_n 0, 1) := by decide +kernel
theorem dX10_sign_39 : decode cX10_sign 39 = .ok (.aload_n 0, 1) := by decide +kernel
theorem dX10_sign_40 : decode cX10_sign 40 = .ok (.getfield 8, 3) := by decide +kernel
theorem dX10_sign_43 : decode cX10_sign 43 = .ok (.sipush 620, 3) := by decide +kernel
theorem dX10_sign_46 : decode cX10_sign 46 = .ok (.sipush 900, 3) := by decide +kernel
theorem dX10_sign_49 : decode cX10_sign 49 = .ok (.iload_n 1, 1) := by decide +kernel
theorem dX10_sign_50 : decode cX10_sign 50 = .ok (.imul, 1) := by decide +kernel
theorem dX10_sign_51 : decode cX10_sign 51 = .ok (.iadd, 1) := by decide +kernel
theorem dX10_sign_52 : decode cX10_sign 52 = .ok (.iload_n 2, 1) := by decide +kernel
theorem dX10_sign_53 : decode cX10_sign 53 = .ok (.iadd, 1) := by decide +kernel
theorem dX10_sign_54 : decode cX10_sign 54 = .ok (.iaload, 1) := by decide +kernel
theorem dX10_sign_55 : decode cX10_sign 55 = .ok (.invokevirtual 214, 3) := by decide +kernel
theorem dX10_sign_58 : decode cX10_sign 58 = .ok (.goto 8, 3) := by decide +kernel
theorem dX10_sign_61 : decode cX10_sign 61 = .ok (.aload_n 0, 1) := by decide +kernel
theorem dX10_sign_62 : decode cX10_sign 62 = .ok (.iconst 5, 1) := by decide +kernel
theorem dX10_sign_63 : decode cX10_sign 63 = .ok (.invokevirtual 204, 3) := by decide +kernel
theorem dX10_sign_66 : decode cX10_sign 66 = .ok (.ireturn, 1) := by decide +kernel
def mwX10_signm : List Cond := .code yX10_sign cX10_sign 3 (some .int) :: (([.methodLink RX10 458 yX10_isPattern, .instanceMethod yX10_isPattern, .selects RX10 yX10_isPattern yX10_isPattern, .initialized RX10, .fieldLink RX10 8 "PatternGateModel" "all" "[I", .methodLink RX10 204 yX10_refuse, .instanceMethod yX10_refuse, .selects RX10 yX10_refuse yX10_refuse, .methodLink RX10 214 yX10_gives, .instanceMethod yX10_gives, .selects RX10 yX10_gives yX10_gives] : List Cond) ++ (wsX100 ++ (mwX10_isPatternm ++ (mwX10_refusem ++ (mwX10_givesm)))))
theorem fin_X10_signm_X10 : ∀ w ∈ wsX100, w ∈ mwX10_signm := fun w h => List.mem_cons_of_mem _ (List.mem_append_right _ (List.mem_append_left _ h))
set_option maxRecDepth 20000 in
theorem mg_X10_signm_X10_isPattern_458 : GoodIn mwX10_signm (wsV RX10 458 RX10 yX10_isPattern mwX10_isPatternm) := gi_app (A := [.methodLink RX10 458 yX10_isPattern, .instanceMethod yX10_isPattern, .selects RX10 yX10_isPattern yX10_isPattern, .initialized RX10]) (goodIn_r _ [1, 2, 3, 4] (by decide +kernel) (by decide +kernel)) (gi_sub gd_mwX10_isPatternm (fun w h => List.mem_cons_of_mem _ (List.mem_append_right _ (List.mem_append_right _ (List.mem_append_left _ h)))))
set_option maxRecDepth 20000 in
theorem mg_X10_signm_X10_refuse_204 : GoodIn mwX10_signm (wsV RX10 204 RX10 yX10_refuse mwX10_refusem) := gi_app (A := [.methodLink RX10 204 yX10_refuse, .instanceMethod yX10_refuse, .selects RX10 yX10_refuse yX10_refuse, .initialized RX10]) (goodIn_r _ [6, 7, 8, 4] (by decide +kernel) (by decide +kernel)) (gi_sub gd_mwX10_refusem (fun w h => List.mem_cons_of_mem _ (List.mem_append_right _ (List.mem_append_right _ (List.mem_append_right _ (List.mem_append_left _ h))))))
set_option maxRecDepth 20000 in
theorem mg_X10_signm_X10_gives_214 : GoodIn mwX10_signm (wsV RX10 214 RX10 yX10_gives mwX10_givesm) := gi_app (A := [.methodLink RX10 214 yX10_gives, .instanceMethod yX10_gives, .selects RX10 yX10_gives yX10_gives, .initialized RX10]) (goodIn_r _ [9, 10, 11, 4] (by decide +kernel) (by decide +kernel)) (gi_sub gd_mwX10_givesm (fun w h => List.mem_cons_of_mem _ (List.mem_append_right _ (List.mem_append_right _ (List.mem_append_right _ (List.mem_append_right _ (h)))))))
set_option maxHeartbeats 4000000 in
set_option maxRecDepth 100000 in
theorem m_sign (l : Launch) (dC : Nat → ClassId) (dI : Nat → Nat → Nat) (ad : Nat → Nat) (kc : Nat → ClassId) (x0 x1 x2 x3 x4 x5 x6 x7 x8 x9 x10 x11 x12 x13 x14 x15 x16 x17 x18 x19 x20 x21 : Int32) (f0 f1 f2 f3 f4 f5 f6 f7 f8 f9 f10 f11 f12 f13 f14 f15 f16 f17 f18 f19 f20 f21 : Nat → Int32) (fL : Nat → Nat → Int64) (fN : Nat → Nat → Int32) (fP : Nat → Nat → Nat) (fM : Nat → Nat → Int32) (fO : Nat → Nat → Int32) (sz : Nat) (i1 i2 : Int32) (q0 : mI x1.toInt x2.toInt x3.toInt f0 fP) : Met l yX10_sign mwX10_signm ({ frames := 1, cells := 0, slots := 0, locals := 60 }) (va_Pc [.ref (ad 0), .int i1, .int i2] (fun U => U.heap.size = sz ∧ va_P (dC, dI) vwCl (mW ad kc x0 x1 x2 x3 x4 x5 x6 x7 x8 x9 x10 x11 x12 x13 x14 x15 x16 x17 x18 x19 x20 x21 f0 f1 f2 f3 f4 f5 f6 f7 f8 f9 f10 f11 f12 f13 f14 f15 f16 f17 f18 f19 f20 f21 fL fN fP fM fO) U.heap ∧ va_K (dC, dI) vwCl (mT kc) U ∧ va_D (fun _ => True) (mW ad kc x0 x1 x2 x3 x4 x5 x6 x7 x8 x9 x10 x11 x12 x13 x14 x15 x16 x17 x18 x19 x20 x21 f0 f1 f2 f3 f4 f5 f6 f7 f8 f9 f10 f11 f12 f13 f14 f15 f16 f17 f18 f19 f20 f21 fL fN fP fM fO))) (va_Qi (fun (o9 u9 : Int32) => o9 = u9) (fun (o9 : Int32) t => ∃ (y0 : Int32), va_P (dC, dI) vwCl (mW ad kc y0 x1 x2 x3 x4 x5 x6 x7 x8 x9 x10 x11 x12 x13 x14 x15 x16 x17 x18 x19 x20 x21 f0 f1 f2 f3 f4 f5 f6 f7 f8 f9 f10 f11 f12 f13 f14 f15 f16 f17 f18 f19 f20 f21 fL fN fP fM fO) t.heap ∧ va_K (dC, dI) vwCl (mT kc) t ∧ va_D (va_A (mW ad kc x0 x1 x2 x3 x4 x5 x6 x7 x8 x9 x10 x11 x12 x13 x14 x15 x16 x17 x18 x19 x20 x21 f0 f1 f2 f3 f4 f5 f6 f7 f8 f9 f10 f11 f12 f13 f14 f15 f16 f17 f18 f19 f20 f21 fL fN fP fM fO) sz) (mW ad kc y0 x1 x2 x3 x4 x5 x6 x7 x8 x9 x10 x11 x12 x13 x14 x15 x16 x17 x18 x19 x20 x21 f0 f1 f2 f3 f4 f5 f6 f7 f8 f9 f10 f11 f12 f13 f14 f15 f16 f17 f18 f19 f20 f21 fL fN fP fM fO)) (va_A (mW ad kc x0 x1 x2 x3 x4 x5 x6 x7 x8 x9 x10 x11 x12 x13 x14 x15 x16 x17 x18 x19 x20 x21 f0 f1 f2 f3 f4 f5 f6 f7 f8 f9 f10 f11 f12 f13 f14 f15 f16 f17 f18 f19 f20 f21 fL fN fP fM fO) sz)) 0 0 (va_A (mW ad kc x0 x1 x2 x3 x4 x5 x6 x7 x8 x9 x10 x11 x12 x13 x14 x15 x16 x17 x18 x19 x20 x21 f0 f1 f2 f3 f4 f5 f6 f7 f8 f9 f10 f11 f12 f13 f14 f15 f16 f17 f18 f19 f20 f21 fL fN fP fM fO) sz) := by
  refine Met.ofW (cc := cX10_sign) (maxL := 3) (ret := (some .int)) (by decide +kernel) rfl ?_
  intro p e s m args below meth c s₁ B hml hv
  obtain ⟨rfl, hsz, hP, hK, hD0⟩ := hv
  have hx := B.exec
  have hb := B.bytes
  have hr := B.returns
  have hts := atoms_spec (ws := mwX10_signm) B.pre
  have hown : s.vm.findClass RX10 = some m.cls := findClass_of_methodNamed B.named
  have hlocks := B.notSynchronized
  subst hsz
  have hD := hD0.self (sz := s.heap.size)
  generalize hAe : va_A (mW ad kc x0 x1 x2 x3 x4 x5 x6 x7 x8 x9 x10 x11 x12 x13 x14 x15 x16 x17 x18 x19 x20 x21 f0 f1 f2 f3 f4 f5 f6 f7 f8 f9 f10 f11 f12 f13 f14 f15 f16 f17 f18 f19 f20 f21 fL fN fP fM fO) s.heap.size = A at hD ⊢
  have hA : ∀ q : Nat, s.heap.size ≤ q → A q := fun q h => by rw [← hAe]; exact Or.inr h
  have hP : va_P (dC, dI) vwCl (mW ad kc x0 x1 x2 x3 x4 x5 x6 x7 x8 x9 x10 x11 x12 x13 x14 x15 x16 x17 x18 x19 x20 x21 f0 f1 f2 f3 f4 f5 f6 f7 f8 f9 f10 f11 f12 f13 f14 f15 f16 f17 f18 f19 f20 f21 fL fN fP fM fO) s.heap := hP
  have hD : va_D A (mW ad kc x0 x1 x2 x3 x4 x5 x6 x7 x8 x9 x10 x11 x12 x13 x14 x15 x16 x17 x18 x19 x20 x21 f0 f1 f2 f3 f4 f5 f6 f7 f8 f9 f10 f11 f12 f13 f14 f15 f16 f17 f18 f19 f20 f21 fL fN fP fM fO) := hD
  have hK : va_K (dC, dI) vwCl (mT kc) s := hK
  generalize hH : s.heap = H at hP ⊢
  have hS : va_S A s.heap H [] := by rw [← hH]; exact va_S.rf
  have hl := lv_entry ([.ref (ad 0), .int i1, .int i2]) (n := 3) (Nat.le_of_ble_eq_true rfl)
  rw [lg_entry_eq]
  generalize (lg_sl ([.ref (ad 0), .int i1, .int i2]) ++ List.replicate (3 - (lg_sl ([.ref (ad 0), .int i1, .int i2])).length) Slot.unset).toArray = ls at hl ⊢
  have hl : lv_has ls 3 [(0, .ref (ad 0)), (1, .int i1), (2, .int i2)] := hl
  have rg_i1 := i_rng i1
  have rg_i2 := i_rng i2
  have hd := q0.d
  have hpi := q0.p
  have hq1 := q0.1
  have hq2 := q0.2.1
  have hq3 := q0.2.2.1
  have hd10 := hd.n0
  have hp8 := hd.P0
  refine lv_iload_n hx hb dX10_sign_0 rfl (lv_at hl 2 rfl) ?_
  refine lv_if_ge (tgt := 10) hx hb dX10_sign_1 (by decide) (fun k_1 => ?_) (fun k_1 => ?_)
  · have tk_1 := c_ge (a := i2.toInt) (b := 0) rfl (by decide) k_1
    refine lv_aload_n hx hb dX10_sign_10 rfl (lv_at hl 0 rfl) ?_
    refine lv_iload_n hx hb dX10_sign_11 rfl (lv_at hl 1 rfl) ?_
    refine vp_callSi (W.runV (As := [.int i1]) (rest := []) ⟨hx, hb, hml, hown, hts⟩ (m_isPattern l dC dI ad kc x0 x1 x2 x3 x4 x5 x6 x7 x8 x9 x10 x11 x12 x13 x14 x15 x16 x17 x18 x19 x20 x21 f0 f1 f2 f3 f4 f5 f6 f7 f8 f9 f10 f11 f12 f13 f14 f15 f16 f17 f18 f19 f20 f21 fL fN fP fM fO i1 ) (cwV 1 hts mg_X10_signm_X10_isPattern_458 rfl rfl rfl (by decide +kernel) ⟨Nat.le_of_ble_eq_true rfl, Nat.le_of_ble_eq_true rfl⟩) ⟨fun a U g mk q => by obtain ⟨q0, qP, qK⟩ := q; exact ⟨q0, qP, va_K.moved (u := U) (U := U.calling g mk a) (Vm.Alike.refl U.vm) qK⟩, va_recv hK hP (ci := 10) (q0 := 0) rfl rfl, fun U hU hW => ⟨rfl, by rw [hU]; exact hP, va_K.moved hW.alike hK⟩⟩ rfl rfl hl.1 rfl (lv_room (Nat.le_of_ble_eq_true rfl)) dX10_sign_12 ⟨Nat.le_of_ble_eq_true rfl, Nat.le_of_ble_eq_true rfl⟩) (fun r_2 hr_2 => ?_)
    have rg_r_2 := i_rng r_2
    refine lv_if_ne (tgt := 24) hx hb dX10_sign_15 (by decide) (fun k_3 => ?_) (fun k_3 => ?_)
    · have tk_3 := c_ne (a := r_2.toInt) (b := 0) rfl (by decide) k_3
      refine lv_iload_n hx hb dX10_sign_24 rfl (lv_at hl 2 rfl) ?_
      refine lv_aload_n hx hb dX10_sign_25 rfl (lv_at hl 0 rfl) ?_
      refine va_get (D := (dC, dI)) (ci := 10) (v := .ref (ad 1)) (C := RX10) (T := TX10) (N := 48) hx hb hts fin_X10_signm_X10 hown hK hP 0 rfl rfl 0 (by decide) (hts (.fieldLink RX10 8 "PatternGateModel" "all" "[I") (List.mem_of_getElem? (i := 5) (by decide +kernel))) (fun _ h9 => h9) rfl dX10_sign_26 ?_
      refine lv_sipush (v := 612) hx hb dX10_sign_29 (by decide) ?_
      refine lv_iload_n hx hb dX10_sign_32 rfl (lv_at hl 1 rfl) ?_
      refine lv_iadd hx hb dX10_sign_33 ?_
      refine lv_topi (fun y_4 ey_4 => ?_)
      first | have ty_4 := i_add (a := 612) (b := i1.toInt) (by decide) rfl ey_4 (by omega) (by omega) | skip
      refine va_iald hx hb hK hP 1 0 rfl rfl (i := y_4) (vp_of (a := y_4.toInt) rfl (by omega) (by omega)) dX10_sign_34 ?_
      refine lv_topi (fun y_5 ey_5 => ?_)
      have rg_y_5 := i_rng y_5
      have vy_5 := vI_lda (f := f0) (i := y_4) (a := (612 + i1.toInt)) ey_5 (by first | omega | decide)
      have rg_y_5 := i_rng y_5
      have hps := hd.ps (p := i1.toInt) (by omega) (by omega)
      refine lv_icmp_ge (tgt := 61) hx hb dX10_sign_35 (by decide) (fun k_6 => ?_) (fun k_6 => ?_)
      · have tk_6 := c_ge (a := i2.toInt) (b := y_5.toInt) rfl rfl k_6
        refine lv_aload_n hx hb dX10_sign_61 rfl (lv_at hl 0 rfl) ?_
        refine lv_iconst (v := 5) hx hb dX10_sign_62 (by decide) ?_
        have hFc := m_free hD hS hA
        refine va_calli (va_runV (As := [.int 5]) (rest := []) ⟨hx, hb, hml, hown, hts⟩ (m_refuse l dC dI ad kc x0 x1 x2 x3 x4 x5 x6 x7 x8 x9 x10 x11 x12 x13 x14 x15 x16 x17 x18 x19 x20 x21 f0 f1 f2 f3 f4 f5 f6 f7 f8 f9 f10 f11 f12 f13 f14 f15 f16 f17 f18 f19 f20 f21 fL fN fP fM fO H.size 5 ) (cwV 1 hts mg_X10_signm_X10_refuse_204 rfl rfl rfl (by decide +kernel) ⟨Nat.le_of_ble_eq_true rfl, Nat.le_of_ble_eq_true rfl⟩) ⟨fun a U g mk q => by obtain ⟨q0, q1, qP, qK, qD⟩ := q; exact ⟨q0, q1, qP, va_K.moved (u := U) (U := U.calling g mk a) (Vm.Alike.refl U.vm) qK, qD⟩, va_recv hK hP (ci := 10) (q0 := 0) rfl rfl, fun U hU hW => ⟨rfl, by rw [hU], by rw [hU]; exact hP, va_K.moved hW.alike hK, hD.weaken (fun _ _ _ _ => trivial)⟩⟩ rfl rfl hl.1 rfl (lv_room (Nat.le_of_ble_eq_true rfl)) dX10_sign_63 ⟨Nat.le_of_ble_eq_true rfl, Nat.le_of_ble_eq_true rfl⟩) hS (fun q _ h => hFc q h) hFc (fun r_7 u t H1 locs ht hvm hw hB hz1 hk1 hS => ?_)
        subst hw
        obtain ⟨hr_7_0, hP, hK1, hD1⟩ := hB
        rw [ht] at hP
        have hD := hD1.weaken (fun k q _ h => hFc q.1 h)
        clear hz1 hk1 hFc hD1 hK1 hvm
        generalize H1 = H at hP hS ⊢
        have rg_r_7 := i_rng r_7
        have hP : va_P (dC, dI) vwCl (mW ad kc 5 x1 x2 x3 x4 x5 x6 x7 x8 x9 x10 x11 x12 x13 x14 x15 x16 x17 x18 x19 x20 x21 f0 f1 f2 f3 f4 f5 f6 f7 f8 f9 f10 f11 f12 f13 f14 f15 f16 f17 f18 f19 f20 f21 fL fN fP fM fO) H := hP
        have hD : va_D A (mW ad kc 5 x1 x2 x3 x4 x5 x6 x7 x8 x9 x10 x11 x12 x13 x14 x15 x16 x17 x18 x19 x20 x21 f0 f1 f2 f3 f4 f5 f6 f7 f8 f9 f10 f11 f12 f13 f14 f15 f16 f17 f18 f19 f20 f21 fL fN fP fM fO) := hD
        have lit_7 : (5 : Int32).toInt = 5 := by decide
        exact W.iret hx hb hr (fun t ht hW => ⟨⟨_, _, rfl, rfl, 5, by rw [ht]; exact hP, va_K.moved hW.alike hK, hD⟩, hS.F ht⟩) hS.2.2 dX10_sign_66
      · have tk_6 := c_nge (a := i2.toInt) (b := y_5.toInt) rfl rfl k_6
        refine lv_aload_n hx hb dX10_sign_38 rfl (lv_at hl 0 rfl) ?_
        refine lv_aload_n hx hb dX10_sign_39 rfl (lv_at hl 0 rfl) ?_
        refine va_get (D := (dC, dI)) (ci := 10) (v := .ref (ad 1)) (C := RX10) (T := TX10) (N := 48) hx hb hts fin_X10_signm_X10 hown hK hP 0 rfl rfl 0 (by decide) (hts (.fieldLink RX10 8 "PatternGateModel" "all" "[I") (List.mem_of_getElem? (i := 5) (by decide +kernel))) (fun _ h9 => h9) rfl dX10_sign_40 ?_
        refine lv_sipush (v := 620) hx hb dX10_sign_43 (by decide) ?_
        refine lv_sipush (v := 900) hx hb dX10_sign_46 (by decide) ?_
        refine lv_iload_n hx hb dX10_sign_49 rfl (lv_at hl 1 rfl) ?_
        refine lv_imul hx hb dX10_sign_50 ?_
        refine lv_topi (fun y_9 ey_9 => ?_)
        first | have ty_9 := i_mul (a := 900) (b := i1.toInt) (by decide) rfl ey_9 (by omega) (by omega) | skip
        refine lv_iadd hx hb dX10_sign_51 ?_
        refine lv_topi (fun y_10 ey_10 => ?_)
        first | have ty_10 := i_add (a := 620) (b := y_9.toInt) (by decide) rfl ey_10 (by omega) (by omega) | skip
        refine lv_iload_n hx hb dX10_sign_52 rfl (lv_at hl 2 rfl) ?_
        refine lv_iadd hx hb dX10_sign_53 ?_
        refine lv_topi (fun y_11 ey_11 => ?_)
        first | have ty_11 := i_add (a := y_10.toInt) (b := i2.toInt) rfl rfl ey_11 (by omega) (by omega) | skip
        refine va_iald hx hb hK hP 1 0 rfl rfl (i := y_11) (vp_of (a := y_11.toInt) rfl (by omega) (by omega)) dX10_sign_54 ?_
        refine lv_topi (fun y_12 ey_12 => ?_)
        have rg_y_12 := i_rng y_12
        have vy_12 := vI_lda (f := f0) (i := y_11) (a := ((620 + (900 * i1.toInt)) + i2.toInt)) ey_12 (by first | omega | decide)
        have rg_y_12 := i_rng y_12
        have hFc := m_free hD hS hA
        refine va_calli (va_runV (As := [.int y_12]) (rest := []) ⟨hx, hb, hml, hown, hts⟩ (m_gives l dC dI ad kc x0 x1 x2 x3 x4 x5 x6 x7 x8 x9 x10 x11 x12 x13 x14 x15 x16 x17 x18 x19 x20 x21 f0 f1 f2 f3 f4 f5 f6 f7 f8 f9 f10 f11 f12 f13 f14 f15 f16 f17 f18 f19 f20 f21 fL fN fP fM fO H.size y_12 ) (cwV 1 hts mg_X10_signm_X10_gives_214 rfl rfl rfl (by decide +kernel) ⟨Nat.le_of_ble_eq_true rfl, Nat.le_of_ble_eq_true rfl⟩) ⟨fun a U g mk q => by obtain ⟨q0, q1, qP, qK, qD⟩ := q; exact ⟨q0, q1, qP, va_K.moved (u := U) (U := U.calling g mk a) (Vm.Alike.refl U.vm) qK, qD⟩, va_recv hK hP (ci := 10) (q0 := 0) rfl rfl, fun U hU hW => ⟨rfl, by rw [hU], by rw [hU]; exact hP, va_K.moved hW.alike hK, hD.weaken (fun _ _ _ _ => trivial)⟩⟩ rfl rfl hl.1 rfl (lv_room (Nat.le_of_ble_eq_true rfl)) dX10_sign_55 ⟨Nat.le_of_ble_eq_true rfl, Nat.le_of_ble_eq_true rfl⟩) hS (fun q _ h => hFc q h) hFc (fun r_13 u t H1 locs ht hvm hw hB hz1 hk1 hS => ?_)
        subst hw
        obtain ⟨hr_13_0, hP, hK1, hD1⟩ := hB
        rw [ht] at hP
        have hD := hD1.weaken (fun k q _ h => hFc q.1 h)
        clear hz1 hk1 hFc hD1 hK1 hvm
        generalize H1 = H at hP hS ⊢
        have rg_r_13 := i_rng r_13
        have hP : va_P (dC, dI) vwCl (mW ad kc 0 x1 x2 x3 x4 x5 x6 x7 x8 x9 x10 x11 x12 x13 x14 x15 x16 x17 x18 x19 x20 x21 f0 f1 f2 f3 f4 f5 f6 f7 f8 f9 f10 f11 f12 f13 f14 f15 f16 f17 f18 f19 f20 f21 fL fN fP fM fO) H := hP
        have hD : va_D A (mW ad kc 0 x1 x2 x3 x4 x5 x6 x7 x8 x9 x10 x11 x12 x13 x14 x15 x16 x17 x18 x19 x20 x21 f0 f1 f2 f3 f4 f5 f6 f7 f8 f9 f10 f11 f12 f13 f14 f15 f16 f17 f18 f19 f20 f21 fL fN fP fM fO) := hD
        refine lv_goto (tgt := 66) hx hb dX10_sign_58 (by decide) ?_
        have lit_13 : (0 : Int32).toInt = 0 := by decide
        exact W.iret hx hb hr (fun t ht hW => ⟨⟨_, _, rfl, rfl, 0, by rw [ht]; exact hP, va_K.moved hW.alike hK, hD⟩, hS.F ht⟩) hS.2.2 dX10_sign_66
    · have tk_3 := c_eq (a := r_2.toInt) (b := 0) rfl (by decide) k_3
      refine lv_aload_n hx hb dX10_sign_18 rfl (lv_at hl 0 rfl) ?_
      refine lv_iconst (v := 2) hx hb dX10_sign_19 (by decide) ?_
      have hFc := m_free hD hS hA
      refine va_calli (va_runV (As := [.int 2]) (rest := []) ⟨hx, hb, hml, hown, hts⟩ (m_refuse l dC dI ad kc x0 x1 x2 x3 x4 x5 x6 x7 x8 x9 x10 x11 x12 x13 x14 x15 x16 x17 x18 x19 x20 x21 f0 f1 f2 f3 f4 f5 f6 f7 f8 f9 f10 f11 f12 f13 f14 f15 f16 f17 f18 f19 f20 f21 fL fN fP fM fO H.size 2 ) (cwV 1 hts mg_X10_signm_X10_refuse_204 rfl rfl rfl (by decide +kernel) ⟨Nat.le_of_ble_eq_true rfl, Nat.le_of_ble_eq_true rfl⟩) ⟨fun a U g mk q => by obtain ⟨q0, q1, qP, qK, qD⟩ := q; exact ⟨q0, q1, qP, va_K.moved (u := U) (U := U.calling g mk a) (Vm.Alike.refl U.vm) qK, qD⟩, va_recv hK hP (ci := 10) (q0 := 0) rfl rfl, fun U hU hW => ⟨rfl, by rw [hU], by rw [hU]; exact hP, va_K.moved hW.alike hK, hD.weaken (fun _ _ _ _ => trivial)⟩⟩ rfl rfl hl.1 rfl (lv_room (Nat.le_of_ble_eq_true rfl)) dX10_sign_20 ⟨Nat.le_of_ble_eq_true rfl, Nat.le_of_ble_eq_true rfl⟩) hS (fun q _ h => hFc q h) hFc (fun r_15 u t H1 locs ht hvm hw hB hz1 hk1 hS => ?_)
      subst hw
      obtain ⟨hr_15_0, hP, hK1, hD1⟩ := hB
      rw [ht] at hP
      have hD := hD1.weaken (fun k q _ h => hFc q.1 h)
      clear hz1 hk1 hFc hD1 hK1 hvm
      generalize H1 = H at hP hS ⊢
      have rg_r_15 := i_rng r_15
      have hP : va_P (dC, dI) vwCl (mW ad kc 2 x1 x2 x3 x4 x5 x6 x7 x8 x9 x10 x11 x12 x13 x14 x15 x16 x17 x18 x19 x20 x21 f0 f1 f2 f3 f4 f5 f6 f7 f8 f9 f10 f11 f12 f13 f14 f15 f16 f17 f18 f19 f20 f21 fL fN fP fM fO) H := hP
      have hD : va_D A (mW ad kc 2 x1 x2 x3 x4 x5 x6 x7 x8 x9 x10 x11 x12 x13 x14 x15 x16 x17 x18 x19 x20 x21 f0 f1 f2 f3 f4 f5 f6 f7 f8 f9 f10 f11 f12 f13 f14 f15 f16 f17 f18 f19 f20 f21 fL fN fP fM fO) := hD
      have lit_15 : (2 : Int32).toInt = 2 := by decide
      exact W.iret hx hb hr (fun t ht hW => ⟨⟨_, _, rfl, rfl, 2, by rw [ht]; exact hP, va_K.moved hW.alike hK, hD⟩, hS.F ht⟩) hS.2.2 dX10_sign_23
  · have tk_1 := c_nge (a := i2.toInt) (b := 0) rfl (by decide) k_1
    refine lv_aload_n hx hb dX10_sign_4 rfl (lv_at hl 0 rfl) ?_
    refine lv_iconst (v := 1) hx hb dX10_sign_5 (by decide) ?_
    have hFc := m_free hD hS hA
    refine va_calli (va_runV (As := [.int 1]) (rest := []) ⟨hx, hb, hml, hown, hts⟩ (m_refuse l dC dI ad kc x0 x1 x2 x3 x4 x5 x6 x7 x8 x9 x10 x11 x12 x13 x14 x15 x16 x17 x18 x19 x20 x21 f0 f1 f2 f3 f4 f5 f6 f7 f8 f9 f10 f11 f12 f13 f14 f15 f16 f17 f18 f19 f20 f21 fL fN fP fM fO H.size 1 ) (cwV 1 hts mg_X10_signm_X10_refuse_204 rfl rfl rfl (by decide +kernel) ⟨Nat.le_of_ble_eq_true rfl, Nat.le_of_ble_eq_true rfl⟩) ⟨fun a U g mk q => by obtain ⟨q0, q1, qP, qK, qD⟩ := q; exact ⟨q0, q1, qP, va_K.moved (u := U) (U := U.calling g mk a) (Vm.Alike.refl U.vm) qK, qD⟩, va_recv hK hP (ci := 10) (q0 := 0) rfl rfl, fun U hU hW => ⟨rfl, by rw [hU], by rw [hU]; exact hP, va_K.moved hW.alike hK, hD.weaken (fun _ _ _ _ => trivial)⟩⟩ rfl rfl hl.1 rfl (lv_room (Nat.le_of_ble_eq_true rfl)) dX10_sign_6 ⟨Nat.le_of_ble_eq_true rfl, Nat.le_of_ble_eq_true rfl⟩) hS (fun q _ h => hFc q h) hFc (fun r_17 u t H1 locs ht hvm hw hB hz1 hk1 hS => ?_)
    subst hw
    obtain ⟨hr_17_0, hP, hK1, hD1⟩ := hB
    rw [ht] at hP
    have hD := hD1.weaken (fun k q _ h => hFc q.1 h)
    clear hz1 hk1 hFc hD1 hK1 hvm
    generalize H1 = H at hP hS ⊢
    have rg_r_17 := i_rng r_17
    have hP : va_P (dC, dI) vwCl (mW ad kc 1 x1 x2 x3 x4 x5 x6 x7 x8 x9 x10 x11 x12 x13 x14 x15 x16 x17 x18 x19 x20 x21 f0 f1 f2 f3 f4 f5 f6 f7 f8 f9 f10 f11 f12 f13 f14 f15 f16 f17 f18 f19 f20 f21 fL fN fP fM fO) H := hP
    have hD : va_D A (mW ad kc 1 x1 x2 x3 x4 x5 x6 x7 x8 x9 x10 x11 x12 x13 x14 x15 x16 x17 x18 x19 x20 x21 f0 f1 f2 f3 f4 f5 f6 f7 f8 f9 f10 f11 f12 f13 f14 f15 f16 f17 f18 f19 f20 f21 fL fN fP fM fO) := hD
    have lit_17 : (1 : Int32).toInt = 1 := by decide
    exact W.iret hx hb hr (fun t ht hW => ⟨⟨_, _, rfl, rfl, 1, by rw [ht]; exact hP, va_K.moved hW.alike hK, hD⟩, hS.F ht⟩) hS.2.2 dX10_sign_9
theorem dX10_exact_0 : decode cX10_exact 0 = .ok (.iload_n 2, 1) := by decide +kernel
theorem dX10_exact_1 : decode cX10_exact 1 = .ok (.ifCond .lt 7, 3) := by decide +kernel
theorem dX10_exact_4 : decode cX10_exact 4 = .ok (.iload_n 3, 1) := by decide +kernel
theorem dX10_exact_5 : decode cX10_exact 5 = .ok (.ifCond .ge 9, 3) := by decide +kernel
theorem dX10_exact_8 : decode cX10_exact 8 = .ok (.aload_n 0, 1) := by decide +kernel
theorem dX10_exact_9 : decode cX10_exact 9 = .ok (.iconst 1, 1) := by decide +kernel
theorem dX10_exact_10 : decode cX10_exact 10 = .ok (.invokevirtual 204, 3) := by decide +kernel
theorem dX10_exact_13 : decode cX10_exact 13 = .ok (.ireturn, 1) := by decide +kernel
theorem dX10_exact_14 : decode cX10_exact 14 = .ok (.aload_n 0, 1) := by decide +kernel
theorem dX10_exact_15 : decode cX10_exact 15 = .ok (.iload_n 1, 1) := by decide +kernel
theorem dX10_exact_16 : decode cX10_exact 16 = .ok (.invokevirtual 458, 3) := by decide +kernel
theorem dX10_exact_19 : decode cX10_exact 19 = .ok (.ifCond .ne 9, 3) := by decide +kernel
theorem dX10_exact_22 : decode cX10_exact 22 = .ok (.aload_n 0, 1) := by decide +kernel
theorem dX10_exact_23 : decode cX10_exact 23 = .ok (.iconst 2, 1) := by decide +kernel
theorem dX10_exact_24 : decode cX10_exact 24 = .ok (.invokevirtual 204, 3) := by decide +kernel
theorem dX10_exact_27 : decode cX10_exact 27 = .ok (.ireturn, 1) := by decide +kernel
theorem dX10_exact_28 : decode cX10_exact 28 = .ok (.aload_n 0, 1) := by decide +kernel
theorem dX10_exact_29 : decode cX10_exact 29 = .ok (.iload_n 1, 1) := by decide +kernel
theorem dX10_exact_30 : decode cX10_exact 30 = .ok (.invokevirtual 420, 3) := by decide +kernel
theorem dX10_exact_33 : decode cX10_exact 33 = .ok (.aload_n 0, 1) := by decide +kernel
theorem dX10_exact_34 : decode cX10_exact 34 = .ok (.getfield 362, 3) := by decide +kernel
theorem dX10_exact_37 : decode cX10_exact 37 = .ok (.ifCond .eq 47, 3) := by decide +kernel
theorem dX10_exact_40 : decode cX10_exact 40 = .ok (.iload_n 2, 1) := by decide +kernel
theorem dX10_exact_41 : decode cX10_exact 41 = .ok (.aload_n 0, 1) := by decide +kernel
theorem dX10_exact_42 : decode cX10_exact 42 = .ok (.getfield 51, 3) := by decide +kernel
theorem dX10_exact_45 : decode cX10_exact 45 = .ok (.iconst 0, 1) := by decide +kernel
theorem dX10_exact_46 : decode cX10_exact 46 = .ok (.iaload, 1) := by decide +kernel
theorem dX10_exact_47 : decode cX10_exact 47 = .ok (.if_icmp .ge 37, 3) := by decide +kernel
theorem dX10_exact_50 : decode cX10_exact 50 = .ok (.iload_n 3, 1) := by decide +kernel
theorem dX10_exact_51 : decode cX10_exact 51 = .ok (.aload_n 0, 1) := by decide +kernel
theorem dX10_exact_52 : decode cX10_exact 52 = .ok (.getfield 48, 3) := by decide +kernel
theorem dX10_exact_55 : decode cX10_exact 55 = .ok (.iconst 0, 1) := by decide +kernel
theorem dX10_exact_56 : decode cX10_exact 56 = .ok (.aaload, 1) := by decide +kernel
theorem dX10_exact_57 : decode cX10_exact 57 = .ok (.iload_n 2, 1) := by decide +kernel
theorem dX10_exact_58 : decode cX10_exact 58 = .ok (.laload, 1) := by decide +kernel
theorem dX10_exact_59 : decode cX10_exact 59 = .ok (.invokestatic 256, 3) := by decide +kernel
theorem dX10_exact_62 : decode cX10_exact 62 = .ok (.if_icmp .ge 22, 3) := by decide +kernel
theorem dX10_exact_65 : decode cX10_exact 65 = .ok (.aload_n 0, 1) := by decide +kernel
theorem dX10_exact_66 : decode cX10_exact 66 = .ok (.aload_n 0, 1) := by decide +kernel
theorem dX10_exact_67 : decode cX10_exact 67 = .ok (.getfield 48, 3) := by decide +kernel
theorem dX10_exact_70 : decode cX10_exact 70 = .ok (.iconst 0, 1) := by decide +kernel
theorem dX10_exact_71 : decode cX10_exact 71 = .ok (.aaload, 1) := by decide +kernel
theorem dX10_exact_72 : decode cX10_exact 72 = .ok (.iload_n 2, 1) := by decide +kernel
theorem dX10_exact_73 : decode cX10_exact 73 = .ok (.laload, 1) := by decide +kernel
theorem dX10_exact_74 : decode cX10_exact 74 = .ok (.iload_n 3, 1) := by decide +kernel
theorem dX10_exact_75 : decode cX10_exact 75 = .ok (.invokestatic 260, 3) := by decide +kernel
theorem dX10_exact_78 : decode cX10_exact 78 = .ok (.invokevirtual 214, 3) := by decide +kernel
theorem dX10_exact_81 : decode cX10_exact 81 = .ok (.goto 8, 3) := by decide +kernel
theorem dX10_exact_84 : decode cX10_exact 84 = .ok (.aload_n 0, 1) := by decide +kernel
theorem dX10_exact_85 : decode cX10_exact 85 = .ok (.iconst 5, 1) := by decide +kernel
theorem dX10_exact_86 : decode cX10_exact 86 = .ok (.invokevirtual 204, 3) := by decide +kernel
theorem dX10_exact_89 : decode cX10_exact 89 = .ok (.ireturn, 1) := by decide +kernel
def mwX10_exactm : List Cond := .code yX10_exact cX10_exact 4 (some .int) :: (([.methodLink RX10 204 yX10_refuse, .instanceMethod yX10_refuse, .selects RX10 yX10_refuse yX10_refuse, .initialized RX10, .methodLink RX10 458 yX10_isPattern, .instanceMethod yX10_isPattern, .selects RX10 yX10_isPattern yX10_isPattern, .methodLink RX10 420 yX10_needsOf, .instanceMethod yX10_needsOf, .selects RX10 yX10_needsOf yX10_needsOf, .fieldLink RX10 362 "PatternGateModel" "isExact" "Z", .fieldLink RX10 51 "PatternGateModel" "rowMany" "[I", .fieldLink RX10 48 "PatternGateModel" "rows" "[[J", .methodLink RX10 256 yX10_longOf, .static yX10_longOf, .methodLink RX10 260 yX10_letterIn, .static yX10_letterIn, .methodLink RX10 214 yX10_gives, .instanceMethod yX10_gives, .selects RX10 yX10_gives yX10_gives] : List Cond) ++ (wsX100 ++ (mwX10_refusem ++ (mwX10_isPatternm ++ (mwX10_needsOfm ++ (mwX10_longOfm ++ (mwX10_letterInm ++ (mwX10_givesm))))))))
theorem fin_X10_exactm_X10 : ∀ w ∈ wsX100, w ∈ mwX10_exactm := fun w h => List.mem_cons_of_mem _ (List.mem_append_right _ (List.mem_append_left _ h))
set_option maxRecDepth 100000 in
theorem gd_mwX10_longOfm : mwX10_longOfm.all goodWord = true := by decide +kernel
set_option maxRecDepth 100000 in
theorem gd_mwX10_letterInm : mwX10_letterInm.all goodWord = true := by decide +kernel
set_option maxRecDepth 20000 in
theorem mg_X10_exactm_X10_refuse_204 : GoodIn mwX10_exactm (wsV RX10 204 RX10 yX10_refuse mwX10_refusem) := gi_app (A := [.methodLink RX10 204 yX10_refuse, .instanceMethod yX10_refuse, .selects RX10 yX10_refuse yX10_refuse, .initialized RX10]) (goodIn_r _ [1, 2, 3, 4] (by decide +kernel) (by decide +kernel)) (gi_sub gd_mwX10_refusem (fun w h => List.mem_cons_of_mem _ (List.mem_append_right _ (List.mem_append_right _ (List.mem_append_left _ h)))))
set_option maxRecDepth 20000 in
theorem mg_X10_exactm_X10_isPattern_458 : GoodIn mwX10_exactm (wsV RX10 458 RX10 yX10_isPattern mwX10_isPatternm) := gi_app (A := [.methodLink RX10 458 yX10_isPattern, .instanceMethod yX10_isPattern, .selects RX10 yX10_isPattern yX10_isPattern, .initialized RX10]) (goodIn_r _ [5, 6, 7, 4] (by decide +kernel) (by decide +kernel)) (gi_sub gd_mwX10_isPatternm (fun w h => List.mem_cons_of_mem _ (List.mem_append_right _ (List.mem_append_right _ (List.mem_append_right _ (List.mem_append_left _ h))))))
set_option maxRecDepth 20000 in
theorem mg_X10_exactm_X10_needsOf_420 : GoodIn mwX10_exactm (wsV RX10 420 RX10 yX10_needsOf mwX10_needsOfm) := gi_app (A := [.methodLink RX10 420 yX10_needsOf, .instanceMethod yX10_needsOf, .selects RX10 yX10_needsOf yX10_needsOf, .initialized RX10]) (goodIn_r _ [8, 9, 10, 4] (by decide +kernel) (by decide +kernel)) (gi_sub gd_mwX10_needsOfm (fun w h => List.mem_cons_of_mem _ (List.mem_append_right _ (List.mem_append_right _ (List.mem_append_right _ (List.mem_append_right _ (List.mem_append_left _ h)))))))
set_option maxRecDepth 20000 in
theorem mg_X10_exactm_X10_longOf_256 : GoodIn mwX10_exactm (va_wsS RX10 256 yX10_longOf mwX10_longOfm) := gi_app (A := [.methodLink RX10 256 yX10_longOf, .static yX10_longOf, .initialized RX10]) (goodIn_r _ [14, 15, 4] (by decide +kernel) (by decide +kernel)) (gi_sub gd_mwX10_longOfm (fun w h => List.mem_cons_of_mem _ (List.mem_append_right _ (List.mem_append_right _ (List.mem_append_right _ (List.mem_append_right _ (List.mem_append_right _ (List.mem_append_left _ h))))))))
set_option maxRecDepth 20000 in
theorem mg_X10_exactm_X10_letterIn_260 : GoodIn mwX10_exactm (va_wsS RX10 260 yX10_letterIn mwX10_letterInm) := gi_app (A := [.methodLink RX10 260 yX10_letterIn, .static yX10_letterIn, .initialized RX10]) (goodIn_r _ [16, 17, 4] (by decide +kernel) (by decide +kernel)) (gi_sub gd_mwX10_letterInm (fun w h => List.mem_cons_of_mem _ (List.mem_append_right _ (List.mem_append_right _ (List.mem_append_right _ (List.mem_append_right _ (List.mem_append_right _ (List.mem_append_right _ (List.mem_append_left _ h)))))))))
set_option maxRecDepth 20000 in
theorem mg_X10_exactm_X10_gives_214 : GoodIn mwX10_exactm (wsV RX10 214 RX10 yX10_gives mwX10_givesm) := gi_app (A := [.methodLink RX10 214 yX10_gives, .instanceMethod yX10_gives, .selects RX10 yX10_gives yX10_gives, .initialized RX10]) (goodIn_r _ [18, 19, 20, 4] (by decide +kernel) (by decide +kernel)) (gi_sub gd_mwX10_givesm (fun w h => List.mem_cons_of_mem _ (List.mem_append_right _ (List.mem_append_right _ (List.mem_append_right _ (List.mem_append_right _ (List.mem_append_right _ (List.mem_append_right _ (List.mem_append_right _ (h))))))))))
set_option maxHeartbeats 4000000 in
set_option maxRecDepth 100000 in
theorem m_exact (l : Launch) (dC : Nat → ClassId) (dI : Nat → Nat → Nat) (ad : Nat → Nat) (kc : Nat → ClassId) (x0 x1 x2 x3 x4 x5 x6 x7 x8 x9 x10 x11 x12 x13 x14 x15 x16 x17 x18 x19 x20 x21 : Int32) (f0 f1 f2 f3 f4 f5 f6 f7 f8 f9 f10 f11 f12 f13 f14 f15 f16 f17 f18 f19 f20 f21 : Nat → Int32) (fL : Nat → Nat → Int64) (fN : Nat → Nat → Int32) (fP : Nat → Nat → Nat) (fM : Nat → Nat → Int32) (fO : Nat → Nat → Int32) (sz : Nat) (i1 i2 i3 : Int32) (q0 : mI x1.toInt x2.toInt x3.toInt f0 fP) : Met l yX10_exact mwX10_exactm ({ frames := 42, cells := 0, slots := 0, locals := 2520 }) (va_Pc [.ref (ad 0), .int i1, .int i2, .int i3] (fun U => U.heap.size = sz ∧ va_P (dC, dI) vwCl (mW ad kc x0 x1 x2 x3 x4 x5 x6 x7 x8 x9 x10 x11 x12 x13 x14 x15 x16 x17 x18 x19 x20 x21 f0 f1 f2 f3 f4 f5 f6 f7 f8 f9 f10 f11 f12 f13 f14 f15 f16 f17 f18 f19 f20 f21 fL fN fP fM fO) U.heap ∧ va_K (dC, dI) vwCl (mT kc) U ∧ va_D (fun _ => True) (mW ad kc x0 x1 x2 x3 x4 x5 x6 x7 x8 x9 x10 x11 x12 x13 x14 x15 x16 x17 x18 x19 x20 x21 f0 f1 f2 f3 f4 f5 f6 f7 f8 f9 f10 f11 f12 f13 f14 f15 f16 f17 f18 f19 f20 f21 fL fN fP fM fO) ∧ (Cond.arrayOver (.array .int)).before #[] U = true)) (va_Qi (fun (o9 u9 : Int32) => o9 = u9) (fun (o9 : Int32) t => ∃ (y0 y12 y13 y14 y15 y16 y17 y18 y19 : Int32) (g3 g4 g5 g6 g7 g8 g9 g10 g11 : Nat → Int32) (L9 : Nat → Nat → Int64) (Nn9 : Nat → Nat → Int32) (P9 : Nat → Nat → Nat) (M9 : Nat → Nat → Int32) (O9 : Nat → Nat → Int32), (PI P9) ∧ va_P (dC, dI) vwCl (mW ad kc y0 x1 x2 x3 x4 x5 x6 x7 x8 x9 x10 x11 y12 y13 y14 y15 y16 y17 y18 y19 x20 x21 f0 f1 f2 g3 g4 g5 g6 g7 g8 g9 g10 g11 f12 f13 f14 f15 f16 f17 f18 f19 f20 f21 L9 Nn9 P9 M9 O9) t.heap ∧ va_K (dC, dI) vwCl (mT kc) t ∧ va_D (va_A (mW ad kc x0 x1 x2 x3 x4 x5 x6 x7 x8 x9 x10 x11 x12 x13 x14 x15 x16 x17 x18 x19 x20 x21 f0 f1 f2 f3 f4 f5 f6 f7 f8 f9 f10 f11 f12 f13 f14 f15 f16 f17 f18 f19 f20 f21 fL fN fP fM fO) sz) (mW ad kc y0 x1 x2 x3 x4 x5 x6 x7 x8 x9 x10 x11 y12 y13 y14 y15 y16 y17 y18 y19 x20 x21 f0 f1 f2 g3 g4 g5 g6 g7 g8 g9 g10 g11 f12 f13 f14 f15 f16 f17 f18 f19 f20 f21 L9 Nn9 P9 M9 O9)) (va_A (mW ad kc x0 x1 x2 x3 x4 x5 x6 x7 x8 x9 x10 x11 x12 x13 x14 x15 x16 x17 x18 x19 x20 x21 f0 f1 f2 f3 f4 f5 f6 f7 f8 f9 f10 f11 f12 f13 f14 f15 f16 f17 f18 f19 f20 f21 fL fN fP fM fO) sz)) 0 0 (va_A (mW ad kc x0 x1 x2 x3 x4 x5 x6 x7 x8 x9 x10 x11 x12 x13 x14 x15 x16 x17 x18 x19 x20 x21 f0 f1 f2 f3 f4 f5 f6 f7 f8 f9 f10 f11 f12 f13 f14 f15 f16 f17 f18 f19 f20 f21 fL fN fP fM fO) sz) := by
  refine Met.ofW (cc := cX10_exact) (maxL := 4) (ret := (some .int)) (by decide +kernel) rfl ?_
  intro p e s m args below meth c s₁ B hml hv
  obtain ⟨rfl, hsz, hP, hK, hD0, hOV⟩ := hv
  have hx := B.exec
  have hb := B.bytes
  have hr := B.returns
  have hts := atoms_spec (ws := mwX10_exactm) B.pre
  have hown : s.vm.findClass RX10 = some m.cls := findClass_of_methodNamed B.named
  have hlocks := B.notSynchronized
  subst hsz
  have hD := hD0.self (sz := s.heap.size)
  generalize hAe : va_A (mW ad kc x0 x1 x2 x3 x4 x5 x6 x7 x8 x9 x10 x11 x12 x13 x14 x15 x16 x17 x18 x19 x20 x21 f0 f1 f2 f3 f4 f5 f6 f7 f8 f9 f10 f11 f12 f13 f14 f15 f16 f17 f18 f19 f20 f21 fL fN fP fM fO) s.heap.size = A at hD ⊢
  have hA : ∀ q : Nat, s.heap.size ≤ q → A q := fun q h => by rw [← hAe]; exact Or.inr h
  have hP : va_P (dC, dI) vwCl (mW ad kc x0 x1 x2 x3 x4 x5 x6 x7 x8 x9 x10 x11 x12 x13 x14 x15 x16 x17 x18 x19 x20 x21 f0 f1 f2 f3 f4 f5 f6 f7 f8 f9 f10 f11 f12 f13 f14 f15 f16 f17 f18 f19 f20 f21 fL fN fP fM fO) s.heap := hP
  have hD : va_D A (mW ad kc x0 x1 x2 x3 x4 x5 x6 x7 x8 x9 x10 x11 x12 x13 x14 x15 x16 x17 x18 x19 x20 x21 f0 f1 f2 f3 f4 f5 f6 f7 f8 f9 f10 f11 f12 f13 f14 f15 f16 f17 f18 f19 f20 f21 fL fN fP fM fO) := hD
  have hK : va_K (dC, dI) vwCl (mT kc) s := hK
  generalize hH : s.heap = H at hP ⊢
  have hS : va_S A s.heap H [] := by rw [← hH]; exact va_S.rf
  have hl := lv_entry ([.ref (ad 0), .int i1, .int i2, .int i3]) (n := 4) (Nat.le_of_ble_eq_true rfl)
  rw [lg_entry_eq]
  generalize (lg_sl ([.ref (ad 0), .int i1, .int i2, .int i3]) ++ List.replicate (4 - (lg_sl ([.ref (ad 0), .int i1, .int i2, .int i3])).length) Slot.unset).toArray = ls at hl ⊢
  have hl : lv_has ls 4 [(0, .ref (ad 0)), (1, .int i1), (2, .int i2), (3, .int i3)] := hl
  have rg_i1 := i_rng i1
  have rg_i2 := i_rng i2
  have rg_i3 := i_rng i3
  have hd := q0.d
  have hpi := q0.p
  have hq1 := q0.1
  have hq2 := q0.2.1
  have hq3 := q0.2.2.1
  have hd10 := hd.n0
  have hp8 := hd.P0
  refine lv_iload_n hx hb dX10_exact_0 rfl (lv_at hl 2 rfl) ?_
  refine lv_if_lt (tgt := 8) hx hb dX10_exact_1 (by decide) (fun k_1 => ?_) (fun k_1 => ?_)
  · have tk_1 := c_lt (a := i2.toInt) (b := 0) rfl (by decide) k_1
    refine lv_aload_n hx hb dX10_exact_8 rfl (lv_at hl 0 rfl) ?_
    refine lv_iconst (v := 1) hx hb dX10_exact_9 (by decide) ?_
    have hFc := m_free hD hS hA
    refine va_calli (va_runV (As := [.int 1]) (rest := []) ⟨hx, hb, hml, hown, hts⟩ (m_refuse l dC dI ad kc x0 x1 x2 x3 x4 x5 x6 x7 x8 x9 x10 x11 x12 x13 x14 x15 x16 x17 x18 x19 x20 x21 f0 f1 f2 f3 f4 f5 f6 f7 f8 f9 f10 f11 f12 f13 f14 f15 f16 f17 f18 f19 f20 f21 fL fN fP fM fO H.size 1 ) (cwV 1 hts mg_X10_exactm_X10_refuse_204 rfl rfl rfl (by decide +kernel) ⟨Nat.le_of_ble_eq_true rfl, Nat.le_of_ble_eq_true rfl⟩) ⟨fun a U g mk q => by obtain ⟨q0, q1, qP, qK, qD⟩ := q; exact ⟨q0, q1, qP, va_K.moved (u := U) (U := U.calling g mk a) (Vm.Alike.refl U.vm) qK, qD⟩, va_recv hK hP (ci := 10) (q0 := 0) rfl rfl, fun U hU hW => ⟨rfl, by rw [hU], by rw [hU]; exact hP, va_K.moved hW.alike hK, hD.weaken (fun _ _ _ _ => trivial)⟩⟩ rfl rfl hl.1 rfl (lv_room (Nat.le_of_ble_eq_true rfl)) dX10_exact_10 ⟨Nat.le_of_ble_eq_true rfl, Nat.le_of_ble_eq_true rfl⟩) hS (fun q _ h => hFc q h) hFc (fun r_2 u t H1 locs ht hvm hw hB hz1 hk1 hS => ?_)
    subst hw
    obtain ⟨hr_2_0, hP, hK1, hD1⟩ := hB
    rw [ht] at hP
    have hD := hD1.weaken (fun k q _ h => hFc q.1 h)
    clear hz1 hk1 hFc hD1 hK1 hvm
    generalize H1 = H at hP hS ⊢
    have rg_r_2 := i_rng r_2
    have hP : va_P (dC, dI) vwCl (mW ad kc 1 x1 x2 x3 x4 x5 x6 x7 x8 x9 x10 x11 x12 x13 x14 x15 x16 x17 x18 x19 x20 x21 f0 f1 f2 f3 f4 f5 f6 f7 f8 f9 f10 f11 f12 f13 f14 f15 f16 f17 f18 f19 f20 f21 fL fN fP fM fO) H := hP
    have hD : va_D A (mW ad kc 1 x1 x2 x3 x4 x5 x6 x7 x8 x9 x10 x11 x12 x13 x14 x15 x16 x17 x18 x19 x20 x21 f0 f1 f2 f3 f4 f5 f6 f7 f8 f9 f10 f11 f12 f13 f14 f15 f16 f17 f18 f19 f20 f21 fL fN fP fM fO) := hD
    have lit_2 : (1 : Int32).toInt = 1 := by decide
    exact W.iret hx hb hr (fun t ht hW => ⟨⟨_, _, rfl, rfl, 1, x12, x13, x14, x15, x16, x17, x18, x19, f3, f4, f5, f6, f7, f8, f9, f10, f11, fL, fN, fP, fM, fO, hpi, by rw [ht]; exact hP, va_K.moved hW.alike hK, hD⟩, hS.F ht⟩) hS.2.2 dX10_exact_13
  · have tk_1 := c_nlt (a := i2.toInt) (b := 0) rfl (by decide) k_1
    refine lv_iload_n hx hb dX10_exact_4 rfl (lv_at hl 3 rfl) ?_
    refine lv_if_ge (tgt := 14) hx hb dX10_exact_5 (by decide) (fun k_4 => ?_) (fun k_4 => ?_)
    · have tk_4 := c_ge (a := i3.toInt) (b := 0) rfl (by decide) k_4
      refine lv_aload_n hx hb dX10_exact_14 rfl (lv_at hl 0 rfl) ?_
      refine lv_iload_n hx hb dX10_exact_15 rfl (lv_at hl 1 rfl) ?_
      refine vp_callSi (W.runV (As := [.int i1]) (rest := []) ⟨hx, hb, hml, hown, hts⟩ (m_isPattern l dC dI ad kc x0 x1 x2 x3 x4 x5 x6 x7 x8 x9 x10 x11 x12 x13 x14 x15 x16 x17 x18 x19 x20 x21 f0 f1 f2 f3 f4 f5 f6 f7 f8 f9 f10 f11 f12 f13 f14 f15 f16 f17 f18 f19 f20 f21 fL fN fP fM fO i1 ) (cwV 1 hts mg_X10_exactm_X10_isPattern_458 rfl rfl rfl (by decide +kernel) ⟨Nat.le_of_ble_eq_true rfl, Nat.le_of_ble_eq_true rfl⟩) ⟨fun a U g mk q => by obtain ⟨q0, qP, qK⟩ := q; exact ⟨q0, qP, va_K.moved (u := U) (U := U.calling g mk a) (Vm.Alike.refl U.vm) qK⟩, va_recv hK hP (ci := 10) (q0 := 0) rfl rfl, fun U hU hW => ⟨rfl, by rw [hU]; exact hP, va_K.moved hW.alike hK⟩⟩ rfl rfl hl.1 rfl (lv_room (Nat.le_of_ble_eq_true rfl)) dX10_exact_16 ⟨Nat.le_of_ble_eq_true rfl, Nat.le_of_ble_eq_true rfl⟩) (fun r_5 hr_5 => ?_)
      have rg_r_5 := i_rng r_5
      refine lv_if_ne (tgt := 28) hx hb dX10_exact_19 (by decide) (fun k_6 => ?_) (fun k_6 => ?_)
      · have tk_6 := c_ne (a := r_5.toInt) (b := 0) rfl (by decide) k_6
        refine lv_aload_n hx hb dX10_exact_28 rfl (lv_at hl 0 rfl) ?_
        refine lv_iload_n hx hb dX10_exact_29 rfl (lv_at hl 1 rfl) ?_
        have hFc := m_free hD hS hA
        refine va_callv (va_runV (As := [.int i1]) (rest := []) ⟨hx, hb, hml, hown, hts⟩ (m_needsOf l dC dI ad kc x0 x1 x2 x3 x4 x5 x6 x7 x8 x9 x10 x11 x12 x13 x14 x15 x16 x17 x18 x19 x20 x21 f0 f1 f2 f3 f4 f5 f6 f7 f8 f9 f10 f11 f12 f13 f14 f15 f16 f17 f18 f19 f20 f21 fL fN fP fM fO H.size i1 (by first | omega | assumption | decide | (have l0 := Int32.toInt_zero; omega)) (by first | omega | assumption | decide | (have l0 := Int32.toInt_zero; omega)) (by first | omega | assumption | decide | (have l0 := Int32.toInt_zero; omega))) (cwV 1 hts mg_X10_exactm_X10_needsOf_420 rfl rfl rfl (by decide +kernel) ⟨Nat.le_of_ble_eq_true rfl, Nat.le_of_ble_eq_true rfl⟩) ⟨fun a U g mk q => by obtain ⟨q0, q1, qP, qK, qD, qE⟩ := q; exact ⟨q0, q1, qP, va_K.moved (u := U) (U := U.calling g mk a) (Vm.Alike.refl U.vm) qK, qD, over_moved (u := U) (E := U.calling g mk a) (Vm.Alike.refl U.vm) qE⟩, va_recv hK hP (ci := 10) (q0 := 0) rfl rfl, fun U hU hW => ⟨rfl, by rw [hU], by rw [hU]; exact hP, va_K.moved hW.alike hK, hD.weaken (fun _ _ _ _ => trivial), over_moved hW.alike hOV⟩⟩ rfl rfl hl.1 rfl (lv_room (Nat.le_of_ble_eq_true rfl)) dX10_exact_30 ⟨Nat.le_of_ble_eq_true rfl, Nat.le_of_ble_eq_true rfl⟩) hS (fun q _ h => hFc q h) hFc (fun u t H1 locs ht hvm hw hB hz1 hk1 hS => ?_)
        obtain ⟨x_8, x_9, x_10, x_11, x_12, x_13, x_14, x_15, f_16, f_17, f_18, f_19, f_20, f_21, f_22, f_23, f_24, L_25, Nn_26, P_27, M_28, O_29, hr_7_0, hr_7_1, hr_7_2, hr_7_3, hr_7_4, hP, hK1, hD1⟩ := hB
        rw [ht] at hP
        have hD := hD1.weaken (fun k q _ h => hFc q.1 h)
        clear hz1 hk1 hFc hD1 hK1 hvm
        generalize H1 = H at hP hS ⊢
        have rg_x_8 := i_rng x_8
        have rg_x_9 := i_rng x_9
        have rg_x_10 := i_rng x_10
        have rg_x_11 := i_rng x_11
        have rg_x_12 := i_rng x_12
        have rg_x_13 := i_rng x_13
        have rg_x_14 := i_rng x_14
        have rg_x_15 := i_rng x_15
        have hP : va_P (dC, dI) vwCl (mW ad kc x0 x1 x2 x3 x4 x5 x6 x7 x8 x9 x10 x11 x_8 x_9 x_10 x_11 x_12 x_13 x_14 x_15 x20 x21 f0 f1 f2 f_16 f_17 f_18 f_19 f_20 f_21 f_22 f_23 f_24 f12 f13 f14 f15 f16 f17 f18 f19 f20 f21 L_25 Nn_26 P_27 M_28 O_29) H := hP
        have hD : va_D A (mW ad kc x0 x1 x2 x3 x4 x5 x6 x7 x8 x9 x10 x11 x_8 x_9 x_10 x_11 x_12 x_13 x_14 x_15 x20 x21 f0 f1 f2 f_16 f_17 f_18 f_19 f_20 f_21 f_22 f_23 f_24 f12 f13 f14 f15 f16 f17 f18 f19 f20 f21 L_25 Nn_26 P_27 M_28 O_29) := hD
        have hPI9 := hr_7_0
        have hN9 := hr_7_1
        have hN9a := hN9.2.1
        have hN9b := hN9.1
        have hEx9 := hr_7_2
        refine lv_aload_n hx hb dX10_exact_33 rfl (lv_at hl 0 rfl) ?_
        refine va_get (D := (dC, dI)) (ci := 10) (v := .int x_15) (C := RX10) (T := TX10) (N := 48) hx hb hts fin_X10_exactm_X10 hown hK hP 0 rfl rfl 34 (by decide) (hts (.fieldLink RX10 362 "PatternGateModel" "isExact" "Z") (List.mem_of_getElem? (i := 11) (by decide +kernel))) (fun _ h9 => h9) rfl dX10_exact_34 ?_
        refine lv_if_eq (tgt := 84) hx hb dX10_exact_37 (by decide) (fun k_30 => ?_) (fun k_30 => ?_)
        · have tk_30 := c_eq (a := x_15.toInt) (b := 0) rfl (by decide) k_30
          refine lv_aload_n hx hb dX10_exact_84 rfl (lv_at hl 0 rfl) ?_
          refine lv_iconst (v := 5) hx hb dX10_exact_85 (by decide) ?_
          have hFc := m_free hD hS hA
          refine va_calli (va_runV (As := [.int 5]) (rest := []) ⟨hx, hb, hml, hown, hts⟩ (m_refuse l dC dI ad kc x0 x1 x2 x3 x4 x5 x6 x7 x8 x9 x10 x11 x_8 x_9 x_10 x_11 x_12 x_13 x_14 x_15 x20 x21 f0 f1 f2 f_16 f_17 f_18 f_19 f_20 f_21 f_22 f_23 f_24 f12 f13 f14 f15 f16 f17 f18 f19 f20 f21 L_25 Nn_26 P_27 M_28 O_29 H.size 5 ) (cwV 1 hts mg_X10_exactm_X10_refuse_204 rfl rfl rfl (by decide +kernel) ⟨Nat.le_of_ble_eq_true rfl, Nat.le_of_ble_eq_true rfl⟩) ⟨fun a U g mk q => by obtain ⟨q0, q1, qP, qK, qD⟩ := q; exact ⟨q0, q1, qP, va_K.moved (u := U) (U := U.calling g mk a) (Vm.Alike.refl U.vm) qK, qD⟩, va_recv hK hP (ci := 10) (q0 := 0) rfl rfl, fun U hU hW => ⟨rfl, by rw [hU], by rw [hU]; exact hP, va_K.moved hW.alike hK, hD.weaken (fun _ _ _ _ => trivial)⟩⟩ rfl rfl hl.1 rfl (lv_room (Nat.le_of_ble_eq_true rfl)) dX10_exact_86 ⟨Nat.le_of_ble_eq_true rfl, Nat.le_of_ble_eq_true rfl⟩) hS (fun q _ h => hFc q h) hFc (fun r_31 u t H1 locs ht hvm hw hB hz1 hk1 hS => ?_)
          subst hw
          obtain ⟨hr_31_0, hP, hK1, hD1⟩ := hB
          rw [ht] at hP
          have hD := hD1.weaken (fun k q _ h => hFc q.1 h)
          clear hz1 hk1 hFc hD1 hK1 hvm
          generalize H1 = H at hP hS ⊢
          have rg_r_31 := i_rng r_31
          have hP : va_P (dC, dI) vwCl (mW ad kc 5 x1 x2 x3 x4 x5 x6 x7 x8 x9 x10 x11 x_8 x_9 x_10 x_11 x_12 x_13 x_14 x_15 x20 x21 f0 f1 f2 f_16 f_17 f_18 f_19 f_20 f_21 f_22 f_23 f_24 f12 f13 f14 f15 f16 f17 f18 f19 f20 f21 L_25 Nn_26 P_27 M_28 O_29) H := hP
          have hD : va_D A (mW ad kc 5 x1 x2 x3 x4 x5 x6 x7 x8 x9 x10 x11 x_8 x_9 x_10 x_11 x_12 x_13 x_14 x_15 x20 x21 f0 f1 f2 f_16 f_17 f_18 f_19 f_20 f_21 f_22 f_23 f_24 f12 f13 f14 f15 f16 f17 f18 f19 f20 f21 L_25 Nn_26 P_27 M_28 O_29) := hD
          have lit_31 : (5 : Int32).toInt = 5 := by decide
          exact W.iret hx hb hr (fun t ht hW => ⟨⟨_, _, rfl, rfl, 5, x_8, x_9, x_10, x_11, x_12, x_13, x_14, x_15, f_16, f_17, f_18, f_19, f_20, f_21, f_22, f_23, f_24, L_25, Nn_26, P_27, M_28, O_29, hPI9, by rw [ht]; exact hP, va_K.moved hW.alike hK, hD⟩, hS.F ht⟩) hS.2.2 dX10_exact_89
        · have tk_30 := c_ne (a := x_15.toInt) (b := 0) rfl (by decide) k_30
          have hS9 := hr_7_3 (by omega)
          have hS9a := hS9.2.1
          refine lv_iload_n hx hb dX10_exact_40 rfl (lv_at hl 2 rfl) ?_
          refine lv_aload_n hx hb dX10_exact_41 rfl (lv_at hl 0 rfl) ?_
          refine va_get (D := (dC, dI)) (ci := 10) (v := .ref (ad 10)) (C := RX10) (T := TX10) (N := 48) hx hb hts fin_X10_exactm_X10 hown hK hP 0 rfl rfl 26 (by decide) (hts (.fieldLink RX10 51 "PatternGateModel" "rowMany" "[I") (List.mem_of_getElem? (i := 12) (by decide +kernel))) (fun _ h9 => h9) rfl dX10_exact_42 ?_
          refine lv_iconst (v := 0) hx hb dX10_exact_45 (by decide) ?_
          refine va_iald hx hb hK hP 10 9 rfl rfl (i := 0) (by unfold vp_in; decide +kernel) dX10_exact_46 ?_
          refine lv_topi (fun y_33 ey_33 => ?_)
          have rg_y_33 := i_rng y_33
          have vy_33 := vI_lda (f := f_22) (i := 0) (a := 0) ey_33 (by first | omega | decide)
          have rg_y_33 := i_rng y_33
          refine lv_icmp_ge (tgt := 84) hx hb dX10_exact_47 (by decide) (fun k_34 => ?_) (fun k_34 => ?_)
          · have tk_34 := c_ge (a := i2.toInt) (b := y_33.toInt) rfl rfl k_34
            refine lv_aload_n hx hb dX10_exact_84 rfl (lv_at hl 0 rfl) ?_
            refine lv_iconst (v := 5) hx hb dX10_exact_85 (by decide) ?_
            have hFc := m_free hD hS hA
            refine va_calli (va_runV (As := [.int 5]) (rest := []) ⟨hx, hb, hml, hown, hts⟩ (m_refuse l dC dI ad kc x0 x1 x2 x3 x4 x5 x6 x7 x8 x9 x10 x11 x_8 x_9 x_10 x_11 x_12 x_13 x_14 x_15 x20 x21 f0 f1 f2 f_16 f_17 f_18 f_19 f_20 f_21 f_22 f_23 f_24 f12 f13 f14 f15 f16 f17 f18 f19 f20 f21 L_25 Nn_26 P_27 M_28 O_29 H.size 5 ) (cwV 1 hts mg_X10_exactm_X10_refuse_204 rfl rfl rfl (by decide +kernel) ⟨Nat.le_of_ble_eq_true rfl, Nat.le_of_ble_eq_true rfl⟩) ⟨fun a U g mk q => by obtain ⟨q0, q1, qP, qK, qD⟩ := q; exact ⟨q0, q1, qP, va_K.moved (u := U) (U := U.calling g mk a) (Vm.Alike.refl U.vm) qK, qD⟩, va_recv hK hP (ci := 10) (q0 := 0) rfl rfl, fun U hU hW => ⟨rfl, by rw [hU], by rw [hU]; exact hP, va_K.moved hW.alike hK, hD.weaken (fun _ _ _ _ => trivial)⟩⟩ rfl rfl hl.1 rfl (lv_room (Nat.le_of_ble_eq_true rfl)) dX10_exact_86 ⟨Nat.le_of_ble_eq_true rfl, Nat.le_of_ble_eq_true rfl⟩) hS (fun q _ h => hFc q h) hFc (fun r_35 u t H1 locs ht hvm hw hB hz1 hk1 hS => ?_)
            subst hw
            obtain ⟨hr_35_0, hP, hK1, hD1⟩ := hB
            rw [ht] at hP
            have hD := hD1.weaken (fun k q _ h => hFc q.1 h)
            clear hz1 hk1 hFc hD1 hK1 hvm
            generalize H1 = H at hP hS ⊢
            have rg_r_35 := i_rng r_35
            have hP : va_P (dC, dI) vwCl (mW ad kc 5 x1 x2 x3 x4 x5 x6 x7 x8 x9 x10 x11 x_8 x_9 x_10 x_11 x_12 x_13 x_14 x_15 x20 x21 f0 f1 f2 f_16 f_17 f_18 f_19 f_20 f_21 f_22 f_23 f_24 f12 f13 f14 f15 f16 f17 f18 f19 f20 f21 L_25 Nn_26 P_27 M_28 O_29) H := hP
            have hD : va_D A (mW ad kc 5 x1 x2 x3 x4 x5 x6 x7 x8 x9 x10 x11 x_8 x_9 x_10 x_11 x_12 x_13 x_14 x_15 x20 x21 f0 f1 f2 f_16 f_17 f_18 f_19 f_20 f_21 f_22 f_23 f_24 f12 f13 f14 f15 f16 f17 f18 f19 f20 f21 L_25 Nn_26 P_27 M_28 O_29) := hD
            have lit_35 : (5 : Int32).toInt = 5 := by decide
            exact W.iret hx hb hr (fun t ht hW => ⟨⟨_, _, rfl, rfl, 5, x_8, x_9, x_10, x_11, x_12, x_13, x_14, x_15, f_16, f_17, f_18, f_19, f_20, f_21, f_22, f_23, f_24, L_25, Nn_26, P_27, M_28, O_29, hPI9, by rw [ht]; exact hP, va_K.moved hW.alike hK, hD⟩, hS.F ht⟩) hS.2.2 dX10_exact_89
          · have tk_34 := c_nge (a := i2.toInt) (b := y_33.toInt) rfl rfl k_34
            refine lv_iload_n hx hb dX10_exact_50 rfl (lv_at hl 3 rfl) ?_
            refine lv_aload_n hx hb dX10_exact_51 rfl (lv_at hl 0 rfl) ?_
            refine va_get (D := (dC, dI)) (ci := 10) (v := .ref (ad 23)) (C := RX10) (T := TX10) (N := 48) hx hb hts fin_X10_exactm_X10 hown hK hP 0 rfl rfl 25 (by decide) (hts (.fieldLink RX10 48 "PatternGateModel" "rows" "[[J") (List.mem_of_getElem? (i := 13) (by decide +kernel))) (fun _ h9 => h9) rfl dX10_exact_52 ?_
            refine lv_iconst (v := 0) hx hb dX10_exact_55 (by decide) ?_
            refine m_aak hx hb hK hP 23 22 (k := 0) (b := ad (100 + 0)) rfl rfl rfl (i := 0) (by decide) (by omega) rfl dX10_exact_56 ?_
            refine lv_iload_n hx hb dX10_exact_57 rfl (lv_at hl 2 rfl) ?_
            refine va_lald hx hb hK hP (27 + 0) 26 (mW_L (by omega)) rfl (i := i2) (vp_of (a := i2.toInt) rfl (by omega) (by omega)) dX10_exact_58 ?_
            refine lv_topl (fun w_37 ew_37 => ?_)
            refine vp_callSi (W.runS (As := [.long w_37]) (rest := [.int i3]) ⟨hx, hb, hml, hown, hts⟩ (m_longOf l dC dI  w_37 ) (va_cwS 1 hts mg_X10_exactm_X10_longOf_256 rfl rfl rfl (by decide +kernel) ⟨Nat.le_of_ble_eq_true rfl, Nat.le_of_ble_eq_true rfl⟩) ⟨fun a U g mk q => ⟨q.1, trivial⟩, fun U hU hW => ⟨rfl, trivial⟩⟩ rfl rfl hl.1 rfl (lv_room (Nat.le_of_ble_eq_true rfl)) dX10_exact_59 ⟨Nat.le_of_ble_eq_true rfl, Nat.le_of_ble_eq_true rfl⟩) (fun r_38 hr_38 => ?_)
            have rg_r_38 := i_rng r_38
            refine lv_icmp_ge (tgt := 84) hx hb dX10_exact_62 (by decide) (fun k_39 => ?_) (fun k_39 => ?_)
            · have tk_39 := c_ge (a := i3.toInt) (b := r_38.toInt) rfl rfl k_39
              refine lv_aload_n hx hb dX10_exact_84 rfl (lv_at hl 0 rfl) ?_
              refine lv_iconst (v := 5) hx hb dX10_exact_85 (by decide) ?_
              have hFc := m_free hD hS hA
              refine va_calli (va_runV (As := [.int 5]) (rest := []) ⟨hx, hb, hml, hown, hts⟩ (m_refuse l dC dI ad kc x0 x1 x2 x3 x4 x5 x6 x7 x8 x9 x10 x11 x_8 x_9 x_10 x_11 x_12 x_13 x_14 x_15 x20 x21 f0 f1 f2 f_16 f_17 f_18 f_19 f_20 f_21 f_22 f_23 f_24 f12 f13 f14 f15 f16 f17 f18 f19 f20 f21 L_25 Nn_26 P_27 M_28 O_29 H.size 5 ) (cwV 1 hts mg_X10_exactm_X10_refuse_204 rfl rfl rfl (by decide +kernel) ⟨Nat.le_of_ble_eq_true rfl, Nat.le_of_ble_eq_true rfl⟩) ⟨fun a U g mk q => by obtain ⟨q0, q1, qP, qK, qD⟩ := q; exact ⟨q0, q1, qP, va_K.moved (u := U) (U := U.calling g mk a) (Vm.Alike.refl U.vm) qK, qD⟩, va_recv hK hP (ci := 10) (q0 := 0) rfl rfl, fun U hU hW => ⟨rfl, by rw [hU], by rw [hU]; exact hP, va_K.moved hW.alike hK, hD.weaken (fun _ _ _ _ => trivial)⟩⟩ rfl rfl hl.1 rfl (lv_room (Nat.le_of_ble_eq_true rfl)) dX10_exact_86 ⟨Nat.le_of_ble_eq_true rfl, Nat.le_of_ble_eq_true rfl⟩) hS (fun q _ h => hFc q h) hFc (fun r_40 u t H1 locs ht hvm hw hB hz1 hk1 hS => ?_)
              subst hw
              obtain ⟨hr_40_0, hP, hK1, hD1⟩ := hB
              rw [ht] at hP
              have hD := hD1.weaken (fun k q _ h => hFc q.1 h)
              clear hz1 hk1 hFc hD1 hK1 hvm
              generalize H1 = H at hP hS ⊢
              have rg_r_40 := i_rng r_40
              have hP : va_P (dC, dI) vwCl (mW ad kc 5 x1 x2 x3 x4 x5 x6 x7 x8 x9 x10 x11 x_8 x_9 x_10 x_11 x_12 x_13 x_14 x_15 x20 x21 f0 f1 f2 f_16 f_17 f_18 f_19 f_20 f_21 f_22 f_23 f_24 f12 f13 f14 f15 f16 f17 f18 f19 f20 f21 L_25 Nn_26 P_27 M_28 O_29) H := hP
              have hD : va_D A (mW ad kc 5 x1 x2 x3 x4 x5 x6 x7 x8 x9 x10 x11 x_8 x_9 x_10 x_11 x_12 x_13 x_14 x_15 x20 x21 f0 f1 f2 f_16 f_17 f_18 f_19 f_20 f_21 f_22 f_23 f_24 f12 f13 f14 f15 f16 f17 f18 f19 f20 f21 L_25 Nn_26 P_27 M_28 O_29) := hD
              have lit_40 : (5 : Int32).toInt = 5 := by decide
              exact W.iret hx hb hr (fun t ht hW => ⟨⟨_, _, rfl, rfl, 5, x_8, x_9, x_10, x_11, x_12, x_13, x_14, x_15, f_16, f_17, f_18, f_19, f_20, f_21, f_22, f_23, f_24, L_25, Nn_26, P_27, M_28, O_29, hPI9, by rw [ht]; exact hP, va_K.moved hW.alike hK, hD⟩, hS.F ht⟩) hS.2.2 dX10_exact_89
            · have tk_39 := c_nge (a := i3.toInt) (b := r_38.toInt) rfl rfl k_39
              refine lv_aload_n hx hb dX10_exact_65 rfl (lv_at hl 0 rfl) ?_
              refine lv_aload_n hx hb dX10_exact_66 rfl (lv_at hl 0 rfl) ?_
              refine va_get (D := (dC, dI)) (ci := 10) (v := .ref (ad 23)) (C := RX10) (T := TX10) (N := 48) hx hb hts fin_X10_exactm_X10 hown hK hP 0 rfl rfl 25 (by decide) (hts (.fieldLink RX10 48 "PatternGateModel" "rows" "[[J") (List.mem_of_getElem? (i := 13) (by decide +kernel))) (fun _ h9 => h9) rfl dX10_exact_67 ?_
              refine lv_iconst (v := 0) hx hb dX10_exact_70 (by decide) ?_
              refine m_aak hx hb hK hP 23 22 (k := 0) (b := ad (100 + 0)) rfl rfl rfl (i := 0) (by decide) (by omega) rfl dX10_exact_71 ?_
              refine lv_iload_n hx hb dX10_exact_72 rfl (lv_at hl 2 rfl) ?_
              refine va_lald hx hb hK hP (27 + 0) 26 (mW_L (by omega)) rfl (i := i2) (vp_of (a := i2.toInt) rfl (by omega) (by omega)) dX10_exact_73 ?_
              refine lv_topl (fun w_42 ew_42 => ?_)
              refine lv_iload_n hx hb dX10_exact_74 rfl (lv_at hl 3 rfl) ?_
              refine vp_callSi (W.runS (As := [.long w_42, .int i3]) (rest := [.ref (ad 0)]) ⟨hx, hb, hml, hown, hts⟩ (m_letterIn l dC dI  i3 w_42 ) (va_cwS 2 hts mg_X10_exactm_X10_letterIn_260 rfl rfl rfl (by decide +kernel) ⟨Nat.le_of_ble_eq_true rfl, Nat.le_of_ble_eq_true rfl⟩) ⟨fun a U g mk q => ⟨q.1, trivial⟩, fun U hU hW => ⟨rfl, trivial⟩⟩ rfl rfl hl.1 rfl (lv_room (Nat.le_of_ble_eq_true rfl)) dX10_exact_75 ⟨Nat.le_of_ble_eq_true rfl, Nat.le_of_ble_eq_true rfl⟩) (fun r_43 hr_43 => ?_)
              have rg_r_43 := i_rng r_43
              have hFc := m_free hD hS hA
              refine va_calli (va_runV (As := [.int r_43]) (rest := []) ⟨hx, hb, hml, hown, hts⟩ (m_gives l dC dI ad kc x0 x1 x2 x3 x4 x5 x6 x7 x8 x9 x10 x11 x_8 x_9 x_10 x_11 x_12 x_13 x_14 x_15 x20 x21 f0 f1 f2 f_16 f_17 f_18 f_19 f_20 f_21 f_22 f_23 f_24 f12 f13 f14 f15 f16 f17 f18 f19 f20 f21 L_25 Nn_26 P_27 M_28 O_29 H.size r_43 ) (cwV 1 hts mg_X10_exactm_X10_gives_214 rfl rfl rfl (by decide +kernel) ⟨Nat.le_of_ble_eq_true rfl, Nat.le_of_ble_eq_true rfl⟩) ⟨fun a U g mk q => by obtain ⟨q0, q1, qP, qK, qD⟩ := q; exact ⟨q0, q1, qP, va_K.moved (u := U) (U := U.calling g mk a) (Vm.Alike.refl U.vm) qK, qD⟩, va_recv hK hP (ci := 10) (q0 := 0) rfl rfl, fun U hU hW => ⟨rfl, by rw [hU], by rw [hU]; exact hP, va_K.moved hW.alike hK, hD.weaken (fun _ _ _ _ => trivial)⟩⟩ rfl rfl hl.1 rfl (lv_room (Nat.le_of_ble_eq_true rfl)) dX10_exact_78 ⟨Nat.le_of_ble_eq_true rfl, Nat.le_of_ble_eq_true rfl⟩) hS (fun q _ h => hFc q h) hFc (fun r_44 u t H1 locs ht hvm hw hB hz1 hk1 hS => ?_)
              subst hw
              obtain ⟨hr_44_0, hP, hK1, hD1⟩ := hB
              rw [ht] at hP
              have hD := hD1.weaken (fun k q _ h => hFc q.1 h)
              clear hz1 hk1 hFc hD1 hK1 hvm
              generalize H1 = H at hP hS ⊢
              have rg_r_44 := i_rng r_44
              have hP : va_P (dC, dI) vwCl (mW ad kc 0 x1 x2 x3 x4 x5 x6 x7 x8 x9 x10 x11 x_8 x_9 x_10 x_11 x_12 x_13 x_14 x_15 x20 x21 f0 f1 f2 f_16 f_17 f_18 f_19 f_20 f_21 f_22 f_23 f_24 f12 f13 f14 f15 f16 f17 f18 f19 f20 f21 L_25 Nn_26 P_27 M_28 O_29) H := hP
              have hD : va_D A (mW ad kc 0 x1 x2 x3 x4 x5 x6 x7 x8 x9 x10 x11 x_8 x_9 x_10 x_11 x_12 x_13 x_14 x_15 x20 x21 f0 f1 f2 f_16 f_17 f_18 f_19 f_20 f_21 f_22 f_23 f_24 f12 f13 f14 f15 f16 f17 f18 f19 f20 f21 L_25 Nn_26 P_27 M_28 O_29) := hD
              refine lv_goto (tgt := 89) hx hb dX10_exact_81 (by decide) ?_
              have lit_44 : (0 : Int32).toInt = 0 := by decide
              exact W.iret hx hb hr (fun t ht hW => ⟨⟨_, _, rfl, rfl, 0, x_8, x_9, x_10, x_11, x_12, x_13, x_14, x_15, f_16, f_17, f_18, f_19, f_20, f_21, f_22, f_23, f_24, L_25, Nn_26, P_27, M_28, O_29, hPI9, by rw [ht]; exact hP, va_K.moved hW.alike hK, hD⟩, hS.F ht⟩) hS.2.2 dX10_exact_89
      · have tk_6 := c_eq (a := r_5.toInt) (b := 0) rfl (by decide) k_6
        refine lv_aload_n hx hb dX10_exact_22 rfl (lv_at hl 0 rfl) ?_
        refine lv_iconst (v := 2) hx hb dX10_exact_23 (by decide) ?_
        have hFc := m_free hD hS hA
        refine va_calli (va_runV (As := [.int 2]) (rest := []) ⟨hx, hb, hml, hown, hts⟩ (m_refuse l dC dI ad kc x0 x1 x2 x3 x4 x5 x6 x7 x8 x9 x10 x11 x12 x13 x14 x15 x16 x17 x18 x19 x20 x21 f0 f1 f2 f3 f4 f5 f6 f7 f8 f9 f10 f11 f12 f13 f14 f15 f16 f17 f18 f19 f20 f21 fL fN fP fM fO H.size 2 ) (cwV 1 hts mg_X10_exactm_X10_refuse_204 rfl rfl rfl (by decide +kernel) ⟨Nat.le_of_ble_eq_true rfl, Nat.le_of_ble_eq_true rfl⟩) ⟨fun a U g mk q => by obtain ⟨q0, q1, qP, qK, qD⟩ := q; exact ⟨q0, q1, qP, va_K.moved (u := U) (U := U.calling g mk a) (Vm.Alike.refl U.vm) qK, qD⟩, va_recv hK hP (ci := 10) (q0 := 0) rfl rfl, fun U hU hW => ⟨rfl, by rw [hU], by rw [hU]; exact hP, va_K.moved hW.alike hK, hD.weaken (fun _ _ _ _ => trivial)⟩⟩ rfl rfl hl.1 rfl (lv_room (Nat.le_of_ble_eq_true rfl)) dX10_exact_24 ⟨Nat.le_of_ble_eq_true rfl, Nat.le_of_ble_eq_true rfl⟩) hS (fun q _ h => hFc q h) hFc (fun r_46 u t H1 locs ht hvm hw hB hz1 hk1 hS => ?_)
        subst hw
        obtain ⟨hr_46_0, hP, hK1, hD1⟩ := hB
        rw [ht] at hP
        have hD := hD1.weaken (fun k q _ h => hFc q.1 h)
        clear hz1 hk1 hFc hD1 hK1 hvm
        generalize H1 = H at hP hS ⊢
        have rg_r_46 := i_rng r_46
        have hP : va_P (dC, dI) vwCl (mW ad kc 2 x1 x2 x3 x4 x5 x6 x7 x8 x9 x10 x11 x12 x13 x14 x15 x16 x17 x18 x19 x20 x21 f0 f1 f2 f3 f4 f5 f6 f7 f8 f9 f10 f11 f12 f13 f14 f15 f16 f17 f18 f19 f20 f21 fL fN fP fM fO) H := hP
        have hD : va_D A (mW ad kc 2 x1 x2 x3 x4 x5 x6 x7 x8 x9 x10 x11 x12 x13 x14 x15 x16 x17 x18 x19 x20 x21 f0 f1 f2 f3 f4 f5 f6 f7 f8 f9 f10 f11 f12 f13 f14 f15 f16 f17 f18 f19 f20 f21 fL fN fP fM fO) := hD
        have lit_46 : (2 : Int32).toInt = 2 := by decide
        exact W.iret hx hb hr (fun t ht hW => ⟨⟨_, _, rfl, rfl, 2, x12, x13, x14, x15, x16, x17, x18, x19, f3, f4, f5, f6, f7, f8, f9, f10, f11, fL, fN, fP, fM, fO, hpi, by rw [ht]; exact hP, va_K.moved hW.alike hK, hD⟩, hS.F ht⟩) hS.2.2 dX10_exact_27
    · have tk_4 := c_nge (a := i3.toInt) (b := 0) rfl (by decide) k_4
      refine lv_aload_n hx hb dX10_exact_8 rfl (lv_at hl 0 rfl) ?_
      refine lv_iconst (v := 1) hx hb dX10_exact_9 (by decide) ?_
      have hFc := m_free hD hS hA
      refine va_calli (va_runV (As := [.int 1]) (rest := []) ⟨hx, hb, hml, hown, hts⟩ (m_refuse l dC dI ad kc x0 x1 x2 x3 x4 x5 x6 x7 x8 x9 x10 x11 x12 x13 x14 x15 x16 x17 x18 x19 x20 x21 f0 f1 f2 f3 f4 f5 f6 f7 f8 f9 f10 f11 f12 f13 f14 f15 f16 f17 f18 f19 f20 f21 fL fN fP fM fO H.size 1 ) (cwV 1 hts mg_X10_exactm_X10_refuse_204 rfl rfl rfl (by decide +kernel) ⟨Nat.le_of_ble_eq_true rfl, Nat.le_of_ble_eq_true rfl⟩) ⟨fun a U g mk q => by obtain ⟨q0, q1, qP, qK, qD⟩ := q; exact ⟨q0, q1, qP, va_K.moved (u := U) (U := U.calling g mk a) (Vm.Alike.refl U.vm) qK, qD⟩, va_recv hK hP (ci := 10) (q0 := 0) rfl rfl, fun U hU hW => ⟨rfl, by rw [hU], by rw [hU]; exact hP, va_K.moved hW.alike hK, hD.weaken (fun _ _ _ _ => trivial)⟩⟩ rfl rfl hl.1 rfl (lv_room (Nat.le_of_ble_eq_true rfl)) dX10_exact_10 ⟨Nat.le_of_ble_eq_true rfl, Nat.le_of_ble_eq_true rfl⟩) hS (fun q _ h => hFc q h) hFc (fun r_48 u t H1 locs ht hvm hw hB hz1 hk1 hS => ?_)
      subst hw
      obtain ⟨hr_48_0, hP, hK1, hD1⟩ := hB
      rw [ht] at hP
      have hD := hD1.weaken (fun k q _ h => hFc q.1 h)
      clear hz1 hk1 hFc hD1 hK1 hvm
      generalize H1 = H at hP hS ⊢
      have rg_r_48 := i_rng r_48
      have hP : va_P (dC, dI) vwCl (mW ad kc 1 x1 x2 x3 x4 x5 x6 x7 x8 x9 x10 x11 x12 x13 x14 x15 x16 x17 x18 x19 x20 x21 f0 f1 f2 f3 f4 f5 f6 f7 f8 f9 f10 f11 f12 f13 f14 f15 f16 f17 f18 f19 f20 f21 fL fN fP fM fO) H := hP
      have hD : va_D A (mW ad kc 1 x1 x2 x3 x4 x5 x6 x7 x8 x9 x10 x11 x12 x13 x14 x15 x16 x17 x18 x19 x20 x21 f0 f1 f2 f3 f4 f5 f6 f7 f8 f9 f10 f11 f12 f13 f14 f15 f16 f17 f18 f19 f20 f21 fL fN fP fM fO) := hD
      have lit_48 : (1 : Int32).toInt = 1 := by decide
      exact W.iret hx hb hr (fun t ht hW => ⟨⟨_, _, rfl, rfl, 1, x12, x13, x14, x15, x16, x17, x18, x19, f3, f4, f5, f6, f7, f8, f9, f10, f11, fL, fN, fP, fM, fO, hpi, by rw [ht]; exact hP, va_K.moved hW.alike hK, hD⟩, hS.F ht⟩) hS.2.2 dX10_exact_13
theorem dX10_need_0 : decode cX10_need 0 = .ok (.iload_n 2, 1) := by decide +kernel
theorem dX10_need_1 : decode cX10_need 1 = .ok (.ifCond .lt 7, 3) := by decide +kernel
theorem dX10_need_4 : decode cX10_need 4 = .ok (.iload_n 3, 1) := by decide +kernel
theorem dX10_need_5 : decode cX10_need 5 = .ok (.ifCond .ge 9, 3) := by decide +kernel
theorem dX10_need_8 : decode cX10_need 8 = .ok (.aload_n 0, 1) := by decide +kernel
theorem dX10_need_9 : decode cX10_need 9 = .ok (.iconst 1, 1) := by decide +kernel
theorem dX10_need_10 : decode cX10_need 10 = .ok (.invokevirtual 204, 3) := by decide +kernel
theorem dX10_need_13 : decode cX10_need 13 = .ok (.ireturn, 1) := by decide +kernel
theorem dX10_need_14 : decode cX10_need 14 = .ok (.aload_n 0, 1) := by decide +kernel
theorem dX10_need_15 : decode cX10_need 15 = .ok (.iload_n 1, 1) := by decide +kernel
theorem dX10_need_16 : decode cX10_need 16 = .ok (.invokevirtual 458, 3) := by decide +kernel
theorem dX10_need_19 : decode cX10_need 19 = .ok (.ifCond .ne 9, 3) := by decide +kernel
theorem dX10_need_22 : decode cX10_need 22 = .ok (.aload_n 0, 1) := by decide +kernel
theorem dX10_need_23 : decode cX10_need 23 = .ok (.iconst 2, 1) := by decide +kernel
theorem dX10_need_24 : decode cX10_need 24 = .ok (.invokevirtual 204, 3) := by decide +kernel
theorem dX10_need_27 : decode cX10_need 27 = .ok (.ireturn, 1) := by decide +kernel
theorem dX10_need_28 : decode cX10_need 28 = .ok (.aload_n 0, 1) := by decide +kernel
theorem dX10_need_29 : decode cX10_need 29 = .ok (.iload_n 1, 1) := by decide +kernel
theorem dX10_need_30 : decode cX10_need 30 = .ok (.invokevirtual 420, 3) := by decide +kernel
theorem dX10_need_33 : decode cX10_need 33 = .ok (.iload_n 2, 1) := by decide +kernel
theorem dX10_need_34 : decode cX10_need 34 = .ok (.aload_n 0, 1) := by decide +kernel
theorem dX10_need_35 : decode cX10_need 35 = .ok (.getfield 64, 3) := by decide +kernel
theorem dX10_need_38 : decode cX10_need 38 = .ok (.iconst 0, 1) := by decide +kernel
theorem dX10_need_39 : decode cX10_need 39 = .ok (.iaload, 1) := by decide +kernel
theorem dX10_need_40 : decode cX10_need 40 = .ok (.if_icmp .ge 36, 3) := by decide +kernel
theorem dX10_need_43 : decode cX10_need 43 = .ok (.iload_n 3, 1) := by decide +kernel
theorem dX10_need_44 : decode cX10_need 44 = .ok (.aload_n 0, 1) := by decide +kernel
theorem dX10_need_45 : decode cX10_need 45 = .ok (.getfield 56, 3) := by decide +kernel
theorem dX10_need_48 : decode cX10_need 48 = .ok (.iconst 0, 1) := by decide +kernel
theorem dX10_need_49 : decode cX10_need 49 = .ok (.aaload, 1) := by decide +kernel
theorem dX10_need_50 : decode cX10_need 50 = .ok (.iload_n 2, 1) := by decide +kernel
theorem dX10_need_51 : decode cX10_need 51 = .ok (.aaload, 1) := by decide +kernel
theorem dX10_need_52 : decode cX10_need 52 = .ok (.iconst 0, 1) := by decide +kernel
theorem dX10_need_53 : decode cX10_need 53 = .ok (.iaload, 1) := by decide +kernel
theorem dX10_need_54 : decode cX10_need 54 = .ok (.if_icmp .ge 22, 3) := by decide +kernel
theorem dX10_need_57 : decode cX10_need 57 = .ok (.aload_n 0, 1) := by decide +kernel
theorem dX10_need_58 : decode cX10_need 58 = .ok (.aload_n 0, 1) := by decide +kernel
theorem dX10_need_59 : decode cX10_need 59 = .ok (.getfield 56, 3) := by decide +kernel
theorem dX10_need_62 : decode cX10_need 62 = .ok (.iconst 0, 1) := by decide +kernel
theorem dX10_need_63 : decode cX10_need 63 = .ok (.aaload, 1) := by decide +kernel
theorem dX10_need_64 : decode cX10_need 64 = .ok (.iload_n 2, 1) := by decide +kernel
theorem dX10_need_65 : decode cX10_need 65 = .ok (.aaload, 1) := by decide +kernel
theorem dX10_need_66 : decode cX10_need 66 = .ok (.iload_n 3, 1) := by decide +kernel
theorem dX10_need_67 : decode cX10_need 67 = .ok (.iconst 1, 1) := by decide +kernel
theorem dX10_need_68 : decode cX10_need 68 = .ok (.iadd, 1) := by decide +kernel
theorem dX10_need_69 : decode cX10_need 69 = .ok (.iaload, 1) := by decide +kernel
theorem dX10_need_70 : decode cX10_need 70 = .ok (.invokevirtual 214, 3) := by decide +kernel
theorem dX10_need_73 : decode cX10_need 73 = .ok (.goto 8, 3) := by decide +kernel
theorem dX10_need_76 : decode cX10_need 76 = .ok (.aload_n 0, 1) := by decide +kernel
theorem dX10_need_77 : decode cX10_need 77 = .ok (.iconst 5, 1) := by decide +kernel
theorem dX10_need_78 : decode cX10_need 78 = .ok (.invokevirtual 204, 3) := by decide +kernel
theorem dX10_need_81 : decode cX10_need 81 = .ok (.ireturn, 1) := by decide +kernel
def mwX10_needm : List Cond := .code yX10_need cX10_need 4 (some .int) :: (([.methodLink RX10 204 yX10_refuse, .instanceMethod yX10_refuse, .selects RX10 yX10_refuse yX10_refuse, .initialized RX10, .methodLink RX10 458 yX10_isPattern, .instanceMethod yX10_isPattern, .selects RX10 yX10_isPattern yX10_isPattern, .methodLink RX10 420 yX10_needsOf, .instanceMethod yX10_needsOf, .selects RX10 yX10_needsOf yX10_needsOf, .fieldLink RX10 64 "PatternGateModel" "needMany" "[I", .fieldLink RX10 56 "PatternGateModel" "needs" "[[[I", .methodLink RX10 214 yX10_gives, .instanceMethod yX10_gives, .selects RX10 yX10_gives yX10_gives] : List Cond) ++ (wsX100 ++ (mwX10_refusem ++ (mwX10_isPatternm ++ (mwX10_needsOfm ++ (mwX10_givesm))))))
theorem fin_X10_needm_X10 : ∀ w ∈ wsX100, w ∈ mwX10_needm := fun w h => List.mem_cons_of_mem _ (List.mem_append_right _ (List.mem_append_left _ h))
set_option maxRecDepth 20000 in
theorem mg_X10_needm_X10_refuse_204 : GoodIn mwX10_needm (wsV RX10 204 RX10 yX10_refuse mwX10_refusem) := gi_app (A := [.methodLink RX10 204 yX10_refuse, .instanceMethod yX10_refuse, .selects RX10 yX10_refuse yX10_refuse, .initialized RX10]) (goodIn_r _ [1, 2, 3, 4] (by decide +kernel) (by decide +kernel)) (gi_sub gd_mwX10_refusem (fun w h => List.mem_cons_of_mem _ (List.mem_append_right _ (List.mem_append_right _ (List.mem_append_left _ h)))))
set_option maxRecDepth 20000 in
theorem mg_X10_needm_X10_isPattern_458 : GoodIn mwX10_needm (wsV RX10 458 RX10 yX10_isPattern mwX10_isPatternm) := gi_app (A := [.methodLink RX10 458 yX10_isPattern, .instanceMethod yX10_isPattern, .selects RX10 yX10_isPattern yX10_isPattern, .initialized RX10]) (goodIn_r _ [5, 6, 7, 4] (by decide +kernel) (by decide +kernel)) (gi_sub gd_mwX10_isPatternm (fun w h => List.mem_cons_of_mem _ (List.mem_append_right _ (List.mem_append_right _ (List.mem_append_right _ (List.mem_append_left _ h))))))
set_option maxRecDepth 20000 in
theorem mg_X10_needm_X10_needsOf_420 : GoodIn mwX10_needm (wsV RX10 420 RX10 yX10_needsOf mwX10_needsOfm) := gi_app (A := [.methodLink RX10 420 yX10_needsOf, .instanceMethod yX10_needsOf, .selects RX10 yX10_needsOf yX10_needsOf, .initialized RX10]) (goodIn_r _ [8, 9, 10, 4] (by decide +kernel) (by decide +kernel)) (gi_sub gd_mwX10_needsOfm (fun w h => List.mem_cons_of_mem _ (List.mem_append_right _ (List.mem_append_right _ (List.mem_append_right _ (List.mem_append_right _ (List.mem_append_left _ h)))))))
set_option maxRecDepth 20000 in
theorem mg_X10_needm_X10_gives_214 : GoodIn mwX10_needm (wsV RX10 214 RX10 yX10_gives mwX10_givesm) := gi_app (A := [.methodLink RX10 214 yX10_gives, .instanceMethod yX10_gives, .selects RX10 yX10_gives yX10_gives, .initialized RX10]) (goodIn_r _ [13, 14, 15, 4] (by decide +kernel) (by decide +kernel)) (gi_sub gd_mwX10_givesm (fun w h => List.mem_cons_of_mem _ (List.mem_append_right _ (List.mem_append_right _ (List.mem_append_right _ (List.mem_append_right _ (List.mem_append_right _ (h))))))))
set_option maxHeartbeats 4000000 in
set_option maxRecDepth 100000 in
theorem m_need (l : Launch) (dC : Nat → ClassId) (dI : Nat → Nat → Nat) (ad : Nat → Nat) (kc : Nat → ClassId) (x0 x1 x2 x3 x4 x5 x6 x7 x8 x9 x10 x11 x12 x13 x14 x15 x16 x17 x18 x19 x20 x21 : Int32) (f0 f1 f2 f3 f4 f5 f6 f7 f8 f9 f10 f11 f12 f13 f14 f15 f16 f17 f18 f19 f20 f21 : Nat → Int32) (fL : Nat → Nat → Int64) (fN : Nat → Nat → Int32) (fP : Nat → Nat → Nat) (fM : Nat → Nat → Int32) (fO : Nat → Nat → Int32) (sz : Nat) (i1 i2 i3 : Int32) (q0 : mI x1.toInt x2.toInt x3.toInt f0 fP) : Met l yX10_need mwX10_needm ({ frames := 42, cells := 0, slots := 0, locals := 2520 }) (va_Pc [.ref (ad 0), .int i1, .int i2, .int i3] (fun U => U.heap.size = sz ∧ va_P (dC, dI) vwCl (mW ad kc x0 x1 x2 x3 x4 x5 x6 x7 x8 x9 x10 x11 x12 x13 x14 x15 x16 x17 x18 x19 x20 x21 f0 f1 f2 f3 f4 f5 f6 f7 f8 f9 f10 f11 f12 f13 f14 f15 f16 f17 f18 f19 f20 f21 fL fN fP fM fO) U.heap ∧ va_K (dC, dI) vwCl (mT kc) U ∧ va_D (fun _ => True) (mW ad kc x0 x1 x2 x3 x4 x5 x6 x7 x8 x9 x10 x11 x12 x13 x14 x15 x16 x17 x18 x19 x20 x21 f0 f1 f2 f3 f4 f5 f6 f7 f8 f9 f10 f11 f12 f13 f14 f15 f16 f17 f18 f19 f20 f21 fL fN fP fM fO) ∧ (Cond.arrayOver (.array .int)).before #[] U = true)) (va_Qi (fun (o9 u9 : Int32) => o9 = u9) (fun (o9 : Int32) t => ∃ (y0 y12 y13 y14 y15 y16 y17 y18 y19 : Int32) (g3 g4 g5 g6 g7 g8 g9 g10 g11 : Nat → Int32) (L9 : Nat → Nat → Int64) (Nn9 : Nat → Nat → Int32) (P9 : Nat → Nat → Nat) (M9 : Nat → Nat → Int32) (O9 : Nat → Nat → Int32), (PI P9) ∧ va_P (dC, dI) vwCl (mW ad kc y0 x1 x2 x3 x4 x5 x6 x7 x8 x9 x10 x11 y12 y13 y14 y15 y16 y17 y18 y19 x20 x21 f0 f1 f2 g3 g4 g5 g6 g7 g8 g9 g10 g11 f12 f13 f14 f15 f16 f17 f18 f19 f20 f21 L9 Nn9 P9 M9 O9) t.heap ∧ va_K (dC, dI) vwCl (mT kc) t ∧ va_D (va_A (mW ad kc x0 x1 x2 x3 x4 x5 x6 x7 x8 x9 x10 x11 x12 x13 x14 x15 x16 x17 x18 x19 x20 x21 f0 f1 f2 f3 f4 f5 f6 f7 f8 f9 f10 f11 f12 f13 f14 f15 f16 f17 f18 f19 f20 f21 fL fN fP fM fO) sz) (mW ad kc y0 x1 x2 x3 x4 x5 x6 x7 x8 x9 x10 x11 y12 y13 y14 y15 y16 y17 y18 y19 x20 x21 f0 f1 f2 g3 g4 g5 g6 g7 g8 g9 g10 g11 f12 f13 f14 f15 f16 f17 f18 f19 f20 f21 L9 Nn9 P9 M9 O9)) (va_A (mW ad kc x0 x1 x2 x3 x4 x5 x6 x7 x8 x9 x10 x11 x12 x13 x14 x15 x16 x17 x18 x19 x20 x21 f0 f1 f2 f3 f4 f5 f6 f7 f8 f9 f10 f11 f12 f13 f14 f15 f16 f17 f18 f19 f20 f21 fL fN fP fM fO) sz)) 0 0 (va_A (mW ad kc x0 x1 x2 x3 x4 x5 x6 x7 x8 x9 x10 x11 x12 x13 x14 x15 x16 x17 x18 x19 x20 x21 f0 f1 f2 f3 f4 f5 f6 f7 f8 f9 f10 f11 f12 f13 f14 f15 f16 f17 f18 f19 f20 f21 fL fN fP fM fO) sz) := by
  refine Met.ofW (cc := cX10_need) (maxL := 4) (ret := (some .int)) (by decide +kernel) rfl ?_
  intro p e s m args below meth c s₁ B hml hv
  obtain ⟨rfl, hsz, hP, hK, hD0, hOV⟩ := hv
  have hx := B.exec
  have hb := B.bytes
  have hr := B.returns
  have hts := atoms_spec (ws := mwX10_needm) B.pre
  have hown : s.vm.findClass RX10 = some m.cls := findClass_of_methodNamed B.named
  have hlocks := B.notSynchronized
  subst hsz
  have hD := hD0.self (sz := s.heap.size)
  generalize hAe : va_A (mW ad kc x0 x1 x2 x3 x4 x5 x6 x7 x8 x9 x10 x11 x12 x13 x14 x15 x16 x17 x18 x19 x20 x21 f0 f1 f2 f3 f4 f5 f6 f7 f8 f9 f10 f11 f12 f13 f14 f15 f16 f17 f18 f19 f20 f21 fL fN fP fM fO) s.heap.size = A at hD ⊢
  have hA : ∀ q : Nat, s.heap.size ≤ q → A q := fun q h => by rw [← hAe]; exact Or.inr h
  have hP : va_P (dC, dI) vwCl (mW ad kc x0 x1 x2 x3 x4 x5 x6 x7 x8 x9 x10 x11 x12 x13 x14 x15 x16 x17 x18 x19 x20 x21 f0 f1 f2 f3 f4 f5 f6 f7 f8 f9 f10 f11 f12 f13 f14 f15 f16 f17 f18 f19 f20 f21 fL fN fP fM fO) s.heap := hP
  have hD : va_D A (mW ad kc x0 x1 x2 x3 x4 x5 x6 x7 x8 x9 x10 x11 x12 x13 x14 x15 x16 x17 x18 x19 x20 x21 f0 f1 f2 f3 f4 f5 f6 f7 f8 f9 f10 f11 f12 f13 f14 f15 f16 f17 f18 f19 f20 f21 fL fN fP fM fO) := hD
  have hK : va_K (dC, dI) vwCl (mT kc) s := hK
  generalize hH : s.heap = H at hP ⊢
  have hS : va_S A s.heap H [] := by rw [← hH]; exact va_S.rf
  have hl := lv_entry ([.ref (ad 0), .int i1, .int i2, .int i3]) (n := 4) (Nat.le_of_ble_eq_true rfl)
  rw [lg_entry_eq]
  generalize (lg_sl ([.ref (ad 0), .int i1, .int i2, .int i3]) ++ List.replicate (4 - (lg_sl ([.ref (ad 0), .int i1, .int i2, .int i3])).length) Slot.unset).toArray = ls at hl ⊢
  have hl : lv_has ls 4 [(0, .ref (ad 0)), (1, .int i1), (2, .int i2), (3, .int i3)] := hl
  have rg_i1 := i_rng i1
  have rg_i2 := i_rng i2
  have rg_i3 := i_rng i3
  have hd := q0.d
  have hpi := q0.p
  have hq1 := q0.1
  have hq2 := q0.2.1
  have hq3 := q0.2.2.1
  have hd10 := hd.n0
  have hp8 := hd.P0
  refine lv_iload_n hx hb dX10_need_0 rfl (lv_at hl 2 rfl) ?_
  refine lv_if_lt (tgt := 8) hx hb dX10_need_1 (by decide) (fun k_1 => ?_) (fun k_1 => ?_)
  · have tk_1 := c_lt (a := i2.toInt) (b := 0) rfl (by decide) k_1
    refine lv_aload_n hx hb dX10_need_8 rfl (lv_at hl 0 rfl) ?_
    refine lv_iconst (v := 1) hx hb dX10_need_9 (by decide) ?_
    have hFc := m_free hD hS hA
    refine va_calli (va_runV (As := [.int 1]) (rest := []) ⟨hx, hb, hml, hown, hts⟩ (m_refuse l dC dI ad kc x0 x1 x2 x3 x4 x5 x6 x7 x8 x9 x10 x11 x12 x13 x14 x15 x16 x17 x18 x19 x20 x21 f0 f1 f2 f3 f4 f5 f6 f7 f8 f9 f10 f11 f12 f13 f14 f15 f16 f17 f18 f19 f20 f21 fL fN fP fM fO H.size 1 ) (cwV 1 hts mg_X10_needm_X10_refuse_204 rfl rfl rfl (by decide +kernel) ⟨Nat.le_of_ble_eq_true rfl, Nat.le_of_ble_eq_true rfl⟩) ⟨fun a U g mk q => by obtain ⟨q0, q1, qP, qK, qD⟩ := q; exact ⟨q0, q1, qP, va_K.moved (u := U) (U := U.calling g mk a) (Vm.Alike.refl U.vm) qK, qD⟩, va_recv hK hP (ci := 10) (q0 := 0) rfl rfl, fun U hU hW => ⟨rfl, by rw [hU], by rw [hU]; exact hP, va_K.moved hW.alike hK, hD.weaken (fun _ _ _ _ => trivial)⟩⟩ rfl rfl hl.1 rfl (lv_room (Nat.le_of_ble_eq_true rfl)) dX10_need_10 ⟨Nat.le_of_ble_eq_true rfl, Nat.le_of_ble_eq_true rfl⟩) hS (fun q _ h => hFc q h) hFc (fun r_2 u t H1 locs ht hvm hw hB hz1 hk1 hS => ?_)
    subst hw
    obtain ⟨hr_2_0, hP, hK1, hD1⟩ := hB
    rw [ht] at hP
    have hD := hD1.weaken (fun k q _ h => hFc q.1 h)
    clear hz1 hk1 hFc hD1 hK1 hvm
    generalize H1 = H at hP hS ⊢
    have rg_r_2 := i_rng r_2
    have hP : va_P (dC, dI) vwCl (mW ad kc 1 x1 x2 x3 x4 x5 x6 x7 x8 x9 x10 x11 x12 x13 x14 x15 x16 x17 x18 x19 x20 x21 f0 f1 f2 f3 f4 f5 f6 f7 f8 f9 f10 f11 f12 f13 f14 f15 f16 f17 f18 f19 f20 f21 fL fN fP fM fO) H := hP
    have hD : va_D A (mW ad kc 1 x1 x2 x3 x4 x5 x6 x7 x8 x9 x10 x11 x12 x13 x14 x15 x16 x17 x18 x19 x20 x21 f0 f1 f2 f3 f4 f5 f6 f7 f8 f9 f10 f11 f12 f13 f14 f15 f16 f17 f18 f19 f20 f21 fL fN fP fM fO) := hD
    have lit_2 : (1 : Int32).toInt = 1 := by decide
    exact W.iret hx hb hr (fun t ht hW => ⟨⟨_, _, rfl, rfl, 1, x12, x13, x14, x15, x16, x17, x18, x19, f3, f4, f5, f6, f7, f8, f9, f10, f11, fL, fN, fP, fM, fO, hpi, by rw [ht]; exact hP, va_K.moved hW.alike hK, hD⟩, hS.F ht⟩) hS.2.2 dX10_need_13
  · have tk_1 := c_nlt (a := i2.toInt) (b := 0) rfl (by decide) k_1
    refine lv_iload_n hx hb dX10_need_4 rfl (lv_at hl 3 rfl) ?_
    refine lv_if_ge (tgt := 14) hx hb dX10_need_5 (by decide) (fun k_4 => ?_) (fun k_4 => ?_)
    · have tk_4 := c_ge (a := i3.toInt) (b := 0) rfl (by decide) k_4
      refine lv_aload_n hx hb dX10_need_14 rfl (lv_at hl 0 rfl) ?_
      refine lv_iload_n hx hb dX10_need_15 rfl (lv_at hl 1 rfl) ?_
      refine vp_callSi (W.runV (As := [.int i1]) (rest := []) ⟨hx, hb, hml, hown, hts⟩ (m_isPattern l dC dI ad kc x0 x1 x2 x3 x4 x5 x6 x7 x8 x9 x10 x11 x12 x13 x14 x15 x16 x17 x18 x19 x20 x21 f0 f1 f2 f3 f4 f5 f6 f7 f8 f9 f10 f11 f12 f13 f14 f15 f16 f17 f18 f19 f20 f21 fL fN fP fM fO i1 ) (cwV 1 hts mg_X10_needm_X10_isPattern_458 rfl rfl rfl (by decide +kernel) ⟨Nat.le_of_ble_eq_true rfl, Nat.le_of_ble_eq_true rfl⟩) ⟨fun a U g mk q => by obtain ⟨q0, qP, qK⟩ := q; exact ⟨q0, qP, va_K.moved (u := U) (U := U.calling g mk a) (Vm.Alike.refl U.vm) qK⟩, va_recv hK hP (ci := 10) (q0 := 0) rfl rfl, fun U hU hW => ⟨rfl, by rw [hU]; exact hP, va_K.moved hW.alike hK⟩⟩ rfl rfl hl.1 rfl (lv_room (Nat.le_of_ble_eq_true rfl)) dX10_need_16 ⟨Nat.le_of_ble_eq_true rfl, Nat.le_of_ble_eq_true rfl⟩) (fun r_5 hr_5 => ?_)
      have rg_r_5 := i_rng r_5
      refine lv_if_ne (tgt := 28) hx hb dX10_need_19 (by decide) (fun k_6 => ?_) (fun k_6 => ?_)
      · have tk_6 := c_ne (a := r_5.toInt) (b := 0) rfl (by decide) k_6
        refine lv_aload_n hx hb dX10_need_28 rfl (lv_at hl 0 rfl) ?_
        refine lv_iload_n hx hb dX10_need_29 rfl (lv_at hl 1 rfl) ?_
        have hFc := m_free hD hS hA
        refine va_callv (va_runV (As := [.int i1]) (rest := []) ⟨hx, hb, hml, hown, hts⟩ (m_needsOf l dC dI ad kc x0 x1 x2 x3 x4 x5 x6 x7 x8 x9 x10 x11 x12 x13 x14 x15 x16 x17 x18 x19 x20 x21 f0 f1 f2 f3 f4 f5 f6 f7 f8 f9 f10 f11 f12 f13 f14 f15 f16 f17 f18 f19 f20 f21 fL fN fP fM fO H.size i1 (by first | omega | assumption | decide | (have l0 := Int32.toInt_zero; omega)) (by first | omega | assumption | decide | (have l0 := Int32.toInt_zero; omega)) (by first | omega | assumption | decide | (have l0 := Int32.toInt_zero; omega))) (cwV 1 hts mg_X10_needm_X10_needsOf_420 rfl rfl rfl (by decide +kernel) ⟨Nat.le_of_ble_eq_true rfl, Nat.le_of_ble_eq_true rfl⟩) ⟨fun a U g mk q => by obtain ⟨q0, q1, qP, qK, qD, qE⟩ := q; exact ⟨q0, q1, qP, va_K.moved (u := U) (U := U.calling g mk a) (Vm.Alike.refl U.vm) qK, qD, over_moved (u := U) (E := U.calling g mk a) (Vm.Alike.refl U.vm) qE⟩, va_recv hK hP (ci := 10) (q0 := 0) rfl rfl, fun U hU hW => ⟨rfl, by rw [hU], by rw [hU]; exact hP, va_K.moved hW.alike hK, hD.weaken (fun _ _ _ _ => trivial), over_moved hW.alike hOV⟩⟩ rfl rfl hl.1 rfl (lv_room (Nat.le_of_ble_eq_true rfl)) dX10_need_30 ⟨Nat.le_of_ble_eq_true rfl, Nat.le_of_ble_eq_true rfl⟩) hS (fun q _ h => hFc q h) hFc (fun u t H1 locs ht hvm hw hB hz1 hk1 hS => ?_)
        obtain ⟨x_8, x_9, x_10, x_11, x_12, x_13, x_14, x_15, f_16, f_17, f_18, f_19, f_20, f_21, f_22, f_23, f_24, L_25, Nn_26, P_27, M_28, O_29, hr_7_0, hr_7_1, hr_7_2, hr_7_3, hr_7_4, hP, hK1, hD1⟩ := hB
        rw [ht] at hP
        have hD := hD1.weaken (fun k q _ h => hFc q.1 h)
        clear hz1 hk1 hFc hD1 hK1 hvm
        generalize H1 = H at hP hS ⊢
        have rg_x_8 := i_rng x_8
        have rg_x_9 := i_rng x_9
        have rg_x_10 := i_rng x_10
        have rg_x_11 := i_rng x_11
        have rg_x_12 := i_rng x_12
        have rg_x_13 := i_rng x_13
        have rg_x_14 := i_rng x_14
        have rg_x_15 := i_rng x_15
        have hP : va_P (dC, dI) vwCl (mW ad kc x0 x1 x2 x3 x4 x5 x6 x7 x8 x9 x10 x11 x_8 x_9 x_10 x_11 x_12 x_13 x_14 x_15 x20 x21 f0 f1 f2 f_16 f_17 f_18 f_19 f_20 f_21 f_22 f_23 f_24 f12 f13 f14 f15 f16 f17 f18 f19 f20 f21 L_25 Nn_26 P_27 M_28 O_29) H := hP
        have hD : va_D A (mW ad kc x0 x1 x2 x3 x4 x5 x6 x7 x8 x9 x10 x11 x_8 x_9 x_10 x_11 x_12 x_13 x_14 x_15 x20 x21 f0 f1 f2 f_16 f_17 f_18 f_19 f_20 f_21 f_22 f_23 f_24 f12 f13 f14 f15 f16 f17 f18 f19 f20 f21 L_25 Nn_26 P_27 M_28 O_29) := hD
        have hPI9 := hr_7_0
        have hN9 := hr_7_1
        have hN9a := hN9.2.1
        have hN9b := hN9.1
        have hEx9 := hr_7_2
        refine lv_iload_n hx hb dX10_need_33 rfl (lv_at hl 2 rfl) ?_
        refine lv_aload_n hx hb dX10_need_34 rfl (lv_at hl 0 rfl) ?_
        refine va_get (D := (dC, dI)) (ci := 10) (v := .ref (ad 11)) (C := RX10) (T := TX10) (N := 48) hx hb hts fin_X10_needm_X10 hown hK hP 0 rfl rfl 30 (by decide) (hts (.fieldLink RX10 64 "PatternGateModel" "needMany" "[I") (List.mem_of_getElem? (i := 11) (by decide +kernel))) (fun _ h9 => h9) rfl dX10_need_35 ?_
        refine lv_iconst (v := 0) hx hb dX10_need_38 (by decide) ?_
        refine va_iald hx hb hK hP 11 10 rfl rfl (i := 0) (by unfold vp_in; decide +kernel) dX10_need_39 ?_
        refine lv_topi (fun y_30 ey_30 => ?_)
        have rg_y_30 := i_rng y_30
        have vy_30 := vI_lda (f := f_23) (i := 0) (a := 0) ey_30 (by first | omega | decide)
        have rg_y_30 := i_rng y_30
        refine lv_icmp_ge (tgt := 76) hx hb dX10_need_40 (by decide) (fun k_31 => ?_) (fun k_31 => ?_)
        · have tk_31 := c_ge (a := i2.toInt) (b := y_30.toInt) rfl rfl k_31
          refine lv_aload_n hx hb dX10_need_76 rfl (lv_at hl 0 rfl) ?_
          refine lv_iconst (v := 5) hx hb dX10_need_77 (by decide) ?_
          have hFc := m_free hD hS hA
          refine va_calli (va_runV (As := [.int 5]) (rest := []) ⟨hx, hb, hml, hown, hts⟩ (m_refuse l dC dI ad kc x0 x1 x2 x3 x4 x5 x6 x7 x8 x9 x10 x11 x_8 x_9 x_10 x_11 x_12 x_13 x_14 x_15 x20 x21 f0 f1 f2 f_16 f_17 f_18 f_19 f_20 f_21 f_22 f_23 f_24 f12 f13 f14 f15 f16 f17 f18 f19 f20 f21 L_25 Nn_26 P_27 M_28 O_29 H.size 5 ) (cwV 1 hts mg_X10_needm_X10_refuse_204 rfl rfl rfl (by decide +kernel) ⟨Nat.le_of_ble_eq_true rfl, Nat.le_of_ble_eq_true rfl⟩) ⟨fun a U g mk q => by obtain ⟨q0, q1, qP, qK, qD⟩ := q; exact ⟨q0, q1, qP, va_K.moved (u := U) (U := U.calling g mk a) (Vm.Alike.refl U.vm) qK, qD⟩, va_recv hK hP (ci := 10) (q0 := 0) rfl rfl, fun U hU hW => ⟨rfl, by rw [hU], by rw [hU]; exact hP, va_K.moved hW.alike hK, hD.weaken (fun _ _ _ _ => trivial)⟩⟩ rfl rfl hl.1 rfl (lv_room (Nat.le_of_ble_eq_true rfl)) dX10_need_78 ⟨Nat.le_of_ble_eq_true rfl, Nat.le_of_ble_eq_true rfl⟩) hS (fun q _ h => hFc q h) hFc (fun r_32 u t H1 locs ht hvm hw hB hz1 hk1 hS => ?_)
          subst hw
          obtain ⟨hr_32_0, hP, hK1, hD1⟩ := hB
          rw [ht] at hP
          have hD := hD1.weaken (fun k q _ h => hFc q.1 h)
          clear hz1 hk1 hFc hD1 hK1 hvm
          generalize H1 = H at hP hS ⊢
          have rg_r_32 := i_rng r_32
          have hP : va_P (dC, dI) vwCl (mW ad kc 5 x1 x2 x3 x4 x5 x6 x7 x8 x9 x10 x11 x_8 x_9 x_10 x_11 x_12 x_13 x_14 x_15 x20 x21 f0 f1 f2 f_16 f_17 f_18 f_19 f_20 f_21 f_22 f_23 f_24 f12 f13 f14 f15 f16 f17 f18 f19 f20 f21 L_25 Nn_26 P_27 M_28 O_29) H := hP
          have hD : va_D A (mW ad kc 5 x1 x2 x3 x4 x5 x6 x7 x8 x9 x10 x11 x_8 x_9 x_10 x_11 x_12 x_13 x_14 x_15 x20 x21 f0 f1 f2 f_16 f_17 f_18 f_19 f_20 f_21 f_22 f_23 f_24 f12 f13 f14 f15 f16 f17 f18 f19 f20 f21 L_25 Nn_26 P_27 M_28 O_29) := hD
          have lit_32 : (5 : Int32).toInt = 5 := by decide
          exact W.iret hx hb hr (fun t ht hW => ⟨⟨_, _, rfl, rfl, 5, x_8, x_9, x_10, x_11, x_12, x_13, x_14, x_15, f_16, f_17, f_18, f_19, f_20, f_21, f_22, f_23, f_24, L_25, Nn_26, P_27, M_28, O_29, hPI9, by rw [ht]; exact hP, va_K.moved hW.alike hK, hD⟩, hS.F ht⟩) hS.2.2 dX10_need_81
        · have tk_31 := c_nge (a := i2.toInt) (b := y_30.toInt) rfl rfl k_31
          refine lv_iload_n hx hb dX10_need_43 rfl (lv_at hl 3 rfl) ?_
          refine lv_aload_n hx hb dX10_need_44 rfl (lv_at hl 0 rfl) ?_
          refine va_get (D := (dC, dI)) (ci := 10) (v := .ref (ad 24)) (C := RX10) (T := TX10) (N := 48) hx hb hts fin_X10_needm_X10 hown hK hP 0 rfl rfl 28 (by decide) (hts (.fieldLink RX10 56 "PatternGateModel" "needs" "[[[I") (List.mem_of_getElem? (i := 12) (by decide +kernel))) (fun _ h9 => h9) rfl dX10_need_45 ?_
          refine lv_iconst (v := 0) hx hb dX10_need_48 (by decide) ?_
          refine m_aak hx hb hK hP 24 23 (k := 0) (b := ad (200 + 0)) rfl rfl rfl (i := 0) (by decide) (by omega) rfl dX10_need_49 ?_
          refine lv_iload_n hx hb dX10_need_50 rfl (lv_at hl 2 rfl) ?_
          refine m_aak hx hb hK hP (117 + 0) 27 (k := i2.toInt.toNat) (b := ad (300 + (12 * 0 + P_27 0 i2.toInt.toNat))) (mW_P (by omega)) rfl rfl (i := i2) (by omega) (by omega) rfl dX10_need_51 ?_
          have hp51 := (hPI9 0 i2.toInt.toNat (by omega)).1
          refine lv_iconst (v := 0) hx hb dX10_need_52 (by decide) ?_
          refine va_iald hx hb hK hP (rPos (300 + (12 * 0 + P_27 0 i2.toInt.toNat))) (rTy (300 + (12 * 0 + P_27 0 i2.toInt.toNat))) (mW_R (by first | assumption | (unfold IR; omega))) (mT_R _) (i := 0) (by unfold vp_in; decide +kernel) dX10_need_53 ?_
          refine lv_topi (fun y_34 ey_34 => ?_)
          have rg_y_34 := i_rng y_34
          have vy_34 := vI_lda (f := (rO Nn_26 M_28 O_29) (300 + (12 * 0 + P_27 0 i2.toInt.toNat))) (i := 0) (a := 0) ey_34 (by first | omega | decide)
          have hz9 : 0 ≤ vI ((rO Nn_26 M_28 O_29) (300 + (12 * 0 + P_27 0 i2.toInt.toNat))) 0 ∧ vI ((rO Nn_26 M_28 O_29) (300 + (12 * 0 + P_27 0 i2.toInt.toNat))) 0 ≤ 24 := hN9.2.2 i2.toInt.toNat (by omega)
          refine lv_icmp_ge (tgt := 76) hx hb dX10_need_54 (by decide) (fun k_35 => ?_) (fun k_35 => ?_)
          · have tk_35 := c_ge (a := i3.toInt) (b := y_34.toInt) rfl rfl k_35
            refine lv_aload_n hx hb dX10_need_76 rfl (lv_at hl 0 rfl) ?_
            refine lv_iconst (v := 5) hx hb dX10_need_77 (by decide) ?_
            have hFc := m_free hD hS hA
            refine va_calli (va_runV (As := [.int 5]) (rest := []) ⟨hx, hb, hml, hown, hts⟩ (m_refuse l dC dI ad kc x0 x1 x2 x3 x4 x5 x6 x7 x8 x9 x10 x11 x_8 x_9 x_10 x_11 x_12 x_13 x_14 x_15 x20 x21 f0 f1 f2 f_16 f_17 f_18 f_19 f_20 f_21 f_22 f_23 f_24 f12 f13 f14 f15 f16 f17 f18 f19 f20 f21 L_25 Nn_26 P_27 M_28 O_29 H.size 5 ) (cwV 1 hts mg_X10_needm_X10_refuse_204 rfl rfl rfl (by decide +kernel) ⟨Nat.le_of_ble_eq_true rfl, Nat.le_of_ble_eq_true rfl⟩) ⟨fun a U g mk q => by obtain ⟨q0, q1, qP, qK, qD⟩ := q; exact ⟨q0, q1, qP, va_K.moved (u := U) (U := U.calling g mk a) (Vm.Alike.refl U.vm) qK, qD⟩, va_recv hK hP (ci := 10) (q0 := 0) rfl rfl, fun U hU hW => ⟨rfl, by rw [hU], by rw [hU]; exact hP, va_K.moved hW.alike hK, hD.weaken (fun _ _ _ _ => trivial)⟩⟩ rfl rfl hl.1 rfl (lv_room (Nat.le_of_ble_eq_true rfl)) dX10_need_78 ⟨Nat.le_of_ble_eq_true rfl, Nat.le_of_ble_eq_true rfl⟩) hS (fun q _ h => hFc q h) hFc (fun r_36 u t H1 locs ht hvm hw hB hz1 hk1 hS => ?_)
            subst hw
            obtain ⟨hr_36_0, hP, hK1, hD1⟩ := hB
            rw [ht] at hP
            have hD := hD1.weaken (fun k q _ h => hFc q.1 h)
            clear hz1 hk1 hFc hD1 hK1 hvm
            generalize H1 = H at hP hS ⊢
            have rg_r_36 := i_rng r_36
            have hP : va_P (dC, dI) vwCl (mW ad kc 5 x1 x2 x3 x4 x5 x6 x7 x8 x9 x10 x11 x_8 x_9 x_10 x_11 x_12 x_13 x_14 x_15 x20 x21 f0 f1 f2 f_16 f_17 f_18 f_19 f_20 f_21 f_22 f_23 f_24 f12 f13 f14 f15 f16 f17 f18 f19 f20 f21 L_25 Nn_26 P_27 M_28 O_29) H := hP
            have hD : va_D A (mW ad kc 5 x1 x2 x3 x4 x5 x6 x7 x8 x9 x10 x11 x_8 x_9 x_10 x_11 x_12 x_13 x_14 x_15 x20 x21 f0 f1 f2 f_16 f_17 f_18 f_19 f_20 f_21 f_22 f_23 f_24 f12 f13 f14 f15 f16 f17 f18 f19 f20 f21 L_25 Nn_26 P_27 M_28 O_29) := hD
            have lit_36 : (5 : Int32).toInt = 5 := by decide
            exact W.iret hx hb hr (fun t ht hW => ⟨⟨_, _, rfl, rfl, 5, x_8, x_9, x_10, x_11, x_12, x_13, x_14, x_15, f_16, f_17, f_18, f_19, f_20, f_21, f_22, f_23, f_24, L_25, Nn_26, P_27, M_28, O_29, hPI9, by rw [ht]; exact hP, va_K.moved hW.alike hK, hD⟩, hS.F ht⟩) hS.2.2 dX10_need_81
          · have tk_35 := c_nge (a := i3.toInt) (b := y_34.toInt) rfl rfl k_35
            refine lv_aload_n hx hb dX10_need_57 rfl (lv_at hl 0 rfl) ?_
            refine lv_aload_n hx hb dX10_need_58 rfl (lv_at hl 0 rfl) ?_
            refine va_get (D := (dC, dI)) (ci := 10) (v := .ref (ad 24)) (C := RX10) (T := TX10) (N := 48) hx hb hts fin_X10_needm_X10 hown hK hP 0 rfl rfl 28 (by decide) (hts (.fieldLink RX10 56 "PatternGateModel" "needs" "[[[I") (List.mem_of_getElem? (i := 12) (by decide +kernel))) (fun _ h9 => h9) rfl dX10_need_59 ?_
            refine lv_iconst (v := 0) hx hb dX10_need_62 (by decide) ?_
            refine m_aak hx hb hK hP 24 23 (k := 0) (b := ad (200 + 0)) rfl rfl rfl (i := 0) (by decide) (by omega) rfl dX10_need_63 ?_
            refine lv_iload_n hx hb dX10_need_64 rfl (lv_at hl 2 rfl) ?_
            refine m_aak hx hb hK hP (117 + 0) 27 (k := i2.toInt.toNat) (b := ad (300 + (12 * 0 + P_27 0 i2.toInt.toNat))) (mW_P (by omega)) rfl rfl (i := i2) (by omega) (by omega) rfl dX10_need_65 ?_
            have hp65 := (hPI9 0 i2.toInt.toNat (by omega)).1
            refine lv_iload_n hx hb dX10_need_66 rfl (lv_at hl 3 rfl) ?_
            refine lv_iconst (v := 1) hx hb dX10_need_67 (by decide) ?_
            refine lv_iadd hx hb dX10_need_68 ?_
            refine lv_topi (fun y_38 ey_38 => ?_)
            first | have ty_38 := i_add (a := i3.toInt) (b := 1) rfl (by decide) ey_38 (by omega) (by omega) | skip
            refine va_iald hx hb hK hP (rPos (300 + (12 * 0 + P_27 0 i2.toInt.toNat))) (rTy (300 + (12 * 0 + P_27 0 i2.toInt.toNat))) (mW_R (by first | assumption | (unfold IR; omega))) (mT_R _) (i := y_38) (vp_of (a := y_38.toInt) rfl (by omega) (by omega)) dX10_need_69 ?_
            refine lv_topi (fun y_39 ey_39 => ?_)
            have rg_y_39 := i_rng y_39
            have vy_39 := vI_lda (f := (rO Nn_26 M_28 O_29) (300 + (12 * 0 + P_27 0 i2.toInt.toNat))) (i := y_38) (a := (i3.toInt + 1)) ey_39 (by first | omega | decide)
            have hFc := m_free hD hS hA
            refine va_calli (va_runV (As := [.int y_39]) (rest := []) ⟨hx, hb, hml, hown, hts⟩ (m_gives l dC dI ad kc x0 x1 x2 x3 x4 x5 x6 x7 x8 x9 x10 x11 x_8 x_9 x_10 x_11 x_12 x_13 x_14 x_15 x20 x21 f0 f1 f2 f_16 f_17 f_18 f_19 f_20 f_21 f_22 f_23 f_24 f12 f13 f14 f15 f16 f17 f18 f19 f20 f21 L_25 Nn_26 P_27 M_28 O_29 H.size y_39 ) (cwV 1 hts mg_X10_needm_X10_gives_214 rfl rfl rfl (by decide +kernel) ⟨Nat.le_of_ble_eq_true rfl, Nat.le_of_ble_eq_true rfl⟩) ⟨fun a U g mk q => by obtain ⟨q0, q1, qP, qK, qD⟩ := q; exact ⟨q0, q1, qP, va_K.moved (u := U) (U := U.calling g mk a) (Vm.Alike.refl U.vm) qK, qD⟩, va_recv hK hP (ci := 10) (q0 := 0) rfl rfl, fun U hU hW => ⟨rfl, by rw [hU], by rw [hU]; exact hP, va_K.moved hW.alike hK, hD.weaken (fun _ _ _ _ => trivial)⟩⟩ rfl rfl hl.1 rfl (lv_room (Nat.le_of_ble_eq_true rfl)) dX10_need_70 ⟨Nat.le_of_ble_eq_true rfl, Nat.le_of_ble_eq_true rfl⟩) hS (fun q _ h => hFc q h) hFc (fun r_40 u t H1 locs ht hvm hw hB hz1 hk1 hS => ?_)
            subst hw
            obtain ⟨hr_40_0, hP, hK1, hD1⟩ := hB
            rw [ht] at hP
            have hD := hD1.weaken (fun k q _ h => hFc q.1 h)
            clear hz1 hk1 hFc hD1 hK1 hvm
            generalize H1 = H at hP hS ⊢
            have rg_r_40 := i_rng r_40
            have hP : va_P (dC, dI) vwCl (mW ad kc 0 x1 x2 x3 x4 x5 x6 x7 x8 x9 x10 x11 x_8 x_9 x_10 x_11 x_12 x_13 x_14 x_15 x20 x21 f0 f1 f2 f_16 f_17 f_18 f_19 f_20 f_21 f_22 f_23 f_24 f12 f13 f14 f15 f16 f17 f18 f19 f20 f21 L_25 Nn_26 P_27 M_28 O_29) H := hP
            have hD : va_D A (mW ad kc 0 x1 x2 x3 x4 x5 x6 x7 x8 x9 x10 x11 x_8 x_9 x_10 x_11 x_12 x_13 x_14 x_15 x20 x21 f0 f1 f2 f_16 f_17 f_18 f_19 f_20 f_21 f_22 f_23 f_24 f12 f13 f14 f15 f16 f17 f18 f19 f20 f21 L_25 Nn_26 P_27 M_28 O_29) := hD
            refine lv_goto (tgt := 81) hx hb dX10_need_73 (by decide) ?_
            have lit_40 : (0 : Int32).toInt = 0 := by decide
            exact W.iret hx hb hr (fun t ht hW => ⟨⟨_, _, rfl, rfl, 0, x_8, x_9, x_10, x_11, x_12, x_13, x_14, x_15, f_16, f_17, f_18, f_19, f_20, f_21, f_22, f_23, f_24, L_25, Nn_26, P_27, M_28, O_29, hPI9, by rw [ht]; exact hP, va_K.moved hW.alike hK, hD⟩, hS.F ht⟩) hS.2.2 dX10_need_81
      · have tk_6 := c_eq (a := r_5.toInt) (b := 0) rfl (by decide) k_6
        refine lv_aload_n hx hb dX10_need_22 rfl (lv_at hl 0 rfl) ?_
        refine lv_iconst (v := 2) hx hb dX10_need_23 (by decide) ?_
        have hFc := m_free hD hS hA
        refine va_calli (va_runV (As := [.int 2]) (rest := []) ⟨hx, hb, hml, hown, hts⟩ (m_refuse l dC dI ad kc x0 x1 x2 x3 x4 x5 x6 x7 x8 x9 x10 x11 x12 x13 x14 x15 x16 x17 x18 x19 x20 x21 f0 f1 f2 f3 f4 f5 f6 f7 f8 f9 f10 f11 f12 f13 f14 f15 f16 f17 f18 f19 f20 f21 fL fN fP fM fO H.size 2 ) (cwV 1 hts mg_X10_needm_X10_refuse_204 rfl rfl rfl (by decide +kernel) ⟨Nat.le_of_ble_eq_true rfl, Nat.le_of_ble_eq_true rfl⟩) ⟨fun a U g mk q => by obtain ⟨q0, q1, qP, qK, qD⟩ := q; exact ⟨q0, q1, qP, va_K.moved (u := U) (U := U.calling g mk a) (Vm.Alike.refl U.vm) qK, qD⟩, va_recv hK hP (ci := 10) (q0 := 0) rfl rfl, fun U hU hW => ⟨rfl, by rw [hU], by rw [hU]; exact hP, va_K.moved hW.alike hK, hD.weaken (fun _ _ _ _ => trivial)⟩⟩ rfl rfl hl.1 rfl (lv_room (Nat.le_of_ble_eq_true rfl)) dX10_need_24 ⟨Nat.le_of_ble_eq_true rfl, Nat.le_of_ble_eq_true rfl⟩) hS (fun q _ h => hFc q h) hFc (fun r_42 u t H1 locs ht hvm hw hB hz1 hk1 hS => ?_)
        subst hw
        obtain ⟨hr_42_0, hP, hK1, hD1⟩ := hB
        rw [ht] at hP
        have hD := hD1.weaken (fun k q _ h => hFc q.1 h)
        clear hz1 hk1 hFc hD1 hK1 hvm
        generalize H1 = H at hP hS ⊢
        have rg_r_42 := i_rng r_42
        have hP : va_P (dC, dI) vwCl (mW ad kc 2 x1 x2 x3 x4 x5 x6 x7 x8 x9 x10 x11 x12 x13 x14 x15 x16 x17 x18 x19 x20 x21 f0 f1 f2 f3 f4 f5 f6 f7 f8 f9 f10 f11 f12 f13 f14 f15 f16 f17 f18 f19 f20 f21 fL fN fP fM fO) H := hP
        have hD : va_D A (mW ad kc 2 x1 x2 x3 x4 x5 x6 x7 x8 x9 x10 x11 x12 x13 x14 x15 x16 x17 x18 x19 x20 x21 f0 f1 f2 f3 f4 f5 f6 f7 f8 f9 f10 f11 f12 f13 f14 f15 f16 f17 f18 f19 f20 f21 fL fN fP fM fO) := hD
        have lit_42 : (2 : Int32).toInt = 2 := by decide
        exact W.iret hx hb hr (fun t ht hW => ⟨⟨_, _, rfl, rfl, 2, x12, x13, x14, x15, x16, x17, x18, x19, f3, f4, f5, f6, f7, f8, f9, f10, f11, fL, fN, fP, fM, fO, hpi, by rw [ht]; exact hP, va_K.moved hW.alike hK, hD⟩, hS.F ht⟩) hS.2.2 dX10_need_27
    · have tk_4 := c_nge (a := i3.toInt) (b := 0) rfl (by decide) k_4
      refine lv_aload_n hx hb dX10_need_8 rfl (lv_at hl 0 rfl) ?_
      refine lv_iconst (v := 1) hx hb dX10_need_9 (by decide) ?_
      have hFc := m_free hD hS hA
      refine va_calli (va_runV (As := [.int 1]) (rest := []) ⟨hx, hb, hml, hown, hts⟩ (m_refuse l dC dI ad kc x0 x1 x2 x3 x4 x5 x6 x7 x8 x9 x10 x11 x12 x13 x14 x15 x16 x17 x18 x19 x20 x21 f0 f1 f2 f3 f4 f5 f6 f7 f8 f9 f10 f11 f12 f13 f14 f15 f16 f17 f18 f19 f20 f21 fL fN fP fM fO H.size 1 ) (cwV 1 hts mg_X10_needm_X10_refuse_204 rfl rfl rfl (by decide +kernel) ⟨Nat.le_of_ble_eq_true rfl, Nat.le_of_ble_eq_true rfl⟩) ⟨fun a U g mk q => by obtain ⟨q0, q1, qP, qK, qD⟩ := q; exact ⟨q0, q1, qP, va_K.moved (u := U) (U := U.calling g mk a) (Vm.Alike.refl U.vm) qK, qD⟩, va_recv hK hP (ci := 10) (q0 := 0) rfl rfl, fun U hU hW => ⟨rfl, by rw [hU], by rw [hU]; exact hP, va_K.moved hW.alike hK, hD.weaken (fun _ _ _ _ => trivial)⟩⟩ rfl rfl hl.1 rfl (lv_room (Nat.le_of_ble_eq_true rfl)) dX10_need_10 ⟨Nat.le_of_ble_eq_true rfl, Nat.le_of_ble_eq_true rfl⟩) hS (fun q _ h => hFc q h) hFc (fun r_44 u t H1 locs ht hvm hw hB hz1 hk1 hS => ?_)
      subst hw
      obtain ⟨hr_44_0, hP, hK1, hD1⟩ := hB
      rw [ht] at hP
      have hD := hD1.weaken (fun k q _ h => hFc q.1 h)
      clear hz1 hk1 hFc hD1 hK1 hvm
      generalize H1 = H at hP hS ⊢
      have rg_r_44 := i_rng r_44
      have hP : va_P (dC, dI) vwCl (mW ad kc 1 x1 x2 x3 x4 x5 x6 x7 x8 x9 x10 x11 x12 x13 x14 x15 x16 x17 x18 x19 x20 x21 f0 f1 f2 f3 f4 f5 f6 f7 f8 f9 f10 f11 f12 f13 f14 f15 f16 f17 f18 f19 f20 f21 fL fN fP fM fO) H := hP
      have hD : va_D A (mW ad kc 1 x1 x2 x3 x4 x5 x6 x7 x8 x9 x10 x11 x12 x13 x14 x15 x16 x17 x18 x19 x20 x21 f0 f1 f2 f3 f4 f5 f6 f7 f8 f9 f10 f11 f12 f13 f14 f15 f16 f17 f18 f19 f20 f21 fL fN fP fM fO) := hD
      have lit_44 : (1 : Int32).toInt = 1 := by decide
      exact W.iret hx hb hr (fun t ht hW => ⟨⟨_, _, rfl, rfl, 1, x12, x13, x14, x15, x16, x17, x18, x19, f3, f4, f5, f6, f7, f8, f9, f10, f11, fL, fN, fP, fM, fO, hpi, by rw [ht]; exact hP, va_K.moved hW.alike hK, hD⟩, hS.F ht⟩) hS.2.2 dX10_need_13
theorem dX10_list_0 : decode cX10_list 0 = .ok (.iload_n 1, 1) := by decide +kernel
theorem dX10_list_1 : decode cX10_list 1 = .ok (.iconst 0, 1) := by decide +kernel
theorem dX10_list_2 : decode cX10_list 2 = .ok (.sipush 17575, 3) := by decide +kernel
theorem dX10_list_5 : decode cX10_list 5 = .ok (.invokestatic 200, 3) := by decide +kernel
theorem dX10_list_8 : decode cX10_list 8 = .ok (.ifCond .eq 7, 3) := by decide +kernel
theorem dX10_list_11 : decode cX10_list 11 = .ok (.iload_n 2, 1) := by decide +kernel
theorem dX10_list_12 : decode cX10_list 12 = .ok (.ifCond .ge 9, 3) := by decide +kernel
theorem dX10_list_15 : decode cX10_list 15 = .ok (.aload_n 0, 1) := by decide +kernel
theorem dX10_list_16 : decode cX10_list 16 = .ok (.iconst 1, 1) := by decide +kernel
theorem dX10_list_17 : decode cX10_list 17 = .ok (.invokevirtual 204, 3) := by decide +kernel
theorem dX10_list_20 : decode cX10_list 20 = .ok (.ireturn, 1) := by decide +kernel
theorem dX10_list_21 : decode cX10_list 21 = .ok (.iload_n 2, 1) := by decide +kernel
theorem dX10_list_22 : decode cX10_list 22 = .ok (.istore_n 3, 1) := by decide +kernel
theorem dX10_list_23 : decode cX10_list 23 = .ok (.aload_n 0, 1) := by decide +kernel
theorem dX10_list_24 : decode cX10_list 24 = .ok (.iload_n 1, 1) := by decide +kernel
theorem dX10_list_25 : decode cX10_list 25 = .ok (.invokevirtual 414, 3) := by decide +kernel
theorem dX10_list_28 : decode cX10_list 28 = .ok (.istore 4, 2) := by decide +kernel
theorem dX10_list_30 : decode cX10_list 30 = .ok (.iconst 0, 1) := by decide +kernel
theorem dX10_list_31 : decode cX10_list 31 = .ok (.istore 5, 2) := by decide +kernel
theorem dX10_list_33 : decode cX10_list 33 = .ok (.iload 5, 2) := by decide +kernel
theorem dX10_list_35 : decode cX10_list 35 = .ok (.aload_n 0, 1) := by decide +kernel
theorem dX10_list_36 : decode cX10_list 36 = .ok (.getfield 8, 3) := by decide +kernel
theorem dX10_list_39 : decode cX10_list 39 = .ok (.iconst 0, 1) := by decide +kernel
theorem dX10_list_40 : decode cX10_list 40 = .ok (.iaload, 1) := by decide +kernel
theorem dX10_list_41 : decode cX10_list 41 = .ok (.if_icmp .ge 36, 3) := by decide +kernel
theorem dX10_list_44 : decode cX10_list 44 = .ok (.iload 4, 2) := by decide +kernel
theorem dX10_list_46 : decode cX10_list 46 = .ok (.iload 5, 2) := by decide +kernel
theorem dX10_list_48 : decode cX10_list 48 = .ok (.invokestatic 170, 3) := by decide +kernel
theorem dX10_list_51 : decode cX10_list 51 = .ok (.ifCond .ne 6, 3) := by decide +kernel
theorem dX10_list_54 : decode cX10_list 54 = .ok (.goto 17, 3) := by decide +kernel
theorem dX10_list_57 : decode cX10_list 57 = .ok (.iload_n 3, 1) := by decide +kernel
theorem dX10_list_58 : decode cX10_list 58 = .ok (.ifCond .ne 10, 3) := by decide +kernel
theorem dX10_list_61 : decode cX10_list 61 = .ok (.aload_n 0, 1) := by decide +kernel
theorem dX10_list_62 : decode cX10_list 62 = .ok (.iload 5, 2) := by decide +kernel
theorem dX10_list_64 : decode cX10_list 64 = .ok (.invokevirtual 214, 3) := by decide +kernel
theorem dX10_list_67 : decode cX10_list 67 = .ok (.ireturn, 1) := by decide +kernel
theorem dX10_list_68 : decode cX10_list 68 = .ok (.iinc 3 (-1), 3) := by decide +kernel
theorem dX10_list_71 : decode cX10_list 71 = .ok (.iinc 5 1, 3) := by decide +kernel
theorem dX10_list_74 : decode cX10_list 74 = .ok (.goto (-41), 3) := by decide +kernel
theorem dX10_list_77 : decode cX10_list 77 = .ok (.aload_n 0, 1) := by decide +kernel
theorem dX10_list_78 : decode cX10_list 78 = .ok (.iconst 5, 1) := by decide +kernel
theorem dX10_list_79 : decode cX10_list 79 = .ok (.invokevirtual 204, 3) := by decide +kernel
theorem dX10_list_82 : decode cX10_list 82 = .ok (.ireturn, 1) := by decide +kernel
def mwX10_listm : List Cond := .code yX10_list cX10_list 6 (some .int) :: (([.methodLink RX10 200 yX10_isFrom, .static yX10_isFrom, .initialized RX10, .methodLink RX10 204 yX10_refuse, .instanceMethod yX10_refuse, .selects RX10 yX10_refuse yX10_refuse, .methodLink RX10 414 yX10_listOf, .instanceMethod yX10_listOf, .selects RX10 yX10_listOf yX10_listOf, .fieldLink RX10 8 "PatternGateModel" "all" "[I", .methodLink RX10 170 yX10_has, .static yX10_has, .methodLink RX10 214 yX10_gives, .instanceMethod yX10_gives, .selects RX10 yX10_gives yX10_gives] : List Cond) ++ (wsX100 ++ (mwX10_isFromm ++ (mwX10_refusem ++ (mwX10_listOfm ++ (mwX10_hasm ++ (mwX10_givesm)))))))
theorem fin_X10_listm_X10 : ∀ w ∈ wsX100, w ∈ mwX10_listm := fun w h => List.mem_cons_of_mem _ (List.mem_append_right _ (List.mem_append_left _ h))
set_option maxRecDepth 20000 in
theorem mg_X10_listm_X10_isFrom_200 : GoodIn mwX10_listm (va_wsS RX10 200 yX10_isFrom mwX10_isFromm) := gi_app (A := [.methodLink RX10 200 yX10_isFrom, .static yX10_isFrom, .initialized RX10]) (goodIn_r _ [1, 2, 3] (by decide +kernel) (by decide +kernel)) (gi_sub gd_mwX10_isFromm (fun w h => List.mem_cons_of_mem _ (List.mem_append_right _ (List.mem_append_right _ (List.mem_append_left _ h)))))
set_option maxRecDepth 20000 in
theorem mg_X10_listm_X10_refuse_204 : GoodIn mwX10_listm (wsV RX10 204 RX10 yX10_refuse mwX10_refusem) := gi_app (A := [.methodLink RX10 204 yX10_refuse, .instanceMethod yX10_refuse, .selects RX10 yX10_refuse yX10_refuse, .initialized RX10]) (goodIn_r _ [4, 5, 6, 3] (by decide +kernel) (by decide +kernel)) (gi_sub gd_mwX10_refusem (fun w h => List.mem_cons_of_mem _ (List.mem_append_right _ (List.mem_append_right _ (List.mem_append_right _ (List.mem_append_left _ h))))))
set_option maxRecDepth 20000 in
theorem mg_X10_listm_X10_listOf_414 : GoodIn mwX10_listm (wsV RX10 414 RX10 yX10_listOf mwX10_listOfm) := gi_app (A := [.methodLink RX10 414 yX10_listOf, .instanceMethod yX10_listOf, .selects RX10 yX10_listOf yX10_listOf, .initialized RX10]) (goodIn_r _ [7, 8, 9, 3] (by decide +kernel) (by decide +kernel)) (gi_sub gd_mwX10_listOfm (fun w h => List.mem_cons_of_mem _ (List.mem_append_right _ (List.mem_append_right _ (List.mem_append_right _ (List.mem_append_right _ (List.mem_append_left _ h)))))))
set_option maxRecDepth 20000 in
theorem mg_X10_listm_X10_has_170 : GoodIn mwX10_listm (va_wsS RX10 170 yX10_has mwX10_hasm) := gi_app (A := [.methodLink RX10 170 yX10_has, .static yX10_has, .initialized RX10]) (goodIn_r _ [11, 12, 3] (by decide +kernel) (by decide +kernel)) (gi_sub gd_mwX10_hasm (fun w h => List.mem_cons_of_mem _ (List.mem_append_right _ (List.mem_append_right _ (List.mem_append_right _ (List.mem_append_right _ (List.mem_append_right _ (List.mem_append_left _ h))))))))
set_option maxRecDepth 20000 in
theorem mg_X10_listm_X10_gives_214 : GoodIn mwX10_listm (wsV RX10 214 RX10 yX10_gives mwX10_givesm) := gi_app (A := [.methodLink RX10 214 yX10_gives, .instanceMethod yX10_gives, .selects RX10 yX10_gives yX10_gives, .initialized RX10]) (goodIn_r _ [13, 14, 15, 3] (by decide +kernel) (by decide +kernel)) (gi_sub gd_mwX10_givesm (fun w h => List.mem_cons_of_mem _ (List.mem_append_right _ (List.mem_append_right _ (List.mem_append_right _ (List.mem_append_right _ (List.mem_append_right _ (List.mem_append_right _ (h)))))))))
set_option maxHeartbeats 4000000 in
set_option maxRecDepth 100000 in
theorem m_list (l : Launch) (dC : Nat → ClassId) (dI : Nat → Nat → Nat) (ad : Nat → Nat) (kc : Nat → ClassId) (x0 x1 x2 x3 x4 x5 x6 x7 x8 x9 x10 x11 x12 x13 x14 x15 x16 x17 x18 x19 x20 x21 : Int32) (f0 f1 f2 f3 f4 f5 f6 f7 f8 f9 f10 f11 f12 f13 f14 f15 f16 f17 f18 f19 f20 f21 : Nat → Int32) (fL : Nat → Nat → Int64) (fN : Nat → Nat → Int32) (fP : Nat → Nat → Nat) (fM : Nat → Nat → Int32) (fO : Nat → Nat → Int32) (sz : Nat) (i1 i2 : Int32) (q0 : mI x1.toInt x2.toInt x3.toInt f0 fP) : Met l yX10_list mwX10_listm ({ frames := 4, cells := 0, slots := 0, locals := 240 }) (va_Pc [.ref (ad 0), .int i1, .int i2] (fun U => U.heap.size = sz ∧ va_P (dC, dI) vwCl (mW ad kc x0 x1 x2 x3 x4 x5 x6 x7 x8 x9 x10 x11 x12 x13 x14 x15 x16 x17 x18 x19 x20 x21 f0 f1 f2 f3 f4 f5 f6 f7 f8 f9 f10 f11 f12 f13 f14 f15 f16 f17 f18 f19 f20 f21 fL fN fP fM fO) U.heap ∧ va_K (dC, dI) vwCl (mT kc) U ∧ va_D (fun _ => True) (mW ad kc x0 x1 x2 x3 x4 x5 x6 x7 x8 x9 x10 x11 x12 x13 x14 x15 x16 x17 x18 x19 x20 x21 f0 f1 f2 f3 f4 f5 f6 f7 f8 f9 f10 f11 f12 f13 f14 f15 f16 f17 f18 f19 f20 f21 fL fN fP fM fO))) (va_Qi (fun (o9 u9 : Int32) => o9 = u9) (fun (o9 : Int32) t => ∃ (y0 : Int32), va_P (dC, dI) vwCl (mW ad kc y0 x1 x2 x3 x4 x5 x6 x7 x8 x9 x10 x11 x12 x13 x14 x15 x16 x17 x18 x19 x20 x21 f0 f1 f2 f3 f4 f5 f6 f7 f8 f9 f10 f11 f12 f13 f14 f15 f16 f17 f18 f19 f20 f21 fL fN fP fM fO) t.heap ∧ va_K (dC, dI) vwCl (mT kc) t ∧ va_D (va_A (mW ad kc x0 x1 x2 x3 x4 x5 x6 x7 x8 x9 x10 x11 x12 x13 x14 x15 x16 x17 x18 x19 x20 x21 f0 f1 f2 f3 f4 f5 f6 f7 f8 f9 f10 f11 f12 f13 f14 f15 f16 f17 f18 f19 f20 f21 fL fN fP fM fO) sz) (mW ad kc y0 x1 x2 x3 x4 x5 x6 x7 x8 x9 x10 x11 x12 x13 x14 x15 x16 x17 x18 x19 x20 x21 f0 f1 f2 f3 f4 f5 f6 f7 f8 f9 f10 f11 f12 f13 f14 f15 f16 f17 f18 f19 f20 f21 fL fN fP fM fO)) (va_A (mW ad kc x0 x1 x2 x3 x4 x5 x6 x7 x8 x9 x10 x11 x12 x13 x14 x15 x16 x17 x18 x19 x20 x21 f0 f1 f2 f3 f4 f5 f6 f7 f8 f9 f10 f11 f12 f13 f14 f15 f16 f17 f18 f19 f20 f21 fL fN fP fM fO) sz)) 0 0 (va_A (mW ad kc x0 x1 x2 x3 x4 x5 x6 x7 x8 x9 x10 x11 x12 x13 x14 x15 x16 x17 x18 x19 x20 x21 f0 f1 f2 f3 f4 f5 f6 f7 f8 f9 f10 f11 f12 f13 f14 f15 f16 f17 f18 f19 f20 f21 fL fN fP fM fO) sz) := by
  refine Met.ofW (cc := cX10_list) (maxL := 6) (ret := (some .int)) (by decide +kernel) rfl ?_
  intro p e s m args below meth c s₁ B hml hv
  obtain ⟨rfl, hsz, hP, hK, hD0⟩ := hv
  have hx := B.exec
  have hb := B.bytes
  have hr := B.returns
  have hts := atoms_spec (ws := mwX10_listm) B.pre
  have hown : s.vm.findClass RX10 = some m.cls := findClass_of_methodNamed B.named
  have hlocks := B.notSynchronized
  subst hsz
  have hD := hD0.self (sz := s.heap.size)
  generalize hAe : va_A (mW ad kc x0 x1 x2 x3 x4 x5 x6 x7 x8 x9 x10 x11 x12 x13 x14 x15 x16 x17 x18 x19 x20 x21 f0 f1 f2 f3 f4 f5 f6 f7 f8 f9 f10 f11 f12 f13 f14 f15 f16 f17 f18 f19 f20 f21 fL fN fP fM fO) s.heap.size = A at hD ⊢
  have hA : ∀ q : Nat, s.heap.size ≤ q → A q := fun q h => by rw [← hAe]; exact Or.inr h
  have hP : va_P (dC, dI) vwCl (mW ad kc x0 x1 x2 x3 x4 x5 x6 x7 x8 x9 x10 x11 x12 x13 x14 x15 x16 x17 x18 x19 x20 x21 f0 f1 f2 f3 f4 f5 f6 f7 f8 f9 f10 f11 f12 f13 f14 f15 f16 f17 f18 f19 f20 f21 fL fN fP fM fO) s.heap := hP
  have hD : va_D A (mW ad kc x0 x1 x2 x3 x4 x5 x6 x7 x8 x9 x10 x11 x12 x13 x14 x15 x16 x17 x18 x19 x20 x21 f0 f1 f2 f3 f4 f5 f6 f7 f8 f9 f10 f11 f12 f13 f14 f15 f16 f17 f18 f19 f20 f21 fL fN fP fM fO) := hD
  have hK : va_K (dC, dI) vwCl (mT kc) s := hK
  generalize hH : s.heap = H at hP ⊢
  have hS : va_S A s.heap H [] := by rw [← hH]; exact va_S.rf
  have hl := lv_entry ([.ref (ad 0), .int i1, .int i2]) (n := 6) (Nat.le_of_ble_eq_true rfl)
  rw [lg_entry_eq]
  generalize (lg_sl ([.ref (ad 0), .int i1, .int i2]) ++ List.replicate (6 - (lg_sl ([.ref (ad 0), .int i1, .int i2])).length) Slot.unset).toArray = ls at hl ⊢
  have hl : lv_has ls 6 [(0, .ref (ad 0)), (1, .int i1), (2, .int i2)] := hl
  have rg_i1 := i_rng i1
  have rg_i2 := i_rng i2
  have hd := q0.d
  have hpi := q0.p
  have hq1 := q0.1
  have hq2 := q0.2.1
  have hq3 := q0.2.2.1
  have hd10 := hd.n0
  have hp8 := hd.P0
  refine lv_iload_n hx hb dX10_list_0 rfl (lv_at hl 1 rfl) ?_
  refine lv_iconst (v := 0) hx hb dX10_list_1 (by decide) ?_
  refine lv_sipush (v := 17575) hx hb dX10_list_2 (by decide) ?_
  refine vp_callSi (W.runS (As := [.int i1, .int 0, .int 17575]) (rest := []) ⟨hx, hb, hml, hown, hts⟩ (m_isFrom l dC dI  i1 0 17575 ) (va_cwS 3 hts mg_X10_listm_X10_isFrom_200 rfl rfl rfl (by decide +kernel) ⟨Nat.le_of_ble_eq_true rfl, Nat.le_of_ble_eq_true rfl⟩) ⟨fun a U g mk q => ⟨q.1, trivial⟩, fun U hU hW => ⟨rfl, trivial⟩⟩ rfl rfl hl.1 rfl (lv_room (Nat.le_of_ble_eq_true rfl)) dX10_list_5 ⟨Nat.le_of_ble_eq_true rfl, Nat.le_of_ble_eq_true rfl⟩) (fun r_1 hr_1 => ?_)
  have rg_r_1 := i_rng r_1
  refine lv_if_eq (tgt := 15) hx hb dX10_list_8 (by decide) (fun k_2 => ?_) (fun k_2 => ?_)
  · have tk_2 := c_eq (a := r_1.toInt) (b := 0) rfl (by decide) k_2
    refine lv_aload_n hx hb dX10_list_15 rfl (lv_at hl 0 rfl) ?_
    refine lv_iconst (v := 1) hx hb dX10_list_16 (by decide) ?_
    have hFc := m_free hD hS hA
    refine va_calli (va_runV (As := [.int 1]) (rest := []) ⟨hx, hb, hml, hown, hts⟩ (m_refuse l dC dI ad kc x0 x1 x2 x3 x4 x5 x6 x7 x8 x9 x10 x11 x12 x13 x14 x15 x16 x17 x18 x19 x20 x21 f0 f1 f2 f3 f4 f5 f6 f7 f8 f9 f10 f11 f12 f13 f14 f15 f16 f17 f18 f19 f20 f21 fL fN fP fM fO H.size 1 ) (cwV 1 hts mg_X10_listm_X10_refuse_204 rfl rfl rfl (by decide +kernel) ⟨Nat.le_of_ble_eq_true rfl, Nat.le_of_ble_eq_true rfl⟩) ⟨fun a U g mk q => by obtain ⟨q0, q1, qP, qK, qD⟩ := q; exact ⟨q0, q1, qP, va_K.moved (u := U) (U := U.calling g mk a) (Vm.Alike.refl U.vm) qK, qD⟩, va_recv hK hP (ci := 10) (q0 := 0) rfl rfl, fun U hU hW => ⟨rfl, by rw [hU], by rw [hU]; exact hP, va_K.moved hW.alike hK, hD.weaken (fun _ _ _ _ => trivial)⟩⟩ rfl rfl hl.1 rfl (lv_room (Nat.le_of_ble_eq_true rfl)) dX10_list_17 ⟨Nat.le_of_ble_eq_true rfl, Nat.le_of_ble_eq_true rfl⟩) hS (fun q _ h => hFc q h) hFc (fun r_3 u t H1 locs ht hvm hw hB hz1 hk1 hS => ?_)
    subst hw
    obtain ⟨hr_3_0, hP, hK1, hD1⟩ := hB
    rw [ht] at hP
    have hD := hD1.weaken (fun k q _ h => hFc q.1 h)
    clear hz1 hk1 hFc hD1 hK1 hvm
    generalize H1 = H at hP hS ⊢
    have rg_r_3 := i_rng r_3
    have hP : va_P (dC, dI) vwCl (mW ad kc 1 x1 x2 x3 x4 x5 x6 x7 x8 x9 x10 x11 x12 x13 x14 x15 x16 x17 x18 x19 x20 x21 f0 f1 f2 f3 f4 f5 f6 f7 f8 f9 f10 f11 f12 f13 f14 f15 f16 f17 f18 f19 f20 f21 fL fN fP fM fO) H := hP
    have hD : va_D A (mW ad kc 1 x1 x2 x3 x4 x5 x6 x7 x8 x9 x10 x11 x12 x13 x14 x15 x16 x17 x18 x19 x20 x21 f0 f1 f2 f3 f4 f5 f6 f7 f8 f9 f10 f11 f12 f13 f14 f15 f16 f17 f18 f19 f20 f21 fL fN fP fM fO) := hD
    have lit_3 : (1 : Int32).toInt = 1 := by decide
    exact W.iret hx hb hr (fun t ht hW => ⟨⟨_, _, rfl, rfl, 1, by rw [ht]; exact hP, va_K.moved hW.alike hK, hD⟩, hS.F ht⟩) hS.2.2 dX10_list_20
  · have tk_2 := c_ne (a := r_1.toInt) (b := 0) rfl (by decide) k_2
    refine lv_iload_n hx hb dX10_list_11 rfl (lv_at hl 2 rfl) ?_
    refine lv_if_ge (tgt := 21) hx hb dX10_list_12 (by decide) (fun k_5 => ?_) (fun k_5 => ?_)
    · have tk_5 := c_ge (a := i2.toInt) (b := 0) rfl (by decide) k_5
      refine lv_iload_n hx hb dX10_list_21 rfl (lv_at hl 2 rfl) ?_
      refine lv_istore_n (lv' := [(3, .int i2), (0, .ref (ad 0)), (1, .int i1), (2, .int i2)]) hx hb dX10_list_22 rfl hl (by decide) rfl (fun ls hl => ?_)
      refine lv_aload_n hx hb dX10_list_23 rfl (lv_at hl 1 rfl) ?_
      refine lv_iload_n hx hb dX10_list_24 rfl (lv_at hl 2 rfl) ?_
      have hFc := m_free hD hS hA
      refine va_calli (va_runV (As := [.int i1]) (rest := []) ⟨hx, hb, hml, hown, hts⟩ (m_listOf l dC dI ad kc x0 x1 x2 x3 x4 x5 x6 x7 x8 x9 x10 x11 x12 x13 x14 x15 x16 x17 x18 x19 x20 x21 f0 f1 f2 f3 f4 f5 f6 f7 f8 f9 f10 f11 f12 f13 f14 f15 f16 f17 f18 f19 f20 f21 fL fN fP fM fO H.size i1 (by first | omega | assumption | decide | (have l0 := Int32.toInt_zero; omega))) (cwV 1 hts mg_X10_listm_X10_listOf_414 rfl rfl rfl (by decide +kernel) ⟨Nat.le_of_ble_eq_true rfl, Nat.le_of_ble_eq_true rfl⟩) ⟨fun a U g mk q => by obtain ⟨q0, q1, qP, qK, qD⟩ := q; exact ⟨q0, q1, qP, va_K.moved (u := U) (U := U.calling g mk a) (Vm.Alike.refl U.vm) qK, qD⟩, va_recv hK hP (ci := 10) (q0 := 0) rfl rfl, fun U hU hW => ⟨rfl, by rw [hU], by rw [hU]; exact hP, va_K.moved hW.alike hK, hD.weaken (fun _ _ _ _ => trivial)⟩⟩ rfl rfl hl.1 rfl (lv_room (Nat.le_of_ble_eq_true rfl)) dX10_list_25 ⟨Nat.le_of_ble_eq_true rfl, Nat.le_of_ble_eq_true rfl⟩) hS (fun q _ h => hFc q h) hFc (fun r_6 u t H1 locs ht hvm hw hB hz1 hk1 hS => ?_)
      subst hw
      obtain ⟨hP, hK1, hD1⟩ := hB
      rw [ht] at hP
      have hD := hD1.weaken (fun k q _ h => hFc q.1 h)
      clear hz1 hk1 hFc hD1 hK1 hvm
      generalize H1 = H at hP hS ⊢
      have rg_r_6 := i_rng r_6
      have hP : va_P (dC, dI) vwCl (mW ad kc x0 x1 x2 x3 x4 x5 x6 x7 x8 x9 x10 x11 x12 x13 x14 x15 x16 x17 x18 x19 x20 x21 f0 f1 f2 f3 f4 f5 f6 f7 f8 f9 f10 f11 f12 f13 f14 f15 f16 f17 f18 f19 f20 f21 fL fN fP fM fO) H := hP
      have hD : va_D A (mW ad kc x0 x1 x2 x3 x4 x5 x6 x7 x8 x9 x10 x11 x12 x13 x14 x15 x16 x17 x18 x19 x20 x21 f0 f1 f2 f3 f4 f5 f6 f7 f8 f9 f10 f11 f12 f13 f14 f15 f16 f17 f18 f19 f20 f21 fL fN fP fM fO) := hD
      refine lv_istore (lv' := [(4, .int r_6), (3, .int i2), (0, .ref (ad 0)), (1, .int i1), (2, .int i2)]) hx hb dX10_list_28 hl (by decide) rfl (fun ls hl => ?_)
      refine lv_iconst (v := 0) hx hb dX10_list_30 (by decide) ?_
      refine lv_istore (lv' := [(5, .int 0), (4, .int r_6), (3, .int i2), (0, .ref (ad 0)), (1, .int i1), (2, .int i2)]) hx hb dX10_list_31 hl (by decide) rfl (fun ls hl => ?_)
      have loop33 : ∀ (lm33 : Nat) (le kk : Int32), (0 ≤ kk.toInt ∧ kk.toInt ≤ 10) → ((10 - kk.toInt).toNat) < lm33 → ∀ (H : Heap) (locs : List Loc) (ls : Array Slot), va_P (dC, dI) vwCl (mW ad kc x0 x1 x2 x3 x4 x5 x6 x7 x8 x9 x10 x11 x12 x13 x14 x15 x16 x17 x18 x19 x20 x21 f0 f1 f2 f3 f4 f5 f6 f7 f8 f9 f10 f11 f12 f13 f14 f15 f16 f17 f18 f19 f20 f21 fL fN fP fM fO) H → va_D A (mW ad kc x0 x1 x2 x3 x4 x5 x6 x7 x8 x9 x10 x11 x12 x13 x14 x15 x16 x17 x18 x19 x20 x21 f0 f1 f2 f3 f4 f5 f6 f7 f8 f9 f10 f11 f12 f13 f14 f15 f16 f17 f18 f19 f20 f21 fL fN fP fM fO) → va_S A s.heap H locs → lv_has ls 6 [(5, .int kk), (4, .int r_6), (3, .int le), (0, .ref (ad 0)), (1, .int i1), (2, .int i2)] → W p l e (headSpec mwX10_listm ({ frames := 4, cells := 0, slots := 0, locals := 240 })).room s m ([.ref (ad 0), .int i1, .int i2]).toArray below meth c H locs 0 0 (MQ below (va_Qi (fun (o9 u9 : Int32) => o9 = u9) (fun (o9 : Int32) t => ∃ (y0 : Int32), va_P (dC, dI) vwCl (mW ad kc y0 x1 x2 x3 x4 x5 x6 x7 x8 x9 x10 x11 x12 x13 x14 x15 x16 x17 x18 x19 x20 x21 f0 f1 f2 f3 f4 f5 f6 f7 f8 f9 f10 f11 f12 f13 f14 f15 f16 f17 f18 f19 f20 f21 fL fN fP fM fO) t.heap ∧ va_K (dC, dI) vwCl (mT kc) t ∧ va_D A (mW ad kc y0 x1 x2 x3 x4 x5 x6 x7 x8 x9 x10 x11 x12 x13 x14 x15 x16 x17 x18 x19 x20 x21 f0 f1 f2 f3 f4 f5 f6 f7 f8 f9 f10 f11 f12 f13 f14 f15 f16 f17 f18 f19 f20 f21 fL fN fP fM fO)) A) ([.ref (ad 0), .int i1, .int i2]).toArray s 0 0 A) (F0 m 33 ls []) := by
        intro lm33
        induction lm33 with
        | zero => intro le kk v33_0 hm33; exact absurd hm33 (Nat.not_lt_zero _)
        | succ lm33 ih33 =>
          intro le kk v33_0 hm33 H locs ls hP hD hS hl
          have rg_le := i_rng le
          have rg_kk := i_rng kk
          refine lv_iload hx hb dX10_list_33 (lv_at hl 0 rfl) ?_
          refine lv_aload_n hx hb dX10_list_35 rfl (lv_at hl 3 rfl) ?_
          refine va_get (D := (dC, dI)) (ci := 10) (v := .ref (ad 1)) (C := RX10) (T := TX10) (N := 48) hx hb hts fin_X10_listm_X10 hown hK hP 0 rfl rfl 0 (by decide) (hts (.fieldLink RX10 8 "PatternGateModel" "all" "[I") (List.mem_of_getElem? (i := 10) (by decide +kernel))) (fun _ h9 => h9) rfl dX10_list_36 ?_
          refine lv_iconst (v := 0) hx hb dX10_list_39 (by decide) ?_
          refine va_iald hx hb hK hP 1 0 rfl rfl (i := 0) (by unfold vp_in; decide +kernel) dX10_list_40 ?_
          refine lv_topi (fun y_7 ey_7 => ?_)
          have rg_y_7 := i_rng y_7
          have vy_7 := vI_lda (f := f0) (i := 0) (a := 0) ey_7 (by first | omega | decide)
          have rg_y_7 := i_rng y_7
          refine lv_icmp_ge (tgt := 77) hx hb dX10_list_41 (by decide) (fun k_8 => ?_) (fun k_8 => ?_)
          · have tk_8 := c_ge (a := kk.toInt) (b := y_7.toInt) rfl rfl k_8
            refine lv_aload_n hx hb dX10_list_77 rfl (lv_at hl 3 rfl) ?_
            refine lv_iconst (v := 5) hx hb dX10_list_78 (by decide) ?_
            have hFc := m_free hD hS hA
            refine va_calli (va_runV (As := [.int 5]) (rest := []) ⟨hx, hb, hml, hown, hts⟩ (m_refuse l dC dI ad kc x0 x1 x2 x3 x4 x5 x6 x7 x8 x9 x10 x11 x12 x13 x14 x15 x16 x17 x18 x19 x20 x21 f0 f1 f2 f3 f4 f5 f6 f7 f8 f9 f10 f11 f12 f13 f14 f15 f16 f17 f18 f19 f20 f21 fL fN fP fM fO H.size 5 ) (cwV 1 hts mg_X10_listm_X10_refuse_204 rfl rfl rfl (by decide +kernel) ⟨Nat.le_of_ble_eq_true rfl, Nat.le_of_ble_eq_true rfl⟩) ⟨fun a U g mk q => by obtain ⟨q0, q1, qP, qK, qD⟩ := q; exact ⟨q0, q1, qP, va_K.moved (u := U) (U := U.calling g mk a) (Vm.Alike.refl U.vm) qK, qD⟩, va_recv hK hP (ci := 10) (q0 := 0) rfl rfl, fun U hU hW => ⟨rfl, by rw [hU], by rw [hU]; exact hP, va_K.moved hW.alike hK, hD.weaken (fun _ _ _ _ => trivial)⟩⟩ rfl rfl hl.1 rfl (lv_room (Nat.le_of_ble_eq_true rfl)) dX10_list_79 ⟨Nat.le_of_ble_eq_true rfl, Nat.le_of_ble_eq_true rfl⟩) hS (fun q _ h => hFc q h) hFc (fun r_9 u t H1 locs ht hvm hw hB hz1 hk1 hS => ?_)
            subst hw
            obtain ⟨hr_9_0, hP, hK1, hD1⟩ := hB
            rw [ht] at hP
            have hD := hD1.weaken (fun k q _ h => hFc q.1 h)
            clear hz1 hk1 hFc hD1 hK1 hvm
            generalize H1 = H at hP hS ⊢
            have rg_r_9 := i_rng r_9
            have hP : va_P (dC, dI) vwCl (mW ad kc 5 x1 x2 x3 x4 x5 x6 x7 x8 x9 x10 x11 x12 x13 x14 x15 x16 x17 x18 x19 x20 x21 f0 f1 f2 f3 f4 f5 f6 f7 f8 f9 f10 f11 f12 f13 f14 f15 f16 f17 f18 f19 f20 f21 fL fN fP fM fO) H := hP
            have hD : va_D A (mW ad kc 5 x1 x2 x3 x4 x5 x6 x7 x8 x9 x10 x11 x12 x13 x14 x15 x16 x17 x18 x19 x20 x21 f0 f1 f2 f3 f4 f5 f6 f7 f8 f9 f10 f11 f12 f13 f14 f15 f16 f17 f18 f19 f20 f21 fL fN fP fM fO) := hD
            have lit_9 : (5 : Int32).toInt = 5 := by decide
            exact W.iret hx hb hr (fun t ht hW => ⟨⟨_, _, rfl, rfl, 5, by rw [ht]; exact hP, va_K.moved hW.alike hK, hD⟩, hS.F ht⟩) hS.2.2 dX10_list_82
          · have tk_8 := c_nge (a := kk.toInt) (b := y_7.toInt) rfl rfl k_8
            refine lv_iload hx hb dX10_list_44 (lv_at hl 1 rfl) ?_
            refine lv_iload hx hb dX10_list_46 (lv_at hl 0 rfl) ?_
            refine vp_callSi (W.runS (As := [.int r_6, .int kk]) (rest := []) ⟨hx, hb, hml, hown, hts⟩ (m_has l dC dI  r_6 kk ) (va_cwS 2 hts mg_X10_listm_X10_has_170 rfl rfl rfl (by decide +kernel) ⟨Nat.le_of_ble_eq_true rfl, Nat.le_of_ble_eq_true rfl⟩) ⟨fun a U g mk q => ⟨q.1, trivial⟩, fun U hU hW => ⟨rfl, trivial⟩⟩ rfl rfl hl.1 rfl (lv_room (Nat.le_of_ble_eq_true rfl)) dX10_list_48 ⟨Nat.le_of_ble_eq_true rfl, Nat.le_of_ble_eq_true rfl⟩) (fun r_11 hr_11 => ?_)
            have rg_r_11 := i_rng r_11
            refine lv_if_ne (tgt := 57) hx hb dX10_list_51 (by decide) (fun k_12 => ?_) (fun k_12 => ?_)
            · have tk_12 := c_ne (a := r_11.toInt) (b := 0) rfl (by decide) k_12
              refine lv_iload_n hx hb dX10_list_57 rfl (lv_at hl 2 rfl) ?_
              refine lv_if_ne (tgt := 68) hx hb dX10_list_58 (by decide) (fun k_13 => ?_) (fun k_13 => ?_)
              · have tk_13 := c_ne (a := le.toInt) (b := 0) rfl (by decide) k_13
                obtain ⟨y_14, ey_14⟩ : ∃ y : Int32, y = le + (-1) := ⟨_, rfl⟩
                first | have ty_14 := i_add (a := le.toInt) (b := (-1)) rfl (by decide) ey_14 (by omega) (by omega) | skip
                refine lv_iinc (v := y_14) (lv' := [(3, .int y_14), (5, .int kk), (4, .int r_6), (0, .ref (ad 0)), (1, .int i1), (2, .int i2)]) hx hb dX10_list_68 hl (k := 2) rfl (by rw [ey_14]; rfl) (by decide) rfl (fun ls hl => ?_)
                obtain ⟨y_15, ey_15⟩ : ∃ y : Int32, y = kk + 1 := ⟨_, rfl⟩
                first | have ty_15 := i_add (a := kk.toInt) (b := 1) rfl (by decide) ey_15 (by omega) (by omega) | skip
                refine lv_iinc (v := y_15) (lv' := [(5, .int y_15), (3, .int y_14), (4, .int r_6), (0, .ref (ad 0)), (1, .int i1), (2, .int i2)]) hx hb dX10_list_71 hl (k := 1) rfl (by rw [ey_15]; rfl) (by decide) rfl (fun ls hl => ?_)
                refine lv_goto (tgt := 33) hx hb dX10_list_74 (by decide) ?_
                exact ih33 y_14 y_15 (by first | omega | assumption | decide) (by omega) _ _ ls hP hD hS (lv_sub hl [0, 2, 1, 3, 4, 5] rfl)
              · have tk_13 := c_eq (a := le.toInt) (b := 0) rfl (by decide) k_13
                refine lv_aload_n hx hb dX10_list_61 rfl (lv_at hl 3 rfl) ?_
                refine lv_iload hx hb dX10_list_62 (lv_at hl 0 rfl) ?_
                have hFc := m_free hD hS hA
                refine va_calli (va_runV (As := [.int kk]) (rest := []) ⟨hx, hb, hml, hown, hts⟩ (m_gives l dC dI ad kc x0 x1 x2 x3 x4 x5 x6 x7 x8 x9 x10 x11 x12 x13 x14 x15 x16 x17 x18 x19 x20 x21 f0 f1 f2 f3 f4 f5 f6 f7 f8 f9 f10 f11 f12 f13 f14 f15 f16 f17 f18 f19 f20 f21 fL fN fP fM fO H.size kk ) (cwV 1 hts mg_X10_listm_X10_gives_214 rfl rfl rfl (by decide +kernel) ⟨Nat.le_of_ble_eq_true rfl, Nat.le_of_ble_eq_true rfl⟩) ⟨fun a U g mk q => by obtain ⟨q0, q1, qP, qK, qD⟩ := q; exact ⟨q0, q1, qP, va_K.moved (u := U) (U := U.calling g mk a) (Vm.Alike.refl U.vm) qK, qD⟩, va_recv hK hP (ci := 10) (q0 := 0) rfl rfl, fun U hU hW => ⟨rfl, by rw [hU], by rw [hU]; exact hP, va_K.moved hW.alike hK, hD.weaken (fun _ _ _ _ => trivial)⟩⟩ rfl rfl hl.1 rfl (lv_room (Nat.le_of_ble_eq_true rfl)) dX10_list_64 ⟨Nat.le_of_ble_eq_true rfl, Nat.le_of_ble_eq_true rfl⟩) hS (fun q _ h => hFc q h) hFc (fun r_16 u t H1 locs ht hvm hw hB hz1 hk1 hS => ?_)
                subst hw
                obtain ⟨hr_16_0, hP, hK1, hD1⟩ := hB
                rw [ht] at hP
                have hD := hD1.weaken (fun k q _ h => hFc q.1 h)
                clear hz1 hk1 hFc hD1 hK1 hvm
                generalize H1 = H at hP hS ⊢
                have rg_r_16 := i_rng r_16
                have hP : va_P (dC, dI) vwCl (mW ad kc 0 x1 x2 x3 x4 x5 x6 x7 x8 x9 x10 x11 x12 x13 x14 x15 x16 x17 x18 x19 x20 x21 f0 f1 f2 f3 f4 f5 f6 f7 f8 f9 f10 f11 f12 f13 f14 f15 f16 f17 f18 f19 f20 f21 fL fN fP fM fO) H := hP
                have hD : va_D A (mW ad kc 0 x1 x2 x3 x4 x5 x6 x7 x8 x9 x10 x11 x12 x13 x14 x15 x16 x17 x18 x19 x20 x21 f0 f1 f2 f3 f4 f5 f6 f7 f8 f9 f10 f11 f12 f13 f14 f15 f16 f17 f18 f19 f20 f21 fL fN fP fM fO) := hD
                have lit_16 : (0 : Int32).toInt = 0 := by decide
                exact W.iret hx hb hr (fun t ht hW => ⟨⟨_, _, rfl, rfl, 0, by rw [ht]; exact hP, va_K.moved hW.alike hK, hD⟩, hS.F ht⟩) hS.2.2 dX10_list_67
            · have tk_12 := c_eq (a := r_11.toInt) (b := 0) rfl (by decide) k_12
              refine lv_goto (tgt := 71) hx hb dX10_list_54 (by decide) ?_
              obtain ⟨y_18, ey_18⟩ : ∃ y : Int32, y = kk + 1 := ⟨_, rfl⟩
              first | have ty_18 := i_add (a := kk.toInt) (b := 1) rfl (by decide) ey_18 (by omega) (by omega) | skip
              refine lv_iinc (v := y_18) (lv' := [(5, .int y_18), (4, .int r_6), (3, .int le), (0, .ref (ad 0)), (1, .int i1), (2, .int i2)]) hx hb dX10_list_71 hl (k := 0) rfl (by rw [ey_18]; rfl) (by decide) rfl (fun ls hl => ?_)
              refine lv_goto (tgt := 33) hx hb dX10_list_74 (by decide) ?_
              exact ih33 le y_18 (by first | omega | assumption | decide) (by omega) _ _ ls hP hD hS (lv_sub hl [0, 1, 2, 3, 4, 5] rfl)
      have lit_18 : (0 : Int32).toInt = 0 := by decide
      exact loop33 _ i2 0 (by first | omega | assumption | decide) (Nat.lt_succ_self _) _ _ ls hP hD hS (lv_sub hl [0, 1, 2, 3, 4, 5] rfl)
    · have tk_5 := c_nge (a := i2.toInt) (b := 0) rfl (by decide) k_5
      refine lv_aload_n hx hb dX10_list_15 rfl (lv_at hl 0 rfl) ?_
      refine lv_iconst (v := 1) hx hb dX10_list_16 (by decide) ?_
      have hFc := m_free hD hS hA
      refine va_calli (va_runV (As := [.int 1]) (rest := []) ⟨hx, hb, hml, hown, hts⟩ (m_refuse l dC dI ad kc x0 x1 x2 x3 x4 x5 x6 x7 x8 x9 x10 x11 x12 x13 x14 x15 x16 x17 x18 x19 x20 x21 f0 f1 f2 f3 f4 f5 f6 f7 f8 f9 f10 f11 f12 f13 f14 f15 f16 f17 f18 f19 f20 f21 fL fN fP fM fO H.size 1 ) (cwV 1 hts mg_X10_listm_X10_refuse_204 rfl rfl rfl (by decide +kernel) ⟨Nat.le_of_ble_eq_true rfl, Nat.le_of_ble_eq_true rfl⟩) ⟨fun a U g mk q => by obtain ⟨q0, q1, qP, qK, qD⟩ := q; exact ⟨q0, q1, qP, va_K.moved (u := U) (U := U.calling g mk a) (Vm.Alike.refl U.vm) qK, qD⟩, va_recv hK hP (ci := 10) (q0 := 0) rfl rfl, fun U hU hW => ⟨rfl, by rw [hU], by rw [hU]; exact hP, va_K.moved hW.alike hK, hD.weaken (fun _ _ _ _ => trivial)⟩⟩ rfl rfl hl.1 rfl (lv_room (Nat.le_of_ble_eq_true rfl)) dX10_list_17 ⟨Nat.le_of_ble_eq_true rfl, Nat.le_of_ble_eq_true rfl⟩) hS (fun q _ h => hFc q h) hFc (fun r_20 u t H1 locs ht hvm hw hB hz1 hk1 hS => ?_)
      subst hw
      obtain ⟨hr_20_0, hP, hK1, hD1⟩ := hB
      rw [ht] at hP
      have hD := hD1.weaken (fun k q _ h => hFc q.1 h)
      clear hz1 hk1 hFc hD1 hK1 hvm
      generalize H1 = H at hP hS ⊢
      have rg_r_20 := i_rng r_20
      have hP : va_P (dC, dI) vwCl (mW ad kc 1 x1 x2 x3 x4 x5 x6 x7 x8 x9 x10 x11 x12 x13 x14 x15 x16 x17 x18 x19 x20 x21 f0 f1 f2 f3 f4 f5 f6 f7 f8 f9 f10 f11 f12 f13 f14 f15 f16 f17 f18 f19 f20 f21 fL fN fP fM fO) H := hP
      have hD : va_D A (mW ad kc 1 x1 x2 x3 x4 x5 x6 x7 x8 x9 x10 x11 x12 x13 x14 x15 x16 x17 x18 x19 x20 x21 f0 f1 f2 f3 f4 f5 f6 f7 f8 f9 f10 f11 f12 f13 f14 f15 f16 f17 f18 f19 f20 f21 fL fN fP fM fO) := hD
      have lit_20 : (1 : Int32).toInt = 1 := by decide
      exact W.iret hx hb hr (fun t ht hW => ⟨⟨_, _, rfl, rfl, 1, by rw [ht]; exact hP, va_K.moved hW.alike hK, hD⟩, hS.F ht⟩) hS.2.2 dX10_list_20
theorem dX10_often_0 : decode cX10_often 0 = .ok (.iload_n 2, 1) := by decide +kernel
theorem dX10_often_1 : decode cX10_often 1 = .ok (.iconst 0, 1) := by decide +kernel
theorem dX10_often_2 : decode cX10_often 2 = .ok (.sipush 17575, 3) := by decide +kernel
theorem dX10_often_5 : decode cX10_often 5 = .ok (.invokestatic 200, 3) := by decide +kernel
theorem dX10_often_8 : decode cX10_often 8 = .ok (.ifCond .ne 9, 3) := by decide +kernel
theorem dX10_often_11 : decode cX10_often 11 = .ok (.aload_n 0, 1) := by decide +kernel
theorem dX10_often_12 : decode cX10_often 12 = .ok (.iconst 1, 1) := by decide +kernel
theorem dX10_often_13 : decode cX10_often 13 = .ok (.invokevirtual 204, 3) := by decide +kernel
theorem dX10_often_16 : decode cX10_often 16 = .ok (.ireturn, 1) := by decide +kernel
theorem dX10_often_17 : decode cX10_often 17 = .ok (.aload_n 0, 1) := by decide +kernel
theorem dX10_often_18 : decode cX10_often 18 = .ok (.iload_n 1, 1) := by decide +kernel
theorem dX10_often_19 : decode cX10_often 19 = .ok (.invokevirtual 451, 3) := by decide +kernel
theorem dX10_often_22 : decode cX10_often 22 = .ok (.ifCond .ne 9, 3) := by decide +kernel
theorem dX10_often_25 : decode cX10_often 25 = .ok (.aload_n 0, 1) := by decide +kernel
theorem dX10_often_26 : decode cX10_often 26 = .ok (.iconst 2, 1) := by decide +kernel
theorem dX10_often_27 : decode cX10_often 27 = .ok (.invokevirtual 204, 3) := by decide +kernel
theorem dX10_often_30 : decode cX10_often 30 = .ok (.ireturn, 1) := by decide +kernel
theorem dX10_often_31 : decode cX10_often 31 = .ok (.iconst 0, 1) := by decide +kernel
theorem dX10_often_32 : decode cX10_often 32 = .ok (.istore_n 3, 1) := by decide +kernel
theorem dX10_often_33 : decode cX10_often 33 = .ok (.iconst 0, 1) := by decide +kernel
theorem dX10_often_34 : decode cX10_often 34 = .ok (.istore 4, 2) := by decide +kernel
theorem dX10_often_36 : decode cX10_often 36 = .ok (.iload 4, 2) := by decide +kernel
theorem dX10_often_38 : decode cX10_often 38 = .ok (.iconst 2, 1) := by decide +kernel
theorem dX10_often_39 : decode cX10_often 39 = .ok (.iadd, 1) := by decide +kernel
theorem dX10_often_40 : decode cX10_often 40 = .ok (.aload_n 0, 1) := by decide +kernel
theorem dX10_often_41 : decode cX10_often 41 = .ok (.iload_n 1, 1) := by decide +kernel
theorem dX10_often_42 : decode cX10_often 42 = .ok (.invokevirtual 396, 3) := by decide +kernel
theorem dX10_often_45 : decode cX10_often 45 = .ok (.if_icmp .ge 28, 3) := by decide +kernel
theorem dX10_often_48 : decode cX10_often 48 = .ok (.iload_n 3, 1) := by decide +kernel
theorem dX10_often_49 : decode cX10_often 49 = .ok (.aload_n 0, 1) := by decide +kernel
theorem dX10_often_50 : decode cX10_often 50 = .ok (.iload_n 1, 1) := by decide +kernel
theorem dX10_often_51 : decode cX10_often 51 = .ok (.iload 4, 2) := by decide +kernel
theorem dX10_often_53 : decode cX10_often 53 = .ok (.invokevirtual 408, 3) := by decide +kernel
theorem dX10_often_56 : decode cX10_often 56 = .ok (.iload_n 2, 1) := by decide +kernel
theorem dX10_often_57 : decode cX10_often 57 = .ok (.if_icmp .ne 7, 3) := by decide +kernel
theorem dX10_often_60 : decode cX10_often 60 = .ok (.iconst 1, 1) := by decide +kernel
theorem dX10_often_61 : decode cX10_often 61 = .ok (.goto 4, 3) := by decide +kernel
theorem dX10_often_64 : decode cX10_often 64 = .ok (.iconst 0, 1) := by decide +kernel
theorem dX10_often_65 : decode cX10_often 65 = .ok (.iadd, 1) := by decide +kernel
theorem dX10_often_66 : decode cX10_often 66 = .ok (.istore_n 3, 1) := by decide +kernel
theorem dX10_often_67 : decode cX10_often 67 = .ok (.iinc 4 1, 3) := by decide +kernel
theorem dX10_often_70 : decode cX10_often 70 = .ok (.goto (-34), 3) := by decide +kernel
theorem dX10_often_73 : decode cX10_often 73 = .ok (.aload_n 0, 1) := by decide +kernel
theorem dX10_often_74 : decode cX10_often 74 = .ok (.iload_n 3, 1) := by decide +kernel
theorem dX10_often_75 : decode cX10_often 75 = .ok (.invokevirtual 214, 3) := by decide +kernel
theorem dX10_often_78 : decode cX10_often 78 = .ok (.ireturn, 1) := by decide +kernel
def mwX10_oftenm : List Cond := .code yX10_often cX10_often 5 (some .int) :: (([.methodLink RX10 200 yX10_isFrom, .static yX10_isFrom, .initialized RX10, .methodLink RX10 451 yX10_isDoc, .instanceMethod yX10_isDoc, .selects RX10 yX10_isDoc yX10_isDoc, .methodLink RX10 396 yX10_sizeOf, .instanceMethod yX10_sizeOf, .selects RX10 yX10_sizeOf yX10_sizeOf, .methodLink RX10 214 yX10_gives, .instanceMethod yX10_gives, .selects RX10 yX10_gives yX10_gives, .methodLink RX10 408 yX10_tripleAt, .instanceMethod yX10_tripleAt, .selects RX10 yX10_tripleAt yX10_tripleAt, .methodLink RX10 204 yX10_refuse, .instanceMethod yX10_refuse, .selects RX10 yX10_refuse yX10_refuse] : List Cond) ++ (mwX10_isFromm ++ (mwX10_isDocm ++ (mwX10_sizeOfm ++ (mwX10_givesm ++ (mwX10_tripleAtm ++ (mwX10_refusem)))))))
set_option maxRecDepth 20000 in
theorem mg_X10_oftenm_X10_isFrom_200 : GoodIn mwX10_oftenm (va_wsS RX10 200 yX10_isFrom mwX10_isFromm) := gi_app (A := [.methodLink RX10 200 yX10_isFrom, .static yX10_isFrom, .initialized RX10]) (goodIn_r _ [1, 2, 3] (by decide +kernel) (by decide +kernel)) (gi_sub gd_mwX10_isFromm (fun w h => List.mem_cons_of_mem _ (List.mem_append_right _ (List.mem_append_left _ h))))
set_option maxRecDepth 20000 in
theorem mg_X10_oftenm_X10_isDoc_451 : GoodIn mwX10_oftenm (wsV RX10 451 RX10 yX10_isDoc mwX10_isDocm) := gi_app (A := [.methodLink RX10 451 yX10_isDoc, .instanceMethod yX10_isDoc, .selects RX10 yX10_isDoc yX10_isDoc, .initialized RX10]) (goodIn_r _ [4, 5, 6, 3] (by decide +kernel) (by decide +kernel)) (gi_sub gd_mwX10_isDocm (fun w h => List.mem_cons_of_mem _ (List.mem_append_right _ (List.mem_append_right _ (List.mem_append_left _ h)))))
set_option maxRecDepth 20000 in
theorem mg_X10_oftenm_X10_sizeOf_396 : GoodIn mwX10_oftenm (wsV RX10 396 RX10 yX10_sizeOf mwX10_sizeOfm) := gi_app (A := [.methodLink RX10 396 yX10_sizeOf, .instanceMethod yX10_sizeOf, .selects RX10 yX10_sizeOf yX10_sizeOf, .initialized RX10]) (goodIn_r _ [7, 8, 9, 3] (by decide +kernel) (by decide +kernel)) (gi_sub gd_mwX10_sizeOfm (fun w h => List.mem_cons_of_mem _ (List.mem_append_right _ (List.mem_append_right _ (List.mem_append_right _ (List.mem_append_left _ h))))))
set_option maxRecDepth 20000 in
theorem mg_X10_oftenm_X10_gives_214 : GoodIn mwX10_oftenm (wsV RX10 214 RX10 yX10_gives mwX10_givesm) := gi_app (A := [.methodLink RX10 214 yX10_gives, .instanceMethod yX10_gives, .selects RX10 yX10_gives yX10_gives, .initialized RX10]) (goodIn_r _ [10, 11, 12, 3] (by decide +kernel) (by decide +kernel)) (gi_sub gd_mwX10_givesm (fun w h => List.mem_cons_of_mem _ (List.mem_append_right _ (List.mem_append_right _ (List.mem_append_right _ (List.mem_append_right _ (List.mem_append_left _ h)))))))
set_option maxRecDepth 20000 in
theorem mg_X10_oftenm_X10_tripleAt_408 : GoodIn mwX10_oftenm (wsV RX10 408 RX10 yX10_tripleAt mwX10_tripleAtm) := gi_app (A := [.methodLink RX10 408 yX10_tripleAt, .instanceMethod yX10_tripleAt, .selects RX10 yX10_tripleAt yX10_tripleAt, .initialized RX10]) (goodIn_r _ [13, 14, 15, 3] (by decide +kernel) (by decide +kernel)) (gi_sub gd_mwX10_tripleAtm (fun w h => List.mem_cons_of_mem _ (List.mem_append_right _ (List.mem_append_right _ (List.mem_append_right _ (List.mem_append_right _ (List.mem_append_right _ (List.mem_append_left _ h))))))))
set_option maxRecDepth 20000 in
theorem mg_X10_oftenm_X10_refuse_204 : GoodIn mwX10_oftenm (wsV RX10 204 RX10 yX10_refuse mwX10_refusem) := gi_app (A := [.methodLink RX10 204 yX10_refuse, .instanceMethod yX10_refuse, .selects RX10 yX10_refuse yX10_refuse, .initialized RX10]) (goodIn_r _ [16, 17, 18, 3] (by decide +kernel) (by decide +kernel)) (gi_sub gd_mwX10_refusem (fun w h => List.mem_cons_of_mem _ (List.mem_append_right _ (List.mem_append_right _ (List.mem_append_right _ (List.mem_append_right _ (List.mem_append_right _ (List.mem_append_right _ (h)))))))))
set_option maxHeartbeats 4000000 in
set_option maxRecDepth 100000 in
theorem m_often (l : Launch) (dC : Nat → ClassId) (dI : Nat → Nat → Nat) (ad : Nat → Nat) (kc : Nat → ClassId) (x0 x1 x2 x3 x4 x5 x6 x7 x8 x9 x10 x11 x12 x13 x14 x15 x16 x17 x18 x19 x20 x21 : Int32) (f0 f1 f2 f3 f4 f5 f6 f7 f8 f9 f10 f11 f12 f13 f14 f15 f16 f17 f18 f19 f20 f21 : Nat → Int32) (fL : Nat → Nat → Int64) (fN : Nat → Nat → Int32) (fP : Nat → Nat → Nat) (fM : Nat → Nat → Int32) (fO : Nat → Nat → Int32) (sz : Nat) (i1 i2 : Int32) (q0 : mI x1.toInt x2.toInt x3.toInt f0 fP) : Met l yX10_often mwX10_oftenm ({ frames := 2, cells := 0, slots := 0, locals := 120 }) (va_Pc [.ref (ad 0), .int i1, .int i2] (fun U => U.heap.size = sz ∧ va_P (dC, dI) vwCl (mW ad kc x0 x1 x2 x3 x4 x5 x6 x7 x8 x9 x10 x11 x12 x13 x14 x15 x16 x17 x18 x19 x20 x21 f0 f1 f2 f3 f4 f5 f6 f7 f8 f9 f10 f11 f12 f13 f14 f15 f16 f17 f18 f19 f20 f21 fL fN fP fM fO) U.heap ∧ va_K (dC, dI) vwCl (mT kc) U ∧ va_D (fun _ => True) (mW ad kc x0 x1 x2 x3 x4 x5 x6 x7 x8 x9 x10 x11 x12 x13 x14 x15 x16 x17 x18 x19 x20 x21 f0 f1 f2 f3 f4 f5 f6 f7 f8 f9 f10 f11 f12 f13 f14 f15 f16 f17 f18 f19 f20 f21 fL fN fP fM fO))) (va_Qi (fun (o9 u9 : Int32) => o9 = u9) (fun (o9 : Int32) t => ∃ (y0 : Int32), va_P (dC, dI) vwCl (mW ad kc y0 x1 x2 x3 x4 x5 x6 x7 x8 x9 x10 x11 x12 x13 x14 x15 x16 x17 x18 x19 x20 x21 f0 f1 f2 f3 f4 f5 f6 f7 f8 f9 f10 f11 f12 f13 f14 f15 f16 f17 f18 f19 f20 f21 fL fN fP fM fO) t.heap ∧ va_K (dC, dI) vwCl (mT kc) t ∧ va_D (va_A (mW ad kc x0 x1 x2 x3 x4 x5 x6 x7 x8 x9 x10 x11 x12 x13 x14 x15 x16 x17 x18 x19 x20 x21 f0 f1 f2 f3 f4 f5 f6 f7 f8 f9 f10 f11 f12 f13 f14 f15 f16 f17 f18 f19 f20 f21 fL fN fP fM fO) sz) (mW ad kc y0 x1 x2 x3 x4 x5 x6 x7 x8 x9 x10 x11 x12 x13 x14 x15 x16 x17 x18 x19 x20 x21 f0 f1 f2 f3 f4 f5 f6 f7 f8 f9 f10 f11 f12 f13 f14 f15 f16 f17 f18 f19 f20 f21 fL fN fP fM fO)) (va_A (mW ad kc x0 x1 x2 x3 x4 x5 x6 x7 x8 x9 x10 x11 x12 x13 x14 x15 x16 x17 x18 x19 x20 x21 f0 f1 f2 f3 f4 f5 f6 f7 f8 f9 f10 f11 f12 f13 f14 f15 f16 f17 f18 f19 f20 f21 fL fN fP fM fO) sz)) 0 0 (va_A (mW ad kc x0 x1 x2 x3 x4 x5 x6 x7 x8 x9 x10 x11 x12 x13 x14 x15 x16 x17 x18 x19 x20 x21 f0 f1 f2 f3 f4 f5 f6 f7 f8 f9 f10 f11 f12 f13 f14 f15 f16 f17 f18 f19 f20 f21 fL fN fP fM fO) sz) := by
  refine Met.ofW (cc := cX10_often) (maxL := 5) (ret := (some .int)) (by decide +kernel) rfl ?_
  intro p e s m args below meth c s₁ B hml hv
  obtain ⟨rfl, hsz, hP, hK, hD0⟩ := hv
  have hx := B.exec
  have hb := B.bytes
  have hr := B.returns
  have hts := atoms_spec (ws := mwX10_oftenm) B.pre
  have hown : s.vm.findClass RX10 = some m.cls := findClass_of_methodNamed B.named
  have hlocks := B.notSynchronized
  subst hsz
  have hD := hD0.self (sz := s.heap.size)
  generalize hAe : va_A (mW ad kc x0 x1 x2 x3 x4 x5 x6 x7 x8 x9 x10 x11 x12 x13 x14 x15 x16 x17 x18 x19 x20 x21 f0 f1 f2 f3 f4 f5 f6 f7 f8 f9 f10 f11 f12 f13 f14 f15 f16 f17 f18 f19 f20 f21 fL fN fP fM fO) s.heap.size = A at hD ⊢
  have hA : ∀ q : Nat, s.heap.size ≤ q → A q := fun q h => by rw [← hAe]; exact Or.inr h
  have hP : va_P (dC, dI) vwCl (mW ad kc x0 x1 x2 x3 x4 x5 x6 x7 x8 x9 x10 x11 x12 x13 x14 x15 x16 x17 x18 x19 x20 x21 f0 f1 f2 f3 f4 f5 f6 f7 f8 f9 f10 f11 f12 f13 f14 f15 f16 f17 f18 f19 f20 f21 fL fN fP fM fO) s.heap := hP
  have hD : va_D A (mW ad kc x0 x1 x2 x3 x4 x5 x6 x7 x8 x9 x10 x11 x12 x13 x14 x15 x16 x17 x18 x19 x20 x21 f0 f1 f2 f3 f4 f5 f6 f7 f8 f9 f10 f11 f12 f13 f14 f15 f16 f17 f18 f19 f20 f21 fL fN fP fM fO) := hD
  have hK : va_K (dC, dI) vwCl (mT kc) s := hK
  generalize hH : s.heap = H at hP ⊢
  have hS : va_S A s.heap H [] := by rw [← hH]; exact va_S.rf
  have hl := lv_entry ([.ref (ad 0), .int i1, .int i2]) (n := 5) (Nat.le_of_ble_eq_true rfl)
  rw [lg_entry_eq]
  generalize (lg_sl ([.ref (ad 0), .int i1, .int i2]) ++ List.replicate (5 - (lg_sl ([.ref (ad 0), .int i1, .int i2])).length) Slot.unset).toArray = ls at hl ⊢
  have hl : lv_has ls 5 [(0, .ref (ad 0)), (1, .int i1), (2, .int i2)] := hl
  have rg_i1 := i_rng i1
  have rg_i2 := i_rng i2
  have hd := q0.d
  have hpi := q0.p
  have hq1 := q0.1
  have hq2 := q0.2.1
  have hq3 := q0.2.2.1
  have hd10 := hd.n0
  have hp8 := hd.P0
  refine lv_iload_n hx hb dX10_often_0 rfl (lv_at hl 2 rfl) ?_
  refine lv_iconst (v := 0) hx hb dX10_often_1 (by decide) ?_
  refine lv_sipush (v := 17575) hx hb dX10_often_2 (by decide) ?_
  refine vp_callSi (W.runS (As := [.int i2, .int 0, .int 17575]) (rest := []) ⟨hx, hb, hml, hown, hts⟩ (m_isFrom l dC dI  i2 0 17575 ) (va_cwS 3 hts mg_X10_oftenm_X10_isFrom_200 rfl rfl rfl (by decide +kernel) ⟨Nat.le_of_ble_eq_true rfl, Nat.le_of_ble_eq_true rfl⟩) ⟨fun a U g mk q => ⟨q.1, trivial⟩, fun U hU hW => ⟨rfl, trivial⟩⟩ rfl rfl hl.1 rfl (lv_room (Nat.le_of_ble_eq_true rfl)) dX10_often_5 ⟨Nat.le_of_ble_eq_true rfl, Nat.le_of_ble_eq_true rfl⟩) (fun r_1 hr_1 => ?_)
  have rg_r_1 := i_rng r_1
  refine lv_if_ne (tgt := 17) hx hb dX10_often_8 (by decide) (fun k_2 => ?_) (fun k_2 => ?_)
  · have tk_2 := c_ne (a := r_1.toInt) (b := 0) rfl (by decide) k_2
    refine lv_aload_n hx hb dX10_often_17 rfl (lv_at hl 0 rfl) ?_
    refine lv_iload_n hx hb dX10_often_18 rfl (lv_at hl 1 rfl) ?_
    refine vp_callSi (W.runV (As := [.int i1]) (rest := []) ⟨hx, hb, hml, hown, hts⟩ (m_isDoc l dC dI ad kc x0 x1 x2 x3 x4 x5 x6 x7 x8 x9 x10 x11 x12 x13 x14 x15 x16 x17 x18 x19 x20 x21 f0 f1 f2 f3 f4 f5 f6 f7 f8 f9 f10 f11 f12 f13 f14 f15 f16 f17 f18 f19 f20 f21 fL fN fP fM fO i1 ) (cwV 1 hts mg_X10_oftenm_X10_isDoc_451 rfl rfl rfl (by decide +kernel) ⟨Nat.le_of_ble_eq_true rfl, Nat.le_of_ble_eq_true rfl⟩) ⟨fun a U g mk q => by obtain ⟨q0, qP, qK⟩ := q; exact ⟨q0, qP, va_K.moved (u := U) (U := U.calling g mk a) (Vm.Alike.refl U.vm) qK⟩, va_recv hK hP (ci := 10) (q0 := 0) rfl rfl, fun U hU hW => ⟨rfl, by rw [hU]; exact hP, va_K.moved hW.alike hK⟩⟩ rfl rfl hl.1 rfl (lv_room (Nat.le_of_ble_eq_true rfl)) dX10_often_19 ⟨Nat.le_of_ble_eq_true rfl, Nat.le_of_ble_eq_true rfl⟩) (fun r_3 hr_3 => ?_)
    have rg_r_3 := i_rng r_3
    refine lv_if_ne (tgt := 31) hx hb dX10_often_22 (by decide) (fun k_4 => ?_) (fun k_4 => ?_)
    · have tk_4 := c_ne (a := r_3.toInt) (b := 0) rfl (by decide) k_4
      refine lv_iconst (v := 0) hx hb dX10_often_31 (by decide) ?_
      refine lv_istore_n (lv' := [(3, .int 0), (0, .ref (ad 0)), (1, .int i1), (2, .int i2)]) hx hb dX10_often_32 rfl hl (by decide) rfl (fun ls hl => ?_)
      refine lv_iconst (v := 0) hx hb dX10_often_33 (by decide) ?_
      refine lv_istore (lv' := [(4, .int 0), (3, .int 0), (0, .ref (ad 0)), (1, .int i1), (2, .int i2)]) hx hb dX10_often_34 hl (by decide) rfl (fun ls hl => ?_)
      have loop36 : ∀ (lm36 : Nat) (nn kk : Int32), (0 ≤ kk.toInt ∧ kk.toInt ≤ 60) → ((60 - kk.toInt).toNat) < lm36 → ∀ (H : Heap) (locs : List Loc) (ls : Array Slot), va_P (dC, dI) vwCl (mW ad kc x0 x1 x2 x3 x4 x5 x6 x7 x8 x9 x10 x11 x12 x13 x14 x15 x16 x17 x18 x19 x20 x21 f0 f1 f2 f3 f4 f5 f6 f7 f8 f9 f10 f11 f12 f13 f14 f15 f16 f17 f18 f19 f20 f21 fL fN fP fM fO) H → va_D A (mW ad kc x0 x1 x2 x3 x4 x5 x6 x7 x8 x9 x10 x11 x12 x13 x14 x15 x16 x17 x18 x19 x20 x21 f0 f1 f2 f3 f4 f5 f6 f7 f8 f9 f10 f11 f12 f13 f14 f15 f16 f17 f18 f19 f20 f21 fL fN fP fM fO) → va_S A s.heap H locs → lv_has ls 5 [(4, .int kk), (3, .int nn), (0, .ref (ad 0)), (1, .int i1), (2, .int i2)] → W p l e (headSpec mwX10_oftenm ({ frames := 2, cells := 0, slots := 0, locals := 120 })).room s m ([.ref (ad 0), .int i1, .int i2]).toArray below meth c H locs 0 0 (MQ below (va_Qi (fun (o9 u9 : Int32) => o9 = u9) (fun (o9 : Int32) t => ∃ (y0 : Int32), va_P (dC, dI) vwCl (mW ad kc y0 x1 x2 x3 x4 x5 x6 x7 x8 x9 x10 x11 x12 x13 x14 x15 x16 x17 x18 x19 x20 x21 f0 f1 f2 f3 f4 f5 f6 f7 f8 f9 f10 f11 f12 f13 f14 f15 f16 f17 f18 f19 f20 f21 fL fN fP fM fO) t.heap ∧ va_K (dC, dI) vwCl (mT kc) t ∧ va_D A (mW ad kc y0 x1 x2 x3 x4 x5 x6 x7 x8 x9 x10 x11 x12 x13 x14 x15 x16 x17 x18 x19 x20 x21 f0 f1 f2 f3 f4 f5 f6 f7 f8 f9 f10 f11 f12 f13 f14 f15 f16 f17 f18 f19 f20 f21 fL fN fP fM fO)) A) ([.ref (ad 0), .int i1, .int i2]).toArray s 0 0 A) (F0 m 36 ls []) := by
        intro lm36
        induction lm36 with
        | zero => intro nn kk v36_0 hm36; exact absurd hm36 (Nat.not_lt_zero _)
        | succ lm36 ih36 =>
          intro nn kk v36_0 hm36 H locs ls hP hD hS hl
          have rg_nn := i_rng nn
          have rg_kk := i_rng kk
          refine lv_iload hx hb dX10_often_36 (lv_at hl 0 rfl) ?_
          refine lv_iconst (v := 2) hx hb dX10_often_38 (by decide) ?_
          refine lv_iadd hx hb dX10_often_39 ?_
          refine lv_topi (fun y_5 ey_5 => ?_)
          first | have ty_5 := i_add (a := kk.toInt) (b := 2) rfl (by decide) ey_5 (by omega) (by omega) | skip
          refine lv_aload_n hx hb dX10_often_40 rfl (lv_at hl 2 rfl) ?_
          refine lv_iload_n hx hb dX10_often_41 rfl (lv_at hl 3 rfl) ?_
          refine vp_callSi (W.runV (As := [.int i1]) (rest := [.int y_5]) ⟨hx, hb, hml, hown, hts⟩ (m_sizeOf l dC dI ad kc x0 x1 x2 x3 x4 x5 x6 x7 x8 x9 x10 x11 x12 x13 x14 x15 x16 x17 x18 x19 x20 x21 f0 f1 f2 f3 f4 f5 f6 f7 f8 f9 f10 f11 f12 f13 f14 f15 f16 f17 f18 f19 f20 f21 fL fN fP fM fO i1 (by first | omega | assumption | decide | (have l0 := Int32.toInt_zero; omega)) (by first | omega | assumption | decide | (have l0 := Int32.toInt_zero; omega))) (cwV 1 hts mg_X10_oftenm_X10_sizeOf_396 rfl rfl rfl (by decide +kernel) ⟨Nat.le_of_ble_eq_true rfl, Nat.le_of_ble_eq_true rfl⟩) ⟨fun a U g mk q => by obtain ⟨q0, qP, qK⟩ := q; exact ⟨q0, qP, va_K.moved (u := U) (U := U.calling g mk a) (Vm.Alike.refl U.vm) qK⟩, va_recv hK hP (ci := 10) (q0 := 0) rfl rfl, fun U hU hW => ⟨rfl, by rw [hU]; exact hP, va_K.moved hW.alike hK⟩⟩ rfl rfl hl.1 rfl (lv_room (Nat.le_of_ble_eq_true rfl)) dX10_often_42 ⟨Nat.le_of_ble_eq_true rfl, Nat.le_of_ble_eq_true rfl⟩) (fun r_6 hr_6 => ?_)
          have rg_r_6 := i_rng r_6
          have hlr_6 := OKd.sz hd (d := i1.toInt) (by omega) (by omega)
          refine lv_icmp_ge (tgt := 73) hx hb dX10_often_45 (by decide) (fun k_7 => ?_) (fun k_7 => ?_)
          · have tk_7 := c_ge (a := y_5.toInt) (b := r_6.toInt) rfl rfl k_7
            refine lv_aload_n hx hb dX10_often_73 rfl (lv_at hl 2 rfl) ?_
            refine lv_iload_n hx hb dX10_often_74 rfl (lv_at hl 1 rfl) ?_
            have hFc := m_free hD hS hA
            refine va_calli (va_runV (As := [.int nn]) (rest := []) ⟨hx, hb, hml, hown, hts⟩ (m_gives l dC dI ad kc x0 x1 x2 x3 x4 x5 x6 x7 x8 x9 x10 x11 x12 x13 x14 x15 x16 x17 x18 x19 x20 x21 f0 f1 f2 f3 f4 f5 f6 f7 f8 f9 f10 f11 f12 f13 f14 f15 f16 f17 f18 f19 f20 f21 fL fN fP fM fO H.size nn ) (cwV 1 hts mg_X10_oftenm_X10_gives_214 rfl rfl rfl (by decide +kernel) ⟨Nat.le_of_ble_eq_true rfl, Nat.le_of_ble_eq_true rfl⟩) ⟨fun a U g mk q => by obtain ⟨q0, q1, qP, qK, qD⟩ := q; exact ⟨q0, q1, qP, va_K.moved (u := U) (U := U.calling g mk a) (Vm.Alike.refl U.vm) qK, qD⟩, va_recv hK hP (ci := 10) (q0 := 0) rfl rfl, fun U hU hW => ⟨rfl, by rw [hU], by rw [hU]; exact hP, va_K.moved hW.alike hK, hD.weaken (fun _ _ _ _ => trivial)⟩⟩ rfl rfl hl.1 rfl (lv_room (Nat.le_of_ble_eq_true rfl)) dX10_often_75 ⟨Nat.le_of_ble_eq_true rfl, Nat.le_of_ble_eq_true rfl⟩) hS (fun q _ h => hFc q h) hFc (fun r_8 u t H1 locs ht hvm hw hB hz1 hk1 hS => ?_)
            subst hw
            obtain ⟨hr_8_0, hP, hK1, hD1⟩ := hB
            rw [ht] at hP
            have hD := hD1.weaken (fun k q _ h => hFc q.1 h)
            clear hz1 hk1 hFc hD1 hK1 hvm
            generalize H1 = H at hP hS ⊢
            have rg_r_8 := i_rng r_8
            have hP : va_P (dC, dI) vwCl (mW ad kc 0 x1 x2 x3 x4 x5 x6 x7 x8 x9 x10 x11 x12 x13 x14 x15 x16 x17 x18 x19 x20 x21 f0 f1 f2 f3 f4 f5 f6 f7 f8 f9 f10 f11 f12 f13 f14 f15 f16 f17 f18 f19 f20 f21 fL fN fP fM fO) H := hP
            have hD : va_D A (mW ad kc 0 x1 x2 x3 x4 x5 x6 x7 x8 x9 x10 x11 x12 x13 x14 x15 x16 x17 x18 x19 x20 x21 f0 f1 f2 f3 f4 f5 f6 f7 f8 f9 f10 f11 f12 f13 f14 f15 f16 f17 f18 f19 f20 f21 fL fN fP fM fO) := hD
            have lit_8 : (0 : Int32).toInt = 0 := by decide
            exact W.iret hx hb hr (fun t ht hW => ⟨⟨_, _, rfl, rfl, 0, by rw [ht]; exact hP, va_K.moved hW.alike hK, hD⟩, hS.F ht⟩) hS.2.2 dX10_often_78
          · have tk_7 := c_nge (a := y_5.toInt) (b := r_6.toInt) rfl rfl k_7
            refine lv_iload_n hx hb dX10_often_48 rfl (lv_at hl 1 rfl) ?_
            refine lv_aload_n hx hb dX10_often_49 rfl (lv_at hl 2 rfl) ?_
            refine lv_iload_n hx hb dX10_often_50 rfl (lv_at hl 3 rfl) ?_
            refine lv_iload hx hb dX10_often_51 (lv_at hl 0 rfl) ?_
            refine vp_callSi (W.runV (As := [.int i1, .int kk]) (rest := [.int nn]) ⟨hx, hb, hml, hown, hts⟩ (m_tripleAt l dC dI ad kc x0 x1 x2 x3 x4 x5 x6 x7 x8 x9 x10 x11 x12 x13 x14 x15 x16 x17 x18 x19 x20 x21 f0 f1 f2 f3 f4 f5 f6 f7 f8 f9 f10 f11 f12 f13 f14 f15 f16 f17 f18 f19 f20 f21 fL fN fP fM fO i1 kk (by first | omega | assumption | decide | (have l0 := Int32.toInt_zero; omega)) (by first | omega | assumption | decide | (have l0 := Int32.toInt_zero; omega)) (by first | omega | assumption | decide | (have l0 := Int32.toInt_zero; omega))) (cwV 2 hts mg_X10_oftenm_X10_tripleAt_408 rfl rfl rfl (by decide +kernel) ⟨Nat.le_of_ble_eq_true rfl, Nat.le_of_ble_eq_true rfl⟩) ⟨fun a U g mk q => by obtain ⟨q0, qP, qK⟩ := q; exact ⟨q0, qP, va_K.moved (u := U) (U := U.calling g mk a) (Vm.Alike.refl U.vm) qK⟩, va_recv hK hP (ci := 10) (q0 := 0) rfl rfl, fun U hU hW => ⟨rfl, by rw [hU]; exact hP, va_K.moved hW.alike hK⟩⟩ rfl rfl hl.1 rfl (lv_room (Nat.le_of_ble_eq_true rfl)) dX10_often_53 ⟨Nat.le_of_ble_eq_true rfl, Nat.le_of_ble_eq_true rfl⟩) (fun r_10 hr_10 => ?_)
            have rg_r_10 := i_rng r_10
            refine lv_iload_n hx hb dX10_often_56 rfl (lv_at hl 4 rfl) ?_
            refine lv_icmp_ne (tgt := 64) hx hb dX10_often_57 (by decide) (fun k_11 => ?_) (fun k_11 => ?_)
            · have tk_11 := c_ne (a := r_10.toInt) (b := i2.toInt) rfl rfl k_11
              refine lv_iconst (v := 0) hx hb dX10_often_64 (by decide) ?_
              refine lv_iadd hx hb dX10_often_65 ?_
              refine lv_topi (fun y_12 ey_12 => ?_)
              first | have ty_12 := i_add (a := nn.toInt) (b := 0) rfl (by decide) ey_12 (by omega) (by omega) | skip
              refine lv_istore_n (lv' := [(3, .int y_12), (4, .int kk), (0, .ref (ad 0)), (1, .int i1), (2, .int i2)]) hx hb dX10_often_66 rfl hl (by decide) rfl (fun ls hl => ?_)
              obtain ⟨y_13, ey_13⟩ : ∃ y : Int32, y = kk + 1 := ⟨_, rfl⟩
              first | have ty_13 := i_add (a := kk.toInt) (b := 1) rfl (by decide) ey_13 (by omega) (by omega) | skip
              refine lv_iinc (v := y_13) (lv' := [(4, .int y_13), (3, .int y_12), (0, .ref (ad 0)), (1, .int i1), (2, .int i2)]) hx hb dX10_often_67 hl (k := 1) rfl (by rw [ey_13]; rfl) (by decide) rfl (fun ls hl => ?_)
              refine lv_goto (tgt := 36) hx hb dX10_often_70 (by decide) ?_
              exact ih36 y_12 y_13 (by first | omega | assumption | decide) (by omega) _ _ ls hP hD hS (lv_sub hl [0, 1, 2, 3, 4] rfl)
            · have tk_11 := c_eq (a := r_10.toInt) (b := i2.toInt) rfl rfl k_11
              refine lv_iconst (v := 1) hx hb dX10_often_60 (by decide) ?_
              refine lv_goto (tgt := 65) hx hb dX10_often_61 (by decide) ?_
              refine lv_iadd hx hb dX10_often_65 ?_
              refine lv_topi (fun y_14 ey_14 => ?_)
              first | have ty_14 := i_add (a := nn.toInt) (b := 1) rfl (by decide) ey_14 (by omega) (by omega) | skip
              refine lv_istore_n (lv' := [(3, .int y_14), (4, .int kk), (0, .ref (ad 0)), (1, .int i1), (2, .int i2)]) hx hb dX10_often_66 rfl hl (by decide) rfl (fun ls hl => ?_)
              obtain ⟨y_15, ey_15⟩ : ∃ y : Int32, y = kk + 1 := ⟨_, rfl⟩
              first | have ty_15 := i_add (a := kk.toInt) (b := 1) rfl (by decide) ey_15 (by omega) (by omega) | skip
              refine lv_iinc (v := y_15) (lv' := [(4, .int y_15), (3, .int y_14), (0, .ref (ad 0)), (1, .int i1), (2, .int i2)]) hx hb dX10_often_67 hl (k := 1) rfl (by rw [ey_15]; rfl) (by decide) rfl (fun ls hl => ?_)
              refine lv_goto (tgt := 36) hx hb dX10_often_70 (by decide) ?_
              exact ih36 y_14 y_15 (by first | omega | assumption | decide) (by omega) _ _ ls hP hD hS (lv_sub hl [0, 1, 2, 3, 4] rfl)
      have lit_15 : (0 : Int32).toInt = 0 := by decide
      have lit_16 : (0 : Int32).toInt = 0 := by decide
      exact loop36 _ 0 0 (by first | omega | assumption | decide) (Nat.lt_succ_self _) _ _ ls hP hD hS (lv_sub hl [0, 1, 2, 3, 4] rfl)
    · have tk_4 := c_eq (a := r_3.toInt) (b := 0) rfl (by decide) k_4
      refine lv_aload_n hx hb dX10_often_25 rfl (lv_at hl 0 rfl) ?_
      refine lv_iconst (v := 2) hx hb dX10_often_26 (by decide) ?_
      have hFc := m_free hD hS hA
      refine va_calli (va_runV (As := [.int 2]) (rest := []) ⟨hx, hb, hml, hown, hts⟩ (m_refuse l dC dI ad kc x0 x1 x2 x3 x4 x5 x6 x7 x8 x9 x10 x11 x12 x13 x14 x15 x16 x17 x18 x19 x20 x21 f0 f1 f2 f3 f4 f5 f6 f7 f8 f9 f10 f11 f12 f13 f14 f15 f16 f17 f18 f19 f20 f21 fL fN fP fM fO H.size 2 ) (cwV 1 hts mg_X10_oftenm_X10_refuse_204 rfl rfl rfl (by decide +kernel) ⟨Nat.le_of_ble_eq_true rfl, Nat.le_of_ble_eq_true rfl⟩) ⟨fun a U g mk q => by obtain ⟨q0, q1, qP, qK, qD⟩ := q; exact ⟨q0, q1, qP, va_K.moved (u := U) (U := U.calling g mk a) (Vm.Alike.refl U.vm) qK, qD⟩, va_recv hK hP (ci := 10) (q0 := 0) rfl rfl, fun U hU hW => ⟨rfl, by rw [hU], by rw [hU]; exact hP, va_K.moved hW.alike hK, hD.weaken (fun _ _ _ _ => trivial)⟩⟩ rfl rfl hl.1 rfl (lv_room (Nat.le_of_ble_eq_true rfl)) dX10_often_27 ⟨Nat.le_of_ble_eq_true rfl, Nat.le_of_ble_eq_true rfl⟩) hS (fun q _ h => hFc q h) hFc (fun r_18 u t H1 locs ht hvm hw hB hz1 hk1 hS => ?_)
      subst hw
      obtain ⟨hr_18_0, hP, hK1, hD1⟩ := hB
      rw [ht] at hP
      have hD := hD1.weaken (fun k q _ h => hFc q.1 h)
      clear hz1 hk1 hFc hD1 hK1 hvm
      generalize H1 = H at hP hS ⊢
      have rg_r_18 := i_rng r_18
      have hP : va_P (dC, dI) vwCl (mW ad kc 2 x1 x2 x3 x4 x5 x6 x7 x8 x9 x10 x11 x12 x13 x14 x15 x16 x17 x18 x19 x20 x21 f0 f1 f2 f3 f4 f5 f6 f7 f8 f9 f10 f11 f12 f13 f14 f15 f16 f17 f18 f19 f20 f21 fL fN fP fM fO) H := hP
      have hD : va_D A (mW ad kc 2 x1 x2 x3 x4 x5 x6 x7 x8 x9 x10 x11 x12 x13 x14 x15 x16 x17 x18 x19 x20 x21 f0 f1 f2 f3 f4 f5 f6 f7 f8 f9 f10 f11 f12 f13 f14 f15 f16 f17 f18 f19 f20 f21 fL fN fP fM fO) := hD
      have lit_18 : (2 : Int32).toInt = 2 := by decide
      exact W.iret hx hb hr (fun t ht hW => ⟨⟨_, _, rfl, rfl, 2, by rw [ht]; exact hP, va_K.moved hW.alike hK, hD⟩, hS.F ht⟩) hS.2.2 dX10_often_30
  · have tk_2 := c_eq (a := r_1.toInt) (b := 0) rfl (by decide) k_2
    refine lv_aload_n hx hb dX10_often_11 rfl (lv_at hl 0 rfl) ?_
    refine lv_iconst (v := 1) hx hb dX10_often_12 (by decide) ?_
    have hFc := m_free hD hS hA
    refine va_calli (va_runV (As := [.int 1]) (rest := []) ⟨hx, hb, hml, hown, hts⟩ (m_refuse l dC dI ad kc x0 x1 x2 x3 x4 x5 x6 x7 x8 x9 x10 x11 x12 x13 x14 x15 x16 x17 x18 x19 x20 x21 f0 f1 f2 f3 f4 f5 f6 f7 f8 f9 f10 f11 f12 f13 f14 f15 f16 f17 f18 f19 f20 f21 fL fN fP fM fO H.size 1 ) (cwV 1 hts mg_X10_oftenm_X10_refuse_204 rfl rfl rfl (by decide +kernel) ⟨Nat.le_of_ble_eq_true rfl, Nat.le_of_ble_eq_true rfl⟩) ⟨fun a U g mk q => by obtain ⟨q0, q1, qP, qK, qD⟩ := q; exact ⟨q0, q1, qP, va_K.moved (u := U) (U := U.calling g mk a) (Vm.Alike.refl U.vm) qK, qD⟩, va_recv hK hP (ci := 10) (q0 := 0) rfl rfl, fun U hU hW => ⟨rfl, by rw [hU], by rw [hU]; exact hP, va_K.moved hW.alike hK, hD.weaken (fun _ _ _ _ => trivial)⟩⟩ rfl rfl hl.1 rfl (lv_room (Nat.le_of_ble_eq_true rfl)) dX10_often_13 ⟨Nat.le_of_ble_eq_true rfl, Nat.le_of_ble_eq_true rfl⟩) hS (fun q _ h => hFc q h) hFc (fun r_20 u t H1 locs ht hvm hw hB hz1 hk1 hS => ?_)
    subst hw
    obtain ⟨hr_20_0, hP, hK1, hD1⟩ := hB
    rw [ht] at hP
    have hD := hD1.weaken (fun k q _ h => hFc q.1 h)
    clear hz1 hk1 hFc hD1 hK1 hvm
    generalize H1 = H at hP hS ⊢
    have rg_r_20 := i_rng r_20
    have hP : va_P (dC, dI) vwCl (mW ad kc 1 x1 x2 x3 x4 x5 x6 x7 x8 x9 x10 x11 x12 x13 x14 x15 x16 x17 x18 x19 x20 x21 f0 f1 f2 f3 f4 f5 f6 f7 f8 f9 f10 f11 f12 f13 f14 f15 f16 f17 f18 f19 f20 f21 fL fN fP fM fO) H := hP
    have hD : va_D A (mW ad kc 1 x1 x2 x3 x4 x5 x6 x7 x8 x9 x10 x11 x12 x13 x14 x15 x16 x17 x18 x19 x20 x21 f0 f1 f2 f3 f4 f5 f6 f7 f8 f9 f10 f11 f12 f13 f14 f15 f16 f17 f18 f19 f20 f21 fL fN fP fM fO) := hD
    have lit_20 : (1 : Int32).toInt = 1 := by decide
    exact W.iret hx hb hr (fun t ht hW => ⟨⟨_, _, rfl, rfl, 1, by rw [ht]; exact hP, va_K.moved hW.alike hK, hD⟩, hS.F ht⟩) hS.2.2 dX10_often_16
theorem dX10_gate_0 : decode cX10_gate 0 = .ok (.iload_n 2, 1) := by decide +kernel
theorem dX10_gate_1 : decode cX10_gate 1 = .ok (.iconst 0, 1) := by decide +kernel
theorem dX10_gate_2 : decode cX10_gate 2 = .ok (.iconst 3, 1) := by decide +kernel
theorem dX10_gate_3 : decode cX10_gate 3 = .ok (.invokestatic 200, 3) := by decide +kernel
theorem dX10_gate_6 : decode cX10_gate 6 = .ok (.ifCond .ne 9, 3) := by decide +kernel
theorem dX10_gate_9 : decode cX10_gate 9 = .ok (.aload_n 0, 1) := by decide +kernel
theorem dX10_gate_10 : decode cX10_gate 10 = .ok (.iconst 1, 1) := by decide +kernel
theorem dX10_gate_11 : decode cX10_gate 11 = .ok (.invokevirtual 204, 3) := by decide +kernel
theorem dX10_gate_14 : decode cX10_gate 14 = .ok (.ireturn, 1) := by decide +kernel
theorem dX10_gate_15 : decode cX10_gate 15 = .ok (.aload_n 0, 1) := by decide +kernel
theorem dX10_gate_16 : decode cX10_gate 16 = .ok (.iload_n 1, 1) := by decide +kernel
theorem dX10_gate_17 : decode cX10_gate 17 = .ok (.invokevirtual 458, 3) := by decide +kernel
theorem dX10_gate_20 : decode cX10_gate 20 = .ok (.ifCond .ne 9, 3) := by decide +kernel
theorem dX10_gate_23 : decode cX10_gate 23 = .ok (.aload_n 0, 1) := by decide +kernel
theorem dX10_gate_24 : decode cX10_gate 24 = .ok (.iconst 2, 1) := by decide +kernel
theorem dX10_gate_25 : decode cX10_gate 25 = .ok (.invokevirtual 204, 3) := by decide +kernel
theorem dX10_gate_28 : decode cX10_gate 28 = .ok (.ireturn, 1) := by decide +kernel
theorem dX10_gate_29 : decode cX10_gate 29 = .ok (.aload_n 0, 1) := by decide +kernel
theorem dX10_gate_30 : decode cX10_gate 30 = .ok (.iload_n 1, 1) := by decide +kernel
theorem dX10_gate_31 : decode cX10_gate 31 = .ok (.invokevirtual 445, 3) := by decide +kernel
theorem dX10_gate_34 : decode cX10_gate 34 = .ok (.istore_n 3, 1) := by decide +kernel
theorem dX10_gate_35 : decode cX10_gate 35 = .ok (.aload_n 0, 1) := by decide +kernel
theorem dX10_gate_36 : decode cX10_gate 36 = .ok (.iload_n 1, 1) := by decide +kernel
theorem dX10_gate_37 : decode cX10_gate 37 = .ok (.invokevirtual 448, 3) := by decide +kernel
theorem dX10_gate_40 : decode cX10_gate 40 = .ok (.istore 4, 2) := by decide +kernel
theorem dX10_gate_42 : decode cX10_gate 42 = .ok (.aload_n 0, 1) := by decide +kernel
theorem dX10_gate_43 : decode cX10_gate 43 = .ok (.iload_n 2, 1) := by decide +kernel
theorem dX10_gate_44 : decode cX10_gate 44 = .ok (.ifCond .ne 7, 3) := by decide +kernel
theorem dX10_gate_47 : decode cX10_gate 47 = .ok (.iload_n 3, 1) := by decide +kernel
theorem dX10_gate_48 : decode cX10_gate 48 = .ok (.goto 34, 3) := by decide +kernel
theorem dX10_gate_51 : decode cX10_gate 51 = .ok (.iload_n 2, 1) := by decide +kernel
theorem dX10_gate_52 : decode cX10_gate 52 = .ok (.iconst 1, 1) := by decide +kernel
theorem dX10_gate_53 : decode cX10_gate 53 = .ok (.if_icmp .ne 10, 3) := by decide +kernel
theorem dX10_gate_56 : decode cX10_gate 56 = .ok (.aload_n 0, 1) := by decide +kernel
theorem dX10_gate_57 : decode cX10_gate 57 = .ok (.getfield 417, 3) := by decide +kernel
theorem dX10_gate_60 : decode cX10_gate 60 = .ok (.goto 22, 3) := by decide +kernel
theorem dX10_gate_63 : decode cX10_gate 63 = .ok (.iload_n 2, 1) := by decide +kernel
theorem dX10_gate_64 : decode cX10_gate 64 = .ok (.iconst 2, 1) := by decide +kernel
theorem dX10_gate_65 : decode cX10_gate 65 = .ok (.if_icmp .ne 8, 3) := by decide +kernel
theorem dX10_gate_68 : decode cX10_gate 68 = .ok (.iload 4, 2) := by decide +kernel
theorem dX10_gate_70 : decode cX10_gate 70 = .ok (.goto 12, 3) := by decide +kernel
theorem dX10_gate_73 : decode cX10_gate 73 = .ok (.iload_n 3, 1) := by decide +kernel
theorem dX10_gate_74 : decode cX10_gate 74 = .ok (.iload 4, 2) := by decide +kernel
theorem dX10_gate_76 : decode cX10_gate 76 = .ok (.iconst (-1), 1) := by decide +kernel
theorem dX10_gate_77 : decode cX10_gate 77 = .ok (.ixor, 1) := by decide +kernel
theorem dX10_gate_78 : decode cX10_gate 78 = .ok (.iand, 1) := by decide +kernel
theorem dX10_gate_79 : decode cX10_gate 79 = .ok (.invokestatic 464, 3) := by decide +kernel
theorem dX10_gate_82 : decode cX10_gate 82 = .ok (.invokevirtual 214, 3) := by decide +kernel
theorem dX10_gate_85 : decode cX10_gate 85 = .ok (.ireturn, 1) := by decide +kernel
def mwX10_gatem : List Cond := .code yX10_gate cX10_gate 5 (some .int) :: (([.methodLink RX10 200 yX10_isFrom, .static yX10_isFrom, .initialized RX10, .methodLink RX10 458 yX10_isPattern, .instanceMethod yX10_isPattern, .selects RX10 yX10_isPattern yX10_isPattern, .methodLink RX10 445 yX10_candidates, .instanceMethod yX10_candidates, .selects RX10 yX10_candidates yX10_candidates, .methodLink RX10 448 yX10_fitting, .instanceMethod yX10_fitting, .selects RX10 yX10_fitting yX10_fitting, .methodLink RX10 464 yX10_ones, .static yX10_ones, .methodLink RX10 214 yX10_gives, .instanceMethod yX10_gives, .selects RX10 yX10_gives yX10_gives, .fieldLink RX10 417 "PatternGateModel" "leaps" "I", .methodLink RX10 204 yX10_refuse, .instanceMethod yX10_refuse, .selects RX10 yX10_refuse yX10_refuse] : List Cond) ++ (wsX100 ++ (mwX10_isFromm ++ (mwX10_isPatternm ++ (mwX10_candidatesm ++ (mwX10_fittingm ++ (mwX10_onesm ++ (mwX10_givesm ++ (mwX10_refusem)))))))))
theorem fin_X10_gatem_X10 : ∀ w ∈ wsX100, w ∈ mwX10_gatem := fun w h => List.mem_cons_of_mem _ (List.mem_append_right _ (List.mem_append_left _ h))
set_option maxRecDepth 100000 in
theorem gd_mwX10_onesm : mwX10_onesm.all goodWord = true := by decide +kernel
set_option maxRecDepth 20000 in
theorem mg_X10_gatem_X10_isFrom_200 : GoodIn mwX10_gatem (va_wsS RX10 200 yX10_isFrom mwX10_isFromm) := gi_app (A := [.methodLink RX10 200 yX10_isFrom, .static yX10_isFrom, .initialized RX10]) (goodIn_r _ [1, 2, 3] (by decide +kernel) (by decide +kernel)) (gi_sub gd_mwX10_isFromm (fun w h => List.mem_cons_of_mem _ (List.mem_append_right _ (List.mem_append_right _ (List.mem_append_left _ h)))))
set_option maxRecDepth 20000 in
theorem mg_X10_gatem_X10_isPattern_458 : GoodIn mwX10_gatem (wsV RX10 458 RX10 yX10_isPattern mwX10_isPatternm) := gi_app (A := [.methodLink RX10 458 yX10_isPattern, .instanceMethod yX10_isPattern, .selects RX10 yX10_isPattern yX10_isPattern, .initialized RX10]) (goodIn_r _ [4, 5, 6, 3] (by decide +kernel) (by decide +kernel)) (gi_sub gd_mwX10_isPatternm (fun w h => List.mem_cons_of_mem _ (List.mem_append_right _ (List.mem_append_right _ (List.mem_append_right _ (List.mem_append_left _ h))))))
set_option maxRecDepth 20000 in
theorem mg_X10_gatem_X10_candidates_445 : GoodIn mwX10_gatem (wsV RX10 445 RX10 yX10_candidates mwX10_candidatesm) := gi_app (A := [.methodLink RX10 445 yX10_candidates, .instanceMethod yX10_candidates, .selects RX10 yX10_candidates yX10_candidates, .initialized RX10]) (goodIn_r _ [7, 8, 9, 3] (by decide +kernel) (by decide +kernel)) (gi_sub gd_mwX10_candidatesm (fun w h => List.mem_cons_of_mem _ (List.mem_append_right _ (List.mem_append_right _ (List.mem_append_right _ (List.mem_append_right _ (List.mem_append_left _ h)))))))
set_option maxRecDepth 20000 in
theorem mg_X10_gatem_X10_fitting_448 : GoodIn mwX10_gatem (wsV RX10 448 RX10 yX10_fitting mwX10_fittingm) := gi_app (A := [.methodLink RX10 448 yX10_fitting, .instanceMethod yX10_fitting, .selects RX10 yX10_fitting yX10_fitting, .initialized RX10]) (goodIn_r _ [10, 11, 12, 3] (by decide +kernel) (by decide +kernel)) (gi_sub gd_mwX10_fittingm (fun w h => List.mem_cons_of_mem _ (List.mem_append_right _ (List.mem_append_right _ (List.mem_append_right _ (List.mem_append_right _ (List.mem_append_right _ (List.mem_append_left _ h))))))))
set_option maxRecDepth 20000 in
theorem mg_X10_gatem_X10_ones_464 : GoodIn mwX10_gatem (va_wsS RX10 464 yX10_ones mwX10_onesm) := gi_app (A := [.methodLink RX10 464 yX10_ones, .static yX10_ones, .initialized RX10]) (goodIn_r _ [13, 14, 3] (by decide +kernel) (by decide +kernel)) (gi_sub gd_mwX10_onesm (fun w h => List.mem_cons_of_mem _ (List.mem_append_right _ (List.mem_append_right _ (List.mem_append_right _ (List.mem_append_right _ (List.mem_append_right _ (List.mem_append_right _ (List.mem_append_left _ h)))))))))
set_option maxRecDepth 20000 in
theorem mg_X10_gatem_X10_gives_214 : GoodIn mwX10_gatem (wsV RX10 214 RX10 yX10_gives mwX10_givesm) := gi_app (A := [.methodLink RX10 214 yX10_gives, .instanceMethod yX10_gives, .selects RX10 yX10_gives yX10_gives, .initialized RX10]) (goodIn_r _ [15, 16, 17, 3] (by decide +kernel) (by decide +kernel)) (gi_sub gd_mwX10_givesm (fun w h => List.mem_cons_of_mem _ (List.mem_append_right _ (List.mem_append_right _ (List.mem_append_right _ (List.mem_append_right _ (List.mem_append_right _ (List.mem_append_right _ (List.mem_append_right _ (List.mem_append_left _ h))))))))))
set_option maxRecDepth 20000 in
theorem mg_X10_gatem_X10_refuse_204 : GoodIn mwX10_gatem (wsV RX10 204 RX10 yX10_refuse mwX10_refusem) := gi_app (A := [.methodLink RX10 204 yX10_refuse, .instanceMethod yX10_refuse, .selects RX10 yX10_refuse yX10_refuse, .initialized RX10]) (goodIn_r _ [19, 20, 21, 3] (by decide +kernel) (by decide +kernel)) (gi_sub gd_mwX10_refusem (fun w h => List.mem_cons_of_mem _ (List.mem_append_right _ (List.mem_append_right _ (List.mem_append_right _ (List.mem_append_right _ (List.mem_append_right _ (List.mem_append_right _ (List.mem_append_right _ (List.mem_append_right _ (h)))))))))))
set_option maxHeartbeats 4000000 in
set_option maxRecDepth 100000 in
theorem m_gate (l : Launch) (dC : Nat → ClassId) (dI : Nat → Nat → Nat) (ad : Nat → Nat) (kc : Nat → ClassId) (x0 x1 x2 x3 x4 x5 x6 x7 x8 x9 x10 x11 x12 x13 x14 x15 x16 x17 x18 x19 x20 x21 : Int32) (f0 f1 f2 f3 f4 f5 f6 f7 f8 f9 f10 f11 f12 f13 f14 f15 f16 f17 f18 f19 f20 f21 : Nat → Int32) (fL : Nat → Nat → Int64) (fN : Nat → Nat → Int32) (fP : Nat → Nat → Nat) (fM : Nat → Nat → Int32) (fO : Nat → Nat → Int32) (sz : Nat) (i1 i2 : Int32) (q0 : mI x1.toInt x2.toInt x3.toInt f0 fP) : Met l yX10_gate mwX10_gatem ({ frames := 43, cells := 0, slots := 0, locals := 2580 }) (va_Pc [.ref (ad 0), .int i1, .int i2] (fun U => U.heap.size = sz ∧ va_P (dC, dI) vwCl (mW ad kc x0 x1 x2 x3 x4 x5 x6 x7 x8 x9 x10 x11 x12 x13 x14 x15 x16 x17 x18 x19 x20 x21 f0 f1 f2 f3 f4 f5 f6 f7 f8 f9 f10 f11 f12 f13 f14 f15 f16 f17 f18 f19 f20 f21 fL fN fP fM fO) U.heap ∧ va_K (dC, dI) vwCl (mT kc) U ∧ va_D (fun _ => True) (mW ad kc x0 x1 x2 x3 x4 x5 x6 x7 x8 x9 x10 x11 x12 x13 x14 x15 x16 x17 x18 x19 x20 x21 f0 f1 f2 f3 f4 f5 f6 f7 f8 f9 f10 f11 f12 f13 f14 f15 f16 f17 f18 f19 f20 f21 fL fN fP fM fO) ∧ (Cond.arrayOver (.array .int)).before #[] U = true)) (va_Qi (fun (o9 u9 : Int32) => o9 = u9) (fun (o9 : Int32) t => ∃ (y0 y12 y13 y14 y15 y16 y17 y18 y19 y20 y21 : Int32) (g3 g4 g5 g6 g7 g8 g9 g10 g11 g12 g13 g14 g15 g16 g17 g18 g19 : Nat → Int32) (L9 : Nat → Nat → Int64) (Nn9 : Nat → Nat → Int32) (P9 : Nat → Nat → Nat) (M9 : Nat → Nat → Int32) (O9 : Nat → Nat → Int32), (PI P9) ∧ va_P (dC, dI) vwCl (mW ad kc y0 x1 x2 x3 x4 x5 x6 x7 x8 x9 x10 x11 y12 y13 y14 y15 y16 y17 y18 y19 y20 y21 f0 f1 f2 g3 g4 g5 g6 g7 g8 g9 g10 g11 g12 g13 g14 g15 g16 g17 g18 g19 f20 f21 L9 Nn9 P9 M9 O9) t.heap ∧ va_K (dC, dI) vwCl (mT kc) t ∧ va_D (va_A (mW ad kc x0 x1 x2 x3 x4 x5 x6 x7 x8 x9 x10 x11 x12 x13 x14 x15 x16 x17 x18 x19 x20 x21 f0 f1 f2 f3 f4 f5 f6 f7 f8 f9 f10 f11 f12 f13 f14 f15 f16 f17 f18 f19 f20 f21 fL fN fP fM fO) sz) (mW ad kc y0 x1 x2 x3 x4 x5 x6 x7 x8 x9 x10 x11 y12 y13 y14 y15 y16 y17 y18 y19 y20 y21 f0 f1 f2 g3 g4 g5 g6 g7 g8 g9 g10 g11 g12 g13 g14 g15 g16 g17 g18 g19 f20 f21 L9 Nn9 P9 M9 O9)) (va_A (mW ad kc x0 x1 x2 x3 x4 x5 x6 x7 x8 x9 x10 x11 x12 x13 x14 x15 x16 x17 x18 x19 x20 x21 f0 f1 f2 f3 f4 f5 f6 f7 f8 f9 f10 f11 f12 f13 f14 f15 f16 f17 f18 f19 f20 f21 fL fN fP fM fO) sz)) 0 0 (va_A (mW ad kc x0 x1 x2 x3 x4 x5 x6 x7 x8 x9 x10 x11 x12 x13 x14 x15 x16 x17 x18 x19 x20 x21 f0 f1 f2 f3 f4 f5 f6 f7 f8 f9 f10 f11 f12 f13 f14 f15 f16 f17 f18 f19 f20 f21 fL fN fP fM fO) sz) := by
  refine Met.ofW (cc := cX10_gate) (maxL := 5) (ret := (some .int)) (by decide +kernel) rfl ?_
  intro p e s m args below meth c s₁ B hml hv
  obtain ⟨rfl, hsz, hP, hK, hD0, hOV⟩ := hv
  have hx := B.exec
  have hb := B.bytes
  have hr := B.returns
  have hts := atoms_spec (ws := mwX10_gatem) B.pre
  have hown : s.vm.findClass RX10 = some m.cls := findClass_of_methodNamed B.named
  have hlocks := B.notSynchronized
  subst hsz
  have hD := hD0.self (sz := s.heap.size)
  generalize hAe : va_A (mW ad kc x0 x1 x2 x3 x4 x5 x6 x7 x8 x9 x10 x11 x12 x13 x14 x15 x16 x17 x18 x19 x20 x21 f0 f1 f2 f3 f4 f5 f6 f7 f8 f9 f10 f11 f12 f13 f14 f15 f16 f17 f18 f19 f20 f21 fL fN fP fM fO) s.heap.size = A at hD ⊢
  have hA : ∀ q : Nat, s.heap.size ≤ q → A q := fun q h => by rw [← hAe]; exact Or.inr h
  have hP : va_P (dC, dI) vwCl (mW ad kc x0 x1 x2 x3 x4 x5 x6 x7 x8 x9 x10 x11 x12 x13 x14 x15 x16 x17 x18 x19 x20 x21 f0 f1 f2 f3 f4 f5 f6 f7 f8 f9 f10 f11 f12 f13 f14 f15 f16 f17 f18 f19 f20 f21 fL fN fP fM fO) s.heap := hP
  have hD : va_D A (mW ad kc x0 x1 x2 x3 x4 x5 x6 x7 x8 x9 x10 x11 x12 x13 x14 x15 x16 x17 x18 x19 x20 x21 f0 f1 f2 f3 f4 f5 f6 f7 f8 f9 f10 f11 f12 f13 f14 f15 f16 f17 f18 f19 f20 f21 fL fN fP fM fO) := hD
  have hK : va_K (dC, dI) vwCl (mT kc) s := hK
  generalize hH : s.heap = H at hP ⊢
  have hS : va_S A s.heap H [] := by rw [← hH]; exact va_S.rf
  have hl := lv_entry ([.ref (ad 0), .int i1, .int i2]) (n := 5) (Nat.le_of_ble_eq_true rfl)
  rw [lg_entry_eq]
  generalize (lg_sl ([.ref (ad 0), .int i1, .int i2]) ++ List.replicate (5 - (lg_sl ([.ref (ad 0), .int i1, .int i2])).length) Slot.unset).toArray = ls at hl ⊢
  have hl : lv_has ls 5 [(0, .ref (ad 0)), (1, .int i1), (2, .int i2)] := hl
  have rg_i1 := i_rng i1
  have rg_i2 := i_rng i2
  have hd := q0.d
  have hpi := q0.p
  have hq1 := q0.1
  have hq2 := q0.2.1
  have hq3 := q0.2.2.1
  have hd10 := hd.n0
  have hp8 := hd.P0
  refine lv_iload_n hx hb dX10_gate_0 rfl (lv_at hl 2 rfl) ?_
  refine lv_iconst (v := 0) hx hb dX10_gate_1 (by decide) ?_
  refine lv_iconst (v := 3) hx hb dX10_gate_2 (by decide) ?_
  refine vp_callSi (W.runS (As := [.int i2, .int 0, .int 3]) (rest := []) ⟨hx, hb, hml, hown, hts⟩ (m_isFrom l dC dI  i2 0 3 ) (va_cwS 3 hts mg_X10_gatem_X10_isFrom_200 rfl rfl rfl (by decide +kernel) ⟨Nat.le_of_ble_eq_true rfl, Nat.le_of_ble_eq_true rfl⟩) ⟨fun a U g mk q => ⟨q.1, trivial⟩, fun U hU hW => ⟨rfl, trivial⟩⟩ rfl rfl hl.1 rfl (lv_room (Nat.le_of_ble_eq_true rfl)) dX10_gate_3 ⟨Nat.le_of_ble_eq_true rfl, Nat.le_of_ble_eq_true rfl⟩) (fun r_1 hr_1 => ?_)
  have rg_r_1 := i_rng r_1
  refine lv_if_ne (tgt := 15) hx hb dX10_gate_6 (by decide) (fun k_2 => ?_) (fun k_2 => ?_)
  · have tk_2 := c_ne (a := r_1.toInt) (b := 0) rfl (by decide) k_2
    refine lv_aload_n hx hb dX10_gate_15 rfl (lv_at hl 0 rfl) ?_
    refine lv_iload_n hx hb dX10_gate_16 rfl (lv_at hl 1 rfl) ?_
    refine vp_callSi (W.runV (As := [.int i1]) (rest := []) ⟨hx, hb, hml, hown, hts⟩ (m_isPattern l dC dI ad kc x0 x1 x2 x3 x4 x5 x6 x7 x8 x9 x10 x11 x12 x13 x14 x15 x16 x17 x18 x19 x20 x21 f0 f1 f2 f3 f4 f5 f6 f7 f8 f9 f10 f11 f12 f13 f14 f15 f16 f17 f18 f19 f20 f21 fL fN fP fM fO i1 ) (cwV 1 hts mg_X10_gatem_X10_isPattern_458 rfl rfl rfl (by decide +kernel) ⟨Nat.le_of_ble_eq_true rfl, Nat.le_of_ble_eq_true rfl⟩) ⟨fun a U g mk q => by obtain ⟨q0, qP, qK⟩ := q; exact ⟨q0, qP, va_K.moved (u := U) (U := U.calling g mk a) (Vm.Alike.refl U.vm) qK⟩, va_recv hK hP (ci := 10) (q0 := 0) rfl rfl, fun U hU hW => ⟨rfl, by rw [hU]; exact hP, va_K.moved hW.alike hK⟩⟩ rfl rfl hl.1 rfl (lv_room (Nat.le_of_ble_eq_true rfl)) dX10_gate_17 ⟨Nat.le_of_ble_eq_true rfl, Nat.le_of_ble_eq_true rfl⟩) (fun r_3 hr_3 => ?_)
    have rg_r_3 := i_rng r_3
    refine lv_if_ne (tgt := 29) hx hb dX10_gate_20 (by decide) (fun k_4 => ?_) (fun k_4 => ?_)
    · have tk_4 := c_ne (a := r_3.toInt) (b := 0) rfl (by decide) k_4
      refine lv_aload_n hx hb dX10_gate_29 rfl (lv_at hl 0 rfl) ?_
      refine lv_iload_n hx hb dX10_gate_30 rfl (lv_at hl 1 rfl) ?_
      have hFc := m_free hD hS hA
      refine va_calli (va_runV (As := [.int i1]) (rest := []) ⟨hx, hb, hml, hown, hts⟩ (m_candidates l dC dI ad kc x0 x1 x2 x3 x4 x5 x6 x7 x8 x9 x10 x11 x12 x13 x14 x15 x16 x17 x18 x19 x20 x21 f0 f1 f2 f3 f4 f5 f6 f7 f8 f9 f10 f11 f12 f13 f14 f15 f16 f17 f18 f19 f20 f21 fL fN fP fM fO H.size i1 (by first | omega | assumption | decide | (have l0 := Int32.toInt_zero; omega)) (by first | omega | assumption | decide | (have l0 := Int32.toInt_zero; omega)) (by first | omega | assumption | decide | (have l0 := Int32.toInt_zero; omega))) (cwV 1 hts mg_X10_gatem_X10_candidates_445 rfl rfl rfl (by decide +kernel) ⟨Nat.le_of_ble_eq_true rfl, Nat.le_of_ble_eq_true rfl⟩) ⟨fun a U g mk q => by obtain ⟨q0, q1, qP, qK, qD, qE⟩ := q; exact ⟨q0, q1, qP, va_K.moved (u := U) (U := U.calling g mk a) (Vm.Alike.refl U.vm) qK, qD, over_moved (u := U) (E := U.calling g mk a) (Vm.Alike.refl U.vm) qE⟩, va_recv hK hP (ci := 10) (q0 := 0) rfl rfl, fun U hU hW => ⟨rfl, by rw [hU], by rw [hU]; exact hP, va_K.moved hW.alike hK, hD.weaken (fun _ _ _ _ => trivial), over_moved hW.alike hOV⟩⟩ rfl rfl hl.1 rfl (lv_room (Nat.le_of_ble_eq_true rfl)) dX10_gate_31 ⟨Nat.le_of_ble_eq_true rfl, Nat.le_of_ble_eq_true rfl⟩) hS (fun q _ h => hFc q h) hFc (fun r_5 u t H1 locs ht hvm hw hB hz1 hk1 hS => ?_)
      subst hw
      obtain ⟨x_6, x_7, x_8, x_9, x_10, x_11, x_12, x_13, x_14, f_15, f_16, f_17, f_18, f_19, f_20, f_21, f_22, f_23, f_24, L_25, Nn_26, P_27, M_28, O_29, hr_5_0, hP, hK1, hD1⟩ := hB
      rw [ht] at hP
      have hD := hD1.weaken (fun k q _ h => hFc q.1 h)
      clear hz1 hk1 hFc hD1 hK1 hvm
      generalize H1 = H at hP hS ⊢
      have rg_x_6 := i_rng x_6
      have rg_x_7 := i_rng x_7
      have rg_x_8 := i_rng x_8
      have rg_x_9 := i_rng x_9
      have rg_x_10 := i_rng x_10
      have rg_x_11 := i_rng x_11
      have rg_x_12 := i_rng x_12
      have rg_x_13 := i_rng x_13
      have rg_x_14 := i_rng x_14
      have rg_r_5 := i_rng r_5
      have hP : va_P (dC, dI) vwCl (mW ad kc x0 x1 x2 x3 x4 x5 x6 x7 x8 x9 x10 x11 x_6 x_7 x_8 x_9 x_10 x_11 x_12 x_13 x20 x_14 f0 f1 f2 f_15 f_16 f_17 f_18 f_19 f_20 f_21 f_22 f_23 f12 f13 f14 f15 f16 f17 f18 f_24 f20 f21 L_25 Nn_26 P_27 M_28 O_29) H := hP
      have hD : va_D A (mW ad kc x0 x1 x2 x3 x4 x5 x6 x7 x8 x9 x10 x11 x_6 x_7 x_8 x_9 x_10 x_11 x_12 x_13 x20 x_14 f0 f1 f2 f_15 f_16 f_17 f_18 f_19 f_20 f_21 f_22 f_23 f12 f13 f14 f15 f16 f17 f18 f_24 f20 f21 L_25 Nn_26 P_27 M_28 O_29) := hD
      have hPI9 := hr_5_0
      refine lv_istore_n (lv' := [(3, .int r_5), (0, .ref (ad 0)), (1, .int i1), (2, .int i2)]) hx hb dX10_gate_34 rfl hl (by decide) rfl (fun ls hl => ?_)
      refine lv_aload_n hx hb dX10_gate_35 rfl (lv_at hl 1 rfl) ?_
      refine lv_iload_n hx hb dX10_gate_36 rfl (lv_at hl 2 rfl) ?_
      have hFc := m_free hD hS hA
      refine va_calli (va_runV (As := [.int i1]) (rest := []) ⟨hx, hb, hml, hown, hts⟩ (m_fitting l dC dI ad kc x0 x1 x2 x3 x4 x5 x6 x7 x8 x9 x10 x11 x_6 x_7 x_8 x_9 x_10 x_11 x_12 x_13 x20 x_14 f0 f1 f2 f_15 f_16 f_17 f_18 f_19 f_20 f_21 f_22 f_23 f12 f13 f14 f15 f16 f17 f18 f_24 f20 f21 L_25 Nn_26 P_27 M_28 O_29 H.size i1 (by first | omega | assumption | decide | (have l0 := Int32.toInt_zero; omega)) (by first | omega | assumption | decide | (have l0 := Int32.toInt_zero; omega))) (cwV 1 hts mg_X10_gatem_X10_fitting_448 rfl rfl rfl (by decide +kernel) ⟨Nat.le_of_ble_eq_true rfl, Nat.le_of_ble_eq_true rfl⟩) ⟨fun a U g mk q => by obtain ⟨q0, q1, qP, qK, qD⟩ := q; exact ⟨q0, q1, qP, va_K.moved (u := U) (U := U.calling g mk a) (Vm.Alike.refl U.vm) qK, qD⟩, va_recv hK hP (ci := 10) (q0 := 0) rfl rfl, fun U hU hW => ⟨rfl, by rw [hU], by rw [hU]; exact hP, va_K.moved hW.alike hK, hD.weaken (fun _ _ _ _ => trivial)⟩⟩ rfl rfl hl.1 rfl (lv_room (Nat.le_of_ble_eq_true rfl)) dX10_gate_37 ⟨Nat.le_of_ble_eq_true rfl, Nat.le_of_ble_eq_true rfl⟩) hS (fun q _ h => hFc q h) hFc (fun r_30 u t H1 locs ht hvm hw hB hz1 hk1 hS => ?_)
      subst hw
      obtain ⟨x_31, x_32, x_33, x_34, x_35, f_36, f_37, f_38, f_39, f_40, f_41, f_42, f_43, f_44, f_45, f_46, f_47, f_48, hP, hK1, hD1⟩ := hB
      rw [ht] at hP
      have hD := hD1.weaken (fun k q _ h => hFc q.1 h)
      clear hz1 hk1 hFc hD1 hK1 hvm
      generalize H1 = H at hP hS ⊢
      have rg_x_31 := i_rng x_31
      have rg_x_32 := i_rng x_32
      have rg_x_33 := i_rng x_33
      have rg_x_34 := i_rng x_34
      have rg_x_35 := i_rng x_35
      have rg_r_30 := i_rng r_30
      have hP : va_P (dC, dI) vwCl (mW ad kc x0 x1 x2 x3 x4 x5 x6 x7 x8 x9 x10 x11 x_31 x_32 x_33 x_34 x_10 x_11 x_12 x_13 x_35 x_14 f0 f1 f2 f_36 f_37 f_38 f_39 f_40 f_41 f_21 f_22 f_23 f_42 f_43 f_44 f_45 f_46 f_47 f_48 f_24 f20 f21 L_25 Nn_26 P_27 M_28 O_29) H := hP
      have hD : va_D A (mW ad kc x0 x1 x2 x3 x4 x5 x6 x7 x8 x9 x10 x11 x_31 x_32 x_33 x_34 x_10 x_11 x_12 x_13 x_35 x_14 f0 f1 f2 f_36 f_37 f_38 f_39 f_40 f_41 f_21 f_22 f_23 f_42 f_43 f_44 f_45 f_46 f_47 f_48 f_24 f20 f21 L_25 Nn_26 P_27 M_28 O_29) := hD
      refine lv_istore (lv' := [(4, .int r_30), (3, .int r_5), (0, .ref (ad 0)), (1, .int i1), (2, .int i2)]) hx hb dX10_gate_40 hl (by decide) rfl (fun ls hl => ?_)
      refine lv_aload_n hx hb dX10_gate_42 rfl (lv_at hl 2 rfl) ?_
      refine lv_iload_n hx hb dX10_gate_43 rfl (lv_at hl 4 rfl) ?_
      refine lv_if_ne (tgt := 51) hx hb dX10_gate_44 (by decide) (fun k_49 => ?_) (fun k_49 => ?_)
      · have tk_49 := c_ne (a := i2.toInt) (b := 0) rfl (by decide) k_49
        refine lv_iload_n hx hb dX10_gate_51 rfl (lv_at hl 4 rfl) ?_
        refine lv_iconst (v := 1) hx hb dX10_gate_52 (by decide) ?_
        refine lv_icmp_ne (tgt := 63) hx hb dX10_gate_53 (by decide) (fun k_50 => ?_) (fun k_50 => ?_)
        · have tk_50 := c_ne (a := i2.toInt) (b := 1) rfl (by decide) k_50
          refine lv_iload_n hx hb dX10_gate_63 rfl (lv_at hl 4 rfl) ?_
          refine lv_iconst (v := 2) hx hb dX10_gate_64 (by decide) ?_
          refine lv_icmp_ne (tgt := 73) hx hb dX10_gate_65 (by decide) (fun k_51 => ?_) (fun k_51 => ?_)
          · have tk_51 := c_ne (a := i2.toInt) (b := 2) rfl (by decide) k_51
            refine lv_iload_n hx hb dX10_gate_73 rfl (lv_at hl 1 rfl) ?_
            refine lv_iload hx hb dX10_gate_74 (lv_at hl 0 rfl) ?_
            refine lv_iconst (v := (-1)) hx hb dX10_gate_76 (by decide) ?_
            refine lv_ixor hx hb dX10_gate_77 ?_
            refine lv_topi (fun y_52 ey_52 => ?_)
            have rg_y_52 := i_rng y_52
            refine lv_iand hx hb dX10_gate_78 ?_
            refine lv_topi (fun y_53 ey_53 => ?_)
            have rg_y_53 := i_rng y_53
            have hFc := m_free hD hS hA
            refine va_calli (va_runS (As := [.int y_53]) (rest := [.ref (ad 0)]) ⟨hx, hb, hml, hown, hts⟩ (m_ones l dC dI ad kc x0 x1 x2 x3 x4 x5 x6 x7 x8 x9 x10 x11 x_31 x_32 x_33 x_34 x_10 x_11 x_12 x_13 x_35 x_14 f0 f1 f2 f_36 f_37 f_38 f_39 f_40 f_41 f_21 f_22 f_23 f_42 f_43 f_44 f_45 f_46 f_47 f_48 f_24 f20 f21 L_25 Nn_26 P_27 M_28 O_29 H.size y_53 ) (va_cwS 1 hts mg_X10_gatem_X10_ones_464 rfl rfl rfl (by decide +kernel) ⟨Nat.le_of_ble_eq_true rfl, Nat.le_of_ble_eq_true rfl⟩) ⟨fun a U g mk q => by obtain ⟨q0, q1, qP, qK, qD⟩ := q; exact ⟨q0, q1, qP, va_K.moved (u := U) (U := U.calling g mk a) (Vm.Alike.refl U.vm) qK, qD⟩, fun U hU hW => ⟨rfl, by rw [hU], by rw [hU]; exact hP, va_K.moved hW.alike hK, hD.weaken (fun _ _ _ _ => trivial)⟩⟩ rfl rfl hl.1 rfl (lv_room (Nat.le_of_ble_eq_true rfl)) dX10_gate_79 ⟨Nat.le_of_ble_eq_true rfl, Nat.le_of_ble_eq_true rfl⟩) hS (fun q _ h => hFc q h) hFc (fun r_54 u t H1 locs ht hvm hw hB hz1 hk1 hS => ?_)
            subst hw
            obtain ⟨hP, hK1, hD1⟩ := hB
            rw [ht] at hP
            have hD := hD1.weaken (fun k q _ h => hFc q.1 h)
            clear hz1 hk1 hFc hD1 hK1 hvm
            generalize H1 = H at hP hS ⊢
            have rg_r_54 := i_rng r_54
            have hP : va_P (dC, dI) vwCl (mW ad kc x0 x1 x2 x3 x4 x5 x6 x7 x8 x9 x10 x11 x_31 x_32 x_33 x_34 x_10 x_11 x_12 x_13 x_35 x_14 f0 f1 f2 f_36 f_37 f_38 f_39 f_40 f_41 f_21 f_22 f_23 f_42 f_43 f_44 f_45 f_46 f_47 f_48 f_24 f20 f21 L_25 Nn_26 P_27 M_28 O_29) H := hP
            have hD : va_D A (mW ad kc x0 x1 x2 x3 x4 x5 x6 x7 x8 x9 x10 x11 x_31 x_32 x_33 x_34 x_10 x_11 x_12 x_13 x_35 x_14 f0 f1 f2 f_36 f_37 f_38 f_39 f_40 f_41 f_21 f_22 f_23 f_42 f_43 f_44 f_45 f_46 f_47 f_48 f_24 f20 f21 L_25 Nn_26 P_27 M_28 O_29) := hD
            have hFc := m_free hD hS hA
            refine va_calli (va_runV (As := [.int r_54]) (rest := []) ⟨hx, hb, hml, hown, hts⟩ (m_gives l dC dI ad kc x0 x1 x2 x3 x4 x5 x6 x7 x8 x9 x10 x11 x_31 x_32 x_33 x_34 x_10 x_11 x_12 x_13 x_35 x_14 f0 f1 f2 f_36 f_37 f_38 f_39 f_40 f_41 f_21 f_22 f_23 f_42 f_43 f_44 f_45 f_46 f_47 f_48 f_24 f20 f21 L_25 Nn_26 P_27 M_28 O_29 H.size r_54 ) (cwV 1 hts mg_X10_gatem_X10_gives_214 rfl rfl rfl (by decide +kernel) ⟨Nat.le_of_ble_eq_true rfl, Nat.le_of_ble_eq_true rfl⟩) ⟨fun a U g mk q => by obtain ⟨q0, q1, qP, qK, qD⟩ := q; exact ⟨q0, q1, qP, va_K.moved (u := U) (U := U.calling g mk a) (Vm.Alike.refl U.vm) qK, qD⟩, va_recv hK hP (ci := 10) (q0 := 0) rfl rfl, fun U hU hW => ⟨rfl, by rw [hU], by rw [hU]; exact hP, va_K.moved hW.alike hK, hD.weaken (fun _ _ _ _ => trivial)⟩⟩ rfl rfl hl.1 rfl (lv_room (Nat.le_of_ble_eq_true rfl)) dX10_gate_82 ⟨Nat.le_of_ble_eq_true rfl, Nat.le_of_ble_eq_true rfl⟩) hS (fun q _ h => hFc q h) hFc (fun r_55 u t H1 locs ht hvm hw hB hz1 hk1 hS => ?_)
            subst hw
            obtain ⟨hr_55_0, hP, hK1, hD1⟩ := hB
            rw [ht] at hP
            have hD := hD1.weaken (fun k q _ h => hFc q.1 h)
            clear hz1 hk1 hFc hD1 hK1 hvm
            generalize H1 = H at hP hS ⊢
            have rg_r_55 := i_rng r_55
            have hP : va_P (dC, dI) vwCl (mW ad kc 0 x1 x2 x3 x4 x5 x6 x7 x8 x9 x10 x11 x_31 x_32 x_33 x_34 x_10 x_11 x_12 x_13 x_35 x_14 f0 f1 f2 f_36 f_37 f_38 f_39 f_40 f_41 f_21 f_22 f_23 f_42 f_43 f_44 f_45 f_46 f_47 f_48 f_24 f20 f21 L_25 Nn_26 P_27 M_28 O_29) H := hP
            have hD : va_D A (mW ad kc 0 x1 x2 x3 x4 x5 x6 x7 x8 x9 x10 x11 x_31 x_32 x_33 x_34 x_10 x_11 x_12 x_13 x_35 x_14 f0 f1 f2 f_36 f_37 f_38 f_39 f_40 f_41 f_21 f_22 f_23 f_42 f_43 f_44 f_45 f_46 f_47 f_48 f_24 f20 f21 L_25 Nn_26 P_27 M_28 O_29) := hD
            have lit_55 : (0 : Int32).toInt = 0 := by decide
            exact W.iret hx hb hr (fun t ht hW => ⟨⟨_, _, rfl, rfl, 0, x_31, x_32, x_33, x_34, x_10, x_11, x_12, x_13, x_35, x_14, f_36, f_37, f_38, f_39, f_40, f_41, f_21, f_22, f_23, f_42, f_43, f_44, f_45, f_46, f_47, f_48, f_24, L_25, Nn_26, P_27, M_28, O_29, hPI9, by rw [ht]; exact hP, va_K.moved hW.alike hK, hD⟩, hS.F ht⟩) hS.2.2 dX10_gate_85
          · have tk_51 := c_eq (a := i2.toInt) (b := 2) rfl (by decide) k_51
            refine lv_iload hx hb dX10_gate_68 (lv_at hl 0 rfl) ?_
            refine lv_goto (tgt := 82) hx hb dX10_gate_70 (by decide) ?_
            have hFc := m_free hD hS hA
            refine va_calli (va_runV (As := [.int r_30]) (rest := []) ⟨hx, hb, hml, hown, hts⟩ (m_gives l dC dI ad kc x0 x1 x2 x3 x4 x5 x6 x7 x8 x9 x10 x11 x_31 x_32 x_33 x_34 x_10 x_11 x_12 x_13 x_35 x_14 f0 f1 f2 f_36 f_37 f_38 f_39 f_40 f_41 f_21 f_22 f_23 f_42 f_43 f_44 f_45 f_46 f_47 f_48 f_24 f20 f21 L_25 Nn_26 P_27 M_28 O_29 H.size r_30 ) (cwV 1 hts mg_X10_gatem_X10_gives_214 rfl rfl rfl (by decide +kernel) ⟨Nat.le_of_ble_eq_true rfl, Nat.le_of_ble_eq_true rfl⟩) ⟨fun a U g mk q => by obtain ⟨q0, q1, qP, qK, qD⟩ := q; exact ⟨q0, q1, qP, va_K.moved (u := U) (U := U.calling g mk a) (Vm.Alike.refl U.vm) qK, qD⟩, va_recv hK hP (ci := 10) (q0 := 0) rfl rfl, fun U hU hW => ⟨rfl, by rw [hU], by rw [hU]; exact hP, va_K.moved hW.alike hK, hD.weaken (fun _ _ _ _ => trivial)⟩⟩ rfl rfl hl.1 rfl (lv_room (Nat.le_of_ble_eq_true rfl)) dX10_gate_82 ⟨Nat.le_of_ble_eq_true rfl, Nat.le_of_ble_eq_true rfl⟩) hS (fun q _ h => hFc q h) hFc (fun r_57 u t H1 locs ht hvm hw hB hz1 hk1 hS => ?_)
            subst hw
            obtain ⟨hr_57_0, hP, hK1, hD1⟩ := hB
            rw [ht] at hP
            have hD := hD1.weaken (fun k q _ h => hFc q.1 h)
            clear hz1 hk1 hFc hD1 hK1 hvm
            generalize H1 = H at hP hS ⊢
            have rg_r_57 := i_rng r_57
            have hP : va_P (dC, dI) vwCl (mW ad kc 0 x1 x2 x3 x4 x5 x6 x7 x8 x9 x10 x11 x_31 x_32 x_33 x_34 x_10 x_11 x_12 x_13 x_35 x_14 f0 f1 f2 f_36 f_37 f_38 f_39 f_40 f_41 f_21 f_22 f_23 f_42 f_43 f_44 f_45 f_46 f_47 f_48 f_24 f20 f21 L_25 Nn_26 P_27 M_28 O_29) H := hP
            have hD : va_D A (mW ad kc 0 x1 x2 x3 x4 x5 x6 x7 x8 x9 x10 x11 x_31 x_32 x_33 x_34 x_10 x_11 x_12 x_13 x_35 x_14 f0 f1 f2 f_36 f_37 f_38 f_39 f_40 f_41 f_21 f_22 f_23 f_42 f_43 f_44 f_45 f_46 f_47 f_48 f_24 f20 f21 L_25 Nn_26 P_27 M_28 O_29) := hD
            have lit_57 : (0 : Int32).toInt = 0 := by decide
            exact W.iret hx hb hr (fun t ht hW => ⟨⟨_, _, rfl, rfl, 0, x_31, x_32, x_33, x_34, x_10, x_11, x_12, x_13, x_35, x_14, f_36, f_37, f_38, f_39, f_40, f_41, f_21, f_22, f_23, f_42, f_43, f_44, f_45, f_46, f_47, f_48, f_24, L_25, Nn_26, P_27, M_28, O_29, hPI9, by rw [ht]; exact hP, va_K.moved hW.alike hK, hD⟩, hS.F ht⟩) hS.2.2 dX10_gate_85
        · have tk_50 := c_eq (a := i2.toInt) (b := 1) rfl (by decide) k_50
          refine lv_aload_n hx hb dX10_gate_56 rfl (lv_at hl 2 rfl) ?_
          refine va_get (D := (dC, dI)) (ci := 10) (v := .int x_14) (C := RX10) (T := TX10) (N := 48) hx hb hts fin_X10_gatem_X10 hown hK hP 0 rfl rfl 43 (by decide) (hts (.fieldLink RX10 417 "PatternGateModel" "leaps" "I") (List.mem_of_getElem? (i := 18) (by decide +kernel))) (fun _ h9 => h9) rfl dX10_gate_57 ?_
          refine lv_goto (tgt := 82) hx hb dX10_gate_60 (by decide) ?_
          have hFc := m_free hD hS hA
          refine va_calli (va_runV (As := [.int x_14]) (rest := []) ⟨hx, hb, hml, hown, hts⟩ (m_gives l dC dI ad kc x0 x1 x2 x3 x4 x5 x6 x7 x8 x9 x10 x11 x_31 x_32 x_33 x_34 x_10 x_11 x_12 x_13 x_35 x_14 f0 f1 f2 f_36 f_37 f_38 f_39 f_40 f_41 f_21 f_22 f_23 f_42 f_43 f_44 f_45 f_46 f_47 f_48 f_24 f20 f21 L_25 Nn_26 P_27 M_28 O_29 H.size x_14 ) (cwV 1 hts mg_X10_gatem_X10_gives_214 rfl rfl rfl (by decide +kernel) ⟨Nat.le_of_ble_eq_true rfl, Nat.le_of_ble_eq_true rfl⟩) ⟨fun a U g mk q => by obtain ⟨q0, q1, qP, qK, qD⟩ := q; exact ⟨q0, q1, qP, va_K.moved (u := U) (U := U.calling g mk a) (Vm.Alike.refl U.vm) qK, qD⟩, va_recv hK hP (ci := 10) (q0 := 0) rfl rfl, fun U hU hW => ⟨rfl, by rw [hU], by rw [hU]; exact hP, va_K.moved hW.alike hK, hD.weaken (fun _ _ _ _ => trivial)⟩⟩ rfl rfl hl.1 rfl (lv_room (Nat.le_of_ble_eq_true rfl)) dX10_gate_82 ⟨Nat.le_of_ble_eq_true rfl, Nat.le_of_ble_eq_true rfl⟩) hS (fun q _ h => hFc q h) hFc (fun r_59 u t H1 locs ht hvm hw hB hz1 hk1 hS => ?_)
          subst hw
          obtain ⟨hr_59_0, hP, hK1, hD1⟩ := hB
          rw [ht] at hP
          have hD := hD1.weaken (fun k q _ h => hFc q.1 h)
          clear hz1 hk1 hFc hD1 hK1 hvm
          generalize H1 = H at hP hS ⊢
          have rg_r_59 := i_rng r_59
          have hP : va_P (dC, dI) vwCl (mW ad kc 0 x1 x2 x3 x4 x5 x6 x7 x8 x9 x10 x11 x_31 x_32 x_33 x_34 x_10 x_11 x_12 x_13 x_35 x_14 f0 f1 f2 f_36 f_37 f_38 f_39 f_40 f_41 f_21 f_22 f_23 f_42 f_43 f_44 f_45 f_46 f_47 f_48 f_24 f20 f21 L_25 Nn_26 P_27 M_28 O_29) H := hP
          have hD : va_D A (mW ad kc 0 x1 x2 x3 x4 x5 x6 x7 x8 x9 x10 x11 x_31 x_32 x_33 x_34 x_10 x_11 x_12 x_13 x_35 x_14 f0 f1 f2 f_36 f_37 f_38 f_39 f_40 f_41 f_21 f_22 f_23 f_42 f_43 f_44 f_45 f_46 f_47 f_48 f_24 f20 f21 L_25 Nn_26 P_27 M_28 O_29) := hD
          have lit_59 : (0 : Int32).toInt = 0 := by decide
          exact W.iret hx hb hr (fun t ht hW => ⟨⟨_, _, rfl, rfl, 0, x_31, x_32, x_33, x_34, x_10, x_11, x_12, x_13, x_35, x_14, f_36, f_37, f_38, f_39, f_40, f_41, f_21, f_22, f_23, f_42, f_43, f_44, f_45, f_46, f_47, f_48, f_24, L_25, Nn_26, P_27, M_28, O_29, hPI9, by rw [ht]; exact hP, va_K.moved hW.alike hK, hD⟩, hS.F ht⟩) hS.2.2 dX10_gate_85
      · have tk_49 := c_eq (a := i2.toInt) (b := 0) rfl (by decide) k_49
        refine lv_iload_n hx hb dX10_gate_47 rfl (lv_at hl 1 rfl) ?_
        refine lv_goto (tgt := 82) hx hb dX10_gate_48 (by decide) ?_
        have hFc := m_free hD hS hA
        refine va_calli (va_runV (As := [.int r_5]) (rest := []) ⟨hx, hb, hml, hown, hts⟩ (m_gives l dC dI ad kc x0 x1 x2 x3 x4 x5 x6 x7 x8 x9 x10 x11 x_31 x_32 x_33 x_34 x_10 x_11 x_12 x_13 x_35 x_14 f0 f1 f2 f_36 f_37 f_38 f_39 f_40 f_41 f_21 f_22 f_23 f_42 f_43 f_44 f_45 f_46 f_47 f_48 f_24 f20 f21 L_25 Nn_26 P_27 M_28 O_29 H.size r_5 ) (cwV 1 hts mg_X10_gatem_X10_gives_214 rfl rfl rfl (by decide +kernel) ⟨Nat.le_of_ble_eq_true rfl, Nat.le_of_ble_eq_true rfl⟩) ⟨fun a U g mk q => by obtain ⟨q0, q1, qP, qK, qD⟩ := q; exact ⟨q0, q1, qP, va_K.moved (u := U) (U := U.calling g mk a) (Vm.Alike.refl U.vm) qK, qD⟩, va_recv hK hP (ci := 10) (q0 := 0) rfl rfl, fun U hU hW => ⟨rfl, by rw [hU], by rw [hU]; exact hP, va_K.moved hW.alike hK, hD.weaken (fun _ _ _ _ => trivial)⟩⟩ rfl rfl hl.1 rfl (lv_room (Nat.le_of_ble_eq_true rfl)) dX10_gate_82 ⟨Nat.le_of_ble_eq_true rfl, Nat.le_of_ble_eq_true rfl⟩) hS (fun q _ h => hFc q h) hFc (fun r_61 u t H1 locs ht hvm hw hB hz1 hk1 hS => ?_)
        subst hw
        obtain ⟨hr_61_0, hP, hK1, hD1⟩ := hB
        rw [ht] at hP
        have hD := hD1.weaken (fun k q _ h => hFc q.1 h)
        clear hz1 hk1 hFc hD1 hK1 hvm
        generalize H1 = H at hP hS ⊢
        have rg_r_61 := i_rng r_61
        have hP : va_P (dC, dI) vwCl (mW ad kc 0 x1 x2 x3 x4 x5 x6 x7 x8 x9 x10 x11 x_31 x_32 x_33 x_34 x_10 x_11 x_12 x_13 x_35 x_14 f0 f1 f2 f_36 f_37 f_38 f_39 f_40 f_41 f_21 f_22 f_23 f_42 f_43 f_44 f_45 f_46 f_47 f_48 f_24 f20 f21 L_25 Nn_26 P_27 M_28 O_29) H := hP
        have hD : va_D A (mW ad kc 0 x1 x2 x3 x4 x5 x6 x7 x8 x9 x10 x11 x_31 x_32 x_33 x_34 x_10 x_11 x_12 x_13 x_35 x_14 f0 f1 f2 f_36 f_37 f_38 f_39 f_40 f_41 f_21 f_22 f_23 f_42 f_43 f_44 f_45 f_46 f_47 f_48 f_24 f20 f21 L_25 Nn_26 P_27 M_28 O_29) := hD
        have lit_61 : (0 : Int32).toInt = 0 := by decide
        exact W.iret hx hb hr (fun t ht hW => ⟨⟨_, _, rfl, rfl, 0, x_31, x_32, x_33, x_34, x_10, x_11, x_12, x_13, x_35, x_14, f_36, f_37, f_38, f_39, f_40, f_41, f_21, f_22, f_23, f_42, f_43, f_44, f_45, f_46, f_47, f_48, f_24, L_25, Nn_26, P_27, M_28, O_29, hPI9, by rw [ht]; exact hP, va_K.moved hW.alike hK, hD⟩, hS.F ht⟩) hS.2.2 dX10_gate_85
    · have tk_4 := c_eq (a := r_3.toInt) (b := 0) rfl (by decide) k_4
      refine lv_aload_n hx hb dX10_gate_23 rfl (lv_at hl 0 rfl) ?_
      refine lv_iconst (v := 2) hx hb dX10_gate_24 (by decide) ?_
      have hFc := m_free hD hS hA
      refine va_calli (va_runV (As := [.int 2]) (rest := []) ⟨hx, hb, hml, hown, hts⟩ (m_refuse l dC dI ad kc x0 x1 x2 x3 x4 x5 x6 x7 x8 x9 x10 x11 x12 x13 x14 x15 x16 x17 x18 x19 x20 x21 f0 f1 f2 f3 f4 f5 f6 f7 f8 f9 f10 f11 f12 f13 f14 f15 f16 f17 f18 f19 f20 f21 fL fN fP fM fO H.size 2 ) (cwV 1 hts mg_X10_gatem_X10_refuse_204 rfl rfl rfl (by decide +kernel) ⟨Nat.le_of_ble_eq_true rfl, Nat.le_of_ble_eq_true rfl⟩) ⟨fun a U g mk q => by obtain ⟨q0, q1, qP, qK, qD⟩ := q; exact ⟨q0, q1, qP, va_K.moved (u := U) (U := U.calling g mk a) (Vm.Alike.refl U.vm) qK, qD⟩, va_recv hK hP (ci := 10) (q0 := 0) rfl rfl, fun U hU hW => ⟨rfl, by rw [hU], by rw [hU]; exact hP, va_K.moved hW.alike hK, hD.weaken (fun _ _ _ _ => trivial)⟩⟩ rfl rfl hl.1 rfl (lv_room (Nat.le_of_ble_eq_true rfl)) dX10_gate_25 ⟨Nat.le_of_ble_eq_true rfl, Nat.le_of_ble_eq_true rfl⟩) hS (fun q _ h => hFc q h) hFc (fun r_63 u t H1 locs ht hvm hw hB hz1 hk1 hS => ?_)
      subst hw
      obtain ⟨hr_63_0, hP, hK1, hD1⟩ := hB
      rw [ht] at hP
      have hD := hD1.weaken (fun k q _ h => hFc q.1 h)
      clear hz1 hk1 hFc hD1 hK1 hvm
      generalize H1 = H at hP hS ⊢
      have rg_r_63 := i_rng r_63
      have hP : va_P (dC, dI) vwCl (mW ad kc 2 x1 x2 x3 x4 x5 x6 x7 x8 x9 x10 x11 x12 x13 x14 x15 x16 x17 x18 x19 x20 x21 f0 f1 f2 f3 f4 f5 f6 f7 f8 f9 f10 f11 f12 f13 f14 f15 f16 f17 f18 f19 f20 f21 fL fN fP fM fO) H := hP
      have hD : va_D A (mW ad kc 2 x1 x2 x3 x4 x5 x6 x7 x8 x9 x10 x11 x12 x13 x14 x15 x16 x17 x18 x19 x20 x21 f0 f1 f2 f3 f4 f5 f6 f7 f8 f9 f10 f11 f12 f13 f14 f15 f16 f17 f18 f19 f20 f21 fL fN fP fM fO) := hD
      have lit_63 : (2 : Int32).toInt = 2 := by decide
      exact W.iret hx hb hr (fun t ht hW => ⟨⟨_, _, rfl, rfl, 2, x12, x13, x14, x15, x16, x17, x18, x19, x20, x21, f3, f4, f5, f6, f7, f8, f9, f10, f11, f12, f13, f14, f15, f16, f17, f18, f19, fL, fN, fP, fM, fO, hpi, by rw [ht]; exact hP, va_K.moved hW.alike hK, hD⟩, hS.F ht⟩) hS.2.2 dX10_gate_28
  · have tk_2 := c_eq (a := r_1.toInt) (b := 0) rfl (by decide) k_2
    refine lv_aload_n hx hb dX10_gate_9 rfl (lv_at hl 0 rfl) ?_
    refine lv_iconst (v := 1) hx hb dX10_gate_10 (by decide) ?_
    have hFc := m_free hD hS hA
    refine va_calli (va_runV (As := [.int 1]) (rest := []) ⟨hx, hb, hml, hown, hts⟩ (m_refuse l dC dI ad kc x0 x1 x2 x3 x4 x5 x6 x7 x8 x9 x10 x11 x12 x13 x14 x15 x16 x17 x18 x19 x20 x21 f0 f1 f2 f3 f4 f5 f6 f7 f8 f9 f10 f11 f12 f13 f14 f15 f16 f17 f18 f19 f20 f21 fL fN fP fM fO H.size 1 ) (cwV 1 hts mg_X10_gatem_X10_refuse_204 rfl rfl rfl (by decide +kernel) ⟨Nat.le_of_ble_eq_true rfl, Nat.le_of_ble_eq_true rfl⟩) ⟨fun a U g mk q => by obtain ⟨q0, q1, qP, qK, qD⟩ := q; exact ⟨q0, q1, qP, va_K.moved (u := U) (U := U.calling g mk a) (Vm.Alike.refl U.vm) qK, qD⟩, va_recv hK hP (ci := 10) (q0 := 0) rfl rfl, fun U hU hW => ⟨rfl, by rw [hU], by rw [hU]; exact hP, va_K.moved hW.alike hK, hD.weaken (fun _ _ _ _ => trivial)⟩⟩ rfl rfl hl.1 rfl (lv_room (Nat.le_of_ble_eq_true rfl)) dX10_gate_11 ⟨Nat.le_of_ble_eq_true rfl, Nat.le_of_ble_eq_true rfl⟩) hS (fun q _ h => hFc q h) hFc (fun r_65 u t H1 locs ht hvm hw hB hz1 hk1 hS => ?_)
    subst hw
    obtain ⟨hr_65_0, hP, hK1, hD1⟩ := hB
    rw [ht] at hP
    have hD := hD1.weaken (fun k q _ h => hFc q.1 h)
    clear hz1 hk1 hFc hD1 hK1 hvm
    generalize H1 = H at hP hS ⊢
    have rg_r_65 := i_rng r_65
    have hP : va_P (dC, dI) vwCl (mW ad kc 1 x1 x2 x3 x4 x5 x6 x7 x8 x9 x10 x11 x12 x13 x14 x15 x16 x17 x18 x19 x20 x21 f0 f1 f2 f3 f4 f5 f6 f7 f8 f9 f10 f11 f12 f13 f14 f15 f16 f17 f18 f19 f20 f21 fL fN fP fM fO) H := hP
    have hD : va_D A (mW ad kc 1 x1 x2 x3 x4 x5 x6 x7 x8 x9 x10 x11 x12 x13 x14 x15 x16 x17 x18 x19 x20 x21 f0 f1 f2 f3 f4 f5 f6 f7 f8 f9 f10 f11 f12 f13 f14 f15 f16 f17 f18 f19 f20 f21 fL fN fP fM fO) := hD
    have lit_65 : (1 : Int32).toInt = 1 := by decide
    exact W.iret hx hb hr (fun t ht hW => ⟨⟨_, _, rfl, rfl, 1, x12, x13, x14, x15, x16, x17, x18, x19, x20, x21, f3, f4, f5, f6, f7, f8, f9, f10, f11, f12, f13, f14, f15, f16, f17, f18, f19, fL, fN, fP, fM, fO, hpi, by rw [ht]; exact hP, va_K.moved hW.alike hK, hD⟩, hS.F ht⟩) hS.2.2 dX10_gate_14
theorem dX10_match_0 : decode cX10_match 0 = .ok (.iload_n 3, 1) := by decide +kernel
theorem dX10_match_1 : decode cX10_match 1 = .ok (.iconst 0, 1) := by decide +kernel
theorem dX10_match_2 : decode cX10_match 2 = .ok (.iconst 2, 1) := by decide +kernel
theorem dX10_match_3 : decode cX10_match 3 = .ok (.invokestatic 200, 3) := by decide +kernel
theorem dX10_match_6 : decode cX10_match 6 = .ok (.ifCond .ne 9, 3) := by decide +kernel
theorem dX10_match_9 : decode cX10_match 9 = .ok (.aload_n 0, 1) := by decide +kernel
theorem dX10_match_10 : decode cX10_match 10 = .ok (.iconst 1, 1) := by decide +kernel
theorem dX10_match_11 : decode cX10_match 11 = .ok (.invokevirtual 204, 3) := by decide +kernel
theorem dX10_match_14 : decode cX10_match 14 = .ok (.ireturn, 1) := by decide +kernel
theorem dX10_match_15 : decode cX10_match 15 = .ok (.aload_n 0, 1) := by decide +kernel
theorem dX10_match_16 : decode cX10_match 16 = .ok (.iload_n 1, 1) := by decide +kernel
theorem dX10_match_17 : decode cX10_match 17 = .ok (.invokevirtual 458, 3) := by decide +kernel
theorem dX10_match_20 : decode cX10_match 20 = .ok (.ifCond .eq 11, 3) := by decide +kernel
theorem dX10_match_23 : decode cX10_match 23 = .ok (.aload_n 0, 1) := by decide +kernel
theorem dX10_match_24 : decode cX10_match 24 = .ok (.iload_n 2, 1) := by decide +kernel
theorem dX10_match_25 : decode cX10_match 25 = .ok (.invokevirtual 451, 3) := by decide +kernel
theorem dX10_match_28 : decode cX10_match 28 = .ok (.ifCond .ne 9, 3) := by decide +kernel
theorem dX10_match_31 : decode cX10_match 31 = .ok (.aload_n 0, 1) := by decide +kernel
theorem dX10_match_32 : decode cX10_match 32 = .ok (.iconst 2, 1) := by decide +kernel
theorem dX10_match_33 : decode cX10_match 33 = .ok (.invokevirtual 204, 3) := by decide +kernel
theorem dX10_match_36 : decode cX10_match 36 = .ok (.ireturn, 1) := by decide +kernel
theorem dX10_match_37 : decode cX10_match 37 = .ok (.aload_n 0, 1) := by decide +kernel
theorem dX10_match_38 : decode cX10_match 38 = .ok (.iload_n 1, 1) := by decide +kernel
theorem dX10_match_39 : decode cX10_match 39 = .ok (.invokevirtual 427, 3) := by decide +kernel
theorem dX10_match_42 : decode cX10_match 42 = .ok (.iload_n 3, 1) := by decide +kernel
theorem dX10_match_43 : decode cX10_match 43 = .ok (.iconst 2, 1) := by decide +kernel
theorem dX10_match_44 : decode cX10_match 44 = .ok (.if_icmp .ne 13, 3) := by decide +kernel
theorem dX10_match_47 : decode cX10_match 47 = .ok (.aload_n 0, 1) := by decide +kernel
theorem dX10_match_48 : decode cX10_match 48 = .ok (.aload_n 0, 1) := by decide +kernel
theorem dX10_match_49 : decode cX10_match 49 = .ok (.iload_n 2, 1) := by decide +kernel
theorem dX10_match_50 : decode cX10_match 50 = .ok (.invokevirtual 467, 3) := by decide +kernel
theorem dX10_match_53 : decode cX10_match 53 = .ok (.invokevirtual 214, 3) := by decide +kernel
theorem dX10_match_56 : decode cX10_match 56 = .ok (.ireturn, 1) := by decide +kernel
theorem dX10_match_57 : decode cX10_match 57 = .ok (.aload_n 0, 1) := by decide +kernel
theorem dX10_match_58 : decode cX10_match 58 = .ok (.iload_n 2, 1) := by decide +kernel
theorem dX10_match_59 : decode cX10_match 59 = .ok (.iconst 0, 1) := by decide +kernel
theorem dX10_match_60 : decode cX10_match 60 = .ok (.invokevirtual 430, 3) := by decide +kernel
theorem dX10_match_63 : decode cX10_match 63 = .ok (.istore 4, 2) := by decide +kernel
theorem dX10_match_65 : decode cX10_match 65 = .ok (.iload 4, 2) := by decide +kernel
theorem dX10_match_67 : decode cX10_match 67 = .ok (.iconst (-1), 1) := by decide +kernel
theorem dX10_match_68 : decode cX10_match 68 = .ok (.if_icmp .ne 11, 3) := by decide +kernel
theorem dX10_match_71 : decode cX10_match 71 = .ok (.aload_n 0, 1) := by decide +kernel
theorem dX10_match_72 : decode cX10_match 72 = .ok (.iconst 5, 1) := by decide +kernel
theorem dX10_match_73 : decode cX10_match 73 = .ok (.invokevirtual 204, 3) := by decide +kernel
theorem dX10_match_76 : decode cX10_match 76 = .ok (.goto 23, 3) := by decide +kernel
theorem dX10_match_79 : decode cX10_match 79 = .ok (.aload_n 0, 1) := by decide +kernel
theorem dX10_match_80 : decode cX10_match 80 = .ok (.iload_n 3, 1) := by decide +kernel
theorem dX10_match_81 : decode cX10_match 81 = .ok (.ifCond .ne 8, 3) := by decide +kernel
theorem dX10_match_84 : decode cX10_match 84 = .ok (.iload 4, 2) := by decide +kernel
theorem dX10_match_86 : decode cX10_match 86 = .ok (.goto 10, 3) := by decide +kernel
theorem dX10_match_89 : decode cX10_match 89 = .ok (.aload_n 0, 1) := by decide +kernel
theorem dX10_match_90 : decode cX10_match 90 = .ok (.iload_n 2, 1) := by decide +kernel
theorem dX10_match_91 : decode cX10_match 91 = .ok (.iload 4, 2) := by decide +kernel
theorem dX10_match_93 : decode cX10_match 93 = .ok (.invokevirtual 405, 3) := by decide +kernel
theorem dX10_match_96 : decode cX10_match 96 = .ok (.invokevirtual 214, 3) := by decide +kernel
theorem dX10_match_99 : decode cX10_match 99 = .ok (.ireturn, 1) := by decide +kernel
def mwX10_matchm : List Cond := .code yX10_match cX10_match 5 (some .int) :: (([.methodLink RX10 200 yX10_isFrom, .static yX10_isFrom, .initialized RX10, .methodLink RX10 458 yX10_isPattern, .instanceMethod yX10_isPattern, .selects RX10 yX10_isPattern yX10_isPattern, .methodLink RX10 204 yX10_refuse, .instanceMethod yX10_refuse, .selects RX10 yX10_refuse yX10_refuse, .methodLink RX10 451 yX10_isDoc, .instanceMethod yX10_isDoc, .selects RX10 yX10_isDoc yX10_isDoc, .methodLink RX10 427 yX10_matches, .instanceMethod yX10_matches, .selects RX10 yX10_matches yX10_matches, .methodLink RX10 430 yX10_firstMatch, .instanceMethod yX10_firstMatch, .selects RX10 yX10_firstMatch yX10_firstMatch, .methodLink RX10 405 yX10_longest, .instanceMethod yX10_longest, .selects RX10 yX10_longest yX10_longest, .methodLink RX10 214 yX10_gives, .instanceMethod yX10_gives, .selects RX10 yX10_gives yX10_gives, .methodLink RX10 467 yX10_matchMany, .instanceMethod yX10_matchMany, .selects RX10 yX10_matchMany yX10_matchMany] : List Cond) ++ (mwX10_isFromm ++ (mwX10_isPatternm ++ (mwX10_refusem ++ (mwX10_isDocm ++ (mwX10_matchesm ++ (mwX10_firstMatchm ++ (mwX10_longestm ++ (mwX10_givesm ++ (mwX10_matchManym))))))))))
set_option maxRecDepth 100000 in
theorem gd_mwX10_matchManym : mwX10_matchManym.all goodWord = true := by decide +kernel
set_option maxRecDepth 20000 in
theorem mg_X10_matchm_X10_isFrom_200 : GoodIn mwX10_matchm (va_wsS RX10 200 yX10_isFrom mwX10_isFromm) := gi_app (A := [.methodLink RX10 200 yX10_isFrom, .static yX10_isFrom, .initialized RX10]) (goodIn_r _ [1, 2, 3] (by decide +kernel) (by decide +kernel)) (gi_sub gd_mwX10_isFromm (fun w h => List.mem_cons_of_mem _ (List.mem_append_right _ (List.mem_append_left _ h))))
set_option maxRecDepth 20000 in
theorem mg_X10_matchm_X10_isPattern_458 : GoodIn mwX10_matchm (wsV RX10 458 RX10 yX10_isPattern mwX10_isPatternm) := gi_app (A := [.methodLink RX10 458 yX10_isPattern, .instanceMethod yX10_isPattern, .selects RX10 yX10_isPattern yX10_isPattern, .initialized RX10]) (goodIn_r _ [4, 5, 6, 3] (by decide +kernel) (by decide +kernel)) (gi_sub gd_mwX10_isPatternm (fun w h => List.mem_cons_of_mem _ (List.mem_append_right _ (List.mem_append_right _ (List.mem_append_left _ h)))))
set_option maxRecDepth 20000 in
theorem mg_X10_matchm_X10_refuse_204 : GoodIn mwX10_matchm (wsV RX10 204 RX10 yX10_refuse mwX10_refusem) := gi_app (A := [.methodLink RX10 204 yX10_refuse, .instanceMethod yX10_refuse, .selects RX10 yX10_refuse yX10_refuse, .initialized RX10]) (goodIn_r _ [7, 8, 9, 3] (by decide +kernel) (by decide +kernel)) (gi_sub gd_mwX10_refusem (fun w h => List.mem_cons_of_mem _ (List.mem_append_right _ (List.mem_append_right _ (List.mem_append_right _ (List.mem_append_left _ h))))))
set_option maxRecDepth 20000 in
theorem mg_X10_matchm_X10_isDoc_451 : GoodIn mwX10_matchm (wsV RX10 451 RX10 yX10_isDoc mwX10_isDocm) := gi_app (A := [.methodLink RX10 451 yX10_isDoc, .instanceMethod yX10_isDoc, .selects RX10 yX10_isDoc yX10_isDoc, .initialized RX10]) (goodIn_r _ [10, 11, 12, 3] (by decide +kernel) (by decide +kernel)) (gi_sub gd_mwX10_isDocm (fun w h => List.mem_cons_of_mem _ (List.mem_append_right _ (List.mem_append_right _ (List.mem_append_right _ (List.mem_append_right _ (List.mem_append_left _ h)))))))
set_option maxRecDepth 20000 in
theorem mg_X10_matchm_X10_matches_427 : GoodIn mwX10_matchm (wsV RX10 427 RX10 yX10_matches mwX10_matchesm) := gi_app (A := [.methodLink RX10 427 yX10_matches, .instanceMethod yX10_matches, .selects RX10 yX10_matches yX10_matches, .initialized RX10]) (goodIn_r _ [13, 14, 15, 3] (by decide +kernel) (by decide +kernel)) (gi_sub gd_mwX10_matchesm (fun w h => List.mem_cons_of_mem _ (List.mem_append_right _ (List.mem_append_right _ (List.mem_append_right _ (List.mem_append_right _ (List.mem_append_right _ (List.mem_append_left _ h))))))))
set_option maxRecDepth 20000 in
theorem mg_X10_matchm_X10_firstMatch_430 : GoodIn mwX10_matchm (wsV RX10 430 RX10 yX10_firstMatch mwX10_firstMatchm) := gi_app (A := [.methodLink RX10 430 yX10_firstMatch, .instanceMethod yX10_firstMatch, .selects RX10 yX10_firstMatch yX10_firstMatch, .initialized RX10]) (goodIn_r _ [16, 17, 18, 3] (by decide +kernel) (by decide +kernel)) (gi_sub gd_mwX10_firstMatchm (fun w h => List.mem_cons_of_mem _ (List.mem_append_right _ (List.mem_append_right _ (List.mem_append_right _ (List.mem_append_right _ (List.mem_append_right _ (List.mem_append_right _ (List.mem_append_left _ h)))))))))
set_option maxRecDepth 20000 in
theorem mg_X10_matchm_X10_longest_405 : GoodIn mwX10_matchm (wsV RX10 405 RX10 yX10_longest mwX10_longestm) := gi_app (A := [.methodLink RX10 405 yX10_longest, .instanceMethod yX10_longest, .selects RX10 yX10_longest yX10_longest, .initialized RX10]) (goodIn_r _ [19, 20, 21, 3] (by decide +kernel) (by decide +kernel)) (gi_sub gd_mwX10_longestm (fun w h => List.mem_cons_of_mem _ (List.mem_append_right _ (List.mem_append_right _ (List.mem_append_right _ (List.mem_append_right _ (List.mem_append_right _ (List.mem_append_right _ (List.mem_append_right _ (List.mem_append_left _ h))))))))))
set_option maxRecDepth 20000 in
theorem mg_X10_matchm_X10_gives_214 : GoodIn mwX10_matchm (wsV RX10 214 RX10 yX10_gives mwX10_givesm) := gi_app (A := [.methodLink RX10 214 yX10_gives, .instanceMethod yX10_gives, .selects RX10 yX10_gives yX10_gives, .initialized RX10]) (goodIn_r _ [22, 23, 24, 3] (by decide +kernel) (by decide +kernel)) (gi_sub gd_mwX10_givesm (fun w h => List.mem_cons_of_mem _ (List.mem_append_right _ (List.mem_append_right _ (List.mem_append_right _ (List.mem_append_right _ (List.mem_append_right _ (List.mem_append_right _ (List.mem_append_right _ (List.mem_append_right _ (List.mem_append_left _ h)))))))))))
set_option maxRecDepth 20000 in
theorem mg_X10_matchm_X10_matchMany_467 : GoodIn mwX10_matchm (wsV RX10 467 RX10 yX10_matchMany mwX10_matchManym) := gi_app (A := [.methodLink RX10 467 yX10_matchMany, .instanceMethod yX10_matchMany, .selects RX10 yX10_matchMany yX10_matchMany, .initialized RX10]) (goodIn_r _ [25, 26, 27, 3] (by decide +kernel) (by decide +kernel)) (gi_sub gd_mwX10_matchManym (fun w h => List.mem_cons_of_mem _ (List.mem_append_right _ (List.mem_append_right _ (List.mem_append_right _ (List.mem_append_right _ (List.mem_append_right _ (List.mem_append_right _ (List.mem_append_right _ (List.mem_append_right _ (List.mem_append_right _ (h))))))))))))
set_option maxHeartbeats 4000000 in
set_option maxRecDepth 100000 in
theorem m_match (l : Launch) (dC : Nat → ClassId) (dI : Nat → Nat → Nat) (ad : Nat → Nat) (kc : Nat → ClassId) (x0 x1 x2 x3 x4 x5 x6 x7 x8 x9 x10 x11 x12 x13 x14 x15 x16 x17 x18 x19 x20 x21 : Int32) (f0 f1 f2 f3 f4 f5 f6 f7 f8 f9 f10 f11 f12 f13 f14 f15 f16 f17 f18 f19 f20 f21 : Nat → Int32) (fL : Nat → Nat → Int64) (fN : Nat → Nat → Int32) (fP : Nat → Nat → Nat) (fM : Nat → Nat → Int32) (fO : Nat → Nat → Int32) (sz : Nat) (i1 i2 i3 : Int32) (q0 : mI x1.toInt x2.toInt x3.toInt f0 fP) : Met l yX10_match mwX10_matchm ({ frames := 23, cells := 0, slots := 0, locals := 1380 }) (va_Pc [.ref (ad 0), .int i1, .int i2, .int i3] (fun U => U.heap.size = sz ∧ va_P (dC, dI) vwCl (mW ad kc x0 x1 x2 x3 x4 x5 x6 x7 x8 x9 x10 x11 x12 x13 x14 x15 x16 x17 x18 x19 x20 x21 f0 f1 f2 f3 f4 f5 f6 f7 f8 f9 f10 f11 f12 f13 f14 f15 f16 f17 f18 f19 f20 f21 fL fN fP fM fO) U.heap ∧ va_K (dC, dI) vwCl (mT kc) U ∧ va_D (fun _ => True) (mW ad kc x0 x1 x2 x3 x4 x5 x6 x7 x8 x9 x10 x11 x12 x13 x14 x15 x16 x17 x18 x19 x20 x21 f0 f1 f2 f3 f4 f5 f6 f7 f8 f9 f10 f11 f12 f13 f14 f15 f16 f17 f18 f19 f20 f21 fL fN fP fM fO))) (va_Qi (fun (o9 u9 : Int32) => o9 = u9) (fun (o9 : Int32) t => ∃ (y0 y12 y13 y14 y15 y20 : Int32) (g3 g4 g5 g6 g7 g8 g12 g13 g14 g15 g16 g17 g18 : Nat → Int32), va_P (dC, dI) vwCl (mW ad kc y0 x1 x2 x3 x4 x5 x6 x7 x8 x9 x10 x11 y12 y13 y14 y15 x16 x17 x18 x19 y20 x21 f0 f1 f2 g3 g4 g5 g6 g7 g8 f9 f10 f11 g12 g13 g14 g15 g16 g17 g18 f19 f20 f21 fL fN fP fM fO) t.heap ∧ va_K (dC, dI) vwCl (mT kc) t ∧ va_D (va_A (mW ad kc x0 x1 x2 x3 x4 x5 x6 x7 x8 x9 x10 x11 x12 x13 x14 x15 x16 x17 x18 x19 x20 x21 f0 f1 f2 f3 f4 f5 f6 f7 f8 f9 f10 f11 f12 f13 f14 f15 f16 f17 f18 f19 f20 f21 fL fN fP fM fO) sz) (mW ad kc y0 x1 x2 x3 x4 x5 x6 x7 x8 x9 x10 x11 y12 y13 y14 y15 x16 x17 x18 x19 y20 x21 f0 f1 f2 g3 g4 g5 g6 g7 g8 f9 f10 f11 g12 g13 g14 g15 g16 g17 g18 f19 f20 f21 fL fN fP fM fO)) (va_A (mW ad kc x0 x1 x2 x3 x4 x5 x6 x7 x8 x9 x10 x11 x12 x13 x14 x15 x16 x17 x18 x19 x20 x21 f0 f1 f2 f3 f4 f5 f6 f7 f8 f9 f10 f11 f12 f13 f14 f15 f16 f17 f18 f19 f20 f21 fL fN fP fM fO) sz)) 0 0 (va_A (mW ad kc x0 x1 x2 x3 x4 x5 x6 x7 x8 x9 x10 x11 x12 x13 x14 x15 x16 x17 x18 x19 x20 x21 f0 f1 f2 f3 f4 f5 f6 f7 f8 f9 f10 f11 f12 f13 f14 f15 f16 f17 f18 f19 f20 f21 fL fN fP fM fO) sz) := by
  refine Met.ofW (cc := cX10_match) (maxL := 5) (ret := (some .int)) (by decide +kernel) rfl ?_
  intro p e s m args below meth c s₁ B hml hv
  obtain ⟨rfl, hsz, hP, hK, hD0⟩ := hv
  have hx := B.exec
  have hb := B.bytes
  have hr := B.returns
  have hts := atoms_spec (ws := mwX10_matchm) B.pre
  have hown : s.vm.findClass RX10 = some m.cls := findClass_of_methodNamed B.named
  have hlocks := B.notSynchronized
  subst hsz
  have hD := hD0.self (sz := s.heap.size)
  generalize hAe : va_A (mW ad kc x0 x1 x2 x3 x4 x5 x6 x7 x8 x9 x10 x11 x12 x13 x14 x15 x16 x17 x18 x19 x20 x21 f0 f1 f2 f3 f4 f5 f6 f7 f8 f9 f10 f11 f12 f13 f14 f15 f16 f17 f18 f19 f20 f21 fL fN fP fM fO) s.heap.size = A at hD ⊢
  have hA : ∀ q : Nat, s.heap.size ≤ q → A q := fun q h => by rw [← hAe]; exact Or.inr h
  have hP : va_P (dC, dI) vwCl (mW ad kc x0 x1 x2 x3 x4 x5 x6 x7 x8 x9 x10 x11 x12 x13 x14 x15 x16 x17 x18 x19 x20 x21 f0 f1 f2 f3 f4 f5 f6 f7 f8 f9 f10 f11 f12 f13 f14 f15 f16 f17 f18 f19 f20 f21 fL fN fP fM fO) s.heap := hP
  have hD : va_D A (mW ad kc x0 x1 x2 x3 x4 x5 x6 x7 x8 x9 x10 x11 x12 x13 x14 x15 x16 x17 x18 x19 x20 x21 f0 f1 f2 f3 f4 f5 f6 f7 f8 f9 f10 f11 f12 f13 f14 f15 f16 f17 f18 f19 f20 f21 fL fN fP fM fO) := hD
  have hK : va_K (dC, dI) vwCl (mT kc) s := hK
  generalize hH : s.heap = H at hP ⊢
  have hS : va_S A s.heap H [] := by rw [← hH]; exact va_S.rf
  have hl := lv_entry ([.ref (ad 0), .int i1, .int i2, .int i3]) (n := 5) (Nat.le_of_ble_eq_true rfl)
  rw [lg_entry_eq]
  generalize (lg_sl ([.ref (ad 0), .int i1, .int i2, .int i3]) ++ List.replicate (5 - (lg_sl ([.ref (ad 0), .int i1, .int i2, .int i3])).length) Slot.unset).toArray = ls at hl ⊢
  have hl : lv_has ls 5 [(0, .ref (ad 0)), (1, .int i1), (2, .int i2), (3, .int i3)] := hl
  have rg_i1 := i_rng i1
  have rg_i2 := i_rng i2
  have rg_i3 := i_rng i3
  have hd := q0.d
  have hpi := q0.p
  have hq1 := q0.1
  have hq2 := q0.2.1
  have hq3 := q0.2.2.1
  have hd10 := hd.n0
  have hp8 := hd.P0
  refine lv_iload_n hx hb dX10_match_0 rfl (lv_at hl 3 rfl) ?_
  refine lv_iconst (v := 0) hx hb dX10_match_1 (by decide) ?_
  refine lv_iconst (v := 2) hx hb dX10_match_2 (by decide) ?_
  refine vp_callSi (W.runS (As := [.int i3, .int 0, .int 2]) (rest := []) ⟨hx, hb, hml, hown, hts⟩ (m_isFrom l dC dI  i3 0 2 ) (va_cwS 3 hts mg_X10_matchm_X10_isFrom_200 rfl rfl rfl (by decide +kernel) ⟨Nat.le_of_ble_eq_true rfl, Nat.le_of_ble_eq_true rfl⟩) ⟨fun a U g mk q => ⟨q.1, trivial⟩, fun U hU hW => ⟨rfl, trivial⟩⟩ rfl rfl hl.1 rfl (lv_room (Nat.le_of_ble_eq_true rfl)) dX10_match_3 ⟨Nat.le_of_ble_eq_true rfl, Nat.le_of_ble_eq_true rfl⟩) (fun r_1 hr_1 => ?_)
  have rg_r_1 := i_rng r_1
  refine lv_if_ne (tgt := 15) hx hb dX10_match_6 (by decide) (fun k_2 => ?_) (fun k_2 => ?_)
  · have tk_2 := c_ne (a := r_1.toInt) (b := 0) rfl (by decide) k_2
    refine lv_aload_n hx hb dX10_match_15 rfl (lv_at hl 0 rfl) ?_
    refine lv_iload_n hx hb dX10_match_16 rfl (lv_at hl 1 rfl) ?_
    refine vp_callSi (W.runV (As := [.int i1]) (rest := []) ⟨hx, hb, hml, hown, hts⟩ (m_isPattern l dC dI ad kc x0 x1 x2 x3 x4 x5 x6 x7 x8 x9 x10 x11 x12 x13 x14 x15 x16 x17 x18 x19 x20 x21 f0 f1 f2 f3 f4 f5 f6 f7 f8 f9 f10 f11 f12 f13 f14 f15 f16 f17 f18 f19 f20 f21 fL fN fP fM fO i1 ) (cwV 1 hts mg_X10_matchm_X10_isPattern_458 rfl rfl rfl (by decide +kernel) ⟨Nat.le_of_ble_eq_true rfl, Nat.le_of_ble_eq_true rfl⟩) ⟨fun a U g mk q => by obtain ⟨q0, qP, qK⟩ := q; exact ⟨q0, qP, va_K.moved (u := U) (U := U.calling g mk a) (Vm.Alike.refl U.vm) qK⟩, va_recv hK hP (ci := 10) (q0 := 0) rfl rfl, fun U hU hW => ⟨rfl, by rw [hU]; exact hP, va_K.moved hW.alike hK⟩⟩ rfl rfl hl.1 rfl (lv_room (Nat.le_of_ble_eq_true rfl)) dX10_match_17 ⟨Nat.le_of_ble_eq_true rfl, Nat.le_of_ble_eq_true rfl⟩) (fun r_3 hr_3 => ?_)
    have rg_r_3 := i_rng r_3
    refine lv_if_eq (tgt := 31) hx hb dX10_match_20 (by decide) (fun k_4 => ?_) (fun k_4 => ?_)
    · have tk_4 := c_eq (a := r_3.toInt) (b := 0) rfl (by decide) k_4
      refine lv_aload_n hx hb dX10_match_31 rfl (lv_at hl 0 rfl) ?_
      refine lv_iconst (v := 2) hx hb dX10_match_32 (by decide) ?_
      have hFc := m_free hD hS hA
      refine va_calli (va_runV (As := [.int 2]) (rest := []) ⟨hx, hb, hml, hown, hts⟩ (m_refuse l dC dI ad kc x0 x1 x2 x3 x4 x5 x6 x7 x8 x9 x10 x11 x12 x13 x14 x15 x16 x17 x18 x19 x20 x21 f0 f1 f2 f3 f4 f5 f6 f7 f8 f9 f10 f11 f12 f13 f14 f15 f16 f17 f18 f19 f20 f21 fL fN fP fM fO H.size 2 ) (cwV 1 hts mg_X10_matchm_X10_refuse_204 rfl rfl rfl (by decide +kernel) ⟨Nat.le_of_ble_eq_true rfl, Nat.le_of_ble_eq_true rfl⟩) ⟨fun a U g mk q => by obtain ⟨q0, q1, qP, qK, qD⟩ := q; exact ⟨q0, q1, qP, va_K.moved (u := U) (U := U.calling g mk a) (Vm.Alike.refl U.vm) qK, qD⟩, va_recv hK hP (ci := 10) (q0 := 0) rfl rfl, fun U hU hW => ⟨rfl, by rw [hU], by rw [hU]; exact hP, va_K.moved hW.alike hK, hD.weaken (fun _ _ _ _ => trivial)⟩⟩ rfl rfl hl.1 rfl (lv_room (Nat.le_of_ble_eq_true rfl)) dX10_match_33 ⟨Nat.le_of_ble_eq_true rfl, Nat.le_of_ble_eq_true rfl⟩) hS (fun q _ h => hFc q h) hFc (fun r_5 u t H1 locs ht hvm hw hB hz1 hk1 hS => ?_)
      subst hw
      obtain ⟨hr_5_0, hP, hK1, hD1⟩ := hB
      rw [ht] at hP
      have hD := hD1.weaken (fun k q _ h => hFc q.1 h)
      clear hz1 hk1 hFc hD1 hK1 hvm
      generalize H1 = H at hP hS ⊢
      have rg_r_5 := i_rng r_5
      have hP : va_P (dC, dI) vwCl (mW ad kc 2 x1 x2 x3 x4 x5 x6 x7 x8 x9 x10 x11 x12 x13 x14 x15 x16 x17 x18 x19 x20 x21 f0 f1 f2 f3 f4 f5 f6 f7 f8 f9 f10 f11 f12 f13 f14 f15 f16 f17 f18 f19 f20 f21 fL fN fP fM fO) H := hP
      have hD : va_D A (mW ad kc 2 x1 x2 x3 x4 x5 x6 x7 x8 x9 x10 x11 x12 x13 x14 x15 x16 x17 x18 x19 x20 x21 f0 f1 f2 f3 f4 f5 f6 f7 f8 f9 f10 f11 f12 f13 f14 f15 f16 f17 f18 f19 f20 f21 fL fN fP fM fO) := hD
      have lit_5 : (2 : Int32).toInt = 2 := by decide
      exact W.iret hx hb hr (fun t ht hW => ⟨⟨_, _, rfl, rfl, 2, x12, x13, x14, x15, x20, f3, f4, f5, f6, f7, f8, f12, f13, f14, f15, f16, f17, f18, by rw [ht]; exact hP, va_K.moved hW.alike hK, hD⟩, hS.F ht⟩) hS.2.2 dX10_match_36
    · have tk_4 := c_ne (a := r_3.toInt) (b := 0) rfl (by decide) k_4
      refine lv_aload_n hx hb dX10_match_23 rfl (lv_at hl 0 rfl) ?_
      refine lv_iload_n hx hb dX10_match_24 rfl (lv_at hl 2 rfl) ?_
      refine vp_callSi (W.runV (As := [.int i2]) (rest := []) ⟨hx, hb, hml, hown, hts⟩ (m_isDoc l dC dI ad kc x0 x1 x2 x3 x4 x5 x6 x7 x8 x9 x10 x11 x12 x13 x14 x15 x16 x17 x18 x19 x20 x21 f0 f1 f2 f3 f4 f5 f6 f7 f8 f9 f10 f11 f12 f13 f14 f15 f16 f17 f18 f19 f20 f21 fL fN fP fM fO i2 ) (cwV 1 hts mg_X10_matchm_X10_isDoc_451 rfl rfl rfl (by decide +kernel) ⟨Nat.le_of_ble_eq_true rfl, Nat.le_of_ble_eq_true rfl⟩) ⟨fun a U g mk q => by obtain ⟨q0, qP, qK⟩ := q; exact ⟨q0, qP, va_K.moved (u := U) (U := U.calling g mk a) (Vm.Alike.refl U.vm) qK⟩, va_recv hK hP (ci := 10) (q0 := 0) rfl rfl, fun U hU hW => ⟨rfl, by rw [hU]; exact hP, va_K.moved hW.alike hK⟩⟩ rfl rfl hl.1 rfl (lv_room (Nat.le_of_ble_eq_true rfl)) dX10_match_25 ⟨Nat.le_of_ble_eq_true rfl, Nat.le_of_ble_eq_true rfl⟩) (fun r_7 hr_7 => ?_)
      have rg_r_7 := i_rng r_7
      refine lv_if_ne (tgt := 37) hx hb dX10_match_28 (by decide) (fun k_8 => ?_) (fun k_8 => ?_)
      · have tk_8 := c_ne (a := r_7.toInt) (b := 0) rfl (by decide) k_8
        refine lv_aload_n hx hb dX10_match_37 rfl (lv_at hl 0 rfl) ?_
        refine lv_iload_n hx hb dX10_match_38 rfl (lv_at hl 1 rfl) ?_
        have hFc := m_free hD hS hA
        refine va_callv (va_runV (As := [.int i1]) (rest := []) ⟨hx, hb, hml, hown, hts⟩ (m_matches l dC dI ad kc x0 x1 x2 x3 x4 x5 x6 x7 x8 x9 x10 x11 x12 x13 x14 x15 x16 x17 x18 x19 x20 x21 f0 f1 f2 f3 f4 f5 f6 f7 f8 f9 f10 f11 f12 f13 f14 f15 f16 f17 f18 f19 f20 f21 fL fN fP fM fO H.size i1 (by first | omega | assumption | decide | (have l0 := Int32.toInt_zero; omega)) (by first | omega | assumption | decide | (have l0 := Int32.toInt_zero; omega))) (cwV 1 hts mg_X10_matchm_X10_matches_427 rfl rfl rfl (by decide +kernel) ⟨Nat.le_of_ble_eq_true rfl, Nat.le_of_ble_eq_true rfl⟩) ⟨fun a U g mk q => by obtain ⟨q0, q1, qP, qK, qD⟩ := q; exact ⟨q0, q1, qP, va_K.moved (u := U) (U := U.calling g mk a) (Vm.Alike.refl U.vm) qK, qD⟩, va_recv hK hP (ci := 10) (q0 := 0) rfl rfl, fun U hU hW => ⟨rfl, by rw [hU], by rw [hU]; exact hP, va_K.moved hW.alike hK, hD.weaken (fun _ _ _ _ => trivial)⟩⟩ rfl rfl hl.1 rfl (lv_room (Nat.le_of_ble_eq_true rfl)) dX10_match_39 ⟨Nat.le_of_ble_eq_true rfl, Nat.le_of_ble_eq_true rfl⟩) hS (fun q _ h => hFc q h) hFc (fun u t H1 locs ht hvm hw hB hz1 hk1 hS => ?_)
        obtain ⟨x_10, x_11, x_12, x_13, x_14, f_15, f_16, f_17, f_18, f_19, f_20, f_21, f_22, f_23, f_24, f_25, f_26, f_27, hr_9_0, hr_9_1, hP, hK1, hD1⟩ := hB
        rw [ht] at hP
        have hD := hD1.weaken (fun k q _ h => hFc q.1 h)
        clear hz1 hk1 hFc hD1 hK1 hvm
        generalize H1 = H at hP hS ⊢
        have rg_x_10 := i_rng x_10
        have rg_x_11 := i_rng x_11
        have rg_x_12 := i_rng x_12
        have rg_x_13 := i_rng x_13
        have rg_x_14 := i_rng x_14
        have hP : va_P (dC, dI) vwCl (mW ad kc x0 x1 x2 x3 x4 x5 x6 x7 x8 x9 x10 x11 x_10 x_11 x_12 x_13 x16 x17 x18 x19 x_14 x21 f0 f1 f2 f_15 f_16 f_17 f_18 f_19 f_20 f9 f10 f11 f_21 f_22 f_23 f_24 f_25 f_26 f_27 f19 f20 f21 fL fN fP fM fO) H := hP
        have hD : va_D A (mW ad kc x0 x1 x2 x3 x4 x5 x6 x7 x8 x9 x10 x11 x_10 x_11 x_12 x_13 x16 x17 x18 x19 x_14 x21 f0 f1 f2 f_15 f_16 f_17 f_18 f_19 f_20 f9 f10 f11 f_21 f_22 f_23 f_24 f_25 f_26 f_27 f19 f20 f21 fL fN fP fM fO) := hD
        have hT9 := hr_9_0
        have hS9 := hr_9_1
        refine lv_iload_n hx hb dX10_match_42 rfl (lv_at hl 3 rfl) ?_
        refine lv_iconst (v := 2) hx hb dX10_match_43 (by decide) ?_
        refine lv_icmp_ne (tgt := 57) hx hb dX10_match_44 (by decide) (fun k_28 => ?_) (fun k_28 => ?_)
        · have tk_28 := c_ne (a := i3.toInt) (b := 2) rfl (by decide) k_28
          refine lv_aload_n hx hb dX10_match_57 rfl (lv_at hl 0 rfl) ?_
          refine lv_iload_n hx hb dX10_match_58 rfl (lv_at hl 2 rfl) ?_
          refine lv_iconst (v := 0) hx hb dX10_match_59 (by decide) ?_
          have hFc := m_free hD hS hA
          refine va_calli (va_runV (As := [.int i2, .int 0]) (rest := []) ⟨hx, hb, hml, hown, hts⟩ (m_firstMatch l dC dI ad kc x0 x1 x2 x3 x4 x5 x6 x7 x8 x9 x10 x11 x_10 x_11 x_12 x_13 x16 x17 x18 x19 x_14 x21 f0 f1 f2 f_15 f_16 f_17 f_18 f_19 f_20 f9 f10 f11 f_21 f_22 f_23 f_24 f_25 f_26 f_27 f19 f20 f21 fL fN fP fM fO H.size i2 0 (by first | omega | assumption | decide | (have l0 := Int32.toInt_zero; omega)) (by first | omega | assumption | decide | (have l0 := Int32.toInt_zero; omega)) (by first | omega | assumption | decide | (have l0 := Int32.toInt_zero; omega)) (by first | omega | assumption | decide | (have l0 := Int32.toInt_zero; omega)) (by first | omega | assumption | decide | (have l0 := Int32.toInt_zero; omega))) (cwV 2 hts mg_X10_matchm_X10_firstMatch_430 rfl rfl rfl (by decide +kernel) ⟨Nat.le_of_ble_eq_true rfl, Nat.le_of_ble_eq_true rfl⟩) ⟨fun a U g mk q => by obtain ⟨q0, q1, qP, qK, qD⟩ := q; exact ⟨q0, q1, qP, va_K.moved (u := U) (U := U.calling g mk a) (Vm.Alike.refl U.vm) qK, qD⟩, va_recv hK hP (ci := 10) (q0 := 0) rfl rfl, fun U hU hW => ⟨rfl, by rw [hU], by rw [hU]; exact hP, va_K.moved hW.alike hK, hD.weaken (fun _ _ _ _ => trivial)⟩⟩ rfl rfl hl.1 rfl (lv_room (Nat.le_of_ble_eq_true rfl)) dX10_match_60 ⟨Nat.le_of_ble_eq_true rfl, Nat.le_of_ble_eq_true rfl⟩) hS (fun q _ h => hFc q h) hFc (fun r_29 u t H1 locs ht hvm hw hB hz1 hk1 hS => ?_)
          subst hw
          obtain ⟨hr_29_0, hP, hK1, hD1⟩ := hB
          rw [ht] at hP
          have hD := hD1.weaken (fun k q _ h => hFc q.1 h)
          clear hz1 hk1 hFc hD1 hK1 hvm
          generalize H1 = H at hP hS ⊢
          have rg_r_29 := i_rng r_29
          have hP : va_P (dC, dI) vwCl (mW ad kc x0 x1 x2 x3 x4 x5 x6 x7 x8 x9 x10 x11 x_10 x_11 x_12 x_13 x16 x17 x18 x19 x_14 x21 f0 f1 f2 f_15 f_16 f_17 f_18 f_19 f_20 f9 f10 f11 f_21 f_22 f_23 f_24 f_25 f_26 f_27 f19 f20 f21 fL fN fP fM fO) H := hP
          have hD : va_D A (mW ad kc x0 x1 x2 x3 x4 x5 x6 x7 x8 x9 x10 x11 x_10 x_11 x_12 x_13 x16 x17 x18 x19 x_14 x21 f0 f1 f2 f_15 f_16 f_17 f_18 f_19 f_20 f9 f10 f11 f_21 f_22 f_23 f_24 f_25 f_26 f_27 f19 f20 f21 fL fN fP fM fO) := hD
          have hszd := hd.sz (d := i2.toInt) (by omega) (by omega)
          refine lv_istore (lv' := [(4, .int r_29), (0, .ref (ad 0)), (1, .int i1), (2, .int i2), (3, .int i3)]) hx hb dX10_match_63 hl (by decide) rfl (fun ls hl => ?_)
          refine lv_iload hx hb dX10_match_65 (lv_at hl 0 rfl) ?_
          refine lv_iconst (v := (-1)) hx hb dX10_match_67 (by decide) ?_
          refine lv_icmp_ne (tgt := 79) hx hb dX10_match_68 (by decide) (fun k_30 => ?_) (fun k_30 => ?_)
          · have tk_30 := c_ne (a := r_29.toInt) (b := (-1)) rfl (by decide) k_30
            refine lv_aload_n hx hb dX10_match_79 rfl (lv_at hl 1 rfl) ?_
            refine lv_iload_n hx hb dX10_match_80 rfl (lv_at hl 4 rfl) ?_
            refine lv_if_ne (tgt := 89) hx hb dX10_match_81 (by decide) (fun k_31 => ?_) (fun k_31 => ?_)
            · have tk_31 := c_ne (a := i3.toInt) (b := 0) rfl (by decide) k_31
              refine lv_aload_n hx hb dX10_match_89 rfl (lv_at hl 1 rfl) ?_
              refine lv_iload_n hx hb dX10_match_90 rfl (lv_at hl 3 rfl) ?_
              refine lv_iload hx hb dX10_match_91 (lv_at hl 0 rfl) ?_
              have hFc := m_free hD hS hA
              refine va_calli (va_runV (As := [.int i2, .int r_29]) (rest := [.ref (ad 0)]) ⟨hx, hb, hml, hown, hts⟩ (m_longest l dC dI ad kc x0 x1 x2 x3 x4 x5 x6 x7 x8 x9 x10 x11 x_10 x_11 x_12 x_13 x16 x17 x18 x19 x_14 x21 f0 f1 f2 f_15 f_16 f_17 f_18 f_19 f_20 f9 f10 f11 f_21 f_22 f_23 f_24 f_25 f_26 f_27 f19 f20 f21 fL fN fP fM fO H.size i2 r_29 (by first | omega | assumption | decide | (have l0 := Int32.toInt_zero; omega)) (by first | omega | assumption | decide | (have l0 := Int32.toInt_zero; omega)) (by first | omega | assumption | decide | (have l0 := Int32.toInt_zero; omega)) (by first | omega | assumption | decide | (have l0 := Int32.toInt_zero; omega)) (by first | omega | assumption | decide | (have l0 := Int32.toInt_zero; omega))) (cwV 2 hts mg_X10_matchm_X10_longest_405 rfl rfl rfl (by decide +kernel) ⟨Nat.le_of_ble_eq_true rfl, Nat.le_of_ble_eq_true rfl⟩) ⟨fun a U g mk q => by obtain ⟨q0, q1, qP, qK, qD⟩ := q; exact ⟨q0, q1, qP, va_K.moved (u := U) (U := U.calling g mk a) (Vm.Alike.refl U.vm) qK, qD⟩, va_recv hK hP (ci := 10) (q0 := 0) rfl rfl, fun U hU hW => ⟨rfl, by rw [hU], by rw [hU]; exact hP, va_K.moved hW.alike hK, hD.weaken (fun _ _ _ _ => trivial)⟩⟩ rfl rfl hl.1 rfl (lv_room (Nat.le_of_ble_eq_true rfl)) dX10_match_93 ⟨Nat.le_of_ble_eq_true rfl, Nat.le_of_ble_eq_true rfl⟩) hS (fun q _ h => hFc q h) hFc (fun r_32 u t H1 locs ht hvm hw hB hz1 hk1 hS => ?_)
              subst hw
              obtain ⟨hr_32_0, hP, hK1, hD1⟩ := hB
              rw [ht] at hP
              have hD := hD1.weaken (fun k q _ h => hFc q.1 h)
              clear hz1 hk1 hFc hD1 hK1 hvm
              generalize H1 = H at hP hS ⊢
              have rg_r_32 := i_rng r_32
              have hP : va_P (dC, dI) vwCl (mW ad kc x0 x1 x2 x3 x4 x5 x6 x7 x8 x9 x10 x11 x_10 x_11 x_12 x_13 x16 x17 x18 x19 x_14 x21 f0 f1 f2 f_15 f_16 f_17 f_18 f_19 f_20 f9 f10 f11 f_21 f_22 f_23 f_24 f_25 f_26 f_27 f19 f20 f21 fL fN fP fM fO) H := hP
              have hD : va_D A (mW ad kc x0 x1 x2 x3 x4 x5 x6 x7 x8 x9 x10 x11 x_10 x_11 x_12 x_13 x16 x17 x18 x19 x_14 x21 f0 f1 f2 f_15 f_16 f_17 f_18 f_19 f_20 f9 f10 f11 f_21 f_22 f_23 f_24 f_25 f_26 f_27 f19 f20 f21 fL fN fP fM fO) := hD
              have hFc := m_free hD hS hA
              refine va_calli (va_runV (As := [.int r_32]) (rest := []) ⟨hx, hb, hml, hown, hts⟩ (m_gives l dC dI ad kc x0 x1 x2 x3 x4 x5 x6 x7 x8 x9 x10 x11 x_10 x_11 x_12 x_13 x16 x17 x18 x19 x_14 x21 f0 f1 f2 f_15 f_16 f_17 f_18 f_19 f_20 f9 f10 f11 f_21 f_22 f_23 f_24 f_25 f_26 f_27 f19 f20 f21 fL fN fP fM fO H.size r_32 ) (cwV 1 hts mg_X10_matchm_X10_gives_214 rfl rfl rfl (by decide +kernel) ⟨Nat.le_of_ble_eq_true rfl, Nat.le_of_ble_eq_true rfl⟩) ⟨fun a U g mk q => by obtain ⟨q0, q1, qP, qK, qD⟩ := q; exact ⟨q0, q1, qP, va_K.moved (u := U) (U := U.calling g mk a) (Vm.Alike.refl U.vm) qK, qD⟩, va_recv hK hP (ci := 10) (q0 := 0) rfl rfl, fun U hU hW => ⟨rfl, by rw [hU], by rw [hU]; exact hP, va_K.moved hW.alike hK, hD.weaken (fun _ _ _ _ => trivial)⟩⟩ rfl rfl hl.1 rfl (lv_room (Nat.le_of_ble_eq_true rfl)) dX10_match_96 ⟨Nat.le_of_ble_eq_true rfl, Nat.le_of_ble_eq_true rfl⟩) hS (fun q _ h => hFc q h) hFc (fun r_33 u t H1 locs ht hvm hw hB hz1 hk1 hS => ?_)
              subst hw
              obtain ⟨hr_33_0, hP, hK1, hD1⟩ := hB
              rw [ht] at hP
              have hD := hD1.weaken (fun k q _ h => hFc q.1 h)
              clear hz1 hk1 hFc hD1 hK1 hvm
              generalize H1 = H at hP hS ⊢
              have rg_r_33 := i_rng r_33
              have hP : va_P (dC, dI) vwCl (mW ad kc 0 x1 x2 x3 x4 x5 x6 x7 x8 x9 x10 x11 x_10 x_11 x_12 x_13 x16 x17 x18 x19 x_14 x21 f0 f1 f2 f_15 f_16 f_17 f_18 f_19 f_20 f9 f10 f11 f_21 f_22 f_23 f_24 f_25 f_26 f_27 f19 f20 f21 fL fN fP fM fO) H := hP
              have hD : va_D A (mW ad kc 0 x1 x2 x3 x4 x5 x6 x7 x8 x9 x10 x11 x_10 x_11 x_12 x_13 x16 x17 x18 x19 x_14 x21 f0 f1 f2 f_15 f_16 f_17 f_18 f_19 f_20 f9 f10 f11 f_21 f_22 f_23 f_24 f_25 f_26 f_27 f19 f20 f21 fL fN fP fM fO) := hD
              have lit_33 : (0 : Int32).toInt = 0 := by decide
              exact W.iret hx hb hr (fun t ht hW => ⟨⟨_, _, rfl, rfl, 0, x_10, x_11, x_12, x_13, x_14, f_15, f_16, f_17, f_18, f_19, f_20, f_21, f_22, f_23, f_24, f_25, f_26, f_27, by rw [ht]; exact hP, va_K.moved hW.alike hK, hD⟩, hS.F ht⟩) hS.2.2 dX10_match_99
            · have tk_31 := c_eq (a := i3.toInt) (b := 0) rfl (by decide) k_31
              refine lv_iload hx hb dX10_match_84 (lv_at hl 0 rfl) ?_
              refine lv_goto (tgt := 96) hx hb dX10_match_86 (by decide) ?_
              have hFc := m_free hD hS hA
              refine va_calli (va_runV (As := [.int r_29]) (rest := []) ⟨hx, hb, hml, hown, hts⟩ (m_gives l dC dI ad kc x0 x1 x2 x3 x4 x5 x6 x7 x8 x9 x10 x11 x_10 x_11 x_12 x_13 x16 x17 x18 x19 x_14 x21 f0 f1 f2 f_15 f_16 f_17 f_18 f_19 f_20 f9 f10 f11 f_21 f_22 f_23 f_24 f_25 f_26 f_27 f19 f20 f21 fL fN fP fM fO H.size r_29 ) (cwV 1 hts mg_X10_matchm_X10_gives_214 rfl rfl rfl (by decide +kernel) ⟨Nat.le_of_ble_eq_true rfl, Nat.le_of_ble_eq_true rfl⟩) ⟨fun a U g mk q => by obtain ⟨q0, q1, qP, qK, qD⟩ := q; exact ⟨q0, q1, qP, va_K.moved (u := U) (U := U.calling g mk a) (Vm.Alike.refl U.vm) qK, qD⟩, va_recv hK hP (ci := 10) (q0 := 0) rfl rfl, fun U hU hW => ⟨rfl, by rw [hU], by rw [hU]; exact hP, va_K.moved hW.alike hK, hD.weaken (fun _ _ _ _ => trivial)⟩⟩ rfl rfl hl.1 rfl (lv_room (Nat.le_of_ble_eq_true rfl)) dX10_match_96 ⟨Nat.le_of_ble_eq_true rfl, Nat.le_of_ble_eq_true rfl⟩) hS (fun q _ h => hFc q h) hFc (fun r_35 u t H1 locs ht hvm hw hB hz1 hk1 hS => ?_)
              subst hw
              obtain ⟨hr_35_0, hP, hK1, hD1⟩ := hB
              rw [ht] at hP
              have hD := hD1.weaken (fun k q _ h => hFc q.1 h)
              clear hz1 hk1 hFc hD1 hK1 hvm
              generalize H1 = H at hP hS ⊢
              have rg_r_35 := i_rng r_35
              have hP : va_P (dC, dI) vwCl (mW ad kc 0 x1 x2 x3 x4 x5 x6 x7 x8 x9 x10 x11 x_10 x_11 x_12 x_13 x16 x17 x18 x19 x_14 x21 f0 f1 f2 f_15 f_16 f_17 f_18 f_19 f_20 f9 f10 f11 f_21 f_22 f_23 f_24 f_25 f_26 f_27 f19 f20 f21 fL fN fP fM fO) H := hP
              have hD : va_D A (mW ad kc 0 x1 x2 x3 x4 x5 x6 x7 x8 x9 x10 x11 x_10 x_11 x_12 x_13 x16 x17 x18 x19 x_14 x21 f0 f1 f2 f_15 f_16 f_17 f_18 f_19 f_20 f9 f10 f11 f_21 f_22 f_23 f_24 f_25 f_26 f_27 f19 f20 f21 fL fN fP fM fO) := hD
              have lit_35 : (0 : Int32).toInt = 0 := by decide
              exact W.iret hx hb hr (fun t ht hW => ⟨⟨_, _, rfl, rfl, 0, x_10, x_11, x_12, x_13, x_14, f_15, f_16, f_17, f_18, f_19, f_20, f_21, f_22, f_23, f_24, f_25, f_26, f_27, by rw [ht]; exact hP, va_K.moved hW.alike hK, hD⟩, hS.F ht⟩) hS.2.2 dX10_match_99
          · have tk_30 := c_eq (a := r_29.toInt) (b := (-1)) rfl (by decide) k_30
            refine lv_aload_n hx hb dX10_match_71 rfl (lv_at hl 1 rfl) ?_
            refine lv_iconst (v := 5) hx hb dX10_match_72 (by decide) ?_
            have hFc := m_free hD hS hA
            refine va_calli (va_runV (As := [.int 5]) (rest := []) ⟨hx, hb, hml, hown, hts⟩ (m_refuse l dC dI ad kc x0 x1 x2 x3 x4 x5 x6 x7 x8 x9 x10 x11 x_10 x_11 x_12 x_13 x16 x17 x18 x19 x_14 x21 f0 f1 f2 f_15 f_16 f_17 f_18 f_19 f_20 f9 f10 f11 f_21 f_22 f_23 f_24 f_25 f_26 f_27 f19 f20 f21 fL fN fP fM fO H.size 5 ) (cwV 1 hts mg_X10_matchm_X10_refuse_204 rfl rfl rfl (by decide +kernel) ⟨Nat.le_of_ble_eq_true rfl, Nat.le_of_ble_eq_true rfl⟩) ⟨fun a U g mk q => by obtain ⟨q0, q1, qP, qK, qD⟩ := q; exact ⟨q0, q1, qP, va_K.moved (u := U) (U := U.calling g mk a) (Vm.Alike.refl U.vm) qK, qD⟩, va_recv hK hP (ci := 10) (q0 := 0) rfl rfl, fun U hU hW => ⟨rfl, by rw [hU], by rw [hU]; exact hP, va_K.moved hW.alike hK, hD.weaken (fun _ _ _ _ => trivial)⟩⟩ rfl rfl hl.1 rfl (lv_room (Nat.le_of_ble_eq_true rfl)) dX10_match_73 ⟨Nat.le_of_ble_eq_true rfl, Nat.le_of_ble_eq_true rfl⟩) hS (fun q _ h => hFc q h) hFc (fun r_37 u t H1 locs ht hvm hw hB hz1 hk1 hS => ?_)
            subst hw
            obtain ⟨hr_37_0, hP, hK1, hD1⟩ := hB
            rw [ht] at hP
            have hD := hD1.weaken (fun k q _ h => hFc q.1 h)
            clear hz1 hk1 hFc hD1 hK1 hvm
            generalize H1 = H at hP hS ⊢
            have rg_r_37 := i_rng r_37
            have hP : va_P (dC, dI) vwCl (mW ad kc 5 x1 x2 x3 x4 x5 x6 x7 x8 x9 x10 x11 x_10 x_11 x_12 x_13 x16 x17 x18 x19 x_14 x21 f0 f1 f2 f_15 f_16 f_17 f_18 f_19 f_20 f9 f10 f11 f_21 f_22 f_23 f_24 f_25 f_26 f_27 f19 f20 f21 fL fN fP fM fO) H := hP
            have hD : va_D A (mW ad kc 5 x1 x2 x3 x4 x5 x6 x7 x8 x9 x10 x11 x_10 x_11 x_12 x_13 x16 x17 x18 x19 x_14 x21 f0 f1 f2 f_15 f_16 f_17 f_18 f_19 f_20 f9 f10 f11 f_21 f_22 f_23 f_24 f_25 f_26 f_27 f19 f20 f21 fL fN fP fM fO) := hD
            refine lv_goto (tgt := 99) hx hb dX10_match_76 (by decide) ?_
            have lit_37 : (5 : Int32).toInt = 5 := by decide
            exact W.iret hx hb hr (fun t ht hW => ⟨⟨_, _, rfl, rfl, 5, x_10, x_11, x_12, x_13, x_14, f_15, f_16, f_17, f_18, f_19, f_20, f_21, f_22, f_23, f_24, f_25, f_26, f_27, by rw [ht]; exact hP, va_K.moved hW.alike hK, hD⟩, hS.F ht⟩) hS.2.2 dX10_match_99
        · have tk_28 := c_eq (a := i3.toInt) (b := 2) rfl (by decide) k_28
          refine lv_aload_n hx hb dX10_match_47 rfl (lv_at hl 0 rfl) ?_
          refine lv_aload_n hx hb dX10_match_48 rfl (lv_at hl 0 rfl) ?_
          refine lv_iload_n hx hb dX10_match_49 rfl (lv_at hl 2 rfl) ?_
          have hFc := m_free hD hS hA
          refine va_calli (va_runV (As := [.int i2]) (rest := [.ref (ad 0)]) ⟨hx, hb, hml, hown, hts⟩ (m_matchMany l dC dI ad kc x0 x1 x2 x3 x4 x5 x6 x7 x8 x9 x10 x11 x_10 x_11 x_12 x_13 x16 x17 x18 x19 x_14 x21 f0 f1 f2 f_15 f_16 f_17 f_18 f_19 f_20 f9 f10 f11 f_21 f_22 f_23 f_24 f_25 f_26 f_27 f19 f20 f21 fL fN fP fM fO H.size i2 (by first | omega | assumption | decide | (have l0 := Int32.toInt_zero; omega)) (by first | omega | assumption | decide | (have l0 := Int32.toInt_zero; omega)) (by first | omega | assumption | decide | (have l0 := Int32.toInt_zero; omega)) (by first | omega | assumption | decide | (have l0 := Int32.toInt_zero; omega))) (cwV 1 hts mg_X10_matchm_X10_matchMany_467 rfl rfl rfl (by decide +kernel) ⟨Nat.le_of_ble_eq_true rfl, Nat.le_of_ble_eq_true rfl⟩) ⟨fun a U g mk q => by obtain ⟨q0, q1, qP, qK, qD⟩ := q; exact ⟨q0, q1, qP, va_K.moved (u := U) (U := U.calling g mk a) (Vm.Alike.refl U.vm) qK, qD⟩, va_recv hK hP (ci := 10) (q0 := 0) rfl rfl, fun U hU hW => ⟨rfl, by rw [hU], by rw [hU]; exact hP, va_K.moved hW.alike hK, hD.weaken (fun _ _ _ _ => trivial)⟩⟩ rfl rfl hl.1 rfl (lv_room (Nat.le_of_ble_eq_true rfl)) dX10_match_50 ⟨Nat.le_of_ble_eq_true rfl, Nat.le_of_ble_eq_true rfl⟩) hS (fun q _ h => hFc q h) hFc (fun r_39 u t H1 locs ht hvm hw hB hz1 hk1 hS => ?_)
          subst hw
          obtain ⟨hP, hK1, hD1⟩ := hB
          rw [ht] at hP
          have hD := hD1.weaken (fun k q _ h => hFc q.1 h)
          clear hz1 hk1 hFc hD1 hK1 hvm
          generalize H1 = H at hP hS ⊢
          have rg_r_39 := i_rng r_39
          have hP : va_P (dC, dI) vwCl (mW ad kc x0 x1 x2 x3 x4 x5 x6 x7 x8 x9 x10 x11 x_10 x_11 x_12 x_13 x16 x17 x18 x19 x_14 x21 f0 f1 f2 f_15 f_16 f_17 f_18 f_19 f_20 f9 f10 f11 f_21 f_22 f_23 f_24 f_25 f_26 f_27 f19 f20 f21 fL fN fP fM fO) H := hP
          have hD : va_D A (mW ad kc x0 x1 x2 x3 x4 x5 x6 x7 x8 x9 x10 x11 x_10 x_11 x_12 x_13 x16 x17 x18 x19 x_14 x21 f0 f1 f2 f_15 f_16 f_17 f_18 f_19 f_20 f9 f10 f11 f_21 f_22 f_23 f_24 f_25 f_26 f_27 f19 f20 f21 fL fN fP fM fO) := hD
          have hFc := m_free hD hS hA
          refine va_calli (va_runV (As := [.int r_39]) (rest := []) ⟨hx, hb, hml, hown, hts⟩ (m_gives l dC dI ad kc x0 x1 x2 x3 x4 x5 x6 x7 x8 x9 x10 x11 x_10 x_11 x_12 x_13 x16 x17 x18 x19 x_14 x21 f0 f1 f2 f_15 f_16 f_17 f_18 f_19 f_20 f9 f10 f11 f_21 f_22 f_23 f_24 f_25 f_26 f_27 f19 f20 f21 fL fN fP fM fO H.size r_39 ) (cwV 1 hts mg_X10_matchm_X10_gives_214 rfl rfl rfl (by decide +kernel) ⟨Nat.le_of_ble_eq_true rfl, Nat.le_of_ble_eq_true rfl⟩) ⟨fun a U g mk q => by obtain ⟨q0, q1, qP, qK, qD⟩ := q; exact ⟨q0, q1, qP, va_K.moved (u := U) (U := U.calling g mk a) (Vm.Alike.refl U.vm) qK, qD⟩, va_recv hK hP (ci := 10) (q0 := 0) rfl rfl, fun U hU hW => ⟨rfl, by rw [hU], by rw [hU]; exact hP, va_K.moved hW.alike hK, hD.weaken (fun _ _ _ _ => trivial)⟩⟩ rfl rfl hl.1 rfl (lv_room (Nat.le_of_ble_eq_true rfl)) dX10_match_53 ⟨Nat.le_of_ble_eq_true rfl, Nat.le_of_ble_eq_true rfl⟩) hS (fun q _ h => hFc q h) hFc (fun r_40 u t H1 locs ht hvm hw hB hz1 hk1 hS => ?_)
          subst hw
          obtain ⟨hr_40_0, hP, hK1, hD1⟩ := hB
          rw [ht] at hP
          have hD := hD1.weaken (fun k q _ h => hFc q.1 h)
          clear hz1 hk1 hFc hD1 hK1 hvm
          generalize H1 = H at hP hS ⊢
          have rg_r_40 := i_rng r_40
          have hP : va_P (dC, dI) vwCl (mW ad kc 0 x1 x2 x3 x4 x5 x6 x7 x8 x9 x10 x11 x_10 x_11 x_12 x_13 x16 x17 x18 x19 x_14 x21 f0 f1 f2 f_15 f_16 f_17 f_18 f_19 f_20 f9 f10 f11 f_21 f_22 f_23 f_24 f_25 f_26 f_27 f19 f20 f21 fL fN fP fM fO) H := hP
          have hD : va_D A (mW ad kc 0 x1 x2 x3 x4 x5 x6 x7 x8 x9 x10 x11 x_10 x_11 x_12 x_13 x16 x17 x18 x19 x_14 x21 f0 f1 f2 f_15 f_16 f_17 f_18 f_19 f_20 f9 f10 f11 f_21 f_22 f_23 f_24 f_25 f_26 f_27 f19 f20 f21 fL fN fP fM fO) := hD
          have lit_40 : (0 : Int32).toInt = 0 := by decide
          exact W.iret hx hb hr (fun t ht hW => ⟨⟨_, _, rfl, rfl, 0, x_10, x_11, x_12, x_13, x_14, f_15, f_16, f_17, f_18, f_19, f_20, f_21, f_22, f_23, f_24, f_25, f_26, f_27, by rw [ht]; exact hP, va_K.moved hW.alike hK, hD⟩, hS.F ht⟩) hS.2.2 dX10_match_56
      · have tk_8 := c_eq (a := r_7.toInt) (b := 0) rfl (by decide) k_8
        refine lv_aload_n hx hb dX10_match_31 rfl (lv_at hl 0 rfl) ?_
        refine lv_iconst (v := 2) hx hb dX10_match_32 (by decide) ?_
        have hFc := m_free hD hS hA
        refine va_calli (va_runV (As := [.int 2]) (rest := []) ⟨hx, hb, hml, hown, hts⟩ (m_refuse l dC dI ad kc x0 x1 x2 x3 x4 x5 x6 x7 x8 x9 x10 x11 x12 x13 x14 x15 x16 x17 x18 x19 x20 x21 f0 f1 f2 f3 f4 f5 f6 f7 f8 f9 f10 f11 f12 f13 f14 f15 f16 f17 f18 f19 f20 f21 fL fN fP fM fO H.size 2 ) (cwV 1 hts mg_X10_matchm_X10_refuse_204 rfl rfl rfl (by decide +kernel) ⟨Nat.le_of_ble_eq_true rfl, Nat.le_of_ble_eq_true rfl⟩) ⟨fun a U g mk q => by obtain ⟨q0, q1, qP, qK, qD⟩ := q; exact ⟨q0, q1, qP, va_K.moved (u := U) (U := U.calling g mk a) (Vm.Alike.refl U.vm) qK, qD⟩, va_recv hK hP (ci := 10) (q0 := 0) rfl rfl, fun U hU hW => ⟨rfl, by rw [hU], by rw [hU]; exact hP, va_K.moved hW.alike hK, hD.weaken (fun _ _ _ _ => trivial)⟩⟩ rfl rfl hl.1 rfl (lv_room (Nat.le_of_ble_eq_true rfl)) dX10_match_33 ⟨Nat.le_of_ble_eq_true rfl, Nat.le_of_ble_eq_true rfl⟩) hS (fun q _ h => hFc q h) hFc (fun r_42 u t H1 locs ht hvm hw hB hz1 hk1 hS => ?_)
        subst hw
        obtain ⟨hr_42_0, hP, hK1, hD1⟩ := hB
        rw [ht] at hP
        have hD := hD1.weaken (fun k q _ h => hFc q.1 h)
        clear hz1 hk1 hFc hD1 hK1 hvm
        generalize H1 = H at hP hS ⊢
        have rg_r_42 := i_rng r_42
        have hP : va_P (dC, dI) vwCl (mW ad kc 2 x1 x2 x3 x4 x5 x6 x7 x8 x9 x10 x11 x12 x13 x14 x15 x16 x17 x18 x19 x20 x21 f0 f1 f2 f3 f4 f5 f6 f7 f8 f9 f10 f11 f12 f13 f14 f15 f16 f17 f18 f19 f20 f21 fL fN fP fM fO) H := hP
        have hD : va_D A (mW ad kc 2 x1 x2 x3 x4 x5 x6 x7 x8 x9 x10 x11 x12 x13 x14 x15 x16 x17 x18 x19 x20 x21 f0 f1 f2 f3 f4 f5 f6 f7 f8 f9 f10 f11 f12 f13 f14 f15 f16 f17 f18 f19 f20 f21 fL fN fP fM fO) := hD
        have lit_42 : (2 : Int32).toInt = 2 := by decide
        exact W.iret hx hb hr (fun t ht hW => ⟨⟨_, _, rfl, rfl, 2, x12, x13, x14, x15, x20, f3, f4, f5, f6, f7, f8, f12, f13, f14, f15, f16, f17, f18, by rw [ht]; exact hP, va_K.moved hW.alike hK, hD⟩, hS.F ht⟩) hS.2.2 dX10_match_36
  · have tk_2 := c_eq (a := r_1.toInt) (b := 0) rfl (by decide) k_2
    refine lv_aload_n hx hb dX10_match_9 rfl (lv_at hl 0 rfl) ?_
    refine lv_iconst (v := 1) hx hb dX10_match_10 (by decide) ?_
    have hFc := m_free hD hS hA
    refine va_calli (va_runV (As := [.int 1]) (rest := []) ⟨hx, hb, hml, hown, hts⟩ (m_refuse l dC dI ad kc x0 x1 x2 x3 x4 x5 x6 x7 x8 x9 x10 x11 x12 x13 x14 x15 x16 x17 x18 x19 x20 x21 f0 f1 f2 f3 f4 f5 f6 f7 f8 f9 f10 f11 f12 f13 f14 f15 f16 f17 f18 f19 f20 f21 fL fN fP fM fO H.size 1 ) (cwV 1 hts mg_X10_matchm_X10_refuse_204 rfl rfl rfl (by decide +kernel) ⟨Nat.le_of_ble_eq_true rfl, Nat.le_of_ble_eq_true rfl⟩) ⟨fun a U g mk q => by obtain ⟨q0, q1, qP, qK, qD⟩ := q; exact ⟨q0, q1, qP, va_K.moved (u := U) (U := U.calling g mk a) (Vm.Alike.refl U.vm) qK, qD⟩, va_recv hK hP (ci := 10) (q0 := 0) rfl rfl, fun U hU hW => ⟨rfl, by rw [hU], by rw [hU]; exact hP, va_K.moved hW.alike hK, hD.weaken (fun _ _ _ _ => trivial)⟩⟩ rfl rfl hl.1 rfl (lv_room (Nat.le_of_ble_eq_true rfl)) dX10_match_11 ⟨Nat.le_of_ble_eq_true rfl, Nat.le_of_ble_eq_true rfl⟩) hS (fun q _ h => hFc q h) hFc (fun r_44 u t H1 locs ht hvm hw hB hz1 hk1 hS => ?_)
    subst hw
    obtain ⟨hr_44_0, hP, hK1, hD1⟩ := hB
    rw [ht] at hP
    have hD := hD1.weaken (fun k q _ h => hFc q.1 h)
    clear hz1 hk1 hFc hD1 hK1 hvm
    generalize H1 = H at hP hS ⊢
    have rg_r_44 := i_rng r_44
    have hP : va_P (dC, dI) vwCl (mW ad kc 1 x1 x2 x3 x4 x5 x6 x7 x8 x9 x10 x11 x12 x13 x14 x15 x16 x17 x18 x19 x20 x21 f0 f1 f2 f3 f4 f5 f6 f7 f8 f9 f10 f11 f12 f13 f14 f15 f16 f17 f18 f19 f20 f21 fL fN fP fM fO) H := hP
    have hD : va_D A (mW ad kc 1 x1 x2 x3 x4 x5 x6 x7 x8 x9 x10 x11 x12 x13 x14 x15 x16 x17 x18 x19 x20 x21 f0 f1 f2 f3 f4 f5 f6 f7 f8 f9 f10 f11 f12 f13 f14 f15 f16 f17 f18 f19 f20 f21 fL fN fP fM fO) := hD
    have lit_44 : (1 : Int32).toInt = 1 := by decide
    exact W.iret hx hb hr (fun t ht hW => ⟨⟨_, _, rfl, rfl, 1, x12, x13, x14, x15, x20, f3, f4, f5, f6, f7, f8, f12, f13, f14, f15, f16, f17, f18, by rw [ht]; exact hP, va_K.moved hW.alike hK, hD⟩, hS.F ht⟩) hS.2.2 dX10_match_14
theorem dX10_alive_0 : decode cX10_alive 0 = .ok (.iload_n 3, 1) := by decide +kernel
theorem dX10_alive_1 : decode cX10_alive 1 = .ok (.ifCond .ge 9, 3) := by decide +kernel
theorem dX10_alive_4 : decode cX10_alive 4 = .ok (.aload_n 0, 1) := by decide +kernel
theorem dX10_alive_5 : decode cX10_alive 5 = .ok (.iconst 1, 1) := by decide +kernel
theorem dX10_alive_6 : decode cX10_alive 6 = .ok (.invokevirtual 204, 3) := by decide +kernel
theorem dX10_alive_9 : decode cX10_alive 9 = .ok (.ireturn, 1) := by decide +kernel
theorem dX10_alive_10 : decode cX10_alive 10 = .ok (.aload_n 0, 1) := by decide +kernel
theorem dX10_alive_11 : decode cX10_alive 11 = .ok (.iload_n 1, 1) := by decide +kernel
theorem dX10_alive_12 : decode cX10_alive 12 = .ok (.invokevirtual 458, 3) := by decide +kernel
theorem dX10_alive_15 : decode cX10_alive 15 = .ok (.ifCond .eq 11, 3) := by decide +kernel
theorem dX10_alive_18 : decode cX10_alive 18 = .ok (.aload_n 0, 1) := by decide +kernel
theorem dX10_alive_19 : decode cX10_alive 19 = .ok (.iload_n 2, 1) := by decide +kernel
theorem dX10_alive_20 : decode cX10_alive 20 = .ok (.invokevirtual 451, 3) := by decide +kernel
theorem dX10_alive_23 : decode cX10_alive 23 = .ok (.ifCond .ne 9, 3) := by decide +kernel
theorem dX10_alive_26 : decode cX10_alive 26 = .ok (.aload_n 0, 1) := by decide +kernel
theorem dX10_alive_27 : decode cX10_alive 27 = .ok (.iconst 2, 1) := by decide +kernel
theorem dX10_alive_28 : decode cX10_alive 28 = .ok (.invokevirtual 204, 3) := by decide +kernel
theorem dX10_alive_31 : decode cX10_alive 31 = .ok (.ireturn, 1) := by decide +kernel
theorem dX10_alive_32 : decode cX10_alive 32 = .ok (.iload_n 3, 1) := by decide +kernel
theorem dX10_alive_33 : decode cX10_alive 33 = .ok (.aload_n 0, 1) := by decide +kernel
theorem dX10_alive_34 : decode cX10_alive 34 = .ok (.iload_n 2, 1) := by decide +kernel
theorem dX10_alive_35 : decode cX10_alive 35 = .ok (.invokevirtual 396, 3) := by decide +kernel
theorem dX10_alive_38 : decode cX10_alive 38 = .ok (.if_icmp .lt 9, 3) := by decide +kernel
theorem dX10_alive_41 : decode cX10_alive 41 = .ok (.aload_n 0, 1) := by decide +kernel
theorem dX10_alive_42 : decode cX10_alive 42 = .ok (.iconst 5, 1) := by decide +kernel
theorem dX10_alive_43 : decode cX10_alive 43 = .ok (.invokevirtual 204, 3) := by decide +kernel
theorem dX10_alive_46 : decode cX10_alive 46 = .ok (.ireturn, 1) := by decide +kernel
theorem dX10_alive_47 : decode cX10_alive 47 = .ok (.aload_n 0, 1) := by decide +kernel
theorem dX10_alive_48 : decode cX10_alive 48 = .ok (.iload_n 1, 1) := by decide +kernel
theorem dX10_alive_49 : decode cX10_alive 49 = .ok (.invokevirtual 427, 3) := by decide +kernel
theorem dX10_alive_52 : decode cX10_alive 52 = .ok (.iconst 0, 1) := by decide +kernel
theorem dX10_alive_53 : decode cX10_alive 53 = .ok (.istore 4, 2) := by decide +kernel
theorem dX10_alive_55 : decode cX10_alive 55 = .ok (.iconst 0, 1) := by decide +kernel
theorem dX10_alive_56 : decode cX10_alive 56 = .ok (.istore 5, 2) := by decide +kernel
theorem dX10_alive_58 : decode cX10_alive 58 = .ok (.iload 5, 2) := by decide +kernel
theorem dX10_alive_60 : decode cX10_alive 60 = .ok (.iload_n 3, 1) := by decide +kernel
theorem dX10_alive_61 : decode cX10_alive 61 = .ok (.if_icmp .gt 33, 3) := by decide +kernel
theorem dX10_alive_64 : decode cX10_alive 64 = .ok (.aload_n 0, 1) := by decide +kernel
theorem dX10_alive_65 : decode cX10_alive 65 = .ok (.iload 4, 2) := by decide +kernel
theorem dX10_alive_67 : decode cX10_alive 67 = .ok (.aload_n 0, 1) := by decide +kernel
theorem dX10_alive_68 : decode cX10_alive 68 = .ok (.iload_n 2, 1) := by decide +kernel
theorem dX10_alive_69 : decode cX10_alive 69 = .ok (.iload 5, 2) := by decide +kernel
theorem dX10_alive_71 : decode cX10_alive 71 = .ok (.invokevirtual 399, 3) := by decide +kernel
theorem dX10_alive_74 : decode cX10_alive 74 = .ok (.aload_n 0, 1) := by decide +kernel
theorem dX10_alive_75 : decode cX10_alive 75 = .ok (.getfield 74, 3) := by decide +kernel
theorem dX10_alive_78 : decode cX10_alive 78 = .ok (.aload_n 0, 1) := by decide +kernel
theorem dX10_alive_79 : decode cX10_alive 79 = .ok (.getfield 393, 3) := by decide +kernel
theorem dX10_alive_82 : decode cX10_alive 82 = .ok (.iaload, 1) := by decide +kernel
theorem dX10_alive_83 : decode cX10_alive 83 = .ok (.invokevirtual 402, 3) := by decide +kernel
theorem dX10_alive_86 : decode cX10_alive 86 = .ok (.istore 4, 2) := by decide +kernel
theorem dX10_alive_88 : decode cX10_alive 88 = .ok (.iinc 5 1, 3) := by decide +kernel
theorem dX10_alive_91 : decode cX10_alive 91 = .ok (.goto (-33), 3) := by decide +kernel
theorem dX10_alive_94 : decode cX10_alive 94 = .ok (.aload_n 0, 1) := by decide +kernel
theorem dX10_alive_95 : decode cX10_alive 95 = .ok (.iload 4, 2) := by decide +kernel
theorem dX10_alive_97 : decode cX10_alive 97 = .ok (.invokevirtual 214, 3) := by decide +kernel
theorem dX10_alive_100 : decode cX10_alive 100 = .ok (.ireturn, 1) := by decide +kernel
def mwX10_alivem : List Cond := .code yX10_alive cX10_alive 6 (some .int) :: (([.methodLink RX10 458 yX10_isPattern, .instanceMethod yX10_isPattern, .selects RX10 yX10_isPattern yX10_isPattern, .initialized RX10, .methodLink RX10 204 yX10_refuse, .instanceMethod yX10_refuse, .selects RX10 yX10_refuse yX10_refuse, .methodLink RX10 451 yX10_isDoc, .instanceMethod yX10_isDoc, .selects RX10 yX10_isDoc yX10_isDoc, .methodLink RX10 396 yX10_sizeOf, .instanceMethod yX10_sizeOf, .selects RX10 yX10_sizeOf yX10_sizeOf, .methodLink RX10 427 yX10_matches, .instanceMethod yX10_matches, .selects RX10 yX10_matches yX10_matches, .methodLink RX10 214 yX10_gives, .instanceMethod yX10_gives, .selects RX10 yX10_gives yX10_gives, .methodLink RX10 399 yX10_at, .instanceMethod yX10_at, .selects RX10 yX10_at yX10_at, .fieldLink RX10 74 "PatternGateModel" "heads" "[I", .fieldLink RX10 393 "PatternGateModel" "top" "I", .methodLink RX10 402 yX10_goesOn, .instanceMethod yX10_goesOn, .selects RX10 yX10_goesOn yX10_goesOn] : List Cond) ++ (wsX100 ++ (mwX10_isPatternm ++ (mwX10_refusem ++ (mwX10_isDocm ++ (mwX10_sizeOfm ++ (mwX10_matchesm ++ (mwX10_givesm ++ (mwX10_atm ++ (mwX10_goesOnm))))))))))
theorem fin_X10_alivem_X10 : ∀ w ∈ wsX100, w ∈ mwX10_alivem := fun w h => List.mem_cons_of_mem _ (List.mem_append_right _ (List.mem_append_left _ h))
set_option maxRecDepth 20000 in
theorem mg_X10_alivem_X10_isPattern_458 : GoodIn mwX10_alivem (wsV RX10 458 RX10 yX10_isPattern mwX10_isPatternm) := gi_app (A := [.methodLink RX10 458 yX10_isPattern, .instanceMethod yX10_isPattern, .selects RX10 yX10_isPattern yX10_isPattern, .initialized RX10]) (goodIn_r _ [1, 2, 3, 4] (by decide +kernel) (by decide +kernel)) (gi_sub gd_mwX10_isPatternm (fun w h => List.mem_cons_of_mem _ (List.mem_append_right _ (List.mem_append_right _ (List.mem_append_left _ h)))))
set_option maxRecDepth 20000 in
theorem mg_X10_alivem_X10_refuse_204 : GoodIn mwX10_alivem (wsV RX10 204 RX10 yX10_refuse mwX10_refusem) := gi_app (A := [.methodLink RX10 204 yX10_refuse, .instanceMethod yX10_refuse, .selects RX10 yX10_refuse yX10_refuse, .initialized RX10]) (goodIn_r _ [5, 6, 7, 4] (by decide +kernel) (by decide +kernel)) (gi_sub gd_mwX10_refusem (fun w h => List.mem_cons_of_mem _ (List.mem_append_right _ (List.mem_append_right _ (List.mem_append_right _ (List.mem_append_left _ h))))))
set_option maxRecDepth 20000 in
theorem mg_X10_alivem_X10_isDoc_451 : GoodIn mwX10_alivem (wsV RX10 451 RX10 yX10_isDoc mwX10_isDocm) := gi_app (A := [.methodLink RX10 451 yX10_isDoc, .instanceMethod yX10_isDoc, .selects RX10 yX10_isDoc yX10_isDoc, .initialized RX10]) (goodIn_r _ [8, 9, 10, 4] (by decide +kernel) (by decide +kernel)) (gi_sub gd_mwX10_isDocm (fun w h => List.mem_cons_of_mem _ (List.mem_append_right _ (List.mem_append_right _ (List.mem_append_right _ (List.mem_append_right _ (List.mem_append_left _ h)))))))
set_option maxRecDepth 20000 in
theorem mg_X10_alivem_X10_sizeOf_396 : GoodIn mwX10_alivem (wsV RX10 396 RX10 yX10_sizeOf mwX10_sizeOfm) := gi_app (A := [.methodLink RX10 396 yX10_sizeOf, .instanceMethod yX10_sizeOf, .selects RX10 yX10_sizeOf yX10_sizeOf, .initialized RX10]) (goodIn_r _ [11, 12, 13, 4] (by decide +kernel) (by decide +kernel)) (gi_sub gd_mwX10_sizeOfm (fun w h => List.mem_cons_of_mem _ (List.mem_append_right _ (List.mem_append_right _ (List.mem_append_right _ (List.mem_append_right _ (List.mem_append_right _ (List.mem_append_left _ h))))))))
set_option maxRecDepth 20000 in
theorem mg_X10_alivem_X10_matches_427 : GoodIn mwX10_alivem (wsV RX10 427 RX10 yX10_matches mwX10_matchesm) := gi_app (A := [.methodLink RX10 427 yX10_matches, .instanceMethod yX10_matches, .selects RX10 yX10_matches yX10_matches, .initialized RX10]) (goodIn_r _ [14, 15, 16, 4] (by decide +kernel) (by decide +kernel)) (gi_sub gd_mwX10_matchesm (fun w h => List.mem_cons_of_mem _ (List.mem_append_right _ (List.mem_append_right _ (List.mem_append_right _ (List.mem_append_right _ (List.mem_append_right _ (List.mem_append_right _ (List.mem_append_left _ h)))))))))
set_option maxRecDepth 20000 in
theorem mg_X10_alivem_X10_gives_214 : GoodIn mwX10_alivem (wsV RX10 214 RX10 yX10_gives mwX10_givesm) := gi_app (A := [.methodLink RX10 214 yX10_gives, .instanceMethod yX10_gives, .selects RX10 yX10_gives yX10_gives, .initialized RX10]) (goodIn_r _ [17, 18, 19, 4] (by decide +kernel) (by decide +kernel)) (gi_sub gd_mwX10_givesm (fun w h => List.mem_cons_of_mem _ (List.mem_append_right _ (List.mem_append_right _ (List.mem_append_right _ (List.mem_append_right _ (List.mem_append_right _ (List.mem_append_right _ (List.mem_append_right _ (List.mem_append_left _ h))))))))))
set_option maxRecDepth 20000 in
theorem mg_X10_alivem_X10_at_399 : GoodIn mwX10_alivem (wsV RX10 399 RX10 yX10_at mwX10_atm) := gi_app (A := [.methodLink RX10 399 yX10_at, .instanceMethod yX10_at, .selects RX10 yX10_at yX10_at, .initialized RX10]) (goodIn_r _ [20, 21, 22, 4] (by decide +kernel) (by decide +kernel)) (gi_sub gd_mwX10_atm (fun w h => List.mem_cons_of_mem _ (List.mem_append_right _ (List.mem_append_right _ (List.mem_append_right _ (List.mem_append_right _ (List.mem_append_right _ (List.mem_append_right _ (List.mem_append_right _ (List.mem_append_right _ (List.mem_append_left _ h)))))))))))
set_option maxRecDepth 20000 in
theorem mg_X10_alivem_X10_goesOn_402 : GoodIn mwX10_alivem (wsV RX10 402 RX10 yX10_goesOn mwX10_goesOnm) := gi_app (A := [.methodLink RX10 402 yX10_goesOn, .instanceMethod yX10_goesOn, .selects RX10 yX10_goesOn yX10_goesOn, .initialized RX10]) (goodIn_r _ [25, 26, 27, 4] (by decide +kernel) (by decide +kernel)) (gi_sub gd_mwX10_goesOnm (fun w h => List.mem_cons_of_mem _ (List.mem_append_right _ (List.mem_append_right _ (List.mem_append_right _ (List.mem_append_right _ (List.mem_append_right _ (List.mem_append_right _ (List.mem_append_right _ (List.mem_append_right _ (List.mem_append_right _ (h))))))))))))
set_option maxHeartbeats 4000000 in
set_option maxRecDepth 100000 in
theorem m_alive (l : Launch) (dC : Nat → ClassId) (dI : Nat → Nat → Nat) (ad : Nat → Nat) (kc : Nat → ClassId) (x0 x1 x2 x3 x4 x5 x6 x7 x8 x9 x10 x11 x12 x13 x14 x15 x16 x17 x18 x19 x20 x21 : Int32) (f0 f1 f2 f3 f4 f5 f6 f7 f8 f9 f10 f11 f12 f13 f14 f15 f16 f17 f18 f19 f20 f21 : Nat → Int32) (fL : Nat → Nat → Int64) (fN : Nat → Nat → Int32) (fP : Nat → Nat → Nat) (fM : Nat → Nat → Int32) (fO : Nat → Nat → Int32) (sz : Nat) (i1 i2 i3 : Int32) (q0 : mI x1.toInt x2.toInt x3.toInt f0 fP) : Met l yX10_alive mwX10_alivem ({ frames := 23, cells := 0, slots := 0, locals := 1380 }) (va_Pc [.ref (ad 0), .int i1, .int i2, .int i3] (fun U => U.heap.size = sz ∧ va_P (dC, dI) vwCl (mW ad kc x0 x1 x2 x3 x4 x5 x6 x7 x8 x9 x10 x11 x12 x13 x14 x15 x16 x17 x18 x19 x20 x21 f0 f1 f2 f3 f4 f5 f6 f7 f8 f9 f10 f11 f12 f13 f14 f15 f16 f17 f18 f19 f20 f21 fL fN fP fM fO) U.heap ∧ va_K (dC, dI) vwCl (mT kc) U ∧ va_D (fun _ => True) (mW ad kc x0 x1 x2 x3 x4 x5 x6 x7 x8 x9 x10 x11 x12 x13 x14 x15 x16 x17 x18 x19 x20 x21 f0 f1 f2 f3 f4 f5 f6 f7 f8 f9 f10 f11 f12 f13 f14 f15 f16 f17 f18 f19 f20 f21 fL fN fP fM fO))) (va_Qi (fun (o9 u9 : Int32) => o9 = u9) (fun (o9 : Int32) t => ∃ (y0 y12 y13 y14 y15 y20 : Int32) (g3 g4 g5 g6 g7 g8 g12 g13 g14 g15 g16 g17 g18 : Nat → Int32), va_P (dC, dI) vwCl (mW ad kc y0 x1 x2 x3 x4 x5 x6 x7 x8 x9 x10 x11 y12 y13 y14 y15 x16 x17 x18 x19 y20 x21 f0 f1 f2 g3 g4 g5 g6 g7 g8 f9 f10 f11 g12 g13 g14 g15 g16 g17 g18 f19 f20 f21 fL fN fP fM fO) t.heap ∧ va_K (dC, dI) vwCl (mT kc) t ∧ va_D (va_A (mW ad kc x0 x1 x2 x3 x4 x5 x6 x7 x8 x9 x10 x11 x12 x13 x14 x15 x16 x17 x18 x19 x20 x21 f0 f1 f2 f3 f4 f5 f6 f7 f8 f9 f10 f11 f12 f13 f14 f15 f16 f17 f18 f19 f20 f21 fL fN fP fM fO) sz) (mW ad kc y0 x1 x2 x3 x4 x5 x6 x7 x8 x9 x10 x11 y12 y13 y14 y15 x16 x17 x18 x19 y20 x21 f0 f1 f2 g3 g4 g5 g6 g7 g8 f9 f10 f11 g12 g13 g14 g15 g16 g17 g18 f19 f20 f21 fL fN fP fM fO)) (va_A (mW ad kc x0 x1 x2 x3 x4 x5 x6 x7 x8 x9 x10 x11 x12 x13 x14 x15 x16 x17 x18 x19 x20 x21 f0 f1 f2 f3 f4 f5 f6 f7 f8 f9 f10 f11 f12 f13 f14 f15 f16 f17 f18 f19 f20 f21 fL fN fP fM fO) sz)) 0 0 (va_A (mW ad kc x0 x1 x2 x3 x4 x5 x6 x7 x8 x9 x10 x11 x12 x13 x14 x15 x16 x17 x18 x19 x20 x21 f0 f1 f2 f3 f4 f5 f6 f7 f8 f9 f10 f11 f12 f13 f14 f15 f16 f17 f18 f19 f20 f21 fL fN fP fM fO) sz) := by
  refine Met.ofW (cc := cX10_alive) (maxL := 6) (ret := (some .int)) (by decide +kernel) rfl ?_
  intro p e s m args below meth c s₁ B hml hv
  obtain ⟨rfl, hsz, hP, hK, hD0⟩ := hv
  have hx := B.exec
  have hb := B.bytes
  have hr := B.returns
  have hts := atoms_spec (ws := mwX10_alivem) B.pre
  have hown : s.vm.findClass RX10 = some m.cls := findClass_of_methodNamed B.named
  have hlocks := B.notSynchronized
  subst hsz
  have hD := hD0.self (sz := s.heap.size)
  generalize hAe : va_A (mW ad kc x0 x1 x2 x3 x4 x5 x6 x7 x8 x9 x10 x11 x12 x13 x14 x15 x16 x17 x18 x19 x20 x21 f0 f1 f2 f3 f4 f5 f6 f7 f8 f9 f10 f11 f12 f13 f14 f15 f16 f17 f18 f19 f20 f21 fL fN fP fM fO) s.heap.size = A at hD ⊢
  have hA : ∀ q : Nat, s.heap.size ≤ q → A q := fun q h => by rw [← hAe]; exact Or.inr h
  have hP : va_P (dC, dI) vwCl (mW ad kc x0 x1 x2 x3 x4 x5 x6 x7 x8 x9 x10 x11 x12 x13 x14 x15 x16 x17 x18 x19 x20 x21 f0 f1 f2 f3 f4 f5 f6 f7 f8 f9 f10 f11 f12 f13 f14 f15 f16 f17 f18 f19 f20 f21 fL fN fP fM fO) s.heap := hP
  have hD : va_D A (mW ad kc x0 x1 x2 x3 x4 x5 x6 x7 x8 x9 x10 x11 x12 x13 x14 x15 x16 x17 x18 x19 x20 x21 f0 f1 f2 f3 f4 f5 f6 f7 f8 f9 f10 f11 f12 f13 f14 f15 f16 f17 f18 f19 f20 f21 fL fN fP fM fO) := hD
  have hK : va_K (dC, dI) vwCl (mT kc) s := hK
  generalize hH : s.heap = H at hP ⊢
  have hS : va_S A s.heap H [] := by rw [← hH]; exact va_S.rf
  have hl := lv_entry ([.ref (ad 0), .int i1, .int i2, .int i3]) (n := 6) (Nat.le_of_ble_eq_true rfl)
  rw [lg_entry_eq]
  generalize (lg_sl ([.ref (ad 0), .int i1, .int i2, .int i3]) ++ List.replicate (6 - (lg_sl ([.ref (ad 0), .int i1, .int i2, .int i3])).length) Slot.unset).toArray = ls at hl ⊢
  have hl : lv_has ls 6 [(0, .ref (ad 0)), (1, .int i1), (2, .int i2), (3, .int i3)] := hl
  have rg_i1 := i_rng i1
  have rg_i2 := i_rng i2
  have rg_i3 := i_rng i3
  have hd := q0.d
  have hpi := q0.p
  have hq1 := q0.1
  have hq2 := q0.2.1
  have hq3 := q0.2.2.1
  have hd10 := hd.n0
  have hp8 := hd.P0
  refine lv_iload_n hx hb dX10_alive_0 rfl (lv_at hl 3 rfl) ?_
  refine lv_if_ge (tgt := 10) hx hb dX10_alive_1 (by decide) (fun k_1 => ?_) (fun k_1 => ?_)
  · have tk_1 := c_ge (a := i3.toInt) (b := 0) rfl (by decide) k_1
    refine lv_aload_n hx hb dX10_alive_10 rfl (lv_at hl 0 rfl) ?_
    refine lv_iload_n hx hb dX10_alive_11 rfl (lv_at hl 1 rfl) ?_
    refine vp_callSi (W.runV (As := [.int i1]) (rest := []) ⟨hx, hb, hml, hown, hts⟩ (m_isPattern l dC dI ad kc x0 x1 x2 x3 x4 x5 x6 x7 x8 x9 x10 x11 x12 x13 x14 x15 x16 x17 x18 x19 x20 x21 f0 f1 f2 f3 f4 f5 f6 f7 f8 f9 f10 f11 f12 f13 f14 f15 f16 f17 f18 f19 f20 f21 fL fN fP fM fO i1 ) (cwV 1 hts mg_X10_alivem_X10_isPattern_458 rfl rfl rfl (by decide +kernel) ⟨Nat.le_of_ble_eq_true rfl, Nat.le_of_ble_eq_true rfl⟩) ⟨fun a U g mk q => by obtain ⟨q0, qP, qK⟩ := q; exact ⟨q0, qP, va_K.moved (u := U) (U := U.calling g mk a) (Vm.Alike.refl U.vm) qK⟩, va_recv hK hP (ci := 10) (q0 := 0) rfl rfl, fun U hU hW => ⟨rfl, by rw [hU]; exact hP, va_K.moved hW.alike hK⟩⟩ rfl rfl hl.1 rfl (lv_room (Nat.le_of_ble_eq_true rfl)) dX10_alive_12 ⟨Nat.le_of_ble_eq_true rfl, Nat.le_of_ble_eq_true rfl⟩) (fun r_2 hr_2 => ?_)
    have rg_r_2 := i_rng r_2
    refine lv_if_eq (tgt := 26) hx hb dX10_alive_15 (by decide) (fun k_3 => ?_) (fun k_3 => ?_)
    · have tk_3 := c_eq (a := r_2.toInt) (b := 0) rfl (by decide) k_3
      refine lv_aload_n hx hb dX10_alive_26 rfl (lv_at hl 0 rfl) ?_
      refine lv_iconst (v := 2) hx hb dX10_alive_27 (by decide) ?_
      have hFc := m_free hD hS hA
      refine va_calli (va_runV (As := [.int 2]) (rest := []) ⟨hx, hb, hml, hown, hts⟩ (m_refuse l dC dI ad kc x0 x1 x2 x3 x4 x5 x6 x7 x8 x9 x10 x11 x12 x13 x14 x15 x16 x17 x18 x19 x20 x21 f0 f1 f2 f3 f4 f5 f6 f7 f8 f9 f10 f11 f12 f13 f14 f15 f16 f17 f18 f19 f20 f21 fL fN fP fM fO H.size 2 ) (cwV 1 hts mg_X10_alivem_X10_refuse_204 rfl rfl rfl (by decide +kernel) ⟨Nat.le_of_ble_eq_true rfl, Nat.le_of_ble_eq_true rfl⟩) ⟨fun a U g mk q => by obtain ⟨q0, q1, qP, qK, qD⟩ := q; exact ⟨q0, q1, qP, va_K.moved (u := U) (U := U.calling g mk a) (Vm.Alike.refl U.vm) qK, qD⟩, va_recv hK hP (ci := 10) (q0 := 0) rfl rfl, fun U hU hW => ⟨rfl, by rw [hU], by rw [hU]; exact hP, va_K.moved hW.alike hK, hD.weaken (fun _ _ _ _ => trivial)⟩⟩ rfl rfl hl.1 rfl (lv_room (Nat.le_of_ble_eq_true rfl)) dX10_alive_28 ⟨Nat.le_of_ble_eq_true rfl, Nat.le_of_ble_eq_true rfl⟩) hS (fun q _ h => hFc q h) hFc (fun r_4 u t H1 locs ht hvm hw hB hz1 hk1 hS => ?_)
      subst hw
      obtain ⟨hr_4_0, hP, hK1, hD1⟩ := hB
      rw [ht] at hP
      have hD := hD1.weaken (fun k q _ h => hFc q.1 h)
      clear hz1 hk1 hFc hD1 hK1 hvm
      generalize H1 = H at hP hS ⊢
      have rg_r_4 := i_rng r_4
      have hP : va_P (dC, dI) vwCl (mW ad kc 2 x1 x2 x3 x4 x5 x6 x7 x8 x9 x10 x11 x12 x13 x14 x15 x16 x17 x18 x19 x20 x21 f0 f1 f2 f3 f4 f5 f6 f7 f8 f9 f10 f11 f12 f13 f14 f15 f16 f17 f18 f19 f20 f21 fL fN fP fM fO) H := hP
      have hD : va_D A (mW ad kc 2 x1 x2 x3 x4 x5 x6 x7 x8 x9 x10 x11 x12 x13 x14 x15 x16 x17 x18 x19 x20 x21 f0 f1 f2 f3 f4 f5 f6 f7 f8 f9 f10 f11 f12 f13 f14 f15 f16 f17 f18 f19 f20 f21 fL fN fP fM fO) := hD
      have lit_4 : (2 : Int32).toInt = 2 := by decide
      exact W.iret hx hb hr (fun t ht hW => ⟨⟨_, _, rfl, rfl, 2, x12, x13, x14, x15, x20, f3, f4, f5, f6, f7, f8, f12, f13, f14, f15, f16, f17, f18, by rw [ht]; exact hP, va_K.moved hW.alike hK, hD⟩, hS.F ht⟩) hS.2.2 dX10_alive_31
    · have tk_3 := c_ne (a := r_2.toInt) (b := 0) rfl (by decide) k_3
      refine lv_aload_n hx hb dX10_alive_18 rfl (lv_at hl 0 rfl) ?_
      refine lv_iload_n hx hb dX10_alive_19 rfl (lv_at hl 2 rfl) ?_
      refine vp_callSi (W.runV (As := [.int i2]) (rest := []) ⟨hx, hb, hml, hown, hts⟩ (m_isDoc l dC dI ad kc x0 x1 x2 x3 x4 x5 x6 x7 x8 x9 x10 x11 x12 x13 x14 x15 x16 x17 x18 x19 x20 x21 f0 f1 f2 f3 f4 f5 f6 f7 f8 f9 f10 f11 f12 f13 f14 f15 f16 f17 f18 f19 f20 f21 fL fN fP fM fO i2 ) (cwV 1 hts mg_X10_alivem_X10_isDoc_451 rfl rfl rfl (by decide +kernel) ⟨Nat.le_of_ble_eq_true rfl, Nat.le_of_ble_eq_true rfl⟩) ⟨fun a U g mk q => by obtain ⟨q0, qP, qK⟩ := q; exact ⟨q0, qP, va_K.moved (u := U) (U := U.calling g mk a) (Vm.Alike.refl U.vm) qK⟩, va_recv hK hP (ci := 10) (q0 := 0) rfl rfl, fun U hU hW => ⟨rfl, by rw [hU]; exact hP, va_K.moved hW.alike hK⟩⟩ rfl rfl hl.1 rfl (lv_room (Nat.le_of_ble_eq_true rfl)) dX10_alive_20 ⟨Nat.le_of_ble_eq_true rfl, Nat.le_of_ble_eq_true rfl⟩) (fun r_6 hr_6 => ?_)
      have rg_r_6 := i_rng r_6
      refine lv_if_ne (tgt := 32) hx hb dX10_alive_23 (by decide) (fun k_7 => ?_) (fun k_7 => ?_)
      · have tk_7 := c_ne (a := r_6.toInt) (b := 0) rfl (by decide) k_7
        refine lv_iload_n hx hb dX10_alive_32 rfl (lv_at hl 3 rfl) ?_
        refine lv_aload_n hx hb dX10_alive_33 rfl (lv_at hl 0 rfl) ?_
        refine lv_iload_n hx hb dX10_alive_34 rfl (lv_at hl 2 rfl) ?_
        refine vp_callSi (W.runV (As := [.int i2]) (rest := [.int i3]) ⟨hx, hb, hml, hown, hts⟩ (m_sizeOf l dC dI ad kc x0 x1 x2 x3 x4 x5 x6 x7 x8 x9 x10 x11 x12 x13 x14 x15 x16 x17 x18 x19 x20 x21 f0 f1 f2 f3 f4 f5 f6 f7 f8 f9 f10 f11 f12 f13 f14 f15 f16 f17 f18 f19 f20 f21 fL fN fP fM fO i2 (by first | omega | assumption | decide | (have l0 := Int32.toInt_zero; omega)) (by first | omega | assumption | decide | (have l0 := Int32.toInt_zero; omega))) (cwV 1 hts mg_X10_alivem_X10_sizeOf_396 rfl rfl rfl (by decide +kernel) ⟨Nat.le_of_ble_eq_true rfl, Nat.le_of_ble_eq_true rfl⟩) ⟨fun a U g mk q => by obtain ⟨q0, qP, qK⟩ := q; exact ⟨q0, qP, va_K.moved (u := U) (U := U.calling g mk a) (Vm.Alike.refl U.vm) qK⟩, va_recv hK hP (ci := 10) (q0 := 0) rfl rfl, fun U hU hW => ⟨rfl, by rw [hU]; exact hP, va_K.moved hW.alike hK⟩⟩ rfl rfl hl.1 rfl (lv_room (Nat.le_of_ble_eq_true rfl)) dX10_alive_35 ⟨Nat.le_of_ble_eq_true rfl, Nat.le_of_ble_eq_true rfl⟩) (fun r_8 hr_8 => ?_)
        have rg_r_8 := i_rng r_8
        have hlr_8 := OKd.sz hd (d := i2.toInt) (by omega) (by omega)
        refine lv_icmp_lt (tgt := 47) hx hb dX10_alive_38 (by decide) (fun k_9 => ?_) (fun k_9 => ?_)
        · have tk_9 := c_lt (a := i3.toInt) (b := r_8.toInt) rfl rfl k_9
          refine lv_aload_n hx hb dX10_alive_47 rfl (lv_at hl 0 rfl) ?_
          refine lv_iload_n hx hb dX10_alive_48 rfl (lv_at hl 1 rfl) ?_
          have hFc := m_free hD hS hA
          refine va_callv (va_runV (As := [.int i1]) (rest := []) ⟨hx, hb, hml, hown, hts⟩ (m_matches l dC dI ad kc x0 x1 x2 x3 x4 x5 x6 x7 x8 x9 x10 x11 x12 x13 x14 x15 x16 x17 x18 x19 x20 x21 f0 f1 f2 f3 f4 f5 f6 f7 f8 f9 f10 f11 f12 f13 f14 f15 f16 f17 f18 f19 f20 f21 fL fN fP fM fO H.size i1 (by first | omega | assumption | decide | (have l0 := Int32.toInt_zero; omega)) (by first | omega | assumption | decide | (have l0 := Int32.toInt_zero; omega))) (cwV 1 hts mg_X10_alivem_X10_matches_427 rfl rfl rfl (by decide +kernel) ⟨Nat.le_of_ble_eq_true rfl, Nat.le_of_ble_eq_true rfl⟩) ⟨fun a U g mk q => by obtain ⟨q0, q1, qP, qK, qD⟩ := q; exact ⟨q0, q1, qP, va_K.moved (u := U) (U := U.calling g mk a) (Vm.Alike.refl U.vm) qK, qD⟩, va_recv hK hP (ci := 10) (q0 := 0) rfl rfl, fun U hU hW => ⟨rfl, by rw [hU], by rw [hU]; exact hP, va_K.moved hW.alike hK, hD.weaken (fun _ _ _ _ => trivial)⟩⟩ rfl rfl hl.1 rfl (lv_room (Nat.le_of_ble_eq_true rfl)) dX10_alive_49 ⟨Nat.le_of_ble_eq_true rfl, Nat.le_of_ble_eq_true rfl⟩) hS (fun q _ h => hFc q h) hFc (fun u t H1 locs ht hvm hw hB hz1 hk1 hS => ?_)
          obtain ⟨x_11, x_12, x_13, x_14, x_15, f_16, f_17, f_18, f_19, f_20, f_21, f_22, f_23, f_24, f_25, f_26, f_27, f_28, hr_10_0, hr_10_1, hP, hK1, hD1⟩ := hB
          rw [ht] at hP
          have hD := hD1.weaken (fun k q _ h => hFc q.1 h)
          clear hz1 hk1 hFc hD1 hK1 hvm
          generalize H1 = H at hP hS ⊢
          have rg_x_11 := i_rng x_11
          have rg_x_12 := i_rng x_12
          have rg_x_13 := i_rng x_13
          have rg_x_14 := i_rng x_14
          have rg_x_15 := i_rng x_15
          have hP : va_P (dC, dI) vwCl (mW ad kc x0 x1 x2 x3 x4 x5 x6 x7 x8 x9 x10 x11 x_11 x_12 x_13 x_14 x16 x17 x18 x19 x_15 x21 f0 f1 f2 f_16 f_17 f_18 f_19 f_20 f_21 f9 f10 f11 f_22 f_23 f_24 f_25 f_26 f_27 f_28 f19 f20 f21 fL fN fP fM fO) H := hP
          have hD : va_D A (mW ad kc x0 x1 x2 x3 x4 x5 x6 x7 x8 x9 x10 x11 x_11 x_12 x_13 x_14 x16 x17 x18 x19 x_15 x21 f0 f1 f2 f_16 f_17 f_18 f_19 f_20 f_21 f9 f10 f11 f_22 f_23 f_24 f_25 f_26 f_27 f_28 f19 f20 f21 fL fN fP fM fO) := hD
          have hT9 := hr_10_0
          have hS9 := hr_10_1
          refine lv_iconst (v := 0) hx hb dX10_alive_52 (by decide) ?_
          refine lv_istore (lv' := [(4, .int 0), (0, .ref (ad 0)), (1, .int i1), (2, .int i2), (3, .int i3)]) hx hb dX10_alive_53 hl (by decide) rfl (fun ls hl => ?_)
          refine lv_iconst (v := 0) hx hb dX10_alive_55 (by decide) ?_
          refine lv_istore (lv' := [(5, .int 0), (4, .int 0), (0, .ref (ad 0)), (1, .int i1), (2, .int i2), (3, .int i3)]) hx hb dX10_alive_56 hl (by decide) rfl (fun ls hl => ?_)
          have loop58 : ∀ (lm58 : Nat) (se kk : Int32), (0 ≤ kk.toInt ∧ kk.toInt ≤ 60) → ((60 - kk.toInt).toNat) < lm58 → ∀ (H : Heap) (locs : List Loc) (ls : Array Slot), va_P (dC, dI) vwCl (mW ad kc x0 x1 x2 x3 x4 x5 x6 x7 x8 x9 x10 x11 x_11 x_12 x_13 x_14 x16 x17 x18 x19 x_15 x21 f0 f1 f2 f_16 f_17 f_18 f_19 f_20 f_21 f9 f10 f11 f_22 f_23 f_24 f_25 f_26 f_27 f_28 f19 f20 f21 fL fN fP fM fO) H → va_D A (mW ad kc x0 x1 x2 x3 x4 x5 x6 x7 x8 x9 x10 x11 x_11 x_12 x_13 x_14 x16 x17 x18 x19 x_15 x21 f0 f1 f2 f_16 f_17 f_18 f_19 f_20 f_21 f9 f10 f11 f_22 f_23 f_24 f_25 f_26 f_27 f_28 f19 f20 f21 fL fN fP fM fO) → va_S A s.heap H locs → lv_has ls 6 [(5, .int kk), (4, .int se), (0, .ref (ad 0)), (1, .int i1), (2, .int i2), (3, .int i3)] → W p l e (headSpec mwX10_alivem ({ frames := 23, cells := 0, slots := 0, locals := 1380 })).room s m ([.ref (ad 0), .int i1, .int i2, .int i3]).toArray below meth c H locs 0 0 (MQ below (va_Qi (fun (o9 u9 : Int32) => o9 = u9) (fun (o9 : Int32) t => ∃ (y0 y12 y13 y14 y15 y20 : Int32) (g3 g4 g5 g6 g7 g8 g12 g13 g14 g15 g16 g17 g18 : Nat → Int32), va_P (dC, dI) vwCl (mW ad kc y0 x1 x2 x3 x4 x5 x6 x7 x8 x9 x10 x11 y12 y13 y14 y15 x16 x17 x18 x19 y20 x21 f0 f1 f2 g3 g4 g5 g6 g7 g8 f9 f10 f11 g12 g13 g14 g15 g16 g17 g18 f19 f20 f21 fL fN fP fM fO) t.heap ∧ va_K (dC, dI) vwCl (mT kc) t ∧ va_D A (mW ad kc y0 x1 x2 x3 x4 x5 x6 x7 x8 x9 x10 x11 y12 y13 y14 y15 x16 x17 x18 x19 y20 x21 f0 f1 f2 g3 g4 g5 g6 g7 g8 f9 f10 f11 g12 g13 g14 g15 g16 g17 g18 f19 f20 f21 fL fN fP fM fO)) A) ([.ref (ad 0), .int i1, .int i2, .int i3]).toArray s 0 0 A) (F0 m 58 ls []) := by
            intro lm58
            induction lm58 with
            | zero => intro se kk v58_0 hm58; exact absurd hm58 (Nat.not_lt_zero _)
            | succ lm58 ih58 =>
              intro se kk v58_0 hm58 H locs ls hP hD hS hl
              have rg_se := i_rng se
              have rg_kk := i_rng kk
              refine lv_iload hx hb dX10_alive_58 (lv_at hl 0 rfl) ?_
              refine lv_iload_n hx hb dX10_alive_60 rfl (lv_at hl 5 rfl) ?_
              refine lv_icmp_gt (tgt := 94) hx hb dX10_alive_61 (by decide) (fun k_29 => ?_) (fun k_29 => ?_)
              · have tk_29 := c_gt (a := kk.toInt) (b := i3.toInt) rfl rfl k_29
                refine lv_aload_n hx hb dX10_alive_94 rfl (lv_at hl 2 rfl) ?_
                refine lv_iload hx hb dX10_alive_95 (lv_at hl 1 rfl) ?_
                have hFc := m_free hD hS hA
                refine va_calli (va_runV (As := [.int se]) (rest := []) ⟨hx, hb, hml, hown, hts⟩ (m_gives l dC dI ad kc x0 x1 x2 x3 x4 x5 x6 x7 x8 x9 x10 x11 x_11 x_12 x_13 x_14 x16 x17 x18 x19 x_15 x21 f0 f1 f2 f_16 f_17 f_18 f_19 f_20 f_21 f9 f10 f11 f_22 f_23 f_24 f_25 f_26 f_27 f_28 f19 f20 f21 fL fN fP fM fO H.size se ) (cwV 1 hts mg_X10_alivem_X10_gives_214 rfl rfl rfl (by decide +kernel) ⟨Nat.le_of_ble_eq_true rfl, Nat.le_of_ble_eq_true rfl⟩) ⟨fun a U g mk q => by obtain ⟨q0, q1, qP, qK, qD⟩ := q; exact ⟨q0, q1, qP, va_K.moved (u := U) (U := U.calling g mk a) (Vm.Alike.refl U.vm) qK, qD⟩, va_recv hK hP (ci := 10) (q0 := 0) rfl rfl, fun U hU hW => ⟨rfl, by rw [hU], by rw [hU]; exact hP, va_K.moved hW.alike hK, hD.weaken (fun _ _ _ _ => trivial)⟩⟩ rfl rfl hl.1 rfl (lv_room (Nat.le_of_ble_eq_true rfl)) dX10_alive_97 ⟨Nat.le_of_ble_eq_true rfl, Nat.le_of_ble_eq_true rfl⟩) hS (fun q _ h => hFc q h) hFc (fun r_30 u t H1 locs ht hvm hw hB hz1 hk1 hS => ?_)
                subst hw
                obtain ⟨hr_30_0, hP, hK1, hD1⟩ := hB
                rw [ht] at hP
                have hD := hD1.weaken (fun k q _ h => hFc q.1 h)
                clear hz1 hk1 hFc hD1 hK1 hvm
                generalize H1 = H at hP hS ⊢
                have rg_r_30 := i_rng r_30
                have hP : va_P (dC, dI) vwCl (mW ad kc 0 x1 x2 x3 x4 x5 x6 x7 x8 x9 x10 x11 x_11 x_12 x_13 x_14 x16 x17 x18 x19 x_15 x21 f0 f1 f2 f_16 f_17 f_18 f_19 f_20 f_21 f9 f10 f11 f_22 f_23 f_24 f_25 f_26 f_27 f_28 f19 f20 f21 fL fN fP fM fO) H := hP
                have hD : va_D A (mW ad kc 0 x1 x2 x3 x4 x5 x6 x7 x8 x9 x10 x11 x_11 x_12 x_13 x_14 x16 x17 x18 x19 x_15 x21 f0 f1 f2 f_16 f_17 f_18 f_19 f_20 f_21 f9 f10 f11 f_22 f_23 f_24 f_25 f_26 f_27 f_28 f19 f20 f21 fL fN fP fM fO) := hD
                have lit_30 : (0 : Int32).toInt = 0 := by decide
                exact W.iret hx hb hr (fun t ht hW => ⟨⟨_, _, rfl, rfl, 0, x_11, x_12, x_13, x_14, x_15, f_16, f_17, f_18, f_19, f_20, f_21, f_22, f_23, f_24, f_25, f_26, f_27, f_28, by rw [ht]; exact hP, va_K.moved hW.alike hK, hD⟩, hS.F ht⟩) hS.2.2 dX10_alive_100
              · have tk_29 := c_ngt (a := kk.toInt) (b := i3.toInt) rfl rfl k_29
                refine lv_aload_n hx hb dX10_alive_64 rfl (lv_at hl 2 rfl) ?_
                refine lv_iload hx hb dX10_alive_65 (lv_at hl 1 rfl) ?_
                refine lv_aload_n hx hb dX10_alive_67 rfl (lv_at hl 2 rfl) ?_
                refine lv_iload_n hx hb dX10_alive_68 rfl (lv_at hl 4 rfl) ?_
                refine lv_iload hx hb dX10_alive_69 (lv_at hl 0 rfl) ?_
                refine vp_callSi (W.runV (As := [.int i2, .int kk]) (rest := [.int se, .ref (ad 0)]) ⟨hx, hb, hml, hown, hts⟩ (m_at l dC dI ad kc x0 x1 x2 x3 x4 x5 x6 x7 x8 x9 x10 x11 x_11 x_12 x_13 x_14 x16 x17 x18 x19 x_15 x21 f0 f1 f2 f_16 f_17 f_18 f_19 f_20 f_21 f9 f10 f11 f_22 f_23 f_24 f_25 f_26 f_27 f_28 f19 f20 f21 fL fN fP fM fO i2 kk (by first | omega | assumption | decide | (have l0 := Int32.toInt_zero; omega)) (by first | omega | assumption | decide | (have l0 := Int32.toInt_zero; omega)) (by first | omega | assumption | decide | (have l0 := Int32.toInt_zero; omega)) (by first | omega | assumption | decide | (have l0 := Int32.toInt_zero; omega))) (cwV 2 hts mg_X10_alivem_X10_at_399 rfl rfl rfl (by decide +kernel) ⟨Nat.le_of_ble_eq_true rfl, Nat.le_of_ble_eq_true rfl⟩) ⟨fun a U g mk q => by obtain ⟨q0, qP, qK⟩ := q; exact ⟨q0, qP, va_K.moved (u := U) (U := U.calling g mk a) (Vm.Alike.refl U.vm) qK⟩, va_recv hK hP (ci := 10) (q0 := 0) rfl rfl, fun U hU hW => ⟨rfl, by rw [hU]; exact hP, va_K.moved hW.alike hK⟩⟩ rfl rfl hl.1 rfl (lv_room (Nat.le_of_ble_eq_true rfl)) dX10_alive_71 ⟨Nat.le_of_ble_eq_true rfl, Nat.le_of_ble_eq_true rfl⟩) (fun r_32 hr_32 => ?_)
                have rg_r_32 := i_rng r_32
                refine lv_aload_n hx hb dX10_alive_74 rfl (lv_at hl 2 rfl) ?_
                refine va_get (D := (dC, dI)) (ci := 10) (v := .ref (ad 14)) (C := RX10) (T := TX10) (N := 48) hx hb hts fin_X10_alivem_X10 hown hK hP 0 rfl rfl 36 (by decide) (hts (.fieldLink RX10 74 "PatternGateModel" "heads" "[I") (List.mem_of_getElem? (i := 23) (by decide +kernel))) (fun _ h9 => h9) rfl dX10_alive_75 ?_
                refine lv_aload_n hx hb dX10_alive_78 rfl (lv_at hl 2 rfl) ?_
                refine va_get (D := (dC, dI)) (ci := 10) (v := .int x_15) (C := RX10) (T := TX10) (N := 48) hx hb hts fin_X10_alivem_X10 hown hK hP 0 rfl rfl 42 (by decide) (hts (.fieldLink RX10 393 "PatternGateModel" "top" "I") (List.mem_of_getElem? (i := 24) (by decide +kernel))) (fun _ h9 => h9) rfl dX10_alive_79 ?_
                refine va_iald hx hb hK hP 14 13 rfl rfl (i := x_15) (vp_of (a := x_15.toInt) rfl (by omega) (by omega)) dX10_alive_82 ?_
                refine lv_topi (fun y_33 ey_33 => ?_)
                have rg_y_33 := i_rng y_33
                have hFc := m_free hD hS hA
                refine va_calli (va_runV (As := [.int se, .int r_32, .int y_33]) (rest := []) ⟨hx, hb, hml, hown, hts⟩ (m_goesOn l dC dI ad kc x0 x1 x2 x3 x4 x5 x6 x7 x8 x9 x10 x11 x_11 x_12 x_13 x_14 x16 x17 x18 x19 x_15 x21 f0 f1 f2 f_16 f_17 f_18 f_19 f_20 f_21 f9 f10 f11 f_22 f_23 f_24 f_25 f_26 f_27 f_28 f19 f20 f21 fL fN fP fM fO H.size se r_32 y_33 (by first | omega | assumption | decide | (have l0 := Int32.toInt_zero; omega))) (cwV 3 hts mg_X10_alivem_X10_goesOn_402 rfl rfl rfl (by decide +kernel) ⟨Nat.le_of_ble_eq_true rfl, Nat.le_of_ble_eq_true rfl⟩) ⟨fun a U g mk q => by obtain ⟨q0, q1, qP, qK, qD⟩ := q; exact ⟨q0, q1, qP, va_K.moved (u := U) (U := U.calling g mk a) (Vm.Alike.refl U.vm) qK, qD⟩, va_recv hK hP (ci := 10) (q0 := 0) rfl rfl, fun U hU hW => ⟨rfl, by rw [hU], by rw [hU]; exact hP, va_K.moved hW.alike hK, hD.weaken (fun _ _ _ _ => trivial)⟩⟩ rfl rfl hl.1 rfl (lv_room (Nat.le_of_ble_eq_true rfl)) dX10_alive_83 ⟨Nat.le_of_ble_eq_true rfl, Nat.le_of_ble_eq_true rfl⟩) hS (fun q _ h => hFc q h) hFc (fun r_34 u t H1 locs ht hvm hw hB hz1 hk1 hS => ?_)
                subst hw
                obtain ⟨hP, hK1, hD1⟩ := hB
                rw [ht] at hP
                have hD := hD1.weaken (fun k q _ h => hFc q.1 h)
                clear hz1 hk1 hFc hD1 hK1 hvm
                generalize H1 = H at hP hS ⊢
                have rg_r_34 := i_rng r_34
                have hP : va_P (dC, dI) vwCl (mW ad kc x0 x1 x2 x3 x4 x5 x6 x7 x8 x9 x10 x11 x_11 x_12 x_13 x_14 x16 x17 x18 x19 x_15 x21 f0 f1 f2 f_16 f_17 f_18 f_19 f_20 f_21 f9 f10 f11 f_22 f_23 f_24 f_25 f_26 f_27 f_28 f19 f20 f21 fL fN fP fM fO) H := hP
                have hD : va_D A (mW ad kc x0 x1 x2 x3 x4 x5 x6 x7 x8 x9 x10 x11 x_11 x_12 x_13 x_14 x16 x17 x18 x19 x_15 x21 f0 f1 f2 f_16 f_17 f_18 f_19 f_20 f_21 f9 f10 f11 f_22 f_23 f_24 f_25 f_26 f_27 f_28 f19 f20 f21 fL fN fP fM fO) := hD
                refine lv_istore (lv' := [(4, .int r_34), (5, .int kk), (0, .ref (ad 0)), (1, .int i1), (2, .int i2), (3, .int i3)]) hx hb dX10_alive_86 hl (by decide) rfl (fun ls hl => ?_)
                obtain ⟨y_35, ey_35⟩ : ∃ y : Int32, y = kk + 1 := ⟨_, rfl⟩
                first | have ty_35 := i_add (a := kk.toInt) (b := 1) rfl (by decide) ey_35 (by omega) (by omega) | skip
                refine lv_iinc (v := y_35) (lv' := [(5, .int y_35), (4, .int r_34), (0, .ref (ad 0)), (1, .int i1), (2, .int i2), (3, .int i3)]) hx hb dX10_alive_88 hl (k := 1) rfl (by rw [ey_35]; rfl) (by decide) rfl (fun ls hl => ?_)
                refine lv_goto (tgt := 58) hx hb dX10_alive_91 (by decide) ?_
                exact ih58 r_34 y_35 (by first | omega | assumption | decide) (by omega) _ _ ls hP hD hS (lv_sub hl [0, 1, 2, 3, 4, 5] rfl)
          have lit_35 : (0 : Int32).toInt = 0 := by decide
          have lit_36 : (0 : Int32).toInt = 0 := by decide
          exact loop58 _ 0 0 (by first | omega | assumption | decide) (Nat.lt_succ_self _) _ _ ls hP hD hS (lv_sub hl [0, 1, 2, 3, 4, 5] rfl)
        · have tk_9 := c_nlt (a := i3.toInt) (b := r_8.toInt) rfl rfl k_9
          refine lv_aload_n hx hb dX10_alive_41 rfl (lv_at hl 0 rfl) ?_
          refine lv_iconst (v := 5) hx hb dX10_alive_42 (by decide) ?_
          have hFc := m_free hD hS hA
          refine va_calli (va_runV (As := [.int 5]) (rest := []) ⟨hx, hb, hml, hown, hts⟩ (m_refuse l dC dI ad kc x0 x1 x2 x3 x4 x5 x6 x7 x8 x9 x10 x11 x12 x13 x14 x15 x16 x17 x18 x19 x20 x21 f0 f1 f2 f3 f4 f5 f6 f7 f8 f9 f10 f11 f12 f13 f14 f15 f16 f17 f18 f19 f20 f21 fL fN fP fM fO H.size 5 ) (cwV 1 hts mg_X10_alivem_X10_refuse_204 rfl rfl rfl (by decide +kernel) ⟨Nat.le_of_ble_eq_true rfl, Nat.le_of_ble_eq_true rfl⟩) ⟨fun a U g mk q => by obtain ⟨q0, q1, qP, qK, qD⟩ := q; exact ⟨q0, q1, qP, va_K.moved (u := U) (U := U.calling g mk a) (Vm.Alike.refl U.vm) qK, qD⟩, va_recv hK hP (ci := 10) (q0 := 0) rfl rfl, fun U hU hW => ⟨rfl, by rw [hU], by rw [hU]; exact hP, va_K.moved hW.alike hK, hD.weaken (fun _ _ _ _ => trivial)⟩⟩ rfl rfl hl.1 rfl (lv_room (Nat.le_of_ble_eq_true rfl)) dX10_alive_43 ⟨Nat.le_of_ble_eq_true rfl, Nat.le_of_ble_eq_true rfl⟩) hS (fun q _ h => hFc q h) hFc (fun r_38 u t H1 locs ht hvm hw hB hz1 hk1 hS => ?_)
          subst hw
          obtain ⟨hr_38_0, hP, hK1, hD1⟩ := hB
          rw [ht] at hP
          have hD := hD1.weaken (fun k q _ h => hFc q.1 h)
          clear hz1 hk1 hFc hD1 hK1 hvm
          generalize H1 = H at hP hS ⊢
          have rg_r_38 := i_rng r_38
          have hP : va_P (dC, dI) vwCl (mW ad kc 5 x1 x2 x3 x4 x5 x6 x7 x8 x9 x10 x11 x12 x13 x14 x15 x16 x17 x18 x19 x20 x21 f0 f1 f2 f3 f4 f5 f6 f7 f8 f9 f10 f11 f12 f13 f14 f15 f16 f17 f18 f19 f20 f21 fL fN fP fM fO) H := hP
          have hD : va_D A (mW ad kc 5 x1 x2 x3 x4 x5 x6 x7 x8 x9 x10 x11 x12 x13 x14 x15 x16 x17 x18 x19 x20 x21 f0 f1 f2 f3 f4 f5 f6 f7 f8 f9 f10 f11 f12 f13 f14 f15 f16 f17 f18 f19 f20 f21 fL fN fP fM fO) := hD
          have lit_38 : (5 : Int32).toInt = 5 := by decide
          exact W.iret hx hb hr (fun t ht hW => ⟨⟨_, _, rfl, rfl, 5, x12, x13, x14, x15, x20, f3, f4, f5, f6, f7, f8, f12, f13, f14, f15, f16, f17, f18, by rw [ht]; exact hP, va_K.moved hW.alike hK, hD⟩, hS.F ht⟩) hS.2.2 dX10_alive_46
      · have tk_7 := c_eq (a := r_6.toInt) (b := 0) rfl (by decide) k_7
        refine lv_aload_n hx hb dX10_alive_26 rfl (lv_at hl 0 rfl) ?_
        refine lv_iconst (v := 2) hx hb dX10_alive_27 (by decide) ?_
        have hFc := m_free hD hS hA
        refine va_calli (va_runV (As := [.int 2]) (rest := []) ⟨hx, hb, hml, hown, hts⟩ (m_refuse l dC dI ad kc x0 x1 x2 x3 x4 x5 x6 x7 x8 x9 x10 x11 x12 x13 x14 x15 x16 x17 x18 x19 x20 x21 f0 f1 f2 f3 f4 f5 f6 f7 f8 f9 f10 f11 f12 f13 f14 f15 f16 f17 f18 f19 f20 f21 fL fN fP fM fO H.size 2 ) (cwV 1 hts mg_X10_alivem_X10_refuse_204 rfl rfl rfl (by decide +kernel) ⟨Nat.le_of_ble_eq_true rfl, Nat.le_of_ble_eq_true rfl⟩) ⟨fun a U g mk q => by obtain ⟨q0, q1, qP, qK, qD⟩ := q; exact ⟨q0, q1, qP, va_K.moved (u := U) (U := U.calling g mk a) (Vm.Alike.refl U.vm) qK, qD⟩, va_recv hK hP (ci := 10) (q0 := 0) rfl rfl, fun U hU hW => ⟨rfl, by rw [hU], by rw [hU]; exact hP, va_K.moved hW.alike hK, hD.weaken (fun _ _ _ _ => trivial)⟩⟩ rfl rfl hl.1 rfl (lv_room (Nat.le_of_ble_eq_true rfl)) dX10_alive_28 ⟨Nat.le_of_ble_eq_true rfl, Nat.le_of_ble_eq_true rfl⟩) hS (fun q _ h => hFc q h) hFc (fun r_40 u t H1 locs ht hvm hw hB hz1 hk1 hS => ?_)
        subst hw
        obtain ⟨hr_40_0, hP, hK1, hD1⟩ := hB
        rw [ht] at hP
        have hD := hD1.weaken (fun k q _ h => hFc q.1 h)
        clear hz1 hk1 hFc hD1 hK1 hvm
        generalize H1 = H at hP hS ⊢
        have rg_r_40 := i_rng r_40
        have hP : va_P (dC, dI) vwCl (mW ad kc 2 x1 x2 x3 x4 x5 x6 x7 x8 x9 x10 x11 x12 x13 x14 x15 x16 x17 x18 x19 x20 x21 f0 f1 f2 f3 f4 f5 f6 f7 f8 f9 f10 f11 f12 f13 f14 f15 f16 f17 f18 f19 f20 f21 fL fN fP fM fO) H := hP
        have hD : va_D A (mW ad kc 2 x1 x2 x3 x4 x5 x6 x7 x8 x9 x10 x11 x12 x13 x14 x15 x16 x17 x18 x19 x20 x21 f0 f1 f2 f3 f4 f5 f6 f7 f8 f9 f10 f11 f12 f13 f14 f15 f16 f17 f18 f19 f20 f21 fL fN fP fM fO) := hD
        have lit_40 : (2 : Int32).toInt = 2 := by decide
        exact W.iret hx hb hr (fun t ht hW => ⟨⟨_, _, rfl, rfl, 2, x12, x13, x14, x15, x20, f3, f4, f5, f6, f7, f8, f12, f13, f14, f15, f16, f17, f18, by rw [ht]; exact hP, va_K.moved hW.alike hK, hD⟩, hS.F ht⟩) hS.2.2 dX10_alive_31
  · have tk_1 := c_nge (a := i3.toInt) (b := 0) rfl (by decide) k_1
    refine lv_aload_n hx hb dX10_alive_4 rfl (lv_at hl 0 rfl) ?_
    refine lv_iconst (v := 1) hx hb dX10_alive_5 (by decide) ?_
    have hFc := m_free hD hS hA
    refine va_calli (va_runV (As := [.int 1]) (rest := []) ⟨hx, hb, hml, hown, hts⟩ (m_refuse l dC dI ad kc x0 x1 x2 x3 x4 x5 x6 x7 x8 x9 x10 x11 x12 x13 x14 x15 x16 x17 x18 x19 x20 x21 f0 f1 f2 f3 f4 f5 f6 f7 f8 f9 f10 f11 f12 f13 f14 f15 f16 f17 f18 f19 f20 f21 fL fN fP fM fO H.size 1 ) (cwV 1 hts mg_X10_alivem_X10_refuse_204 rfl rfl rfl (by decide +kernel) ⟨Nat.le_of_ble_eq_true rfl, Nat.le_of_ble_eq_true rfl⟩) ⟨fun a U g mk q => by obtain ⟨q0, q1, qP, qK, qD⟩ := q; exact ⟨q0, q1, qP, va_K.moved (u := U) (U := U.calling g mk a) (Vm.Alike.refl U.vm) qK, qD⟩, va_recv hK hP (ci := 10) (q0 := 0) rfl rfl, fun U hU hW => ⟨rfl, by rw [hU], by rw [hU]; exact hP, va_K.moved hW.alike hK, hD.weaken (fun _ _ _ _ => trivial)⟩⟩ rfl rfl hl.1 rfl (lv_room (Nat.le_of_ble_eq_true rfl)) dX10_alive_6 ⟨Nat.le_of_ble_eq_true rfl, Nat.le_of_ble_eq_true rfl⟩) hS (fun q _ h => hFc q h) hFc (fun r_42 u t H1 locs ht hvm hw hB hz1 hk1 hS => ?_)
    subst hw
    obtain ⟨hr_42_0, hP, hK1, hD1⟩ := hB
    rw [ht] at hP
    have hD := hD1.weaken (fun k q _ h => hFc q.1 h)
    clear hz1 hk1 hFc hD1 hK1 hvm
    generalize H1 = H at hP hS ⊢
    have rg_r_42 := i_rng r_42
    have hP : va_P (dC, dI) vwCl (mW ad kc 1 x1 x2 x3 x4 x5 x6 x7 x8 x9 x10 x11 x12 x13 x14 x15 x16 x17 x18 x19 x20 x21 f0 f1 f2 f3 f4 f5 f6 f7 f8 f9 f10 f11 f12 f13 f14 f15 f16 f17 f18 f19 f20 f21 fL fN fP fM fO) H := hP
    have hD : va_D A (mW ad kc 1 x1 x2 x3 x4 x5 x6 x7 x8 x9 x10 x11 x12 x13 x14 x15 x16 x17 x18 x19 x20 x21 f0 f1 f2 f3 f4 f5 f6 f7 f8 f9 f10 f11 f12 f13 f14 f15 f16 f17 f18 f19 f20 f21 fL fN fP fM fO) := hD
    have lit_42 : (1 : Int32).toInt = 1 := by decide
    exact W.iret hx hb hr (fun t ht hW => ⟨⟨_, _, rfl, rfl, 1, x12, x13, x14, x15, x20, f3, f4, f5, f6, f7, f8, f12, f13, f14, f15, f16, f17, f18, by rw [ht]; exact hP, va_K.moved hW.alike hK, hD⟩, hS.F ht⟩) hS.2.2 dX10_alive_9
theorem dX10_rarest_0 : decode cX10_rarest 0 = .ok (.aload_n 0, 1) := by decide +kernel
theorem dX10_rarest_1 : decode cX10_rarest 1 = .ok (.iload_n 1, 1) := by decide +kernel
theorem dX10_rarest_2 : decode cX10_rarest 2 = .ok (.invokevirtual 458, 3) := by decide +kernel
theorem dX10_rarest_5 : decode cX10_rarest 5 = .ok (.ifCond .ne 9, 3) := by decide +kernel
theorem dX10_rarest_8 : decode cX10_rarest 8 = .ok (.aload_n 0, 1) := by decide +kernel
theorem dX10_rarest_9 : decode cX10_rarest 9 = .ok (.iconst 2, 1) := by decide +kernel
theorem dX10_rarest_10 : decode cX10_rarest 10 = .ok (.invokevirtual 204, 3) := by decide +kernel
theorem dX10_rarest_13 : decode cX10_rarest 13 = .ok (.ireturn, 1) := by decide +kernel
theorem dX10_rarest_14 : decode cX10_rarest 14 = .ok (.aload_n 0, 1) := by decide +kernel
theorem dX10_rarest_15 : decode cX10_rarest 15 = .ok (.iload_n 1, 1) := by decide +kernel
theorem dX10_rarest_16 : decode cX10_rarest 16 = .ok (.invokevirtual 420, 3) := by decide +kernel
theorem dX10_rarest_19 : decode cX10_rarest 19 = .ok (.aload_n 0, 1) := by decide +kernel
theorem dX10_rarest_20 : decode cX10_rarest 20 = .ok (.invokevirtual 461, 3) := by decide +kernel
theorem dX10_rarest_23 : decode cX10_rarest 23 = .ok (.ifCond .ne 9, 3) := by decide +kernel
theorem dX10_rarest_26 : decode cX10_rarest 26 = .ok (.aload_n 0, 1) := by decide +kernel
theorem dX10_rarest_27 : decode cX10_rarest 27 = .ok (.iconst 5, 1) := by decide +kernel
theorem dX10_rarest_28 : decode cX10_rarest 28 = .ok (.invokevirtual 204, 3) := by decide +kernel
theorem dX10_rarest_31 : decode cX10_rarest 31 = .ok (.ireturn, 1) := by decide +kernel
theorem dX10_rarest_32 : decode cX10_rarest 32 = .ok (.aload_n 0, 1) := by decide +kernel
theorem dX10_rarest_33 : decode cX10_rarest 33 = .ok (.getfield 98, 3) := by decide +kernel
theorem dX10_rarest_36 : decode cX10_rarest 36 = .ok (.iconst 1, 1) := by decide +kernel
theorem dX10_rarest_37 : decode cX10_rarest 37 = .ok (.iaload, 1) := by decide +kernel
theorem dX10_rarest_38 : decode cX10_rarest 38 = .ok (.istore_n 2, 1) := by decide +kernel
theorem dX10_rarest_39 : decode cX10_rarest 39 = .ok (.iconst 2, 1) := by decide +kernel
theorem dX10_rarest_40 : decode cX10_rarest 40 = .ok (.istore_n 3, 1) := by decide +kernel
theorem dX10_rarest_41 : decode cX10_rarest 41 = .ok (.iload_n 3, 1) := by decide +kernel
theorem dX10_rarest_42 : decode cX10_rarest 42 = .ok (.aload_n 0, 1) := by decide +kernel
theorem dX10_rarest_43 : decode cX10_rarest 43 = .ok (.getfield 98, 3) := by decide +kernel
theorem dX10_rarest_46 : decode cX10_rarest 46 = .ok (.iconst 0, 1) := by decide +kernel
theorem dX10_rarest_47 : decode cX10_rarest 47 = .ok (.iaload, 1) := by decide +kernel
theorem dX10_rarest_48 : decode cX10_rarest 48 = .ok (.if_icmp .gt 44, 3) := by decide +kernel
theorem dX10_rarest_51 : decode cX10_rarest 51 = .ok (.aload_n 0, 1) := by decide +kernel
theorem dX10_rarest_52 : decode cX10_rarest 52 = .ok (.aload_n 0, 1) := by decide +kernel
theorem dX10_rarest_53 : decode cX10_rarest 53 = .ok (.getfield 98, 3) := by decide +kernel
theorem dX10_rarest_56 : decode cX10_rarest 56 = .ok (.iload_n 3, 1) := by decide +kernel
theorem dX10_rarest_57 : decode cX10_rarest 57 = .ok (.iaload, 1) := by decide +kernel
theorem dX10_rarest_58 : decode cX10_rarest 58 = .ok (.invokevirtual 414, 3) := by decide +kernel
theorem dX10_rarest_61 : decode cX10_rarest 61 = .ok (.invokestatic 464, 3) := by decide +kernel
theorem dX10_rarest_64 : decode cX10_rarest 64 = .ok (.aload_n 0, 1) := by decide +kernel
theorem dX10_rarest_65 : decode cX10_rarest 65 = .ok (.iload_n 2, 1) := by decide +kernel
theorem dX10_rarest_66 : decode cX10_rarest 66 = .ok (.invokevirtual 414, 3) := by decide +kernel
theorem dX10_rarest_69 : decode cX10_rarest 69 = .ok (.invokestatic 464, 3) := by decide +kernel
theorem dX10_rarest_72 : decode cX10_rarest 72 = .ok (.if_icmp .ge 12, 3) := by decide +kernel
theorem dX10_rarest_75 : decode cX10_rarest 75 = .ok (.aload_n 0, 1) := by decide +kernel
theorem dX10_rarest_76 : decode cX10_rarest 76 = .ok (.getfield 98, 3) := by decide +kernel
theorem dX10_rarest_79 : decode cX10_rarest 79 = .ok (.iload_n 3, 1) := by decide +kernel
theorem dX10_rarest_80 : decode cX10_rarest 80 = .ok (.iaload, 1) := by decide +kernel
theorem dX10_rarest_81 : decode cX10_rarest 81 = .ok (.goto 4, 3) := by decide +kernel
theorem dX10_rarest_84 : decode cX10_rarest 84 = .ok (.iload_n 2, 1) := by decide +kernel
theorem dX10_rarest_85 : decode cX10_rarest 85 = .ok (.istore_n 2, 1) := by decide +kernel
theorem dX10_rarest_86 : decode cX10_rarest 86 = .ok (.iinc 3 1, 3) := by decide +kernel
theorem dX10_rarest_89 : decode cX10_rarest 89 = .ok (.goto (-48), 3) := by decide +kernel
theorem dX10_rarest_92 : decode cX10_rarest 92 = .ok (.aload_n 0, 1) := by decide +kernel
theorem dX10_rarest_93 : decode cX10_rarest 93 = .ok (.iload_n 2, 1) := by decide +kernel
theorem dX10_rarest_94 : decode cX10_rarest 94 = .ok (.invokevirtual 214, 3) := by decide +kernel
theorem dX10_rarest_97 : decode cX10_rarest 97 = .ok (.ireturn, 1) := by decide +kernel
def mwX10_rarestm : List Cond := .code yX10_rarest cX10_rarest 4 (some .int) :: (([.methodLink RX10 458 yX10_isPattern, .instanceMethod yX10_isPattern, .selects RX10 yX10_isPattern yX10_isPattern, .initialized RX10, .methodLink RX10 420 yX10_needsOf, .instanceMethod yX10_needsOf, .selects RX10 yX10_needsOf yX10_needsOf, .methodLink RX10 461 yX10_layTriples, .instanceMethod yX10_layTriples, .selects RX10 yX10_layTriples yX10_layTriples, .fieldLink RX10 98 "PatternGateModel" "triples" "[I", .methodLink RX10 214 yX10_gives, .instanceMethod yX10_gives, .selects RX10 yX10_gives yX10_gives, .methodLink RX10 414 yX10_listOf, .instanceMethod yX10_listOf, .selects RX10 yX10_listOf yX10_listOf, .methodLink RX10 464 yX10_ones, .static yX10_ones, .methodLink RX10 204 yX10_refuse, .instanceMethod yX10_refuse, .selects RX10 yX10_refuse yX10_refuse] : List Cond) ++ (wsX100 ++ (mwX10_isPatternm ++ (mwX10_needsOfm ++ (mwX10_layTriplesm ++ (mwX10_givesm ++ (mwX10_listOfm ++ (mwX10_onesm ++ (mwX10_refusem)))))))))
theorem fin_X10_rarestm_X10 : ∀ w ∈ wsX100, w ∈ mwX10_rarestm := fun w h => List.mem_cons_of_mem _ (List.mem_append_right _ (List.mem_append_left _ h))
set_option maxRecDepth 20000 in
theorem mg_X10_rarestm_X10_isPattern_458 : GoodIn mwX10_rarestm (wsV RX10 458 RX10 yX10_isPattern mwX10_isPatternm) := gi_app (A := [.methodLink RX10 458 yX10_isPattern, .instanceMethod yX10_isPattern, .selects RX10 yX10_isPattern yX10_isPattern, .initialized RX10]) (goodIn_r _ [1, 2, 3, 4] (by decide +kernel) (by decide +kernel)) (gi_sub gd_mwX10_isPatternm (fun w h => List.mem_cons_of_mem _ (List.mem_append_right _ (List.mem_append_right _ (List.mem_append_left _ h)))))
set_option maxRecDepth 20000 in
theorem mg_X10_rarestm_X10_needsOf_420 : GoodIn mwX10_rarestm (wsV RX10 420 RX10 yX10_needsOf mwX10_needsOfm) := gi_app (A := [.methodLink RX10 420 yX10_needsOf, .instanceMethod yX10_needsOf, .selects RX10 yX10_needsOf yX10_needsOf, .initialized RX10]) (goodIn_r _ [5, 6, 7, 4] (by decide +kernel) (by decide +kernel)) (gi_sub gd_mwX10_needsOfm (fun w h => List.mem_cons_of_mem _ (List.mem_append_right _ (List.mem_append_right _ (List.mem_append_right _ (List.mem_append_left _ h))))))
set_option maxRecDepth 20000 in
theorem mg_X10_rarestm_X10_layTriples_461 : GoodIn mwX10_rarestm (wsV RX10 461 RX10 yX10_layTriples mwX10_layTriplesm) := gi_app (A := [.methodLink RX10 461 yX10_layTriples, .instanceMethod yX10_layTriples, .selects RX10 yX10_layTriples yX10_layTriples, .initialized RX10]) (goodIn_r _ [8, 9, 10, 4] (by decide +kernel) (by decide +kernel)) (gi_sub gd_mwX10_layTriplesm (fun w h => List.mem_cons_of_mem _ (List.mem_append_right _ (List.mem_append_right _ (List.mem_append_right _ (List.mem_append_right _ (List.mem_append_left _ h)))))))
set_option maxRecDepth 20000 in
theorem mg_X10_rarestm_X10_gives_214 : GoodIn mwX10_rarestm (wsV RX10 214 RX10 yX10_gives mwX10_givesm) := gi_app (A := [.methodLink RX10 214 yX10_gives, .instanceMethod yX10_gives, .selects RX10 yX10_gives yX10_gives, .initialized RX10]) (goodIn_r _ [12, 13, 14, 4] (by decide +kernel) (by decide +kernel)) (gi_sub gd_mwX10_givesm (fun w h => List.mem_cons_of_mem _ (List.mem_append_right _ (List.mem_append_right _ (List.mem_append_right _ (List.mem_append_right _ (List.mem_append_right _ (List.mem_append_left _ h))))))))
set_option maxRecDepth 20000 in
theorem mg_X10_rarestm_X10_listOf_414 : GoodIn mwX10_rarestm (wsV RX10 414 RX10 yX10_listOf mwX10_listOfm) := gi_app (A := [.methodLink RX10 414 yX10_listOf, .instanceMethod yX10_listOf, .selects RX10 yX10_listOf yX10_listOf, .initialized RX10]) (goodIn_r _ [15, 16, 17, 4] (by decide +kernel) (by decide +kernel)) (gi_sub gd_mwX10_listOfm (fun w h => List.mem_cons_of_mem _ (List.mem_append_right _ (List.mem_append_right _ (List.mem_append_right _ (List.mem_append_right _ (List.mem_append_right _ (List.mem_append_right _ (List.mem_append_left _ h)))))))))
set_option maxRecDepth 20000 in
theorem mg_X10_rarestm_X10_ones_464 : GoodIn mwX10_rarestm (va_wsS RX10 464 yX10_ones mwX10_onesm) := gi_app (A := [.methodLink RX10 464 yX10_ones, .static yX10_ones, .initialized RX10]) (goodIn_r _ [18, 19, 4] (by decide +kernel) (by decide +kernel)) (gi_sub gd_mwX10_onesm (fun w h => List.mem_cons_of_mem _ (List.mem_append_right _ (List.mem_append_right _ (List.mem_append_right _ (List.mem_append_right _ (List.mem_append_right _ (List.mem_append_right _ (List.mem_append_right _ (List.mem_append_left _ h))))))))))
set_option maxRecDepth 20000 in
theorem mg_X10_rarestm_X10_refuse_204 : GoodIn mwX10_rarestm (wsV RX10 204 RX10 yX10_refuse mwX10_refusem) := gi_app (A := [.methodLink RX10 204 yX10_refuse, .instanceMethod yX10_refuse, .selects RX10 yX10_refuse yX10_refuse, .initialized RX10]) (goodIn_r _ [20, 21, 22, 4] (by decide +kernel) (by decide +kernel)) (gi_sub gd_mwX10_refusem (fun w h => List.mem_cons_of_mem _ (List.mem_append_right _ (List.mem_append_right _ (List.mem_append_right _ (List.mem_append_right _ (List.mem_append_right _ (List.mem_append_right _ (List.mem_append_right _ (List.mem_append_right _ (h)))))))))))
set_option maxHeartbeats 4000000 in
set_option maxRecDepth 100000 in
theorem m_rarest (l : Launch) (dC : Nat → ClassId) (dI : Nat → Nat → Nat) (ad : Nat → Nat) (kc : Nat → ClassId) (x0 x1 x2 x3 x4 x5 x6 x7 x8 x9 x10 x11 x12 x13 x14 x15 x16 x17 x18 x19 x20 x21 : Int32) (f0 f1 f2 f3 f4 f5 f6 f7 f8 f9 f10 f11 f12 f13 f14 f15 f16 f17 f18 f19 f20 f21 : Nat → Int32) (fL : Nat → Nat → Int64) (fN : Nat → Nat → Int32) (fP : Nat → Nat → Nat) (fM : Nat → Nat → Int32) (fO : Nat → Nat → Int32) (sz : Nat) (i1 : Int32) (q0 : mI x1.toInt x2.toInt x3.toInt f0 fP) : Met l yX10_rarest mwX10_rarestm ({ frames := 42, cells := 0, slots := 0, locals := 2520 }) (va_Pc [.ref (ad 0), .int i1] (fun U => U.heap.size = sz ∧ va_P (dC, dI) vwCl (mW ad kc x0 x1 x2 x3 x4 x5 x6 x7 x8 x9 x10 x11 x12 x13 x14 x15 x16 x17 x18 x19 x20 x21 f0 f1 f2 f3 f4 f5 f6 f7 f8 f9 f10 f11 f12 f13 f14 f15 f16 f17 f18 f19 f20 f21 fL fN fP fM fO) U.heap ∧ va_K (dC, dI) vwCl (mT kc) U ∧ va_D (fun _ => True) (mW ad kc x0 x1 x2 x3 x4 x5 x6 x7 x8 x9 x10 x11 x12 x13 x14 x15 x16 x17 x18 x19 x20 x21 f0 f1 f2 f3 f4 f5 f6 f7 f8 f9 f10 f11 f12 f13 f14 f15 f16 f17 f18 f19 f20 f21 fL fN fP fM fO) ∧ (Cond.arrayOver (.array .int)).before #[] U = true)) (va_Qi (fun (o9 u9 : Int32) => o9 = u9) (fun (o9 : Int32) t => ∃ (y0 y12 y13 y14 y15 y16 y17 y18 y19 : Int32) (g3 g4 g5 g6 g7 g8 g9 g10 g11 g21 : Nat → Int32) (L9 : Nat → Nat → Int64) (Nn9 : Nat → Nat → Int32) (P9 : Nat → Nat → Nat) (M9 : Nat → Nat → Int32) (O9 : Nat → Nat → Int32), (PI P9) ∧ va_P (dC, dI) vwCl (mW ad kc y0 x1 x2 x3 x4 x5 x6 x7 x8 x9 x10 x11 y12 y13 y14 y15 y16 y17 y18 y19 x20 x21 f0 f1 f2 g3 g4 g5 g6 g7 g8 g9 g10 g11 f12 f13 f14 f15 f16 f17 f18 f19 f20 g21 L9 Nn9 P9 M9 O9) t.heap ∧ va_K (dC, dI) vwCl (mT kc) t ∧ va_D (va_A (mW ad kc x0 x1 x2 x3 x4 x5 x6 x7 x8 x9 x10 x11 x12 x13 x14 x15 x16 x17 x18 x19 x20 x21 f0 f1 f2 f3 f4 f5 f6 f7 f8 f9 f10 f11 f12 f13 f14 f15 f16 f17 f18 f19 f20 f21 fL fN fP fM fO) sz) (mW ad kc y0 x1 x2 x3 x4 x5 x6 x7 x8 x9 x10 x11 y12 y13 y14 y15 y16 y17 y18 y19 x20 x21 f0 f1 f2 g3 g4 g5 g6 g7 g8 g9 g10 g11 f12 f13 f14 f15 f16 f17 f18 f19 f20 g21 L9 Nn9 P9 M9 O9)) (va_A (mW ad kc x0 x1 x2 x3 x4 x5 x6 x7 x8 x9 x10 x11 x12 x13 x14 x15 x16 x17 x18 x19 x20 x21 f0 f1 f2 f3 f4 f5 f6 f7 f8 f9 f10 f11 f12 f13 f14 f15 f16 f17 f18 f19 f20 f21 fL fN fP fM fO) sz)) 0 0 (va_A (mW ad kc x0 x1 x2 x3 x4 x5 x6 x7 x8 x9 x10 x11 x12 x13 x14 x15 x16 x17 x18 x19 x20 x21 f0 f1 f2 f3 f4 f5 f6 f7 f8 f9 f10 f11 f12 f13 f14 f15 f16 f17 f18 f19 f20 f21 fL fN fP fM fO) sz) := by
  refine Met.ofW (cc := cX10_rarest) (maxL := 4) (ret := (some .int)) (by decide +kernel) rfl ?_
  intro p e s m args below meth c s₁ B hml hv
  obtain ⟨rfl, hsz, hP, hK, hD0, hOV⟩ := hv
  have hx := B.exec
  have hb := B.bytes
  have hr := B.returns
  have hts := atoms_spec (ws := mwX10_rarestm) B.pre
  have hown : s.vm.findClass RX10 = some m.cls := findClass_of_methodNamed B.named
  have hlocks := B.notSynchronized
  subst hsz
  have hD := hD0.self (sz := s.heap.size)
  generalize hAe : va_A (mW ad kc x0 x1 x2 x3 x4 x5 x6 x7 x8 x9 x10 x11 x12 x13 x14 x15 x16 x17 x18 x19 x20 x21 f0 f1 f2 f3 f4 f5 f6 f7 f8 f9 f10 f11 f12 f13 f14 f15 f16 f17 f18 f19 f20 f21 fL fN fP fM fO) s.heap.size = A at hD ⊢
  have hA : ∀ q : Nat, s.heap.size ≤ q → A q := fun q h => by rw [← hAe]; exact Or.inr h
  have hP : va_P (dC, dI) vwCl (mW ad kc x0 x1 x2 x3 x4 x5 x6 x7 x8 x9 x10 x11 x12 x13 x14 x15 x16 x17 x18 x19 x20 x21 f0 f1 f2 f3 f4 f5 f6 f7 f8 f9 f10 f11 f12 f13 f14 f15 f16 f17 f18 f19 f20 f21 fL fN fP fM fO) s.heap := hP
  have hD : va_D A (mW ad kc x0 x1 x2 x3 x4 x5 x6 x7 x8 x9 x10 x11 x12 x13 x14 x15 x16 x17 x18 x19 x20 x21 f0 f1 f2 f3 f4 f5 f6 f7 f8 f9 f10 f11 f12 f13 f14 f15 f16 f17 f18 f19 f20 f21 fL fN fP fM fO) := hD
  have hK : va_K (dC, dI) vwCl (mT kc) s := hK
  generalize hH : s.heap = H at hP ⊢
  have hS : va_S A s.heap H [] := by rw [← hH]; exact va_S.rf
  have hl := lv_entry ([.ref (ad 0), .int i1]) (n := 4) (Nat.le_of_ble_eq_true rfl)
  rw [lg_entry_eq]
  generalize (lg_sl ([.ref (ad 0), .int i1]) ++ List.replicate (4 - (lg_sl ([.ref (ad 0), .int i1])).length) Slot.unset).toArray = ls at hl ⊢
  have hl : lv_has ls 4 [(0, .ref (ad 0)), (1, .int i1)] := hl
  have rg_i1 := i_rng i1
  have hd := q0.d
  have hpi := q0.p
  have hq1 := q0.1
  have hq2 := q0.2.1
  have hq3 := q0.2.2.1
  have hd10 := hd.n0
  have hp8 := hd.P0
  refine lv_aload_n hx hb dX10_rarest_0 rfl (lv_at hl 0 rfl) ?_
  refine lv_iload_n hx hb dX10_rarest_1 rfl (lv_at hl 1 rfl) ?_
  refine vp_callSi (W.runV (As := [.int i1]) (rest := []) ⟨hx, hb, hml, hown, hts⟩ (m_isPattern l dC dI ad kc x0 x1 x2 x3 x4 x5 x6 x7 x8 x9 x10 x11 x12 x13 x14 x15 x16 x17 x18 x19 x20 x21 f0 f1 f2 f3 f4 f5 f6 f7 f8 f9 f10 f11 f12 f13 f14 f15 f16 f17 f18 f19 f20 f21 fL fN fP fM fO i1 ) (cwV 1 hts mg_X10_rarestm_X10_isPattern_458 rfl rfl rfl (by decide +kernel) ⟨Nat.le_of_ble_eq_true rfl, Nat.le_of_ble_eq_true rfl⟩) ⟨fun a U g mk q => by obtain ⟨q0, qP, qK⟩ := q; exact ⟨q0, qP, va_K.moved (u := U) (U := U.calling g mk a) (Vm.Alike.refl U.vm) qK⟩, va_recv hK hP (ci := 10) (q0 := 0) rfl rfl, fun U hU hW => ⟨rfl, by rw [hU]; exact hP, va_K.moved hW.alike hK⟩⟩ rfl rfl hl.1 rfl (lv_room (Nat.le_of_ble_eq_true rfl)) dX10_rarest_2 ⟨Nat.le_of_ble_eq_true rfl, Nat.le_of_ble_eq_true rfl⟩) (fun r_1 hr_1 => ?_)
  have rg_r_1 := i_rng r_1
  refine lv_if_ne (tgt := 14) hx hb dX10_rarest_5 (by decide) (fun k_2 => ?_) (fun k_2 => ?_)
  · have tk_2 := c_ne (a := r_1.toInt) (b := 0) rfl (by decide) k_2
    refine lv_aload_n hx hb dX10_rarest_14 rfl (lv_at hl 0 rfl) ?_
    refine lv_iload_n hx hb dX10_rarest_15 rfl (lv_at hl 1 rfl) ?_
    have hFc := m_free hD hS hA
    refine va_callv (va_runV (As := [.int i1]) (rest := []) ⟨hx, hb, hml, hown, hts⟩ (m_needsOf l dC dI ad kc x0 x1 x2 x3 x4 x5 x6 x7 x8 x9 x10 x11 x12 x13 x14 x15 x16 x17 x18 x19 x20 x21 f0 f1 f2 f3 f4 f5 f6 f7 f8 f9 f10 f11 f12 f13 f14 f15 f16 f17 f18 f19 f20 f21 fL fN fP fM fO H.size i1 (by first | omega | assumption | decide | (have l0 := Int32.toInt_zero; omega)) (by first | omega | assumption | decide | (have l0 := Int32.toInt_zero; omega)) (by first | omega | assumption | decide | (have l0 := Int32.toInt_zero; omega))) (cwV 1 hts mg_X10_rarestm_X10_needsOf_420 rfl rfl rfl (by decide +kernel) ⟨Nat.le_of_ble_eq_true rfl, Nat.le_of_ble_eq_true rfl⟩) ⟨fun a U g mk q => by obtain ⟨q0, q1, qP, qK, qD, qE⟩ := q; exact ⟨q0, q1, qP, va_K.moved (u := U) (U := U.calling g mk a) (Vm.Alike.refl U.vm) qK, qD, over_moved (u := U) (E := U.calling g mk a) (Vm.Alike.refl U.vm) qE⟩, va_recv hK hP (ci := 10) (q0 := 0) rfl rfl, fun U hU hW => ⟨rfl, by rw [hU], by rw [hU]; exact hP, va_K.moved hW.alike hK, hD.weaken (fun _ _ _ _ => trivial), over_moved hW.alike hOV⟩⟩ rfl rfl hl.1 rfl (lv_room (Nat.le_of_ble_eq_true rfl)) dX10_rarest_16 ⟨Nat.le_of_ble_eq_true rfl, Nat.le_of_ble_eq_true rfl⟩) hS (fun q _ h => hFc q h) hFc (fun u t H1 locs ht hvm hw hB hz1 hk1 hS => ?_)
    obtain ⟨x_4, x_5, x_6, x_7, x_8, x_9, x_10, x_11, f_12, f_13, f_14, f_15, f_16, f_17, f_18, f_19, f_20, L_21, Nn_22, P_23, M_24, O_25, hr_3_0, hr_3_1, hr_3_2, hr_3_3, hr_3_4, hP, hK1, hD1⟩ := hB
    rw [ht] at hP
    have hD := hD1.weaken (fun k q _ h => hFc q.1 h)
    clear hz1 hk1 hFc hD1 hK1 hvm
    generalize H1 = H at hP hS ⊢
    have rg_x_4 := i_rng x_4
    have rg_x_5 := i_rng x_5
    have rg_x_6 := i_rng x_6
    have rg_x_7 := i_rng x_7
    have rg_x_8 := i_rng x_8
    have rg_x_9 := i_rng x_9
    have rg_x_10 := i_rng x_10
    have rg_x_11 := i_rng x_11
    have hP : va_P (dC, dI) vwCl (mW ad kc x0 x1 x2 x3 x4 x5 x6 x7 x8 x9 x10 x11 x_4 x_5 x_6 x_7 x_8 x_9 x_10 x_11 x20 x21 f0 f1 f2 f_12 f_13 f_14 f_15 f_16 f_17 f_18 f_19 f_20 f12 f13 f14 f15 f16 f17 f18 f19 f20 f21 L_21 Nn_22 P_23 M_24 O_25) H := hP
    have hD : va_D A (mW ad kc x0 x1 x2 x3 x4 x5 x6 x7 x8 x9 x10 x11 x_4 x_5 x_6 x_7 x_8 x_9 x_10 x_11 x20 x21 f0 f1 f2 f_12 f_13 f_14 f_15 f_16 f_17 f_18 f_19 f_20 f12 f13 f14 f15 f16 f17 f18 f19 f20 f21 L_21 Nn_22 P_23 M_24 O_25) := hD
    have hPI9 := hr_3_0
    have hN9 := hr_3_1
    have hN9a := hN9.2.1
    have hN9b := hN9.1
    have hEx9 := hr_3_2
    refine lv_aload_n hx hb dX10_rarest_19 rfl (lv_at hl 0 rfl) ?_
    have hFc := m_free hD hS hA
    refine va_calli (va_runV (As := []) (rest := []) ⟨hx, hb, hml, hown, hts⟩ (m_layTriples l dC dI ad kc x0 x1 x2 x3 x4 x5 x6 x7 x8 x9 x10 x11 x_4 x_5 x_6 x_7 x_8 x_9 x_10 x_11 x20 x21 f0 f1 f2 f_12 f_13 f_14 f_15 f_16 f_17 f_18 f_19 f_20 f12 f13 f14 f15 f16 f17 f18 f19 f20 f21 L_21 Nn_22 P_23 M_24 O_25 H.size (by first | omega | assumption | decide | (have l0 := Int32.toInt_zero; omega)) (by first | omega | assumption | decide | (have l0 := Int32.toInt_zero; omega))) (cwV 0 hts mg_X10_rarestm_X10_layTriples_461 rfl rfl rfl (by decide +kernel) ⟨Nat.le_of_ble_eq_true rfl, Nat.le_of_ble_eq_true rfl⟩) ⟨fun a U g mk q => by obtain ⟨q0, q1, qP, qK, qD⟩ := q; exact ⟨q0, q1, qP, va_K.moved (u := U) (U := U.calling g mk a) (Vm.Alike.refl U.vm) qK, qD⟩, va_recv hK hP (ci := 10) (q0 := 0) rfl rfl, fun U hU hW => ⟨rfl, by rw [hU], by rw [hU]; exact hP, va_K.moved hW.alike hK, hD.weaken (fun _ _ _ _ => trivial)⟩⟩ rfl rfl hl.1 rfl (lv_room (Nat.le_of_ble_eq_true rfl)) dX10_rarest_20 ⟨Nat.le_of_ble_eq_true rfl, Nat.le_of_ble_eq_true rfl⟩) hS (fun q _ h => hFc q h) hFc (fun r_26 u t H1 locs ht hvm hw hB hz1 hk1 hS => ?_)
    subst hw
    obtain ⟨f_27, hr_26_0, hr_26_1, hP, hK1, hD1⟩ := hB
    rw [ht] at hP
    have hD := hD1.weaken (fun k q _ h => hFc q.1 h)
    clear hz1 hk1 hFc hD1 hK1 hvm
    generalize H1 = H at hP hS ⊢
    have rg_r_26 := i_rng r_26
    have hP : va_P (dC, dI) vwCl (mW ad kc x0 x1 x2 x3 x4 x5 x6 x7 x8 x9 x10 x11 x_4 x_5 x_6 x_7 x_8 x_9 x_10 x_11 x20 x21 f0 f1 f2 f_12 f_13 f_14 f_15 f_16 f_17 f_18 f_19 f_20 f12 f13 f14 f15 f16 f17 f18 f19 f20 f_27 L_21 Nn_22 P_23 M_24 O_25) H := hP
    have hD : va_D A (mW ad kc x0 x1 x2 x3 x4 x5 x6 x7 x8 x9 x10 x11 x_4 x_5 x_6 x_7 x_8 x_9 x_10 x_11 x20 x21 f0 f1 f2 f_12 f_13 f_14 f_15 f_16 f_17 f_18 f_19 f_20 f12 f13 f14 f15 f16 f17 f18 f19 f20 f_27 L_21 Nn_22 P_23 M_24 O_25) := hD
    have hlt0 := hr_26_0
    have hlt1 := hr_26_1
    refine lv_if_ne (tgt := 32) hx hb dX10_rarest_23 (by decide) (fun k_28 => ?_) (fun k_28 => ?_)
    · have tk_28 := c_ne (a := r_26.toInt) (b := 0) rfl (by decide) k_28
      refine lv_aload_n hx hb dX10_rarest_32 rfl (lv_at hl 0 rfl) ?_
      refine va_get (D := (dC, dI)) (ci := 10) (v := .ref (ad 22)) (C := RX10) (T := TX10) (N := 48) hx hb hts fin_X10_rarestm_X10 hown hK hP 0 rfl rfl 46 (by decide) (hts (.fieldLink RX10 98 "PatternGateModel" "triples" "[I") (List.mem_of_getElem? (i := 11) (by decide +kernel))) (fun _ h9 => h9) rfl dX10_rarest_33 ?_
      refine lv_iconst (v := 1) hx hb dX10_rarest_36 (by decide) ?_
      refine va_iald hx hb hK hP 22 21 rfl rfl (i := 1) (by unfold vp_in; decide +kernel) dX10_rarest_37 ?_
      refine lv_topi (fun y_29 ey_29 => ?_)
      have rg_y_29 := i_rng y_29
      have vy_29 := vI_lda (f := f_27) (i := 1) (a := 1) ey_29 (by first | omega | decide)
      have rg_y_29 := i_rng y_29
      refine lv_istore_n (lv' := [(2, .int y_29), (0, .ref (ad 0)), (1, .int i1)]) hx hb dX10_rarest_38 rfl hl (by decide) rfl (fun ls hl => ?_)
      refine lv_iconst (v := 2) hx hb dX10_rarest_39 (by decide) ?_
      refine lv_istore_n (lv' := [(3, .int 2), (2, .int y_29), (0, .ref (ad 0)), (1, .int i1)]) hx hb dX10_rarest_40 rfl hl (by decide) rfl (fun ls hl => ?_)
      have loop41 : ∀ (lm41 : Nat) (be kk : Int32), (2 ≤ kk.toInt ∧ kk.toInt ≤ 1300) → ((1300 - kk.toInt).toNat) < lm41 → ∀ (H : Heap) (locs : List Loc) (ls : Array Slot), va_P (dC, dI) vwCl (mW ad kc x0 x1 x2 x3 x4 x5 x6 x7 x8 x9 x10 x11 x_4 x_5 x_6 x_7 x_8 x_9 x_10 x_11 x20 x21 f0 f1 f2 f_12 f_13 f_14 f_15 f_16 f_17 f_18 f_19 f_20 f12 f13 f14 f15 f16 f17 f18 f19 f20 f_27 L_21 Nn_22 P_23 M_24 O_25) H → va_D A (mW ad kc x0 x1 x2 x3 x4 x5 x6 x7 x8 x9 x10 x11 x_4 x_5 x_6 x_7 x_8 x_9 x_10 x_11 x20 x21 f0 f1 f2 f_12 f_13 f_14 f_15 f_16 f_17 f_18 f_19 f_20 f12 f13 f14 f15 f16 f17 f18 f19 f20 f_27 L_21 Nn_22 P_23 M_24 O_25) → va_S A s.heap H locs → lv_has ls 4 [(3, .int kk), (2, .int be), (0, .ref (ad 0)), (1, .int i1)] → W p l e (headSpec mwX10_rarestm ({ frames := 42, cells := 0, slots := 0, locals := 2520 })).room s m ([.ref (ad 0), .int i1]).toArray below meth c H locs 0 0 (MQ below (va_Qi (fun (o9 u9 : Int32) => o9 = u9) (fun (o9 : Int32) t => ∃ (y0 y12 y13 y14 y15 y16 y17 y18 y19 : Int32) (g3 g4 g5 g6 g7 g8 g9 g10 g11 g21 : Nat → Int32) (L9 : Nat → Nat → Int64) (Nn9 : Nat → Nat → Int32) (P9 : Nat → Nat → Nat) (M9 : Nat → Nat → Int32) (O9 : Nat → Nat → Int32), (PI P9) ∧ va_P (dC, dI) vwCl (mW ad kc y0 x1 x2 x3 x4 x5 x6 x7 x8 x9 x10 x11 y12 y13 y14 y15 y16 y17 y18 y19 x20 x21 f0 f1 f2 g3 g4 g5 g6 g7 g8 g9 g10 g11 f12 f13 f14 f15 f16 f17 f18 f19 f20 g21 L9 Nn9 P9 M9 O9) t.heap ∧ va_K (dC, dI) vwCl (mT kc) t ∧ va_D A (mW ad kc y0 x1 x2 x3 x4 x5 x6 x7 x8 x9 x10 x11 y12 y13 y14 y15 y16 y17 y18 y19 x20 x21 f0 f1 f2 g3 g4 g5 g6 g7 g8 g9 g10 g11 f12 f13 f14 f15 f16 f17 f18 f19 f20 g21 L9 Nn9 P9 M9 O9)) A) ([.ref (ad 0), .int i1]).toArray s 0 0 A) (F0 m 41 ls []) := by
        intro lm41
        induction lm41 with
        | zero => intro be kk v41_0 hm41; exact absurd hm41 (Nat.not_lt_zero _)
        | succ lm41 ih41 =>
          intro be kk v41_0 hm41 H locs ls hP hD hS hl
          have rg_be := i_rng be
          have rg_kk := i_rng kk
          refine lv_iload_n hx hb dX10_rarest_41 rfl (lv_at hl 0 rfl) ?_
          refine lv_aload_n hx hb dX10_rarest_42 rfl (lv_at hl 2 rfl) ?_
          refine va_get (D := (dC, dI)) (ci := 10) (v := .ref (ad 22)) (C := RX10) (T := TX10) (N := 48) hx hb hts fin_X10_rarestm_X10 hown hK hP 0 rfl rfl 46 (by decide) (hts (.fieldLink RX10 98 "PatternGateModel" "triples" "[I") (List.mem_of_getElem? (i := 11) (by decide +kernel))) (fun _ h9 => h9) rfl dX10_rarest_43 ?_
          refine lv_iconst (v := 0) hx hb dX10_rarest_46 (by decide) ?_
          refine va_iald hx hb hK hP 22 21 rfl rfl (i := 0) (by unfold vp_in; decide +kernel) dX10_rarest_47 ?_
          refine lv_topi (fun y_30 ey_30 => ?_)
          have rg_y_30 := i_rng y_30
          have vy_30 := vI_lda (f := f_27) (i := 0) (a := 0) ey_30 (by first | omega | decide)
          have rg_y_30 := i_rng y_30
          refine lv_icmp_gt (tgt := 92) hx hb dX10_rarest_48 (by decide) (fun k_31 => ?_) (fun k_31 => ?_)
          · have tk_31 := c_gt (a := kk.toInt) (b := y_30.toInt) rfl rfl k_31
            refine lv_aload_n hx hb dX10_rarest_92 rfl (lv_at hl 2 rfl) ?_
            refine lv_iload_n hx hb dX10_rarest_93 rfl (lv_at hl 1 rfl) ?_
            have hFc := m_free hD hS hA
            refine va_calli (va_runV (As := [.int be]) (rest := []) ⟨hx, hb, hml, hown, hts⟩ (m_gives l dC dI ad kc x0 x1 x2 x3 x4 x5 x6 x7 x8 x9 x10 x11 x_4 x_5 x_6 x_7 x_8 x_9 x_10 x_11 x20 x21 f0 f1 f2 f_12 f_13 f_14 f_15 f_16 f_17 f_18 f_19 f_20 f12 f13 f14 f15 f16 f17 f18 f19 f20 f_27 L_21 Nn_22 P_23 M_24 O_25 H.size be ) (cwV 1 hts mg_X10_rarestm_X10_gives_214 rfl rfl rfl (by decide +kernel) ⟨Nat.le_of_ble_eq_true rfl, Nat.le_of_ble_eq_true rfl⟩) ⟨fun a U g mk q => by obtain ⟨q0, q1, qP, qK, qD⟩ := q; exact ⟨q0, q1, qP, va_K.moved (u := U) (U := U.calling g mk a) (Vm.Alike.refl U.vm) qK, qD⟩, va_recv hK hP (ci := 10) (q0 := 0) rfl rfl, fun U hU hW => ⟨rfl, by rw [hU], by rw [hU]; exact hP, va_K.moved hW.alike hK, hD.weaken (fun _ _ _ _ => trivial)⟩⟩ rfl rfl hl.1 rfl (lv_room (Nat.le_of_ble_eq_true rfl)) dX10_rarest_94 ⟨Nat.le_of_ble_eq_true rfl, Nat.le_of_ble_eq_true rfl⟩) hS (fun q _ h => hFc q h) hFc (fun r_32 u t H1 locs ht hvm hw hB hz1 hk1 hS => ?_)
            subst hw
            obtain ⟨hr_32_0, hP, hK1, hD1⟩ := hB
            rw [ht] at hP
            have hD := hD1.weaken (fun k q _ h => hFc q.1 h)
            clear hz1 hk1 hFc hD1 hK1 hvm
            generalize H1 = H at hP hS ⊢
            have rg_r_32 := i_rng r_32
            have hP : va_P (dC, dI) vwCl (mW ad kc 0 x1 x2 x3 x4 x5 x6 x7 x8 x9 x10 x11 x_4 x_5 x_6 x_7 x_8 x_9 x_10 x_11 x20 x21 f0 f1 f2 f_12 f_13 f_14 f_15 f_16 f_17 f_18 f_19 f_20 f12 f13 f14 f15 f16 f17 f18 f19 f20 f_27 L_21 Nn_22 P_23 M_24 O_25) H := hP
            have hD : va_D A (mW ad kc 0 x1 x2 x3 x4 x5 x6 x7 x8 x9 x10 x11 x_4 x_5 x_6 x_7 x_8 x_9 x_10 x_11 x20 x21 f0 f1 f2 f_12 f_13 f_14 f_15 f_16 f_17 f_18 f_19 f_20 f12 f13 f14 f15 f16 f17 f18 f19 f20 f_27 L_21 Nn_22 P_23 M_24 O_25) := hD
            have lit_32 : (0 : Int32).toInt = 0 := by decide
            exact W.iret hx hb hr (fun t ht hW => ⟨⟨_, _, rfl, rfl, 0, x_4, x_5, x_6, x_7, x_8, x_9, x_10, x_11, f_12, f_13, f_14, f_15, f_16, f_17, f_18, f_19, f_20, f_27, L_21, Nn_22, P_23, M_24, O_25, hPI9, by rw [ht]; exact hP, va_K.moved hW.alike hK, hD⟩, hS.F ht⟩) hS.2.2 dX10_rarest_97
          · have tk_31 := c_ngt (a := kk.toInt) (b := y_30.toInt) rfl rfl k_31
            refine lv_aload_n hx hb dX10_rarest_51 rfl (lv_at hl 2 rfl) ?_
            refine lv_aload_n hx hb dX10_rarest_52 rfl (lv_at hl 2 rfl) ?_
            refine va_get (D := (dC, dI)) (ci := 10) (v := .ref (ad 22)) (C := RX10) (T := TX10) (N := 48) hx hb hts fin_X10_rarestm_X10 hown hK hP 0 rfl rfl 46 (by decide) (hts (.fieldLink RX10 98 "PatternGateModel" "triples" "[I") (List.mem_of_getElem? (i := 11) (by decide +kernel))) (fun _ h9 => h9) rfl dX10_rarest_53 ?_
            refine lv_iload_n hx hb dX10_rarest_56 rfl (lv_at hl 0 rfl) ?_
            refine va_iald hx hb hK hP 22 21 rfl rfl (i := kk) (vp_of (a := kk.toInt) rfl (by omega) (by omega)) dX10_rarest_57 ?_
            refine lv_topi (fun y_34 ey_34 => ?_)
            have rg_y_34 := i_rng y_34
            have vy_34 := vI_lda (f := f_27) (i := kk) (a := kk.toInt) ey_34 (by first | omega | decide)
            have rg_y_34 := i_rng y_34
            have hFc := m_free hD hS hA
            refine va_calli (va_runV (As := [.int y_34]) (rest := []) ⟨hx, hb, hml, hown, hts⟩ (m_listOf l dC dI ad kc x0 x1 x2 x3 x4 x5 x6 x7 x8 x9 x10 x11 x_4 x_5 x_6 x_7 x_8 x_9 x_10 x_11 x20 x21 f0 f1 f2 f_12 f_13 f_14 f_15 f_16 f_17 f_18 f_19 f_20 f12 f13 f14 f15 f16 f17 f18 f19 f20 f_27 L_21 Nn_22 P_23 M_24 O_25 H.size y_34 (by first | omega | assumption | decide | (have l0 := Int32.toInt_zero; omega))) (cwV 1 hts mg_X10_rarestm_X10_listOf_414 rfl rfl rfl (by decide +kernel) ⟨Nat.le_of_ble_eq_true rfl, Nat.le_of_ble_eq_true rfl⟩) ⟨fun a U g mk q => by obtain ⟨q0, q1, qP, qK, qD⟩ := q; exact ⟨q0, q1, qP, va_K.moved (u := U) (U := U.calling g mk a) (Vm.Alike.refl U.vm) qK, qD⟩, va_recv hK hP (ci := 10) (q0 := 0) rfl rfl, fun U hU hW => ⟨rfl, by rw [hU], by rw [hU]; exact hP, va_K.moved hW.alike hK, hD.weaken (fun _ _ _ _ => trivial)⟩⟩ rfl rfl hl.1 rfl (lv_room (Nat.le_of_ble_eq_true rfl)) dX10_rarest_58 ⟨Nat.le_of_ble_eq_true rfl, Nat.le_of_ble_eq_true rfl⟩) hS (fun q _ h => hFc q h) hFc (fun r_35 u t H1 locs ht hvm hw hB hz1 hk1 hS => ?_)
            subst hw
            obtain ⟨hP, hK1, hD1⟩ := hB
            rw [ht] at hP
            have hD := hD1.weaken (fun k q _ h => hFc q.1 h)
            clear hz1 hk1 hFc hD1 hK1 hvm
            generalize H1 = H at hP hS ⊢
            have rg_r_35 := i_rng r_35
            have hP : va_P (dC, dI) vwCl (mW ad kc x0 x1 x2 x3 x4 x5 x6 x7 x8 x9 x10 x11 x_4 x_5 x_6 x_7 x_8 x_9 x_10 x_11 x20 x21 f0 f1 f2 f_12 f_13 f_14 f_15 f_16 f_17 f_18 f_19 f_20 f12 f13 f14 f15 f16 f17 f18 f19 f20 f_27 L_21 Nn_22 P_23 M_24 O_25) H := hP
            have hD : va_D A (mW ad kc x0 x1 x2 x3 x4 x5 x6 x7 x8 x9 x10 x11 x_4 x_5 x_6 x_7 x_8 x_9 x_10 x_11 x20 x21 f0 f1 f2 f_12 f_13 f_14 f_15 f_16 f_17 f_18 f_19 f_20 f12 f13 f14 f15 f16 f17 f18 f19 f20 f_27 L_21 Nn_22 P_23 M_24 O_25) := hD
            have hFc := m_free hD hS hA
            refine va_calli (va_runS (As := [.int r_35]) (rest := []) ⟨hx, hb, hml, hown, hts⟩ (m_ones l dC dI ad kc x0 x1 x2 x3 x4 x5 x6 x7 x8 x9 x10 x11 x_4 x_5 x_6 x_7 x_8 x_9 x_10 x_11 x20 x21 f0 f1 f2 f_12 f_13 f_14 f_15 f_16 f_17 f_18 f_19 f_20 f12 f13 f14 f15 f16 f17 f18 f19 f20 f_27 L_21 Nn_22 P_23 M_24 O_25 H.size r_35 ) (va_cwS 1 hts mg_X10_rarestm_X10_ones_464 rfl rfl rfl (by decide +kernel) ⟨Nat.le_of_ble_eq_true rfl, Nat.le_of_ble_eq_true rfl⟩) ⟨fun a U g mk q => by obtain ⟨q0, q1, qP, qK, qD⟩ := q; exact ⟨q0, q1, qP, va_K.moved (u := U) (U := U.calling g mk a) (Vm.Alike.refl U.vm) qK, qD⟩, fun U hU hW => ⟨rfl, by rw [hU], by rw [hU]; exact hP, va_K.moved hW.alike hK, hD.weaken (fun _ _ _ _ => trivial)⟩⟩ rfl rfl hl.1 rfl (lv_room (Nat.le_of_ble_eq_true rfl)) dX10_rarest_61 ⟨Nat.le_of_ble_eq_true rfl, Nat.le_of_ble_eq_true rfl⟩) hS (fun q _ h => hFc q h) hFc (fun r_36 u t H1 locs ht hvm hw hB hz1 hk1 hS => ?_)
            subst hw
            obtain ⟨hP, hK1, hD1⟩ := hB
            rw [ht] at hP
            have hD := hD1.weaken (fun k q _ h => hFc q.1 h)
            clear hz1 hk1 hFc hD1 hK1 hvm
            generalize H1 = H at hP hS ⊢
            have rg_r_36 := i_rng r_36
            have hP : va_P (dC, dI) vwCl (mW ad kc x0 x1 x2 x3 x4 x5 x6 x7 x8 x9 x10 x11 x_4 x_5 x_6 x_7 x_8 x_9 x_10 x_11 x20 x21 f0 f1 f2 f_12 f_13 f_14 f_15 f_16 f_17 f_18 f_19 f_20 f12 f13 f14 f15 f16 f17 f18 f19 f20 f_27 L_21 Nn_22 P_23 M_24 O_25) H := hP
            have hD : va_D A (mW ad kc x0 x1 x2 x3 x4 x5 x6 x7 x8 x9 x10 x11 x_4 x_5 x_6 x_7 x_8 x_9 x_10 x_11 x20 x21 f0 f1 f2 f_12 f_13 f_14 f_15 f_16 f_17 f_18 f_19 f_20 f12 f13 f14 f15 f16 f17 f18 f19 f20 f_27 L_21 Nn_22 P_23 M_24 O_25) := hD
            refine lv_aload_n hx hb dX10_rarest_64 rfl (lv_at hl 2 rfl) ?_
            refine lv_iload_n hx hb dX10_rarest_65 rfl (lv_at hl 1 rfl) ?_
            have hFc := m_free hD hS hA
            refine va_calli (va_runV (As := [.int be]) (rest := [.int r_36]) ⟨hx, hb, hml, hown, hts⟩ (m_listOf l dC dI ad kc x0 x1 x2 x3 x4 x5 x6 x7 x8 x9 x10 x11 x_4 x_5 x_6 x_7 x_8 x_9 x_10 x_11 x20 x21 f0 f1 f2 f_12 f_13 f_14 f_15 f_16 f_17 f_18 f_19 f_20 f12 f13 f14 f15 f16 f17 f18 f19 f20 f_27 L_21 Nn_22 P_23 M_24 O_25 H.size be (by first | omega | assumption | decide | (have l0 := Int32.toInt_zero; omega))) (cwV 1 hts mg_X10_rarestm_X10_listOf_414 rfl rfl rfl (by decide +kernel) ⟨Nat.le_of_ble_eq_true rfl, Nat.le_of_ble_eq_true rfl⟩) ⟨fun a U g mk q => by obtain ⟨q0, q1, qP, qK, qD⟩ := q; exact ⟨q0, q1, qP, va_K.moved (u := U) (U := U.calling g mk a) (Vm.Alike.refl U.vm) qK, qD⟩, va_recv hK hP (ci := 10) (q0 := 0) rfl rfl, fun U hU hW => ⟨rfl, by rw [hU], by rw [hU]; exact hP, va_K.moved hW.alike hK, hD.weaken (fun _ _ _ _ => trivial)⟩⟩ rfl rfl hl.1 rfl (lv_room (Nat.le_of_ble_eq_true rfl)) dX10_rarest_66 ⟨Nat.le_of_ble_eq_true rfl, Nat.le_of_ble_eq_true rfl⟩) hS (fun q _ h => hFc q h) hFc (fun r_37 u t H1 locs ht hvm hw hB hz1 hk1 hS => ?_)
            subst hw
            obtain ⟨hP, hK1, hD1⟩ := hB
            rw [ht] at hP
            have hD := hD1.weaken (fun k q _ h => hFc q.1 h)
            clear hz1 hk1 hFc hD1 hK1 hvm
            generalize H1 = H at hP hS ⊢
            have rg_r_37 := i_rng r_37
            have hP : va_P (dC, dI) vwCl (mW ad kc x0 x1 x2 x3 x4 x5 x6 x7 x8 x9 x10 x11 x_4 x_5 x_6 x_7 x_8 x_9 x_10 x_11 x20 x21 f0 f1 f2 f_12 f_13 f_14 f_15 f_16 f_17 f_18 f_19 f_20 f12 f13 f14 f15 f16 f17 f18 f19 f20 f_27 L_21 Nn_22 P_23 M_24 O_25) H := hP
            have hD : va_D A (mW ad kc x0 x1 x2 x3 x4 x5 x6 x7 x8 x9 x10 x11 x_4 x_5 x_6 x_7 x_8 x_9 x_10 x_11 x20 x21 f0 f1 f2 f_12 f_13 f_14 f_15 f_16 f_17 f_18 f_19 f_20 f12 f13 f14 f15 f16 f17 f18 f19 f20 f_27 L_21 Nn_22 P_23 M_24 O_25) := hD
            have hFc := m_free hD hS hA
            refine va_calli (va_runS (As := [.int r_37]) (rest := [.int r_36]) ⟨hx, hb, hml, hown, hts⟩ (m_ones l dC dI ad kc x0 x1 x2 x3 x4 x5 x6 x7 x8 x9 x10 x11 x_4 x_5 x_6 x_7 x_8 x_9 x_10 x_11 x20 x21 f0 f1 f2 f_12 f_13 f_14 f_15 f_16 f_17 f_18 f_19 f_20 f12 f13 f14 f15 f16 f17 f18 f19 f20 f_27 L_21 Nn_22 P_23 M_24 O_25 H.size r_37 ) (va_cwS 1 hts mg_X10_rarestm_X10_ones_464 rfl rfl rfl (by decide +kernel) ⟨Nat.le_of_ble_eq_true rfl, Nat.le_of_ble_eq_true rfl⟩) ⟨fun a U g mk q => by obtain ⟨q0, q1, qP, qK, qD⟩ := q; exact ⟨q0, q1, qP, va_K.moved (u := U) (U := U.calling g mk a) (Vm.Alike.refl U.vm) qK, qD⟩, fun U hU hW => ⟨rfl, by rw [hU], by rw [hU]; exact hP, va_K.moved hW.alike hK, hD.weaken (fun _ _ _ _ => trivial)⟩⟩ rfl rfl hl.1 rfl (lv_room (Nat.le_of_ble_eq_true rfl)) dX10_rarest_69 ⟨Nat.le_of_ble_eq_true rfl, Nat.le_of_ble_eq_true rfl⟩) hS (fun q _ h => hFc q h) hFc (fun r_38 u t H1 locs ht hvm hw hB hz1 hk1 hS => ?_)
            subst hw
            obtain ⟨hP, hK1, hD1⟩ := hB
            rw [ht] at hP
            have hD := hD1.weaken (fun k q _ h => hFc q.1 h)
            clear hz1 hk1 hFc hD1 hK1 hvm
            generalize H1 = H at hP hS ⊢
            have rg_r_38 := i_rng r_38
            have hP : va_P (dC, dI) vwCl (mW ad kc x0 x1 x2 x3 x4 x5 x6 x7 x8 x9 x10 x11 x_4 x_5 x_6 x_7 x_8 x_9 x_10 x_11 x20 x21 f0 f1 f2 f_12 f_13 f_14 f_15 f_16 f_17 f_18 f_19 f_20 f12 f13 f14 f15 f16 f17 f18 f19 f20 f_27 L_21 Nn_22 P_23 M_24 O_25) H := hP
            have hD : va_D A (mW ad kc x0 x1 x2 x3 x4 x5 x6 x7 x8 x9 x10 x11 x_4 x_5 x_6 x_7 x_8 x_9 x_10 x_11 x20 x21 f0 f1 f2 f_12 f_13 f_14 f_15 f_16 f_17 f_18 f_19 f_20 f12 f13 f14 f15 f16 f17 f18 f19 f20 f_27 L_21 Nn_22 P_23 M_24 O_25) := hD
            refine lv_icmp_ge (tgt := 84) hx hb dX10_rarest_72 (by decide) (fun k_39 => ?_) (fun k_39 => ?_)
            · have tk_39 := c_ge (a := r_36.toInt) (b := r_38.toInt) rfl rfl k_39
              refine lv_iload_n hx hb dX10_rarest_84 rfl (lv_at hl 1 rfl) ?_
              refine lv_istore_n (lv' := [(2, .int be), (3, .int kk), (0, .ref (ad 0)), (1, .int i1)]) hx hb dX10_rarest_85 rfl hl (by decide) rfl (fun ls hl => ?_)
              obtain ⟨y_40, ey_40⟩ : ∃ y : Int32, y = kk + 1 := ⟨_, rfl⟩
              first | have ty_40 := i_add (a := kk.toInt) (b := 1) rfl (by decide) ey_40 (by omega) (by omega) | skip
              refine lv_iinc (v := y_40) (lv' := [(3, .int y_40), (2, .int be), (0, .ref (ad 0)), (1, .int i1)]) hx hb dX10_rarest_86 hl (k := 1) rfl (by rw [ey_40]; rfl) (by decide) rfl (fun ls hl => ?_)
              refine lv_goto (tgt := 41) hx hb dX10_rarest_89 (by decide) ?_
              exact ih41 be y_40 (by first | omega | assumption | decide) (by omega) _ _ ls hP hD hS (lv_sub hl [0, 1, 2, 3] rfl)
            · have tk_39 := c_nge (a := r_36.toInt) (b := r_38.toInt) rfl rfl k_39
              refine lv_aload_n hx hb dX10_rarest_75 rfl (lv_at hl 2 rfl) ?_
              refine va_get (D := (dC, dI)) (ci := 10) (v := .ref (ad 22)) (C := RX10) (T := TX10) (N := 48) hx hb hts fin_X10_rarestm_X10 hown hK hP 0 rfl rfl 46 (by decide) (hts (.fieldLink RX10 98 "PatternGateModel" "triples" "[I") (List.mem_of_getElem? (i := 11) (by decide +kernel))) (fun _ h9 => h9) rfl dX10_rarest_76 ?_
              refine lv_iload_n hx hb dX10_rarest_79 rfl (lv_at hl 0 rfl) ?_
              refine va_iald hx hb hK hP 22 21 rfl rfl (i := kk) (vp_of (a := kk.toInt) rfl (by omega) (by omega)) dX10_rarest_80 ?_
              refine lv_topi (fun y_41 ey_41 => ?_)
              have rg_y_41 := i_rng y_41
              have vy_41 := vI_lda (f := f_27) (i := kk) (a := kk.toInt) ey_41 (by first | omega | decide)
              have rg_y_41 := i_rng y_41
              refine lv_goto (tgt := 85) hx hb dX10_rarest_81 (by decide) ?_
              refine lv_istore_n (lv' := [(2, .int y_41), (3, .int kk), (0, .ref (ad 0)), (1, .int i1)]) hx hb dX10_rarest_85 rfl hl (by decide) rfl (fun ls hl => ?_)
              obtain ⟨y_42, ey_42⟩ : ∃ y : Int32, y = kk + 1 := ⟨_, rfl⟩
              first | have ty_42 := i_add (a := kk.toInt) (b := 1) rfl (by decide) ey_42 (by omega) (by omega) | skip
              refine lv_iinc (v := y_42) (lv' := [(3, .int y_42), (2, .int y_41), (0, .ref (ad 0)), (1, .int i1)]) hx hb dX10_rarest_86 hl (k := 1) rfl (by rw [ey_42]; rfl) (by decide) rfl (fun ls hl => ?_)
              refine lv_goto (tgt := 41) hx hb dX10_rarest_89 (by decide) ?_
              exact ih41 y_41 y_42 (by first | omega | assumption | decide) (by omega) _ _ ls hP hD hS (lv_sub hl [0, 1, 2, 3] rfl)
      have lit_42 : (2 : Int32).toInt = 2 := by decide
      exact loop41 _ y_29 2 (by first | omega | assumption | decide) (Nat.lt_succ_self _) _ _ ls hP hD hS (lv_sub hl [0, 1, 2, 3] rfl)
    · have tk_28 := c_eq (a := r_26.toInt) (b := 0) rfl (by decide) k_28
      refine lv_aload_n hx hb dX10_rarest_26 rfl (lv_at hl 0 rfl) ?_
      refine lv_iconst (v := 5) hx hb dX10_rarest_27 (by decide) ?_
      have hFc := m_free hD hS hA
      refine va_calli (va_runV (As := [.int 5]) (rest := []) ⟨hx, hb, hml, hown, hts⟩ (m_refuse l dC dI ad kc x0 x1 x2 x3 x4 x5 x6 x7 x8 x9 x10 x11 x_4 x_5 x_6 x_7 x_8 x_9 x_10 x_11 x20 x21 f0 f1 f2 f_12 f_13 f_14 f_15 f_16 f_17 f_18 f_19 f_20 f12 f13 f14 f15 f16 f17 f18 f19 f20 f_27 L_21 Nn_22 P_23 M_24 O_25 H.size 5 ) (cwV 1 hts mg_X10_rarestm_X10_refuse_204 rfl rfl rfl (by decide +kernel) ⟨Nat.le_of_ble_eq_true rfl, Nat.le_of_ble_eq_true rfl⟩) ⟨fun a U g mk q => by obtain ⟨q0, q1, qP, qK, qD⟩ := q; exact ⟨q0, q1, qP, va_K.moved (u := U) (U := U.calling g mk a) (Vm.Alike.refl U.vm) qK, qD⟩, va_recv hK hP (ci := 10) (q0 := 0) rfl rfl, fun U hU hW => ⟨rfl, by rw [hU], by rw [hU]; exact hP, va_K.moved hW.alike hK, hD.weaken (fun _ _ _ _ => trivial)⟩⟩ rfl rfl hl.1 rfl (lv_room (Nat.le_of_ble_eq_true rfl)) dX10_rarest_28 ⟨Nat.le_of_ble_eq_true rfl, Nat.le_of_ble_eq_true rfl⟩) hS (fun q _ h => hFc q h) hFc (fun r_44 u t H1 locs ht hvm hw hB hz1 hk1 hS => ?_)
      subst hw
      obtain ⟨hr_44_0, hP, hK1, hD1⟩ := hB
      rw [ht] at hP
      have hD := hD1.weaken (fun k q _ h => hFc q.1 h)
      clear hz1 hk1 hFc hD1 hK1 hvm
      generalize H1 = H at hP hS ⊢
      have rg_r_44 := i_rng r_44
      have hP : va_P (dC, dI) vwCl (mW ad kc 5 x1 x2 x3 x4 x5 x6 x7 x8 x9 x10 x11 x_4 x_5 x_6 x_7 x_8 x_9 x_10 x_11 x20 x21 f0 f1 f2 f_12 f_13 f_14 f_15 f_16 f_17 f_18 f_19 f_20 f12 f13 f14 f15 f16 f17 f18 f19 f20 f_27 L_21 Nn_22 P_23 M_24 O_25) H := hP
      have hD : va_D A (mW ad kc 5 x1 x2 x3 x4 x5 x6 x7 x8 x9 x10 x11 x_4 x_5 x_6 x_7 x_8 x_9 x_10 x_11 x20 x21 f0 f1 f2 f_12 f_13 f_14 f_15 f_16 f_17 f_18 f_19 f_20 f12 f13 f14 f15 f16 f17 f18 f19 f20 f_27 L_21 Nn_22 P_23 M_24 O_25) := hD
      have lit_44 : (5 : Int32).toInt = 5 := by decide
      exact W.iret hx hb hr (fun t ht hW => ⟨⟨_, _, rfl, rfl, 5, x_4, x_5, x_6, x_7, x_8, x_9, x_10, x_11, f_12, f_13, f_14, f_15, f_16, f_17, f_18, f_19, f_20, f_27, L_21, Nn_22, P_23, M_24, O_25, hPI9, by rw [ht]; exact hP, va_K.moved hW.alike hK, hD⟩, hS.F ht⟩) hS.2.2 dX10_rarest_31
  · have tk_2 := c_eq (a := r_1.toInt) (b := 0) rfl (by decide) k_2
    refine lv_aload_n hx hb dX10_rarest_8 rfl (lv_at hl 0 rfl) ?_
    refine lv_iconst (v := 2) hx hb dX10_rarest_9 (by decide) ?_
    have hFc := m_free hD hS hA
    refine va_calli (va_runV (As := [.int 2]) (rest := []) ⟨hx, hb, hml, hown, hts⟩ (m_refuse l dC dI ad kc x0 x1 x2 x3 x4 x5 x6 x7 x8 x9 x10 x11 x12 x13 x14 x15 x16 x17 x18 x19 x20 x21 f0 f1 f2 f3 f4 f5 f6 f7 f8 f9 f10 f11 f12 f13 f14 f15 f16 f17 f18 f19 f20 f21 fL fN fP fM fO H.size 2 ) (cwV 1 hts mg_X10_rarestm_X10_refuse_204 rfl rfl rfl (by decide +kernel) ⟨Nat.le_of_ble_eq_true rfl, Nat.le_of_ble_eq_true rfl⟩) ⟨fun a U g mk q => by obtain ⟨q0, q1, qP, qK, qD⟩ := q; exact ⟨q0, q1, qP, va_K.moved (u := U) (U := U.calling g mk a) (Vm.Alike.refl U.vm) qK, qD⟩, va_recv hK hP (ci := 10) (q0 := 0) rfl rfl, fun U hU hW => ⟨rfl, by rw [hU], by rw [hU]; exact hP, va_K.moved hW.alike hK, hD.weaken (fun _ _ _ _ => trivial)⟩⟩ rfl rfl hl.1 rfl (lv_room (Nat.le_of_ble_eq_true rfl)) dX10_rarest_10 ⟨Nat.le_of_ble_eq_true rfl, Nat.le_of_ble_eq_true rfl⟩) hS (fun q _ h => hFc q h) hFc (fun r_46 u t H1 locs ht hvm hw hB hz1 hk1 hS => ?_)
    subst hw
    obtain ⟨hr_46_0, hP, hK1, hD1⟩ := hB
    rw [ht] at hP
    have hD := hD1.weaken (fun k q _ h => hFc q.1 h)
    clear hz1 hk1 hFc hD1 hK1 hvm
    generalize H1 = H at hP hS ⊢
    have rg_r_46 := i_rng r_46
    have hP : va_P (dC, dI) vwCl (mW ad kc 2 x1 x2 x3 x4 x5 x6 x7 x8 x9 x10 x11 x12 x13 x14 x15 x16 x17 x18 x19 x20 x21 f0 f1 f2 f3 f4 f5 f6 f7 f8 f9 f10 f11 f12 f13 f14 f15 f16 f17 f18 f19 f20 f21 fL fN fP fM fO) H := hP
    have hD : va_D A (mW ad kc 2 x1 x2 x3 x4 x5 x6 x7 x8 x9 x10 x11 x12 x13 x14 x15 x16 x17 x18 x19 x20 x21 f0 f1 f2 f3 f4 f5 f6 f7 f8 f9 f10 f11 f12 f13 f14 f15 f16 f17 f18 f19 f20 f21 fL fN fP fM fO) := hD
    have lit_46 : (2 : Int32).toInt = 2 := by decide
    exact W.iret hx hb hr (fun t ht hW => ⟨⟨_, _, rfl, rfl, 2, x12, x13, x14, x15, x16, x17, x18, x19, f3, f4, f5, f6, f7, f8, f9, f10, f11, f21, fL, fN, fP, fM, fO, hpi, by rw [ht]; exact hP, va_K.moved hW.alike hK, hD⟩, hS.F ht⟩) hS.2.2 dX10_rarest_13
theorem ot_step {R R' : Nat → Nat → Int32} {k k' : Int} (h : ∀ j : Nat, (j : Int) < k → 0 ≤ vI (R (1300 + j)) 0 ∧ vI (R (1300 + j)) 0 ≤ 24) (hr : rFr R R' (1300 + k.toNat)) (a0 : 0 ≤ vI (R' (1300 + k.toNat)) 0) (a1 : vI (R' (1300 + k.toNat)) 0 ≤ 24) (h0 : 0 ≤ k) (h1 : k < 12) (hk : k' = k + 1) : ∀ j : Nat, (j : Int) < k' → 0 ≤ vI (R' (1300 + j)) 0 ∧ vI (R' (1300 + j)) 0 ≤ 24 := by
  intro j hj
  by_cases e : j = k.toNat
  · subst e; exact ⟨a0, a1⟩
  · rw [hr (1300 + j) (by unfold IR; omega) (by omega)]
    exact h j (by omega)
theorem dX10_within_0 : decode cX10_within 0 = .ok (.aload_n 0, 1) := by decide +kernel
theorem dX10_within_1 : decode cX10_within 1 = .ok (.iload_n 1, 1) := by decide +kernel
theorem dX10_within_2 : decode cX10_within 2 = .ok (.invokevirtual 458, 3) := by decide +kernel
theorem dX10_within_5 : decode cX10_within 5 = .ok (.ifCond .eq 11, 3) := by decide +kernel
theorem dX10_within_8 : decode cX10_within 8 = .ok (.aload_n 0, 1) := by decide +kernel
theorem dX10_within_9 : decode cX10_within 9 = .ok (.iload_n 2, 1) := by decide +kernel
theorem dX10_within_10 : decode cX10_within 10 = .ok (.invokevirtual 458, 3) := by decide +kernel
theorem dX10_within_13 : decode cX10_within 13 = .ok (.ifCond .ne 9, 3) := by decide +kernel
theorem dX10_within_16 : decode cX10_within 16 = .ok (.aload_n 0, 1) := by decide +kernel
theorem dX10_within_17 : decode cX10_within 17 = .ok (.iconst 2, 1) := by decide +kernel
theorem dX10_within_18 : decode cX10_within 18 = .ok (.invokevirtual 204, 3) := by decide +kernel
theorem dX10_within_21 : decode cX10_within 21 = .ok (.ireturn, 1) := by decide +kernel
theorem dX10_within_22 : decode cX10_within 22 = .ok (.aload_n 0, 1) := by decide +kernel
theorem dX10_within_23 : decode cX10_within 23 = .ok (.iload_n 2, 1) := by decide +kernel
theorem dX10_within_24 : decode cX10_within 24 = .ok (.invokevirtual 420, 3) := by decide +kernel
theorem dX10_within_27 : decode cX10_within 27 = .ok (.aload_n 0, 1) := by decide +kernel
theorem dX10_within_28 : decode cX10_within 28 = .ok (.getfield 64, 3) := by decide +kernel
theorem dX10_within_31 : decode cX10_within 31 = .ok (.iconst 0, 1) := by decide +kernel
theorem dX10_within_32 : decode cX10_within 32 = .ok (.iaload, 1) := by decide +kernel
theorem dX10_within_33 : decode cX10_within 33 = .ok (.istore_n 3, 1) := by decide +kernel
theorem dX10_within_34 : decode cX10_within 34 = .ok (.iconst 0, 1) := by decide +kernel
theorem dX10_within_35 : decode cX10_within 35 = .ok (.istore 4, 2) := by decide +kernel
theorem dX10_within_37 : decode cX10_within 37 = .ok (.iload 4, 2) := by decide +kernel
theorem dX10_within_39 : decode cX10_within 39 = .ok (.iload_n 3, 1) := by decide +kernel
theorem dX10_within_40 : decode cX10_within 40 = .ok (.if_icmp .ge 28, 3) := by decide +kernel
theorem dX10_within_43 : decode cX10_within 43 = .ok (.aload_n 0, 1) := by decide +kernel
theorem dX10_within_44 : decode cX10_within 44 = .ok (.getfield 56, 3) := by decide +kernel
theorem dX10_within_47 : decode cX10_within 47 = .ok (.iconst 0, 1) := by decide +kernel
theorem dX10_within_48 : decode cX10_within 48 = .ok (.aaload, 1) := by decide +kernel
theorem dX10_within_49 : decode cX10_within 49 = .ok (.iload 4, 2) := by decide +kernel
theorem dX10_within_51 : decode cX10_within 51 = .ok (.aaload, 1) := by decide +kernel
theorem dX10_within_52 : decode cX10_within 52 = .ok (.aload_n 0, 1) := by decide +kernel
theorem dX10_within_53 : decode cX10_within 53 = .ok (.getfield 101, 3) := by decide +kernel
theorem dX10_within_56 : decode cX10_within 56 = .ok (.iload 4, 2) := by decide +kernel
theorem dX10_within_58 : decode cX10_within 58 = .ok (.aaload, 1) := by decide +kernel
theorem dX10_within_59 : decode cX10_within 59 = .ok (.invokestatic 296, 3) := by decide +kernel
theorem dX10_within_62 : decode cX10_within 62 = .ok (.iinc 4 1, 3) := by decide +kernel
theorem dX10_within_65 : decode cX10_within 65 = .ok (.goto (-28), 3) := by decide +kernel
theorem dX10_within_68 : decode cX10_within 68 = .ok (.aload_n 0, 1) := by decide +kernel
theorem dX10_within_69 : decode cX10_within 69 = .ok (.iload_n 1, 1) := by decide +kernel
theorem dX10_within_70 : decode cX10_within 70 = .ok (.invokevirtual 420, 3) := by decide +kernel
theorem dX10_within_73 : decode cX10_within 73 = .ok (.iconst 1, 1) := by decide +kernel
theorem dX10_within_74 : decode cX10_within 74 = .ok (.istore 4, 2) := by decide +kernel
theorem dX10_within_76 : decode cX10_within 76 = .ok (.iconst 0, 1) := by decide +kernel
theorem dX10_within_77 : decode cX10_within 77 = .ok (.istore 5, 2) := by decide +kernel
theorem dX10_within_79 : decode cX10_within 79 = .ok (.iload 5, 2) := by decide +kernel
theorem dX10_within_81 : decode cX10_within 81 = .ok (.aload_n 0, 1) := by decide +kernel
theorem dX10_within_82 : decode cX10_within 82 = .ok (.getfield 64, 3) := by decide +kernel
theorem dX10_within_85 : decode cX10_within 85 = .ok (.iconst 0, 1) := by decide +kernel
theorem dX10_within_86 : decode cX10_within 86 = .ok (.iaload, 1) := by decide +kernel
theorem dX10_within_87 : decode cX10_within 87 = .ok (.if_icmp .ge 78, 3) := by decide +kernel
theorem dX10_within_90 : decode cX10_within 90 = .ok (.iconst 0, 1) := by decide +kernel
theorem dX10_within_91 : decode cX10_within 91 = .ok (.istore 6, 2) := by decide +kernel
theorem dX10_within_93 : decode cX10_within 93 = .ok (.iconst 0, 1) := by decide +kernel
theorem dX10_within_94 : decode cX10_within 94 = .ok (.istore 7, 2) := by decide +kernel
theorem dX10_within_96 : decode cX10_within 96 = .ok (.iload 7, 2) := by decide +kernel
theorem dX10_within_98 : decode cX10_within 98 = .ok (.iload_n 3, 1) := by decide +kernel
theorem dX10_within_99 : decode cX10_within 99 = .ok (.if_icmp .ge 43, 3) := by decide +kernel
theorem dX10_within_102 : decode cX10_within 102 = .ok (.iload 6, 2) := by decide +kernel
theorem dX10_within_104 : decode cX10_within 104 = .ok (.ifCond .ne 25, 3) := by decide +kernel
theorem dX10_within_107 : decode cX10_within 107 = .ok (.aload_n 0, 1) := by decide +kernel
theorem dX10_within_108 : decode cX10_within 108 = .ok (.getfield 56, 3) := by decide +kernel
theorem dX10_within_111 : decode cX10_within 111 = .ok (.iconst 0, 1) := by decide +kernel
theorem dX10_within_112 : decode cX10_within 112 = .ok (.aaload, 1) := by decide +kernel
theorem dX10_within_113 : decode cX10_within 113 = .ok (.iload 5, 2) := by decide +kernel
theorem dX10_within_115 : decode cX10_within 115 = .ok (.aaload, 1) := by decide +kernel
theorem dX10_within_116 : decode cX10_within 116 = .ok (.aload_n 0, 1) := by decide +kernel
theorem dX10_within_117 : decode cX10_within 117 = .ok (.getfield 101, 3) := by decide +kernel
theorem dX10_within_120 : decode cX10_within 120 = .ok (.iload 7, 2) := by decide +kernel
theorem dX10_within_122 : decode cX10_within 122 = .ok (.aaload, 1) := by decide +kernel
theorem dX10_within_123 : decode cX10_within 123 = .ok (.invokestatic 292, 3) := by decide +kernel
theorem dX10_within_126 : decode cX10_within 126 = .ok (.ifCond .eq 7, 3) := by decide +kernel
theorem dX10_within_129 : decode cX10_within 129 = .ok (.iconst 1, 1) := by decide +kernel
theorem dX10_within_130 : decode cX10_within 130 = .ok (.goto 4, 3) := by decide +kernel
theorem dX10_within_133 : decode cX10_within 133 = .ok (.iconst 0, 1) := by decide +kernel
theorem dX10_within_134 : decode cX10_within 134 = .ok (.istore 6, 2) := by decide +kernel
theorem dX10_within_136 : decode cX10_within 136 = .ok (.iinc 7 1, 3) := by decide +kernel
theorem dX10_within_139 : decode cX10_within 139 = .ok (.goto (-43), 3) := by decide +kernel
theorem dX10_within_142 : decode cX10_within 142 = .ok (.iload 4, 2) := by decide +kernel
theorem dX10_within_144 : decode cX10_within 144 = .ok (.ifCond .eq 12, 3) := by decide +kernel
theorem dX10_within_147 : decode cX10_within 147 = .ok (.iload 6, 2) := by decide +kernel
theorem dX10_within_149 : decode cX10_within 149 = .ok (.ifCond .eq 7, 3) := by decide +kernel
theorem dX10_within_152 : decode cX10_within 152 = .ok (.iconst 1, 1) := by decide +kernel
theorem dX10_within_153 : decode cX10_within 153 = .ok (.goto 4, 3) := by decide +kernel
theorem dX10_within_156 : decode cX10_within 156 = .ok (.iconst 0, 1) := by decide +kernel
theorem dX10_within_157 : decode cX10_within 157 = .ok (.istore 4, 2) := by decide +kernel
theorem dX10_within_159 : decode cX10_within 159 = .ok (.iinc 5 1, 3) := by decide +kernel
theorem dX10_within_162 : decode cX10_within 162 = .ok (.goto (-83), 3) := by decide +kernel
theorem dX10_within_165 : decode cX10_within 165 = .ok (.aload_n 0, 1) := by decide +kernel
theorem dX10_within_166 : decode cX10_within 166 = .ok (.iload 4, 2) := by decide +kernel
theorem dX10_within_168 : decode cX10_within 168 = .ok (.ifCond .eq 7, 3) := by decide +kernel
theorem dX10_within_171 : decode cX10_within 171 = .ok (.iconst 1, 1) := by decide +kernel
theorem dX10_within_172 : decode cX10_within 172 = .ok (.goto 4, 3) := by decide +kernel
theorem dX10_within_175 : decode cX10_within 175 = .ok (.iconst 0, 1) := by decide +kernel
theorem dX10_within_176 : decode cX10_within 176 = .ok (.invokevirtual 214, 3) := by decide +kernel
theorem dX10_within_179 : decode cX10_within 179 = .ok (.ireturn, 1) := by decide +kernel
def mwX10_withinm : List Cond := .code yX10_within cX10_within 8 (some .int) :: (([.methodLink RX10 458 yX10_isPattern, .instanceMethod yX10_isPattern, .selects RX10 yX10_isPattern yX10_isPattern, .initialized RX10, .methodLink RX10 204 yX10_refuse, .instanceMethod yX10_refuse, .selects RX10 yX10_refuse yX10_refuse, .methodLink RX10 420 yX10_needsOf, .instanceMethod yX10_needsOf, .selects RX10 yX10_needsOf yX10_needsOf, .fieldLink RX10 64 "PatternGateModel" "needMany" "[I", .methodLink RX10 214 yX10_gives, .instanceMethod yX10_gives, .selects RX10 yX10_gives yX10_gives, .fieldLink RX10 56 "PatternGateModel" "needs" "[[[I", .fieldLink RX10 101 "PatternGateModel" "other0" "[[I", .methodLink RX10 292 yX10_hasAll, .static yX10_hasAll, .methodLink RX10 296 yX10_lays, .static yX10_lays] : List Cond) ++ (wsX100 ++ (mwX10_isPatternm ++ (mwX10_refusem ++ (mwX10_needsOfm ++ (mwX10_givesm ++ (mwX10_hasAllm ++ (mwX10_laysm))))))))
theorem fin_X10_withinm_X10 : ∀ w ∈ wsX100, w ∈ mwX10_withinm := fun w h => List.mem_cons_of_mem _ (List.mem_append_right _ (List.mem_append_left _ h))
set_option maxRecDepth 100000 in
theorem gd_mwX10_hasAllm : mwX10_hasAllm.all goodWord = true := by decide +kernel
set_option maxRecDepth 100000 in
theorem gd_mwX10_laysm : mwX10_laysm.all goodWord = true := by decide +kernel
set_option maxRecDepth 20000 in
theorem mg_X10_withinm_X10_isPattern_458 : GoodIn mwX10_withinm (wsV RX10 458 RX10 yX10_isPattern mwX10_isPatternm) := gi_app (A := [.methodLink RX10 458 yX10_isPattern, .instanceMethod yX10_isPattern, .selects RX10 yX10_isPattern yX10_isPattern, .initialized RX10]) (goodIn_r _ [1, 2, 3, 4] (by decide +kernel) (by decide +kernel)) (gi_sub gd_mwX10_isPatternm (fun w h => List.mem_cons_of_mem _ (List.mem_append_right _ (List.mem_append_right _ (List.mem_append_left _ h)))))
set_option maxRecDepth 20000 in
theorem mg_X10_withinm_X10_refuse_204 : GoodIn mwX10_withinm (wsV RX10 204 RX10 yX10_refuse mwX10_refusem) := gi_app (A := [.methodLink RX10 204 yX10_refuse, .instanceMethod yX10_refuse, .selects RX10 yX10_refuse yX10_refuse, .initialized RX10]) (goodIn_r _ [5, 6, 7, 4] (by decide +kernel) (by decide +kernel)) (gi_sub gd_mwX10_refusem (fun w h => List.mem_cons_of_mem _ (List.mem_append_right _ (List.mem_append_right _ (List.mem_append_right _ (List.mem_append_left _ h))))))
set_option maxRecDepth 20000 in
theorem mg_X10_withinm_X10_needsOf_420 : GoodIn mwX10_withinm (wsV RX10 420 RX10 yX10_needsOf mwX10_needsOfm) := gi_app (A := [.methodLink RX10 420 yX10_needsOf, .instanceMethod yX10_needsOf, .selects RX10 yX10_needsOf yX10_needsOf, .initialized RX10]) (goodIn_r _ [8, 9, 10, 4] (by decide +kernel) (by decide +kernel)) (gi_sub gd_mwX10_needsOfm (fun w h => List.mem_cons_of_mem _ (List.mem_append_right _ (List.mem_append_right _ (List.mem_append_right _ (List.mem_append_right _ (List.mem_append_left _ h)))))))
set_option maxRecDepth 20000 in
theorem mg_X10_withinm_X10_gives_214 : GoodIn mwX10_withinm (wsV RX10 214 RX10 yX10_gives mwX10_givesm) := gi_app (A := [.methodLink RX10 214 yX10_gives, .instanceMethod yX10_gives, .selects RX10 yX10_gives yX10_gives, .initialized RX10]) (goodIn_r _ [12, 13, 14, 4] (by decide +kernel) (by decide +kernel)) (gi_sub gd_mwX10_givesm (fun w h => List.mem_cons_of_mem _ (List.mem_append_right _ (List.mem_append_right _ (List.mem_append_right _ (List.mem_append_right _ (List.mem_append_right _ (List.mem_append_left _ h))))))))
set_option maxRecDepth 20000 in
theorem mg_X10_withinm_X10_hasAll_292 : GoodIn mwX10_withinm (va_wsS RX10 292 yX10_hasAll mwX10_hasAllm) := gi_app (A := [.methodLink RX10 292 yX10_hasAll, .static yX10_hasAll, .initialized RX10]) (goodIn_r _ [17, 18, 4] (by decide +kernel) (by decide +kernel)) (gi_sub gd_mwX10_hasAllm (fun w h => List.mem_cons_of_mem _ (List.mem_append_right _ (List.mem_append_right _ (List.mem_append_right _ (List.mem_append_right _ (List.mem_append_right _ (List.mem_append_right _ (List.mem_append_left _ h)))))))))
set_option maxRecDepth 20000 in
theorem mg_X10_withinm_X10_lays_296 : GoodIn mwX10_withinm (va_wsS RX10 296 yX10_lays mwX10_laysm) := gi_app (A := [.methodLink RX10 296 yX10_lays, .static yX10_lays, .initialized RX10]) (goodIn_r _ [19, 20, 4] (by decide +kernel) (by decide +kernel)) (gi_sub gd_mwX10_laysm (fun w h => List.mem_cons_of_mem _ (List.mem_append_right _ (List.mem_append_right _ (List.mem_append_right _ (List.mem_append_right _ (List.mem_append_right _ (List.mem_append_right _ (List.mem_append_right _ (h))))))))))
set_option maxHeartbeats 4000000 in
set_option maxRecDepth 100000 in
theorem m_within (l : Launch) (dC : Nat → ClassId) (dI : Nat → Nat → Nat) (ad : Nat → Nat) (kc : Nat → ClassId) (x0 x1 x2 x3 x4 x5 x6 x7 x8 x9 x10 x11 x12 x13 x14 x15 x16 x17 x18 x19 x20 x21 : Int32) (f0 f1 f2 f3 f4 f5 f6 f7 f8 f9 f10 f11 f12 f13 f14 f15 f16 f17 f18 f19 f20 f21 : Nat → Int32) (fL : Nat → Nat → Int64) (fN : Nat → Nat → Int32) (fP : Nat → Nat → Nat) (fM : Nat → Nat → Int32) (fO : Nat → Nat → Int32) (sz : Nat) (i1 i2 : Int32) (q0 : mI x1.toInt x2.toInt x3.toInt f0 fP) : Met l yX10_within mwX10_withinm ({ frames := 42, cells := 0, slots := 0, locals := 2520 }) (va_Pc [.ref (ad 0), .int i1, .int i2] (fun U => U.heap.size = sz ∧ va_P (dC, dI) vwCl (mW ad kc x0 x1 x2 x3 x4 x5 x6 x7 x8 x9 x10 x11 x12 x13 x14 x15 x16 x17 x18 x19 x20 x21 f0 f1 f2 f3 f4 f5 f6 f7 f8 f9 f10 f11 f12 f13 f14 f15 f16 f17 f18 f19 f20 f21 fL fN fP fM fO) U.heap ∧ va_K (dC, dI) vwCl (mT kc) U ∧ va_D (fun _ => True) (mW ad kc x0 x1 x2 x3 x4 x5 x6 x7 x8 x9 x10 x11 x12 x13 x14 x15 x16 x17 x18 x19 x20 x21 f0 f1 f2 f3 f4 f5 f6 f7 f8 f9 f10 f11 f12 f13 f14 f15 f16 f17 f18 f19 f20 f21 fL fN fP fM fO) ∧ (Cond.arrayOver (.array .int)).before #[] U = true)) (va_Qi (fun (o9 u9 : Int32) => o9 = u9) (fun (o9 : Int32) t => ∃ (y0 y12 y13 y14 y15 y16 y17 y18 y19 : Int32) (g3 g4 g5 g6 g7 g8 g9 g10 g11 : Nat → Int32) (L9 : Nat → Nat → Int64) (Nn9 : Nat → Nat → Int32) (P9 : Nat → Nat → Nat) (M9 : Nat → Nat → Int32) (O9 : Nat → Nat → Int32), (PI P9) ∧ va_P (dC, dI) vwCl (mW ad kc y0 x1 x2 x3 x4 x5 x6 x7 x8 x9 x10 x11 y12 y13 y14 y15 y16 y17 y18 y19 x20 x21 f0 f1 f2 g3 g4 g5 g6 g7 g8 g9 g10 g11 f12 f13 f14 f15 f16 f17 f18 f19 f20 f21 L9 Nn9 P9 M9 O9) t.heap ∧ va_K (dC, dI) vwCl (mT kc) t ∧ va_D (va_A (mW ad kc x0 x1 x2 x3 x4 x5 x6 x7 x8 x9 x10 x11 x12 x13 x14 x15 x16 x17 x18 x19 x20 x21 f0 f1 f2 f3 f4 f5 f6 f7 f8 f9 f10 f11 f12 f13 f14 f15 f16 f17 f18 f19 f20 f21 fL fN fP fM fO) sz) (mW ad kc y0 x1 x2 x3 x4 x5 x6 x7 x8 x9 x10 x11 y12 y13 y14 y15 y16 y17 y18 y19 x20 x21 f0 f1 f2 g3 g4 g5 g6 g7 g8 g9 g10 g11 f12 f13 f14 f15 f16 f17 f18 f19 f20 f21 L9 Nn9 P9 M9 O9)) (va_A (mW ad kc x0 x1 x2 x3 x4 x5 x6 x7 x8 x9 x10 x11 x12 x13 x14 x15 x16 x17 x18 x19 x20 x21 f0 f1 f2 f3 f4 f5 f6 f7 f8 f9 f10 f11 f12 f13 f14 f15 f16 f17 f18 f19 f20 f21 fL fN fP fM fO) sz)) 0 0 (va_A (mW ad kc x0 x1 x2 x3 x4 x5 x6 x7 x8 x9 x10 x11 x12 x13 x14 x15 x16 x17 x18 x19 x20 x21 f0 f1 f2 f3 f4 f5 f6 f7 f8 f9 f10 f11 f12 f13 f14 f15 f16 f17 f18 f19 f20 f21 fL fN fP fM fO) sz) := by
  refine Met.ofW (cc := cX10_within) (maxL := 8) (ret := (some .int)) (by decide +kernel) rfl ?_
  intro p e s m args below meth c s₁ B hml hv
  obtain ⟨rfl, hsz, hP, hK, hD0, hOV⟩ := hv
  have hx := B.exec
  have hb := B.bytes
  have hr := B.returns
  have hts := atoms_spec (ws := mwX10_withinm) B.pre
  have hown : s.vm.findClass RX10 = some m.cls := findClass_of_methodNamed B.named
  have hlocks := B.notSynchronized
  subst hsz
  have hD := hD0.self (sz := s.heap.size)
  generalize hAe : va_A (mW ad kc x0 x1 x2 x3 x4 x5 x6 x7 x8 x9 x10 x11 x12 x13 x14 x15 x16 x17 x18 x19 x20 x21 f0 f1 f2 f3 f4 f5 f6 f7 f8 f9 f10 f11 f12 f13 f14 f15 f16 f17 f18 f19 f20 f21 fL fN fP fM fO) s.heap.size = A at hD ⊢
  have hA : ∀ q : Nat, s.heap.size ≤ q → A q := fun q h => by rw [← hAe]; exact Or.inr h
  have hP : va_P (dC, dI) vwCl (mW ad kc x0 x1 x2 x3 x4 x5 x6 x7 x8 x9 x10 x11 x12 x13 x14 x15 x16 x17 x18 x19 x20 x21 f0 f1 f2 f3 f4 f5 f6 f7 f8 f9 f10 f11 f12 f13 f14 f15 f16 f17 f18 f19 f20 f21 fL fN fP fM fO) s.heap := hP
  have hD : va_D A (mW ad kc x0 x1 x2 x3 x4 x5 x6 x7 x8 x9 x10 x11 x12 x13 x14 x15 x16 x17 x18 x19 x20 x21 f0 f1 f2 f3 f4 f5 f6 f7 f8 f9 f10 f11 f12 f13 f14 f15 f16 f17 f18 f19 f20 f21 fL fN fP fM fO) := hD
  have hK : va_K (dC, dI) vwCl (mT kc) s := hK
  generalize hH : s.heap = H at hP ⊢
  have hS : va_S A s.heap H [] := by rw [← hH]; exact va_S.rf
  have hl := lv_entry ([.ref (ad 0), .int i1, .int i2]) (n := 8) (Nat.le_of_ble_eq_true rfl)
  rw [lg_entry_eq]
  generalize (lg_sl ([.ref (ad 0), .int i1, .int i2]) ++ List.replicate (8 - (lg_sl ([.ref (ad 0), .int i1, .int i2])).length) Slot.unset).toArray = ls at hl ⊢
  have hl : lv_has ls 8 [(0, .ref (ad 0)), (1, .int i1), (2, .int i2)] := hl
  have rg_i1 := i_rng i1
  have rg_i2 := i_rng i2
  have hd := q0.d
  have hpi := q0.p
  have hq1 := q0.1
  have hq2 := q0.2.1
  have hq3 := q0.2.2.1
  have hd10 := hd.n0
  have hp8 := hd.P0
  refine lv_aload_n hx hb dX10_within_0 rfl (lv_at hl 0 rfl) ?_
  refine lv_iload_n hx hb dX10_within_1 rfl (lv_at hl 1 rfl) ?_
  refine vp_callSi (W.runV (As := [.int i1]) (rest := []) ⟨hx, hb, hml, hown, hts⟩ (m_isPattern l dC dI ad kc x0 x1 x2 x3 x4 x5 x6 x7 x8 x9 x10 x11 x12 x13 x14 x15 x16 x17 x18 x19 x20 x21 f0 f1 f2 f3 f4 f5 f6 f7 f8 f9 f10 f11 f12 f13 f14 f15 f16 f17 f18 f19 f20 f21 fL fN fP fM fO i1 ) (cwV 1 hts mg_X10_withinm_X10_isPattern_458 rfl rfl rfl (by decide +kernel) ⟨Nat.le_of_ble_eq_true rfl, Nat.le_of_ble_eq_true rfl⟩) ⟨fun a U g mk q => by obtain ⟨q0, qP, qK⟩ := q; exact ⟨q0, qP, va_K.moved (u := U) (U := U.calling g mk a) (Vm.Alike.refl U.vm) qK⟩, va_recv hK hP (ci := 10) (q0 := 0) rfl rfl, fun U hU hW => ⟨rfl, by rw [hU]; exact hP, va_K.moved hW.alike hK⟩⟩ rfl rfl hl.1 rfl (lv_room (Nat.le_of_ble_eq_true rfl)) dX10_within_2 ⟨Nat.le_of_ble_eq_true rfl, Nat.le_of_ble_eq_true rfl⟩) (fun r_1 hr_1 => ?_)
  have rg_r_1 := i_rng r_1
  refine lv_if_eq (tgt := 16) hx hb dX10_within_5 (by decide) (fun k_2 => ?_) (fun k_2 => ?_)
  · have tk_2 := c_eq (a := r_1.toInt) (b := 0) rfl (by decide) k_2
    refine lv_aload_n hx hb dX10_within_16 rfl (lv_at hl 0 rfl) ?_
    refine lv_iconst (v := 2) hx hb dX10_within_17 (by decide) ?_
    have hFc := m_free hD hS hA
    refine va_calli (va_runV (As := [.int 2]) (rest := []) ⟨hx, hb, hml, hown, hts⟩ (m_refuse l dC dI ad kc x0 x1 x2 x3 x4 x5 x6 x7 x8 x9 x10 x11 x12 x13 x14 x15 x16 x17 x18 x19 x20 x21 f0 f1 f2 f3 f4 f5 f6 f7 f8 f9 f10 f11 f12 f13 f14 f15 f16 f17 f18 f19 f20 f21 fL fN fP fM fO H.size 2 ) (cwV 1 hts mg_X10_withinm_X10_refuse_204 rfl rfl rfl (by decide +kernel) ⟨Nat.le_of_ble_eq_true rfl, Nat.le_of_ble_eq_true rfl⟩) ⟨fun a U g mk q => by obtain ⟨q0, q1, qP, qK, qD⟩ := q; exact ⟨q0, q1, qP, va_K.moved (u := U) (U := U.calling g mk a) (Vm.Alike.refl U.vm) qK, qD⟩, va_recv hK hP (ci := 10) (q0 := 0) rfl rfl, fun U hU hW => ⟨rfl, by rw [hU], by rw [hU]; exact hP, va_K.moved hW.alike hK, hD.weaken (fun _ _ _ _ => trivial)⟩⟩ rfl rfl hl.1 rfl (lv_room (Nat.le_of_ble_eq_true rfl)) dX10_within_18 ⟨Nat.le_of_ble_eq_true rfl, Nat.le_of_ble_eq_true rfl⟩) hS (fun q _ h => hFc q h) hFc (fun r_3 u t H1 locs ht hvm hw hB hz1 hk1 hS => ?_)
    subst hw
    obtain ⟨hr_3_0, hP, hK1, hD1⟩ := hB
    rw [ht] at hP
    have hD := hD1.weaken (fun k q _ h => hFc q.1 h)
    clear hz1 hk1 hFc hD1 hK1 hvm
    generalize H1 = H at hP hS ⊢
    have rg_r_3 := i_rng r_3
    have hP : va_P (dC, dI) vwCl (mW ad kc 2 x1 x2 x3 x4 x5 x6 x7 x8 x9 x10 x11 x12 x13 x14 x15 x16 x17 x18 x19 x20 x21 f0 f1 f2 f3 f4 f5 f6 f7 f8 f9 f10 f11 f12 f13 f14 f15 f16 f17 f18 f19 f20 f21 fL fN fP fM fO) H := hP
    have hD : va_D A (mW ad kc 2 x1 x2 x3 x4 x5 x6 x7 x8 x9 x10 x11 x12 x13 x14 x15 x16 x17 x18 x19 x20 x21 f0 f1 f2 f3 f4 f5 f6 f7 f8 f9 f10 f11 f12 f13 f14 f15 f16 f17 f18 f19 f20 f21 fL fN fP fM fO) := hD
    have lit_3 : (2 : Int32).toInt = 2 := by decide
    exact W.iret hx hb hr (fun t ht hW => ⟨⟨_, _, rfl, rfl, 2, x12, x13, x14, x15, x16, x17, x18, x19, f3, f4, f5, f6, f7, f8, f9, f10, f11, fL, fN, fP, fM, fO, hpi, by rw [ht]; exact hP, va_K.moved hW.alike hK, hD⟩, hS.F ht⟩) hS.2.2 dX10_within_21
  · have tk_2 := c_ne (a := r_1.toInt) (b := 0) rfl (by decide) k_2
    refine lv_aload_n hx hb dX10_within_8 rfl (lv_at hl 0 rfl) ?_
    refine lv_iload_n hx hb dX10_within_9 rfl (lv_at hl 2 rfl) ?_
    refine vp_callSi (W.runV (As := [.int i2]) (rest := []) ⟨hx, hb, hml, hown, hts⟩ (m_isPattern l dC dI ad kc x0 x1 x2 x3 x4 x5 x6 x7 x8 x9 x10 x11 x12 x13 x14 x15 x16 x17 x18 x19 x20 x21 f0 f1 f2 f3 f4 f5 f6 f7 f8 f9 f10 f11 f12 f13 f14 f15 f16 f17 f18 f19 f20 f21 fL fN fP fM fO i2 ) (cwV 1 hts mg_X10_withinm_X10_isPattern_458 rfl rfl rfl (by decide +kernel) ⟨Nat.le_of_ble_eq_true rfl, Nat.le_of_ble_eq_true rfl⟩) ⟨fun a U g mk q => by obtain ⟨q0, qP, qK⟩ := q; exact ⟨q0, qP, va_K.moved (u := U) (U := U.calling g mk a) (Vm.Alike.refl U.vm) qK⟩, va_recv hK hP (ci := 10) (q0 := 0) rfl rfl, fun U hU hW => ⟨rfl, by rw [hU]; exact hP, va_K.moved hW.alike hK⟩⟩ rfl rfl hl.1 rfl (lv_room (Nat.le_of_ble_eq_true rfl)) dX10_within_10 ⟨Nat.le_of_ble_eq_true rfl, Nat.le_of_ble_eq_true rfl⟩) (fun r_5 hr_5 => ?_)
    have rg_r_5 := i_rng r_5
    refine lv_if_ne (tgt := 22) hx hb dX10_within_13 (by decide) (fun k_6 => ?_) (fun k_6 => ?_)
    · have tk_6 := c_ne (a := r_5.toInt) (b := 0) rfl (by decide) k_6
      refine lv_aload_n hx hb dX10_within_22 rfl (lv_at hl 0 rfl) ?_
      refine lv_iload_n hx hb dX10_within_23 rfl (lv_at hl 2 rfl) ?_
      have hFc := m_free hD hS hA
      refine va_callv (va_runV (As := [.int i2]) (rest := []) ⟨hx, hb, hml, hown, hts⟩ (m_needsOf l dC dI ad kc x0 x1 x2 x3 x4 x5 x6 x7 x8 x9 x10 x11 x12 x13 x14 x15 x16 x17 x18 x19 x20 x21 f0 f1 f2 f3 f4 f5 f6 f7 f8 f9 f10 f11 f12 f13 f14 f15 f16 f17 f18 f19 f20 f21 fL fN fP fM fO H.size i2 (by first | omega | assumption | decide | (have l0 := Int32.toInt_zero; omega)) (by first | omega | assumption | decide | (have l0 := Int32.toInt_zero; omega)) (by first | omega | assumption | decide | (have l0 := Int32.toInt_zero; omega))) (cwV 1 hts mg_X10_withinm_X10_needsOf_420 rfl rfl rfl (by decide +kernel) ⟨Nat.le_of_ble_eq_true rfl, Nat.le_of_ble_eq_true rfl⟩) ⟨fun a U g mk q => by obtain ⟨q0, q1, qP, qK, qD, qE⟩ := q; exact ⟨q0, q1, qP, va_K.moved (u := U) (U := U.calling g mk a) (Vm.Alike.refl U.vm) qK, qD, over_moved (u := U) (E := U.calling g mk a) (Vm.Alike.refl U.vm) qE⟩, va_recv hK hP (ci := 10) (q0 := 0) rfl rfl, fun U hU hW => ⟨rfl, by rw [hU], by rw [hU]; exact hP, va_K.moved hW.alike hK, hD.weaken (fun _ _ _ _ => trivial), over_moved hW.alike hOV⟩⟩ rfl rfl hl.1 rfl (lv_room (Nat.le_of_ble_eq_true rfl)) dX10_within_24 ⟨Nat.le_of_ble_eq_true rfl, Nat.le_of_ble_eq_true rfl⟩) hS (fun q _ h => hFc q h) hFc (fun u t H1 locs ht hvm hw hB hz1 hk1 hS => ?_)
      obtain ⟨x_8, x_9, x_10, x_11, x_12, x_13, x_14, x_15, f_16, f_17, f_18, f_19, f_20, f_21, f_22, f_23, f_24, L_25, Nn_26, P_27, M_28, O_29, hr_7_0, hr_7_1, hr_7_2, hr_7_3, hr_7_4, hP, hK1, hD1⟩ := hB
      rw [ht] at hP
      have hD := hD1.weaken (fun k q _ h => hFc q.1 h)
      clear hz1 hk1 hFc hD1 hK1 hvm
      generalize H1 = H at hP hS ⊢
      have rg_x_8 := i_rng x_8
      have rg_x_9 := i_rng x_9
      have rg_x_10 := i_rng x_10
      have rg_x_11 := i_rng x_11
      have rg_x_12 := i_rng x_12
      have rg_x_13 := i_rng x_13
      have rg_x_14 := i_rng x_14
      have rg_x_15 := i_rng x_15
      have hP : va_P (dC, dI) vwCl (mW ad kc x0 x1 x2 x3 x4 x5 x6 x7 x8 x9 x10 x11 x_8 x_9 x_10 x_11 x_12 x_13 x_14 x_15 x20 x21 f0 f1 f2 f_16 f_17 f_18 f_19 f_20 f_21 f_22 f_23 f_24 f12 f13 f14 f15 f16 f17 f18 f19 f20 f21 L_25 Nn_26 P_27 M_28 O_29) H := hP
      have hD : va_D A (mW ad kc x0 x1 x2 x3 x4 x5 x6 x7 x8 x9 x10 x11 x_8 x_9 x_10 x_11 x_12 x_13 x_14 x_15 x20 x21 f0 f1 f2 f_16 f_17 f_18 f_19 f_20 f_21 f_22 f_23 f_24 f12 f13 f14 f15 f16 f17 f18 f19 f20 f21 L_25 Nn_26 P_27 M_28 O_29) := hD
      have hPI9 := hr_7_0
      have hN9 := hr_7_1
      have hN9a := hN9.2.1
      have hN9b := hN9.1
      have hEx9 := hr_7_2
      obtain ⟨n9, hn9⟩ : ∃ n9 : Int, n9 = vI f_23 0 := ⟨_, rfl⟩
      refine lv_aload_n hx hb dX10_within_27 rfl (lv_at hl 0 rfl) ?_
      refine va_get (D := (dC, dI)) (ci := 10) (v := .ref (ad 11)) (C := RX10) (T := TX10) (N := 48) hx hb hts fin_X10_withinm_X10 hown hK hP 0 rfl rfl 30 (by decide) (hts (.fieldLink RX10 64 "PatternGateModel" "needMany" "[I") (List.mem_of_getElem? (i := 11) (by decide +kernel))) (fun _ h9 => h9) rfl dX10_within_28 ?_
      refine lv_iconst (v := 0) hx hb dX10_within_31 (by decide) ?_
      refine va_iald hx hb hK hP 11 10 rfl rfl (i := 0) (by unfold vp_in; decide +kernel) dX10_within_32 ?_
      refine lv_topi (fun y_30 ey_30 => ?_)
      have rg_y_30 := i_rng y_30
      have vy_30 := vI_lda (f := f_23) (i := 0) (a := 0) ey_30 (by first | omega | decide)
      have rg_y_30 := i_rng y_30
      refine lv_istore_n (lv' := [(3, .int y_30), (0, .ref (ad 0)), (1, .int i1), (2, .int i2)]) hx hb dX10_within_33 rfl hl (by decide) rfl (fun ls hl => ?_)
      refine lv_iconst (v := 0) hx hb dX10_within_34 (by decide) ?_
      refine lv_istore (lv' := [(4, .int 0), (3, .int y_30), (0, .ref (ad 0)), (1, .int i1), (2, .int i2)]) hx hb dX10_within_35 hl (by decide) rfl (fun ls hl => ?_)
      have loop37 : ∀ (lm37 : Nat) (kk : Int32) (hn : Nat → Nat → Int32) (hm : Nat → Nat → Int32) (ho : Nat → Nat → Int32), (0 ≤ kk.toInt ∧ kk.toInt ≤ 12) → (∀ a, IR a → a < 1300 → (rO hn hm ho) a = (rO Nn_26 M_28 O_29) a) → (∀ j : Nat, (j : Int) < kk.toInt → 0 ≤ vI ((rO hn hm ho) (1300 + j)) 0 ∧ vI ((rO hn hm ho) (1300 + j)) 0 ≤ 24) → (kk.toInt ≤ n9) → ((12 - kk.toInt).toNat) < lm37 → ∀ (H : Heap) (locs : List Loc) (ls : Array Slot), va_P (dC, dI) vwCl (mW ad kc x0 x1 x2 x3 x4 x5 x6 x7 x8 x9 x10 x11 x_8 x_9 x_10 x_11 x_12 x_13 x_14 x_15 x20 x21 f0 f1 f2 f_16 f_17 f_18 f_19 f_20 f_21 f_22 f_23 f_24 f12 f13 f14 f15 f16 f17 f18 f19 f20 f21 L_25 hn P_27 hm ho) H → va_D A (mW ad kc x0 x1 x2 x3 x4 x5 x6 x7 x8 x9 x10 x11 x_8 x_9 x_10 x_11 x_12 x_13 x_14 x_15 x20 x21 f0 f1 f2 f_16 f_17 f_18 f_19 f_20 f_21 f_22 f_23 f_24 f12 f13 f14 f15 f16 f17 f18 f19 f20 f21 L_25 hn P_27 hm ho) → va_S A s.heap H locs → lv_has ls 8 [(4, .int kk), (3, .int y_30), (0, .ref (ad 0)), (1, .int i1), (2, .int i2)] → W p l e (headSpec mwX10_withinm ({ frames := 42, cells := 0, slots := 0, locals := 2520 })).room s m ([.ref (ad 0), .int i1, .int i2]).toArray below meth c H locs 0 0 (MQ below (va_Qi (fun (o9 u9 : Int32) => o9 = u9) (fun (o9 : Int32) t => ∃ (y0 y12 y13 y14 y15 y16 y17 y18 y19 : Int32) (g3 g4 g5 g6 g7 g8 g9 g10 g11 : Nat → Int32) (L9 : Nat → Nat → Int64) (Nn9 : Nat → Nat → Int32) (P9 : Nat → Nat → Nat) (M9 : Nat → Nat → Int32) (O9 : Nat → Nat → Int32), (PI P9) ∧ va_P (dC, dI) vwCl (mW ad kc y0 x1 x2 x3 x4 x5 x6 x7 x8 x9 x10 x11 y12 y13 y14 y15 y16 y17 y18 y19 x20 x21 f0 f1 f2 g3 g4 g5 g6 g7 g8 g9 g10 g11 f12 f13 f14 f15 f16 f17 f18 f19 f20 f21 L9 Nn9 P9 M9 O9) t.heap ∧ va_K (dC, dI) vwCl (mT kc) t ∧ va_D A (mW ad kc y0 x1 x2 x3 x4 x5 x6 x7 x8 x9 x10 x11 y12 y13 y14 y15 y16 y17 y18 y19 x20 x21 f0 f1 f2 g3 g4 g5 g6 g7 g8 g9 g10 g11 f12 f13 f14 f15 f16 f17 f18 f19 f20 f21 L9 Nn9 P9 M9 O9)) A) ([.ref (ad 0), .int i1, .int i2]).toArray s 0 0 A) (F0 m 37 ls []) := by
        intro lm37
        induction lm37 with
        | zero => intro kk hn hm ho v37_0 v37_1 v37_2 v37_3 hm37; exact absurd hm37 (Nat.not_lt_zero _)
        | succ lm37 ih37 =>
          intro kk hn hm ho v37_0 v37_1 v37_2 v37_3 hm37 H locs ls hP hD hS hl
          have rg_kk := i_rng kk
          refine lv_iload hx hb dX10_within_37 (lv_at hl 0 rfl) ?_
          refine lv_iload_n hx hb dX10_within_39 rfl (lv_at hl 1 rfl) ?_
          refine lv_icmp_ge (tgt := 68) hx hb dX10_within_40 (by decide) (fun k_31 => ?_) (fun k_31 => ?_)
          · have tk_31 := c_ge (a := kk.toInt) (b := y_30.toInt) rfl rfl k_31
            refine lv_aload_n hx hb dX10_within_68 rfl (lv_at hl 2 rfl) ?_
            refine lv_iload_n hx hb dX10_within_69 rfl (lv_at hl 3 rfl) ?_
            have hFc := m_free hD hS hA
            refine va_callv (va_runV (As := [.int i1]) (rest := []) ⟨hx, hb, hml, hown, hts⟩ (m_needsOf l dC dI ad kc x0 x1 x2 x3 x4 x5 x6 x7 x8 x9 x10 x11 x_8 x_9 x_10 x_11 x_12 x_13 x_14 x_15 x20 x21 f0 f1 f2 f_16 f_17 f_18 f_19 f_20 f_21 f_22 f_23 f_24 f12 f13 f14 f15 f16 f17 f18 f19 f20 f21 L_25 hn P_27 hm ho H.size i1 (by first | omega | assumption | decide | (have l0 := Int32.toInt_zero; omega)) (by first | omega | assumption | decide | (have l0 := Int32.toInt_zero; omega)) (by first | omega | assumption | decide | (have l0 := Int32.toInt_zero; omega))) (cwV 1 hts mg_X10_withinm_X10_needsOf_420 rfl rfl rfl (by decide +kernel) ⟨Nat.le_of_ble_eq_true rfl, Nat.le_of_ble_eq_true rfl⟩) ⟨fun a U g mk q => by obtain ⟨q0, q1, qP, qK, qD, qE⟩ := q; exact ⟨q0, q1, qP, va_K.moved (u := U) (U := U.calling g mk a) (Vm.Alike.refl U.vm) qK, qD, over_moved (u := U) (E := U.calling g mk a) (Vm.Alike.refl U.vm) qE⟩, va_recv hK hP (ci := 10) (q0 := 0) rfl rfl, fun U hU hW => ⟨rfl, by rw [hU], by rw [hU]; exact hP, va_K.moved hW.alike hK, hD.weaken (fun _ _ _ _ => trivial), over_moved hW.alike hOV⟩⟩ rfl rfl hl.1 rfl (lv_room (Nat.le_of_ble_eq_true rfl)) dX10_within_70 ⟨Nat.le_of_ble_eq_true rfl, Nat.le_of_ble_eq_true rfl⟩) hS (fun q _ h => hFc q h) hFc (fun u t H1 locs ht hvm hw hB hz1 hk1 hS => ?_)
            obtain ⟨x_33, x_34, x_35, x_36, x_37, x_38, x_39, x_40, f_41, f_42, f_43, f_44, f_45, f_46, f_47, f_48, f_49, L_50, Nn_51, P_52, M_53, O_54, hr_32_0, hr_32_1, hr_32_2, hr_32_3, hr_32_4, hP, hK1, hD1⟩ := hB
            rw [ht] at hP
            have hD := hD1.weaken (fun k q _ h => hFc q.1 h)
            clear hz1 hk1 hFc hD1 hK1 hvm
            generalize H1 = H at hP hS ⊢
            have rg_x_33 := i_rng x_33
            have rg_x_34 := i_rng x_34
            have rg_x_35 := i_rng x_35
            have rg_x_36 := i_rng x_36
            have rg_x_37 := i_rng x_37
            have rg_x_38 := i_rng x_38
            have rg_x_39 := i_rng x_39
            have rg_x_40 := i_rng x_40
            have hP : va_P (dC, dI) vwCl (mW ad kc x0 x1 x2 x3 x4 x5 x6 x7 x8 x9 x10 x11 x_33 x_34 x_35 x_36 x_37 x_38 x_39 x_40 x20 x21 f0 f1 f2 f_41 f_42 f_43 f_44 f_45 f_46 f_47 f_48 f_49 f12 f13 f14 f15 f16 f17 f18 f19 f20 f21 L_50 Nn_51 P_52 M_53 O_54) H := hP
            have hD : va_D A (mW ad kc x0 x1 x2 x3 x4 x5 x6 x7 x8 x9 x10 x11 x_33 x_34 x_35 x_36 x_37 x_38 x_39 x_40 x20 x21 f0 f1 f2 f_41 f_42 f_43 f_44 f_45 f_46 f_47 f_48 f_49 f12 f13 f14 f15 f16 f17 f18 f19 f20 f21 L_50 Nn_51 P_52 M_53 O_54) := hD
            have hPI9 := hr_32_0
            have hN8 := hr_32_1
            have hN8a := hN8.2.1
            have hO9 : ∀ j : Nat, (j : Int) < n9 → 0 ≤ vI ((rO Nn_51 M_53 O_54) (1300 + j)) 0 ∧ vI ((rO Nn_51 M_53 O_54) (1300 + j)) 0 ≤ 24 := fun j hj => by rw [hr_32_4 (1300 + j) (by unfold IR; omega) (by omega)]; exact v37_2 j (by omega)
            refine lv_iconst (v := 1) hx hb dX10_within_73 (by decide) ?_
            refine lv_istore (lv' := [(4, .int 1), (3, .int y_30), (0, .ref (ad 0)), (1, .int i1), (2, .int i2)]) hx hb dX10_within_74 hl (by decide) rfl (fun ls hl => ?_)
            refine lv_iconst (v := 0) hx hb dX10_within_76 (by decide) ?_
            refine lv_istore (lv' := [(5, .int 0), (4, .int 1), (3, .int y_30), (0, .ref (ad 0)), (1, .int i1), (2, .int i2)]) hx hb dX10_within_77 hl (by decide) rfl (fun ls hl => ?_)
            have loop79 : ∀ (lm79 : Nat) (al ii : Int32), (0 ≤ ii.toInt ∧ ii.toInt ≤ 12) → ((12 - ii.toInt).toNat) < lm79 → ∀ (H : Heap) (locs : List Loc) (ls : Array Slot), va_P (dC, dI) vwCl (mW ad kc x0 x1 x2 x3 x4 x5 x6 x7 x8 x9 x10 x11 x_33 x_34 x_35 x_36 x_37 x_38 x_39 x_40 x20 x21 f0 f1 f2 f_41 f_42 f_43 f_44 f_45 f_46 f_47 f_48 f_49 f12 f13 f14 f15 f16 f17 f18 f19 f20 f21 L_50 Nn_51 P_52 M_53 O_54) H → va_D A (mW ad kc x0 x1 x2 x3 x4 x5 x6 x7 x8 x9 x10 x11 x_33 x_34 x_35 x_36 x_37 x_38 x_39 x_40 x20 x21 f0 f1 f2 f_41 f_42 f_43 f_44 f_45 f_46 f_47 f_48 f_49 f12 f13 f14 f15 f16 f17 f18 f19 f20 f21 L_50 Nn_51 P_52 M_53 O_54) → va_S A s.heap H locs → lv_has ls 8 [(5, .int ii), (4, .int al), (3, .int y_30), (0, .ref (ad 0)), (1, .int i1), (2, .int i2)] → W p l e (headSpec mwX10_withinm ({ frames := 42, cells := 0, slots := 0, locals := 2520 })).room s m ([.ref (ad 0), .int i1, .int i2]).toArray below meth c H locs 0 0 (MQ below (va_Qi (fun (o9 u9 : Int32) => o9 = u9) (fun (o9 : Int32) t => ∃ (y0 y12 y13 y14 y15 y16 y17 y18 y19 : Int32) (g3 g4 g5 g6 g7 g8 g9 g10 g11 : Nat → Int32) (L9 : Nat → Nat → Int64) (Nn9 : Nat → Nat → Int32) (P9 : Nat → Nat → Nat) (M9 : Nat → Nat → Int32) (O9 : Nat → Nat → Int32), (PI P9) ∧ va_P (dC, dI) vwCl (mW ad kc y0 x1 x2 x3 x4 x5 x6 x7 x8 x9 x10 x11 y12 y13 y14 y15 y16 y17 y18 y19 x20 x21 f0 f1 f2 g3 g4 g5 g6 g7 g8 g9 g10 g11 f12 f13 f14 f15 f16 f17 f18 f19 f20 f21 L9 Nn9 P9 M9 O9) t.heap ∧ va_K (dC, dI) vwCl (mT kc) t ∧ va_D A (mW ad kc y0 x1 x2 x3 x4 x5 x6 x7 x8 x9 x10 x11 y12 y13 y14 y15 y16 y17 y18 y19 x20 x21 f0 f1 f2 g3 g4 g5 g6 g7 g8 g9 g10 g11 f12 f13 f14 f15 f16 f17 f18 f19 f20 f21 L9 Nn9 P9 M9 O9)) A) ([.ref (ad 0), .int i1, .int i2]).toArray s 0 0 A) (F0 m 79 ls []) := by
              intro lm79
              induction lm79 with
              | zero => intro al ii v79_0 hm79; exact absurd hm79 (Nat.not_lt_zero _)
              | succ lm79 ih79 =>
                intro al ii v79_0 hm79 H locs ls hP hD hS hl
                have rg_al := i_rng al
                have rg_ii := i_rng ii
                refine lv_iload hx hb dX10_within_79 (lv_at hl 0 rfl) ?_
                refine lv_aload_n hx hb dX10_within_81 rfl (lv_at hl 3 rfl) ?_
                refine va_get (D := (dC, dI)) (ci := 10) (v := .ref (ad 11)) (C := RX10) (T := TX10) (N := 48) hx hb hts fin_X10_withinm_X10 hown hK hP 0 rfl rfl 30 (by decide) (hts (.fieldLink RX10 64 "PatternGateModel" "needMany" "[I") (List.mem_of_getElem? (i := 11) (by decide +kernel))) (fun _ h9 => h9) rfl dX10_within_82 ?_
                refine lv_iconst (v := 0) hx hb dX10_within_85 (by decide) ?_
                refine va_iald hx hb hK hP 11 10 rfl rfl (i := 0) (by unfold vp_in; decide +kernel) dX10_within_86 ?_
                refine lv_topi (fun y_55 ey_55 => ?_)
                have rg_y_55 := i_rng y_55
                have vy_55 := vI_lda (f := f_48) (i := 0) (a := 0) ey_55 (by first | omega | decide)
                have rg_y_55 := i_rng y_55
                refine lv_icmp_ge (tgt := 165) hx hb dX10_within_87 (by decide) (fun k_56 => ?_) (fun k_56 => ?_)
                · have tk_56 := c_ge (a := ii.toInt) (b := y_55.toInt) rfl rfl k_56
                  refine lv_aload_n hx hb dX10_within_165 rfl (lv_at hl 3 rfl) ?_
                  refine lv_iload hx hb dX10_within_166 (lv_at hl 1 rfl) ?_
                  refine lv_if_eq (tgt := 175) hx hb dX10_within_168 (by decide) (fun k_57 => ?_) (fun k_57 => ?_)
                  · have tk_57 := c_eq (a := al.toInt) (b := 0) rfl (by decide) k_57
                    refine lv_iconst (v := 0) hx hb dX10_within_175 (by decide) ?_
                    have hFc := m_free hD hS hA
                    refine va_calli (va_runV (As := [.int 0]) (rest := []) ⟨hx, hb, hml, hown, hts⟩ (m_gives l dC dI ad kc x0 x1 x2 x3 x4 x5 x6 x7 x8 x9 x10 x11 x_33 x_34 x_35 x_36 x_37 x_38 x_39 x_40 x20 x21 f0 f1 f2 f_41 f_42 f_43 f_44 f_45 f_46 f_47 f_48 f_49 f12 f13 f14 f15 f16 f17 f18 f19 f20 f21 L_50 Nn_51 P_52 M_53 O_54 H.size 0 ) (cwV 1 hts mg_X10_withinm_X10_gives_214 rfl rfl rfl (by decide +kernel) ⟨Nat.le_of_ble_eq_true rfl, Nat.le_of_ble_eq_true rfl⟩) ⟨fun a U g mk q => by obtain ⟨q0, q1, qP, qK, qD⟩ := q; exact ⟨q0, q1, qP, va_K.moved (u := U) (U := U.calling g mk a) (Vm.Alike.refl U.vm) qK, qD⟩, va_recv hK hP (ci := 10) (q0 := 0) rfl rfl, fun U hU hW => ⟨rfl, by rw [hU], by rw [hU]; exact hP, va_K.moved hW.alike hK, hD.weaken (fun _ _ _ _ => trivial)⟩⟩ rfl rfl hl.1 rfl (lv_room (Nat.le_of_ble_eq_true rfl)) dX10_within_176 ⟨Nat.le_of_ble_eq_true rfl, Nat.le_of_ble_eq_true rfl⟩) hS (fun q _ h => hFc q h) hFc (fun r_58 u t H1 locs ht hvm hw hB hz1 hk1 hS => ?_)
                    subst hw
                    obtain ⟨hr_58_0, hP, hK1, hD1⟩ := hB
                    rw [ht] at hP
                    have hD := hD1.weaken (fun k q _ h => hFc q.1 h)
                    clear hz1 hk1 hFc hD1 hK1 hvm
                    generalize H1 = H at hP hS ⊢
                    have rg_r_58 := i_rng r_58
                    have hP : va_P (dC, dI) vwCl (mW ad kc 0 x1 x2 x3 x4 x5 x6 x7 x8 x9 x10 x11 x_33 x_34 x_35 x_36 x_37 x_38 x_39 x_40 x20 x21 f0 f1 f2 f_41 f_42 f_43 f_44 f_45 f_46 f_47 f_48 f_49 f12 f13 f14 f15 f16 f17 f18 f19 f20 f21 L_50 Nn_51 P_52 M_53 O_54) H := hP
                    have hD : va_D A (mW ad kc 0 x1 x2 x3 x4 x5 x6 x7 x8 x9 x10 x11 x_33 x_34 x_35 x_36 x_37 x_38 x_39 x_40 x20 x21 f0 f1 f2 f_41 f_42 f_43 f_44 f_45 f_46 f_47 f_48 f_49 f12 f13 f14 f15 f16 f17 f18 f19 f20 f21 L_50 Nn_51 P_52 M_53 O_54) := hD
                    have lit_58 : (0 : Int32).toInt = 0 := by decide
                    exact W.iret hx hb hr (fun t ht hW => ⟨⟨_, _, rfl, rfl, 0, x_33, x_34, x_35, x_36, x_37, x_38, x_39, x_40, f_41, f_42, f_43, f_44, f_45, f_46, f_47, f_48, f_49, L_50, Nn_51, P_52, M_53, O_54, hPI9, by rw [ht]; exact hP, va_K.moved hW.alike hK, hD⟩, hS.F ht⟩) hS.2.2 dX10_within_179
                  · have tk_57 := c_ne (a := al.toInt) (b := 0) rfl (by decide) k_57
                    refine lv_iconst (v := 1) hx hb dX10_within_171 (by decide) ?_
                    refine lv_goto (tgt := 176) hx hb dX10_within_172 (by decide) ?_
                    have hFc := m_free hD hS hA
                    refine va_calli (va_runV (As := [.int 1]) (rest := []) ⟨hx, hb, hml, hown, hts⟩ (m_gives l dC dI ad kc x0 x1 x2 x3 x4 x5 x6 x7 x8 x9 x10 x11 x_33 x_34 x_35 x_36 x_37 x_38 x_39 x_40 x20 x21 f0 f1 f2 f_41 f_42 f_43 f_44 f_45 f_46 f_47 f_48 f_49 f12 f13 f14 f15 f16 f17 f18 f19 f20 f21 L_50 Nn_51 P_52 M_53 O_54 H.size 1 ) (cwV 1 hts mg_X10_withinm_X10_gives_214 rfl rfl rfl (by decide +kernel) ⟨Nat.le_of_ble_eq_true rfl, Nat.le_of_ble_eq_true rfl⟩) ⟨fun a U g mk q => by obtain ⟨q0, q1, qP, qK, qD⟩ := q; exact ⟨q0, q1, qP, va_K.moved (u := U) (U := U.calling g mk a) (Vm.Alike.refl U.vm) qK, qD⟩, va_recv hK hP (ci := 10) (q0 := 0) rfl rfl, fun U hU hW => ⟨rfl, by rw [hU], by rw [hU]; exact hP, va_K.moved hW.alike hK, hD.weaken (fun _ _ _ _ => trivial)⟩⟩ rfl rfl hl.1 rfl (lv_room (Nat.le_of_ble_eq_true rfl)) dX10_within_176 ⟨Nat.le_of_ble_eq_true rfl, Nat.le_of_ble_eq_true rfl⟩) hS (fun q _ h => hFc q h) hFc (fun r_60 u t H1 locs ht hvm hw hB hz1 hk1 hS => ?_)
                    subst hw
                    obtain ⟨hr_60_0, hP, hK1, hD1⟩ := hB
                    rw [ht] at hP
                    have hD := hD1.weaken (fun k q _ h => hFc q.1 h)
                    clear hz1 hk1 hFc hD1 hK1 hvm
                    generalize H1 = H at hP hS ⊢
                    have rg_r_60 := i_rng r_60
                    have hP : va_P (dC, dI) vwCl (mW ad kc 0 x1 x2 x3 x4 x5 x6 x7 x8 x9 x10 x11 x_33 x_34 x_35 x_36 x_37 x_38 x_39 x_40 x20 x21 f0 f1 f2 f_41 f_42 f_43 f_44 f_45 f_46 f_47 f_48 f_49 f12 f13 f14 f15 f16 f17 f18 f19 f20 f21 L_50 Nn_51 P_52 M_53 O_54) H := hP
                    have hD : va_D A (mW ad kc 0 x1 x2 x3 x4 x5 x6 x7 x8 x9 x10 x11 x_33 x_34 x_35 x_36 x_37 x_38 x_39 x_40 x20 x21 f0 f1 f2 f_41 f_42 f_43 f_44 f_45 f_46 f_47 f_48 f_49 f12 f13 f14 f15 f16 f17 f18 f19 f20 f21 L_50 Nn_51 P_52 M_53 O_54) := hD
                    have lit_60 : (0 : Int32).toInt = 0 := by decide
                    exact W.iret hx hb hr (fun t ht hW => ⟨⟨_, _, rfl, rfl, 0, x_33, x_34, x_35, x_36, x_37, x_38, x_39, x_40, f_41, f_42, f_43, f_44, f_45, f_46, f_47, f_48, f_49, L_50, Nn_51, P_52, M_53, O_54, hPI9, by rw [ht]; exact hP, va_K.moved hW.alike hK, hD⟩, hS.F ht⟩) hS.2.2 dX10_within_179
                · have tk_56 := c_nge (a := ii.toInt) (b := y_55.toInt) rfl rfl k_56
                  refine lv_iconst (v := 0) hx hb dX10_within_90 (by decide) ?_
                  refine lv_istore (lv' := [(6, .int 0), (5, .int ii), (4, .int al), (3, .int y_30), (0, .ref (ad 0)), (1, .int i1), (2, .int i2)]) hx hb dX10_within_91 hl (by decide) rfl (fun ls hl => ?_)
                  refine lv_iconst (v := 0) hx hb dX10_within_93 (by decide) ?_
                  refine lv_istore (lv' := [(7, .int 0), (6, .int 0), (5, .int ii), (4, .int al), (3, .int y_30), (0, .ref (ad 0)), (1, .int i1), (2, .int i2)]) hx hb dX10_within_94 hl (by decide) rfl (fun ls hl => ?_)
                  have loop96 : ∀ (lm96 : Nat) (so k2 : Int32), (0 ≤ k2.toInt ∧ k2.toInt ≤ 12) → ((12 - k2.toInt).toNat) < lm96 → ∀ (H : Heap) (locs : List Loc) (ls : Array Slot), va_P (dC, dI) vwCl (mW ad kc x0 x1 x2 x3 x4 x5 x6 x7 x8 x9 x10 x11 x_33 x_34 x_35 x_36 x_37 x_38 x_39 x_40 x20 x21 f0 f1 f2 f_41 f_42 f_43 f_44 f_45 f_46 f_47 f_48 f_49 f12 f13 f14 f15 f16 f17 f18 f19 f20 f21 L_50 Nn_51 P_52 M_53 O_54) H → va_D A (mW ad kc x0 x1 x2 x3 x4 x5 x6 x7 x8 x9 x10 x11 x_33 x_34 x_35 x_36 x_37 x_38 x_39 x_40 x20 x21 f0 f1 f2 f_41 f_42 f_43 f_44 f_45 f_46 f_47 f_48 f_49 f12 f13 f14 f15 f16 f17 f18 f19 f20 f21 L_50 Nn_51 P_52 M_53 O_54) → va_S A s.heap H locs → lv_has ls 8 [(7, .int k2), (6, .int so), (5, .int ii), (4, .int al), (3, .int y_30), (0, .ref (ad 0)), (1, .int i1), (2, .int i2)] → W p l e (headSpec mwX10_withinm ({ frames := 42, cells := 0, slots := 0, locals := 2520 })).room s m ([.ref (ad 0), .int i1, .int i2]).toArray below meth c H locs 0 0 (MQ below (va_Qi (fun (o9 u9 : Int32) => o9 = u9) (fun (o9 : Int32) t => ∃ (y0 y12 y13 y14 y15 y16 y17 y18 y19 : Int32) (g3 g4 g5 g6 g7 g8 g9 g10 g11 : Nat → Int32) (L9 : Nat → Nat → Int64) (Nn9 : Nat → Nat → Int32) (P9 : Nat → Nat → Nat) (M9 : Nat → Nat → Int32) (O9 : Nat → Nat → Int32), (PI P9) ∧ va_P (dC, dI) vwCl (mW ad kc y0 x1 x2 x3 x4 x5 x6 x7 x8 x9 x10 x11 y12 y13 y14 y15 y16 y17 y18 y19 x20 x21 f0 f1 f2 g3 g4 g5 g6 g7 g8 g9 g10 g11 f12 f13 f14 f15 f16 f17 f18 f19 f20 f21 L9 Nn9 P9 M9 O9) t.heap ∧ va_K (dC, dI) vwCl (mT kc) t ∧ va_D A (mW ad kc y0 x1 x2 x3 x4 x5 x6 x7 x8 x9 x10 x11 y12 y13 y14 y15 y16 y17 y18 y19 x20 x21 f0 f1 f2 g3 g4 g5 g6 g7 g8 g9 g10 g11 f12 f13 f14 f15 f16 f17 f18 f19 f20 f21 L9 Nn9 P9 M9 O9)) A) ([.ref (ad 0), .int i1, .int i2]).toArray s 0 0 A) (F0 m 96 ls []) := by
                    intro lm96
                    induction lm96 with
                    | zero => intro so k2 v96_0 hm96; exact absurd hm96 (Nat.not_lt_zero _)
                    | succ lm96 ih96 =>
                      intro so k2 v96_0 hm96 H locs ls hP hD hS hl
                      have rg_so := i_rng so
                      have rg_k2 := i_rng k2
                      refine lv_iload hx hb dX10_within_96 (lv_at hl 0 rfl) ?_
                      refine lv_iload_n hx hb dX10_within_98 rfl (lv_at hl 4 rfl) ?_
                      refine lv_icmp_ge (tgt := 142) hx hb dX10_within_99 (by decide) (fun k_62 => ?_) (fun k_62 => ?_)
                      · have tk_62 := c_ge (a := k2.toInt) (b := y_30.toInt) rfl rfl k_62
                        refine lv_iload hx hb dX10_within_142 (lv_at hl 3 rfl) ?_
                        refine lv_if_eq (tgt := 156) hx hb dX10_within_144 (by decide) (fun k_63 => ?_) (fun k_63 => ?_)
                        · have tk_63 := c_eq (a := al.toInt) (b := 0) rfl (by decide) k_63
                          refine lv_iconst (v := 0) hx hb dX10_within_156 (by decide) ?_
                          refine lv_istore (lv' := [(4, .int 0), (7, .int k2), (6, .int so), (5, .int ii), (3, .int y_30), (0, .ref (ad 0)), (1, .int i1), (2, .int i2)]) hx hb dX10_within_157 hl (by decide) rfl (fun ls hl => ?_)
                          obtain ⟨y_64, ey_64⟩ : ∃ y : Int32, y = ii + 1 := ⟨_, rfl⟩
                          first | have ty_64 := i_add (a := ii.toInt) (b := 1) rfl (by decide) ey_64 (by omega) (by omega) | skip
                          refine lv_iinc (v := y_64) (lv' := [(5, .int y_64), (4, .int 0), (7, .int k2), (6, .int so), (3, .int y_30), (0, .ref (ad 0)), (1, .int i1), (2, .int i2)]) hx hb dX10_within_159 hl (k := 3) rfl (by rw [ey_64]; rfl) (by decide) rfl (fun ls hl => ?_)
                          refine lv_goto (tgt := 79) hx hb dX10_within_162 (by decide) ?_
                          have lit_64 : (0 : Int32).toInt = 0 := by decide
                          exact ih79 0 y_64 (by first | omega | assumption | decide) (by omega) _ _ ls hP hD hS (lv_sub hl [0, 1, 4, 5, 6, 7] rfl)
                        · have tk_63 := c_ne (a := al.toInt) (b := 0) rfl (by decide) k_63
                          refine lv_iload hx hb dX10_within_147 (lv_at hl 1 rfl) ?_
                          refine lv_if_eq (tgt := 156) hx hb dX10_within_149 (by decide) (fun k_66 => ?_) (fun k_66 => ?_)
                          · have tk_66 := c_eq (a := so.toInt) (b := 0) rfl (by decide) k_66
                            refine lv_iconst (v := 0) hx hb dX10_within_156 (by decide) ?_
                            refine lv_istore (lv' := [(4, .int 0), (7, .int k2), (6, .int so), (5, .int ii), (3, .int y_30), (0, .ref (ad 0)), (1, .int i1), (2, .int i2)]) hx hb dX10_within_157 hl (by decide) rfl (fun ls hl => ?_)
                            obtain ⟨y_67, ey_67⟩ : ∃ y : Int32, y = ii + 1 := ⟨_, rfl⟩
                            first | have ty_67 := i_add (a := ii.toInt) (b := 1) rfl (by decide) ey_67 (by omega) (by omega) | skip
                            refine lv_iinc (v := y_67) (lv' := [(5, .int y_67), (4, .int 0), (7, .int k2), (6, .int so), (3, .int y_30), (0, .ref (ad 0)), (1, .int i1), (2, .int i2)]) hx hb dX10_within_159 hl (k := 3) rfl (by rw [ey_67]; rfl) (by decide) rfl (fun ls hl => ?_)
                            refine lv_goto (tgt := 79) hx hb dX10_within_162 (by decide) ?_
                            have lit_67 : (0 : Int32).toInt = 0 := by decide
                            exact ih79 0 y_67 (by first | omega | assumption | decide) (by omega) _ _ ls hP hD hS (lv_sub hl [0, 1, 4, 5, 6, 7] rfl)
                          · have tk_66 := c_ne (a := so.toInt) (b := 0) rfl (by decide) k_66
                            refine lv_iconst (v := 1) hx hb dX10_within_152 (by decide) ?_
                            refine lv_goto (tgt := 157) hx hb dX10_within_153 (by decide) ?_
                            refine lv_istore (lv' := [(4, .int 1), (7, .int k2), (6, .int so), (5, .int ii), (3, .int y_30), (0, .ref (ad 0)), (1, .int i1), (2, .int i2)]) hx hb dX10_within_157 hl (by decide) rfl (fun ls hl => ?_)
                            obtain ⟨y_69, ey_69⟩ : ∃ y : Int32, y = ii + 1 := ⟨_, rfl⟩
                            first | have ty_69 := i_add (a := ii.toInt) (b := 1) rfl (by decide) ey_69 (by omega) (by omega) | skip
                            refine lv_iinc (v := y_69) (lv' := [(5, .int y_69), (4, .int 1), (7, .int k2), (6, .int so), (3, .int y_30), (0, .ref (ad 0)), (1, .int i1), (2, .int i2)]) hx hb dX10_within_159 hl (k := 3) rfl (by rw [ey_69]; rfl) (by decide) rfl (fun ls hl => ?_)
                            refine lv_goto (tgt := 79) hx hb dX10_within_162 (by decide) ?_
                            have lit_69 : (1 : Int32).toInt = 1 := by decide
                            exact ih79 1 y_69 (by first | omega | assumption | decide) (by omega) _ _ ls hP hD hS (lv_sub hl [0, 1, 4, 5, 6, 7] rfl)
                      · have tk_62 := c_nge (a := k2.toInt) (b := y_30.toInt) rfl rfl k_62
                        refine lv_iload hx hb dX10_within_102 (lv_at hl 1 rfl) ?_
                        refine lv_if_ne (tgt := 129) hx hb dX10_within_104 (by decide) (fun k_71 => ?_) (fun k_71 => ?_)
                        · have tk_71 := c_ne (a := so.toInt) (b := 0) rfl (by decide) k_71
                          refine lv_iconst (v := 1) hx hb dX10_within_129 (by decide) ?_
                          refine lv_goto (tgt := 134) hx hb dX10_within_130 (by decide) ?_
                          refine lv_istore (lv' := [(6, .int 1), (7, .int k2), (5, .int ii), (4, .int al), (3, .int y_30), (0, .ref (ad 0)), (1, .int i1), (2, .int i2)]) hx hb dX10_within_134 hl (by decide) rfl (fun ls hl => ?_)
                          obtain ⟨y_72, ey_72⟩ : ∃ y : Int32, y = k2 + 1 := ⟨_, rfl⟩
                          first | have ty_72 := i_add (a := k2.toInt) (b := 1) rfl (by decide) ey_72 (by omega) (by omega) | skip
                          refine lv_iinc (v := y_72) (lv' := [(7, .int y_72), (6, .int 1), (5, .int ii), (4, .int al), (3, .int y_30), (0, .ref (ad 0)), (1, .int i1), (2, .int i2)]) hx hb dX10_within_136 hl (k := 1) rfl (by rw [ey_72]; rfl) (by decide) rfl (fun ls hl => ?_)
                          refine lv_goto (tgt := 96) hx hb dX10_within_139 (by decide) ?_
                          have lit_72 : (1 : Int32).toInt = 1 := by decide
                          exact ih96 1 y_72 (by first | omega | assumption | decide) (by omega) _ _ ls hP hD hS (lv_sub hl [0, 1, 2, 3, 4, 5, 6, 7] rfl)
                        · have tk_71 := c_eq (a := so.toInt) (b := 0) rfl (by decide) k_71
                          refine lv_aload_n hx hb dX10_within_107 rfl (lv_at hl 5 rfl) ?_
                          refine va_get (D := (dC, dI)) (ci := 10) (v := .ref (ad 24)) (C := RX10) (T := TX10) (N := 48) hx hb hts fin_X10_withinm_X10 hown hK hP 0 rfl rfl 28 (by decide) (hts (.fieldLink RX10 56 "PatternGateModel" "needs" "[[[I") (List.mem_of_getElem? (i := 15) (by decide +kernel))) (fun _ h9 => h9) rfl dX10_within_108 ?_
                          refine lv_iconst (v := 0) hx hb dX10_within_111 (by decide) ?_
                          refine m_aak hx hb hK hP 24 23 (k := 0) (b := ad (200 + 0)) rfl rfl rfl (i := 0) (by decide) (by omega) rfl dX10_within_112 ?_
                          refine lv_iload hx hb dX10_within_113 (lv_at hl 2 rfl) ?_
                          refine m_aak hx hb hK hP (117 + 0) 27 (k := ii.toInt.toNat) (b := ad (300 + (12 * 0 + P_52 0 ii.toInt.toNat))) (mW_P (by omega)) rfl rfl (i := ii) (by omega) (by omega) rfl dX10_within_115 ?_
                          have hp115 := (hPI9 0 ii.toInt.toNat (by omega)).1
                          refine lv_aload_n hx hb dX10_within_116 rfl (lv_at hl 5 rfl) ?_
                          refine va_get (D := (dC, dI)) (ci := 10) (v := .ref (ad 26)) (C := RX10) (T := TX10) (N := 48) hx hb hts fin_X10_withinm_X10 hown hK hP 0 rfl rfl 47 (by decide) (hts (.fieldLink RX10 101 "PatternGateModel" "other0" "[[I") (List.mem_of_getElem? (i := 16) (by decide +kernel))) (fun _ h9 => h9) rfl dX10_within_117 ?_
                          refine lv_iload hx hb dX10_within_120 (lv_at hl 0 rfl) ?_
                          refine m_aak hx hb hK hP 26 25 (k := k2.toInt.toNat) (b := ad (1300 + k2.toInt.toNat)) rfl rfl rfl (i := k2) (by omega) (by omega) rfl dX10_within_122 ?_
                          have hz0 : 0 ≤ vI ((rO Nn_51 M_53 O_54) (300 + (12 * 0 + P_52 0 ii.toInt.toNat))) 0 ∧ vI ((rO Nn_51 M_53 O_54) (300 + (12 * 0 + P_52 0 ii.toInt.toNat))) 0 ≤ 24 := hN8.2.2 ii.toInt.toNat (by omega)
                          have hz1 := hO9 k2.toInt.toNat (by omega)
                          have hFc := m_free hD hS hA
                          refine va_calli (va_runS (As := [.ref (ad (300 + (12 * 0 + P_52 0 ii.toInt.toNat))), .ref (ad (1300 + k2.toInt.toNat))]) (rest := []) ⟨hx, hb, hml, hown, hts⟩ (m_hasAll l dC dI ad kc x0 x1 x2 x3 x4 x5 x6 x7 x8 x9 x10 x11 x_33 x_34 x_35 x_36 x_37 x_38 x_39 x_40 x20 x21 f0 f1 f2 f_41 f_42 f_43 f_44 f_45 f_46 f_47 f_48 f_49 f12 f13 f14 f15 f16 f17 f18 f19 f20 f21 L_50 Nn_51 P_52 M_53 O_54 H.size (300 + (12 * 0 + P_52 0 ii.toInt.toNat)) (1300 + k2.toInt.toNat) (by first | assumption | (unfold IR; omega)) (by first | assumption | (unfold IR; omega)) (by first | omega | assumption | decide | (have l0 := Int32.toInt_zero; omega)) (by first | omega | assumption | decide | (have l0 := Int32.toInt_zero; omega))) (va_cwS 2 hts mg_X10_withinm_X10_hasAll_292 rfl rfl rfl (by decide +kernel) ⟨Nat.le_of_ble_eq_true rfl, Nat.le_of_ble_eq_true rfl⟩) ⟨fun a U g mk q => by obtain ⟨q0, q1, qP, qK, qD⟩ := q; exact ⟨q0, q1, qP, va_K.moved (u := U) (U := U.calling g mk a) (Vm.Alike.refl U.vm) qK, qD⟩, fun U hU hW => ⟨rfl, by rw [hU], by rw [hU]; exact hP, va_K.moved hW.alike hK, hD.weaken (fun _ _ _ _ => trivial)⟩⟩ rfl rfl hl.1 rfl (lv_room (Nat.le_of_ble_eq_true rfl)) dX10_within_123 ⟨Nat.le_of_ble_eq_true rfl, Nat.le_of_ble_eq_true rfl⟩) hS (fun q _ h => hFc q h) hFc (fun r_74 u t H1 locs ht hvm hw hB hz1 hk1 hS => ?_)
                          subst hw
                          obtain ⟨hr_74_0, hP, hK1, hD1⟩ := hB
                          rw [ht] at hP
                          have hD := hD1.weaken (fun k q _ h => hFc q.1 h)
                          clear hz1 hk1 hFc hD1 hK1 hvm
                          generalize H1 = H at hP hS ⊢
                          have rg_r_74 := i_rng r_74
                          have hP : va_P (dC, dI) vwCl (mW ad kc x0 x1 x2 x3 x4 x5 x6 x7 x8 x9 x10 x11 x_33 x_34 x_35 x_36 x_37 x_38 x_39 x_40 x20 x21 f0 f1 f2 f_41 f_42 f_43 f_44 f_45 f_46 f_47 f_48 f_49 f12 f13 f14 f15 f16 f17 f18 f19 f20 f21 L_50 Nn_51 P_52 M_53 O_54) H := hP
                          have hD : va_D A (mW ad kc x0 x1 x2 x3 x4 x5 x6 x7 x8 x9 x10 x11 x_33 x_34 x_35 x_36 x_37 x_38 x_39 x_40 x20 x21 f0 f1 f2 f_41 f_42 f_43 f_44 f_45 f_46 f_47 f_48 f_49 f12 f13 f14 f15 f16 f17 f18 f19 f20 f21 L_50 Nn_51 P_52 M_53 O_54) := hD
                          refine lv_if_eq (tgt := 133) hx hb dX10_within_126 (by decide) (fun k_75 => ?_) (fun k_75 => ?_)
                          · have tk_75 := c_eq (a := r_74.toInt) (b := 0) rfl (by decide) k_75
                            refine lv_iconst (v := 0) hx hb dX10_within_133 (by decide) ?_
                            refine lv_istore (lv' := [(6, .int 0), (7, .int k2), (5, .int ii), (4, .int al), (3, .int y_30), (0, .ref (ad 0)), (1, .int i1), (2, .int i2)]) hx hb dX10_within_134 hl (by decide) rfl (fun ls hl => ?_)
                            obtain ⟨y_76, ey_76⟩ : ∃ y : Int32, y = k2 + 1 := ⟨_, rfl⟩
                            first | have ty_76 := i_add (a := k2.toInt) (b := 1) rfl (by decide) ey_76 (by omega) (by omega) | skip
                            refine lv_iinc (v := y_76) (lv' := [(7, .int y_76), (6, .int 0), (5, .int ii), (4, .int al), (3, .int y_30), (0, .ref (ad 0)), (1, .int i1), (2, .int i2)]) hx hb dX10_within_136 hl (k := 1) rfl (by rw [ey_76]; rfl) (by decide) rfl (fun ls hl => ?_)
                            refine lv_goto (tgt := 96) hx hb dX10_within_139 (by decide) ?_
                            have lit_76 : (0 : Int32).toInt = 0 := by decide
                            exact ih96 0 y_76 (by first | omega | assumption | decide) (by omega) _ _ ls hP hD hS (lv_sub hl [0, 1, 2, 3, 4, 5, 6, 7] rfl)
                          · have tk_75 := c_ne (a := r_74.toInt) (b := 0) rfl (by decide) k_75
                            refine lv_iconst (v := 1) hx hb dX10_within_129 (by decide) ?_
                            refine lv_goto (tgt := 134) hx hb dX10_within_130 (by decide) ?_
                            refine lv_istore (lv' := [(6, .int 1), (7, .int k2), (5, .int ii), (4, .int al), (3, .int y_30), (0, .ref (ad 0)), (1, .int i1), (2, .int i2)]) hx hb dX10_within_134 hl (by decide) rfl (fun ls hl => ?_)
                            obtain ⟨y_78, ey_78⟩ : ∃ y : Int32, y = k2 + 1 := ⟨_, rfl⟩
                            first | have ty_78 := i_add (a := k2.toInt) (b := 1) rfl (by decide) ey_78 (by omega) (by omega) | skip
                            refine lv_iinc (v := y_78) (lv' := [(7, .int y_78), (6, .int 1), (5, .int ii), (4, .int al), (3, .int y_30), (0, .ref (ad 0)), (1, .int i1), (2, .int i2)]) hx hb dX10_within_136 hl (k := 1) rfl (by rw [ey_78]; rfl) (by decide) rfl (fun ls hl => ?_)
                            refine lv_goto (tgt := 96) hx hb dX10_within_139 (by decide) ?_
                            have lit_78 : (1 : Int32).toInt = 1 := by decide
                            exact ih96 1 y_78 (by first | omega | assumption | decide) (by omega) _ _ ls hP hD hS (lv_sub hl [0, 1, 2, 3, 4, 5, 6, 7] rfl)
                  have lit_79 : (0 : Int32).toInt = 0 := by decide
                  have lit_80 : (0 : Int32).toInt = 0 := by decide
                  exact loop96 _ 0 0 (by first | omega | assumption | decide) (Nat.lt_succ_self _) _ _ ls hP hD hS (lv_sub hl [0, 1, 2, 3, 4, 5, 6, 7] rfl)
            have lit_81 : (1 : Int32).toInt = 1 := by decide
            have lit_82 : (0 : Int32).toInt = 0 := by decide
            exact loop79 _ 1 0 (by first | omega | assumption | decide) (Nat.lt_succ_self _) _ _ ls hP hD hS (lv_sub hl [0, 1, 2, 3, 4, 5] rfl)
          · have tk_31 := c_nge (a := kk.toInt) (b := y_30.toInt) rfl rfl k_31
            refine lv_aload_n hx hb dX10_within_43 rfl (lv_at hl 2 rfl) ?_
            refine va_get (D := (dC, dI)) (ci := 10) (v := .ref (ad 24)) (C := RX10) (T := TX10) (N := 48) hx hb hts fin_X10_withinm_X10 hown hK hP 0 rfl rfl 28 (by decide) (hts (.fieldLink RX10 56 "PatternGateModel" "needs" "[[[I") (List.mem_of_getElem? (i := 15) (by decide +kernel))) (fun _ h9 => h9) rfl dX10_within_44 ?_
            refine lv_iconst (v := 0) hx hb dX10_within_47 (by decide) ?_
            refine m_aak hx hb hK hP 24 23 (k := 0) (b := ad (200 + 0)) rfl rfl rfl (i := 0) (by decide) (by omega) rfl dX10_within_48 ?_
            refine lv_iload hx hb dX10_within_49 (lv_at hl 0 rfl) ?_
            refine m_aak hx hb hK hP (117 + 0) 27 (k := kk.toInt.toNat) (b := ad (300 + (12 * 0 + P_27 0 kk.toInt.toNat))) (mW_P (by omega)) rfl rfl (i := kk) (by omega) (by omega) rfl dX10_within_51 ?_
            have hp51 := (hPI9 0 kk.toInt.toNat (by omega)).1
            refine lv_aload_n hx hb dX10_within_52 rfl (lv_at hl 2 rfl) ?_
            refine va_get (D := (dC, dI)) (ci := 10) (v := .ref (ad 26)) (C := RX10) (T := TX10) (N := 48) hx hb hts fin_X10_withinm_X10 hown hK hP 0 rfl rfl 47 (by decide) (hts (.fieldLink RX10 101 "PatternGateModel" "other0" "[[I") (List.mem_of_getElem? (i := 16) (by decide +kernel))) (fun _ h9 => h9) rfl dX10_within_53 ?_
            refine lv_iload hx hb dX10_within_56 (lv_at hl 0 rfl) ?_
            refine m_aak hx hb hK hP 26 25 (k := kk.toInt.toNat) (b := ad (1300 + kk.toInt.toNat)) rfl rfl rfl (i := kk) (by omega) (by omega) rfl dX10_within_58 ?_
            have hz0 : 0 ≤ vI ((rO Nn_26 M_28 O_29) (300 + (12 * 0 + P_27 0 kk.toInt.toNat))) 0 ∧ vI ((rO Nn_26 M_28 O_29) (300 + (12 * 0 + P_27 0 kk.toInt.toNat))) 0 ≤ 24 := hN9.2.2 kk.toInt.toNat (by omega)
            have hz1 := vI_cg (z := 0) (v37_1 (300 + (12 * 0 + P_27 0 kk.toInt.toNat)) (by unfold IR; omega) (by omega))
            have hFc := m_free hD hS hA
            refine va_callv (va_runS (As := [.ref (ad (300 + (12 * 0 + P_27 0 kk.toInt.toNat))), .ref (ad (1300 + kk.toInt.toNat))]) (rest := []) ⟨hx, hb, hml, hown, hts⟩ (m_lays l dC dI ad kc x0 x1 x2 x3 x4 x5 x6 x7 x8 x9 x10 x11 x_8 x_9 x_10 x_11 x_12 x_13 x_14 x_15 x20 x21 f0 f1 f2 f_16 f_17 f_18 f_19 f_20 f_21 f_22 f_23 f_24 f12 f13 f14 f15 f16 f17 f18 f19 f20 f21 L_25 hn P_27 hm ho H.size (300 + (12 * 0 + P_27 0 kk.toInt.toNat)) (1300 + kk.toInt.toNat) (by first | assumption | (unfold IR; omega)) (by first | assumption | (unfold IR; omega)) (by first | omega | assumption | decide | (have l0 := Int32.toInt_zero; omega)) (by first | omega | assumption | decide | (have l0 := Int32.toInt_zero; omega))) (va_cwS 2 hts mg_X10_withinm_X10_lays_296 rfl rfl rfl (by decide +kernel) ⟨Nat.le_of_ble_eq_true rfl, Nat.le_of_ble_eq_true rfl⟩) ⟨fun a U g mk q => by obtain ⟨q0, q1, qP, qK, qD⟩ := q; exact ⟨q0, q1, qP, va_K.moved (u := U) (U := U.calling g mk a) (Vm.Alike.refl U.vm) qK, qD⟩, fun U hU hW => ⟨rfl, by rw [hU], by rw [hU]; exact hP, va_K.moved hW.alike hK, hD.weaken (fun _ _ _ _ => trivial)⟩⟩ rfl rfl hl.1 rfl (lv_room (Nat.le_of_ble_eq_true rfl)) dX10_within_59 ⟨Nat.le_of_ble_eq_true rfl, Nat.le_of_ble_eq_true rfl⟩) hS (fun q _ h => hFc q h) hFc (fun u t H1 locs ht hvm hw hB hz1 hk1 hS => ?_)
            obtain ⟨Nn_85, M_86, O_87, hr_84_0, hr_84_1, hP, hK1, hD1⟩ := hB
            rw [ht] at hP
            have hD := hD1.weaken (fun k q _ h => hFc q.1 h)
            clear hz1 hk1 hFc hD1 hK1 hvm
            generalize H1 = H at hP hS ⊢
            have hP : va_P (dC, dI) vwCl (mW ad kc x0 x1 x2 x3 x4 x5 x6 x7 x8 x9 x10 x11 x_8 x_9 x_10 x_11 x_12 x_13 x_14 x_15 x20 x21 f0 f1 f2 f_16 f_17 f_18 f_19 f_20 f_21 f_22 f_23 f_24 f12 f13 f14 f15 f16 f17 f18 f19 f20 f21 L_25 Nn_85 P_27 M_86 O_87) H := hP
            have hD : va_D A (mW ad kc x0 x1 x2 x3 x4 x5 x6 x7 x8 x9 x10 x11 x_8 x_9 x_10 x_11 x_12 x_13 x_14 x_15 x20 x21 f0 f1 f2 f_16 f_17 f_18 f_19 f_20 f_21 f_22 f_23 f_24 f12 f13 f14 f15 f16 f17 f18 f19 f20 f21 L_25 Nn_85 P_27 M_86 O_87) := hD
            obtain ⟨y_88, ey_88⟩ : ∃ y : Int32, y = kk + 1 := ⟨_, rfl⟩
            first | have ty_88 := i_add (a := kk.toInt) (b := 1) rfl (by decide) ey_88 (by omega) (by omega) | skip
            refine lv_iinc (v := y_88) (lv' := [(4, .int y_88), (3, .int y_30), (0, .ref (ad 0)), (1, .int i1), (2, .int i2)]) hx hb dX10_within_62 hl (k := 0) rfl (by rw [ey_88]; rfl) (by decide) rfl (fun ls hl => ?_)
            refine lv_goto (tgt := 37) hx hb dX10_within_65 (by decide) ?_
            exact ih37 y_88 Nn_85 M_86 O_87 (by first | omega | assumption | decide) (fun a h1 h2 => (hr_84_0 a h1 (by omega)).trans (v37_1 a h1 h2)) (ot_step v37_2 hr_84_0 (by have h9 := hr_84_1; omega) (by have h9 := hr_84_1; omega) (by omega) (by omega) (by omega)) (by first | omega | assumption | decide) (by omega) _ _ ls hP hD hS (lv_sub hl [0, 1, 2, 3, 4] rfl)
      have lit_88 : (0 : Int32).toInt = 0 := by decide
      exact loop37 _ 0 Nn_26 M_28 O_29 (by first | omega | assumption | decide) (fun _ _ _ => rfl) (fun j hj => by omega) (by first | omega | assumption | decide) (Nat.lt_succ_self _) _ _ ls hP hD hS (lv_sub hl [0, 1, 2, 3, 4] rfl)
    · have tk_6 := c_eq (a := r_5.toInt) (b := 0) rfl (by decide) k_6
      refine lv_aload_n hx hb dX10_within_16 rfl (lv_at hl 0 rfl) ?_
      refine lv_iconst (v := 2) hx hb dX10_within_17 (by decide) ?_
      have hFc := m_free hD hS hA
      refine va_calli (va_runV (As := [.int 2]) (rest := []) ⟨hx, hb, hml, hown, hts⟩ (m_refuse l dC dI ad kc x0 x1 x2 x3 x4 x5 x6 x7 x8 x9 x10 x11 x12 x13 x14 x15 x16 x17 x18 x19 x20 x21 f0 f1 f2 f3 f4 f5 f6 f7 f8 f9 f10 f11 f12 f13 f14 f15 f16 f17 f18 f19 f20 f21 fL fN fP fM fO H.size 2 ) (cwV 1 hts mg_X10_withinm_X10_refuse_204 rfl rfl rfl (by decide +kernel) ⟨Nat.le_of_ble_eq_true rfl, Nat.le_of_ble_eq_true rfl⟩) ⟨fun a U g mk q => by obtain ⟨q0, q1, qP, qK, qD⟩ := q; exact ⟨q0, q1, qP, va_K.moved (u := U) (U := U.calling g mk a) (Vm.Alike.refl U.vm) qK, qD⟩, va_recv hK hP (ci := 10) (q0 := 0) rfl rfl, fun U hU hW => ⟨rfl, by rw [hU], by rw [hU]; exact hP, va_K.moved hW.alike hK, hD.weaken (fun _ _ _ _ => trivial)⟩⟩ rfl rfl hl.1 rfl (lv_room (Nat.le_of_ble_eq_true rfl)) dX10_within_18 ⟨Nat.le_of_ble_eq_true rfl, Nat.le_of_ble_eq_true rfl⟩) hS (fun q _ h => hFc q h) hFc (fun r_90 u t H1 locs ht hvm hw hB hz1 hk1 hS => ?_)
      subst hw
      obtain ⟨hr_90_0, hP, hK1, hD1⟩ := hB
      rw [ht] at hP
      have hD := hD1.weaken (fun k q _ h => hFc q.1 h)
      clear hz1 hk1 hFc hD1 hK1 hvm
      generalize H1 = H at hP hS ⊢
      have rg_r_90 := i_rng r_90
      have hP : va_P (dC, dI) vwCl (mW ad kc 2 x1 x2 x3 x4 x5 x6 x7 x8 x9 x10 x11 x12 x13 x14 x15 x16 x17 x18 x19 x20 x21 f0 f1 f2 f3 f4 f5 f6 f7 f8 f9 f10 f11 f12 f13 f14 f15 f16 f17 f18 f19 f20 f21 fL fN fP fM fO) H := hP
      have hD : va_D A (mW ad kc 2 x1 x2 x3 x4 x5 x6 x7 x8 x9 x10 x11 x12 x13 x14 x15 x16 x17 x18 x19 x20 x21 f0 f1 f2 f3 f4 f5 f6 f7 f8 f9 f10 f11 f12 f13 f14 f15 f16 f17 f18 f19 f20 f21 fL fN fP fM fO) := hD
      have lit_90 : (2 : Int32).toInt = 2 := by decide
      exact W.iret hx hb hr (fun t ht hW => ⟨⟨_, _, rfl, rfl, 2, x12, x13, x14, x15, x16, x17, x18, x19, f3, f4, f5, f6, f7, f8, f9, f10, f11, fL, fN, fP, fM, fO, hpi, by rw [ht]; exact hP, va_K.moved hW.alike hK, hD⟩, hS.F ht⟩) hS.2.2 dX10_within_21

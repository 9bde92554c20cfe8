def mwX10_isSmallm : List Cond := .code yX10_isSmall cX10_isSmall 1 (some .boolean) :: ([])
set_option maxHeartbeats 4000000 in
set_option maxRecDepth 100000 in
theorem m_isSmall (l : Launch) (dC : Nat → ClassId) (dI : Nat → Nat → Nat)  (i1 : Int32) : Met l yX10_isSmall mwX10_isSmallm ({ frames := 0, cells := 0, slots := 0, locals := 0 }) (va_Pc [.int i1] (fun _ => True)) (vp_Si (fun o9 => (o9.toInt = 1 ∧ (97 ≤ i1.toInt ∧ i1.toInt ≤ 122) ∨ o9.toInt = 0 ∧ (i1.toInt < 97 ∨ 122 < i1.toInt)))) 0 0 (fun _ => False) := by
  refine Met.ofW (cc := cX10_isSmall) (maxL := 1) (ret := (some .boolean)) (by decide +kernel) rfl ?_
  intro p e s m args below meth c s₁ B hml hv
  obtain ⟨rfl, -⟩ := hv
  have hx := B.exec
  have hb := B.bytes
  have hr := B.returns
  have hts := atoms_spec (ws := mwX10_isSmallm) B.pre
  have hown : s.vm.findClass RX10 = some m.cls := findClass_of_methodNamed B.named
  have hlocks := B.notSynchronized
  have hl := lv_entry ([.int i1]) (n := 1) (Nat.le_of_ble_eq_true rfl)
  rw [lg_entry_eq]
  generalize (lg_sl ([.int i1]) ++ List.replicate (1 - (lg_sl ([.int i1])).length) Slot.unset).toArray = ls at hl ⊢
  have hl : lv_has ls 1 [(0, .int i1)] := hl
  have rg_i1 := i_rng i1
  refine lv_iload_n hx hb dX10_isSmall_0 rfl (lv_at hl 0 rfl) ?_
  refine lv_bipush (v := 97) hx hb dX10_isSmall_1 (by decide) ?_
  refine lv_icmp_lt (tgt := 16) hx hb dX10_isSmall_3 (by decide) (fun k_1 => ?_) (fun k_1 => ?_)
  · have tk_1 := c_lt (a := i1.toInt) (b := 97) rfl (by decide) k_1
    refine lv_iconst (v := 0) hx hb dX10_isSmall_16 (by decide) ?_
    have lit_1 : (0 : Int32).toInt = 0 := by decide
    exact W.zret hx hb hr (z_nar (by first | assumption | decide | exact z_of (by omega))) (fun t ht hW => ⟨_, rfl, (by first | omega | assumption | rfl | decide), ht⟩) t_nil dX10_isSmall_17
  · have tk_1 := c_nlt (a := i1.toInt) (b := 97) rfl (by decide) k_1
    refine lv_iload_n hx hb dX10_isSmall_6 rfl (lv_at hl 0 rfl) ?_
    refine lv_bipush (v := 122) hx hb dX10_isSmall_7 (by decide) ?_
    refine lv_icmp_gt (tgt := 16) hx hb dX10_isSmall_9 (by decide) (fun k_3 => ?_) (fun k_3 => ?_)
    · have tk_3 := c_gt (a := i1.toInt) (b := 122) rfl (by decide) k_3
      refine lv_iconst (v := 0) hx hb dX10_isSmall_16 (by decide) ?_
      have lit_3 : (0 : Int32).toInt = 0 := by decide
      exact W.zret hx hb hr (z_nar (by first | assumption | decide | exact z_of (by omega))) (fun t ht hW => ⟨_, rfl, (by first | omega | assumption | rfl | decide), ht⟩) t_nil dX10_isSmall_17
    · have tk_3 := c_ngt (a := i1.toInt) (b := 122) rfl (by decide) k_3
      refine lv_iconst (v := 1) hx hb dX10_isSmall_12 (by decide) ?_
      refine lv_goto (tgt := 17) hx hb dX10_isSmall_13 (by decide) ?_
      have lit_4 : (1 : Int32).toInt = 1 := by decide
      exact W.zret hx hb hr (z_nar (by first | assumption | decide | exact z_of (by omega))) (fun t ht hW => ⟨_, rfl, (by first | omega | assumption | rfl | decide), ht⟩) t_nil dX10_isSmall_17
theorem dX10_has_0 : decode cX10_has 0 = .ok (.iload_n 0, 1) := by decide +kernel
theorem dX10_has_1 : decode cX10_has 1 = .ok (.iload_n 1, 1) := by decide +kernel
theorem dX10_has_2 : decode cX10_has 2 = .ok (.ishr, 1) := by decide +kernel
theorem dX10_has_3 : decode cX10_has 3 = .ok (.iconst 1, 1) := by decide +kernel
theorem dX10_has_4 : decode cX10_has 4 = .ok (.iand, 1) := by decide +kernel
theorem dX10_has_5 : decode cX10_has 5 = .ok (.iconst 1, 1) := by decide +kernel
theorem dX10_has_6 : decode cX10_has 6 = .ok (.if_icmp .ne 7, 3) := by decide +kernel
theorem dX10_has_9 : decode cX10_has 9 = .ok (.iconst 1, 1) := by decide +kernel
theorem dX10_has_10 : decode cX10_has 10 = .ok (.goto 4, 3) := by decide +kernel
theorem dX10_has_13 : decode cX10_has 13 = .ok (.iconst 0, 1) := by decide +kernel
theorem dX10_has_14 : decode cX10_has 14 = .ok (.ireturn, 1) := by decide +kernel
def mwX10_hasm : List Cond := .code yX10_has cX10_has 2 (some .boolean) :: ([])
set_option maxHeartbeats 4000000 in
set_option maxRecDepth 100000 in
theorem m_has (l : Launch) (dC : Nat → ClassId) (dI : Nat → Nat → Nat)  (i1 i2 : Int32) : Met l yX10_has mwX10_hasm ({ frames := 0, cells := 0, slots := 0, locals := 0 }) (va_Pc [.int i1, .int i2] (fun _ => True)) (vp_Si (fun o9 => (o9.toInt = 0 ∨ o9.toInt = 1))) 0 0 (fun _ => False) := by
  refine Met.ofW (cc := cX10_has) (maxL := 2) (ret := (some .boolean)) (by decide +kernel) rfl ?_
  intro p e s m args below meth c s₁ B hml hv
  obtain ⟨rfl, -⟩ := hv
  have hx := B.exec
  have hb := B.bytes
  have hr := B.returns
  have hts := atoms_spec (ws := mwX10_hasm) B.pre
  have hown : s.vm.findClass RX10 = some m.cls := findClass_of_methodNamed B.named
  have hlocks := B.notSynchronized
  have hl := lv_entry ([.int i1, .int i2]) (n := 2) (Nat.le_of_ble_eq_true rfl)
  rw [lg_entry_eq]
  generalize (lg_sl ([.int i1, .int i2]) ++ List.replicate (2 - (lg_sl ([.int i1, .int i2])).length) Slot.unset).toArray = ls at hl ⊢
  have hl : lv_has ls 2 [(0, .int i1), (1, .int i2)] := hl
  have rg_i1 := i_rng i1
  have rg_i2 := i_rng i2
  refine lv_iload_n hx hb dX10_has_0 rfl (lv_at hl 0 rfl) ?_
  refine lv_iload_n hx hb dX10_has_1 rfl (lv_at hl 1 rfl) ?_
  refine lv_ishr hx hb dX10_has_2 ?_
  refine lv_topi (fun y_1 ey_1 => ?_)
  have rg_y_1 := i_rng y_1
  refine lv_iconst (v := 1) hx hb dX10_has_3 (by decide) ?_
  refine lv_iand hx hb dX10_has_4 ?_
  refine lv_topi (fun y_2 ey_2 => ?_)
  have ty_2 := i_and (b := 1) (by decide) (by decide) ey_2
  refine lv_iconst (v := 1) hx hb dX10_has_5 (by decide) ?_
  refine lv_icmp_ne (tgt := 13) hx hb dX10_has_6 (by decide) (fun k_3 => ?_) (fun k_3 => ?_)
  · have tk_3 := c_ne (a := y_2.toInt) (b := 1) rfl (by decide) k_3
    refine lv_iconst (v := 0) hx hb dX10_has_13 (by decide) ?_
    have lit_3 : (0 : Int32).toInt = 0 := by decide
    exact W.zret hx hb hr (z_nar (by first | assumption | decide | exact z_of (by omega))) (fun t ht hW => ⟨_, rfl, (by first | omega | assumption | rfl | decide), ht⟩) t_nil dX10_has_14
  · have tk_3 := c_eq (a := y_2.toInt) (b := 1) rfl (by decide) k_3
    refine lv_iconst (v := 1) hx hb dX10_has_9 (by decide) ?_
    refine lv_goto (tgt := 14) hx hb dX10_has_10 (by decide) ?_
    have lit_4 : (1 : Int32).toInt = 1 := by decide
    exact W.zret hx hb hr (z_nar (by first | assumption | decide | exact z_of (by omega))) (fun t ht hW => ⟨_, rfl, (by first | omega | assumption | rfl | decide), ht⟩) t_nil dX10_has_14
theorem dX10_isDoc_0 : decode cX10_isDoc 0 = .ok (.iload_n 1, 1) := by decide +kernel
theorem dX10_isDoc_1 : decode cX10_isDoc 1 = .ok (.ifCond .lt 17, 3) := by decide +kernel
theorem dX10_isDoc_4 : decode cX10_isDoc 4 = .ok (.iload_n 1, 1) := by decide +kernel
theorem dX10_isDoc_5 : decode cX10_isDoc 5 = .ok (.aload_n 0, 1) := by decide +kernel
theorem dX10_isDoc_6 : decode cX10_isDoc 6 = .ok (.getfield 8, 3) := by decide +kernel
theorem dX10_isDoc_9 : decode cX10_isDoc 9 = .ok (.iconst 0, 1) := by decide +kernel
theorem dX10_isDoc_10 : decode cX10_isDoc 10 = .ok (.iaload, 1) := by decide +kernel
theorem dX10_isDoc_11 : decode cX10_isDoc 11 = .ok (.if_icmp .ge 7, 3) := by decide +kernel
theorem dX10_isDoc_14 : decode cX10_isDoc 14 = .ok (.iconst 1, 1) := by decide +kernel
theorem dX10_isDoc_15 : decode cX10_isDoc 15 = .ok (.goto 4, 3) := by decide +kernel
theorem dX10_isDoc_18 : decode cX10_isDoc 18 = .ok (.iconst 0, 1) := by decide +kernel
theorem dX10_isDoc_19 : decode cX10_isDoc 19 = .ok (.ireturn, 1) := by decide +kernel
def mwX10_isDocm : List Cond := .code yX10_isDoc cX10_isDoc 2 (some .boolean) :: ([.fieldLink RX10 8 "PatternGateModel" "all" "[I"] ++ wsX100)
theorem fin_X10_isDocm_X10 : ∀ w ∈ wsX100, w ∈ mwX10_isDocm := fun w h => List.mem_cons_of_mem _ (List.mem_append_right _ h)
set_option maxHeartbeats 4000000 in
set_option maxRecDepth 100000 in
theorem m_isDoc (l : Launch) (dC : Nat → ClassId) (dI : Nat → Nat → Nat) (ad : Nat → Nat) (kc : Nat → ClassId) (x0 x1 x2 x3 x4 x5 x6 x7 x8 x9 x10 x11 x12 x13 x14 x15 x16 x17 x18 x19 x20 x21 : Int32) (f0 f1 f2 f3 f4 f5 f6 f7 f8 f9 f10 f11 f12 f13 f14 f15 f16 f17 f18 f19 f20 f21 : Nat → Int32) (fL : Nat → Nat → Int64) (fN : Nat → Nat → Int32) (fP : Nat → Nat → Nat) (fM : Nat → Nat → Int32) (fO : Nat → Nat → Int32) (i1 : Int32) : Met l yX10_isDoc mwX10_isDocm ({ frames := 0, cells := 0, slots := 0, locals := 0 }) (va_Pc [.ref (ad 0), .int i1] (fun U => va_P (dC, dI) vwCl (mW ad kc x0 x1 x2 x3 x4 x5 x6 x7 x8 x9 x10 x11 x12 x13 x14 x15 x16 x17 x18 x19 x20 x21 f0 f1 f2 f3 f4 f5 f6 f7 f8 f9 f10 f11 f12 f13 f14 f15 f16 f17 f18 f19 f20 f21 fL fN fP fM fO) U.heap ∧ va_K (dC, dI) vwCl (mT kc) U)) (vp_Si (fun o9 => (o9.toInt = 1 ∧ (0 ≤ i1.toInt ∧ i1.toInt < vI f0 0) ∨ o9.toInt = 0 ∧ (i1.toInt < 0 ∨ vI f0 0 ≤ i1.toInt)))) 0 0 (fun _ => False) := by
  refine Met.ofW (cc := cX10_isDoc) (maxL := 2) (ret := (some .boolean)) (by decide +kernel) rfl ?_
  intro p e s m args below meth c s₁ B hml hv
  obtain ⟨rfl, hP, hK⟩ := hv
  have hx := B.exec
  have hb := B.bytes
  have hr := B.returns
  have hts := atoms_spec (ws := mwX10_isDocm) B.pre
  have hown : s.vm.findClass RX10 = some m.cls := findClass_of_methodNamed B.named
  have hlocks := B.notSynchronized
  have hP : va_P (dC, dI) vwCl (mW ad kc x0 x1 x2 x3 x4 x5 x6 x7 x8 x9 x10 x11 x12 x13 x14 x15 x16 x17 x18 x19 x20 x21 f0 f1 f2 f3 f4 f5 f6 f7 f8 f9 f10 f11 f12 f13 f14 f15 f16 f17 f18 f19 f20 f21 fL fN fP fM fO) s.heap := hP
  have hK : va_K (dC, dI) vwCl (mT kc) s := hK
  generalize hH : s.heap = H at hP ⊢
  have hl := lv_entry ([.ref (ad 0), .int i1]) (n := 2) (Nat.le_of_ble_eq_true rfl)
  rw [lg_entry_eq]
  generalize (lg_sl ([.ref (ad 0), .int i1]) ++ List.replicate (2 - (lg_sl ([.ref (ad 0), .int i1])).length) Slot.unset).toArray = ls at hl ⊢
  have hl : lv_has ls 2 [(0, .ref (ad 0)), (1, .int i1)] := hl
  have rg_i1 := i_rng i1
  refine lv_iload_n hx hb dX10_isDoc_0 rfl (lv_at hl 1 rfl) ?_
  refine lv_if_lt (tgt := 18) hx hb dX10_isDoc_1 (by decide) (fun k_1 => ?_) (fun k_1 => ?_)
  · have tk_1 := c_lt (a := i1.toInt) (b := 0) rfl (by decide) k_1
    refine lv_iconst (v := 0) hx hb dX10_isDoc_18 (by decide) ?_
    have lit_1 : (0 : Int32).toInt = 0 := by decide
    exact W.zret hx hb hr (z_nar (by first | assumption | decide | exact z_of (by omega))) (fun t ht hW => ⟨_, rfl, (by first | omega | assumption | rfl | decide), ht.trans hH.symm⟩) t_nil dX10_isDoc_19
  · have tk_1 := c_nlt (a := i1.toInt) (b := 0) rfl (by decide) k_1
    refine lv_iload_n hx hb dX10_isDoc_4 rfl (lv_at hl 1 rfl) ?_
    refine lv_aload_n hx hb dX10_isDoc_5 rfl (lv_at hl 0 rfl) ?_
    refine va_get (D := (dC, dI)) (ci := 10) (v := .ref (ad 1)) (C := RX10) (T := TX10) (N := 48) hx hb hts fin_X10_isDocm_X10 hown hK hP 0 rfl rfl 0 (by decide) (hts (.fieldLink RX10 8 "PatternGateModel" "all" "[I") (List.mem_of_getElem? (i := 1) (by decide +kernel))) (fun _ h9 => h9) rfl dX10_isDoc_6 ?_
    refine lv_iconst (v := 0) hx hb dX10_isDoc_9 (by decide) ?_
    refine va_iald hx hb hK hP 1 0 rfl rfl (i := 0) (by unfold vp_in; decide +kernel) dX10_isDoc_10 ?_
    refine lv_topi (fun y_3 ey_3 => ?_)
    have rg_y_3 := i_rng y_3
    have vy_3 := vI_lda (f := f0) (i := 0) (a := 0) ey_3 (by first | omega | decide)
    have rg_y_3 := i_rng y_3
    refine lv_icmp_ge (tgt := 18) hx hb dX10_isDoc_11 (by decide) (fun k_4 => ?_) (fun k_4 => ?_)
    · have tk_4 := c_ge (a := i1.toInt) (b := y_3.toInt) rfl rfl k_4
      refine lv_iconst (v := 0) hx hb dX10_isDoc_18 (by decide) ?_
      have lit_4 : (0 : Int32).toInt = 0 := by decide
      exact W.zret hx hb hr (z_nar (by first | assumption | decide | exact z_of (by omega))) (fun t ht hW => ⟨_, rfl, (by first | omega | assumption | rfl | decide), ht.trans hH.symm⟩) t_nil dX10_isDoc_19
    · have tk_4 := c_nge (a := i1.toInt) (b := y_3.toInt) rfl rfl k_4
      refine lv_iconst (v := 1) hx hb dX10_isDoc_14 (by decide) ?_
      refine lv_goto (tgt := 19) hx hb dX10_isDoc_15 (by decide) ?_
      have lit_5 : (1 : Int32).toInt = 1 := by decide
      exact W.zret hx hb hr (z_nar (by first | assumption | decide | exact z_of (by omega))) (fun t ht hW => ⟨_, rfl, (by first | omega | assumption | rfl | decide), ht.trans hH.symm⟩) t_nil dX10_isDoc_19
theorem dX10_isPattern_0 : decode cX10_isPattern 0 = .ok (.iload_n 1, 1) := by decide +kernel
theorem dX10_isPattern_1 : decode cX10_isPattern 1 = .ok (.ifCond .lt 19, 3) := by decide +kernel
theorem dX10_isPattern_4 : decode cX10_isPattern 4 = .ok (.iload_n 1, 1) := by decide +kernel
theorem dX10_isPattern_5 : decode cX10_isPattern 5 = .ok (.aload_n 0, 1) := by decide +kernel
theorem dX10_isPattern_6 : decode cX10_isPattern 6 = .ok (.getfield 8, 3) := by decide +kernel
theorem dX10_isPattern_9 : decode cX10_isPattern 9 = .ok (.sipush 611, 3) := by decide +kernel
theorem dX10_isPattern_12 : decode cX10_isPattern 12 = .ok (.iaload, 1) := by decide +kernel
theorem dX10_isPattern_13 : decode cX10_isPattern 13 = .ok (.if_icmp .ge 7, 3) := by decide +kernel
theorem dX10_isPattern_16 : decode cX10_isPattern 16 = .ok (.iconst 1, 1) := by decide +kernel
theorem dX10_isPattern_17 : decode cX10_isPattern 17 = .ok (.goto 4, 3) := by decide +kernel
theorem dX10_isPattern_20 : decode cX10_isPattern 20 = .ok (.iconst 0, 1) := by decide +kernel
theorem dX10_isPattern_21 : decode cX10_isPattern 21 = .ok (.ireturn, 1) := by decide +kernel
def mwX10_isPatternm : List Cond := .code yX10_isPattern cX10_isPattern 2 (some .boolean) :: ([.fieldLink RX10 8 "PatternGateModel" "all" "[I"] ++ wsX100)
theorem fin_X10_isPatternm_X10 : ∀ w ∈ wsX100, w ∈ mwX10_isPatternm := fun w h => List.mem_cons_of_mem _ (List.mem_append_right _ h)
set_option maxHeartbeats 4000000 in
set_option maxRecDepth 100000 in
theorem m_isPattern (l : Launch) (dC : Nat → ClassId) (dI : Nat → Nat → Nat) (ad : Nat → Nat) (kc : Nat → ClassId) (x0 x1 x2 x3 x4 x5 x6 x7 x8 x9 x10 x11 x12 x13 x14 x15 x16 x17 x18 x19 x20 x21 : Int32) (f0 f1 f2 f3 f4 f5 f6 f7 f8 f9 f10 f11 f12 f13 f14 f15 f16 f17 f18 f19 f20 f21 : Nat → Int32) (fL : Nat → Nat → Int64) (fN : Nat → Nat → Int32) (fP : Nat → Nat → Nat) (fM : Nat → Nat → Int32) (fO : Nat → Nat → Int32) (i1 : Int32) : Met l yX10_isPattern mwX10_isPatternm ({ frames := 0, cells := 0, slots := 0, locals := 0 }) (va_Pc [.ref (ad 0), .int i1] (fun U => va_P (dC, dI) vwCl (mW ad kc x0 x1 x2 x3 x4 x5 x6 x7 x8 x9 x10 x11 x12 x13 x14 x15 x16 x17 x18 x19 x20 x21 f0 f1 f2 f3 f4 f5 f6 f7 f8 f9 f10 f11 f12 f13 f14 f15 f16 f17 f18 f19 f20 f21 fL fN fP fM fO) U.heap ∧ va_K (dC, dI) vwCl (mT kc) U)) (vp_Si (fun o9 => (o9.toInt = 1 ∧ (0 ≤ i1.toInt ∧ i1.toInt < vI f0 611) ∨ o9.toInt = 0 ∧ (i1.toInt < 0 ∨ vI f0 611 ≤ i1.toInt)))) 0 0 (fun _ => False) := by
  refine Met.ofW (cc := cX10_isPattern) (maxL := 2) (ret := (some .boolean)) (by decide +kernel) rfl ?_
  intro p e s m args below meth c s₁ B hml hv
  obtain ⟨rfl, hP, hK⟩ := hv
  have hx := B.exec
  have hb := B.bytes
  have hr := B.returns
  have hts := atoms_spec (ws := mwX10_isPatternm) B.pre
  have hown : s.vm.findClass RX10 = some m.cls := findClass_of_methodNamed B.named
  have hlocks := B.notSynchronized
  have hP : va_P (dC, dI) vwCl (mW ad kc x0 x1 x2 x3 x4 x5 x6 x7 x8 x9 x10 x11 x12 x13 x14 x15 x16 x17 x18 x19 x20 x21 f0 f1 f2 f3 f4 f5 f6 f7 f8 f9 f10 f11 f12 f13 f14 f15 f16 f17 f18 f19 f20 f21 fL fN fP fM fO) s.heap := hP
  have hK : va_K (dC, dI) vwCl (mT kc) s := hK
  generalize hH : s.heap = H at hP ⊢
  have hl := lv_entry ([.ref (ad 0), .int i1]) (n := 2) (Nat.le_of_ble_eq_true rfl)
  rw [lg_entry_eq]
  generalize (lg_sl ([.ref (ad 0), .int i1]) ++ List.replicate (2 - (lg_sl ([.ref (ad 0), .int i1])).length) Slot.unset).toArray = ls at hl ⊢
  have hl : lv_has ls 2 [(0, .ref (ad 0)), (1, .int i1)] := hl
  have rg_i1 := i_rng i1
  refine lv_iload_n hx hb dX10_isPattern_0 rfl (lv_at hl 1 rfl) ?_
  refine lv_if_lt (tgt := 20) hx hb dX10_isPattern_1 (by decide) (fun k_1 => ?_) (fun k_1 => ?_)
  · have tk_1 := c_lt (a := i1.toInt) (b := 0) rfl (by decide) k_1
    refine lv_iconst (v := 0) hx hb dX10_isPattern_20 (by decide) ?_
    have lit_1 : (0 : Int32).toInt = 0 := by decide
    exact W.zret hx hb hr (z_nar (by first | assumption | decide | exact z_of (by omega))) (fun t ht hW => ⟨_, rfl, (by first | omega | assumption | rfl | decide), ht.trans hH.symm⟩) t_nil dX10_isPattern_21
  · have tk_1 := c_nlt (a := i1.toInt) (b := 0) rfl (by decide) k_1
    refine lv_iload_n hx hb dX10_isPattern_4 rfl (lv_at hl 1 rfl) ?_
    refine lv_aload_n hx hb dX10_isPattern_5 rfl (lv_at hl 0 rfl) ?_
    refine va_get (D := (dC, dI)) (ci := 10) (v := .ref (ad 1)) (C := RX10) (T := TX10) (N := 48) hx hb hts fin_X10_isPatternm_X10 hown hK hP 0 rfl rfl 0 (by decide) (hts (.fieldLink RX10 8 "PatternGateModel" "all" "[I") (List.mem_of_getElem? (i := 1) (by decide +kernel))) (fun _ h9 => h9) rfl dX10_isPattern_6 ?_
    refine lv_sipush (v := 611) hx hb dX10_isPattern_9 (by decide) ?_
    refine va_iald hx hb hK hP 1 0 rfl rfl (i := 611) (by unfold vp_in; decide +kernel) dX10_isPattern_12 ?_
    refine lv_topi (fun y_3 ey_3 => ?_)
    have rg_y_3 := i_rng y_3
    have vy_3 := vI_lda (f := f0) (i := 611) (a := 611) ey_3 (by first | omega | decide)
    have rg_y_3 := i_rng y_3
    refine lv_icmp_ge (tgt := 20) hx hb dX10_isPattern_13 (by decide) (fun k_4 => ?_) (fun k_4 => ?_)
    · have tk_4 := c_ge (a := i1.toInt) (b := y_3.toInt) rfl rfl k_4
      refine lv_iconst (v := 0) hx hb dX10_isPattern_20 (by decide) ?_
      have lit_4 : (0 : Int32).toInt = 0 := by decide
      exact W.zret hx hb hr (z_nar (by first | assumption | decide | exact z_of (by omega))) (fun t ht hW => ⟨_, rfl, (by first | omega | assumption | rfl | decide), ht.trans hH.symm⟩) t_nil dX10_isPattern_21
    · have tk_4 := c_nge (a := i1.toInt) (b := y_3.toInt) rfl rfl k_4
      refine lv_iconst (v := 1) hx hb dX10_isPattern_16 (by decide) ?_
      refine lv_goto (tgt := 21) hx hb dX10_isPattern_17 (by decide) ?_
      have lit_5 : (1 : Int32).toInt = 1 := by decide
      exact W.zret hx hb hr (z_nar (by first | assumption | decide | exact z_of (by omega))) (fun t ht hW => ⟨_, rfl, (by first | omega | assumption | rfl | decide), ht.trans hH.symm⟩) t_nil dX10_isPattern_21
theorem dX10_sizeOf_0 : decode cX10_sizeOf 0 = .ok (.aload_n 0, 1) := by decide +kernel
theorem dX10_sizeOf_1 : decode cX10_sizeOf 1 = .ok (.getfield 8, 3) := by decide +kernel
theorem dX10_sizeOf_4 : decode cX10_sizeOf 4 = .ok (.iconst 1, 1) := by decide +kernel
theorem dX10_sizeOf_5 : decode cX10_sizeOf 5 = .ok (.iload_n 1, 1) := by decide +kernel
theorem dX10_sizeOf_6 : decode cX10_sizeOf 6 = .ok (.iadd, 1) := by decide +kernel
theorem dX10_sizeOf_7 : decode cX10_sizeOf 7 = .ok (.iaload, 1) := by decide +kernel
theorem dX10_sizeOf_8 : decode cX10_sizeOf 8 = .ok (.ireturn, 1) := by decide +kernel
def mwX10_sizeOfm : List Cond := .code yX10_sizeOf cX10_sizeOf 2 (some .int) :: ([.fieldLink RX10 8 "PatternGateModel" "all" "[I"] ++ wsX100)
theorem fin_X10_sizeOfm_X10 : ∀ w ∈ wsX100, w ∈ mwX10_sizeOfm := fun w h => List.mem_cons_of_mem _ (List.mem_append_right _ h)
set_option maxHeartbeats 4000000 in
set_option maxRecDepth 100000 in
theorem m_sizeOf (l : Launch) (dC : Nat → ClassId) (dI : Nat → Nat → Nat) (ad : Nat → Nat) (kc : Nat → ClassId) (x0 x1 x2 x3 x4 x5 x6 x7 x8 x9 x10 x11 x12 x13 x14 x15 x16 x17 x18 x19 x20 x21 : Int32) (f0 f1 f2 f3 f4 f5 f6 f7 f8 f9 f10 f11 f12 f13 f14 f15 f16 f17 f18 f19 f20 f21 : Nat → Int32) (fL : Nat → Nat → Int64) (fN : Nat → Nat → Int32) (fP : Nat → Nat → Nat) (fM : Nat → Nat → Int32) (fO : Nat → Nat → Int32) (i1 : Int32) (q0 : 0 ≤ i1.toInt) (q1 : i1.toInt ≤ 1000) : Met l yX10_sizeOf mwX10_sizeOfm ({ frames := 0, cells := 0, slots := 0, locals := 0 }) (va_Pc [.ref (ad 0), .int i1] (fun U => va_P (dC, dI) vwCl (mW ad kc x0 x1 x2 x3 x4 x5 x6 x7 x8 x9 x10 x11 x12 x13 x14 x15 x16 x17 x18 x19 x20 x21 f0 f1 f2 f3 f4 f5 f6 f7 f8 f9 f10 f11 f12 f13 f14 f15 f16 f17 f18 f19 f20 f21 fL fN fP fM fO) U.heap ∧ va_K (dC, dI) vwCl (mT kc) U)) (vp_Si (fun o9 => (o9.toInt = vI f0 (1 + i1.toInt)))) 0 0 (fun _ => False) := by
  refine Met.ofW (cc := cX10_sizeOf) (maxL := 2) (ret := (some .int)) (by decide +kernel) rfl ?_
  intro p e s m args below meth c s₁ B hml hv
  obtain ⟨rfl, hP, hK⟩ := hv
  have hx := B.exec
  have hb := B.bytes
  have hr := B.returns
  have hts := atoms_spec (ws := mwX10_sizeOfm) B.pre
  have hown : s.vm.findClass RX10 = some m.cls := findClass_of_methodNamed B.named
  have hlocks := B.notSynchronized
  have hP : va_P (dC, dI) vwCl (mW ad kc x0 x1 x2 x3 x4 x5 x6 x7 x8 x9 x10 x11 x12 x13 x14 x15 x16 x17 x18 x19 x20 x21 f0 f1 f2 f3 f4 f5 f6 f7 f8 f9 f10 f11 f12 f13 f14 f15 f16 f17 f18 f19 f20 f21 fL fN fP fM fO) s.heap := hP
  have hK : va_K (dC, dI) vwCl (mT kc) s := hK
  generalize hH : s.heap = H at hP ⊢
  have hl := lv_entry ([.ref (ad 0), .int i1]) (n := 2) (Nat.le_of_ble_eq_true rfl)
  rw [lg_entry_eq]
  generalize (lg_sl ([.ref (ad 0), .int i1]) ++ List.replicate (2 - (lg_sl ([.ref (ad 0), .int i1])).length) Slot.unset).toArray = ls at hl ⊢
  have hl : lv_has ls 2 [(0, .ref (ad 0)), (1, .int i1)] := hl
  have rg_i1 := i_rng i1
  refine lv_aload_n hx hb dX10_sizeOf_0 rfl (lv_at hl 0 rfl) ?_
  refine va_get (D := (dC, dI)) (ci := 10) (v := .ref (ad 1)) (C := RX10) (T := TX10) (N := 48) hx hb hts fin_X10_sizeOfm_X10 hown hK hP 0 rfl rfl 0 (by decide) (hts (.fieldLink RX10 8 "PatternGateModel" "all" "[I") (List.mem_of_getElem? (i := 1) (by decide +kernel))) (fun _ h9 => h9) rfl dX10_sizeOf_1 ?_
  refine lv_iconst (v := 1) hx hb dX10_sizeOf_4 (by decide) ?_
  refine lv_iload_n hx hb dX10_sizeOf_5 rfl (lv_at hl 1 rfl) ?_
  refine lv_iadd hx hb dX10_sizeOf_6 ?_
  refine lv_topi (fun y_1 ey_1 => ?_)
  first | have ty_1 := i_add (a := 1) (b := i1.toInt) (by decide) rfl ey_1 (by omega) (by omega) | skip
  refine va_iald hx hb hK hP 1 0 rfl rfl (i := y_1) (vp_of (a := y_1.toInt) rfl (by omega) (by omega)) dX10_sizeOf_7 ?_
  refine lv_topi (fun y_2 ey_2 => ?_)
  have rg_y_2 := i_rng y_2
  have vy_2 := vI_lda (f := f0) (i := y_1) (a := (1 + i1.toInt)) ey_2 (by first | omega | decide)
  have rg_y_2 := i_rng y_2
  exact W.iret hx hb hr (fun t ht hW => ⟨_, rfl, (by first | omega | assumption | rfl | decide), ht.trans hH.symm⟩) t_nil dX10_sizeOf_8
theorem dX10_at_0 : decode cX10_at 0 = .ok (.aload_n 0, 1) := by decide +kernel
theorem dX10_at_1 : decode cX10_at 1 = .ok (.getfield 8, 3) := by decide +kernel
theorem dX10_at_4 : decode cX10_at 4 = .ok (.bipush 11, 2) := by decide +kernel
theorem dX10_at_6 : decode cX10_at 6 = .ok (.bipush 60, 2) := by decide +kernel
theorem dX10_at_8 : decode cX10_at 8 = .ok (.iload_n 1, 1) := by decide +kernel
theorem dX10_at_9 : decode cX10_at 9 = .ok (.imul, 1) := by decide +kernel
theorem dX10_at_10 : decode cX10_at 10 = .ok (.iadd, 1) := by decide +kernel
theorem dX10_at_11 : decode cX10_at 11 = .ok (.iload_n 2, 1) := by decide +kernel
theorem dX10_at_12 : decode cX10_at 12 = .ok (.iadd, 1) := by decide +kernel
theorem dX10_at_13 : decode cX10_at 13 = .ok (.iaload, 1) := by decide +kernel
theorem dX10_at_14 : decode cX10_at 14 = .ok (.ireturn, 1) := by decide +kernel
def mwX10_atm : List Cond := .code yX10_at cX10_at 3 (some .int) :: ([.fieldLink RX10 8 "PatternGateModel" "all" "[I"] ++ wsX100)
theorem fin_X10_atm_X10 : ∀ w ∈ wsX100, w ∈ mwX10_atm := fun w h => List.mem_cons_of_mem _ (List.mem_append_right _ h)
set_option maxHeartbeats 4000000 in
set_option maxRecDepth 100000 in
theorem m_at (l : Launch) (dC : Nat → ClassId) (dI : Nat → Nat → Nat) (ad : Nat → Nat) (kc : Nat → ClassId) (x0 x1 x2 x3 x4 x5 x6 x7 x8 x9 x10 x11 x12 x13 x14 x15 x16 x17 x18 x19 x20 x21 : Int32) (f0 f1 f2 f3 f4 f5 f6 f7 f8 f9 f10 f11 f12 f13 f14 f15 f16 f17 f18 f19 f20 f21 : Nat → Int32) (fL : Nat → Nat → Int64) (fN : Nat → Nat → Int32) (fP : Nat → Nat → Nat) (fM : Nat → Nat → Int32) (fO : Nat → Nat → Int32) (i1 i2 : Int32) (q0 : 0 ≤ i1.toInt) (q1 : i1.toInt ≤ 1000) (q2 : 0 ≤ i2.toInt) (q3 : i2.toInt ≤ 1000) : Met l yX10_at mwX10_atm ({ frames := 0, cells := 0, slots := 0, locals := 0 }) (va_Pc [.ref (ad 0), .int i1, .int i2] (fun U => va_P (dC, dI) vwCl (mW ad kc x0 x1 x2 x3 x4 x5 x6 x7 x8 x9 x10 x11 x12 x13 x14 x15 x16 x17 x18 x19 x20 x21 f0 f1 f2 f3 f4 f5 f6 f7 f8 f9 f10 f11 f12 f13 f14 f15 f16 f17 f18 f19 f20 f21 fL fN fP fM fO) U.heap ∧ va_K (dC, dI) vwCl (mT kc) U)) (vp_Si (fun o9 => (o9.toInt = vI f0 (11 + 60 * i1.toInt + i2.toInt)))) 0 0 (fun _ => False) := by
  refine Met.ofW (cc := cX10_at) (maxL := 3) (ret := (some .int)) (by decide +kernel) rfl ?_
  intro p e s m args below meth c s₁ B hml hv
  obtain ⟨rfl, hP, hK⟩ := hv
  have hx := B.exec
  have hb := B.bytes
  have hr := B.returns
  have hts := atoms_spec (ws := mwX10_atm) B.pre
  have hown : s.vm.findClass RX10 = some m.cls := findClass_of_methodNamed B.named
  have hlocks := B.notSynchronized
  have hP : va_P (dC, dI) vwCl (mW ad kc x0 x1 x2 x3 x4 x5 x6 x7 x8 x9 x10 x11 x12 x13 x14 x15 x16 x17 x18 x19 x20 x21 f0 f1 f2 f3 f4 f5 f6 f7 f8 f9 f10 f11 f12 f13 f14 f15 f16 f17 f18 f19 f20 f21 fL fN fP fM fO) s.heap := hP
  have hK : va_K (dC, dI) vwCl (mT kc) s := hK
  generalize hH : s.heap = H at hP ⊢
  have hl := lv_entry ([.ref (ad 0), .int i1, .int i2]) (n := 3) (Nat.le_of_ble_eq_true rfl)
  rw [lg_entry_eq]
  generalize (lg_sl ([.ref (ad 0), .int i1, .int i2]) ++ List.replicate (3 - (lg_sl ([.ref (ad 0), .int i1, .int i2])).length) Slot.unset).toArray = ls at hl ⊢
  have hl : lv_has ls 3 [(0, .ref (ad 0)), (1, .int i1), (2, .int i2)] := hl
  have rg_i1 := i_rng i1
  have rg_i2 := i_rng i2
  refine lv_aload_n hx hb dX10_at_0 rfl (lv_at hl 0 rfl) ?_
  refine va_get (D := (dC, dI)) (ci := 10) (v := .ref (ad 1)) (C := RX10) (T := TX10) (N := 48) hx hb hts fin_X10_atm_X10 hown hK hP 0 rfl rfl 0 (by decide) (hts (.fieldLink RX10 8 "PatternGateModel" "all" "[I") (List.mem_of_getElem? (i := 1) (by decide +kernel))) (fun _ h9 => h9) rfl dX10_at_1 ?_
  refine lv_bipush (v := 11) hx hb dX10_at_4 (by decide) ?_
  refine lv_bipush (v := 60) hx hb dX10_at_6 (by decide) ?_
  refine lv_iload_n hx hb dX10_at_8 rfl (lv_at hl 1 rfl) ?_
  refine lv_imul hx hb dX10_at_9 ?_
  refine lv_topi (fun y_1 ey_1 => ?_)
  first | have ty_1 := i_mul (a := 60) (b := i1.toInt) (by decide) rfl ey_1 (by omega) (by omega) | skip
  refine lv_iadd hx hb dX10_at_10 ?_
  refine lv_topi (fun y_2 ey_2 => ?_)
  first | have ty_2 := i_add (a := 11) (b := y_1.toInt) (by decide) rfl ey_2 (by omega) (by omega) | skip
  refine lv_iload_n hx hb dX10_at_11 rfl (lv_at hl 2 rfl) ?_
  refine lv_iadd hx hb dX10_at_12 ?_
  refine lv_topi (fun y_3 ey_3 => ?_)
  first | have ty_3 := i_add (a := y_2.toInt) (b := i2.toInt) rfl rfl ey_3 (by omega) (by omega) | skip
  refine va_iald hx hb hK hP 1 0 rfl rfl (i := y_3) (vp_of (a := y_3.toInt) rfl (by omega) (by omega)) dX10_at_13 ?_
  refine lv_topi (fun y_4 ey_4 => ?_)
  have rg_y_4 := i_rng y_4
  have vy_4 := vI_lda (f := f0) (i := y_3) (a := ((11 + (60 * i1.toInt)) + i2.toInt)) ey_4 (by first | omega | decide)
  have rg_y_4 := i_rng y_4
  exact W.iret hx hb hr (fun t ht hW => ⟨_, rfl, (by first | omega | assumption | rfl | decide), ht.trans hH.symm⟩) t_nil dX10_at_14
theorem dX10_copies_0 : decode cX10_copies 0 = .ok (.iconst 0, 1) := by decide +kernel
theorem dX10_copies_1 : decode cX10_copies 1 = .ok (.istore_n 3, 1) := by decide +kernel
theorem dX10_copies_2 : decode cX10_copies 2 = .ok (.iload_n 3, 1) := by decide +kernel
theorem dX10_copies_3 : decode cX10_copies 3 = .ok (.sipush 7820, 3) := by decide +kernel
theorem dX10_copies_6 : decode cX10_copies 6 = .ok (.if_icmp .ge 25, 3) := by decide +kernel
theorem dX10_copies_9 : decode cX10_copies 9 = .ok (.aload_n 0, 1) := by decide +kernel
theorem dX10_copies_10 : decode cX10_copies 10 = .ok (.getfield 8, 3) := by decide +kernel
theorem dX10_copies_13 : decode cX10_copies 13 = .ok (.iload_n 2, 1) := by decide +kernel
theorem dX10_copies_14 : decode cX10_copies 14 = .ok (.iload_n 3, 1) := by decide +kernel
theorem dX10_copies_15 : decode cX10_copies 15 = .ok (.iadd, 1) := by decide +kernel
theorem dX10_copies_16 : decode cX10_copies 16 = .ok (.aload_n 0, 1) := by decide +kernel
theorem dX10_copies_17 : decode cX10_copies 17 = .ok (.getfield 8, 3) := by decide +kernel
theorem dX10_copies_20 : decode cX10_copies 20 = .ok (.iload_n 1, 1) := by decide +kernel
theorem dX10_copies_21 : decode cX10_copies 21 = .ok (.iload_n 3, 1) := by decide +kernel
theorem dX10_copies_22 : decode cX10_copies 22 = .ok (.iadd, 1) := by decide +kernel
theorem dX10_copies_23 : decode cX10_copies 23 = .ok (.iaload, 1) := by decide +kernel
theorem dX10_copies_24 : decode cX10_copies 24 = .ok (.iastore, 1) := by decide +kernel
theorem dX10_copies_25 : decode cX10_copies 25 = .ok (.iinc 3 1, 3) := by decide +kernel
theorem dX10_copies_28 : decode cX10_copies 28 = .ok (.goto (-26), 3) := by decide +kernel
theorem dX10_copies_31 : decode cX10_copies 31 = .ok (.return_, 1) := by decide +kernel
def mwX10_copiesm : List Cond := .code yX10_copies cX10_copies 4 none :: ([.fieldLink RX10 8 "PatternGateModel" "all" "[I"] ++ wsX100)
theorem fin_X10_copiesm_X10 : ∀ w ∈ wsX100, w ∈ mwX10_copiesm := fun w h => List.mem_cons_of_mem _ (List.mem_append_right _ h)
set_option maxHeartbeats 4000000 in
set_option maxRecDepth 100000 in
theorem m_copies (l : Launch) (dC : Nat → ClassId) (dI : Nat → Nat → Nat) (ad : Nat → Nat) (kc : Nat → ClassId) (x0 x1 x2 x3 x4 x5 x6 x7 x8 x9 x10 x11 x12 x13 x14 x15 x16 x17 x18 x19 x20 x21 : Int32) (f0 f1 f2 f3 f4 f5 f6 f7 f8 f9 f10 f11 f12 f13 f14 f15 f16 f17 f18 f19 f20 f21 : Nat → Int32) (fL : Nat → Nat → Int64) (fN : Nat → Nat → Int32) (fP : Nat → Nat → Nat) (fM : Nat → Nat → Int32) (fO : Nat → Nat → Int32) (sz : Nat) (i1 i2 : Int32) (q0 : 0 ≤ i1.toInt) (q1 : i1.toInt ≤ 93840) (q2 : 0 ≤ i2.toInt) (q3 : i2.toInt ≤ 93840) (q4 : i1.toInt + 7820 ≤ i2.toInt ∨ i2.toInt + 7820 ≤ i1.toInt) : Met l yX10_copies mwX10_copiesm ({ frames := 0, cells := 0, slots := 0, locals := 0 }) (va_Pc [.ref (ad 0), .int i1, .int i2] (fun U => U.heap.size = sz ∧ va_P (dC, dI) vwCl (mW ad kc x0 x1 x2 x3 x4 x5 x6 x7 x8 x9 x10 x11 x12 x13 x14 x15 x16 x17 x18 x19 x20 x21 f0 f1 f2 f3 f4 f5 f6 f7 f8 f9 f10 f11 f12 f13 f14 f15 f16 f17 f18 f19 f20 f21 fL fN fP fM fO) U.heap ∧ va_K (dC, dI) vwCl (mT kc) U ∧ va_D (fun _ => True) (mW ad kc x0 x1 x2 x3 x4 x5 x6 x7 x8 x9 x10 x11 x12 x13 x14 x15 x16 x17 x18 x19 x20 x21 f0 f1 f2 f3 f4 f5 f6 f7 f8 f9 f10 f11 f12 f13 f14 f15 f16 f17 f18 f19 f20 f21 fL fN fP fM fO))) (va_Qv (fun (_ : Unit) => True) (fun _ t => ∃ (g0 : Nat → Int32), (∀ z : Int, 0 ≤ z → vI g0 z = if i2.toInt ≤ z ∧ z < i2.toInt + 7820 then vI f0 (z - i2.toInt + i1.toInt) else vI f0 z) ∧ va_P (dC, dI) vwCl (mW ad kc x0 x1 x2 x3 x4 x5 x6 x7 x8 x9 x10 x11 x12 x13 x14 x15 x16 x17 x18 x19 x20 x21 g0 f1 f2 f3 f4 f5 f6 f7 f8 f9 f10 f11 f12 f13 f14 f15 f16 f17 f18 f19 f20 f21 fL fN fP fM fO) t.heap ∧ va_K (dC, dI) vwCl (mT kc) t ∧ va_D (va_A (mW ad kc x0 x1 x2 x3 x4 x5 x6 x7 x8 x9 x10 x11 x12 x13 x14 x15 x16 x17 x18 x19 x20 x21 f0 f1 f2 f3 f4 f5 f6 f7 f8 f9 f10 f11 f12 f13 f14 f15 f16 f17 f18 f19 f20 f21 fL fN fP fM fO) sz) (mW ad kc x0 x1 x2 x3 x4 x5 x6 x7 x8 x9 x10 x11 x12 x13 x14 x15 x16 x17 x18 x19 x20 x21 g0 f1 f2 f3 f4 f5 f6 f7 f8 f9 f10 f11 f12 f13 f14 f15 f16 f17 f18 f19 f20 f21 fL fN fP fM fO)) (va_A (mW ad kc x0 x1 x2 x3 x4 x5 x6 x7 x8 x9 x10 x11 x12 x13 x14 x15 x16 x17 x18 x19 x20 x21 f0 f1 f2 f3 f4 f5 f6 f7 f8 f9 f10 f11 f12 f13 f14 f15 f16 f17 f18 f19 f20 f21 fL fN fP fM fO) sz)) 0 0 (va_A (mW ad kc x0 x1 x2 x3 x4 x5 x6 x7 x8 x9 x10 x11 x12 x13 x14 x15 x16 x17 x18 x19 x20 x21 f0 f1 f2 f3 f4 f5 f6 f7 f8 f9 f10 f11 f12 f13 f14 f15 f16 f17 f18 f19 f20 f21 fL fN fP fM fO) sz) := by
  refine Met.ofW (cc := cX10_copies) (maxL := 4) (ret := none) (by decide +kernel) rfl ?_
  intro p e s m args below meth c s₁ B hml hv
  obtain ⟨rfl, hsz, hP, hK, hD0⟩ := hv
  have hx := B.exec
  have hb := B.bytes
  have hr := B.returns
  have hts := atoms_spec (ws := mwX10_copiesm) B.pre
  have hown : s.vm.findClass RX10 = some m.cls := findClass_of_methodNamed B.named
  have hlocks := B.notSynchronized
  subst hsz
  have hD := hD0.self (sz := s.heap.size)
  generalize hAe : va_A (mW ad kc x0 x1 x2 x3 x4 x5 x6 x7 x8 x9 x10 x11 x12 x13 x14 x15 x16 x17 x18 x19 x20 x21 f0 f1 f2 f3 f4 f5 f6 f7 f8 f9 f10 f11 f12 f13 f14 f15 f16 f17 f18 f19 f20 f21 fL fN fP fM fO) s.heap.size = A at hD ⊢
  have hA : ∀ q : Nat, s.heap.size ≤ q → A q := fun q h => by rw [← hAe]; exact Or.inr h
  have hP : va_P (dC, dI) vwCl (mW ad kc x0 x1 x2 x3 x4 x5 x6 x7 x8 x9 x10 x11 x12 x13 x14 x15 x16 x17 x18 x19 x20 x21 f0 f1 f2 f3 f4 f5 f6 f7 f8 f9 f10 f11 f12 f13 f14 f15 f16 f17 f18 f19 f20 f21 fL fN fP fM fO) s.heap := hP
  have hD : va_D A (mW ad kc x0 x1 x2 x3 x4 x5 x6 x7 x8 x9 x10 x11 x12 x13 x14 x15 x16 x17 x18 x19 x20 x21 f0 f1 f2 f3 f4 f5 f6 f7 f8 f9 f10 f11 f12 f13 f14 f15 f16 f17 f18 f19 f20 f21 fL fN fP fM fO) := hD
  have hK : va_K (dC, dI) vwCl (mT kc) s := hK
  generalize hH : s.heap = H at hP ⊢
  have hS : va_S A s.heap H [] := by rw [← hH]; exact va_S.rf
  have hl := lv_entry ([.ref (ad 0), .int i1, .int i2]) (n := 4) (Nat.le_of_ble_eq_true rfl)
  rw [lg_entry_eq]
  generalize (lg_sl ([.ref (ad 0), .int i1, .int i2]) ++ List.replicate (4 - (lg_sl ([.ref (ad 0), .int i1, .int i2])).length) Slot.unset).toArray = ls at hl ⊢
  have hl : lv_has ls 4 [(0, .ref (ad 0)), (1, .int i1), (2, .int i2)] := hl
  have rg_i1 := i_rng i1
  have rg_i2 := i_rng i2
  refine lv_iconst (v := 0) hx hb dX10_copies_0 (by decide) ?_
  refine lv_istore_n (lv' := [(3, .int 0), (0, .ref (ad 0)), (1, .int i1), (2, .int i2)]) hx hb dX10_copies_1 rfl hl (by decide) rfl (fun ls hl => ?_)
  have loop2 : ∀ (lm2 : Nat) (kk : Int32) (ga : Nat → Int32), (0 ≤ kk.toInt) → (kk.toInt ≤ 7820) → (∀ z : Int, 0 ≤ z → vI ga z = if i2.toInt ≤ z ∧ z < i2.toInt + kk.toInt then vI f0 (z - i2.toInt + i1.toInt) else vI f0 z) → ((7820 - kk.toInt).toNat) < lm2 → ∀ (H : Heap) (locs : List Loc) (ls : Array Slot), va_P (dC, dI) vwCl (mW ad kc x0 x1 x2 x3 x4 x5 x6 x7 x8 x9 x10 x11 x12 x13 x14 x15 x16 x17 x18 x19 x20 x21 ga f1 f2 f3 f4 f5 f6 f7 f8 f9 f10 f11 f12 f13 f14 f15 f16 f17 f18 f19 f20 f21 fL fN fP fM fO) H → va_D A (mW ad kc x0 x1 x2 x3 x4 x5 x6 x7 x8 x9 x10 x11 x12 x13 x14 x15 x16 x17 x18 x19 x20 x21 ga f1 f2 f3 f4 f5 f6 f7 f8 f9 f10 f11 f12 f13 f14 f15 f16 f17 f18 f19 f20 f21 fL fN fP fM fO) → va_S A s.heap H locs → lv_has ls 4 [(3, .int kk), (0, .ref (ad 0)), (1, .int i1), (2, .int i2)] → W p l e (headSpec mwX10_copiesm ({ frames := 0, cells := 0, slots := 0, locals := 0 })).room s m ([.ref (ad 0), .int i1, .int i2]).toArray below meth c H locs 0 0 (MQ below (va_Qv (fun (_ : Unit) => True) (fun _ t => ∃ (g0 : Nat → Int32), (∀ z : Int, 0 ≤ z → vI g0 z = if i2.toInt ≤ z ∧ z < i2.toInt + 7820 then vI f0 (z - i2.toInt + i1.toInt) else vI f0 z) ∧ va_P (dC, dI) vwCl (mW ad kc x0 x1 x2 x3 x4 x5 x6 x7 x8 x9 x10 x11 x12 x13 x14 x15 x16 x17 x18 x19 x20 x21 g0 f1 f2 f3 f4 f5 f6 f7 f8 f9 f10 f11 f12 f13 f14 f15 f16 f17 f18 f19 f20 f21 fL fN fP fM fO) t.heap ∧ va_K (dC, dI) vwCl (mT kc) t ∧ va_D A (mW ad kc x0 x1 x2 x3 x4 x5 x6 x7 x8 x9 x10 x11 x12 x13 x14 x15 x16 x17 x18 x19 x20 x21 g0 f1 f2 f3 f4 f5 f6 f7 f8 f9 f10 f11 f12 f13 f14 f15 f16 f17 f18 f19 f20 f21 fL fN fP fM fO)) A) ([.ref (ad 0), .int i1, .int i2]).toArray s 0 0 A) (F0 m 2 ls []) := by
    intro lm2
    induction lm2 with
    | zero => intro kk ga v2_0 v2_1 v2_2 hm2; exact absurd hm2 (Nat.not_lt_zero _)
    | succ lm2 ih2 =>
      intro kk ga v2_0 v2_1 v2_2 hm2 H locs ls hP hD hS hl
      have rg_kk := i_rng kk
      refine lv_iload_n hx hb dX10_copies_2 rfl (lv_at hl 0 rfl) ?_
      refine lv_sipush (v := 7820) hx hb dX10_copies_3 (by decide) ?_
      refine lv_icmp_ge (tgt := 31) hx hb dX10_copies_6 (by decide) (fun k_1 => ?_) (fun k_1 => ?_)
      · have tk_1 := c_ge (a := kk.toInt) (b := 7820) rfl (by decide) k_1
        exact W.vret hx hb hr (fun t ht hW => ⟨⟨(), rfl, trivial, ga, (by rw [show kk.toInt = 7820 by omega] at v2_2; exact v2_2), by rw [ht]; exact hP, va_K.moved hW.alike hK, hD⟩, hS.F ht⟩) hS.2.2 dX10_copies_31
      · have tk_1 := c_nge (a := kk.toInt) (b := 7820) rfl (by decide) k_1
        refine lv_aload_n hx hb dX10_copies_9 rfl (lv_at hl 1 rfl) ?_
        refine va_get (D := (dC, dI)) (ci := 10) (v := .ref (ad 1)) (C := RX10) (T := TX10) (N := 48) hx hb hts fin_X10_copiesm_X10 hown hK hP 0 rfl rfl 0 (by decide) (hts (.fieldLink RX10 8 "PatternGateModel" "all" "[I") (List.mem_of_getElem? (i := 1) (by decide +kernel))) (fun _ h9 => h9) rfl dX10_copies_10 ?_
        refine lv_iload_n hx hb dX10_copies_13 rfl (lv_at hl 3 rfl) ?_
        refine lv_iload_n hx hb dX10_copies_14 rfl (lv_at hl 0 rfl) ?_
        refine lv_iadd hx hb dX10_copies_15 ?_
        refine lv_topi (fun y_2 ey_2 => ?_)
        first | have ty_2 := i_add (a := i2.toInt) (b := kk.toInt) rfl rfl ey_2 (by omega) (by omega) | skip
        refine lv_aload_n hx hb dX10_copies_16 rfl (lv_at hl 1 rfl) ?_
        refine va_get (D := (dC, dI)) (ci := 10) (v := .ref (ad 1)) (C := RX10) (T := TX10) (N := 48) hx hb hts fin_X10_copiesm_X10 hown hK hP 0 rfl rfl 0 (by decide) (hts (.fieldLink RX10 8 "PatternGateModel" "all" "[I") (List.mem_of_getElem? (i := 1) (by decide +kernel))) (fun _ h9 => h9) rfl dX10_copies_17 ?_
        refine lv_iload_n hx hb dX10_copies_20 rfl (lv_at hl 2 rfl) ?_
        refine lv_iload_n hx hb dX10_copies_21 rfl (lv_at hl 0 rfl) ?_
        refine lv_iadd hx hb dX10_copies_22 ?_
        refine lv_topi (fun y_3 ey_3 => ?_)
        first | have ty_3 := i_add (a := i1.toInt) (b := kk.toInt) rfl rfl ey_3 (by omega) (by omega) | skip
        refine va_iald hx hb hK hP 1 0 rfl rfl (i := y_3) (vp_of (a := y_3.toInt) rfl (by omega) (by omega)) dX10_copies_23 ?_
        refine lv_topi (fun y_4 ey_4 => ?_)
        have rg_y_4 := i_rng y_4
        have vy_4 := vI_lda (f := ga) (i := y_3) (a := (i1.toInt + kk.toInt)) ey_4 (by first | omega | decide)
        have rg_y_4 := i_rng y_4
        refine va_iast hx hb hK hP hD hS 1 0 rfl rfl (i := y_2) (vp_of (a := y_2.toInt) rfl (by omega) (by omega)) dX10_copies_24 (fun H locs hP hD hS => ?_)
        generalize hf_f_5 : upd ga _ _ = f_5 at hP hD
        have uf_5 := vI_up (a := (i2.toInt + kk.toInt)) (b := y_4.toInt) hf_f_5 (by first | omega | decide) (by omega) rfl
        have hP : va_P (dC, dI) vwCl (mW ad kc x0 x1 x2 x3 x4 x5 x6 x7 x8 x9 x10 x11 x12 x13 x14 x15 x16 x17 x18 x19 x20 x21 f_5 f1 f2 f3 f4 f5 f6 f7 f8 f9 f10 f11 f12 f13 f14 f15 f16 f17 f18 f19 f20 f21 fL fN fP fM fO) H := hP
        have hD : va_D A (mW ad kc x0 x1 x2 x3 x4 x5 x6 x7 x8 x9 x10 x11 x12 x13 x14 x15 x16 x17 x18 x19 x20 x21 f_5 f1 f2 f3 f4 f5 f6 f7 f8 f9 f10 f11 f12 f13 f14 f15 f16 f17 f18 f19 f20 f21 fL fN fP fM fO) := hD
        obtain ⟨y_6, ey_6⟩ : ∃ y : Int32, y = kk + 1 := ⟨_, rfl⟩
        first | have ty_6 := i_add (a := kk.toInt) (b := 1) rfl (by decide) ey_6 (by omega) (by omega) | skip
        refine lv_iinc (v := y_6) (lv' := [(3, .int y_6), (0, .ref (ad 0)), (1, .int i1), (2, .int i2)]) hx hb dX10_copies_25 hl (k := 0) rfl (by rw [ey_6]; rfl) (by decide) rfl (fun ls hl => ?_)
        refine lv_goto (tgt := 2) hx hb dX10_copies_28 (by decide) ?_
        exact ih2 y_6 f_5 (by first | omega | assumption | decide) (by first | omega | assumption | decide) (by rw [show y_6.toInt = kk.toInt + 1 by omega]; exact cp_step v2_2 (hv := by assumption) (hu := by assumption) (by omega) (by omega) (by omega) (by omega)) (by omega) _ _ ls hP hD hS (lv_sub hl [0, 1, 2, 3] rfl)
  have lit_6 : (0 : Int32).toInt = 0 := by decide
  exact loop2 _ 0 f0 (by first | omega | assumption | decide) (by first | omega | assumption | decide) (fun z _ => by rw [if_neg (by omega)]) (Nat.lt_succ_self _) _ _ ls hP hD hS (lv_sub hl [0, 1, 2, 3] rfl)

theorem dX2_tripleAt_0 : decode cX2_tripleAt 0 = .ok (.aload_n 0, 1) := by decide +kernel
theorem dX2_tripleAt_1 : decode cX2_tripleAt 1 = .ok (.iload_n 1, 1) := by decide +kernel
theorem dX2_tripleAt_2 : decode cX2_tripleAt 2 = .ok (.iaload, 1) := by decide +kernel
theorem dX2_tripleAt_3 : decode cX2_tripleAt 3 = .ok (.bipush 26, 2) := by decide +kernel
theorem dX2_tripleAt_5 : decode cX2_tripleAt 5 = .ok (.imul, 1) := by decide +kernel
theorem dX2_tripleAt_6 : decode cX2_tripleAt 6 = .ok (.aload_n 0, 1) := by decide +kernel
theorem dX2_tripleAt_7 : decode cX2_tripleAt 7 = .ok (.iload_n 1, 1) := by decide +kernel
theorem dX2_tripleAt_8 : decode cX2_tripleAt 8 = .ok (.iconst 1, 1) := by decide +kernel
theorem dX2_tripleAt_9 : decode cX2_tripleAt 9 = .ok (.iadd, 1) := by decide +kernel
theorem dX2_tripleAt_10 : decode cX2_tripleAt 10 = .ok (.iaload, 1) := by decide +kernel
theorem dX2_tripleAt_11 : decode cX2_tripleAt 11 = .ok (.iadd, 1) := by decide +kernel
theorem dX2_tripleAt_12 : decode cX2_tripleAt 12 = .ok (.bipush 26, 2) := by decide +kernel
theorem dX2_tripleAt_14 : decode cX2_tripleAt 14 = .ok (.imul, 1) := by decide +kernel
theorem dX2_tripleAt_15 : decode cX2_tripleAt 15 = .ok (.aload_n 0, 1) := by decide +kernel
theorem dX2_tripleAt_16 : decode cX2_tripleAt 16 = .ok (.iload_n 1, 1) := by decide +kernel
theorem dX2_tripleAt_17 : decode cX2_tripleAt 17 = .ok (.iconst 2, 1) := by decide +kernel
theorem dX2_tripleAt_18 : decode cX2_tripleAt 18 = .ok (.iadd, 1) := by decide +kernel
theorem dX2_tripleAt_19 : decode cX2_tripleAt 19 = .ok (.iaload, 1) := by decide +kernel
theorem dX2_tripleAt_20 : decode cX2_tripleAt 20 = .ok (.iadd, 1) := by decide +kernel
theorem dX2_tripleAt_21 : decode cX2_tripleAt 21 = .ok (.ireturn, 1) := by decide +kernel
def mwX2_tripleAt : List Cond := .code yX2_tripleAt cX2_tripleAt 2 (some .int) :: ([])
set_option maxHeartbeats 4000000 in
set_option maxRecDepth 100000 in
/-- Doc.tripleAt -/
theorem s_Doc_tripleAt (l : Launch) (dC : Nat → ClassId) (dI : Nat → Nat → Nat) (la n : Nat) (f : Nat → Int32) (cI : ClassId) (i : Int32) (h1 : 0 ≤ i.toInt) (h2 : i.toInt + 2 < n) (h3 : n ≤ 1000000) : Met l yX2_tripleAt mwX2_tripleAt ({ frames := 0, cells := 0, slots := 0, locals := 0 }) (va_Pc [.ref la, .int i] (fun U => va_P (dC, dI) vwCl ([(la, .inl (cI, n, .inl f))]) U.heap ∧ va_K (dC, dI) vwCl ([(cI, .int)]) U)) (vp_Si (fun o => True)) 0 0 (fun _ => False) := by
  refine Met.ofW (cc := cX2_tripleAt) (maxL := 2) (ret := (some .int)) (by decide +kernel) rfl ?_
  intro p e s m args below meth c s₁ B hml hv
  obtain ⟨rfl, hP, hK⟩ := hv
  have hx := B.exec
  have hb := B.bytes
  have hr := B.returns
  have hts := atoms_spec (ws := mwX2_tripleAt) B.pre
  have hown : s.vm.findClass RX2 = some m.cls := findClass_of_methodNamed B.named
  have hlocks := B.notSynchronized
  have hP : va_P (dC, dI) vwCl [(la, .inl (cI, n, .inl f))] s.heap := hP
  have hK : va_K (dC, dI) vwCl [(cI, .int)] s := hK
  generalize hH : s.heap = H at hP ⊢
  have hl := lv_entry ([.ref la, .int i]) (n := 2) (Nat.le_of_ble_eq_true rfl)
  rw [lg_entry_eq]
  generalize (lg_sl ([.ref la, .int i]) ++ List.replicate (2 - (lg_sl ([.ref la, .int i])).length) Slot.unset).toArray = ls at hl ⊢
  have hl : lv_has ls 2 [(0, .ref la), (1, .int i)] := hl
  have rg_i := i_rng i
  refine lv_aload_n hx hb dX2_tripleAt_0 rfl (lv_at hl 0 rfl) ?_
  refine lv_iload_n hx hb dX2_tripleAt_1 rfl (lv_at hl 1 rfl) ?_
  refine va_iald hx hb hK hP 0 0 rfl rfl (i := i) (vp_of (a := i.toInt) rfl (by omega) (by omega)) dX2_tripleAt_2 ?_
  refine lv_topi (fun y_1 ey_1 => ?_)
  have rg_y_1 := i_rng y_1
  refine lv_bipush (v := 26) hx hb dX2_tripleAt_3 (by decide) ?_
  refine lv_imul hx hb dX2_tripleAt_5 ?_
  refine lv_topi (fun y_2 ey_2 => ?_)
  first | have ty_2 := i_mul (a := y_1.toInt) (b := 26) rfl (by decide) ey_2 (by omega) (by omega) | skip
  refine lv_aload_n hx hb dX2_tripleAt_6 rfl (lv_at hl 0 rfl) ?_
  refine lv_iload_n hx hb dX2_tripleAt_7 rfl (lv_at hl 1 rfl) ?_
  refine lv_iconst (v := 1) hx hb dX2_tripleAt_8 (by decide) ?_
  refine lv_iadd hx hb dX2_tripleAt_9 ?_
  refine lv_topi (fun y_3 ey_3 => ?_)
  first | have ty_3 := i_add (a := i.toInt) (b := 1) rfl (by decide) ey_3 (by omega) (by omega) | skip
  refine va_iald hx hb hK hP 0 0 rfl rfl (i := y_3) (vp_of (a := y_3.toInt) rfl (by omega) (by omega)) dX2_tripleAt_10 ?_
  refine lv_topi (fun y_4 ey_4 => ?_)
  have rg_y_4 := i_rng y_4
  refine lv_iadd hx hb dX2_tripleAt_11 ?_
  refine lv_topi (fun y_5 ey_5 => ?_)
  first | have ty_5 := i_add (a := y_2.toInt) (b := y_4.toInt) rfl rfl ey_5 (by omega) (by omega) | skip
  refine lv_bipush (v := 26) hx hb dX2_tripleAt_12 (by decide) ?_
  refine lv_imul hx hb dX2_tripleAt_14 ?_
  refine lv_topi (fun y_6 ey_6 => ?_)
  first | have ty_6 := i_mul (a := y_5.toInt) (b := 26) rfl (by decide) ey_6 (by omega) (by omega) | skip
  refine lv_aload_n hx hb dX2_tripleAt_15 rfl (lv_at hl 0 rfl) ?_
  refine lv_iload_n hx hb dX2_tripleAt_16 rfl (lv_at hl 1 rfl) ?_
  refine lv_iconst (v := 2) hx hb dX2_tripleAt_17 (by decide) ?_
  refine lv_iadd hx hb dX2_tripleAt_18 ?_
  refine lv_topi (fun y_7 ey_7 => ?_)
  first | have ty_7 := i_add (a := i.toInt) (b := 2) rfl (by decide) ey_7 (by omega) (by omega) | skip
  refine va_iald hx hb hK hP 0 0 rfl rfl (i := y_7) (vp_of (a := y_7.toInt) rfl (by omega) (by omega)) dX2_tripleAt_19 ?_
  refine lv_topi (fun y_8 ey_8 => ?_)
  have rg_y_8 := i_rng y_8
  refine lv_iadd hx hb dX2_tripleAt_20 ?_
  refine lv_topi (fun y_9 ey_9 => ?_)
  first | have ty_9 := i_add (a := y_6.toInt) (b := y_8.toInt) rfl rfl ey_9 (by omega) (by omega) | skip
  exact W.iret hx hb hr (fun t ht hW => ⟨_, rfl, trivial, ht.trans hH.symm⟩) t_nil dX2_tripleAt_21
theorem dX2_has_0 : decode cX2_has 0 = .ok (.iconst 0, 1) := by decide +kernel
theorem dX2_has_1 : decode cX2_has 1 = .ok (.istore_n 2, 1) := by decide +kernel
theorem dX2_has_2 : decode cX2_has 2 = .ok (.aload_n 0, 1) := by decide +kernel
theorem dX2_has_3 : decode cX2_has 3 = .ok (.getfield 15, 3) := by decide +kernel
theorem dX2_has_6 : decode cX2_has 6 = .ok (.arraylength, 1) := by decide +kernel
theorem dX2_has_7 : decode cX2_has 7 = .ok (.istore_n 3, 1) := by decide +kernel
theorem dX2_has_8 : decode cX2_has 8 = .ok (.iload_n 2, 1) := by decide +kernel
theorem dX2_has_9 : decode cX2_has 9 = .ok (.iload_n 3, 1) := by decide +kernel
theorem dX2_has_10 : decode cX2_has 10 = .ok (.if_icmp .ge 35, 3) := by decide +kernel
theorem dX2_has_13 : decode cX2_has 13 = .ok (.iload_n 2, 1) := by decide +kernel
theorem dX2_has_14 : decode cX2_has 14 = .ok (.iload_n 3, 1) := by decide +kernel
theorem dX2_has_15 : decode cX2_has 15 = .ok (.iadd, 1) := by decide +kernel
theorem dX2_has_16 : decode cX2_has 16 = .ok (.iconst 1, 1) := by decide +kernel
theorem dX2_has_17 : decode cX2_has 17 = .ok (.iushr, 1) := by decide +kernel
theorem dX2_has_18 : decode cX2_has 18 = .ok (.istore 4, 2) := by decide +kernel
theorem dX2_has_20 : decode cX2_has 20 = .ok (.aload_n 0, 1) := by decide +kernel
theorem dX2_has_21 : decode cX2_has 21 = .ok (.getfield 15, 3) := by decide +kernel
theorem dX2_has_24 : decode cX2_has 24 = .ok (.iload 4, 2) := by decide +kernel
theorem dX2_has_26 : decode cX2_has 26 = .ok (.iaload, 1) := by decide +kernel
theorem dX2_has_27 : decode cX2_has 27 = .ok (.iload_n 1, 1) := by decide +kernel
theorem dX2_has_28 : decode cX2_has 28 = .ok (.if_icmp .ge 11, 3) := by decide +kernel
theorem dX2_has_31 : decode cX2_has 31 = .ok (.iload 4, 2) := by decide +kernel
theorem dX2_has_33 : decode cX2_has 33 = .ok (.iconst 1, 1) := by decide +kernel
theorem dX2_has_34 : decode cX2_has 34 = .ok (.iadd, 1) := by decide +kernel
theorem dX2_has_35 : decode cX2_has 35 = .ok (.istore_n 2, 1) := by decide +kernel
theorem dX2_has_36 : decode cX2_has 36 = .ok (.goto 6, 3) := by decide +kernel
theorem dX2_has_39 : decode cX2_has 39 = .ok (.iload 4, 2) := by decide +kernel
theorem dX2_has_41 : decode cX2_has 41 = .ok (.istore_n 3, 1) := by decide +kernel
theorem dX2_has_42 : decode cX2_has 42 = .ok (.goto (-34), 3) := by decide +kernel
theorem dX2_has_45 : decode cX2_has 45 = .ok (.iload_n 2, 1) := by decide +kernel
theorem dX2_has_46 : decode cX2_has 46 = .ok (.aload_n 0, 1) := by decide +kernel
theorem dX2_has_47 : decode cX2_has 47 = .ok (.getfield 15, 3) := by decide +kernel
theorem dX2_has_50 : decode cX2_has 50 = .ok (.arraylength, 1) := by decide +kernel
theorem dX2_has_51 : decode cX2_has 51 = .ok (.if_icmp .ge 17, 3) := by decide +kernel
theorem dX2_has_54 : decode cX2_has 54 = .ok (.aload_n 0, 1) := by decide +kernel
theorem dX2_has_55 : decode cX2_has 55 = .ok (.getfield 15, 3) := by decide +kernel
theorem dX2_has_58 : decode cX2_has 58 = .ok (.iload_n 2, 1) := by decide +kernel
theorem dX2_has_59 : decode cX2_has 59 = .ok (.iaload, 1) := by decide +kernel
theorem dX2_has_60 : decode cX2_has 60 = .ok (.iload_n 1, 1) := by decide +kernel
theorem dX2_has_61 : decode cX2_has 61 = .ok (.if_icmp .ne 7, 3) := by decide +kernel
theorem dX2_has_64 : decode cX2_has 64 = .ok (.iconst 1, 1) := by decide +kernel
theorem dX2_has_65 : decode cX2_has 65 = .ok (.goto 4, 3) := by decide +kernel
theorem dX2_has_68 : decode cX2_has 68 = .ok (.iconst 0, 1) := by decide +kernel
theorem dX2_has_69 : decode cX2_has 69 = .ok (.ireturn, 1) := by decide +kernel
def mwX2_has : List Cond := .code yX2_has cX2_has 5 (some .boolean) :: ([.fieldLink RX2 15 "PatternGate$Doc" "triples" "[I"] ++ wsX20)
theorem fin_X2_has_X2 : ∀ w ∈ wsX20, w ∈ mwX2_has := fun w h => List.mem_cons_of_mem _ (List.mem_append_right _ h)
set_option maxHeartbeats 4000000 in
set_option maxRecDepth 100000 in
/-- Doc.has -/
theorem s_Doc_has (l : Launch) (dC : Nat → ClassId) (dI : Nat → Nat → Nat) (d la ta mm n : Nat) (fl ft : Nat → Int32) (cI cJ : ClassId) (i : Int32) (hm : mm ≤ 1000) (hn : n ≤ 1000) : Met l yX2_has mwX2_has ({ frames := 0, cells := 0, slots := 0, locals := 0 }) (va_Pc [.ref d, .int i] (fun U => va_P (dC, dI) vwCl ([(d, .inr (2, [.ref la, .ref ta])), (la, .inl (cI, mm, .inl fl)), (ta, .inl (cJ, n, .inl ft))]) U.heap ∧ va_K (dC, dI) vwCl ([(cI, .int), (cJ, .int)]) U)) (vp_Si (fun o => o = 0 ∨ o = 1)) 0 0 (fun _ => False) := by
  refine Met.ofW (cc := cX2_has) (maxL := 5) (ret := (some .boolean)) (by decide +kernel) rfl ?_
  intro p e s m args below meth c s₁ B hml hv
  obtain ⟨rfl, hP, hK⟩ := hv
  have hx := B.exec
  have hb := B.bytes
  have hr := B.returns
  have hts := atoms_spec (ws := mwX2_has) B.pre
  have hown : s.vm.findClass RX2 = some m.cls := findClass_of_methodNamed B.named
  have hlocks := B.notSynchronized
  have hP : va_P (dC, dI) vwCl [(d, .inr (2, [.ref la, .ref ta])), (la, .inl (cI, mm, .inl fl)), (ta, .inl (cJ, n, .inl ft))] s.heap := hP
  have hK : va_K (dC, dI) vwCl [(cI, .int), (cJ, .int)] s := hK
  generalize hH : s.heap = H at hP ⊢
  have hl := lv_entry ([.ref d, .int i]) (n := 5) (Nat.le_of_ble_eq_true rfl)
  rw [lg_entry_eq]
  generalize (lg_sl ([.ref d, .int i]) ++ List.replicate (5 - (lg_sl ([.ref d, .int i])).length) Slot.unset).toArray = ls at hl ⊢
  have hl : lv_has ls 5 [(0, .ref d), (1, .int i)] := hl
  have rg_i := i_rng i
  refine lv_iconst (v := 0) hx hb dX2_has_0 (by decide) ?_
  refine lv_istore_n (lv' := [(2, .int 0), (0, .ref d), (1, .int i)]) hx hb dX2_has_1 rfl hl (by decide) rfl (fun ls hl => ?_)
  refine lv_aload_n hx hb dX2_has_2 rfl (lv_at hl 1 rfl) ?_
  refine va_get (D := (dC, dI)) (ci := 2) (v := .ref ta) (C := RX2) (T := TX2) (N := 2) hx hb hts fin_X2_has_X2 hown hK hP 0 rfl rfl 1 (by decide) (hts (.fieldLink RX2 15 "PatternGate$Doc" "triples" "[I") (List.mem_of_getElem? (i := 1) (by decide +kernel))) (fun _ h9 => h9) rfl dX2_has_3 ?_
  refine va_alen hx hb hK hP 2 1 rfl rfl rfl dX2_has_6 ?_
  refine lv_topi (fun y_1 ey_1 => ?_)
  have ty_1 : y_1.toInt = (n : Int) := i_len ey_1 (by omega)
  refine lv_istore_n (lv' := [(3, .int y_1), (2, .int 0), (0, .ref d), (1, .int i)]) hx hb dX2_has_7 rfl hl (by decide) rfl (fun ls hl => ?_)
  have loop8 : ∀ (n8 : Nat) (lo hi : Int32), (0 ≤ lo.toInt) → (lo.toInt ≤ n) → (0 ≤ hi.toInt) → (hi.toInt ≤ n) → ((hi.toInt - lo.toInt).toNat) < n8 → ∀ (ls : Array Slot), lv_has ls 5 [(3, .int hi), (2, .int lo), (0, .ref d), (1, .int i)] → W p l e (headSpec mwX2_has ({ frames := 0, cells := 0, slots := 0, locals := 0 })).room s m ([.ref d, .int i]).toArray below meth c H [] 0 0 (MQ below (vp_Si (fun o => o = 0 ∨ o = 1)) ([.ref d, .int i]).toArray s 0 0 (fun _ => False)) (F0 m 8 ls []) := by
    intro n8
    induction n8 with
    | zero => intro lo hi v8_0 v8_1 v8_2 v8_3 hm8; exact absurd hm8 (Nat.not_lt_zero _)
    | succ n8 ih8 =>
      intro lo hi v8_0 v8_1 v8_2 v8_3 hm8 ls hl
      have rg_lo := i_rng lo
      have rg_hi := i_rng hi
      refine lv_iload_n hx hb dX2_has_8 rfl (lv_at hl 1 rfl) ?_
      refine lv_iload_n hx hb dX2_has_9 rfl (lv_at hl 0 rfl) ?_
      refine lv_icmp_ge (tgt := 45) hx hb dX2_has_10 (by decide) (fun k_2 => ?_) (fun k_2 => ?_)
      · have tk_2 := c_ge (a := lo.toInt) (b := hi.toInt) rfl rfl k_2
        refine lv_iload_n hx hb dX2_has_45 rfl (lv_at hl 1 rfl) ?_
        refine lv_aload_n hx hb dX2_has_46 rfl (lv_at hl 2 rfl) ?_
        refine va_get (D := (dC, dI)) (ci := 2) (v := .ref ta) (C := RX2) (T := TX2) (N := 2) hx hb hts fin_X2_has_X2 hown hK hP 0 rfl rfl 1 (by decide) (hts (.fieldLink RX2 15 "PatternGate$Doc" "triples" "[I") (List.mem_of_getElem? (i := 1) (by decide +kernel))) (fun _ h9 => h9) rfl dX2_has_47 ?_
        refine va_alen hx hb hK hP 2 1 rfl rfl rfl dX2_has_50 ?_
        refine lv_topi (fun y_3 ey_3 => ?_)
        have ty_3 : y_3.toInt = (n : Int) := i_len ey_3 (by omega)
        refine lv_icmp_ge (tgt := 68) hx hb dX2_has_51 (by decide) (fun k_4 => ?_) (fun k_4 => ?_)
        · have tk_4 := c_ge (a := lo.toInt) (b := y_3.toInt) rfl rfl k_4
          refine lv_iconst (v := 0) hx hb dX2_has_68 (by decide) ?_
          exact W.zret hx hb hr rfl (fun t ht hW => ⟨_, rfl, Or.inl rfl, ht.trans hH.symm⟩) t_nil dX2_has_69
        · have tk_4 := c_nge (a := lo.toInt) (b := y_3.toInt) rfl rfl k_4
          refine lv_aload_n hx hb dX2_has_54 rfl (lv_at hl 2 rfl) ?_
          refine va_get (D := (dC, dI)) (ci := 2) (v := .ref ta) (C := RX2) (T := TX2) (N := 2) hx hb hts fin_X2_has_X2 hown hK hP 0 rfl rfl 1 (by decide) (hts (.fieldLink RX2 15 "PatternGate$Doc" "triples" "[I") (List.mem_of_getElem? (i := 1) (by decide +kernel))) (fun _ h9 => h9) rfl dX2_has_55 ?_
          refine lv_iload_n hx hb dX2_has_58 rfl (lv_at hl 1 rfl) ?_
          refine va_iald hx hb hK hP 2 1 rfl rfl (i := lo) (vp_of (a := lo.toInt) rfl (by omega) (by omega)) dX2_has_59 ?_
          refine lv_topi (fun y_5 ey_5 => ?_)
          have rg_y_5 := i_rng y_5
          refine lv_iload_n hx hb dX2_has_60 rfl (lv_at hl 3 rfl) ?_
          refine lv_icmp_ne (tgt := 68) hx hb dX2_has_61 (by decide) (fun k_6 => ?_) (fun k_6 => ?_)
          · have tk_6 := c_ne (a := y_5.toInt) (b := i.toInt) rfl rfl k_6
            refine lv_iconst (v := 0) hx hb dX2_has_68 (by decide) ?_
            exact W.zret hx hb hr rfl (fun t ht hW => ⟨_, rfl, Or.inl rfl, ht.trans hH.symm⟩) t_nil dX2_has_69
          · have tk_6 := c_eq (a := y_5.toInt) (b := i.toInt) rfl rfl k_6
            refine lv_iconst (v := 1) hx hb dX2_has_64 (by decide) ?_
            refine lv_goto (tgt := 69) hx hb dX2_has_65 (by decide) ?_
            exact W.zret hx hb hr rfl (fun t ht hW => ⟨_, rfl, Or.inr rfl, ht.trans hH.symm⟩) t_nil dX2_has_69
      · have tk_2 := c_nge (a := lo.toInt) (b := hi.toInt) rfl rfl k_2
        refine lv_iload_n hx hb dX2_has_13 rfl (lv_at hl 1 rfl) ?_
        refine lv_iload_n hx hb dX2_has_14 rfl (lv_at hl 0 rfl) ?_
        refine lv_iadd hx hb dX2_has_15 ?_
        refine lv_topi (fun y_7 ey_7 => ?_)
        first | have ty_7 := i_add (a := lo.toInt) (b := hi.toInt) rfl rfl ey_7 (by omega) (by omega) | skip
        refine lv_iconst (v := 1) hx hb dX2_has_16 (by decide) ?_
        refine lv_iushr hx hb dX2_has_17 rfl ?_
        refine lv_topi (fun y_8 ey_8 => ?_)
        first | have ty_8 : y_8.toInt = y_7.toInt / 2 := i_ush (a := y_7.toInt) (k := 1) rfl (by decide) (by decide) (by omega) ey_8 | skip
        refine lv_istore (lv' := [(4, .int y_8), (3, .int hi), (2, .int lo), (0, .ref d), (1, .int i)]) hx hb dX2_has_18 hl (by decide) rfl (fun ls hl => ?_)
        refine lv_aload_n hx hb dX2_has_20 rfl (lv_at hl 3 rfl) ?_
        refine va_get (D := (dC, dI)) (ci := 2) (v := .ref ta) (C := RX2) (T := TX2) (N := 2) hx hb hts fin_X2_has_X2 hown hK hP 0 rfl rfl 1 (by decide) (hts (.fieldLink RX2 15 "PatternGate$Doc" "triples" "[I") (List.mem_of_getElem? (i := 1) (by decide +kernel))) (fun _ h9 => h9) rfl dX2_has_21 ?_
        refine lv_iload hx hb dX2_has_24 (lv_at hl 0 rfl) ?_
        refine va_iald hx hb hK hP 2 1 rfl rfl (i := y_8) (vp_of (a := y_8.toInt) rfl (by omega) (by omega)) dX2_has_26 ?_
        refine lv_topi (fun y_9 ey_9 => ?_)
        have rg_y_9 := i_rng y_9
        refine lv_iload_n hx hb dX2_has_27 rfl (lv_at hl 4 rfl) ?_
        refine lv_icmp_ge (tgt := 39) hx hb dX2_has_28 (by decide) (fun k_10 => ?_) (fun k_10 => ?_)
        · have tk_10 := c_ge (a := y_9.toInt) (b := i.toInt) rfl rfl k_10
          refine lv_iload hx hb dX2_has_39 (lv_at hl 0 rfl) ?_
          refine lv_istore_n (lv' := [(3, .int y_8), (4, .int y_8), (2, .int lo), (0, .ref d), (1, .int i)]) hx hb dX2_has_41 rfl hl (by decide) rfl (fun ls hl => ?_)
          refine lv_goto (tgt := 8) hx hb dX2_has_42 (by decide) ?_
          exact ih8 lo y_8 (by first | omega | decide | assumption) (by first | omega | decide | assumption) (by first | omega | decide | assumption) (by first | omega | decide | assumption) (by omega) ls (lv_sub hl [0, 2, 3, 4] rfl)
        · have tk_10 := c_nge (a := y_9.toInt) (b := i.toInt) rfl rfl k_10
          refine lv_iload hx hb dX2_has_31 (lv_at hl 0 rfl) ?_
          refine lv_iconst (v := 1) hx hb dX2_has_33 (by decide) ?_
          refine lv_iadd hx hb dX2_has_34 ?_
          refine lv_topi (fun y_11 ey_11 => ?_)
          first | have ty_11 := i_add (a := y_8.toInt) (b := 1) rfl (by decide) ey_11 (by omega) (by omega) | skip
          refine lv_istore_n (lv' := [(2, .int y_11), (4, .int y_8), (3, .int hi), (0, .ref d), (1, .int i)]) hx hb dX2_has_35 rfl hl (by decide) rfl (fun ls hl => ?_)
          refine lv_goto (tgt := 42) hx hb dX2_has_36 (by decide) ?_
          refine lv_goto (tgt := 8) hx hb dX2_has_42 (by decide) ?_
          exact ih8 y_11 hi (by first | omega | decide | assumption) (by first | omega | decide | assumption) (by first | omega | decide | assumption) (by first | omega | decide | assumption) (by omega) ls (lv_sub hl [2, 0, 3, 4] rfl)
  have lit_11 : (0 : Int32).toInt = 0 := by decide
  exact loop8 _ 0 y_1 (by first | omega | decide | assumption) (by first | omega | decide | assumption) (by first | omega | decide | assumption) (by first | omega | decide | assumption) (Nat.lt_succ_self _) ls (lv_sub hl [0, 1, 2, 3] rfl)
theorem dX2_timesOf_0 : decode cX2_timesOf 0 = .ok (.iconst 0, 1) := by decide +kernel
theorem dX2_timesOf_1 : decode cX2_timesOf 1 = .ok (.istore_n 2, 1) := by decide +kernel
theorem dX2_timesOf_2 : decode cX2_timesOf 2 = .ok (.iconst 0, 1) := by decide +kernel
theorem dX2_timesOf_3 : decode cX2_timesOf 3 = .ok (.istore_n 3, 1) := by decide +kernel
theorem dX2_timesOf_4 : decode cX2_timesOf 4 = .ok (.iload_n 3, 1) := by decide +kernel
theorem dX2_timesOf_5 : decode cX2_timesOf 5 = .ok (.iconst 2, 1) := by decide +kernel
theorem dX2_timesOf_6 : decode cX2_timesOf 6 = .ok (.iadd, 1) := by decide +kernel
theorem dX2_timesOf_7 : decode cX2_timesOf 7 = .ok (.aload_n 0, 1) := by decide +kernel
theorem dX2_timesOf_8 : decode cX2_timesOf 8 = .ok (.getfield 9, 3) := by decide +kernel
theorem dX2_timesOf_11 : decode cX2_timesOf 11 = .ok (.arraylength, 1) := by decide +kernel
theorem dX2_timesOf_12 : decode cX2_timesOf 12 = .ok (.if_icmp .ge 24, 3) := by decide +kernel
theorem dX2_timesOf_15 : decode cX2_timesOf 15 = .ok (.aload_n 0, 1) := by decide +kernel
theorem dX2_timesOf_16 : decode cX2_timesOf 16 = .ok (.getfield 9, 3) := by decide +kernel
theorem dX2_timesOf_19 : decode cX2_timesOf 19 = .ok (.iload_n 3, 1) := by decide +kernel
theorem dX2_timesOf_20 : decode cX2_timesOf 20 = .ok (.invokestatic 44, 3) := by decide +kernel
theorem dX2_timesOf_23 : decode cX2_timesOf 23 = .ok (.iload_n 1, 1) := by decide +kernel
theorem dX2_timesOf_24 : decode cX2_timesOf 24 = .ok (.if_icmp .ne 6, 3) := by decide +kernel
theorem dX2_timesOf_27 : decode cX2_timesOf 27 = .ok (.iinc 2 1, 3) := by decide +kernel
theorem dX2_timesOf_30 : decode cX2_timesOf 30 = .ok (.iinc 3 1, 3) := by decide +kernel
theorem dX2_timesOf_33 : decode cX2_timesOf 33 = .ok (.goto (-29), 3) := by decide +kernel
theorem dX2_timesOf_36 : decode cX2_timesOf 36 = .ok (.iload_n 2, 1) := by decide +kernel
theorem dX2_timesOf_37 : decode cX2_timesOf 37 = .ok (.ireturn, 1) := by decide +kernel
def mwX2_timesOf : List Cond := .code yX2_timesOf cX2_timesOf 4 (some .int) :: ([.fieldLink RX2 9 "PatternGate$Doc" "letters" "[I", .code yX2_tripleAt cX2_tripleAt 2 (some .int), .methodLink RX2 44 yX2_tripleAt, .static yX2_tripleAt, .initialized RX2] ++ wsX20)
theorem fin_X2_timesOf_X2 : ∀ w ∈ wsX20, w ∈ mwX2_timesOf := fun w h => List.mem_cons_of_mem _ (List.mem_append_right _ h)
set_option maxRecDepth 20000 in
theorem mg_X2_timesOf_X2_tripleAt_44 : GoodIn mwX2_timesOf (va_wsS RX2 44 yX2_tripleAt mwX2_tripleAt) := goodIn_r _ [3, 4, 5, 2] (by decide +kernel) (by decide +kernel)
set_option maxHeartbeats 4000000 in
set_option maxRecDepth 100000 in
/-- Doc.timesOf -/
theorem s_Doc_timesOf (l : Launch) (dC : Nat → ClassId) (dI : Nat → Nat → Nat) (d la ta mm n : Nat) (fl ft : Nat → Int32) (cI cJ : ClassId) (i : Int32) (hm : mm ≤ 1000) (hn : n ≤ 1000) : Met l yX2_timesOf mwX2_timesOf ({ frames := 1, cells := 0, slots := 0, locals := 60 }) (va_Pc [.ref d, .int i] (fun U => va_P (dC, dI) vwCl ([(d, .inr (2, [.ref la, .ref ta])), (la, .inl (cI, mm, .inl fl)), (ta, .inl (cJ, n, .inl ft))]) U.heap ∧ va_K (dC, dI) vwCl ([(cI, .int), (cJ, .int)]) U)) (vp_Si (fun o => True)) 0 0 (fun _ => False) := by
  refine Met.ofW (cc := cX2_timesOf) (maxL := 4) (ret := (some .int)) (by decide +kernel) rfl ?_
  intro p e s m args below meth c s₁ B hml hv
  obtain ⟨rfl, hP, hK⟩ := hv
  have hx := B.exec
  have hb := B.bytes
  have hr := B.returns
  have hts := atoms_spec (ws := mwX2_timesOf) B.pre
  have hown : s.vm.findClass RX2 = some m.cls := findClass_of_methodNamed B.named
  have hlocks := B.notSynchronized
  have hP : va_P (dC, dI) vwCl [(d, .inr (2, [.ref la, .ref ta])), (la, .inl (cI, mm, .inl fl)), (ta, .inl (cJ, n, .inl ft))] s.heap := hP
  have hK : va_K (dC, dI) vwCl [(cI, .int), (cJ, .int)] s := hK
  generalize hH : s.heap = H at hP ⊢
  have hl := lv_entry ([.ref d, .int i]) (n := 4) (Nat.le_of_ble_eq_true rfl)
  rw [lg_entry_eq]
  generalize (lg_sl ([.ref d, .int i]) ++ List.replicate (4 - (lg_sl ([.ref d, .int i])).length) Slot.unset).toArray = ls at hl ⊢
  have hl : lv_has ls 4 [(0, .ref d), (1, .int i)] := hl
  have rg_i := i_rng i
  refine lv_iconst (v := 0) hx hb dX2_timesOf_0 (by decide) ?_
  refine lv_istore_n (lv' := [(2, .int 0), (0, .ref d), (1, .int i)]) hx hb dX2_timesOf_1 rfl hl (by decide) rfl (fun ls hl => ?_)
  refine lv_iconst (v := 0) hx hb dX2_timesOf_2 (by decide) ?_
  refine lv_istore_n (lv' := [(3, .int 0), (2, .int 0), (0, .ref d), (1, .int i)]) hx hb dX2_timesOf_3 rfl hl (by decide) rfl (fun ls hl => ?_)
  have loop4 : ∀ (n4 : Nat) (tm pl : Int32), (0 ≤ pl.toInt) → (pl.toInt ≤ mm) → (((mm : Int) - pl.toInt).toNat) < n4 → ∀ (ls : Array Slot), lv_has ls 4 [(3, .int pl), (2, .int tm), (0, .ref d), (1, .int i)] → W p l e (headSpec mwX2_timesOf ({ frames := 1, cells := 0, slots := 0, locals := 60 })).room s m ([.ref d, .int i]).toArray below meth c H [] 0 0 (MQ below (vp_Si (fun o => True)) ([.ref d, .int i]).toArray s 0 0 (fun _ => False)) (F0 m 4 ls []) := by
    intro n4
    induction n4 with
    | zero => intro tm pl v4_0 v4_1 hm4; exact absurd hm4 (Nat.not_lt_zero _)
    | succ n4 ih4 =>
      intro tm pl v4_0 v4_1 hm4 ls hl
      have rg_tm := i_rng tm
      have rg_pl := i_rng pl
      refine lv_iload_n hx hb dX2_timesOf_4 rfl (lv_at hl 0 rfl) ?_
      refine lv_iconst (v := 2) hx hb dX2_timesOf_5 (by decide) ?_
      refine lv_iadd hx hb dX2_timesOf_6 ?_
      refine lv_topi (fun y_1 ey_1 => ?_)
      first | have ty_1 := i_add (a := pl.toInt) (b := 2) rfl (by decide) ey_1 (by omega) (by omega) | skip
      refine lv_aload_n hx hb dX2_timesOf_7 rfl (lv_at hl 2 rfl) ?_
      refine va_get (D := (dC, dI)) (ci := 2) (v := .ref la) (C := RX2) (T := TX2) (N := 2) hx hb hts fin_X2_timesOf_X2 hown hK hP 0 rfl rfl 0 (by decide) (hts (.fieldLink RX2 9 "PatternGate$Doc" "letters" "[I") (List.mem_of_getElem? (i := 1) (by decide +kernel))) (fun _ h9 => h9) rfl dX2_timesOf_8 ?_
      refine va_alen hx hb hK hP 1 0 rfl rfl rfl dX2_timesOf_11 ?_
      refine lv_topi (fun y_2 ey_2 => ?_)
      have ty_2 : y_2.toInt = (mm : Int) := i_len ey_2 (by omega)
      refine lv_icmp_ge (tgt := 36) hx hb dX2_timesOf_12 (by decide) (fun k_3 => ?_) (fun k_3 => ?_)
      · have tk_3 := c_ge (a := y_1.toInt) (b := y_2.toInt) rfl rfl k_3
        refine lv_iload_n hx hb dX2_timesOf_36 rfl (lv_at hl 1 rfl) ?_
        exact W.iret hx hb hr (fun t ht hW => ⟨_, rfl, trivial, ht.trans hH.symm⟩) t_nil dX2_timesOf_37
      · have tk_3 := c_nge (a := y_1.toInt) (b := y_2.toInt) rfl rfl k_3
        refine lv_aload_n hx hb dX2_timesOf_15 rfl (lv_at hl 2 rfl) ?_
        refine va_get (D := (dC, dI)) (ci := 2) (v := .ref la) (C := RX2) (T := TX2) (N := 2) hx hb hts fin_X2_timesOf_X2 hown hK hP 0 rfl rfl 0 (by decide) (hts (.fieldLink RX2 9 "PatternGate$Doc" "letters" "[I") (List.mem_of_getElem? (i := 1) (by decide +kernel))) (fun _ h9 => h9) rfl dX2_timesOf_16 ?_
        refine lv_iload_n hx hb dX2_timesOf_19 rfl (lv_at hl 0 rfl) ?_
        have hPc := hP.sub (ws' := [(la, .inl (cI, mm, .inl fl))]) [1] rfl
        have hKc := hK.sub (tys' := [(cI, .int)]) [0] rfl
        refine vp_callSi (W.runS (As := [.ref la, .int pl]) (rest := []) ⟨hx, hb, hml, hown, hts⟩ (s_Doc_tripleAt l dC dI la mm fl cI pl (by omega) (by omega) (by omega)) (va_cwS 2 hts mg_X2_timesOf_X2_tripleAt_44 rfl rfl rfl (by decide +kernel) ⟨Nat.le_of_ble_eq_true rfl, Nat.le_of_ble_eq_true rfl⟩) ⟨fun a U g mk q => by obtain ⟨q0, qP, qK⟩ := q; exact ⟨q0, qP, va_K.moved (u := U) (U := U.calling g mk a) (Vm.Alike.refl U.vm) qK⟩, fun U hU hW => ⟨rfl, by rw [hU]; exact hPc, va_K.moved hW.alike hKc⟩⟩ rfl rfl hl.1 rfl (lv_room (Nat.le_of_ble_eq_true rfl)) dX2_timesOf_20 ⟨Nat.le_of_ble_eq_true rfl, Nat.le_of_ble_eq_true rfl⟩) (fun r_5 hw => ?_)
        refine lv_iload_n hx hb dX2_timesOf_23 rfl (lv_at hl 3 rfl) ?_
        refine lv_icmp_ne (tgt := 30) hx hb dX2_timesOf_24 (by decide) (fun k_6 => ?_) (fun k_6 => ?_)
        · have tk_6 := c_ne (a := r_5.toInt) (b := i.toInt) rfl rfl k_6
          obtain ⟨y_7, ey_7⟩ : ∃ y : Int32, y = pl + 1 := ⟨_, rfl⟩
          first | have ty_7 := i_add (a := pl.toInt) (b := 1) rfl (by decide) ey_7 (by omega) (by omega) | skip
          refine lv_iinc (v := y_7) (lv' := [(3, .int y_7), (2, .int tm), (0, .ref d), (1, .int i)]) hx hb dX2_timesOf_30 hl (k := 0) rfl (by rw [ey_7]; rfl) (by decide) rfl (fun ls hl => ?_)
          refine lv_goto (tgt := 4) hx hb dX2_timesOf_33 (by decide) ?_
          exact ih4 tm y_7 (by first | omega | decide | assumption) (by first | omega | decide | assumption) (by omega) ls (lv_sub hl [0, 1, 2, 3] rfl)
        · have tk_6 := c_eq (a := r_5.toInt) (b := i.toInt) rfl rfl k_6
          obtain ⟨y_8, ey_8⟩ : ∃ y : Int32, y = tm + 1 := ⟨_, rfl⟩
          first | have ty_8 := i_add (a := tm.toInt) (b := 1) rfl (by decide) ey_8 (by omega) (by omega) | skip
          refine lv_iinc (v := y_8) (lv' := [(2, .int y_8), (3, .int pl), (0, .ref d), (1, .int i)]) hx hb dX2_timesOf_27 hl (k := 1) rfl (by rw [ey_8]; rfl) (by decide) rfl (fun ls hl => ?_)
          obtain ⟨y_9, ey_9⟩ : ∃ y : Int32, y = pl + 1 := ⟨_, rfl⟩
          first | have ty_9 := i_add (a := pl.toInt) (b := 1) rfl (by decide) ey_9 (by omega) (by omega) | skip
          refine lv_iinc (v := y_9) (lv' := [(3, .int y_9), (2, .int y_8), (0, .ref d), (1, .int i)]) hx hb dX2_timesOf_30 hl (k := 1) rfl (by rw [ey_9]; rfl) (by decide) rfl (fun ls hl => ?_)
          refine lv_goto (tgt := 4) hx hb dX2_timesOf_33 (by decide) ?_
          exact ih4 y_8 y_9 (by first | omega | decide | assumption) (by first | omega | decide | assumption) (by omega) ls (lv_sub hl [0, 1, 2, 3] rfl)
  have lit_9 : (0 : Int32).toInt = 0 := by decide
  have lit_10 : (0 : Int32).toInt = 0 := by decide
  exact loop4 _ 0 0 (by first | omega | decide | assumption) (by first | omega | decide | assumption) (Nat.lt_succ_self _) ls (lv_sub hl [0, 1, 2, 3] rfl)
theorem dX3_isWithin_0 : decode cX3_isWithin 0 = .ok (.iload 4, 2) := by decide +kernel
theorem dX3_isWithin_2 : decode cX3_isWithin 2 = .ok (.istore 6, 2) := by decide +kernel
theorem dX3_isWithin_4 : decode cX3_isWithin 4 = .ok (.iload_n 1, 1) := by decide +kernel
theorem dX3_isWithin_5 : decode cX3_isWithin 5 = .ok (.istore 7, 2) := by decide +kernel
theorem dX3_isWithin_7 : decode cX3_isWithin 7 = .ok (.iload 7, 2) := by decide +kernel
theorem dX3_isWithin_9 : decode cX3_isWithin 9 = .ok (.iload_n 2, 1) := by decide +kernel
theorem dX3_isWithin_10 : decode cX3_isWithin 10 = .ok (.if_icmp .ge 53, 3) := by decide +kernel
theorem dX3_isWithin_13 : decode cX3_isWithin 13 = .ok (.iload 6, 2) := by decide +kernel
theorem dX3_isWithin_15 : decode cX3_isWithin 15 = .ok (.iload 5, 2) := by decide +kernel
theorem dX3_isWithin_17 : decode cX3_isWithin 17 = .ok (.if_icmp .ge 20, 3) := by decide +kernel
theorem dX3_isWithin_20 : decode cX3_isWithin 20 = .ok (.aload_n 3, 1) := by decide +kernel
theorem dX3_isWithin_21 : decode cX3_isWithin 21 = .ok (.iload 6, 2) := by decide +kernel
theorem dX3_isWithin_23 : decode cX3_isWithin 23 = .ok (.iaload, 1) := by decide +kernel
theorem dX3_isWithin_24 : decode cX3_isWithin 24 = .ok (.aload_n 0, 1) := by decide +kernel
theorem dX3_isWithin_25 : decode cX3_isWithin 25 = .ok (.iload 7, 2) := by decide +kernel
theorem dX3_isWithin_27 : decode cX3_isWithin 27 = .ok (.iaload, 1) := by decide +kernel
theorem dX3_isWithin_28 : decode cX3_isWithin 28 = .ok (.if_icmp .ge 9, 3) := by decide +kernel
theorem dX3_isWithin_31 : decode cX3_isWithin 31 = .ok (.iinc 6 1, 3) := by decide +kernel
theorem dX3_isWithin_34 : decode cX3_isWithin 34 = .ok (.goto (-21), 3) := by decide +kernel
theorem dX3_isWithin_37 : decode cX3_isWithin 37 = .ok (.iload 6, 2) := by decide +kernel
theorem dX3_isWithin_39 : decode cX3_isWithin 39 = .ok (.iload 5, 2) := by decide +kernel
theorem dX3_isWithin_41 : decode cX3_isWithin 41 = .ok (.if_icmp .ge 14, 3) := by decide +kernel
theorem dX3_isWithin_44 : decode cX3_isWithin 44 = .ok (.aload_n 3, 1) := by decide +kernel
theorem dX3_isWithin_45 : decode cX3_isWithin 45 = .ok (.iload 6, 2) := by decide +kernel
theorem dX3_isWithin_47 : decode cX3_isWithin 47 = .ok (.iaload, 1) := by decide +kernel
theorem dX3_isWithin_48 : decode cX3_isWithin 48 = .ok (.aload_n 0, 1) := by decide +kernel
theorem dX3_isWithin_49 : decode cX3_isWithin 49 = .ok (.iload 7, 2) := by decide +kernel
theorem dX3_isWithin_51 : decode cX3_isWithin 51 = .ok (.iaload, 1) := by decide +kernel
theorem dX3_isWithin_52 : decode cX3_isWithin 52 = .ok (.if_icmp .eq 5, 3) := by decide +kernel
theorem dX3_isWithin_55 : decode cX3_isWithin 55 = .ok (.iconst 0, 1) := by decide +kernel
theorem dX3_isWithin_56 : decode cX3_isWithin 56 = .ok (.ireturn, 1) := by decide +kernel
theorem dX3_isWithin_57 : decode cX3_isWithin 57 = .ok (.iinc 7 1, 3) := by decide +kernel
theorem dX3_isWithin_60 : decode cX3_isWithin 60 = .ok (.goto (-53), 3) := by decide +kernel
theorem dX3_isWithin_63 : decode cX3_isWithin 63 = .ok (.iconst 1, 1) := by decide +kernel
theorem dX3_isWithin_64 : decode cX3_isWithin 64 = .ok (.ireturn, 1) := by decide +kernel
def mwX3_isWithin : List Cond := .code yX3_isWithin cX3_isWithin 8 (some .boolean) :: ([])
set_option maxHeartbeats 4000000 in
set_option maxRecDepth 100000 in
/-- Need.isWithin -/
theorem s_Need_isWithin (l : Launch) (dC : Nat → ClassId) (dI : Nat → Nat → Nat) (ia oa mm n : Nat) (fi fo : Nat → Int32) (cI cO : ClassId) (fr tt oF oT : Int32) (hm : mm ≤ 100000) (hn : n ≤ 100000) (h1 : 0 ≤ fr.toInt) (h2 : tt.toInt ≤ mm) (h3 : 0 ≤ oF.toInt) (h4 : oT.toInt ≤ n) (h5 : fr.toInt ≤ 1000000) : Met l yX3_isWithin mwX3_isWithin ({ frames := 0, cells := 0, slots := 0, locals := 0 }) (va_Pc [.ref ia, .int fr, .int tt, .ref oa, .int oF, .int oT] (fun U => va_P (dC, dI) vwCl ([(ia, .inl (cI, mm, .inl fi)), (oa, .inl (cO, n, .inl fo))]) U.heap ∧ va_K (dC, dI) vwCl ([(cI, .int), (cO, .int)]) U)) (vp_Si (fun o => o = 0 ∨ o = 1)) 0 0 (fun _ => False) := by
  refine Met.ofW (cc := cX3_isWithin) (maxL := 8) (ret := (some .boolean)) (by decide +kernel) rfl ?_
  intro p e s m args below meth c s₁ B hml hv
  obtain ⟨rfl, hP, hK⟩ := hv
  have hx := B.exec
  have hb := B.bytes
  have hr := B.returns
  have hts := atoms_spec (ws := mwX3_isWithin) B.pre
  have hown : s.vm.findClass RX3 = some m.cls := findClass_of_methodNamed B.named
  have hlocks := B.notSynchronized
  have hP : va_P (dC, dI) vwCl [(ia, .inl (cI, mm, .inl fi)), (oa, .inl (cO, n, .inl fo))] s.heap := hP
  have hK : va_K (dC, dI) vwCl [(cI, .int), (cO, .int)] s := hK
  generalize hH : s.heap = H at hP ⊢
  have hl := lv_entry ([.ref ia, .int fr, .int tt, .ref oa, .int oF, .int oT]) (n := 8) (Nat.le_of_ble_eq_true rfl)
  rw [lg_entry_eq]
  generalize (lg_sl ([.ref ia, .int fr, .int tt, .ref oa, .int oF, .int oT]) ++ List.replicate (8 - (lg_sl ([.ref ia, .int fr, .int tt, .ref oa, .int oF, .int oT])).length) Slot.unset).toArray = ls at hl ⊢
  have hl : lv_has ls 8 [(0, .ref ia), (1, .int fr), (2, .int tt), (3, .ref oa), (4, .int oF), (5, .int oT)] := hl
  have rg_fr := i_rng fr
  have rg_tt := i_rng tt
  have rg_oF := i_rng oF
  have rg_oT := i_rng oT
  refine lv_iload hx hb dX3_isWithin_0 (lv_at hl 4 rfl) ?_
  refine lv_istore (lv' := [(6, .int oF), (0, .ref ia), (1, .int fr), (2, .int tt), (3, .ref oa), (4, .int oF), (5, .int oT)]) hx hb dX3_isWithin_2 hl (by decide) rfl (fun ls hl => ?_)
  refine lv_iload_n hx hb dX3_isWithin_4 rfl (lv_at hl 2 rfl) ?_
  refine lv_istore (lv' := [(7, .int fr), (6, .int oF), (0, .ref ia), (1, .int fr), (2, .int tt), (3, .ref oa), (4, .int oF), (5, .int oT)]) hx hb dX3_isWithin_5 hl (by decide) rfl (fun ls hl => ?_)
  have loop7 : ∀ (n7 : Nat) (ax ii : Int32), (oF.toInt ≤ ax.toInt) → (fr.toInt ≤ ii.toInt) → (ii.toInt ≤ 1000000) → ((tt.toInt - ii.toInt).toNat) < n7 → ∀ (ls : Array Slot), lv_has ls 8 [(7, .int ii), (6, .int ax), (0, .ref ia), (1, .int fr), (2, .int tt), (3, .ref oa), (4, .int oF), (5, .int oT)] → W p l e (headSpec mwX3_isWithin ({ frames := 0, cells := 0, slots := 0, locals := 0 })).room s m ([.ref ia, .int fr, .int tt, .ref oa, .int oF, .int oT]).toArray below meth c H [] 0 0 (MQ below (vp_Si (fun o => o = 0 ∨ o = 1)) ([.ref ia, .int fr, .int tt, .ref oa, .int oF, .int oT]).toArray s 0 0 (fun _ => False)) (F0 m 7 ls []) := by
    intro n7
    induction n7 with
    | zero => intro ax ii v7_0 v7_1 v7_2 hm7; exact absurd hm7 (Nat.not_lt_zero _)
    | succ n7 ih7 =>
      intro ax ii v7_0 v7_1 v7_2 hm7 ls hl
      have rg_ax := i_rng ax
      have rg_ii := i_rng ii
      refine lv_iload hx hb dX3_isWithin_7 (lv_at hl 0 rfl) ?_
      refine lv_iload_n hx hb dX3_isWithin_9 rfl (lv_at hl 4 rfl) ?_
      refine lv_icmp_ge (tgt := 63) hx hb dX3_isWithin_10 (by decide) (fun k_1 => ?_) (fun k_1 => ?_)
      · have tk_1 := c_ge (a := ii.toInt) (b := tt.toInt) rfl rfl k_1
        refine lv_iconst (v := 1) hx hb dX3_isWithin_63 (by decide) ?_
        exact W.zret hx hb hr rfl (fun t ht hW => ⟨_, rfl, Or.inr rfl, ht.trans hH.symm⟩) t_nil dX3_isWithin_64
      · have tk_1 := c_nge (a := ii.toInt) (b := tt.toInt) rfl rfl k_1
        have loop13 : ∀ (n13 : Nat) (au : Int32), (oF.toInt ≤ au.toInt) → ((oT.toInt - au.toInt).toNat) < n13 → ∀ (ls : Array Slot), lv_has ls 8 [(7, .int ii), (6, .int au), (0, .ref ia), (1, .int fr), (2, .int tt), (3, .ref oa), (4, .int oF), (5, .int oT)] → W p l e (headSpec mwX3_isWithin ({ frames := 0, cells := 0, slots := 0, locals := 0 })).room s m ([.ref ia, .int fr, .int tt, .ref oa, .int oF, .int oT]).toArray below meth c H [] 0 0 (MQ below (vp_Si (fun o => o = 0 ∨ o = 1)) ([.ref ia, .int fr, .int tt, .ref oa, .int oF, .int oT]).toArray s 0 0 (fun _ => False)) (F0 m 13 ls []) := by
          intro n13
          induction n13 with
          | zero => intro au v13_0 hm13; exact absurd hm13 (Nat.not_lt_zero _)
          | succ n13 ih13 =>
            intro au v13_0 hm13 ls hl
            have rg_au := i_rng au
            refine lv_iload hx hb dX3_isWithin_13 (lv_at hl 1 rfl) ?_
            refine lv_iload hx hb dX3_isWithin_15 (lv_at hl 7 rfl) ?_
            refine lv_icmp_ge (tgt := 37) hx hb dX3_isWithin_17 (by decide) (fun k_2 => ?_) (fun k_2 => ?_)
            · have tk_2 := c_ge (a := au.toInt) (b := oT.toInt) rfl rfl k_2
              refine lv_iload hx hb dX3_isWithin_37 (lv_at hl 1 rfl) ?_
              refine lv_iload hx hb dX3_isWithin_39 (lv_at hl 7 rfl) ?_
              refine lv_icmp_ge (tgt := 55) hx hb dX3_isWithin_41 (by decide) (fun k_3 => ?_) (fun k_3 => ?_)
              · have tk_3 := c_ge (a := au.toInt) (b := oT.toInt) rfl rfl k_3
                refine lv_iconst (v := 0) hx hb dX3_isWithin_55 (by decide) ?_
                exact W.zret hx hb hr rfl (fun t ht hW => ⟨_, rfl, Or.inl rfl, ht.trans hH.symm⟩) t_nil dX3_isWithin_56
              · have tk_3 := c_nge (a := au.toInt) (b := oT.toInt) rfl rfl k_3
                refine lv_aload_n hx hb dX3_isWithin_44 rfl (lv_at hl 5 rfl) ?_
                refine lv_iload hx hb dX3_isWithin_45 (lv_at hl 1 rfl) ?_
                refine va_iald hx hb hK hP 1 1 rfl rfl (i := au) (vp_of (a := au.toInt) rfl (by omega) (by omega)) dX3_isWithin_47 ?_
                refine lv_topi (fun y_4 ey_4 => ?_)
                have rg_y_4 := i_rng y_4
                refine lv_aload_n hx hb dX3_isWithin_48 rfl (lv_at hl 2 rfl) ?_
                refine lv_iload hx hb dX3_isWithin_49 (lv_at hl 0 rfl) ?_
                refine va_iald hx hb hK hP 0 0 rfl rfl (i := ii) (vp_of (a := ii.toInt) rfl (by omega) (by omega)) dX3_isWithin_51 ?_
                refine lv_topi (fun y_5 ey_5 => ?_)
                have rg_y_5 := i_rng y_5
                refine lv_icmp_eq (tgt := 57) hx hb dX3_isWithin_52 (by decide) (fun k_6 => ?_) (fun k_6 => ?_)
                · have tk_6 := c_eq (a := y_4.toInt) (b := y_5.toInt) rfl rfl k_6
                  obtain ⟨y_7, ey_7⟩ : ∃ y : Int32, y = ii + 1 := ⟨_, rfl⟩
                  first | have ty_7 := i_add (a := ii.toInt) (b := 1) rfl (by decide) ey_7 (by omega) (by omega) | skip
                  refine lv_iinc (v := y_7) (lv' := [(7, .int y_7), (6, .int au), (0, .ref ia), (1, .int fr), (2, .int tt), (3, .ref oa), (4, .int oF), (5, .int oT)]) hx hb dX3_isWithin_57 hl (k := 0) rfl (by rw [ey_7]; rfl) (by decide) rfl (fun ls hl => ?_)
                  refine lv_goto (tgt := 7) hx hb dX3_isWithin_60 (by decide) ?_
                  exact ih7 au y_7 (by first | omega | decide | assumption) (by first | omega | decide | assumption) (by first | omega | decide | assumption) (by omega) ls (lv_sub hl [0, 1, 2, 3, 4, 5, 6, 7] rfl)
                · have tk_6 := c_ne (a := y_4.toInt) (b := y_5.toInt) rfl rfl k_6
                  refine lv_iconst (v := 0) hx hb dX3_isWithin_55 (by decide) ?_
                  exact W.zret hx hb hr rfl (fun t ht hW => ⟨_, rfl, Or.inl rfl, ht.trans hH.symm⟩) t_nil dX3_isWithin_56
            · have tk_2 := c_nge (a := au.toInt) (b := oT.toInt) rfl rfl k_2
              refine lv_aload_n hx hb dX3_isWithin_20 rfl (lv_at hl 5 rfl) ?_
              refine lv_iload hx hb dX3_isWithin_21 (lv_at hl 1 rfl) ?_
              refine va_iald hx hb hK hP 1 1 rfl rfl (i := au) (vp_of (a := au.toInt) rfl (by omega) (by omega)) dX3_isWithin_23 ?_
              refine lv_topi (fun y_8 ey_8 => ?_)
              have rg_y_8 := i_rng y_8
              refine lv_aload_n hx hb dX3_isWithin_24 rfl (lv_at hl 2 rfl) ?_
              refine lv_iload hx hb dX3_isWithin_25 (lv_at hl 0 rfl) ?_
              refine va_iald hx hb hK hP 0 0 rfl rfl (i := ii) (vp_of (a := ii.toInt) rfl (by omega) (by omega)) dX3_isWithin_27 ?_
              refine lv_topi (fun y_9 ey_9 => ?_)
              have rg_y_9 := i_rng y_9
              refine lv_icmp_ge (tgt := 37) hx hb dX3_isWithin_28 (by decide) (fun k_10 => ?_) (fun k_10 => ?_)
              · have tk_10 := c_ge (a := y_8.toInt) (b := y_9.toInt) rfl rfl k_10
                refine lv_iload hx hb dX3_isWithin_37 (lv_at hl 1 rfl) ?_
                refine lv_iload hx hb dX3_isWithin_39 (lv_at hl 7 rfl) ?_
                refine lv_icmp_ge (tgt := 55) hx hb dX3_isWithin_41 (by decide) (fun k_11 => ?_) (fun k_11 => ?_)
                · have tk_11 := c_ge (a := au.toInt) (b := oT.toInt) rfl rfl k_11
                  refine lv_iconst (v := 0) hx hb dX3_isWithin_55 (by decide) ?_
                  exact W.zret hx hb hr rfl (fun t ht hW => ⟨_, rfl, Or.inl rfl, ht.trans hH.symm⟩) t_nil dX3_isWithin_56
                · have tk_11 := c_nge (a := au.toInt) (b := oT.toInt) rfl rfl k_11
                  refine lv_aload_n hx hb dX3_isWithin_44 rfl (lv_at hl 5 rfl) ?_
                  refine lv_iload hx hb dX3_isWithin_45 (lv_at hl 1 rfl) ?_
                  refine va_iald hx hb hK hP 1 1 rfl rfl (i := au) (vp_of (a := au.toInt) rfl (by omega) (by omega)) dX3_isWithin_47 ?_
                  refine lv_topi (fun y_12 ey_12 => ?_)
                  have rg_y_12 := i_rng y_12
                  refine lv_aload_n hx hb dX3_isWithin_48 rfl (lv_at hl 2 rfl) ?_
                  refine lv_iload hx hb dX3_isWithin_49 (lv_at hl 0 rfl) ?_
                  refine va_iald hx hb hK hP 0 0 rfl rfl (i := ii) (vp_of (a := ii.toInt) rfl (by omega) (by omega)) dX3_isWithin_51 ?_
                  refine lv_topi (fun y_13 ey_13 => ?_)
                  have rg_y_13 := i_rng y_13
                  refine lv_icmp_eq (tgt := 57) hx hb dX3_isWithin_52 (by decide) (fun k_14 => ?_) (fun k_14 => ?_)
                  · have tk_14 := c_eq (a := y_12.toInt) (b := y_13.toInt) rfl rfl k_14
                    obtain ⟨y_15, ey_15⟩ : ∃ y : Int32, y = ii + 1 := ⟨_, rfl⟩
                    first | have ty_15 := i_add (a := ii.toInt) (b := 1) rfl (by decide) ey_15 (by omega) (by omega) | skip
                    refine lv_iinc (v := y_15) (lv' := [(7, .int y_15), (6, .int au), (0, .ref ia), (1, .int fr), (2, .int tt), (3, .ref oa), (4, .int oF), (5, .int oT)]) hx hb dX3_isWithin_57 hl (k := 0) rfl (by rw [ey_15]; rfl) (by decide) rfl (fun ls hl => ?_)
                    refine lv_goto (tgt := 7) hx hb dX3_isWithin_60 (by decide) ?_
                    exact ih7 au y_15 (by first | omega | decide | assumption) (by first | omega | decide | assumption) (by first | omega | decide | assumption) (by omega) ls (lv_sub hl [0, 1, 2, 3, 4, 5, 6, 7] rfl)
                  · have tk_14 := c_ne (a := y_12.toInt) (b := y_13.toInt) rfl rfl k_14
                    refine lv_iconst (v := 0) hx hb dX3_isWithin_55 (by decide) ?_
                    exact W.zret hx hb hr rfl (fun t ht hW => ⟨_, rfl, Or.inl rfl, ht.trans hH.symm⟩) t_nil dX3_isWithin_56
              · have tk_10 := c_nge (a := y_8.toInt) (b := y_9.toInt) rfl rfl k_10
                obtain ⟨y_16, ey_16⟩ : ∃ y : Int32, y = au + 1 := ⟨_, rfl⟩
                first | have ty_16 := i_add (a := au.toInt) (b := 1) rfl (by decide) ey_16 (by omega) (by omega) | skip
                refine lv_iinc (v := y_16) (lv' := [(6, .int y_16), (7, .int ii), (0, .ref ia), (1, .int fr), (2, .int tt), (3, .ref oa), (4, .int oF), (5, .int oT)]) hx hb dX3_isWithin_31 hl (k := 1) rfl (by rw [ey_16]; rfl) (by decide) rfl (fun ls hl => ?_)
                refine lv_goto (tgt := 13) hx hb dX3_isWithin_34 (by decide) ?_
                exact ih13 y_16 (by first | omega | decide | assumption) (by omega) ls (lv_sub hl [1, 0, 2, 3, 4, 5, 6, 7] rfl)
        exact loop13 _ ax (by first | omega | decide | assumption) (Nat.lt_succ_self _) ls (lv_sub hl [0, 1, 2, 3, 4, 5, 6, 7] rfl)
  exact loop7 _ oF fr (by first | omega | decide | assumption) (by first | omega | decide | assumption) (by first | omega | decide | assumption) (Nat.lt_succ_self _) ls (lv_sub hl [0, 1, 2, 3, 4, 5, 6, 7] rfl)

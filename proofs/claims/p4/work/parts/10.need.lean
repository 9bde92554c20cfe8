theorem dX3_standsAhead_0 : decode cX3_standsAhead 0 = .ok (.aload_n 0, 1) := by decide +kernel
theorem dX3_standsAhead_1 : decode cX3_standsAhead 1 = .ok (.getfield 25, 3) := by decide +kernel
theorem dX3_standsAhead_4 : decode cX3_standsAhead 4 = .ok (.iload_n 1, 1) := by decide +kernel
theorem dX3_standsAhead_5 : decode cX3_standsAhead 5 = .ok (.iaload, 1) := by decide +kernel
theorem dX3_standsAhead_6 : decode cX3_standsAhead 6 = .ok (.aload_n 0, 1) := by decide +kernel
theorem dX3_standsAhead_7 : decode cX3_standsAhead 7 = .ok (.getfield 25, 3) := by decide +kernel
theorem dX3_standsAhead_10 : decode cX3_standsAhead 10 = .ok (.iload_n 2, 1) := by decide +kernel
theorem dX3_standsAhead_11 : decode cX3_standsAhead 11 = .ok (.iaload, 1) := by decide +kernel
theorem dX3_standsAhead_12 : decode cX3_standsAhead 12 = .ok (.invokestatic 47, 3) := by decide +kernel
theorem dX3_standsAhead_15 : decode cX3_standsAhead 15 = .ok (.istore_n 3, 1) := by decide +kernel
theorem dX3_standsAhead_16 : decode cX3_standsAhead 16 = .ok (.iconst 0, 1) := by decide +kernel
theorem dX3_standsAhead_17 : decode cX3_standsAhead 17 = .ok (.istore 4, 2) := by decide +kernel
theorem dX3_standsAhead_19 : decode cX3_standsAhead 19 = .ok (.iload 4, 2) := by decide +kernel
theorem dX3_standsAhead_21 : decode cX3_standsAhead 21 = .ok (.iload_n 3, 1) := by decide +kernel
theorem dX3_standsAhead_22 : decode cX3_standsAhead 22 = .ok (.if_icmp .ge 52, 3) := by decide +kernel
theorem dX3_standsAhead_25 : decode cX3_standsAhead 25 = .ok (.aload_n 0, 1) := by decide +kernel
theorem dX3_standsAhead_26 : decode cX3_standsAhead 26 = .ok (.getfield 21, 3) := by decide +kernel
theorem dX3_standsAhead_29 : decode cX3_standsAhead 29 = .ok (.iload_n 1, 1) := by decide +kernel
theorem dX3_standsAhead_30 : decode cX3_standsAhead 30 = .ok (.bipush 24, 2) := by decide +kernel
theorem dX3_standsAhead_32 : decode cX3_standsAhead 32 = .ok (.imul, 1) := by decide +kernel
theorem dX3_standsAhead_33 : decode cX3_standsAhead 33 = .ok (.iload 4, 2) := by decide +kernel
theorem dX3_standsAhead_35 : decode cX3_standsAhead 35 = .ok (.iadd, 1) := by decide +kernel
theorem dX3_standsAhead_36 : decode cX3_standsAhead 36 = .ok (.iaload, 1) := by decide +kernel
theorem dX3_standsAhead_37 : decode cX3_standsAhead 37 = .ok (.aload_n 0, 1) := by decide +kernel
theorem dX3_standsAhead_38 : decode cX3_standsAhead 38 = .ok (.getfield 21, 3) := by decide +kernel
theorem dX3_standsAhead_41 : decode cX3_standsAhead 41 = .ok (.iload_n 2, 1) := by decide +kernel
theorem dX3_standsAhead_42 : decode cX3_standsAhead 42 = .ok (.bipush 24, 2) := by decide +kernel
theorem dX3_standsAhead_44 : decode cX3_standsAhead 44 = .ok (.imul, 1) := by decide +kernel
theorem dX3_standsAhead_45 : decode cX3_standsAhead 45 = .ok (.iload 4, 2) := by decide +kernel
theorem dX3_standsAhead_47 : decode cX3_standsAhead 47 = .ok (.iadd, 1) := by decide +kernel
theorem dX3_standsAhead_48 : decode cX3_standsAhead 48 = .ok (.iaload, 1) := by decide +kernel
theorem dX3_standsAhead_49 : decode cX3_standsAhead 49 = .ok (.isub, 1) := by decide +kernel
theorem dX3_standsAhead_50 : decode cX3_standsAhead 50 = .ok (.istore 5, 2) := by decide +kernel
theorem dX3_standsAhead_52 : decode cX3_standsAhead 52 = .ok (.iload 5, 2) := by decide +kernel
theorem dX3_standsAhead_54 : decode cX3_standsAhead 54 = .ok (.ifCond .eq 14, 3) := by decide +kernel
theorem dX3_standsAhead_57 : decode cX3_standsAhead 57 = .ok (.iload 5, 2) := by decide +kernel
theorem dX3_standsAhead_59 : decode cX3_standsAhead 59 = .ok (.ifCond .ge 7, 3) := by decide +kernel
theorem dX3_standsAhead_62 : decode cX3_standsAhead 62 = .ok (.iconst 1, 1) := by decide +kernel
theorem dX3_standsAhead_63 : decode cX3_standsAhead 63 = .ok (.goto 4, 3) := by decide +kernel
theorem dX3_standsAhead_66 : decode cX3_standsAhead 66 = .ok (.iconst 0, 1) := by decide +kernel
theorem dX3_standsAhead_67 : decode cX3_standsAhead 67 = .ok (.ireturn, 1) := by decide +kernel
theorem dX3_standsAhead_68 : decode cX3_standsAhead 68 = .ok (.iinc 4 1, 3) := by decide +kernel
theorem dX3_standsAhead_71 : decode cX3_standsAhead 71 = .ok (.goto (-52), 3) := by decide +kernel
theorem dX3_standsAhead_74 : decode cX3_standsAhead 74 = .ok (.aload_n 0, 1) := by decide +kernel
theorem dX3_standsAhead_75 : decode cX3_standsAhead 75 = .ok (.getfield 25, 3) := by decide +kernel
theorem dX3_standsAhead_78 : decode cX3_standsAhead 78 = .ok (.iload_n 1, 1) := by decide +kernel
theorem dX3_standsAhead_79 : decode cX3_standsAhead 79 = .ok (.iaload, 1) := by decide +kernel
theorem dX3_standsAhead_80 : decode cX3_standsAhead 80 = .ok (.aload_n 0, 1) := by decide +kernel
theorem dX3_standsAhead_81 : decode cX3_standsAhead 81 = .ok (.getfield 25, 3) := by decide +kernel
theorem dX3_standsAhead_84 : decode cX3_standsAhead 84 = .ok (.iload_n 2, 1) := by decide +kernel
theorem dX3_standsAhead_85 : decode cX3_standsAhead 85 = .ok (.iaload, 1) := by decide +kernel
theorem dX3_standsAhead_86 : decode cX3_standsAhead 86 = .ok (.if_icmp .ge 7, 3) := by decide +kernel
theorem dX3_standsAhead_89 : decode cX3_standsAhead 89 = .ok (.iconst 1, 1) := by decide +kernel
theorem dX3_standsAhead_90 : decode cX3_standsAhead 90 = .ok (.goto 4, 3) := by decide +kernel
theorem dX3_standsAhead_93 : decode cX3_standsAhead 93 = .ok (.iconst 0, 1) := by decide +kernel
theorem dX3_standsAhead_94 : decode cX3_standsAhead 94 = .ok (.ireturn, 1) := by decide +kernel
def mwX3_standsAhead : List Cond := .code yX3_standsAhead cX3_standsAhead 6 (some .boolean) :: ([.fieldLink RX3 25 "PatternGate$Need" "sizes" "[I", .methodLink RX3 47 Lib.Math.min.name, .static Lib.Math.min.name, .initialized "java/lang/Math", .code Lib.Math.min.name Lib.Math.min.code 2 (some .int), .fieldLink RX3 21 "PatternGate$Need" "triples" "[I"] ++ wsX30)
theorem fin_X3_standsAhead_X3 : ∀ w ∈ wsX30, w ∈ mwX3_standsAhead := fun w h => List.mem_cons_of_mem _ (List.mem_append_right _ h)
set_option maxHeartbeats 4000000 in
set_option maxRecDepth 100000 in
/-- Need.standsAhead -/
theorem s_standsAhead (l : Launch) (dC : Nat → ClassId) (dI : Nat → Nat → Nat) (e1 t1 s1 R1 : Nat) (ct1 cs1 : ClassId) (ft1 fs1 : Nat → Int32) (m1 : Int32) (i8 i9 : Int32) (hR1 : 1 ≤ R1) (hU1 : R1 ≤ 144) (hc1 : 0 ≤ m1.toInt) (hd1 : m1.toInt ≤ R1) (hb_fs1 : ∀ i, 0 ≤ (fs1 i).toInt ∧ (fs1 i).toInt ≤ 24) (q1 : 0 ≤ i8.toInt) (q2 : i8.toInt < R1) (q3 : 0 ≤ i9.toInt) (q4 : i9.toInt < R1) : Met l yX3_standsAhead mwX3_standsAhead ({ frames := 1, cells := 0, slots := 0, locals := 60 }) (va_Pc [.ref e1, .int i8, .int i9] (fun U => va_P (dC, dI) vwCl ([(e1, .inr (3, [.int (nI R1), .ref t1, .ref s1, .int m1])), (t1, .inl (ct1, 24 * R1, .inl ft1)), (s1, .inl (cs1, R1, .inl fs1))]) U.heap ∧ va_K (dC, dI) vwCl ([(ct1, .int), (cs1, .int)]) U)) (vp_Si (fun o => o = 0 ∨ o = 1)) 0 0 (fun _ => False) := by
  refine Met.ofW (cc := cX3_standsAhead) (maxL := 6) (ret := (some .boolean)) (by decide +kernel) rfl ?_
  intro p e s m args below meth c s₁ B hml hv
  obtain ⟨rfl, hP, hK⟩ := hv
  have hx := B.exec
  have hb := B.bytes
  have hr := B.returns
  have hts := atoms_spec (ws := mwX3_standsAhead) B.pre
  have hown : s.vm.findClass RX3 = some m.cls := findClass_of_methodNamed B.named
  have hlocks := B.notSynchronized
  have hP : va_P (dC, dI) vwCl [(e1, .inr (3, [.int (nI R1), .ref t1, .ref s1, .int m1])), (t1, .inl (ct1, 24 * R1, .inl ft1)), (s1, .inl (cs1, R1, .inl fs1))] s.heap := hP
  have hK : va_K (dC, dI) vwCl [(ct1, .int), (cs1, .int)] s := hK
  generalize hH : s.heap = H at hP ⊢
  have hl := lv_entry ([.ref e1, .int i8, .int i9]) (n := 6) (Nat.le_of_ble_eq_true rfl)
  rw [lg_entry_eq]
  generalize (lg_sl ([.ref e1, .int i8, .int i9]) ++ List.replicate (6 - (lg_sl ([.ref e1, .int i8, .int i9])).length) Slot.unset).toArray = ls at hl ⊢
  have hl : lv_has ls 6 [(0, .ref e1), (1, .int i8), (2, .int i9)] := hl
  have rg_i8 := i_rng i8
  have rg_i9 := i_rng i9
  have tr1 : (nI R1).toInt = (R1 : Int) := nI_toInt (by omega)
  have rm1 := i_rng m1
  refine lv_aload_n hx hb dX3_standsAhead_0 rfl (lv_at hl 0 rfl) ?_
  refine va_get (D := (dC, dI)) (ci := 3) (v := .ref s1) (C := RX3) (T := TX3) (N := 4) hx hb hts fin_X3_standsAhead_X3 hown hK hP 0 rfl rfl 2 (by decide) (hts (.fieldLink RX3 25 "PatternGate$Need" "sizes" "[I") (List.mem_of_getElem? (i := 1) (by decide +kernel))) (fun _ h9 => h9) rfl dX3_standsAhead_1 ?_
  refine lv_iload_n hx hb dX3_standsAhead_4 rfl (lv_at hl 1 rfl) ?_
  refine va_iald hx hb hK hP 2 1 rfl rfl (i := i8) (vp_of (a := i8.toInt) rfl (by omega) (by omega)) dX3_standsAhead_5 ?_
  refine lv_topi (fun y_1 ey_1 => ?_)
  have rg_y_1 := i_rng y_1
  have by_1 : 0 ≤ y_1.toInt ∧ y_1.toInt ≤ 24 := by rw [ey_1]; exact hb_fs1 _
  refine lv_aload_n hx hb dX3_standsAhead_6 rfl (lv_at hl 0 rfl) ?_
  refine va_get (D := (dC, dI)) (ci := 3) (v := .ref s1) (C := RX3) (T := TX3) (N := 4) hx hb hts fin_X3_standsAhead_X3 hown hK hP 0 rfl rfl 2 (by decide) (hts (.fieldLink RX3 25 "PatternGate$Need" "sizes" "[I") (List.mem_of_getElem? (i := 1) (by decide +kernel))) (fun _ h9 => h9) rfl dX3_standsAhead_7 ?_
  refine lv_iload_n hx hb dX3_standsAhead_10 rfl (lv_at hl 2 rfl) ?_
  refine va_iald hx hb hK hP 2 1 rfl rfl (i := i9) (vp_of (a := i9.toInt) rfl (by omega) (by omega)) dX3_standsAhead_11 ?_
  refine lv_topi (fun y_2 ey_2 => ?_)
  have rg_y_2 := i_rng y_2
  have by_2 : 0 ≤ y_2.toInt ∧ y_2.toInt ≤ 24 := by rw [ey_2]; exact hb_fs1 _
  refine va_mmin hx hb (hml.trans hl.1.symm) hown (hts (.methodLink RX3 47 Lib.Math.min.name) (List.mem_of_getElem? (i := 2) (by decide +kernel))) (hts (.static Lib.Math.min.name) (List.mem_of_getElem? (i := 3) (by decide +kernel))) (hts (.initialized "java/lang/Math") (List.mem_of_getElem? (i := 4) (by decide +kernel))) (hts (.code Lib.Math.min.name Lib.Math.min.code 2 (some .int)) (List.mem_of_getElem? (i := 5) (by decide +kernel))) (Nat.le_of_ble_eq_true rfl) (Nat.le_of_ble_eq_true rfl) (Nat.le_of_ble_eq_true rfl) (Nat.le_of_ble_eq_true rfl) dX3_standsAhead_12 ?_
  refine lv_topi (fun y_3 ey_3 => ?_)
  have ty_3 := i_min (a := y_1.toInt) (b := y_2.toInt) rfl rfl ey_3
  refine lv_istore_n (lv' := [(3, .int y_3), (0, .ref e1), (1, .int i8), (2, .int i9)]) hx hb dX3_standsAhead_15 rfl hl (by decide) rfl (fun ls hl => ?_)
  refine lv_iconst (v := 0) hx hb dX3_standsAhead_16 (by decide) ?_
  refine lv_istore (lv' := [(4, .int 0), (3, .int y_3), (0, .ref e1), (1, .int i8), (2, .int i9)]) hx hb dX3_standsAhead_17 hl (by decide) rfl (fun ls hl => ?_)
  have loop19 : ∀ (n19 : Nat) (ii : Int32), (0 ≤ ii.toInt) → ((30 - ii.toInt).toNat) < n19 → ∀ (ls : Array Slot), lv_has ls 6 [(4, .int ii), (3, .int y_3), (0, .ref e1), (1, .int i8), (2, .int i9)] → W p l e (headSpec mwX3_standsAhead ({ frames := 1, cells := 0, slots := 0, locals := 60 })).room s m ([.ref e1, .int i8, .int i9]).toArray below meth c H [] 0 0 (MQ below (vp_Si (fun o => o = 0 ∨ o = 1)) ([.ref e1, .int i8, .int i9]).toArray s 0 0 (fun _ => False)) (F0 m 19 ls []) := by
    intro n19
    induction n19 with
    | zero => intro ii v19_0 hm19; exact absurd hm19 (Nat.not_lt_zero _)
    | succ n19 ih19 =>
      intro ii v19_0 hm19 ls hl
      have rg_ii := i_rng ii
      refine lv_iload hx hb dX3_standsAhead_19 (lv_at hl 0 rfl) ?_
      refine lv_iload_n hx hb dX3_standsAhead_21 rfl (lv_at hl 1 rfl) ?_
      refine lv_icmp_ge (tgt := 74) hx hb dX3_standsAhead_22 (by decide) (fun k_4 => ?_) (fun k_4 => ?_)
      · have tk_4 := c_ge (a := ii.toInt) (b := y_3.toInt) rfl rfl k_4
        refine lv_aload_n hx hb dX3_standsAhead_74 rfl (lv_at hl 2 rfl) ?_
        refine va_get (D := (dC, dI)) (ci := 3) (v := .ref s1) (C := RX3) (T := TX3) (N := 4) hx hb hts fin_X3_standsAhead_X3 hown hK hP 0 rfl rfl 2 (by decide) (hts (.fieldLink RX3 25 "PatternGate$Need" "sizes" "[I") (List.mem_of_getElem? (i := 1) (by decide +kernel))) (fun _ h9 => h9) rfl dX3_standsAhead_75 ?_
        refine lv_iload_n hx hb dX3_standsAhead_78 rfl (lv_at hl 3 rfl) ?_
        refine va_iald hx hb hK hP 2 1 rfl rfl (i := i8) (vp_of (a := i8.toInt) rfl (by omega) (by omega)) dX3_standsAhead_79 ?_
        refine lv_topi (fun y_5 ey_5 => ?_)
        have rg_y_5 := i_rng y_5
        have by_5 : 0 ≤ y_5.toInt ∧ y_5.toInt ≤ 24 := by rw [ey_5]; exact hb_fs1 _
        refine lv_aload_n hx hb dX3_standsAhead_80 rfl (lv_at hl 2 rfl) ?_
        refine va_get (D := (dC, dI)) (ci := 3) (v := .ref s1) (C := RX3) (T := TX3) (N := 4) hx hb hts fin_X3_standsAhead_X3 hown hK hP 0 rfl rfl 2 (by decide) (hts (.fieldLink RX3 25 "PatternGate$Need" "sizes" "[I") (List.mem_of_getElem? (i := 1) (by decide +kernel))) (fun _ h9 => h9) rfl dX3_standsAhead_81 ?_
        refine lv_iload_n hx hb dX3_standsAhead_84 rfl (lv_at hl 4 rfl) ?_
        refine va_iald hx hb hK hP 2 1 rfl rfl (i := i9) (vp_of (a := i9.toInt) rfl (by omega) (by omega)) dX3_standsAhead_85 ?_
        refine lv_topi (fun y_6 ey_6 => ?_)
        have rg_y_6 := i_rng y_6
        have by_6 : 0 ≤ y_6.toInt ∧ y_6.toInt ≤ 24 := by rw [ey_6]; exact hb_fs1 _
        refine lv_icmp_ge (tgt := 93) hx hb dX3_standsAhead_86 (by decide) (fun k_7 => ?_) (fun k_7 => ?_)
        · have tk_7 := c_ge (a := y_5.toInt) (b := y_6.toInt) rfl rfl k_7
          refine lv_iconst (v := 0) hx hb dX3_standsAhead_93 (by decide) ?_
          exact W.zret hx hb hr rfl (fun t ht hW => ⟨_, rfl, Or.inl rfl, ht.trans hH.symm⟩) t_nil dX3_standsAhead_94
        · have tk_7 := c_nge (a := y_5.toInt) (b := y_6.toInt) rfl rfl k_7
          refine lv_iconst (v := 1) hx hb dX3_standsAhead_89 (by decide) ?_
          refine lv_goto (tgt := 94) hx hb dX3_standsAhead_90 (by decide) ?_
          exact W.zret hx hb hr rfl (fun t ht hW => ⟨_, rfl, Or.inr rfl, ht.trans hH.symm⟩) t_nil dX3_standsAhead_94
      · have tk_4 := c_nge (a := ii.toInt) (b := y_3.toInt) rfl rfl k_4
        refine lv_aload_n hx hb dX3_standsAhead_25 rfl (lv_at hl 2 rfl) ?_
        refine va_get (D := (dC, dI)) (ci := 3) (v := .ref t1) (C := RX3) (T := TX3) (N := 4) hx hb hts fin_X3_standsAhead_X3 hown hK hP 0 rfl rfl 1 (by decide) (hts (.fieldLink RX3 21 "PatternGate$Need" "triples" "[I") (List.mem_of_getElem? (i := 6) (by decide +kernel))) (fun _ h9 => h9) rfl dX3_standsAhead_26 ?_
        refine lv_iload_n hx hb dX3_standsAhead_29 rfl (lv_at hl 3 rfl) ?_
        refine lv_bipush (v := 24) hx hb dX3_standsAhead_30 (by decide) ?_
        refine lv_imul hx hb dX3_standsAhead_32 ?_
        refine lv_topi (fun y_8 ey_8 => ?_)
        first | have ty_8 := i_mul (a := i8.toInt) (b := 24) rfl (by decide) ey_8 (by omega) (by omega) | skip
        refine lv_iload hx hb dX3_standsAhead_33 (lv_at hl 0 rfl) ?_
        refine lv_iadd hx hb dX3_standsAhead_35 ?_
        refine lv_topi (fun y_9 ey_9 => ?_)
        first | have ty_9 := i_add (a := y_8.toInt) (b := ii.toInt) rfl rfl ey_9 (by omega) (by omega) | skip
        refine va_iald hx hb hK hP 1 0 rfl rfl (i := y_9) (vp_of (a := y_9.toInt) rfl (by omega) (by omega)) dX3_standsAhead_36 ?_
        refine lv_topi (fun y_10 ey_10 => ?_)
        have rg_y_10 := i_rng y_10
        refine lv_aload_n hx hb dX3_standsAhead_37 rfl (lv_at hl 2 rfl) ?_
        refine va_get (D := (dC, dI)) (ci := 3) (v := .ref t1) (C := RX3) (T := TX3) (N := 4) hx hb hts fin_X3_standsAhead_X3 hown hK hP 0 rfl rfl 1 (by decide) (hts (.fieldLink RX3 21 "PatternGate$Need" "triples" "[I") (List.mem_of_getElem? (i := 6) (by decide +kernel))) (fun _ h9 => h9) rfl dX3_standsAhead_38 ?_
        refine lv_iload_n hx hb dX3_standsAhead_41 rfl (lv_at hl 4 rfl) ?_
        refine lv_bipush (v := 24) hx hb dX3_standsAhead_42 (by decide) ?_
        refine lv_imul hx hb dX3_standsAhead_44 ?_
        refine lv_topi (fun y_11 ey_11 => ?_)
        first | have ty_11 := i_mul (a := i9.toInt) (b := 24) rfl (by decide) ey_11 (by omega) (by omega) | skip
        refine lv_iload hx hb dX3_standsAhead_45 (lv_at hl 0 rfl) ?_
        refine lv_iadd hx hb dX3_standsAhead_47 ?_
        refine lv_topi (fun y_12 ey_12 => ?_)
        first | have ty_12 := i_add (a := y_11.toInt) (b := ii.toInt) rfl rfl ey_12 (by omega) (by omega) | skip
        refine va_iald hx hb hK hP 1 0 rfl rfl (i := y_12) (vp_of (a := y_12.toInt) rfl (by omega) (by omega)) dX3_standsAhead_48 ?_
        refine lv_topi (fun y_13 ey_13 => ?_)
        have rg_y_13 := i_rng y_13
        refine lv_isub hx hb dX3_standsAhead_49 ?_
        refine lv_topi (fun y_14 ey_14 => ?_)
        first | have ty_14 := i_sub (a := y_10.toInt) (b := y_13.toInt) rfl rfl ey_14 (by omega) (by omega) | skip
        refine lv_istore (lv' := [(5, .int y_14), (4, .int ii), (3, .int y_3), (0, .ref e1), (1, .int i8), (2, .int i9)]) hx hb dX3_standsAhead_50 hl (by decide) rfl (fun ls hl => ?_)
        refine lv_iload hx hb dX3_standsAhead_52 (lv_at hl 0 rfl) ?_
        refine lv_if_eq (tgt := 68) hx hb dX3_standsAhead_54 (by decide) (fun k_15 => ?_) (fun k_15 => ?_)
        · have tk_15 := c_eq (a := y_14.toInt) (b := 0) rfl (by decide) k_15
          obtain ⟨y_16, ey_16⟩ : ∃ y : Int32, y = ii + 1 := ⟨_, rfl⟩
          first | have ty_16 := i_add (a := ii.toInt) (b := 1) rfl (by decide) ey_16 (by omega) (by omega) | skip
          refine lv_iinc (v := y_16) (lv' := [(4, .int y_16), (5, .int y_14), (3, .int y_3), (0, .ref e1), (1, .int i8), (2, .int i9)]) hx hb dX3_standsAhead_68 hl (k := 1) rfl (by rw [ey_16]; rfl) (by decide) rfl (fun ls hl => ?_)
          refine lv_goto (tgt := 19) hx hb dX3_standsAhead_71 (by decide) ?_
          exact ih19 y_16 (by first | omega | decide | assumption) (by omega) ls (lv_sub hl [0, 2, 3, 4, 5] rfl)
        · have tk_15 := c_ne (a := y_14.toInt) (b := 0) rfl (by decide) k_15
          refine lv_iload hx hb dX3_standsAhead_57 (lv_at hl 0 rfl) ?_
          refine lv_if_ge (tgt := 66) hx hb dX3_standsAhead_59 (by decide) (fun k_17 => ?_) (fun k_17 => ?_)
          · have tk_17 := c_ge (a := y_14.toInt) (b := 0) rfl (by decide) k_17
            refine lv_iconst (v := 0) hx hb dX3_standsAhead_66 (by decide) ?_
            exact W.zret hx hb hr rfl (fun t ht hW => ⟨_, rfl, Or.inl rfl, ht.trans hH.symm⟩) t_nil dX3_standsAhead_67
          · have tk_17 := c_nge (a := y_14.toInt) (b := 0) rfl (by decide) k_17
            refine lv_iconst (v := 1) hx hb dX3_standsAhead_62 (by decide) ?_
            refine lv_goto (tgt := 67) hx hb dX3_standsAhead_63 (by decide) ?_
            exact W.zret hx hb hr rfl (fun t ht hW => ⟨_, rfl, Or.inr rfl, ht.trans hH.symm⟩) t_nil dX3_standsAhead_67
  have lit_17 : (0 : Int32).toInt = 0 := by decide
  exact loop19 _ 0 (by first | omega | decide | assumption) (Nat.lt_succ_self _) ls (lv_sub hl [0, 1, 2, 3, 4] rfl)
theorem dX3_order_0 : decode cX3_order 0 = .ok (.aload_n 0, 1) := by decide +kernel
theorem dX3_order_1 : decode cX3_order 1 = .ok (.getfield 44, 3) := by decide +kernel
theorem dX3_order_4 : decode cX3_order 4 = .ok (.newarray .int, 2) := by decide +kernel
theorem dX3_order_6 : decode cX3_order 6 = .ok (.astore_n 1, 1) := by decide +kernel
theorem dX3_order_7 : decode cX3_order 7 = .ok (.iconst 0, 1) := by decide +kernel
theorem dX3_order_8 : decode cX3_order 8 = .ok (.istore_n 2, 1) := by decide +kernel
theorem dX3_order_9 : decode cX3_order 9 = .ok (.iload_n 2, 1) := by decide +kernel
theorem dX3_order_10 : decode cX3_order 10 = .ok (.aload_n 0, 1) := by decide +kernel
theorem dX3_order_11 : decode cX3_order 11 = .ok (.getfield 44, 3) := by decide +kernel
theorem dX3_order_14 : decode cX3_order 14 = .ok (.if_icmp .ge 46, 3) := by decide +kernel
theorem dX3_order_17 : decode cX3_order 17 = .ok (.iload_n 2, 1) := by decide +kernel
theorem dX3_order_18 : decode cX3_order 18 = .ok (.istore_n 3, 1) := by decide +kernel
theorem dX3_order_19 : decode cX3_order 19 = .ok (.iload_n 3, 1) := by decide +kernel
theorem dX3_order_20 : decode cX3_order 20 = .ok (.ifCond .le 30, 3) := by decide +kernel
theorem dX3_order_23 : decode cX3_order 23 = .ok (.aload_n 0, 1) := by decide +kernel
theorem dX3_order_24 : decode cX3_order 24 = .ok (.iload_n 2, 1) := by decide +kernel
theorem dX3_order_25 : decode cX3_order 25 = .ok (.aload_n 1, 1) := by decide +kernel
theorem dX3_order_26 : decode cX3_order 26 = .ok (.iload_n 3, 1) := by decide +kernel
theorem dX3_order_27 : decode cX3_order 27 = .ok (.iconst 1, 1) := by decide +kernel
theorem dX3_order_28 : decode cX3_order 28 = .ok (.isub, 1) := by decide +kernel
theorem dX3_order_29 : decode cX3_order 29 = .ok (.iaload, 1) := by decide +kernel
theorem dX3_order_30 : decode cX3_order 30 = .ok (.invokevirtual 86, 3) := by decide +kernel
theorem dX3_order_33 : decode cX3_order 33 = .ok (.ifCond .eq 17, 3) := by decide +kernel
theorem dX3_order_36 : decode cX3_order 36 = .ok (.aload_n 1, 1) := by decide +kernel
theorem dX3_order_37 : decode cX3_order 37 = .ok (.iload_n 3, 1) := by decide +kernel
theorem dX3_order_38 : decode cX3_order 38 = .ok (.aload_n 1, 1) := by decide +kernel
theorem dX3_order_39 : decode cX3_order 39 = .ok (.iload_n 3, 1) := by decide +kernel
theorem dX3_order_40 : decode cX3_order 40 = .ok (.iconst 1, 1) := by decide +kernel
theorem dX3_order_41 : decode cX3_order 41 = .ok (.isub, 1) := by decide +kernel
theorem dX3_order_42 : decode cX3_order 42 = .ok (.iaload, 1) := by decide +kernel
theorem dX3_order_43 : decode cX3_order 43 = .ok (.iastore, 1) := by decide +kernel
theorem dX3_order_44 : decode cX3_order 44 = .ok (.iinc 3 (-1), 3) := by decide +kernel
theorem dX3_order_47 : decode cX3_order 47 = .ok (.goto (-28), 3) := by decide +kernel
theorem dX3_order_50 : decode cX3_order 50 = .ok (.aload_n 1, 1) := by decide +kernel
theorem dX3_order_51 : decode cX3_order 51 = .ok (.iload_n 3, 1) := by decide +kernel
theorem dX3_order_52 : decode cX3_order 52 = .ok (.iload_n 2, 1) := by decide +kernel
theorem dX3_order_53 : decode cX3_order 53 = .ok (.iastore, 1) := by decide +kernel
theorem dX3_order_54 : decode cX3_order 54 = .ok (.iinc 2 1, 3) := by decide +kernel
theorem dX3_order_57 : decode cX3_order 57 = .ok (.goto (-48), 3) := by decide +kernel
theorem dX3_order_60 : decode cX3_order 60 = .ok (.aload_n 1, 1) := by decide +kernel
theorem dX3_order_61 : decode cX3_order 61 = .ok (.areturn, 1) := by decide +kernel
def mwX3_order : List Cond := .code yX3_order cX3_order 4 (some (.array .int)) :: ([.fieldLink RX3 44 "PatternGate$Need" "size" "I", .arrayClass .int, .code yX3_standsAhead cX3_standsAhead 6 (some .boolean), .fieldLink RX3 25 "PatternGate$Need" "sizes" "[I", .methodLink RX3 47 Lib.Math.min.name, .static Lib.Math.min.name, .initialized "java/lang/Math", .code Lib.Math.min.name Lib.Math.min.code 2 (some .int), .fieldLink RX3 21 "PatternGate$Need" "triples" "[I", .methodLink RX3 86 yX3_standsAhead, .instanceMethod yX3_standsAhead, .selects RX3 yX3_standsAhead yX3_standsAhead, .initialized RX3] ++ wsX30)
theorem fin_X3_order_X3 : ∀ w ∈ wsX30, w ∈ mwX3_order := fun w h => List.mem_cons_of_mem _ (List.mem_append_right _ h)
set_option maxRecDepth 20000 in
theorem mg_X3_order_X3_standsAhead_86 : GoodIn mwX3_order (wsV RX3 86 RX3 yX3_standsAhead mwX3_standsAhead) := goodIn_r _ [10, 11, 12, 13, 3, 4, 5, 6, 7, 8, 9, 14, 15, 16, 17] (by decide +kernel) (by decide +kernel)
set_option maxHeartbeats 4000000 in
set_option maxRecDepth 100000 in
/-- Need.order -/
theorem s_order (l : Launch) (dC : Nat → ClassId) (dI : Nat → Nat → Nat) (e1 t1 s1 R1 : Nat) (ct1 cs1 : ClassId) (ft1 fs1 : Nat → Int32) (m1 : Int32) (sz : Nat) (hR1 : 1 ≤ R1) (hU1 : R1 ≤ 144) (hc1 : 0 ≤ m1.toInt) (hd1 : m1.toInt ≤ R1) (hb_fs1 : ∀ i, 0 ≤ (fs1 i).toInt ∧ (fs1 i).toInt ≤ 24) : Met l yX3_order mwX3_order ({ frames := 2, cells := 1, slots := 144, locals := 120 }) (va_Pc [.ref e1] (fun U => U.heap.size = sz ∧ va_P (dC, dI) vwCl ([(e1, .inr (3, [.int (nI R1), .ref t1, .ref s1, .int m1])), (t1, .inl (ct1, 24 * R1, .inl ft1)), (s1, .inl (cs1, R1, .inl fs1))]) U.heap ∧ va_K (dC, dI) vwCl ([(ct1, .int), (cs1, .int)]) U ∧ va_D (fun _ => True) ([(e1, .inr (3, [.int (nI R1), .ref t1, .ref s1, .int m1])), (t1, .inl (ct1, 24 * R1, .inl ft1)), (s1, .inl (cs1, R1, .inl fs1))]))) (va_Qr (fun (_ : Unit) => True) (fun _ a t => ∃ (k9 : Nat) (f9 : Nat → Int32) (cN : ClassId), (k9 : Int) = m1.toInt ∧ (∀ i, 0 ≤ (f9 i).toInt ∧ (f9 i).toInt ≤ (R1 : Int) - 1) ∧ va_P (dC, dI) vwCl [(e1, .inr (3, [.int (nI R1), .ref t1, .ref s1, .int m1])), (t1, .inl (ct1, 24 * R1, .inl ft1)), (s1, .inl (cs1, R1, .inl fs1)), (a, .inl (cN, k9, .inl f9))] t.heap ∧ va_K (dC, dI) vwCl [(ct1, .int), (cs1, .int), (cN, .int)] t ∧ va_D (va_A ([(e1, .inr (3, [.int (nI R1), .ref t1, .ref s1, .int m1])), (t1, .inl (ct1, 24 * R1, .inl ft1)), (s1, .inl (cs1, R1, .inl fs1))]) sz) [(e1, .inr (3, [.int (nI R1), .ref t1, .ref s1, .int m1])), (t1, .inl (ct1, 24 * R1, .inl ft1)), (s1, .inl (cs1, R1, .inl fs1)), (a, .inl (cN, k9, .inl f9))]) (va_A ([(e1, .inr (3, [.int (nI R1), .ref t1, .ref s1, .int m1])), (t1, .inl (ct1, 24 * R1, .inl ft1)), (s1, .inl (cs1, R1, .inl fs1))]) sz)) 1 144 (va_A ([(e1, .inr (3, [.int (nI R1), .ref t1, .ref s1, .int m1])), (t1, .inl (ct1, 24 * R1, .inl ft1)), (s1, .inl (cs1, R1, .inl fs1))]) sz) := by
  refine Met.ofW (cc := cX3_order) (maxL := 4) (ret := (some (.array .int))) (by decide +kernel) rfl ?_
  intro p e s m args below meth c s₁ B hml hv
  obtain ⟨rfl, hsz, hP, hK, hD0⟩ := hv
  have hx := B.exec
  have hb := B.bytes
  have hr := B.returns
  have hts := atoms_spec (ws := mwX3_order) B.pre
  have hown : s.vm.findClass RX3 = some m.cls := findClass_of_methodNamed B.named
  have hlocks := B.notSynchronized
  subst hsz
  have hD := hD0.self (sz := s.heap.size)
  generalize hAe : va_A ([(e1, .inr (3, [.int (nI R1), .ref t1, .ref s1, .int m1])), (t1, .inl (ct1, 24 * R1, .inl ft1)), (s1, .inl (cs1, R1, .inl fs1))]) s.heap.size = A at hD ⊢
  have hA : ∀ q : Nat, s.heap.size ≤ q → A q := fun q h => by rw [← hAe]; exact Or.inr h
  have hP : va_P (dC, dI) vwCl [(e1, .inr (3, [.int (nI R1), .ref t1, .ref s1, .int m1])), (t1, .inl (ct1, 24 * R1, .inl ft1)), (s1, .inl (cs1, R1, .inl fs1))] s.heap := hP
  have hD : va_D A [(e1, .inr (3, [.int (nI R1), .ref t1, .ref s1, .int m1])), (t1, .inl (ct1, 24 * R1, .inl ft1)), (s1, .inl (cs1, R1, .inl fs1))] := hD
  have hK : va_K (dC, dI) vwCl [(ct1, .int), (cs1, .int)] s := hK
  generalize hH : s.heap = H at hP ⊢
  have hS : va_S A s.heap H [] := by rw [← hH]; exact va_S.rf
  have hl := lv_entry ([.ref e1]) (n := 4) (Nat.le_of_ble_eq_true rfl)
  rw [lg_entry_eq]
  generalize (lg_sl ([.ref e1]) ++ List.replicate (4 - (lg_sl ([.ref e1])).length) Slot.unset).toArray = ls at hl ⊢
  have hl : lv_has ls 4 [(0, .ref e1)] := hl
  have tr1 : (nI R1).toInt = (R1 : Int) := nI_toInt (by omega)
  have rm1 := i_rng m1
  refine lv_aload_n hx hb dX3_order_0 rfl (lv_at hl 0 rfl) ?_
  refine va_get (D := (dC, dI)) (ci := 3) (v := .int m1) (C := RX3) (T := TX3) (N := 4) hx hb hts fin_X3_order_X3 hown hK hP 0 rfl rfl 3 (by decide) (hts (.fieldLink RX3 44 "PatternGate$Need" "size" "I") (List.mem_of_getElem? (i := 1) (by decide +kernel))) (fun _ h9 => h9) rfl dX3_order_1 ?_
  obtain ⟨n_3, hn_3, en_3⟩ := nI_of (i_nn (x := m1) rfl (by omega))
  have tn_3 : m1.toInt = (n_3 : Int) := by rw [en_3]; exact nI_toInt hn_3
  have un_3 : n_3 ≤ 144 := by omega
  refine va_newa (atype := .int) (ty := .int) (n := m1) (N' := n_3) (a0 := (n_3, .inl (fun _ => 0))) hx hb (hts (.arrayClass .int) (List.mem_of_getElem? (i := 2) (by decide +kernel))) rfl hK hP hD hS hA (fun _ => rfl) (i_nn rfl (by omega)) (by rw [en_3]; exact nI_clamp hn_3) (by show n_3 * 4 ≤ 536870912; omega) (Nat.le_of_ble_eq_true rfl) (Nat.le_trans (Nat.add_le_add_left un_3 _) (Nat.le_of_ble_eq_true rfl)) dX3_order_4 (fun q_1 c_2 H hK hP hD hS => ?_)
  have hP : va_P (dC, dI) vwCl [(e1, .inr (3, [.int (nI R1), .ref t1, .ref s1, .int m1])), (t1, .inl (ct1, 24 * R1, .inl ft1)), (s1, .inl (cs1, R1, .inl fs1)), (q_1, .inl (c_2, n_3, .inl (fun _ => 0)))] H := hP
  have hD : va_D A [(e1, .inr (3, [.int (nI R1), .ref t1, .ref s1, .int m1])), (t1, .inl (ct1, 24 * R1, .inl ft1)), (s1, .inl (cs1, R1, .inl fs1)), (q_1, .inl (c_2, n_3, .inl (fun _ => 0)))] := hD
  have hK : va_K (dC, dI) vwCl [(ct1, .int), (cs1, .int), (c_2, .int)] s := hK
  refine W.widen (k := 1) (n := 144) (by omega) (by omega) ?_
  refine lv_astore_n (lv' := [(1, .ref q_1), (0, .ref e1)]) hx hb dX3_order_6 rfl hl (by decide) rfl (fun ls hl => ?_)
  refine lv_iconst (v := 0) hx hb dX3_order_7 (by decide) ?_
  refine lv_istore_n (lv' := [(2, .int 0), (1, .ref q_1), (0, .ref e1)]) hx hb dX3_order_8 rfl hl (by decide) rfl (fun ls hl => ?_)
  have z0 : ∀ i, 0 ≤ ((fun _ => 0 : Nat → Int32) i).toInt ∧ ((fun _ => 0 : Nat → Int32) i).toInt ≤ (R1 : Int) - 1 := by intro i; have l0 := Int32.toInt_zero; dsimp only; omega
  have loop9 : ∀ (n_9 : Nat) (ii : Int32) (ga : Nat → Int32), (0 ≤ ii.toInt) → (∀ i, 0 ≤ (ga i).toInt ∧ (ga i).toInt ≤ (R1 : Int) - 1) → ((m1.toInt - ii.toInt).toNat) < n_9 → ∀ (H : Heap) (locs : List Loc) (ls : Array Slot), va_P (dC, dI) vwCl [(e1, .inr (3, [.int (nI R1), .ref t1, .ref s1, .int m1])), (t1, .inl (ct1, 24 * R1, .inl ft1)), (s1, .inl (cs1, R1, .inl fs1)), (q_1, .inl (c_2, n_3, .inl ga))] H → va_D A [(e1, .inr (3, [.int (nI R1), .ref t1, .ref s1, .int m1])), (t1, .inl (ct1, 24 * R1, .inl ft1)), (s1, .inl (cs1, R1, .inl fs1)), (q_1, .inl (c_2, n_3, .inl ga))] → va_S A s.heap H locs → lv_has ls 4 [(2, .int ii), (1, .ref q_1), (0, .ref e1)] → W p l e (headSpec mwX3_order ({ frames := 2, cells := 1, slots := 144, locals := 120 })).room s m ([.ref e1]).toArray below meth c H locs 1 144 (MQ below (va_Qr (fun (_ : Unit) => True) (fun _ a t => ∃ (k9 : Nat) (f9 : Nat → Int32) (cN : ClassId), (k9 : Int) = m1.toInt ∧ (∀ i, 0 ≤ (f9 i).toInt ∧ (f9 i).toInt ≤ (R1 : Int) - 1) ∧ va_P (dC, dI) vwCl [(e1, .inr (3, [.int (nI R1), .ref t1, .ref s1, .int m1])), (t1, .inl (ct1, 24 * R1, .inl ft1)), (s1, .inl (cs1, R1, .inl fs1)), (a, .inl (cN, k9, .inl f9))] t.heap ∧ va_K (dC, dI) vwCl [(ct1, .int), (cs1, .int), (cN, .int)] t ∧ va_D A [(e1, .inr (3, [.int (nI R1), .ref t1, .ref s1, .int m1])), (t1, .inl (ct1, 24 * R1, .inl ft1)), (s1, .inl (cs1, R1, .inl fs1)), (a, .inl (cN, k9, .inl f9))]) A) ([.ref e1]).toArray s 1 144 A) (F0 m 9 ls []) := by
    intro n_9
    induction n_9 with
    | zero => intro ii ga v9_0 hb_ga hm9; exact absurd hm9 (Nat.not_lt_zero _)
    | succ n_9 ih9 =>
      intro ii ga v9_0 hb_ga hm9 H locs ls hP hD hS hl
      have rg_ii := i_rng ii
      refine lv_iload_n hx hb dX3_order_9 rfl (lv_at hl 0 rfl) ?_
      refine lv_aload_n hx hb dX3_order_10 rfl (lv_at hl 2 rfl) ?_
      refine va_get (D := (dC, dI)) (ci := 3) (v := .int m1) (C := RX3) (T := TX3) (N := 4) hx hb hts fin_X3_order_X3 hown hK hP 0 rfl rfl 3 (by decide) (hts (.fieldLink RX3 44 "PatternGate$Need" "size" "I") (List.mem_of_getElem? (i := 1) (by decide +kernel))) (fun _ h9 => h9) rfl dX3_order_11 ?_
      refine lv_icmp_ge (tgt := 60) hx hb dX3_order_14 (by decide) (fun k_4 => ?_) (fun k_4 => ?_)
      · have tk_4 := c_ge (a := ii.toInt) (b := m1.toInt) rfl rfl k_4
        refine lv_aload_n hx hb dX3_order_60 rfl (lv_at hl 1 rfl) ?_
        have hP9 := hP.sub (ws' := [(e1, .inr (3, [.int (nI R1), .ref t1, .ref s1, .int m1])), (t1, .inl (ct1, 24 * R1, .inl ft1)), (s1, .inl (cs1, R1, .inl fs1)), (q_1, .inl (c_2, n_3, .inl ga))]) [0, 1, 2, 3] rfl
        have hD9 := hD.sub (ws' := [(e1, .inr (3, [.int (nI R1), .ref t1, .ref s1, .int m1])), (t1, .inl (ct1, 24 * R1, .inl ft1)), (s1, .inl (cs1, R1, .inl fs1)), (q_1, .inl (c_2, n_3, .inl ga))]) [0, 1, 2, 3] (by decide) rfl
        have hK9 := hK.sub (tys' := [(ct1, .int), (cs1, .int), (c_2, .int)]) [0, 1, 2] rfl
        refine W.widen (k := 1) (n := 144) (by omega) (by omega) ?_
        exact W.aret hx hb hr (Or.inr ⟨_, rfl⟩) (Or.inr ⟨_, rfl⟩) (fun t ht hW => ⟨⟨(), _, rfl, trivial, n_3, ga, c_2, by omega, hb_ga, by rw [ht]; exact hP9, va_K.moved hW.alike hK9, hD9⟩, hS.F ht⟩) hS.2.2 dX3_order_61
      · have tk_4 := c_nge (a := ii.toInt) (b := m1.toInt) rfl rfl k_4
        refine lv_iload_n hx hb dX3_order_17 rfl (lv_at hl 0 rfl) ?_
        refine lv_istore_n (lv' := [(3, .int ii), (2, .int ii), (1, .ref q_1), (0, .ref e1)]) hx hb dX3_order_18 rfl hl (by decide) rfl (fun ls hl => ?_)
        have loop19 : ∀ (n_19 : Nat) (kk : Int32) (gb : Nat → Int32), (0 ≤ kk.toInt) → (kk.toInt ≤ ii.toInt) → (∀ i, 0 ≤ (gb i).toInt ∧ (gb i).toInt ≤ (R1 : Int) - 1) → kk.toInt.toNat < n_19 → ∀ (H : Heap) (locs : List Loc) (ls : Array Slot), va_P (dC, dI) vwCl [(e1, .inr (3, [.int (nI R1), .ref t1, .ref s1, .int m1])), (t1, .inl (ct1, 24 * R1, .inl ft1)), (s1, .inl (cs1, R1, .inl fs1)), (q_1, .inl (c_2, n_3, .inl gb))] H → va_D A [(e1, .inr (3, [.int (nI R1), .ref t1, .ref s1, .int m1])), (t1, .inl (ct1, 24 * R1, .inl ft1)), (s1, .inl (cs1, R1, .inl fs1)), (q_1, .inl (c_2, n_3, .inl gb))] → va_S A s.heap H locs → lv_has ls 4 [(3, .int kk), (2, .int ii), (1, .ref q_1), (0, .ref e1)] → W p l e (headSpec mwX3_order ({ frames := 2, cells := 1, slots := 144, locals := 120 })).room s m ([.ref e1]).toArray below meth c H locs 1 144 (MQ below (va_Qr (fun (_ : Unit) => True) (fun _ a t => ∃ (k9 : Nat) (f9 : Nat → Int32) (cN : ClassId), (k9 : Int) = m1.toInt ∧ (∀ i, 0 ≤ (f9 i).toInt ∧ (f9 i).toInt ≤ (R1 : Int) - 1) ∧ va_P (dC, dI) vwCl [(e1, .inr (3, [.int (nI R1), .ref t1, .ref s1, .int m1])), (t1, .inl (ct1, 24 * R1, .inl ft1)), (s1, .inl (cs1, R1, .inl fs1)), (a, .inl (cN, k9, .inl f9))] t.heap ∧ va_K (dC, dI) vwCl [(ct1, .int), (cs1, .int), (cN, .int)] t ∧ va_D A [(e1, .inr (3, [.int (nI R1), .ref t1, .ref s1, .int m1])), (t1, .inl (ct1, 24 * R1, .inl ft1)), (s1, .inl (cs1, R1, .inl fs1)), (a, .inl (cN, k9, .inl f9))]) A) ([.ref e1]).toArray s 1 144 A) (F0 m 19 ls []) := by
          intro n_19
          induction n_19 with
          | zero => intro kk gb v19_0 v19_1 hb_gb hm19; exact absurd hm19 (Nat.not_lt_zero _)
          | succ n_19 ih19 =>
            intro kk gb v19_0 v19_1 hb_gb hm19 H locs ls hP hD hS hl
            have rg_kk := i_rng kk
            refine lv_iload_n hx hb dX3_order_19 rfl (lv_at hl 0 rfl) ?_
            refine lv_if_le (tgt := 50) hx hb dX3_order_20 (by decide) (fun k_5 => ?_) (fun k_5 => ?_)
            · have tk_5 := c_le (a := kk.toInt) (b := 0) rfl (by decide) k_5
              refine lv_aload_n hx hb dX3_order_50 rfl (lv_at hl 2 rfl) ?_
              refine lv_iload_n hx hb dX3_order_51 rfl (lv_at hl 0 rfl) ?_
              refine lv_iload_n hx hb dX3_order_52 rfl (lv_at hl 1 rfl) ?_
              refine va_iast hx hb hK hP hD hS 3 2 rfl rfl (i := kk) (vp_of (a := kk.toInt) rfl (by omega) (by omega)) dX3_order_53 (fun H locs hP hD hS => ?_)
              generalize hf_f_6 : upd gb _ _ = f_6 at hP hD
              have hb_f_6 : ∀ i, 0 ≤ (f_6 i).toInt ∧ (f_6 i).toInt ≤ (R1 : Int) - 1 := by rw [← hf_f_6]; exact upd_bd (a := ii.toInt) hb_gb rfl (by omega) (by omega)
              have hP : va_P (dC, dI) vwCl [(e1, .inr (3, [.int (nI R1), .ref t1, .ref s1, .int m1])), (t1, .inl (ct1, 24 * R1, .inl ft1)), (s1, .inl (cs1, R1, .inl fs1)), (q_1, .inl (c_2, n_3, .inl f_6))] H := hP
              have hD : va_D A [(e1, .inr (3, [.int (nI R1), .ref t1, .ref s1, .int m1])), (t1, .inl (ct1, 24 * R1, .inl ft1)), (s1, .inl (cs1, R1, .inl fs1)), (q_1, .inl (c_2, n_3, .inl f_6))] := hD
              obtain ⟨y_7, ey_7⟩ : ∃ y : Int32, y = ii + 1 := ⟨_, rfl⟩
              first | have ty_7 := i_add (a := ii.toInt) (b := 1) rfl (by decide) ey_7 (by omega) (by omega) | skip
              refine lv_iinc (v := y_7) (lv' := [(2, .int y_7), (3, .int kk), (1, .ref q_1), (0, .ref e1)]) hx hb dX3_order_54 hl (k := 1) rfl (by rw [ey_7]; rfl) (by decide) rfl (fun ls hl => ?_)
              refine lv_goto (tgt := 9) hx hb dX3_order_57 (by decide) ?_
              exact ih9 y_7 f_6 (by first | omega | decide | assumption) (by first | exact hb_f_6 | (intro i; decide)) (by omega) _ _ ls hP hD hS (lv_sub hl [0, 2, 3] rfl)
            · have tk_5 := c_nle (a := kk.toInt) (b := 0) rfl (by decide) k_5
              refine lv_aload_n hx hb dX3_order_23 rfl (lv_at hl 3 rfl) ?_
              refine lv_iload_n hx hb dX3_order_24 rfl (lv_at hl 1 rfl) ?_
              refine lv_aload_n hx hb dX3_order_25 rfl (lv_at hl 2 rfl) ?_
              refine lv_iload_n hx hb dX3_order_26 rfl (lv_at hl 0 rfl) ?_
              refine lv_iconst (v := 1) hx hb dX3_order_27 (by decide) ?_
              refine lv_isub hx hb dX3_order_28 ?_
              refine lv_topi (fun y_8 ey_8 => ?_)
              first | have ty_8 := i_sub (a := kk.toInt) (b := 1) rfl (by decide) ey_8 (by omega) (by omega) | skip
              refine va_iald hx hb hK hP 3 2 rfl rfl (i := y_8) (vp_of (a := y_8.toInt) rfl (by omega) (by omega)) dX3_order_29 ?_
              refine lv_topi (fun y_9 ey_9 => ?_)
              have rg_y_9 := i_rng y_9
              have by_9 : 0 ≤ y_9.toInt ∧ y_9.toInt ≤ (R1 : Int) - 1 := by rw [ey_9]; exact hb_gb _
              have hPc := hP.sub (ws' := [(e1, .inr (3, [.int (nI R1), .ref t1, .ref s1, .int m1])), (t1, .inl (ct1, 24 * R1, .inl ft1)), (s1, .inl (cs1, R1, .inl fs1))]) [0, 1, 2] rfl
              have hKc := hK.sub (tys' := [(ct1, .int), (cs1, .int)]) [0, 1] rfl
              refine vp_callSi (W.runV (As := [.int ii, .int y_9]) (rest := []) ⟨hx, hb, hml, hown, hts⟩ (s_standsAhead l dC dI e1 t1 s1 R1 ct1 cs1 ft1 fs1 m1 ii y_9 (by first | omega | decide | (have l0 := Int32.toInt_zero; omega)) (by first | omega | decide | (have l0 := Int32.toInt_zero; omega)) (by first | omega | decide | (have l0 := Int32.toInt_zero; omega)) (by first | omega | decide | (have l0 := Int32.toInt_zero; omega)) hb_fs1 (by first | omega | decide | (have l0 := Int32.toInt_zero; omega)) (by first | omega | decide | (have l0 := Int32.toInt_zero; omega)) (by first | omega | decide | (have l0 := Int32.toInt_zero; omega)) (by first | omega | decide | (have l0 := Int32.toInt_zero; omega))) (cwV 2 hts mg_X3_order_X3_standsAhead_86 rfl rfl rfl (by decide +kernel) ⟨Nat.le_of_ble_eq_true rfl, Nat.le_of_ble_eq_true rfl⟩) ⟨fun a U g mk q => by obtain ⟨q0, qP, qK⟩ := q; exact ⟨q0, qP, va_K.moved (u := U) (U := U.calling g mk a) (Vm.Alike.refl U.vm) qK⟩, va_recv hKc hPc (ci := 3) (q0 := 0) rfl rfl, fun U hU hW => ⟨rfl, by rw [hU]; exact hPc, va_K.moved hW.alike hKc⟩⟩ rfl rfl hl.1 rfl (lv_room (Nat.le_of_ble_eq_true rfl)) dX3_order_30 ⟨Nat.le_of_ble_eq_true rfl, Nat.le_of_ble_eq_true rfl⟩) (fun r_11 hw => ?_)
              refine lv_if_eq (tgt := 50) hx hb dX3_order_33 (by decide) (fun k_12 => ?_) (fun k_12 => ?_)
              · have tk_12 := c_eq (a := r_11.toInt) (b := 0) rfl (by decide) k_12
                refine lv_aload_n hx hb dX3_order_50 rfl (lv_at hl 2 rfl) ?_
                refine lv_iload_n hx hb dX3_order_51 rfl (lv_at hl 0 rfl) ?_
                refine lv_iload_n hx hb dX3_order_52 rfl (lv_at hl 1 rfl) ?_
                refine va_iast hx hb hK hP hD hS 3 2 rfl rfl (i := kk) (vp_of (a := kk.toInt) rfl (by omega) (by omega)) dX3_order_53 (fun H locs hP hD hS => ?_)
                generalize hf_f_13 : upd gb _ _ = f_13 at hP hD
                have hb_f_13 : ∀ i, 0 ≤ (f_13 i).toInt ∧ (f_13 i).toInt ≤ (R1 : Int) - 1 := by rw [← hf_f_13]; exact upd_bd (a := ii.toInt) hb_gb rfl (by omega) (by omega)
                have hP : va_P (dC, dI) vwCl [(e1, .inr (3, [.int (nI R1), .ref t1, .ref s1, .int m1])), (t1, .inl (ct1, 24 * R1, .inl ft1)), (s1, .inl (cs1, R1, .inl fs1)), (q_1, .inl (c_2, n_3, .inl f_13))] H := hP
                have hD : va_D A [(e1, .inr (3, [.int (nI R1), .ref t1, .ref s1, .int m1])), (t1, .inl (ct1, 24 * R1, .inl ft1)), (s1, .inl (cs1, R1, .inl fs1)), (q_1, .inl (c_2, n_3, .inl f_13))] := hD
                obtain ⟨y_14, ey_14⟩ : ∃ y : Int32, y = ii + 1 := ⟨_, rfl⟩
                first | have ty_14 := i_add (a := ii.toInt) (b := 1) rfl (by decide) ey_14 (by omega) (by omega) | skip
                refine lv_iinc (v := y_14) (lv' := [(2, .int y_14), (3, .int kk), (1, .ref q_1), (0, .ref e1)]) hx hb dX3_order_54 hl (k := 1) rfl (by rw [ey_14]; rfl) (by decide) rfl (fun ls hl => ?_)
                refine lv_goto (tgt := 9) hx hb dX3_order_57 (by decide) ?_
                exact ih9 y_14 f_13 (by first | omega | decide | assumption) (by first | exact hb_f_13 | (intro i; decide)) (by omega) _ _ ls hP hD hS (lv_sub hl [0, 2, 3] rfl)
              · have tk_12 := c_ne (a := r_11.toInt) (b := 0) rfl (by decide) k_12
                refine lv_aload_n hx hb dX3_order_36 rfl (lv_at hl 2 rfl) ?_
                refine lv_iload_n hx hb dX3_order_37 rfl (lv_at hl 0 rfl) ?_
                refine lv_aload_n hx hb dX3_order_38 rfl (lv_at hl 2 rfl) ?_
                refine lv_iload_n hx hb dX3_order_39 rfl (lv_at hl 0 rfl) ?_
                refine lv_iconst (v := 1) hx hb dX3_order_40 (by decide) ?_
                refine lv_isub hx hb dX3_order_41 ?_
                refine lv_topi (fun y_15 ey_15 => ?_)
                first | have ty_15 := i_sub (a := kk.toInt) (b := 1) rfl (by decide) ey_15 (by omega) (by omega) | skip
                refine va_iald hx hb hK hP 3 2 rfl rfl (i := y_15) (vp_of (a := y_15.toInt) rfl (by omega) (by omega)) dX3_order_42 ?_
                refine lv_topi (fun y_16 ey_16 => ?_)
                have rg_y_16 := i_rng y_16
                have by_16 : 0 ≤ y_16.toInt ∧ y_16.toInt ≤ (R1 : Int) - 1 := by rw [ey_16]; exact hb_gb _
                refine va_iast hx hb hK hP hD hS 3 2 rfl rfl (i := kk) (vp_of (a := kk.toInt) rfl (by omega) (by omega)) dX3_order_43 (fun H locs hP hD hS => ?_)
                generalize hf_f_17 : upd gb _ _ = f_17 at hP hD
                have hb_f_17 : ∀ i, 0 ≤ (f_17 i).toInt ∧ (f_17 i).toInt ≤ (R1 : Int) - 1 := by rw [← hf_f_17]; exact upd_bd (a := y_16.toInt) hb_gb rfl (by omega) (by omega)
                have hP : va_P (dC, dI) vwCl [(e1, .inr (3, [.int (nI R1), .ref t1, .ref s1, .int m1])), (t1, .inl (ct1, 24 * R1, .inl ft1)), (s1, .inl (cs1, R1, .inl fs1)), (q_1, .inl (c_2, n_3, .inl f_17))] H := hP
                have hD : va_D A [(e1, .inr (3, [.int (nI R1), .ref t1, .ref s1, .int m1])), (t1, .inl (ct1, 24 * R1, .inl ft1)), (s1, .inl (cs1, R1, .inl fs1)), (q_1, .inl (c_2, n_3, .inl f_17))] := hD
                obtain ⟨y_18, ey_18⟩ : ∃ y : Int32, y = kk + (-1) := ⟨_, rfl⟩
                first | have ty_18 := i_add (a := kk.toInt) (b := (-1)) rfl (by decide) ey_18 (by omega) (by omega) | skip
                refine lv_iinc (v := y_18) (lv' := [(3, .int y_18), (2, .int ii), (1, .ref q_1), (0, .ref e1)]) hx hb dX3_order_44 hl (k := 0) rfl (by rw [ey_18]; rfl) (by decide) rfl (fun ls hl => ?_)
                refine lv_goto (tgt := 19) hx hb dX3_order_47 (by decide) ?_
                exact ih19 y_18 f_17 (by first | omega | decide | assumption) (by first | omega | decide | assumption) (by first | exact hb_f_17 | (intro i; decide)) (by omega) _ _ ls hP hD hS (lv_sub hl [0, 1, 2, 3] rfl)
        exact loop19 _ ii ga (by first | omega | decide | assumption) (by first | omega | decide | assumption) (by first | exact hb_ga | (intro i; decide)) (Nat.lt_succ_self _) _ _ ls hP hD hS (lv_sub hl [0, 1, 2, 3] rfl)
  have lit_18 : (0 : Int32).toInt = 0 := by decide
  exact loop9 _ 0 (fun _ => 0) (by first | omega | decide | assumption) (by first | exact z0 | (intro i; decide)) (Nat.lt_succ_self _) _ _ ls hP hD hS (lv_sub hl [0, 1, 2] rfl)

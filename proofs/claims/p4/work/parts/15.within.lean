theorem dX5_hasChoiceWithin_0 : decode cX5_hasChoiceWithin 0 = .ok (.iload_n 2, 1) := by decide +kernel
theorem dX5_hasChoiceWithin_1 : decode cX5_hasChoiceWithin 1 = .ok (.ifCond .lt 11, 3) := by decide +kernel
theorem dX5_hasChoiceWithin_4 : decode cX5_hasChoiceWithin 4 = .ok (.iload_n 2, 1) := by decide +kernel
theorem dX5_hasChoiceWithin_5 : decode cX5_hasChoiceWithin 5 = .ok (.aload_n 1, 1) := by decide +kernel
theorem dX5_hasChoiceWithin_6 : decode cX5_hasChoiceWithin 6 = .ok (.invokevirtual 92, 3) := by decide +kernel
theorem dX5_hasChoiceWithin_9 : decode cX5_hasChoiceWithin 9 = .ok (.if_icmp .lt 5, 3) := by decide +kernel
theorem dX5_hasChoiceWithin_12 : decode cX5_hasChoiceWithin 12 = .ok (.iconst 0, 1) := by decide +kernel
theorem dX5_hasChoiceWithin_13 : decode cX5_hasChoiceWithin 13 = .ok (.ireturn, 1) := by decide +kernel
theorem dX5_hasChoiceWithin_14 : decode cX5_hasChoiceWithin 14 = .ok (.iconst 0, 1) := by decide +kernel
theorem dX5_hasChoiceWithin_15 : decode cX5_hasChoiceWithin 15 = .ok (.istore_n 3, 1) := by decide +kernel
theorem dX5_hasChoiceWithin_16 : decode cX5_hasChoiceWithin 16 = .ok (.iload_n 3, 1) := by decide +kernel
theorem dX5_hasChoiceWithin_17 : decode cX5_hasChoiceWithin 17 = .ok (.aload_n 0, 1) := by decide +kernel
theorem dX5_hasChoiceWithin_18 : decode cX5_hasChoiceWithin 18 = .ok (.invokevirtual 92, 3) := by decide +kernel
theorem dX5_hasChoiceWithin_21 : decode cX5_hasChoiceWithin 21 = .ok (.if_icmp .ge 53, 3) := by decide +kernel
theorem dX5_hasChoiceWithin_24 : decode cX5_hasChoiceWithin 24 = .ok (.aload_n 0, 1) := by decide +kernel
theorem dX5_hasChoiceWithin_25 : decode cX5_hasChoiceWithin 25 = .ok (.getfield 83, 3) := by decide +kernel
theorem dX5_hasChoiceWithin_28 : decode cX5_hasChoiceWithin 28 = .ok (.aload_n 0, 1) := by decide +kernel
theorem dX5_hasChoiceWithin_29 : decode cX5_hasChoiceWithin 29 = .ok (.getfield 76, 3) := by decide +kernel
theorem dX5_hasChoiceWithin_32 : decode cX5_hasChoiceWithin 32 = .ok (.iload_n 3, 1) := by decide +kernel
theorem dX5_hasChoiceWithin_33 : decode cX5_hasChoiceWithin 33 = .ok (.iaload, 1) := by decide +kernel
theorem dX5_hasChoiceWithin_34 : decode cX5_hasChoiceWithin 34 = .ok (.aload_n 0, 1) := by decide +kernel
theorem dX5_hasChoiceWithin_35 : decode cX5_hasChoiceWithin 35 = .ok (.getfield 76, 3) := by decide +kernel
theorem dX5_hasChoiceWithin_38 : decode cX5_hasChoiceWithin 38 = .ok (.iload_n 3, 1) := by decide +kernel
theorem dX5_hasChoiceWithin_39 : decode cX5_hasChoiceWithin 39 = .ok (.iconst 1, 1) := by decide +kernel
theorem dX5_hasChoiceWithin_40 : decode cX5_hasChoiceWithin 40 = .ok (.iadd, 1) := by decide +kernel
theorem dX5_hasChoiceWithin_41 : decode cX5_hasChoiceWithin 41 = .ok (.iaload, 1) := by decide +kernel
theorem dX5_hasChoiceWithin_42 : decode cX5_hasChoiceWithin 42 = .ok (.aload_n 1, 1) := by decide +kernel
theorem dX5_hasChoiceWithin_43 : decode cX5_hasChoiceWithin 43 = .ok (.getfield 83, 3) := by decide +kernel
theorem dX5_hasChoiceWithin_46 : decode cX5_hasChoiceWithin 46 = .ok (.aload_n 1, 1) := by decide +kernel
theorem dX5_hasChoiceWithin_47 : decode cX5_hasChoiceWithin 47 = .ok (.getfield 76, 3) := by decide +kernel
theorem dX5_hasChoiceWithin_50 : decode cX5_hasChoiceWithin 50 = .ok (.iload_n 2, 1) := by decide +kernel
theorem dX5_hasChoiceWithin_51 : decode cX5_hasChoiceWithin 51 = .ok (.iaload, 1) := by decide +kernel
theorem dX5_hasChoiceWithin_52 : decode cX5_hasChoiceWithin 52 = .ok (.aload_n 1, 1) := by decide +kernel
theorem dX5_hasChoiceWithin_53 : decode cX5_hasChoiceWithin 53 = .ok (.getfield 76, 3) := by decide +kernel
theorem dX5_hasChoiceWithin_56 : decode cX5_hasChoiceWithin 56 = .ok (.iload_n 2, 1) := by decide +kernel
theorem dX5_hasChoiceWithin_57 : decode cX5_hasChoiceWithin 57 = .ok (.iconst 1, 1) := by decide +kernel
theorem dX5_hasChoiceWithin_58 : decode cX5_hasChoiceWithin 58 = .ok (.iadd, 1) := by decide +kernel
theorem dX5_hasChoiceWithin_59 : decode cX5_hasChoiceWithin 59 = .ok (.iaload, 1) := by decide +kernel
theorem dX5_hasChoiceWithin_60 : decode cX5_hasChoiceWithin 60 = .ok (.invokestatic 96, 3) := by decide +kernel
theorem dX5_hasChoiceWithin_63 : decode cX5_hasChoiceWithin 63 = .ok (.ifCond .eq 5, 3) := by decide +kernel
theorem dX5_hasChoiceWithin_66 : decode cX5_hasChoiceWithin 66 = .ok (.iconst 1, 1) := by decide +kernel
theorem dX5_hasChoiceWithin_67 : decode cX5_hasChoiceWithin 67 = .ok (.ireturn, 1) := by decide +kernel
theorem dX5_hasChoiceWithin_68 : decode cX5_hasChoiceWithin 68 = .ok (.iinc 3 1, 3) := by decide +kernel
theorem dX5_hasChoiceWithin_71 : decode cX5_hasChoiceWithin 71 = .ok (.goto (-55), 3) := by decide +kernel
theorem dX5_hasChoiceWithin_74 : decode cX5_hasChoiceWithin 74 = .ok (.iconst 0, 1) := by decide +kernel
theorem dX5_hasChoiceWithin_75 : decode cX5_hasChoiceWithin 75 = .ok (.ireturn, 1) := by decide +kernel
def mwX5_hasChoiceWithin : List Cond := .code yX5_hasChoiceWithin cX5_hasChoiceWithin 4 (some .boolean) :: ([.code yX5_choices cX5_choices 1 (some .int), .fieldLink RX5 76 "PatternGate$Pattern" "starts" "[I", .methodLink RX5 92 yX5_choices, .instanceMethod yX5_choices, .selects RX5 yX5_choices yX5_choices, .initialized RX5, .fieldLink RX5 83 "PatternGate$Pattern" "triples" "[I", .code yX3_isWithin cX3_isWithin 8 (some .boolean), .methodLink RX5 96 yX3_isWithin, .static yX3_isWithin, .initialized RX3] ++ wsX50)
theorem fin_X5_hasChoiceWithin_X5 : ∀ w ∈ wsX50, w ∈ mwX5_hasChoiceWithin := fun w h => List.mem_cons_of_mem _ (List.mem_append_right _ h)
set_option maxRecDepth 20000 in
theorem mg_X5_hasChoiceWithin_X5_choices_92 : GoodIn mwX5_hasChoiceWithin (wsV RX5 92 RX5 yX5_choices mwX5_choices) := goodIn_r _ [3, 4, 5, 6, 1, 2, 12, 13, 14, 15, 16, 17, 18, 19, 20, 21, 22, 23, 24] (by decide +kernel) (by decide +kernel)
set_option maxRecDepth 20000 in
theorem mg_X5_hasChoiceWithin_X3_isWithin_96 : GoodIn mwX5_hasChoiceWithin (va_wsS RX5 96 yX3_isWithin mwX3_isWithin) := goodIn_r _ [9, 10, 11, 8] (by decide +kernel) (by decide +kernel)
set_option maxHeartbeats 4000000 in
set_option maxRecDepth 100000 in
/-- Pattern.hasChoiceWithin -/
theorem s_hasChoiceWithin (l : Launch) (dC : Nat → ClassId) (dI : Nat → Nat → Nat) (W9 : va_W) (T9 : List (ClassId × FieldType)) (pt p2 : Nat) (i9 : Int32) (hPt : poP W9 T9 pt) (hP2 : poP W9 T9 p2) : Met l yX5_hasChoiceWithin mwX5_hasChoiceWithin ({ frames := 1, cells := 0, slots := 0, locals := 60 }) (va_Pc [.ref pt, .ref p2, .int i9] (fun U => va_P (dC, dI) vwCl W9 U.heap ∧ va_K (dC, dI) vwCl T9 U)) (vp_Si (fun o => o = 0 ∨ o = 1)) 0 0 (fun _ => False) := by
  refine Met.ofW (cc := cX5_hasChoiceWithin) (maxL := 4) (ret := (some .boolean)) (by decide +kernel) rfl ?_
  intro p e s m args below meth c s₁ B hml hv
  obtain ⟨rfl, hQ, hKQ⟩ := hv
  have hx := B.exec
  have hb := B.bytes
  have hr := B.returns
  have hts := atoms_spec (ws := mwX5_hasChoiceWithin) B.pre
  have hown : s.vm.findClass RX5 = some m.cls := findClass_of_methodNamed B.named
  have hlocks := B.notSynchronized
  generalize hH : s.heap = H at hQ ⊢
  have hl := lv_entry ([.ref pt, .ref p2, .int i9]) (n := 4) (Nat.le_of_ble_eq_true rfl)
  rw [lg_entry_eq]
  generalize (lg_sl ([.ref pt, .ref p2, .int i9]) ++ List.replicate (4 - (lg_sl ([.ref pt, .ref p2, .int i9])).length) Slot.unset).toArray = ls at hl ⊢
  have hl : lv_has ls 4 [(0, .ref pt), (1, .ref p2), (2, .int i9)] := hl
  have rg_i9 := i_rng i9
  obtain ⟨q_1, a_2, a_3, a_4, a_5, a_6, a_7, n_8, n_9, n_10, n_11, n_12, n_13, f_14, f_15, f_16, f_17, f_18, f_19, c_20, c_21, c_22, c_23, c_24, c_25, m_26, ⟨m_27, m_28⟩, ⟨m_29, m_30⟩, ⟨m_31, m_32⟩, ⟨m_33, m_34⟩, ⟨m_35, m_36⟩, ⟨m_37, m_38⟩, h_39, h_40, h_41, h_42, h_43, h_44, h_45, h_46, h_47, h_48⟩ := hPt
  obtain ⟨k_49, hk_49⟩ := List.getElem?_of_mem m_26
  obtain ⟨k_50, hk_50⟩ := List.getElem?_of_mem m_33
  obtain ⟨j_51, hj_51⟩ := List.getElem?_of_mem m_34
  obtain ⟨k_52, hk_52⟩ := List.getElem?_of_mem m_35
  obtain ⟨j_53, hj_53⟩ := List.getElem?_of_mem m_36
  obtain ⟨q_54, a_55, a_56, a_57, a_58, a_59, a_60, n_61, n_62, n_63, n_64, n_65, n_66, f_67, f_68, f_69, f_70, f_71, f_72, c_73, c_74, c_75, c_76, c_77, c_78, m_79, ⟨m_80, m_81⟩, ⟨m_82, m_83⟩, ⟨m_84, m_85⟩, ⟨m_86, m_87⟩, ⟨m_88, m_89⟩, ⟨m_90, m_91⟩, h_92, h_93, h_94, h_95, h_96, h_97, h_98, h_99, h_100, h_101⟩ := hP2
  obtain ⟨k_102, hk_102⟩ := List.getElem?_of_mem m_79
  obtain ⟨k_103, hk_103⟩ := List.getElem?_of_mem m_86
  obtain ⟨j_104, hj_104⟩ := List.getElem?_of_mem m_87
  obtain ⟨k_105, hk_105⟩ := List.getElem?_of_mem m_88
  obtain ⟨j_106, hj_106⟩ := List.getElem?_of_mem m_89
  refine lv_iload_n hx hb dX5_hasChoiceWithin_0 rfl (lv_at hl 2 rfl) ?_
  refine lv_if_lt (tgt := 12) hx hb dX5_hasChoiceWithin_1 (by decide) (fun k_107 => ?_) (fun k_107 => ?_)
  · have tk_107 := c_lt (a := i9.toInt) (b := 0) rfl (by decide) k_107
    refine lv_iconst (v := 0) hx hb dX5_hasChoiceWithin_12 (by decide) ?_
    exact W.zret hx hb hr rfl (fun t ht hW => ⟨_, rfl, Or.inl rfl, ht.trans hH.symm⟩) t_nil dX5_hasChoiceWithin_13
  · have tk_107 := c_nlt (a := i9.toInt) (b := 0) rfl (by decide) k_107
    refine lv_iload_n hx hb dX5_hasChoiceWithin_4 rfl (lv_at hl 2 rfl) ?_
    refine lv_aload_n hx hb dX5_hasChoiceWithin_5 rfl (lv_at hl 1 rfl) ?_
    have hPc : va_P (dC, dI) vwCl [(p2, .inr (5, pF q_54 a_55 a_56 a_57 a_58 a_59 a_60)), (q_54 5, .inl (c_77, n_65, .inl f_71))] H := p_sub hQ (List.forall_mem_cons.mpr ⟨m_79, List.forall_mem_cons.mpr ⟨m_88, fun _ h => absurd h List.not_mem_nil⟩⟩)
    have hKc : va_K (dC, dI) vwCl [(c_77, .int)] s := k_sub hKQ (List.forall_mem_cons.mpr ⟨m_89, fun _ h => absurd h List.not_mem_nil⟩)
    refine vp_callSi (W.runV (As := []) (rest := [.int i9]) ⟨hx, hb, hml, hown, hts⟩ (s_choices l dC dI p2 q_54 a_55 a_56 a_57 a_58 a_59 a_60 n_65 f_71 c_77 (by omega)) (cwV 0 hts mg_X5_hasChoiceWithin_X5_choices_92 rfl rfl rfl (by decide +kernel) ⟨Nat.le_of_ble_eq_true rfl, Nat.le_of_ble_eq_true rfl⟩) ⟨fun a U g mk q => by obtain ⟨q0, qP, qK⟩ := q; exact ⟨q0, qP, va_K.moved (u := U) (U := U.calling g mk a) (Vm.Alike.refl U.vm) qK⟩, va_recv hKc hPc (ci := 5) (q0 := 0) rfl rfl, fun U hU hW => ⟨rfl, by rw [hU]; exact hPc, va_K.moved hW.alike hKc⟩⟩ rfl rfl hl.1 rfl (lv_room (Nat.le_of_ble_eq_true rfl)) dX5_hasChoiceWithin_6 ⟨Nat.le_of_ble_eq_true rfl, Nat.le_of_ble_eq_true rfl⟩) (fun r_109 hw => ?_)
    refine lv_icmp_lt (tgt := 14) hx hb dX5_hasChoiceWithin_9 (by decide) (fun k_110 => ?_) (fun k_110 => ?_)
    · have tk_110 := c_lt (a := i9.toInt) (b := r_109.toInt) rfl rfl k_110
      refine lv_iconst (v := 0) hx hb dX5_hasChoiceWithin_14 (by decide) ?_
      refine lv_istore_n (lv' := [(3, .int 0), (0, .ref pt), (1, .ref p2), (2, .int i9)]) hx hb dX5_hasChoiceWithin_15 rfl hl (by decide) rfl (fun ls hl => ?_)
      have loop16 : ∀ (n16 : Nat) (ii : Int32), (0 ≤ ii.toInt) → (ii.toInt ≤ 100) → ((1000 - ii.toInt).toNat) < n16 → ∀ (ls : Array Slot), lv_has ls 4 [(3, .int ii), (0, .ref pt), (1, .ref p2), (2, .int i9)] → W p l e (headSpec mwX5_hasChoiceWithin ({ frames := 1, cells := 0, slots := 0, locals := 60 })).room s m ([.ref pt, .ref p2, .int i9]).toArray below meth c H [] 0 0 (MQ below (vp_Si (fun o => o = 0 ∨ o = 1)) ([.ref pt, .ref p2, .int i9]).toArray s 0 0 (fun _ => False)) (F0 m 16 ls []) := by
        intro n16
        induction n16 with
        | zero => intro ii v16_0 v16_1 hm16; exact absurd hm16 (Nat.not_lt_zero _)
        | succ n16 ih16 =>
          intro ii v16_0 v16_1 hm16 ls hl
          have rg_ii := i_rng ii
          refine lv_iload_n hx hb dX5_hasChoiceWithin_16 rfl (lv_at hl 0 rfl) ?_
          refine lv_aload_n hx hb dX5_hasChoiceWithin_17 rfl (lv_at hl 1 rfl) ?_
          have hPc : va_P (dC, dI) vwCl [(pt, .inr (5, pF q_1 a_2 a_3 a_4 a_5 a_6 a_7)), (q_1 5, .inl (c_24, n_12, .inl f_18))] H := p_sub hQ (List.forall_mem_cons.mpr ⟨m_26, List.forall_mem_cons.mpr ⟨m_35, fun _ h => absurd h List.not_mem_nil⟩⟩)
          have hKc : va_K (dC, dI) vwCl [(c_24, .int)] s := k_sub hKQ (List.forall_mem_cons.mpr ⟨m_36, fun _ h => absurd h List.not_mem_nil⟩)
          refine vp_callSi (W.runV (As := []) (rest := [.int ii]) ⟨hx, hb, hml, hown, hts⟩ (s_choices l dC dI pt q_1 a_2 a_3 a_4 a_5 a_6 a_7 n_12 f_18 c_24 (by omega)) (cwV 0 hts mg_X5_hasChoiceWithin_X5_choices_92 rfl rfl rfl (by decide +kernel) ⟨Nat.le_of_ble_eq_true rfl, Nat.le_of_ble_eq_true rfl⟩) ⟨fun a U g mk q => by obtain ⟨q0, qP, qK⟩ := q; exact ⟨q0, qP, va_K.moved (u := U) (U := U.calling g mk a) (Vm.Alike.refl U.vm) qK⟩, va_recv hKc hPc (ci := 5) (q0 := 0) rfl rfl, fun U hU hW => ⟨rfl, by rw [hU]; exact hPc, va_K.moved hW.alike hKc⟩⟩ rfl rfl hl.1 rfl (lv_room (Nat.le_of_ble_eq_true rfl)) dX5_hasChoiceWithin_18 ⟨Nat.le_of_ble_eq_true rfl, Nat.le_of_ble_eq_true rfl⟩) (fun r_112 hw => ?_)
          refine lv_icmp_ge (tgt := 74) hx hb dX5_hasChoiceWithin_21 (by decide) (fun k_113 => ?_) (fun k_113 => ?_)
          · have tk_113 := c_ge (a := ii.toInt) (b := r_112.toInt) rfl rfl k_113
            refine lv_iconst (v := 0) hx hb dX5_hasChoiceWithin_74 (by decide) ?_
            exact W.zret hx hb hr rfl (fun t ht hW => ⟨_, rfl, Or.inl rfl, ht.trans hH.symm⟩) t_nil dX5_hasChoiceWithin_75
          · have tk_113 := c_nge (a := ii.toInt) (b := r_112.toInt) rfl rfl k_113
            refine lv_aload_n hx hb dX5_hasChoiceWithin_24 rfl (lv_at hl 1 rfl) ?_
            refine va_get (D := (dC, dI)) (ci := 5) (v := .ref (q_1 4)) (C := RX5) (T := TX5) (N := 13) hx hb hts fin_X5_hasChoiceWithin_X5 hown hKQ hQ k_49 hk_49 rfl 10 (by decide) (hts (.fieldLink RX5 83 "PatternGate$Pattern" "triples" "[I") (List.mem_of_getElem? (i := 7) (by decide +kernel))) (fun _ h9 => h9) rfl dX5_hasChoiceWithin_25 ?_
            refine lv_aload_n hx hb dX5_hasChoiceWithin_28 rfl (lv_at hl 1 rfl) ?_
            refine va_get (D := (dC, dI)) (ci := 5) (v := .ref (q_1 5)) (C := RX5) (T := TX5) (N := 13) hx hb hts fin_X5_hasChoiceWithin_X5 hown hKQ hQ k_49 hk_49 rfl 11 (by decide) (hts (.fieldLink RX5 76 "PatternGate$Pattern" "starts" "[I") (List.mem_of_getElem? (i := 2) (by decide +kernel))) (fun _ h9 => h9) rfl dX5_hasChoiceWithin_29 ?_
            refine lv_iload_n hx hb dX5_hasChoiceWithin_32 rfl (lv_at hl 0 rfl) ?_
            refine va_iald hx hb hKQ hQ k_52 j_53 hk_52 hj_53 (i := ii) (vp_of (a := ii.toInt) rfl (by omega) (by omega)) dX5_hasChoiceWithin_33 ?_
            refine lv_topi (fun y_114 ey_114 => ?_)
            have rg_y_114 := i_rng y_114
            have by_114 : 0 ≤ y_114.toInt ∧ y_114.toInt ≤ (n_11 : Int) := by rw [ey_114]; exact h_48 _ (vp_nat (i := ii) (a := ii.toInt) (n := n_12) rfl (by omega) (by omega))
            refine lv_aload_n hx hb dX5_hasChoiceWithin_34 rfl (lv_at hl 1 rfl) ?_
            refine va_get (D := (dC, dI)) (ci := 5) (v := .ref (q_1 5)) (C := RX5) (T := TX5) (N := 13) hx hb hts fin_X5_hasChoiceWithin_X5 hown hKQ hQ k_49 hk_49 rfl 11 (by decide) (hts (.fieldLink RX5 76 "PatternGate$Pattern" "starts" "[I") (List.mem_of_getElem? (i := 2) (by decide +kernel))) (fun _ h9 => h9) rfl dX5_hasChoiceWithin_35 ?_
            refine lv_iload_n hx hb dX5_hasChoiceWithin_38 rfl (lv_at hl 0 rfl) ?_
            refine lv_iconst (v := 1) hx hb dX5_hasChoiceWithin_39 (by decide) ?_
            refine lv_iadd hx hb dX5_hasChoiceWithin_40 ?_
            refine lv_topi (fun y_115 ey_115 => ?_)
            first | have ty_115 := i_add (a := ii.toInt) (b := 1) rfl (by decide) ey_115 (by omega) (by omega) | skip
            refine va_iald hx hb hKQ hQ k_52 j_53 hk_52 hj_53 (i := y_115) (vp_of (a := y_115.toInt) rfl (by omega) (by omega)) dX5_hasChoiceWithin_41 ?_
            refine lv_topi (fun y_116 ey_116 => ?_)
            have rg_y_116 := i_rng y_116
            have by_116 : 0 ≤ y_116.toInt ∧ y_116.toInt ≤ (n_11 : Int) := by rw [ey_116]; exact h_48 _ (vp_nat (i := y_115) (a := y_115.toInt) (n := n_12) rfl (by omega) (by omega))
            refine lv_aload_n hx hb dX5_hasChoiceWithin_42 rfl (lv_at hl 2 rfl) ?_
            refine va_get (D := (dC, dI)) (ci := 5) (v := .ref (q_54 4)) (C := RX5) (T := TX5) (N := 13) hx hb hts fin_X5_hasChoiceWithin_X5 hown hKQ hQ k_102 hk_102 rfl 10 (by decide) (hts (.fieldLink RX5 83 "PatternGate$Pattern" "triples" "[I") (List.mem_of_getElem? (i := 7) (by decide +kernel))) (fun _ h9 => h9) rfl dX5_hasChoiceWithin_43 ?_
            refine lv_aload_n hx hb dX5_hasChoiceWithin_46 rfl (lv_at hl 2 rfl) ?_
            refine va_get (D := (dC, dI)) (ci := 5) (v := .ref (q_54 5)) (C := RX5) (T := TX5) (N := 13) hx hb hts fin_X5_hasChoiceWithin_X5 hown hKQ hQ k_102 hk_102 rfl 11 (by decide) (hts (.fieldLink RX5 76 "PatternGate$Pattern" "starts" "[I") (List.mem_of_getElem? (i := 2) (by decide +kernel))) (fun _ h9 => h9) rfl dX5_hasChoiceWithin_47 ?_
            refine lv_iload_n hx hb dX5_hasChoiceWithin_50 rfl (lv_at hl 3 rfl) ?_
            refine va_iald hx hb hKQ hQ k_105 j_106 hk_105 hj_106 (i := i9) (vp_of (a := i9.toInt) rfl (by omega) (by omega)) dX5_hasChoiceWithin_51 ?_
            refine lv_topi (fun y_117 ey_117 => ?_)
            have rg_y_117 := i_rng y_117
            have by_117 : 0 ≤ y_117.toInt ∧ y_117.toInt ≤ (n_64 : Int) := by rw [ey_117]; exact h_101 _ (vp_nat (i := i9) (a := i9.toInt) (n := n_65) rfl (by omega) (by omega))
            refine lv_aload_n hx hb dX5_hasChoiceWithin_52 rfl (lv_at hl 2 rfl) ?_
            refine va_get (D := (dC, dI)) (ci := 5) (v := .ref (q_54 5)) (C := RX5) (T := TX5) (N := 13) hx hb hts fin_X5_hasChoiceWithin_X5 hown hKQ hQ k_102 hk_102 rfl 11 (by decide) (hts (.fieldLink RX5 76 "PatternGate$Pattern" "starts" "[I") (List.mem_of_getElem? (i := 2) (by decide +kernel))) (fun _ h9 => h9) rfl dX5_hasChoiceWithin_53 ?_
            refine lv_iload_n hx hb dX5_hasChoiceWithin_56 rfl (lv_at hl 3 rfl) ?_
            refine lv_iconst (v := 1) hx hb dX5_hasChoiceWithin_57 (by decide) ?_
            refine lv_iadd hx hb dX5_hasChoiceWithin_58 ?_
            refine lv_topi (fun y_118 ey_118 => ?_)
            first | have ty_118 := i_add (a := i9.toInt) (b := 1) rfl (by decide) ey_118 (by omega) (by omega) | skip
            refine va_iald hx hb hKQ hQ k_105 j_106 hk_105 hj_106 (i := y_118) (vp_of (a := y_118.toInt) rfl (by omega) (by omega)) dX5_hasChoiceWithin_59 ?_
            refine lv_topi (fun y_119 ey_119 => ?_)
            have rg_y_119 := i_rng y_119
            have by_119 : 0 ≤ y_119.toInt ∧ y_119.toInt ≤ (n_64 : Int) := by rw [ey_119]; exact h_101 _ (vp_nat (i := y_118) (a := y_118.toInt) (n := n_65) rfl (by omega) (by omega))
            have hPc : va_P (dC, dI) vwCl [(q_1 4, .inl (c_23, n_11, .inl f_17)), (q_54 4, .inl (c_76, n_64, .inl f_70))] H := p_sub hQ (List.forall_mem_cons.mpr ⟨m_33, List.forall_mem_cons.mpr ⟨m_86, fun _ h => absurd h List.not_mem_nil⟩⟩)
            have hKc : va_K (dC, dI) vwCl [(c_23, .int), (c_76, .int)] s := k_sub hKQ (List.forall_mem_cons.mpr ⟨m_34, List.forall_mem_cons.mpr ⟨m_87, fun _ h => absurd h List.not_mem_nil⟩⟩)
            refine vp_callSi (W.runS (As := [.ref (q_1 4), .int y_114, .int y_116, .ref (q_54 4), .int y_117, .int y_119]) (rest := []) ⟨hx, hb, hml, hown, hts⟩ (s_Need_isWithin l dC dI (q_1 4) (q_54 4) n_11 n_64 f_17 f_70 c_23 c_76 y_114 y_116 y_117 y_119 (by first | omega | decide) (by first | omega | decide) (by first | omega | decide) (by first | omega | decide) (by first | omega | decide) (by first | omega | decide) (by first | omega | decide)) (va_cwS 6 hts mg_X5_hasChoiceWithin_X3_isWithin_96 rfl rfl rfl (by decide +kernel) ⟨Nat.le_of_ble_eq_true rfl, Nat.le_of_ble_eq_true rfl⟩) ⟨fun a U g mk q => by obtain ⟨q0, qP, qK⟩ := q; exact ⟨q0, qP, va_K.moved (u := U) (U := U.calling g mk a) (Vm.Alike.refl U.vm) qK⟩, fun U hU hW => ⟨rfl, by rw [hU]; exact hPc, va_K.moved hW.alike hKc⟩⟩ rfl rfl hl.1 rfl (lv_room (Nat.le_of_ble_eq_true rfl)) dX5_hasChoiceWithin_60 ⟨Nat.le_of_ble_eq_true rfl, Nat.le_of_ble_eq_true rfl⟩) (fun r_121 hw => ?_)
            refine lv_if_eq (tgt := 68) hx hb dX5_hasChoiceWithin_63 (by decide) (fun k_122 => ?_) (fun k_122 => ?_)
            · have tk_122 := c_eq (a := r_121.toInt) (b := 0) rfl (by decide) k_122
              obtain ⟨y_123, ey_123⟩ : ∃ y : Int32, y = ii + 1 := ⟨_, rfl⟩
              first | have ty_123 := i_add (a := ii.toInt) (b := 1) rfl (by decide) ey_123 (by omega) (by omega) | skip
              refine lv_iinc (v := y_123) (lv' := [(3, .int y_123), (0, .ref pt), (1, .ref p2), (2, .int i9)]) hx hb dX5_hasChoiceWithin_68 hl (k := 0) rfl (by rw [ey_123]; rfl) (by decide) rfl (fun ls hl => ?_)
              refine lv_goto (tgt := 16) hx hb dX5_hasChoiceWithin_71 (by decide) ?_
              exact ih16 y_123 (by first | omega | decide | assumption) (by first | omega | decide | assumption) (by omega) ls (lv_sub hl [0, 1, 2, 3] rfl)
            · have tk_122 := c_ne (a := r_121.toInt) (b := 0) rfl (by decide) k_122
              refine lv_iconst (v := 1) hx hb dX5_hasChoiceWithin_66 (by decide) ?_
              exact W.zret hx hb hr rfl (fun t ht hW => ⟨_, rfl, Or.inr rfl, ht.trans hH.symm⟩) t_nil dX5_hasChoiceWithin_67
      have lit_123 : (0 : Int32).toInt = 0 := by decide
      exact loop16 _ 0 (by first | omega | decide | assumption) (by first | omega | decide | assumption) (Nat.lt_succ_self _) ls (lv_sub hl [0, 1, 2, 3] rfl)
    · have tk_110 := c_nlt (a := i9.toInt) (b := r_109.toInt) rfl rfl k_110
      refine lv_iconst (v := 0) hx hb dX5_hasChoiceWithin_12 (by decide) ?_
      exact W.zret hx hb hr rfl (fun t ht hW => ⟨_, rfl, Or.inl rfl, ht.trans hH.symm⟩) t_nil dX5_hasChoiceWithin_13
theorem dX9_isLetter_0 : decode cX9_isLetter 0 = .ok (.iload_n 0, 1) := by decide +kernel
theorem dX9_isLetter_1 : decode cX9_isLetter 1 = .ok (.ifCond .lt 13, 3) := by decide +kernel
theorem dX9_isLetter_4 : decode cX9_isLetter 4 = .ok (.iload_n 0, 1) := by decide +kernel
theorem dX9_isLetter_5 : decode cX9_isLetter 5 = .ok (.bipush 26, 2) := by decide +kernel
theorem dX9_isLetter_7 : decode cX9_isLetter 7 = .ok (.if_icmp .ge 7, 3) := by decide +kernel
theorem dX9_isLetter_10 : decode cX9_isLetter 10 = .ok (.iconst 1, 1) := by decide +kernel
theorem dX9_isLetter_11 : decode cX9_isLetter 11 = .ok (.goto 4, 3) := by decide +kernel
theorem dX9_isLetter_14 : decode cX9_isLetter 14 = .ok (.iconst 0, 1) := by decide +kernel
theorem dX9_isLetter_15 : decode cX9_isLetter 15 = .ok (.ireturn, 1) := by decide +kernel
def mwX9_isLetter : List Cond := .code yX9_isLetter cX9_isLetter 1 (some .boolean) :: ([])
set_option maxHeartbeats 4000000 in
set_option maxRecDepth 100000 in
/-- isLetter -/
theorem s_isLetter (l : Launch) (dC : Nat → ClassId) (dI : Nat → Nat → Nat) (i0 : Int32) : Met l yX9_isLetter mwX9_isLetter ({ frames := 0, cells := 0, slots := 0, locals := 0 }) (va_Pc [.int i0] (fun _ => True)) (vp_Si (fun o => o = 0 ∨ o = 1)) 0 0 (fun _ => False) := by
  refine Met.ofW (cc := cX9_isLetter) (maxL := 1) (ret := (some .boolean)) (by decide +kernel) rfl ?_
  intro p e s m args below meth c s₁ B hml hv
  obtain ⟨rfl, -⟩ := hv
  have hx := B.exec
  have hb := B.bytes
  have hr := B.returns
  have hts := atoms_spec (ws := mwX9_isLetter) B.pre
  have hown : s.vm.findClass RX9 = some m.cls := findClass_of_methodNamed B.named
  have hlocks := B.notSynchronized
  have hl := lv_entry ([.int i0]) (n := 1) (Nat.le_of_ble_eq_true rfl)
  rw [lg_entry_eq]
  generalize (lg_sl ([.int i0]) ++ List.replicate (1 - (lg_sl ([.int i0])).length) Slot.unset).toArray = ls at hl ⊢
  have hl : lv_has ls 1 [(0, .int i0)] := hl
  have rg_i0 := i_rng i0
  refine lv_iload_n hx hb dX9_isLetter_0 rfl (lv_at hl 0 rfl) ?_
  refine lv_if_lt (tgt := 14) hx hb dX9_isLetter_1 (by decide) (fun k_1 => ?_) (fun k_1 => ?_)
  · have tk_1 := c_lt (a := i0.toInt) (b := 0) rfl (by decide) k_1
    refine lv_iconst (v := 0) hx hb dX9_isLetter_14 (by decide) ?_
    exact W.zret hx hb hr rfl (fun t ht hW => ⟨_, rfl, Or.inl rfl, ht⟩) t_nil dX9_isLetter_15
  · have tk_1 := c_nlt (a := i0.toInt) (b := 0) rfl (by decide) k_1
    refine lv_iload_n hx hb dX9_isLetter_4 rfl (lv_at hl 0 rfl) ?_
    refine lv_bipush (v := 26) hx hb dX9_isLetter_5 (by decide) ?_
    refine lv_icmp_ge (tgt := 14) hx hb dX9_isLetter_7 (by decide) (fun k_2 => ?_) (fun k_2 => ?_)
    · have tk_2 := c_ge (a := i0.toInt) (b := 26) rfl (by decide) k_2
      refine lv_iconst (v := 0) hx hb dX9_isLetter_14 (by decide) ?_
      exact W.zret hx hb hr rfl (fun t ht hW => ⟨_, rfl, Or.inl rfl, ht⟩) t_nil dX9_isLetter_15
    · have tk_2 := c_nge (a := i0.toInt) (b := 26) rfl (by decide) k_2
      refine lv_iconst (v := 1) hx hb dX9_isLetter_10 (by decide) ?_
      refine lv_goto (tgt := 15) hx hb dX9_isLetter_11 (by decide) ?_
      exact W.zret hx hb hr rfl (fun t ht hW => ⟨_, rfl, Or.inr rfl, ht⟩) t_nil dX9_isLetter_15
theorem dX9_isTriple_0 : decode cX9_isTriple 0 = .ok (.iload_n 0, 1) := by decide +kernel
theorem dX9_isTriple_1 : decode cX9_isTriple 1 = .ok (.ifCond .lt 14, 3) := by decide +kernel
theorem dX9_isTriple_4 : decode cX9_isTriple 4 = .ok (.iload_n 0, 1) := by decide +kernel
theorem dX9_isTriple_5 : decode cX9_isTriple 5 = .ok (.sipush 17576, 3) := by decide +kernel
theorem dX9_isTriple_8 : decode cX9_isTriple 8 = .ok (.if_icmp .ge 7, 3) := by decide +kernel
theorem dX9_isTriple_11 : decode cX9_isTriple 11 = .ok (.iconst 1, 1) := by decide +kernel
theorem dX9_isTriple_12 : decode cX9_isTriple 12 = .ok (.goto 4, 3) := by decide +kernel
theorem dX9_isTriple_15 : decode cX9_isTriple 15 = .ok (.iconst 0, 1) := by decide +kernel
theorem dX9_isTriple_16 : decode cX9_isTriple 16 = .ok (.ireturn, 1) := by decide +kernel
def mwX9_isTriple : List Cond := .code yX9_isTriple cX9_isTriple 1 (some .boolean) :: ([])
set_option maxHeartbeats 4000000 in
set_option maxRecDepth 100000 in
/-- isTriple -/
theorem s_isTriple (l : Launch) (dC : Nat → ClassId) (dI : Nat → Nat → Nat) (i0 : Int32) : Met l yX9_isTriple mwX9_isTriple ({ frames := 0, cells := 0, slots := 0, locals := 0 }) (va_Pc [.int i0] (fun _ => True)) (vp_Si (fun o => o = 0 ∨ o = 1)) 0 0 (fun _ => False) := by
  refine Met.ofW (cc := cX9_isTriple) (maxL := 1) (ret := (some .boolean)) (by decide +kernel) rfl ?_
  intro p e s m args below meth c s₁ B hml hv
  obtain ⟨rfl, -⟩ := hv
  have hx := B.exec
  have hb := B.bytes
  have hr := B.returns
  have hts := atoms_spec (ws := mwX9_isTriple) B.pre
  have hown : s.vm.findClass RX9 = some m.cls := findClass_of_methodNamed B.named
  have hlocks := B.notSynchronized
  have hl := lv_entry ([.int i0]) (n := 1) (Nat.le_of_ble_eq_true rfl)
  rw [lg_entry_eq]
  generalize (lg_sl ([.int i0]) ++ List.replicate (1 - (lg_sl ([.int i0])).length) Slot.unset).toArray = ls at hl ⊢
  have hl : lv_has ls 1 [(0, .int i0)] := hl
  have rg_i0 := i_rng i0
  refine lv_iload_n hx hb dX9_isTriple_0 rfl (lv_at hl 0 rfl) ?_
  refine lv_if_lt (tgt := 15) hx hb dX9_isTriple_1 (by decide) (fun k_1 => ?_) (fun k_1 => ?_)
  · have tk_1 := c_lt (a := i0.toInt) (b := 0) rfl (by decide) k_1
    refine lv_iconst (v := 0) hx hb dX9_isTriple_15 (by decide) ?_
    exact W.zret hx hb hr rfl (fun t ht hW => ⟨_, rfl, Or.inl rfl, ht⟩) t_nil dX9_isTriple_16
  · have tk_1 := c_nlt (a := i0.toInt) (b := 0) rfl (by decide) k_1
    refine lv_iload_n hx hb dX9_isTriple_4 rfl (lv_at hl 0 rfl) ?_
    refine lv_sipush (v := 17576) hx hb dX9_isTriple_5 (by decide) ?_
    refine lv_icmp_ge (tgt := 15) hx hb dX9_isTriple_8 (by decide) (fun k_2 => ?_) (fun k_2 => ?_)
    · have tk_2 := c_ge (a := i0.toInt) (b := 17576) rfl (by decide) k_2
      refine lv_iconst (v := 0) hx hb dX9_isTriple_15 (by decide) ?_
      exact W.zret hx hb hr rfl (fun t ht hW => ⟨_, rfl, Or.inl rfl, ht⟩) t_nil dX9_isTriple_16
    · have tk_2 := c_nge (a := i0.toInt) (b := 17576) rfl (by decide) k_2
      refine lv_iconst (v := 1) hx hb dX9_isTriple_11 (by decide) ?_
      refine lv_goto (tgt := 16) hx hb dX9_isTriple_12 (by decide) ?_
      exact W.zret hx hb hr rfl (fun t ht hW => ⟨_, rfl, Or.inr rfl, ht⟩) t_nil dX9_isTriple_16
theorem dX9_isSmall_0 : decode cX9_isSmall 0 = .ok (.iload_n 0, 1) := by decide +kernel
theorem dX9_isSmall_1 : decode cX9_isSmall 1 = .ok (.bipush 97, 2) := by decide +kernel
theorem dX9_isSmall_3 : decode cX9_isSmall 3 = .ok (.if_icmp .lt 13, 3) := by decide +kernel
theorem dX9_isSmall_6 : decode cX9_isSmall 6 = .ok (.iload_n 0, 1) := by decide +kernel
theorem dX9_isSmall_7 : decode cX9_isSmall 7 = .ok (.bipush 122, 2) := by decide +kernel
theorem dX9_isSmall_9 : decode cX9_isSmall 9 = .ok (.if_icmp .gt 7, 3) := by decide +kernel
theorem dX9_isSmall_12 : decode cX9_isSmall 12 = .ok (.iconst 1, 1) := by decide +kernel
theorem dX9_isSmall_13 : decode cX9_isSmall 13 = .ok (.goto 4, 3) := by decide +kernel
theorem dX9_isSmall_16 : decode cX9_isSmall 16 = .ok (.iconst 0, 1) := by decide +kernel
theorem dX9_isSmall_17 : decode cX9_isSmall 17 = .ok (.ireturn, 1) := by decide +kernel
def mwX9_isSmall : List Cond := .code yX9_isSmall cX9_isSmall 1 (some .boolean) :: ([])
set_option maxHeartbeats 4000000 in
set_option maxRecDepth 100000 in
/-- isSmall -/
theorem s_isSmall (l : Launch) (dC : Nat → ClassId) (dI : Nat → Nat → Nat) (i0 : Int32) : Met l yX9_isSmall mwX9_isSmall ({ frames := 0, cells := 0, slots := 0, locals := 0 }) (va_Pc [.int i0] (fun _ => True)) (vp_Si (fun o => o = 0 ∨ o = 1)) 0 0 (fun _ => False) := by
  refine Met.ofW (cc := cX9_isSmall) (maxL := 1) (ret := (some .boolean)) (by decide +kernel) rfl ?_
  intro p e s m args below meth c s₁ B hml hv
  obtain ⟨rfl, -⟩ := hv
  have hx := B.exec
  have hb := B.bytes
  have hr := B.returns
  have hts := atoms_spec (ws := mwX9_isSmall) B.pre
  have hown : s.vm.findClass RX9 = some m.cls := findClass_of_methodNamed B.named
  have hlocks := B.notSynchronized
  have hl := lv_entry ([.int i0]) (n := 1) (Nat.le_of_ble_eq_true rfl)
  rw [lg_entry_eq]
  generalize (lg_sl ([.int i0]) ++ List.replicate (1 - (lg_sl ([.int i0])).length) Slot.unset).toArray = ls at hl ⊢
  have hl : lv_has ls 1 [(0, .int i0)] := hl
  have rg_i0 := i_rng i0
  refine lv_iload_n hx hb dX9_isSmall_0 rfl (lv_at hl 0 rfl) ?_
  refine lv_bipush (v := 97) hx hb dX9_isSmall_1 (by decide) ?_
  refine lv_icmp_lt (tgt := 16) hx hb dX9_isSmall_3 (by decide) (fun k_1 => ?_) (fun k_1 => ?_)
  · have tk_1 := c_lt (a := i0.toInt) (b := 97) rfl (by decide) k_1
    refine lv_iconst (v := 0) hx hb dX9_isSmall_16 (by decide) ?_
    exact W.zret hx hb hr rfl (fun t ht hW => ⟨_, rfl, Or.inl rfl, ht⟩) t_nil dX9_isSmall_17
  · have tk_1 := c_nlt (a := i0.toInt) (b := 97) rfl (by decide) k_1
    refine lv_iload_n hx hb dX9_isSmall_6 rfl (lv_at hl 0 rfl) ?_
    refine lv_bipush (v := 122) hx hb dX9_isSmall_7 (by decide) ?_
    refine lv_icmp_gt (tgt := 16) hx hb dX9_isSmall_9 (by decide) (fun k_2 => ?_) (fun k_2 => ?_)
    · have tk_2 := c_gt (a := i0.toInt) (b := 122) rfl (by decide) k_2
      refine lv_iconst (v := 0) hx hb dX9_isSmall_16 (by decide) ?_
      exact W.zret hx hb hr rfl (fun t ht hW => ⟨_, rfl, Or.inl rfl, ht⟩) t_nil dX9_isSmall_17
    · have tk_2 := c_ngt (a := i0.toInt) (b := 122) rfl (by decide) k_2
      refine lv_iconst (v := 1) hx hb dX9_isSmall_12 (by decide) ?_
      refine lv_goto (tgt := 17) hx hb dX9_isSmall_13 (by decide) ?_
      exact W.zret hx hb hr rfl (fun t ht hW => ⟨_, rfl, Or.inr rfl, ht⟩) t_nil dX9_isSmall_17
theorem dX6_isSign_0 : decode cX6_isSign 0 = .ok (.iload_n 0, 1) := by decide +kernel
theorem dX6_isSign_1 : decode cX6_isSign 1 = .ok (.bipush 42, 2) := by decide +kernel
theorem dX6_isSign_3 : decode cX6_isSign 3 = .ok (.if_icmp .eq 15, 3) := by decide +kernel
theorem dX6_isSign_6 : decode cX6_isSign 6 = .ok (.iload_n 0, 1) := by decide +kernel
theorem dX6_isSign_7 : decode cX6_isSign 7 = .ok (.bipush 43, 2) := by decide +kernel
theorem dX6_isSign_9 : decode cX6_isSign 9 = .ok (.if_icmp .eq 9, 3) := by decide +kernel
theorem dX6_isSign_12 : decode cX6_isSign 12 = .ok (.iload_n 0, 1) := by decide +kernel
theorem dX6_isSign_13 : decode cX6_isSign 13 = .ok (.bipush 63, 2) := by decide +kernel
theorem dX6_isSign_15 : decode cX6_isSign 15 = .ok (.if_icmp .ne 7, 3) := by decide +kernel
theorem dX6_isSign_18 : decode cX6_isSign 18 = .ok (.iconst 1, 1) := by decide +kernel
theorem dX6_isSign_19 : decode cX6_isSign 19 = .ok (.goto 4, 3) := by decide +kernel
theorem dX6_isSign_22 : decode cX6_isSign 22 = .ok (.iconst 0, 1) := by decide +kernel
theorem dX6_isSign_23 : decode cX6_isSign 23 = .ok (.ireturn, 1) := by decide +kernel
def mwX6_isSign : List Cond := .code yX6_isSign cX6_isSign 1 (some .boolean) :: ([])
set_option maxHeartbeats 4000000 in
set_option maxRecDepth 100000 in
/-- isSign -/
theorem s_isSign (l : Launch) (dC : Nat → ClassId) (dI : Nat → Nat → Nat) (i0 : Int32) : Met l yX6_isSign mwX6_isSign ({ frames := 0, cells := 0, slots := 0, locals := 0 }) (va_Pc [.int i0] (fun _ => True)) (vp_Si (fun o => o = 0 ∨ o = 1)) 0 0 (fun _ => False) := by
  refine Met.ofW (cc := cX6_isSign) (maxL := 1) (ret := (some .boolean)) (by decide +kernel) rfl ?_
  intro p e s m args below meth c s₁ B hml hv
  obtain ⟨rfl, -⟩ := hv
  have hx := B.exec
  have hb := B.bytes
  have hr := B.returns
  have hts := atoms_spec (ws := mwX6_isSign) B.pre
  have hown : s.vm.findClass RX6 = some m.cls := findClass_of_methodNamed B.named
  have hlocks := B.notSynchronized
  have hl := lv_entry ([.int i0]) (n := 1) (Nat.le_of_ble_eq_true rfl)
  rw [lg_entry_eq]
  generalize (lg_sl ([.int i0]) ++ List.replicate (1 - (lg_sl ([.int i0])).length) Slot.unset).toArray = ls at hl ⊢
  have hl : lv_has ls 1 [(0, .int i0)] := hl
  have rg_i0 := i_rng i0
  refine lv_iload_n hx hb dX6_isSign_0 rfl (lv_at hl 0 rfl) ?_
  refine lv_bipush (v := 42) hx hb dX6_isSign_1 (by decide) ?_
  refine lv_icmp_eq (tgt := 18) hx hb dX6_isSign_3 (by decide) (fun k_1 => ?_) (fun k_1 => ?_)
  · have tk_1 := c_eq (a := i0.toInt) (b := 42) rfl (by decide) k_1
    refine lv_iconst (v := 1) hx hb dX6_isSign_18 (by decide) ?_
    refine lv_goto (tgt := 23) hx hb dX6_isSign_19 (by decide) ?_
    exact W.zret hx hb hr rfl (fun t ht hW => ⟨_, rfl, Or.inr rfl, ht⟩) t_nil dX6_isSign_23
  · have tk_1 := c_ne (a := i0.toInt) (b := 42) rfl (by decide) k_1
    refine lv_iload_n hx hb dX6_isSign_6 rfl (lv_at hl 0 rfl) ?_
    refine lv_bipush (v := 43) hx hb dX6_isSign_7 (by decide) ?_
    refine lv_icmp_eq (tgt := 18) hx hb dX6_isSign_9 (by decide) (fun k_2 => ?_) (fun k_2 => ?_)
    · have tk_2 := c_eq (a := i0.toInt) (b := 43) rfl (by decide) k_2
      refine lv_iconst (v := 1) hx hb dX6_isSign_18 (by decide) ?_
      refine lv_goto (tgt := 23) hx hb dX6_isSign_19 (by decide) ?_
      exact W.zret hx hb hr rfl (fun t ht hW => ⟨_, rfl, Or.inr rfl, ht⟩) t_nil dX6_isSign_23
    · have tk_2 := c_ne (a := i0.toInt) (b := 43) rfl (by decide) k_2
      refine lv_iload_n hx hb dX6_isSign_12 rfl (lv_at hl 0 rfl) ?_
      refine lv_bipush (v := 63) hx hb dX6_isSign_13 (by decide) ?_
      refine lv_icmp_ne (tgt := 22) hx hb dX6_isSign_15 (by decide) (fun k_3 => ?_) (fun k_3 => ?_)
      · have tk_3 := c_ne (a := i0.toInt) (b := 63) rfl (by decide) k_3
        refine lv_iconst (v := 0) hx hb dX6_isSign_22 (by decide) ?_
        exact W.zret hx hb hr rfl (fun t ht hW => ⟨_, rfl, Or.inl rfl, ht⟩) t_nil dX6_isSign_23
      · have tk_3 := c_eq (a := i0.toInt) (b := 63) rfl (by decide) k_3
        refine lv_iconst (v := 1) hx hb dX6_isSign_18 (by decide) ?_
        refine lv_goto (tgt := 23) hx hb dX6_isSign_19 (by decide) ?_
        exact W.zret hx hb hr rfl (fun t ht hW => ⟨_, rfl, Or.inr rfl, ht⟩) t_nil dX6_isSign_23
theorem dX10_isFrom_0 : decode cX10_isFrom 0 = .ok (.iload_n 0, 1) := by decide +kernel
theorem dX10_isFrom_1 : decode cX10_isFrom 1 = .ok (.iload_n 1, 1) := by decide +kernel
theorem dX10_isFrom_2 : decode cX10_isFrom 2 = .ok (.if_icmp .lt 12, 3) := by decide +kernel
theorem dX10_isFrom_5 : decode cX10_isFrom 5 = .ok (.iload_n 0, 1) := by decide +kernel
theorem dX10_isFrom_6 : decode cX10_isFrom 6 = .ok (.iload_n 2, 1) := by decide +kernel
theorem dX10_isFrom_7 : decode cX10_isFrom 7 = .ok (.if_icmp .gt 7, 3) := by decide +kernel
theorem dX10_isFrom_10 : decode cX10_isFrom 10 = .ok (.iconst 1, 1) := by decide +kernel
theorem dX10_isFrom_11 : decode cX10_isFrom 11 = .ok (.goto 4, 3) := by decide +kernel
theorem dX10_isFrom_14 : decode cX10_isFrom 14 = .ok (.iconst 0, 1) := by decide +kernel
theorem dX10_isFrom_15 : decode cX10_isFrom 15 = .ok (.ireturn, 1) := by decide +kernel
def mwX10_isFrom : List Cond := .code yX10_isFrom cX10_isFrom 3 (some .boolean) :: ([])
set_option maxHeartbeats 4000000 in
set_option maxRecDepth 100000 in
/-- mIsFrom -/
theorem s_mIsFrom (l : Launch) (dC : Nat → ClassId) (dI : Nat → Nat → Nat) (i0 i1 i2 : Int32) : Met l yX10_isFrom mwX10_isFrom ({ frames := 0, cells := 0, slots := 0, locals := 0 }) (va_Pc [.int i0, .int i1, .int i2] (fun _ => True)) (vp_Si (fun o => o = 0 ∨ o = 1)) 0 0 (fun _ => False) := by
  refine Met.ofW (cc := cX10_isFrom) (maxL := 3) (ret := (some .boolean)) (by decide +kernel) rfl ?_
  intro p e s m args below meth c s₁ B hml hv
  obtain ⟨rfl, -⟩ := hv
  have hx := B.exec
  have hb := B.bytes
  have hr := B.returns
  have hts := atoms_spec (ws := mwX10_isFrom) B.pre
  have hown : s.vm.findClass RX10 = some m.cls := findClass_of_methodNamed B.named
  have hlocks := B.notSynchronized
  have hl := lv_entry ([.int i0, .int i1, .int i2]) (n := 3) (Nat.le_of_ble_eq_true rfl)
  rw [lg_entry_eq]
  generalize (lg_sl ([.int i0, .int i1, .int i2]) ++ List.replicate (3 - (lg_sl ([.int i0, .int i1, .int i2])).length) Slot.unset).toArray = ls at hl ⊢
  have hl : lv_has ls 3 [(0, .int i0), (1, .int i1), (2, .int i2)] := hl
  have rg_i0 := i_rng i0
  have rg_i1 := i_rng i1
  have rg_i2 := i_rng i2
  refine lv_iload_n hx hb dX10_isFrom_0 rfl (lv_at hl 0 rfl) ?_
  refine lv_iload_n hx hb dX10_isFrom_1 rfl (lv_at hl 1 rfl) ?_
  refine lv_icmp_lt (tgt := 14) hx hb dX10_isFrom_2 (by decide) (fun k_1 => ?_) (fun k_1 => ?_)
  · have tk_1 := c_lt (a := i0.toInt) (b := i1.toInt) rfl rfl k_1
    refine lv_iconst (v := 0) hx hb dX10_isFrom_14 (by decide) ?_
    exact W.zret hx hb hr rfl (fun t ht hW => ⟨_, rfl, Or.inl rfl, ht⟩) t_nil dX10_isFrom_15
  · have tk_1 := c_nlt (a := i0.toInt) (b := i1.toInt) rfl rfl k_1
    refine lv_iload_n hx hb dX10_isFrom_5 rfl (lv_at hl 0 rfl) ?_
    refine lv_iload_n hx hb dX10_isFrom_6 rfl (lv_at hl 2 rfl) ?_
    refine lv_icmp_gt (tgt := 14) hx hb dX10_isFrom_7 (by decide) (fun k_2 => ?_) (fun k_2 => ?_)
    · have tk_2 := c_gt (a := i0.toInt) (b := i2.toInt) rfl rfl k_2
      refine lv_iconst (v := 0) hx hb dX10_isFrom_14 (by decide) ?_
      exact W.zret hx hb hr rfl (fun t ht hW => ⟨_, rfl, Or.inl rfl, ht⟩) t_nil dX10_isFrom_15
    · have tk_2 := c_ngt (a := i0.toInt) (b := i2.toInt) rfl rfl k_2
      refine lv_iconst (v := 1) hx hb dX10_isFrom_10 (by decide) ?_
      refine lv_goto (tgt := 15) hx hb dX10_isFrom_11 (by decide) ?_
      exact W.zret hx hb hr rfl (fun t ht hW => ⟨_, rfl, Or.inr rfl, ht⟩) t_nil dX10_isFrom_15
theorem dX10_isSmall_0 : decode cX10_isSmall 0 = .ok (.iload_n 0, 1) := by decide +kernel
theorem dX10_isSmall_1 : decode cX10_isSmall 1 = .ok (.bipush 97, 2) := by decide +kernel
theorem dX10_isSmall_3 : decode cX10_isSmall 3 = .ok (.if_icmp .lt 13, 3) := by decide +kernel
theorem dX10_isSmall_6 : decode cX10_isSmall 6 = .ok (.iload_n 0, 1) := by decide +kernel
theorem dX10_isSmall_7 : decode cX10_isSmall 7 = .ok (.bipush 122, 2) := by decide +kernel
theorem dX10_isSmall_9 : decode cX10_isSmall 9 = .ok (.if_icmp .gt 7, 3) := by decide +kernel
theorem dX10_isSmall_12 : decode cX10_isSmall 12 = .ok (.iconst 1, 1) := by decide +kernel
theorem dX10_isSmall_13 : decode cX10_isSmall 13 = .ok (.goto 4, 3) := by decide +kernel
theorem dX10_isSmall_16 : decode cX10_isSmall 16 = .ok (.iconst 0, 1) := by decide +kernel
theorem dX10_isSmall_17 : decode cX10_isSmall 17 = .ok (.ireturn, 1) := by decide +kernel
def mwX10_isSmall : List Cond := .code yX10_isSmall cX10_isSmall 1 (some .boolean) :: ([])
set_option maxHeartbeats 4000000 in
set_option maxRecDepth 100000 in
/-- mIsSmall -/
theorem s_mIsSmall (l : Launch) (dC : Nat → ClassId) (dI : Nat → Nat → Nat) (i0 : Int32) : Met l yX10_isSmall mwX10_isSmall ({ frames := 0, cells := 0, slots := 0, locals := 0 }) (va_Pc [.int i0] (fun _ => True)) (vp_Si (fun o => o = 0 ∨ o = 1)) 0 0 (fun _ => False) := by
  refine Met.ofW (cc := cX10_isSmall) (maxL := 1) (ret := (some .boolean)) (by decide +kernel) rfl ?_
  intro p e s m args below meth c s₁ B hml hv
  obtain ⟨rfl, -⟩ := hv
  have hx := B.exec
  have hb := B.bytes
  have hr := B.returns
  have hts := atoms_spec (ws := mwX10_isSmall) B.pre
  have hown : s.vm.findClass RX10 = some m.cls := findClass_of_methodNamed B.named
  have hlocks := B.notSynchronized
  have hl := lv_entry ([.int i0]) (n := 1) (Nat.le_of_ble_eq_true rfl)
  rw [lg_entry_eq]
  generalize (lg_sl ([.int i0]) ++ List.replicate (1 - (lg_sl ([.int i0])).length) Slot.unset).toArray = ls at hl ⊢
  have hl : lv_has ls 1 [(0, .int i0)] := hl
  have rg_i0 := i_rng i0
  refine lv_iload_n hx hb dX10_isSmall_0 rfl (lv_at hl 0 rfl) ?_
  refine lv_bipush (v := 97) hx hb dX10_isSmall_1 (by decide) ?_
  refine lv_icmp_lt (tgt := 16) hx hb dX10_isSmall_3 (by decide) (fun k_1 => ?_) (fun k_1 => ?_)
  · have tk_1 := c_lt (a := i0.toInt) (b := 97) rfl (by decide) k_1
    refine lv_iconst (v := 0) hx hb dX10_isSmall_16 (by decide) ?_
    exact W.zret hx hb hr rfl (fun t ht hW => ⟨_, rfl, Or.inl rfl, ht⟩) t_nil dX10_isSmall_17
  · have tk_1 := c_nlt (a := i0.toInt) (b := 97) rfl (by decide) k_1
    refine lv_iload_n hx hb dX10_isSmall_6 rfl (lv_at hl 0 rfl) ?_
    refine lv_bipush (v := 122) hx hb dX10_isSmall_7 (by decide) ?_
    refine lv_icmp_gt (tgt := 16) hx hb dX10_isSmall_9 (by decide) (fun k_2 => ?_) (fun k_2 => ?_)
    · have tk_2 := c_gt (a := i0.toInt) (b := 122) rfl (by decide) k_2
      refine lv_iconst (v := 0) hx hb dX10_isSmall_16 (by decide) ?_
      exact W.zret hx hb hr rfl (fun t ht hW => ⟨_, rfl, Or.inl rfl, ht⟩) t_nil dX10_isSmall_17
    · have tk_2 := c_ngt (a := i0.toInt) (b := 122) rfl (by decide) k_2
      refine lv_iconst (v := 1) hx hb dX10_isSmall_12 (by decide) ?_
      refine lv_goto (tgt := 17) hx hb dX10_isSmall_13 (by decide) ?_
      exact W.zret hx hb hr rfl (fun t ht hW => ⟨_, rfl, Or.inr rfl, ht⟩) t_nil dX10_isSmall_17
theorem dJ7_fill_53178_0 : decode cJ7_fill_53178 0 = .ok (.iconst 0, 1) := by decide +kernel
theorem dJ7_fill_53178_1 : decode cJ7_fill_53178 1 = .ok (.istore_n 2, 1) := by decide +kernel
theorem dJ7_fill_53178_2 : decode cJ7_fill_53178 2 = .ok (.aload_n 0, 1) := by decide +kernel
theorem dJ7_fill_53178_3 : decode cJ7_fill_53178 3 = .ok (.arraylength, 1) := by decide +kernel
theorem dJ7_fill_53178_4 : decode cJ7_fill_53178 4 = .ok (.istore_n 3, 1) := by decide +kernel
theorem dJ7_fill_53178_5 : decode cJ7_fill_53178 5 = .ok (.iload_n 2, 1) := by decide +kernel
theorem dJ7_fill_53178_6 : decode cJ7_fill_53178 6 = .ok (.iload_n 3, 1) := by decide +kernel
theorem dJ7_fill_53178_7 : decode cJ7_fill_53178 7 = .ok (.if_icmp .ge 13, 3) := by decide +kernel
theorem dJ7_fill_53178_10 : decode cJ7_fill_53178 10 = .ok (.aload_n 0, 1) := by decide +kernel
theorem dJ7_fill_53178_11 : decode cJ7_fill_53178 11 = .ok (.iload_n 2, 1) := by decide +kernel
theorem dJ7_fill_53178_12 : decode cJ7_fill_53178 12 = .ok (.iload_n 1, 1) := by decide +kernel
theorem dJ7_fill_53178_13 : decode cJ7_fill_53178 13 = .ok (.iastore, 1) := by decide +kernel
theorem dJ7_fill_53178_14 : decode cJ7_fill_53178 14 = .ok (.iinc 2 1, 3) := by decide +kernel
theorem dJ7_fill_53178_17 : decode cJ7_fill_53178 17 = .ok (.goto (-12), 3) := by decide +kernel
theorem dJ7_fill_53178_20 : decode cJ7_fill_53178 20 = .ok (.return_, 1) := by decide +kernel
def mwJ7_fill_53178 : List Cond := .code yJ7_fill_53178 cJ7_fill_53178 4 none :: ([])
set_option maxHeartbeats 4000000 in
set_option maxRecDepth 100000 in
/-- Arrays.fill -/
theorem s_fill (l : Launch) (dC : Nat → ClassId) (dI : Nat → Nat → Nat) (ia n : Nat) (cI : ClassId) (f : Nat → Int32) (sz : Nat) (v9 : Int32) (hn : n ≤ 100000) : Met l yJ7_fill_53178 mwJ7_fill_53178 ({ frames := 0, cells := 0, slots := 0, locals := 0 }) (va_Pc [.ref ia, .int v9] (fun U => U.heap.size = sz ∧ va_P (dC, dI) vwCl ([(ia, .inl (cI, n, .inl f))]) U.heap ∧ va_K (dC, dI) vwCl ([(cI, .int)]) U ∧ va_D (fun _ => True) ([(ia, .inl (cI, n, .inl f))]))) (va_Qv (fun (_ : Unit) => True) (fun _ t => ∃ f9 : Nat → Int32, va_P (dC, dI) vwCl [(ia, .inl (cI, n, .inl f9))] t.heap ∧ va_K (dC, dI) vwCl [(cI, .int)] t ∧ va_D (va_A ([(ia, .inl (cI, n, .inl f))]) sz) [(ia, .inl (cI, n, .inl f9))]) (va_A ([(ia, .inl (cI, n, .inl f))]) sz)) 0 0 (va_A ([(ia, .inl (cI, n, .inl f))]) sz) := by
  refine Met.ofW (cc := cJ7_fill_53178) (maxL := 4) (ret := none) (by decide +kernel) rfl ?_
  intro p e s m args below meth c s₁ B hml hv
  obtain ⟨rfl, hsz, hP, hK, hD0⟩ := hv
  have hx := B.exec
  have hb := B.bytes
  have hr := B.returns
  have hts := atoms_spec (ws := mwJ7_fill_53178) B.pre
  have hown : s.vm.findClass RJ7 = some m.cls := findClass_of_methodNamed B.named
  have hlocks := B.notSynchronized
  subst hsz
  have hD := hD0.self (sz := s.heap.size)
  generalize hAe : va_A ([(ia, .inl (cI, n, .inl f))]) s.heap.size = A at hD ⊢
  have hA : ∀ q : Nat, s.heap.size ≤ q → A q := fun q h => by rw [← hAe]; exact Or.inr h
  have hP : va_P (dC, dI) vwCl [(ia, .inl (cI, n, .inl f))] s.heap := hP
  have hD : va_D A [(ia, .inl (cI, n, .inl f))] := hD
  have hK : va_K (dC, dI) vwCl [(cI, .int)] s := hK
  generalize hH : s.heap = H at hP ⊢
  have hS : va_S A s.heap H [] := by rw [← hH]; exact va_S.rf
  have hl := lv_entry ([.ref ia, .int v9]) (n := 4) (Nat.le_of_ble_eq_true rfl)
  rw [lg_entry_eq]
  generalize (lg_sl ([.ref ia, .int v9]) ++ List.replicate (4 - (lg_sl ([.ref ia, .int v9])).length) Slot.unset).toArray = ls at hl ⊢
  have hl : lv_has ls 4 [(0, .ref ia), (1, .int v9)] := hl
  have rg_v9 := i_rng v9
  refine lv_iconst (v := 0) hx hb dJ7_fill_53178_0 (by decide) ?_
  refine lv_istore_n (lv' := [(2, .int 0), (0, .ref ia), (1, .int v9)]) hx hb dJ7_fill_53178_1 rfl hl (by decide) rfl (fun ls hl => ?_)
  refine lv_aload_n hx hb dJ7_fill_53178_2 rfl (lv_at hl 1 rfl) ?_
  refine va_alen hx hb hK hP 0 0 rfl rfl rfl dJ7_fill_53178_3 ?_
  refine lv_topi (fun y_1 ey_1 => ?_)
  have ty_1 : y_1.toInt = (n : Int) := i_len ey_1 (by omega)
  refine lv_istore_n (lv' := [(3, .int y_1), (2, .int 0), (0, .ref ia), (1, .int v9)]) hx hb dJ7_fill_53178_4 rfl hl (by decide) rfl (fun ls hl => ?_)
  have loop5 : ∀ (n_5 : Nat) (ii : Int32) (ga : Nat → Int32), (0 ≤ ii.toInt) → (((n : Int) - ii.toInt).toNat) < n_5 → ∀ (H : Heap) (locs : List Loc) (ls : Array Slot), va_P (dC, dI) vwCl [(ia, .inl (cI, n, .inl ga))] H → va_D A [(ia, .inl (cI, n, .inl ga))] → va_S A s.heap H locs → lv_has ls 4 [(3, .int y_1), (2, .int ii), (0, .ref ia), (1, .int v9)] → W p l e (headSpec mwJ7_fill_53178 ({ frames := 0, cells := 0, slots := 0, locals := 0 })).room s m ([.ref ia, .int v9]).toArray below meth c H locs 0 0 (MQ below (va_Qv (fun (_ : Unit) => True) (fun _ t => ∃ f9 : Nat → Int32, va_P (dC, dI) vwCl [(ia, .inl (cI, n, .inl f9))] t.heap ∧ va_K (dC, dI) vwCl [(cI, .int)] t ∧ va_D A [(ia, .inl (cI, n, .inl f9))]) A) ([.ref ia, .int v9]).toArray s 0 0 A) (F0 m 5 ls []) := by
    intro n_5
    induction n_5 with
    | zero => intro ii ga v5_0 hm5; exact absurd hm5 (Nat.not_lt_zero _)
    | succ n_5 ih5 =>
      intro ii ga v5_0 hm5 H locs ls hP hD hS hl
      have rg_ii := i_rng ii
      refine lv_iload_n hx hb dJ7_fill_53178_5 rfl (lv_at hl 1 rfl) ?_
      refine lv_iload_n hx hb dJ7_fill_53178_6 rfl (lv_at hl 0 rfl) ?_
      refine lv_icmp_ge (tgt := 20) hx hb dJ7_fill_53178_7 (by decide) (fun k_2 => ?_) (fun k_2 => ?_)
      · have tk_2 := c_ge (a := ii.toInt) (b := y_1.toInt) rfl rfl k_2
        have hP9 := hP.sub (ws' := [(ia, .inl (cI, n, .inl ga))]) [0] rfl
        have hD9 := hD.sub (ws' := [(ia, .inl (cI, n, .inl ga))]) [0] (by decide) rfl
        have hK9 := hK.sub (tys' := [(cI, .int)]) [0] rfl
        exact W.vret hx hb hr (fun t ht hW => ⟨⟨(), rfl, trivial, ga, by rw [ht]; exact hP9, va_K.moved hW.alike hK9, hD9⟩, hS.F ht⟩) hS.2.2 dJ7_fill_53178_20
      · have tk_2 := c_nge (a := ii.toInt) (b := y_1.toInt) rfl rfl k_2
        refine lv_aload_n hx hb dJ7_fill_53178_10 rfl (lv_at hl 2 rfl) ?_
        refine lv_iload_n hx hb dJ7_fill_53178_11 rfl (lv_at hl 1 rfl) ?_
        refine lv_iload_n hx hb dJ7_fill_53178_12 rfl (lv_at hl 3 rfl) ?_
        refine va_iast hx hb hK hP hD hS 0 0 rfl rfl (i := ii) (vp_of (a := ii.toInt) rfl (by omega) (by omega)) dJ7_fill_53178_13 (fun H locs hP hD hS => ?_)
        generalize hf_f_3 : upd ga _ _ = f_3 at hP hD
        have hP : va_P (dC, dI) vwCl [(ia, .inl (cI, n, .inl f_3))] H := hP
        have hD : va_D A [(ia, .inl (cI, n, .inl f_3))] := hD
        obtain ⟨y_4, ey_4⟩ : ∃ y : Int32, y = ii + 1 := ⟨_, rfl⟩
        first | have ty_4 := i_add (a := ii.toInt) (b := 1) rfl (by decide) ey_4 (by omega) (by omega) | skip
        refine lv_iinc (v := y_4) (lv' := [(2, .int y_4), (3, .int y_1), (0, .ref ia), (1, .int v9)]) hx hb dJ7_fill_53178_14 hl (k := 1) rfl (by rw [ey_4]; rfl) (by decide) rfl (fun ls hl => ?_)
        refine lv_goto (tgt := 5) hx hb dJ7_fill_53178_17 (by decide) ?_
        exact ih5 y_4 f_3 (by first | omega | decide | assumption) (by omega) _ _ ls hP hD hS (lv_sub hl [1, 0, 2, 3] rfl)
  have lit_4 : (0 : Int32).toInt = 0 := by decide
  exact loop5 _ 0 f (by first | omega | decide | assumption) (Nat.lt_succ_self _) _ _ ls hP hD hS (lv_sub hl [0, 1, 2, 3] rfl)

theorem dJ6_numberOfTrailingZeros_0f7a4_0 : decode cJ6_numberOfTrailingZeros_0f7a4 0 = .ok (.iload_n 0, 1) := by decide +kernel
theorem dJ6_numberOfTrailingZeros_0f7a4_1 : decode cJ6_numberOfTrailingZeros_0f7a4 1 = .ok (.iconst (-1), 1) := by decide +kernel
theorem dJ6_numberOfTrailingZeros_0f7a4_2 : decode cJ6_numberOfTrailingZeros_0f7a4 2 = .ok (.ixor, 1) := by decide +kernel
theorem dJ6_numberOfTrailingZeros_0f7a4_3 : decode cJ6_numberOfTrailingZeros_0f7a4 3 = .ok (.iload_n 0, 1) := by decide +kernel
theorem dJ6_numberOfTrailingZeros_0f7a4_4 : decode cJ6_numberOfTrailingZeros_0f7a4 4 = .ok (.iconst 1, 1) := by decide +kernel
theorem dJ6_numberOfTrailingZeros_0f7a4_5 : decode cJ6_numberOfTrailingZeros_0f7a4 5 = .ok (.isub, 1) := by decide +kernel
theorem dJ6_numberOfTrailingZeros_0f7a4_6 : decode cJ6_numberOfTrailingZeros_0f7a4 6 = .ok (.iand, 1) := by decide +kernel
theorem dJ6_numberOfTrailingZeros_0f7a4_7 : decode cJ6_numberOfTrailingZeros_0f7a4 7 = .ok (.istore_n 0, 1) := by decide +kernel
theorem dJ6_numberOfTrailingZeros_0f7a4_8 : decode cJ6_numberOfTrailingZeros_0f7a4 8 = .ok (.iload_n 0, 1) := by decide +kernel
theorem dJ6_numberOfTrailingZeros_0f7a4_9 : decode cJ6_numberOfTrailingZeros_0f7a4 9 = .ok (.ifCond .gt 8, 3) := by decide +kernel
theorem dJ6_numberOfTrailingZeros_0f7a4_12 : decode cJ6_numberOfTrailingZeros_0f7a4 12 = .ok (.iload_n 0, 1) := by decide +kernel
theorem dJ6_numberOfTrailingZeros_0f7a4_13 : decode cJ6_numberOfTrailingZeros_0f7a4 13 = .ok (.bipush 32, 2) := by decide +kernel
theorem dJ6_numberOfTrailingZeros_0f7a4_15 : decode cJ6_numberOfTrailingZeros_0f7a4 15 = .ok (.iand, 1) := by decide +kernel
theorem dJ6_numberOfTrailingZeros_0f7a4_16 : decode cJ6_numberOfTrailingZeros_0f7a4 16 = .ok (.ireturn, 1) := by decide +kernel
theorem dJ6_numberOfTrailingZeros_0f7a4_17 : decode cJ6_numberOfTrailingZeros_0f7a4 17 = .ok (.iconst 1, 1) := by decide +kernel
theorem dJ6_numberOfTrailingZeros_0f7a4_18 : decode cJ6_numberOfTrailingZeros_0f7a4 18 = .ok (.istore_n 1, 1) := by decide +kernel
theorem dJ6_numberOfTrailingZeros_0f7a4_19 : decode cJ6_numberOfTrailingZeros_0f7a4 19 = .ok (.iload_n 0, 1) := by decide +kernel
theorem dJ6_numberOfTrailingZeros_0f7a4_20 : decode cJ6_numberOfTrailingZeros_0f7a4 20 = .ok (.ldc_w 264, 3) := by decide +kernel
theorem dJ6_numberOfTrailingZeros_0f7a4_23 : decode cJ6_numberOfTrailingZeros_0f7a4 23 = .ok (.if_icmp .le 11, 3) := by decide +kernel
theorem dJ6_numberOfTrailingZeros_0f7a4_26 : decode cJ6_numberOfTrailingZeros_0f7a4 26 = .ok (.iinc 1 16, 3) := by decide +kernel
theorem dJ6_numberOfTrailingZeros_0f7a4_29 : decode cJ6_numberOfTrailingZeros_0f7a4 29 = .ok (.iload_n 0, 1) := by decide +kernel
theorem dJ6_numberOfTrailingZeros_0f7a4_30 : decode cJ6_numberOfTrailingZeros_0f7a4 30 = .ok (.bipush 16, 2) := by decide +kernel
theorem dJ6_numberOfTrailingZeros_0f7a4_32 : decode cJ6_numberOfTrailingZeros_0f7a4 32 = .ok (.iushr, 1) := by decide +kernel
theorem dJ6_numberOfTrailingZeros_0f7a4_33 : decode cJ6_numberOfTrailingZeros_0f7a4 33 = .ok (.istore_n 0, 1) := by decide +kernel
theorem dJ6_numberOfTrailingZeros_0f7a4_34 : decode cJ6_numberOfTrailingZeros_0f7a4 34 = .ok (.iload_n 0, 1) := by decide +kernel
theorem dJ6_numberOfTrailingZeros_0f7a4_35 : decode cJ6_numberOfTrailingZeros_0f7a4 35 = .ok (.sipush 256, 3) := by decide +kernel
theorem dJ6_numberOfTrailingZeros_0f7a4_38 : decode cJ6_numberOfTrailingZeros_0f7a4 38 = .ok (.if_icmp .le 11, 3) := by decide +kernel
theorem dJ6_numberOfTrailingZeros_0f7a4_41 : decode cJ6_numberOfTrailingZeros_0f7a4 41 = .ok (.iinc 1 8, 3) := by decide +kernel
theorem dJ6_numberOfTrailingZeros_0f7a4_44 : decode cJ6_numberOfTrailingZeros_0f7a4 44 = .ok (.iload_n 0, 1) := by decide +kernel
theorem dJ6_numberOfTrailingZeros_0f7a4_45 : decode cJ6_numberOfTrailingZeros_0f7a4 45 = .ok (.bipush 8, 2) := by decide +kernel
theorem dJ6_numberOfTrailingZeros_0f7a4_47 : decode cJ6_numberOfTrailingZeros_0f7a4 47 = .ok (.iushr, 1) := by decide +kernel
theorem dJ6_numberOfTrailingZeros_0f7a4_48 : decode cJ6_numberOfTrailingZeros_0f7a4 48 = .ok (.istore_n 0, 1) := by decide +kernel
theorem dJ6_numberOfTrailingZeros_0f7a4_49 : decode cJ6_numberOfTrailingZeros_0f7a4 49 = .ok (.iload_n 0, 1) := by decide +kernel
theorem dJ6_numberOfTrailingZeros_0f7a4_50 : decode cJ6_numberOfTrailingZeros_0f7a4 50 = .ok (.bipush 16, 2) := by decide +kernel
theorem dJ6_numberOfTrailingZeros_0f7a4_52 : decode cJ6_numberOfTrailingZeros_0f7a4 52 = .ok (.if_icmp .le 10, 3) := by decide +kernel
theorem dJ6_numberOfTrailingZeros_0f7a4_55 : decode cJ6_numberOfTrailingZeros_0f7a4 55 = .ok (.iinc 1 4, 3) := by decide +kernel
theorem dJ6_numberOfTrailingZeros_0f7a4_58 : decode cJ6_numberOfTrailingZeros_0f7a4 58 = .ok (.iload_n 0, 1) := by decide +kernel
theorem dJ6_numberOfTrailingZeros_0f7a4_59 : decode cJ6_numberOfTrailingZeros_0f7a4 59 = .ok (.iconst 4, 1) := by decide +kernel
theorem dJ6_numberOfTrailingZeros_0f7a4_60 : decode cJ6_numberOfTrailingZeros_0f7a4 60 = .ok (.iushr, 1) := by decide +kernel
theorem dJ6_numberOfTrailingZeros_0f7a4_61 : decode cJ6_numberOfTrailingZeros_0f7a4 61 = .ok (.istore_n 0, 1) := by decide +kernel
theorem dJ6_numberOfTrailingZeros_0f7a4_62 : decode cJ6_numberOfTrailingZeros_0f7a4 62 = .ok (.iload_n 0, 1) := by decide +kernel
theorem dJ6_numberOfTrailingZeros_0f7a4_63 : decode cJ6_numberOfTrailingZeros_0f7a4 63 = .ok (.iconst 4, 1) := by decide +kernel
theorem dJ6_numberOfTrailingZeros_0f7a4_64 : decode cJ6_numberOfTrailingZeros_0f7a4 64 = .ok (.if_icmp .le 10, 3) := by decide +kernel
theorem dJ6_numberOfTrailingZeros_0f7a4_67 : decode cJ6_numberOfTrailingZeros_0f7a4 67 = .ok (.iinc 1 2, 3) := by decide +kernel
theorem dJ6_numberOfTrailingZeros_0f7a4_70 : decode cJ6_numberOfTrailingZeros_0f7a4 70 = .ok (.iload_n 0, 1) := by decide +kernel
theorem dJ6_numberOfTrailingZeros_0f7a4_71 : decode cJ6_numberOfTrailingZeros_0f7a4 71 = .ok (.iconst 2, 1) := by decide +kernel
theorem dJ6_numberOfTrailingZeros_0f7a4_72 : decode cJ6_numberOfTrailingZeros_0f7a4 72 = .ok (.iushr, 1) := by decide +kernel
theorem dJ6_numberOfTrailingZeros_0f7a4_73 : decode cJ6_numberOfTrailingZeros_0f7a4 73 = .ok (.istore_n 0, 1) := by decide +kernel
theorem dJ6_numberOfTrailingZeros_0f7a4_74 : decode cJ6_numberOfTrailingZeros_0f7a4 74 = .ok (.iload_n 1, 1) := by decide +kernel
theorem dJ6_numberOfTrailingZeros_0f7a4_75 : decode cJ6_numberOfTrailingZeros_0f7a4 75 = .ok (.iload_n 0, 1) := by decide +kernel
theorem dJ6_numberOfTrailingZeros_0f7a4_76 : decode cJ6_numberOfTrailingZeros_0f7a4 76 = .ok (.iconst 1, 1) := by decide +kernel
theorem dJ6_numberOfTrailingZeros_0f7a4_77 : decode cJ6_numberOfTrailingZeros_0f7a4 77 = .ok (.iushr, 1) := by decide +kernel
theorem dJ6_numberOfTrailingZeros_0f7a4_78 : decode cJ6_numberOfTrailingZeros_0f7a4 78 = .ok (.iadd, 1) := by decide +kernel
theorem dJ6_numberOfTrailingZeros_0f7a4_79 : decode cJ6_numberOfTrailingZeros_0f7a4 79 = .ok (.ireturn, 1) := by decide +kernel
def mwJ6_numberOfTrailingZeros_0f7a4 : List Cond := .code yJ6_numberOfTrailingZeros_0f7a4 cJ6_numberOfTrailingZeros_0f7a4 2 (some .int) :: ([.constant RJ6 264 (65536)])
set_option maxHeartbeats 4000000 in
set_option maxRecDepth 100000 in
/-- Integer.numberOfTrailingZeros: no less than 0 -/
theorem s_ntz (l : Launch) (dC : Nat → ClassId) (dI : Nat → Nat → Nat) (i : Int32) : Met l yJ6_numberOfTrailingZeros_0f7a4 mwJ6_numberOfTrailingZeros_0f7a4 ({ frames := 0, cells := 0, slots := 0, locals := 0 }) (va_Pc [.int i] (fun _ => True)) (vp_Si (fun o => 0 ≤ o.toInt ∧ o.toInt ≤ 1100000000)) 0 0 (fun _ => False) := by
  refine Met.ofW (cc := cJ6_numberOfTrailingZeros_0f7a4) (maxL := 2) (ret := (some .int)) (by decide +kernel) rfl ?_
  intro p e s m args below meth c s₁ B hml hv
  obtain ⟨rfl, -⟩ := hv
  have hx := B.exec
  have hb := B.bytes
  have hr := B.returns
  have hts := atoms_spec (ws := mwJ6_numberOfTrailingZeros_0f7a4) B.pre
  have hown : s.vm.findClass RJ6 = some m.cls := findClass_of_methodNamed B.named
  have hlocks := B.notSynchronized
  have hl := lv_entry ([.int i]) (n := 2) (Nat.le_of_ble_eq_true rfl)
  rw [lg_entry_eq]
  generalize (lg_sl ([.int i]) ++ List.replicate (2 - (lg_sl ([.int i])).length) Slot.unset).toArray = ls at hl ⊢
  have hl : lv_has ls 2 [(0, .int i)] := hl
  have rg_i := i_rng i
  refine lv_iload_n hx hb dJ6_numberOfTrailingZeros_0f7a4_0 rfl (lv_at hl 0 rfl) ?_
  refine lv_iconst (v := (-1)) hx hb dJ6_numberOfTrailingZeros_0f7a4_1 (by decide) ?_
  refine lv_ixor hx hb dJ6_numberOfTrailingZeros_0f7a4_2 ?_
  refine lv_topi (fun y_1 ey_1 => ?_)
  have rg_y_1 := i_rng y_1
  refine lv_iload_n hx hb dJ6_numberOfTrailingZeros_0f7a4_3 rfl (lv_at hl 0 rfl) ?_
  refine lv_iconst (v := 1) hx hb dJ6_numberOfTrailingZeros_0f7a4_4 (by decide) ?_
  refine lv_isub hx hb dJ6_numberOfTrailingZeros_0f7a4_5 ?_
  refine lv_topi (fun y_2 ey_2 => ?_)
  first | have ty_2 := i_sub (a := i.toInt) (b := 1) rfl (by decide) ey_2 (by omega) (by omega) | skip
  refine lv_iand hx hb dJ6_numberOfTrailingZeros_0f7a4_6 ?_
  refine lv_topi (fun y_3 ey_3 => ?_)
  have rg_y_3 := i_rng y_3
  refine lv_istore_n (lv' := [(0, .int y_3)]) hx hb dJ6_numberOfTrailingZeros_0f7a4_7 rfl hl (by decide) rfl (fun ls hl => ?_)
  refine lv_iload_n hx hb dJ6_numberOfTrailingZeros_0f7a4_8 rfl (lv_at hl 0 rfl) ?_
  refine lv_if_gt (tgt := 17) hx hb dJ6_numberOfTrailingZeros_0f7a4_9 (by decide) (fun k_4 => ?_) (fun k_4 => ?_)
  · have tk_4 := c_gt (a := y_3.toInt) (b := 0) rfl (by decide) k_4
    refine lv_iconst (v := 1) hx hb dJ6_numberOfTrailingZeros_0f7a4_17 (by decide) ?_
    refine lv_istore_n (lv' := [(1, .int 1), (0, .int y_3)]) hx hb dJ6_numberOfTrailingZeros_0f7a4_18 rfl hl (by decide) rfl (fun ls hl => ?_)
    refine lv_iload_n hx hb dJ6_numberOfTrailingZeros_0f7a4_19 rfl (lv_at hl 1 rfl) ?_
    refine lv_ldcw hx hb hown (hts (.constant RJ6 264 (65536)) (List.mem_of_getElem? (i := 1) (by decide +kernel))) dJ6_numberOfTrailingZeros_0f7a4_20 ?_
    refine lv_icmp_le (tgt := 34) hx hb dJ6_numberOfTrailingZeros_0f7a4_23 (by decide) (fun k_5 => ?_) (fun k_5 => ?_)
    · have tk_5 := c_le (a := y_3.toInt) (b := 65536) rfl (by decide) k_5
      refine lv_iload_n hx hb dJ6_numberOfTrailingZeros_0f7a4_34 rfl (lv_at hl 1 rfl) ?_
      refine lv_sipush (v := 256) hx hb dJ6_numberOfTrailingZeros_0f7a4_35 (by decide) ?_
      refine lv_icmp_le (tgt := 49) hx hb dJ6_numberOfTrailingZeros_0f7a4_38 (by decide) (fun k_6 => ?_) (fun k_6 => ?_)
      · have tk_6 := c_le (a := y_3.toInt) (b := 256) rfl (by decide) k_6
        refine lv_iload_n hx hb dJ6_numberOfTrailingZeros_0f7a4_49 rfl (lv_at hl 1 rfl) ?_
        refine lv_bipush (v := 16) hx hb dJ6_numberOfTrailingZeros_0f7a4_50 (by decide) ?_
        refine lv_icmp_le (tgt := 62) hx hb dJ6_numberOfTrailingZeros_0f7a4_52 (by decide) (fun k_7 => ?_) (fun k_7 => ?_)
        · have tk_7 := c_le (a := y_3.toInt) (b := 16) rfl (by decide) k_7
          refine lv_iload_n hx hb dJ6_numberOfTrailingZeros_0f7a4_62 rfl (lv_at hl 1 rfl) ?_
          refine lv_iconst (v := 4) hx hb dJ6_numberOfTrailingZeros_0f7a4_63 (by decide) ?_
          refine lv_icmp_le (tgt := 74) hx hb dJ6_numberOfTrailingZeros_0f7a4_64 (by decide) (fun k_8 => ?_) (fun k_8 => ?_)
          · have tk_8 := c_le (a := y_3.toInt) (b := 4) rfl (by decide) k_8
            refine lv_iload_n hx hb dJ6_numberOfTrailingZeros_0f7a4_74 rfl (lv_at hl 0 rfl) ?_
            refine lv_iload_n hx hb dJ6_numberOfTrailingZeros_0f7a4_75 rfl (lv_at hl 1 rfl) ?_
            refine lv_iconst (v := 1) hx hb dJ6_numberOfTrailingZeros_0f7a4_76 (by decide) ?_
            refine lv_iushr hx hb dJ6_numberOfTrailingZeros_0f7a4_77 rfl ?_
            refine lv_topi (fun y_9 ey_9 => ?_)
            first | have ty_9 : y_9.toInt = y_3.toInt / 2 := i_ush (a := y_3.toInt) (k := 1) rfl (by decide) (by decide) (by omega) ey_9 | skip
            refine lv_iadd hx hb dJ6_numberOfTrailingZeros_0f7a4_78 ?_
            refine lv_topi (fun y_10 ey_10 => ?_)
            first | have ty_10 := i_add (a := 1) (b := y_9.toInt) (by decide) rfl ey_10 (by omega) (by omega) | skip
            exact W.iret hx hb hr (fun t ht hW => ⟨_, rfl, (by first | omega | decide), ht⟩) t_nil dJ6_numberOfTrailingZeros_0f7a4_79
          · have tk_8 := c_nle (a := y_3.toInt) (b := 4) rfl (by decide) k_8
            refine lv_iinc (v := 3) (lv' := [(1, .int 3), (0, .int y_3)]) hx hb dJ6_numberOfTrailingZeros_0f7a4_67 hl (k := 0) rfl (by decide) (by decide) rfl (fun ls hl => ?_)
            refine lv_iload_n hx hb dJ6_numberOfTrailingZeros_0f7a4_70 rfl (lv_at hl 1 rfl) ?_
            refine lv_iconst (v := 2) hx hb dJ6_numberOfTrailingZeros_0f7a4_71 (by decide) ?_
            refine lv_iushr hx hb dJ6_numberOfTrailingZeros_0f7a4_72 rfl ?_
            refine lv_topi (fun y_11 ey_11 => ?_)
            first | have ty_11 : y_11.toInt = y_3.toInt / 4 := i_ush (a := y_3.toInt) (k := 2) rfl (by decide) (by decide) (by omega) ey_11 | skip
            refine lv_istore_n (lv' := [(0, .int y_11), (1, .int 3)]) hx hb dJ6_numberOfTrailingZeros_0f7a4_73 rfl hl (by decide) rfl (fun ls hl => ?_)
            refine lv_iload_n hx hb dJ6_numberOfTrailingZeros_0f7a4_74 rfl (lv_at hl 1 rfl) ?_
            refine lv_iload_n hx hb dJ6_numberOfTrailingZeros_0f7a4_75 rfl (lv_at hl 0 rfl) ?_
            refine lv_iconst (v := 1) hx hb dJ6_numberOfTrailingZeros_0f7a4_76 (by decide) ?_
            refine lv_iushr hx hb dJ6_numberOfTrailingZeros_0f7a4_77 rfl ?_
            refine lv_topi (fun y_12 ey_12 => ?_)
            first | have ty_12 : y_12.toInt = y_11.toInt / 2 := i_ush (a := y_11.toInt) (k := 1) rfl (by decide) (by decide) (by omega) ey_12 | skip
            refine lv_iadd hx hb dJ6_numberOfTrailingZeros_0f7a4_78 ?_
            refine lv_topi (fun y_13 ey_13 => ?_)
            first | have ty_13 := i_add (a := 3) (b := y_12.toInt) (by decide) rfl ey_13 (by omega) (by omega) | skip
            exact W.iret hx hb hr (fun t ht hW => ⟨_, rfl, (by first | omega | decide), ht⟩) t_nil dJ6_numberOfTrailingZeros_0f7a4_79
        · have tk_7 := c_nle (a := y_3.toInt) (b := 16) rfl (by decide) k_7
          refine lv_iinc (v := 5) (lv' := [(1, .int 5), (0, .int y_3)]) hx hb dJ6_numberOfTrailingZeros_0f7a4_55 hl (k := 0) rfl (by decide) (by decide) rfl (fun ls hl => ?_)
          refine lv_iload_n hx hb dJ6_numberOfTrailingZeros_0f7a4_58 rfl (lv_at hl 1 rfl) ?_
          refine lv_iconst (v := 4) hx hb dJ6_numberOfTrailingZeros_0f7a4_59 (by decide) ?_
          refine lv_iushr hx hb dJ6_numberOfTrailingZeros_0f7a4_60 rfl ?_
          refine lv_topi (fun y_14 ey_14 => ?_)
          first | have ty_14 : y_14.toInt = y_3.toInt / 16 := i_ush (a := y_3.toInt) (k := 4) rfl (by decide) (by decide) (by omega) ey_14 | skip
          refine lv_istore_n (lv' := [(0, .int y_14), (1, .int 5)]) hx hb dJ6_numberOfTrailingZeros_0f7a4_61 rfl hl (by decide) rfl (fun ls hl => ?_)
          refine lv_iload_n hx hb dJ6_numberOfTrailingZeros_0f7a4_62 rfl (lv_at hl 0 rfl) ?_
          refine lv_iconst (v := 4) hx hb dJ6_numberOfTrailingZeros_0f7a4_63 (by decide) ?_
          refine lv_icmp_le (tgt := 74) hx hb dJ6_numberOfTrailingZeros_0f7a4_64 (by decide) (fun k_15 => ?_) (fun k_15 => ?_)
          · have tk_15 := c_le (a := y_14.toInt) (b := 4) rfl (by decide) k_15
            refine lv_iload_n hx hb dJ6_numberOfTrailingZeros_0f7a4_74 rfl (lv_at hl 1 rfl) ?_
            refine lv_iload_n hx hb dJ6_numberOfTrailingZeros_0f7a4_75 rfl (lv_at hl 0 rfl) ?_
            refine lv_iconst (v := 1) hx hb dJ6_numberOfTrailingZeros_0f7a4_76 (by decide) ?_
            refine lv_iushr hx hb dJ6_numberOfTrailingZeros_0f7a4_77 rfl ?_
            refine lv_topi (fun y_16 ey_16 => ?_)
            first | have ty_16 : y_16.toInt = y_14.toInt / 2 := i_ush (a := y_14.toInt) (k := 1) rfl (by decide) (by decide) (by omega) ey_16 | skip
            refine lv_iadd hx hb dJ6_numberOfTrailingZeros_0f7a4_78 ?_
            refine lv_topi (fun y_17 ey_17 => ?_)
            first | have ty_17 := i_add (a := 5) (b := y_16.toInt) (by decide) rfl ey_17 (by omega) (by omega) | skip
            exact W.iret hx hb hr (fun t ht hW => ⟨_, rfl, (by first | omega | decide), ht⟩) t_nil dJ6_numberOfTrailingZeros_0f7a4_79
          · have tk_15 := c_nle (a := y_14.toInt) (b := 4) rfl (by decide) k_15
            refine lv_iinc (v := 7) (lv' := [(1, .int 7), (0, .int y_14)]) hx hb dJ6_numberOfTrailingZeros_0f7a4_67 hl (k := 1) rfl (by decide) (by decide) rfl (fun ls hl => ?_)
            refine lv_iload_n hx hb dJ6_numberOfTrailingZeros_0f7a4_70 rfl (lv_at hl 1 rfl) ?_
            refine lv_iconst (v := 2) hx hb dJ6_numberOfTrailingZeros_0f7a4_71 (by decide) ?_
            refine lv_iushr hx hb dJ6_numberOfTrailingZeros_0f7a4_72 rfl ?_
            refine lv_topi (fun y_18 ey_18 => ?_)
            first | have ty_18 : y_18.toInt = y_14.toInt / 4 := i_ush (a := y_14.toInt) (k := 2) rfl (by decide) (by decide) (by omega) ey_18 | skip
            refine lv_istore_n (lv' := [(0, .int y_18), (1, .int 7)]) hx hb dJ6_numberOfTrailingZeros_0f7a4_73 rfl hl (by decide) rfl (fun ls hl => ?_)
            refine lv_iload_n hx hb dJ6_numberOfTrailingZeros_0f7a4_74 rfl (lv_at hl 1 rfl) ?_
            refine lv_iload_n hx hb dJ6_numberOfTrailingZeros_0f7a4_75 rfl (lv_at hl 0 rfl) ?_
            refine lv_iconst (v := 1) hx hb dJ6_numberOfTrailingZeros_0f7a4_76 (by decide) ?_
            refine lv_iushr hx hb dJ6_numberOfTrailingZeros_0f7a4_77 rfl ?_
            refine lv_topi (fun y_19 ey_19 => ?_)
            first | have ty_19 : y_19.toInt = y_18.toInt / 2 := i_ush (a := y_18.toInt) (k := 1) rfl (by decide) (by decide) (by omega) ey_19 | skip
            refine lv_iadd hx hb dJ6_numberOfTrailingZeros_0f7a4_78 ?_
            refine lv_topi (fun y_20 ey_20 => ?_)
            first | have ty_20 := i_add (a := 7) (b := y_19.toInt) (by decide) rfl ey_20 (by omega) (by omega) | skip
            exact W.iret hx hb hr (fun t ht hW => ⟨_, rfl, (by first | omega | decide), ht⟩) t_nil dJ6_numberOfTrailingZeros_0f7a4_79
      · have tk_6 := c_nle (a := y_3.toInt) (b := 256) rfl (by decide) k_6
        refine lv_iinc (v := 9) (lv' := [(1, .int 9), (0, .int y_3)]) hx hb dJ6_numberOfTrailingZeros_0f7a4_41 hl (k := 0) rfl (by decide) (by decide) rfl (fun ls hl => ?_)
        refine lv_iload_n hx hb dJ6_numberOfTrailingZeros_0f7a4_44 rfl (lv_at hl 1 rfl) ?_
        refine lv_bipush (v := 8) hx hb dJ6_numberOfTrailingZeros_0f7a4_45 (by decide) ?_
        refine lv_iushr hx hb dJ6_numberOfTrailingZeros_0f7a4_47 rfl ?_
        refine lv_topi (fun y_21 ey_21 => ?_)
        first | have ty_21 : y_21.toInt = y_3.toInt / 256 := i_ush (a := y_3.toInt) (k := 8) rfl (by decide) (by decide) (by omega) ey_21 | skip
        refine lv_istore_n (lv' := [(0, .int y_21), (1, .int 9)]) hx hb dJ6_numberOfTrailingZeros_0f7a4_48 rfl hl (by decide) rfl (fun ls hl => ?_)
        refine lv_iload_n hx hb dJ6_numberOfTrailingZeros_0f7a4_49 rfl (lv_at hl 0 rfl) ?_
        refine lv_bipush (v := 16) hx hb dJ6_numberOfTrailingZeros_0f7a4_50 (by decide) ?_
        refine lv_icmp_le (tgt := 62) hx hb dJ6_numberOfTrailingZeros_0f7a4_52 (by decide) (fun k_22 => ?_) (fun k_22 => ?_)
        · have tk_22 := c_le (a := y_21.toInt) (b := 16) rfl (by decide) k_22
          refine lv_iload_n hx hb dJ6_numberOfTrailingZeros_0f7a4_62 rfl (lv_at hl 0 rfl) ?_
          refine lv_iconst (v := 4) hx hb dJ6_numberOfTrailingZeros_0f7a4_63 (by decide) ?_
          refine lv_icmp_le (tgt := 74) hx hb dJ6_numberOfTrailingZeros_0f7a4_64 (by decide) (fun k_23 => ?_) (fun k_23 => ?_)
          · have tk_23 := c_le (a := y_21.toInt) (b := 4) rfl (by decide) k_23
            refine lv_iload_n hx hb dJ6_numberOfTrailingZeros_0f7a4_74 rfl (lv_at hl 1 rfl) ?_
            refine lv_iload_n hx hb dJ6_numberOfTrailingZeros_0f7a4_75 rfl (lv_at hl 0 rfl) ?_
            refine lv_iconst (v := 1) hx hb dJ6_numberOfTrailingZeros_0f7a4_76 (by decide) ?_
            refine lv_iushr hx hb dJ6_numberOfTrailingZeros_0f7a4_77 rfl ?_
            refine lv_topi (fun y_24 ey_24 => ?_)
            first | have ty_24 : y_24.toInt = y_21.toInt / 2 := i_ush (a := y_21.toInt) (k := 1) rfl (by decide) (by decide) (by omega) ey_24 | skip
            refine lv_iadd hx hb dJ6_numberOfTrailingZeros_0f7a4_78 ?_
            refine lv_topi (fun y_25 ey_25 => ?_)
            first | have ty_25 := i_add (a := 9) (b := y_24.toInt) (by decide) rfl ey_25 (by omega) (by omega) | skip
            exact W.iret hx hb hr (fun t ht hW => ⟨_, rfl, (by first | omega | decide), ht⟩) t_nil dJ6_numberOfTrailingZeros_0f7a4_79
          · have tk_23 := c_nle (a := y_21.toInt) (b := 4) rfl (by decide) k_23
            refine lv_iinc (v := 11) (lv' := [(1, .int 11), (0, .int y_21)]) hx hb dJ6_numberOfTrailingZeros_0f7a4_67 hl (k := 1) rfl (by decide) (by decide) rfl (fun ls hl => ?_)
            refine lv_iload_n hx hb dJ6_numberOfTrailingZeros_0f7a4_70 rfl (lv_at hl 1 rfl) ?_
            refine lv_iconst (v := 2) hx hb dJ6_numberOfTrailingZeros_0f7a4_71 (by decide) ?_
            refine lv_iushr hx hb dJ6_numberOfTrailingZeros_0f7a4_72 rfl ?_
            refine lv_topi (fun y_26 ey_26 => ?_)
            first | have ty_26 : y_26.toInt = y_21.toInt / 4 := i_ush (a := y_21.toInt) (k := 2) rfl (by decide) (by decide) (by omega) ey_26 | skip
            refine lv_istore_n (lv' := [(0, .int y_26), (1, .int 11)]) hx hb dJ6_numberOfTrailingZeros_0f7a4_73 rfl hl (by decide) rfl (fun ls hl => ?_)
            refine lv_iload_n hx hb dJ6_numberOfTrailingZeros_0f7a4_74 rfl (lv_at hl 1 rfl) ?_
            refine lv_iload_n hx hb dJ6_numberOfTrailingZeros_0f7a4_75 rfl (lv_at hl 0 rfl) ?_
            refine lv_iconst (v := 1) hx hb dJ6_numberOfTrailingZeros_0f7a4_76 (by decide) ?_
            refine lv_iushr hx hb dJ6_numberOfTrailingZeros_0f7a4_77 rfl ?_
            refine lv_topi (fun y_27 ey_27 => ?_)
            first | have ty_27 : y_27.toInt = y_26.toInt / 2 := i_ush (a := y_26.toInt) (k := 1) rfl (by decide) (by decide) (by omega) ey_27 | skip
            refine lv_iadd hx hb dJ6_numberOfTrailingZeros_0f7a4_78 ?_
            refine lv_topi (fun y_28 ey_28 => ?_)
            first | have ty_28 := i_add (a := 11) (b := y_27.toInt) (by decide) rfl ey_28 (by omega) (by omega) | skip
            exact W.iret hx hb hr (fun t ht hW => ⟨_, rfl, (by first | omega | decide), ht⟩) t_nil dJ6_numberOfTrailingZeros_0f7a4_79
        · have tk_22 := c_nle (a := y_21.toInt) (b := 16) rfl (by decide) k_22
          refine lv_iinc (v := 13) (lv' := [(1, .int 13), (0, .int y_21)]) hx hb dJ6_numberOfTrailingZeros_0f7a4_55 hl (k := 1) rfl (by decide) (by decide) rfl (fun ls hl => ?_)
          refine lv_iload_n hx hb dJ6_numberOfTrailingZeros_0f7a4_58 rfl (lv_at hl 1 rfl) ?_
          refine lv_iconst (v := 4) hx hb dJ6_numberOfTrailingZeros_0f7a4_59 (by decide) ?_
          refine lv_iushr hx hb dJ6_numberOfTrailingZeros_0f7a4_60 rfl ?_
          refine lv_topi (fun y_29 ey_29 => ?_)
          first | have ty_29 : y_29.toInt = y_21.toInt / 16 := i_ush (a := y_21.toInt) (k := 4) rfl (by decide) (by decide) (by omega) ey_29 | skip
          refine lv_istore_n (lv' := [(0, .int y_29), (1, .int 13)]) hx hb dJ6_numberOfTrailingZeros_0f7a4_61 rfl hl (by decide) rfl (fun ls hl => ?_)
          refine lv_iload_n hx hb dJ6_numberOfTrailingZeros_0f7a4_62 rfl (lv_at hl 0 rfl) ?_
          refine lv_iconst (v := 4) hx hb dJ6_numberOfTrailingZeros_0f7a4_63 (by decide) ?_
          refine lv_icmp_le (tgt := 74) hx hb dJ6_numberOfTrailingZeros_0f7a4_64 (by decide) (fun k_30 => ?_) (fun k_30 => ?_)
          · have tk_30 := c_le (a := y_29.toInt) (b := 4) rfl (by decide) k_30
            refine lv_iload_n hx hb dJ6_numberOfTrailingZeros_0f7a4_74 rfl (lv_at hl 1 rfl) ?_
            refine lv_iload_n hx hb dJ6_numberOfTrailingZeros_0f7a4_75 rfl (lv_at hl 0 rfl) ?_
            refine lv_iconst (v := 1) hx hb dJ6_numberOfTrailingZeros_0f7a4_76 (by decide) ?_
            refine lv_iushr hx hb dJ6_numberOfTrailingZeros_0f7a4_77 rfl ?_
            refine lv_topi (fun y_31 ey_31 => ?_)
            first | have ty_31 : y_31.toInt = y_29.toInt / 2 := i_ush (a := y_29.toInt) (k := 1) rfl (by decide) (by decide) (by omega) ey_31 | skip
            refine lv_iadd hx hb dJ6_numberOfTrailingZeros_0f7a4_78 ?_
            refine lv_topi (fun y_32 ey_32 => ?_)
            first | have ty_32 := i_add (a := 13) (b := y_31.toInt) (by decide) rfl ey_32 (by omega) (by omega) | skip
            exact W.iret hx hb hr (fun t ht hW => ⟨_, rfl, (by first | omega | decide), ht⟩) t_nil dJ6_numberOfTrailingZeros_0f7a4_79
          · have tk_30 := c_nle (a := y_29.toInt) (b := 4) rfl (by decide) k_30
            refine lv_iinc (v := 15) (lv' := [(1, .int 15), (0, .int y_29)]) hx hb dJ6_numberOfTrailingZeros_0f7a4_67 hl (k := 1) rfl (by decide) (by decide) rfl (fun ls hl => ?_)
            refine lv_iload_n hx hb dJ6_numberOfTrailingZeros_0f7a4_70 rfl (lv_at hl 1 rfl) ?_
            refine lv_iconst (v := 2) hx hb dJ6_numberOfTrailingZeros_0f7a4_71 (by decide) ?_
            refine lv_iushr hx hb dJ6_numberOfTrailingZeros_0f7a4_72 rfl ?_
            refine lv_topi (fun y_33 ey_33 => ?_)
            first | have ty_33 : y_33.toInt = y_29.toInt / 4 := i_ush (a := y_29.toInt) (k := 2) rfl (by decide) (by decide) (by omega) ey_33 | skip
            refine lv_istore_n (lv' := [(0, .int y_33), (1, .int 15)]) hx hb dJ6_numberOfTrailingZeros_0f7a4_73 rfl hl (by decide) rfl (fun ls hl => ?_)
            refine lv_iload_n hx hb dJ6_numberOfTrailingZeros_0f7a4_74 rfl (lv_at hl 1 rfl) ?_
            refine lv_iload_n hx hb dJ6_numberOfTrailingZeros_0f7a4_75 rfl (lv_at hl 0 rfl) ?_
            refine lv_iconst (v := 1) hx hb dJ6_numberOfTrailingZeros_0f7a4_76 (by decide) ?_
            refine lv_iushr hx hb dJ6_numberOfTrailingZeros_0f7a4_77 rfl ?_
            refine lv_topi (fun y_34 ey_34 => ?_)
            first | have ty_34 : y_34.toInt = y_33.toInt / 2 := i_ush (a := y_33.toInt) (k := 1) rfl (by decide) (by decide) (by omega) ey_34 | skip
            refine lv_iadd hx hb dJ6_numberOfTrailingZeros_0f7a4_78 ?_
            refine lv_topi (fun y_35 ey_35 => ?_)
            first | have ty_35 := i_add (a := 15) (b := y_34.toInt) (by decide) rfl ey_35 (by omega) (by omega) | skip
            exact W.iret hx hb hr (fun t ht hW => ⟨_, rfl, (by first | omega | decide), ht⟩) t_nil dJ6_numberOfTrailingZeros_0f7a4_79
    · have tk_5 := c_nle (a := y_3.toInt) (b := 65536) rfl (by decide) k_5
      refine lv_iinc (v := 17) (lv' := [(1, .int 17), (0, .int y_3)]) hx hb dJ6_numberOfTrailingZeros_0f7a4_26 hl (k := 0) rfl (by decide) (by decide) rfl (fun ls hl => ?_)
      refine lv_iload_n hx hb dJ6_numberOfTrailingZeros_0f7a4_29 rfl (lv_at hl 1 rfl) ?_
      refine lv_bipush (v := 16) hx hb dJ6_numberOfTrailingZeros_0f7a4_30 (by decide) ?_
      refine lv_iushr hx hb dJ6_numberOfTrailingZeros_0f7a4_32 rfl ?_
      refine lv_topi (fun y_36 ey_36 => ?_)
      first | have ty_36 : y_36.toInt = y_3.toInt / 65536 := i_ush (a := y_3.toInt) (k := 16) rfl (by decide) (by decide) (by omega) ey_36 | skip
      refine lv_istore_n (lv' := [(0, .int y_36), (1, .int 17)]) hx hb dJ6_numberOfTrailingZeros_0f7a4_33 rfl hl (by decide) rfl (fun ls hl => ?_)
      refine lv_iload_n hx hb dJ6_numberOfTrailingZeros_0f7a4_34 rfl (lv_at hl 0 rfl) ?_
      refine lv_sipush (v := 256) hx hb dJ6_numberOfTrailingZeros_0f7a4_35 (by decide) ?_
      refine lv_icmp_le (tgt := 49) hx hb dJ6_numberOfTrailingZeros_0f7a4_38 (by decide) (fun k_37 => ?_) (fun k_37 => ?_)
      · have tk_37 := c_le (a := y_36.toInt) (b := 256) rfl (by decide) k_37
        refine lv_iload_n hx hb dJ6_numberOfTrailingZeros_0f7a4_49 rfl (lv_at hl 0 rfl) ?_
        refine lv_bipush (v := 16) hx hb dJ6_numberOfTrailingZeros_0f7a4_50 (by decide) ?_
        refine lv_icmp_le (tgt := 62) hx hb dJ6_numberOfTrailingZeros_0f7a4_52 (by decide) (fun k_38 => ?_) (fun k_38 => ?_)
        · have tk_38 := c_le (a := y_36.toInt) (b := 16) rfl (by decide) k_38
          refine lv_iload_n hx hb dJ6_numberOfTrailingZeros_0f7a4_62 rfl (lv_at hl 0 rfl) ?_
          refine lv_iconst (v := 4) hx hb dJ6_numberOfTrailingZeros_0f7a4_63 (by decide) ?_
          refine lv_icmp_le (tgt := 74) hx hb dJ6_numberOfTrailingZeros_0f7a4_64 (by decide) (fun k_39 => ?_) (fun k_39 => ?_)
          · have tk_39 := c_le (a := y_36.toInt) (b := 4) rfl (by decide) k_39
            refine lv_iload_n hx hb dJ6_numberOfTrailingZeros_0f7a4_74 rfl (lv_at hl 1 rfl) ?_
            refine lv_iload_n hx hb dJ6_numberOfTrailingZeros_0f7a4_75 rfl (lv_at hl 0 rfl) ?_
            refine lv_iconst (v := 1) hx hb dJ6_numberOfTrailingZeros_0f7a4_76 (by decide) ?_
            refine lv_iushr hx hb dJ6_numberOfTrailingZeros_0f7a4_77 rfl ?_
            refine lv_topi (fun y_40 ey_40 => ?_)
            first | have ty_40 : y_40.toInt = y_36.toInt / 2 := i_ush (a := y_36.toInt) (k := 1) rfl (by decide) (by decide) (by omega) ey_40 | skip
            refine lv_iadd hx hb dJ6_numberOfTrailingZeros_0f7a4_78 ?_
            refine lv_topi (fun y_41 ey_41 => ?_)
            first | have ty_41 := i_add (a := 17) (b := y_40.toInt) (by decide) rfl ey_41 (by omega) (by omega) | skip
            exact W.iret hx hb hr (fun t ht hW => ⟨_, rfl, (by first | omega | decide), ht⟩) t_nil dJ6_numberOfTrailingZeros_0f7a4_79
          · have tk_39 := c_nle (a := y_36.toInt) (b := 4) rfl (by decide) k_39
            refine lv_iinc (v := 19) (lv' := [(1, .int 19), (0, .int y_36)]) hx hb dJ6_numberOfTrailingZeros_0f7a4_67 hl (k := 1) rfl (by decide) (by decide) rfl (fun ls hl => ?_)
            refine lv_iload_n hx hb dJ6_numberOfTrailingZeros_0f7a4_70 rfl (lv_at hl 1 rfl) ?_
            refine lv_iconst (v := 2) hx hb dJ6_numberOfTrailingZeros_0f7a4_71 (by decide) ?_
            refine lv_iushr hx hb dJ6_numberOfTrailingZeros_0f7a4_72 rfl ?_
            refine lv_topi (fun y_42 ey_42 => ?_)
            first | have ty_42 : y_42.toInt = y_36.toInt / 4 := i_ush (a := y_36.toInt) (k := 2) rfl (by decide) (by decide) (by omega) ey_42 | skip
            refine lv_istore_n (lv' := [(0, .int y_42), (1, .int 19)]) hx hb dJ6_numberOfTrailingZeros_0f7a4_73 rfl hl (by decide) rfl (fun ls hl => ?_)
            refine lv_iload_n hx hb dJ6_numberOfTrailingZeros_0f7a4_74 rfl (lv_at hl 1 rfl) ?_
            refine lv_iload_n hx hb dJ6_numberOfTrailingZeros_0f7a4_75 rfl (lv_at hl 0 rfl) ?_
            refine lv_iconst (v := 1) hx hb dJ6_numberOfTrailingZeros_0f7a4_76 (by decide) ?_
            refine lv_iushr hx hb dJ6_numberOfTrailingZeros_0f7a4_77 rfl ?_
            refine lv_topi (fun y_43 ey_43 => ?_)
            first | have ty_43 : y_43.toInt = y_42.toInt / 2 := i_ush (a := y_42.toInt) (k := 1) rfl (by decide) (by decide) (by omega) ey_43 | skip
            refine lv_iadd hx hb dJ6_numberOfTrailingZeros_0f7a4_78 ?_
            refine lv_topi (fun y_44 ey_44 => ?_)
            first | have ty_44 := i_add (a := 19) (b := y_43.toInt) (by decide) rfl ey_44 (by omega) (by omega) | skip
            exact W.iret hx hb hr (fun t ht hW => ⟨_, rfl, (by first | omega | decide), ht⟩) t_nil dJ6_numberOfTrailingZeros_0f7a4_79
        · have tk_38 := c_nle (a := y_36.toInt) (b := 16) rfl (by decide) k_38
          refine lv_iinc (v := 21) (lv' := [(1, .int 21), (0, .int y_36)]) hx hb dJ6_numberOfTrailingZeros_0f7a4_55 hl (k := 1) rfl (by decide) (by decide) rfl (fun ls hl => ?_)
          refine lv_iload_n hx hb dJ6_numberOfTrailingZeros_0f7a4_58 rfl (lv_at hl 1 rfl) ?_
          refine lv_iconst (v := 4) hx hb dJ6_numberOfTrailingZeros_0f7a4_59 (by decide) ?_
          refine lv_iushr hx hb dJ6_numberOfTrailingZeros_0f7a4_60 rfl ?_
          refine lv_topi (fun y_45 ey_45 => ?_)
          first | have ty_45 : y_45.toInt = y_36.toInt / 16 := i_ush (a := y_36.toInt) (k := 4) rfl (by decide) (by decide) (by omega) ey_45 | skip
          refine lv_istore_n (lv' := [(0, .int y_45), (1, .int 21)]) hx hb dJ6_numberOfTrailingZeros_0f7a4_61 rfl hl (by decide) rfl (fun ls hl => ?_)
          refine lv_iload_n hx hb dJ6_numberOfTrailingZeros_0f7a4_62 rfl (lv_at hl 0 rfl) ?_
          refine lv_iconst (v := 4) hx hb dJ6_numberOfTrailingZeros_0f7a4_63 (by decide) ?_
          refine lv_icmp_le (tgt := 74) hx hb dJ6_numberOfTrailingZeros_0f7a4_64 (by decide) (fun k_46 => ?_) (fun k_46 => ?_)
          · have tk_46 := c_le (a := y_45.toInt) (b := 4) rfl (by decide) k_46
            refine lv_iload_n hx hb dJ6_numberOfTrailingZeros_0f7a4_74 rfl (lv_at hl 1 rfl) ?_
            refine lv_iload_n hx hb dJ6_numberOfTrailingZeros_0f7a4_75 rfl (lv_at hl 0 rfl) ?_
            refine lv_iconst (v := 1) hx hb dJ6_numberOfTrailingZeros_0f7a4_76 (by decide) ?_
            refine lv_iushr hx hb dJ6_numberOfTrailingZeros_0f7a4_77 rfl ?_
            refine lv_topi (fun y_47 ey_47 => ?_)
            first | have ty_47 : y_47.toInt = y_45.toInt / 2 := i_ush (a := y_45.toInt) (k := 1) rfl (by decide) (by decide) (by omega) ey_47 | skip
            refine lv_iadd hx hb dJ6_numberOfTrailingZeros_0f7a4_78 ?_
            refine lv_topi (fun y_48 ey_48 => ?_)
            first | have ty_48 := i_add (a := 21) (b := y_47.toInt) (by decide) rfl ey_48 (by omega) (by omega) | skip
            exact W.iret hx hb hr (fun t ht hW => ⟨_, rfl, (by first | omega | decide), ht⟩) t_nil dJ6_numberOfTrailingZeros_0f7a4_79
          · have tk_46 := c_nle (a := y_45.toInt) (b := 4) rfl (by decide) k_46
            refine lv_iinc (v := 23) (lv' := [(1, .int 23), (0, .int y_45)]) hx hb dJ6_numberOfTrailingZeros_0f7a4_67 hl (k := 1) rfl (by decide) (by decide) rfl (fun ls hl => ?_)
            refine lv_iload_n hx hb dJ6_numberOfTrailingZeros_0f7a4_70 rfl (lv_at hl 1 rfl) ?_
            refine lv_iconst (v := 2) hx hb dJ6_numberOfTrailingZeros_0f7a4_71 (by decide) ?_
            refine lv_iushr hx hb dJ6_numberOfTrailingZeros_0f7a4_72 rfl ?_
            refine lv_topi (fun y_49 ey_49 => ?_)
            first | have ty_49 : y_49.toInt = y_45.toInt / 4 := i_ush (a := y_45.toInt) (k := 2) rfl (by decide) (by decide) (by omega) ey_49 | skip
            refine lv_istore_n (lv' := [(0, .int y_49), (1, .int 23)]) hx hb dJ6_numberOfTrailingZeros_0f7a4_73 rfl hl (by decide) rfl (fun ls hl => ?_)
            refine lv_iload_n hx hb dJ6_numberOfTrailingZeros_0f7a4_74 rfl (lv_at hl 1 rfl) ?_
            refine lv_iload_n hx hb dJ6_numberOfTrailingZeros_0f7a4_75 rfl (lv_at hl 0 rfl) ?_
            refine lv_iconst (v := 1) hx hb dJ6_numberOfTrailingZeros_0f7a4_76 (by decide) ?_
            refine lv_iushr hx hb dJ6_numberOfTrailingZeros_0f7a4_77 rfl ?_
            refine lv_topi (fun y_50 ey_50 => ?_)
            first | have ty_50 : y_50.toInt = y_49.toInt / 2 := i_ush (a := y_49.toInt) (k := 1) rfl (by decide) (by decide) (by omega) ey_50 | skip
            refine lv_iadd hx hb dJ6_numberOfTrailingZeros_0f7a4_78 ?_
            refine lv_topi (fun y_51 ey_51 => ?_)
            first | have ty_51 := i_add (a := 23) (b := y_50.toInt) (by decide) rfl ey_51 (by omega) (by omega) | skip
            exact W.iret hx hb hr (fun t ht hW => ⟨_, rfl, (by first | omega | decide), ht⟩) t_nil dJ6_numberOfTrailingZeros_0f7a4_79
      · have tk_37 := c_nle (a := y_36.toInt) (b := 256) rfl (by decide) k_37
        refine lv_iinc (v := 25) (lv' := [(1, .int 25), (0, .int y_36)]) hx hb dJ6_numberOfTrailingZeros_0f7a4_41 hl (k := 1) rfl (by decide) (by decide) rfl (fun ls hl => ?_)
        refine lv_iload_n hx hb dJ6_numberOfTrailingZeros_0f7a4_44 rfl (lv_at hl 1 rfl) ?_
        refine lv_bipush (v := 8) hx hb dJ6_numberOfTrailingZeros_0f7a4_45 (by decide) ?_
        refine lv_iushr hx hb dJ6_numberOfTrailingZeros_0f7a4_47 rfl ?_
        refine lv_topi (fun y_52 ey_52 => ?_)
        first | have ty_52 : y_52.toInt = y_36.toInt / 256 := i_ush (a := y_36.toInt) (k := 8) rfl (by decide) (by decide) (by omega) ey_52 | skip
        refine lv_istore_n (lv' := [(0, .int y_52), (1, .int 25)]) hx hb dJ6_numberOfTrailingZeros_0f7a4_48 rfl hl (by decide) rfl (fun ls hl => ?_)
        refine lv_iload_n hx hb dJ6_numberOfTrailingZeros_0f7a4_49 rfl (lv_at hl 0 rfl) ?_
        refine lv_bipush (v := 16) hx hb dJ6_numberOfTrailingZeros_0f7a4_50 (by decide) ?_
        refine lv_icmp_le (tgt := 62) hx hb dJ6_numberOfTrailingZeros_0f7a4_52 (by decide) (fun k_53 => ?_) (fun k_53 => ?_)
        · have tk_53 := c_le (a := y_52.toInt) (b := 16) rfl (by decide) k_53
          refine lv_iload_n hx hb dJ6_numberOfTrailingZeros_0f7a4_62 rfl (lv_at hl 0 rfl) ?_
          refine lv_iconst (v := 4) hx hb dJ6_numberOfTrailingZeros_0f7a4_63 (by decide) ?_
          refine lv_icmp_le (tgt := 74) hx hb dJ6_numberOfTrailingZeros_0f7a4_64 (by decide) (fun k_54 => ?_) (fun k_54 => ?_)
          · have tk_54 := c_le (a := y_52.toInt) (b := 4) rfl (by decide) k_54
            refine lv_iload_n hx hb dJ6_numberOfTrailingZeros_0f7a4_74 rfl (lv_at hl 1 rfl) ?_
            refine lv_iload_n hx hb dJ6_numberOfTrailingZeros_0f7a4_75 rfl (lv_at hl 0 rfl) ?_
            refine lv_iconst (v := 1) hx hb dJ6_numberOfTrailingZeros_0f7a4_76 (by decide) ?_
            refine lv_iushr hx hb dJ6_numberOfTrailingZeros_0f7a4_77 rfl ?_
            refine lv_topi (fun y_55 ey_55 => ?_)
            first | have ty_55 : y_55.toInt = y_52.toInt / 2 := i_ush (a := y_52.toInt) (k := 1) rfl (by decide) (by decide) (by omega) ey_55 | skip
            refine lv_iadd hx hb dJ6_numberOfTrailingZeros_0f7a4_78 ?_
            refine lv_topi (fun y_56 ey_56 => ?_)
            first | have ty_56 := i_add (a := 25) (b := y_55.toInt) (by decide) rfl ey_56 (by omega) (by omega) | skip
            exact W.iret hx hb hr (fun t ht hW => ⟨_, rfl, (by first | omega | decide), ht⟩) t_nil dJ6_numberOfTrailingZeros_0f7a4_79
          · have tk_54 := c_nle (a := y_52.toInt) (b := 4) rfl (by decide) k_54
            refine lv_iinc (v := 27) (lv' := [(1, .int 27), (0, .int y_52)]) hx hb dJ6_numberOfTrailingZeros_0f7a4_67 hl (k := 1) rfl (by decide) (by decide) rfl (fun ls hl => ?_)
            refine lv_iload_n hx hb dJ6_numberOfTrailingZeros_0f7a4_70 rfl (lv_at hl 1 rfl) ?_
            refine lv_iconst (v := 2) hx hb dJ6_numberOfTrailingZeros_0f7a4_71 (by decide) ?_
            refine lv_iushr hx hb dJ6_numberOfTrailingZeros_0f7a4_72 rfl ?_
            refine lv_topi (fun y_57 ey_57 => ?_)
            first | have ty_57 : y_57.toInt = y_52.toInt / 4 := i_ush (a := y_52.toInt) (k := 2) rfl (by decide) (by decide) (by omega) ey_57 | skip
            refine lv_istore_n (lv' := [(0, .int y_57), (1, .int 27)]) hx hb dJ6_numberOfTrailingZeros_0f7a4_73 rfl hl (by decide) rfl (fun ls hl => ?_)
            refine lv_iload_n hx hb dJ6_numberOfTrailingZeros_0f7a4_74 rfl (lv_at hl 1 rfl) ?_
            refine lv_iload_n hx hb dJ6_numberOfTrailingZeros_0f7a4_75 rfl (lv_at hl 0 rfl) ?_
            refine lv_iconst (v := 1) hx hb dJ6_numberOfTrailingZeros_0f7a4_76 (by decide) ?_
            refine lv_iushr hx hb dJ6_numberOfTrailingZeros_0f7a4_77 rfl ?_
            refine lv_topi (fun y_58 ey_58 => ?_)
            first | have ty_58 : y_58.toInt = y_57.toInt / 2 := i_ush (a := y_57.toInt) (k := 1) rfl (by decide) (by decide) (by omega) ey_58 | skip
            refine lv_iadd hx hb dJ6_numberOfTrailingZeros_0f7a4_78 ?_
            refine lv_topi (fun y_59 ey_59 => ?_)
            first | have ty_59 := i_add (a := 27) (b := y_58.toInt) (by decide) rfl ey_59 (by omega) (by omega) | skip
            exact W.iret hx hb hr (fun t ht hW => ⟨_, rfl, (by first | omega | decide), ht⟩) t_nil dJ6_numberOfTrailingZeros_0f7a4_79
        · have tk_53 := c_nle (a := y_52.toInt) (b := 16) rfl (by decide) k_53
          refine lv_iinc (v := 29) (lv' := [(1, .int 29), (0, .int y_52)]) hx hb dJ6_numberOfTrailingZeros_0f7a4_55 hl (k := 1) rfl (by decide) (by decide) rfl (fun ls hl => ?_)
          refine lv_iload_n hx hb dJ6_numberOfTrailingZeros_0f7a4_58 rfl (lv_at hl 1 rfl) ?_
          refine lv_iconst (v := 4) hx hb dJ6_numberOfTrailingZeros_0f7a4_59 (by decide) ?_
          refine lv_iushr hx hb dJ6_numberOfTrailingZeros_0f7a4_60 rfl ?_
          refine lv_topi (fun y_60 ey_60 => ?_)
          first | have ty_60 : y_60.toInt = y_52.toInt / 16 := i_ush (a := y_52.toInt) (k := 4) rfl (by decide) (by decide) (by omega) ey_60 | skip
          refine lv_istore_n (lv' := [(0, .int y_60), (1, .int 29)]) hx hb dJ6_numberOfTrailingZeros_0f7a4_61 rfl hl (by decide) rfl (fun ls hl => ?_)
          refine lv_iload_n hx hb dJ6_numberOfTrailingZeros_0f7a4_62 rfl (lv_at hl 0 rfl) ?_
          refine lv_iconst (v := 4) hx hb dJ6_numberOfTrailingZeros_0f7a4_63 (by decide) ?_
          refine lv_icmp_le (tgt := 74) hx hb dJ6_numberOfTrailingZeros_0f7a4_64 (by decide) (fun k_61 => ?_) (fun k_61 => ?_)
          · have tk_61 := c_le (a := y_60.toInt) (b := 4) rfl (by decide) k_61
            refine lv_iload_n hx hb dJ6_numberOfTrailingZeros_0f7a4_74 rfl (lv_at hl 1 rfl) ?_
            refine lv_iload_n hx hb dJ6_numberOfTrailingZeros_0f7a4_75 rfl (lv_at hl 0 rfl) ?_
            refine lv_iconst (v := 1) hx hb dJ6_numberOfTrailingZeros_0f7a4_76 (by decide) ?_
            refine lv_iushr hx hb dJ6_numberOfTrailingZeros_0f7a4_77 rfl ?_
            refine lv_topi (fun y_62 ey_62 => ?_)
            first | have ty_62 : y_62.toInt = y_60.toInt / 2 := i_ush (a := y_60.toInt) (k := 1) rfl (by decide) (by decide) (by omega) ey_62 | skip
            refine lv_iadd hx hb dJ6_numberOfTrailingZeros_0f7a4_78 ?_
            refine lv_topi (fun y_63 ey_63 => ?_)
            first | have ty_63 := i_add (a := 29) (b := y_62.toInt) (by decide) rfl ey_63 (by omega) (by omega) | skip
            exact W.iret hx hb hr (fun t ht hW => ⟨_, rfl, (by first | omega | decide), ht⟩) t_nil dJ6_numberOfTrailingZeros_0f7a4_79
          · have tk_61 := c_nle (a := y_60.toInt) (b := 4) rfl (by decide) k_61
            refine lv_iinc (v := 31) (lv' := [(1, .int 31), (0, .int y_60)]) hx hb dJ6_numberOfTrailingZeros_0f7a4_67 hl (k := 1) rfl (by decide) (by decide) rfl (fun ls hl => ?_)
            refine lv_iload_n hx hb dJ6_numberOfTrailingZeros_0f7a4_70 rfl (lv_at hl 1 rfl) ?_
            refine lv_iconst (v := 2) hx hb dJ6_numberOfTrailingZeros_0f7a4_71 (by decide) ?_
            refine lv_iushr hx hb dJ6_numberOfTrailingZeros_0f7a4_72 rfl ?_
            refine lv_topi (fun y_64 ey_64 => ?_)
            first | have ty_64 : y_64.toInt = y_60.toInt / 4 := i_ush (a := y_60.toInt) (k := 2) rfl (by decide) (by decide) (by omega) ey_64 | skip
            refine lv_istore_n (lv' := [(0, .int y_64), (1, .int 31)]) hx hb dJ6_numberOfTrailingZeros_0f7a4_73 rfl hl (by decide) rfl (fun ls hl => ?_)
            refine lv_iload_n hx hb dJ6_numberOfTrailingZeros_0f7a4_74 rfl (lv_at hl 1 rfl) ?_
            refine lv_iload_n hx hb dJ6_numberOfTrailingZeros_0f7a4_75 rfl (lv_at hl 0 rfl) ?_
            refine lv_iconst (v := 1) hx hb dJ6_numberOfTrailingZeros_0f7a4_76 (by decide) ?_
            refine lv_iushr hx hb dJ6_numberOfTrailingZeros_0f7a4_77 rfl ?_
            refine lv_topi (fun y_65 ey_65 => ?_)
            first | have ty_65 : y_65.toInt = y_64.toInt / 2 := i_ush (a := y_64.toInt) (k := 1) rfl (by decide) (by decide) (by omega) ey_65 | skip
            refine lv_iadd hx hb dJ6_numberOfTrailingZeros_0f7a4_78 ?_
            refine lv_topi (fun y_66 ey_66 => ?_)
            first | have ty_66 := i_add (a := 31) (b := y_65.toInt) (by decide) rfl ey_66 (by omega) (by omega) | skip
            exact W.iret hx hb hr (fun t ht hW => ⟨_, rfl, (by first | omega | decide), ht⟩) t_nil dJ6_numberOfTrailingZeros_0f7a4_79
  · have tk_4 := c_ngt (a := y_3.toInt) (b := 0) rfl (by decide) k_4
    refine lv_iload_n hx hb dJ6_numberOfTrailingZeros_0f7a4_12 rfl (lv_at hl 0 rfl) ?_
    refine lv_bipush (v := 32) hx hb dJ6_numberOfTrailingZeros_0f7a4_13 (by decide) ?_
    refine lv_iand hx hb dJ6_numberOfTrailingZeros_0f7a4_15 ?_
    refine lv_topi (fun y_67 ey_67 => ?_)
    have ty_67 := i_and (b := 32) (by decide) (by decide) ey_67
    exact W.iret hx hb hr (fun t ht hW => ⟨_, rfl, (by first | omega | decide), ht⟩) t_nil dJ6_numberOfTrailingZeros_0f7a4_16
theorem dJ13_numberOfTrailingZeros_95d88_0 : decode cJ13_numberOfTrailingZeros_95d88 0 = .ok (.lload_n 0, 1) := by decide +kernel
theorem dJ13_numberOfTrailingZeros_95d88_1 : decode cJ13_numberOfTrailingZeros_95d88 1 = .ok (.l2i, 1) := by decide +kernel
theorem dJ13_numberOfTrailingZeros_95d88_2 : decode cJ13_numberOfTrailingZeros_95d88 2 = .ok (.istore_n 2, 1) := by decide +kernel
theorem dJ13_numberOfTrailingZeros_95d88_3 : decode cJ13_numberOfTrailingZeros_95d88 3 = .ok (.iload_n 2, 1) := by decide +kernel
theorem dJ13_numberOfTrailingZeros_95d88_4 : decode cJ13_numberOfTrailingZeros_95d88 4 = .ok (.ifCond .ne 17, 3) := by decide +kernel
theorem dJ13_numberOfTrailingZeros_95d88_7 : decode cJ13_numberOfTrailingZeros_95d88 7 = .ok (.bipush 32, 2) := by decide +kernel
theorem dJ13_numberOfTrailingZeros_95d88_9 : decode cJ13_numberOfTrailingZeros_95d88 9 = .ok (.lload_n 0, 1) := by decide +kernel
theorem dJ13_numberOfTrailingZeros_95d88_10 : decode cJ13_numberOfTrailingZeros_95d88 10 = .ok (.bipush 32, 2) := by decide +kernel
theorem dJ13_numberOfTrailingZeros_95d88_12 : decode cJ13_numberOfTrailingZeros_95d88 12 = .ok (.lushr, 1) := by decide +kernel
theorem dJ13_numberOfTrailingZeros_95d88_13 : decode cJ13_numberOfTrailingZeros_95d88 13 = .ok (.l2i, 1) := by decide +kernel
theorem dJ13_numberOfTrailingZeros_95d88_14 : decode cJ13_numberOfTrailingZeros_95d88 14 = .ok (.invokestatic 311, 3) := by decide +kernel
theorem dJ13_numberOfTrailingZeros_95d88_17 : decode cJ13_numberOfTrailingZeros_95d88 17 = .ok (.iadd, 1) := by decide +kernel
theorem dJ13_numberOfTrailingZeros_95d88_18 : decode cJ13_numberOfTrailingZeros_95d88 18 = .ok (.goto 7, 3) := by decide +kernel
theorem dJ13_numberOfTrailingZeros_95d88_21 : decode cJ13_numberOfTrailingZeros_95d88 21 = .ok (.iload_n 2, 1) := by decide +kernel
theorem dJ13_numberOfTrailingZeros_95d88_22 : decode cJ13_numberOfTrailingZeros_95d88 22 = .ok (.invokestatic 311, 3) := by decide +kernel
theorem dJ13_numberOfTrailingZeros_95d88_25 : decode cJ13_numberOfTrailingZeros_95d88 25 = .ok (.ireturn, 1) := by decide +kernel
def mwJ13_numberOfTrailingZeros_95d88 : List Cond := .code yJ13_numberOfTrailingZeros_95d88 cJ13_numberOfTrailingZeros_95d88 3 (some .int) :: ([.code yJ6_numberOfTrailingZeros_0f7a4 cJ6_numberOfTrailingZeros_0f7a4 2 (some .int), .constant RJ6 264 (65536), .methodLink RJ13 311 yJ6_numberOfTrailingZeros_0f7a4, .static yJ6_numberOfTrailingZeros_0f7a4, .initialized RJ6])
set_option maxRecDepth 20000 in
theorem mg_J13_numberOfTrailingZeros_95d88_J6_numberOfTrailingZeros_0f7a4_311 : GoodIn mwJ13_numberOfTrailingZeros_95d88 (va_wsS RJ13 311 yJ6_numberOfTrailingZeros_0f7a4 mwJ6_numberOfTrailingZeros_0f7a4) := goodIn_r _ [3, 4, 5, 1, 2] (by decide +kernel) (by decide +kernel)
set_option maxHeartbeats 4000000 in
set_option maxRecDepth 100000 in
/-- Long.numberOfTrailingZeros: no less than 0 -/
theorem s_ntzL (l : Launch) (dC : Nat → ClassId) (dI : Nat → Nat → Nat) (w : Int64) : Met l yJ13_numberOfTrailingZeros_95d88 mwJ13_numberOfTrailingZeros_95d88 ({ frames := 1, cells := 0, slots := 0, locals := 60 }) (va_Pc [.long w] (fun _ => True)) (vp_Si (fun o => 0 ≤ o.toInt ∧ o.toInt ≤ 1200000000)) 0 0 (fun _ => False) := by
  refine Met.ofW (cc := cJ13_numberOfTrailingZeros_95d88) (maxL := 3) (ret := (some .int)) (by decide +kernel) rfl ?_
  intro p e s m args below meth c s₁ B hml hv
  obtain ⟨rfl, -⟩ := hv
  have hx := B.exec
  have hb := B.bytes
  have hr := B.returns
  have hts := atoms_spec (ws := mwJ13_numberOfTrailingZeros_95d88) B.pre
  have hown : s.vm.findClass RJ13 = some m.cls := findClass_of_methodNamed B.named
  have hlocks := B.notSynchronized
  have hl := lv_entry ([.long w]) (n := 3) (Nat.le_of_ble_eq_true rfl)
  rw [lg_entry_eq]
  generalize (lg_sl ([.long w]) ++ List.replicate (3 - (lg_sl ([.long w])).length) Slot.unset).toArray = ls at hl ⊢
  have hl : lv_has ls 3 [(0, .long w)] := hl
  refine lv_lload_n hx hb dJ13_numberOfTrailingZeros_95d88_0 rfl (lv_at hl 0 rfl) ?_
  refine lv_l2i hx hb dJ13_numberOfTrailingZeros_95d88_1 rfl ?_
  refine lv_topi (fun y_1 ey_1 => ?_)
  have rg_y_1 := i_rng y_1
  refine lv_istore_n (lv' := [(2, .int y_1), (0, .long w)]) hx hb dJ13_numberOfTrailingZeros_95d88_2 rfl hl (by decide) rfl (fun ls hl => ?_)
  refine lv_iload_n hx hb dJ13_numberOfTrailingZeros_95d88_3 rfl (lv_at hl 0 rfl) ?_
  refine lv_if_ne (tgt := 21) hx hb dJ13_numberOfTrailingZeros_95d88_4 (by decide) (fun k_2 => ?_) (fun k_2 => ?_)
  · have tk_2 := c_ne (a := y_1.toInt) (b := 0) rfl (by decide) k_2
    refine lv_iload_n hx hb dJ13_numberOfTrailingZeros_95d88_21 rfl (lv_at hl 0 rfl) ?_
    refine vp_callSi (W.runS (As := [.int y_1]) (rest := []) ⟨hx, hb, hml, hown, hts⟩ (s_ntz l dC dI y_1) (va_cwS 1 hts mg_J13_numberOfTrailingZeros_95d88_J6_numberOfTrailingZeros_0f7a4_311 rfl rfl rfl (by decide +kernel) ⟨Nat.le_of_ble_eq_true rfl, Nat.le_of_ble_eq_true rfl⟩) ⟨fun a U g mk q => ⟨q.1, trivial⟩, fun U hU hW => ⟨rfl, trivial⟩⟩ rfl rfl hl.1 rfl (lv_room (Nat.le_of_ble_eq_true rfl)) dJ13_numberOfTrailingZeros_95d88_22 ⟨Nat.le_of_ble_eq_true rfl, Nat.le_of_ble_eq_true rfl⟩) (fun r_4 hw => ?_)
    have hr_4 := hw
    exact W.iret hx hb hr (fun t ht hW => ⟨_, rfl, (by first | omega | decide), ht⟩) t_nil dJ13_numberOfTrailingZeros_95d88_25
  · have tk_2 := c_eq (a := y_1.toInt) (b := 0) rfl (by decide) k_2
    refine lv_bipush (v := 32) hx hb dJ13_numberOfTrailingZeros_95d88_7 (by decide) ?_
    refine lv_lload_n hx hb dJ13_numberOfTrailingZeros_95d88_9 rfl (lv_at hl 1 rfl) ?_
    refine lv_bipush (v := 32) hx hb dJ13_numberOfTrailingZeros_95d88_10 (by decide) ?_
    refine lv_lushr hx hb dJ13_numberOfTrailingZeros_95d88_12 rfl ?_
    refine lv_topl (fun w_5 ew_5 => ?_)
    refine lv_l2i hx hb dJ13_numberOfTrailingZeros_95d88_13 rfl ?_
    refine lv_topi (fun y_6 ey_6 => ?_)
    have rg_y_6 := i_rng y_6
    refine vp_callSi (W.runS (As := [.int y_6]) (rest := [.int 32]) ⟨hx, hb, hml, hown, hts⟩ (s_ntz l dC dI y_6) (va_cwS 1 hts mg_J13_numberOfTrailingZeros_95d88_J6_numberOfTrailingZeros_0f7a4_311 rfl rfl rfl (by decide +kernel) ⟨Nat.le_of_ble_eq_true rfl, Nat.le_of_ble_eq_true rfl⟩) ⟨fun a U g mk q => ⟨q.1, trivial⟩, fun U hU hW => ⟨rfl, trivial⟩⟩ rfl rfl hl.1 rfl (lv_room (Nat.le_of_ble_eq_true rfl)) dJ13_numberOfTrailingZeros_95d88_14 ⟨Nat.le_of_ble_eq_true rfl, Nat.le_of_ble_eq_true rfl⟩) (fun r_8 hw => ?_)
    have hr_8 := hw
    refine lv_iadd hx hb dJ13_numberOfTrailingZeros_95d88_17 ?_
    refine lv_topi (fun y_9 ey_9 => ?_)
    first | have ty_9 := i_add (a := 32) (b := r_8.toInt) (by decide) rfl ey_9 (by omega) (by omega) | skip
    refine lv_goto (tgt := 25) hx hb dJ13_numberOfTrailingZeros_95d88_18 (by decide) ?_
    exact W.iret hx hb hr (fun t ht hW => ⟨_, rfl, (by first | omega | decide), ht⟩) t_nil dJ13_numberOfTrailingZeros_95d88_25
theorem dX7_lettersOf_0 : decode cX7_lettersOf 0 = .ok (.lload_n 0, 1) := by decide +kernel
theorem dX7_lettersOf_1 : decode cX7_lettersOf 1 = .ok (.lconst 0, 1) := by decide +kernel
theorem dX7_lettersOf_2 : decode cX7_lettersOf 2 = .ok (.lcmp, 1) := by decide +kernel
theorem dX7_lettersOf_3 : decode cX7_lettersOf 3 = .ok (.ifCond .ne 7, 3) := by decide +kernel
theorem dX7_lettersOf_6 : decode cX7_lettersOf 6 = .ok (.iconst 0, 1) := by decide +kernel
theorem dX7_lettersOf_7 : decode cX7_lettersOf 7 = .ok (.goto 12, 3) := by decide +kernel
theorem dX7_lettersOf_10 : decode cX7_lettersOf 10 = .ok (.bipush 8, 2) := by decide +kernel
theorem dX7_lettersOf_12 : decode cX7_lettersOf 12 = .ok (.lload_n 0, 1) := by decide +kernel
theorem dX7_lettersOf_13 : decode cX7_lettersOf 13 = .ok (.invokestatic 15, 3) := by decide +kernel
theorem dX7_lettersOf_16 : decode cX7_lettersOf 16 = .ok (.iconst 5, 1) := by decide +kernel
theorem dX7_lettersOf_17 : decode cX7_lettersOf 17 = .ok (.idiv, 1) := by decide +kernel
theorem dX7_lettersOf_18 : decode cX7_lettersOf 18 = .ok (.isub, 1) := by decide +kernel
theorem dX7_lettersOf_19 : decode cX7_lettersOf 19 = .ok (.ireturn, 1) := by decide +kernel
def mwX7_lettersOf : List Cond := .code yX7_lettersOf cX7_lettersOf 2 (some .int) :: ([.code yJ13_numberOfTrailingZeros_95d88 cJ13_numberOfTrailingZeros_95d88 3 (some .int), .code yJ6_numberOfTrailingZeros_0f7a4 cJ6_numberOfTrailingZeros_0f7a4 2 (some .int), .constant RJ6 264 (65536), .methodLink RJ13 311 yJ6_numberOfTrailingZeros_0f7a4, .static yJ6_numberOfTrailingZeros_0f7a4, .initialized RJ6, .methodLink RX7 15 yJ13_numberOfTrailingZeros_95d88, .static yJ13_numberOfTrailingZeros_95d88, .initialized RJ13])
set_option maxRecDepth 20000 in
theorem mg_X7_lettersOf_J13_numberOfTrailingZeros_95d88_15 : GoodIn mwX7_lettersOf (va_wsS RX7 15 yJ13_numberOfTrailingZeros_95d88 mwJ13_numberOfTrailingZeros_95d88) := goodIn_r _ [7, 8, 9, 1, 2, 3, 4, 5, 6] (by decide +kernel) (by decide +kernel)
set_option maxHeartbeats 4000000 in
set_option maxRecDepth 100000 in
/-- Rows.lettersOf: at most 8 -/
theorem s_lettersOf (l : Launch) (dC : Nat → ClassId) (dI : Nat → Nat → Nat) (w : Int64) : Met l yX7_lettersOf mwX7_lettersOf ({ frames := 2, cells := 0, slots := 0, locals := 120 }) (va_Pc [.long w] (fun _ => True)) (vp_Si (fun o => -1000000000 ≤ o.toInt ∧ o.toInt ≤ 8)) 0 0 (fun _ => False) := by
  refine Met.ofW (cc := cX7_lettersOf) (maxL := 2) (ret := (some .int)) (by decide +kernel) rfl ?_
  intro p e s m args below meth c s₁ B hml hv
  obtain ⟨rfl, -⟩ := hv
  have hx := B.exec
  have hb := B.bytes
  have hr := B.returns
  have hts := atoms_spec (ws := mwX7_lettersOf) B.pre
  have hown : s.vm.findClass RX7 = some m.cls := findClass_of_methodNamed B.named
  have hlocks := B.notSynchronized
  have hl := lv_entry ([.long w]) (n := 2) (Nat.le_of_ble_eq_true rfl)
  rw [lg_entry_eq]
  generalize (lg_sl ([.long w]) ++ List.replicate (2 - (lg_sl ([.long w])).length) Slot.unset).toArray = ls at hl ⊢
  have hl : lv_has ls 2 [(0, .long w)] := hl
  refine lv_lload_n hx hb dX7_lettersOf_0 rfl (lv_at hl 0 rfl) ?_
  refine lv_lconst (v := 0) hx hb dX7_lettersOf_1 (by decide) ?_
  refine W.lcmp hx hb dX7_lettersOf_2 ?_
  refine lv_topi (fun y_1 ey_1 => ?_)
  have rg_y_1 := i_rng y_1
  refine lv_if_ne (tgt := 10) hx hb dX7_lettersOf_3 (by decide) (fun k_2 => ?_) (fun k_2 => ?_)
  · have tk_2 := c_ne (a := y_1.toInt) (b := 0) rfl (by decide) k_2
    refine lv_bipush (v := 8) hx hb dX7_lettersOf_10 (by decide) ?_
    refine lv_lload_n hx hb dX7_lettersOf_12 rfl (lv_at hl 0 rfl) ?_
    refine vp_callSi (W.runS (As := [.long w]) (rest := [.int 8]) ⟨hx, hb, hml, hown, hts⟩ (s_ntzL l dC dI w) (va_cwS 1 hts mg_X7_lettersOf_J13_numberOfTrailingZeros_95d88_15 rfl rfl rfl (by decide +kernel) ⟨Nat.le_of_ble_eq_true rfl, Nat.le_of_ble_eq_true rfl⟩) ⟨fun a U g mk q => ⟨q.1, trivial⟩, fun U hU hW => ⟨rfl, trivial⟩⟩ rfl rfl hl.1 rfl (lv_room (Nat.le_of_ble_eq_true rfl)) dX7_lettersOf_13 ⟨Nat.le_of_ble_eq_true rfl, Nat.le_of_ble_eq_true rfl⟩) (fun r_4 hw => ?_)
    have hr_4 := hw
    refine lv_iconst (v := 5) hx hb dX7_lettersOf_16 (by decide) ?_
    refine lv_idiv hx hb dX7_lettersOf_17 (by decide) ?_
    refine lv_topi (fun y_5 ey_5 => ?_)
    first | have ty_5 := i_div (a := r_4.toInt) (b := 5) rfl (by decide) (by omega) (by omega) ey_5 | skip
    refine lv_isub hx hb dX7_lettersOf_18 ?_
    refine lv_topi (fun y_6 ey_6 => ?_)
    first | have ty_6 := i_sub (a := 8) (b := y_5.toInt) (by decide) rfl ey_6 (by omega) (by omega) | skip
    exact W.iret hx hb hr (fun t ht hW => ⟨_, rfl, (by first | omega | decide), ht⟩) t_nil dX7_lettersOf_19
  · have tk_2 := c_eq (a := y_1.toInt) (b := 0) rfl (by decide) k_2
    refine lv_iconst (v := 0) hx hb dX7_lettersOf_6 (by decide) ?_
    refine lv_goto (tgt := 19) hx hb dX7_lettersOf_7 (by decide) ?_
    exact W.iret hx hb hr (fun t ht hW => ⟨_, rfl, (by first | omega | decide), ht⟩) t_nil dX7_lettersOf_19
theorem dX7_letterOf_0 : decode cX7_letterOf 0 = .ok (.lload_n 0, 1) := by decide +kernel
theorem dX7_letterOf_1 : decode cX7_letterOf 1 = .ok (.iconst 5, 1) := by decide +kernel
theorem dX7_letterOf_2 : decode cX7_letterOf 2 = .ok (.bipush 7, 2) := by decide +kernel
theorem dX7_letterOf_4 : decode cX7_letterOf 4 = .ok (.iload_n 2, 1) := by decide +kernel
theorem dX7_letterOf_5 : decode cX7_letterOf 5 = .ok (.isub, 1) := by decide +kernel
theorem dX7_letterOf_6 : decode cX7_letterOf 6 = .ok (.imul, 1) := by decide +kernel
theorem dX7_letterOf_7 : decode cX7_letterOf 7 = .ok (.lushr, 1) := by decide +kernel
theorem dX7_letterOf_8 : decode cX7_letterOf 8 = .ok (.ldc2_w 21, 3) := by decide +kernel
theorem dX7_letterOf_11 : decode cX7_letterOf 11 = .ok (.land, 1) := by decide +kernel
theorem dX7_letterOf_12 : decode cX7_letterOf 12 = .ok (.l2i, 1) := by decide +kernel
theorem dX7_letterOf_13 : decode cX7_letterOf 13 = .ok (.iconst 1, 1) := by decide +kernel
theorem dX7_letterOf_14 : decode cX7_letterOf 14 = .ok (.isub, 1) := by decide +kernel
theorem dX7_letterOf_15 : decode cX7_letterOf 15 = .ok (.ireturn, 1) := by decide +kernel
def mwX7_letterOf : List Cond := .code yX7_letterOf cX7_letterOf 3 (some .int) :: ([.constantLong RX7 21 (31)])
set_option maxHeartbeats 4000000 in
set_option maxRecDepth 100000 in
/-- Rows.letterOf -/
theorem s_letterOf (l : Launch) (dC : Nat → ClassId) (dI : Nat → Nat → Nat) (w : Int64) (k : Int32) : Met l yX7_letterOf mwX7_letterOf ({ frames := 0, cells := 0, slots := 0, locals := 0 }) (va_Pc [.long w, .int k] (fun _ => True)) (vp_Si (fun o => True)) 0 0 (fun _ => False) := by
  refine Met.ofW (cc := cX7_letterOf) (maxL := 3) (ret := (some .int)) (by decide +kernel) rfl ?_
  intro p e s m args below meth c s₁ B hml hv
  obtain ⟨rfl, -⟩ := hv
  have hx := B.exec
  have hb := B.bytes
  have hr := B.returns
  have hts := atoms_spec (ws := mwX7_letterOf) B.pre
  have hown : s.vm.findClass RX7 = some m.cls := findClass_of_methodNamed B.named
  have hlocks := B.notSynchronized
  have hl := lv_entry ([.long w, .int k]) (n := 3) (Nat.le_of_ble_eq_true rfl)
  rw [lg_entry_eq]
  generalize (lg_sl ([.long w, .int k]) ++ List.replicate (3 - (lg_sl ([.long w, .int k])).length) Slot.unset).toArray = ls at hl ⊢
  have hl : lv_has ls 3 [(0, .long w), (2, .int k)] := hl
  have rg_k := i_rng k
  refine lv_lload_n hx hb dX7_letterOf_0 rfl (lv_at hl 0 rfl) ?_
  refine lv_iconst (v := 5) hx hb dX7_letterOf_1 (by decide) ?_
  refine lv_bipush (v := 7) hx hb dX7_letterOf_2 (by decide) ?_
  refine lv_iload_n hx hb dX7_letterOf_4 rfl (lv_at hl 1 rfl) ?_
  refine lv_isub hx hb dX7_letterOf_5 ?_
  refine lv_topi (fun y_1 ey_1 => ?_)
  first | have ty_1 := i_sub (a := 7) (b := k.toInt) (by decide) rfl ey_1 (by omega) (by omega) | skip
  refine lv_imul hx hb dX7_letterOf_6 ?_
  refine lv_topi (fun y_2 ey_2 => ?_)
  first | have ty_2 := i_mul (a := 5) (b := y_1.toInt) (by decide) rfl ey_2 (by omega) (by omega) | skip
  refine lv_lushr hx hb dX7_letterOf_7 rfl ?_
  refine lv_topl (fun w_3 ew_3 => ?_)
  refine lv_ldc2 hx hb hown (hts (.constantLong RX7 21 (31)) (List.mem_of_getElem? (i := 1) (by decide +kernel))) dX7_letterOf_8 ?_
  refine lv_land hx hb dX7_letterOf_11 ?_
  refine lv_topl (fun w_4 ew_4 => ?_)
  refine lv_l2i hx hb dX7_letterOf_12 rfl ?_
  refine lv_topi (fun y_5 ey_5 => ?_)
  have rg_y_5 := i_rng y_5
  refine lv_iconst (v := 1) hx hb dX7_letterOf_13 (by decide) ?_
  refine lv_isub hx hb dX7_letterOf_14 ?_
  refine lv_topi (fun y_6 ey_6 => ?_)
  first | have ty_6 := i_sub (a := y_5.toInt) (b := 1) rfl (by decide) ey_6 (by omega) (by omega) | skip
  exact W.iret hx hb hr (fun t ht hW => ⟨_, rfl, trivial, ht⟩) t_nil dX7_letterOf_15
theorem dX7_rowOf_0 : decode cX7_rowOf 0 = .ok (.iload_n 0, 1) := by decide +kernel
theorem dX7_rowOf_1 : decode cX7_rowOf 1 = .ok (.iconst 1, 1) := by decide +kernel
theorem dX7_rowOf_2 : decode cX7_rowOf 2 = .ok (.iadd, 1) := by decide +kernel
theorem dX7_rowOf_3 : decode cX7_rowOf 3 = .ok (.i2l, 1) := by decide +kernel
theorem dX7_rowOf_4 : decode cX7_rowOf 4 = .ok (.bipush 35, 2) := by decide +kernel
theorem dX7_rowOf_6 : decode cX7_rowOf 6 = .ok (.lshl, 1) := by decide +kernel
theorem dX7_rowOf_7 : decode cX7_rowOf 7 = .ok (.lreturn, 1) := by decide +kernel
def mwX7_rowOf : List Cond := .code yX7_rowOf cX7_rowOf 1 (some .long) :: ([])
set_option maxHeartbeats 4000000 in
set_option maxRecDepth 100000 in
/-- Rows.rowOf -/
theorem s_rowOf (l : Launch) (dC : Nat → ClassId) (dI : Nat → Nat → Nat) (i : Int32) : Met l yX7_rowOf mwX7_rowOf ({ frames := 0, cells := 0, slots := 0, locals := 0 }) (va_Pc [.int i] (fun _ => True)) (vp_Sl (fun o => True)) 0 0 (fun _ => False) := by
  refine Met.ofW (cc := cX7_rowOf) (maxL := 1) (ret := (some .long)) (by decide +kernel) rfl ?_
  intro p e s m args below meth c s₁ B hml hv
  obtain ⟨rfl, -⟩ := hv
  have hx := B.exec
  have hb := B.bytes
  have hr := B.returns
  have hts := atoms_spec (ws := mwX7_rowOf) B.pre
  have hown : s.vm.findClass RX7 = some m.cls := findClass_of_methodNamed B.named
  have hlocks := B.notSynchronized
  have hl := lv_entry ([.int i]) (n := 1) (Nat.le_of_ble_eq_true rfl)
  rw [lg_entry_eq]
  generalize (lg_sl ([.int i]) ++ List.replicate (1 - (lg_sl ([.int i])).length) Slot.unset).toArray = ls at hl ⊢
  have hl : lv_has ls 1 [(0, .int i)] := hl
  have rg_i := i_rng i
  refine lv_iload_n hx hb dX7_rowOf_0 rfl (lv_at hl 0 rfl) ?_
  refine lv_iconst (v := 1) hx hb dX7_rowOf_1 (by decide) ?_
  refine lv_iadd hx hb dX7_rowOf_2 ?_
  refine lv_topi (fun y_1 ey_1 => ?_)
  first | have ty_1 := i_add (a := i.toInt) (b := 1) rfl (by decide) ey_1 (by omega) (by omega) | skip
  refine lv_i2l hx hb dX7_rowOf_3 rfl ?_
  refine lv_topl (fun w_2 ew_2 => ?_)
  refine lv_bipush (v := 35) hx hb dX7_rowOf_4 (by decide) ?_
  refine lv_lshl hx hb dX7_rowOf_6 rfl ?_
  refine lv_topl (fun w_3 ew_3 => ?_)
  exact W.lret hx hb hr (fun t ht hW => ⟨_, rfl, trivial, ht⟩) t_nil dX7_rowOf_7
theorem dX7_lastTwoOf_0 : decode cX7_lastTwoOf 0 = .ok (.lload_n 0, 1) := by decide +kernel
theorem dX7_lastTwoOf_1 : decode cX7_lastTwoOf 1 = .ok (.invokestatic 23, 3) := by decide +kernel
theorem dX7_lastTwoOf_4 : decode cX7_lastTwoOf 4 = .ok (.istore_n 2, 1) := by decide +kernel
theorem dX7_lastTwoOf_5 : decode cX7_lastTwoOf 5 = .ok (.iload_n 2, 1) := by decide +kernel
theorem dX7_lastTwoOf_6 : decode cX7_lastTwoOf 6 = .ok (.iconst 2, 1) := by decide +kernel
theorem dX7_lastTwoOf_7 : decode cX7_lastTwoOf 7 = .ok (.if_icmp .gt 7, 3) := by decide +kernel
theorem dX7_lastTwoOf_10 : decode cX7_lastTwoOf 10 = .ok (.lload_n 0, 1) := by decide +kernel
theorem dX7_lastTwoOf_11 : decode cX7_lastTwoOf 11 = .ok (.goto 14, 3) := by decide +kernel
theorem dX7_lastTwoOf_14 : decode cX7_lastTwoOf 14 = .ok (.lload_n 0, 1) := by decide +kernel
theorem dX7_lastTwoOf_15 : decode cX7_lastTwoOf 15 = .ok (.iconst 5, 1) := by decide +kernel
theorem dX7_lastTwoOf_16 : decode cX7_lastTwoOf 16 = .ok (.iload_n 2, 1) := by decide +kernel
theorem dX7_lastTwoOf_17 : decode cX7_lastTwoOf 17 = .ok (.iconst 2, 1) := by decide +kernel
theorem dX7_lastTwoOf_18 : decode cX7_lastTwoOf 18 = .ok (.isub, 1) := by decide +kernel
theorem dX7_lastTwoOf_19 : decode cX7_lastTwoOf 19 = .ok (.imul, 1) := by decide +kernel
theorem dX7_lastTwoOf_20 : decode cX7_lastTwoOf 20 = .ok (.lshl, 1) := by decide +kernel
theorem dX7_lastTwoOf_21 : decode cX7_lastTwoOf 21 = .ok (.ldc2_w 26, 3) := by decide +kernel
theorem dX7_lastTwoOf_24 : decode cX7_lastTwoOf 24 = .ok (.land, 1) := by decide +kernel
theorem dX7_lastTwoOf_25 : decode cX7_lastTwoOf 25 = .ok (.lreturn, 1) := by decide +kernel
def mwX7_lastTwoOf : List Cond := .code yX7_lastTwoOf cX7_lastTwoOf 3 (some .long) :: ([.code yX7_lettersOf cX7_lettersOf 2 (some .int), .code yJ13_numberOfTrailingZeros_95d88 cJ13_numberOfTrailingZeros_95d88 3 (some .int), .code yJ6_numberOfTrailingZeros_0f7a4 cJ6_numberOfTrailingZeros_0f7a4 2 (some .int), .constant RJ6 264 (65536), .methodLink RJ13 311 yJ6_numberOfTrailingZeros_0f7a4, .static yJ6_numberOfTrailingZeros_0f7a4, .initialized RJ6, .methodLink RX7 15 yJ13_numberOfTrailingZeros_95d88, .static yJ13_numberOfTrailingZeros_95d88, .initialized RJ13, .methodLink RX7 23 yX7_lettersOf, .static yX7_lettersOf, .initialized RX7, .constantLong RX7 26 (1099511627775)])
set_option maxRecDepth 20000 in
theorem mg_X7_lastTwoOf_X7_lettersOf_23 : GoodIn mwX7_lastTwoOf (va_wsS RX7 23 yX7_lettersOf mwX7_lettersOf) := goodIn_r _ [11, 12, 13, 1, 2, 3, 4, 5, 6, 7, 8, 9, 10] (by decide +kernel) (by decide +kernel)
set_option maxHeartbeats 4000000 in
set_option maxRecDepth 100000 in
/-- Rows.lastTwoOf -/
theorem s_lastTwoOf (l : Launch) (dC : Nat → ClassId) (dI : Nat → Nat → Nat) (w : Int64) : Met l yX7_lastTwoOf mwX7_lastTwoOf ({ frames := 3, cells := 0, slots := 0, locals := 180 }) (va_Pc [.long w] (fun _ => True)) (vp_Sl (fun o => True)) 0 0 (fun _ => False) := by
  refine Met.ofW (cc := cX7_lastTwoOf) (maxL := 3) (ret := (some .long)) (by decide +kernel) rfl ?_
  intro p e s m args below meth c s₁ B hml hv
  obtain ⟨rfl, -⟩ := hv
  have hx := B.exec
  have hb := B.bytes
  have hr := B.returns
  have hts := atoms_spec (ws := mwX7_lastTwoOf) B.pre
  have hown : s.vm.findClass RX7 = some m.cls := findClass_of_methodNamed B.named
  have hlocks := B.notSynchronized
  have hl := lv_entry ([.long w]) (n := 3) (Nat.le_of_ble_eq_true rfl)
  rw [lg_entry_eq]
  generalize (lg_sl ([.long w]) ++ List.replicate (3 - (lg_sl ([.long w])).length) Slot.unset).toArray = ls at hl ⊢
  have hl : lv_has ls 3 [(0, .long w)] := hl
  refine lv_lload_n hx hb dX7_lastTwoOf_0 rfl (lv_at hl 0 rfl) ?_
  refine vp_callSi (W.runS (As := [.long w]) (rest := []) ⟨hx, hb, hml, hown, hts⟩ (s_lettersOf l dC dI w) (va_cwS 1 hts mg_X7_lastTwoOf_X7_lettersOf_23 rfl rfl rfl (by decide +kernel) ⟨Nat.le_of_ble_eq_true rfl, Nat.le_of_ble_eq_true rfl⟩) ⟨fun a U g mk q => ⟨q.1, trivial⟩, fun U hU hW => ⟨rfl, trivial⟩⟩ rfl rfl hl.1 rfl (lv_room (Nat.le_of_ble_eq_true rfl)) dX7_lastTwoOf_1 ⟨Nat.le_of_ble_eq_true rfl, Nat.le_of_ble_eq_true rfl⟩) (fun r_2 hw => ?_)
  have hr_2 := hw
  refine lv_istore_n (lv' := [(2, .int r_2), (0, .long w)]) hx hb dX7_lastTwoOf_4 rfl hl (by decide) rfl (fun ls hl => ?_)
  refine lv_iload_n hx hb dX7_lastTwoOf_5 rfl (lv_at hl 0 rfl) ?_
  refine lv_iconst (v := 2) hx hb dX7_lastTwoOf_6 (by decide) ?_
  refine lv_icmp_gt (tgt := 14) hx hb dX7_lastTwoOf_7 (by decide) (fun k_3 => ?_) (fun k_3 => ?_)
  · have tk_3 := c_gt (a := r_2.toInt) (b := 2) rfl (by decide) k_3
    refine lv_lload_n hx hb dX7_lastTwoOf_14 rfl (lv_at hl 1 rfl) ?_
    refine lv_iconst (v := 5) hx hb dX7_lastTwoOf_15 (by decide) ?_
    refine lv_iload_n hx hb dX7_lastTwoOf_16 rfl (lv_at hl 0 rfl) ?_
    refine lv_iconst (v := 2) hx hb dX7_lastTwoOf_17 (by decide) ?_
    refine lv_isub hx hb dX7_lastTwoOf_18 ?_
    refine lv_topi (fun y_4 ey_4 => ?_)
    first | have ty_4 := i_sub (a := r_2.toInt) (b := 2) rfl (by decide) ey_4 (by omega) (by omega) | skip
    refine lv_imul hx hb dX7_lastTwoOf_19 ?_
    refine lv_topi (fun y_5 ey_5 => ?_)
    first | have ty_5 := i_mul (a := 5) (b := y_4.toInt) (by decide) rfl ey_5 (by omega) (by omega) | skip
    refine lv_lshl hx hb dX7_lastTwoOf_20 rfl ?_
    refine lv_topl (fun w_6 ew_6 => ?_)
    refine lv_ldc2 hx hb hown (hts (.constantLong RX7 26 (1099511627775)) (List.mem_of_getElem? (i := 14) (by decide +kernel))) dX7_lastTwoOf_21 ?_
    refine lv_land hx hb dX7_lastTwoOf_24 ?_
    refine lv_topl (fun w_7 ew_7 => ?_)
    exact W.lret hx hb hr (fun t ht hW => ⟨_, rfl, trivial, ht⟩) t_nil dX7_lastTwoOf_25
  · have tk_3 := c_ngt (a := r_2.toInt) (b := 2) rfl (by decide) k_3
    refine lv_lload_n hx hb dX7_lastTwoOf_10 rfl (lv_at hl 1 rfl) ?_
    refine lv_goto (tgt := 25) hx hb dX7_lastTwoOf_11 (by decide) ?_
    exact W.lret hx hb hr (fun t ht hW => ⟨_, rfl, trivial, ht⟩) t_nil dX7_lastTwoOf_25
theorem dX7_size_0 : decode cX7_size 0 = .ok (.aload_n 0, 1) := by decide +kernel
theorem dX7_size_1 : decode cX7_size 1 = .ok (.getfield 28, 3) := by decide +kernel
theorem dX7_size_4 : decode cX7_size 4 = .ok (.ireturn, 1) := by decide +kernel
def mwX7_size : List Cond := .code yX7_size cX7_size 1 (some .int) :: ([.fieldLink RX7 28 "PatternGate$Rows" "size" "I"] ++ wsX70)
theorem fin_X7_size_X7 : ∀ w ∈ wsX70, w ∈ mwX7_size := fun w h => List.mem_cons_of_mem _ (List.mem_append_right _ h)
set_option maxHeartbeats 4000000 in
set_option maxRecDepth 100000 in
/-- Rows.size -/
theorem s_Rows_size (l : Launch) (dC : Nat → ClassId) (dI : Nat → Nat → Nat) (o ra : Nat) (cL : ClassId) (f : Nat → Int64) (n9 : Int32) (hz1 : 0 ≤ n9.toInt) (hz2 : n9.toInt ≤ 6) : Met l yX7_size mwX7_size ({ frames := 0, cells := 0, slots := 0, locals := 0 }) (va_Pc [.ref o] (fun U => va_P (dC, dI) vwCl ([(o, .inr (7, [.ref ra, .int n9])), (ra, .inl (cL, 6, .inr (.inl f)))]) U.heap ∧ va_K (dC, dI) vwCl ([(cL, .long)]) U)) (vp_Si (fun o => o = n9)) 0 0 (fun _ => False) := by
  refine Met.ofW (cc := cX7_size) (maxL := 1) (ret := (some .int)) (by decide +kernel) rfl ?_
  intro p e s m args below meth c s₁ B hml hv
  obtain ⟨rfl, hP, hK⟩ := hv
  have hx := B.exec
  have hb := B.bytes
  have hr := B.returns
  have hts := atoms_spec (ws := mwX7_size) B.pre
  have hown : s.vm.findClass RX7 = some m.cls := findClass_of_methodNamed B.named
  have hlocks := B.notSynchronized
  have hP : va_P (dC, dI) vwCl [(o, .inr (7, [.ref ra, .int n9])), (ra, .inl (cL, 6, .inr (.inl f)))] s.heap := hP
  have hK : va_K (dC, dI) vwCl [(cL, .long)] s := hK
  generalize hH : s.heap = H at hP ⊢
  have hl := lv_entry ([.ref o]) (n := 1) (Nat.le_of_ble_eq_true rfl)
  rw [lg_entry_eq]
  generalize (lg_sl ([.ref o]) ++ List.replicate (1 - (lg_sl ([.ref o])).length) Slot.unset).toArray = ls at hl ⊢
  have hl : lv_has ls 1 [(0, .ref o)] := hl
  refine lv_aload_n hx hb dX7_size_0 rfl (lv_at hl 0 rfl) ?_
  refine va_get (D := (dC, dI)) (ci := 7) (v := .int n9) (C := RX7) (T := TX7) (N := 2) hx hb hts fin_X7_size_X7 hown hK hP 0 rfl rfl 1 (by decide) (hts (.fieldLink RX7 28 "PatternGate$Rows" "size" "I") (List.mem_of_getElem? (i := 1) (by decide +kernel))) (fun _ h9 => h9) rfl dX7_size_1 ?_
  exact W.iret hx hb hr (fun t ht hW => ⟨_, rfl, rfl, ht.trans hH.symm⟩) t_nil dX7_size_4
theorem dX7_rowAt_0 : decode cX7_rowAt 0 = .ok (.iload_n 1, 1) := by decide +kernel
theorem dX7_rowAt_1 : decode cX7_rowAt 1 = .ok (.ifCond .lt 20, 3) := by decide +kernel
theorem dX7_rowAt_4 : decode cX7_rowAt 4 = .ok (.iload_n 1, 1) := by decide +kernel
theorem dX7_rowAt_5 : decode cX7_rowAt 5 = .ok (.aload_n 0, 1) := by decide +kernel
theorem dX7_rowAt_6 : decode cX7_rowAt 6 = .ok (.getfield 28, 3) := by decide +kernel
theorem dX7_rowAt_9 : decode cX7_rowAt 9 = .ok (.if_icmp .ge 12, 3) := by decide +kernel
theorem dX7_rowAt_12 : decode cX7_rowAt 12 = .ok (.aload_n 0, 1) := by decide +kernel
theorem dX7_rowAt_13 : decode cX7_rowAt 13 = .ok (.getfield 11, 3) := by decide +kernel
theorem dX7_rowAt_16 : decode cX7_rowAt 16 = .ok (.iload_n 1, 1) := by decide +kernel
theorem dX7_rowAt_17 : decode cX7_rowAt 17 = .ok (.laload, 1) := by decide +kernel
theorem dX7_rowAt_18 : decode cX7_rowAt 18 = .ok (.goto 4, 3) := by decide +kernel
theorem dX7_rowAt_21 : decode cX7_rowAt 21 = .ok (.lconst 0, 1) := by decide +kernel
theorem dX7_rowAt_22 : decode cX7_rowAt 22 = .ok (.lreturn, 1) := by decide +kernel
def mwX7_rowAt : List Cond := .code yX7_rowAt cX7_rowAt 2 (some .long) :: ([.fieldLink RX7 28 "PatternGate$Rows" "size" "I", .fieldLink RX7 11 "PatternGate$Rows" "row" "[J"] ++ wsX70)
theorem fin_X7_rowAt_X7 : ∀ w ∈ wsX70, w ∈ mwX7_rowAt := fun w h => List.mem_cons_of_mem _ (List.mem_append_right _ h)
set_option maxHeartbeats 4000000 in
set_option maxRecDepth 100000 in
/-- Rows.rowAt -/
theorem s_Rows_rowAt (l : Launch) (dC : Nat → ClassId) (dI : Nat → Nat → Nat) (o ra : Nat) (cL : ClassId) (f : Nat → Int64) (n9 : Int32) (i : Int32) (hz1 : 0 ≤ n9.toInt) (hz2 : n9.toInt ≤ 6) : Met l yX7_rowAt mwX7_rowAt ({ frames := 0, cells := 0, slots := 0, locals := 0 }) (va_Pc [.ref o, .int i] (fun U => va_P (dC, dI) vwCl ([(o, .inr (7, [.ref ra, .int n9])), (ra, .inl (cL, 6, .inr (.inl f)))]) U.heap ∧ va_K (dC, dI) vwCl ([(cL, .long)]) U)) (vp_Sl (fun o => True)) 0 0 (fun _ => False) := by
  refine Met.ofW (cc := cX7_rowAt) (maxL := 2) (ret := (some .long)) (by decide +kernel) rfl ?_
  intro p e s m args below meth c s₁ B hml hv
  obtain ⟨rfl, hP, hK⟩ := hv
  have hx := B.exec
  have hb := B.bytes
  have hr := B.returns
  have hts := atoms_spec (ws := mwX7_rowAt) B.pre
  have hown : s.vm.findClass RX7 = some m.cls := findClass_of_methodNamed B.named
  have hlocks := B.notSynchronized
  have hP : va_P (dC, dI) vwCl [(o, .inr (7, [.ref ra, .int n9])), (ra, .inl (cL, 6, .inr (.inl f)))] s.heap := hP
  have hK : va_K (dC, dI) vwCl [(cL, .long)] s := hK
  generalize hH : s.heap = H at hP ⊢
  have hl := lv_entry ([.ref o, .int i]) (n := 2) (Nat.le_of_ble_eq_true rfl)
  rw [lg_entry_eq]
  generalize (lg_sl ([.ref o, .int i]) ++ List.replicate (2 - (lg_sl ([.ref o, .int i])).length) Slot.unset).toArray = ls at hl ⊢
  have hl : lv_has ls 2 [(0, .ref o), (1, .int i)] := hl
  have rg_i := i_rng i
  refine lv_iload_n hx hb dX7_rowAt_0 rfl (lv_at hl 1 rfl) ?_
  refine lv_if_lt (tgt := 21) hx hb dX7_rowAt_1 (by decide) (fun k_1 => ?_) (fun k_1 => ?_)
  · have tk_1 := c_lt (a := i.toInt) (b := 0) rfl (by decide) k_1
    refine lv_lconst (v := 0) hx hb dX7_rowAt_21 (by decide) ?_
    exact W.lret hx hb hr (fun t ht hW => ⟨_, rfl, trivial, ht.trans hH.symm⟩) t_nil dX7_rowAt_22
  · have tk_1 := c_nlt (a := i.toInt) (b := 0) rfl (by decide) k_1
    refine lv_iload_n hx hb dX7_rowAt_4 rfl (lv_at hl 1 rfl) ?_
    refine lv_aload_n hx hb dX7_rowAt_5 rfl (lv_at hl 0 rfl) ?_
    refine va_get (D := (dC, dI)) (ci := 7) (v := .int n9) (C := RX7) (T := TX7) (N := 2) hx hb hts fin_X7_rowAt_X7 hown hK hP 0 rfl rfl 1 (by decide) (hts (.fieldLink RX7 28 "PatternGate$Rows" "size" "I") (List.mem_of_getElem? (i := 1) (by decide +kernel))) (fun _ h9 => h9) rfl dX7_rowAt_6 ?_
    refine lv_icmp_ge (tgt := 21) hx hb dX7_rowAt_9 (by decide) (fun k_2 => ?_) (fun k_2 => ?_)
    · have tk_2 := c_ge (a := i.toInt) (b := n9.toInt) rfl rfl k_2
      refine lv_lconst (v := 0) hx hb dX7_rowAt_21 (by decide) ?_
      exact W.lret hx hb hr (fun t ht hW => ⟨_, rfl, trivial, ht.trans hH.symm⟩) t_nil dX7_rowAt_22
    · have tk_2 := c_nge (a := i.toInt) (b := n9.toInt) rfl rfl k_2
      refine lv_aload_n hx hb dX7_rowAt_12 rfl (lv_at hl 0 rfl) ?_
      refine va_get (D := (dC, dI)) (ci := 7) (v := .ref ra) (C := RX7) (T := TX7) (N := 2) hx hb hts fin_X7_rowAt_X7 hown hK hP 0 rfl rfl 0 (by decide) (hts (.fieldLink RX7 11 "PatternGate$Rows" "row" "[J") (List.mem_of_getElem? (i := 2) (by decide +kernel))) (fun _ h9 => h9) rfl dX7_rowAt_13 ?_
      refine lv_iload_n hx hb dX7_rowAt_16 rfl (lv_at hl 1 rfl) ?_
      refine va_lald hx hb hK hP 1 0 rfl rfl (i := i) (vp_of (a := i.toInt) rfl (by omega) (by omega)) dX7_rowAt_17 ?_
      refine lv_topl (fun w_3 ew_3 => ?_)
      refine lv_goto (tgt := 22) hx hb dX7_rowAt_18 (by decide) ?_
      exact W.lret hx hb hr (fun t ht hW => ⟨_, rfl, trivial, ht.trans hH.symm⟩) t_nil dX7_rowAt_22
theorem dX7_clear_0 : decode cX7_clear 0 = .ok (.aload_n 0, 1) := by decide +kernel
theorem dX7_clear_1 : decode cX7_clear 1 = .ok (.iconst 0, 1) := by decide +kernel
theorem dX7_clear_2 : decode cX7_clear 2 = .ok (.putfield 28, 3) := by decide +kernel
theorem dX7_clear_5 : decode cX7_clear 5 = .ok (.return_, 1) := by decide +kernel
def mwX7_clear : List Cond := .code yX7_clear cX7_clear 1 none :: ([.fieldLink RX7 28 "PatternGate$Rows" "size" "I"] ++ wsX70)
theorem fin_X7_clear_X7 : ∀ w ∈ wsX70, w ∈ mwX7_clear := fun w h => List.mem_cons_of_mem _ (List.mem_append_right _ h)
set_option maxHeartbeats 4000000 in
set_option maxRecDepth 100000 in
/-- Rows.clear -/
theorem s_Rows_clear (l : Launch) (dC : Nat → ClassId) (dI : Nat → Nat → Nat) (o ra : Nat) (cL : ClassId) (f : Nat → Int64) (n9 : Int32) (sz : Nat) : Met l yX7_clear mwX7_clear ({ frames := 0, cells := 0, slots := 0, locals := 0 }) (va_Pc [.ref o] (fun U => U.heap.size = sz ∧ va_P (dC, dI) vwCl ([(o, .inr (7, [.ref ra, .int n9])), (ra, .inl (cL, 6, .inr (.inl f)))]) U.heap ∧ va_K (dC, dI) vwCl ([(cL, .long)]) U ∧ va_D (fun _ => True) ([(o, .inr (7, [.ref ra, .int n9])), (ra, .inl (cL, 6, .inr (.inl f)))]))) (va_Qv (fun (u : Int32) => 0 ≤ u.toInt ∧ u.toInt ≤ 6) (fun u t => ∃ (f9 : Nat → Int64), va_P (dC, dI) vwCl [(o, .inr (7, [.ref ra, .int u])), (ra, .inl (cL, 6, .inr (.inl f9)))] t.heap ∧ va_K (dC, dI) vwCl [(cL, .long)] t ∧ va_D (va_A ([(o, .inr (7, [.ref ra, .int n9])), (ra, .inl (cL, 6, .inr (.inl f)))]) sz) [(o, .inr (7, [.ref ra, .int u])), (ra, .inl (cL, 6, .inr (.inl f9)))]) (va_A ([(o, .inr (7, [.ref ra, .int n9])), (ra, .inl (cL, 6, .inr (.inl f)))]) sz)) 0 0 (va_A ([(o, .inr (7, [.ref ra, .int n9])), (ra, .inl (cL, 6, .inr (.inl f)))]) sz) := by
  refine Met.ofW (cc := cX7_clear) (maxL := 1) (ret := none) (by decide +kernel) rfl ?_
  intro p e s m args below meth c s₁ B hml hv
  obtain ⟨rfl, hsz, hP, hK, hD0⟩ := hv
  have hx := B.exec
  have hb := B.bytes
  have hr := B.returns
  have hts := atoms_spec (ws := mwX7_clear) B.pre
  have hown : s.vm.findClass RX7 = some m.cls := findClass_of_methodNamed B.named
  have hlocks := B.notSynchronized
  subst hsz
  have hD := hD0.self (sz := s.heap.size)
  generalize hAe : va_A ([(o, .inr (7, [.ref ra, .int n9])), (ra, .inl (cL, 6, .inr (.inl f)))]) s.heap.size = A at hD ⊢
  have hA : ∀ q : Nat, s.heap.size ≤ q → A q := fun q h => by rw [← hAe]; exact Or.inr h
  have hP : va_P (dC, dI) vwCl [(o, .inr (7, [.ref ra, .int n9])), (ra, .inl (cL, 6, .inr (.inl f)))] s.heap := hP
  have hD : va_D A [(o, .inr (7, [.ref ra, .int n9])), (ra, .inl (cL, 6, .inr (.inl f)))] := hD
  have hK : va_K (dC, dI) vwCl [(cL, .long)] s := hK
  generalize hH : s.heap = H at hP ⊢
  have hS : va_S A s.heap H [] := by rw [← hH]; exact va_S.rf
  have hl := lv_entry ([.ref o]) (n := 1) (Nat.le_of_ble_eq_true rfl)
  rw [lg_entry_eq]
  generalize (lg_sl ([.ref o]) ++ List.replicate (1 - (lg_sl ([.ref o])).length) Slot.unset).toArray = ls at hl ⊢
  have hl : lv_has ls 1 [(0, .ref o)] := hl
  refine lv_aload_n hx hb dX7_clear_0 rfl (lv_at hl 0 rfl) ?_
  refine lv_iconst (v := 0) hx hb dX7_clear_1 (by decide) ?_
  refine va_put (D := (dC, dI)) (ci := 7) (v := .int 0) (ty := .int) (C := RX7) (T := TX7) (N := 2) hx hb hts fin_X7_clear_X7 tyX7 tyX7_ok nmX7 hown hK hP hD hS 0 rfl rfl 1 (by decide) (hts (.fieldLink RX7 28 "PatternGate$Rows" "size" "I") (List.mem_of_getElem? (i := 1) (by decide +kernel))) (fun _ h9 => h9) rfl (by decide +kernel) rfl rfl (Nat.le_of_ble_eq_true rfl) dX7_clear_2 (fun H locs hP hD hS => ?_)
  have hP : va_P (dC, dI) vwCl [(o, .inr (7, [.ref ra, .int 0])), (ra, .inl (cL, 6, .inr (.inl f)))] H := hP
  have hD : va_D A [(o, .inr (7, [.ref ra, .int 0])), (ra, .inl (cL, 6, .inr (.inl f)))] := hD
  have hP9 := hP.sub (ws' := [(o, .inr (7, [.ref ra, .int 0])), (ra, .inl (cL, 6, .inr (.inl f)))]) [0, 1] rfl
  have hD9 := hD.sub (ws' := [(o, .inr (7, [.ref ra, .int 0])), (ra, .inl (cL, 6, .inr (.inl f)))]) [0, 1] (by decide) rfl
  have hK9 := hK.sub (tys' := [(cL, .long)]) [0] rfl
  exact W.vret hx hb hr (fun t ht hW => ⟨⟨0, rfl, (by decide), f, by rw [ht]; exact hP9, va_K.moved hW.alike hK9, hD9⟩, hS.F ht⟩) hS.2.2 dX7_clear_5
theorem dX7_setEmptyRow_0 : decode cX7_setEmptyRow 0 = .ok (.aload_n 0, 1) := by decide +kernel
theorem dX7_setEmptyRow_1 : decode cX7_setEmptyRow 1 = .ok (.iconst 1, 1) := by decide +kernel
theorem dX7_setEmptyRow_2 : decode cX7_setEmptyRow 2 = .ok (.putfield 28, 3) := by decide +kernel
theorem dX7_setEmptyRow_5 : decode cX7_setEmptyRow 5 = .ok (.aload_n 0, 1) := by decide +kernel
theorem dX7_setEmptyRow_6 : decode cX7_setEmptyRow 6 = .ok (.getfield 11, 3) := by decide +kernel
theorem dX7_setEmptyRow_9 : decode cX7_setEmptyRow 9 = .ok (.iconst 0, 1) := by decide +kernel
theorem dX7_setEmptyRow_10 : decode cX7_setEmptyRow 10 = .ok (.lconst 0, 1) := by decide +kernel
theorem dX7_setEmptyRow_11 : decode cX7_setEmptyRow 11 = .ok (.lastore, 1) := by decide +kernel
theorem dX7_setEmptyRow_12 : decode cX7_setEmptyRow 12 = .ok (.return_, 1) := by decide +kernel
def mwX7_setEmptyRow : List Cond := .code yX7_setEmptyRow cX7_setEmptyRow 1 none :: ([.fieldLink RX7 28 "PatternGate$Rows" "size" "I", .fieldLink RX7 11 "PatternGate$Rows" "row" "[J"] ++ wsX70)
theorem fin_X7_setEmptyRow_X7 : ∀ w ∈ wsX70, w ∈ mwX7_setEmptyRow := fun w h => List.mem_cons_of_mem _ (List.mem_append_right _ h)
set_option maxHeartbeats 4000000 in
set_option maxRecDepth 100000 in
/-- Rows.setEmptyRow -/
theorem s_Rows_setEmptyRow (l : Launch) (dC : Nat → ClassId) (dI : Nat → Nat → Nat) (o ra : Nat) (cL : ClassId) (f : Nat → Int64) (n9 : Int32) (sz : Nat) : Met l yX7_setEmptyRow mwX7_setEmptyRow ({ frames := 0, cells := 0, slots := 0, locals := 0 }) (va_Pc [.ref o] (fun U => U.heap.size = sz ∧ va_P (dC, dI) vwCl ([(o, .inr (7, [.ref ra, .int n9])), (ra, .inl (cL, 6, .inr (.inl f)))]) U.heap ∧ va_K (dC, dI) vwCl ([(cL, .long)]) U ∧ va_D (fun _ => True) ([(o, .inr (7, [.ref ra, .int n9])), (ra, .inl (cL, 6, .inr (.inl f)))]))) (va_Qv (fun (u : Int32) => 0 ≤ u.toInt ∧ u.toInt ≤ 6) (fun u t => ∃ (f9 : Nat → Int64), va_P (dC, dI) vwCl [(o, .inr (7, [.ref ra, .int u])), (ra, .inl (cL, 6, .inr (.inl f9)))] t.heap ∧ va_K (dC, dI) vwCl [(cL, .long)] t ∧ va_D (va_A ([(o, .inr (7, [.ref ra, .int n9])), (ra, .inl (cL, 6, .inr (.inl f)))]) sz) [(o, .inr (7, [.ref ra, .int u])), (ra, .inl (cL, 6, .inr (.inl f9)))]) (va_A ([(o, .inr (7, [.ref ra, .int n9])), (ra, .inl (cL, 6, .inr (.inl f)))]) sz)) 0 0 (va_A ([(o, .inr (7, [.ref ra, .int n9])), (ra, .inl (cL, 6, .inr (.inl f)))]) sz) := by
  refine Met.ofW (cc := cX7_setEmptyRow) (maxL := 1) (ret := none) (by decide +kernel) rfl ?_
  intro p e s m args below meth c s₁ B hml hv
  obtain ⟨rfl, hsz, hP, hK, hD0⟩ := hv
  have hx := B.exec
  have hb := B.bytes
  have hr := B.returns
  have hts := atoms_spec (ws := mwX7_setEmptyRow) B.pre
  have hown : s.vm.findClass RX7 = some m.cls := findClass_of_methodNamed B.named
  have hlocks := B.notSynchronized
  subst hsz
  have hD := hD0.self (sz := s.heap.size)
  generalize hAe : va_A ([(o, .inr (7, [.ref ra, .int n9])), (ra, .inl (cL, 6, .inr (.inl f)))]) s.heap.size = A at hD ⊢
  have hA : ∀ q : Nat, s.heap.size ≤ q → A q := fun q h => by rw [← hAe]; exact Or.inr h
  have hP : va_P (dC, dI) vwCl [(o, .inr (7, [.ref ra, .int n9])), (ra, .inl (cL, 6, .inr (.inl f)))] s.heap := hP
  have hD : va_D A [(o, .inr (7, [.ref ra, .int n9])), (ra, .inl (cL, 6, .inr (.inl f)))] := hD
  have hK : va_K (dC, dI) vwCl [(cL, .long)] s := hK
  generalize hH : s.heap = H at hP ⊢
  have hS : va_S A s.heap H [] := by rw [← hH]; exact va_S.rf
  have hl := lv_entry ([.ref o]) (n := 1) (Nat.le_of_ble_eq_true rfl)
  rw [lg_entry_eq]
  generalize (lg_sl ([.ref o]) ++ List.replicate (1 - (lg_sl ([.ref o])).length) Slot.unset).toArray = ls at hl ⊢
  have hl : lv_has ls 1 [(0, .ref o)] := hl
  refine lv_aload_n hx hb dX7_setEmptyRow_0 rfl (lv_at hl 0 rfl) ?_
  refine lv_iconst (v := 1) hx hb dX7_setEmptyRow_1 (by decide) ?_
  refine va_put (D := (dC, dI)) (ci := 7) (v := .int 1) (ty := .int) (C := RX7) (T := TX7) (N := 2) hx hb hts fin_X7_setEmptyRow_X7 tyX7 tyX7_ok nmX7 hown hK hP hD hS 0 rfl rfl 1 (by decide) (hts (.fieldLink RX7 28 "PatternGate$Rows" "size" "I") (List.mem_of_getElem? (i := 1) (by decide +kernel))) (fun _ h9 => h9) rfl (by decide +kernel) rfl rfl (Nat.le_of_ble_eq_true rfl) dX7_setEmptyRow_2 (fun H locs hP hD hS => ?_)
  have hP : va_P (dC, dI) vwCl [(o, .inr (7, [.ref ra, .int 1])), (ra, .inl (cL, 6, .inr (.inl f)))] H := hP
  have hD : va_D A [(o, .inr (7, [.ref ra, .int 1])), (ra, .inl (cL, 6, .inr (.inl f)))] := hD
  refine lv_aload_n hx hb dX7_setEmptyRow_5 rfl (lv_at hl 0 rfl) ?_
  refine va_get (D := (dC, dI)) (ci := 7) (v := .ref ra) (C := RX7) (T := TX7) (N := 2) hx hb hts fin_X7_setEmptyRow_X7 hown hK hP 0 rfl rfl 0 (by decide) (hts (.fieldLink RX7 11 "PatternGate$Rows" "row" "[J") (List.mem_of_getElem? (i := 2) (by decide +kernel))) (fun _ h9 => h9) rfl dX7_setEmptyRow_6 ?_
  refine lv_iconst (v := 0) hx hb dX7_setEmptyRow_9 (by decide) ?_
  refine lv_lconst (v := 0) hx hb dX7_setEmptyRow_10 (by decide) ?_
  refine va_last hx hb hK hP hD hS 1 0 rfl rfl (i := 0) (by unfold vp_in; decide +kernel) dX7_setEmptyRow_11 (fun H locs hP hD hS => ?_)
  generalize hf_f_1 : vp_updL f _ _ = f_1 at hP hD
  have hP : va_P (dC, dI) vwCl [(o, .inr (7, [.ref ra, .int 1])), (ra, .inl (cL, 6, .inr (.inl f_1)))] H := hP
  have hD : va_D A [(o, .inr (7, [.ref ra, .int 1])), (ra, .inl (cL, 6, .inr (.inl f_1)))] := hD
  have hP9 := hP.sub (ws' := [(o, .inr (7, [.ref ra, .int 1])), (ra, .inl (cL, 6, .inr (.inl f_1)))]) [0, 1] rfl
  have hD9 := hD.sub (ws' := [(o, .inr (7, [.ref ra, .int 1])), (ra, .inl (cL, 6, .inr (.inl f_1)))]) [0, 1] (by decide) rfl
  have hK9 := hK.sub (tys' := [(cL, .long)]) [0] rfl
  exact W.vret hx hb hr (fun t ht hW => ⟨⟨1, rfl, (by decide), f_1, by rw [ht]; exact hP9, va_K.moved hW.alike hK9, hD9⟩, hS.F ht⟩) hS.2.2 dX7_setEmptyRow_12
theorem dX7_add_0 : decode cX7_add 0 = .ok (.iconst 0, 1) := by decide +kernel
theorem dX7_add_1 : decode cX7_add 1 = .ok (.istore_n 3, 1) := by decide +kernel
theorem dX7_add_2 : decode cX7_add 2 = .ok (.iload_n 3, 1) := by decide +kernel
theorem dX7_add_3 : decode cX7_add 3 = .ok (.aload_n 0, 1) := by decide +kernel
theorem dX7_add_4 : decode cX7_add 4 = .ok (.getfield 28, 3) := by decide +kernel
theorem dX7_add_7 : decode cX7_add 7 = .ok (.if_icmp .ge 22, 3) := by decide +kernel
theorem dX7_add_10 : decode cX7_add 10 = .ok (.aload_n 0, 1) := by decide +kernel
theorem dX7_add_11 : decode cX7_add 11 = .ok (.getfield 11, 3) := by decide +kernel
theorem dX7_add_14 : decode cX7_add 14 = .ok (.iload_n 3, 1) := by decide +kernel
theorem dX7_add_15 : decode cX7_add 15 = .ok (.laload, 1) := by decide +kernel
theorem dX7_add_16 : decode cX7_add 16 = .ok (.lload_n 1, 1) := by decide +kernel
theorem dX7_add_17 : decode cX7_add 17 = .ok (.lcmp, 1) := by decide +kernel
theorem dX7_add_18 : decode cX7_add 18 = .ok (.ifCond .ne 5, 3) := by decide +kernel
theorem dX7_add_21 : decode cX7_add 21 = .ok (.iconst 1, 1) := by decide +kernel
theorem dX7_add_22 : decode cX7_add 22 = .ok (.ireturn, 1) := by decide +kernel
theorem dX7_add_23 : decode cX7_add 23 = .ok (.iinc 3 1, 3) := by decide +kernel
theorem dX7_add_26 : decode cX7_add 26 = .ok (.goto (-24), 3) := by decide +kernel
theorem dX7_add_29 : decode cX7_add 29 = .ok (.aload_n 0, 1) := by decide +kernel
theorem dX7_add_30 : decode cX7_add 30 = .ok (.getfield 28, 3) := by decide +kernel
theorem dX7_add_33 : decode cX7_add 33 = .ok (.bipush 6, 2) := by decide +kernel
theorem dX7_add_35 : decode cX7_add 35 = .ok (.if_icmp .lt 5, 3) := by decide +kernel
theorem dX7_add_38 : decode cX7_add 38 = .ok (.iconst 0, 1) := by decide +kernel
theorem dX7_add_39 : decode cX7_add 39 = .ok (.ireturn, 1) := by decide +kernel
theorem dX7_add_40 : decode cX7_add 40 = .ok (.aload_n 0, 1) := by decide +kernel
theorem dX7_add_41 : decode cX7_add 41 = .ok (.getfield 11, 3) := by decide +kernel
theorem dX7_add_44 : decode cX7_add 44 = .ok (.aload_n 0, 1) := by decide +kernel
theorem dX7_add_45 : decode cX7_add 45 = .ok (.getfield 28, 3) := by decide +kernel
theorem dX7_add_48 : decode cX7_add 48 = .ok (.lload_n 1, 1) := by decide +kernel
theorem dX7_add_49 : decode cX7_add 49 = .ok (.lastore, 1) := by decide +kernel
theorem dX7_add_50 : decode cX7_add 50 = .ok (.aload_n 0, 1) := by decide +kernel
theorem dX7_add_51 : decode cX7_add 51 = .ok (.dup, 1) := by decide +kernel
theorem dX7_add_52 : decode cX7_add 52 = .ok (.getfield 28, 3) := by decide +kernel
theorem dX7_add_55 : decode cX7_add 55 = .ok (.iconst 1, 1) := by decide +kernel
theorem dX7_add_56 : decode cX7_add 56 = .ok (.iadd, 1) := by decide +kernel
theorem dX7_add_57 : decode cX7_add 57 = .ok (.putfield 28, 3) := by decide +kernel
theorem dX7_add_60 : decode cX7_add 60 = .ok (.iconst 1, 1) := by decide +kernel
theorem dX7_add_61 : decode cX7_add 61 = .ok (.ireturn, 1) := by decide +kernel
def mwX7_add : List Cond := .code yX7_add cX7_add 4 (some .boolean) :: ([.fieldLink RX7 28 "PatternGate$Rows" "size" "I", .fieldLink RX7 11 "PatternGate$Rows" "row" "[J"] ++ wsX70)
theorem fin_X7_add_X7 : ∀ w ∈ wsX70, w ∈ mwX7_add := fun w h => List.mem_cons_of_mem _ (List.mem_append_right _ h)
set_option maxHeartbeats 4000000 in
set_option maxRecDepth 100000 in
/-- Rows.add -/
theorem s_Rows_add (l : Launch) (dC : Nat → ClassId) (dI : Nat → Nat → Nat) (o ra : Nat) (cL : ClassId) (f : Nat → Int64) (n9 : Int32) (sz : Nat) (w : Int64) (hz1 : 0 ≤ n9.toInt) (hz2 : n9.toInt ≤ 6) : Met l yX7_add mwX7_add ({ frames := 0, cells := 0, slots := 0, locals := 0 }) (va_Pc [.ref o, .long w] (fun U => U.heap.size = sz ∧ va_P (dC, dI) vwCl ([(o, .inr (7, [.ref ra, .int n9])), (ra, .inl (cL, 6, .inr (.inl f)))]) U.heap ∧ va_K (dC, dI) vwCl ([(cL, .long)]) U ∧ va_D (fun _ => True) ([(o, .inr (7, [.ref ra, .int n9])), (ra, .inl (cL, 6, .inr (.inl f)))]))) (va_Qi (fun (o9 : Int32) (u : Int32) => (o9 = 0 ∨ o9 = 1) ∧ 0 ≤ u.toInt ∧ u.toInt ≤ 6) (fun u t => ∃ (f9 : Nat → Int64), va_P (dC, dI) vwCl [(o, .inr (7, [.ref ra, .int u])), (ra, .inl (cL, 6, .inr (.inl f9)))] t.heap ∧ va_K (dC, dI) vwCl [(cL, .long)] t ∧ va_D (va_A ([(o, .inr (7, [.ref ra, .int n9])), (ra, .inl (cL, 6, .inr (.inl f)))]) sz) [(o, .inr (7, [.ref ra, .int u])), (ra, .inl (cL, 6, .inr (.inl f9)))]) (va_A ([(o, .inr (7, [.ref ra, .int n9])), (ra, .inl (cL, 6, .inr (.inl f)))]) sz)) 0 0 (va_A ([(o, .inr (7, [.ref ra, .int n9])), (ra, .inl (cL, 6, .inr (.inl f)))]) sz) := by
  refine Met.ofW (cc := cX7_add) (maxL := 4) (ret := (some .boolean)) (by decide +kernel) rfl ?_
  intro p e s m args below meth c s₁ B hml hv
  obtain ⟨rfl, hsz, hP, hK, hD0⟩ := hv
  have hx := B.exec
  have hb := B.bytes
  have hr := B.returns
  have hts := atoms_spec (ws := mwX7_add) B.pre
  have hown : s.vm.findClass RX7 = some m.cls := findClass_of_methodNamed B.named
  have hlocks := B.notSynchronized
  subst hsz
  have hD := hD0.self (sz := s.heap.size)
  generalize hAe : va_A ([(o, .inr (7, [.ref ra, .int n9])), (ra, .inl (cL, 6, .inr (.inl f)))]) s.heap.size = A at hD ⊢
  have hA : ∀ q : Nat, s.heap.size ≤ q → A q := fun q h => by rw [← hAe]; exact Or.inr h
  have hP : va_P (dC, dI) vwCl [(o, .inr (7, [.ref ra, .int n9])), (ra, .inl (cL, 6, .inr (.inl f)))] s.heap := hP
  have hD : va_D A [(o, .inr (7, [.ref ra, .int n9])), (ra, .inl (cL, 6, .inr (.inl f)))] := hD
  have hK : va_K (dC, dI) vwCl [(cL, .long)] s := hK
  generalize hH : s.heap = H at hP ⊢
  have hS : va_S A s.heap H [] := by rw [← hH]; exact va_S.rf
  have hl := lv_entry ([.ref o, .long w]) (n := 4) (Nat.le_of_ble_eq_true rfl)
  rw [lg_entry_eq]
  generalize (lg_sl ([.ref o, .long w]) ++ List.replicate (4 - (lg_sl ([.ref o, .long w])).length) Slot.unset).toArray = ls at hl ⊢
  have hl : lv_has ls 4 [(0, .ref o), (1, .long w)] := hl
  refine lv_iconst (v := 0) hx hb dX7_add_0 (by decide) ?_
  refine lv_istore_n (lv' := [(3, .int 0), (0, .ref o), (1, .long w)]) hx hb dX7_add_1 rfl hl (by decide) rfl (fun ls hl => ?_)
  have loop2 : ∀ (n2 : Nat) (ii : Int32), (0 ≤ ii.toInt) → ((n9.toInt - ii.toInt).toNat) < n2 → ∀ (H : Heap) (locs : List Loc) (ls : Array Slot), va_P (dC, dI) vwCl [(o, .inr (7, [.ref ra, .int n9])), (ra, .inl (cL, 6, .inr (.inl f)))] H → va_D A [(o, .inr (7, [.ref ra, .int n9])), (ra, .inl (cL, 6, .inr (.inl f)))] → va_S A s.heap H locs → lv_has ls 4 [(3, .int ii), (0, .ref o), (1, .long w)] → W p l e (headSpec mwX7_add ({ frames := 0, cells := 0, slots := 0, locals := 0 })).room s m ([.ref o, .long w]).toArray below meth c H locs 0 0 (MQ below (va_Qi (fun (o9 : Int32) (u : Int32) => (o9 = 0 ∨ o9 = 1) ∧ 0 ≤ u.toInt ∧ u.toInt ≤ 6) (fun u t => ∃ (f9 : Nat → Int64), va_P (dC, dI) vwCl [(o, .inr (7, [.ref ra, .int u])), (ra, .inl (cL, 6, .inr (.inl f9)))] t.heap ∧ va_K (dC, dI) vwCl [(cL, .long)] t ∧ va_D A [(o, .inr (7, [.ref ra, .int u])), (ra, .inl (cL, 6, .inr (.inl f9)))]) A) ([.ref o, .long w]).toArray s 0 0 A) (F0 m 2 ls []) := by
    intro n2
    induction n2 with
    | zero => intro ii v2_0 hm2; exact absurd hm2 (Nat.not_lt_zero _)
    | succ n2 ih2 =>
      intro ii v2_0 hm2 H locs ls hP hD hS hl
      have rg_ii := i_rng ii
      refine lv_iload_n hx hb dX7_add_2 rfl (lv_at hl 0 rfl) ?_
      refine lv_aload_n hx hb dX7_add_3 rfl (lv_at hl 1 rfl) ?_
      refine va_get (D := (dC, dI)) (ci := 7) (v := .int n9) (C := RX7) (T := TX7) (N := 2) hx hb hts fin_X7_add_X7 hown hK hP 0 rfl rfl 1 (by decide) (hts (.fieldLink RX7 28 "PatternGate$Rows" "size" "I") (List.mem_of_getElem? (i := 1) (by decide +kernel))) (fun _ h9 => h9) rfl dX7_add_4 ?_
      refine lv_icmp_ge (tgt := 29) hx hb dX7_add_7 (by decide) (fun k_1 => ?_) (fun k_1 => ?_)
      · have tk_1 := c_ge (a := ii.toInt) (b := n9.toInt) rfl rfl k_1
        refine lv_aload_n hx hb dX7_add_29 rfl (lv_at hl 1 rfl) ?_
        refine va_get (D := (dC, dI)) (ci := 7) (v := .int n9) (C := RX7) (T := TX7) (N := 2) hx hb hts fin_X7_add_X7 hown hK hP 0 rfl rfl 1 (by decide) (hts (.fieldLink RX7 28 "PatternGate$Rows" "size" "I") (List.mem_of_getElem? (i := 1) (by decide +kernel))) (fun _ h9 => h9) rfl dX7_add_30 ?_
        refine lv_bipush (v := 6) hx hb dX7_add_33 (by decide) ?_
        refine lv_icmp_lt (tgt := 40) hx hb dX7_add_35 (by decide) (fun k_2 => ?_) (fun k_2 => ?_)
        · have tk_2 := c_lt (a := n9.toInt) (b := 6) rfl (by decide) k_2
          refine lv_aload_n hx hb dX7_add_40 rfl (lv_at hl 1 rfl) ?_
          refine va_get (D := (dC, dI)) (ci := 7) (v := .ref ra) (C := RX7) (T := TX7) (N := 2) hx hb hts fin_X7_add_X7 hown hK hP 0 rfl rfl 0 (by decide) (hts (.fieldLink RX7 11 "PatternGate$Rows" "row" "[J") (List.mem_of_getElem? (i := 2) (by decide +kernel))) (fun _ h9 => h9) rfl dX7_add_41 ?_
          refine lv_aload_n hx hb dX7_add_44 rfl (lv_at hl 1 rfl) ?_
          refine va_get (D := (dC, dI)) (ci := 7) (v := .int n9) (C := RX7) (T := TX7) (N := 2) hx hb hts fin_X7_add_X7 hown hK hP 0 rfl rfl 1 (by decide) (hts (.fieldLink RX7 28 "PatternGate$Rows" "size" "I") (List.mem_of_getElem? (i := 1) (by decide +kernel))) (fun _ h9 => h9) rfl dX7_add_45 ?_
          refine lv_lload_n hx hb dX7_add_48 rfl (lv_at hl 2 rfl) ?_
          refine va_last hx hb hK hP hD hS 1 0 rfl rfl (i := n9) (vp_of (a := n9.toInt) rfl (by omega) (by omega)) dX7_add_49 (fun H locs hP hD hS => ?_)
          generalize hf_f_3 : vp_updL f _ _ = f_3 at hP hD
          have hP : va_P (dC, dI) vwCl [(o, .inr (7, [.ref ra, .int n9])), (ra, .inl (cL, 6, .inr (.inl f_3)))] H := hP
          have hD : va_D A [(o, .inr (7, [.ref ra, .int n9])), (ra, .inl (cL, 6, .inr (.inl f_3)))] := hD
          refine lv_aload_n hx hb dX7_add_50 rfl (lv_at hl 1 rfl) ?_
          refine lv_dup hx hb dX7_add_51 rfl ?_
          refine va_get (D := (dC, dI)) (ci := 7) (v := .int n9) (C := RX7) (T := TX7) (N := 2) hx hb hts fin_X7_add_X7 hown hK hP 0 rfl rfl 1 (by decide) (hts (.fieldLink RX7 28 "PatternGate$Rows" "size" "I") (List.mem_of_getElem? (i := 1) (by decide +kernel))) (fun _ h9 => h9) rfl dX7_add_52 ?_
          refine lv_iconst (v := 1) hx hb dX7_add_55 (by decide) ?_
          refine lv_iadd hx hb dX7_add_56 ?_
          refine lv_topi (fun y_4 ey_4 => ?_)
          first | have ty_4 := i_add (a := n9.toInt) (b := 1) rfl (by decide) ey_4 (by omega) (by omega) | skip
          refine va_put (D := (dC, dI)) (ci := 7) (v := .int y_4) (ty := .int) (C := RX7) (T := TX7) (N := 2) hx hb hts fin_X7_add_X7 tyX7 tyX7_ok nmX7 hown hK hP hD hS 0 rfl rfl 1 (by decide) (hts (.fieldLink RX7 28 "PatternGate$Rows" "size" "I") (List.mem_of_getElem? (i := 1) (by decide +kernel))) (fun _ h9 => h9) rfl (by decide +kernel) rfl rfl (Nat.le_of_ble_eq_true rfl) dX7_add_57 (fun H locs hP hD hS => ?_)
          have hP : va_P (dC, dI) vwCl [(o, .inr (7, [.ref ra, .int y_4])), (ra, .inl (cL, 6, .inr (.inl f_3)))] H := hP
          have hD : va_D A [(o, .inr (7, [.ref ra, .int y_4])), (ra, .inl (cL, 6, .inr (.inl f_3)))] := hD
          refine lv_iconst (v := 1) hx hb dX7_add_60 (by decide) ?_
          have hP9 := hP.sub (ws' := [(o, .inr (7, [.ref ra, .int y_4])), (ra, .inl (cL, 6, .inr (.inl f_3)))]) [0, 1] rfl
          have hD9 := hD.sub (ws' := [(o, .inr (7, [.ref ra, .int y_4])), (ra, .inl (cL, 6, .inr (.inl f_3)))]) [0, 1] (by decide) rfl
          have hK9 := hK.sub (tys' := [(cL, .long)]) [0] rfl
          exact W.zret hx hb hr (z_nar (by first | assumption | decide)) (fun t ht hW => ⟨⟨_, y_4, rfl, ⟨by first | exact Or.inl rfl | exact Or.inr rfl, by omega⟩, f_3, by rw [ht]; exact hP9, va_K.moved hW.alike hK9, hD9⟩, hS.F ht⟩) hS.2.2 dX7_add_61
        · have tk_2 := c_nlt (a := n9.toInt) (b := 6) rfl (by decide) k_2
          refine lv_iconst (v := 0) hx hb dX7_add_38 (by decide) ?_
          have hP9 := hP.sub (ws' := [(o, .inr (7, [.ref ra, .int n9])), (ra, .inl (cL, 6, .inr (.inl f)))]) [0, 1] rfl
          have hD9 := hD.sub (ws' := [(o, .inr (7, [.ref ra, .int n9])), (ra, .inl (cL, 6, .inr (.inl f)))]) [0, 1] (by decide) rfl
          have hK9 := hK.sub (tys' := [(cL, .long)]) [0] rfl
          exact W.zret hx hb hr (z_nar (by first | assumption | decide)) (fun t ht hW => ⟨⟨_, n9, rfl, ⟨by first | exact Or.inl rfl | exact Or.inr rfl, by omega⟩, f, by rw [ht]; exact hP9, va_K.moved hW.alike hK9, hD9⟩, hS.F ht⟩) hS.2.2 dX7_add_39
      · have tk_1 := c_nge (a := ii.toInt) (b := n9.toInt) rfl rfl k_1
        refine lv_aload_n hx hb dX7_add_10 rfl (lv_at hl 1 rfl) ?_
        refine va_get (D := (dC, dI)) (ci := 7) (v := .ref ra) (C := RX7) (T := TX7) (N := 2) hx hb hts fin_X7_add_X7 hown hK hP 0 rfl rfl 0 (by decide) (hts (.fieldLink RX7 11 "PatternGate$Rows" "row" "[J") (List.mem_of_getElem? (i := 2) (by decide +kernel))) (fun _ h9 => h9) rfl dX7_add_11 ?_
        refine lv_iload_n hx hb dX7_add_14 rfl (lv_at hl 0 rfl) ?_
        refine va_lald hx hb hK hP 1 0 rfl rfl (i := ii) (vp_of (a := ii.toInt) rfl (by omega) (by omega)) dX7_add_15 ?_
        refine lv_topl (fun w_5 ew_5 => ?_)
        refine lv_lload_n hx hb dX7_add_16 rfl (lv_at hl 2 rfl) ?_
        refine W.lcmp hx hb dX7_add_17 ?_
        refine lv_topi (fun y_6 ey_6 => ?_)
        have rg_y_6 := i_rng y_6
        refine lv_if_ne (tgt := 23) hx hb dX7_add_18 (by decide) (fun k_7 => ?_) (fun k_7 => ?_)
        · have tk_7 := c_ne (a := y_6.toInt) (b := 0) rfl (by decide) k_7
          obtain ⟨y_8, ey_8⟩ : ∃ y : Int32, y = ii + 1 := ⟨_, rfl⟩
          first | have ty_8 := i_add (a := ii.toInt) (b := 1) rfl (by decide) ey_8 (by omega) (by omega) | skip
          refine lv_iinc (v := y_8) (lv' := [(3, .int y_8), (0, .ref o), (1, .long w)]) hx hb dX7_add_23 hl (k := 0) rfl (by rw [ey_8]; rfl) (by decide) rfl (fun ls hl => ?_)
          refine lv_goto (tgt := 2) hx hb dX7_add_26 (by decide) ?_
          exact ih2 y_8 (by first | omega | decide | assumption) (by omega) _ _ ls hP hD hS (lv_sub hl [0, 1, 2] rfl)
        · have tk_7 := c_eq (a := y_6.toInt) (b := 0) rfl (by decide) k_7
          refine lv_iconst (v := 1) hx hb dX7_add_21 (by decide) ?_
          have hP9 := hP.sub (ws' := [(o, .inr (7, [.ref ra, .int n9])), (ra, .inl (cL, 6, .inr (.inl f)))]) [0, 1] rfl
          have hD9 := hD.sub (ws' := [(o, .inr (7, [.ref ra, .int n9])), (ra, .inl (cL, 6, .inr (.inl f)))]) [0, 1] (by decide) rfl
          have hK9 := hK.sub (tys' := [(cL, .long)]) [0] rfl
          exact W.zret hx hb hr (z_nar (by first | assumption | decide)) (fun t ht hW => ⟨⟨_, n9, rfl, ⟨by first | exact Or.inl rfl | exact Or.inr rfl, by omega⟩, f, by rw [ht]; exact hP9, va_K.moved hW.alike hK9, hD9⟩, hS.F ht⟩) hS.2.2 dX7_add_22
  have lit_8 : (0 : Int32).toInt = 0 := by decide
  exact loop2 _ 0 (by first | omega | decide | assumption) (Nat.lt_succ_self _) _ _ ls hP hD hS (lv_sub hl [0, 1, 2] rfl)
theorem dX7_take_0 : decode cX7_take 0 = .ok (.aload_n 0, 1) := by decide +kernel
theorem dX7_take_1 : decode cX7_take 1 = .ok (.aload_n 1, 1) := by decide +kernel
theorem dX7_take_2 : decode cX7_take 2 = .ok (.getfield 28, 3) := by decide +kernel
theorem dX7_take_5 : decode cX7_take 5 = .ok (.putfield 28, 3) := by decide +kernel
theorem dX7_take_8 : decode cX7_take 8 = .ok (.aload_n 1, 1) := by decide +kernel
theorem dX7_take_9 : decode cX7_take 9 = .ok (.getfield 11, 3) := by decide +kernel
theorem dX7_take_12 : decode cX7_take 12 = .ok (.iconst 0, 1) := by decide +kernel
theorem dX7_take_13 : decode cX7_take 13 = .ok (.aload_n 0, 1) := by decide +kernel
theorem dX7_take_14 : decode cX7_take 14 = .ok (.getfield 11, 3) := by decide +kernel
theorem dX7_take_17 : decode cX7_take 17 = .ok (.iconst 0, 1) := by decide +kernel
theorem dX7_take_18 : decode cX7_take 18 = .ok (.aload_n 0, 1) := by decide +kernel
theorem dX7_take_19 : decode cX7_take 19 = .ok (.getfield 28, 3) := by decide +kernel
theorem dX7_take_22 : decode cX7_take 22 = .ok (.invokestatic 32, 3) := by decide +kernel
theorem dX7_take_25 : decode cX7_take 25 = .ok (.return_, 1) := by decide +kernel
def mwX7_take : List Cond := .code yX7_take cX7_take 2 none :: ([.fieldLink RX7 28 "PatternGate$Rows" "size" "I", .fieldLink RX7 11 "PatternGate$Rows" "row" "[J", .methodLink RX7 32 arraycopyName, .native arraycopyName, .static arraycopyName, .initialized "java/lang/System"] ++ wsX70)
theorem fin_X7_take_X7 : ∀ w ∈ wsX70, w ∈ mwX7_take := fun w h => List.mem_cons_of_mem _ (List.mem_append_right _ h)
set_option maxHeartbeats 4000000 in
set_option maxRecDepth 100000 in
/-- Rows.take -/
theorem s_Rows_take (l : Launch) (dC : Nat → ClassId) (dI : Nat → Nat → Nat) (o1 r1 : Nat) (c1 : ClassId) (f1 : Nat → Int64) (n1 : Int32) (o2 r2 : Nat) (c2 : ClassId) (f2 : Nat → Int64) (n2 : Int32) (sz : Nat) (ha2 : 0 ≤ n2.toInt) (hb2 : n2.toInt ≤ 6) : Met l yX7_take mwX7_take ({ frames := 1, cells := 0, slots := 0, locals := 60 }) (va_Pc [.ref o1, .ref o2] (fun U => U.heap.size = sz ∧ va_P (dC, dI) vwCl ([(o1, .inr (7, [.ref r1, .int n1])), (r1, .inl (c1, 6, .inr (.inl f1))), (o2, .inr (7, [.ref r2, .int n2])), (r2, .inl (c2, 6, .inr (.inl f2)))]) U.heap ∧ va_K (dC, dI) vwCl ([(c1, .long), (c2, .long)]) U ∧ va_D (fun _ => True) ([(o1, .inr (7, [.ref r1, .int n1])), (r1, .inl (c1, 6, .inr (.inl f1))), (o2, .inr (7, [.ref r2, .int n2])), (r2, .inl (c2, 6, .inr (.inl f2)))]))) (va_Qv (fun (u : Int32) => 0 ≤ u.toInt ∧ u.toInt ≤ 6) (fun u t => ∃ (f9 : Nat → Int64), va_P (dC, dI) vwCl [(o1, .inr (7, [.ref r1, .int u])), (r1, .inl (c1, 6, .inr (.inl f9))), (o2, .inr (7, [.ref r2, .int n2])), (r2, .inl (c2, 6, .inr (.inl f2)))] t.heap ∧ va_K (dC, dI) vwCl [(c1, .long), (c2, .long)] t ∧ va_D (va_A ([(o1, .inr (7, [.ref r1, .int n1])), (r1, .inl (c1, 6, .inr (.inl f1))), (o2, .inr (7, [.ref r2, .int n2])), (r2, .inl (c2, 6, .inr (.inl f2)))]) sz) [(o1, .inr (7, [.ref r1, .int u])), (r1, .inl (c1, 6, .inr (.inl f9))), (o2, .inr (7, [.ref r2, .int n2])), (r2, .inl (c2, 6, .inr (.inl f2)))]) (va_A ([(o1, .inr (7, [.ref r1, .int n1])), (r1, .inl (c1, 6, .inr (.inl f1))), (o2, .inr (7, [.ref r2, .int n2])), (r2, .inl (c2, 6, .inr (.inl f2)))]) sz)) 0 0 (va_A ([(o1, .inr (7, [.ref r1, .int n1])), (r1, .inl (c1, 6, .inr (.inl f1))), (o2, .inr (7, [.ref r2, .int n2])), (r2, .inl (c2, 6, .inr (.inl f2)))]) sz) := by
  refine Met.ofW (cc := cX7_take) (maxL := 2) (ret := none) (by decide +kernel) rfl ?_
  intro p e s m args below meth c s₁ B hml hv
  obtain ⟨rfl, hsz, hP, hK, hD0⟩ := hv
  have hx := B.exec
  have hb := B.bytes
  have hr := B.returns
  have hts := atoms_spec (ws := mwX7_take) B.pre
  have hown : s.vm.findClass RX7 = some m.cls := findClass_of_methodNamed B.named
  have hlocks := B.notSynchronized
  subst hsz
  have hD := hD0.self (sz := s.heap.size)
  generalize hAe : va_A ([(o1, .inr (7, [.ref r1, .int n1])), (r1, .inl (c1, 6, .inr (.inl f1))), (o2, .inr (7, [.ref r2, .int n2])), (r2, .inl (c2, 6, .inr (.inl f2)))]) s.heap.size = A at hD ⊢
  have hA : ∀ q : Nat, s.heap.size ≤ q → A q := fun q h => by rw [← hAe]; exact Or.inr h
  have hP : va_P (dC, dI) vwCl [(o1, .inr (7, [.ref r1, .int n1])), (r1, .inl (c1, 6, .inr (.inl f1))), (o2, .inr (7, [.ref r2, .int n2])), (r2, .inl (c2, 6, .inr (.inl f2)))] s.heap := hP
  have hD : va_D A [(o1, .inr (7, [.ref r1, .int n1])), (r1, .inl (c1, 6, .inr (.inl f1))), (o2, .inr (7, [.ref r2, .int n2])), (r2, .inl (c2, 6, .inr (.inl f2)))] := hD
  have hK : va_K (dC, dI) vwCl [(c1, .long), (c2, .long)] s := hK
  generalize hH : s.heap = H at hP ⊢
  have hS : va_S A s.heap H [] := by rw [← hH]; exact va_S.rf
  have hl := lv_entry ([.ref o1, .ref o2]) (n := 2) (Nat.le_of_ble_eq_true rfl)
  rw [lg_entry_eq]
  generalize (lg_sl ([.ref o1, .ref o2]) ++ List.replicate (2 - (lg_sl ([.ref o1, .ref o2])).length) Slot.unset).toArray = ls at hl ⊢
  have hl : lv_has ls 2 [(0, .ref o1), (1, .ref o2)] := hl
  refine lv_aload_n hx hb dX7_take_0 rfl (lv_at hl 0 rfl) ?_
  refine lv_aload_n hx hb dX7_take_1 rfl (lv_at hl 1 rfl) ?_
  refine va_get (D := (dC, dI)) (ci := 7) (v := .int n2) (C := RX7) (T := TX7) (N := 2) hx hb hts fin_X7_take_X7 hown hK hP 2 rfl rfl 1 (by decide) (hts (.fieldLink RX7 28 "PatternGate$Rows" "size" "I") (List.mem_of_getElem? (i := 1) (by decide +kernel))) (fun _ h9 => h9) rfl dX7_take_2 ?_
  refine va_put (D := (dC, dI)) (ci := 7) (v := .int n2) (ty := .int) (C := RX7) (T := TX7) (N := 2) hx hb hts fin_X7_take_X7 tyX7 tyX7_ok nmX7 hown hK hP hD hS 0 rfl rfl 1 (by decide) (hts (.fieldLink RX7 28 "PatternGate$Rows" "size" "I") (List.mem_of_getElem? (i := 1) (by decide +kernel))) (fun _ h9 => h9) rfl (by decide +kernel) rfl rfl (Nat.le_of_ble_eq_true rfl) dX7_take_5 (fun H locs hP hD hS => ?_)
  have hP : va_P (dC, dI) vwCl [(o1, .inr (7, [.ref r1, .int n2])), (r1, .inl (c1, 6, .inr (.inl f1))), (o2, .inr (7, [.ref r2, .int n2])), (r2, .inl (c2, 6, .inr (.inl f2)))] H := hP
  have hD : va_D A [(o1, .inr (7, [.ref r1, .int n2])), (r1, .inl (c1, 6, .inr (.inl f1))), (o2, .inr (7, [.ref r2, .int n2])), (r2, .inl (c2, 6, .inr (.inl f2)))] := hD
  refine lv_aload_n hx hb dX7_take_8 rfl (lv_at hl 1 rfl) ?_
  refine va_get (D := (dC, dI)) (ci := 7) (v := .ref r2) (C := RX7) (T := TX7) (N := 2) hx hb hts fin_X7_take_X7 hown hK hP 2 rfl rfl 0 (by decide) (hts (.fieldLink RX7 11 "PatternGate$Rows" "row" "[J") (List.mem_of_getElem? (i := 2) (by decide +kernel))) (fun _ h9 => h9) rfl dX7_take_9 ?_
  refine lv_iconst (v := 0) hx hb dX7_take_12 (by decide) ?_
  refine lv_aload_n hx hb dX7_take_13 rfl (lv_at hl 0 rfl) ?_
  refine va_get (D := (dC, dI)) (ci := 7) (v := .ref r1) (C := RX7) (T := TX7) (N := 2) hx hb hts fin_X7_take_X7 hown hK hP 0 rfl rfl 0 (by decide) (hts (.fieldLink RX7 11 "PatternGate$Rows" "row" "[J") (List.mem_of_getElem? (i := 2) (by decide +kernel))) (fun _ h9 => h9) rfl dX7_take_14 ?_
  refine lv_iconst (v := 0) hx hb dX7_take_17 (by decide) ?_
  refine lv_aload_n hx hb dX7_take_18 rfl (lv_at hl 0 rfl) ?_
  refine va_get (D := (dC, dI)) (ci := 7) (v := .int n2) (C := RX7) (T := TX7) (N := 2) hx hb hts fin_X7_take_X7 hown hK hP 0 rfl rfl 1 (by decide) (hts (.fieldLink RX7 28 "PatternGate$Rows" "size" "I") (List.mem_of_getElem? (i := 1) (by decide +kernel))) (fun _ h9 => h9) rfl dX7_take_19 ?_
  refine va_copyl hx hb (hml.trans hl.1.symm) hown (hts (.methodLink RX7 32 arraycopyName) (List.mem_of_getElem? (i := 3) (by decide +kernel))) (hts (.native arraycopyName) (List.mem_of_getElem? (i := 4) (by decide +kernel))) (hts (.static arraycopyName) (List.mem_of_getElem? (i := 5) (by decide +kernel))) (hts (.initialized "java/lang/System") (List.mem_of_getElem? (i := 6) (by decide +kernel))) hK hP hD hS 3 1 1 0 rfl rfl rfl rfl rfl (i_nn (a := 0) (by decide) (by omega)) (i_nn (a := 0) (by decide) (by omega)) (i_nn (a := n2.toInt) rfl (by omega)) (cp_le (a := 0) (b := n2.toInt) (by decide) rfl (by omega) (by omega) (by omega)) (cp_le (a := 0) (b := n2.toInt) (by decide) rfl (by omega) (by omega) (by omega)) (fun _ _ => rfl) (Nat.le_of_ble_eq_true rfl) (by decide +kernel) dX7_take_22 (fun H locs hP hD hS => ?_)
  generalize hf_f_1 : va_cpy _ _ _ _ _ = f_1 at hP hD
  have hP : va_P (dC, dI) vwCl [(o1, .inr (7, [.ref r1, .int n2])), (r1, .inl (c1, 6, .inr (.inl f_1))), (o2, .inr (7, [.ref r2, .int n2])), (r2, .inl (c2, 6, .inr (.inl f2)))] H := hP
  have hD : va_D A [(o1, .inr (7, [.ref r1, .int n2])), (r1, .inl (c1, 6, .inr (.inl f_1))), (o2, .inr (7, [.ref r2, .int n2])), (r2, .inl (c2, 6, .inr (.inl f2)))] := hD
  have hP9 := hP.sub (ws' := [(o1, .inr (7, [.ref r1, .int n2])), (r1, .inl (c1, 6, .inr (.inl f_1))), (o2, .inr (7, [.ref r2, .int n2])), (r2, .inl (c2, 6, .inr (.inl f2)))]) [0, 1, 2, 3] rfl
  have hD9 := hD.sub (ws' := [(o1, .inr (7, [.ref r1, .int n2])), (r1, .inl (c1, 6, .inr (.inl f_1))), (o2, .inr (7, [.ref r2, .int n2])), (r2, .inl (c2, 6, .inr (.inl f2)))]) [0, 1, 2, 3] (by decide) rfl
  have hK9 := hK.sub (tys' := [(c1, .long), (c2, .long)]) [0, 1] rfl
  exact W.vret hx hb hr (fun t ht hW => ⟨⟨n2, rfl, (by omega), f_1, by rw [ht]; exact hP9, va_K.moved hW.alike hK9, hD9⟩, hS.F ht⟩) hS.2.2 dX7_take_25
theorem dX7_addAll_0 : decode cX7_addAll 0 = .ok (.iconst 0, 1) := by decide +kernel
theorem dX7_addAll_1 : decode cX7_addAll 1 = .ok (.istore_n 2, 1) := by decide +kernel
theorem dX7_addAll_2 : decode cX7_addAll 2 = .ok (.iload_n 2, 1) := by decide +kernel
theorem dX7_addAll_3 : decode cX7_addAll 3 = .ok (.aload_n 1, 1) := by decide +kernel
theorem dX7_addAll_4 : decode cX7_addAll 4 = .ok (.getfield 28, 3) := by decide +kernel
theorem dX7_addAll_7 : decode cX7_addAll 7 = .ok (.if_icmp .ge 24, 3) := by decide +kernel
theorem dX7_addAll_10 : decode cX7_addAll 10 = .ok (.aload_n 0, 1) := by decide +kernel
theorem dX7_addAll_11 : decode cX7_addAll 11 = .ok (.aload_n 1, 1) := by decide +kernel
theorem dX7_addAll_12 : decode cX7_addAll 12 = .ok (.getfield 11, 3) := by decide +kernel
theorem dX7_addAll_15 : decode cX7_addAll 15 = .ok (.iload_n 2, 1) := by decide +kernel
theorem dX7_addAll_16 : decode cX7_addAll 16 = .ok (.laload, 1) := by decide +kernel
theorem dX7_addAll_17 : decode cX7_addAll 17 = .ok (.invokevirtual 38, 3) := by decide +kernel
theorem dX7_addAll_20 : decode cX7_addAll 20 = .ok (.ifCond .ne 5, 3) := by decide +kernel
theorem dX7_addAll_23 : decode cX7_addAll 23 = .ok (.iconst 0, 1) := by decide +kernel
theorem dX7_addAll_24 : decode cX7_addAll 24 = .ok (.ireturn, 1) := by decide +kernel
theorem dX7_addAll_25 : decode cX7_addAll 25 = .ok (.iinc 2 1, 3) := by decide +kernel
theorem dX7_addAll_28 : decode cX7_addAll 28 = .ok (.goto (-26), 3) := by decide +kernel
theorem dX7_addAll_31 : decode cX7_addAll 31 = .ok (.iconst 1, 1) := by decide +kernel
theorem dX7_addAll_32 : decode cX7_addAll 32 = .ok (.ireturn, 1) := by decide +kernel
def mwX7_addAll : List Cond := .code yX7_addAll cX7_addAll 3 (some .boolean) :: ([.fieldLink RX7 28 "PatternGate$Rows" "size" "I", .fieldLink RX7 11 "PatternGate$Rows" "row" "[J", .code yX7_add cX7_add 4 (some .boolean), .methodLink RX7 38 yX7_add, .instanceMethod yX7_add, .selects RX7 yX7_add yX7_add, .initialized RX7] ++ wsX70)
theorem fin_X7_addAll_X7 : ∀ w ∈ wsX70, w ∈ mwX7_addAll := fun w h => List.mem_cons_of_mem _ (List.mem_append_right _ h)
set_option maxRecDepth 20000 in
theorem mg_X7_addAll_X7_add_38 : GoodIn mwX7_addAll (wsV RX7 38 RX7 yX7_add mwX7_add) := goodIn_r _ [4, 5, 6, 7, 3, 1, 2, 8, 9] (by decide +kernel) (by decide +kernel)
set_option maxHeartbeats 4000000 in
set_option maxRecDepth 100000 in
/-- Rows.addAll -/
theorem s_Rows_addAll (l : Launch) (dC : Nat → ClassId) (dI : Nat → Nat → Nat) (o1 r1 : Nat) (c1 : ClassId) (f1 : Nat → Int64) (n1 : Int32) (o2 r2 : Nat) (c2 : ClassId) (f2 : Nat → Int64) (n2 : Int32) (sz : Nat) (ha1 : 0 ≤ n1.toInt) (hb1 : n1.toInt ≤ 6) (ha2 : 0 ≤ n2.toInt) (hb2 : n2.toInt ≤ 6) : Met l yX7_addAll mwX7_addAll ({ frames := 1, cells := 0, slots := 0, locals := 60 }) (va_Pc [.ref o1, .ref o2] (fun U => U.heap.size = sz ∧ va_P (dC, dI) vwCl ([(o1, .inr (7, [.ref r1, .int n1])), (r1, .inl (c1, 6, .inr (.inl f1))), (o2, .inr (7, [.ref r2, .int n2])), (r2, .inl (c2, 6, .inr (.inl f2)))]) U.heap ∧ va_K (dC, dI) vwCl ([(c1, .long), (c2, .long)]) U ∧ va_D (fun _ => True) ([(o1, .inr (7, [.ref r1, .int n1])), (r1, .inl (c1, 6, .inr (.inl f1))), (o2, .inr (7, [.ref r2, .int n2])), (r2, .inl (c2, 6, .inr (.inl f2)))]))) (va_Qi (fun (o9 : Int32) (u : Int32) => (o9 = 0 ∨ o9 = 1) ∧ 0 ≤ u.toInt ∧ u.toInt ≤ 6) (fun u t => ∃ (f9 : Nat → Int64), va_P (dC, dI) vwCl [(o1, .inr (7, [.ref r1, .int u])), (r1, .inl (c1, 6, .inr (.inl f9))), (o2, .inr (7, [.ref r2, .int n2])), (r2, .inl (c2, 6, .inr (.inl f2)))] t.heap ∧ va_K (dC, dI) vwCl [(c1, .long), (c2, .long)] t ∧ va_D (va_A ([(o1, .inr (7, [.ref r1, .int n1])), (r1, .inl (c1, 6, .inr (.inl f1))), (o2, .inr (7, [.ref r2, .int n2])), (r2, .inl (c2, 6, .inr (.inl f2)))]) sz) [(o1, .inr (7, [.ref r1, .int u])), (r1, .inl (c1, 6, .inr (.inl f9))), (o2, .inr (7, [.ref r2, .int n2])), (r2, .inl (c2, 6, .inr (.inl f2)))]) (va_A ([(o1, .inr (7, [.ref r1, .int n1])), (r1, .inl (c1, 6, .inr (.inl f1))), (o2, .inr (7, [.ref r2, .int n2])), (r2, .inl (c2, 6, .inr (.inl f2)))]) sz)) 0 0 (va_A ([(o1, .inr (7, [.ref r1, .int n1])), (r1, .inl (c1, 6, .inr (.inl f1))), (o2, .inr (7, [.ref r2, .int n2])), (r2, .inl (c2, 6, .inr (.inl f2)))]) sz) := by
  refine Met.ofW (cc := cX7_addAll) (maxL := 3) (ret := (some .boolean)) (by decide +kernel) rfl ?_
  intro p e s m args below meth c s₁ B hml hv
  obtain ⟨rfl, hsz, hP, hK, hD0⟩ := hv
  have hx := B.exec
  have hb := B.bytes
  have hr := B.returns
  have hts := atoms_spec (ws := mwX7_addAll) B.pre
  have hown : s.vm.findClass RX7 = some m.cls := findClass_of_methodNamed B.named
  have hlocks := B.notSynchronized
  subst hsz
  have hD := hD0.self (sz := s.heap.size)
  generalize hAe : va_A ([(o1, .inr (7, [.ref r1, .int n1])), (r1, .inl (c1, 6, .inr (.inl f1))), (o2, .inr (7, [.ref r2, .int n2])), (r2, .inl (c2, 6, .inr (.inl f2)))]) s.heap.size = A at hD ⊢
  have hA : ∀ q : Nat, s.heap.size ≤ q → A q := fun q h => by rw [← hAe]; exact Or.inr h
  have hP : va_P (dC, dI) vwCl [(o1, .inr (7, [.ref r1, .int n1])), (r1, .inl (c1, 6, .inr (.inl f1))), (o2, .inr (7, [.ref r2, .int n2])), (r2, .inl (c2, 6, .inr (.inl f2)))] s.heap := hP
  have hD : va_D A [(o1, .inr (7, [.ref r1, .int n1])), (r1, .inl (c1, 6, .inr (.inl f1))), (o2, .inr (7, [.ref r2, .int n2])), (r2, .inl (c2, 6, .inr (.inl f2)))] := hD
  have hK : va_K (dC, dI) vwCl [(c1, .long), (c2, .long)] s := hK
  generalize hH : s.heap = H at hP ⊢
  have hS : va_S A s.heap H [] := by rw [← hH]; exact va_S.rf
  have hl := lv_entry ([.ref o1, .ref o2]) (n := 3) (Nat.le_of_ble_eq_true rfl)
  rw [lg_entry_eq]
  generalize (lg_sl ([.ref o1, .ref o2]) ++ List.replicate (3 - (lg_sl ([.ref o1, .ref o2])).length) Slot.unset).toArray = ls at hl ⊢
  have hl : lv_has ls 3 [(0, .ref o1), (1, .ref o2)] := hl
  refine lv_iconst (v := 0) hx hb dX7_addAll_0 (by decide) ?_
  refine lv_istore_n (lv' := [(2, .int 0), (0, .ref o1), (1, .ref o2)]) hx hb dX7_addAll_1 rfl hl (by decide) rfl (fun ls hl => ?_)
  have loop2 : ∀ (n_2 : Nat) (ii z2 : Int32) (g2 : Nat → Int64), (0 ≤ ii.toInt) → (0 ≤ z2.toInt) → (z2.toInt ≤ 6) → ((n2.toInt - ii.toInt).toNat) < n_2 → ∀ (H : Heap) (locs : List Loc) (ls : Array Slot), va_P (dC, dI) vwCl [(o1, .inr (7, [.ref r1, .int z2])), (r1, .inl (c1, 6, .inr (.inl g2))), (o2, .inr (7, [.ref r2, .int n2])), (r2, .inl (c2, 6, .inr (.inl f2)))] H → va_D A [(o1, .inr (7, [.ref r1, .int z2])), (r1, .inl (c1, 6, .inr (.inl g2))), (o2, .inr (7, [.ref r2, .int n2])), (r2, .inl (c2, 6, .inr (.inl f2)))] → va_S A s.heap H locs → lv_has ls 3 [(2, .int ii), (0, .ref o1), (1, .ref o2)] → W p l e (headSpec mwX7_addAll ({ frames := 1, cells := 0, slots := 0, locals := 60 })).room s m ([.ref o1, .ref o2]).toArray below meth c H locs 0 0 (MQ below (va_Qi (fun (o9 : Int32) (u : Int32) => (o9 = 0 ∨ o9 = 1) ∧ 0 ≤ u.toInt ∧ u.toInt ≤ 6) (fun u t => ∃ (f9 : Nat → Int64), va_P (dC, dI) vwCl [(o1, .inr (7, [.ref r1, .int u])), (r1, .inl (c1, 6, .inr (.inl f9))), (o2, .inr (7, [.ref r2, .int n2])), (r2, .inl (c2, 6, .inr (.inl f2)))] t.heap ∧ va_K (dC, dI) vwCl [(c1, .long), (c2, .long)] t ∧ va_D A [(o1, .inr (7, [.ref r1, .int u])), (r1, .inl (c1, 6, .inr (.inl f9))), (o2, .inr (7, [.ref r2, .int n2])), (r2, .inl (c2, 6, .inr (.inl f2)))]) A) ([.ref o1, .ref o2]).toArray s 0 0 A) (F0 m 2 ls []) := by
    intro n_2
    induction n_2 with
    | zero => intro ii z2 g2 v2_0 v2_1 v2_2 hm2; exact absurd hm2 (Nat.not_lt_zero _)
    | succ n_2 ih2 =>
      intro ii z2 g2 v2_0 v2_1 v2_2 hm2 H locs ls hP hD hS hl
      have rg_ii := i_rng ii
      have rg_z2 := i_rng z2
      refine lv_iload_n hx hb dX7_addAll_2 rfl (lv_at hl 0 rfl) ?_
      refine lv_aload_n hx hb dX7_addAll_3 rfl (lv_at hl 2 rfl) ?_
      refine va_get (D := (dC, dI)) (ci := 7) (v := .int n2) (C := RX7) (T := TX7) (N := 2) hx hb hts fin_X7_addAll_X7 hown hK hP 2 rfl rfl 1 (by decide) (hts (.fieldLink RX7 28 "PatternGate$Rows" "size" "I") (List.mem_of_getElem? (i := 1) (by decide +kernel))) (fun _ h9 => h9) rfl dX7_addAll_4 ?_
      refine lv_icmp_ge (tgt := 31) hx hb dX7_addAll_7 (by decide) (fun k_1 => ?_) (fun k_1 => ?_)
      · have tk_1 := c_ge (a := ii.toInt) (b := n2.toInt) rfl rfl k_1
        refine lv_iconst (v := 1) hx hb dX7_addAll_31 (by decide) ?_
        have hP9 := hP.sub (ws' := [(o1, .inr (7, [.ref r1, .int z2])), (r1, .inl (c1, 6, .inr (.inl g2))), (o2, .inr (7, [.ref r2, .int n2])), (r2, .inl (c2, 6, .inr (.inl f2)))]) [0, 1, 2, 3] rfl
        have hD9 := hD.sub (ws' := [(o1, .inr (7, [.ref r1, .int z2])), (r1, .inl (c1, 6, .inr (.inl g2))), (o2, .inr (7, [.ref r2, .int n2])), (r2, .inl (c2, 6, .inr (.inl f2)))]) [0, 1, 2, 3] (by decide) rfl
        have hK9 := hK.sub (tys' := [(c1, .long), (c2, .long)]) [0, 1] rfl
        exact W.zret hx hb hr (z_nar (by first | assumption | decide)) (fun t ht hW => ⟨⟨_, z2, rfl, ⟨by first | exact Or.inl rfl | exact Or.inr rfl, by omega⟩, g2, by rw [ht]; exact hP9, va_K.moved hW.alike hK9, hD9⟩, hS.F ht⟩) hS.2.2 dX7_addAll_32
      · have tk_1 := c_nge (a := ii.toInt) (b := n2.toInt) rfl rfl k_1
        refine lv_aload_n hx hb dX7_addAll_10 rfl (lv_at hl 1 rfl) ?_
        refine lv_aload_n hx hb dX7_addAll_11 rfl (lv_at hl 2 rfl) ?_
        refine va_get (D := (dC, dI)) (ci := 7) (v := .ref r2) (C := RX7) (T := TX7) (N := 2) hx hb hts fin_X7_addAll_X7 hown hK hP 2 rfl rfl 0 (by decide) (hts (.fieldLink RX7 11 "PatternGate$Rows" "row" "[J") (List.mem_of_getElem? (i := 2) (by decide +kernel))) (fun _ h9 => h9) rfl dX7_addAll_12 ?_
        refine lv_iload_n hx hb dX7_addAll_15 rfl (lv_at hl 0 rfl) ?_
        refine va_lald hx hb hK hP 3 1 rfl rfl (i := ii) (vp_of (a := ii.toInt) rfl (by omega) (by omega)) dX7_addAll_16 ?_
        refine lv_topl (fun w_2 ew_2 => ?_)
        have hPc := hP.sub (ws' := [(o1, .inr (7, [.ref r1, .int z2])), (r1, .inl (c1, 6, .inr (.inl g2)))]) [0, 1] rfl
        have hKc := hK.sub (tys' := [(c1, .long)]) [0] rfl
        have hDc := hD.sub (ws' := [(o1, .inr (7, [.ref r1, .int z2])), (r1, .inl (c1, 6, .inr (.inl g2)))]) [0, 1] (by decide) rfl
        have hFc := va_free (wc := [(o1, .inr (7, [.ref r1, .int z2])), (r1, .inl (c1, 6, .inr (.inl g2)))]) hD hS hA [0, 1] rfl
        refine va_calli (va_runV (As := [.long w_2]) (rest := []) ⟨hx, hb, hml, hown, hts⟩ (s_Rows_add l dC dI o1 r1 c1 g2 z2 H.size w_2 (by first | omega | decide) (by first | omega | decide)) (cwV 1 hts mg_X7_addAll_X7_add_38 rfl rfl rfl (by decide +kernel) ⟨Nat.le_of_ble_eq_true rfl, Nat.le_of_ble_eq_true rfl⟩) ⟨fun a U g mk q => by obtain ⟨q0, q1, qP, qK, qD⟩ := q; exact ⟨q0, q1, qP, va_K.moved (u := U) (U := U.calling g mk a) (Vm.Alike.refl U.vm) qK, qD⟩, va_recv hKc hPc (ci := 7) (q0 := 0) rfl rfl, fun U hU hW => ⟨rfl, by rw [hU], by rw [hU]; exact hPc, va_K.moved hW.alike hKc, hDc.weaken (fun _ _ _ _ => trivial)⟩⟩ rfl rfl hl.1 rfl (lv_room (Nat.le_of_ble_eq_true rfl)) dX7_addAll_17 ⟨Nat.le_of_ble_eq_true rfl, Nat.le_of_ble_eq_true rfl⟩) hS (fun q _ h => hFc q h) hFc (fun r_4 u t H1 locs ht hvm hw hB hz1 hk1 hS => ?_)
        obtain ⟨f_6, hP1, hK1, hD1⟩ := hB
        rw [ht] at hP1
        generalize u = u_5 at hw hP1 hD1
        have hu_5 := hw
        obtain ⟨hP, hD⟩ := va_join (wr := [(o2, .inr (7, [.ref r2, .int n2])), (r2, .inl (c2, 6, .inr (.inl f2)))]) (w1 := [(o1, .inr (7, [.ref r1, .int u_5])), (r1, .inl (c1, 6, .inr (.inl f_6)))]) hP hD [0, 1] [2, 3] rfl rfl (by decide) (by decide) hk1 hFc hP1 hD1
        generalize H1 = H at hP hS ⊢
        have hP : va_P (dC, dI) vwCl [(o2, .inr (7, [.ref r2, .int n2])), (r2, .inl (c2, 6, .inr (.inl f2))), (o1, .inr (7, [.ref r1, .int u_5])), (r1, .inl (c1, 6, .inr (.inl f_6)))] H := hP
        have hD : va_D A [(o2, .inr (7, [.ref r2, .int n2])), (r2, .inl (c2, 6, .inr (.inl f2))), (o1, .inr (7, [.ref r1, .int u_5])), (r1, .inl (c1, 6, .inr (.inl f_6)))] := hD
        refine lv_if_ne (tgt := 25) hx hb dX7_addAll_20 (by decide) (fun k_7 => ?_) (fun k_7 => ?_)
        · have tk_7 := c_ne (a := r_4.toInt) (b := 0) rfl (by decide) k_7
          obtain ⟨y_8, ey_8⟩ : ∃ y : Int32, y = ii + 1 := ⟨_, rfl⟩
          first | have ty_8 := i_add (a := ii.toInt) (b := 1) rfl (by decide) ey_8 (by omega) (by omega) | skip
          refine lv_iinc (v := y_8) (lv' := [(2, .int y_8), (0, .ref o1), (1, .ref o2)]) hx hb dX7_addAll_25 hl (k := 0) rfl (by rw [ey_8]; rfl) (by decide) rfl (fun ls hl => ?_)
          refine lv_goto (tgt := 2) hx hb dX7_addAll_28 (by decide) ?_
          exact ih2 y_8 u_5 f_6 (by first | omega | decide | assumption) (by first | omega | decide | assumption) (by first | omega | decide | assumption) (by omega) _ _ ls (hP.sub [2, 3, 0, 1] rfl) (hD.sub [2, 3, 0, 1] (by decide) rfl) hS (lv_sub hl [0, 1, 2] rfl)
        · have tk_7 := c_eq (a := r_4.toInt) (b := 0) rfl (by decide) k_7
          refine lv_iconst (v := 0) hx hb dX7_addAll_23 (by decide) ?_
          have hP9 := hP.sub (ws' := [(o1, .inr (7, [.ref r1, .int u_5])), (r1, .inl (c1, 6, .inr (.inl f_6))), (o2, .inr (7, [.ref r2, .int n2])), (r2, .inl (c2, 6, .inr (.inl f2)))]) [2, 3, 0, 1] rfl
          have hD9 := hD.sub (ws' := [(o1, .inr (7, [.ref r1, .int u_5])), (r1, .inl (c1, 6, .inr (.inl f_6))), (o2, .inr (7, [.ref r2, .int n2])), (r2, .inl (c2, 6, .inr (.inl f2)))]) [2, 3, 0, 1] (by decide) rfl
          have hK9 := hK.sub (tys' := [(c1, .long), (c2, .long)]) [0, 1] rfl
          exact W.zret hx hb hr (z_nar (by first | assumption | decide)) (fun t ht hW => ⟨⟨_, u_5, rfl, ⟨by first | exact Or.inl rfl | exact Or.inr rfl, by omega⟩, f_6, by rw [ht]; exact hP9, va_K.moved hW.alike hK9, hD9⟩, hS.F ht⟩) hS.2.2 dX7_addAll_24
  have lit_8 : (0 : Int32).toInt = 0 := by decide
  exact loop2 _ 0 n1 f1 (by first | omega | decide | assumption) (by first | omega | decide | assumption) (by first | omega | decide | assumption) (Nat.lt_succ_self _) _ _ ls hP hD hS (lv_sub hl [0, 1, 2] rfl)
theorem dX7_join_0 : decode cX7_join 0 = .ok (.aload_n 0, 1) := by decide +kernel
theorem dX7_join_1 : decode cX7_join 1 = .ok (.iconst 0, 1) := by decide +kernel
theorem dX7_join_2 : decode cX7_join 2 = .ok (.putfield 28, 3) := by decide +kernel
theorem dX7_join_5 : decode cX7_join 5 = .ok (.iconst 0, 1) := by decide +kernel
theorem dX7_join_6 : decode cX7_join 6 = .ok (.istore 4, 2) := by decide +kernel
theorem dX7_join_8 : decode cX7_join 8 = .ok (.iload 4, 2) := by decide +kernel
theorem dX7_join_10 : decode cX7_join 10 = .ok (.aload_n 1, 1) := by decide +kernel
theorem dX7_join_11 : decode cX7_join 11 = .ok (.getfield 28, 3) := by decide +kernel
theorem dX7_join_14 : decode cX7_join 14 = .ok (.if_icmp .ge 101, 3) := by decide +kernel
theorem dX7_join_17 : decode cX7_join 17 = .ok (.iload_n 3, 1) := by decide +kernel
theorem dX7_join_18 : decode cX7_join 18 = .ok (.ifCond .eq 16, 3) := by decide +kernel
theorem dX7_join_21 : decode cX7_join 21 = .ok (.aload_n 1, 1) := by decide +kernel
theorem dX7_join_22 : decode cX7_join 22 = .ok (.getfield 11, 3) := by decide +kernel
theorem dX7_join_25 : decode cX7_join 25 = .ok (.iload 4, 2) := by decide +kernel
theorem dX7_join_27 : decode cX7_join 27 = .ok (.laload, 1) := by decide +kernel
theorem dX7_join_28 : decode cX7_join 28 = .ok (.invokestatic 42, 3) := by decide +kernel
theorem dX7_join_31 : decode cX7_join 31 = .ok (.goto 10, 3) := by decide +kernel
theorem dX7_join_34 : decode cX7_join 34 = .ok (.aload_n 1, 1) := by decide +kernel
theorem dX7_join_35 : decode cX7_join 35 = .ok (.getfield 11, 3) := by decide +kernel
theorem dX7_join_38 : decode cX7_join 38 = .ok (.iload 4, 2) := by decide +kernel
theorem dX7_join_40 : decode cX7_join 40 = .ok (.laload, 1) := by decide +kernel
theorem dX7_join_41 : decode cX7_join 41 = .ok (.lstore 5, 2) := by decide +kernel
theorem dX7_join_43 : decode cX7_join 43 = .ok (.lload 5, 2) := by decide +kernel
theorem dX7_join_45 : decode cX7_join 45 = .ok (.invokestatic 23, 3) := by decide +kernel
theorem dX7_join_48 : decode cX7_join 48 = .ok (.istore 7, 2) := by decide +kernel
theorem dX7_join_50 : decode cX7_join 50 = .ok (.iconst 0, 1) := by decide +kernel
theorem dX7_join_51 : decode cX7_join 51 = .ok (.istore 8, 2) := by decide +kernel
theorem dX7_join_53 : decode cX7_join 53 = .ok (.iload 8, 2) := by decide +kernel
theorem dX7_join_55 : decode cX7_join 55 = .ok (.aload_n 2, 1) := by decide +kernel
theorem dX7_join_56 : decode cX7_join 56 = .ok (.getfield 28, 3) := by decide +kernel
theorem dX7_join_59 : decode cX7_join 59 = .ok (.if_icmp .ge 50, 3) := by decide +kernel
theorem dX7_join_62 : decode cX7_join 62 = .ok (.aload_n 2, 1) := by decide +kernel
theorem dX7_join_63 : decode cX7_join 63 = .ok (.getfield 11, 3) := by decide +kernel
theorem dX7_join_66 : decode cX7_join 66 = .ok (.iload 8, 2) := by decide +kernel
theorem dX7_join_68 : decode cX7_join 68 = .ok (.laload, 1) := by decide +kernel
theorem dX7_join_69 : decode cX7_join 69 = .ok (.lstore 9, 2) := by decide +kernel
theorem dX7_join_71 : decode cX7_join 71 = .ok (.iload 7, 2) := by decide +kernel
theorem dX7_join_73 : decode cX7_join 73 = .ok (.lload 9, 2) := by decide +kernel
theorem dX7_join_75 : decode cX7_join 75 = .ok (.invokestatic 23, 3) := by decide +kernel
theorem dX7_join_78 : decode cX7_join 78 = .ok (.iadd, 1) := by decide +kernel
theorem dX7_join_79 : decode cX7_join 79 = .ok (.bipush 8, 2) := by decide +kernel
theorem dX7_join_81 : decode cX7_join 81 = .ok (.if_icmp .gt 20, 3) := by decide +kernel
theorem dX7_join_84 : decode cX7_join 84 = .ok (.aload_n 0, 1) := by decide +kernel
theorem dX7_join_85 : decode cX7_join 85 = .ok (.lload 5, 2) := by decide +kernel
theorem dX7_join_87 : decode cX7_join 87 = .ok (.lload 9, 2) := by decide +kernel
theorem dX7_join_89 : decode cX7_join 89 = .ok (.iconst 5, 1) := by decide +kernel
theorem dX7_join_90 : decode cX7_join 90 = .ok (.iload 7, 2) := by decide +kernel
theorem dX7_join_92 : decode cX7_join 92 = .ok (.imul, 1) := by decide +kernel
theorem dX7_join_93 : decode cX7_join 93 = .ok (.lushr, 1) := by decide +kernel
theorem dX7_join_94 : decode cX7_join 94 = .ok (.lor, 1) := by decide +kernel
theorem dX7_join_95 : decode cX7_join 95 = .ok (.invokevirtual 38, 3) := by decide +kernel
theorem dX7_join_98 : decode cX7_join 98 = .ok (.ifCond .ne 5, 3) := by decide +kernel
theorem dX7_join_101 : decode cX7_join 101 = .ok (.iconst 0, 1) := by decide +kernel
theorem dX7_join_102 : decode cX7_join 102 = .ok (.ireturn, 1) := by decide +kernel
theorem dX7_join_103 : decode cX7_join 103 = .ok (.iinc 8 1, 3) := by decide +kernel
theorem dX7_join_106 : decode cX7_join 106 = .ok (.goto (-53), 3) := by decide +kernel
theorem dX7_join_109 : decode cX7_join 109 = .ok (.iinc 4 1, 3) := by decide +kernel
theorem dX7_join_112 : decode cX7_join 112 = .ok (.goto (-104), 3) := by decide +kernel
theorem dX7_join_115 : decode cX7_join 115 = .ok (.iconst 1, 1) := by decide +kernel
theorem dX7_join_116 : decode cX7_join 116 = .ok (.ireturn, 1) := by decide +kernel
def mwX7_join : List Cond := .code yX7_join cX7_join 11 (some .boolean) :: ([.fieldLink RX7 28 "PatternGate$Rows" "size" "I", .fieldLink RX7 11 "PatternGate$Rows" "row" "[J", .code yX7_lettersOf cX7_lettersOf 2 (some .int), .code yJ13_numberOfTrailingZeros_95d88 cJ13_numberOfTrailingZeros_95d88 3 (some .int), .code yJ6_numberOfTrailingZeros_0f7a4 cJ6_numberOfTrailingZeros_0f7a4 2 (some .int), .constant RJ6 264 (65536), .methodLink RJ13 311 yJ6_numberOfTrailingZeros_0f7a4, .static yJ6_numberOfTrailingZeros_0f7a4, .initialized RJ6, .methodLink RX7 15 yJ13_numberOfTrailingZeros_95d88, .static yJ13_numberOfTrailingZeros_95d88, .initialized RJ13, .methodLink RX7 23 yX7_lettersOf, .static yX7_lettersOf, .initialized RX7, .code yX7_add cX7_add 4 (some .boolean), .methodLink RX7 38 yX7_add, .instanceMethod yX7_add, .selects RX7 yX7_add yX7_add, .code yX7_lastTwoOf cX7_lastTwoOf 3 (some .long), .constantLong RX7 26 (1099511627775), .methodLink RX7 42 yX7_lastTwoOf, .static yX7_lastTwoOf] ++ wsX70)
theorem fin_X7_join_X7 : ∀ w ∈ wsX70, w ∈ mwX7_join := fun w h => List.mem_cons_of_mem _ (List.mem_append_right _ h)
set_option maxRecDepth 20000 in
theorem mg_X7_join_X7_lettersOf_23 : GoodIn mwX7_join (va_wsS RX7 23 yX7_lettersOf mwX7_lettersOf) := goodIn_r _ [13, 14, 15, 3, 4, 5, 6, 7, 8, 9, 10, 11, 12] (by decide +kernel) (by decide +kernel)
set_option maxRecDepth 20000 in
theorem mg_X7_join_X7_add_38 : GoodIn mwX7_join (wsV RX7 38 RX7 yX7_add mwX7_add) := goodIn_r _ [17, 18, 19, 15, 16, 1, 2, 24, 25] (by decide +kernel) (by decide +kernel)
set_option maxRecDepth 20000 in
theorem mg_X7_join_X7_lastTwoOf_42 : GoodIn mwX7_join (va_wsS RX7 42 yX7_lastTwoOf mwX7_lastTwoOf) := goodIn_r _ [22, 23, 15, 20, 3, 4, 5, 6, 7, 8, 9, 10, 11, 12, 13, 14, 15, 21] (by decide +kernel) (by decide +kernel)
set_option maxHeartbeats 4000000 in
set_option maxRecDepth 100000 in
/-- Rows.join -/
theorem s_Rows_join (l : Launch) (dC : Nat → ClassId) (dI : Nat → Nat → Nat) (o1 r1 : Nat) (c1 : ClassId) (f1 : Nat → Int64) (n1 : Int32) (o2 r2 : Nat) (c2 : ClassId) (f2 : Nat → Int64) (n2 : Int32) (o3 r3 : Nat) (c3 : ClassId) (f3 : Nat → Int64) (n3 : Int32) (sz : Nat) (v9 : Int32) (ha1 : 0 ≤ n1.toInt) (hb1 : n1.toInt ≤ 6) (ha2 : 0 ≤ n2.toInt) (hb2 : n2.toInt ≤ 6) (ha3 : 0 ≤ n3.toInt) (hb3 : n3.toInt ≤ 6) : Met l yX7_join mwX7_join ({ frames := 4, cells := 0, slots := 0, locals := 240 }) (va_Pc [.ref o1, .ref o2, .ref o3, .int v9] (fun U => U.heap.size = sz ∧ va_P (dC, dI) vwCl ([(o1, .inr (7, [.ref r1, .int n1])), (r1, .inl (c1, 6, .inr (.inl f1))), (o2, .inr (7, [.ref r2, .int n2])), (r2, .inl (c2, 6, .inr (.inl f2))), (o3, .inr (7, [.ref r3, .int n3])), (r3, .inl (c3, 6, .inr (.inl f3)))]) U.heap ∧ va_K (dC, dI) vwCl ([(c1, .long), (c2, .long), (c3, .long)]) U ∧ va_D (fun _ => True) ([(o1, .inr (7, [.ref r1, .int n1])), (r1, .inl (c1, 6, .inr (.inl f1))), (o2, .inr (7, [.ref r2, .int n2])), (r2, .inl (c2, 6, .inr (.inl f2))), (o3, .inr (7, [.ref r3, .int n3])), (r3, .inl (c3, 6, .inr (.inl f3)))]))) (va_Qi (fun (o9 : Int32) (u : Int32) => (o9 = 0 ∨ o9 = 1) ∧ 0 ≤ u.toInt ∧ u.toInt ≤ 6) (fun u t => ∃ (f9 : Nat → Int64), va_P (dC, dI) vwCl [(o1, .inr (7, [.ref r1, .int u])), (r1, .inl (c1, 6, .inr (.inl f9))), (o2, .inr (7, [.ref r2, .int n2])), (r2, .inl (c2, 6, .inr (.inl f2))), (o3, .inr (7, [.ref r3, .int n3])), (r3, .inl (c3, 6, .inr (.inl f3)))] t.heap ∧ va_K (dC, dI) vwCl [(c1, .long), (c2, .long), (c3, .long)] t ∧ va_D (va_A ([(o1, .inr (7, [.ref r1, .int n1])), (r1, .inl (c1, 6, .inr (.inl f1))), (o2, .inr (7, [.ref r2, .int n2])), (r2, .inl (c2, 6, .inr (.inl f2))), (o3, .inr (7, [.ref r3, .int n3])), (r3, .inl (c3, 6, .inr (.inl f3)))]) sz) [(o1, .inr (7, [.ref r1, .int u])), (r1, .inl (c1, 6, .inr (.inl f9))), (o2, .inr (7, [.ref r2, .int n2])), (r2, .inl (c2, 6, .inr (.inl f2))), (o3, .inr (7, [.ref r3, .int n3])), (r3, .inl (c3, 6, .inr (.inl f3)))]) (va_A ([(o1, .inr (7, [.ref r1, .int n1])), (r1, .inl (c1, 6, .inr (.inl f1))), (o2, .inr (7, [.ref r2, .int n2])), (r2, .inl (c2, 6, .inr (.inl f2))), (o3, .inr (7, [.ref r3, .int n3])), (r3, .inl (c3, 6, .inr (.inl f3)))]) sz)) 0 0 (va_A ([(o1, .inr (7, [.ref r1, .int n1])), (r1, .inl (c1, 6, .inr (.inl f1))), (o2, .inr (7, [.ref r2, .int n2])), (r2, .inl (c2, 6, .inr (.inl f2))), (o3, .inr (7, [.ref r3, .int n3])), (r3, .inl (c3, 6, .inr (.inl f3)))]) sz) := by
  refine Met.ofW (cc := cX7_join) (maxL := 11) (ret := (some .boolean)) (by decide +kernel) rfl ?_
  intro p e s m args below meth c s₁ B hml hv
  obtain ⟨rfl, hsz, hP, hK, hD0⟩ := hv
  have hx := B.exec
  have hb := B.bytes
  have hr := B.returns
  have hts := atoms_spec (ws := mwX7_join) B.pre
  have hown : s.vm.findClass RX7 = some m.cls := findClass_of_methodNamed B.named
  have hlocks := B.notSynchronized
  subst hsz
  have hD := hD0.self (sz := s.heap.size)
  generalize hAe : va_A ([(o1, .inr (7, [.ref r1, .int n1])), (r1, .inl (c1, 6, .inr (.inl f1))), (o2, .inr (7, [.ref r2, .int n2])), (r2, .inl (c2, 6, .inr (.inl f2))), (o3, .inr (7, [.ref r3, .int n3])), (r3, .inl (c3, 6, .inr (.inl f3)))]) s.heap.size = A at hD ⊢
  have hA : ∀ q : Nat, s.heap.size ≤ q → A q := fun q h => by rw [← hAe]; exact Or.inr h
  have hP : va_P (dC, dI) vwCl [(o1, .inr (7, [.ref r1, .int n1])), (r1, .inl (c1, 6, .inr (.inl f1))), (o2, .inr (7, [.ref r2, .int n2])), (r2, .inl (c2, 6, .inr (.inl f2))), (o3, .inr (7, [.ref r3, .int n3])), (r3, .inl (c3, 6, .inr (.inl f3)))] s.heap := hP
  have hD : va_D A [(o1, .inr (7, [.ref r1, .int n1])), (r1, .inl (c1, 6, .inr (.inl f1))), (o2, .inr (7, [.ref r2, .int n2])), (r2, .inl (c2, 6, .inr (.inl f2))), (o3, .inr (7, [.ref r3, .int n3])), (r3, .inl (c3, 6, .inr (.inl f3)))] := hD
  have hK : va_K (dC, dI) vwCl [(c1, .long), (c2, .long), (c3, .long)] s := hK
  generalize hH : s.heap = H at hP ⊢
  have hS : va_S A s.heap H [] := by rw [← hH]; exact va_S.rf
  have hl := lv_entry ([.ref o1, .ref o2, .ref o3, .int v9]) (n := 11) (Nat.le_of_ble_eq_true rfl)
  rw [lg_entry_eq]
  generalize (lg_sl ([.ref o1, .ref o2, .ref o3, .int v9]) ++ List.replicate (11 - (lg_sl ([.ref o1, .ref o2, .ref o3, .int v9])).length) Slot.unset).toArray = ls at hl ⊢
  have hl : lv_has ls 11 [(0, .ref o1), (1, .ref o2), (2, .ref o3), (3, .int v9)] := hl
  have rg_v9 := i_rng v9
  refine lv_aload_n hx hb dX7_join_0 rfl (lv_at hl 0 rfl) ?_
  refine lv_iconst (v := 0) hx hb dX7_join_1 (by decide) ?_
  refine va_put (D := (dC, dI)) (ci := 7) (v := .int 0) (ty := .int) (C := RX7) (T := TX7) (N := 2) hx hb hts fin_X7_join_X7 tyX7 tyX7_ok nmX7 hown hK hP hD hS 0 rfl rfl 1 (by decide) (hts (.fieldLink RX7 28 "PatternGate$Rows" "size" "I") (List.mem_of_getElem? (i := 1) (by decide +kernel))) (fun _ h9 => h9) rfl (by decide +kernel) rfl rfl (Nat.le_of_ble_eq_true rfl) dX7_join_2 (fun H locs hP hD hS => ?_)
  have hP : va_P (dC, dI) vwCl [(o1, .inr (7, [.ref r1, .int 0])), (r1, .inl (c1, 6, .inr (.inl f1))), (o2, .inr (7, [.ref r2, .int n2])), (r2, .inl (c2, 6, .inr (.inl f2))), (o3, .inr (7, [.ref r3, .int n3])), (r3, .inl (c3, 6, .inr (.inl f3)))] H := hP
  have hD : va_D A [(o1, .inr (7, [.ref r1, .int 0])), (r1, .inl (c1, 6, .inr (.inl f1))), (o2, .inr (7, [.ref r2, .int n2])), (r2, .inl (c2, 6, .inr (.inl f2))), (o3, .inr (7, [.ref r3, .int n3])), (r3, .inl (c3, 6, .inr (.inl f3)))] := hD
  refine lv_iconst (v := 0) hx hb dX7_join_5 (by decide) ?_
  refine lv_istore (lv' := [(4, .int 0), (0, .ref o1), (1, .ref o2), (2, .ref o3), (3, .int v9)]) hx hb dX7_join_6 hl (by decide) rfl (fun ls hl => ?_)
  have loop8 : ∀ (n_8 : Nat) (ii za : Int32) (ga : Nat → Int64), (0 ≤ ii.toInt) → (0 ≤ za.toInt) → (za.toInt ≤ 6) → ((n2.toInt - ii.toInt).toNat) < n_8 → ∀ (H : Heap) (locs : List Loc) (ls : Array Slot), va_P (dC, dI) vwCl [(o1, .inr (7, [.ref r1, .int za])), (r1, .inl (c1, 6, .inr (.inl ga))), (o2, .inr (7, [.ref r2, .int n2])), (r2, .inl (c2, 6, .inr (.inl f2))), (o3, .inr (7, [.ref r3, .int n3])), (r3, .inl (c3, 6, .inr (.inl f3)))] H → va_D A [(o1, .inr (7, [.ref r1, .int za])), (r1, .inl (c1, 6, .inr (.inl ga))), (o2, .inr (7, [.ref r2, .int n2])), (r2, .inl (c2, 6, .inr (.inl f2))), (o3, .inr (7, [.ref r3, .int n3])), (r3, .inl (c3, 6, .inr (.inl f3)))] → va_S A s.heap H locs → lv_has ls 11 [(4, .int ii), (0, .ref o1), (1, .ref o2), (2, .ref o3), (3, .int v9)] → W p l e (headSpec mwX7_join ({ frames := 4, cells := 0, slots := 0, locals := 240 })).room s m ([.ref o1, .ref o2, .ref o3, .int v9]).toArray below meth c H locs 0 0 (MQ below (va_Qi (fun (o9 : Int32) (u : Int32) => (o9 = 0 ∨ o9 = 1) ∧ 0 ≤ u.toInt ∧ u.toInt ≤ 6) (fun u t => ∃ (f9 : Nat → Int64), va_P (dC, dI) vwCl [(o1, .inr (7, [.ref r1, .int u])), (r1, .inl (c1, 6, .inr (.inl f9))), (o2, .inr (7, [.ref r2, .int n2])), (r2, .inl (c2, 6, .inr (.inl f2))), (o3, .inr (7, [.ref r3, .int n3])), (r3, .inl (c3, 6, .inr (.inl f3)))] t.heap ∧ va_K (dC, dI) vwCl [(c1, .long), (c2, .long), (c3, .long)] t ∧ va_D A [(o1, .inr (7, [.ref r1, .int u])), (r1, .inl (c1, 6, .inr (.inl f9))), (o2, .inr (7, [.ref r2, .int n2])), (r2, .inl (c2, 6, .inr (.inl f2))), (o3, .inr (7, [.ref r3, .int n3])), (r3, .inl (c3, 6, .inr (.inl f3)))]) A) ([.ref o1, .ref o2, .ref o3, .int v9]).toArray s 0 0 A) (F0 m 8 ls []) := by
    intro n_8
    induction n_8 with
    | zero => intro ii za ga v8_0 v8_1 v8_2 hm8; exact absurd hm8 (Nat.not_lt_zero _)
    | succ n_8 ih8 =>
      intro ii za ga v8_0 v8_1 v8_2 hm8 H locs ls hP hD hS hl
      have rg_ii := i_rng ii
      have rg_za := i_rng za
      refine lv_iload hx hb dX7_join_8 (lv_at hl 0 rfl) ?_
      refine lv_aload_n hx hb dX7_join_10 rfl (lv_at hl 2 rfl) ?_
      refine va_get (D := (dC, dI)) (ci := 7) (v := .int n2) (C := RX7) (T := TX7) (N := 2) hx hb hts fin_X7_join_X7 hown hK hP 2 rfl rfl 1 (by decide) (hts (.fieldLink RX7 28 "PatternGate$Rows" "size" "I") (List.mem_of_getElem? (i := 1) (by decide +kernel))) (fun _ h9 => h9) rfl dX7_join_11 ?_
      refine lv_icmp_ge (tgt := 115) hx hb dX7_join_14 (by decide) (fun k_1 => ?_) (fun k_1 => ?_)
      · have tk_1 := c_ge (a := ii.toInt) (b := n2.toInt) rfl rfl k_1
        refine lv_iconst (v := 1) hx hb dX7_join_115 (by decide) ?_
        have hP9 := hP.sub (ws' := [(o1, .inr (7, [.ref r1, .int za])), (r1, .inl (c1, 6, .inr (.inl ga))), (o2, .inr (7, [.ref r2, .int n2])), (r2, .inl (c2, 6, .inr (.inl f2))), (o3, .inr (7, [.ref r3, .int n3])), (r3, .inl (c3, 6, .inr (.inl f3)))]) [0, 1, 2, 3, 4, 5] rfl
        have hD9 := hD.sub (ws' := [(o1, .inr (7, [.ref r1, .int za])), (r1, .inl (c1, 6, .inr (.inl ga))), (o2, .inr (7, [.ref r2, .int n2])), (r2, .inl (c2, 6, .inr (.inl f2))), (o3, .inr (7, [.ref r3, .int n3])), (r3, .inl (c3, 6, .inr (.inl f3)))]) [0, 1, 2, 3, 4, 5] (by decide) rfl
        have hK9 := hK.sub (tys' := [(c1, .long), (c2, .long), (c3, .long)]) [0, 1, 2] rfl
        exact W.zret hx hb hr (z_nar (by first | assumption | decide)) (fun t ht hW => ⟨⟨_, za, rfl, ⟨by first | exact Or.inl rfl | exact Or.inr rfl, by omega⟩, ga, by rw [ht]; exact hP9, va_K.moved hW.alike hK9, hD9⟩, hS.F ht⟩) hS.2.2 dX7_join_116
      · have tk_1 := c_nge (a := ii.toInt) (b := n2.toInt) rfl rfl k_1
        refine lv_iload_n hx hb dX7_join_17 rfl (lv_at hl 4 rfl) ?_
        refine lv_if_eq (tgt := 34) hx hb dX7_join_18 (by decide) (fun k_2 => ?_) (fun k_2 => ?_)
        · have tk_2 := c_eq (a := v9.toInt) (b := 0) rfl (by decide) k_2
          refine lv_aload_n hx hb dX7_join_34 rfl (lv_at hl 2 rfl) ?_
          refine va_get (D := (dC, dI)) (ci := 7) (v := .ref r2) (C := RX7) (T := TX7) (N := 2) hx hb hts fin_X7_join_X7 hown hK hP 2 rfl rfl 0 (by decide) (hts (.fieldLink RX7 11 "PatternGate$Rows" "row" "[J") (List.mem_of_getElem? (i := 2) (by decide +kernel))) (fun _ h9 => h9) rfl dX7_join_35 ?_
          refine lv_iload hx hb dX7_join_38 (lv_at hl 0 rfl) ?_
          refine va_lald hx hb hK hP 3 1 rfl rfl (i := ii) (vp_of (a := ii.toInt) rfl (by omega) (by omega)) dX7_join_40 ?_
          refine lv_topl (fun w_3 ew_3 => ?_)
          refine lv_lstore (lv' := [(5, .long w_3), (4, .int ii), (0, .ref o1), (1, .ref o2), (2, .ref o3), (3, .int v9)]) hx hb dX7_join_41 hl (by decide) rfl (fun ls hl => ?_)
          refine lv_lload hx hb dX7_join_43 (lv_at hl 0 rfl) ?_
          refine vp_callSi (W.runS (As := [.long w_3]) (rest := []) ⟨hx, hb, hml, hown, hts⟩ (s_lettersOf l dC dI w_3) (va_cwS 1 hts mg_X7_join_X7_lettersOf_23 rfl rfl rfl (by decide +kernel) ⟨Nat.le_of_ble_eq_true rfl, Nat.le_of_ble_eq_true rfl⟩) ⟨fun a U g mk q => ⟨q.1, trivial⟩, fun U hU hW => ⟨rfl, trivial⟩⟩ rfl rfl hl.1 rfl (lv_room (Nat.le_of_ble_eq_true rfl)) dX7_join_45 ⟨Nat.le_of_ble_eq_true rfl, Nat.le_of_ble_eq_true rfl⟩) (fun r_5 hw => ?_)
          have hr_5 := hw
          refine lv_istore (lv' := [(7, .int r_5), (5, .long w_3), (4, .int ii), (0, .ref o1), (1, .ref o2), (2, .ref o3), (3, .int v9)]) hx hb dX7_join_48 hl (by decide) rfl (fun ls hl => ?_)
          refine lv_iconst (v := 0) hx hb dX7_join_50 (by decide) ?_
          refine lv_istore (lv' := [(8, .int 0), (7, .int r_5), (5, .long w_3), (4, .int ii), (0, .ref o1), (1, .ref o2), (2, .ref o3), (3, .int v9)]) hx hb dX7_join_51 hl (by decide) rfl (fun ls hl => ?_)
          have loop53 : ∀ (n_53 : Nat) (kk zb : Int32) (gb : Nat → Int64), (0 ≤ kk.toInt) → (0 ≤ zb.toInt) → (zb.toInt ≤ 6) → ((n3.toInt - kk.toInt).toNat) < n_53 → ∀ (H : Heap) (locs : List Loc) (ls : Array Slot), va_P (dC, dI) vwCl [(o1, .inr (7, [.ref r1, .int zb])), (r1, .inl (c1, 6, .inr (.inl gb))), (o2, .inr (7, [.ref r2, .int n2])), (r2, .inl (c2, 6, .inr (.inl f2))), (o3, .inr (7, [.ref r3, .int n3])), (r3, .inl (c3, 6, .inr (.inl f3)))] H → va_D A [(o1, .inr (7, [.ref r1, .int zb])), (r1, .inl (c1, 6, .inr (.inl gb))), (o2, .inr (7, [.ref r2, .int n2])), (r2, .inl (c2, 6, .inr (.inl f2))), (o3, .inr (7, [.ref r3, .int n3])), (r3, .inl (c3, 6, .inr (.inl f3)))] → va_S A s.heap H locs → lv_has ls 11 [(8, .int kk), (7, .int r_5), (5, .long w_3), (4, .int ii), (0, .ref o1), (1, .ref o2), (2, .ref o3), (3, .int v9)] → W p l e (headSpec mwX7_join ({ frames := 4, cells := 0, slots := 0, locals := 240 })).room s m ([.ref o1, .ref o2, .ref o3, .int v9]).toArray below meth c H locs 0 0 (MQ below (va_Qi (fun (o9 : Int32) (u : Int32) => (o9 = 0 ∨ o9 = 1) ∧ 0 ≤ u.toInt ∧ u.toInt ≤ 6) (fun u t => ∃ (f9 : Nat → Int64), va_P (dC, dI) vwCl [(o1, .inr (7, [.ref r1, .int u])), (r1, .inl (c1, 6, .inr (.inl f9))), (o2, .inr (7, [.ref r2, .int n2])), (r2, .inl (c2, 6, .inr (.inl f2))), (o3, .inr (7, [.ref r3, .int n3])), (r3, .inl (c3, 6, .inr (.inl f3)))] t.heap ∧ va_K (dC, dI) vwCl [(c1, .long), (c2, .long), (c3, .long)] t ∧ va_D A [(o1, .inr (7, [.ref r1, .int u])), (r1, .inl (c1, 6, .inr (.inl f9))), (o2, .inr (7, [.ref r2, .int n2])), (r2, .inl (c2, 6, .inr (.inl f2))), (o3, .inr (7, [.ref r3, .int n3])), (r3, .inl (c3, 6, .inr (.inl f3)))]) A) ([.ref o1, .ref o2, .ref o3, .int v9]).toArray s 0 0 A) (F0 m 53 ls []) := by
            intro n_53
            induction n_53 with
            | zero => intro kk zb gb v53_0 v53_1 v53_2 hm53; exact absurd hm53 (Nat.not_lt_zero _)
            | succ n_53 ih53 =>
              intro kk zb gb v53_0 v53_1 v53_2 hm53 H locs ls hP hD hS hl
              have rg_kk := i_rng kk
              have rg_zb := i_rng zb
              refine lv_iload hx hb dX7_join_53 (lv_at hl 0 rfl) ?_
              refine lv_aload_n hx hb dX7_join_55 rfl (lv_at hl 6 rfl) ?_
              refine va_get (D := (dC, dI)) (ci := 7) (v := .int n3) (C := RX7) (T := TX7) (N := 2) hx hb hts fin_X7_join_X7 hown hK hP 4 rfl rfl 1 (by decide) (hts (.fieldLink RX7 28 "PatternGate$Rows" "size" "I") (List.mem_of_getElem? (i := 1) (by decide +kernel))) (fun _ h9 => h9) rfl dX7_join_56 ?_
              refine lv_icmp_ge (tgt := 109) hx hb dX7_join_59 (by decide) (fun k_6 => ?_) (fun k_6 => ?_)
              · have tk_6 := c_ge (a := kk.toInt) (b := n3.toInt) rfl rfl k_6
                obtain ⟨y_7, ey_7⟩ : ∃ y : Int32, y = ii + 1 := ⟨_, rfl⟩
                first | have ty_7 := i_add (a := ii.toInt) (b := 1) rfl (by decide) ey_7 (by omega) (by omega) | skip
                refine lv_iinc (v := y_7) (lv' := [(4, .int y_7), (8, .int kk), (7, .int r_5), (5, .long w_3), (0, .ref o1), (1, .ref o2), (2, .ref o3), (3, .int v9)]) hx hb dX7_join_109 hl (k := 3) rfl (by rw [ey_7]; rfl) (by decide) rfl (fun ls hl => ?_)
                refine lv_goto (tgt := 8) hx hb dX7_join_112 (by decide) ?_
                exact ih8 y_7 zb gb (by first | omega | decide | assumption) (by first | omega | decide | assumption) (by first | omega | decide | assumption) (by omega) _ _ ls hP hD hS (lv_sub hl [0, 4, 5, 6, 7] rfl)
              · have tk_6 := c_nge (a := kk.toInt) (b := n3.toInt) rfl rfl k_6
                refine lv_aload_n hx hb dX7_join_62 rfl (lv_at hl 6 rfl) ?_
                refine va_get (D := (dC, dI)) (ci := 7) (v := .ref r3) (C := RX7) (T := TX7) (N := 2) hx hb hts fin_X7_join_X7 hown hK hP 4 rfl rfl 0 (by decide) (hts (.fieldLink RX7 11 "PatternGate$Rows" "row" "[J") (List.mem_of_getElem? (i := 2) (by decide +kernel))) (fun _ h9 => h9) rfl dX7_join_63 ?_
                refine lv_iload hx hb dX7_join_66 (lv_at hl 0 rfl) ?_
                refine va_lald hx hb hK hP 5 2 rfl rfl (i := kk) (vp_of (a := kk.toInt) rfl (by omega) (by omega)) dX7_join_68 ?_
                refine lv_topl (fun w_8 ew_8 => ?_)
                refine lv_lstore (lv' := [(9, .long w_8), (8, .int kk), (7, .int r_5), (5, .long w_3), (4, .int ii), (0, .ref o1), (1, .ref o2), (2, .ref o3), (3, .int v9)]) hx hb dX7_join_69 hl (by decide) rfl (fun ls hl => ?_)
                refine lv_iload hx hb dX7_join_71 (lv_at hl 2 rfl) ?_
                refine lv_lload hx hb dX7_join_73 (lv_at hl 0 rfl) ?_
                refine vp_callSi (W.runS (As := [.long w_8]) (rest := [.int r_5]) ⟨hx, hb, hml, hown, hts⟩ (s_lettersOf l dC dI w_8) (va_cwS 1 hts mg_X7_join_X7_lettersOf_23 rfl rfl rfl (by decide +kernel) ⟨Nat.le_of_ble_eq_true rfl, Nat.le_of_ble_eq_true rfl⟩) ⟨fun a U g mk q => ⟨q.1, trivial⟩, fun U hU hW => ⟨rfl, trivial⟩⟩ rfl rfl hl.1 rfl (lv_room (Nat.le_of_ble_eq_true rfl)) dX7_join_75 ⟨Nat.le_of_ble_eq_true rfl, Nat.le_of_ble_eq_true rfl⟩) (fun r_10 hw => ?_)
                have hr_10 := hw
                refine lv_iadd hx hb dX7_join_78 ?_
                refine lv_topi (fun y_11 ey_11 => ?_)
                first | have ty_11 := i_add (a := r_5.toInt) (b := r_10.toInt) rfl rfl ey_11 (by omega) (by omega) | skip
                refine lv_bipush (v := 8) hx hb dX7_join_79 (by decide) ?_
                refine lv_icmp_gt (tgt := 101) hx hb dX7_join_81 (by decide) (fun k_12 => ?_) (fun k_12 => ?_)
                · have tk_12 := c_gt (a := y_11.toInt) (b := 8) rfl (by decide) k_12
                  refine lv_iconst (v := 0) hx hb dX7_join_101 (by decide) ?_
                  have hP9 := hP.sub (ws' := [(o1, .inr (7, [.ref r1, .int zb])), (r1, .inl (c1, 6, .inr (.inl gb))), (o2, .inr (7, [.ref r2, .int n2])), (r2, .inl (c2, 6, .inr (.inl f2))), (o3, .inr (7, [.ref r3, .int n3])), (r3, .inl (c3, 6, .inr (.inl f3)))]) [0, 1, 2, 3, 4, 5] rfl
                  have hD9 := hD.sub (ws' := [(o1, .inr (7, [.ref r1, .int zb])), (r1, .inl (c1, 6, .inr (.inl gb))), (o2, .inr (7, [.ref r2, .int n2])), (r2, .inl (c2, 6, .inr (.inl f2))), (o3, .inr (7, [.ref r3, .int n3])), (r3, .inl (c3, 6, .inr (.inl f3)))]) [0, 1, 2, 3, 4, 5] (by decide) rfl
                  have hK9 := hK.sub (tys' := [(c1, .long), (c2, .long), (c3, .long)]) [0, 1, 2] rfl
                  exact W.zret hx hb hr (z_nar (by first | assumption | decide)) (fun t ht hW => ⟨⟨_, zb, rfl, ⟨by first | exact Or.inl rfl | exact Or.inr rfl, by omega⟩, gb, by rw [ht]; exact hP9, va_K.moved hW.alike hK9, hD9⟩, hS.F ht⟩) hS.2.2 dX7_join_102
                · have tk_12 := c_ngt (a := y_11.toInt) (b := 8) rfl (by decide) k_12
                  refine lv_aload_n hx hb dX7_join_84 rfl (lv_at hl 5 rfl) ?_
                  refine lv_lload hx hb dX7_join_85 (lv_at hl 3 rfl) ?_
                  refine lv_lload hx hb dX7_join_87 (lv_at hl 0 rfl) ?_
                  refine lv_iconst (v := 5) hx hb dX7_join_89 (by decide) ?_
                  refine lv_iload hx hb dX7_join_90 (lv_at hl 2 rfl) ?_
                  refine lv_imul hx hb dX7_join_92 ?_
                  refine lv_topi (fun y_13 ey_13 => ?_)
                  first | have ty_13 := i_mul (a := 5) (b := r_5.toInt) (by decide) rfl ey_13 (by omega) (by omega) | skip
                  refine lv_lushr hx hb dX7_join_93 rfl ?_
                  refine lv_topl (fun w_14 ew_14 => ?_)
                  refine lv_lor hx hb dX7_join_94 ?_
                  refine lv_topl (fun w_15 ew_15 => ?_)
                  have hPc := hP.sub (ws' := [(o1, .inr (7, [.ref r1, .int zb])), (r1, .inl (c1, 6, .inr (.inl gb)))]) [0, 1] rfl
                  have hKc := hK.sub (tys' := [(c1, .long)]) [0] rfl
                  have hDc := hD.sub (ws' := [(o1, .inr (7, [.ref r1, .int zb])), (r1, .inl (c1, 6, .inr (.inl gb)))]) [0, 1] (by decide) rfl
                  have hFc := va_free (wc := [(o1, .inr (7, [.ref r1, .int zb])), (r1, .inl (c1, 6, .inr (.inl gb)))]) hD hS hA [0, 1] rfl
                  refine va_calli (va_runV (As := [.long w_15]) (rest := []) ⟨hx, hb, hml, hown, hts⟩ (s_Rows_add l dC dI o1 r1 c1 gb zb H.size w_15 (by first | omega | decide) (by first | omega | decide)) (cwV 1 hts mg_X7_join_X7_add_38 rfl rfl rfl (by decide +kernel) ⟨Nat.le_of_ble_eq_true rfl, Nat.le_of_ble_eq_true rfl⟩) ⟨fun a U g mk q => by obtain ⟨q0, q1, qP, qK, qD⟩ := q; exact ⟨q0, q1, qP, va_K.moved (u := U) (U := U.calling g mk a) (Vm.Alike.refl U.vm) qK, qD⟩, va_recv hKc hPc (ci := 7) (q0 := 0) rfl rfl, fun U hU hW => ⟨rfl, by rw [hU], by rw [hU]; exact hPc, va_K.moved hW.alike hKc, hDc.weaken (fun _ _ _ _ => trivial)⟩⟩ rfl rfl hl.1 rfl (lv_room (Nat.le_of_ble_eq_true rfl)) dX7_join_95 ⟨Nat.le_of_ble_eq_true rfl, Nat.le_of_ble_eq_true rfl⟩) hS (fun q _ h => hFc q h) hFc (fun r_17 u t H1 locs ht hvm hw hB hz1 hk1 hS => ?_)
                  obtain ⟨f_19, hP1, hK1, hD1⟩ := hB
                  rw [ht] at hP1
                  generalize u = u_18 at hw hP1 hD1
                  have hu_18 := hw
                  obtain ⟨hP, hD⟩ := va_join (wr := [(o2, .inr (7, [.ref r2, .int n2])), (r2, .inl (c2, 6, .inr (.inl f2))), (o3, .inr (7, [.ref r3, .int n3])), (r3, .inl (c3, 6, .inr (.inl f3)))]) (w1 := [(o1, .inr (7, [.ref r1, .int u_18])), (r1, .inl (c1, 6, .inr (.inl f_19)))]) hP hD [0, 1] [2, 3, 4, 5] rfl rfl (by decide) (by decide) hk1 hFc hP1 hD1
                  generalize H1 = H at hP hS ⊢
                  have hP : va_P (dC, dI) vwCl [(o2, .inr (7, [.ref r2, .int n2])), (r2, .inl (c2, 6, .inr (.inl f2))), (o3, .inr (7, [.ref r3, .int n3])), (r3, .inl (c3, 6, .inr (.inl f3))), (o1, .inr (7, [.ref r1, .int u_18])), (r1, .inl (c1, 6, .inr (.inl f_19)))] H := hP
                  have hD : va_D A [(o2, .inr (7, [.ref r2, .int n2])), (r2, .inl (c2, 6, .inr (.inl f2))), (o3, .inr (7, [.ref r3, .int n3])), (r3, .inl (c3, 6, .inr (.inl f3))), (o1, .inr (7, [.ref r1, .int u_18])), (r1, .inl (c1, 6, .inr (.inl f_19)))] := hD
                  refine lv_if_ne (tgt := 103) hx hb dX7_join_98 (by decide) (fun k_20 => ?_) (fun k_20 => ?_)
                  · have tk_20 := c_ne (a := r_17.toInt) (b := 0) rfl (by decide) k_20
                    obtain ⟨y_21, ey_21⟩ : ∃ y : Int32, y = kk + 1 := ⟨_, rfl⟩
                    first | have ty_21 := i_add (a := kk.toInt) (b := 1) rfl (by decide) ey_21 (by omega) (by omega) | skip
                    refine lv_iinc (v := y_21) (lv' := [(8, .int y_21), (9, .long w_8), (7, .int r_5), (5, .long w_3), (4, .int ii), (0, .ref o1), (1, .ref o2), (2, .ref o3), (3, .int v9)]) hx hb dX7_join_103 hl (k := 1) rfl (by rw [ey_21]; rfl) (by decide) rfl (fun ls hl => ?_)
                    refine lv_goto (tgt := 53) hx hb dX7_join_106 (by decide) ?_
                    exact ih53 y_21 u_18 f_19 (by first | omega | decide | assumption) (by first | omega | decide | assumption) (by first | omega | decide | assumption) (by omega) _ _ ls (hP.sub [4, 5, 0, 1, 2, 3] rfl) (hD.sub [4, 5, 0, 1, 2, 3] (by decide) rfl) hS (lv_sub hl [0, 2, 3, 4, 5, 6, 7, 8] rfl)
                  · have tk_20 := c_eq (a := r_17.toInt) (b := 0) rfl (by decide) k_20
                    refine lv_iconst (v := 0) hx hb dX7_join_101 (by decide) ?_
                    have hP9 := hP.sub (ws' := [(o1, .inr (7, [.ref r1, .int u_18])), (r1, .inl (c1, 6, .inr (.inl f_19))), (o2, .inr (7, [.ref r2, .int n2])), (r2, .inl (c2, 6, .inr (.inl f2))), (o3, .inr (7, [.ref r3, .int n3])), (r3, .inl (c3, 6, .inr (.inl f3)))]) [4, 5, 0, 1, 2, 3] rfl
                    have hD9 := hD.sub (ws' := [(o1, .inr (7, [.ref r1, .int u_18])), (r1, .inl (c1, 6, .inr (.inl f_19))), (o2, .inr (7, [.ref r2, .int n2])), (r2, .inl (c2, 6, .inr (.inl f2))), (o3, .inr (7, [.ref r3, .int n3])), (r3, .inl (c3, 6, .inr (.inl f3)))]) [4, 5, 0, 1, 2, 3] (by decide) rfl
                    have hK9 := hK.sub (tys' := [(c1, .long), (c2, .long), (c3, .long)]) [0, 1, 2] rfl
                    exact W.zret hx hb hr (z_nar (by first | assumption | decide)) (fun t ht hW => ⟨⟨_, u_18, rfl, ⟨by first | exact Or.inl rfl | exact Or.inr rfl, by omega⟩, f_19, by rw [ht]; exact hP9, va_K.moved hW.alike hK9, hD9⟩, hS.F ht⟩) hS.2.2 dX7_join_102
          have lit_21 : (0 : Int32).toInt = 0 := by decide
          exact loop53 _ 0 za ga (by first | omega | decide | assumption) (by first | omega | decide | assumption) (by first | omega | decide | assumption) (Nat.lt_succ_self _) _ _ ls hP hD hS (lv_sub hl [0, 1, 2, 3, 4, 5, 6, 7] rfl)
        · have tk_2 := c_ne (a := v9.toInt) (b := 0) rfl (by decide) k_2
          refine lv_aload_n hx hb dX7_join_21 rfl (lv_at hl 2 rfl) ?_
          refine va_get (D := (dC, dI)) (ci := 7) (v := .ref r2) (C := RX7) (T := TX7) (N := 2) hx hb hts fin_X7_join_X7 hown hK hP 2 rfl rfl 0 (by decide) (hts (.fieldLink RX7 11 "PatternGate$Rows" "row" "[J") (List.mem_of_getElem? (i := 2) (by decide +kernel))) (fun _ h9 => h9) rfl dX7_join_22 ?_
          refine lv_iload hx hb dX7_join_25 (lv_at hl 0 rfl) ?_
          refine va_lald hx hb hK hP 3 1 rfl rfl (i := ii) (vp_of (a := ii.toInt) rfl (by omega) (by omega)) dX7_join_27 ?_
          refine lv_topl (fun w_23 ew_23 => ?_)
          refine vp_callSl (W.runS (As := [.long w_23]) (rest := []) ⟨hx, hb, hml, hown, hts⟩ (s_lastTwoOf l dC dI w_23) (va_cwS 1 hts mg_X7_join_X7_lastTwoOf_42 rfl rfl rfl (by decide +kernel) ⟨Nat.le_of_ble_eq_true rfl, Nat.le_of_ble_eq_true rfl⟩) ⟨fun a U g mk q => ⟨q.1, trivial⟩, fun U hU hW => ⟨rfl, trivial⟩⟩ rfl rfl hl.1 rfl (lv_room (Nat.le_of_ble_eq_true rfl)) dX7_join_28 ⟨Nat.le_of_ble_eq_true rfl, Nat.le_of_ble_eq_true rfl⟩) (fun r_25 hw => ?_)
          refine lv_goto (tgt := 41) hx hb dX7_join_31 (by decide) ?_
          refine lv_lstore (lv' := [(5, .long r_25), (4, .int ii), (0, .ref o1), (1, .ref o2), (2, .ref o3), (3, .int v9)]) hx hb dX7_join_41 hl (by decide) rfl (fun ls hl => ?_)
          refine lv_lload hx hb dX7_join_43 (lv_at hl 0 rfl) ?_
          refine vp_callSi (W.runS (As := [.long r_25]) (rest := []) ⟨hx, hb, hml, hown, hts⟩ (s_lettersOf l dC dI r_25) (va_cwS 1 hts mg_X7_join_X7_lettersOf_23 rfl rfl rfl (by decide +kernel) ⟨Nat.le_of_ble_eq_true rfl, Nat.le_of_ble_eq_true rfl⟩) ⟨fun a U g mk q => ⟨q.1, trivial⟩, fun U hU hW => ⟨rfl, trivial⟩⟩ rfl rfl hl.1 rfl (lv_room (Nat.le_of_ble_eq_true rfl)) dX7_join_45 ⟨Nat.le_of_ble_eq_true rfl, Nat.le_of_ble_eq_true rfl⟩) (fun r_27 hw => ?_)
          have hr_27 := hw
          refine lv_istore (lv' := [(7, .int r_27), (5, .long r_25), (4, .int ii), (0, .ref o1), (1, .ref o2), (2, .ref o3), (3, .int v9)]) hx hb dX7_join_48 hl (by decide) rfl (fun ls hl => ?_)
          refine lv_iconst (v := 0) hx hb dX7_join_50 (by decide) ?_
          refine lv_istore (lv' := [(8, .int 0), (7, .int r_27), (5, .long r_25), (4, .int ii), (0, .ref o1), (1, .ref o2), (2, .ref o3), (3, .int v9)]) hx hb dX7_join_51 hl (by decide) rfl (fun ls hl => ?_)
          have loop53 : ∀ (n_53 : Nat) (kk zb : Int32) (gb : Nat → Int64), (0 ≤ kk.toInt) → (0 ≤ zb.toInt) → (zb.toInt ≤ 6) → ((n3.toInt - kk.toInt).toNat) < n_53 → ∀ (H : Heap) (locs : List Loc) (ls : Array Slot), va_P (dC, dI) vwCl [(o1, .inr (7, [.ref r1, .int zb])), (r1, .inl (c1, 6, .inr (.inl gb))), (o2, .inr (7, [.ref r2, .int n2])), (r2, .inl (c2, 6, .inr (.inl f2))), (o3, .inr (7, [.ref r3, .int n3])), (r3, .inl (c3, 6, .inr (.inl f3)))] H → va_D A [(o1, .inr (7, [.ref r1, .int zb])), (r1, .inl (c1, 6, .inr (.inl gb))), (o2, .inr (7, [.ref r2, .int n2])), (r2, .inl (c2, 6, .inr (.inl f2))), (o3, .inr (7, [.ref r3, .int n3])), (r3, .inl (c3, 6, .inr (.inl f3)))] → va_S A s.heap H locs → lv_has ls 11 [(8, .int kk), (7, .int r_27), (5, .long r_25), (4, .int ii), (0, .ref o1), (1, .ref o2), (2, .ref o3), (3, .int v9)] → W p l e (headSpec mwX7_join ({ frames := 4, cells := 0, slots := 0, locals := 240 })).room s m ([.ref o1, .ref o2, .ref o3, .int v9]).toArray below meth c H locs 0 0 (MQ below (va_Qi (fun (o9 : Int32) (u : Int32) => (o9 = 0 ∨ o9 = 1) ∧ 0 ≤ u.toInt ∧ u.toInt ≤ 6) (fun u t => ∃ (f9 : Nat → Int64), va_P (dC, dI) vwCl [(o1, .inr (7, [.ref r1, .int u])), (r1, .inl (c1, 6, .inr (.inl f9))), (o2, .inr (7, [.ref r2, .int n2])), (r2, .inl (c2, 6, .inr (.inl f2))), (o3, .inr (7, [.ref r3, .int n3])), (r3, .inl (c3, 6, .inr (.inl f3)))] t.heap ∧ va_K (dC, dI) vwCl [(c1, .long), (c2, .long), (c3, .long)] t ∧ va_D A [(o1, .inr (7, [.ref r1, .int u])), (r1, .inl (c1, 6, .inr (.inl f9))), (o2, .inr (7, [.ref r2, .int n2])), (r2, .inl (c2, 6, .inr (.inl f2))), (o3, .inr (7, [.ref r3, .int n3])), (r3, .inl (c3, 6, .inr (.inl f3)))]) A) ([.ref o1, .ref o2, .ref o3, .int v9]).toArray s 0 0 A) (F0 m 53 ls []) := by
            intro n_53
            induction n_53 with
            | zero => intro kk zb gb v53_0 v53_1 v53_2 hm53; exact absurd hm53 (Nat.not_lt_zero _)
            | succ n_53 ih53 =>
              intro kk zb gb v53_0 v53_1 v53_2 hm53 H locs ls hP hD hS hl
              have rg_kk := i_rng kk
              have rg_zb := i_rng zb
              refine lv_iload hx hb dX7_join_53 (lv_at hl 0 rfl) ?_
              refine lv_aload_n hx hb dX7_join_55 rfl (lv_at hl 6 rfl) ?_
              refine va_get (D := (dC, dI)) (ci := 7) (v := .int n3) (C := RX7) (T := TX7) (N := 2) hx hb hts fin_X7_join_X7 hown hK hP 4 rfl rfl 1 (by decide) (hts (.fieldLink RX7 28 "PatternGate$Rows" "size" "I") (List.mem_of_getElem? (i := 1) (by decide +kernel))) (fun _ h9 => h9) rfl dX7_join_56 ?_
              refine lv_icmp_ge (tgt := 109) hx hb dX7_join_59 (by decide) (fun k_28 => ?_) (fun k_28 => ?_)
              · have tk_28 := c_ge (a := kk.toInt) (b := n3.toInt) rfl rfl k_28
                obtain ⟨y_29, ey_29⟩ : ∃ y : Int32, y = ii + 1 := ⟨_, rfl⟩
                first | have ty_29 := i_add (a := ii.toInt) (b := 1) rfl (by decide) ey_29 (by omega) (by omega) | skip
                refine lv_iinc (v := y_29) (lv' := [(4, .int y_29), (8, .int kk), (7, .int r_27), (5, .long r_25), (0, .ref o1), (1, .ref o2), (2, .ref o3), (3, .int v9)]) hx hb dX7_join_109 hl (k := 3) rfl (by rw [ey_29]; rfl) (by decide) rfl (fun ls hl => ?_)
                refine lv_goto (tgt := 8) hx hb dX7_join_112 (by decide) ?_
                exact ih8 y_29 zb gb (by first | omega | decide | assumption) (by first | omega | decide | assumption) (by first | omega | decide | assumption) (by omega) _ _ ls hP hD hS (lv_sub hl [0, 4, 5, 6, 7] rfl)
              · have tk_28 := c_nge (a := kk.toInt) (b := n3.toInt) rfl rfl k_28
                refine lv_aload_n hx hb dX7_join_62 rfl (lv_at hl 6 rfl) ?_
                refine va_get (D := (dC, dI)) (ci := 7) (v := .ref r3) (C := RX7) (T := TX7) (N := 2) hx hb hts fin_X7_join_X7 hown hK hP 4 rfl rfl 0 (by decide) (hts (.fieldLink RX7 11 "PatternGate$Rows" "row" "[J") (List.mem_of_getElem? (i := 2) (by decide +kernel))) (fun _ h9 => h9) rfl dX7_join_63 ?_
                refine lv_iload hx hb dX7_join_66 (lv_at hl 0 rfl) ?_
                refine va_lald hx hb hK hP 5 2 rfl rfl (i := kk) (vp_of (a := kk.toInt) rfl (by omega) (by omega)) dX7_join_68 ?_
                refine lv_topl (fun w_30 ew_30 => ?_)
                refine lv_lstore (lv' := [(9, .long w_30), (8, .int kk), (7, .int r_27), (5, .long r_25), (4, .int ii), (0, .ref o1), (1, .ref o2), (2, .ref o3), (3, .int v9)]) hx hb dX7_join_69 hl (by decide) rfl (fun ls hl => ?_)
                refine lv_iload hx hb dX7_join_71 (lv_at hl 2 rfl) ?_
                refine lv_lload hx hb dX7_join_73 (lv_at hl 0 rfl) ?_
                refine vp_callSi (W.runS (As := [.long w_30]) (rest := [.int r_27]) ⟨hx, hb, hml, hown, hts⟩ (s_lettersOf l dC dI w_30) (va_cwS 1 hts mg_X7_join_X7_lettersOf_23 rfl rfl rfl (by decide +kernel) ⟨Nat.le_of_ble_eq_true rfl, Nat.le_of_ble_eq_true rfl⟩) ⟨fun a U g mk q => ⟨q.1, trivial⟩, fun U hU hW => ⟨rfl, trivial⟩⟩ rfl rfl hl.1 rfl (lv_room (Nat.le_of_ble_eq_true rfl)) dX7_join_75 ⟨Nat.le_of_ble_eq_true rfl, Nat.le_of_ble_eq_true rfl⟩) (fun r_32 hw => ?_)
                have hr_32 := hw
                refine lv_iadd hx hb dX7_join_78 ?_
                refine lv_topi (fun y_33 ey_33 => ?_)
                first | have ty_33 := i_add (a := r_27.toInt) (b := r_32.toInt) rfl rfl ey_33 (by omega) (by omega) | skip
                refine lv_bipush (v := 8) hx hb dX7_join_79 (by decide) ?_
                refine lv_icmp_gt (tgt := 101) hx hb dX7_join_81 (by decide) (fun k_34 => ?_) (fun k_34 => ?_)
                · have tk_34 := c_gt (a := y_33.toInt) (b := 8) rfl (by decide) k_34
                  refine lv_iconst (v := 0) hx hb dX7_join_101 (by decide) ?_
                  have hP9 := hP.sub (ws' := [(o1, .inr (7, [.ref r1, .int zb])), (r1, .inl (c1, 6, .inr (.inl gb))), (o2, .inr (7, [.ref r2, .int n2])), (r2, .inl (c2, 6, .inr (.inl f2))), (o3, .inr (7, [.ref r3, .int n3])), (r3, .inl (c3, 6, .inr (.inl f3)))]) [0, 1, 2, 3, 4, 5] rfl
                  have hD9 := hD.sub (ws' := [(o1, .inr (7, [.ref r1, .int zb])), (r1, .inl (c1, 6, .inr (.inl gb))), (o2, .inr (7, [.ref r2, .int n2])), (r2, .inl (c2, 6, .inr (.inl f2))), (o3, .inr (7, [.ref r3, .int n3])), (r3, .inl (c3, 6, .inr (.inl f3)))]) [0, 1, 2, 3, 4, 5] (by decide) rfl
                  have hK9 := hK.sub (tys' := [(c1, .long), (c2, .long), (c3, .long)]) [0, 1, 2] rfl
                  exact W.zret hx hb hr (z_nar (by first | assumption | decide)) (fun t ht hW => ⟨⟨_, zb, rfl, ⟨by first | exact Or.inl rfl | exact Or.inr rfl, by omega⟩, gb, by rw [ht]; exact hP9, va_K.moved hW.alike hK9, hD9⟩, hS.F ht⟩) hS.2.2 dX7_join_102
                · have tk_34 := c_ngt (a := y_33.toInt) (b := 8) rfl (by decide) k_34
                  refine lv_aload_n hx hb dX7_join_84 rfl (lv_at hl 5 rfl) ?_
                  refine lv_lload hx hb dX7_join_85 (lv_at hl 3 rfl) ?_
                  refine lv_lload hx hb dX7_join_87 (lv_at hl 0 rfl) ?_
                  refine lv_iconst (v := 5) hx hb dX7_join_89 (by decide) ?_
                  refine lv_iload hx hb dX7_join_90 (lv_at hl 2 rfl) ?_
                  refine lv_imul hx hb dX7_join_92 ?_
                  refine lv_topi (fun y_35 ey_35 => ?_)
                  first | have ty_35 := i_mul (a := 5) (b := r_27.toInt) (by decide) rfl ey_35 (by omega) (by omega) | skip
                  refine lv_lushr hx hb dX7_join_93 rfl ?_
                  refine lv_topl (fun w_36 ew_36 => ?_)
                  refine lv_lor hx hb dX7_join_94 ?_
                  refine lv_topl (fun w_37 ew_37 => ?_)
                  have hPc := hP.sub (ws' := [(o1, .inr (7, [.ref r1, .int zb])), (r1, .inl (c1, 6, .inr (.inl gb)))]) [0, 1] rfl
                  have hKc := hK.sub (tys' := [(c1, .long)]) [0] rfl
                  have hDc := hD.sub (ws' := [(o1, .inr (7, [.ref r1, .int zb])), (r1, .inl (c1, 6, .inr (.inl gb)))]) [0, 1] (by decide) rfl
                  have hFc := va_free (wc := [(o1, .inr (7, [.ref r1, .int zb])), (r1, .inl (c1, 6, .inr (.inl gb)))]) hD hS hA [0, 1] rfl
                  refine va_calli (va_runV (As := [.long w_37]) (rest := []) ⟨hx, hb, hml, hown, hts⟩ (s_Rows_add l dC dI o1 r1 c1 gb zb H.size w_37 (by first | omega | decide) (by first | omega | decide)) (cwV 1 hts mg_X7_join_X7_add_38 rfl rfl rfl (by decide +kernel) ⟨Nat.le_of_ble_eq_true rfl, Nat.le_of_ble_eq_true rfl⟩) ⟨fun a U g mk q => by obtain ⟨q0, q1, qP, qK, qD⟩ := q; exact ⟨q0, q1, qP, va_K.moved (u := U) (U := U.calling g mk a) (Vm.Alike.refl U.vm) qK, qD⟩, va_recv hKc hPc (ci := 7) (q0 := 0) rfl rfl, fun U hU hW => ⟨rfl, by rw [hU], by rw [hU]; exact hPc, va_K.moved hW.alike hKc, hDc.weaken (fun _ _ _ _ => trivial)⟩⟩ rfl rfl hl.1 rfl (lv_room (Nat.le_of_ble_eq_true rfl)) dX7_join_95 ⟨Nat.le_of_ble_eq_true rfl, Nat.le_of_ble_eq_true rfl⟩) hS (fun q _ h => hFc q h) hFc (fun r_39 u t H1 locs ht hvm hw hB hz1 hk1 hS => ?_)
                  obtain ⟨f_41, hP1, hK1, hD1⟩ := hB
                  rw [ht] at hP1
                  generalize u = u_40 at hw hP1 hD1
                  have hu_40 := hw
                  obtain ⟨hP, hD⟩ := va_join (wr := [(o2, .inr (7, [.ref r2, .int n2])), (r2, .inl (c2, 6, .inr (.inl f2))), (o3, .inr (7, [.ref r3, .int n3])), (r3, .inl (c3, 6, .inr (.inl f3)))]) (w1 := [(o1, .inr (7, [.ref r1, .int u_40])), (r1, .inl (c1, 6, .inr (.inl f_41)))]) hP hD [0, 1] [2, 3, 4, 5] rfl rfl (by decide) (by decide) hk1 hFc hP1 hD1
                  generalize H1 = H at hP hS ⊢
                  have hP : va_P (dC, dI) vwCl [(o2, .inr (7, [.ref r2, .int n2])), (r2, .inl (c2, 6, .inr (.inl f2))), (o3, .inr (7, [.ref r3, .int n3])), (r3, .inl (c3, 6, .inr (.inl f3))), (o1, .inr (7, [.ref r1, .int u_40])), (r1, .inl (c1, 6, .inr (.inl f_41)))] H := hP
                  have hD : va_D A [(o2, .inr (7, [.ref r2, .int n2])), (r2, .inl (c2, 6, .inr (.inl f2))), (o3, .inr (7, [.ref r3, .int n3])), (r3, .inl (c3, 6, .inr (.inl f3))), (o1, .inr (7, [.ref r1, .int u_40])), (r1, .inl (c1, 6, .inr (.inl f_41)))] := hD
                  refine lv_if_ne (tgt := 103) hx hb dX7_join_98 (by decide) (fun k_42 => ?_) (fun k_42 => ?_)
                  · have tk_42 := c_ne (a := r_39.toInt) (b := 0) rfl (by decide) k_42
                    obtain ⟨y_43, ey_43⟩ : ∃ y : Int32, y = kk + 1 := ⟨_, rfl⟩
                    first | have ty_43 := i_add (a := kk.toInt) (b := 1) rfl (by decide) ey_43 (by omega) (by omega) | skip
                    refine lv_iinc (v := y_43) (lv' := [(8, .int y_43), (9, .long w_30), (7, .int r_27), (5, .long r_25), (4, .int ii), (0, .ref o1), (1, .ref o2), (2, .ref o3), (3, .int v9)]) hx hb dX7_join_103 hl (k := 1) rfl (by rw [ey_43]; rfl) (by decide) rfl (fun ls hl => ?_)
                    refine lv_goto (tgt := 53) hx hb dX7_join_106 (by decide) ?_
                    exact ih53 y_43 u_40 f_41 (by first | omega | decide | assumption) (by first | omega | decide | assumption) (by first | omega | decide | assumption) (by omega) _ _ ls (hP.sub [4, 5, 0, 1, 2, 3] rfl) (hD.sub [4, 5, 0, 1, 2, 3] (by decide) rfl) hS (lv_sub hl [0, 2, 3, 4, 5, 6, 7, 8] rfl)
                  · have tk_42 := c_eq (a := r_39.toInt) (b := 0) rfl (by decide) k_42
                    refine lv_iconst (v := 0) hx hb dX7_join_101 (by decide) ?_
                    have hP9 := hP.sub (ws' := [(o1, .inr (7, [.ref r1, .int u_40])), (r1, .inl (c1, 6, .inr (.inl f_41))), (o2, .inr (7, [.ref r2, .int n2])), (r2, .inl (c2, 6, .inr (.inl f2))), (o3, .inr (7, [.ref r3, .int n3])), (r3, .inl (c3, 6, .inr (.inl f3)))]) [4, 5, 0, 1, 2, 3] rfl
                    have hD9 := hD.sub (ws' := [(o1, .inr (7, [.ref r1, .int u_40])), (r1, .inl (c1, 6, .inr (.inl f_41))), (o2, .inr (7, [.ref r2, .int n2])), (r2, .inl (c2, 6, .inr (.inl f2))), (o3, .inr (7, [.ref r3, .int n3])), (r3, .inl (c3, 6, .inr (.inl f3)))]) [4, 5, 0, 1, 2, 3] (by decide) rfl
                    have hK9 := hK.sub (tys' := [(c1, .long), (c2, .long), (c3, .long)]) [0, 1, 2] rfl
                    exact W.zret hx hb hr (z_nar (by first | assumption | decide)) (fun t ht hW => ⟨⟨_, u_40, rfl, ⟨by first | exact Or.inl rfl | exact Or.inr rfl, by omega⟩, f_41, by rw [ht]; exact hP9, va_K.moved hW.alike hK9, hD9⟩, hS.F ht⟩) hS.2.2 dX7_join_102
          have lit_43 : (0 : Int32).toInt = 0 := by decide
          exact loop53 _ 0 za ga (by first | omega | decide | assumption) (by first | omega | decide | assumption) (by first | omega | decide | assumption) (Nat.lt_succ_self _) _ _ ls hP hD hS (lv_sub hl [0, 1, 2, 3, 4, 5, 6, 7] rfl)
  have lit_44 : (0 : Int32).toInt = 0 := by decide
  have lit_45 : (0 : Int32).toInt = 0 := by decide
  exact loop8 _ 0 0 f1 (by first | omega | decide | assumption) (by first | omega | decide | assumption) (by first | omega | decide | assumption) (Nat.lt_succ_self _) _ _ ls hP hD hS (lv_sub hl [0, 1, 2, 3, 4] rfl)
theorem dX7_inOrder_0 : decode cX7_inOrder 0 = .ok (.aload_n 0, 1) := by decide +kernel
theorem dX7_inOrder_1 : decode cX7_inOrder 1 = .ok (.getfield 28, 3) := by decide +kernel
theorem dX7_inOrder_4 : decode cX7_inOrder 4 = .ok (.newarray .long, 2) := by decide +kernel
theorem dX7_inOrder_6 : decode cX7_inOrder 6 = .ok (.astore_n 1, 1) := by decide +kernel
theorem dX7_inOrder_7 : decode cX7_inOrder 7 = .ok (.iconst 0, 1) := by decide +kernel
theorem dX7_inOrder_8 : decode cX7_inOrder 8 = .ok (.istore_n 2, 1) := by decide +kernel
theorem dX7_inOrder_9 : decode cX7_inOrder 9 = .ok (.iload_n 2, 1) := by decide +kernel
theorem dX7_inOrder_10 : decode cX7_inOrder 10 = .ok (.aload_n 0, 1) := by decide +kernel
theorem dX7_inOrder_11 : decode cX7_inOrder 11 = .ok (.getfield 28, 3) := by decide +kernel
theorem dX7_inOrder_14 : decode cX7_inOrder 14 = .ok (.if_icmp .ge 53, 3) := by decide +kernel
theorem dX7_inOrder_17 : decode cX7_inOrder 17 = .ok (.iload_n 2, 1) := by decide +kernel
theorem dX7_inOrder_18 : decode cX7_inOrder 18 = .ok (.istore_n 3, 1) := by decide +kernel
theorem dX7_inOrder_19 : decode cX7_inOrder 19 = .ok (.iload_n 3, 1) := by decide +kernel
theorem dX7_inOrder_20 : decode cX7_inOrder 20 = .ok (.ifCond .le 32, 3) := by decide +kernel
theorem dX7_inOrder_23 : decode cX7_inOrder 23 = .ok (.aload_n 1, 1) := by decide +kernel
theorem dX7_inOrder_24 : decode cX7_inOrder 24 = .ok (.iload_n 3, 1) := by decide +kernel
theorem dX7_inOrder_25 : decode cX7_inOrder 25 = .ok (.iconst 1, 1) := by decide +kernel
theorem dX7_inOrder_26 : decode cX7_inOrder 26 = .ok (.isub, 1) := by decide +kernel
theorem dX7_inOrder_27 : decode cX7_inOrder 27 = .ok (.laload, 1) := by decide +kernel
theorem dX7_inOrder_28 : decode cX7_inOrder 28 = .ok (.aload_n 0, 1) := by decide +kernel
theorem dX7_inOrder_29 : decode cX7_inOrder 29 = .ok (.getfield 11, 3) := by decide +kernel
theorem dX7_inOrder_32 : decode cX7_inOrder 32 = .ok (.iload_n 2, 1) := by decide +kernel
theorem dX7_inOrder_33 : decode cX7_inOrder 33 = .ok (.laload, 1) := by decide +kernel
theorem dX7_inOrder_34 : decode cX7_inOrder 34 = .ok (.lcmp, 1) := by decide +kernel
theorem dX7_inOrder_35 : decode cX7_inOrder 35 = .ok (.ifCond .le 17, 3) := by decide +kernel
theorem dX7_inOrder_38 : decode cX7_inOrder 38 = .ok (.aload_n 1, 1) := by decide +kernel
theorem dX7_inOrder_39 : decode cX7_inOrder 39 = .ok (.iload_n 3, 1) := by decide +kernel
theorem dX7_inOrder_40 : decode cX7_inOrder 40 = .ok (.aload_n 1, 1) := by decide +kernel
theorem dX7_inOrder_41 : decode cX7_inOrder 41 = .ok (.iload_n 3, 1) := by decide +kernel
theorem dX7_inOrder_42 : decode cX7_inOrder 42 = .ok (.iconst 1, 1) := by decide +kernel
theorem dX7_inOrder_43 : decode cX7_inOrder 43 = .ok (.isub, 1) := by decide +kernel
theorem dX7_inOrder_44 : decode cX7_inOrder 44 = .ok (.laload, 1) := by decide +kernel
theorem dX7_inOrder_45 : decode cX7_inOrder 45 = .ok (.lastore, 1) := by decide +kernel
theorem dX7_inOrder_46 : decode cX7_inOrder 46 = .ok (.iinc 3 (-1), 3) := by decide +kernel
theorem dX7_inOrder_49 : decode cX7_inOrder 49 = .ok (.goto (-30), 3) := by decide +kernel
theorem dX7_inOrder_52 : decode cX7_inOrder 52 = .ok (.aload_n 1, 1) := by decide +kernel
theorem dX7_inOrder_53 : decode cX7_inOrder 53 = .ok (.iload_n 3, 1) := by decide +kernel
theorem dX7_inOrder_54 : decode cX7_inOrder 54 = .ok (.aload_n 0, 1) := by decide +kernel
theorem dX7_inOrder_55 : decode cX7_inOrder 55 = .ok (.getfield 11, 3) := by decide +kernel
theorem dX7_inOrder_58 : decode cX7_inOrder 58 = .ok (.iload_n 2, 1) := by decide +kernel
theorem dX7_inOrder_59 : decode cX7_inOrder 59 = .ok (.laload, 1) := by decide +kernel
theorem dX7_inOrder_60 : decode cX7_inOrder 60 = .ok (.lastore, 1) := by decide +kernel
theorem dX7_inOrder_61 : decode cX7_inOrder 61 = .ok (.iinc 2 1, 3) := by decide +kernel
theorem dX7_inOrder_64 : decode cX7_inOrder 64 = .ok (.goto (-55), 3) := by decide +kernel
theorem dX7_inOrder_67 : decode cX7_inOrder 67 = .ok (.aload_n 1, 1) := by decide +kernel
theorem dX7_inOrder_68 : decode cX7_inOrder 68 = .ok (.areturn, 1) := by decide +kernel
def mwX7_inOrder : List Cond := .code yX7_inOrder cX7_inOrder 4 (some (.array .long)) :: ([.fieldLink RX7 28 "PatternGate$Rows" "size" "I", .arrayClass .long, .fieldLink RX7 11 "PatternGate$Rows" "row" "[J"] ++ wsX70)
theorem fin_X7_inOrder_X7 : ∀ w ∈ wsX70, w ∈ mwX7_inOrder := fun w h => List.mem_cons_of_mem _ (List.mem_append_right _ h)
set_option maxHeartbeats 4000000 in
set_option maxRecDepth 100000 in
/-- Rows.inOrder -/
theorem s_Rows_inOrder (l : Launch) (dC : Nat → ClassId) (dI : Nat → Nat → Nat) (o ra : Nat) (cL : ClassId) (f : Nat → Int64) (n9 : Int32) (sz : Nat) (hz1 : 0 ≤ n9.toInt) (hz2 : n9.toInt ≤ 6) : Met l yX7_inOrder mwX7_inOrder ({ frames := 0, cells := 1, slots := 6, locals := 0 }) (va_Pc [.ref o] (fun U => U.heap.size = sz ∧ va_P (dC, dI) vwCl ([(o, .inr (7, [.ref ra, .int n9])), (ra, .inl (cL, 6, .inr (.inl f)))]) U.heap ∧ va_K (dC, dI) vwCl ([(cL, .long)]) U ∧ va_D (fun _ => True) ([(o, .inr (7, [.ref ra, .int n9])), (ra, .inl (cL, 6, .inr (.inl f)))]))) (va_Qr (fun (_ : Unit) => True) (fun _ a t => ∃ (k9 : Nat) (f9 : Nat → Int64) (cN : ClassId), k9 ≤ 6 ∧ va_P (dC, dI) vwCl [(o, .inr (7, [.ref ra, .int n9])), (ra, .inl (cL, 6, .inr (.inl f))), (a, .inl (cN, k9, .inr (.inl f9)))] t.heap ∧ va_K (dC, dI) vwCl [(cL, .long), (cN, .long)] t ∧ va_D (va_A ([(o, .inr (7, [.ref ra, .int n9])), (ra, .inl (cL, 6, .inr (.inl f)))]) sz) [(o, .inr (7, [.ref ra, .int n9])), (ra, .inl (cL, 6, .inr (.inl f))), (a, .inl (cN, k9, .inr (.inl f9)))]) (va_A ([(o, .inr (7, [.ref ra, .int n9])), (ra, .inl (cL, 6, .inr (.inl f)))]) sz)) 1 6 (va_A ([(o, .inr (7, [.ref ra, .int n9])), (ra, .inl (cL, 6, .inr (.inl f)))]) sz) := by
  refine Met.ofW (cc := cX7_inOrder) (maxL := 4) (ret := (some (.array .long))) (by decide +kernel) rfl ?_
  intro p e s m args below meth c s₁ B hml hv
  obtain ⟨rfl, hsz, hP, hK, hD0⟩ := hv
  have hx := B.exec
  have hb := B.bytes
  have hr := B.returns
  have hts := atoms_spec (ws := mwX7_inOrder) B.pre
  have hown : s.vm.findClass RX7 = some m.cls := findClass_of_methodNamed B.named
  have hlocks := B.notSynchronized
  subst hsz
  have hD := hD0.self (sz := s.heap.size)
  generalize hAe : va_A ([(o, .inr (7, [.ref ra, .int n9])), (ra, .inl (cL, 6, .inr (.inl f)))]) s.heap.size = A at hD ⊢
  have hA : ∀ q : Nat, s.heap.size ≤ q → A q := fun q h => by rw [← hAe]; exact Or.inr h
  have hP : va_P (dC, dI) vwCl [(o, .inr (7, [.ref ra, .int n9])), (ra, .inl (cL, 6, .inr (.inl f)))] s.heap := hP
  have hD : va_D A [(o, .inr (7, [.ref ra, .int n9])), (ra, .inl (cL, 6, .inr (.inl f)))] := hD
  have hK : va_K (dC, dI) vwCl [(cL, .long)] s := hK
  generalize hH : s.heap = H at hP ⊢
  have hS : va_S A s.heap H [] := by rw [← hH]; exact va_S.rf
  have hl := lv_entry ([.ref o]) (n := 4) (Nat.le_of_ble_eq_true rfl)
  rw [lg_entry_eq]
  generalize (lg_sl ([.ref o]) ++ List.replicate (4 - (lg_sl ([.ref o])).length) Slot.unset).toArray = ls at hl ⊢
  have hl : lv_has ls 4 [(0, .ref o)] := hl
  refine lv_aload_n hx hb dX7_inOrder_0 rfl (lv_at hl 0 rfl) ?_
  refine va_get (D := (dC, dI)) (ci := 7) (v := .int n9) (C := RX7) (T := TX7) (N := 2) hx hb hts fin_X7_inOrder_X7 hown hK hP 0 rfl rfl 1 (by decide) (hts (.fieldLink RX7 28 "PatternGate$Rows" "size" "I") (List.mem_of_getElem? (i := 1) (by decide +kernel))) (fun _ h9 => h9) rfl dX7_inOrder_1 ?_
  obtain ⟨n_3, hn_3, en_3⟩ := nI_of (i_nn (x := n9) rfl (by omega))
  have tn_3 : n9.toInt = (n_3 : Int) := by rw [en_3]; exact nI_toInt hn_3
  have un_3 : n_3 ≤ 6 := by omega
  refine va_newa (atype := .long) (ty := .long) (n := n9) (N' := n_3) (a0 := (n_3, .inr (.inl (fun _ => 0)))) hx hb (hts (.arrayClass .long) (List.mem_of_getElem? (i := 2) (by decide +kernel))) rfl hK hP hD hS hA (fun _ => rfl) (i_nn rfl (by omega)) (by rw [en_3]; exact nI_clamp hn_3) (by show n_3 * 8 ≤ 536870912; omega) (Nat.le_of_ble_eq_true rfl) (Nat.le_trans (Nat.add_le_add_left un_3 _) (Nat.le_of_ble_eq_true rfl)) dX7_inOrder_4 (fun q_1 c_2 H hK hP hD hS => ?_)
  have hP : va_P (dC, dI) vwCl [(o, .inr (7, [.ref ra, .int n9])), (ra, .inl (cL, 6, .inr (.inl f))), (q_1, .inl (c_2, n_3, .inr (.inl (fun _ => 0))))] H := hP
  have hD : va_D A [(o, .inr (7, [.ref ra, .int n9])), (ra, .inl (cL, 6, .inr (.inl f))), (q_1, .inl (c_2, n_3, .inr (.inl (fun _ => 0))))] := hD
  have hK : va_K (dC, dI) vwCl [(cL, .long), (c_2, .long)] s := hK
  refine W.widen (k := 1) (n := 6) (by omega) (by omega) ?_
  refine lv_astore_n (lv' := [(1, .ref q_1), (0, .ref o)]) hx hb dX7_inOrder_6 rfl hl (by decide) rfl (fun ls hl => ?_)
  refine lv_iconst (v := 0) hx hb dX7_inOrder_7 (by decide) ?_
  refine lv_istore_n (lv' := [(2, .int 0), (1, .ref q_1), (0, .ref o)]) hx hb dX7_inOrder_8 rfl hl (by decide) rfl (fun ls hl => ?_)
  have loop9 : ∀ (n_9 : Nat) (ii : Int32) (ga : Nat → Int64), (0 ≤ ii.toInt) → ((n9.toInt - ii.toInt).toNat) < n_9 → ∀ (H : Heap) (locs : List Loc) (ls : Array Slot), va_P (dC, dI) vwCl [(o, .inr (7, [.ref ra, .int n9])), (ra, .inl (cL, 6, .inr (.inl f))), (q_1, .inl (c_2, n_3, .inr (.inl ga)))] H → va_D A [(o, .inr (7, [.ref ra, .int n9])), (ra, .inl (cL, 6, .inr (.inl f))), (q_1, .inl (c_2, n_3, .inr (.inl ga)))] → va_S A s.heap H locs → lv_has ls 4 [(2, .int ii), (1, .ref q_1), (0, .ref o)] → W p l e (headSpec mwX7_inOrder ({ frames := 0, cells := 1, slots := 6, locals := 0 })).room s m ([.ref o]).toArray below meth c H locs 1 6 (MQ below (va_Qr (fun (_ : Unit) => True) (fun _ a t => ∃ (k9 : Nat) (f9 : Nat → Int64) (cN : ClassId), k9 ≤ 6 ∧ va_P (dC, dI) vwCl [(o, .inr (7, [.ref ra, .int n9])), (ra, .inl (cL, 6, .inr (.inl f))), (a, .inl (cN, k9, .inr (.inl f9)))] t.heap ∧ va_K (dC, dI) vwCl [(cL, .long), (cN, .long)] t ∧ va_D A [(o, .inr (7, [.ref ra, .int n9])), (ra, .inl (cL, 6, .inr (.inl f))), (a, .inl (cN, k9, .inr (.inl f9)))]) A) ([.ref o]).toArray s 1 6 A) (F0 m 9 ls []) := by
    intro n_9
    induction n_9 with
    | zero => intro ii ga v9_0 hm9; exact absurd hm9 (Nat.not_lt_zero _)
    | succ n_9 ih9 =>
      intro ii ga v9_0 hm9 H locs ls hP hD hS hl
      have rg_ii := i_rng ii
      refine lv_iload_n hx hb dX7_inOrder_9 rfl (lv_at hl 0 rfl) ?_
      refine lv_aload_n hx hb dX7_inOrder_10 rfl (lv_at hl 2 rfl) ?_
      refine va_get (D := (dC, dI)) (ci := 7) (v := .int n9) (C := RX7) (T := TX7) (N := 2) hx hb hts fin_X7_inOrder_X7 hown hK hP 0 rfl rfl 1 (by decide) (hts (.fieldLink RX7 28 "PatternGate$Rows" "size" "I") (List.mem_of_getElem? (i := 1) (by decide +kernel))) (fun _ h9 => h9) rfl dX7_inOrder_11 ?_
      refine lv_icmp_ge (tgt := 67) hx hb dX7_inOrder_14 (by decide) (fun k_4 => ?_) (fun k_4 => ?_)
      · have tk_4 := c_ge (a := ii.toInt) (b := n9.toInt) rfl rfl k_4
        refine lv_aload_n hx hb dX7_inOrder_67 rfl (lv_at hl 1 rfl) ?_
        have hP9 := hP.sub (ws' := [(o, .inr (7, [.ref ra, .int n9])), (ra, .inl (cL, 6, .inr (.inl f))), (q_1, .inl (c_2, n_3, .inr (.inl ga)))]) [0, 1, 2] rfl
        have hD9 := hD.sub (ws' := [(o, .inr (7, [.ref ra, .int n9])), (ra, .inl (cL, 6, .inr (.inl f))), (q_1, .inl (c_2, n_3, .inr (.inl ga)))]) [0, 1, 2] (by decide) rfl
        have hK9 := hK.sub (tys' := [(cL, .long), (c_2, .long)]) [0, 1] rfl
        refine W.widen (k := 1) (n := 6) (by omega) (by omega) ?_
        exact W.aret hx hb hr (Or.inr ⟨_, rfl⟩) (Or.inr ⟨_, rfl⟩) (fun t ht hW => ⟨⟨(), _, rfl, trivial, n_3, ga, c_2, by omega, by rw [ht]; exact hP9, va_K.moved hW.alike hK9, hD9⟩, hS.F ht⟩) hS.2.2 dX7_inOrder_68
      · have tk_4 := c_nge (a := ii.toInt) (b := n9.toInt) rfl rfl k_4
        refine lv_iload_n hx hb dX7_inOrder_17 rfl (lv_at hl 0 rfl) ?_
        refine lv_istore_n (lv' := [(3, .int ii), (2, .int ii), (1, .ref q_1), (0, .ref o)]) hx hb dX7_inOrder_18 rfl hl (by decide) rfl (fun ls hl => ?_)
        have loop19 : ∀ (n_19 : Nat) (kk : Int32) (gb : Nat → Int64), (0 ≤ kk.toInt) → (kk.toInt ≤ ii.toInt) → kk.toInt.toNat < n_19 → ∀ (H : Heap) (locs : List Loc) (ls : Array Slot), va_P (dC, dI) vwCl [(o, .inr (7, [.ref ra, .int n9])), (ra, .inl (cL, 6, .inr (.inl f))), (q_1, .inl (c_2, n_3, .inr (.inl gb)))] H → va_D A [(o, .inr (7, [.ref ra, .int n9])), (ra, .inl (cL, 6, .inr (.inl f))), (q_1, .inl (c_2, n_3, .inr (.inl gb)))] → va_S A s.heap H locs → lv_has ls 4 [(3, .int kk), (2, .int ii), (1, .ref q_1), (0, .ref o)] → W p l e (headSpec mwX7_inOrder ({ frames := 0, cells := 1, slots := 6, locals := 0 })).room s m ([.ref o]).toArray below meth c H locs 1 6 (MQ below (va_Qr (fun (_ : Unit) => True) (fun _ a t => ∃ (k9 : Nat) (f9 : Nat → Int64) (cN : ClassId), k9 ≤ 6 ∧ va_P (dC, dI) vwCl [(o, .inr (7, [.ref ra, .int n9])), (ra, .inl (cL, 6, .inr (.inl f))), (a, .inl (cN, k9, .inr (.inl f9)))] t.heap ∧ va_K (dC, dI) vwCl [(cL, .long), (cN, .long)] t ∧ va_D A [(o, .inr (7, [.ref ra, .int n9])), (ra, .inl (cL, 6, .inr (.inl f))), (a, .inl (cN, k9, .inr (.inl f9)))]) A) ([.ref o]).toArray s 1 6 A) (F0 m 19 ls []) := by
          intro n_19
          induction n_19 with
          | zero => intro kk gb v19_0 v19_1 hm19; exact absurd hm19 (Nat.not_lt_zero _)
          | succ n_19 ih19 =>
            intro kk gb v19_0 v19_1 hm19 H locs ls hP hD hS hl
            have rg_kk := i_rng kk
            refine lv_iload_n hx hb dX7_inOrder_19 rfl (lv_at hl 0 rfl) ?_
            refine lv_if_le (tgt := 52) hx hb dX7_inOrder_20 (by decide) (fun k_5 => ?_) (fun k_5 => ?_)
            · have tk_5 := c_le (a := kk.toInt) (b := 0) rfl (by decide) k_5
              refine lv_aload_n hx hb dX7_inOrder_52 rfl (lv_at hl 2 rfl) ?_
              refine lv_iload_n hx hb dX7_inOrder_53 rfl (lv_at hl 0 rfl) ?_
              refine lv_aload_n hx hb dX7_inOrder_54 rfl (lv_at hl 3 rfl) ?_
              refine va_get (D := (dC, dI)) (ci := 7) (v := .ref ra) (C := RX7) (T := TX7) (N := 2) hx hb hts fin_X7_inOrder_X7 hown hK hP 0 rfl rfl 0 (by decide) (hts (.fieldLink RX7 11 "PatternGate$Rows" "row" "[J") (List.mem_of_getElem? (i := 3) (by decide +kernel))) (fun _ h9 => h9) rfl dX7_inOrder_55 ?_
              refine lv_iload_n hx hb dX7_inOrder_58 rfl (lv_at hl 1 rfl) ?_
              refine va_lald hx hb hK hP 1 0 rfl rfl (i := ii) (vp_of (a := ii.toInt) rfl (by omega) (by omega)) dX7_inOrder_59 ?_
              refine lv_topl (fun w_6 ew_6 => ?_)
              refine va_last hx hb hK hP hD hS 2 1 rfl rfl (i := kk) (vp_of (a := kk.toInt) rfl (by omega) (by omega)) dX7_inOrder_60 (fun H locs hP hD hS => ?_)
              generalize hf_f_7 : vp_updL gb _ _ = f_7 at hP hD
              have hP : va_P (dC, dI) vwCl [(o, .inr (7, [.ref ra, .int n9])), (ra, .inl (cL, 6, .inr (.inl f))), (q_1, .inl (c_2, n_3, .inr (.inl f_7)))] H := hP
              have hD : va_D A [(o, .inr (7, [.ref ra, .int n9])), (ra, .inl (cL, 6, .inr (.inl f))), (q_1, .inl (c_2, n_3, .inr (.inl f_7)))] := hD
              obtain ⟨y_8, ey_8⟩ : ∃ y : Int32, y = ii + 1 := ⟨_, rfl⟩
              first | have ty_8 := i_add (a := ii.toInt) (b := 1) rfl (by decide) ey_8 (by omega) (by omega) | skip
              refine lv_iinc (v := y_8) (lv' := [(2, .int y_8), (3, .int kk), (1, .ref q_1), (0, .ref o)]) hx hb dX7_inOrder_61 hl (k := 1) rfl (by rw [ey_8]; rfl) (by decide) rfl (fun ls hl => ?_)
              refine lv_goto (tgt := 9) hx hb dX7_inOrder_64 (by decide) ?_
              exact ih9 y_8 f_7 (by first | omega | decide | assumption) (by omega) _ _ ls hP hD hS (lv_sub hl [0, 2, 3] rfl)
            · have tk_5 := c_nle (a := kk.toInt) (b := 0) rfl (by decide) k_5
              refine lv_aload_n hx hb dX7_inOrder_23 rfl (lv_at hl 2 rfl) ?_
              refine lv_iload_n hx hb dX7_inOrder_24 rfl (lv_at hl 0 rfl) ?_
              refine lv_iconst (v := 1) hx hb dX7_inOrder_25 (by decide) ?_
              refine lv_isub hx hb dX7_inOrder_26 ?_
              refine lv_topi (fun y_9 ey_9 => ?_)
              first | have ty_9 := i_sub (a := kk.toInt) (b := 1) rfl (by decide) ey_9 (by omega) (by omega) | skip
              refine va_lald hx hb hK hP 2 1 rfl rfl (i := y_9) (vp_of (a := y_9.toInt) rfl (by omega) (by omega)) dX7_inOrder_27 ?_
              refine lv_topl (fun w_10 ew_10 => ?_)
              refine lv_aload_n hx hb dX7_inOrder_28 rfl (lv_at hl 3 rfl) ?_
              refine va_get (D := (dC, dI)) (ci := 7) (v := .ref ra) (C := RX7) (T := TX7) (N := 2) hx hb hts fin_X7_inOrder_X7 hown hK hP 0 rfl rfl 0 (by decide) (hts (.fieldLink RX7 11 "PatternGate$Rows" "row" "[J") (List.mem_of_getElem? (i := 3) (by decide +kernel))) (fun _ h9 => h9) rfl dX7_inOrder_29 ?_
              refine lv_iload_n hx hb dX7_inOrder_32 rfl (lv_at hl 1 rfl) ?_
              refine va_lald hx hb hK hP 1 0 rfl rfl (i := ii) (vp_of (a := ii.toInt) rfl (by omega) (by omega)) dX7_inOrder_33 ?_
              refine lv_topl (fun w_11 ew_11 => ?_)
              refine W.lcmp hx hb dX7_inOrder_34 ?_
              refine lv_topi (fun y_12 ey_12 => ?_)
              have rg_y_12 := i_rng y_12
              refine lv_if_le (tgt := 52) hx hb dX7_inOrder_35 (by decide) (fun k_13 => ?_) (fun k_13 => ?_)
              · have tk_13 := c_le (a := y_12.toInt) (b := 0) rfl (by decide) k_13
                refine lv_aload_n hx hb dX7_inOrder_52 rfl (lv_at hl 2 rfl) ?_
                refine lv_iload_n hx hb dX7_inOrder_53 rfl (lv_at hl 0 rfl) ?_
                refine lv_aload_n hx hb dX7_inOrder_54 rfl (lv_at hl 3 rfl) ?_
                refine va_get (D := (dC, dI)) (ci := 7) (v := .ref ra) (C := RX7) (T := TX7) (N := 2) hx hb hts fin_X7_inOrder_X7 hown hK hP 0 rfl rfl 0 (by decide) (hts (.fieldLink RX7 11 "PatternGate$Rows" "row" "[J") (List.mem_of_getElem? (i := 3) (by decide +kernel))) (fun _ h9 => h9) rfl dX7_inOrder_55 ?_
                refine lv_iload_n hx hb dX7_inOrder_58 rfl (lv_at hl 1 rfl) ?_
                refine va_lald hx hb hK hP 1 0 rfl rfl (i := ii) (vp_of (a := ii.toInt) rfl (by omega) (by omega)) dX7_inOrder_59 ?_
                refine lv_topl (fun w_14 ew_14 => ?_)
                refine va_last hx hb hK hP hD hS 2 1 rfl rfl (i := kk) (vp_of (a := kk.toInt) rfl (by omega) (by omega)) dX7_inOrder_60 (fun H locs hP hD hS => ?_)
                generalize hf_f_15 : vp_updL gb _ _ = f_15 at hP hD
                have hP : va_P (dC, dI) vwCl [(o, .inr (7, [.ref ra, .int n9])), (ra, .inl (cL, 6, .inr (.inl f))), (q_1, .inl (c_2, n_3, .inr (.inl f_15)))] H := hP
                have hD : va_D A [(o, .inr (7, [.ref ra, .int n9])), (ra, .inl (cL, 6, .inr (.inl f))), (q_1, .inl (c_2, n_3, .inr (.inl f_15)))] := hD
                obtain ⟨y_16, ey_16⟩ : ∃ y : Int32, y = ii + 1 := ⟨_, rfl⟩
                first | have ty_16 := i_add (a := ii.toInt) (b := 1) rfl (by decide) ey_16 (by omega) (by omega) | skip
                refine lv_iinc (v := y_16) (lv' := [(2, .int y_16), (3, .int kk), (1, .ref q_1), (0, .ref o)]) hx hb dX7_inOrder_61 hl (k := 1) rfl (by rw [ey_16]; rfl) (by decide) rfl (fun ls hl => ?_)
                refine lv_goto (tgt := 9) hx hb dX7_inOrder_64 (by decide) ?_
                exact ih9 y_16 f_15 (by first | omega | decide | assumption) (by omega) _ _ ls hP hD hS (lv_sub hl [0, 2, 3] rfl)
              · have tk_13 := c_nle (a := y_12.toInt) (b := 0) rfl (by decide) k_13
                refine lv_aload_n hx hb dX7_inOrder_38 rfl (lv_at hl 2 rfl) ?_
                refine lv_iload_n hx hb dX7_inOrder_39 rfl (lv_at hl 0 rfl) ?_
                refine lv_aload_n hx hb dX7_inOrder_40 rfl (lv_at hl 2 rfl) ?_
                refine lv_iload_n hx hb dX7_inOrder_41 rfl (lv_at hl 0 rfl) ?_
                refine lv_iconst (v := 1) hx hb dX7_inOrder_42 (by decide) ?_
                refine lv_isub hx hb dX7_inOrder_43 ?_
                refine lv_topi (fun y_17 ey_17 => ?_)
                first | have ty_17 := i_sub (a := kk.toInt) (b := 1) rfl (by decide) ey_17 (by omega) (by omega) | skip
                refine va_lald hx hb hK hP 2 1 rfl rfl (i := y_17) (vp_of (a := y_17.toInt) rfl (by omega) (by omega)) dX7_inOrder_44 ?_
                refine lv_topl (fun w_18 ew_18 => ?_)
                refine va_last hx hb hK hP hD hS 2 1 rfl rfl (i := kk) (vp_of (a := kk.toInt) rfl (by omega) (by omega)) dX7_inOrder_45 (fun H locs hP hD hS => ?_)
                generalize hf_f_19 : vp_updL gb _ _ = f_19 at hP hD
                have hP : va_P (dC, dI) vwCl [(o, .inr (7, [.ref ra, .int n9])), (ra, .inl (cL, 6, .inr (.inl f))), (q_1, .inl (c_2, n_3, .inr (.inl f_19)))] H := hP
                have hD : va_D A [(o, .inr (7, [.ref ra, .int n9])), (ra, .inl (cL, 6, .inr (.inl f))), (q_1, .inl (c_2, n_3, .inr (.inl f_19)))] := hD
                obtain ⟨y_20, ey_20⟩ : ∃ y : Int32, y = kk + (-1) := ⟨_, rfl⟩
                first | have ty_20 := i_add (a := kk.toInt) (b := (-1)) rfl (by decide) ey_20 (by omega) (by omega) | skip
                refine lv_iinc (v := y_20) (lv' := [(3, .int y_20), (2, .int ii), (1, .ref q_1), (0, .ref o)]) hx hb dX7_inOrder_46 hl (k := 0) rfl (by rw [ey_20]; rfl) (by decide) rfl (fun ls hl => ?_)
                refine lv_goto (tgt := 19) hx hb dX7_inOrder_49 (by decide) ?_
                exact ih19 y_20 f_19 (by first | omega | decide | assumption) (by first | omega | decide | assumption) (by omega) _ _ ls hP hD hS (lv_sub hl [0, 1, 2, 3] rfl)
        exact loop19 _ ii ga (by first | omega | decide | assumption) (by first | omega | decide | assumption) (Nat.lt_succ_self _) _ _ ls hP hD hS (lv_sub hl [0, 1, 2, 3] rfl)
  have lit_20 : (0 : Int32).toInt = 0 := by decide
  exact loop9 _ 0 (fun _ => 0) (by first | omega | decide | assumption) (Nat.lt_succ_self _) _ _ ls hP hD hS (lv_sub hl [0, 1, 2] rfl)

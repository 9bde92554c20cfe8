theorem dX3_insert_0 : decode cX3_insert 0 = .ok (.iload_n 1, 1) := by decide +kernel
theorem dX3_insert_1 : decode cX3_insert 1 = .ok (.istore_n 3, 1) := by decide +kernel
theorem dX3_insert_2 : decode cX3_insert 2 = .ok (.iload_n 3, 1) := by decide +kernel
theorem dX3_insert_3 : decode cX3_insert 3 = .ok (.ifCond .le 18, 3) := by decide +kernel
theorem dX3_insert_6 : decode cX3_insert 6 = .ok (.aload_n 0, 1) := by decide +kernel
theorem dX3_insert_7 : decode cX3_insert 7 = .ok (.iload_n 3, 1) := by decide +kernel
theorem dX3_insert_8 : decode cX3_insert 8 = .ok (.iconst 1, 1) := by decide +kernel
theorem dX3_insert_9 : decode cX3_insert 9 = .ok (.isub, 1) := by decide +kernel
theorem dX3_insert_10 : decode cX3_insert 10 = .ok (.iaload, 1) := by decide +kernel
theorem dX3_insert_11 : decode cX3_insert 11 = .ok (.iload_n 2, 1) := by decide +kernel
theorem dX3_insert_12 : decode cX3_insert 12 = .ok (.if_icmp .le 9, 3) := by decide +kernel
theorem dX3_insert_15 : decode cX3_insert 15 = .ok (.iinc 3 (-1), 3) := by decide +kernel
theorem dX3_insert_18 : decode cX3_insert 18 = .ok (.goto (-16), 3) := by decide +kernel
theorem dX3_insert_21 : decode cX3_insert 21 = .ok (.iload_n 1, 1) := by decide +kernel
theorem dX3_insert_22 : decode cX3_insert 22 = .ok (.aload_n 0, 1) := by decide +kernel
theorem dX3_insert_23 : decode cX3_insert 23 = .ok (.arraylength, 1) := by decide +kernel
theorem dX3_insert_24 : decode cX3_insert 24 = .ok (.if_icmp .ge 16, 3) := by decide +kernel
theorem dX3_insert_27 : decode cX3_insert 27 = .ok (.iload_n 3, 1) := by decide +kernel
theorem dX3_insert_28 : decode cX3_insert 28 = .ok (.ifCond .le 14, 3) := by decide +kernel
theorem dX3_insert_31 : decode cX3_insert 31 = .ok (.aload_n 0, 1) := by decide +kernel
theorem dX3_insert_32 : decode cX3_insert 32 = .ok (.iload_n 3, 1) := by decide +kernel
theorem dX3_insert_33 : decode cX3_insert 33 = .ok (.iconst 1, 1) := by decide +kernel
theorem dX3_insert_34 : decode cX3_insert 34 = .ok (.isub, 1) := by decide +kernel
theorem dX3_insert_35 : decode cX3_insert 35 = .ok (.iaload, 1) := by decide +kernel
theorem dX3_insert_36 : decode cX3_insert 36 = .ok (.iload_n 2, 1) := by decide +kernel
theorem dX3_insert_37 : decode cX3_insert 37 = .ok (.if_icmp .ne 5, 3) := by decide +kernel
theorem dX3_insert_40 : decode cX3_insert 40 = .ok (.iload_n 1, 1) := by decide +kernel
theorem dX3_insert_41 : decode cX3_insert 41 = .ok (.ireturn, 1) := by decide +kernel
theorem dX3_insert_42 : decode cX3_insert 42 = .ok (.aload_n 0, 1) := by decide +kernel
theorem dX3_insert_43 : decode cX3_insert 43 = .ok (.iload_n 3, 1) := by decide +kernel
theorem dX3_insert_44 : decode cX3_insert 44 = .ok (.aload_n 0, 1) := by decide +kernel
theorem dX3_insert_45 : decode cX3_insert 45 = .ok (.iload_n 3, 1) := by decide +kernel
theorem dX3_insert_46 : decode cX3_insert 46 = .ok (.iconst 1, 1) := by decide +kernel
theorem dX3_insert_47 : decode cX3_insert 47 = .ok (.iadd, 1) := by decide +kernel
theorem dX3_insert_48 : decode cX3_insert 48 = .ok (.iload_n 1, 1) := by decide +kernel
theorem dX3_insert_49 : decode cX3_insert 49 = .ok (.iload_n 3, 1) := by decide +kernel
theorem dX3_insert_50 : decode cX3_insert 50 = .ok (.isub, 1) := by decide +kernel
theorem dX3_insert_51 : decode cX3_insert 51 = .ok (.invokestatic 38, 3) := by decide +kernel
theorem dX3_insert_54 : decode cX3_insert 54 = .ok (.aload_n 0, 1) := by decide +kernel
theorem dX3_insert_55 : decode cX3_insert 55 = .ok (.iload_n 3, 1) := by decide +kernel
theorem dX3_insert_56 : decode cX3_insert 56 = .ok (.iload_n 2, 1) := by decide +kernel
theorem dX3_insert_57 : decode cX3_insert 57 = .ok (.iastore, 1) := by decide +kernel
theorem dX3_insert_58 : decode cX3_insert 58 = .ok (.iload_n 1, 1) := by decide +kernel
theorem dX3_insert_59 : decode cX3_insert 59 = .ok (.iconst 1, 1) := by decide +kernel
theorem dX3_insert_60 : decode cX3_insert 60 = .ok (.iadd, 1) := by decide +kernel
theorem dX3_insert_61 : decode cX3_insert 61 = .ok (.ireturn, 1) := by decide +kernel
def mwX3_insert : List Cond := .code yX3_insert cX3_insert 4 (some .int) :: ([.methodLink RX3 38 arraycopyName, .native arraycopyName, .static arraycopyName, .initialized "java/lang/System"])
set_option maxHeartbeats 4000000 in
set_option maxRecDepth 100000 in
/-- Need.insert -/
theorem s_insert (l : Launch) (dC : Nat → ClassId) (dI : Nat → Nat → Nat) (ia n : Nat) (cI : ClassId) (f : Nat → Int32) (sz : Nat) (k9 v9 : Int32) (hn : n ≤ 100000) (h1 : 0 ≤ k9.toInt) (h2 : k9.toInt ≤ n) : Met l yX3_insert mwX3_insert ({ frames := 1, cells := 0, slots := 0, locals := 60 }) (va_Pc [.ref ia, .int k9, .int v9] (fun U => U.heap.size = sz ∧ va_P (dC, dI) vwCl ([(ia, .inl (cI, n, .inl f))]) U.heap ∧ va_K (dC, dI) vwCl ([(cI, .int)]) U ∧ va_D (fun _ => True) ([(ia, .inl (cI, n, .inl f))]))) (va_Qi (fun (o9 : Int32) (_ : Unit) => k9.toInt ≤ o9.toInt ∧ o9.toInt ≤ k9.toInt + 1 ∧ o9.toInt ≤ n) (fun _ t => ∃ f9 : Nat → Int32, va_P (dC, dI) vwCl [(ia, .inl (cI, n, .inl f9))] t.heap ∧ va_K (dC, dI) vwCl [(cI, .int)] t ∧ va_D (va_A ([(ia, .inl (cI, n, .inl f))]) sz) [(ia, .inl (cI, n, .inl f9))]) (va_A ([(ia, .inl (cI, n, .inl f))]) sz)) 0 0 (va_A ([(ia, .inl (cI, n, .inl f))]) sz) := by
  refine Met.ofW (cc := cX3_insert) (maxL := 4) (ret := (some .int)) (by decide +kernel) rfl ?_
  intro p e s m args below meth c s₁ B hml hv
  obtain ⟨rfl, hsz, hP, hK, hD0⟩ := hv
  have hx := B.exec
  have hb := B.bytes
  have hr := B.returns
  have hts := atoms_spec (ws := mwX3_insert) B.pre
  have hown : s.vm.findClass RX3 = some m.cls := findClass_of_methodNamed B.named
  have hlocks := B.notSynchronized
  subst hsz
  have hD := hD0.self (sz := s.heap.size)
  generalize hAe : va_A ([(ia, .inl (cI, n, .inl f))]) s.heap.size = A at hD ⊢
  have hA : ∀ q : Nat, s.heap.size ≤ q → A q := fun q h => by rw [← hAe]; exact Or.inr h
  have hP : va_P (dC, dI) vwCl [(ia, .inl (cI, n, .inl f))] s.heap := hP
  have hD : va_D A [(ia, .inl (cI, n, .inl f))] := hD
  have hK : va_K (dC, dI) vwCl [(cI, .int)] s := hK
  generalize hH : s.heap = H at hP ⊢
  have hS : va_S A s.heap H [] := by rw [← hH]; exact va_S.rf
  have hl := lv_entry ([.ref ia, .int k9, .int v9]) (n := 4) (Nat.le_of_ble_eq_true rfl)
  rw [lg_entry_eq]
  generalize (lg_sl ([.ref ia, .int k9, .int v9]) ++ List.replicate (4 - (lg_sl ([.ref ia, .int k9, .int v9])).length) Slot.unset).toArray = ls at hl ⊢
  have hl : lv_has ls 4 [(0, .ref ia), (1, .int k9), (2, .int v9)] := hl
  have rg_k9 := i_rng k9
  have rg_v9 := i_rng v9
  refine lv_iload_n hx hb dX3_insert_0 rfl (lv_at hl 1 rfl) ?_
  refine lv_istore_n (lv' := [(3, .int k9), (0, .ref ia), (1, .int k9), (2, .int v9)]) hx hb dX3_insert_1 rfl hl (by decide) rfl (fun ls hl => ?_)
  have loop2 : ∀ (n_2 : Nat) (aa : Int32), (0 ≤ aa.toInt) → (aa.toInt ≤ k9.toInt) → aa.toInt.toNat < n_2 → ∀ (H : Heap) (locs : List Loc) (ls : Array Slot), va_P (dC, dI) vwCl [(ia, .inl (cI, n, .inl f))] H → va_D A [(ia, .inl (cI, n, .inl f))] → va_S A s.heap H locs → lv_has ls 4 [(3, .int aa), (0, .ref ia), (1, .int k9), (2, .int v9)] → W p l e (headSpec mwX3_insert ({ frames := 1, cells := 0, slots := 0, locals := 60 })).room s m ([.ref ia, .int k9, .int v9]).toArray below meth c H locs 0 0 (MQ below (va_Qi (fun (o9 : Int32) (_ : Unit) => k9.toInt ≤ o9.toInt ∧ o9.toInt ≤ k9.toInt + 1 ∧ o9.toInt ≤ n) (fun _ t => ∃ f9 : Nat → Int32, va_P (dC, dI) vwCl [(ia, .inl (cI, n, .inl f9))] t.heap ∧ va_K (dC, dI) vwCl [(cI, .int)] t ∧ va_D A [(ia, .inl (cI, n, .inl f9))]) A) ([.ref ia, .int k9, .int v9]).toArray s 0 0 A) (F0 m 2 ls []) := by
    intro n_2
    induction n_2 with
    | zero => intro aa v2_0 v2_1 hm2; exact absurd hm2 (Nat.not_lt_zero _)
    | succ n_2 ih2 =>
      intro aa v2_0 v2_1 hm2 H locs ls hP hD hS hl
      have rg_aa := i_rng aa
      refine lv_iload_n hx hb dX3_insert_2 rfl (lv_at hl 0 rfl) ?_
      refine lv_if_le (tgt := 21) hx hb dX3_insert_3 (by decide) (fun k_1 => ?_) (fun k_1 => ?_)
      · have tk_1 := c_le (a := aa.toInt) (b := 0) rfl (by decide) k_1
        refine lv_iload_n hx hb dX3_insert_21 rfl (lv_at hl 2 rfl) ?_
        refine lv_aload_n hx hb dX3_insert_22 rfl (lv_at hl 1 rfl) ?_
        refine va_alen hx hb hK hP 0 0 rfl rfl rfl dX3_insert_23 ?_
        refine lv_topi (fun y_2 ey_2 => ?_)
        have ty_2 : y_2.toInt = (n : Int) := i_len ey_2 (by omega)
        refine lv_icmp_ge (tgt := 40) hx hb dX3_insert_24 (by decide) (fun k_3 => ?_) (fun k_3 => ?_)
        · have tk_3 := c_ge (a := k9.toInt) (b := y_2.toInt) rfl rfl k_3
          refine lv_iload_n hx hb dX3_insert_40 rfl (lv_at hl 2 rfl) ?_
          have hP9 := hP.sub (ws' := [(ia, .inl (cI, n, .inl f))]) [0] rfl
          have hD9 := hD.sub (ws' := [(ia, .inl (cI, n, .inl f))]) [0] (by decide) rfl
          have hK9 := hK.sub (tys' := [(cI, .int)]) [0] rfl
          exact W.iret hx hb hr (fun t ht hW => ⟨⟨_, (), rfl, by omega, f, by rw [ht]; exact hP9, va_K.moved hW.alike hK9, hD9⟩, hS.F ht⟩) hS.2.2 dX3_insert_41
        · have tk_3 := c_nge (a := k9.toInt) (b := y_2.toInt) rfl rfl k_3
          refine lv_iload_n hx hb dX3_insert_27 rfl (lv_at hl 0 rfl) ?_
          refine lv_if_le (tgt := 42) hx hb dX3_insert_28 (by decide) (fun k_4 => ?_) (fun k_4 => ?_)
          · have tk_4 := c_le (a := aa.toInt) (b := 0) rfl (by decide) k_4
            refine lv_aload_n hx hb dX3_insert_42 rfl (lv_at hl 1 rfl) ?_
            refine lv_iload_n hx hb dX3_insert_43 rfl (lv_at hl 0 rfl) ?_
            refine lv_aload_n hx hb dX3_insert_44 rfl (lv_at hl 1 rfl) ?_
            refine lv_iload_n hx hb dX3_insert_45 rfl (lv_at hl 0 rfl) ?_
            refine lv_iconst (v := 1) hx hb dX3_insert_46 (by decide) ?_
            refine lv_iadd hx hb dX3_insert_47 ?_
            refine lv_topi (fun y_5 ey_5 => ?_)
            first | have ty_5 := i_add (a := aa.toInt) (b := 1) rfl (by decide) ey_5 (by omega) (by omega) | skip
            refine lv_iload_n hx hb dX3_insert_48 rfl (lv_at hl 2 rfl) ?_
            refine lv_iload_n hx hb dX3_insert_49 rfl (lv_at hl 0 rfl) ?_
            refine lv_isub hx hb dX3_insert_50 ?_
            refine lv_topi (fun y_6 ey_6 => ?_)
            first | have ty_6 := i_sub (a := k9.toInt) (b := aa.toInt) rfl rfl ey_6 (by omega) (by omega) | skip
            refine va_copyi hx hb (hml.trans hl.1.symm) hown (hts (.methodLink RX3 38 arraycopyName) (List.mem_of_getElem? (i := 1) (by decide +kernel))) (hts (.native arraycopyName) (List.mem_of_getElem? (i := 2) (by decide +kernel))) (hts (.static arraycopyName) (List.mem_of_getElem? (i := 3) (by decide +kernel))) (hts (.initialized "java/lang/System") (List.mem_of_getElem? (i := 4) (by decide +kernel))) hK hP hD hS 0 0 0 0 rfl rfl rfl rfl rfl (i_nn (a := aa.toInt) rfl (by omega)) (i_nn (a := y_5.toInt) rfl (by omega)) (i_nn (a := y_6.toInt) rfl (by omega)) (cp_le (a := aa.toInt) (b := y_6.toInt) rfl rfl (by omega) (by omega) (by omega)) (cp_le (a := y_5.toInt) (b := y_6.toInt) rfl rfl (by omega) (by omega) (by omega)) (fun _ _ => rfl) (Nat.le_of_ble_eq_true rfl) (by decide +kernel) dX3_insert_51 (fun H locs hP hD hS => ?_)
            generalize hf_f_7 : va_cpy _ _ _ _ _ = f_7 at hP hD
            have hP : va_P (dC, dI) vwCl [(ia, .inl (cI, n, .inl f_7))] H := hP
            have hD : va_D A [(ia, .inl (cI, n, .inl f_7))] := hD
            refine lv_aload_n hx hb dX3_insert_54 rfl (lv_at hl 1 rfl) ?_
            refine lv_iload_n hx hb dX3_insert_55 rfl (lv_at hl 0 rfl) ?_
            refine lv_iload_n hx hb dX3_insert_56 rfl (lv_at hl 3 rfl) ?_
            refine va_iast hx hb hK hP hD hS 0 0 rfl rfl (i := aa) (vp_of (a := aa.toInt) rfl (by omega) (by omega)) dX3_insert_57 (fun H locs hP hD hS => ?_)
            generalize hf_f_8 : upd f_7 _ _ = f_8 at hP hD
            have hP : va_P (dC, dI) vwCl [(ia, .inl (cI, n, .inl f_8))] H := hP
            have hD : va_D A [(ia, .inl (cI, n, .inl f_8))] := hD
            refine lv_iload_n hx hb dX3_insert_58 rfl (lv_at hl 2 rfl) ?_
            refine lv_iconst (v := 1) hx hb dX3_insert_59 (by decide) ?_
            refine lv_iadd hx hb dX3_insert_60 ?_
            refine lv_topi (fun y_9 ey_9 => ?_)
            first | have ty_9 := i_add (a := k9.toInt) (b := 1) rfl (by decide) ey_9 (by omega) (by omega) | skip
            have hP9 := hP.sub (ws' := [(ia, .inl (cI, n, .inl f_8))]) [0] rfl
            have hD9 := hD.sub (ws' := [(ia, .inl (cI, n, .inl f_8))]) [0] (by decide) rfl
            have hK9 := hK.sub (tys' := [(cI, .int)]) [0] rfl
            exact W.iret hx hb hr (fun t ht hW => ⟨⟨_, (), rfl, by omega, f_8, by rw [ht]; exact hP9, va_K.moved hW.alike hK9, hD9⟩, hS.F ht⟩) hS.2.2 dX3_insert_61
          · have tk_4 := c_nle (a := aa.toInt) (b := 0) rfl (by decide) k_4
            refine lv_aload_n hx hb dX3_insert_31 rfl (lv_at hl 1 rfl) ?_
            refine lv_iload_n hx hb dX3_insert_32 rfl (lv_at hl 0 rfl) ?_
            refine lv_iconst (v := 1) hx hb dX3_insert_33 (by decide) ?_
            refine lv_isub hx hb dX3_insert_34 ?_
            refine lv_topi (fun y_10 ey_10 => ?_)
            first | have ty_10 := i_sub (a := aa.toInt) (b := 1) rfl (by decide) ey_10 (by omega) (by omega) | skip
            refine va_iald hx hb hK hP 0 0 rfl rfl (i := y_10) (vp_of (a := y_10.toInt) rfl (by omega) (by omega)) dX3_insert_35 ?_
            refine lv_topi (fun y_11 ey_11 => ?_)
            have rg_y_11 := i_rng y_11
            refine lv_iload_n hx hb dX3_insert_36 rfl (lv_at hl 3 rfl) ?_
            refine lv_icmp_ne (tgt := 42) hx hb dX3_insert_37 (by decide) (fun k_12 => ?_) (fun k_12 => ?_)
            · have tk_12 := c_ne (a := y_11.toInt) (b := v9.toInt) rfl rfl k_12
              refine lv_aload_n hx hb dX3_insert_42 rfl (lv_at hl 1 rfl) ?_
              refine lv_iload_n hx hb dX3_insert_43 rfl (lv_at hl 0 rfl) ?_
              refine lv_aload_n hx hb dX3_insert_44 rfl (lv_at hl 1 rfl) ?_
              refine lv_iload_n hx hb dX3_insert_45 rfl (lv_at hl 0 rfl) ?_
              refine lv_iconst (v := 1) hx hb dX3_insert_46 (by decide) ?_
              refine lv_iadd hx hb dX3_insert_47 ?_
              refine lv_topi (fun y_13 ey_13 => ?_)
              first | have ty_13 := i_add (a := aa.toInt) (b := 1) rfl (by decide) ey_13 (by omega) (by omega) | skip
              refine lv_iload_n hx hb dX3_insert_48 rfl (lv_at hl 2 rfl) ?_
              refine lv_iload_n hx hb dX3_insert_49 rfl (lv_at hl 0 rfl) ?_
              refine lv_isub hx hb dX3_insert_50 ?_
              refine lv_topi (fun y_14 ey_14 => ?_)
              first | have ty_14 := i_sub (a := k9.toInt) (b := aa.toInt) rfl rfl ey_14 (by omega) (by omega) | skip
              refine va_copyi hx hb (hml.trans hl.1.symm) hown (hts (.methodLink RX3 38 arraycopyName) (List.mem_of_getElem? (i := 1) (by decide +kernel))) (hts (.native arraycopyName) (List.mem_of_getElem? (i := 2) (by decide +kernel))) (hts (.static arraycopyName) (List.mem_of_getElem? (i := 3) (by decide +kernel))) (hts (.initialized "java/lang/System") (List.mem_of_getElem? (i := 4) (by decide +kernel))) hK hP hD hS 0 0 0 0 rfl rfl rfl rfl rfl (i_nn (a := aa.toInt) rfl (by omega)) (i_nn (a := y_13.toInt) rfl (by omega)) (i_nn (a := y_14.toInt) rfl (by omega)) (cp_le (a := aa.toInt) (b := y_14.toInt) rfl rfl (by omega) (by omega) (by omega)) (cp_le (a := y_13.toInt) (b := y_14.toInt) rfl rfl (by omega) (by omega) (by omega)) (fun _ _ => rfl) (Nat.le_of_ble_eq_true rfl) (by decide +kernel) dX3_insert_51 (fun H locs hP hD hS => ?_)
              generalize hf_f_15 : va_cpy _ _ _ _ _ = f_15 at hP hD
              have hP : va_P (dC, dI) vwCl [(ia, .inl (cI, n, .inl f_15))] H := hP
              have hD : va_D A [(ia, .inl (cI, n, .inl f_15))] := hD
              refine lv_aload_n hx hb dX3_insert_54 rfl (lv_at hl 1 rfl) ?_
              refine lv_iload_n hx hb dX3_insert_55 rfl (lv_at hl 0 rfl) ?_
              refine lv_iload_n hx hb dX3_insert_56 rfl (lv_at hl 3 rfl) ?_
              refine va_iast hx hb hK hP hD hS 0 0 rfl rfl (i := aa) (vp_of (a := aa.toInt) rfl (by omega) (by omega)) dX3_insert_57 (fun H locs hP hD hS => ?_)
              generalize hf_f_16 : upd f_15 _ _ = f_16 at hP hD
              have hP : va_P (dC, dI) vwCl [(ia, .inl (cI, n, .inl f_16))] H := hP
              have hD : va_D A [(ia, .inl (cI, n, .inl f_16))] := hD
              refine lv_iload_n hx hb dX3_insert_58 rfl (lv_at hl 2 rfl) ?_
              refine lv_iconst (v := 1) hx hb dX3_insert_59 (by decide) ?_
              refine lv_iadd hx hb dX3_insert_60 ?_
              refine lv_topi (fun y_17 ey_17 => ?_)
              first | have ty_17 := i_add (a := k9.toInt) (b := 1) rfl (by decide) ey_17 (by omega) (by omega) | skip
              have hP9 := hP.sub (ws' := [(ia, .inl (cI, n, .inl f_16))]) [0] rfl
              have hD9 := hD.sub (ws' := [(ia, .inl (cI, n, .inl f_16))]) [0] (by decide) rfl
              have hK9 := hK.sub (tys' := [(cI, .int)]) [0] rfl
              exact W.iret hx hb hr (fun t ht hW => ⟨⟨_, (), rfl, by omega, f_16, by rw [ht]; exact hP9, va_K.moved hW.alike hK9, hD9⟩, hS.F ht⟩) hS.2.2 dX3_insert_61
            · have tk_12 := c_eq (a := y_11.toInt) (b := v9.toInt) rfl rfl k_12
              refine lv_iload_n hx hb dX3_insert_40 rfl (lv_at hl 2 rfl) ?_
              have hP9 := hP.sub (ws' := [(ia, .inl (cI, n, .inl f))]) [0] rfl
              have hD9 := hD.sub (ws' := [(ia, .inl (cI, n, .inl f))]) [0] (by decide) rfl
              have hK9 := hK.sub (tys' := [(cI, .int)]) [0] rfl
              exact W.iret hx hb hr (fun t ht hW => ⟨⟨_, (), rfl, by omega, f, by rw [ht]; exact hP9, va_K.moved hW.alike hK9, hD9⟩, hS.F ht⟩) hS.2.2 dX3_insert_41
      · have tk_1 := c_nle (a := aa.toInt) (b := 0) rfl (by decide) k_1
        refine lv_aload_n hx hb dX3_insert_6 rfl (lv_at hl 1 rfl) ?_
        refine lv_iload_n hx hb dX3_insert_7 rfl (lv_at hl 0 rfl) ?_
        refine lv_iconst (v := 1) hx hb dX3_insert_8 (by decide) ?_
        refine lv_isub hx hb dX3_insert_9 ?_
        refine lv_topi (fun y_18 ey_18 => ?_)
        first | have ty_18 := i_sub (a := aa.toInt) (b := 1) rfl (by decide) ey_18 (by omega) (by omega) | skip
        refine va_iald hx hb hK hP 0 0 rfl rfl (i := y_18) (vp_of (a := y_18.toInt) rfl (by omega) (by omega)) dX3_insert_10 ?_
        refine lv_topi (fun y_19 ey_19 => ?_)
        have rg_y_19 := i_rng y_19
        refine lv_iload_n hx hb dX3_insert_11 rfl (lv_at hl 3 rfl) ?_
        refine lv_icmp_le (tgt := 21) hx hb dX3_insert_12 (by decide) (fun k_20 => ?_) (fun k_20 => ?_)
        · have tk_20 := c_le (a := y_19.toInt) (b := v9.toInt) rfl rfl k_20
          refine lv_iload_n hx hb dX3_insert_21 rfl (lv_at hl 2 rfl) ?_
          refine lv_aload_n hx hb dX3_insert_22 rfl (lv_at hl 1 rfl) ?_
          refine va_alen hx hb hK hP 0 0 rfl rfl rfl dX3_insert_23 ?_
          refine lv_topi (fun y_21 ey_21 => ?_)
          have ty_21 : y_21.toInt = (n : Int) := i_len ey_21 (by omega)
          refine lv_icmp_ge (tgt := 40) hx hb dX3_insert_24 (by decide) (fun k_22 => ?_) (fun k_22 => ?_)
          · have tk_22 := c_ge (a := k9.toInt) (b := y_21.toInt) rfl rfl k_22
            refine lv_iload_n hx hb dX3_insert_40 rfl (lv_at hl 2 rfl) ?_
            have hP9 := hP.sub (ws' := [(ia, .inl (cI, n, .inl f))]) [0] rfl
            have hD9 := hD.sub (ws' := [(ia, .inl (cI, n, .inl f))]) [0] (by decide) rfl
            have hK9 := hK.sub (tys' := [(cI, .int)]) [0] rfl
            exact W.iret hx hb hr (fun t ht hW => ⟨⟨_, (), rfl, by omega, f, by rw [ht]; exact hP9, va_K.moved hW.alike hK9, hD9⟩, hS.F ht⟩) hS.2.2 dX3_insert_41
          · have tk_22 := c_nge (a := k9.toInt) (b := y_21.toInt) rfl rfl k_22
            refine lv_iload_n hx hb dX3_insert_27 rfl (lv_at hl 0 rfl) ?_
            refine lv_if_le (tgt := 42) hx hb dX3_insert_28 (by decide) (fun k_23 => ?_) (fun k_23 => ?_)
            · have tk_23 := c_le (a := aa.toInt) (b := 0) rfl (by decide) k_23
              refine lv_aload_n hx hb dX3_insert_42 rfl (lv_at hl 1 rfl) ?_
              refine lv_iload_n hx hb dX3_insert_43 rfl (lv_at hl 0 rfl) ?_
              refine lv_aload_n hx hb dX3_insert_44 rfl (lv_at hl 1 rfl) ?_
              refine lv_iload_n hx hb dX3_insert_45 rfl (lv_at hl 0 rfl) ?_
              refine lv_iconst (v := 1) hx hb dX3_insert_46 (by decide) ?_
              refine lv_iadd hx hb dX3_insert_47 ?_
              refine lv_topi (fun y_24 ey_24 => ?_)
              first | have ty_24 := i_add (a := aa.toInt) (b := 1) rfl (by decide) ey_24 (by omega) (by omega) | skip
              refine lv_iload_n hx hb dX3_insert_48 rfl (lv_at hl 2 rfl) ?_
              refine lv_iload_n hx hb dX3_insert_49 rfl (lv_at hl 0 rfl) ?_
              refine lv_isub hx hb dX3_insert_50 ?_
              refine lv_topi (fun y_25 ey_25 => ?_)
              first | have ty_25 := i_sub (a := k9.toInt) (b := aa.toInt) rfl rfl ey_25 (by omega) (by omega) | skip
              refine va_copyi hx hb (hml.trans hl.1.symm) hown (hts (.methodLink RX3 38 arraycopyName) (List.mem_of_getElem? (i := 1) (by decide +kernel))) (hts (.native arraycopyName) (List.mem_of_getElem? (i := 2) (by decide +kernel))) (hts (.static arraycopyName) (List.mem_of_getElem? (i := 3) (by decide +kernel))) (hts (.initialized "java/lang/System") (List.mem_of_getElem? (i := 4) (by decide +kernel))) hK hP hD hS 0 0 0 0 rfl rfl rfl rfl rfl (i_nn (a := aa.toInt) rfl (by omega)) (i_nn (a := y_24.toInt) rfl (by omega)) (i_nn (a := y_25.toInt) rfl (by omega)) (cp_le (a := aa.toInt) (b := y_25.toInt) rfl rfl (by omega) (by omega) (by omega)) (cp_le (a := y_24.toInt) (b := y_25.toInt) rfl rfl (by omega) (by omega) (by omega)) (fun _ _ => rfl) (Nat.le_of_ble_eq_true rfl) (by decide +kernel) dX3_insert_51 (fun H locs hP hD hS => ?_)
              generalize hf_f_26 : va_cpy _ _ _ _ _ = f_26 at hP hD
              have hP : va_P (dC, dI) vwCl [(ia, .inl (cI, n, .inl f_26))] H := hP
              have hD : va_D A [(ia, .inl (cI, n, .inl f_26))] := hD
              refine lv_aload_n hx hb dX3_insert_54 rfl (lv_at hl 1 rfl) ?_
              refine lv_iload_n hx hb dX3_insert_55 rfl (lv_at hl 0 rfl) ?_
              refine lv_iload_n hx hb dX3_insert_56 rfl (lv_at hl 3 rfl) ?_
              refine va_iast hx hb hK hP hD hS 0 0 rfl rfl (i := aa) (vp_of (a := aa.toInt) rfl (by omega) (by omega)) dX3_insert_57 (fun H locs hP hD hS => ?_)
              generalize hf_f_27 : upd f_26 _ _ = f_27 at hP hD
              have hP : va_P (dC, dI) vwCl [(ia, .inl (cI, n, .inl f_27))] H := hP
              have hD : va_D A [(ia, .inl (cI, n, .inl f_27))] := hD
              refine lv_iload_n hx hb dX3_insert_58 rfl (lv_at hl 2 rfl) ?_
              refine lv_iconst (v := 1) hx hb dX3_insert_59 (by decide) ?_
              refine lv_iadd hx hb dX3_insert_60 ?_
              refine lv_topi (fun y_28 ey_28 => ?_)
              first | have ty_28 := i_add (a := k9.toInt) (b := 1) rfl (by decide) ey_28 (by omega) (by omega) | skip
              have hP9 := hP.sub (ws' := [(ia, .inl (cI, n, .inl f_27))]) [0] rfl
              have hD9 := hD.sub (ws' := [(ia, .inl (cI, n, .inl f_27))]) [0] (by decide) rfl
              have hK9 := hK.sub (tys' := [(cI, .int)]) [0] rfl
              exact W.iret hx hb hr (fun t ht hW => ⟨⟨_, (), rfl, by omega, f_27, by rw [ht]; exact hP9, va_K.moved hW.alike hK9, hD9⟩, hS.F ht⟩) hS.2.2 dX3_insert_61
            · have tk_23 := c_nle (a := aa.toInt) (b := 0) rfl (by decide) k_23
              refine lv_aload_n hx hb dX3_insert_31 rfl (lv_at hl 1 rfl) ?_
              refine lv_iload_n hx hb dX3_insert_32 rfl (lv_at hl 0 rfl) ?_
              refine lv_iconst (v := 1) hx hb dX3_insert_33 (by decide) ?_
              refine lv_isub hx hb dX3_insert_34 ?_
              refine lv_topi (fun y_29 ey_29 => ?_)
              first | have ty_29 := i_sub (a := aa.toInt) (b := 1) rfl (by decide) ey_29 (by omega) (by omega) | skip
              refine va_iald hx hb hK hP 0 0 rfl rfl (i := y_29) (vp_of (a := y_29.toInt) rfl (by omega) (by omega)) dX3_insert_35 ?_
              refine lv_topi (fun y_30 ey_30 => ?_)
              have rg_y_30 := i_rng y_30
              refine lv_iload_n hx hb dX3_insert_36 rfl (lv_at hl 3 rfl) ?_
              refine lv_icmp_ne (tgt := 42) hx hb dX3_insert_37 (by decide) (fun k_31 => ?_) (fun k_31 => ?_)
              · have tk_31 := c_ne (a := y_30.toInt) (b := v9.toInt) rfl rfl k_31
                refine lv_aload_n hx hb dX3_insert_42 rfl (lv_at hl 1 rfl) ?_
                refine lv_iload_n hx hb dX3_insert_43 rfl (lv_at hl 0 rfl) ?_
                refine lv_aload_n hx hb dX3_insert_44 rfl (lv_at hl 1 rfl) ?_
                refine lv_iload_n hx hb dX3_insert_45 rfl (lv_at hl 0 rfl) ?_
                refine lv_iconst (v := 1) hx hb dX3_insert_46 (by decide) ?_
                refine lv_iadd hx hb dX3_insert_47 ?_
                refine lv_topi (fun y_32 ey_32 => ?_)
                first | have ty_32 := i_add (a := aa.toInt) (b := 1) rfl (by decide) ey_32 (by omega) (by omega) | skip
                refine lv_iload_n hx hb dX3_insert_48 rfl (lv_at hl 2 rfl) ?_
                refine lv_iload_n hx hb dX3_insert_49 rfl (lv_at hl 0 rfl) ?_
                refine lv_isub hx hb dX3_insert_50 ?_
                refine lv_topi (fun y_33 ey_33 => ?_)
                first | have ty_33 := i_sub (a := k9.toInt) (b := aa.toInt) rfl rfl ey_33 (by omega) (by omega) | skip
                refine va_copyi hx hb (hml.trans hl.1.symm) hown (hts (.methodLink RX3 38 arraycopyName) (List.mem_of_getElem? (i := 1) (by decide +kernel))) (hts (.native arraycopyName) (List.mem_of_getElem? (i := 2) (by decide +kernel))) (hts (.static arraycopyName) (List.mem_of_getElem? (i := 3) (by decide +kernel))) (hts (.initialized "java/lang/System") (List.mem_of_getElem? (i := 4) (by decide +kernel))) hK hP hD hS 0 0 0 0 rfl rfl rfl rfl rfl (i_nn (a := aa.toInt) rfl (by omega)) (i_nn (a := y_32.toInt) rfl (by omega)) (i_nn (a := y_33.toInt) rfl (by omega)) (cp_le (a := aa.toInt) (b := y_33.toInt) rfl rfl (by omega) (by omega) (by omega)) (cp_le (a := y_32.toInt) (b := y_33.toInt) rfl rfl (by omega) (by omega) (by omega)) (fun _ _ => rfl) (Nat.le_of_ble_eq_true rfl) (by decide +kernel) dX3_insert_51 (fun H locs hP hD hS => ?_)
                generalize hf_f_34 : va_cpy _ _ _ _ _ = f_34 at hP hD
                have hP : va_P (dC, dI) vwCl [(ia, .inl (cI, n, .inl f_34))] H := hP
                have hD : va_D A [(ia, .inl (cI, n, .inl f_34))] := hD
                refine lv_aload_n hx hb dX3_insert_54 rfl (lv_at hl 1 rfl) ?_
                refine lv_iload_n hx hb dX3_insert_55 rfl (lv_at hl 0 rfl) ?_
                refine lv_iload_n hx hb dX3_insert_56 rfl (lv_at hl 3 rfl) ?_
                refine va_iast hx hb hK hP hD hS 0 0 rfl rfl (i := aa) (vp_of (a := aa.toInt) rfl (by omega) (by omega)) dX3_insert_57 (fun H locs hP hD hS => ?_)
                generalize hf_f_35 : upd f_34 _ _ = f_35 at hP hD
                have hP : va_P (dC, dI) vwCl [(ia, .inl (cI, n, .inl f_35))] H := hP
                have hD : va_D A [(ia, .inl (cI, n, .inl f_35))] := hD
                refine lv_iload_n hx hb dX3_insert_58 rfl (lv_at hl 2 rfl) ?_
                refine lv_iconst (v := 1) hx hb dX3_insert_59 (by decide) ?_
                refine lv_iadd hx hb dX3_insert_60 ?_
                refine lv_topi (fun y_36 ey_36 => ?_)
                first | have ty_36 := i_add (a := k9.toInt) (b := 1) rfl (by decide) ey_36 (by omega) (by omega) | skip
                have hP9 := hP.sub (ws' := [(ia, .inl (cI, n, .inl f_35))]) [0] rfl
                have hD9 := hD.sub (ws' := [(ia, .inl (cI, n, .inl f_35))]) [0] (by decide) rfl
                have hK9 := hK.sub (tys' := [(cI, .int)]) [0] rfl
                exact W.iret hx hb hr (fun t ht hW => ⟨⟨_, (), rfl, by omega, f_35, by rw [ht]; exact hP9, va_K.moved hW.alike hK9, hD9⟩, hS.F ht⟩) hS.2.2 dX3_insert_61
              · have tk_31 := c_eq (a := y_30.toInt) (b := v9.toInt) rfl rfl k_31
                refine lv_iload_n hx hb dX3_insert_40 rfl (lv_at hl 2 rfl) ?_
                have hP9 := hP.sub (ws' := [(ia, .inl (cI, n, .inl f))]) [0] rfl
                have hD9 := hD.sub (ws' := [(ia, .inl (cI, n, .inl f))]) [0] (by decide) rfl
                have hK9 := hK.sub (tys' := [(cI, .int)]) [0] rfl
                exact W.iret hx hb hr (fun t ht hW => ⟨⟨_, (), rfl, by omega, f, by rw [ht]; exact hP9, va_K.moved hW.alike hK9, hD9⟩, hS.F ht⟩) hS.2.2 dX3_insert_41
        · have tk_20 := c_nle (a := y_19.toInt) (b := v9.toInt) rfl rfl k_20
          obtain ⟨y_37, ey_37⟩ : ∃ y : Int32, y = aa + (-1) := ⟨_, rfl⟩
          first | have ty_37 := i_add (a := aa.toInt) (b := (-1)) rfl (by decide) ey_37 (by omega) (by omega) | skip
          refine lv_iinc (v := y_37) (lv' := [(3, .int y_37), (0, .ref ia), (1, .int k9), (2, .int v9)]) hx hb dX3_insert_15 hl (k := 0) rfl (by rw [ey_37]; rfl) (by decide) rfl (fun ls hl => ?_)
          refine lv_goto (tgt := 2) hx hb dX3_insert_18 (by decide) ?_
          exact ih2 y_37 (by first | omega | decide | assumption) (by first | omega | decide | assumption) (by omega) _ _ ls hP hD hS (lv_sub hl [0, 1, 2, 3] rfl)
  exact loop2 _ k9 (by first | omega | decide | assumption) (by first | omega | decide | assumption) (Nat.lt_succ_self _) _ _ ls hP hD hS (lv_sub hl [0, 1, 2, 3] rfl)
theorem dX3_setEmptyChoice_0 : decode cX3_setEmptyChoice 0 = .ok (.aload_n 0, 1) := by decide +kernel
theorem dX3_setEmptyChoice_1 : decode cX3_setEmptyChoice 1 = .ok (.iconst 1, 1) := by decide +kernel
theorem dX3_setEmptyChoice_2 : decode cX3_setEmptyChoice 2 = .ok (.putfield 44, 3) := by decide +kernel
theorem dX3_setEmptyChoice_5 : decode cX3_setEmptyChoice 5 = .ok (.aload_n 0, 1) := by decide +kernel
theorem dX3_setEmptyChoice_6 : decode cX3_setEmptyChoice 6 = .ok (.getfield 25, 3) := by decide +kernel
theorem dX3_setEmptyChoice_9 : decode cX3_setEmptyChoice 9 = .ok (.iconst 0, 1) := by decide +kernel
theorem dX3_setEmptyChoice_10 : decode cX3_setEmptyChoice 10 = .ok (.iconst 0, 1) := by decide +kernel
theorem dX3_setEmptyChoice_11 : decode cX3_setEmptyChoice 11 = .ok (.iastore, 1) := by decide +kernel
theorem dX3_setEmptyChoice_12 : decode cX3_setEmptyChoice 12 = .ok (.return_, 1) := by decide +kernel
def mwX3_setEmptyChoice : List Cond := .code yX3_setEmptyChoice cX3_setEmptyChoice 1 none :: ([.fieldLink RX3 44 "PatternGate$Need" "size" "I", .fieldLink RX3 25 "PatternGate$Need" "sizes" "[I"] ++ wsX30)
theorem fin_X3_setEmptyChoice_X3 : ∀ w ∈ wsX30, w ∈ mwX3_setEmptyChoice := fun w h => List.mem_cons_of_mem _ (List.mem_append_right _ h)
set_option maxHeartbeats 4000000 in
set_option maxRecDepth 100000 in
/-- Need.setEmptyChoice -/
theorem s_Need_setEmpty (l : Launch) (dC : Nat → ClassId) (dI : Nat → Nat → Nat) (e1 t1 s1 R1 : Nat) (ct1 cs1 : ClassId) (ft1 fs1 : Nat → Int32) (m1 : Int32) (sz : Nat) (hR1 : 1 ≤ R1) (hU1 : R1 ≤ 144) (hc1 : 0 ≤ m1.toInt) (hd1 : m1.toInt ≤ R1) (hb_fs1 : ∀ i, 0 ≤ (fs1 i).toInt ∧ (fs1 i).toInt ≤ 24) : Met l yX3_setEmptyChoice mwX3_setEmptyChoice ({ frames := 0, cells := 0, slots := 0, locals := 0 }) (va_Pc [.ref e1] (fun U => U.heap.size = sz ∧ va_P (dC, dI) vwCl ([(e1, .inr (3, [.int (nI R1), .ref t1, .ref s1, .int m1])), (t1, .inl (ct1, 24 * R1, .inl ft1)), (s1, .inl (cs1, R1, .inl fs1))]) U.heap ∧ va_K (dC, dI) vwCl ([(ct1, .int), (cs1, .int)]) U ∧ va_D (fun _ => True) ([(e1, .inr (3, [.int (nI R1), .ref t1, .ref s1, .int m1])), (t1, .inl (ct1, 24 * R1, .inl ft1)), (s1, .inl (cs1, R1, .inl fs1))]))) (va_Qv (fun (u : Int32) => 0 ≤ u.toInt ∧ u.toInt ≤ R1) (fun u t => ∃ (f9 g9 : Nat → Int32), (∀ i, 0 ≤ (g9 i).toInt ∧ (g9 i).toInt ≤ 24) ∧ va_P (dC, dI) vwCl [(e1, .inr (3, [.int (nI R1), .ref t1, .ref s1, .int u])), (t1, .inl (ct1, 24 * R1, .inl f9)), (s1, .inl (cs1, R1, .inl g9))] t.heap ∧ va_K (dC, dI) vwCl [(ct1, .int), (cs1, .int)] t ∧ va_D (va_A ([(e1, .inr (3, [.int (nI R1), .ref t1, .ref s1, .int m1])), (t1, .inl (ct1, 24 * R1, .inl ft1)), (s1, .inl (cs1, R1, .inl fs1))]) sz) [(e1, .inr (3, [.int (nI R1), .ref t1, .ref s1, .int u])), (t1, .inl (ct1, 24 * R1, .inl f9)), (s1, .inl (cs1, R1, .inl g9))]) (va_A ([(e1, .inr (3, [.int (nI R1), .ref t1, .ref s1, .int m1])), (t1, .inl (ct1, 24 * R1, .inl ft1)), (s1, .inl (cs1, R1, .inl fs1))]) sz)) 0 0 (va_A ([(e1, .inr (3, [.int (nI R1), .ref t1, .ref s1, .int m1])), (t1, .inl (ct1, 24 * R1, .inl ft1)), (s1, .inl (cs1, R1, .inl fs1))]) sz) := by
  refine Met.ofW (cc := cX3_setEmptyChoice) (maxL := 1) (ret := none) (by decide +kernel) rfl ?_
  intro p e s m args below meth c s₁ B hml hv
  obtain ⟨rfl, hsz, hP, hK, hD0⟩ := hv
  have hx := B.exec
  have hb := B.bytes
  have hr := B.returns
  have hts := atoms_spec (ws := mwX3_setEmptyChoice) B.pre
  have hown : s.vm.findClass RX3 = some m.cls := findClass_of_methodNamed B.named
  have hlocks := B.notSynchronized
  subst hsz
  have hD := hD0.self (sz := s.heap.size)
  generalize hAe : va_A ([(e1, .inr (3, [.int (nI R1), .ref t1, .ref s1, .int m1])), (t1, .inl (ct1, 24 * R1, .inl ft1)), (s1, .inl (cs1, R1, .inl fs1))]) s.heap.size = A at hD ⊢
  have hA : ∀ q : Nat, s.heap.size ≤ q → A q := fun q h => by rw [← hAe]; exact Or.inr h
  have hP : va_P (dC, dI) vwCl [(e1, .inr (3, [.int (nI R1), .ref t1, .ref s1, .int m1])), (t1, .inl (ct1, 24 * R1, .inl ft1)), (s1, .inl (cs1, R1, .inl fs1))] s.heap := hP
  have hD : va_D A [(e1, .inr (3, [.int (nI R1), .ref t1, .ref s1, .int m1])), (t1, .inl (ct1, 24 * R1, .inl ft1)), (s1, .inl (cs1, R1, .inl fs1))] := hD
  have hK : va_K (dC, dI) vwCl [(ct1, .int), (cs1, .int)] s := hK
  generalize hH : s.heap = H at hP ⊢
  have hS : va_S A s.heap H [] := by rw [← hH]; exact va_S.rf
  have hl := lv_entry ([.ref e1]) (n := 1) (Nat.le_of_ble_eq_true rfl)
  rw [lg_entry_eq]
  generalize (lg_sl ([.ref e1]) ++ List.replicate (1 - (lg_sl ([.ref e1])).length) Slot.unset).toArray = ls at hl ⊢
  have hl : lv_has ls 1 [(0, .ref e1)] := hl
  have tr1 : (nI R1).toInt = (R1 : Int) := nI_toInt (by omega)
  have rm1 := i_rng m1
  refine lv_aload_n hx hb dX3_setEmptyChoice_0 rfl (lv_at hl 0 rfl) ?_
  refine lv_iconst (v := 1) hx hb dX3_setEmptyChoice_1 (by decide) ?_
  refine va_put (D := (dC, dI)) (ci := 3) (v := .int 1) (ty := .int) (C := RX3) (T := TX3) (N := 4) hx hb hts fin_X3_setEmptyChoice_X3 tyX3 tyX3_ok nmX3 hown hK hP hD hS 0 rfl rfl 3 (by decide) (hts (.fieldLink RX3 44 "PatternGate$Need" "size" "I") (List.mem_of_getElem? (i := 1) (by decide +kernel))) (fun _ h9 => h9) rfl (by decide +kernel) rfl rfl (Nat.le_of_ble_eq_true rfl) dX3_setEmptyChoice_2 (fun H locs hP hD hS => ?_)
  have hP : va_P (dC, dI) vwCl [(e1, .inr (3, [.int (nI R1), .ref t1, .ref s1, .int 1])), (t1, .inl (ct1, 24 * R1, .inl ft1)), (s1, .inl (cs1, R1, .inl fs1))] H := hP
  have hD : va_D A [(e1, .inr (3, [.int (nI R1), .ref t1, .ref s1, .int 1])), (t1, .inl (ct1, 24 * R1, .inl ft1)), (s1, .inl (cs1, R1, .inl fs1))] := hD
  refine lv_aload_n hx hb dX3_setEmptyChoice_5 rfl (lv_at hl 0 rfl) ?_
  refine va_get (D := (dC, dI)) (ci := 3) (v := .ref s1) (C := RX3) (T := TX3) (N := 4) hx hb hts fin_X3_setEmptyChoice_X3 hown hK hP 0 rfl rfl 2 (by decide) (hts (.fieldLink RX3 25 "PatternGate$Need" "sizes" "[I") (List.mem_of_getElem? (i := 2) (by decide +kernel))) (fun _ h9 => h9) rfl dX3_setEmptyChoice_6 ?_
  refine lv_iconst (v := 0) hx hb dX3_setEmptyChoice_9 (by decide) ?_
  refine lv_iconst (v := 0) hx hb dX3_setEmptyChoice_10 (by decide) ?_
  refine va_iast hx hb hK hP hD hS 2 1 rfl rfl (i := 0) (vp_of (a := 0) (by decide) (by omega) (by omega)) dX3_setEmptyChoice_11 (fun H locs hP hD hS => ?_)
  generalize hf_f_1 : upd fs1 _ _ = f_1 at hP hD
  have hb_f_1 : ∀ i, 0 ≤ (f_1 i).toInt ∧ (f_1 i).toInt ≤ 24 := by rw [← hf_f_1]; exact upd_bd (a := 0) hb_fs1 (by decide) (by omega) (by omega)
  have hP : va_P (dC, dI) vwCl [(e1, .inr (3, [.int (nI R1), .ref t1, .ref s1, .int 1])), (t1, .inl (ct1, 24 * R1, .inl ft1)), (s1, .inl (cs1, R1, .inl f_1))] H := hP
  have hD : va_D A [(e1, .inr (3, [.int (nI R1), .ref t1, .ref s1, .int 1])), (t1, .inl (ct1, 24 * R1, .inl ft1)), (s1, .inl (cs1, R1, .inl f_1))] := hD
  have hP9 := hP.sub (ws' := [(e1, .inr (3, [.int (nI R1), .ref t1, .ref s1, .int 1])), (t1, .inl (ct1, 24 * R1, .inl ft1)), (s1, .inl (cs1, R1, .inl f_1))]) [0, 1, 2] rfl
  have hD9 := hD.sub (ws' := [(e1, .inr (3, [.int (nI R1), .ref t1, .ref s1, .int 1])), (t1, .inl (ct1, 24 * R1, .inl ft1)), (s1, .inl (cs1, R1, .inl f_1))]) [0, 1, 2] (by decide) rfl
  have hK9 := hK.sub (tys' := [(ct1, .int), (cs1, .int)]) [0, 1] rfl
  have litu : (1 : Int32).toInt = 1 := by decide
  exact W.vret hx hb hr (fun t ht hW => ⟨⟨1, rfl, by omega, ft1, f_1, hb_f_1, by rw [ht]; exact hP9, va_K.moved hW.alike hK9, hD9⟩, hS.F ht⟩) hS.2.2 dX3_setEmptyChoice_12
theorem dX3_isEmptyChoice_0 : decode cX3_isEmptyChoice 0 = .ok (.aload_n 0, 1) := by decide +kernel
theorem dX3_isEmptyChoice_1 : decode cX3_isEmptyChoice 1 = .ok (.getfield 44, 3) := by decide +kernel
theorem dX3_isEmptyChoice_4 : decode cX3_isEmptyChoice 4 = .ok (.iconst 1, 1) := by decide +kernel
theorem dX3_isEmptyChoice_5 : decode cX3_isEmptyChoice 5 = .ok (.if_icmp .ne 16, 3) := by decide +kernel
theorem dX3_isEmptyChoice_8 : decode cX3_isEmptyChoice 8 = .ok (.aload_n 0, 1) := by decide +kernel
theorem dX3_isEmptyChoice_9 : decode cX3_isEmptyChoice 9 = .ok (.getfield 25, 3) := by decide +kernel
theorem dX3_isEmptyChoice_12 : decode cX3_isEmptyChoice 12 = .ok (.iconst 0, 1) := by decide +kernel
theorem dX3_isEmptyChoice_13 : decode cX3_isEmptyChoice 13 = .ok (.iaload, 1) := by decide +kernel
theorem dX3_isEmptyChoice_14 : decode cX3_isEmptyChoice 14 = .ok (.ifCond .ne 7, 3) := by decide +kernel
theorem dX3_isEmptyChoice_17 : decode cX3_isEmptyChoice 17 = .ok (.iconst 1, 1) := by decide +kernel
theorem dX3_isEmptyChoice_18 : decode cX3_isEmptyChoice 18 = .ok (.goto 4, 3) := by decide +kernel
theorem dX3_isEmptyChoice_21 : decode cX3_isEmptyChoice 21 = .ok (.iconst 0, 1) := by decide +kernel
theorem dX3_isEmptyChoice_22 : decode cX3_isEmptyChoice 22 = .ok (.ireturn, 1) := by decide +kernel
def mwX3_isEmptyChoice : List Cond := .code yX3_isEmptyChoice cX3_isEmptyChoice 1 (some .boolean) :: ([.fieldLink RX3 44 "PatternGate$Need" "size" "I", .fieldLink RX3 25 "PatternGate$Need" "sizes" "[I"] ++ wsX30)
theorem fin_X3_isEmptyChoice_X3 : ∀ w ∈ wsX30, w ∈ mwX3_isEmptyChoice := fun w h => List.mem_cons_of_mem _ (List.mem_append_right _ h)
set_option maxHeartbeats 4000000 in
set_option maxRecDepth 100000 in
/-- Need.isEmptyChoice -/
theorem s_Need_isEmpty (l : Launch) (dC : Nat → ClassId) (dI : Nat → Nat → Nat) (e1 t1 s1 R1 : Nat) (ct1 cs1 : ClassId) (ft1 fs1 : Nat → Int32) (m1 : Int32) (hR1 : 1 ≤ R1) (hU1 : R1 ≤ 144) (hc1 : 0 ≤ m1.toInt) (hd1 : m1.toInt ≤ R1) (hb_fs1 : ∀ i, 0 ≤ (fs1 i).toInt ∧ (fs1 i).toInt ≤ 24) : Met l yX3_isEmptyChoice mwX3_isEmptyChoice ({ frames := 0, cells := 0, slots := 0, locals := 0 }) (va_Pc [.ref e1] (fun U => va_P (dC, dI) vwCl ([(e1, .inr (3, [.int (nI R1), .ref t1, .ref s1, .int m1])), (t1, .inl (ct1, 24 * R1, .inl ft1)), (s1, .inl (cs1, R1, .inl fs1))]) U.heap ∧ va_K (dC, dI) vwCl ([(ct1, .int), (cs1, .int)]) U)) (vp_Si (fun o => o = 0 ∨ o = 1)) 0 0 (fun _ => False) := by
  refine Met.ofW (cc := cX3_isEmptyChoice) (maxL := 1) (ret := (some .boolean)) (by decide +kernel) rfl ?_
  intro p e s m args below meth c s₁ B hml hv
  obtain ⟨rfl, hP, hK⟩ := hv
  have hx := B.exec
  have hb := B.bytes
  have hr := B.returns
  have hts := atoms_spec (ws := mwX3_isEmptyChoice) B.pre
  have hown : s.vm.findClass RX3 = some m.cls := findClass_of_methodNamed B.named
  have hlocks := B.notSynchronized
  have hP : va_P (dC, dI) vwCl [(e1, .inr (3, [.int (nI R1), .ref t1, .ref s1, .int m1])), (t1, .inl (ct1, 24 * R1, .inl ft1)), (s1, .inl (cs1, R1, .inl fs1))] s.heap := hP
  have hK : va_K (dC, dI) vwCl [(ct1, .int), (cs1, .int)] s := hK
  generalize hH : s.heap = H at hP ⊢
  have hl := lv_entry ([.ref e1]) (n := 1) (Nat.le_of_ble_eq_true rfl)
  rw [lg_entry_eq]
  generalize (lg_sl ([.ref e1]) ++ List.replicate (1 - (lg_sl ([.ref e1])).length) Slot.unset).toArray = ls at hl ⊢
  have hl : lv_has ls 1 [(0, .ref e1)] := hl
  have tr1 : (nI R1).toInt = (R1 : Int) := nI_toInt (by omega)
  have rm1 := i_rng m1
  refine lv_aload_n hx hb dX3_isEmptyChoice_0 rfl (lv_at hl 0 rfl) ?_
  refine va_get (D := (dC, dI)) (ci := 3) (v := .int m1) (C := RX3) (T := TX3) (N := 4) hx hb hts fin_X3_isEmptyChoice_X3 hown hK hP 0 rfl rfl 3 (by decide) (hts (.fieldLink RX3 44 "PatternGate$Need" "size" "I") (List.mem_of_getElem? (i := 1) (by decide +kernel))) (fun _ h9 => h9) rfl dX3_isEmptyChoice_1 ?_
  refine lv_iconst (v := 1) hx hb dX3_isEmptyChoice_4 (by decide) ?_
  refine lv_icmp_ne (tgt := 21) hx hb dX3_isEmptyChoice_5 (by decide) (fun k_1 => ?_) (fun k_1 => ?_)
  · have tk_1 := c_ne (a := m1.toInt) (b := 1) rfl (by decide) k_1
    refine lv_iconst (v := 0) hx hb dX3_isEmptyChoice_21 (by decide) ?_
    exact W.zret hx hb hr rfl (fun t ht hW => ⟨_, rfl, Or.inl rfl, ht.trans hH.symm⟩) t_nil dX3_isEmptyChoice_22
  · have tk_1 := c_eq (a := m1.toInt) (b := 1) rfl (by decide) k_1
    refine lv_aload_n hx hb dX3_isEmptyChoice_8 rfl (lv_at hl 0 rfl) ?_
    refine va_get (D := (dC, dI)) (ci := 3) (v := .ref s1) (C := RX3) (T := TX3) (N := 4) hx hb hts fin_X3_isEmptyChoice_X3 hown hK hP 0 rfl rfl 2 (by decide) (hts (.fieldLink RX3 25 "PatternGate$Need" "sizes" "[I") (List.mem_of_getElem? (i := 2) (by decide +kernel))) (fun _ h9 => h9) rfl dX3_isEmptyChoice_9 ?_
    refine lv_iconst (v := 0) hx hb dX3_isEmptyChoice_12 (by decide) ?_
    refine va_iald hx hb hK hP 2 1 rfl rfl (i := 0) (vp_of (a := 0) (by decide) (by omega) (by omega)) dX3_isEmptyChoice_13 ?_
    refine lv_topi (fun y_2 ey_2 => ?_)
    have rg_y_2 := i_rng y_2
    have by_2 : 0 ≤ y_2.toInt ∧ y_2.toInt ≤ 24 := by rw [ey_2]; exact hb_fs1 _
    refine lv_if_ne (tgt := 21) hx hb dX3_isEmptyChoice_14 (by decide) (fun k_3 => ?_) (fun k_3 => ?_)
    · have tk_3 := c_ne (a := y_2.toInt) (b := 0) rfl (by decide) k_3
      refine lv_iconst (v := 0) hx hb dX3_isEmptyChoice_21 (by decide) ?_
      exact W.zret hx hb hr rfl (fun t ht hW => ⟨_, rfl, Or.inl rfl, ht.trans hH.symm⟩) t_nil dX3_isEmptyChoice_22
    · have tk_3 := c_eq (a := y_2.toInt) (b := 0) rfl (by decide) k_3
      refine lv_iconst (v := 1) hx hb dX3_isEmptyChoice_17 (by decide) ?_
      refine lv_goto (tgt := 22) hx hb dX3_isEmptyChoice_18 (by decide) ?_
      exact W.zret hx hb hr rfl (fun t ht hW => ⟨_, rfl, Or.inr rfl, ht.trans hH.symm⟩) t_nil dX3_isEmptyChoice_22
theorem dX3_take_0 : decode cX3_take 0 = .ok (.aload_n 0, 1) := by decide +kernel
theorem dX3_take_1 : decode cX3_take 1 = .ok (.aload_n 1, 1) := by decide +kernel
theorem dX3_take_2 : decode cX3_take 2 = .ok (.getfield 44, 3) := by decide +kernel
theorem dX3_take_5 : decode cX3_take 5 = .ok (.aload_n 0, 1) := by decide +kernel
theorem dX3_take_6 : decode cX3_take 6 = .ok (.getfield 15, 3) := by decide +kernel
theorem dX3_take_9 : decode cX3_take 9 = .ok (.invokestatic 47, 3) := by decide +kernel
theorem dX3_take_12 : decode cX3_take 12 = .ok (.putfield 44, 3) := by decide +kernel
theorem dX3_take_15 : decode cX3_take 15 = .ok (.iconst 0, 1) := by decide +kernel
theorem dX3_take_16 : decode cX3_take 16 = .ok (.istore_n 2, 1) := by decide +kernel
theorem dX3_take_17 : decode cX3_take 17 = .ok (.iload_n 2, 1) := by decide +kernel
theorem dX3_take_18 : decode cX3_take 18 = .ok (.aload_n 0, 1) := by decide +kernel
theorem dX3_take_19 : decode cX3_take 19 = .ok (.getfield 44, 3) := by decide +kernel
theorem dX3_take_22 : decode cX3_take 22 = .ok (.if_icmp .ge 46, 3) := by decide +kernel
theorem dX3_take_25 : decode cX3_take 25 = .ok (.aload_n 0, 1) := by decide +kernel
theorem dX3_take_26 : decode cX3_take 26 = .ok (.getfield 25, 3) := by decide +kernel
theorem dX3_take_29 : decode cX3_take 29 = .ok (.iload_n 2, 1) := by decide +kernel
theorem dX3_take_30 : decode cX3_take 30 = .ok (.aload_n 1, 1) := by decide +kernel
theorem dX3_take_31 : decode cX3_take 31 = .ok (.getfield 25, 3) := by decide +kernel
theorem dX3_take_34 : decode cX3_take 34 = .ok (.iload_n 2, 1) := by decide +kernel
theorem dX3_take_35 : decode cX3_take 35 = .ok (.iaload, 1) := by decide +kernel
theorem dX3_take_36 : decode cX3_take 36 = .ok (.iastore, 1) := by decide +kernel
theorem dX3_take_37 : decode cX3_take 37 = .ok (.aload_n 1, 1) := by decide +kernel
theorem dX3_take_38 : decode cX3_take 38 = .ok (.getfield 21, 3) := by decide +kernel
theorem dX3_take_41 : decode cX3_take 41 = .ok (.iload_n 2, 1) := by decide +kernel
theorem dX3_take_42 : decode cX3_take 42 = .ok (.bipush 24, 2) := by decide +kernel
theorem dX3_take_44 : decode cX3_take 44 = .ok (.imul, 1) := by decide +kernel
theorem dX3_take_45 : decode cX3_take 45 = .ok (.aload_n 0, 1) := by decide +kernel
theorem dX3_take_46 : decode cX3_take 46 = .ok (.getfield 21, 3) := by decide +kernel
theorem dX3_take_49 : decode cX3_take 49 = .ok (.iload_n 2, 1) := by decide +kernel
theorem dX3_take_50 : decode cX3_take 50 = .ok (.bipush 24, 2) := by decide +kernel
theorem dX3_take_52 : decode cX3_take 52 = .ok (.imul, 1) := by decide +kernel
theorem dX3_take_53 : decode cX3_take 53 = .ok (.aload_n 0, 1) := by decide +kernel
theorem dX3_take_54 : decode cX3_take 54 = .ok (.getfield 25, 3) := by decide +kernel
theorem dX3_take_57 : decode cX3_take 57 = .ok (.iload_n 2, 1) := by decide +kernel
theorem dX3_take_58 : decode cX3_take 58 = .ok (.iaload, 1) := by decide +kernel
theorem dX3_take_59 : decode cX3_take 59 = .ok (.invokestatic 38, 3) := by decide +kernel
theorem dX3_take_62 : decode cX3_take 62 = .ok (.iinc 2 1, 3) := by decide +kernel
theorem dX3_take_65 : decode cX3_take 65 = .ok (.goto (-48), 3) := by decide +kernel
theorem dX3_take_68 : decode cX3_take 68 = .ok (.return_, 1) := by decide +kernel
def mwX3_take : List Cond := .code yX3_take cX3_take 3 none :: ([.fieldLink RX3 44 "PatternGate$Need" "size" "I", .fieldLink RX3 15 "PatternGate$Need" "room" "I", .methodLink RX3 47 Lib.Math.min.name, .static Lib.Math.min.name, .initialized "java/lang/Math", .code Lib.Math.min.name Lib.Math.min.code 2 (some .int), .fieldLink RX3 25 "PatternGate$Need" "sizes" "[I", .fieldLink RX3 21 "PatternGate$Need" "triples" "[I", .methodLink RX3 38 arraycopyName, .native arraycopyName, .static arraycopyName, .initialized "java/lang/System"] ++ wsX30)
theorem fin_X3_take_X3 : ∀ w ∈ wsX30, w ∈ mwX3_take := fun w h => List.mem_cons_of_mem _ (List.mem_append_right _ h)
set_option maxHeartbeats 4000000 in
set_option maxRecDepth 100000 in
/-- Need.take -/
theorem s_Need_take (l : Launch) (dC : Nat → ClassId) (dI : Nat → Nat → Nat) (e1 t1 s1 R1 : Nat) (ct1 cs1 : ClassId) (ft1 fs1 : Nat → Int32) (m1 : Int32) (e2 t2 s2 R2 : Nat) (ct2 cs2 : ClassId) (ft2 fs2 : Nat → Int32) (m2 : Int32) (sz : Nat) (hR1 : 1 ≤ R1) (hU1 : R1 ≤ 144) (hc1 : 0 ≤ m1.toInt) (hd1 : m1.toInt ≤ R1) (hb_fs1 : ∀ i, 0 ≤ (fs1 i).toInt ∧ (fs1 i).toInt ≤ 24) (hR2 : 1 ≤ R2) (hU2 : R2 ≤ 144) (hc2 : 0 ≤ m2.toInt) (hd2 : m2.toInt ≤ R2) (hb_fs2 : ∀ i, 0 ≤ (fs2 i).toInt ∧ (fs2 i).toInt ≤ 24) : Met l yX3_take mwX3_take ({ frames := 1, cells := 0, slots := 0, locals := 60 }) (va_Pc [.ref e1, .ref e2] (fun U => U.heap.size = sz ∧ va_P (dC, dI) vwCl ([(e1, .inr (3, [.int (nI R1), .ref t1, .ref s1, .int m1])), (t1, .inl (ct1, 24 * R1, .inl ft1)), (s1, .inl (cs1, R1, .inl fs1)), (e2, .inr (3, [.int (nI R2), .ref t2, .ref s2, .int m2])), (t2, .inl (ct2, 24 * R2, .inl ft2)), (s2, .inl (cs2, R2, .inl fs2))]) U.heap ∧ va_K (dC, dI) vwCl ([(ct1, .int), (cs1, .int), (ct2, .int), (cs2, .int)]) U ∧ va_D (fun _ => True) ([(e1, .inr (3, [.int (nI R1), .ref t1, .ref s1, .int m1])), (t1, .inl (ct1, 24 * R1, .inl ft1)), (s1, .inl (cs1, R1, .inl fs1)), (e2, .inr (3, [.int (nI R2), .ref t2, .ref s2, .int m2])), (t2, .inl (ct2, 24 * R2, .inl ft2)), (s2, .inl (cs2, R2, .inl fs2))]))) (va_Qv (fun (u : Int32) => 0 ≤ u.toInt ∧ u.toInt ≤ R1) (fun u t => ∃ (f9 g9 : Nat → Int32), (∀ i, 0 ≤ (g9 i).toInt ∧ (g9 i).toInt ≤ 24) ∧ va_P (dC, dI) vwCl [(e1, .inr (3, [.int (nI R1), .ref t1, .ref s1, .int u])), (t1, .inl (ct1, 24 * R1, .inl f9)), (s1, .inl (cs1, R1, .inl g9)), (e2, .inr (3, [.int (nI R2), .ref t2, .ref s2, .int m2])), (t2, .inl (ct2, 24 * R2, .inl ft2)), (s2, .inl (cs2, R2, .inl fs2))] t.heap ∧ va_K (dC, dI) vwCl [(ct1, .int), (cs1, .int), (ct2, .int), (cs2, .int)] t ∧ va_D (va_A ([(e1, .inr (3, [.int (nI R1), .ref t1, .ref s1, .int m1])), (t1, .inl (ct1, 24 * R1, .inl ft1)), (s1, .inl (cs1, R1, .inl fs1)), (e2, .inr (3, [.int (nI R2), .ref t2, .ref s2, .int m2])), (t2, .inl (ct2, 24 * R2, .inl ft2)), (s2, .inl (cs2, R2, .inl fs2))]) sz) [(e1, .inr (3, [.int (nI R1), .ref t1, .ref s1, .int u])), (t1, .inl (ct1, 24 * R1, .inl f9)), (s1, .inl (cs1, R1, .inl g9)), (e2, .inr (3, [.int (nI R2), .ref t2, .ref s2, .int m2])), (t2, .inl (ct2, 24 * R2, .inl ft2)), (s2, .inl (cs2, R2, .inl fs2))]) (va_A ([(e1, .inr (3, [.int (nI R1), .ref t1, .ref s1, .int m1])), (t1, .inl (ct1, 24 * R1, .inl ft1)), (s1, .inl (cs1, R1, .inl fs1)), (e2, .inr (3, [.int (nI R2), .ref t2, .ref s2, .int m2])), (t2, .inl (ct2, 24 * R2, .inl ft2)), (s2, .inl (cs2, R2, .inl fs2))]) sz)) 0 0 (va_A ([(e1, .inr (3, [.int (nI R1), .ref t1, .ref s1, .int m1])), (t1, .inl (ct1, 24 * R1, .inl ft1)), (s1, .inl (cs1, R1, .inl fs1)), (e2, .inr (3, [.int (nI R2), .ref t2, .ref s2, .int m2])), (t2, .inl (ct2, 24 * R2, .inl ft2)), (s2, .inl (cs2, R2, .inl fs2))]) sz) := by
  refine Met.ofW (cc := cX3_take) (maxL := 3) (ret := none) (by decide +kernel) rfl ?_
  intro p e s m args below meth c s₁ B hml hv
  obtain ⟨rfl, hsz, hP, hK, hD0⟩ := hv
  have hx := B.exec
  have hb := B.bytes
  have hr := B.returns
  have hts := atoms_spec (ws := mwX3_take) B.pre
  have hown : s.vm.findClass RX3 = some m.cls := findClass_of_methodNamed B.named
  have hlocks := B.notSynchronized
  subst hsz
  have hD := hD0.self (sz := s.heap.size)
  generalize hAe : va_A ([(e1, .inr (3, [.int (nI R1), .ref t1, .ref s1, .int m1])), (t1, .inl (ct1, 24 * R1, .inl ft1)), (s1, .inl (cs1, R1, .inl fs1)), (e2, .inr (3, [.int (nI R2), .ref t2, .ref s2, .int m2])), (t2, .inl (ct2, 24 * R2, .inl ft2)), (s2, .inl (cs2, R2, .inl fs2))]) s.heap.size = A at hD ⊢
  have hA : ∀ q : Nat, s.heap.size ≤ q → A q := fun q h => by rw [← hAe]; exact Or.inr h
  have hP : va_P (dC, dI) vwCl [(e1, .inr (3, [.int (nI R1), .ref t1, .ref s1, .int m1])), (t1, .inl (ct1, 24 * R1, .inl ft1)), (s1, .inl (cs1, R1, .inl fs1)), (e2, .inr (3, [.int (nI R2), .ref t2, .ref s2, .int m2])), (t2, .inl (ct2, 24 * R2, .inl ft2)), (s2, .inl (cs2, R2, .inl fs2))] s.heap := hP
  have hD : va_D A [(e1, .inr (3, [.int (nI R1), .ref t1, .ref s1, .int m1])), (t1, .inl (ct1, 24 * R1, .inl ft1)), (s1, .inl (cs1, R1, .inl fs1)), (e2, .inr (3, [.int (nI R2), .ref t2, .ref s2, .int m2])), (t2, .inl (ct2, 24 * R2, .inl ft2)), (s2, .inl (cs2, R2, .inl fs2))] := hD
  have hK : va_K (dC, dI) vwCl [(ct1, .int), (cs1, .int), (ct2, .int), (cs2, .int)] s := hK
  generalize hH : s.heap = H at hP ⊢
  have hS : va_S A s.heap H [] := by rw [← hH]; exact va_S.rf
  have hl := lv_entry ([.ref e1, .ref e2]) (n := 3) (Nat.le_of_ble_eq_true rfl)
  rw [lg_entry_eq]
  generalize (lg_sl ([.ref e1, .ref e2]) ++ List.replicate (3 - (lg_sl ([.ref e1, .ref e2])).length) Slot.unset).toArray = ls at hl ⊢
  have hl : lv_has ls 3 [(0, .ref e1), (1, .ref e2)] := hl
  have tr1 : (nI R1).toInt = (R1 : Int) := nI_toInt (by omega)
  have rm1 := i_rng m1
  have tr2 : (nI R2).toInt = (R2 : Int) := nI_toInt (by omega)
  have rm2 := i_rng m2
  refine lv_aload_n hx hb dX3_take_0 rfl (lv_at hl 0 rfl) ?_
  refine lv_aload_n hx hb dX3_take_1 rfl (lv_at hl 1 rfl) ?_
  refine va_get (D := (dC, dI)) (ci := 3) (v := .int m2) (C := RX3) (T := TX3) (N := 4) hx hb hts fin_X3_take_X3 hown hK hP 3 rfl rfl 3 (by decide) (hts (.fieldLink RX3 44 "PatternGate$Need" "size" "I") (List.mem_of_getElem? (i := 1) (by decide +kernel))) (fun _ h9 => h9) rfl dX3_take_2 ?_
  refine lv_aload_n hx hb dX3_take_5 rfl (lv_at hl 0 rfl) ?_
  refine va_get (D := (dC, dI)) (ci := 3) (v := .int (nI R1)) (C := RX3) (T := TX3) (N := 4) hx hb hts fin_X3_take_X3 hown hK hP 0 rfl rfl 0 (by decide) (hts (.fieldLink RX3 15 "PatternGate$Need" "room" "I") (List.mem_of_getElem? (i := 2) (by decide +kernel))) (fun _ h9 => h9) rfl dX3_take_6 ?_
  refine va_mmin hx hb (hml.trans hl.1.symm) hown (hts (.methodLink RX3 47 Lib.Math.min.name) (List.mem_of_getElem? (i := 3) (by decide +kernel))) (hts (.static Lib.Math.min.name) (List.mem_of_getElem? (i := 4) (by decide +kernel))) (hts (.initialized "java/lang/Math") (List.mem_of_getElem? (i := 5) (by decide +kernel))) (hts (.code Lib.Math.min.name Lib.Math.min.code 2 (some .int)) (List.mem_of_getElem? (i := 6) (by decide +kernel))) (Nat.le_of_ble_eq_true rfl) (Nat.le_of_ble_eq_true rfl) (Nat.le_of_ble_eq_true rfl) (Nat.le_of_ble_eq_true rfl) dX3_take_9 ?_
  refine lv_topi (fun y_1 ey_1 => ?_)
  have ty_1 := i_min (a := m2.toInt) (b := (nI R1).toInt) rfl rfl ey_1
  refine va_put (D := (dC, dI)) (ci := 3) (v := .int y_1) (ty := .int) (C := RX3) (T := TX3) (N := 4) hx hb hts fin_X3_take_X3 tyX3 tyX3_ok nmX3 hown hK hP hD hS 0 rfl rfl 3 (by decide) (hts (.fieldLink RX3 44 "PatternGate$Need" "size" "I") (List.mem_of_getElem? (i := 1) (by decide +kernel))) (fun _ h9 => h9) rfl (by decide +kernel) rfl rfl (Nat.le_of_ble_eq_true rfl) dX3_take_12 (fun H locs hP hD hS => ?_)
  have hP : va_P (dC, dI) vwCl [(e1, .inr (3, [.int (nI R1), .ref t1, .ref s1, .int y_1])), (t1, .inl (ct1, 24 * R1, .inl ft1)), (s1, .inl (cs1, R1, .inl fs1)), (e2, .inr (3, [.int (nI R2), .ref t2, .ref s2, .int m2])), (t2, .inl (ct2, 24 * R2, .inl ft2)), (s2, .inl (cs2, R2, .inl fs2))] H := hP
  have hD : va_D A [(e1, .inr (3, [.int (nI R1), .ref t1, .ref s1, .int y_1])), (t1, .inl (ct1, 24 * R1, .inl ft1)), (s1, .inl (cs1, R1, .inl fs1)), (e2, .inr (3, [.int (nI R2), .ref t2, .ref s2, .int m2])), (t2, .inl (ct2, 24 * R2, .inl ft2)), (s2, .inl (cs2, R2, .inl fs2))] := hD
  refine lv_iconst (v := 0) hx hb dX3_take_15 (by decide) ?_
  refine lv_istore_n (lv' := [(2, .int 0), (0, .ref e1), (1, .ref e2)]) hx hb dX3_take_16 rfl hl (by decide) rfl (fun ls hl => ?_)
  have loop17 : ∀ (n_17 : Nat) (ii : Int32) (ga : Nat → Int32) (gb : Nat → Int32), (0 ≤ ii.toInt) → (∀ i, 0 ≤ (gb i).toInt ∧ (gb i).toInt ≤ 24) → ((R1 : Int).toNat + 1 - ii.toInt.toNat) < n_17 → ∀ (H : Heap) (locs : List Loc) (ls : Array Slot), va_P (dC, dI) vwCl [(e1, .inr (3, [.int (nI R1), .ref t1, .ref s1, .int y_1])), (t1, .inl (ct1, 24 * R1, .inl ga)), (s1, .inl (cs1, R1, .inl gb)), (e2, .inr (3, [.int (nI R2), .ref t2, .ref s2, .int m2])), (t2, .inl (ct2, 24 * R2, .inl ft2)), (s2, .inl (cs2, R2, .inl fs2))] H → va_D A [(e1, .inr (3, [.int (nI R1), .ref t1, .ref s1, .int y_1])), (t1, .inl (ct1, 24 * R1, .inl ga)), (s1, .inl (cs1, R1, .inl gb)), (e2, .inr (3, [.int (nI R2), .ref t2, .ref s2, .int m2])), (t2, .inl (ct2, 24 * R2, .inl ft2)), (s2, .inl (cs2, R2, .inl fs2))] → va_S A s.heap H locs → lv_has ls 3 [(2, .int ii), (0, .ref e1), (1, .ref e2)] → W p l e (headSpec mwX3_take ({ frames := 1, cells := 0, slots := 0, locals := 60 })).room s m ([.ref e1, .ref e2]).toArray below meth c H locs 0 0 (MQ below (va_Qv (fun (u : Int32) => 0 ≤ u.toInt ∧ u.toInt ≤ R1) (fun u t => ∃ (f9 g9 : Nat → Int32), (∀ i, 0 ≤ (g9 i).toInt ∧ (g9 i).toInt ≤ 24) ∧ va_P (dC, dI) vwCl [(e1, .inr (3, [.int (nI R1), .ref t1, .ref s1, .int u])), (t1, .inl (ct1, 24 * R1, .inl f9)), (s1, .inl (cs1, R1, .inl g9)), (e2, .inr (3, [.int (nI R2), .ref t2, .ref s2, .int m2])), (t2, .inl (ct2, 24 * R2, .inl ft2)), (s2, .inl (cs2, R2, .inl fs2))] t.heap ∧ va_K (dC, dI) vwCl [(ct1, .int), (cs1, .int), (ct2, .int), (cs2, .int)] t ∧ va_D A [(e1, .inr (3, [.int (nI R1), .ref t1, .ref s1, .int u])), (t1, .inl (ct1, 24 * R1, .inl f9)), (s1, .inl (cs1, R1, .inl g9)), (e2, .inr (3, [.int (nI R2), .ref t2, .ref s2, .int m2])), (t2, .inl (ct2, 24 * R2, .inl ft2)), (s2, .inl (cs2, R2, .inl fs2))]) A) ([.ref e1, .ref e2]).toArray s 0 0 A) (F0 m 17 ls []) := by
    intro n_17
    induction n_17 with
    | zero => intro ii ga gb v17_0 hb_gb hm17; exact absurd hm17 (Nat.not_lt_zero _)
    | succ n_17 ih17 =>
      intro ii ga gb v17_0 hb_gb hm17 H locs ls hP hD hS hl
      have rg_ii := i_rng ii
      refine lv_iload_n hx hb dX3_take_17 rfl (lv_at hl 0 rfl) ?_
      refine lv_aload_n hx hb dX3_take_18 rfl (lv_at hl 1 rfl) ?_
      refine va_get (D := (dC, dI)) (ci := 3) (v := .int y_1) (C := RX3) (T := TX3) (N := 4) hx hb hts fin_X3_take_X3 hown hK hP 0 rfl rfl 3 (by decide) (hts (.fieldLink RX3 44 "PatternGate$Need" "size" "I") (List.mem_of_getElem? (i := 1) (by decide +kernel))) (fun _ h9 => h9) rfl dX3_take_19 ?_
      refine lv_icmp_ge (tgt := 68) hx hb dX3_take_22 (by decide) (fun k_2 => ?_) (fun k_2 => ?_)
      · have tk_2 := c_ge (a := ii.toInt) (b := y_1.toInt) rfl rfl k_2
        have hP9 := hP.sub (ws' := [(e1, .inr (3, [.int (nI R1), .ref t1, .ref s1, .int y_1])), (t1, .inl (ct1, 24 * R1, .inl ga)), (s1, .inl (cs1, R1, .inl gb)), (e2, .inr (3, [.int (nI R2), .ref t2, .ref s2, .int m2])), (t2, .inl (ct2, 24 * R2, .inl ft2)), (s2, .inl (cs2, R2, .inl fs2))]) [0, 1, 2, 3, 4, 5] rfl
        have hD9 := hD.sub (ws' := [(e1, .inr (3, [.int (nI R1), .ref t1, .ref s1, .int y_1])), (t1, .inl (ct1, 24 * R1, .inl ga)), (s1, .inl (cs1, R1, .inl gb)), (e2, .inr (3, [.int (nI R2), .ref t2, .ref s2, .int m2])), (t2, .inl (ct2, 24 * R2, .inl ft2)), (s2, .inl (cs2, R2, .inl fs2))]) [0, 1, 2, 3, 4, 5] (by decide) rfl
        have hK9 := hK.sub (tys' := [(ct1, .int), (cs1, .int), (ct2, .int), (cs2, .int)]) [0, 1, 2, 3] rfl
        exact W.vret hx hb hr (fun t ht hW => ⟨⟨y_1, rfl, by omega, ga, gb, hb_gb, by rw [ht]; exact hP9, va_K.moved hW.alike hK9, hD9⟩, hS.F ht⟩) hS.2.2 dX3_take_68
      · have tk_2 := c_nge (a := ii.toInt) (b := y_1.toInt) rfl rfl k_2
        refine lv_aload_n hx hb dX3_take_25 rfl (lv_at hl 1 rfl) ?_
        refine va_get (D := (dC, dI)) (ci := 3) (v := .ref s1) (C := RX3) (T := TX3) (N := 4) hx hb hts fin_X3_take_X3 hown hK hP 0 rfl rfl 2 (by decide) (hts (.fieldLink RX3 25 "PatternGate$Need" "sizes" "[I") (List.mem_of_getElem? (i := 7) (by decide +kernel))) (fun _ h9 => h9) rfl dX3_take_26 ?_
        refine lv_iload_n hx hb dX3_take_29 rfl (lv_at hl 0 rfl) ?_
        refine lv_aload_n hx hb dX3_take_30 rfl (lv_at hl 2 rfl) ?_
        refine va_get (D := (dC, dI)) (ci := 3) (v := .ref s2) (C := RX3) (T := TX3) (N := 4) hx hb hts fin_X3_take_X3 hown hK hP 3 rfl rfl 2 (by decide) (hts (.fieldLink RX3 25 "PatternGate$Need" "sizes" "[I") (List.mem_of_getElem? (i := 7) (by decide +kernel))) (fun _ h9 => h9) rfl dX3_take_31 ?_
        refine lv_iload_n hx hb dX3_take_34 rfl (lv_at hl 0 rfl) ?_
        refine va_iald hx hb hK hP 5 3 rfl rfl (i := ii) (vp_of (a := ii.toInt) rfl (by omega) (by omega)) dX3_take_35 ?_
        refine lv_topi (fun y_3 ey_3 => ?_)
        have rg_y_3 := i_rng y_3
        have by_3 : 0 ≤ y_3.toInt ∧ y_3.toInt ≤ 24 := by rw [ey_3]; exact hb_fs2 _
        refine va_iast hx hb hK hP hD hS 2 1 rfl rfl (i := ii) (vp_of (a := ii.toInt) rfl (by omega) (by omega)) dX3_take_36 (fun H locs hP hD hS => ?_)
        generalize hf_f_4 : upd gb _ _ = f_4 at hP hD
        have hb_f_4 : ∀ i, 0 ≤ (f_4 i).toInt ∧ (f_4 i).toInt ≤ 24 := by rw [← hf_f_4]; exact upd_bd (a := y_3.toInt) hb_gb rfl (by omega) (by omega)
        have hP : va_P (dC, dI) vwCl [(e1, .inr (3, [.int (nI R1), .ref t1, .ref s1, .int y_1])), (t1, .inl (ct1, 24 * R1, .inl ga)), (s1, .inl (cs1, R1, .inl f_4)), (e2, .inr (3, [.int (nI R2), .ref t2, .ref s2, .int m2])), (t2, .inl (ct2, 24 * R2, .inl ft2)), (s2, .inl (cs2, R2, .inl fs2))] H := hP
        have hD : va_D A [(e1, .inr (3, [.int (nI R1), .ref t1, .ref s1, .int y_1])), (t1, .inl (ct1, 24 * R1, .inl ga)), (s1, .inl (cs1, R1, .inl f_4)), (e2, .inr (3, [.int (nI R2), .ref t2, .ref s2, .int m2])), (t2, .inl (ct2, 24 * R2, .inl ft2)), (s2, .inl (cs2, R2, .inl fs2))] := hD
        refine lv_aload_n hx hb dX3_take_37 rfl (lv_at hl 2 rfl) ?_
        refine va_get (D := (dC, dI)) (ci := 3) (v := .ref t2) (C := RX3) (T := TX3) (N := 4) hx hb hts fin_X3_take_X3 hown hK hP 3 rfl rfl 1 (by decide) (hts (.fieldLink RX3 21 "PatternGate$Need" "triples" "[I") (List.mem_of_getElem? (i := 8) (by decide +kernel))) (fun _ h9 => h9) rfl dX3_take_38 ?_
        refine lv_iload_n hx hb dX3_take_41 rfl (lv_at hl 0 rfl) ?_
        refine lv_bipush (v := 24) hx hb dX3_take_42 (by decide) ?_
        refine lv_imul hx hb dX3_take_44 ?_
        refine lv_topi (fun y_5 ey_5 => ?_)
        first | have ty_5 := i_mul (a := ii.toInt) (b := 24) rfl (by decide) ey_5 (by omega) (by omega) | skip
        refine lv_aload_n hx hb dX3_take_45 rfl (lv_at hl 1 rfl) ?_
        refine va_get (D := (dC, dI)) (ci := 3) (v := .ref t1) (C := RX3) (T := TX3) (N := 4) hx hb hts fin_X3_take_X3 hown hK hP 0 rfl rfl 1 (by decide) (hts (.fieldLink RX3 21 "PatternGate$Need" "triples" "[I") (List.mem_of_getElem? (i := 8) (by decide +kernel))) (fun _ h9 => h9) rfl dX3_take_46 ?_
        refine lv_iload_n hx hb dX3_take_49 rfl (lv_at hl 0 rfl) ?_
        refine lv_bipush (v := 24) hx hb dX3_take_50 (by decide) ?_
        refine lv_imul hx hb dX3_take_52 ?_
        refine lv_topi (fun y_6 ey_6 => ?_)
        first | have ty_6 := i_mul (a := ii.toInt) (b := 24) rfl (by decide) ey_6 (by omega) (by omega) | skip
        refine lv_aload_n hx hb dX3_take_53 rfl (lv_at hl 1 rfl) ?_
        refine va_get (D := (dC, dI)) (ci := 3) (v := .ref s1) (C := RX3) (T := TX3) (N := 4) hx hb hts fin_X3_take_X3 hown hK hP 0 rfl rfl 2 (by decide) (hts (.fieldLink RX3 25 "PatternGate$Need" "sizes" "[I") (List.mem_of_getElem? (i := 7) (by decide +kernel))) (fun _ h9 => h9) rfl dX3_take_54 ?_
        refine lv_iload_n hx hb dX3_take_57 rfl (lv_at hl 0 rfl) ?_
        refine va_iald hx hb hK hP 2 1 rfl rfl (i := ii) (vp_of (a := ii.toInt) rfl (by omega) (by omega)) dX3_take_58 ?_
        refine lv_topi (fun y_7 ey_7 => ?_)
        have rg_y_7 := i_rng y_7
        have by_7 : 0 ≤ y_7.toInt ∧ y_7.toInt ≤ 24 := by rw [ey_7]; exact hb_f_4 _
        refine va_copyi hx hb (hml.trans hl.1.symm) hown (hts (.methodLink RX3 38 arraycopyName) (List.mem_of_getElem? (i := 9) (by decide +kernel))) (hts (.native arraycopyName) (List.mem_of_getElem? (i := 10) (by decide +kernel))) (hts (.static arraycopyName) (List.mem_of_getElem? (i := 11) (by decide +kernel))) (hts (.initialized "java/lang/System") (List.mem_of_getElem? (i := 12) (by decide +kernel))) hK hP hD hS 4 1 2 0 rfl rfl rfl rfl rfl (i_nn (a := y_5.toInt) rfl (by omega)) (i_nn (a := y_6.toInt) rfl (by omega)) (i_nn (a := y_7.toInt) rfl (by omega)) (cp_le (a := y_5.toInt) (b := y_7.toInt) rfl rfl (by omega) (by omega) (by omega)) (cp_le (a := y_6.toInt) (b := y_7.toInt) rfl rfl (by omega) (by omega) (by omega)) (fun _ _ => rfl) (Nat.le_of_ble_eq_true rfl) (by decide +kernel) dX3_take_59 (fun H locs hP hD hS => ?_)
        generalize hf_f_8 : va_cpy _ _ _ _ _ = f_8 at hP hD
        have hP : va_P (dC, dI) vwCl [(e1, .inr (3, [.int (nI R1), .ref t1, .ref s1, .int y_1])), (t1, .inl (ct1, 24 * R1, .inl f_8)), (s1, .inl (cs1, R1, .inl f_4)), (e2, .inr (3, [.int (nI R2), .ref t2, .ref s2, .int m2])), (t2, .inl (ct2, 24 * R2, .inl ft2)), (s2, .inl (cs2, R2, .inl fs2))] H := hP
        have hD : va_D A [(e1, .inr (3, [.int (nI R1), .ref t1, .ref s1, .int y_1])), (t1, .inl (ct1, 24 * R1, .inl f_8)), (s1, .inl (cs1, R1, .inl f_4)), (e2, .inr (3, [.int (nI R2), .ref t2, .ref s2, .int m2])), (t2, .inl (ct2, 24 * R2, .inl ft2)), (s2, .inl (cs2, R2, .inl fs2))] := hD
        obtain ⟨y_9, ey_9⟩ : ∃ y : Int32, y = ii + 1 := ⟨_, rfl⟩
        first | have ty_9 := i_add (a := ii.toInt) (b := 1) rfl (by decide) ey_9 (by omega) (by omega) | skip
        refine lv_iinc (v := y_9) (lv' := [(2, .int y_9), (0, .ref e1), (1, .ref e2)]) hx hb dX3_take_62 hl (k := 0) rfl (by rw [ey_9]; rfl) (by decide) rfl (fun ls hl => ?_)
        refine lv_goto (tgt := 17) hx hb dX3_take_65 (by decide) ?_
        exact ih17 y_9 f_8 f_4 (by first | omega | decide | assumption) (by first | exact hb_f_4 | (intro i; decide)) (by omega) _ _ ls hP hD hS (lv_sub hl [0, 1, 2] rfl)
  have lit_9 : (0 : Int32).toInt = 0 := by decide
  exact loop17 _ 0 ft1 fs1 (by first | omega | decide | assumption) (by first | exact hb_fs1 | (intro i; decide)) (Nat.lt_succ_self _) _ _ ls hP hD hS (lv_sub hl [0, 1, 2] rfl)
theorem dX3_add_0 : decode cX3_add 0 = .ok (.iconst 0, 1) := by decide +kernel
theorem dX3_add_1 : decode cX3_add 1 = .ok (.istore 4, 2) := by decide +kernel
theorem dX3_add_3 : decode cX3_add 3 = .ok (.iconst 0, 1) := by decide +kernel
theorem dX3_add_4 : decode cX3_add 4 = .ok (.istore 5, 2) := by decide +kernel
theorem dX3_add_6 : decode cX3_add 6 = .ok (.iload 5, 2) := by decide +kernel
theorem dX3_add_8 : decode cX3_add 8 = .ok (.aload_n 0, 1) := by decide +kernel
theorem dX3_add_9 : decode cX3_add 9 = .ok (.getfield 44, 3) := by decide +kernel
theorem dX3_add_12 : decode cX3_add 12 = .ok (.if_icmp .ge 109, 3) := by decide +kernel
theorem dX3_add_15 : decode cX3_add 15 = .ok (.iload 5, 2) := by decide +kernel
theorem dX3_add_17 : decode cX3_add 17 = .ok (.bipush 24, 2) := by decide +kernel
theorem dX3_add_19 : decode cX3_add 19 = .ok (.imul, 1) := by decide +kernel
theorem dX3_add_20 : decode cX3_add 20 = .ok (.istore 6, 2) := by decide +kernel
theorem dX3_add_22 : decode cX3_add 22 = .ok (.aload_n 0, 1) := by decide +kernel
theorem dX3_add_23 : decode cX3_add 23 = .ok (.getfield 21, 3) := by decide +kernel
theorem dX3_add_26 : decode cX3_add 26 = .ok (.iload 6, 2) := by decide +kernel
theorem dX3_add_28 : decode cX3_add 28 = .ok (.iload 6, 2) := by decide +kernel
theorem dX3_add_30 : decode cX3_add 30 = .ok (.aload_n 0, 1) := by decide +kernel
theorem dX3_add_31 : decode cX3_add 31 = .ok (.getfield 25, 3) := by decide +kernel
theorem dX3_add_34 : decode cX3_add 34 = .ok (.iload 5, 2) := by decide +kernel
theorem dX3_add_36 : decode cX3_add 36 = .ok (.iaload, 1) := by decide +kernel
theorem dX3_add_37 : decode cX3_add 37 = .ok (.iadd, 1) := by decide +kernel
theorem dX3_add_38 : decode cX3_add 38 = .ok (.aload_n 1, 1) := by decide +kernel
theorem dX3_add_39 : decode cX3_add 39 = .ok (.iload_n 2, 1) := by decide +kernel
theorem dX3_add_40 : decode cX3_add 40 = .ok (.iload_n 3, 1) := by decide +kernel
theorem dX3_add_41 : decode cX3_add 41 = .ok (.invokestatic 50, 3) := by decide +kernel
theorem dX3_add_44 : decode cX3_add 44 = .ok (.ifCond .eq 4, 3) := by decide +kernel
theorem dX3_add_47 : decode cX3_add 47 = .ok (.return_, 1) := by decide +kernel
theorem dX3_add_48 : decode cX3_add 48 = .ok (.aload_n 1, 1) := by decide +kernel
theorem dX3_add_49 : decode cX3_add 49 = .ok (.iload_n 2, 1) := by decide +kernel
theorem dX3_add_50 : decode cX3_add 50 = .ok (.iload_n 3, 1) := by decide +kernel
theorem dX3_add_51 : decode cX3_add 51 = .ok (.aload_n 0, 1) := by decide +kernel
theorem dX3_add_52 : decode cX3_add 52 = .ok (.getfield 21, 3) := by decide +kernel
theorem dX3_add_55 : decode cX3_add 55 = .ok (.iload 6, 2) := by decide +kernel
theorem dX3_add_57 : decode cX3_add 57 = .ok (.iload 6, 2) := by decide +kernel
theorem dX3_add_59 : decode cX3_add 59 = .ok (.aload_n 0, 1) := by decide +kernel
theorem dX3_add_60 : decode cX3_add 60 = .ok (.getfield 25, 3) := by decide +kernel
theorem dX3_add_63 : decode cX3_add 63 = .ok (.iload 5, 2) := by decide +kernel
theorem dX3_add_65 : decode cX3_add 65 = .ok (.iaload, 1) := by decide +kernel
theorem dX3_add_66 : decode cX3_add 66 = .ok (.iadd, 1) := by decide +kernel
theorem dX3_add_67 : decode cX3_add 67 = .ok (.invokestatic 50, 3) := by decide +kernel
theorem dX3_add_70 : decode cX3_add 70 = .ok (.ifCond .ne 45, 3) := by decide +kernel
theorem dX3_add_73 : decode cX3_add 73 = .ok (.aload_n 0, 1) := by decide +kernel
theorem dX3_add_74 : decode cX3_add 74 = .ok (.getfield 21, 3) := by decide +kernel
theorem dX3_add_77 : decode cX3_add 77 = .ok (.iload 6, 2) := by decide +kernel
theorem dX3_add_79 : decode cX3_add 79 = .ok (.aload_n 0, 1) := by decide +kernel
theorem dX3_add_80 : decode cX3_add 80 = .ok (.getfield 21, 3) := by decide +kernel
theorem dX3_add_83 : decode cX3_add 83 = .ok (.iload 4, 2) := by decide +kernel
theorem dX3_add_85 : decode cX3_add 85 = .ok (.bipush 24, 2) := by decide +kernel
theorem dX3_add_87 : decode cX3_add 87 = .ok (.imul, 1) := by decide +kernel
theorem dX3_add_88 : decode cX3_add 88 = .ok (.aload_n 0, 1) := by decide +kernel
theorem dX3_add_89 : decode cX3_add 89 = .ok (.getfield 25, 3) := by decide +kernel
theorem dX3_add_92 : decode cX3_add 92 = .ok (.iload 5, 2) := by decide +kernel
theorem dX3_add_94 : decode cX3_add 94 = .ok (.iaload, 1) := by decide +kernel
theorem dX3_add_95 : decode cX3_add 95 = .ok (.invokestatic 38, 3) := by decide +kernel
theorem dX3_add_98 : decode cX3_add 98 = .ok (.aload_n 0, 1) := by decide +kernel
theorem dX3_add_99 : decode cX3_add 99 = .ok (.getfield 25, 3) := by decide +kernel
theorem dX3_add_102 : decode cX3_add 102 = .ok (.iload 4, 2) := by decide +kernel
theorem dX3_add_104 : decode cX3_add 104 = .ok (.aload_n 0, 1) := by decide +kernel
theorem dX3_add_105 : decode cX3_add 105 = .ok (.getfield 25, 3) := by decide +kernel
theorem dX3_add_108 : decode cX3_add 108 = .ok (.iload 5, 2) := by decide +kernel
theorem dX3_add_110 : decode cX3_add 110 = .ok (.iaload, 1) := by decide +kernel
theorem dX3_add_111 : decode cX3_add 111 = .ok (.iastore, 1) := by decide +kernel
theorem dX3_add_112 : decode cX3_add 112 = .ok (.iinc 4 1, 3) := by decide +kernel
theorem dX3_add_115 : decode cX3_add 115 = .ok (.iinc 5 1, 3) := by decide +kernel
theorem dX3_add_118 : decode cX3_add 118 = .ok (.goto (-112), 3) := by decide +kernel
theorem dX3_add_121 : decode cX3_add 121 = .ok (.aload_n 0, 1) := by decide +kernel
theorem dX3_add_122 : decode cX3_add 122 = .ok (.iload 4, 2) := by decide +kernel
theorem dX3_add_124 : decode cX3_add 124 = .ok (.putfield 44, 3) := by decide +kernel
theorem dX3_add_127 : decode cX3_add 127 = .ok (.aload_n 0, 1) := by decide +kernel
theorem dX3_add_128 : decode cX3_add 128 = .ok (.getfield 44, 3) := by decide +kernel
theorem dX3_add_131 : decode cX3_add 131 = .ok (.aload_n 0, 1) := by decide +kernel
theorem dX3_add_132 : decode cX3_add 132 = .ok (.getfield 15, 3) := by decide +kernel
theorem dX3_add_135 : decode cX3_add 135 = .ok (.if_icmp .ge 52, 3) := by decide +kernel
theorem dX3_add_138 : decode cX3_add 138 = .ok (.iload_n 3, 1) := by decide +kernel
theorem dX3_add_139 : decode cX3_add 139 = .ok (.iload_n 2, 1) := by decide +kernel
theorem dX3_add_140 : decode cX3_add 140 = .ok (.isub, 1) := by decide +kernel
theorem dX3_add_141 : decode cX3_add 141 = .ok (.bipush 24, 2) := by decide +kernel
theorem dX3_add_143 : decode cX3_add 143 = .ok (.if_icmp .gt 44, 3) := by decide +kernel
theorem dX3_add_146 : decode cX3_add 146 = .ok (.aload_n 1, 1) := by decide +kernel
theorem dX3_add_147 : decode cX3_add 147 = .ok (.iload_n 2, 1) := by decide +kernel
theorem dX3_add_148 : decode cX3_add 148 = .ok (.aload_n 0, 1) := by decide +kernel
theorem dX3_add_149 : decode cX3_add 149 = .ok (.getfield 21, 3) := by decide +kernel
theorem dX3_add_152 : decode cX3_add 152 = .ok (.aload_n 0, 1) := by decide +kernel
theorem dX3_add_153 : decode cX3_add 153 = .ok (.getfield 44, 3) := by decide +kernel
theorem dX3_add_156 : decode cX3_add 156 = .ok (.bipush 24, 2) := by decide +kernel
theorem dX3_add_158 : decode cX3_add 158 = .ok (.imul, 1) := by decide +kernel
theorem dX3_add_159 : decode cX3_add 159 = .ok (.iload_n 3, 1) := by decide +kernel
theorem dX3_add_160 : decode cX3_add 160 = .ok (.iload_n 2, 1) := by decide +kernel
theorem dX3_add_161 : decode cX3_add 161 = .ok (.isub, 1) := by decide +kernel
theorem dX3_add_162 : decode cX3_add 162 = .ok (.invokestatic 38, 3) := by decide +kernel
theorem dX3_add_165 : decode cX3_add 165 = .ok (.aload_n 0, 1) := by decide +kernel
theorem dX3_add_166 : decode cX3_add 166 = .ok (.getfield 25, 3) := by decide +kernel
theorem dX3_add_169 : decode cX3_add 169 = .ok (.aload_n 0, 1) := by decide +kernel
theorem dX3_add_170 : decode cX3_add 170 = .ok (.getfield 44, 3) := by decide +kernel
theorem dX3_add_173 : decode cX3_add 173 = .ok (.iload_n 3, 1) := by decide +kernel
theorem dX3_add_174 : decode cX3_add 174 = .ok (.iload_n 2, 1) := by decide +kernel
theorem dX3_add_175 : decode cX3_add 175 = .ok (.isub, 1) := by decide +kernel
theorem dX3_add_176 : decode cX3_add 176 = .ok (.iastore, 1) := by decide +kernel
theorem dX3_add_177 : decode cX3_add 177 = .ok (.aload_n 0, 1) := by decide +kernel
theorem dX3_add_178 : decode cX3_add 178 = .ok (.dup, 1) := by decide +kernel
theorem dX3_add_179 : decode cX3_add 179 = .ok (.getfield 44, 3) := by decide +kernel
theorem dX3_add_182 : decode cX3_add 182 = .ok (.iconst 1, 1) := by decide +kernel
theorem dX3_add_183 : decode cX3_add 183 = .ok (.iadd, 1) := by decide +kernel
theorem dX3_add_184 : decode cX3_add 184 = .ok (.putfield 44, 3) := by decide +kernel
theorem dX3_add_187 : decode cX3_add 187 = .ok (.return_, 1) := by decide +kernel
def mwX3_add : List Cond := .code yX3_add cX3_add 7 none :: ([.fieldLink RX3 44 "PatternGate$Need" "size" "I", .fieldLink RX3 15 "PatternGate$Need" "room" "I", .fieldLink RX3 21 "PatternGate$Need" "triples" "[I", .methodLink RX3 38 arraycopyName, .native arraycopyName, .static arraycopyName, .initialized "java/lang/System", .fieldLink RX3 25 "PatternGate$Need" "sizes" "[I", .code yX3_isWithin cX3_isWithin 8 (some .boolean), .methodLink RX3 50 yX3_isWithin, .static yX3_isWithin, .initialized RX3] ++ wsX30)
theorem fin_X3_add_X3 : ∀ w ∈ wsX30, w ∈ mwX3_add := fun w h => List.mem_cons_of_mem _ (List.mem_append_right _ h)
set_option maxRecDepth 20000 in
theorem mg_X3_add_X3_isWithin_50 : GoodIn mwX3_add (va_wsS RX3 50 yX3_isWithin mwX3_isWithin) := goodIn_r _ [10, 11, 12, 9] (by decide +kernel) (by decide +kernel)
set_option maxHeartbeats 4000000 in
set_option maxRecDepth 100000 in
/-- Need.add -/
theorem s_Need_add (l : Launch) (dC : Nat → ClassId) (dI : Nat → Nat → Nat) (e1 t1 s1 R1 : Nat) (ct1 cs1 : ClassId) (ft1 fs1 : Nat → Int32) (m1 : Int32) (ch nc : Nat) (cc9 : ClassId) (fc : Nat → Int32) (sz : Nat) (i8 i9 : Int32) (hR1 : 1 ≤ R1) (hU1 : R1 ≤ 144) (hc1 : 0 ≤ m1.toInt) (hd1 : m1.toInt ≤ R1) (hb_fs1 : ∀ i, 0 ≤ (fs1 i).toInt ∧ (fs1 i).toInt ≤ 24) (hn : nc ≤ 100000) (q1 : 0 ≤ i8.toInt) (q2 : i8.toInt ≤ i9.toInt) (q3 : i9.toInt ≤ nc) : Met l yX3_add mwX3_add ({ frames := 1, cells := 0, slots := 0, locals := 60 }) (va_Pc [.ref e1, .ref ch, .int i8, .int i9] (fun U => U.heap.size = sz ∧ va_P (dC, dI) vwCl ([(e1, .inr (3, [.int (nI R1), .ref t1, .ref s1, .int m1])), (t1, .inl (ct1, 24 * R1, .inl ft1)), (s1, .inl (cs1, R1, .inl fs1)), (ch, .inl (cc9, nc, .inl fc))]) U.heap ∧ va_K (dC, dI) vwCl ([(ct1, .int), (cs1, .int), (cc9, .int)]) U ∧ va_D (fun _ => True) ([(e1, .inr (3, [.int (nI R1), .ref t1, .ref s1, .int m1])), (t1, .inl (ct1, 24 * R1, .inl ft1)), (s1, .inl (cs1, R1, .inl fs1)), (ch, .inl (cc9, nc, .inl fc))]))) (va_Qv (fun (u : Int32) => 0 ≤ u.toInt ∧ u.toInt ≤ R1) (fun u t => ∃ (f9 g9 : Nat → Int32), (∀ i, 0 ≤ (g9 i).toInt ∧ (g9 i).toInt ≤ 24) ∧ va_P (dC, dI) vwCl [(e1, .inr (3, [.int (nI R1), .ref t1, .ref s1, .int u])), (t1, .inl (ct1, 24 * R1, .inl f9)), (s1, .inl (cs1, R1, .inl g9)), (ch, .inl (cc9, nc, .inl fc))] t.heap ∧ va_K (dC, dI) vwCl [(ct1, .int), (cs1, .int), (cc9, .int)] t ∧ va_D (va_A ([(e1, .inr (3, [.int (nI R1), .ref t1, .ref s1, .int m1])), (t1, .inl (ct1, 24 * R1, .inl ft1)), (s1, .inl (cs1, R1, .inl fs1)), (ch, .inl (cc9, nc, .inl fc))]) sz) [(e1, .inr (3, [.int (nI R1), .ref t1, .ref s1, .int u])), (t1, .inl (ct1, 24 * R1, .inl f9)), (s1, .inl (cs1, R1, .inl g9)), (ch, .inl (cc9, nc, .inl fc))]) (va_A ([(e1, .inr (3, [.int (nI R1), .ref t1, .ref s1, .int m1])), (t1, .inl (ct1, 24 * R1, .inl ft1)), (s1, .inl (cs1, R1, .inl fs1)), (ch, .inl (cc9, nc, .inl fc))]) sz)) 0 0 (va_A ([(e1, .inr (3, [.int (nI R1), .ref t1, .ref s1, .int m1])), (t1, .inl (ct1, 24 * R1, .inl ft1)), (s1, .inl (cs1, R1, .inl fs1)), (ch, .inl (cc9, nc, .inl fc))]) sz) := by
  refine Met.ofW (cc := cX3_add) (maxL := 7) (ret := none) (by decide +kernel) rfl ?_
  intro p e s m args below meth c s₁ B hml hv
  obtain ⟨rfl, hsz, hP, hK, hD0⟩ := hv
  have hx := B.exec
  have hb := B.bytes
  have hr := B.returns
  have hts := atoms_spec (ws := mwX3_add) B.pre
  have hown : s.vm.findClass RX3 = some m.cls := findClass_of_methodNamed B.named
  have hlocks := B.notSynchronized
  subst hsz
  have hD := hD0.self (sz := s.heap.size)
  generalize hAe : va_A ([(e1, .inr (3, [.int (nI R1), .ref t1, .ref s1, .int m1])), (t1, .inl (ct1, 24 * R1, .inl ft1)), (s1, .inl (cs1, R1, .inl fs1)), (ch, .inl (cc9, nc, .inl fc))]) s.heap.size = A at hD ⊢
  have hA : ∀ q : Nat, s.heap.size ≤ q → A q := fun q h => by rw [← hAe]; exact Or.inr h
  have hP : va_P (dC, dI) vwCl [(e1, .inr (3, [.int (nI R1), .ref t1, .ref s1, .int m1])), (t1, .inl (ct1, 24 * R1, .inl ft1)), (s1, .inl (cs1, R1, .inl fs1)), (ch, .inl (cc9, nc, .inl fc))] s.heap := hP
  have hD : va_D A [(e1, .inr (3, [.int (nI R1), .ref t1, .ref s1, .int m1])), (t1, .inl (ct1, 24 * R1, .inl ft1)), (s1, .inl (cs1, R1, .inl fs1)), (ch, .inl (cc9, nc, .inl fc))] := hD
  have hK : va_K (dC, dI) vwCl [(ct1, .int), (cs1, .int), (cc9, .int)] s := hK
  generalize hH : s.heap = H at hP ⊢
  have hS : va_S A s.heap H [] := by rw [← hH]; exact va_S.rf
  have hl := lv_entry ([.ref e1, .ref ch, .int i8, .int i9]) (n := 7) (Nat.le_of_ble_eq_true rfl)
  rw [lg_entry_eq]
  generalize (lg_sl ([.ref e1, .ref ch, .int i8, .int i9]) ++ List.replicate (7 - (lg_sl ([.ref e1, .ref ch, .int i8, .int i9])).length) Slot.unset).toArray = ls at hl ⊢
  have hl : lv_has ls 7 [(0, .ref e1), (1, .ref ch), (2, .int i8), (3, .int i9)] := hl
  have rg_i8 := i_rng i8
  have rg_i9 := i_rng i9
  have tr1 : (nI R1).toInt = (R1 : Int) := nI_toInt (by omega)
  have rm1 := i_rng m1
  refine lv_iconst (v := 0) hx hb dX3_add_0 (by decide) ?_
  refine lv_istore (lv' := [(4, .int 0), (0, .ref e1), (1, .ref ch), (2, .int i8), (3, .int i9)]) hx hb dX3_add_1 hl (by decide) rfl (fun ls hl => ?_)
  refine lv_iconst (v := 0) hx hb dX3_add_3 (by decide) ?_
  refine lv_istore (lv' := [(5, .int 0), (4, .int 0), (0, .ref e1), (1, .ref ch), (2, .int i8), (3, .int i9)]) hx hb dX3_add_4 hl (by decide) rfl (fun ls hl => ?_)
  have loop6 : ∀ (n_6 : Nat) (kp ii : Int32) (ga : Nat → Int32) (gb : Nat → Int32), (0 ≤ kp.toInt) → (kp.toInt ≤ ii.toInt) → (ii.toInt ≤ R1) → (∀ i, 0 ≤ (gb i).toInt ∧ (gb i).toInt ≤ 24) → ((m1.toInt - ii.toInt).toNat) < n_6 → ∀ (H : Heap) (locs : List Loc) (ls : Array Slot), va_P (dC, dI) vwCl [(e1, .inr (3, [.int (nI R1), .ref t1, .ref s1, .int m1])), (t1, .inl (ct1, 24 * R1, .inl ga)), (s1, .inl (cs1, R1, .inl gb)), (ch, .inl (cc9, nc, .inl fc))] H → va_D A [(e1, .inr (3, [.int (nI R1), .ref t1, .ref s1, .int m1])), (t1, .inl (ct1, 24 * R1, .inl ga)), (s1, .inl (cs1, R1, .inl gb)), (ch, .inl (cc9, nc, .inl fc))] → va_S A s.heap H locs → lv_has ls 7 [(5, .int ii), (4, .int kp), (0, .ref e1), (1, .ref ch), (2, .int i8), (3, .int i9)] → W p l e (headSpec mwX3_add ({ frames := 1, cells := 0, slots := 0, locals := 60 })).room s m ([.ref e1, .ref ch, .int i8, .int i9]).toArray below meth c H locs 0 0 (MQ below (va_Qv (fun (u : Int32) => 0 ≤ u.toInt ∧ u.toInt ≤ R1) (fun u t => ∃ (f9 g9 : Nat → Int32), (∀ i, 0 ≤ (g9 i).toInt ∧ (g9 i).toInt ≤ 24) ∧ va_P (dC, dI) vwCl [(e1, .inr (3, [.int (nI R1), .ref t1, .ref s1, .int u])), (t1, .inl (ct1, 24 * R1, .inl f9)), (s1, .inl (cs1, R1, .inl g9)), (ch, .inl (cc9, nc, .inl fc))] t.heap ∧ va_K (dC, dI) vwCl [(ct1, .int), (cs1, .int), (cc9, .int)] t ∧ va_D A [(e1, .inr (3, [.int (nI R1), .ref t1, .ref s1, .int u])), (t1, .inl (ct1, 24 * R1, .inl f9)), (s1, .inl (cs1, R1, .inl g9)), (ch, .inl (cc9, nc, .inl fc))]) A) ([.ref e1, .ref ch, .int i8, .int i9]).toArray s 0 0 A) (F0 m 6 ls []) := by
    intro n_6
    induction n_6 with
    | zero => intro kp ii ga gb v6_0 v6_1 v6_2 hb_gb hm6; exact absurd hm6 (Nat.not_lt_zero _)
    | succ n_6 ih6 =>
      intro kp ii ga gb v6_0 v6_1 v6_2 hb_gb hm6 H locs ls hP hD hS hl
      have rg_kp := i_rng kp
      have rg_ii := i_rng ii
      refine lv_iload hx hb dX3_add_6 (lv_at hl 0 rfl) ?_
      refine lv_aload_n hx hb dX3_add_8 rfl (lv_at hl 2 rfl) ?_
      refine va_get (D := (dC, dI)) (ci := 3) (v := .int m1) (C := RX3) (T := TX3) (N := 4) hx hb hts fin_X3_add_X3 hown hK hP 0 rfl rfl 3 (by decide) (hts (.fieldLink RX3 44 "PatternGate$Need" "size" "I") (List.mem_of_getElem? (i := 1) (by decide +kernel))) (fun _ h9 => h9) rfl dX3_add_9 ?_
      refine lv_icmp_ge (tgt := 121) hx hb dX3_add_12 (by decide) (fun k_1 => ?_) (fun k_1 => ?_)
      · have tk_1 := c_ge (a := ii.toInt) (b := m1.toInt) rfl rfl k_1
        refine lv_aload_n hx hb dX3_add_121 rfl (lv_at hl 2 rfl) ?_
        refine lv_iload hx hb dX3_add_122 (lv_at hl 1 rfl) ?_
        refine va_put (D := (dC, dI)) (ci := 3) (v := .int kp) (ty := .int) (C := RX3) (T := TX3) (N := 4) hx hb hts fin_X3_add_X3 tyX3 tyX3_ok nmX3 hown hK hP hD hS 0 rfl rfl 3 (by decide) (hts (.fieldLink RX3 44 "PatternGate$Need" "size" "I") (List.mem_of_getElem? (i := 1) (by decide +kernel))) (fun _ h9 => h9) rfl (by decide +kernel) rfl rfl (Nat.le_of_ble_eq_true rfl) dX3_add_124 (fun H locs hP hD hS => ?_)
        have hP : va_P (dC, dI) vwCl [(e1, .inr (3, [.int (nI R1), .ref t1, .ref s1, .int kp])), (t1, .inl (ct1, 24 * R1, .inl ga)), (s1, .inl (cs1, R1, .inl gb)), (ch, .inl (cc9, nc, .inl fc))] H := hP
        have hD : va_D A [(e1, .inr (3, [.int (nI R1), .ref t1, .ref s1, .int kp])), (t1, .inl (ct1, 24 * R1, .inl ga)), (s1, .inl (cs1, R1, .inl gb)), (ch, .inl (cc9, nc, .inl fc))] := hD
        refine lv_aload_n hx hb dX3_add_127 rfl (lv_at hl 2 rfl) ?_
        refine va_get (D := (dC, dI)) (ci := 3) (v := .int kp) (C := RX3) (T := TX3) (N := 4) hx hb hts fin_X3_add_X3 hown hK hP 0 rfl rfl 3 (by decide) (hts (.fieldLink RX3 44 "PatternGate$Need" "size" "I") (List.mem_of_getElem? (i := 1) (by decide +kernel))) (fun _ h9 => h9) rfl dX3_add_128 ?_
        refine lv_aload_n hx hb dX3_add_131 rfl (lv_at hl 2 rfl) ?_
        refine va_get (D := (dC, dI)) (ci := 3) (v := .int (nI R1)) (C := RX3) (T := TX3) (N := 4) hx hb hts fin_X3_add_X3 hown hK hP 0 rfl rfl 0 (by decide) (hts (.fieldLink RX3 15 "PatternGate$Need" "room" "I") (List.mem_of_getElem? (i := 2) (by decide +kernel))) (fun _ h9 => h9) rfl dX3_add_132 ?_
        refine lv_icmp_ge (tgt := 187) hx hb dX3_add_135 (by decide) (fun k_2 => ?_) (fun k_2 => ?_)
        · have tk_2 := c_ge (a := kp.toInt) (b := (nI R1).toInt) rfl rfl k_2
          have hP9 := hP.sub (ws' := [(e1, .inr (3, [.int (nI R1), .ref t1, .ref s1, .int kp])), (t1, .inl (ct1, 24 * R1, .inl ga)), (s1, .inl (cs1, R1, .inl gb)), (ch, .inl (cc9, nc, .inl fc))]) [0, 1, 2, 3] rfl
          have hD9 := hD.sub (ws' := [(e1, .inr (3, [.int (nI R1), .ref t1, .ref s1, .int kp])), (t1, .inl (ct1, 24 * R1, .inl ga)), (s1, .inl (cs1, R1, .inl gb)), (ch, .inl (cc9, nc, .inl fc))]) [0, 1, 2, 3] (by decide) rfl
          have hK9 := hK.sub (tys' := [(ct1, .int), (cs1, .int), (cc9, .int)]) [0, 1, 2] rfl
          exact W.vret hx hb hr (fun t ht hW => ⟨⟨kp, rfl, by omega, ga, gb, hb_gb, by rw [ht]; exact hP9, va_K.moved hW.alike hK9, hD9⟩, hS.F ht⟩) hS.2.2 dX3_add_187
        · have tk_2 := c_nge (a := kp.toInt) (b := (nI R1).toInt) rfl rfl k_2
          refine lv_iload_n hx hb dX3_add_138 rfl (lv_at hl 5 rfl) ?_
          refine lv_iload_n hx hb dX3_add_139 rfl (lv_at hl 4 rfl) ?_
          refine lv_isub hx hb dX3_add_140 ?_
          refine lv_topi (fun y_3 ey_3 => ?_)
          first | have ty_3 := i_sub (a := i9.toInt) (b := i8.toInt) rfl rfl ey_3 (by omega) (by omega) | skip
          refine lv_bipush (v := 24) hx hb dX3_add_141 (by decide) ?_
          refine lv_icmp_gt (tgt := 187) hx hb dX3_add_143 (by decide) (fun k_4 => ?_) (fun k_4 => ?_)
          · have tk_4 := c_gt (a := y_3.toInt) (b := 24) rfl (by decide) k_4
            have hP9 := hP.sub (ws' := [(e1, .inr (3, [.int (nI R1), .ref t1, .ref s1, .int kp])), (t1, .inl (ct1, 24 * R1, .inl ga)), (s1, .inl (cs1, R1, .inl gb)), (ch, .inl (cc9, nc, .inl fc))]) [0, 1, 2, 3] rfl
            have hD9 := hD.sub (ws' := [(e1, .inr (3, [.int (nI R1), .ref t1, .ref s1, .int kp])), (t1, .inl (ct1, 24 * R1, .inl ga)), (s1, .inl (cs1, R1, .inl gb)), (ch, .inl (cc9, nc, .inl fc))]) [0, 1, 2, 3] (by decide) rfl
            have hK9 := hK.sub (tys' := [(ct1, .int), (cs1, .int), (cc9, .int)]) [0, 1, 2] rfl
            exact W.vret hx hb hr (fun t ht hW => ⟨⟨kp, rfl, by omega, ga, gb, hb_gb, by rw [ht]; exact hP9, va_K.moved hW.alike hK9, hD9⟩, hS.F ht⟩) hS.2.2 dX3_add_187
          · have tk_4 := c_ngt (a := y_3.toInt) (b := 24) rfl (by decide) k_4
            refine lv_aload_n hx hb dX3_add_146 rfl (lv_at hl 3 rfl) ?_
            refine lv_iload_n hx hb dX3_add_147 rfl (lv_at hl 4 rfl) ?_
            refine lv_aload_n hx hb dX3_add_148 rfl (lv_at hl 2 rfl) ?_
            refine va_get (D := (dC, dI)) (ci := 3) (v := .ref t1) (C := RX3) (T := TX3) (N := 4) hx hb hts fin_X3_add_X3 hown hK hP 0 rfl rfl 1 (by decide) (hts (.fieldLink RX3 21 "PatternGate$Need" "triples" "[I") (List.mem_of_getElem? (i := 3) (by decide +kernel))) (fun _ h9 => h9) rfl dX3_add_149 ?_
            refine lv_aload_n hx hb dX3_add_152 rfl (lv_at hl 2 rfl) ?_
            refine va_get (D := (dC, dI)) (ci := 3) (v := .int kp) (C := RX3) (T := TX3) (N := 4) hx hb hts fin_X3_add_X3 hown hK hP 0 rfl rfl 3 (by decide) (hts (.fieldLink RX3 44 "PatternGate$Need" "size" "I") (List.mem_of_getElem? (i := 1) (by decide +kernel))) (fun _ h9 => h9) rfl dX3_add_153 ?_
            refine lv_bipush (v := 24) hx hb dX3_add_156 (by decide) ?_
            refine lv_imul hx hb dX3_add_158 ?_
            refine lv_topi (fun y_5 ey_5 => ?_)
            first | have ty_5 := i_mul (a := kp.toInt) (b := 24) rfl (by decide) ey_5 (by omega) (by omega) | skip
            refine lv_iload_n hx hb dX3_add_159 rfl (lv_at hl 5 rfl) ?_
            refine lv_iload_n hx hb dX3_add_160 rfl (lv_at hl 4 rfl) ?_
            refine lv_isub hx hb dX3_add_161 ?_
            refine lv_topi (fun y_6 ey_6 => ?_)
            first | have ty_6 := i_sub (a := i9.toInt) (b := i8.toInt) rfl rfl ey_6 (by omega) (by omega) | skip
            refine va_copyi hx hb (hml.trans hl.1.symm) hown (hts (.methodLink RX3 38 arraycopyName) (List.mem_of_getElem? (i := 4) (by decide +kernel))) (hts (.native arraycopyName) (List.mem_of_getElem? (i := 5) (by decide +kernel))) (hts (.static arraycopyName) (List.mem_of_getElem? (i := 6) (by decide +kernel))) (hts (.initialized "java/lang/System") (List.mem_of_getElem? (i := 7) (by decide +kernel))) hK hP hD hS 3 1 2 0 rfl rfl rfl rfl rfl (i_nn (a := i8.toInt) rfl (by omega)) (i_nn (a := y_5.toInt) rfl (by omega)) (i_nn (a := y_6.toInt) rfl (by omega)) (cp_le (a := i8.toInt) (b := y_6.toInt) rfl rfl (by omega) (by omega) (by omega)) (cp_le (a := y_5.toInt) (b := y_6.toInt) rfl rfl (by omega) (by omega) (by omega)) (fun _ _ => rfl) (Nat.le_of_ble_eq_true rfl) (by decide +kernel) dX3_add_162 (fun H locs hP hD hS => ?_)
            generalize hf_f_7 : va_cpy _ _ _ _ _ = f_7 at hP hD
            have hP : va_P (dC, dI) vwCl [(e1, .inr (3, [.int (nI R1), .ref t1, .ref s1, .int kp])), (t1, .inl (ct1, 24 * R1, .inl f_7)), (s1, .inl (cs1, R1, .inl gb)), (ch, .inl (cc9, nc, .inl fc))] H := hP
            have hD : va_D A [(e1, .inr (3, [.int (nI R1), .ref t1, .ref s1, .int kp])), (t1, .inl (ct1, 24 * R1, .inl f_7)), (s1, .inl (cs1, R1, .inl gb)), (ch, .inl (cc9, nc, .inl fc))] := hD
            refine lv_aload_n hx hb dX3_add_165 rfl (lv_at hl 2 rfl) ?_
            refine va_get (D := (dC, dI)) (ci := 3) (v := .ref s1) (C := RX3) (T := TX3) (N := 4) hx hb hts fin_X3_add_X3 hown hK hP 0 rfl rfl 2 (by decide) (hts (.fieldLink RX3 25 "PatternGate$Need" "sizes" "[I") (List.mem_of_getElem? (i := 8) (by decide +kernel))) (fun _ h9 => h9) rfl dX3_add_166 ?_
            refine lv_aload_n hx hb dX3_add_169 rfl (lv_at hl 2 rfl) ?_
            refine va_get (D := (dC, dI)) (ci := 3) (v := .int kp) (C := RX3) (T := TX3) (N := 4) hx hb hts fin_X3_add_X3 hown hK hP 0 rfl rfl 3 (by decide) (hts (.fieldLink RX3 44 "PatternGate$Need" "size" "I") (List.mem_of_getElem? (i := 1) (by decide +kernel))) (fun _ h9 => h9) rfl dX3_add_170 ?_
            refine lv_iload_n hx hb dX3_add_173 rfl (lv_at hl 5 rfl) ?_
            refine lv_iload_n hx hb dX3_add_174 rfl (lv_at hl 4 rfl) ?_
            refine lv_isub hx hb dX3_add_175 ?_
            refine lv_topi (fun y_8 ey_8 => ?_)
            first | have ty_8 := i_sub (a := i9.toInt) (b := i8.toInt) rfl rfl ey_8 (by omega) (by omega) | skip
            refine va_iast hx hb hK hP hD hS 2 1 rfl rfl (i := kp) (vp_of (a := kp.toInt) rfl (by omega) (by omega)) dX3_add_176 (fun H locs hP hD hS => ?_)
            generalize hf_f_9 : upd gb _ _ = f_9 at hP hD
            have hb_f_9 : ∀ i, 0 ≤ (f_9 i).toInt ∧ (f_9 i).toInt ≤ 24 := by rw [← hf_f_9]; exact upd_bd (a := y_8.toInt) hb_gb rfl (by omega) (by omega)
            have hP : va_P (dC, dI) vwCl [(e1, .inr (3, [.int (nI R1), .ref t1, .ref s1, .int kp])), (t1, .inl (ct1, 24 * R1, .inl f_7)), (s1, .inl (cs1, R1, .inl f_9)), (ch, .inl (cc9, nc, .inl fc))] H := hP
            have hD : va_D A [(e1, .inr (3, [.int (nI R1), .ref t1, .ref s1, .int kp])), (t1, .inl (ct1, 24 * R1, .inl f_7)), (s1, .inl (cs1, R1, .inl f_9)), (ch, .inl (cc9, nc, .inl fc))] := hD
            refine lv_aload_n hx hb dX3_add_177 rfl (lv_at hl 2 rfl) ?_
            refine lv_dup hx hb dX3_add_178 rfl ?_
            refine va_get (D := (dC, dI)) (ci := 3) (v := .int kp) (C := RX3) (T := TX3) (N := 4) hx hb hts fin_X3_add_X3 hown hK hP 0 rfl rfl 3 (by decide) (hts (.fieldLink RX3 44 "PatternGate$Need" "size" "I") (List.mem_of_getElem? (i := 1) (by decide +kernel))) (fun _ h9 => h9) rfl dX3_add_179 ?_
            refine lv_iconst (v := 1) hx hb dX3_add_182 (by decide) ?_
            refine lv_iadd hx hb dX3_add_183 ?_
            refine lv_topi (fun y_10 ey_10 => ?_)
            first | have ty_10 := i_add (a := kp.toInt) (b := 1) rfl (by decide) ey_10 (by omega) (by omega) | skip
            refine va_put (D := (dC, dI)) (ci := 3) (v := .int y_10) (ty := .int) (C := RX3) (T := TX3) (N := 4) hx hb hts fin_X3_add_X3 tyX3 tyX3_ok nmX3 hown hK hP hD hS 0 rfl rfl 3 (by decide) (hts (.fieldLink RX3 44 "PatternGate$Need" "size" "I") (List.mem_of_getElem? (i := 1) (by decide +kernel))) (fun _ h9 => h9) rfl (by decide +kernel) rfl rfl (Nat.le_of_ble_eq_true rfl) dX3_add_184 (fun H locs hP hD hS => ?_)
            have hP : va_P (dC, dI) vwCl [(e1, .inr (3, [.int (nI R1), .ref t1, .ref s1, .int y_10])), (t1, .inl (ct1, 24 * R1, .inl f_7)), (s1, .inl (cs1, R1, .inl f_9)), (ch, .inl (cc9, nc, .inl fc))] H := hP
            have hD : va_D A [(e1, .inr (3, [.int (nI R1), .ref t1, .ref s1, .int y_10])), (t1, .inl (ct1, 24 * R1, .inl f_7)), (s1, .inl (cs1, R1, .inl f_9)), (ch, .inl (cc9, nc, .inl fc))] := hD
            have hP9 := hP.sub (ws' := [(e1, .inr (3, [.int (nI R1), .ref t1, .ref s1, .int y_10])), (t1, .inl (ct1, 24 * R1, .inl f_7)), (s1, .inl (cs1, R1, .inl f_9)), (ch, .inl (cc9, nc, .inl fc))]) [0, 1, 2, 3] rfl
            have hD9 := hD.sub (ws' := [(e1, .inr (3, [.int (nI R1), .ref t1, .ref s1, .int y_10])), (t1, .inl (ct1, 24 * R1, .inl f_7)), (s1, .inl (cs1, R1, .inl f_9)), (ch, .inl (cc9, nc, .inl fc))]) [0, 1, 2, 3] (by decide) rfl
            have hK9 := hK.sub (tys' := [(ct1, .int), (cs1, .int), (cc9, .int)]) [0, 1, 2] rfl
            exact W.vret hx hb hr (fun t ht hW => ⟨⟨y_10, rfl, by omega, f_7, f_9, hb_f_9, by rw [ht]; exact hP9, va_K.moved hW.alike hK9, hD9⟩, hS.F ht⟩) hS.2.2 dX3_add_187
      · have tk_1 := c_nge (a := ii.toInt) (b := m1.toInt) rfl rfl k_1
        refine lv_iload hx hb dX3_add_15 (lv_at hl 0 rfl) ?_
        refine lv_bipush (v := 24) hx hb dX3_add_17 (by decide) ?_
        refine lv_imul hx hb dX3_add_19 ?_
        refine lv_topi (fun y_11 ey_11 => ?_)
        first | have ty_11 := i_mul (a := ii.toInt) (b := 24) rfl (by decide) ey_11 (by omega) (by omega) | skip
        refine lv_istore (lv' := [(6, .int y_11), (5, .int ii), (4, .int kp), (0, .ref e1), (1, .ref ch), (2, .int i8), (3, .int i9)]) hx hb dX3_add_20 hl (by decide) rfl (fun ls hl => ?_)
        refine lv_aload_n hx hb dX3_add_22 rfl (lv_at hl 3 rfl) ?_
        refine va_get (D := (dC, dI)) (ci := 3) (v := .ref t1) (C := RX3) (T := TX3) (N := 4) hx hb hts fin_X3_add_X3 hown hK hP 0 rfl rfl 1 (by decide) (hts (.fieldLink RX3 21 "PatternGate$Need" "triples" "[I") (List.mem_of_getElem? (i := 3) (by decide +kernel))) (fun _ h9 => h9) rfl dX3_add_23 ?_
        refine lv_iload hx hb dX3_add_26 (lv_at hl 0 rfl) ?_
        refine lv_iload hx hb dX3_add_28 (lv_at hl 0 rfl) ?_
        refine lv_aload_n hx hb dX3_add_30 rfl (lv_at hl 3 rfl) ?_
        refine va_get (D := (dC, dI)) (ci := 3) (v := .ref s1) (C := RX3) (T := TX3) (N := 4) hx hb hts fin_X3_add_X3 hown hK hP 0 rfl rfl 2 (by decide) (hts (.fieldLink RX3 25 "PatternGate$Need" "sizes" "[I") (List.mem_of_getElem? (i := 8) (by decide +kernel))) (fun _ h9 => h9) rfl dX3_add_31 ?_
        refine lv_iload hx hb dX3_add_34 (lv_at hl 1 rfl) ?_
        refine va_iald hx hb hK hP 2 1 rfl rfl (i := ii) (vp_of (a := ii.toInt) rfl (by omega) (by omega)) dX3_add_36 ?_
        refine lv_topi (fun y_12 ey_12 => ?_)
        have rg_y_12 := i_rng y_12
        have by_12 : 0 ≤ y_12.toInt ∧ y_12.toInt ≤ 24 := by rw [ey_12]; exact hb_gb _
        refine lv_iadd hx hb dX3_add_37 ?_
        refine lv_topi (fun y_13 ey_13 => ?_)
        first | have ty_13 := i_add (a := y_11.toInt) (b := y_12.toInt) rfl rfl ey_13 (by omega) (by omega) | skip
        refine lv_aload_n hx hb dX3_add_38 rfl (lv_at hl 4 rfl) ?_
        refine lv_iload_n hx hb dX3_add_39 rfl (lv_at hl 5 rfl) ?_
        refine lv_iload_n hx hb dX3_add_40 rfl (lv_at hl 6 rfl) ?_
        have hPc := hP.sub (ws' := [(t1, .inl (ct1, 24 * R1, .inl ga)), (ch, .inl (cc9, nc, .inl fc))]) [1, 3] rfl
        have hKc := hK.sub (tys' := [(ct1, .int), (cc9, .int)]) [0, 2] rfl
        refine vp_callSi (W.runS (As := [.ref t1, .int y_11, .int y_13, .ref ch, .int i8, .int i9]) (rest := []) ⟨hx, hb, hml, hown, hts⟩ (s_Need_isWithin l dC dI t1 ch (24 * R1) nc ga fc ct1 cc9 y_11 y_13 i8 i9 (by first | omega | decide) (by first | omega | decide) (by first | omega | decide) (by first | omega | decide) (by first | omega | decide) (by first | omega | decide) (by first | omega | decide)) (va_cwS 6 hts mg_X3_add_X3_isWithin_50 rfl rfl rfl (by decide +kernel) ⟨Nat.le_of_ble_eq_true rfl, Nat.le_of_ble_eq_true rfl⟩) ⟨fun a U g mk q => by obtain ⟨q0, qP, qK⟩ := q; exact ⟨q0, qP, va_K.moved (u := U) (U := U.calling g mk a) (Vm.Alike.refl U.vm) qK⟩, fun U hU hW => ⟨rfl, by rw [hU]; exact hPc, va_K.moved hW.alike hKc⟩⟩ rfl rfl hl.1 rfl (lv_room (Nat.le_of_ble_eq_true rfl)) dX3_add_41 ⟨Nat.le_of_ble_eq_true rfl, Nat.le_of_ble_eq_true rfl⟩) (fun r_15 hw => ?_)
        refine lv_if_eq (tgt := 48) hx hb dX3_add_44 (by decide) (fun k_16 => ?_) (fun k_16 => ?_)
        · have tk_16 := c_eq (a := r_15.toInt) (b := 0) rfl (by decide) k_16
          refine lv_aload_n hx hb dX3_add_48 rfl (lv_at hl 4 rfl) ?_
          refine lv_iload_n hx hb dX3_add_49 rfl (lv_at hl 5 rfl) ?_
          refine lv_iload_n hx hb dX3_add_50 rfl (lv_at hl 6 rfl) ?_
          refine lv_aload_n hx hb dX3_add_51 rfl (lv_at hl 3 rfl) ?_
          refine va_get (D := (dC, dI)) (ci := 3) (v := .ref t1) (C := RX3) (T := TX3) (N := 4) hx hb hts fin_X3_add_X3 hown hK hP 0 rfl rfl 1 (by decide) (hts (.fieldLink RX3 21 "PatternGate$Need" "triples" "[I") (List.mem_of_getElem? (i := 3) (by decide +kernel))) (fun _ h9 => h9) rfl dX3_add_52 ?_
          refine lv_iload hx hb dX3_add_55 (lv_at hl 0 rfl) ?_
          refine lv_iload hx hb dX3_add_57 (lv_at hl 0 rfl) ?_
          refine lv_aload_n hx hb dX3_add_59 rfl (lv_at hl 3 rfl) ?_
          refine va_get (D := (dC, dI)) (ci := 3) (v := .ref s1) (C := RX3) (T := TX3) (N := 4) hx hb hts fin_X3_add_X3 hown hK hP 0 rfl rfl 2 (by decide) (hts (.fieldLink RX3 25 "PatternGate$Need" "sizes" "[I") (List.mem_of_getElem? (i := 8) (by decide +kernel))) (fun _ h9 => h9) rfl dX3_add_60 ?_
          refine lv_iload hx hb dX3_add_63 (lv_at hl 1 rfl) ?_
          refine va_iald hx hb hK hP 2 1 rfl rfl (i := ii) (vp_of (a := ii.toInt) rfl (by omega) (by omega)) dX3_add_65 ?_
          refine lv_topi (fun y_17 ey_17 => ?_)
          have rg_y_17 := i_rng y_17
          have by_17 : 0 ≤ y_17.toInt ∧ y_17.toInt ≤ 24 := by rw [ey_17]; exact hb_gb _
          refine lv_iadd hx hb dX3_add_66 ?_
          refine lv_topi (fun y_18 ey_18 => ?_)
          first | have ty_18 := i_add (a := y_11.toInt) (b := y_17.toInt) rfl rfl ey_18 (by omega) (by omega) | skip
          have hPc := hP.sub (ws' := [(ch, .inl (cc9, nc, .inl fc)), (t1, .inl (ct1, 24 * R1, .inl ga))]) [3, 1] rfl
          have hKc := hK.sub (tys' := [(cc9, .int), (ct1, .int)]) [2, 0] rfl
          refine vp_callSi (W.runS (As := [.ref ch, .int i8, .int i9, .ref t1, .int y_11, .int y_18]) (rest := []) ⟨hx, hb, hml, hown, hts⟩ (s_Need_isWithin l dC dI ch t1 nc (24 * R1) fc ga cc9 ct1 i8 i9 y_11 y_18 (by first | omega | decide) (by first | omega | decide) (by first | omega | decide) (by first | omega | decide) (by first | omega | decide) (by first | omega | decide) (by first | omega | decide)) (va_cwS 6 hts mg_X3_add_X3_isWithin_50 rfl rfl rfl (by decide +kernel) ⟨Nat.le_of_ble_eq_true rfl, Nat.le_of_ble_eq_true rfl⟩) ⟨fun a U g mk q => by obtain ⟨q0, qP, qK⟩ := q; exact ⟨q0, qP, va_K.moved (u := U) (U := U.calling g mk a) (Vm.Alike.refl U.vm) qK⟩, fun U hU hW => ⟨rfl, by rw [hU]; exact hPc, va_K.moved hW.alike hKc⟩⟩ rfl rfl hl.1 rfl (lv_room (Nat.le_of_ble_eq_true rfl)) dX3_add_67 ⟨Nat.le_of_ble_eq_true rfl, Nat.le_of_ble_eq_true rfl⟩) (fun r_20 hw => ?_)
          refine lv_if_ne (tgt := 115) hx hb dX3_add_70 (by decide) (fun k_21 => ?_) (fun k_21 => ?_)
          · have tk_21 := c_ne (a := r_20.toInt) (b := 0) rfl (by decide) k_21
            obtain ⟨y_22, ey_22⟩ : ∃ y : Int32, y = ii + 1 := ⟨_, rfl⟩
            first | have ty_22 := i_add (a := ii.toInt) (b := 1) rfl (by decide) ey_22 (by omega) (by omega) | skip
            refine lv_iinc (v := y_22) (lv' := [(5, .int y_22), (6, .int y_11), (4, .int kp), (0, .ref e1), (1, .ref ch), (2, .int i8), (3, .int i9)]) hx hb dX3_add_115 hl (k := 1) rfl (by rw [ey_22]; rfl) (by decide) rfl (fun ls hl => ?_)
            refine lv_goto (tgt := 6) hx hb dX3_add_118 (by decide) ?_
            exact ih6 kp y_22 ga gb (by first | omega | decide | assumption) (by first | omega | decide | assumption) (by first | omega | decide | assumption) (by first | exact hb_gb | (intro i; decide)) (by omega) _ _ ls hP hD hS (lv_sub hl [0, 2, 3, 4, 5, 6] rfl)
          · have tk_21 := c_eq (a := r_20.toInt) (b := 0) rfl (by decide) k_21
            refine lv_aload_n hx hb dX3_add_73 rfl (lv_at hl 3 rfl) ?_
            refine va_get (D := (dC, dI)) (ci := 3) (v := .ref t1) (C := RX3) (T := TX3) (N := 4) hx hb hts fin_X3_add_X3 hown hK hP 0 rfl rfl 1 (by decide) (hts (.fieldLink RX3 21 "PatternGate$Need" "triples" "[I") (List.mem_of_getElem? (i := 3) (by decide +kernel))) (fun _ h9 => h9) rfl dX3_add_74 ?_
            refine lv_iload hx hb dX3_add_77 (lv_at hl 0 rfl) ?_
            refine lv_aload_n hx hb dX3_add_79 rfl (lv_at hl 3 rfl) ?_
            refine va_get (D := (dC, dI)) (ci := 3) (v := .ref t1) (C := RX3) (T := TX3) (N := 4) hx hb hts fin_X3_add_X3 hown hK hP 0 rfl rfl 1 (by decide) (hts (.fieldLink RX3 21 "PatternGate$Need" "triples" "[I") (List.mem_of_getElem? (i := 3) (by decide +kernel))) (fun _ h9 => h9) rfl dX3_add_80 ?_
            refine lv_iload hx hb dX3_add_83 (lv_at hl 2 rfl) ?_
            refine lv_bipush (v := 24) hx hb dX3_add_85 (by decide) ?_
            refine lv_imul hx hb dX3_add_87 ?_
            refine lv_topi (fun y_23 ey_23 => ?_)
            first | have ty_23 := i_mul (a := kp.toInt) (b := 24) rfl (by decide) ey_23 (by omega) (by omega) | skip
            refine lv_aload_n hx hb dX3_add_88 rfl (lv_at hl 3 rfl) ?_
            refine va_get (D := (dC, dI)) (ci := 3) (v := .ref s1) (C := RX3) (T := TX3) (N := 4) hx hb hts fin_X3_add_X3 hown hK hP 0 rfl rfl 2 (by decide) (hts (.fieldLink RX3 25 "PatternGate$Need" "sizes" "[I") (List.mem_of_getElem? (i := 8) (by decide +kernel))) (fun _ h9 => h9) rfl dX3_add_89 ?_
            refine lv_iload hx hb dX3_add_92 (lv_at hl 1 rfl) ?_
            refine va_iald hx hb hK hP 2 1 rfl rfl (i := ii) (vp_of (a := ii.toInt) rfl (by omega) (by omega)) dX3_add_94 ?_
            refine lv_topi (fun y_24 ey_24 => ?_)
            have rg_y_24 := i_rng y_24
            have by_24 : 0 ≤ y_24.toInt ∧ y_24.toInt ≤ 24 := by rw [ey_24]; exact hb_gb _
            refine va_copyi hx hb (hml.trans hl.1.symm) hown (hts (.methodLink RX3 38 arraycopyName) (List.mem_of_getElem? (i := 4) (by decide +kernel))) (hts (.native arraycopyName) (List.mem_of_getElem? (i := 5) (by decide +kernel))) (hts (.static arraycopyName) (List.mem_of_getElem? (i := 6) (by decide +kernel))) (hts (.initialized "java/lang/System") (List.mem_of_getElem? (i := 7) (by decide +kernel))) hK hP hD hS 1 1 0 0 rfl rfl rfl rfl rfl (i_nn (a := y_11.toInt) rfl (by omega)) (i_nn (a := y_23.toInt) rfl (by omega)) (i_nn (a := y_24.toInt) rfl (by omega)) (cp_le (a := y_11.toInt) (b := y_24.toInt) rfl rfl (by omega) (by omega) (by omega)) (cp_le (a := y_23.toInt) (b := y_24.toInt) rfl rfl (by omega) (by omega) (by omega)) (fun _ _ => rfl) (Nat.le_of_ble_eq_true rfl) (by decide +kernel) dX3_add_95 (fun H locs hP hD hS => ?_)
            generalize hf_f_25 : va_cpy _ _ _ _ _ = f_25 at hP hD
            have hP : va_P (dC, dI) vwCl [(e1, .inr (3, [.int (nI R1), .ref t1, .ref s1, .int m1])), (t1, .inl (ct1, 24 * R1, .inl f_25)), (s1, .inl (cs1, R1, .inl gb)), (ch, .inl (cc9, nc, .inl fc))] H := hP
            have hD : va_D A [(e1, .inr (3, [.int (nI R1), .ref t1, .ref s1, .int m1])), (t1, .inl (ct1, 24 * R1, .inl f_25)), (s1, .inl (cs1, R1, .inl gb)), (ch, .inl (cc9, nc, .inl fc))] := hD
            refine lv_aload_n hx hb dX3_add_98 rfl (lv_at hl 3 rfl) ?_
            refine va_get (D := (dC, dI)) (ci := 3) (v := .ref s1) (C := RX3) (T := TX3) (N := 4) hx hb hts fin_X3_add_X3 hown hK hP 0 rfl rfl 2 (by decide) (hts (.fieldLink RX3 25 "PatternGate$Need" "sizes" "[I") (List.mem_of_getElem? (i := 8) (by decide +kernel))) (fun _ h9 => h9) rfl dX3_add_99 ?_
            refine lv_iload hx hb dX3_add_102 (lv_at hl 2 rfl) ?_
            refine lv_aload_n hx hb dX3_add_104 rfl (lv_at hl 3 rfl) ?_
            refine va_get (D := (dC, dI)) (ci := 3) (v := .ref s1) (C := RX3) (T := TX3) (N := 4) hx hb hts fin_X3_add_X3 hown hK hP 0 rfl rfl 2 (by decide) (hts (.fieldLink RX3 25 "PatternGate$Need" "sizes" "[I") (List.mem_of_getElem? (i := 8) (by decide +kernel))) (fun _ h9 => h9) rfl dX3_add_105 ?_
            refine lv_iload hx hb dX3_add_108 (lv_at hl 1 rfl) ?_
            refine va_iald hx hb hK hP 2 1 rfl rfl (i := ii) (vp_of (a := ii.toInt) rfl (by omega) (by omega)) dX3_add_110 ?_
            refine lv_topi (fun y_26 ey_26 => ?_)
            have rg_y_26 := i_rng y_26
            have by_26 : 0 ≤ y_26.toInt ∧ y_26.toInt ≤ 24 := by rw [ey_26]; exact hb_gb _
            refine va_iast hx hb hK hP hD hS 2 1 rfl rfl (i := kp) (vp_of (a := kp.toInt) rfl (by omega) (by omega)) dX3_add_111 (fun H locs hP hD hS => ?_)
            generalize hf_f_27 : upd gb _ _ = f_27 at hP hD
            have hb_f_27 : ∀ i, 0 ≤ (f_27 i).toInt ∧ (f_27 i).toInt ≤ 24 := by rw [← hf_f_27]; exact upd_bd (a := y_26.toInt) hb_gb rfl (by omega) (by omega)
            have hP : va_P (dC, dI) vwCl [(e1, .inr (3, [.int (nI R1), .ref t1, .ref s1, .int m1])), (t1, .inl (ct1, 24 * R1, .inl f_25)), (s1, .inl (cs1, R1, .inl f_27)), (ch, .inl (cc9, nc, .inl fc))] H := hP
            have hD : va_D A [(e1, .inr (3, [.int (nI R1), .ref t1, .ref s1, .int m1])), (t1, .inl (ct1, 24 * R1, .inl f_25)), (s1, .inl (cs1, R1, .inl f_27)), (ch, .inl (cc9, nc, .inl fc))] := hD
            obtain ⟨y_28, ey_28⟩ : ∃ y : Int32, y = kp + 1 := ⟨_, rfl⟩
            first | have ty_28 := i_add (a := kp.toInt) (b := 1) rfl (by decide) ey_28 (by omega) (by omega) | skip
            refine lv_iinc (v := y_28) (lv' := [(4, .int y_28), (6, .int y_11), (5, .int ii), (0, .ref e1), (1, .ref ch), (2, .int i8), (3, .int i9)]) hx hb dX3_add_112 hl (k := 2) rfl (by rw [ey_28]; rfl) (by decide) rfl (fun ls hl => ?_)
            obtain ⟨y_29, ey_29⟩ : ∃ y : Int32, y = ii + 1 := ⟨_, rfl⟩
            first | have ty_29 := i_add (a := ii.toInt) (b := 1) rfl (by decide) ey_29 (by omega) (by omega) | skip
            refine lv_iinc (v := y_29) (lv' := [(5, .int y_29), (4, .int y_28), (6, .int y_11), (0, .ref e1), (1, .ref ch), (2, .int i8), (3, .int i9)]) hx hb dX3_add_115 hl (k := 2) rfl (by rw [ey_29]; rfl) (by decide) rfl (fun ls hl => ?_)
            refine lv_goto (tgt := 6) hx hb dX3_add_118 (by decide) ?_
            exact ih6 y_28 y_29 f_25 f_27 (by first | omega | decide | assumption) (by first | omega | decide | assumption) (by first | omega | decide | assumption) (by first | exact hb_f_27 | (intro i; decide)) (by omega) _ _ ls hP hD hS (lv_sub hl [0, 1, 3, 4, 5, 6] rfl)
        · have tk_16 := c_ne (a := r_15.toInt) (b := 0) rfl (by decide) k_16
          have hP9 := hP.sub (ws' := [(e1, .inr (3, [.int (nI R1), .ref t1, .ref s1, .int m1])), (t1, .inl (ct1, 24 * R1, .inl ga)), (s1, .inl (cs1, R1, .inl gb)), (ch, .inl (cc9, nc, .inl fc))]) [0, 1, 2, 3] rfl
          have hD9 := hD.sub (ws' := [(e1, .inr (3, [.int (nI R1), .ref t1, .ref s1, .int m1])), (t1, .inl (ct1, 24 * R1, .inl ga)), (s1, .inl (cs1, R1, .inl gb)), (ch, .inl (cc9, nc, .inl fc))]) [0, 1, 2, 3] (by decide) rfl
          have hK9 := hK.sub (tys' := [(ct1, .int), (cs1, .int), (cc9, .int)]) [0, 1, 2] rfl
          exact W.vret hx hb hr (fun t ht hW => ⟨⟨m1, rfl, by omega, ga, gb, hb_gb, by rw [ht]; exact hP9, va_K.moved hW.alike hK9, hD9⟩, hS.F ht⟩) hS.2.2 dX3_add_47
  have lit_29 : (0 : Int32).toInt = 0 := by decide
  have lit_30 : (0 : Int32).toInt = 0 := by decide
  exact loop6 _ 0 0 ft1 fs1 (by first | omega | decide | assumption) (by first | omega | decide | assumption) (by first | omega | decide | assumption) (by first | exact hb_fs1 | (intro i; decide)) (Nat.lt_succ_self _) _ _ ls hP hD hS (lv_sub hl [0, 1, 2, 3, 4, 5] rfl)
theorem dX3_setOfRows_0 : decode cX3_setOfRows 0 = .ok (.aload_n 0, 1) := by decide +kernel
theorem dX3_setOfRows_1 : decode cX3_setOfRows 1 = .ok (.iconst 0, 1) := by decide +kernel
theorem dX3_setOfRows_2 : decode cX3_setOfRows 2 = .ok (.putfield 44, 3) := by decide +kernel
theorem dX3_setOfRows_5 : decode cX3_setOfRows 5 = .ok (.iconst 0, 1) := by decide +kernel
theorem dX3_setOfRows_6 : decode cX3_setOfRows 6 = .ok (.istore_n 3, 1) := by decide +kernel
theorem dX3_setOfRows_7 : decode cX3_setOfRows 7 = .ok (.iload_n 3, 1) := by decide +kernel
theorem dX3_setOfRows_8 : decode cX3_setOfRows 8 = .ok (.aload_n 1, 1) := by decide +kernel
theorem dX3_setOfRows_9 : decode cX3_setOfRows 9 = .ok (.invokevirtual 54, 3) := by decide +kernel
theorem dX3_setOfRows_12 : decode cX3_setOfRows 12 = .ok (.if_icmp .ge 93, 3) := by decide +kernel
theorem dX3_setOfRows_15 : decode cX3_setOfRows 15 = .ok (.aload_n 1, 1) := by decide +kernel
theorem dX3_setOfRows_16 : decode cX3_setOfRows 16 = .ok (.iload_n 3, 1) := by decide +kernel
theorem dX3_setOfRows_17 : decode cX3_setOfRows 17 = .ok (.invokevirtual 59, 3) := by decide +kernel
theorem dX3_setOfRows_20 : decode cX3_setOfRows 20 = .ok (.lstore 4, 2) := by decide +kernel
theorem dX3_setOfRows_22 : decode cX3_setOfRows 22 = .ok (.iconst 0, 1) := by decide +kernel
theorem dX3_setOfRows_23 : decode cX3_setOfRows 23 = .ok (.istore 6, 2) := by decide +kernel
theorem dX3_setOfRows_25 : decode cX3_setOfRows 25 = .ok (.iconst 0, 1) := by decide +kernel
theorem dX3_setOfRows_26 : decode cX3_setOfRows 26 = .ok (.istore 7, 2) := by decide +kernel
theorem dX3_setOfRows_28 : decode cX3_setOfRows 28 = .ok (.iload 7, 2) := by decide +kernel
theorem dX3_setOfRows_30 : decode cX3_setOfRows 30 = .ok (.iconst 2, 1) := by decide +kernel
theorem dX3_setOfRows_31 : decode cX3_setOfRows 31 = .ok (.iadd, 1) := by decide +kernel
theorem dX3_setOfRows_32 : decode cX3_setOfRows 32 = .ok (.lload 4, 2) := by decide +kernel
theorem dX3_setOfRows_34 : decode cX3_setOfRows 34 = .ok (.invokestatic 63, 3) := by decide +kernel
theorem dX3_setOfRows_37 : decode cX3_setOfRows 37 = .ok (.if_icmp .ge 54, 3) := by decide +kernel
theorem dX3_setOfRows_40 : decode cX3_setOfRows 40 = .ok (.lload 4, 2) := by decide +kernel
theorem dX3_setOfRows_42 : decode cX3_setOfRows 42 = .ok (.iload 7, 2) := by decide +kernel
theorem dX3_setOfRows_44 : decode cX3_setOfRows 44 = .ok (.invokestatic 67, 3) := by decide +kernel
theorem dX3_setOfRows_47 : decode cX3_setOfRows 47 = .ok (.bipush 26, 2) := by decide +kernel
theorem dX3_setOfRows_49 : decode cX3_setOfRows 49 = .ok (.imul, 1) := by decide +kernel
theorem dX3_setOfRows_50 : decode cX3_setOfRows 50 = .ok (.lload 4, 2) := by decide +kernel
theorem dX3_setOfRows_52 : decode cX3_setOfRows 52 = .ok (.iload 7, 2) := by decide +kernel
theorem dX3_setOfRows_54 : decode cX3_setOfRows 54 = .ok (.iconst 1, 1) := by decide +kernel
theorem dX3_setOfRows_55 : decode cX3_setOfRows 55 = .ok (.iadd, 1) := by decide +kernel
theorem dX3_setOfRows_56 : decode cX3_setOfRows 56 = .ok (.invokestatic 67, 3) := by decide +kernel
theorem dX3_setOfRows_59 : decode cX3_setOfRows 59 = .ok (.iadd, 1) := by decide +kernel
theorem dX3_setOfRows_60 : decode cX3_setOfRows 60 = .ok (.istore 8, 2) := by decide +kernel
theorem dX3_setOfRows_62 : decode cX3_setOfRows 62 = .ok (.aload_n 2, 1) := by decide +kernel
theorem dX3_setOfRows_63 : decode cX3_setOfRows 63 = .ok (.iload 6, 2) := by decide +kernel
theorem dX3_setOfRows_65 : decode cX3_setOfRows 65 = .ok (.iload 8, 2) := by decide +kernel
theorem dX3_setOfRows_67 : decode cX3_setOfRows 67 = .ok (.bipush 26, 2) := by decide +kernel
theorem dX3_setOfRows_69 : decode cX3_setOfRows 69 = .ok (.imul, 1) := by decide +kernel
theorem dX3_setOfRows_70 : decode cX3_setOfRows 70 = .ok (.lload 4, 2) := by decide +kernel
theorem dX3_setOfRows_72 : decode cX3_setOfRows 72 = .ok (.iload 7, 2) := by decide +kernel
theorem dX3_setOfRows_74 : decode cX3_setOfRows 74 = .ok (.iconst 2, 1) := by decide +kernel
theorem dX3_setOfRows_75 : decode cX3_setOfRows 75 = .ok (.iadd, 1) := by decide +kernel
theorem dX3_setOfRows_76 : decode cX3_setOfRows 76 = .ok (.invokestatic 67, 3) := by decide +kernel
theorem dX3_setOfRows_79 : decode cX3_setOfRows 79 = .ok (.iadd, 1) := by decide +kernel
theorem dX3_setOfRows_80 : decode cX3_setOfRows 80 = .ok (.invokestatic 28, 3) := by decide +kernel
theorem dX3_setOfRows_83 : decode cX3_setOfRows 83 = .ok (.istore 6, 2) := by decide +kernel
theorem dX3_setOfRows_85 : decode cX3_setOfRows 85 = .ok (.iinc 7 1, 3) := by decide +kernel
theorem dX3_setOfRows_88 : decode cX3_setOfRows 88 = .ok (.goto (-60), 3) := by decide +kernel
theorem dX3_setOfRows_91 : decode cX3_setOfRows 91 = .ok (.aload_n 0, 1) := by decide +kernel
theorem dX3_setOfRows_92 : decode cX3_setOfRows 92 = .ok (.aload_n 2, 1) := by decide +kernel
theorem dX3_setOfRows_93 : decode cX3_setOfRows 93 = .ok (.iconst 0, 1) := by decide +kernel
theorem dX3_setOfRows_94 : decode cX3_setOfRows 94 = .ok (.iload 6, 2) := by decide +kernel
theorem dX3_setOfRows_96 : decode cX3_setOfRows 96 = .ok (.invokevirtual 71, 3) := by decide +kernel
theorem dX3_setOfRows_99 : decode cX3_setOfRows 99 = .ok (.iinc 3 1, 3) := by decide +kernel
theorem dX3_setOfRows_102 : decode cX3_setOfRows 102 = .ok (.goto (-95), 3) := by decide +kernel
theorem dX3_setOfRows_105 : decode cX3_setOfRows 105 = .ok (.return_, 1) := by decide +kernel
def mwX3_setOfRows : List Cond := .code yX3_setOfRows cX3_setOfRows 9 none :: ([.fieldLink RX3 44 "PatternGate$Need" "size" "I", .code yX7_size cX7_size 1 (some .int), .fieldLink RX7 28 "PatternGate$Rows" "size" "I", .methodLink RX3 54 yX7_size, .instanceMethod yX7_size, .selects RX7 yX7_size yX7_size, .initialized RX7, .code yX7_rowAt cX7_rowAt 2 (some .long), .fieldLink RX7 11 "PatternGate$Rows" "row" "[J", .methodLink RX3 59 yX7_rowAt, .instanceMethod yX7_rowAt, .selects RX7 yX7_rowAt yX7_rowAt, .code yX7_lettersOf cX7_lettersOf 2 (some .int), .code yJ13_numberOfTrailingZeros_95d88 cJ13_numberOfTrailingZeros_95d88 3 (some .int), .code yJ6_numberOfTrailingZeros_0f7a4 cJ6_numberOfTrailingZeros_0f7a4 2 (some .int), .constant RJ6 264 (65536), .methodLink RJ13 311 yJ6_numberOfTrailingZeros_0f7a4, .static yJ6_numberOfTrailingZeros_0f7a4, .initialized RJ6, .methodLink RX7 15 yJ13_numberOfTrailingZeros_95d88, .static yJ13_numberOfTrailingZeros_95d88, .initialized RJ13, .methodLink RX3 63 yX7_lettersOf, .static yX7_lettersOf, .code yX3_add cX3_add 7 none, .fieldLink RX3 15 "PatternGate$Need" "room" "I", .fieldLink RX3 21 "PatternGate$Need" "triples" "[I", .methodLink RX3 38 arraycopyName, .native arraycopyName, .static arraycopyName, .initialized "java/lang/System", .fieldLink RX3 25 "PatternGate$Need" "sizes" "[I", .code yX3_isWithin cX3_isWithin 8 (some .boolean), .methodLink RX3 50 yX3_isWithin, .static yX3_isWithin, .initialized RX3, .methodLink RX3 71 yX3_add, .instanceMethod yX3_add, .selects RX3 yX3_add yX3_add, .code yX7_letterOf cX7_letterOf 3 (some .int), .constantLong RX7 21 (31), .methodLink RX3 67 yX7_letterOf, .static yX7_letterOf, .code yX3_insert cX3_insert 4 (some .int), .methodLink RX3 28 yX3_insert, .static yX3_insert] ++ wsX30 ++ wsX70)
theorem fin_X3_setOfRows_X3 : ∀ w ∈ wsX30, w ∈ mwX3_setOfRows := fun w h => List.mem_cons_of_mem _ (List.mem_append_left _ (List.mem_append_right _ h))
set_option maxRecDepth 20000 in
theorem mg_X3_setOfRows_X7_size_54 : GoodIn mwX3_setOfRows (wsV RX3 54 RX7 yX7_size mwX7_size) := goodIn_r _ [4, 5, 6, 7, 2, 3, 51, 52] (by decide +kernel) (by decide +kernel)
set_option maxRecDepth 20000 in
theorem mg_X3_setOfRows_X7_rowAt_59 : GoodIn mwX3_setOfRows (wsV RX3 59 RX7 yX7_rowAt mwX7_rowAt) := goodIn_r _ [10, 11, 12, 7, 8, 3, 9, 51, 52] (by decide +kernel) (by decide +kernel)
set_option maxRecDepth 20000 in
theorem mg_X3_setOfRows_X7_lettersOf_63 : GoodIn mwX3_setOfRows (va_wsS RX3 63 yX7_lettersOf mwX7_lettersOf) := goodIn_r _ [23, 24, 7, 13, 14, 15, 16, 17, 18, 19, 20, 21, 22] (by decide +kernel) (by decide +kernel)
set_option maxRecDepth 20000 in
theorem mg_X3_setOfRows_X3_add_71 : GoodIn mwX3_setOfRows (wsV RX3 71 RX3 yX3_add mwX3_add) := goodIn_r _ [37, 38, 39, 36, 25, 1, 26, 27, 28, 29, 30, 31, 32, 33, 34, 35, 36, 47, 48, 49, 50] (by decide +kernel) (by decide +kernel)
set_option maxRecDepth 20000 in
theorem mg_X3_setOfRows_X7_letterOf_67 : GoodIn mwX3_setOfRows (va_wsS RX3 67 yX7_letterOf mwX7_letterOf) := goodIn_r _ [42, 43, 7, 40, 41] (by decide +kernel) (by decide +kernel)
set_option maxRecDepth 20000 in
theorem mg_X3_setOfRows_X3_insert_28 : GoodIn mwX3_setOfRows (va_wsS RX3 28 yX3_insert mwX3_insert) := goodIn_r _ [45, 46, 36, 44, 28, 29, 30, 31] (by decide +kernel) (by decide +kernel)
set_option maxHeartbeats 4000000 in
set_option maxRecDepth 100000 in
/-- Need.setOfRows -/
theorem s_Need_setOfRows (l : Launch) (dC : Nat → ClassId) (dI : Nat → Nat → Nat) (e1 t1 s1 R1 : Nat) (ct1 cs1 : ClassId) (ft1 fs1 : Nat → Int32) (m1 : Int32) (ch : Nat) (cc9 : ClassId) (fc : Nat → Int32) (o2 r2 : Nat) (c2 : ClassId) (f2 : Nat → Int64) (n2 : Int32) (sz : Nat) (hR1 : 1 ≤ R1) (hU1 : R1 ≤ 144) (hc1 : 0 ≤ m1.toInt) (hd1 : m1.toInt ≤ R1) (hb_fs1 : ∀ i, 0 ≤ (fs1 i).toInt ∧ (fs1 i).toInt ≤ 24) (ha2 : 0 ≤ n2.toInt) (hb2 : n2.toInt ≤ 6) : Met l yX3_setOfRows mwX3_setOfRows ({ frames := 3, cells := 0, slots := 0, locals := 180 }) (va_Pc [.ref e1, .ref o2, .ref ch] (fun U => U.heap.size = sz ∧ va_P (dC, dI) vwCl ([(e1, .inr (3, [.int (nI R1), .ref t1, .ref s1, .int m1])), (t1, .inl (ct1, 24 * R1, .inl ft1)), (s1, .inl (cs1, R1, .inl fs1)), (ch, .inl (cc9, 24, .inl fc)), (o2, .inr (7, [.ref r2, .int n2])), (r2, .inl (c2, 6, .inr (.inl f2)))]) U.heap ∧ va_K (dC, dI) vwCl ([(ct1, .int), (cs1, .int), (cc9, .int), (c2, .long)]) U ∧ va_D (fun _ => True) ([(e1, .inr (3, [.int (nI R1), .ref t1, .ref s1, .int m1])), (t1, .inl (ct1, 24 * R1, .inl ft1)), (s1, .inl (cs1, R1, .inl fs1)), (ch, .inl (cc9, 24, .inl fc)), (o2, .inr (7, [.ref r2, .int n2])), (r2, .inl (c2, 6, .inr (.inl f2)))]))) (va_Qv (fun (u : Int32) => 0 ≤ u.toInt ∧ u.toInt ≤ R1) (fun u t => ∃ (f9 g9 h9 : Nat → Int32), (∀ i, 0 ≤ (g9 i).toInt ∧ (g9 i).toInt ≤ 24) ∧ va_P (dC, dI) vwCl [(e1, .inr (3, [.int (nI R1), .ref t1, .ref s1, .int u])), (t1, .inl (ct1, 24 * R1, .inl f9)), (s1, .inl (cs1, R1, .inl g9)), (ch, .inl (cc9, 24, .inl h9)), (o2, .inr (7, [.ref r2, .int n2])), (r2, .inl (c2, 6, .inr (.inl f2)))] t.heap ∧ va_K (dC, dI) vwCl [(ct1, .int), (cs1, .int), (cc9, .int), (c2, .long)] t ∧ va_D (va_A ([(e1, .inr (3, [.int (nI R1), .ref t1, .ref s1, .int m1])), (t1, .inl (ct1, 24 * R1, .inl ft1)), (s1, .inl (cs1, R1, .inl fs1)), (ch, .inl (cc9, 24, .inl fc)), (o2, .inr (7, [.ref r2, .int n2])), (r2, .inl (c2, 6, .inr (.inl f2)))]) sz) [(e1, .inr (3, [.int (nI R1), .ref t1, .ref s1, .int u])), (t1, .inl (ct1, 24 * R1, .inl f9)), (s1, .inl (cs1, R1, .inl g9)), (ch, .inl (cc9, 24, .inl h9)), (o2, .inr (7, [.ref r2, .int n2])), (r2, .inl (c2, 6, .inr (.inl f2)))]) (va_A ([(e1, .inr (3, [.int (nI R1), .ref t1, .ref s1, .int m1])), (t1, .inl (ct1, 24 * R1, .inl ft1)), (s1, .inl (cs1, R1, .inl fs1)), (ch, .inl (cc9, 24, .inl fc)), (o2, .inr (7, [.ref r2, .int n2])), (r2, .inl (c2, 6, .inr (.inl f2)))]) sz)) 0 0 (va_A ([(e1, .inr (3, [.int (nI R1), .ref t1, .ref s1, .int m1])), (t1, .inl (ct1, 24 * R1, .inl ft1)), (s1, .inl (cs1, R1, .inl fs1)), (ch, .inl (cc9, 24, .inl fc)), (o2, .inr (7, [.ref r2, .int n2])), (r2, .inl (c2, 6, .inr (.inl f2)))]) sz) := by
  refine Met.ofW (cc := cX3_setOfRows) (maxL := 9) (ret := none) (by decide +kernel) rfl ?_
  intro p e s m args below meth c s₁ B hml hv
  obtain ⟨rfl, hsz, hP, hK, hD0⟩ := hv
  have hx := B.exec
  have hb := B.bytes
  have hr := B.returns
  have hts := atoms_spec (ws := mwX3_setOfRows) B.pre
  have hown : s.vm.findClass RX3 = some m.cls := findClass_of_methodNamed B.named
  have hlocks := B.notSynchronized
  subst hsz
  have hD := hD0.self (sz := s.heap.size)
  generalize hAe : va_A ([(e1, .inr (3, [.int (nI R1), .ref t1, .ref s1, .int m1])), (t1, .inl (ct1, 24 * R1, .inl ft1)), (s1, .inl (cs1, R1, .inl fs1)), (ch, .inl (cc9, 24, .inl fc)), (o2, .inr (7, [.ref r2, .int n2])), (r2, .inl (c2, 6, .inr (.inl f2)))]) s.heap.size = A at hD ⊢
  have hA : ∀ q : Nat, s.heap.size ≤ q → A q := fun q h => by rw [← hAe]; exact Or.inr h
  have hP : va_P (dC, dI) vwCl [(e1, .inr (3, [.int (nI R1), .ref t1, .ref s1, .int m1])), (t1, .inl (ct1, 24 * R1, .inl ft1)), (s1, .inl (cs1, R1, .inl fs1)), (ch, .inl (cc9, 24, .inl fc)), (o2, .inr (7, [.ref r2, .int n2])), (r2, .inl (c2, 6, .inr (.inl f2)))] s.heap := hP
  have hD : va_D A [(e1, .inr (3, [.int (nI R1), .ref t1, .ref s1, .int m1])), (t1, .inl (ct1, 24 * R1, .inl ft1)), (s1, .inl (cs1, R1, .inl fs1)), (ch, .inl (cc9, 24, .inl fc)), (o2, .inr (7, [.ref r2, .int n2])), (r2, .inl (c2, 6, .inr (.inl f2)))] := hD
  have hK : va_K (dC, dI) vwCl [(ct1, .int), (cs1, .int), (cc9, .int), (c2, .long)] s := hK
  generalize hH : s.heap = H at hP ⊢
  have hS : va_S A s.heap H [] := by rw [← hH]; exact va_S.rf
  have hl := lv_entry ([.ref e1, .ref o2, .ref ch]) (n := 9) (Nat.le_of_ble_eq_true rfl)
  rw [lg_entry_eq]
  generalize (lg_sl ([.ref e1, .ref o2, .ref ch]) ++ List.replicate (9 - (lg_sl ([.ref e1, .ref o2, .ref ch])).length) Slot.unset).toArray = ls at hl ⊢
  have hl : lv_has ls 9 [(0, .ref e1), (1, .ref o2), (2, .ref ch)] := hl
  have tr1 : (nI R1).toInt = (R1 : Int) := nI_toInt (by omega)
  have rm1 := i_rng m1
  refine lv_aload_n hx hb dX3_setOfRows_0 rfl (lv_at hl 0 rfl) ?_
  refine lv_iconst (v := 0) hx hb dX3_setOfRows_1 (by decide) ?_
  refine va_put (D := (dC, dI)) (ci := 3) (v := .int 0) (ty := .int) (C := RX3) (T := TX3) (N := 4) hx hb hts fin_X3_setOfRows_X3 tyX3 tyX3_ok nmX3 hown hK hP hD hS 0 rfl rfl 3 (by decide) (hts (.fieldLink RX3 44 "PatternGate$Need" "size" "I") (List.mem_of_getElem? (i := 1) (by decide +kernel))) (fun _ h9 => h9) rfl (by decide +kernel) rfl rfl (Nat.le_of_ble_eq_true rfl) dX3_setOfRows_2 (fun H locs hP hD hS => ?_)
  have hP : va_P (dC, dI) vwCl [(e1, .inr (3, [.int (nI R1), .ref t1, .ref s1, .int 0])), (t1, .inl (ct1, 24 * R1, .inl ft1)), (s1, .inl (cs1, R1, .inl fs1)), (ch, .inl (cc9, 24, .inl fc)), (o2, .inr (7, [.ref r2, .int n2])), (r2, .inl (c2, 6, .inr (.inl f2)))] H := hP
  have hD : va_D A [(e1, .inr (3, [.int (nI R1), .ref t1, .ref s1, .int 0])), (t1, .inl (ct1, 24 * R1, .inl ft1)), (s1, .inl (cs1, R1, .inl fs1)), (ch, .inl (cc9, 24, .inl fc)), (o2, .inr (7, [.ref r2, .int n2])), (r2, .inl (c2, 6, .inr (.inl f2)))] := hD
  refine lv_iconst (v := 0) hx hb dX3_setOfRows_5 (by decide) ?_
  refine lv_istore_n (lv' := [(3, .int 0), (0, .ref e1), (1, .ref o2), (2, .ref ch)]) hx hb dX3_setOfRows_6 rfl hl (by decide) rfl (fun ls hl => ?_)
  have loop7 : ∀ (n_7 : Nat) (ii za : Int32) (ga : Nat → Int32) (gb : Nat → Int32) (gc : Nat → Int32), (0 ≤ ii.toInt) → (0 ≤ za.toInt) → (za.toInt ≤ R1) → (∀ i, 0 ≤ (gb i).toInt ∧ (gb i).toInt ≤ 24) → ((n2.toInt - ii.toInt).toNat) < n_7 → ∀ (H : Heap) (locs : List Loc) (ls : Array Slot), va_P (dC, dI) vwCl [(e1, .inr (3, [.int (nI R1), .ref t1, .ref s1, .int za])), (t1, .inl (ct1, 24 * R1, .inl ga)), (s1, .inl (cs1, R1, .inl gb)), (ch, .inl (cc9, 24, .inl gc)), (o2, .inr (7, [.ref r2, .int n2])), (r2, .inl (c2, 6, .inr (.inl f2)))] H → va_D A [(e1, .inr (3, [.int (nI R1), .ref t1, .ref s1, .int za])), (t1, .inl (ct1, 24 * R1, .inl ga)), (s1, .inl (cs1, R1, .inl gb)), (ch, .inl (cc9, 24, .inl gc)), (o2, .inr (7, [.ref r2, .int n2])), (r2, .inl (c2, 6, .inr (.inl f2)))] → va_S A s.heap H locs → lv_has ls 9 [(3, .int ii), (0, .ref e1), (1, .ref o2), (2, .ref ch)] → W p l e (headSpec mwX3_setOfRows ({ frames := 3, cells := 0, slots := 0, locals := 180 })).room s m ([.ref e1, .ref o2, .ref ch]).toArray below meth c H locs 0 0 (MQ below (va_Qv (fun (u : Int32) => 0 ≤ u.toInt ∧ u.toInt ≤ R1) (fun u t => ∃ (f9 g9 h9 : Nat → Int32), (∀ i, 0 ≤ (g9 i).toInt ∧ (g9 i).toInt ≤ 24) ∧ va_P (dC, dI) vwCl [(e1, .inr (3, [.int (nI R1), .ref t1, .ref s1, .int u])), (t1, .inl (ct1, 24 * R1, .inl f9)), (s1, .inl (cs1, R1, .inl g9)), (ch, .inl (cc9, 24, .inl h9)), (o2, .inr (7, [.ref r2, .int n2])), (r2, .inl (c2, 6, .inr (.inl f2)))] t.heap ∧ va_K (dC, dI) vwCl [(ct1, .int), (cs1, .int), (cc9, .int), (c2, .long)] t ∧ va_D A [(e1, .inr (3, [.int (nI R1), .ref t1, .ref s1, .int u])), (t1, .inl (ct1, 24 * R1, .inl f9)), (s1, .inl (cs1, R1, .inl g9)), (ch, .inl (cc9, 24, .inl h9)), (o2, .inr (7, [.ref r2, .int n2])), (r2, .inl (c2, 6, .inr (.inl f2)))]) A) ([.ref e1, .ref o2, .ref ch]).toArray s 0 0 A) (F0 m 7 ls []) := by
    intro n_7
    induction n_7 with
    | zero => intro ii za ga gb gc v7_0 v7_1 v7_2 hb_gb hm7; exact absurd hm7 (Nat.not_lt_zero _)
    | succ n_7 ih7 =>
      intro ii za ga gb gc v7_0 v7_1 v7_2 hb_gb hm7 H locs ls hP hD hS hl
      have rg_ii := i_rng ii
      have rg_za := i_rng za
      refine lv_iload_n hx hb dX3_setOfRows_7 rfl (lv_at hl 0 rfl) ?_
      refine lv_aload_n hx hb dX3_setOfRows_8 rfl (lv_at hl 2 rfl) ?_
      have hPc := hP.sub (ws' := [(o2, .inr (7, [.ref r2, .int n2])), (r2, .inl (c2, 6, .inr (.inl f2)))]) [4, 5] rfl
      have hKc := hK.sub (tys' := [(c2, .long)]) [3] rfl
      refine vp_callSi (W.runV (As := []) (rest := [.int ii]) ⟨hx, hb, hml, hown, hts⟩ (s_Rows_size l dC dI o2 r2 c2 f2 n2 (by first | omega | decide) (by first | omega | decide)) (cwV 0 hts mg_X3_setOfRows_X7_size_54 rfl rfl rfl (by decide +kernel) ⟨Nat.le_of_ble_eq_true rfl, Nat.le_of_ble_eq_true rfl⟩) ⟨fun a U g mk q => by obtain ⟨q0, qP, qK⟩ := q; exact ⟨q0, qP, va_K.moved (u := U) (U := U.calling g mk a) (Vm.Alike.refl U.vm) qK⟩, va_recv hKc hPc (ci := 7) (q0 := 0) rfl rfl, fun U hU hW => ⟨rfl, by rw [hU]; exact hPc, va_K.moved hW.alike hKc⟩⟩ rfl rfl hl.1 rfl (lv_room (Nat.le_of_ble_eq_true rfl)) dX3_setOfRows_9 ⟨Nat.le_of_ble_eq_true rfl, Nat.le_of_ble_eq_true rfl⟩) (fun r_2 hw => ?_)
      rw [hw]
      refine lv_icmp_ge (tgt := 105) hx hb dX3_setOfRows_12 (by decide) (fun k_3 => ?_) (fun k_3 => ?_)
      · have tk_3 := c_ge (a := ii.toInt) (b := n2.toInt) rfl rfl k_3
        have hP9 := hP.sub (ws' := [(e1, .inr (3, [.int (nI R1), .ref t1, .ref s1, .int za])), (t1, .inl (ct1, 24 * R1, .inl ga)), (s1, .inl (cs1, R1, .inl gb)), (ch, .inl (cc9, 24, .inl gc)), (o2, .inr (7, [.ref r2, .int n2])), (r2, .inl (c2, 6, .inr (.inl f2)))]) [0, 1, 2, 3, 4, 5] rfl
        have hD9 := hD.sub (ws' := [(e1, .inr (3, [.int (nI R1), .ref t1, .ref s1, .int za])), (t1, .inl (ct1, 24 * R1, .inl ga)), (s1, .inl (cs1, R1, .inl gb)), (ch, .inl (cc9, 24, .inl gc)), (o2, .inr (7, [.ref r2, .int n2])), (r2, .inl (c2, 6, .inr (.inl f2)))]) [0, 1, 2, 3, 4, 5] (by decide) rfl
        have hK9 := hK.sub (tys' := [(ct1, .int), (cs1, .int), (cc9, .int), (c2, .long)]) [0, 1, 2, 3] rfl
        exact W.vret hx hb hr (fun t ht hW => ⟨⟨za, rfl, by omega, ga, gb, gc, hb_gb, by rw [ht]; exact hP9, va_K.moved hW.alike hK9, hD9⟩, hS.F ht⟩) hS.2.2 dX3_setOfRows_105
      · have tk_3 := c_nge (a := ii.toInt) (b := n2.toInt) rfl rfl k_3
        refine lv_aload_n hx hb dX3_setOfRows_15 rfl (lv_at hl 2 rfl) ?_
        refine lv_iload_n hx hb dX3_setOfRows_16 rfl (lv_at hl 0 rfl) ?_
        have hPc := hP.sub (ws' := [(o2, .inr (7, [.ref r2, .int n2])), (r2, .inl (c2, 6, .inr (.inl f2)))]) [4, 5] rfl
        have hKc := hK.sub (tys' := [(c2, .long)]) [3] rfl
        refine vp_callSl (W.runV (As := [.int ii]) (rest := []) ⟨hx, hb, hml, hown, hts⟩ (s_Rows_rowAt l dC dI o2 r2 c2 f2 n2 ii (by first | omega | decide) (by first | omega | decide)) (cwV 1 hts mg_X3_setOfRows_X7_rowAt_59 rfl rfl rfl (by decide +kernel) ⟨Nat.le_of_ble_eq_true rfl, Nat.le_of_ble_eq_true rfl⟩) ⟨fun a U g mk q => by obtain ⟨q0, qP, qK⟩ := q; exact ⟨q0, qP, va_K.moved (u := U) (U := U.calling g mk a) (Vm.Alike.refl U.vm) qK⟩, va_recv hKc hPc (ci := 7) (q0 := 0) rfl rfl, fun U hU hW => ⟨rfl, by rw [hU]; exact hPc, va_K.moved hW.alike hKc⟩⟩ rfl rfl hl.1 rfl (lv_room (Nat.le_of_ble_eq_true rfl)) dX3_setOfRows_17 ⟨Nat.le_of_ble_eq_true rfl, Nat.le_of_ble_eq_true rfl⟩) (fun r_5 hw => ?_)
        refine lv_lstore (lv' := [(4, .long r_5), (3, .int ii), (0, .ref e1), (1, .ref o2), (2, .ref ch)]) hx hb dX3_setOfRows_20 hl (by decide) rfl (fun ls hl => ?_)
        refine lv_iconst (v := 0) hx hb dX3_setOfRows_22 (by decide) ?_
        refine lv_istore (lv' := [(6, .int 0), (4, .long r_5), (3, .int ii), (0, .ref e1), (1, .ref o2), (2, .ref ch)]) hx hb dX3_setOfRows_23 hl (by decide) rfl (fun ls hl => ?_)
        refine lv_iconst (v := 0) hx hb dX3_setOfRows_25 (by decide) ?_
        refine lv_istore (lv' := [(7, .int 0), (6, .int 0), (4, .long r_5), (3, .int ii), (0, .ref e1), (1, .ref o2), (2, .ref ch)]) hx hb dX3_setOfRows_26 hl (by decide) rfl (fun ls hl => ?_)
        have loop28 : ∀ (n_28 : Nat) (mn kk : Int32) (gd : Nat → Int32), (0 ≤ kk.toInt) → (kk.toInt ≤ 8) → (0 ≤ mn.toInt) → (mn.toInt ≤ 24) → ((10 - kk.toInt).toNat) < n_28 → ∀ (H : Heap) (locs : List Loc) (ls : Array Slot), va_P (dC, dI) vwCl [(e1, .inr (3, [.int (nI R1), .ref t1, .ref s1, .int za])), (t1, .inl (ct1, 24 * R1, .inl ga)), (s1, .inl (cs1, R1, .inl gb)), (ch, .inl (cc9, 24, .inl gd)), (o2, .inr (7, [.ref r2, .int n2])), (r2, .inl (c2, 6, .inr (.inl f2)))] H → va_D A [(e1, .inr (3, [.int (nI R1), .ref t1, .ref s1, .int za])), (t1, .inl (ct1, 24 * R1, .inl ga)), (s1, .inl (cs1, R1, .inl gb)), (ch, .inl (cc9, 24, .inl gd)), (o2, .inr (7, [.ref r2, .int n2])), (r2, .inl (c2, 6, .inr (.inl f2)))] → va_S A s.heap H locs → lv_has ls 9 [(7, .int kk), (6, .int mn), (4, .long r_5), (3, .int ii), (0, .ref e1), (1, .ref o2), (2, .ref ch)] → W p l e (headSpec mwX3_setOfRows ({ frames := 3, cells := 0, slots := 0, locals := 180 })).room s m ([.ref e1, .ref o2, .ref ch]).toArray below meth c H locs 0 0 (MQ below (va_Qv (fun (u : Int32) => 0 ≤ u.toInt ∧ u.toInt ≤ R1) (fun u t => ∃ (f9 g9 h9 : Nat → Int32), (∀ i, 0 ≤ (g9 i).toInt ∧ (g9 i).toInt ≤ 24) ∧ va_P (dC, dI) vwCl [(e1, .inr (3, [.int (nI R1), .ref t1, .ref s1, .int u])), (t1, .inl (ct1, 24 * R1, .inl f9)), (s1, .inl (cs1, R1, .inl g9)), (ch, .inl (cc9, 24, .inl h9)), (o2, .inr (7, [.ref r2, .int n2])), (r2, .inl (c2, 6, .inr (.inl f2)))] t.heap ∧ va_K (dC, dI) vwCl [(ct1, .int), (cs1, .int), (cc9, .int), (c2, .long)] t ∧ va_D A [(e1, .inr (3, [.int (nI R1), .ref t1, .ref s1, .int u])), (t1, .inl (ct1, 24 * R1, .inl f9)), (s1, .inl (cs1, R1, .inl g9)), (ch, .inl (cc9, 24, .inl h9)), (o2, .inr (7, [.ref r2, .int n2])), (r2, .inl (c2, 6, .inr (.inl f2)))]) A) ([.ref e1, .ref o2, .ref ch]).toArray s 0 0 A) (F0 m 28 ls []) := by
          intro n_28
          induction n_28 with
          | zero => intro mn kk gd v28_0 v28_1 v28_2 v28_3 hm28; exact absurd hm28 (Nat.not_lt_zero _)
          | succ n_28 ih28 =>
            intro mn kk gd v28_0 v28_1 v28_2 v28_3 hm28 H locs ls hP hD hS hl
            have rg_mn := i_rng mn
            have rg_kk := i_rng kk
            refine lv_iload hx hb dX3_setOfRows_28 (lv_at hl 0 rfl) ?_
            refine lv_iconst (v := 2) hx hb dX3_setOfRows_30 (by decide) ?_
            refine lv_iadd hx hb dX3_setOfRows_31 ?_
            refine lv_topi (fun y_6 ey_6 => ?_)
            first | have ty_6 := i_add (a := kk.toInt) (b := 2) rfl (by decide) ey_6 (by omega) (by omega) | skip
            refine lv_lload hx hb dX3_setOfRows_32 (lv_at hl 2 rfl) ?_
            refine vp_callSi (W.runS (As := [.long r_5]) (rest := [.int y_6]) ⟨hx, hb, hml, hown, hts⟩ (s_lettersOf l dC dI r_5) (va_cwS 1 hts mg_X3_setOfRows_X7_lettersOf_63 rfl rfl rfl (by decide +kernel) ⟨Nat.le_of_ble_eq_true rfl, Nat.le_of_ble_eq_true rfl⟩) ⟨fun a U g mk q => ⟨q.1, trivial⟩, fun U hU hW => ⟨rfl, trivial⟩⟩ rfl rfl hl.1 rfl (lv_room (Nat.le_of_ble_eq_true rfl)) dX3_setOfRows_34 ⟨Nat.le_of_ble_eq_true rfl, Nat.le_of_ble_eq_true rfl⟩) (fun r_8 hw => ?_)
            have hr_8 := hw
            refine lv_icmp_ge (tgt := 91) hx hb dX3_setOfRows_37 (by decide) (fun k_9 => ?_) (fun k_9 => ?_)
            · have tk_9 := c_ge (a := y_6.toInt) (b := r_8.toInt) rfl rfl k_9
              refine lv_aload_n hx hb dX3_setOfRows_91 rfl (lv_at hl 4 rfl) ?_
              refine lv_aload_n hx hb dX3_setOfRows_92 rfl (lv_at hl 6 rfl) ?_
              refine lv_iconst (v := 0) hx hb dX3_setOfRows_93 (by decide) ?_
              refine lv_iload hx hb dX3_setOfRows_94 (lv_at hl 1 rfl) ?_
              have hPc := hP.sub (ws' := [(e1, .inr (3, [.int (nI R1), .ref t1, .ref s1, .int za])), (t1, .inl (ct1, 24 * R1, .inl ga)), (s1, .inl (cs1, R1, .inl gb)), (ch, .inl (cc9, 24, .inl gd))]) [0, 1, 2, 3] rfl
              have hKc := hK.sub (tys' := [(ct1, .int), (cs1, .int), (cc9, .int)]) [0, 1, 2] rfl
              have hDc := hD.sub (ws' := [(e1, .inr (3, [.int (nI R1), .ref t1, .ref s1, .int za])), (t1, .inl (ct1, 24 * R1, .inl ga)), (s1, .inl (cs1, R1, .inl gb)), (ch, .inl (cc9, 24, .inl gd))]) [0, 1, 2, 3] (by decide) rfl
              have hFc := va_free (wc := [(e1, .inr (3, [.int (nI R1), .ref t1, .ref s1, .int za])), (t1, .inl (ct1, 24 * R1, .inl ga)), (s1, .inl (cs1, R1, .inl gb)), (ch, .inl (cc9, 24, .inl gd))]) hD hS hA [0, 1, 2, 3] rfl
              refine va_callv (va_runV (As := [.ref ch, .int 0, .int mn]) (rest := []) ⟨hx, hb, hml, hown, hts⟩ (s_Need_add l dC dI e1 t1 s1 R1 ct1 cs1 ga gb za ch 24 cc9 gd H.size 0 mn (by first | omega | decide | (have l0 := Int32.toInt_zero; omega)) (by first | omega | decide | (have l0 := Int32.toInt_zero; omega)) (by first | omega | decide | (have l0 := Int32.toInt_zero; omega)) (by first | omega | decide | (have l0 := Int32.toInt_zero; omega)) hb_gb (by first | omega | decide | (have l0 := Int32.toInt_zero; omega)) (by first | omega | decide | (have l0 := Int32.toInt_zero; omega)) (by first | omega | decide | (have l0 := Int32.toInt_zero; omega)) (by first | omega | decide | (have l0 := Int32.toInt_zero; omega))) (cwV 3 hts mg_X3_setOfRows_X3_add_71 rfl rfl rfl (by decide +kernel) ⟨Nat.le_of_ble_eq_true rfl, Nat.le_of_ble_eq_true rfl⟩) ⟨fun a U g mk q => by obtain ⟨q0, q1, qP, qK, qD⟩ := q; exact ⟨q0, q1, qP, va_K.moved (u := U) (U := U.calling g mk a) (Vm.Alike.refl U.vm) qK, qD⟩, va_recv hKc hPc (ci := 3) (q0 := 0) rfl rfl, fun U hU hW => ⟨rfl, by rw [hU], by rw [hU]; exact hPc, va_K.moved hW.alike hKc, hDc.weaken (fun _ _ _ _ => trivial)⟩⟩ rfl rfl hl.1 rfl (lv_room (Nat.le_of_ble_eq_true rfl)) dX3_setOfRows_96 ⟨Nat.le_of_ble_eq_true rfl, Nat.le_of_ble_eq_true rfl⟩) hS (fun q _ h => hFc q h) hFc (fun u t H1 locs ht hvm hw hB hz1 hk1 hS => ?_)
              obtain ⟨f_13, f_14, hb_f_14, hP1, hK1, hD1⟩ := hB
              rw [ht] at hP1
              generalize u = u_12 at hw hP1 hD1
              have hu_12 := hw
              obtain ⟨hP, hD⟩ := va_join (wr := [(o2, .inr (7, [.ref r2, .int n2])), (r2, .inl (c2, 6, .inr (.inl f2)))]) (w1 := [(e1, .inr (3, [.int (nI R1), .ref t1, .ref s1, .int u_12])), (t1, .inl (ct1, 24 * R1, .inl f_13)), (s1, .inl (cs1, R1, .inl f_14)), (ch, .inl (cc9, 24, .inl gd))]) hP hD [0, 1, 2, 3] [4, 5] rfl rfl (by decide) (by decide) hk1 hFc hP1 hD1
              generalize H1 = H at hP hS ⊢
              have hP : va_P (dC, dI) vwCl [(o2, .inr (7, [.ref r2, .int n2])), (r2, .inl (c2, 6, .inr (.inl f2))), (e1, .inr (3, [.int (nI R1), .ref t1, .ref s1, .int u_12])), (t1, .inl (ct1, 24 * R1, .inl f_13)), (s1, .inl (cs1, R1, .inl f_14)), (ch, .inl (cc9, 24, .inl gd))] H := hP
              have hD : va_D A [(o2, .inr (7, [.ref r2, .int n2])), (r2, .inl (c2, 6, .inr (.inl f2))), (e1, .inr (3, [.int (nI R1), .ref t1, .ref s1, .int u_12])), (t1, .inl (ct1, 24 * R1, .inl f_13)), (s1, .inl (cs1, R1, .inl f_14)), (ch, .inl (cc9, 24, .inl gd))] := hD
              obtain ⟨y_15, ey_15⟩ : ∃ y : Int32, y = ii + 1 := ⟨_, rfl⟩
              first | have ty_15 := i_add (a := ii.toInt) (b := 1) rfl (by decide) ey_15 (by omega) (by omega) | skip
              refine lv_iinc (v := y_15) (lv' := [(3, .int y_15), (7, .int kk), (6, .int mn), (4, .long r_5), (0, .ref e1), (1, .ref o2), (2, .ref ch)]) hx hb dX3_setOfRows_99 hl (k := 3) rfl (by rw [ey_15]; rfl) (by decide) rfl (fun ls hl => ?_)
              refine lv_goto (tgt := 7) hx hb dX3_setOfRows_102 (by decide) ?_
              exact ih7 y_15 u_12 f_13 f_14 gd (by first | omega | decide | assumption) (by first | omega | decide | assumption) (by first | omega | decide | assumption) (by first | exact hb_f_14 | (intro i; decide)) (by omega) _ _ ls (hP.sub [2, 3, 4, 5, 0, 1] rfl) (hD.sub [2, 3, 4, 5, 0, 1] (by decide) rfl) hS (lv_sub hl [0, 4, 5, 6] rfl)
            · have tk_9 := c_nge (a := y_6.toInt) (b := r_8.toInt) rfl rfl k_9
              refine lv_lload hx hb dX3_setOfRows_40 (lv_at hl 2 rfl) ?_
              refine lv_iload hx hb dX3_setOfRows_42 (lv_at hl 0 rfl) ?_
              refine vp_callSi (W.runS (As := [.long r_5, .int kk]) (rest := []) ⟨hx, hb, hml, hown, hts⟩ (s_letterOf l dC dI r_5 kk) (va_cwS 2 hts mg_X3_setOfRows_X7_letterOf_67 rfl rfl rfl (by decide +kernel) ⟨Nat.le_of_ble_eq_true rfl, Nat.le_of_ble_eq_true rfl⟩) ⟨fun a U g mk q => ⟨q.1, trivial⟩, fun U hU hW => ⟨rfl, trivial⟩⟩ rfl rfl hl.1 rfl (lv_room (Nat.le_of_ble_eq_true rfl)) dX3_setOfRows_44 ⟨Nat.le_of_ble_eq_true rfl, Nat.le_of_ble_eq_true rfl⟩) (fun r_17 hw => ?_)
              refine lv_bipush (v := 26) hx hb dX3_setOfRows_47 (by decide) ?_
              refine lv_imul hx hb dX3_setOfRows_49 ?_
              refine lv_topi (fun y_18 ey_18 => ?_)
              first | have ty_18 := i_mul (a := r_17.toInt) (b := 26) rfl (by decide) ey_18 (by omega) (by omega) | skip
              refine lv_lload hx hb dX3_setOfRows_50 (lv_at hl 2 rfl) ?_
              refine lv_iload hx hb dX3_setOfRows_52 (lv_at hl 0 rfl) ?_
              refine lv_iconst (v := 1) hx hb dX3_setOfRows_54 (by decide) ?_
              refine lv_iadd hx hb dX3_setOfRows_55 ?_
              refine lv_topi (fun y_19 ey_19 => ?_)
              first | have ty_19 := i_add (a := kk.toInt) (b := 1) rfl (by decide) ey_19 (by omega) (by omega) | skip
              refine vp_callSi (W.runS (As := [.long r_5, .int y_19]) (rest := [.int y_18]) ⟨hx, hb, hml, hown, hts⟩ (s_letterOf l dC dI r_5 y_19) (va_cwS 2 hts mg_X3_setOfRows_X7_letterOf_67 rfl rfl rfl (by decide +kernel) ⟨Nat.le_of_ble_eq_true rfl, Nat.le_of_ble_eq_true rfl⟩) ⟨fun a U g mk q => ⟨q.1, trivial⟩, fun U hU hW => ⟨rfl, trivial⟩⟩ rfl rfl hl.1 rfl (lv_room (Nat.le_of_ble_eq_true rfl)) dX3_setOfRows_56 ⟨Nat.le_of_ble_eq_true rfl, Nat.le_of_ble_eq_true rfl⟩) (fun r_21 hw => ?_)
              refine lv_iadd hx hb dX3_setOfRows_59 ?_
              refine lv_topi (fun y_22 ey_22 => ?_)
              first | have ty_22 := i_add (a := y_18.toInt) (b := r_21.toInt) rfl rfl ey_22 (by omega) (by omega) | skip
              refine lv_istore (lv' := [(8, .int y_22), (7, .int kk), (6, .int mn), (4, .long r_5), (3, .int ii), (0, .ref e1), (1, .ref o2), (2, .ref ch)]) hx hb dX3_setOfRows_60 hl (by decide) rfl (fun ls hl => ?_)
              refine lv_aload_n hx hb dX3_setOfRows_62 rfl (lv_at hl 7 rfl) ?_
              refine lv_iload hx hb dX3_setOfRows_63 (lv_at hl 2 rfl) ?_
              refine lv_iload hx hb dX3_setOfRows_65 (lv_at hl 0 rfl) ?_
              refine lv_bipush (v := 26) hx hb dX3_setOfRows_67 (by decide) ?_
              refine lv_imul hx hb dX3_setOfRows_69 ?_
              refine lv_topi (fun y_23 ey_23 => ?_)
              first | have ty_23 := i_mul (a := y_22.toInt) (b := 26) rfl (by decide) ey_23 (by omega) (by omega) | skip
              refine lv_lload hx hb dX3_setOfRows_70 (lv_at hl 3 rfl) ?_
              refine lv_iload hx hb dX3_setOfRows_72 (lv_at hl 1 rfl) ?_
              refine lv_iconst (v := 2) hx hb dX3_setOfRows_74 (by decide) ?_
              refine lv_iadd hx hb dX3_setOfRows_75 ?_
              refine lv_topi (fun y_24 ey_24 => ?_)
              first | have ty_24 := i_add (a := kk.toInt) (b := 2) rfl (by decide) ey_24 (by omega) (by omega) | skip
              refine vp_callSi (W.runS (As := [.long r_5, .int y_24]) (rest := [.int y_23, .int mn, .ref ch]) ⟨hx, hb, hml, hown, hts⟩ (s_letterOf l dC dI r_5 y_24) (va_cwS 2 hts mg_X3_setOfRows_X7_letterOf_67 rfl rfl rfl (by decide +kernel) ⟨Nat.le_of_ble_eq_true rfl, Nat.le_of_ble_eq_true rfl⟩) ⟨fun a U g mk q => ⟨q.1, trivial⟩, fun U hU hW => ⟨rfl, trivial⟩⟩ rfl rfl hl.1 rfl (lv_room (Nat.le_of_ble_eq_true rfl)) dX3_setOfRows_76 ⟨Nat.le_of_ble_eq_true rfl, Nat.le_of_ble_eq_true rfl⟩) (fun r_26 hw => ?_)
              refine lv_iadd hx hb dX3_setOfRows_79 ?_
              refine lv_topi (fun y_27 ey_27 => ?_)
              first | have ty_27 := i_add (a := y_23.toInt) (b := r_26.toInt) rfl rfl ey_27 (by omega) (by omega) | skip
              have hPc := hP.sub (ws' := [(ch, .inl (cc9, 24, .inl gd))]) [3] rfl
              have hKc := hK.sub (tys' := [(cc9, .int)]) [2] rfl
              have hDc := hD.sub (ws' := [(ch, .inl (cc9, 24, .inl gd))]) [3] (by decide) rfl
              have hFc := va_free (wc := [(ch, .inl (cc9, 24, .inl gd))]) hD hS hA [3] rfl
              refine va_calli (va_runS (As := [.ref ch, .int mn, .int y_27]) (rest := []) ⟨hx, hb, hml, hown, hts⟩ (s_insert l dC dI ch 24 cc9 gd H.size mn y_27 (by first | omega | decide | (have l0 := Int32.toInt_zero; omega)) (by first | omega | decide | (have l0 := Int32.toInt_zero; omega)) (by first | omega | decide | (have l0 := Int32.toInt_zero; omega))) (va_cwS 3 hts mg_X3_setOfRows_X3_insert_28 rfl rfl rfl (by decide +kernel) ⟨Nat.le_of_ble_eq_true rfl, Nat.le_of_ble_eq_true rfl⟩) ⟨fun a U g mk q => by obtain ⟨q0, q1, qP, qK, qD⟩ := q; exact ⟨q0, q1, qP, va_K.moved (u := U) (U := U.calling g mk a) (Vm.Alike.refl U.vm) qK, qD⟩, fun U hU hW => ⟨rfl, by rw [hU], by rw [hU]; exact hPc, va_K.moved hW.alike hKc, hDc.weaken (fun _ _ _ _ => trivial)⟩⟩ rfl rfl hl.1 rfl (lv_room (Nat.le_of_ble_eq_true rfl)) dX3_setOfRows_80 ⟨Nat.le_of_ble_eq_true rfl, Nat.le_of_ble_eq_true rfl⟩) hS (fun q _ h => hFc q h) hFc (fun r_29 u t H1 locs ht hvm hw hB hz1 hk1 hS => ?_)
              obtain ⟨f_30, hP1, hK1, hD1⟩ := hB
              rw [ht] at hP1
              have hr_29 := hw
              obtain ⟨hP, hD⟩ := va_join (wr := [(e1, .inr (3, [.int (nI R1), .ref t1, .ref s1, .int za])), (t1, .inl (ct1, 24 * R1, .inl ga)), (s1, .inl (cs1, R1, .inl gb)), (o2, .inr (7, [.ref r2, .int n2])), (r2, .inl (c2, 6, .inr (.inl f2)))]) (w1 := [(ch, .inl (cc9, 24, .inl f_30))]) hP hD [3] [0, 1, 2, 4, 5] rfl rfl (by decide) (by decide) hk1 hFc hP1 hD1
              generalize H1 = H at hP hS ⊢
              have hP : va_P (dC, dI) vwCl [(e1, .inr (3, [.int (nI R1), .ref t1, .ref s1, .int za])), (t1, .inl (ct1, 24 * R1, .inl ga)), (s1, .inl (cs1, R1, .inl gb)), (o2, .inr (7, [.ref r2, .int n2])), (r2, .inl (c2, 6, .inr (.inl f2))), (ch, .inl (cc9, 24, .inl f_30))] H := hP
              have hD : va_D A [(e1, .inr (3, [.int (nI R1), .ref t1, .ref s1, .int za])), (t1, .inl (ct1, 24 * R1, .inl ga)), (s1, .inl (cs1, R1, .inl gb)), (o2, .inr (7, [.ref r2, .int n2])), (r2, .inl (c2, 6, .inr (.inl f2))), (ch, .inl (cc9, 24, .inl f_30))] := hD
              refine lv_istore (lv' := [(6, .int r_29), (8, .int y_22), (7, .int kk), (4, .long r_5), (3, .int ii), (0, .ref e1), (1, .ref o2), (2, .ref ch)]) hx hb dX3_setOfRows_83 hl (by decide) rfl (fun ls hl => ?_)
              obtain ⟨y_31, ey_31⟩ : ∃ y : Int32, y = kk + 1 := ⟨_, rfl⟩
              first | have ty_31 := i_add (a := kk.toInt) (b := 1) rfl (by decide) ey_31 (by omega) (by omega) | skip
              refine lv_iinc (v := y_31) (lv' := [(7, .int y_31), (6, .int r_29), (8, .int y_22), (4, .long r_5), (3, .int ii), (0, .ref e1), (1, .ref o2), (2, .ref ch)]) hx hb dX3_setOfRows_85 hl (k := 2) rfl (by rw [ey_31]; rfl) (by decide) rfl (fun ls hl => ?_)
              refine lv_goto (tgt := 28) hx hb dX3_setOfRows_88 (by decide) ?_
              exact ih28 r_29 y_31 f_30 (by first | omega | decide | assumption) (by first | omega | decide | assumption) (by first | omega | decide | assumption) (by first | omega | decide | assumption) (by omega) _ _ ls (hP.sub [0, 1, 2, 5, 3, 4] rfl) (hD.sub [0, 1, 2, 5, 3, 4] (by decide) rfl) hS (lv_sub hl [0, 1, 3, 4, 5, 6, 7] rfl)
        have lit_31 : (0 : Int32).toInt = 0 := by decide
        have lit_32 : (0 : Int32).toInt = 0 := by decide
        exact loop28 _ 0 0 gc (by first | omega | decide | assumption) (by first | omega | decide | assumption) (by first | omega | decide | assumption) (by first | omega | decide | assumption) (Nat.lt_succ_self _) _ _ ls hP hD hS (lv_sub hl [0, 1, 2, 3, 4, 5, 6] rfl)
  have lit_33 : (0 : Int32).toInt = 0 := by decide
  have lit_34 : (0 : Int32).toInt = 0 := by decide
  exact loop7 _ 0 0 ft1 fs1 fc (by first | omega | decide | assumption) (by first | omega | decide | assumption) (by first | omega | decide | assumption) (by first | exact hb_fs1 | (intro i; decide)) (Nat.lt_succ_self _) _ _ ls hP hD hS (lv_sub hl [0, 1, 2, 3] rfl)
theorem dX3_needBoth_0 : decode cX3_needBoth 0 = .ok (.aload_n 1, 1) := by decide +kernel
theorem dX3_needBoth_1 : decode cX3_needBoth 1 = .ok (.invokevirtual 75, 3) := by decide +kernel
theorem dX3_needBoth_4 : decode cX3_needBoth 4 = .ok (.ifCond .eq 4, 3) := by decide +kernel
theorem dX3_needBoth_7 : decode cX3_needBoth 7 = .ok (.return_, 1) := by decide +kernel
theorem dX3_needBoth_8 : decode cX3_needBoth 8 = .ok (.aload_n 2, 1) := by decide +kernel
theorem dX3_needBoth_9 : decode cX3_needBoth 9 = .ok (.iconst 0, 1) := by decide +kernel
theorem dX3_needBoth_10 : decode cX3_needBoth 10 = .ok (.putfield 44, 3) := by decide +kernel
theorem dX3_needBoth_13 : decode cX3_needBoth 13 = .ok (.iconst 0, 1) := by decide +kernel
theorem dX3_needBoth_14 : decode cX3_needBoth 14 = .ok (.istore 4, 2) := by decide +kernel
theorem dX3_needBoth_16 : decode cX3_needBoth 16 = .ok (.iload 4, 2) := by decide +kernel
theorem dX3_needBoth_18 : decode cX3_needBoth 18 = .ok (.aload_n 0, 1) := by decide +kernel
theorem dX3_needBoth_19 : decode cX3_needBoth 19 = .ok (.getfield 44, 3) := by decide +kernel
theorem dX3_needBoth_22 : decode cX3_needBoth 22 = .ok (.if_icmp .ge 107, 3) := by decide +kernel
theorem dX3_needBoth_25 : decode cX3_needBoth 25 = .ok (.iconst 0, 1) := by decide +kernel
theorem dX3_needBoth_26 : decode cX3_needBoth 26 = .ok (.istore 5, 2) := by decide +kernel
theorem dX3_needBoth_28 : decode cX3_needBoth 28 = .ok (.iload 5, 2) := by decide +kernel
theorem dX3_needBoth_30 : decode cX3_needBoth 30 = .ok (.aload_n 1, 1) := by decide +kernel
theorem dX3_needBoth_31 : decode cX3_needBoth 31 = .ok (.getfield 44, 3) := by decide +kernel
theorem dX3_needBoth_34 : decode cX3_needBoth 34 = .ok (.if_icmp .ge 89, 3) := by decide +kernel
theorem dX3_needBoth_37 : decode cX3_needBoth 37 = .ok (.aload_n 0, 1) := by decide +kernel
theorem dX3_needBoth_38 : decode cX3_needBoth 38 = .ok (.getfield 25, 3) := by decide +kernel
theorem dX3_needBoth_41 : decode cX3_needBoth 41 = .ok (.iload 4, 2) := by decide +kernel
theorem dX3_needBoth_43 : decode cX3_needBoth 43 = .ok (.iaload, 1) := by decide +kernel
theorem dX3_needBoth_44 : decode cX3_needBoth 44 = .ok (.aload_n 3, 1) := by decide +kernel
theorem dX3_needBoth_45 : decode cX3_needBoth 45 = .ok (.arraylength, 1) := by decide +kernel
theorem dX3_needBoth_46 : decode cX3_needBoth 46 = .ok (.invokestatic 47, 3) := by decide +kernel
theorem dX3_needBoth_49 : decode cX3_needBoth 49 = .ok (.istore 6, 2) := by decide +kernel
theorem dX3_needBoth_51 : decode cX3_needBoth 51 = .ok (.aload_n 0, 1) := by decide +kernel
theorem dX3_needBoth_52 : decode cX3_needBoth 52 = .ok (.getfield 21, 3) := by decide +kernel
theorem dX3_needBoth_55 : decode cX3_needBoth 55 = .ok (.iload 4, 2) := by decide +kernel
theorem dX3_needBoth_57 : decode cX3_needBoth 57 = .ok (.bipush 24, 2) := by decide +kernel
theorem dX3_needBoth_59 : decode cX3_needBoth 59 = .ok (.imul, 1) := by decide +kernel
theorem dX3_needBoth_60 : decode cX3_needBoth 60 = .ok (.aload_n 3, 1) := by decide +kernel
theorem dX3_needBoth_61 : decode cX3_needBoth 61 = .ok (.iconst 0, 1) := by decide +kernel
theorem dX3_needBoth_62 : decode cX3_needBoth 62 = .ok (.iload 6, 2) := by decide +kernel
theorem dX3_needBoth_64 : decode cX3_needBoth 64 = .ok (.invokestatic 38, 3) := by decide +kernel
theorem dX3_needBoth_67 : decode cX3_needBoth 67 = .ok (.iconst 0, 1) := by decide +kernel
theorem dX3_needBoth_68 : decode cX3_needBoth 68 = .ok (.istore 7, 2) := by decide +kernel
theorem dX3_needBoth_70 : decode cX3_needBoth 70 = .ok (.iload 7, 2) := by decide +kernel
theorem dX3_needBoth_72 : decode cX3_needBoth 72 = .ok (.aload_n 1, 1) := by decide +kernel
theorem dX3_needBoth_73 : decode cX3_needBoth 73 = .ok (.getfield 25, 3) := by decide +kernel
theorem dX3_needBoth_76 : decode cX3_needBoth 76 = .ok (.iload 5, 2) := by decide +kernel
theorem dX3_needBoth_78 : decode cX3_needBoth 78 = .ok (.iaload, 1) := by decide +kernel
theorem dX3_needBoth_79 : decode cX3_needBoth 79 = .ok (.if_icmp .ge 30, 3) := by decide +kernel
theorem dX3_needBoth_82 : decode cX3_needBoth 82 = .ok (.aload_n 3, 1) := by decide +kernel
theorem dX3_needBoth_83 : decode cX3_needBoth 83 = .ok (.iload 6, 2) := by decide +kernel
theorem dX3_needBoth_85 : decode cX3_needBoth 85 = .ok (.aload_n 1, 1) := by decide +kernel
theorem dX3_needBoth_86 : decode cX3_needBoth 86 = .ok (.getfield 21, 3) := by decide +kernel
theorem dX3_needBoth_89 : decode cX3_needBoth 89 = .ok (.iload 5, 2) := by decide +kernel
theorem dX3_needBoth_91 : decode cX3_needBoth 91 = .ok (.bipush 24, 2) := by decide +kernel
theorem dX3_needBoth_93 : decode cX3_needBoth 93 = .ok (.imul, 1) := by decide +kernel
theorem dX3_needBoth_94 : decode cX3_needBoth 94 = .ok (.iload 7, 2) := by decide +kernel
theorem dX3_needBoth_96 : decode cX3_needBoth 96 = .ok (.iadd, 1) := by decide +kernel
theorem dX3_needBoth_97 : decode cX3_needBoth 97 = .ok (.iaload, 1) := by decide +kernel
theorem dX3_needBoth_98 : decode cX3_needBoth 98 = .ok (.invokestatic 28, 3) := by decide +kernel
theorem dX3_needBoth_101 : decode cX3_needBoth 101 = .ok (.istore 6, 2) := by decide +kernel
theorem dX3_needBoth_103 : decode cX3_needBoth 103 = .ok (.iinc 7 1, 3) := by decide +kernel
theorem dX3_needBoth_106 : decode cX3_needBoth 106 = .ok (.goto (-36), 3) := by decide +kernel
theorem dX3_needBoth_109 : decode cX3_needBoth 109 = .ok (.aload_n 2, 1) := by decide +kernel
theorem dX3_needBoth_110 : decode cX3_needBoth 110 = .ok (.aload_n 3, 1) := by decide +kernel
theorem dX3_needBoth_111 : decode cX3_needBoth 111 = .ok (.iconst 0, 1) := by decide +kernel
theorem dX3_needBoth_112 : decode cX3_needBoth 112 = .ok (.iload 6, 2) := by decide +kernel
theorem dX3_needBoth_114 : decode cX3_needBoth 114 = .ok (.invokevirtual 71, 3) := by decide +kernel
theorem dX3_needBoth_117 : decode cX3_needBoth 117 = .ok (.iinc 5 1, 3) := by decide +kernel
theorem dX3_needBoth_120 : decode cX3_needBoth 120 = .ok (.goto (-92), 3) := by decide +kernel
theorem dX3_needBoth_123 : decode cX3_needBoth 123 = .ok (.iinc 4 1, 3) := by decide +kernel
theorem dX3_needBoth_126 : decode cX3_needBoth 126 = .ok (.goto (-110), 3) := by decide +kernel
theorem dX3_needBoth_129 : decode cX3_needBoth 129 = .ok (.aload_n 2, 1) := by decide +kernel
theorem dX3_needBoth_130 : decode cX3_needBoth 130 = .ok (.getfield 44, 3) := by decide +kernel
theorem dX3_needBoth_133 : decode cX3_needBoth 133 = .ok (.bipush 12, 2) := by decide +kernel
theorem dX3_needBoth_135 : decode cX3_needBoth 135 = .ok (.if_icmp .gt 8, 3) := by decide +kernel
theorem dX3_needBoth_138 : decode cX3_needBoth 138 = .ok (.aload_n 0, 1) := by decide +kernel
theorem dX3_needBoth_139 : decode cX3_needBoth 139 = .ok (.aload_n 2, 1) := by decide +kernel
theorem dX3_needBoth_140 : decode cX3_needBoth 140 = .ok (.invokevirtual 79, 3) := by decide +kernel
theorem dX3_needBoth_143 : decode cX3_needBoth 143 = .ok (.return_, 1) := by decide +kernel
def mwX3_needBoth : List Cond := .code yX3_needBoth cX3_needBoth 8 none :: ([.code yX3_isEmptyChoice cX3_isEmptyChoice 1 (some .boolean), .fieldLink RX3 44 "PatternGate$Need" "size" "I", .fieldLink RX3 25 "PatternGate$Need" "sizes" "[I", .methodLink RX3 75 yX3_isEmptyChoice, .instanceMethod yX3_isEmptyChoice, .selects RX3 yX3_isEmptyChoice yX3_isEmptyChoice, .initialized RX3, .code yX3_take cX3_take 3 none, .fieldLink RX3 15 "PatternGate$Need" "room" "I", .methodLink RX3 47 Lib.Math.min.name, .static Lib.Math.min.name, .initialized "java/lang/Math", .code Lib.Math.min.name Lib.Math.min.code 2 (some .int), .fieldLink RX3 21 "PatternGate$Need" "triples" "[I", .methodLink RX3 38 arraycopyName, .native arraycopyName, .static arraycopyName, .initialized "java/lang/System", .methodLink RX3 79 yX3_take, .instanceMethod yX3_take, .selects RX3 yX3_take yX3_take, .code yX3_add cX3_add 7 none, .code yX3_isWithin cX3_isWithin 8 (some .boolean), .methodLink RX3 50 yX3_isWithin, .static yX3_isWithin, .methodLink RX3 71 yX3_add, .instanceMethod yX3_add, .selects RX3 yX3_add yX3_add, .code yX3_insert cX3_insert 4 (some .int), .methodLink RX3 28 yX3_insert, .static yX3_insert] ++ wsX30)
theorem fin_X3_needBoth_X3 : ∀ w ∈ wsX30, w ∈ mwX3_needBoth := fun w h => List.mem_cons_of_mem _ (List.mem_append_right _ h)
set_option maxRecDepth 20000 in
theorem mg_X3_needBoth_X3_isEmptyChoice_75 : GoodIn mwX3_needBoth (wsV RX3 75 RX3 yX3_isEmptyChoice mwX3_isEmptyChoice) := goodIn_r _ [4, 5, 6, 7, 1, 2, 3, 32, 33, 34, 35] (by decide +kernel) (by decide +kernel)
set_option maxRecDepth 20000 in
theorem mg_X3_needBoth_X3_take_79 : GoodIn mwX3_needBoth (wsV RX3 79 RX3 yX3_take mwX3_take) := goodIn_r _ [19, 20, 21, 7, 8, 2, 9, 10, 11, 12, 13, 3, 14, 15, 16, 17, 18, 32, 33, 34, 35] (by decide +kernel) (by decide +kernel)
set_option maxRecDepth 20000 in
theorem mg_X3_needBoth_X3_add_71 : GoodIn mwX3_needBoth (wsV RX3 71 RX3 yX3_add mwX3_add) := goodIn_r _ [26, 27, 28, 7, 22, 2, 9, 14, 15, 16, 17, 18, 3, 23, 24, 25, 7, 32, 33, 34, 35] (by decide +kernel) (by decide +kernel)
set_option maxRecDepth 20000 in
theorem mg_X3_needBoth_X3_insert_28 : GoodIn mwX3_needBoth (va_wsS RX3 28 yX3_insert mwX3_insert) := goodIn_r _ [30, 31, 7, 29, 15, 16, 17, 18] (by decide +kernel) (by decide +kernel)
set_option maxHeartbeats 4000000 in
set_option maxRecDepth 100000 in
/-- Need.needBoth -/
theorem s_Need_both (l : Launch) (dC : Nat → ClassId) (dI : Nat → Nat → Nat) (e1 t1 s1 R1 : Nat) (ct1 cs1 : ClassId) (ft1 fs1 : Nat → Int32) (m1 : Int32) (e3 t3 s3 R3 : Nat) (ct3 cs3 : ClassId) (ft3 fs3 : Nat → Int32) (m3 : Int32) (ch : Nat) (cc9 : ClassId) (fc : Nat → Int32) (e2 t2 s2 R2 : Nat) (ct2 cs2 : ClassId) (ft2 fs2 : Nat → Int32) (m2 : Int32) (sz : Nat) (hR1 : 1 ≤ R1) (hU1 : R1 ≤ 144) (hc1 : 0 ≤ m1.toInt) (hd1 : m1.toInt ≤ R1) (hb_fs1 : ∀ i, 0 ≤ (fs1 i).toInt ∧ (fs1 i).toInt ≤ 24) (hR3 : 1 ≤ R3) (hU3 : R3 ≤ 144) (hc3 : 0 ≤ m3.toInt) (hd3 : m3.toInt ≤ R3) (hb_fs3 : ∀ i, 0 ≤ (fs3 i).toInt ∧ (fs3 i).toInt ≤ 24) (hR2 : 1 ≤ R2) (hU2 : R2 ≤ 144) (hc2 : 0 ≤ m2.toInt) (hd2 : m2.toInt ≤ R2) (hb_fs2 : ∀ i, 0 ≤ (fs2 i).toInt ∧ (fs2 i).toInt ≤ 24) : Met l yX3_needBoth mwX3_needBoth ({ frames := 2, cells := 0, slots := 0, locals := 120 }) (va_Pc [.ref e1, .ref e2, .ref e3, .ref ch] (fun U => U.heap.size = sz ∧ va_P (dC, dI) vwCl ([(e1, .inr (3, [.int (nI R1), .ref t1, .ref s1, .int m1])), (t1, .inl (ct1, 24 * R1, .inl ft1)), (s1, .inl (cs1, R1, .inl fs1)), (e3, .inr (3, [.int (nI R3), .ref t3, .ref s3, .int m3])), (t3, .inl (ct3, 24 * R3, .inl ft3)), (s3, .inl (cs3, R3, .inl fs3)), (ch, .inl (cc9, 24, .inl fc)), (e2, .inr (3, [.int (nI R2), .ref t2, .ref s2, .int m2])), (t2, .inl (ct2, 24 * R2, .inl ft2)), (s2, .inl (cs2, R2, .inl fs2))]) U.heap ∧ va_K (dC, dI) vwCl ([(ct1, .int), (cs1, .int), (ct3, .int), (cs3, .int), (cc9, .int), (ct2, .int), (cs2, .int)]) U ∧ va_D (fun _ => True) ([(e1, .inr (3, [.int (nI R1), .ref t1, .ref s1, .int m1])), (t1, .inl (ct1, 24 * R1, .inl ft1)), (s1, .inl (cs1, R1, .inl fs1)), (e3, .inr (3, [.int (nI R3), .ref t3, .ref s3, .int m3])), (t3, .inl (ct3, 24 * R3, .inl ft3)), (s3, .inl (cs3, R3, .inl fs3)), (ch, .inl (cc9, 24, .inl fc)), (e2, .inr (3, [.int (nI R2), .ref t2, .ref s2, .int m2])), (t2, .inl (ct2, 24 * R2, .inl ft2)), (s2, .inl (cs2, R2, .inl fs2))]))) (va_Qv (fun (u : Int32 × Int32) => (0 ≤ u.1.toInt ∧ u.1.toInt ≤ R1) ∧ (0 ≤ u.2.toInt ∧ u.2.toInt ≤ R3)) (fun u t => ∃ (f9 g9 f8 g8 h9 : Nat → Int32), (∀ i, 0 ≤ (g9 i).toInt ∧ (g9 i).toInt ≤ 24) ∧ (∀ i, 0 ≤ (g8 i).toInt ∧ (g8 i).toInt ≤ 24) ∧ va_P (dC, dI) vwCl [(e1, .inr (3, [.int (nI R1), .ref t1, .ref s1, .int u.1])), (t1, .inl (ct1, 24 * R1, .inl f9)), (s1, .inl (cs1, R1, .inl g9)), (e3, .inr (3, [.int (nI R3), .ref t3, .ref s3, .int u.2])), (t3, .inl (ct3, 24 * R3, .inl f8)), (s3, .inl (cs3, R3, .inl g8)), (ch, .inl (cc9, 24, .inl h9)), (e2, .inr (3, [.int (nI R2), .ref t2, .ref s2, .int m2])), (t2, .inl (ct2, 24 * R2, .inl ft2)), (s2, .inl (cs2, R2, .inl fs2))] t.heap ∧ va_K (dC, dI) vwCl [(ct1, .int), (cs1, .int), (ct3, .int), (cs3, .int), (cc9, .int), (ct2, .int), (cs2, .int)] t ∧ va_D (va_A ([(e1, .inr (3, [.int (nI R1), .ref t1, .ref s1, .int m1])), (t1, .inl (ct1, 24 * R1, .inl ft1)), (s1, .inl (cs1, R1, .inl fs1)), (e3, .inr (3, [.int (nI R3), .ref t3, .ref s3, .int m3])), (t3, .inl (ct3, 24 * R3, .inl ft3)), (s3, .inl (cs3, R3, .inl fs3)), (ch, .inl (cc9, 24, .inl fc)), (e2, .inr (3, [.int (nI R2), .ref t2, .ref s2, .int m2])), (t2, .inl (ct2, 24 * R2, .inl ft2)), (s2, .inl (cs2, R2, .inl fs2))]) sz) [(e1, .inr (3, [.int (nI R1), .ref t1, .ref s1, .int u.1])), (t1, .inl (ct1, 24 * R1, .inl f9)), (s1, .inl (cs1, R1, .inl g9)), (e3, .inr (3, [.int (nI R3), .ref t3, .ref s3, .int u.2])), (t3, .inl (ct3, 24 * R3, .inl f8)), (s3, .inl (cs3, R3, .inl g8)), (ch, .inl (cc9, 24, .inl h9)), (e2, .inr (3, [.int (nI R2), .ref t2, .ref s2, .int m2])), (t2, .inl (ct2, 24 * R2, .inl ft2)), (s2, .inl (cs2, R2, .inl fs2))]) (va_A ([(e1, .inr (3, [.int (nI R1), .ref t1, .ref s1, .int m1])), (t1, .inl (ct1, 24 * R1, .inl ft1)), (s1, .inl (cs1, R1, .inl fs1)), (e3, .inr (3, [.int (nI R3), .ref t3, .ref s3, .int m3])), (t3, .inl (ct3, 24 * R3, .inl ft3)), (s3, .inl (cs3, R3, .inl fs3)), (ch, .inl (cc9, 24, .inl fc)), (e2, .inr (3, [.int (nI R2), .ref t2, .ref s2, .int m2])), (t2, .inl (ct2, 24 * R2, .inl ft2)), (s2, .inl (cs2, R2, .inl fs2))]) sz)) 0 0 (va_A ([(e1, .inr (3, [.int (nI R1), .ref t1, .ref s1, .int m1])), (t1, .inl (ct1, 24 * R1, .inl ft1)), (s1, .inl (cs1, R1, .inl fs1)), (e3, .inr (3, [.int (nI R3), .ref t3, .ref s3, .int m3])), (t3, .inl (ct3, 24 * R3, .inl ft3)), (s3, .inl (cs3, R3, .inl fs3)), (ch, .inl (cc9, 24, .inl fc)), (e2, .inr (3, [.int (nI R2), .ref t2, .ref s2, .int m2])), (t2, .inl (ct2, 24 * R2, .inl ft2)), (s2, .inl (cs2, R2, .inl fs2))]) sz) := by
  refine Met.ofW (cc := cX3_needBoth) (maxL := 8) (ret := none) (by decide +kernel) rfl ?_
  intro p e s m args below meth c s₁ B hml hv
  obtain ⟨rfl, hsz, hP, hK, hD0⟩ := hv
  have hx := B.exec
  have hb := B.bytes
  have hr := B.returns
  have hts := atoms_spec (ws := mwX3_needBoth) B.pre
  have hown : s.vm.findClass RX3 = some m.cls := findClass_of_methodNamed B.named
  have hlocks := B.notSynchronized
  subst hsz
  have hD := hD0.self (sz := s.heap.size)
  generalize hAe : va_A ([(e1, .inr (3, [.int (nI R1), .ref t1, .ref s1, .int m1])), (t1, .inl (ct1, 24 * R1, .inl ft1)), (s1, .inl (cs1, R1, .inl fs1)), (e3, .inr (3, [.int (nI R3), .ref t3, .ref s3, .int m3])), (t3, .inl (ct3, 24 * R3, .inl ft3)), (s3, .inl (cs3, R3, .inl fs3)), (ch, .inl (cc9, 24, .inl fc)), (e2, .inr (3, [.int (nI R2), .ref t2, .ref s2, .int m2])), (t2, .inl (ct2, 24 * R2, .inl ft2)), (s2, .inl (cs2, R2, .inl fs2))]) s.heap.size = A at hD ⊢
  have hA : ∀ q : Nat, s.heap.size ≤ q → A q := fun q h => by rw [← hAe]; exact Or.inr h
  have hP : va_P (dC, dI) vwCl [(e1, .inr (3, [.int (nI R1), .ref t1, .ref s1, .int m1])), (t1, .inl (ct1, 24 * R1, .inl ft1)), (s1, .inl (cs1, R1, .inl fs1)), (e3, .inr (3, [.int (nI R3), .ref t3, .ref s3, .int m3])), (t3, .inl (ct3, 24 * R3, .inl ft3)), (s3, .inl (cs3, R3, .inl fs3)), (ch, .inl (cc9, 24, .inl fc)), (e2, .inr (3, [.int (nI R2), .ref t2, .ref s2, .int m2])), (t2, .inl (ct2, 24 * R2, .inl ft2)), (s2, .inl (cs2, R2, .inl fs2))] s.heap := hP
  have hD : va_D A [(e1, .inr (3, [.int (nI R1), .ref t1, .ref s1, .int m1])), (t1, .inl (ct1, 24 * R1, .inl ft1)), (s1, .inl (cs1, R1, .inl fs1)), (e3, .inr (3, [.int (nI R3), .ref t3, .ref s3, .int m3])), (t3, .inl (ct3, 24 * R3, .inl ft3)), (s3, .inl (cs3, R3, .inl fs3)), (ch, .inl (cc9, 24, .inl fc)), (e2, .inr (3, [.int (nI R2), .ref t2, .ref s2, .int m2])), (t2, .inl (ct2, 24 * R2, .inl ft2)), (s2, .inl (cs2, R2, .inl fs2))] := hD
  have hK : va_K (dC, dI) vwCl [(ct1, .int), (cs1, .int), (ct3, .int), (cs3, .int), (cc9, .int), (ct2, .int), (cs2, .int)] s := hK
  generalize hH : s.heap = H at hP ⊢
  have hS : va_S A s.heap H [] := by rw [← hH]; exact va_S.rf
  have hl := lv_entry ([.ref e1, .ref e2, .ref e3, .ref ch]) (n := 8) (Nat.le_of_ble_eq_true rfl)
  rw [lg_entry_eq]
  generalize (lg_sl ([.ref e1, .ref e2, .ref e3, .ref ch]) ++ List.replicate (8 - (lg_sl ([.ref e1, .ref e2, .ref e3, .ref ch])).length) Slot.unset).toArray = ls at hl ⊢
  have hl : lv_has ls 8 [(0, .ref e1), (1, .ref e2), (2, .ref e3), (3, .ref ch)] := hl
  have tr1 : (nI R1).toInt = (R1 : Int) := nI_toInt (by omega)
  have rm1 := i_rng m1
  have tr2 : (nI R2).toInt = (R2 : Int) := nI_toInt (by omega)
  have rm2 := i_rng m2
  have tr3 : (nI R3).toInt = (R3 : Int) := nI_toInt (by omega)
  have rm3 := i_rng m3
  refine lv_aload_n hx hb dX3_needBoth_0 rfl (lv_at hl 1 rfl) ?_
  have hPc := hP.sub (ws' := [(e2, .inr (3, [.int (nI R2), .ref t2, .ref s2, .int m2])), (t2, .inl (ct2, 24 * R2, .inl ft2)), (s2, .inl (cs2, R2, .inl fs2))]) [7, 8, 9] rfl
  have hKc := hK.sub (tys' := [(ct2, .int), (cs2, .int)]) [5, 6] rfl
  refine vp_callSi (W.runV (As := []) (rest := []) ⟨hx, hb, hml, hown, hts⟩ (s_Need_isEmpty l dC dI e2 t2 s2 R2 ct2 cs2 ft2 fs2 m2 (by first | omega | decide | (have l0 := Int32.toInt_zero; omega)) (by first | omega | decide | (have l0 := Int32.toInt_zero; omega)) (by first | omega | decide | (have l0 := Int32.toInt_zero; omega)) (by first | omega | decide | (have l0 := Int32.toInt_zero; omega)) hb_fs2) (cwV 0 hts mg_X3_needBoth_X3_isEmptyChoice_75 rfl rfl rfl (by decide +kernel) ⟨Nat.le_of_ble_eq_true rfl, Nat.le_of_ble_eq_true rfl⟩) ⟨fun a U g mk q => by obtain ⟨q0, qP, qK⟩ := q; exact ⟨q0, qP, va_K.moved (u := U) (U := U.calling g mk a) (Vm.Alike.refl U.vm) qK⟩, va_recv hKc hPc (ci := 3) (q0 := 0) rfl rfl, fun U hU hW => ⟨rfl, by rw [hU]; exact hPc, va_K.moved hW.alike hKc⟩⟩ rfl rfl hl.1 rfl (lv_room (Nat.le_of_ble_eq_true rfl)) dX3_needBoth_1 ⟨Nat.le_of_ble_eq_true rfl, Nat.le_of_ble_eq_true rfl⟩) (fun r_2 hw => ?_)
  refine lv_if_eq (tgt := 8) hx hb dX3_needBoth_4 (by decide) (fun k_3 => ?_) (fun k_3 => ?_)
  · have tk_3 := c_eq (a := r_2.toInt) (b := 0) rfl (by decide) k_3
    refine lv_aload_n hx hb dX3_needBoth_8 rfl (lv_at hl 2 rfl) ?_
    refine lv_iconst (v := 0) hx hb dX3_needBoth_9 (by decide) ?_
    refine va_put (D := (dC, dI)) (ci := 3) (v := .int 0) (ty := .int) (C := RX3) (T := TX3) (N := 4) hx hb hts fin_X3_needBoth_X3 tyX3 tyX3_ok nmX3 hown hK hP hD hS 3 rfl rfl 3 (by decide) (hts (.fieldLink RX3 44 "PatternGate$Need" "size" "I") (List.mem_of_getElem? (i := 2) (by decide +kernel))) (fun _ h9 => h9) rfl (by decide +kernel) rfl rfl (Nat.le_of_ble_eq_true rfl) dX3_needBoth_10 (fun H locs hP hD hS => ?_)
    have hP : va_P (dC, dI) vwCl [(e1, .inr (3, [.int (nI R1), .ref t1, .ref s1, .int m1])), (t1, .inl (ct1, 24 * R1, .inl ft1)), (s1, .inl (cs1, R1, .inl fs1)), (e3, .inr (3, [.int (nI R3), .ref t3, .ref s3, .int 0])), (t3, .inl (ct3, 24 * R3, .inl ft3)), (s3, .inl (cs3, R3, .inl fs3)), (ch, .inl (cc9, 24, .inl fc)), (e2, .inr (3, [.int (nI R2), .ref t2, .ref s2, .int m2])), (t2, .inl (ct2, 24 * R2, .inl ft2)), (s2, .inl (cs2, R2, .inl fs2))] H := hP
    have hD : va_D A [(e1, .inr (3, [.int (nI R1), .ref t1, .ref s1, .int m1])), (t1, .inl (ct1, 24 * R1, .inl ft1)), (s1, .inl (cs1, R1, .inl fs1)), (e3, .inr (3, [.int (nI R3), .ref t3, .ref s3, .int 0])), (t3, .inl (ct3, 24 * R3, .inl ft3)), (s3, .inl (cs3, R3, .inl fs3)), (ch, .inl (cc9, 24, .inl fc)), (e2, .inr (3, [.int (nI R2), .ref t2, .ref s2, .int m2])), (t2, .inl (ct2, 24 * R2, .inl ft2)), (s2, .inl (cs2, R2, .inl fs2))] := hD
    refine lv_iconst (v := 0) hx hb dX3_needBoth_13 (by decide) ?_
    refine lv_istore (lv' := [(4, .int 0), (0, .ref e1), (1, .ref e2), (2, .ref e3), (3, .ref ch)]) hx hb dX3_needBoth_14 hl (by decide) rfl (fun ls hl => ?_)
    have loop16 : ∀ (n_16 : Nat) (ii za : Int32) (ga : Nat → Int32) (gb : Nat → Int32) (gc : Nat → Int32), (0 ≤ ii.toInt) → (0 ≤ za.toInt) → (za.toInt ≤ R3) → (∀ i, 0 ≤ (gb i).toInt ∧ (gb i).toInt ≤ 24) → ((m1.toInt - ii.toInt).toNat) < n_16 → ∀ (H : Heap) (locs : List Loc) (ls : Array Slot), va_P (dC, dI) vwCl [(e1, .inr (3, [.int (nI R1), .ref t1, .ref s1, .int m1])), (t1, .inl (ct1, 24 * R1, .inl ft1)), (s1, .inl (cs1, R1, .inl fs1)), (e3, .inr (3, [.int (nI R3), .ref t3, .ref s3, .int za])), (t3, .inl (ct3, 24 * R3, .inl ga)), (s3, .inl (cs3, R3, .inl gb)), (ch, .inl (cc9, 24, .inl gc)), (e2, .inr (3, [.int (nI R2), .ref t2, .ref s2, .int m2])), (t2, .inl (ct2, 24 * R2, .inl ft2)), (s2, .inl (cs2, R2, .inl fs2))] H → va_D A [(e1, .inr (3, [.int (nI R1), .ref t1, .ref s1, .int m1])), (t1, .inl (ct1, 24 * R1, .inl ft1)), (s1, .inl (cs1, R1, .inl fs1)), (e3, .inr (3, [.int (nI R3), .ref t3, .ref s3, .int za])), (t3, .inl (ct3, 24 * R3, .inl ga)), (s3, .inl (cs3, R3, .inl gb)), (ch, .inl (cc9, 24, .inl gc)), (e2, .inr (3, [.int (nI R2), .ref t2, .ref s2, .int m2])), (t2, .inl (ct2, 24 * R2, .inl ft2)), (s2, .inl (cs2, R2, .inl fs2))] → va_S A s.heap H locs → lv_has ls 8 [(4, .int ii), (0, .ref e1), (1, .ref e2), (2, .ref e3), (3, .ref ch)] → W p l e (headSpec mwX3_needBoth ({ frames := 2, cells := 0, slots := 0, locals := 120 })).room s m ([.ref e1, .ref e2, .ref e3, .ref ch]).toArray below meth c H locs 0 0 (MQ below (va_Qv (fun (u : Int32 × Int32) => (0 ≤ u.1.toInt ∧ u.1.toInt ≤ R1) ∧ (0 ≤ u.2.toInt ∧ u.2.toInt ≤ R3)) (fun u t => ∃ (f9 g9 f8 g8 h9 : Nat → Int32), (∀ i, 0 ≤ (g9 i).toInt ∧ (g9 i).toInt ≤ 24) ∧ (∀ i, 0 ≤ (g8 i).toInt ∧ (g8 i).toInt ≤ 24) ∧ va_P (dC, dI) vwCl [(e1, .inr (3, [.int (nI R1), .ref t1, .ref s1, .int u.1])), (t1, .inl (ct1, 24 * R1, .inl f9)), (s1, .inl (cs1, R1, .inl g9)), (e3, .inr (3, [.int (nI R3), .ref t3, .ref s3, .int u.2])), (t3, .inl (ct3, 24 * R3, .inl f8)), (s3, .inl (cs3, R3, .inl g8)), (ch, .inl (cc9, 24, .inl h9)), (e2, .inr (3, [.int (nI R2), .ref t2, .ref s2, .int m2])), (t2, .inl (ct2, 24 * R2, .inl ft2)), (s2, .inl (cs2, R2, .inl fs2))] t.heap ∧ va_K (dC, dI) vwCl [(ct1, .int), (cs1, .int), (ct3, .int), (cs3, .int), (cc9, .int), (ct2, .int), (cs2, .int)] t ∧ va_D A [(e1, .inr (3, [.int (nI R1), .ref t1, .ref s1, .int u.1])), (t1, .inl (ct1, 24 * R1, .inl f9)), (s1, .inl (cs1, R1, .inl g9)), (e3, .inr (3, [.int (nI R3), .ref t3, .ref s3, .int u.2])), (t3, .inl (ct3, 24 * R3, .inl f8)), (s3, .inl (cs3, R3, .inl g8)), (ch, .inl (cc9, 24, .inl h9)), (e2, .inr (3, [.int (nI R2), .ref t2, .ref s2, .int m2])), (t2, .inl (ct2, 24 * R2, .inl ft2)), (s2, .inl (cs2, R2, .inl fs2))]) A) ([.ref e1, .ref e2, .ref e3, .ref ch]).toArray s 0 0 A) (F0 m 16 ls []) := by
      intro n_16
      induction n_16 with
      | zero => intro ii za ga gb gc v16_0 v16_1 v16_2 hb_gb hm16; exact absurd hm16 (Nat.not_lt_zero _)
      | succ n_16 ih16 =>
        intro ii za ga gb gc v16_0 v16_1 v16_2 hb_gb hm16 H locs ls hP hD hS hl
        have rg_ii := i_rng ii
        have rg_za := i_rng za
        refine lv_iload hx hb dX3_needBoth_16 (lv_at hl 0 rfl) ?_
        refine lv_aload_n hx hb dX3_needBoth_18 rfl (lv_at hl 1 rfl) ?_
        refine va_get (D := (dC, dI)) (ci := 3) (v := .int m1) (C := RX3) (T := TX3) (N := 4) hx hb hts fin_X3_needBoth_X3 hown hK hP 0 rfl rfl 3 (by decide) (hts (.fieldLink RX3 44 "PatternGate$Need" "size" "I") (List.mem_of_getElem? (i := 2) (by decide +kernel))) (fun _ h9 => h9) rfl dX3_needBoth_19 ?_
        refine lv_icmp_ge (tgt := 129) hx hb dX3_needBoth_22 (by decide) (fun k_4 => ?_) (fun k_4 => ?_)
        · have tk_4 := c_ge (a := ii.toInt) (b := m1.toInt) rfl rfl k_4
          refine lv_aload_n hx hb dX3_needBoth_129 rfl (lv_at hl 3 rfl) ?_
          refine va_get (D := (dC, dI)) (ci := 3) (v := .int za) (C := RX3) (T := TX3) (N := 4) hx hb hts fin_X3_needBoth_X3 hown hK hP 3 rfl rfl 3 (by decide) (hts (.fieldLink RX3 44 "PatternGate$Need" "size" "I") (List.mem_of_getElem? (i := 2) (by decide +kernel))) (fun _ h9 => h9) rfl dX3_needBoth_130 ?_
          refine lv_bipush (v := 12) hx hb dX3_needBoth_133 (by decide) ?_
          refine lv_icmp_gt (tgt := 143) hx hb dX3_needBoth_135 (by decide) (fun k_5 => ?_) (fun k_5 => ?_)
          · have tk_5 := c_gt (a := za.toInt) (b := 12) rfl (by decide) k_5
            have hP9 := hP.sub (ws' := [(e1, .inr (3, [.int (nI R1), .ref t1, .ref s1, .int m1])), (t1, .inl (ct1, 24 * R1, .inl ft1)), (s1, .inl (cs1, R1, .inl fs1)), (e3, .inr (3, [.int (nI R3), .ref t3, .ref s3, .int za])), (t3, .inl (ct3, 24 * R3, .inl ga)), (s3, .inl (cs3, R3, .inl gb)), (ch, .inl (cc9, 24, .inl gc)), (e2, .inr (3, [.int (nI R2), .ref t2, .ref s2, .int m2])), (t2, .inl (ct2, 24 * R2, .inl ft2)), (s2, .inl (cs2, R2, .inl fs2))]) [0, 1, 2, 3, 4, 5, 6, 7, 8, 9] rfl
            have hD9 := hD.sub (ws' := [(e1, .inr (3, [.int (nI R1), .ref t1, .ref s1, .int m1])), (t1, .inl (ct1, 24 * R1, .inl ft1)), (s1, .inl (cs1, R1, .inl fs1)), (e3, .inr (3, [.int (nI R3), .ref t3, .ref s3, .int za])), (t3, .inl (ct3, 24 * R3, .inl ga)), (s3, .inl (cs3, R3, .inl gb)), (ch, .inl (cc9, 24, .inl gc)), (e2, .inr (3, [.int (nI R2), .ref t2, .ref s2, .int m2])), (t2, .inl (ct2, 24 * R2, .inl ft2)), (s2, .inl (cs2, R2, .inl fs2))]) [0, 1, 2, 3, 4, 5, 6, 7, 8, 9] (by decide) rfl
            have hK9 := hK.sub (tys' := [(ct1, .int), (cs1, .int), (ct3, .int), (cs3, .int), (cc9, .int), (ct2, .int), (cs2, .int)]) [0, 1, 2, 3, 4, 5, 6] rfl
            exact W.vret hx hb hr (fun t ht hW => ⟨⟨(m1, za), rfl, ⟨by dsimp only; omega, by dsimp only; omega⟩, ft1, fs1, ga, gb, gc, hb_fs1, hb_gb, by rw [ht]; exact hP9, va_K.moved hW.alike hK9, hD9⟩, hS.F ht⟩) hS.2.2 dX3_needBoth_143
          · have tk_5 := c_ngt (a := za.toInt) (b := 12) rfl (by decide) k_5
            refine lv_aload_n hx hb dX3_needBoth_138 rfl (lv_at hl 1 rfl) ?_
            refine lv_aload_n hx hb dX3_needBoth_139 rfl (lv_at hl 3 rfl) ?_
            have hPc := hP.sub (ws' := [(e1, .inr (3, [.int (nI R1), .ref t1, .ref s1, .int m1])), (t1, .inl (ct1, 24 * R1, .inl ft1)), (s1, .inl (cs1, R1, .inl fs1)), (e3, .inr (3, [.int (nI R3), .ref t3, .ref s3, .int za])), (t3, .inl (ct3, 24 * R3, .inl ga)), (s3, .inl (cs3, R3, .inl gb))]) [0, 1, 2, 3, 4, 5] rfl
            have hKc := hK.sub (tys' := [(ct1, .int), (cs1, .int), (ct3, .int), (cs3, .int)]) [0, 1, 2, 3] rfl
            have hDc := hD.sub (ws' := [(e1, .inr (3, [.int (nI R1), .ref t1, .ref s1, .int m1])), (t1, .inl (ct1, 24 * R1, .inl ft1)), (s1, .inl (cs1, R1, .inl fs1)), (e3, .inr (3, [.int (nI R3), .ref t3, .ref s3, .int za])), (t3, .inl (ct3, 24 * R3, .inl ga)), (s3, .inl (cs3, R3, .inl gb))]) [0, 1, 2, 3, 4, 5] (by decide) rfl
            have hFc := va_free (wc := [(e1, .inr (3, [.int (nI R1), .ref t1, .ref s1, .int m1])), (t1, .inl (ct1, 24 * R1, .inl ft1)), (s1, .inl (cs1, R1, .inl fs1)), (e3, .inr (3, [.int (nI R3), .ref t3, .ref s3, .int za])), (t3, .inl (ct3, 24 * R3, .inl ga)), (s3, .inl (cs3, R3, .inl gb))]) hD hS hA [0, 1, 2, 3, 4, 5] rfl
            refine va_callv (va_runV (As := [.ref e3]) (rest := []) ⟨hx, hb, hml, hown, hts⟩ (s_Need_take l dC dI e1 t1 s1 R1 ct1 cs1 ft1 fs1 m1 e3 t3 s3 R3 ct3 cs3 ga gb za H.size (by first | omega | decide | (have l0 := Int32.toInt_zero; omega)) (by first | omega | decide | (have l0 := Int32.toInt_zero; omega)) (by first | omega | decide | (have l0 := Int32.toInt_zero; omega)) (by first | omega | decide | (have l0 := Int32.toInt_zero; omega)) hb_fs1 (by first | omega | decide | (have l0 := Int32.toInt_zero; omega)) (by first | omega | decide | (have l0 := Int32.toInt_zero; omega)) (by first | omega | decide | (have l0 := Int32.toInt_zero; omega)) (by first | omega | decide | (have l0 := Int32.toInt_zero; omega)) hb_gb) (cwV 1 hts mg_X3_needBoth_X3_take_79 rfl rfl rfl (by decide +kernel) ⟨Nat.le_of_ble_eq_true rfl, Nat.le_of_ble_eq_true rfl⟩) ⟨fun a U g mk q => by obtain ⟨q0, q1, qP, qK, qD⟩ := q; exact ⟨q0, q1, qP, va_K.moved (u := U) (U := U.calling g mk a) (Vm.Alike.refl U.vm) qK, qD⟩, va_recv hKc hPc (ci := 3) (q0 := 0) rfl rfl, fun U hU hW => ⟨rfl, by rw [hU], by rw [hU]; exact hPc, va_K.moved hW.alike hKc, hDc.weaken (fun _ _ _ _ => trivial)⟩⟩ rfl rfl hl.1 rfl (lv_room (Nat.le_of_ble_eq_true rfl)) dX3_needBoth_140 ⟨Nat.le_of_ble_eq_true rfl, Nat.le_of_ble_eq_true rfl⟩) hS (fun q _ h => hFc q h) hFc (fun u t H1 locs ht hvm hw hB hz1 hk1 hS => ?_)
            obtain ⟨f_9, f_10, hb_f_10, hP1, hK1, hD1⟩ := hB
            rw [ht] at hP1
            generalize u = u_8 at hw hP1 hD1
            have hu_8 := hw
            obtain ⟨hP, hD⟩ := va_join (wr := [(ch, .inl (cc9, 24, .inl gc)), (e2, .inr (3, [.int (nI R2), .ref t2, .ref s2, .int m2])), (t2, .inl (ct2, 24 * R2, .inl ft2)), (s2, .inl (cs2, R2, .inl fs2))]) (w1 := [(e1, .inr (3, [.int (nI R1), .ref t1, .ref s1, .int u_8])), (t1, .inl (ct1, 24 * R1, .inl f_9)), (s1, .inl (cs1, R1, .inl f_10)), (e3, .inr (3, [.int (nI R3), .ref t3, .ref s3, .int za])), (t3, .inl (ct3, 24 * R3, .inl ga)), (s3, .inl (cs3, R3, .inl gb))]) hP hD [0, 1, 2, 3, 4, 5] [6, 7, 8, 9] rfl rfl (by decide) (by decide) hk1 hFc hP1 hD1
            generalize H1 = H at hP hS ⊢
            have hP : va_P (dC, dI) vwCl [(ch, .inl (cc9, 24, .inl gc)), (e2, .inr (3, [.int (nI R2), .ref t2, .ref s2, .int m2])), (t2, .inl (ct2, 24 * R2, .inl ft2)), (s2, .inl (cs2, R2, .inl fs2)), (e1, .inr (3, [.int (nI R1), .ref t1, .ref s1, .int u_8])), (t1, .inl (ct1, 24 * R1, .inl f_9)), (s1, .inl (cs1, R1, .inl f_10)), (e3, .inr (3, [.int (nI R3), .ref t3, .ref s3, .int za])), (t3, .inl (ct3, 24 * R3, .inl ga)), (s3, .inl (cs3, R3, .inl gb))] H := hP
            have hD : va_D A [(ch, .inl (cc9, 24, .inl gc)), (e2, .inr (3, [.int (nI R2), .ref t2, .ref s2, .int m2])), (t2, .inl (ct2, 24 * R2, .inl ft2)), (s2, .inl (cs2, R2, .inl fs2)), (e1, .inr (3, [.int (nI R1), .ref t1, .ref s1, .int u_8])), (t1, .inl (ct1, 24 * R1, .inl f_9)), (s1, .inl (cs1, R1, .inl f_10)), (e3, .inr (3, [.int (nI R3), .ref t3, .ref s3, .int za])), (t3, .inl (ct3, 24 * R3, .inl ga)), (s3, .inl (cs3, R3, .inl gb))] := hD
            have hP9 := hP.sub (ws' := [(e1, .inr (3, [.int (nI R1), .ref t1, .ref s1, .int u_8])), (t1, .inl (ct1, 24 * R1, .inl f_9)), (s1, .inl (cs1, R1, .inl f_10)), (e3, .inr (3, [.int (nI R3), .ref t3, .ref s3, .int za])), (t3, .inl (ct3, 24 * R3, .inl ga)), (s3, .inl (cs3, R3, .inl gb)), (ch, .inl (cc9, 24, .inl gc)), (e2, .inr (3, [.int (nI R2), .ref t2, .ref s2, .int m2])), (t2, .inl (ct2, 24 * R2, .inl ft2)), (s2, .inl (cs2, R2, .inl fs2))]) [4, 5, 6, 7, 8, 9, 0, 1, 2, 3] rfl
            have hD9 := hD.sub (ws' := [(e1, .inr (3, [.int (nI R1), .ref t1, .ref s1, .int u_8])), (t1, .inl (ct1, 24 * R1, .inl f_9)), (s1, .inl (cs1, R1, .inl f_10)), (e3, .inr (3, [.int (nI R3), .ref t3, .ref s3, .int za])), (t3, .inl (ct3, 24 * R3, .inl ga)), (s3, .inl (cs3, R3, .inl gb)), (ch, .inl (cc9, 24, .inl gc)), (e2, .inr (3, [.int (nI R2), .ref t2, .ref s2, .int m2])), (t2, .inl (ct2, 24 * R2, .inl ft2)), (s2, .inl (cs2, R2, .inl fs2))]) [4, 5, 6, 7, 8, 9, 0, 1, 2, 3] (by decide) rfl
            have hK9 := hK.sub (tys' := [(ct1, .int), (cs1, .int), (ct3, .int), (cs3, .int), (cc9, .int), (ct2, .int), (cs2, .int)]) [0, 1, 2, 3, 4, 5, 6] rfl
            exact W.vret hx hb hr (fun t ht hW => ⟨⟨(u_8, za), rfl, ⟨by dsimp only; omega, by dsimp only; omega⟩, f_9, f_10, ga, gb, gc, hb_f_10, hb_gb, by rw [ht]; exact hP9, va_K.moved hW.alike hK9, hD9⟩, hS.F ht⟩) hS.2.2 dX3_needBoth_143
        · have tk_4 := c_nge (a := ii.toInt) (b := m1.toInt) rfl rfl k_4
          refine lv_iconst (v := 0) hx hb dX3_needBoth_25 (by decide) ?_
          refine lv_istore (lv' := [(5, .int 0), (4, .int ii), (0, .ref e1), (1, .ref e2), (2, .ref e3), (3, .ref ch)]) hx hb dX3_needBoth_26 hl (by decide) rfl (fun ls hl => ?_)
          have loop28 : ∀ (n_28 : Nat) (kk zb : Int32) (gd : Nat → Int32) (ge : Nat → Int32) (gf : Nat → Int32), (0 ≤ kk.toInt) → (0 ≤ zb.toInt) → (zb.toInt ≤ R3) → (∀ i, 0 ≤ (ge i).toInt ∧ (ge i).toInt ≤ 24) → ((m2.toInt - kk.toInt).toNat) < n_28 → ∀ (H : Heap) (locs : List Loc) (ls : Array Slot), va_P (dC, dI) vwCl [(e1, .inr (3, [.int (nI R1), .ref t1, .ref s1, .int m1])), (t1, .inl (ct1, 24 * R1, .inl ft1)), (s1, .inl (cs1, R1, .inl fs1)), (e3, .inr (3, [.int (nI R3), .ref t3, .ref s3, .int zb])), (t3, .inl (ct3, 24 * R3, .inl gd)), (s3, .inl (cs3, R3, .inl ge)), (ch, .inl (cc9, 24, .inl gf)), (e2, .inr (3, [.int (nI R2), .ref t2, .ref s2, .int m2])), (t2, .inl (ct2, 24 * R2, .inl ft2)), (s2, .inl (cs2, R2, .inl fs2))] H → va_D A [(e1, .inr (3, [.int (nI R1), .ref t1, .ref s1, .int m1])), (t1, .inl (ct1, 24 * R1, .inl ft1)), (s1, .inl (cs1, R1, .inl fs1)), (e3, .inr (3, [.int (nI R3), .ref t3, .ref s3, .int zb])), (t3, .inl (ct3, 24 * R3, .inl gd)), (s3, .inl (cs3, R3, .inl ge)), (ch, .inl (cc9, 24, .inl gf)), (e2, .inr (3, [.int (nI R2), .ref t2, .ref s2, .int m2])), (t2, .inl (ct2, 24 * R2, .inl ft2)), (s2, .inl (cs2, R2, .inl fs2))] → va_S A s.heap H locs → lv_has ls 8 [(5, .int kk), (4, .int ii), (0, .ref e1), (1, .ref e2), (2, .ref e3), (3, .ref ch)] → W p l e (headSpec mwX3_needBoth ({ frames := 2, cells := 0, slots := 0, locals := 120 })).room s m ([.ref e1, .ref e2, .ref e3, .ref ch]).toArray below meth c H locs 0 0 (MQ below (va_Qv (fun (u : Int32 × Int32) => (0 ≤ u.1.toInt ∧ u.1.toInt ≤ R1) ∧ (0 ≤ u.2.toInt ∧ u.2.toInt ≤ R3)) (fun u t => ∃ (f9 g9 f8 g8 h9 : Nat → Int32), (∀ i, 0 ≤ (g9 i).toInt ∧ (g9 i).toInt ≤ 24) ∧ (∀ i, 0 ≤ (g8 i).toInt ∧ (g8 i).toInt ≤ 24) ∧ va_P (dC, dI) vwCl [(e1, .inr (3, [.int (nI R1), .ref t1, .ref s1, .int u.1])), (t1, .inl (ct1, 24 * R1, .inl f9)), (s1, .inl (cs1, R1, .inl g9)), (e3, .inr (3, [.int (nI R3), .ref t3, .ref s3, .int u.2])), (t3, .inl (ct3, 24 * R3, .inl f8)), (s3, .inl (cs3, R3, .inl g8)), (ch, .inl (cc9, 24, .inl h9)), (e2, .inr (3, [.int (nI R2), .ref t2, .ref s2, .int m2])), (t2, .inl (ct2, 24 * R2, .inl ft2)), (s2, .inl (cs2, R2, .inl fs2))] t.heap ∧ va_K (dC, dI) vwCl [(ct1, .int), (cs1, .int), (ct3, .int), (cs3, .int), (cc9, .int), (ct2, .int), (cs2, .int)] t ∧ va_D A [(e1, .inr (3, [.int (nI R1), .ref t1, .ref s1, .int u.1])), (t1, .inl (ct1, 24 * R1, .inl f9)), (s1, .inl (cs1, R1, .inl g9)), (e3, .inr (3, [.int (nI R3), .ref t3, .ref s3, .int u.2])), (t3, .inl (ct3, 24 * R3, .inl f8)), (s3, .inl (cs3, R3, .inl g8)), (ch, .inl (cc9, 24, .inl h9)), (e2, .inr (3, [.int (nI R2), .ref t2, .ref s2, .int m2])), (t2, .inl (ct2, 24 * R2, .inl ft2)), (s2, .inl (cs2, R2, .inl fs2))]) A) ([.ref e1, .ref e2, .ref e3, .ref ch]).toArray s 0 0 A) (F0 m 28 ls []) := by
            intro n_28
            induction n_28 with
            | zero => intro kk zb gd ge gf v28_0 v28_1 v28_2 hb_ge hm28; exact absurd hm28 (Nat.not_lt_zero _)
            | succ n_28 ih28 =>
              intro kk zb gd ge gf v28_0 v28_1 v28_2 hb_ge hm28 H locs ls hP hD hS hl
              have rg_kk := i_rng kk
              have rg_zb := i_rng zb
              refine lv_iload hx hb dX3_needBoth_28 (lv_at hl 0 rfl) ?_
              refine lv_aload_n hx hb dX3_needBoth_30 rfl (lv_at hl 3 rfl) ?_
              refine va_get (D := (dC, dI)) (ci := 3) (v := .int m2) (C := RX3) (T := TX3) (N := 4) hx hb hts fin_X3_needBoth_X3 hown hK hP 7 rfl rfl 3 (by decide) (hts (.fieldLink RX3 44 "PatternGate$Need" "size" "I") (List.mem_of_getElem? (i := 2) (by decide +kernel))) (fun _ h9 => h9) rfl dX3_needBoth_31 ?_
              refine lv_icmp_ge (tgt := 123) hx hb dX3_needBoth_34 (by decide) (fun k_11 => ?_) (fun k_11 => ?_)
              · have tk_11 := c_ge (a := kk.toInt) (b := m2.toInt) rfl rfl k_11
                obtain ⟨y_12, ey_12⟩ : ∃ y : Int32, y = ii + 1 := ⟨_, rfl⟩
                first | have ty_12 := i_add (a := ii.toInt) (b := 1) rfl (by decide) ey_12 (by omega) (by omega) | skip
                refine lv_iinc (v := y_12) (lv' := [(4, .int y_12), (5, .int kk), (0, .ref e1), (1, .ref e2), (2, .ref e3), (3, .ref ch)]) hx hb dX3_needBoth_123 hl (k := 1) rfl (by rw [ey_12]; rfl) (by decide) rfl (fun ls hl => ?_)
                refine lv_goto (tgt := 16) hx hb dX3_needBoth_126 (by decide) ?_
                exact ih16 y_12 zb gd ge gf (by first | omega | decide | assumption) (by first | omega | decide | assumption) (by first | omega | decide | assumption) (by first | exact hb_ge | (intro i; decide)) (by omega) _ _ ls hP hD hS (lv_sub hl [0, 2, 3, 4, 5] rfl)
              · have tk_11 := c_nge (a := kk.toInt) (b := m2.toInt) rfl rfl k_11
                refine lv_aload_n hx hb dX3_needBoth_37 rfl (lv_at hl 2 rfl) ?_
                refine va_get (D := (dC, dI)) (ci := 3) (v := .ref s1) (C := RX3) (T := TX3) (N := 4) hx hb hts fin_X3_needBoth_X3 hown hK hP 0 rfl rfl 2 (by decide) (hts (.fieldLink RX3 25 "PatternGate$Need" "sizes" "[I") (List.mem_of_getElem? (i := 3) (by decide +kernel))) (fun _ h9 => h9) rfl dX3_needBoth_38 ?_
                refine lv_iload hx hb dX3_needBoth_41 (lv_at hl 1 rfl) ?_
                refine va_iald hx hb hK hP 2 1 rfl rfl (i := ii) (vp_of (a := ii.toInt) rfl (by omega) (by omega)) dX3_needBoth_43 ?_
                refine lv_topi (fun y_13 ey_13 => ?_)
                have rg_y_13 := i_rng y_13
                have by_13 : 0 ≤ y_13.toInt ∧ y_13.toInt ≤ 24 := by rw [ey_13]; exact hb_fs1 _
                refine lv_aload_n hx hb dX3_needBoth_44 rfl (lv_at hl 5 rfl) ?_
                refine va_alen (v := 24) hx hb hK hP 6 4 rfl rfl rfl dX3_needBoth_45 ?_
                refine va_mmin hx hb (hml.trans hl.1.symm) hown (hts (.methodLink RX3 47 Lib.Math.min.name) (List.mem_of_getElem? (i := 10) (by decide +kernel))) (hts (.static Lib.Math.min.name) (List.mem_of_getElem? (i := 11) (by decide +kernel))) (hts (.initialized "java/lang/Math") (List.mem_of_getElem? (i := 12) (by decide +kernel))) (hts (.code Lib.Math.min.name Lib.Math.min.code 2 (some .int)) (List.mem_of_getElem? (i := 13) (by decide +kernel))) (Nat.le_of_ble_eq_true rfl) (Nat.le_of_ble_eq_true rfl) (Nat.le_of_ble_eq_true rfl) (Nat.le_of_ble_eq_true rfl) dX3_needBoth_46 ?_
                refine lv_topi (fun y_14 ey_14 => ?_)
                have ty_14 := i_min (a := y_13.toInt) (b := 24) rfl (by decide) ey_14
                refine lv_istore (lv' := [(6, .int y_14), (5, .int kk), (4, .int ii), (0, .ref e1), (1, .ref e2), (2, .ref e3), (3, .ref ch)]) hx hb dX3_needBoth_49 hl (by decide) rfl (fun ls hl => ?_)
                refine lv_aload_n hx hb dX3_needBoth_51 rfl (lv_at hl 3 rfl) ?_
                refine va_get (D := (dC, dI)) (ci := 3) (v := .ref t1) (C := RX3) (T := TX3) (N := 4) hx hb hts fin_X3_needBoth_X3 hown hK hP 0 rfl rfl 1 (by decide) (hts (.fieldLink RX3 21 "PatternGate$Need" "triples" "[I") (List.mem_of_getElem? (i := 14) (by decide +kernel))) (fun _ h9 => h9) rfl dX3_needBoth_52 ?_
                refine lv_iload hx hb dX3_needBoth_55 (lv_at hl 2 rfl) ?_
                refine lv_bipush (v := 24) hx hb dX3_needBoth_57 (by decide) ?_
                refine lv_imul hx hb dX3_needBoth_59 ?_
                refine lv_topi (fun y_15 ey_15 => ?_)
                first | have ty_15 := i_mul (a := ii.toInt) (b := 24) rfl (by decide) ey_15 (by omega) (by omega) | skip
                refine lv_aload_n hx hb dX3_needBoth_60 rfl (lv_at hl 6 rfl) ?_
                refine lv_iconst (v := 0) hx hb dX3_needBoth_61 (by decide) ?_
                refine lv_iload hx hb dX3_needBoth_62 (lv_at hl 0 rfl) ?_
                refine va_copyi hx hb (hml.trans hl.1.symm) hown (hts (.methodLink RX3 38 arraycopyName) (List.mem_of_getElem? (i := 15) (by decide +kernel))) (hts (.native arraycopyName) (List.mem_of_getElem? (i := 16) (by decide +kernel))) (hts (.static arraycopyName) (List.mem_of_getElem? (i := 17) (by decide +kernel))) (hts (.initialized "java/lang/System") (List.mem_of_getElem? (i := 18) (by decide +kernel))) hK hP hD hS 1 6 0 4 rfl rfl rfl rfl rfl (i_nn (a := y_15.toInt) rfl (by omega)) (i_nn (a := 0) (by decide) (by omega)) (i_nn (a := y_14.toInt) rfl (by omega)) (cp_le (a := y_15.toInt) (b := y_14.toInt) rfl rfl (by omega) (by omega) (by omega)) (cp_le (a := 0) (b := y_14.toInt) (by decide) rfl (by omega) (by omega) (by omega)) (fun _ _ => rfl) (Nat.le_of_ble_eq_true rfl) (by decide +kernel) dX3_needBoth_64 (fun H locs hP hD hS => ?_)
                generalize hf_f_16 : va_cpy _ _ _ _ _ = f_16 at hP hD
                have hP : va_P (dC, dI) vwCl [(e1, .inr (3, [.int (nI R1), .ref t1, .ref s1, .int m1])), (t1, .inl (ct1, 24 * R1, .inl ft1)), (s1, .inl (cs1, R1, .inl fs1)), (e3, .inr (3, [.int (nI R3), .ref t3, .ref s3, .int zb])), (t3, .inl (ct3, 24 * R3, .inl gd)), (s3, .inl (cs3, R3, .inl ge)), (ch, .inl (cc9, 24, .inl f_16)), (e2, .inr (3, [.int (nI R2), .ref t2, .ref s2, .int m2])), (t2, .inl (ct2, 24 * R2, .inl ft2)), (s2, .inl (cs2, R2, .inl fs2))] H := hP
                have hD : va_D A [(e1, .inr (3, [.int (nI R1), .ref t1, .ref s1, .int m1])), (t1, .inl (ct1, 24 * R1, .inl ft1)), (s1, .inl (cs1, R1, .inl fs1)), (e3, .inr (3, [.int (nI R3), .ref t3, .ref s3, .int zb])), (t3, .inl (ct3, 24 * R3, .inl gd)), (s3, .inl (cs3, R3, .inl ge)), (ch, .inl (cc9, 24, .inl f_16)), (e2, .inr (3, [.int (nI R2), .ref t2, .ref s2, .int m2])), (t2, .inl (ct2, 24 * R2, .inl ft2)), (s2, .inl (cs2, R2, .inl fs2))] := hD
                refine lv_iconst (v := 0) hx hb dX3_needBoth_67 (by decide) ?_
                refine lv_istore (lv' := [(7, .int 0), (6, .int y_14), (5, .int kk), (4, .int ii), (0, .ref e1), (1, .ref e2), (2, .ref e3), (3, .ref ch)]) hx hb dX3_needBoth_68 hl (by decide) rfl (fun ls hl => ?_)
                have loop70 : ∀ (n_70 : Nat) (mn tt : Int32) (gg : Nat → Int32), (0 ≤ tt.toInt) → (tt.toInt ≤ 24) → (0 ≤ mn.toInt) → (mn.toInt ≤ 24) → ((30 - tt.toInt).toNat) < n_70 → ∀ (H : Heap) (locs : List Loc) (ls : Array Slot), va_P (dC, dI) vwCl [(e1, .inr (3, [.int (nI R1), .ref t1, .ref s1, .int m1])), (t1, .inl (ct1, 24 * R1, .inl ft1)), (s1, .inl (cs1, R1, .inl fs1)), (e3, .inr (3, [.int (nI R3), .ref t3, .ref s3, .int zb])), (t3, .inl (ct3, 24 * R3, .inl gd)), (s3, .inl (cs3, R3, .inl ge)), (ch, .inl (cc9, 24, .inl gg)), (e2, .inr (3, [.int (nI R2), .ref t2, .ref s2, .int m2])), (t2, .inl (ct2, 24 * R2, .inl ft2)), (s2, .inl (cs2, R2, .inl fs2))] H → va_D A [(e1, .inr (3, [.int (nI R1), .ref t1, .ref s1, .int m1])), (t1, .inl (ct1, 24 * R1, .inl ft1)), (s1, .inl (cs1, R1, .inl fs1)), (e3, .inr (3, [.int (nI R3), .ref t3, .ref s3, .int zb])), (t3, .inl (ct3, 24 * R3, .inl gd)), (s3, .inl (cs3, R3, .inl ge)), (ch, .inl (cc9, 24, .inl gg)), (e2, .inr (3, [.int (nI R2), .ref t2, .ref s2, .int m2])), (t2, .inl (ct2, 24 * R2, .inl ft2)), (s2, .inl (cs2, R2, .inl fs2))] → va_S A s.heap H locs → lv_has ls 8 [(7, .int tt), (6, .int mn), (5, .int kk), (4, .int ii), (0, .ref e1), (1, .ref e2), (2, .ref e3), (3, .ref ch)] → W p l e (headSpec mwX3_needBoth ({ frames := 2, cells := 0, slots := 0, locals := 120 })).room s m ([.ref e1, .ref e2, .ref e3, .ref ch]).toArray below meth c H locs 0 0 (MQ below (va_Qv (fun (u : Int32 × Int32) => (0 ≤ u.1.toInt ∧ u.1.toInt ≤ R1) ∧ (0 ≤ u.2.toInt ∧ u.2.toInt ≤ R3)) (fun u t => ∃ (f9 g9 f8 g8 h9 : Nat → Int32), (∀ i, 0 ≤ (g9 i).toInt ∧ (g9 i).toInt ≤ 24) ∧ (∀ i, 0 ≤ (g8 i).toInt ∧ (g8 i).toInt ≤ 24) ∧ va_P (dC, dI) vwCl [(e1, .inr (3, [.int (nI R1), .ref t1, .ref s1, .int u.1])), (t1, .inl (ct1, 24 * R1, .inl f9)), (s1, .inl (cs1, R1, .inl g9)), (e3, .inr (3, [.int (nI R3), .ref t3, .ref s3, .int u.2])), (t3, .inl (ct3, 24 * R3, .inl f8)), (s3, .inl (cs3, R3, .inl g8)), (ch, .inl (cc9, 24, .inl h9)), (e2, .inr (3, [.int (nI R2), .ref t2, .ref s2, .int m2])), (t2, .inl (ct2, 24 * R2, .inl ft2)), (s2, .inl (cs2, R2, .inl fs2))] t.heap ∧ va_K (dC, dI) vwCl [(ct1, .int), (cs1, .int), (ct3, .int), (cs3, .int), (cc9, .int), (ct2, .int), (cs2, .int)] t ∧ va_D A [(e1, .inr (3, [.int (nI R1), .ref t1, .ref s1, .int u.1])), (t1, .inl (ct1, 24 * R1, .inl f9)), (s1, .inl (cs1, R1, .inl g9)), (e3, .inr (3, [.int (nI R3), .ref t3, .ref s3, .int u.2])), (t3, .inl (ct3, 24 * R3, .inl f8)), (s3, .inl (cs3, R3, .inl g8)), (ch, .inl (cc9, 24, .inl h9)), (e2, .inr (3, [.int (nI R2), .ref t2, .ref s2, .int m2])), (t2, .inl (ct2, 24 * R2, .inl ft2)), (s2, .inl (cs2, R2, .inl fs2))]) A) ([.ref e1, .ref e2, .ref e3, .ref ch]).toArray s 0 0 A) (F0 m 70 ls []) := by
                  intro n_70
                  induction n_70 with
                  | zero => intro mn tt gg v70_0 v70_1 v70_2 v70_3 hm70; exact absurd hm70 (Nat.not_lt_zero _)
                  | succ n_70 ih70 =>
                    intro mn tt gg v70_0 v70_1 v70_2 v70_3 hm70 H locs ls hP hD hS hl
                    have rg_mn := i_rng mn
                    have rg_tt := i_rng tt
                    refine lv_iload hx hb dX3_needBoth_70 (lv_at hl 0 rfl) ?_
                    refine lv_aload_n hx hb dX3_needBoth_72 rfl (lv_at hl 5 rfl) ?_
                    refine va_get (D := (dC, dI)) (ci := 3) (v := .ref s2) (C := RX3) (T := TX3) (N := 4) hx hb hts fin_X3_needBoth_X3 hown hK hP 7 rfl rfl 2 (by decide) (hts (.fieldLink RX3 25 "PatternGate$Need" "sizes" "[I") (List.mem_of_getElem? (i := 3) (by decide +kernel))) (fun _ h9 => h9) rfl dX3_needBoth_73 ?_
                    refine lv_iload hx hb dX3_needBoth_76 (lv_at hl 2 rfl) ?_
                    refine va_iald hx hb hK hP 9 6 rfl rfl (i := kk) (vp_of (a := kk.toInt) rfl (by omega) (by omega)) dX3_needBoth_78 ?_
                    refine lv_topi (fun y_17 ey_17 => ?_)
                    have rg_y_17 := i_rng y_17
                    have by_17 : 0 ≤ y_17.toInt ∧ y_17.toInt ≤ 24 := by rw [ey_17]; exact hb_fs2 _
                    refine lv_icmp_ge (tgt := 109) hx hb dX3_needBoth_79 (by decide) (fun k_18 => ?_) (fun k_18 => ?_)
                    · have tk_18 := c_ge (a := tt.toInt) (b := y_17.toInt) rfl rfl k_18
                      refine lv_aload_n hx hb dX3_needBoth_109 rfl (lv_at hl 6 rfl) ?_
                      refine lv_aload_n hx hb dX3_needBoth_110 rfl (lv_at hl 7 rfl) ?_
                      refine lv_iconst (v := 0) hx hb dX3_needBoth_111 (by decide) ?_
                      refine lv_iload hx hb dX3_needBoth_112 (lv_at hl 1 rfl) ?_
                      have hPc := hP.sub (ws' := [(e3, .inr (3, [.int (nI R3), .ref t3, .ref s3, .int zb])), (t3, .inl (ct3, 24 * R3, .inl gd)), (s3, .inl (cs3, R3, .inl ge)), (ch, .inl (cc9, 24, .inl gg))]) [3, 4, 5, 6] rfl
                      have hKc := hK.sub (tys' := [(ct3, .int), (cs3, .int), (cc9, .int)]) [2, 3, 4] rfl
                      have hDc := hD.sub (ws' := [(e3, .inr (3, [.int (nI R3), .ref t3, .ref s3, .int zb])), (t3, .inl (ct3, 24 * R3, .inl gd)), (s3, .inl (cs3, R3, .inl ge)), (ch, .inl (cc9, 24, .inl gg))]) [3, 4, 5, 6] (by decide) rfl
                      have hFc := va_free (wc := [(e3, .inr (3, [.int (nI R3), .ref t3, .ref s3, .int zb])), (t3, .inl (ct3, 24 * R3, .inl gd)), (s3, .inl (cs3, R3, .inl ge)), (ch, .inl (cc9, 24, .inl gg))]) hD hS hA [3, 4, 5, 6] rfl
                      refine va_callv (va_runV (As := [.ref ch, .int 0, .int mn]) (rest := []) ⟨hx, hb, hml, hown, hts⟩ (s_Need_add l dC dI e3 t3 s3 R3 ct3 cs3 gd ge zb ch 24 cc9 gg H.size 0 mn (by first | omega | decide | (have l0 := Int32.toInt_zero; omega)) (by first | omega | decide | (have l0 := Int32.toInt_zero; omega)) (by first | omega | decide | (have l0 := Int32.toInt_zero; omega)) (by first | omega | decide | (have l0 := Int32.toInt_zero; omega)) hb_ge (by first | omega | decide | (have l0 := Int32.toInt_zero; omega)) (by first | omega | decide | (have l0 := Int32.toInt_zero; omega)) (by first | omega | decide | (have l0 := Int32.toInt_zero; omega)) (by first | omega | decide | (have l0 := Int32.toInt_zero; omega))) (cwV 3 hts mg_X3_needBoth_X3_add_71 rfl rfl rfl (by decide +kernel) ⟨Nat.le_of_ble_eq_true rfl, Nat.le_of_ble_eq_true rfl⟩) ⟨fun a U g mk q => by obtain ⟨q0, q1, qP, qK, qD⟩ := q; exact ⟨q0, q1, qP, va_K.moved (u := U) (U := U.calling g mk a) (Vm.Alike.refl U.vm) qK, qD⟩, va_recv hKc hPc (ci := 3) (q0 := 0) rfl rfl, fun U hU hW => ⟨rfl, by rw [hU], by rw [hU]; exact hPc, va_K.moved hW.alike hKc, hDc.weaken (fun _ _ _ _ => trivial)⟩⟩ rfl rfl hl.1 rfl (lv_room (Nat.le_of_ble_eq_true rfl)) dX3_needBoth_114 ⟨Nat.le_of_ble_eq_true rfl, Nat.le_of_ble_eq_true rfl⟩) hS (fun q _ h => hFc q h) hFc (fun u t H1 locs ht hvm hw hB hz1 hk1 hS => ?_)
                      obtain ⟨f_22, f_23, hb_f_23, hP1, hK1, hD1⟩ := hB
                      rw [ht] at hP1
                      generalize u = u_21 at hw hP1 hD1
                      have hu_21 := hw
                      obtain ⟨hP, hD⟩ := va_join (wr := [(e1, .inr (3, [.int (nI R1), .ref t1, .ref s1, .int m1])), (t1, .inl (ct1, 24 * R1, .inl ft1)), (s1, .inl (cs1, R1, .inl fs1)), (e2, .inr (3, [.int (nI R2), .ref t2, .ref s2, .int m2])), (t2, .inl (ct2, 24 * R2, .inl ft2)), (s2, .inl (cs2, R2, .inl fs2))]) (w1 := [(e3, .inr (3, [.int (nI R3), .ref t3, .ref s3, .int u_21])), (t3, .inl (ct3, 24 * R3, .inl f_22)), (s3, .inl (cs3, R3, .inl f_23)), (ch, .inl (cc9, 24, .inl gg))]) hP hD [3, 4, 5, 6] [0, 1, 2, 7, 8, 9] rfl rfl (by decide) (by decide) hk1 hFc hP1 hD1
                      generalize H1 = H at hP hS ⊢
                      have hP : va_P (dC, dI) vwCl [(e1, .inr (3, [.int (nI R1), .ref t1, .ref s1, .int m1])), (t1, .inl (ct1, 24 * R1, .inl ft1)), (s1, .inl (cs1, R1, .inl fs1)), (e2, .inr (3, [.int (nI R2), .ref t2, .ref s2, .int m2])), (t2, .inl (ct2, 24 * R2, .inl ft2)), (s2, .inl (cs2, R2, .inl fs2)), (e3, .inr (3, [.int (nI R3), .ref t3, .ref s3, .int u_21])), (t3, .inl (ct3, 24 * R3, .inl f_22)), (s3, .inl (cs3, R3, .inl f_23)), (ch, .inl (cc9, 24, .inl gg))] H := hP
                      have hD : va_D A [(e1, .inr (3, [.int (nI R1), .ref t1, .ref s1, .int m1])), (t1, .inl (ct1, 24 * R1, .inl ft1)), (s1, .inl (cs1, R1, .inl fs1)), (e2, .inr (3, [.int (nI R2), .ref t2, .ref s2, .int m2])), (t2, .inl (ct2, 24 * R2, .inl ft2)), (s2, .inl (cs2, R2, .inl fs2)), (e3, .inr (3, [.int (nI R3), .ref t3, .ref s3, .int u_21])), (t3, .inl (ct3, 24 * R3, .inl f_22)), (s3, .inl (cs3, R3, .inl f_23)), (ch, .inl (cc9, 24, .inl gg))] := hD
                      obtain ⟨y_24, ey_24⟩ : ∃ y : Int32, y = kk + 1 := ⟨_, rfl⟩
                      first | have ty_24 := i_add (a := kk.toInt) (b := 1) rfl (by decide) ey_24 (by omega) (by omega) | skip
                      refine lv_iinc (v := y_24) (lv' := [(5, .int y_24), (7, .int tt), (6, .int mn), (4, .int ii), (0, .ref e1), (1, .ref e2), (2, .ref e3), (3, .ref ch)]) hx hb dX3_needBoth_117 hl (k := 2) rfl (by rw [ey_24]; rfl) (by decide) rfl (fun ls hl => ?_)
                      refine lv_goto (tgt := 28) hx hb dX3_needBoth_120 (by decide) ?_
                      exact ih28 y_24 u_21 f_22 f_23 gg (by first | omega | decide | assumption) (by first | omega | decide | assumption) (by first | omega | decide | assumption) (by first | exact hb_f_23 | (intro i; decide)) (by omega) _ _ ls (hP.sub [0, 1, 2, 6, 7, 8, 9, 3, 4, 5] rfl) (hD.sub [0, 1, 2, 6, 7, 8, 9, 3, 4, 5] (by decide) rfl) hS (lv_sub hl [0, 3, 4, 5, 6, 7] rfl)
                    · have tk_18 := c_nge (a := tt.toInt) (b := y_17.toInt) rfl rfl k_18
                      refine lv_aload_n hx hb dX3_needBoth_82 rfl (lv_at hl 7 rfl) ?_
                      refine lv_iload hx hb dX3_needBoth_83 (lv_at hl 1 rfl) ?_
                      refine lv_aload_n hx hb dX3_needBoth_85 rfl (lv_at hl 5 rfl) ?_
                      refine va_get (D := (dC, dI)) (ci := 3) (v := .ref t2) (C := RX3) (T := TX3) (N := 4) hx hb hts fin_X3_needBoth_X3 hown hK hP 7 rfl rfl 1 (by decide) (hts (.fieldLink RX3 21 "PatternGate$Need" "triples" "[I") (List.mem_of_getElem? (i := 14) (by decide +kernel))) (fun _ h9 => h9) rfl dX3_needBoth_86 ?_
                      refine lv_iload hx hb dX3_needBoth_89 (lv_at hl 2 rfl) ?_
                      refine lv_bipush (v := 24) hx hb dX3_needBoth_91 (by decide) ?_
                      refine lv_imul hx hb dX3_needBoth_93 ?_
                      refine lv_topi (fun y_25 ey_25 => ?_)
                      first | have ty_25 := i_mul (a := kk.toInt) (b := 24) rfl (by decide) ey_25 (by omega) (by omega) | skip
                      refine lv_iload hx hb dX3_needBoth_94 (lv_at hl 0 rfl) ?_
                      refine lv_iadd hx hb dX3_needBoth_96 ?_
                      refine lv_topi (fun y_26 ey_26 => ?_)
                      first | have ty_26 := i_add (a := y_25.toInt) (b := tt.toInt) rfl rfl ey_26 (by omega) (by omega) | skip
                      refine va_iald hx hb hK hP 8 5 rfl rfl (i := y_26) (vp_of (a := y_26.toInt) rfl (by omega) (by omega)) dX3_needBoth_97 ?_
                      refine lv_topi (fun y_27 ey_27 => ?_)
                      have rg_y_27 := i_rng y_27
                      have hPc := hP.sub (ws' := [(ch, .inl (cc9, 24, .inl gg))]) [6] rfl
                      have hKc := hK.sub (tys' := [(cc9, .int)]) [4] rfl
                      have hDc := hD.sub (ws' := [(ch, .inl (cc9, 24, .inl gg))]) [6] (by decide) rfl
                      have hFc := va_free (wc := [(ch, .inl (cc9, 24, .inl gg))]) hD hS hA [6] rfl
                      refine va_calli (va_runS (As := [.ref ch, .int mn, .int y_27]) (rest := []) ⟨hx, hb, hml, hown, hts⟩ (s_insert l dC dI ch 24 cc9 gg H.size mn y_27 (by first | omega | decide | (have l0 := Int32.toInt_zero; omega)) (by first | omega | decide | (have l0 := Int32.toInt_zero; omega)) (by first | omega | decide | (have l0 := Int32.toInt_zero; omega))) (va_cwS 3 hts mg_X3_needBoth_X3_insert_28 rfl rfl rfl (by decide +kernel) ⟨Nat.le_of_ble_eq_true rfl, Nat.le_of_ble_eq_true rfl⟩) ⟨fun a U g mk q => by obtain ⟨q0, q1, qP, qK, qD⟩ := q; exact ⟨q0, q1, qP, va_K.moved (u := U) (U := U.calling g mk a) (Vm.Alike.refl U.vm) qK, qD⟩, fun U hU hW => ⟨rfl, by rw [hU], by rw [hU]; exact hPc, va_K.moved hW.alike hKc, hDc.weaken (fun _ _ _ _ => trivial)⟩⟩ rfl rfl hl.1 rfl (lv_room (Nat.le_of_ble_eq_true rfl)) dX3_needBoth_98 ⟨Nat.le_of_ble_eq_true rfl, Nat.le_of_ble_eq_true rfl⟩) hS (fun q _ h => hFc q h) hFc (fun r_29 u t H1 locs ht hvm hw hB hz1 hk1 hS => ?_)
                      obtain ⟨f_30, hP1, hK1, hD1⟩ := hB
                      rw [ht] at hP1
                      have hr_29 := hw
                      obtain ⟨hP, hD⟩ := va_join (wr := [(e1, .inr (3, [.int (nI R1), .ref t1, .ref s1, .int m1])), (t1, .inl (ct1, 24 * R1, .inl ft1)), (s1, .inl (cs1, R1, .inl fs1)), (e3, .inr (3, [.int (nI R3), .ref t3, .ref s3, .int zb])), (t3, .inl (ct3, 24 * R3, .inl gd)), (s3, .inl (cs3, R3, .inl ge)), (e2, .inr (3, [.int (nI R2), .ref t2, .ref s2, .int m2])), (t2, .inl (ct2, 24 * R2, .inl ft2)), (s2, .inl (cs2, R2, .inl fs2))]) (w1 := [(ch, .inl (cc9, 24, .inl f_30))]) hP hD [6] [0, 1, 2, 3, 4, 5, 7, 8, 9] rfl rfl (by decide) (by decide) hk1 hFc hP1 hD1
                      generalize H1 = H at hP hS ⊢
                      have hP : va_P (dC, dI) vwCl [(e1, .inr (3, [.int (nI R1), .ref t1, .ref s1, .int m1])), (t1, .inl (ct1, 24 * R1, .inl ft1)), (s1, .inl (cs1, R1, .inl fs1)), (e3, .inr (3, [.int (nI R3), .ref t3, .ref s3, .int zb])), (t3, .inl (ct3, 24 * R3, .inl gd)), (s3, .inl (cs3, R3, .inl ge)), (e2, .inr (3, [.int (nI R2), .ref t2, .ref s2, .int m2])), (t2, .inl (ct2, 24 * R2, .inl ft2)), (s2, .inl (cs2, R2, .inl fs2)), (ch, .inl (cc9, 24, .inl f_30))] H := hP
                      have hD : va_D A [(e1, .inr (3, [.int (nI R1), .ref t1, .ref s1, .int m1])), (t1, .inl (ct1, 24 * R1, .inl ft1)), (s1, .inl (cs1, R1, .inl fs1)), (e3, .inr (3, [.int (nI R3), .ref t3, .ref s3, .int zb])), (t3, .inl (ct3, 24 * R3, .inl gd)), (s3, .inl (cs3, R3, .inl ge)), (e2, .inr (3, [.int (nI R2), .ref t2, .ref s2, .int m2])), (t2, .inl (ct2, 24 * R2, .inl ft2)), (s2, .inl (cs2, R2, .inl fs2)), (ch, .inl (cc9, 24, .inl f_30))] := hD
                      refine lv_istore (lv' := [(6, .int r_29), (7, .int tt), (5, .int kk), (4, .int ii), (0, .ref e1), (1, .ref e2), (2, .ref e3), (3, .ref ch)]) hx hb dX3_needBoth_101 hl (by decide) rfl (fun ls hl => ?_)
                      obtain ⟨y_31, ey_31⟩ : ∃ y : Int32, y = tt + 1 := ⟨_, rfl⟩
                      first | have ty_31 := i_add (a := tt.toInt) (b := 1) rfl (by decide) ey_31 (by omega) (by omega) | skip
                      refine lv_iinc (v := y_31) (lv' := [(7, .int y_31), (6, .int r_29), (5, .int kk), (4, .int ii), (0, .ref e1), (1, .ref e2), (2, .ref e3), (3, .ref ch)]) hx hb dX3_needBoth_103 hl (k := 1) rfl (by rw [ey_31]; rfl) (by decide) rfl (fun ls hl => ?_)
                      refine lv_goto (tgt := 70) hx hb dX3_needBoth_106 (by decide) ?_
                      exact ih70 r_29 y_31 f_30 (by first | omega | decide | assumption) (by first | omega | decide | assumption) (by first | omega | decide | assumption) (by first | omega | decide | assumption) (by omega) _ _ ls (hP.sub [0, 1, 2, 3, 4, 5, 9, 6, 7, 8] rfl) (hD.sub [0, 1, 2, 3, 4, 5, 9, 6, 7, 8] (by decide) rfl) hS (lv_sub hl [0, 1, 2, 3, 4, 5, 6, 7] rfl)
                have lit_31 : (0 : Int32).toInt = 0 := by decide
                exact loop70 _ y_14 0 f_16 (by first | omega | decide | assumption) (by first | omega | decide | assumption) (by first | omega | decide | assumption) (by first | omega | decide | assumption) (Nat.lt_succ_self _) _ _ ls hP hD hS (lv_sub hl [0, 1, 2, 3, 4, 5, 6, 7] rfl)
          have lit_32 : (0 : Int32).toInt = 0 := by decide
          exact loop28 _ 0 za ga gb gc (by first | omega | decide | assumption) (by first | omega | decide | assumption) (by first | omega | decide | assumption) (by first | exact hb_gb | (intro i; decide)) (Nat.lt_succ_self _) _ _ ls hP hD hS (lv_sub hl [0, 1, 2, 3, 4, 5] rfl)
    have lit_33 : (0 : Int32).toInt = 0 := by decide
    have lit_34 : (0 : Int32).toInt = 0 := by decide
    exact loop16 _ 0 0 ft3 fs3 fc (by first | omega | decide | assumption) (by first | omega | decide | assumption) (by first | omega | decide | assumption) (by first | exact hb_fs3 | (intro i; decide)) (Nat.lt_succ_self _) _ _ ls hP hD hS (lv_sub hl [0, 1, 2, 3, 4] rfl)
  · have tk_3 := c_ne (a := r_2.toInt) (b := 0) rfl (by decide) k_3
    have hP9 := hP.sub (ws' := [(e1, .inr (3, [.int (nI R1), .ref t1, .ref s1, .int m1])), (t1, .inl (ct1, 24 * R1, .inl ft1)), (s1, .inl (cs1, R1, .inl fs1)), (e3, .inr (3, [.int (nI R3), .ref t3, .ref s3, .int m3])), (t3, .inl (ct3, 24 * R3, .inl ft3)), (s3, .inl (cs3, R3, .inl fs3)), (ch, .inl (cc9, 24, .inl fc)), (e2, .inr (3, [.int (nI R2), .ref t2, .ref s2, .int m2])), (t2, .inl (ct2, 24 * R2, .inl ft2)), (s2, .inl (cs2, R2, .inl fs2))]) [0, 1, 2, 3, 4, 5, 6, 7, 8, 9] rfl
    have hD9 := hD.sub (ws' := [(e1, .inr (3, [.int (nI R1), .ref t1, .ref s1, .int m1])), (t1, .inl (ct1, 24 * R1, .inl ft1)), (s1, .inl (cs1, R1, .inl fs1)), (e3, .inr (3, [.int (nI R3), .ref t3, .ref s3, .int m3])), (t3, .inl (ct3, 24 * R3, .inl ft3)), (s3, .inl (cs3, R3, .inl fs3)), (ch, .inl (cc9, 24, .inl fc)), (e2, .inr (3, [.int (nI R2), .ref t2, .ref s2, .int m2])), (t2, .inl (ct2, 24 * R2, .inl ft2)), (s2, .inl (cs2, R2, .inl fs2))]) [0, 1, 2, 3, 4, 5, 6, 7, 8, 9] (by decide) rfl
    have hK9 := hK.sub (tys' := [(ct1, .int), (cs1, .int), (ct3, .int), (cs3, .int), (cc9, .int), (ct2, .int), (cs2, .int)]) [0, 1, 2, 3, 4, 5, 6] rfl
    exact W.vret hx hb hr (fun t ht hW => ⟨⟨(m1, m3), rfl, ⟨by dsimp only; omega, by dsimp only; omega⟩, ft1, fs1, ft3, fs3, fc, hb_fs1, hb_fs3, by rw [ht]; exact hP9, va_K.moved hW.alike hK9, hD9⟩, hS.F ht⟩) hS.2.2 dX3_needBoth_7
theorem dX3_needEither_0 : decode cX3_needEither 0 = .ok (.aload_n 2, 1) := by decide +kernel
theorem dX3_needEither_1 : decode cX3_needEither 1 = .ok (.aload_n 0, 1) := by decide +kernel
theorem dX3_needEither_2 : decode cX3_needEither 2 = .ok (.invokevirtual 79, 3) := by decide +kernel
theorem dX3_needEither_5 : decode cX3_needEither 5 = .ok (.iconst 0, 1) := by decide +kernel
theorem dX3_needEither_6 : decode cX3_needEither 6 = .ok (.istore_n 3, 1) := by decide +kernel
theorem dX3_needEither_7 : decode cX3_needEither 7 = .ok (.iload_n 3, 1) := by decide +kernel
theorem dX3_needEither_8 : decode cX3_needEither 8 = .ok (.aload_n 1, 1) := by decide +kernel
theorem dX3_needEither_9 : decode cX3_needEither 9 = .ok (.getfield 44, 3) := by decide +kernel
theorem dX3_needEither_12 : decode cX3_needEither 12 = .ok (.if_icmp .ge 34, 3) := by decide +kernel
theorem dX3_needEither_15 : decode cX3_needEither 15 = .ok (.iload_n 3, 1) := by decide +kernel
theorem dX3_needEither_16 : decode cX3_needEither 16 = .ok (.bipush 24, 2) := by decide +kernel
theorem dX3_needEither_18 : decode cX3_needEither 18 = .ok (.imul, 1) := by decide +kernel
theorem dX3_needEither_19 : decode cX3_needEither 19 = .ok (.istore 4, 2) := by decide +kernel
theorem dX3_needEither_21 : decode cX3_needEither 21 = .ok (.aload_n 2, 1) := by decide +kernel
theorem dX3_needEither_22 : decode cX3_needEither 22 = .ok (.aload_n 1, 1) := by decide +kernel
theorem dX3_needEither_23 : decode cX3_needEither 23 = .ok (.getfield 21, 3) := by decide +kernel
theorem dX3_needEither_26 : decode cX3_needEither 26 = .ok (.iload 4, 2) := by decide +kernel
theorem dX3_needEither_28 : decode cX3_needEither 28 = .ok (.iload 4, 2) := by decide +kernel
theorem dX3_needEither_30 : decode cX3_needEither 30 = .ok (.aload_n 1, 1) := by decide +kernel
theorem dX3_needEither_31 : decode cX3_needEither 31 = .ok (.getfield 25, 3) := by decide +kernel
theorem dX3_needEither_34 : decode cX3_needEither 34 = .ok (.iload_n 3, 1) := by decide +kernel
theorem dX3_needEither_35 : decode cX3_needEither 35 = .ok (.iaload, 1) := by decide +kernel
theorem dX3_needEither_36 : decode cX3_needEither 36 = .ok (.iadd, 1) := by decide +kernel
theorem dX3_needEither_37 : decode cX3_needEither 37 = .ok (.invokevirtual 71, 3) := by decide +kernel
theorem dX3_needEither_40 : decode cX3_needEither 40 = .ok (.iinc 3 1, 3) := by decide +kernel
theorem dX3_needEither_43 : decode cX3_needEither 43 = .ok (.goto (-36), 3) := by decide +kernel
theorem dX3_needEither_46 : decode cX3_needEither 46 = .ok (.aload_n 2, 1) := by decide +kernel
theorem dX3_needEither_47 : decode cX3_needEither 47 = .ok (.getfield 44, 3) := by decide +kernel
theorem dX3_needEither_50 : decode cX3_needEither 50 = .ok (.bipush 12, 2) := by decide +kernel
theorem dX3_needEither_52 : decode cX3_needEither 52 = .ok (.if_icmp .gt 11, 3) := by decide +kernel
theorem dX3_needEither_55 : decode cX3_needEither 55 = .ok (.aload_n 0, 1) := by decide +kernel
theorem dX3_needEither_56 : decode cX3_needEither 56 = .ok (.aload_n 2, 1) := by decide +kernel
theorem dX3_needEither_57 : decode cX3_needEither 57 = .ok (.invokevirtual 79, 3) := by decide +kernel
theorem dX3_needEither_60 : decode cX3_needEither 60 = .ok (.goto 7, 3) := by decide +kernel
theorem dX3_needEither_63 : decode cX3_needEither 63 = .ok (.aload_n 0, 1) := by decide +kernel
theorem dX3_needEither_64 : decode cX3_needEither 64 = .ok (.invokevirtual 83, 3) := by decide +kernel
theorem dX3_needEither_67 : decode cX3_needEither 67 = .ok (.return_, 1) := by decide +kernel
def mwX3_needEither : List Cond := .code yX3_needEither cX3_needEither 5 none :: ([.code yX3_take cX3_take 3 none, .fieldLink RX3 44 "PatternGate$Need" "size" "I", .fieldLink RX3 15 "PatternGate$Need" "room" "I", .methodLink RX3 47 Lib.Math.min.name, .static Lib.Math.min.name, .initialized "java/lang/Math", .code Lib.Math.min.name Lib.Math.min.code 2 (some .int), .fieldLink RX3 25 "PatternGate$Need" "sizes" "[I", .fieldLink RX3 21 "PatternGate$Need" "triples" "[I", .methodLink RX3 38 arraycopyName, .native arraycopyName, .static arraycopyName, .initialized "java/lang/System", .methodLink RX3 79 yX3_take, .instanceMethod yX3_take, .selects RX3 yX3_take yX3_take, .initialized RX3, .code yX3_setEmptyChoice cX3_setEmptyChoice 1 none, .methodLink RX3 83 yX3_setEmptyChoice, .instanceMethod yX3_setEmptyChoice, .selects RX3 yX3_setEmptyChoice yX3_setEmptyChoice, .code yX3_add cX3_add 7 none, .code yX3_isWithin cX3_isWithin 8 (some .boolean), .methodLink RX3 50 yX3_isWithin, .static yX3_isWithin, .methodLink RX3 71 yX3_add, .instanceMethod yX3_add, .selects RX3 yX3_add yX3_add] ++ wsX30)
theorem fin_X3_needEither_X3 : ∀ w ∈ wsX30, w ∈ mwX3_needEither := fun w h => List.mem_cons_of_mem _ (List.mem_append_right _ h)
set_option maxRecDepth 20000 in
theorem mg_X3_needEither_X3_take_79 : GoodIn mwX3_needEither (wsV RX3 79 RX3 yX3_take mwX3_take) := goodIn_r _ [14, 15, 16, 17, 1, 2, 3, 4, 5, 6, 7, 8, 9, 10, 11, 12, 13, 29, 30, 31, 32] (by decide +kernel) (by decide +kernel)
set_option maxRecDepth 20000 in
theorem mg_X3_needEither_X3_setEmptyChoice_83 : GoodIn mwX3_needEither (wsV RX3 83 RX3 yX3_setEmptyChoice mwX3_setEmptyChoice) := goodIn_r _ [19, 20, 21, 17, 18, 2, 8, 29, 30, 31, 32] (by decide +kernel) (by decide +kernel)
set_option maxRecDepth 20000 in
theorem mg_X3_needEither_X3_add_71 : GoodIn mwX3_needEither (wsV RX3 71 RX3 yX3_add mwX3_add) := goodIn_r _ [26, 27, 28, 17, 22, 2, 3, 9, 10, 11, 12, 13, 8, 23, 24, 25, 17, 29, 30, 31, 32] (by decide +kernel) (by decide +kernel)
set_option maxHeartbeats 4000000 in
set_option maxRecDepth 100000 in
/-- Need.needEither -/
theorem s_Need_either (l : Launch) (dC : Nat → ClassId) (dI : Nat → Nat → Nat) (e1 t1 s1 R1 : Nat) (ct1 cs1 : ClassId) (ft1 fs1 : Nat → Int32) (m1 : Int32) (e3 t3 s3 R3 : Nat) (ct3 cs3 : ClassId) (ft3 fs3 : Nat → Int32) (m3 : Int32) (e2 t2 s2 R2 : Nat) (ct2 cs2 : ClassId) (ft2 fs2 : Nat → Int32) (m2 : Int32) (sz : Nat) (hR1 : 1 ≤ R1) (hU1 : R1 ≤ 144) (hc1 : 0 ≤ m1.toInt) (hd1 : m1.toInt ≤ R1) (hb_fs1 : ∀ i, 0 ≤ (fs1 i).toInt ∧ (fs1 i).toInt ≤ 24) (hR3 : 1 ≤ R3) (hU3 : R3 ≤ 144) (hc3 : 0 ≤ m3.toInt) (hd3 : m3.toInt ≤ R3) (hb_fs3 : ∀ i, 0 ≤ (fs3 i).toInt ∧ (fs3 i).toInt ≤ 24) (hR2 : 1 ≤ R2) (hU2 : R2 ≤ 144) (hc2 : 0 ≤ m2.toInt) (hd2 : m2.toInt ≤ R2) (hb_fs2 : ∀ i, 0 ≤ (fs2 i).toInt ∧ (fs2 i).toInt ≤ 24) : Met l yX3_needEither mwX3_needEither ({ frames := 2, cells := 0, slots := 0, locals := 120 }) (va_Pc [.ref e1, .ref e2, .ref e3] (fun U => U.heap.size = sz ∧ va_P (dC, dI) vwCl ([(e1, .inr (3, [.int (nI R1), .ref t1, .ref s1, .int m1])), (t1, .inl (ct1, 24 * R1, .inl ft1)), (s1, .inl (cs1, R1, .inl fs1)), (e3, .inr (3, [.int (nI R3), .ref t3, .ref s3, .int m3])), (t3, .inl (ct3, 24 * R3, .inl ft3)), (s3, .inl (cs3, R3, .inl fs3)), (e2, .inr (3, [.int (nI R2), .ref t2, .ref s2, .int m2])), (t2, .inl (ct2, 24 * R2, .inl ft2)), (s2, .inl (cs2, R2, .inl fs2))]) U.heap ∧ va_K (dC, dI) vwCl ([(ct1, .int), (cs1, .int), (ct3, .int), (cs3, .int), (ct2, .int), (cs2, .int)]) U ∧ va_D (fun _ => True) ([(e1, .inr (3, [.int (nI R1), .ref t1, .ref s1, .int m1])), (t1, .inl (ct1, 24 * R1, .inl ft1)), (s1, .inl (cs1, R1, .inl fs1)), (e3, .inr (3, [.int (nI R3), .ref t3, .ref s3, .int m3])), (t3, .inl (ct3, 24 * R3, .inl ft3)), (s3, .inl (cs3, R3, .inl fs3)), (e2, .inr (3, [.int (nI R2), .ref t2, .ref s2, .int m2])), (t2, .inl (ct2, 24 * R2, .inl ft2)), (s2, .inl (cs2, R2, .inl fs2))]))) (va_Qv (fun (u : Int32 × Int32) => (0 ≤ u.1.toInt ∧ u.1.toInt ≤ R1) ∧ (0 ≤ u.2.toInt ∧ u.2.toInt ≤ R3)) (fun u t => ∃ (f9 g9 f8 g8 : Nat → Int32), (∀ i, 0 ≤ (g9 i).toInt ∧ (g9 i).toInt ≤ 24) ∧ (∀ i, 0 ≤ (g8 i).toInt ∧ (g8 i).toInt ≤ 24) ∧ va_P (dC, dI) vwCl [(e1, .inr (3, [.int (nI R1), .ref t1, .ref s1, .int u.1])), (t1, .inl (ct1, 24 * R1, .inl f9)), (s1, .inl (cs1, R1, .inl g9)), (e3, .inr (3, [.int (nI R3), .ref t3, .ref s3, .int u.2])), (t3, .inl (ct3, 24 * R3, .inl f8)), (s3, .inl (cs3, R3, .inl g8)), (e2, .inr (3, [.int (nI R2), .ref t2, .ref s2, .int m2])), (t2, .inl (ct2, 24 * R2, .inl ft2)), (s2, .inl (cs2, R2, .inl fs2))] t.heap ∧ va_K (dC, dI) vwCl [(ct1, .int), (cs1, .int), (ct3, .int), (cs3, .int), (ct2, .int), (cs2, .int)] t ∧ va_D (va_A ([(e1, .inr (3, [.int (nI R1), .ref t1, .ref s1, .int m1])), (t1, .inl (ct1, 24 * R1, .inl ft1)), (s1, .inl (cs1, R1, .inl fs1)), (e3, .inr (3, [.int (nI R3), .ref t3, .ref s3, .int m3])), (t3, .inl (ct3, 24 * R3, .inl ft3)), (s3, .inl (cs3, R3, .inl fs3)), (e2, .inr (3, [.int (nI R2), .ref t2, .ref s2, .int m2])), (t2, .inl (ct2, 24 * R2, .inl ft2)), (s2, .inl (cs2, R2, .inl fs2))]) sz) [(e1, .inr (3, [.int (nI R1), .ref t1, .ref s1, .int u.1])), (t1, .inl (ct1, 24 * R1, .inl f9)), (s1, .inl (cs1, R1, .inl g9)), (e3, .inr (3, [.int (nI R3), .ref t3, .ref s3, .int u.2])), (t3, .inl (ct3, 24 * R3, .inl f8)), (s3, .inl (cs3, R3, .inl g8)), (e2, .inr (3, [.int (nI R2), .ref t2, .ref s2, .int m2])), (t2, .inl (ct2, 24 * R2, .inl ft2)), (s2, .inl (cs2, R2, .inl fs2))]) (va_A ([(e1, .inr (3, [.int (nI R1), .ref t1, .ref s1, .int m1])), (t1, .inl (ct1, 24 * R1, .inl ft1)), (s1, .inl (cs1, R1, .inl fs1)), (e3, .inr (3, [.int (nI R3), .ref t3, .ref s3, .int m3])), (t3, .inl (ct3, 24 * R3, .inl ft3)), (s3, .inl (cs3, R3, .inl fs3)), (e2, .inr (3, [.int (nI R2), .ref t2, .ref s2, .int m2])), (t2, .inl (ct2, 24 * R2, .inl ft2)), (s2, .inl (cs2, R2, .inl fs2))]) sz)) 0 0 (va_A ([(e1, .inr (3, [.int (nI R1), .ref t1, .ref s1, .int m1])), (t1, .inl (ct1, 24 * R1, .inl ft1)), (s1, .inl (cs1, R1, .inl fs1)), (e3, .inr (3, [.int (nI R3), .ref t3, .ref s3, .int m3])), (t3, .inl (ct3, 24 * R3, .inl ft3)), (s3, .inl (cs3, R3, .inl fs3)), (e2, .inr (3, [.int (nI R2), .ref t2, .ref s2, .int m2])), (t2, .inl (ct2, 24 * R2, .inl ft2)), (s2, .inl (cs2, R2, .inl fs2))]) sz) := by
  refine Met.ofW (cc := cX3_needEither) (maxL := 5) (ret := none) (by decide +kernel) rfl ?_
  intro p e s m args below meth c s₁ B hml hv
  obtain ⟨rfl, hsz, hP, hK, hD0⟩ := hv
  have hx := B.exec
  have hb := B.bytes
  have hr := B.returns
  have hts := atoms_spec (ws := mwX3_needEither) B.pre
  have hown : s.vm.findClass RX3 = some m.cls := findClass_of_methodNamed B.named
  have hlocks := B.notSynchronized
  subst hsz
  have hD := hD0.self (sz := s.heap.size)
  generalize hAe : va_A ([(e1, .inr (3, [.int (nI R1), .ref t1, .ref s1, .int m1])), (t1, .inl (ct1, 24 * R1, .inl ft1)), (s1, .inl (cs1, R1, .inl fs1)), (e3, .inr (3, [.int (nI R3), .ref t3, .ref s3, .int m3])), (t3, .inl (ct3, 24 * R3, .inl ft3)), (s3, .inl (cs3, R3, .inl fs3)), (e2, .inr (3, [.int (nI R2), .ref t2, .ref s2, .int m2])), (t2, .inl (ct2, 24 * R2, .inl ft2)), (s2, .inl (cs2, R2, .inl fs2))]) s.heap.size = A at hD ⊢
  have hA : ∀ q : Nat, s.heap.size ≤ q → A q := fun q h => by rw [← hAe]; exact Or.inr h
  have hP : va_P (dC, dI) vwCl [(e1, .inr (3, [.int (nI R1), .ref t1, .ref s1, .int m1])), (t1, .inl (ct1, 24 * R1, .inl ft1)), (s1, .inl (cs1, R1, .inl fs1)), (e3, .inr (3, [.int (nI R3), .ref t3, .ref s3, .int m3])), (t3, .inl (ct3, 24 * R3, .inl ft3)), (s3, .inl (cs3, R3, .inl fs3)), (e2, .inr (3, [.int (nI R2), .ref t2, .ref s2, .int m2])), (t2, .inl (ct2, 24 * R2, .inl ft2)), (s2, .inl (cs2, R2, .inl fs2))] s.heap := hP
  have hD : va_D A [(e1, .inr (3, [.int (nI R1), .ref t1, .ref s1, .int m1])), (t1, .inl (ct1, 24 * R1, .inl ft1)), (s1, .inl (cs1, R1, .inl fs1)), (e3, .inr (3, [.int (nI R3), .ref t3, .ref s3, .int m3])), (t3, .inl (ct3, 24 * R3, .inl ft3)), (s3, .inl (cs3, R3, .inl fs3)), (e2, .inr (3, [.int (nI R2), .ref t2, .ref s2, .int m2])), (t2, .inl (ct2, 24 * R2, .inl ft2)), (s2, .inl (cs2, R2, .inl fs2))] := hD
  have hK : va_K (dC, dI) vwCl [(ct1, .int), (cs1, .int), (ct3, .int), (cs3, .int), (ct2, .int), (cs2, .int)] s := hK
  generalize hH : s.heap = H at hP ⊢
  have hS : va_S A s.heap H [] := by rw [← hH]; exact va_S.rf
  have hl := lv_entry ([.ref e1, .ref e2, .ref e3]) (n := 5) (Nat.le_of_ble_eq_true rfl)
  rw [lg_entry_eq]
  generalize (lg_sl ([.ref e1, .ref e2, .ref e3]) ++ List.replicate (5 - (lg_sl ([.ref e1, .ref e2, .ref e3])).length) Slot.unset).toArray = ls at hl ⊢
  have hl : lv_has ls 5 [(0, .ref e1), (1, .ref e2), (2, .ref e3)] := hl
  have tr1 : (nI R1).toInt = (R1 : Int) := nI_toInt (by omega)
  have rm1 := i_rng m1
  have tr2 : (nI R2).toInt = (R2 : Int) := nI_toInt (by omega)
  have rm2 := i_rng m2
  have tr3 : (nI R3).toInt = (R3 : Int) := nI_toInt (by omega)
  have rm3 := i_rng m3
  refine lv_aload_n hx hb dX3_needEither_0 rfl (lv_at hl 2 rfl) ?_
  refine lv_aload_n hx hb dX3_needEither_1 rfl (lv_at hl 0 rfl) ?_
  have hPc := hP.sub (ws' := [(e3, .inr (3, [.int (nI R3), .ref t3, .ref s3, .int m3])), (t3, .inl (ct3, 24 * R3, .inl ft3)), (s3, .inl (cs3, R3, .inl fs3)), (e1, .inr (3, [.int (nI R1), .ref t1, .ref s1, .int m1])), (t1, .inl (ct1, 24 * R1, .inl ft1)), (s1, .inl (cs1, R1, .inl fs1))]) [3, 4, 5, 0, 1, 2] rfl
  have hKc := hK.sub (tys' := [(ct3, .int), (cs3, .int), (ct1, .int), (cs1, .int)]) [2, 3, 0, 1] rfl
  have hDc := hD.sub (ws' := [(e3, .inr (3, [.int (nI R3), .ref t3, .ref s3, .int m3])), (t3, .inl (ct3, 24 * R3, .inl ft3)), (s3, .inl (cs3, R3, .inl fs3)), (e1, .inr (3, [.int (nI R1), .ref t1, .ref s1, .int m1])), (t1, .inl (ct1, 24 * R1, .inl ft1)), (s1, .inl (cs1, R1, .inl fs1))]) [3, 4, 5, 0, 1, 2] (by decide) rfl
  have hFc := va_free (wc := [(e3, .inr (3, [.int (nI R3), .ref t3, .ref s3, .int m3])), (t3, .inl (ct3, 24 * R3, .inl ft3)), (s3, .inl (cs3, R3, .inl fs3)), (e1, .inr (3, [.int (nI R1), .ref t1, .ref s1, .int m1])), (t1, .inl (ct1, 24 * R1, .inl ft1)), (s1, .inl (cs1, R1, .inl fs1))]) hD hS hA [3, 4, 5, 0, 1, 2] rfl
  refine va_callv (va_runV (As := [.ref e1]) (rest := []) ⟨hx, hb, hml, hown, hts⟩ (s_Need_take l dC dI e3 t3 s3 R3 ct3 cs3 ft3 fs3 m3 e1 t1 s1 R1 ct1 cs1 ft1 fs1 m1 H.size (by first | omega | decide | (have l0 := Int32.toInt_zero; omega)) (by first | omega | decide | (have l0 := Int32.toInt_zero; omega)) (by first | omega | decide | (have l0 := Int32.toInt_zero; omega)) (by first | omega | decide | (have l0 := Int32.toInt_zero; omega)) hb_fs3 (by first | omega | decide | (have l0 := Int32.toInt_zero; omega)) (by first | omega | decide | (have l0 := Int32.toInt_zero; omega)) (by first | omega | decide | (have l0 := Int32.toInt_zero; omega)) (by first | omega | decide | (have l0 := Int32.toInt_zero; omega)) hb_fs1) (cwV 1 hts mg_X3_needEither_X3_take_79 rfl rfl rfl (by decide +kernel) ⟨Nat.le_of_ble_eq_true rfl, Nat.le_of_ble_eq_true rfl⟩) ⟨fun a U g mk q => by obtain ⟨q0, q1, qP, qK, qD⟩ := q; exact ⟨q0, q1, qP, va_K.moved (u := U) (U := U.calling g mk a) (Vm.Alike.refl U.vm) qK, qD⟩, va_recv hKc hPc (ci := 3) (q0 := 0) rfl rfl, fun U hU hW => ⟨rfl, by rw [hU], by rw [hU]; exact hPc, va_K.moved hW.alike hKc, hDc.weaken (fun _ _ _ _ => trivial)⟩⟩ rfl rfl hl.1 rfl (lv_room (Nat.le_of_ble_eq_true rfl)) dX3_needEither_2 ⟨Nat.le_of_ble_eq_true rfl, Nat.le_of_ble_eq_true rfl⟩) hS (fun q _ h => hFc q h) hFc (fun u t H1 locs ht hvm hw hB hz1 hk1 hS => ?_)
  obtain ⟨f_4, f_5, hb_f_5, hP1, hK1, hD1⟩ := hB
  rw [ht] at hP1
  generalize u = u_3 at hw hP1 hD1
  have hu_3 := hw
  obtain ⟨hP, hD⟩ := va_join (wr := [(e2, .inr (3, [.int (nI R2), .ref t2, .ref s2, .int m2])), (t2, .inl (ct2, 24 * R2, .inl ft2)), (s2, .inl (cs2, R2, .inl fs2))]) (w1 := [(e3, .inr (3, [.int (nI R3), .ref t3, .ref s3, .int u_3])), (t3, .inl (ct3, 24 * R3, .inl f_4)), (s3, .inl (cs3, R3, .inl f_5)), (e1, .inr (3, [.int (nI R1), .ref t1, .ref s1, .int m1])), (t1, .inl (ct1, 24 * R1, .inl ft1)), (s1, .inl (cs1, R1, .inl fs1))]) hP hD [3, 4, 5, 0, 1, 2] [6, 7, 8] rfl rfl (by decide) (by decide) hk1 hFc hP1 hD1
  generalize H1 = H at hP hS ⊢
  have hP : va_P (dC, dI) vwCl [(e2, .inr (3, [.int (nI R2), .ref t2, .ref s2, .int m2])), (t2, .inl (ct2, 24 * R2, .inl ft2)), (s2, .inl (cs2, R2, .inl fs2)), (e3, .inr (3, [.int (nI R3), .ref t3, .ref s3, .int u_3])), (t3, .inl (ct3, 24 * R3, .inl f_4)), (s3, .inl (cs3, R3, .inl f_5)), (e1, .inr (3, [.int (nI R1), .ref t1, .ref s1, .int m1])), (t1, .inl (ct1, 24 * R1, .inl ft1)), (s1, .inl (cs1, R1, .inl fs1))] H := hP
  have hD : va_D A [(e2, .inr (3, [.int (nI R2), .ref t2, .ref s2, .int m2])), (t2, .inl (ct2, 24 * R2, .inl ft2)), (s2, .inl (cs2, R2, .inl fs2)), (e3, .inr (3, [.int (nI R3), .ref t3, .ref s3, .int u_3])), (t3, .inl (ct3, 24 * R3, .inl f_4)), (s3, .inl (cs3, R3, .inl f_5)), (e1, .inr (3, [.int (nI R1), .ref t1, .ref s1, .int m1])), (t1, .inl (ct1, 24 * R1, .inl ft1)), (s1, .inl (cs1, R1, .inl fs1))] := hD
  refine lv_iconst (v := 0) hx hb dX3_needEither_5 (by decide) ?_
  refine lv_istore_n (lv' := [(3, .int 0), (0, .ref e1), (1, .ref e2), (2, .ref e3)]) hx hb dX3_needEither_6 rfl hl (by decide) rfl (fun ls hl => ?_)
  have loop7 : ∀ (n_7 : Nat) (kk za : Int32) (ga : Nat → Int32) (gb : Nat → Int32), (0 ≤ kk.toInt) → (0 ≤ za.toInt) → (za.toInt ≤ R3) → (∀ i, 0 ≤ (gb i).toInt ∧ (gb i).toInt ≤ 24) → ((m2.toInt - kk.toInt).toNat) < n_7 → ∀ (H : Heap) (locs : List Loc) (ls : Array Slot), va_P (dC, dI) vwCl [(e2, .inr (3, [.int (nI R2), .ref t2, .ref s2, .int m2])), (t2, .inl (ct2, 24 * R2, .inl ft2)), (s2, .inl (cs2, R2, .inl fs2)), (e3, .inr (3, [.int (nI R3), .ref t3, .ref s3, .int za])), (t3, .inl (ct3, 24 * R3, .inl ga)), (s3, .inl (cs3, R3, .inl gb)), (e1, .inr (3, [.int (nI R1), .ref t1, .ref s1, .int m1])), (t1, .inl (ct1, 24 * R1, .inl ft1)), (s1, .inl (cs1, R1, .inl fs1))] H → va_D A [(e2, .inr (3, [.int (nI R2), .ref t2, .ref s2, .int m2])), (t2, .inl (ct2, 24 * R2, .inl ft2)), (s2, .inl (cs2, R2, .inl fs2)), (e3, .inr (3, [.int (nI R3), .ref t3, .ref s3, .int za])), (t3, .inl (ct3, 24 * R3, .inl ga)), (s3, .inl (cs3, R3, .inl gb)), (e1, .inr (3, [.int (nI R1), .ref t1, .ref s1, .int m1])), (t1, .inl (ct1, 24 * R1, .inl ft1)), (s1, .inl (cs1, R1, .inl fs1))] → va_S A s.heap H locs → lv_has ls 5 [(3, .int kk), (0, .ref e1), (1, .ref e2), (2, .ref e3)] → W p l e (headSpec mwX3_needEither ({ frames := 2, cells := 0, slots := 0, locals := 120 })).room s m ([.ref e1, .ref e2, .ref e3]).toArray below meth c H locs 0 0 (MQ below (va_Qv (fun (u : Int32 × Int32) => (0 ≤ u.1.toInt ∧ u.1.toInt ≤ R1) ∧ (0 ≤ u.2.toInt ∧ u.2.toInt ≤ R3)) (fun u t => ∃ (f9 g9 f8 g8 : Nat → Int32), (∀ i, 0 ≤ (g9 i).toInt ∧ (g9 i).toInt ≤ 24) ∧ (∀ i, 0 ≤ (g8 i).toInt ∧ (g8 i).toInt ≤ 24) ∧ va_P (dC, dI) vwCl [(e1, .inr (3, [.int (nI R1), .ref t1, .ref s1, .int u.1])), (t1, .inl (ct1, 24 * R1, .inl f9)), (s1, .inl (cs1, R1, .inl g9)), (e3, .inr (3, [.int (nI R3), .ref t3, .ref s3, .int u.2])), (t3, .inl (ct3, 24 * R3, .inl f8)), (s3, .inl (cs3, R3, .inl g8)), (e2, .inr (3, [.int (nI R2), .ref t2, .ref s2, .int m2])), (t2, .inl (ct2, 24 * R2, .inl ft2)), (s2, .inl (cs2, R2, .inl fs2))] t.heap ∧ va_K (dC, dI) vwCl [(ct1, .int), (cs1, .int), (ct3, .int), (cs3, .int), (ct2, .int), (cs2, .int)] t ∧ va_D A [(e1, .inr (3, [.int (nI R1), .ref t1, .ref s1, .int u.1])), (t1, .inl (ct1, 24 * R1, .inl f9)), (s1, .inl (cs1, R1, .inl g9)), (e3, .inr (3, [.int (nI R3), .ref t3, .ref s3, .int u.2])), (t3, .inl (ct3, 24 * R3, .inl f8)), (s3, .inl (cs3, R3, .inl g8)), (e2, .inr (3, [.int (nI R2), .ref t2, .ref s2, .int m2])), (t2, .inl (ct2, 24 * R2, .inl ft2)), (s2, .inl (cs2, R2, .inl fs2))]) A) ([.ref e1, .ref e2, .ref e3]).toArray s 0 0 A) (F0 m 7 ls []) := by
    intro n_7
    induction n_7 with
    | zero => intro kk za ga gb v7_0 v7_1 v7_2 hb_gb hm7; exact absurd hm7 (Nat.not_lt_zero _)
    | succ n_7 ih7 =>
      intro kk za ga gb v7_0 v7_1 v7_2 hb_gb hm7 H locs ls hP hD hS hl
      have rg_kk := i_rng kk
      have rg_za := i_rng za
      refine lv_iload_n hx hb dX3_needEither_7 rfl (lv_at hl 0 rfl) ?_
      refine lv_aload_n hx hb dX3_needEither_8 rfl (lv_at hl 2 rfl) ?_
      refine va_get (D := (dC, dI)) (ci := 3) (v := .int m2) (C := RX3) (T := TX3) (N := 4) hx hb hts fin_X3_needEither_X3 hown hK hP 0 rfl rfl 3 (by decide) (hts (.fieldLink RX3 44 "PatternGate$Need" "size" "I") (List.mem_of_getElem? (i := 2) (by decide +kernel))) (fun _ h9 => h9) rfl dX3_needEither_9 ?_
      refine lv_icmp_ge (tgt := 46) hx hb dX3_needEither_12 (by decide) (fun k_6 => ?_) (fun k_6 => ?_)
      · have tk_6 := c_ge (a := kk.toInt) (b := m2.toInt) rfl rfl k_6
        refine lv_aload_n hx hb dX3_needEither_46 rfl (lv_at hl 3 rfl) ?_
        refine va_get (D := (dC, dI)) (ci := 3) (v := .int za) (C := RX3) (T := TX3) (N := 4) hx hb hts fin_X3_needEither_X3 hown hK hP 3 rfl rfl 3 (by decide) (hts (.fieldLink RX3 44 "PatternGate$Need" "size" "I") (List.mem_of_getElem? (i := 2) (by decide +kernel))) (fun _ h9 => h9) rfl dX3_needEither_47 ?_
        refine lv_bipush (v := 12) hx hb dX3_needEither_50 (by decide) ?_
        refine lv_icmp_gt (tgt := 63) hx hb dX3_needEither_52 (by decide) (fun k_7 => ?_) (fun k_7 => ?_)
        · have tk_7 := c_gt (a := za.toInt) (b := 12) rfl (by decide) k_7
          refine lv_aload_n hx hb dX3_needEither_63 rfl (lv_at hl 1 rfl) ?_
          have hPc := hP.sub (ws' := [(e1, .inr (3, [.int (nI R1), .ref t1, .ref s1, .int m1])), (t1, .inl (ct1, 24 * R1, .inl ft1)), (s1, .inl (cs1, R1, .inl fs1))]) [6, 7, 8] rfl
          have hKc := hK.sub (tys' := [(ct1, .int), (cs1, .int)]) [0, 1] rfl
          have hDc := hD.sub (ws' := [(e1, .inr (3, [.int (nI R1), .ref t1, .ref s1, .int m1])), (t1, .inl (ct1, 24 * R1, .inl ft1)), (s1, .inl (cs1, R1, .inl fs1))]) [6, 7, 8] (by decide) rfl
          have hFc := va_free (wc := [(e1, .inr (3, [.int (nI R1), .ref t1, .ref s1, .int m1])), (t1, .inl (ct1, 24 * R1, .inl ft1)), (s1, .inl (cs1, R1, .inl fs1))]) hD hS hA [6, 7, 8] rfl
          refine va_callv (va_runV (As := []) (rest := []) ⟨hx, hb, hml, hown, hts⟩ (s_Need_setEmpty l dC dI e1 t1 s1 R1 ct1 cs1 ft1 fs1 m1 H.size (by first | omega | decide | (have l0 := Int32.toInt_zero; omega)) (by first | omega | decide | (have l0 := Int32.toInt_zero; omega)) (by first | omega | decide | (have l0 := Int32.toInt_zero; omega)) (by first | omega | decide | (have l0 := Int32.toInt_zero; omega)) hb_fs1) (cwV 0 hts mg_X3_needEither_X3_setEmptyChoice_83 rfl rfl rfl (by decide +kernel) ⟨Nat.le_of_ble_eq_true rfl, Nat.le_of_ble_eq_true rfl⟩) ⟨fun a U g mk q => by obtain ⟨q0, q1, qP, qK, qD⟩ := q; exact ⟨q0, q1, qP, va_K.moved (u := U) (U := U.calling g mk a) (Vm.Alike.refl U.vm) qK, qD⟩, va_recv hKc hPc (ci := 3) (q0 := 0) rfl rfl, fun U hU hW => ⟨rfl, by rw [hU], by rw [hU]; exact hPc, va_K.moved hW.alike hKc, hDc.weaken (fun _ _ _ _ => trivial)⟩⟩ rfl rfl hl.1 rfl (lv_room (Nat.le_of_ble_eq_true rfl)) dX3_needEither_64 ⟨Nat.le_of_ble_eq_true rfl, Nat.le_of_ble_eq_true rfl⟩) hS (fun q _ h => hFc q h) hFc (fun u t H1 locs ht hvm hw hB hz1 hk1 hS => ?_)
          obtain ⟨f_11, f_12, hb_f_12, hP1, hK1, hD1⟩ := hB
          rw [ht] at hP1
          generalize u = u_10 at hw hP1 hD1
          have hu_10 := hw
          obtain ⟨hP, hD⟩ := va_join (wr := [(e2, .inr (3, [.int (nI R2), .ref t2, .ref s2, .int m2])), (t2, .inl (ct2, 24 * R2, .inl ft2)), (s2, .inl (cs2, R2, .inl fs2)), (e3, .inr (3, [.int (nI R3), .ref t3, .ref s3, .int za])), (t3, .inl (ct3, 24 * R3, .inl ga)), (s3, .inl (cs3, R3, .inl gb))]) (w1 := [(e1, .inr (3, [.int (nI R1), .ref t1, .ref s1, .int u_10])), (t1, .inl (ct1, 24 * R1, .inl f_11)), (s1, .inl (cs1, R1, .inl f_12))]) hP hD [6, 7, 8] [0, 1, 2, 3, 4, 5] rfl rfl (by decide) (by decide) hk1 hFc hP1 hD1
          generalize H1 = H at hP hS ⊢
          have hP : va_P (dC, dI) vwCl [(e2, .inr (3, [.int (nI R2), .ref t2, .ref s2, .int m2])), (t2, .inl (ct2, 24 * R2, .inl ft2)), (s2, .inl (cs2, R2, .inl fs2)), (e3, .inr (3, [.int (nI R3), .ref t3, .ref s3, .int za])), (t3, .inl (ct3, 24 * R3, .inl ga)), (s3, .inl (cs3, R3, .inl gb)), (e1, .inr (3, [.int (nI R1), .ref t1, .ref s1, .int u_10])), (t1, .inl (ct1, 24 * R1, .inl f_11)), (s1, .inl (cs1, R1, .inl f_12))] H := hP
          have hD : va_D A [(e2, .inr (3, [.int (nI R2), .ref t2, .ref s2, .int m2])), (t2, .inl (ct2, 24 * R2, .inl ft2)), (s2, .inl (cs2, R2, .inl fs2)), (e3, .inr (3, [.int (nI R3), .ref t3, .ref s3, .int za])), (t3, .inl (ct3, 24 * R3, .inl ga)), (s3, .inl (cs3, R3, .inl gb)), (e1, .inr (3, [.int (nI R1), .ref t1, .ref s1, .int u_10])), (t1, .inl (ct1, 24 * R1, .inl f_11)), (s1, .inl (cs1, R1, .inl f_12))] := hD
          have hP9 := hP.sub (ws' := [(e1, .inr (3, [.int (nI R1), .ref t1, .ref s1, .int u_10])), (t1, .inl (ct1, 24 * R1, .inl f_11)), (s1, .inl (cs1, R1, .inl f_12)), (e3, .inr (3, [.int (nI R3), .ref t3, .ref s3, .int za])), (t3, .inl (ct3, 24 * R3, .inl ga)), (s3, .inl (cs3, R3, .inl gb)), (e2, .inr (3, [.int (nI R2), .ref t2, .ref s2, .int m2])), (t2, .inl (ct2, 24 * R2, .inl ft2)), (s2, .inl (cs2, R2, .inl fs2))]) [6, 7, 8, 3, 4, 5, 0, 1, 2] rfl
          have hD9 := hD.sub (ws' := [(e1, .inr (3, [.int (nI R1), .ref t1, .ref s1, .int u_10])), (t1, .inl (ct1, 24 * R1, .inl f_11)), (s1, .inl (cs1, R1, .inl f_12)), (e3, .inr (3, [.int (nI R3), .ref t3, .ref s3, .int za])), (t3, .inl (ct3, 24 * R3, .inl ga)), (s3, .inl (cs3, R3, .inl gb)), (e2, .inr (3, [.int (nI R2), .ref t2, .ref s2, .int m2])), (t2, .inl (ct2, 24 * R2, .inl ft2)), (s2, .inl (cs2, R2, .inl fs2))]) [6, 7, 8, 3, 4, 5, 0, 1, 2] (by decide) rfl
          have hK9 := hK.sub (tys' := [(ct1, .int), (cs1, .int), (ct3, .int), (cs3, .int), (ct2, .int), (cs2, .int)]) [0, 1, 2, 3, 4, 5] rfl
          exact W.vret hx hb hr (fun t ht hW => ⟨⟨(u_10, za), rfl, ⟨by dsimp only; omega, by dsimp only; omega⟩, f_11, f_12, ga, gb, hb_f_12, hb_gb, by rw [ht]; exact hP9, va_K.moved hW.alike hK9, hD9⟩, hS.F ht⟩) hS.2.2 dX3_needEither_67
        · have tk_7 := c_ngt (a := za.toInt) (b := 12) rfl (by decide) k_7
          refine lv_aload_n hx hb dX3_needEither_55 rfl (lv_at hl 1 rfl) ?_
          refine lv_aload_n hx hb dX3_needEither_56 rfl (lv_at hl 3 rfl) ?_
          have hPc := hP.sub (ws' := [(e1, .inr (3, [.int (nI R1), .ref t1, .ref s1, .int m1])), (t1, .inl (ct1, 24 * R1, .inl ft1)), (s1, .inl (cs1, R1, .inl fs1)), (e3, .inr (3, [.int (nI R3), .ref t3, .ref s3, .int za])), (t3, .inl (ct3, 24 * R3, .inl ga)), (s3, .inl (cs3, R3, .inl gb))]) [6, 7, 8, 3, 4, 5] rfl
          have hKc := hK.sub (tys' := [(ct1, .int), (cs1, .int), (ct3, .int), (cs3, .int)]) [0, 1, 2, 3] rfl
          have hDc := hD.sub (ws' := [(e1, .inr (3, [.int (nI R1), .ref t1, .ref s1, .int m1])), (t1, .inl (ct1, 24 * R1, .inl ft1)), (s1, .inl (cs1, R1, .inl fs1)), (e3, .inr (3, [.int (nI R3), .ref t3, .ref s3, .int za])), (t3, .inl (ct3, 24 * R3, .inl ga)), (s3, .inl (cs3, R3, .inl gb))]) [6, 7, 8, 3, 4, 5] (by decide) rfl
          have hFc := va_free (wc := [(e1, .inr (3, [.int (nI R1), .ref t1, .ref s1, .int m1])), (t1, .inl (ct1, 24 * R1, .inl ft1)), (s1, .inl (cs1, R1, .inl fs1)), (e3, .inr (3, [.int (nI R3), .ref t3, .ref s3, .int za])), (t3, .inl (ct3, 24 * R3, .inl ga)), (s3, .inl (cs3, R3, .inl gb))]) hD hS hA [6, 7, 8, 3, 4, 5] rfl
          refine va_callv (va_runV (As := [.ref e3]) (rest := []) ⟨hx, hb, hml, hown, hts⟩ (s_Need_take l dC dI e1 t1 s1 R1 ct1 cs1 ft1 fs1 m1 e3 t3 s3 R3 ct3 cs3 ga gb za H.size (by first | omega | decide | (have l0 := Int32.toInt_zero; omega)) (by first | omega | decide | (have l0 := Int32.toInt_zero; omega)) (by first | omega | decide | (have l0 := Int32.toInt_zero; omega)) (by first | omega | decide | (have l0 := Int32.toInt_zero; omega)) hb_fs1 (by first | omega | decide | (have l0 := Int32.toInt_zero; omega)) (by first | omega | decide | (have l0 := Int32.toInt_zero; omega)) (by first | omega | decide | (have l0 := Int32.toInt_zero; omega)) (by first | omega | decide | (have l0 := Int32.toInt_zero; omega)) hb_gb) (cwV 1 hts mg_X3_needEither_X3_take_79 rfl rfl rfl (by decide +kernel) ⟨Nat.le_of_ble_eq_true rfl, Nat.le_of_ble_eq_true rfl⟩) ⟨fun a U g mk q => by obtain ⟨q0, q1, qP, qK, qD⟩ := q; exact ⟨q0, q1, qP, va_K.moved (u := U) (U := U.calling g mk a) (Vm.Alike.refl U.vm) qK, qD⟩, va_recv hKc hPc (ci := 3) (q0 := 0) rfl rfl, fun U hU hW => ⟨rfl, by rw [hU], by rw [hU]; exact hPc, va_K.moved hW.alike hKc, hDc.weaken (fun _ _ _ _ => trivial)⟩⟩ rfl rfl hl.1 rfl (lv_room (Nat.le_of_ble_eq_true rfl)) dX3_needEither_57 ⟨Nat.le_of_ble_eq_true rfl, Nat.le_of_ble_eq_true rfl⟩) hS (fun q _ h => hFc q h) hFc (fun u t H1 locs ht hvm hw hB hz1 hk1 hS => ?_)
          obtain ⟨f_16, f_17, hb_f_17, hP1, hK1, hD1⟩ := hB
          rw [ht] at hP1
          generalize u = u_15 at hw hP1 hD1
          have hu_15 := hw
          obtain ⟨hP, hD⟩ := va_join (wr := [(e2, .inr (3, [.int (nI R2), .ref t2, .ref s2, .int m2])), (t2, .inl (ct2, 24 * R2, .inl ft2)), (s2, .inl (cs2, R2, .inl fs2))]) (w1 := [(e1, .inr (3, [.int (nI R1), .ref t1, .ref s1, .int u_15])), (t1, .inl (ct1, 24 * R1, .inl f_16)), (s1, .inl (cs1, R1, .inl f_17)), (e3, .inr (3, [.int (nI R3), .ref t3, .ref s3, .int za])), (t3, .inl (ct3, 24 * R3, .inl ga)), (s3, .inl (cs3, R3, .inl gb))]) hP hD [6, 7, 8, 3, 4, 5] [0, 1, 2] rfl rfl (by decide) (by decide) hk1 hFc hP1 hD1
          generalize H1 = H at hP hS ⊢
          have hP : va_P (dC, dI) vwCl [(e2, .inr (3, [.int (nI R2), .ref t2, .ref s2, .int m2])), (t2, .inl (ct2, 24 * R2, .inl ft2)), (s2, .inl (cs2, R2, .inl fs2)), (e1, .inr (3, [.int (nI R1), .ref t1, .ref s1, .int u_15])), (t1, .inl (ct1, 24 * R1, .inl f_16)), (s1, .inl (cs1, R1, .inl f_17)), (e3, .inr (3, [.int (nI R3), .ref t3, .ref s3, .int za])), (t3, .inl (ct3, 24 * R3, .inl ga)), (s3, .inl (cs3, R3, .inl gb))] H := hP
          have hD : va_D A [(e2, .inr (3, [.int (nI R2), .ref t2, .ref s2, .int m2])), (t2, .inl (ct2, 24 * R2, .inl ft2)), (s2, .inl (cs2, R2, .inl fs2)), (e1, .inr (3, [.int (nI R1), .ref t1, .ref s1, .int u_15])), (t1, .inl (ct1, 24 * R1, .inl f_16)), (s1, .inl (cs1, R1, .inl f_17)), (e3, .inr (3, [.int (nI R3), .ref t3, .ref s3, .int za])), (t3, .inl (ct3, 24 * R3, .inl ga)), (s3, .inl (cs3, R3, .inl gb))] := hD
          refine lv_goto (tgt := 67) hx hb dX3_needEither_60 (by decide) ?_
          have hP9 := hP.sub (ws' := [(e1, .inr (3, [.int (nI R1), .ref t1, .ref s1, .int u_15])), (t1, .inl (ct1, 24 * R1, .inl f_16)), (s1, .inl (cs1, R1, .inl f_17)), (e3, .inr (3, [.int (nI R3), .ref t3, .ref s3, .int za])), (t3, .inl (ct3, 24 * R3, .inl ga)), (s3, .inl (cs3, R3, .inl gb)), (e2, .inr (3, [.int (nI R2), .ref t2, .ref s2, .int m2])), (t2, .inl (ct2, 24 * R2, .inl ft2)), (s2, .inl (cs2, R2, .inl fs2))]) [3, 4, 5, 6, 7, 8, 0, 1, 2] rfl
          have hD9 := hD.sub (ws' := [(e1, .inr (3, [.int (nI R1), .ref t1, .ref s1, .int u_15])), (t1, .inl (ct1, 24 * R1, .inl f_16)), (s1, .inl (cs1, R1, .inl f_17)), (e3, .inr (3, [.int (nI R3), .ref t3, .ref s3, .int za])), (t3, .inl (ct3, 24 * R3, .inl ga)), (s3, .inl (cs3, R3, .inl gb)), (e2, .inr (3, [.int (nI R2), .ref t2, .ref s2, .int m2])), (t2, .inl (ct2, 24 * R2, .inl ft2)), (s2, .inl (cs2, R2, .inl fs2))]) [3, 4, 5, 6, 7, 8, 0, 1, 2] (by decide) rfl
          have hK9 := hK.sub (tys' := [(ct1, .int), (cs1, .int), (ct3, .int), (cs3, .int), (ct2, .int), (cs2, .int)]) [0, 1, 2, 3, 4, 5] rfl
          exact W.vret hx hb hr (fun t ht hW => ⟨⟨(u_15, za), rfl, ⟨by dsimp only; omega, by dsimp only; omega⟩, f_16, f_17, ga, gb, hb_f_17, hb_gb, by rw [ht]; exact hP9, va_K.moved hW.alike hK9, hD9⟩, hS.F ht⟩) hS.2.2 dX3_needEither_67
      · have tk_6 := c_nge (a := kk.toInt) (b := m2.toInt) rfl rfl k_6
        refine lv_iload_n hx hb dX3_needEither_15 rfl (lv_at hl 0 rfl) ?_
        refine lv_bipush (v := 24) hx hb dX3_needEither_16 (by decide) ?_
        refine lv_imul hx hb dX3_needEither_18 ?_
        refine lv_topi (fun y_18 ey_18 => ?_)
        first | have ty_18 := i_mul (a := kk.toInt) (b := 24) rfl (by decide) ey_18 (by omega) (by omega) | skip
        refine lv_istore (lv' := [(4, .int y_18), (3, .int kk), (0, .ref e1), (1, .ref e2), (2, .ref e3)]) hx hb dX3_needEither_19 hl (by decide) rfl (fun ls hl => ?_)
        refine lv_aload_n hx hb dX3_needEither_21 rfl (lv_at hl 4 rfl) ?_
        refine lv_aload_n hx hb dX3_needEither_22 rfl (lv_at hl 3 rfl) ?_
        refine va_get (D := (dC, dI)) (ci := 3) (v := .ref t2) (C := RX3) (T := TX3) (N := 4) hx hb hts fin_X3_needEither_X3 hown hK hP 0 rfl rfl 1 (by decide) (hts (.fieldLink RX3 21 "PatternGate$Need" "triples" "[I") (List.mem_of_getElem? (i := 9) (by decide +kernel))) (fun _ h9 => h9) rfl dX3_needEither_23 ?_
        refine lv_iload hx hb dX3_needEither_26 (lv_at hl 0 rfl) ?_
        refine lv_iload hx hb dX3_needEither_28 (lv_at hl 0 rfl) ?_
        refine lv_aload_n hx hb dX3_needEither_30 rfl (lv_at hl 3 rfl) ?_
        refine va_get (D := (dC, dI)) (ci := 3) (v := .ref s2) (C := RX3) (T := TX3) (N := 4) hx hb hts fin_X3_needEither_X3 hown hK hP 0 rfl rfl 2 (by decide) (hts (.fieldLink RX3 25 "PatternGate$Need" "sizes" "[I") (List.mem_of_getElem? (i := 8) (by decide +kernel))) (fun _ h9 => h9) rfl dX3_needEither_31 ?_
        refine lv_iload_n hx hb dX3_needEither_34 rfl (lv_at hl 1 rfl) ?_
        refine va_iald hx hb hK hP 2 5 rfl rfl (i := kk) (vp_of (a := kk.toInt) rfl (by omega) (by omega)) dX3_needEither_35 ?_
        refine lv_topi (fun y_19 ey_19 => ?_)
        have rg_y_19 := i_rng y_19
        have by_19 : 0 ≤ y_19.toInt ∧ y_19.toInt ≤ 24 := by rw [ey_19]; exact hb_fs2 _
        refine lv_iadd hx hb dX3_needEither_36 ?_
        refine lv_topi (fun y_20 ey_20 => ?_)
        first | have ty_20 := i_add (a := y_18.toInt) (b := y_19.toInt) rfl rfl ey_20 (by omega) (by omega) | skip
        have hPc := hP.sub (ws' := [(e3, .inr (3, [.int (nI R3), .ref t3, .ref s3, .int za])), (t3, .inl (ct3, 24 * R3, .inl ga)), (s3, .inl (cs3, R3, .inl gb)), (t2, .inl (ct2, 24 * R2, .inl ft2))]) [3, 4, 5, 1] rfl
        have hKc := hK.sub (tys' := [(ct3, .int), (cs3, .int), (ct2, .int)]) [2, 3, 4] rfl
        have hDc := hD.sub (ws' := [(e3, .inr (3, [.int (nI R3), .ref t3, .ref s3, .int za])), (t3, .inl (ct3, 24 * R3, .inl ga)), (s3, .inl (cs3, R3, .inl gb)), (t2, .inl (ct2, 24 * R2, .inl ft2))]) [3, 4, 5, 1] (by decide) rfl
        have hFc := va_free (wc := [(e3, .inr (3, [.int (nI R3), .ref t3, .ref s3, .int za])), (t3, .inl (ct3, 24 * R3, .inl ga)), (s3, .inl (cs3, R3, .inl gb)), (t2, .inl (ct2, 24 * R2, .inl ft2))]) hD hS hA [3, 4, 5, 1] rfl
        refine va_callv (va_runV (As := [.ref t2, .int y_18, .int y_20]) (rest := []) ⟨hx, hb, hml, hown, hts⟩ (s_Need_add l dC dI e3 t3 s3 R3 ct3 cs3 ga gb za t2 (24 * R2) ct2 ft2 H.size y_18 y_20 (by first | omega | decide | (have l0 := Int32.toInt_zero; omega)) (by first | omega | decide | (have l0 := Int32.toInt_zero; omega)) (by first | omega | decide | (have l0 := Int32.toInt_zero; omega)) (by first | omega | decide | (have l0 := Int32.toInt_zero; omega)) hb_gb (by first | omega | decide | (have l0 := Int32.toInt_zero; omega)) (by first | omega | decide | (have l0 := Int32.toInt_zero; omega)) (by first | omega | decide | (have l0 := Int32.toInt_zero; omega)) (by first | omega | decide | (have l0 := Int32.toInt_zero; omega))) (cwV 3 hts mg_X3_needEither_X3_add_71 rfl rfl rfl (by decide +kernel) ⟨Nat.le_of_ble_eq_true rfl, Nat.le_of_ble_eq_true rfl⟩) ⟨fun a U g mk q => by obtain ⟨q0, q1, qP, qK, qD⟩ := q; exact ⟨q0, q1, qP, va_K.moved (u := U) (U := U.calling g mk a) (Vm.Alike.refl U.vm) qK, qD⟩, va_recv hKc hPc (ci := 3) (q0 := 0) rfl rfl, fun U hU hW => ⟨rfl, by rw [hU], by rw [hU]; exact hPc, va_K.moved hW.alike hKc, hDc.weaken (fun _ _ _ _ => trivial)⟩⟩ rfl rfl hl.1 rfl (lv_room (Nat.le_of_ble_eq_true rfl)) dX3_needEither_37 ⟨Nat.le_of_ble_eq_true rfl, Nat.le_of_ble_eq_true rfl⟩) hS (fun q _ h => hFc q h) hFc (fun u t H1 locs ht hvm hw hB hz1 hk1 hS => ?_)
        obtain ⟨f_24, f_25, hb_f_25, hP1, hK1, hD1⟩ := hB
        rw [ht] at hP1
        generalize u = u_23 at hw hP1 hD1
        have hu_23 := hw
        obtain ⟨hP, hD⟩ := va_join (wr := [(e2, .inr (3, [.int (nI R2), .ref t2, .ref s2, .int m2])), (s2, .inl (cs2, R2, .inl fs2)), (e1, .inr (3, [.int (nI R1), .ref t1, .ref s1, .int m1])), (t1, .inl (ct1, 24 * R1, .inl ft1)), (s1, .inl (cs1, R1, .inl fs1))]) (w1 := [(e3, .inr (3, [.int (nI R3), .ref t3, .ref s3, .int u_23])), (t3, .inl (ct3, 24 * R3, .inl f_24)), (s3, .inl (cs3, R3, .inl f_25)), (t2, .inl (ct2, 24 * R2, .inl ft2))]) hP hD [3, 4, 5, 1] [0, 2, 6, 7, 8] rfl rfl (by decide) (by decide) hk1 hFc hP1 hD1
        generalize H1 = H at hP hS ⊢
        have hP : va_P (dC, dI) vwCl [(e2, .inr (3, [.int (nI R2), .ref t2, .ref s2, .int m2])), (s2, .inl (cs2, R2, .inl fs2)), (e1, .inr (3, [.int (nI R1), .ref t1, .ref s1, .int m1])), (t1, .inl (ct1, 24 * R1, .inl ft1)), (s1, .inl (cs1, R1, .inl fs1)), (e3, .inr (3, [.int (nI R3), .ref t3, .ref s3, .int u_23])), (t3, .inl (ct3, 24 * R3, .inl f_24)), (s3, .inl (cs3, R3, .inl f_25)), (t2, .inl (ct2, 24 * R2, .inl ft2))] H := hP
        have hD : va_D A [(e2, .inr (3, [.int (nI R2), .ref t2, .ref s2, .int m2])), (s2, .inl (cs2, R2, .inl fs2)), (e1, .inr (3, [.int (nI R1), .ref t1, .ref s1, .int m1])), (t1, .inl (ct1, 24 * R1, .inl ft1)), (s1, .inl (cs1, R1, .inl fs1)), (e3, .inr (3, [.int (nI R3), .ref t3, .ref s3, .int u_23])), (t3, .inl (ct3, 24 * R3, .inl f_24)), (s3, .inl (cs3, R3, .inl f_25)), (t2, .inl (ct2, 24 * R2, .inl ft2))] := hD
        obtain ⟨y_26, ey_26⟩ : ∃ y : Int32, y = kk + 1 := ⟨_, rfl⟩
        first | have ty_26 := i_add (a := kk.toInt) (b := 1) rfl (by decide) ey_26 (by omega) (by omega) | skip
        refine lv_iinc (v := y_26) (lv' := [(3, .int y_26), (4, .int y_18), (0, .ref e1), (1, .ref e2), (2, .ref e3)]) hx hb dX3_needEither_40 hl (k := 1) rfl (by rw [ey_26]; rfl) (by decide) rfl (fun ls hl => ?_)
        refine lv_goto (tgt := 7) hx hb dX3_needEither_43 (by decide) ?_
        exact ih7 y_26 u_23 f_24 f_25 (by first | omega | decide | assumption) (by first | omega | decide | assumption) (by first | omega | decide | assumption) (by first | exact hb_f_25 | (intro i; decide)) (by omega) _ _ ls (hP.sub [0, 8, 1, 5, 6, 7, 2, 3, 4] rfl) (hD.sub [0, 8, 1, 5, 6, 7, 2, 3, 4] (by decide) rfl) hS (lv_sub hl [0, 2, 3, 4] rfl)
  have lit_26 : (0 : Int32).toInt = 0 := by decide
  exact loop7 _ 0 u_3 f_4 f_5 (by first | omega | decide | assumption) (by first | omega | decide | assumption) (by first | omega | decide | assumption) (by first | exact hb_f_5 | (intro i; decide)) (Nat.lt_succ_self _) _ _ ls hP hD hS (lv_sub hl [0, 1, 2, 3] rfl)

theorem dX6_isWord_0 : decode cX6_isWord 0 = .ok (.iload_n 2, 1) := by decide +kernel
theorem dX6_isWord_1 : decode cX6_isWord 1 = .ok (.iload_n 1, 1) := by decide +kernel
theorem dX6_isWord_2 : decode cX6_isWord 2 = .ok (.isub, 1) := by decide +kernel
theorem dX6_isWord_3 : decode cX6_isWord 3 = .ok (.aload_n 3, 1) := by decide +kernel
theorem dX6_isWord_4 : decode cX6_isWord 4 = .ok (.invokevirtual 83, 3) := by decide +kernel
theorem dX6_isWord_7 : decode cX6_isWord 7 = .ok (.if_icmp .eq 5, 3) := by decide +kernel
theorem dX6_isWord_10 : decode cX6_isWord 10 = .ok (.iconst 0, 1) := by decide +kernel
theorem dX6_isWord_11 : decode cX6_isWord 11 = .ok (.ireturn, 1) := by decide +kernel
theorem dX6_isWord_12 : decode cX6_isWord 12 = .ok (.iconst 0, 1) := by decide +kernel
theorem dX6_isWord_13 : decode cX6_isWord 13 = .ok (.istore 4, 2) := by decide +kernel
theorem dX6_isWord_15 : decode cX6_isWord 15 = .ok (.iload 4, 2) := by decide +kernel
theorem dX6_isWord_17 : decode cX6_isWord 17 = .ok (.aload_n 3, 1) := by decide +kernel
theorem dX6_isWord_18 : decode cX6_isWord 18 = .ok (.invokevirtual 83, 3) := by decide +kernel
theorem dX6_isWord_21 : decode cX6_isWord 21 = .ok (.if_icmp .ge 26, 3) := by decide +kernel
theorem dX6_isWord_24 : decode cX6_isWord 24 = .ok (.aload_n 0, 1) := by decide +kernel
theorem dX6_isWord_25 : decode cX6_isWord 25 = .ok (.iload_n 1, 1) := by decide +kernel
theorem dX6_isWord_26 : decode cX6_isWord 26 = .ok (.iload 4, 2) := by decide +kernel
theorem dX6_isWord_28 : decode cX6_isWord 28 = .ok (.iadd, 1) := by decide +kernel
theorem dX6_isWord_29 : decode cX6_isWord 29 = .ok (.iaload, 1) := by decide +kernel
theorem dX6_isWord_30 : decode cX6_isWord 30 = .ok (.aload_n 3, 1) := by decide +kernel
theorem dX6_isWord_31 : decode cX6_isWord 31 = .ok (.iload 4, 2) := by decide +kernel
theorem dX6_isWord_33 : decode cX6_isWord 33 = .ok (.invokevirtual 89, 3) := by decide +kernel
theorem dX6_isWord_36 : decode cX6_isWord 36 = .ok (.if_icmp .eq 5, 3) := by decide +kernel
theorem dX6_isWord_39 : decode cX6_isWord 39 = .ok (.iconst 0, 1) := by decide +kernel
theorem dX6_isWord_40 : decode cX6_isWord 40 = .ok (.ireturn, 1) := by decide +kernel
theorem dX6_isWord_41 : decode cX6_isWord 41 = .ok (.iinc 4 1, 3) := by decide +kernel
theorem dX6_isWord_44 : decode cX6_isWord 44 = .ok (.goto (-29), 3) := by decide +kernel
theorem dX6_isWord_47 : decode cX6_isWord 47 = .ok (.iconst 1, 1) := by decide +kernel
theorem dX6_isWord_48 : decode cX6_isWord 48 = .ok (.ireturn, 1) := by decide +kernel
def mwX6_isWord : List Cond := .code yX6_isWord cX6_isWord 5 (some .boolean) :: (([.methodLink RX6 83 yJ0_length_8abf5, .instanceMethod yJ0_length_8abf5, .selects RJ0 yJ0_length_8abf5 yJ0_length_8abf5, .initialized RJ0, .methodLink RX6 89 yJ0_charAt_5068e, .instanceMethod yJ0_charAt_5068e, .selects RJ0 yJ0_charAt_5068e yJ0_charAt_5068e] : List Cond) ++ (mwJ0_length_8abf5j ++ (mwJ0_charAt_5068ej)))
set_option maxRecDepth 20000 in
theorem mg_X6_isWord_J0_length_8abf5_83 : GoodIn mwX6_isWord (wsV RX6 83 RJ0 yJ0_length_8abf5 mwJ0_length_8abf5j) := gi_app (A := [.methodLink RX6 83 yJ0_length_8abf5, .instanceMethod yJ0_length_8abf5, .selects RJ0 yJ0_length_8abf5 yJ0_length_8abf5, .initialized RJ0]) (goodIn_r _ [1, 2, 3, 4] (by decide +kernel) (by decide +kernel)) (gi_sub gd_mwJ0_length_8abf5j (fun w h => List.mem_cons_of_mem _ (List.mem_append_right _ (List.mem_append_left _ h))))
set_option maxRecDepth 20000 in
theorem mg_X6_isWord_J0_charAt_5068e_89 : GoodIn mwX6_isWord (wsV RX6 89 RJ0 yJ0_charAt_5068e mwJ0_charAt_5068ej) := gi_app (A := [.methodLink RX6 89 yJ0_charAt_5068e, .instanceMethod yJ0_charAt_5068e, .selects RJ0 yJ0_charAt_5068e yJ0_charAt_5068e, .initialized RJ0]) (goodIn_r _ [5, 6, 7, 4] (by decide +kernel) (by decide +kernel)) (gi_sub gd_mwJ0_charAt_5068ej (fun w h => List.mem_cons_of_mem _ (List.mem_append_right _ (List.mem_append_right _ (h)))))
set_option maxHeartbeats 4000000 in
set_option maxRecDepth 100000 in
/-- Reader.isWord -/
theorem s_isWord (l : Launch) (dC : Nat → ClassId) (dI : Nat → Nat → Nat) (ba kb qs ns : Nat) (cb : ClassId) (fb : Nat → Int32) (sz : Nat) (i1 i2 : Int32) (hkb : kb ≤ 900) (hns : ns < 100) (h1 : 0 ≤ i1.toInt ∧ i1.toInt ≤ i2.toInt ∧ i2.toInt ≤ kb) : Met l yX6_isWord mwX6_isWord ({ frames := 4, cells := 0, slots := 0, locals := 240 }) (va_Pc [.ref ba, .int i1, .int i2, .ref qs] (fun U => U.heap.size = sz ∧ va_P (dC, dI) vwCl ([(ba, .inl (cb, kb, .inl fb))]) U.heap ∧ va_K (dC, dI) vwCl ([(cb, .int)]) U ∧ va_D (fun _ => True) ([(ba, .inl (cb, kb, .inl fb))]) ∧ sX (va_A ([(ba, .inl (cb, kb, .inl fb))]) sz) U U.heap qs ns ∧ sC (va_A ([(ba, .inl (cb, kb, .inl fb))]) sz) U U.heap)) (va_Qi (fun (o9 : Int32) (_ : Unit) => o9 = 0 ∨ o9 = 1) (fun _ t => va_P (dC, dI) vwCl [(ba, .inl (cb, kb, .inl fb))] t.heap ∧ va_K (dC, dI) vwCl [(cb, .int)] t ∧ va_D (va_A ([(ba, .inl (cb, kb, .inl fb))]) sz) [(ba, .inl (cb, kb, .inl fb))]) (va_A ([(ba, .inl (cb, kb, .inl fb))]) sz)) 0 0 (va_A ([(ba, .inl (cb, kb, .inl fb))]) sz) := by
  refine Met.ofW (cc := cX6_isWord) (maxL := 5) (ret := (some .boolean)) (by decide +kernel) rfl ?_
  intro p e s m args below meth c s₁ B hml hv
  obtain ⟨rfl, hsz, hP, hK, hD0, hX9, hC9⟩ := hv
  have hx := B.exec
  have hb := B.bytes
  have hr := B.returns
  have hts := atoms_spec (ws := mwX6_isWord) B.pre
  have hown : s.vm.findClass RX6 = some m.cls := findClass_of_methodNamed B.named
  have hlocks := B.notSynchronized
  subst hsz
  have hD := hD0.self (sz := s.heap.size)
  generalize hAe : va_A ([(ba, .inl (cb, kb, .inl fb))]) s.heap.size = A at hD hX9 hC9 ⊢
  have hA : ∀ q : Nat, s.heap.size ≤ q → A q := fun q h => by rw [← hAe]; exact Or.inr h
  have hP : va_P (dC, dI) vwCl [(ba, .inl (cb, kb, .inl fb))] s.heap := hP
  have hD : va_D A [(ba, .inl (cb, kb, .inl fb))] := hD
  have hK : va_K (dC, dI) vwCl [(cb, .int)] s := hK
  generalize hH : s.heap = H at hP ⊢
  have hS : va_S A s.heap H [] := by rw [← hH]; exact va_S.rf
  have hl := lv_entry ([.ref ba, .int i1, .int i2, .ref qs]) (n := 5) (Nat.le_of_ble_eq_true rfl)
  rw [lg_entry_eq]
  generalize (lg_sl ([.ref ba, .int i1, .int i2, .ref qs]) ++ List.replicate (5 - (lg_sl ([.ref ba, .int i1, .int i2, .ref qs])).length) Slot.unset).toArray = ls at hl ⊢
  have hl : lv_has ls 5 [(0, .ref ba), (1, .int i1), (2, .int i2), (3, .ref qs)] := hl
  have rg_i1 := i_rng i1
  have rg_i2 := i_rng i2
  refine lv_iload_n hx hb dX6_isWord_0 rfl (lv_at hl 2 rfl) ?_
  refine lv_iload_n hx hb dX6_isWord_1 rfl (lv_at hl 1 rfl) ?_
  refine lv_isub hx hb dX6_isWord_2 ?_
  refine lv_topi (fun y_1 ey_1 => ?_)
  first | have ty_1 := i_sub (a := i2.toInt) (b := i1.toInt) rfl rfl ey_1 (by omega) (by omega) | skip
  refine lv_aload_n hx hb dX6_isWord_3 rfl (lv_at hl 3 rfl) ?_
  refine vp_callSi (W.runV (As := []) (rest := [.int y_1]) ⟨hx, hb, hml, hown, hts⟩ (j_length l qs ns (by omega)) (cwV 0 hts mg_X6_isWord_J0_length_8abf5_83 rfl rfl rfl (by decide +kernel) ⟨Nat.le_of_ble_eq_true rfl, Nat.le_of_ble_eq_true rfl⟩) ⟨fun a U g mk q => ⟨q.1, sP.call q.2⟩, sX.recv hX9 hS, fun U hU hW => ⟨rfl, sP.of hX9 hC9 hS hW.alike hU⟩⟩ rfl rfl hl.1 rfl (lv_room (Nat.le_of_ble_eq_true rfl)) dX6_isWord_4 ⟨Nat.le_of_ble_eq_true rfl, Nat.le_of_ble_eq_true rfl⟩) (fun r_2 hw => ?_)
  have hlr_2 : r_2.toInt = (ns : Int) := hw
  refine lv_icmp_eq (tgt := 12) hx hb dX6_isWord_7 (by decide) (fun k_3 => ?_) (fun k_3 => ?_)
  · have tk_3 := c_eq (a := y_1.toInt) (b := r_2.toInt) rfl rfl k_3
    refine lv_iconst (v := 0) hx hb dX6_isWord_12 (by decide) ?_
    refine lv_istore (lv' := [(4, .int 0), (0, .ref ba), (1, .int i1), (2, .int i2), (3, .ref qs)]) hx hb dX6_isWord_13 hl (by decide) rfl (fun ls hl => ?_)
    have loop15 : ∀ (lm15 : Nat) (kk : Int32), (0 ≤ kk.toInt ∧ kk.toInt ≤ ns) → (((ns : Int) - kk.toInt).toNat) < lm15 → ∀ (H : Heap) (locs : List Loc) (ls : Array Slot), va_P (dC, dI) vwCl [(ba, .inl (cb, kb, .inl fb))] H → va_D A [(ba, .inl (cb, kb, .inl fb))] → va_S A s.heap H locs → lv_has ls 5 [(4, .int kk), (0, .ref ba), (1, .int i1), (2, .int i2), (3, .ref qs)] → W p l e (headSpec mwX6_isWord ({ frames := 4, cells := 0, slots := 0, locals := 240 })).room s m ([.ref ba, .int i1, .int i2, .ref qs]).toArray below meth c H locs 0 0 (MQ below (va_Qi (fun (o9 : Int32) (_ : Unit) => o9 = 0 ∨ o9 = 1) (fun _ t => va_P (dC, dI) vwCl [(ba, .inl (cb, kb, .inl fb))] t.heap ∧ va_K (dC, dI) vwCl [(cb, .int)] t ∧ va_D A [(ba, .inl (cb, kb, .inl fb))]) A) ([.ref ba, .int i1, .int i2, .ref qs]).toArray s 0 0 A) (F0 m 15 ls []) := by
      intro lm15
      induction lm15 with
      | zero => intro kk v15_0 hm15; exact absurd hm15 (Nat.not_lt_zero _)
      | succ lm15 ih15 =>
        intro kk v15_0 hm15 H locs ls hP hD hS hl
        have rg_kk := i_rng kk
        refine lv_iload hx hb dX6_isWord_15 (lv_at hl 0 rfl) ?_
        refine lv_aload_n hx hb dX6_isWord_17 rfl (lv_at hl 4 rfl) ?_
        refine vp_callSi (W.runV (As := []) (rest := [.int kk]) ⟨hx, hb, hml, hown, hts⟩ (j_length l qs ns (by omega)) (cwV 0 hts mg_X6_isWord_J0_length_8abf5_83 rfl rfl rfl (by decide +kernel) ⟨Nat.le_of_ble_eq_true rfl, Nat.le_of_ble_eq_true rfl⟩) ⟨fun a U g mk q => ⟨q.1, sP.call q.2⟩, sX.recv hX9 hS, fun U hU hW => ⟨rfl, sP.of hX9 hC9 hS hW.alike hU⟩⟩ rfl rfl hl.1 rfl (lv_room (Nat.le_of_ble_eq_true rfl)) dX6_isWord_18 ⟨Nat.le_of_ble_eq_true rfl, Nat.le_of_ble_eq_true rfl⟩) (fun r_4 hw => ?_)
        have hlr_4 : r_4.toInt = (ns : Int) := hw
        refine lv_icmp_ge (tgt := 47) hx hb dX6_isWord_21 (by decide) (fun k_5 => ?_) (fun k_5 => ?_)
        · have tk_5 := c_ge (a := kk.toInt) (b := r_4.toInt) rfl rfl k_5
          refine lv_iconst (v := 1) hx hb dX6_isWord_47 (by decide) ?_
          have hP9 := hP.sub (ws' := [(ba, .inl (cb, kb, .inl fb))]) [0] rfl
          have hD9 := hD.sub (ws' := [(ba, .inl (cb, kb, .inl fb))]) [0] (by decide) rfl
          have hK9 := hK.sub (tys' := [(cb, .int)]) [0] rfl
          exact W.zret hx hb hr rfl (fun t ht hW => ⟨⟨_, (), rfl, (Or.inr rfl), by rw [ht]; exact hP9, va_K.moved hW.alike hK9, hD9⟩, hS.F ht⟩) hS.2.2 dX6_isWord_48
        · have tk_5 := c_nge (a := kk.toInt) (b := r_4.toInt) rfl rfl k_5
          refine lv_aload_n hx hb dX6_isWord_24 rfl (lv_at hl 1 rfl) ?_
          refine lv_iload_n hx hb dX6_isWord_25 rfl (lv_at hl 2 rfl) ?_
          refine lv_iload hx hb dX6_isWord_26 (lv_at hl 0 rfl) ?_
          refine lv_iadd hx hb dX6_isWord_28 ?_
          refine lv_topi (fun y_6 ey_6 => ?_)
          first | have ty_6 := i_add (a := i1.toInt) (b := kk.toInt) rfl rfl ey_6 (by omega) (by omega) | skip
          refine va_iald hx hb hK hP 0 0 rfl rfl (i := y_6) (vp_of (a := y_6.toInt) rfl (by omega) (by omega)) dX6_isWord_29 ?_
          refine lv_topi (fun y_7 ey_7 => ?_)
          have rg_y_7 := i_rng y_7
          refine lv_aload_n hx hb dX6_isWord_30 rfl (lv_at hl 4 rfl) ?_
          refine lv_iload hx hb dX6_isWord_31 (lv_at hl 0 rfl) ?_
          refine vp_callSi (W.runV (As := [.int kk]) (rest := [.int y_7]) ⟨hx, hb, hml, hown, hts⟩ (j_charAt l qs ns kk (by omega) (by omega) (by omega)) (cwV 1 hts mg_X6_isWord_J0_charAt_5068e_89 rfl rfl rfl (by decide +kernel) ⟨Nat.le_of_ble_eq_true rfl, Nat.le_of_ble_eq_true rfl⟩) ⟨fun a U g mk q => ⟨q.1, sP.call q.2⟩, sX.recv hX9 hS, fun U hU hW => ⟨rfl, sP.of hX9 hC9 hS hW.alike hU⟩⟩ rfl rfl hl.1 rfl (lv_room (Nat.le_of_ble_eq_true rfl)) dX6_isWord_33 ⟨Nat.le_of_ble_eq_true rfl, Nat.le_of_ble_eq_true rfl⟩) (fun r_8 hw => ?_)
          have rg_r_8 := i_rng r_8
          refine lv_icmp_eq (tgt := 41) hx hb dX6_isWord_36 (by decide) (fun k_9 => ?_) (fun k_9 => ?_)
          · have tk_9 := c_eq (a := y_7.toInt) (b := r_8.toInt) rfl rfl k_9
            obtain ⟨y_10, ey_10⟩ : ∃ y : Int32, y = kk + 1 := ⟨_, rfl⟩
            first | have ty_10 := i_add (a := kk.toInt) (b := 1) rfl (by decide) ey_10 (by omega) (by omega) | skip
            refine lv_iinc (v := y_10) (lv' := [(4, .int y_10), (0, .ref ba), (1, .int i1), (2, .int i2), (3, .ref qs)]) hx hb dX6_isWord_41 hl (k := 0) rfl (by rw [ey_10]; rfl) (by decide) rfl (fun ls hl => ?_)
            refine lv_goto (tgt := 15) hx hb dX6_isWord_44 (by decide) ?_
            exact ih15 y_10 (by first | omega | assumption | decide) (by omega) _ _ ls hP hD hS (lv_sub hl [0, 1, 2, 3, 4] rfl)
          · have tk_9 := c_ne (a := y_7.toInt) (b := r_8.toInt) rfl rfl k_9
            refine lv_iconst (v := 0) hx hb dX6_isWord_39 (by decide) ?_
            have hP9 := hP.sub (ws' := [(ba, .inl (cb, kb, .inl fb))]) [0] rfl
            have hD9 := hD.sub (ws' := [(ba, .inl (cb, kb, .inl fb))]) [0] (by decide) rfl
            have hK9 := hK.sub (tys' := [(cb, .int)]) [0] rfl
            exact W.zret hx hb hr rfl (fun t ht hW => ⟨⟨_, (), rfl, (Or.inl rfl), by rw [ht]; exact hP9, va_K.moved hW.alike hK9, hD9⟩, hS.F ht⟩) hS.2.2 dX6_isWord_40
    have lit_10 : (0 : Int32).toInt = 0 := by decide
    exact loop15 _ 0 (by first | omega | assumption | decide) (Nat.lt_succ_self _) _ _ ls hP hD hS (lv_sub hl [0, 1, 2, 3, 4] rfl)
  · have tk_3 := c_ne (a := y_1.toInt) (b := r_2.toInt) rfl rfl k_3
    refine lv_iconst (v := 0) hx hb dX6_isWord_10 (by decide) ?_
    have hP9 := hP.sub (ws' := [(ba, .inl (cb, kb, .inl fb))]) [0] rfl
    have hD9 := hD.sub (ws' := [(ba, .inl (cb, kb, .inl fb))]) [0] (by decide) rfl
    have hK9 := hK.sub (tys' := [(cb, .int)]) [0] rfl
    exact W.zret hx hb hr rfl (fun t ht hW => ⟨⟨_, (), rfl, (Or.inl rfl), by rw [ht]; exact hP9, va_K.moved hW.alike hK9, hD9⟩, hS.F ht⟩) hS.2.2 dX6_isWord_11

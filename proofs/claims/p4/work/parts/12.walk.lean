theorem dX2_sortTriples_0 : decode cX2_sortTriples 0 = .ok (.iconst 0, 1) := by decide +kernel
theorem dX2_sortTriples_1 : decode cX2_sortTriples 1 = .ok (.istore_n 3, 1) := by decide +kernel
theorem dX2_sortTriples_2 : decode cX2_sortTriples 2 = .ok (.iconst 0, 1) := by decide +kernel
theorem dX2_sortTriples_3 : decode cX2_sortTriples 3 = .ok (.istore 4, 2) := by decide +kernel
theorem dX2_sortTriples_5 : decode cX2_sortTriples 5 = .ok (.iload 4, 2) := by decide +kernel
theorem dX2_sortTriples_7 : decode cX2_sortTriples 7 = .ok (.iconst 2, 1) := by decide +kernel
theorem dX2_sortTriples_8 : decode cX2_sortTriples 8 = .ok (.iadd, 1) := by decide +kernel
theorem dX2_sortTriples_9 : decode cX2_sortTriples 9 = .ok (.iload_n 1, 1) := by decide +kernel
theorem dX2_sortTriples_10 : decode cX2_sortTriples 10 = .ok (.if_icmp .ge 30, 3) := by decide +kernel
theorem dX2_sortTriples_13 : decode cX2_sortTriples 13 = .ok (.iload 4, 2) := by decide +kernel
theorem dX2_sortTriples_15 : decode cX2_sortTriples 15 = .ok (.iconst 2, 1) := by decide +kernel
theorem dX2_sortTriples_16 : decode cX2_sortTriples 16 = .ok (.iadd, 1) := by decide +kernel
theorem dX2_sortTriples_17 : decode cX2_sortTriples 17 = .ok (.aload_n 0, 1) := by decide +kernel
theorem dX2_sortTriples_18 : decode cX2_sortTriples 18 = .ok (.arraylength, 1) := by decide +kernel
theorem dX2_sortTriples_19 : decode cX2_sortTriples 19 = .ok (.if_icmp .ge 21, 3) := by decide +kernel
theorem dX2_sortTriples_22 : decode cX2_sortTriples 22 = .ok (.aload_n 2, 1) := by decide +kernel
theorem dX2_sortTriples_23 : decode cX2_sortTriples 23 = .ok (.iload_n 3, 1) := by decide +kernel
theorem dX2_sortTriples_24 : decode cX2_sortTriples 24 = .ok (.aload_n 0, 1) := by decide +kernel
theorem dX2_sortTriples_25 : decode cX2_sortTriples 25 = .ok (.iload 4, 2) := by decide +kernel
theorem dX2_sortTriples_27 : decode cX2_sortTriples 27 = .ok (.invokestatic 44, 3) := by decide +kernel
theorem dX2_sortTriples_30 : decode cX2_sortTriples 30 = .ok (.invokestatic 48, 3) := by decide +kernel
theorem dX2_sortTriples_33 : decode cX2_sortTriples 33 = .ok (.istore_n 3, 1) := by decide +kernel
theorem dX2_sortTriples_34 : decode cX2_sortTriples 34 = .ok (.iinc 4 1, 3) := by decide +kernel
theorem dX2_sortTriples_37 : decode cX2_sortTriples 37 = .ok (.goto (-32), 3) := by decide +kernel
theorem dX2_sortTriples_40 : decode cX2_sortTriples 40 = .ok (.iload_n 3, 1) := by decide +kernel
theorem dX2_sortTriples_41 : decode cX2_sortTriples 41 = .ok (.ireturn, 1) := by decide +kernel
def mwX2_sortTriples : List Cond := .code yX2_sortTriples cX2_sortTriples 5 (some .int) :: ([.code yX2_tripleAt cX2_tripleAt 2 (some .int), .methodLink RX2 44 yX2_tripleAt, .static yX2_tripleAt, .initialized RX2, .code yX3_insert cX3_insert 4 (some .int), .methodLink RX3 38 arraycopyName, .native arraycopyName, .static arraycopyName, .initialized "java/lang/System", .methodLink RX2 48 yX3_insert, .static yX3_insert, .initialized RX3])
set_option maxRecDepth 20000 in
theorem mg_X2_sortTriples_X2_tripleAt_44 : GoodIn mwX2_sortTriples (va_wsS RX2 44 yX2_tripleAt mwX2_tripleAt) := goodIn_r _ [2, 3, 4, 1] (by decide +kernel) (by decide +kernel)
set_option maxRecDepth 20000 in
theorem mg_X2_sortTriples_X3_insert_48 : GoodIn mwX2_sortTriples (va_wsS RX2 48 yX3_insert mwX3_insert) := goodIn_r _ [10, 11, 12, 5, 6, 7, 8, 9] (by decide +kernel) (by decide +kernel)
set_option maxHeartbeats 4000000 in
set_option maxRecDepth 100000 in
/-- Doc.sortTriples -/
theorem s_sortTriples (l : Launch) (dC : Nat → ClassId) (dI : Nat → Nat → Nat) (ia la n mm : Nat) (cI cJ : ClassId) (f fl : Nat → Int32) (sz : Nat) (i9 : Int32) (hm : mm ≤ 1000) (hn : n ≤ 1000) : Met l yX2_sortTriples mwX2_sortTriples ({ frames := 2, cells := 0, slots := 0, locals := 120 }) (va_Pc [.ref la, .int i9, .ref ia] (fun U => U.heap.size = sz ∧ va_P (dC, dI) vwCl ([(ia, .inl (cJ, n, .inl f)), (la, .inl (cI, mm, .inl fl))]) U.heap ∧ va_K (dC, dI) vwCl ([(cJ, .int), (cI, .int)]) U ∧ va_D (fun _ => True) ([(ia, .inl (cJ, n, .inl f)), (la, .inl (cI, mm, .inl fl))]))) (va_Qi (fun (o9 : Int32) (_ : Unit) => 0 ≤ o9.toInt ∧ o9.toInt ≤ n) (fun _ t => ∃ f9 : Nat → Int32, va_P (dC, dI) vwCl [(ia, .inl (cJ, n, .inl f9)), (la, .inl (cI, mm, .inl fl))] t.heap ∧ va_K (dC, dI) vwCl [(cJ, .int), (cI, .int)] t ∧ va_D (va_A ([(ia, .inl (cJ, n, .inl f)), (la, .inl (cI, mm, .inl fl))]) sz) [(ia, .inl (cJ, n, .inl f9)), (la, .inl (cI, mm, .inl fl))]) (va_A ([(ia, .inl (cJ, n, .inl f)), (la, .inl (cI, mm, .inl fl))]) sz)) 0 0 (va_A ([(ia, .inl (cJ, n, .inl f)), (la, .inl (cI, mm, .inl fl))]) sz) := by
  refine Met.ofW (cc := cX2_sortTriples) (maxL := 5) (ret := (some .int)) (by decide +kernel) rfl ?_
  intro p e s m args below meth c s₁ B hml hv
  obtain ⟨rfl, hsz, hP, hK, hD0⟩ := hv
  have hx := B.exec
  have hb := B.bytes
  have hr := B.returns
  have hts := atoms_spec (ws := mwX2_sortTriples) B.pre
  have hown : s.vm.findClass RX2 = some m.cls := findClass_of_methodNamed B.named
  have hlocks := B.notSynchronized
  subst hsz
  have hD := hD0.self (sz := s.heap.size)
  generalize hAe : va_A ([(ia, .inl (cJ, n, .inl f)), (la, .inl (cI, mm, .inl fl))]) s.heap.size = A at hD ⊢
  have hA : ∀ q : Nat, s.heap.size ≤ q → A q := fun q h => by rw [← hAe]; exact Or.inr h
  have hP : va_P (dC, dI) vwCl [(ia, .inl (cJ, n, .inl f)), (la, .inl (cI, mm, .inl fl))] s.heap := hP
  have hD : va_D A [(ia, .inl (cJ, n, .inl f)), (la, .inl (cI, mm, .inl fl))] := hD
  have hK : va_K (dC, dI) vwCl [(cJ, .int), (cI, .int)] s := hK
  generalize hH : s.heap = H at hP ⊢
  have hS : va_S A s.heap H [] := by rw [← hH]; exact va_S.rf
  have hl := lv_entry ([.ref la, .int i9, .ref ia]) (n := 5) (Nat.le_of_ble_eq_true rfl)
  rw [lg_entry_eq]
  generalize (lg_sl ([.ref la, .int i9, .ref ia]) ++ List.replicate (5 - (lg_sl ([.ref la, .int i9, .ref ia])).length) Slot.unset).toArray = ls at hl ⊢
  have hl : lv_has ls 5 [(0, .ref la), (1, .int i9), (2, .ref ia)] := hl
  have rg_i9 := i_rng i9
  refine lv_iconst (v := 0) hx hb dX2_sortTriples_0 (by decide) ?_
  refine lv_istore_n (lv' := [(3, .int 0), (0, .ref la), (1, .int i9), (2, .ref ia)]) hx hb dX2_sortTriples_1 rfl hl (by decide) rfl (fun ls hl => ?_)
  refine lv_iconst (v := 0) hx hb dX2_sortTriples_2 (by decide) ?_
  refine lv_istore (lv' := [(4, .int 0), (3, .int 0), (0, .ref la), (1, .int i9), (2, .ref ia)]) hx hb dX2_sortTriples_3 hl (by decide) rfl (fun ls hl => ?_)
  have loop5 : ∀ (n_5 : Nat) (mn pl : Int32) (ga : Nat → Int32), (0 ≤ pl.toInt) → (pl.toInt ≤ 1000) → (0 ≤ mn.toInt) → (mn.toInt ≤ n) → (((mm : Int) - pl.toInt).toNat) < n_5 → ∀ (H : Heap) (locs : List Loc) (ls : Array Slot), va_P (dC, dI) vwCl [(ia, .inl (cJ, n, .inl ga)), (la, .inl (cI, mm, .inl fl))] H → va_D A [(ia, .inl (cJ, n, .inl ga)), (la, .inl (cI, mm, .inl fl))] → va_S A s.heap H locs → lv_has ls 5 [(4, .int pl), (3, .int mn), (0, .ref la), (1, .int i9), (2, .ref ia)] → W p l e (headSpec mwX2_sortTriples ({ frames := 2, cells := 0, slots := 0, locals := 120 })).room s m ([.ref la, .int i9, .ref ia]).toArray below meth c H locs 0 0 (MQ below (va_Qi (fun (o9 : Int32) (_ : Unit) => 0 ≤ o9.toInt ∧ o9.toInt ≤ n) (fun _ t => ∃ f9 : Nat → Int32, va_P (dC, dI) vwCl [(ia, .inl (cJ, n, .inl f9)), (la, .inl (cI, mm, .inl fl))] t.heap ∧ va_K (dC, dI) vwCl [(cJ, .int), (cI, .int)] t ∧ va_D A [(ia, .inl (cJ, n, .inl f9)), (la, .inl (cI, mm, .inl fl))]) A) ([.ref la, .int i9, .ref ia]).toArray s 0 0 A) (F0 m 5 ls []) := by
    intro n_5
    induction n_5 with
    | zero => intro mn pl ga v5_0 v5_1 v5_2 v5_3 hm5; exact absurd hm5 (Nat.not_lt_zero _)
    | succ n_5 ih5 =>
      intro mn pl ga v5_0 v5_1 v5_2 v5_3 hm5 H locs ls hP hD hS hl
      have rg_mn := i_rng mn
      have rg_pl := i_rng pl
      refine lv_iload hx hb dX2_sortTriples_5 (lv_at hl 0 rfl) ?_
      refine lv_iconst (v := 2) hx hb dX2_sortTriples_7 (by decide) ?_
      refine lv_iadd hx hb dX2_sortTriples_8 ?_
      refine lv_topi (fun y_1 ey_1 => ?_)
      first | have ty_1 := i_add (a := pl.toInt) (b := 2) rfl (by decide) ey_1 (by omega) (by omega) | skip
      refine lv_iload_n hx hb dX2_sortTriples_9 rfl (lv_at hl 3 rfl) ?_
      refine lv_icmp_ge (tgt := 40) hx hb dX2_sortTriples_10 (by decide) (fun k_2 => ?_) (fun k_2 => ?_)
      · have tk_2 := c_ge (a := y_1.toInt) (b := i9.toInt) rfl rfl k_2
        refine lv_iload_n hx hb dX2_sortTriples_40 rfl (lv_at hl 1 rfl) ?_
        have hP9 := hP.sub (ws' := [(ia, .inl (cJ, n, .inl ga)), (la, .inl (cI, mm, .inl fl))]) [0, 1] rfl
        have hD9 := hD.sub (ws' := [(ia, .inl (cJ, n, .inl ga)), (la, .inl (cI, mm, .inl fl))]) [0, 1] (by decide) rfl
        have hK9 := hK.sub (tys' := [(cJ, .int), (cI, .int)]) [0, 1] rfl
        exact W.iret hx hb hr (fun t ht hW => ⟨⟨_, (), rfl, by omega, ga, by rw [ht]; exact hP9, va_K.moved hW.alike hK9, hD9⟩, hS.F ht⟩) hS.2.2 dX2_sortTriples_41
      · have tk_2 := c_nge (a := y_1.toInt) (b := i9.toInt) rfl rfl k_2
        refine lv_iload hx hb dX2_sortTriples_13 (lv_at hl 0 rfl) ?_
        refine lv_iconst (v := 2) hx hb dX2_sortTriples_15 (by decide) ?_
        refine lv_iadd hx hb dX2_sortTriples_16 ?_
        refine lv_topi (fun y_3 ey_3 => ?_)
        first | have ty_3 := i_add (a := pl.toInt) (b := 2) rfl (by decide) ey_3 (by omega) (by omega) | skip
        refine lv_aload_n hx hb dX2_sortTriples_17 rfl (lv_at hl 2 rfl) ?_
        refine va_alen hx hb hK hP 1 1 rfl rfl rfl dX2_sortTriples_18 ?_
        refine lv_topi (fun y_4 ey_4 => ?_)
        have ty_4 : y_4.toInt = (mm : Int) := i_len ey_4 (by omega)
        refine lv_icmp_ge (tgt := 40) hx hb dX2_sortTriples_19 (by decide) (fun k_5 => ?_) (fun k_5 => ?_)
        · have tk_5 := c_ge (a := y_3.toInt) (b := y_4.toInt) rfl rfl k_5
          refine lv_iload_n hx hb dX2_sortTriples_40 rfl (lv_at hl 1 rfl) ?_
          have hP9 := hP.sub (ws' := [(ia, .inl (cJ, n, .inl ga)), (la, .inl (cI, mm, .inl fl))]) [0, 1] rfl
          have hD9 := hD.sub (ws' := [(ia, .inl (cJ, n, .inl ga)), (la, .inl (cI, mm, .inl fl))]) [0, 1] (by decide) rfl
          have hK9 := hK.sub (tys' := [(cJ, .int), (cI, .int)]) [0, 1] rfl
          exact W.iret hx hb hr (fun t ht hW => ⟨⟨_, (), rfl, by omega, ga, by rw [ht]; exact hP9, va_K.moved hW.alike hK9, hD9⟩, hS.F ht⟩) hS.2.2 dX2_sortTriples_41
        · have tk_5 := c_nge (a := y_3.toInt) (b := y_4.toInt) rfl rfl k_5
          refine lv_aload_n hx hb dX2_sortTriples_22 rfl (lv_at hl 4 rfl) ?_
          refine lv_iload_n hx hb dX2_sortTriples_23 rfl (lv_at hl 1 rfl) ?_
          refine lv_aload_n hx hb dX2_sortTriples_24 rfl (lv_at hl 2 rfl) ?_
          refine lv_iload hx hb dX2_sortTriples_25 (lv_at hl 0 rfl) ?_
          have hPc := hP.sub (ws' := [(la, .inl (cI, mm, .inl fl))]) [1] rfl
          have hKc := hK.sub (tys' := [(cI, .int)]) [1] rfl
          refine vp_callSi (W.runS (As := [.ref la, .int pl]) (rest := [.int mn, .ref ia]) ⟨hx, hb, hml, hown, hts⟩ (s_Doc_tripleAt l dC dI la mm fl cI pl (by omega) (by omega) (by omega)) (va_cwS 2 hts mg_X2_sortTriples_X2_tripleAt_44 rfl rfl rfl (by decide +kernel) ⟨Nat.le_of_ble_eq_true rfl, Nat.le_of_ble_eq_true rfl⟩) ⟨fun a U g mk q => by obtain ⟨q0, qP, qK⟩ := q; exact ⟨q0, qP, va_K.moved (u := U) (U := U.calling g mk a) (Vm.Alike.refl U.vm) qK⟩, fun U hU hW => ⟨rfl, by rw [hU]; exact hPc, va_K.moved hW.alike hKc⟩⟩ rfl rfl hl.1 rfl (lv_room (Nat.le_of_ble_eq_true rfl)) dX2_sortTriples_27 ⟨Nat.le_of_ble_eq_true rfl, Nat.le_of_ble_eq_true rfl⟩) (fun r_7 hw => ?_)
          have hPc := hP.sub (ws' := [(ia, .inl (cJ, n, .inl ga))]) [0] rfl
          have hKc := hK.sub (tys' := [(cJ, .int)]) [0] rfl
          have hDc := hD.sub (ws' := [(ia, .inl (cJ, n, .inl ga))]) [0] (by decide) rfl
          have hFc := va_free (wc := [(ia, .inl (cJ, n, .inl ga))]) hD hS hA [0] rfl
          refine va_calli (va_runS (As := [.ref ia, .int mn, .int r_7]) (rest := []) ⟨hx, hb, hml, hown, hts⟩ (s_insert l dC dI ia n cJ ga H.size mn r_7 (by first | omega | decide | (have l0 := Int32.toInt_zero; omega)) (by first | omega | decide | (have l0 := Int32.toInt_zero; omega)) (by first | omega | decide | (have l0 := Int32.toInt_zero; omega))) (va_cwS 3 hts mg_X2_sortTriples_X3_insert_48 rfl rfl rfl (by decide +kernel) ⟨Nat.le_of_ble_eq_true rfl, Nat.le_of_ble_eq_true rfl⟩) ⟨fun a U g mk q => by obtain ⟨q0, q1, qP, qK, qD⟩ := q; exact ⟨q0, q1, qP, va_K.moved (u := U) (U := U.calling g mk a) (Vm.Alike.refl U.vm) qK, qD⟩, fun U hU hW => ⟨rfl, by rw [hU], by rw [hU]; exact hPc, va_K.moved hW.alike hKc, hDc.weaken (fun _ _ _ _ => trivial)⟩⟩ rfl rfl hl.1 rfl (lv_room (Nat.le_of_ble_eq_true rfl)) dX2_sortTriples_30 ⟨Nat.le_of_ble_eq_true rfl, Nat.le_of_ble_eq_true rfl⟩) hS (fun q _ h => hFc q h) hFc (fun r_9 u t H1 locs ht hvm hw hB hz1 hk1 hS => ?_)
          obtain ⟨f_10, hP1, hK1, hD1⟩ := hB
          rw [ht] at hP1
          have hr_9 := hw
          obtain ⟨hP, hD⟩ := va_join (wr := [(la, .inl (cI, mm, .inl fl))]) (w1 := [(ia, .inl (cJ, n, .inl f_10))]) hP hD [0] [1] rfl rfl (by decide) (by decide) hk1 hFc hP1 hD1
          generalize H1 = H at hP hS ⊢
          have hP : va_P (dC, dI) vwCl [(la, .inl (cI, mm, .inl fl)), (ia, .inl (cJ, n, .inl f_10))] H := hP
          have hD : va_D A [(la, .inl (cI, mm, .inl fl)), (ia, .inl (cJ, n, .inl f_10))] := hD
          refine lv_istore_n (lv' := [(3, .int r_9), (4, .int pl), (0, .ref la), (1, .int i9), (2, .ref ia)]) hx hb dX2_sortTriples_33 rfl hl (by decide) rfl (fun ls hl => ?_)
          obtain ⟨y_11, ey_11⟩ : ∃ y : Int32, y = pl + 1 := ⟨_, rfl⟩
          first | have ty_11 := i_add (a := pl.toInt) (b := 1) rfl (by decide) ey_11 (by omega) (by omega) | skip
          refine lv_iinc (v := y_11) (lv' := [(4, .int y_11), (3, .int r_9), (0, .ref la), (1, .int i9), (2, .ref ia)]) hx hb dX2_sortTriples_34 hl (k := 1) rfl (by rw [ey_11]; rfl) (by decide) rfl (fun ls hl => ?_)
          refine lv_goto (tgt := 5) hx hb dX2_sortTriples_37 (by decide) ?_
          exact ih5 r_9 y_11 f_10 (by first | omega | decide | assumption) (by first | omega | decide | assumption) (by first | omega | decide | assumption) (by first | omega | decide | assumption) (by omega) _ _ ls (hP.sub [1, 0] rfl) (hD.sub [1, 0] (by decide) rfl) hS (lv_sub hl [0, 1, 2, 3, 4] rfl)
  have lit_11 : (0 : Int32).toInt = 0 := by decide
  have lit_12 : (0 : Int32).toInt = 0 := by decide
  exact loop5 _ 0 0 f (by first | omega | decide | assumption) (by first | omega | decide | assumption) (by first | omega | decide | assumption) (by first | omega | decide | assumption) (Nat.lt_succ_self _) _ _ ls hP hD hS (lv_sub hl [0, 1, 2, 3, 4] rfl)
theorem dX8_leapThrough_0 : decode cX8_leapThrough 0 = .ok (.iconst 0, 1) := by decide +kernel
theorem dX8_leapThrough_1 : decode cX8_leapThrough 1 = .ok (.istore_n 2, 1) := by decide +kernel
theorem dX8_leapThrough_2 : decode cX8_leapThrough 2 = .ok (.iconst 0, 1) := by decide +kernel
theorem dX8_leapThrough_3 : decode cX8_leapThrough 3 = .ok (.istore_n 3, 1) := by decide +kernel
theorem dX8_leapThrough_4 : decode cX8_leapThrough 4 = .ok (.iconst 0, 1) := by decide +kernel
theorem dX8_leapThrough_5 : decode cX8_leapThrough 5 = .ok (.istore 4, 2) := by decide +kernel
theorem dX8_leapThrough_7 : decode cX8_leapThrough 7 = .ok (.bipush 12, 2) := by decide +kernel
theorem dX8_leapThrough_9 : decode cX8_leapThrough 9 = .ok (.iload_n 1, 1) := by decide +kernel
theorem dX8_leapThrough_10 : decode cX8_leapThrough 10 = .ok (.iconst 1, 1) := by decide +kernel
theorem dX8_leapThrough_11 : decode cX8_leapThrough 11 = .ok (.iadd, 1) := by decide +kernel
theorem dX8_leapThrough_12 : decode cX8_leapThrough 12 = .ok (.imul, 1) := by decide +kernel
theorem dX8_leapThrough_13 : decode cX8_leapThrough 13 = .ok (.istore 5, 2) := by decide +kernel
theorem dX8_leapThrough_15 : decode cX8_leapThrough 15 = .ok (.iconst 0, 1) := by decide +kernel
theorem dX8_leapThrough_16 : decode cX8_leapThrough 16 = .ok (.istore 6, 2) := by decide +kernel
theorem dX8_leapThrough_18 : decode cX8_leapThrough 18 = .ok (.iload 6, 2) := by decide +kernel
theorem dX8_leapThrough_20 : decode cX8_leapThrough 20 = .ok (.iload 5, 2) := by decide +kernel
theorem dX8_leapThrough_22 : decode cX8_leapThrough 22 = .ok (.if_icmp .ge 102, 3) := by decide +kernel
theorem dX8_leapThrough_25 : decode cX8_leapThrough 25 = .ok (.aload_n 0, 1) := by decide +kernel
theorem dX8_leapThrough_26 : decode cX8_leapThrough 26 = .ok (.dup, 1) := by decide +kernel
theorem dX8_leapThrough_27 : decode cX8_leapThrough 27 = .ok (.getfield 19, 3) := by decide +kernel
theorem dX8_leapThrough_30 : decode cX8_leapThrough 30 = .ok (.iconst 1, 1) := by decide +kernel
theorem dX8_leapThrough_31 : decode cX8_leapThrough 31 = .ok (.iadd, 1) := by decide +kernel
theorem dX8_leapThrough_32 : decode cX8_leapThrough 32 = .ok (.putfield 19, 3) := by decide +kernel
theorem dX8_leapThrough_35 : decode cX8_leapThrough 35 = .ok (.aload_n 0, 1) := by decide +kernel
theorem dX8_leapThrough_36 : decode cX8_leapThrough 36 = .ok (.getfield 9, 3) := by decide +kernel
theorem dX8_leapThrough_39 : decode cX8_leapThrough 39 = .ok (.iload 4, 2) := by decide +kernel
theorem dX8_leapThrough_41 : decode cX8_leapThrough 41 = .ok (.iaload, 1) := by decide +kernel
theorem dX8_leapThrough_42 : decode cX8_leapThrough 42 = .ok (.iload_n 2, 1) := by decide +kernel
theorem dX8_leapThrough_43 : decode cX8_leapThrough 43 = .ok (.iushr, 1) := by decide +kernel
theorem dX8_leapThrough_44 : decode cX8_leapThrough 44 = .ok (.iload_n 2, 1) := by decide +kernel
theorem dX8_leapThrough_45 : decode cX8_leapThrough 45 = .ok (.ishl, 1) := by decide +kernel
theorem dX8_leapThrough_46 : decode cX8_leapThrough 46 = .ok (.istore 7, 2) := by decide +kernel
theorem dX8_leapThrough_48 : decode cX8_leapThrough 48 = .ok (.iload 7, 2) := by decide +kernel
theorem dX8_leapThrough_50 : decode cX8_leapThrough 50 = .ok (.ifCond .ne 4, 3) := by decide +kernel
theorem dX8_leapThrough_53 : decode cX8_leapThrough 53 = .ok (.return_, 1) := by decide +kernel
theorem dX8_leapThrough_54 : decode cX8_leapThrough 54 = .ok (.iload 7, 2) := by decide +kernel
theorem dX8_leapThrough_56 : decode cX8_leapThrough 56 = .ok (.invokestatic 54, 3) := by decide +kernel
theorem dX8_leapThrough_59 : decode cX8_leapThrough 59 = .ok (.istore 8, 2) := by decide +kernel
theorem dX8_leapThrough_61 : decode cX8_leapThrough 61 = .ok (.iload 8, 2) := by decide +kernel
theorem dX8_leapThrough_63 : decode cX8_leapThrough 63 = .ok (.iload_n 2, 1) := by decide +kernel
theorem dX8_leapThrough_64 : decode cX8_leapThrough 64 = .ok (.if_icmp .le 7, 3) := by decide +kernel
theorem dX8_leapThrough_67 : decode cX8_leapThrough 67 = .ok (.iconst 1, 1) := by decide +kernel
theorem dX8_leapThrough_68 : decode cX8_leapThrough 68 = .ok (.goto 6, 3) := by decide +kernel
theorem dX8_leapThrough_71 : decode cX8_leapThrough 71 = .ok (.iload_n 3, 1) := by decide +kernel
theorem dX8_leapThrough_72 : decode cX8_leapThrough 72 = .ok (.iconst 1, 1) := by decide +kernel
theorem dX8_leapThrough_73 : decode cX8_leapThrough 73 = .ok (.iadd, 1) := by decide +kernel
theorem dX8_leapThrough_74 : decode cX8_leapThrough 74 = .ok (.istore_n 3, 1) := by decide +kernel
theorem dX8_leapThrough_75 : decode cX8_leapThrough 75 = .ok (.iload 8, 2) := by decide +kernel
theorem dX8_leapThrough_77 : decode cX8_leapThrough 77 = .ok (.istore_n 2, 1) := by decide +kernel
theorem dX8_leapThrough_78 : decode cX8_leapThrough 78 = .ok (.iload_n 3, 1) := by decide +kernel
theorem dX8_leapThrough_79 : decode cX8_leapThrough 79 = .ok (.iload_n 1, 1) := by decide +kernel
theorem dX8_leapThrough_80 : decode cX8_leapThrough 80 = .ok (.if_icmp .ne 20, 3) := by decide +kernel
theorem dX8_leapThrough_83 : decode cX8_leapThrough 83 = .ok (.aload_n 0, 1) := by decide +kernel
theorem dX8_leapThrough_84 : decode cX8_leapThrough 84 = .ok (.dup, 1) := by decide +kernel
theorem dX8_leapThrough_85 : decode cX8_leapThrough 85 = .ok (.getfield 15, 3) := by decide +kernel
theorem dX8_leapThrough_88 : decode cX8_leapThrough 88 = .ok (.iconst 1, 1) := by decide +kernel
theorem dX8_leapThrough_89 : decode cX8_leapThrough 89 = .ok (.iload_n 2, 1) := by decide +kernel
theorem dX8_leapThrough_90 : decode cX8_leapThrough 90 = .ok (.ishl, 1) := by decide +kernel
theorem dX8_leapThrough_91 : decode cX8_leapThrough 91 = .ok (.ior, 1) := by decide +kernel
theorem dX8_leapThrough_92 : decode cX8_leapThrough 92 = .ok (.putfield 15, 3) := by decide +kernel
theorem dX8_leapThrough_95 : decode cX8_leapThrough 95 = .ok (.iinc 2 1, 3) := by decide +kernel
theorem dX8_leapThrough_98 : decode cX8_leapThrough 98 = .ok (.iconst 0, 1) := by decide +kernel
theorem dX8_leapThrough_99 : decode cX8_leapThrough 99 = .ok (.istore_n 3, 1) := by decide +kernel
theorem dX8_leapThrough_100 : decode cX8_leapThrough 100 = .ok (.iload 4, 2) := by decide +kernel
theorem dX8_leapThrough_102 : decode cX8_leapThrough 102 = .ok (.iconst 1, 1) := by decide +kernel
theorem dX8_leapThrough_103 : decode cX8_leapThrough 103 = .ok (.iadd, 1) := by decide +kernel
theorem dX8_leapThrough_104 : decode cX8_leapThrough 104 = .ok (.iload_n 1, 1) := by decide +kernel
theorem dX8_leapThrough_105 : decode cX8_leapThrough 105 = .ok (.if_icmp .ge 10, 3) := by decide +kernel
theorem dX8_leapThrough_108 : decode cX8_leapThrough 108 = .ok (.iload 4, 2) := by decide +kernel
theorem dX8_leapThrough_110 : decode cX8_leapThrough 110 = .ok (.iconst 1, 1) := by decide +kernel
theorem dX8_leapThrough_111 : decode cX8_leapThrough 111 = .ok (.iadd, 1) := by decide +kernel
theorem dX8_leapThrough_112 : decode cX8_leapThrough 112 = .ok (.goto 4, 3) := by decide +kernel
theorem dX8_leapThrough_115 : decode cX8_leapThrough 115 = .ok (.iconst 0, 1) := by decide +kernel
theorem dX8_leapThrough_116 : decode cX8_leapThrough 116 = .ok (.istore 4, 2) := by decide +kernel
theorem dX8_leapThrough_118 : decode cX8_leapThrough 118 = .ok (.iinc 6 1, 3) := by decide +kernel
theorem dX8_leapThrough_121 : decode cX8_leapThrough 121 = .ok (.goto (-103), 3) := by decide +kernel
theorem dX8_leapThrough_124 : decode cX8_leapThrough 124 = .ok (.return_, 1) := by decide +kernel
def mwX8_leapThrough : List Cond := .code yX8_leapThrough cX8_leapThrough 9 none :: ([.fieldLink RX8 19 "PatternGate$Walk" "leaps" "I", .fieldLink RX8 9 "PatternGate$Walk" "lists" "[I", .code yJ6_numberOfTrailingZeros_0f7a4 cJ6_numberOfTrailingZeros_0f7a4 2 (some .int), .constant RJ6 264 (65536), .methodLink RX8 54 yJ6_numberOfTrailingZeros_0f7a4, .static yJ6_numberOfTrailingZeros_0f7a4, .initialized RJ6, .fieldLink RX8 15 "PatternGate$Walk" "candidates" "I"] ++ wsX80)
theorem fin_X8_leapThrough_X8 : ∀ w ∈ wsX80, w ∈ mwX8_leapThrough := fun w h => List.mem_cons_of_mem _ (List.mem_append_right _ h)
set_option maxRecDepth 20000 in
theorem mg_X8_leapThrough_J6_numberOfTrailingZeros_0f7a4_54 : GoodIn mwX8_leapThrough (va_wsS RX8 54 yJ6_numberOfTrailingZeros_0f7a4 mwJ6_numberOfTrailingZeros_0f7a4) := goodIn_r _ [5, 6, 7, 3, 4] (by decide +kernel) (by decide +kernel)
set_option maxHeartbeats 4000000 in
set_option maxRecDepth 100000 in
/-- Walk.leapThrough -/
theorem s_leapThrough (l : Launch) (dC : Nat → ClassId) (dI : Nat → Nat → Nat) (w li : Nat) (cL : ClassId) (f : Nat → Int32) (x0 x1 : Int32) (sz : Nat) (i9 : Int32) (h1 : 1 ≤ i9.toInt) (h2 : i9.toInt ≤ 24) : Met l yX8_leapThrough mwX8_leapThrough ({ frames := 1, cells := 0, slots := 0, locals := 60 }) (va_Pc [.ref w, .int i9] (fun U => U.heap.size = sz ∧ va_P (dC, dI) vwCl ([(w, .inr (8, [.int x0, .int x1, .ref li])), (li, .inl (cL, 24, .inl f))]) U.heap ∧ va_K (dC, dI) vwCl ([(cL, .int)]) U ∧ va_D (fun _ => True) ([(w, .inr (8, [.int x0, .int x1, .ref li])), (li, .inl (cL, 24, .inl f))]))) (va_Qv (fun (_ : Unit) => True) (fun _ t => ∃ y0 y1 : Int32, va_P (dC, dI) vwCl [(w, .inr (8, [.int y0, .int y1, .ref li])), (li, .inl (cL, 24, .inl f))] t.heap ∧ va_K (dC, dI) vwCl [(cL, .int)] t ∧ va_D (va_A ([(w, .inr (8, [.int x0, .int x1, .ref li])), (li, .inl (cL, 24, .inl f))]) sz) [(w, .inr (8, [.int y0, .int y1, .ref li])), (li, .inl (cL, 24, .inl f))]) (va_A ([(w, .inr (8, [.int x0, .int x1, .ref li])), (li, .inl (cL, 24, .inl f))]) sz)) 0 0 (va_A ([(w, .inr (8, [.int x0, .int x1, .ref li])), (li, .inl (cL, 24, .inl f))]) sz) := by
  refine Met.ofW (cc := cX8_leapThrough) (maxL := 9) (ret := none) (by decide +kernel) rfl ?_
  intro p e s m args below meth c s₁ B hml hv
  obtain ⟨rfl, hsz, hP, hK, hD0⟩ := hv
  have hx := B.exec
  have hb := B.bytes
  have hr := B.returns
  have hts := atoms_spec (ws := mwX8_leapThrough) B.pre
  have hown : s.vm.findClass RX8 = some m.cls := findClass_of_methodNamed B.named
  have hlocks := B.notSynchronized
  subst hsz
  have hD := hD0.self (sz := s.heap.size)
  generalize hAe : va_A ([(w, .inr (8, [.int x0, .int x1, .ref li])), (li, .inl (cL, 24, .inl f))]) s.heap.size = A at hD ⊢
  have hA : ∀ q : Nat, s.heap.size ≤ q → A q := fun q h => by rw [← hAe]; exact Or.inr h
  have hP : va_P (dC, dI) vwCl [(w, .inr (8, [.int x0, .int x1, .ref li])), (li, .inl (cL, 24, .inl f))] s.heap := hP
  have hD : va_D A [(w, .inr (8, [.int x0, .int x1, .ref li])), (li, .inl (cL, 24, .inl f))] := hD
  have hK : va_K (dC, dI) vwCl [(cL, .int)] s := hK
  generalize hH : s.heap = H at hP ⊢
  have hS : va_S A s.heap H [] := by rw [← hH]; exact va_S.rf
  have hl := lv_entry ([.ref w, .int i9]) (n := 9) (Nat.le_of_ble_eq_true rfl)
  rw [lg_entry_eq]
  generalize (lg_sl ([.ref w, .int i9]) ++ List.replicate (9 - (lg_sl ([.ref w, .int i9])).length) Slot.unset).toArray = ls at hl ⊢
  have hl : lv_has ls 9 [(0, .ref w), (1, .int i9)] := hl
  have rg_i9 := i_rng i9
  refine lv_iconst (v := 0) hx hb dX8_leapThrough_0 (by decide) ?_
  refine lv_istore_n (lv' := [(2, .int 0), (0, .ref w), (1, .int i9)]) hx hb dX8_leapThrough_1 rfl hl (by decide) rfl (fun ls hl => ?_)
  refine lv_iconst (v := 0) hx hb dX8_leapThrough_2 (by decide) ?_
  refine lv_istore_n (lv' := [(3, .int 0), (2, .int 0), (0, .ref w), (1, .int i9)]) hx hb dX8_leapThrough_3 rfl hl (by decide) rfl (fun ls hl => ?_)
  refine lv_iconst (v := 0) hx hb dX8_leapThrough_4 (by decide) ?_
  refine lv_istore (lv' := [(4, .int 0), (3, .int 0), (2, .int 0), (0, .ref w), (1, .int i9)]) hx hb dX8_leapThrough_5 hl (by decide) rfl (fun ls hl => ?_)
  refine lv_bipush (v := 12) hx hb dX8_leapThrough_7 (by decide) ?_
  refine lv_iload_n hx hb dX8_leapThrough_9 rfl (lv_at hl 4 rfl) ?_
  refine lv_iconst (v := 1) hx hb dX8_leapThrough_10 (by decide) ?_
  refine lv_iadd hx hb dX8_leapThrough_11 ?_
  refine lv_topi (fun y_1 ey_1 => ?_)
  first | have ty_1 := i_add (a := i9.toInt) (b := 1) rfl (by decide) ey_1 (by omega) (by omega) | skip
  refine lv_imul hx hb dX8_leapThrough_12 ?_
  refine lv_topi (fun y_2 ey_2 => ?_)
  first | have ty_2 := i_mul (a := 12) (b := y_1.toInt) (by decide) rfl ey_2 (by omega) (by omega) | skip
  refine lv_istore (lv' := [(5, .int y_2), (4, .int 0), (3, .int 0), (2, .int 0), (0, .ref w), (1, .int i9)]) hx hb dX8_leapThrough_13 hl (by decide) rfl (fun ls hl => ?_)
  refine lv_iconst (v := 0) hx hb dX8_leapThrough_15 (by decide) ?_
  refine lv_istore (lv' := [(6, .int 0), (5, .int y_2), (4, .int 0), (3, .int 0), (2, .int 0), (0, .ref w), (1, .int i9)]) hx hb dX8_leapThrough_16 hl (by decide) rfl (fun ls hl => ?_)
  have loop18 : ∀ (n_18 : Nat) (ax ag wh lp xa xb : Int32), (0 ≤ wh.toInt) → (wh.toInt < i9.toInt) → (0 ≤ lp.toInt) → ((1000 - lp.toInt).toNat) < n_18 → ∀ (H : Heap) (locs : List Loc) (ls : Array Slot), va_P (dC, dI) vwCl [(w, .inr (8, [.int xa, .int xb, .ref li])), (li, .inl (cL, 24, .inl f))] H → va_D A [(w, .inr (8, [.int xa, .int xb, .ref li])), (li, .inl (cL, 24, .inl f))] → va_S A s.heap H locs → lv_has ls 9 [(6, .int lp), (5, .int y_2), (4, .int wh), (3, .int ag), (2, .int ax), (0, .ref w), (1, .int i9)] → W p l e (headSpec mwX8_leapThrough ({ frames := 1, cells := 0, slots := 0, locals := 60 })).room s m ([.ref w, .int i9]).toArray below meth c H locs 0 0 (MQ below (va_Qv (fun (_ : Unit) => True) (fun _ t => ∃ y0 y1 : Int32, va_P (dC, dI) vwCl [(w, .inr (8, [.int y0, .int y1, .ref li])), (li, .inl (cL, 24, .inl f))] t.heap ∧ va_K (dC, dI) vwCl [(cL, .int)] t ∧ va_D A [(w, .inr (8, [.int y0, .int y1, .ref li])), (li, .inl (cL, 24, .inl f))]) A) ([.ref w, .int i9]).toArray s 0 0 A) (F0 m 18 ls []) := by
    intro n_18
    induction n_18 with
    | zero => intro ax ag wh lp xa xb v18_0 v18_1 v18_2 hm18; exact absurd hm18 (Nat.not_lt_zero _)
    | succ n_18 ih18 =>
      intro ax ag wh lp xa xb v18_0 v18_1 v18_2 hm18 H locs ls hP hD hS hl
      have rg_ax := i_rng ax
      have rg_ag := i_rng ag
      have rg_wh := i_rng wh
      have rg_lp := i_rng lp
      have rg_xa := i_rng xa
      have rg_xb := i_rng xb
      refine lv_iload hx hb dX8_leapThrough_18 (lv_at hl 0 rfl) ?_
      refine lv_iload hx hb dX8_leapThrough_20 (lv_at hl 1 rfl) ?_
      refine lv_icmp_ge (tgt := 124) hx hb dX8_leapThrough_22 (by decide) (fun k_3 => ?_) (fun k_3 => ?_)
      · have tk_3 := c_ge (a := lp.toInt) (b := y_2.toInt) rfl rfl k_3
        have hP9 := hP.sub (ws' := [(w, .inr (8, [.int xa, .int xb, .ref li])), (li, .inl (cL, 24, .inl f))]) [0, 1] rfl
        have hD9 := hD.sub (ws' := [(w, .inr (8, [.int xa, .int xb, .ref li])), (li, .inl (cL, 24, .inl f))]) [0, 1] (by decide) rfl
        have hK9 := hK.sub (tys' := [(cL, .int)]) [0] rfl
        exact W.vret hx hb hr (fun t ht hW => ⟨⟨(), rfl, trivial, xa, xb, by rw [ht]; exact hP9, va_K.moved hW.alike hK9, hD9⟩, hS.F ht⟩) hS.2.2 dX8_leapThrough_124
      · have tk_3 := c_nge (a := lp.toInt) (b := y_2.toInt) rfl rfl k_3
        refine lv_aload_n hx hb dX8_leapThrough_25 rfl (lv_at hl 5 rfl) ?_
        refine lv_dup hx hb dX8_leapThrough_26 rfl ?_
        refine va_get (D := (dC, dI)) (ci := 8) (v := .int xb) (C := RX8) (T := TX8) (N := 3) hx hb hts fin_X8_leapThrough_X8 hown hK hP 0 rfl rfl 1 (by decide) (hts (.fieldLink RX8 19 "PatternGate$Walk" "leaps" "I") (List.mem_of_getElem? (i := 1) (by decide +kernel))) (fun _ h9 => h9) rfl dX8_leapThrough_27 ?_
        refine lv_iconst (v := 1) hx hb dX8_leapThrough_30 (by decide) ?_
        refine lv_iadd hx hb dX8_leapThrough_31 ?_
        refine lv_topi (fun y_4 ey_4 => ?_)
        first | have ty_4 := i_add (a := xb.toInt) (b := 1) rfl (by decide) ey_4 (by omega) (by omega) | skip
        refine va_put (D := (dC, dI)) (ci := 8) (v := .int y_4) (ty := .int) (C := RX8) (T := TX8) (N := 3) hx hb hts fin_X8_leapThrough_X8 tyX8 tyX8_ok nmX8 hown hK hP hD hS 0 rfl rfl 1 (by decide) (hts (.fieldLink RX8 19 "PatternGate$Walk" "leaps" "I") (List.mem_of_getElem? (i := 1) (by decide +kernel))) (fun _ h9 => h9) rfl (by decide +kernel) rfl rfl (Nat.le_of_ble_eq_true rfl) dX8_leapThrough_32 (fun H locs hP hD hS => ?_)
        have hP : va_P (dC, dI) vwCl [(w, .inr (8, [.int xa, .int y_4, .ref li])), (li, .inl (cL, 24, .inl f))] H := hP
        have hD : va_D A [(w, .inr (8, [.int xa, .int y_4, .ref li])), (li, .inl (cL, 24, .inl f))] := hD
        refine lv_aload_n hx hb dX8_leapThrough_35 rfl (lv_at hl 5 rfl) ?_
        refine va_get (D := (dC, dI)) (ci := 8) (v := .ref li) (C := RX8) (T := TX8) (N := 3) hx hb hts fin_X8_leapThrough_X8 hown hK hP 0 rfl rfl 2 (by decide) (hts (.fieldLink RX8 9 "PatternGate$Walk" "lists" "[I") (List.mem_of_getElem? (i := 2) (by decide +kernel))) (fun _ h9 => h9) rfl dX8_leapThrough_36 ?_
        refine lv_iload hx hb dX8_leapThrough_39 (lv_at hl 2 rfl) ?_
        refine va_iald hx hb hK hP 1 0 rfl rfl (i := wh) (vp_of (a := wh.toInt) rfl (by omega) (by omega)) dX8_leapThrough_41 ?_
        refine lv_topi (fun y_5 ey_5 => ?_)
        have rg_y_5 := i_rng y_5
        refine lv_iload_n hx hb dX8_leapThrough_42 rfl (lv_at hl 4 rfl) ?_
        refine lv_iushr hx hb dX8_leapThrough_43 rfl ?_
        refine lv_topi (fun y_6 ey_6 => ?_)
        refine lv_iload_n hx hb dX8_leapThrough_44 rfl (lv_at hl 4 rfl) ?_
        refine lv_ishl hx hb dX8_leapThrough_45 ?_
        refine lv_topi (fun y_7 ey_7 => ?_)
        have rg_y_7 := i_rng y_7
        refine lv_istore (lv' := [(7, .int y_7), (6, .int lp), (5, .int y_2), (4, .int wh), (3, .int ag), (2, .int ax), (0, .ref w), (1, .int i9)]) hx hb dX8_leapThrough_46 hl (by decide) rfl (fun ls hl => ?_)
        refine lv_iload hx hb dX8_leapThrough_48 (lv_at hl 0 rfl) ?_
        refine lv_if_ne (tgt := 54) hx hb dX8_leapThrough_50 (by decide) (fun k_8 => ?_) (fun k_8 => ?_)
        · have tk_8 := c_ne (a := y_7.toInt) (b := 0) rfl (by decide) k_8
          refine lv_iload hx hb dX8_leapThrough_54 (lv_at hl 0 rfl) ?_
          refine vp_callSi (W.runS (As := [.int y_7]) (rest := []) ⟨hx, hb, hml, hown, hts⟩ (s_ntz l dC dI y_7) (va_cwS 1 hts mg_X8_leapThrough_J6_numberOfTrailingZeros_0f7a4_54 rfl rfl rfl (by decide +kernel) ⟨Nat.le_of_ble_eq_true rfl, Nat.le_of_ble_eq_true rfl⟩) ⟨fun a U g mk q => ⟨q.1, trivial⟩, fun U hU hW => ⟨rfl, trivial⟩⟩ rfl rfl hl.1 rfl (lv_room (Nat.le_of_ble_eq_true rfl)) dX8_leapThrough_56 ⟨Nat.le_of_ble_eq_true rfl, Nat.le_of_ble_eq_true rfl⟩) (fun r_10 hw => ?_)
          have hr_10 := hw
          refine lv_istore (lv' := [(8, .int r_10), (7, .int y_7), (6, .int lp), (5, .int y_2), (4, .int wh), (3, .int ag), (2, .int ax), (0, .ref w), (1, .int i9)]) hx hb dX8_leapThrough_59 hl (by decide) rfl (fun ls hl => ?_)
          refine lv_iload hx hb dX8_leapThrough_61 (lv_at hl 0 rfl) ?_
          refine lv_iload_n hx hb dX8_leapThrough_63 rfl (lv_at hl 6 rfl) ?_
          refine lv_icmp_le (tgt := 71) hx hb dX8_leapThrough_64 (by decide) (fun k_11 => ?_) (fun k_11 => ?_)
          · have tk_11 := c_le (a := r_10.toInt) (b := ax.toInt) rfl rfl k_11
            refine lv_iload_n hx hb dX8_leapThrough_71 rfl (lv_at hl 5 rfl) ?_
            refine lv_iconst (v := 1) hx hb dX8_leapThrough_72 (by decide) ?_
            refine lv_iadd hx hb dX8_leapThrough_73 ?_
            refine lv_topi (fun y_12 ey_12 => ?_)
            first | have ty_12 := i_add (a := ag.toInt) (b := 1) rfl (by decide) ey_12 (by omega) (by omega) | skip
            refine lv_istore_n (lv' := [(3, .int y_12), (8, .int r_10), (7, .int y_7), (6, .int lp), (5, .int y_2), (4, .int wh), (2, .int ax), (0, .ref w), (1, .int i9)]) hx hb dX8_leapThrough_74 rfl hl (by decide) rfl (fun ls hl => ?_)
            refine lv_iload hx hb dX8_leapThrough_75 (lv_at hl 1 rfl) ?_
            refine lv_istore_n (lv' := [(2, .int r_10), (3, .int y_12), (8, .int r_10), (7, .int y_7), (6, .int lp), (5, .int y_2), (4, .int wh), (0, .ref w), (1, .int i9)]) hx hb dX8_leapThrough_77 rfl hl (by decide) rfl (fun ls hl => ?_)
            refine lv_iload_n hx hb dX8_leapThrough_78 rfl (lv_at hl 1 rfl) ?_
            refine lv_iload_n hx hb dX8_leapThrough_79 rfl (lv_at hl 8 rfl) ?_
            refine lv_icmp_ne (tgt := 100) hx hb dX8_leapThrough_80 (by decide) (fun k_13 => ?_) (fun k_13 => ?_)
            · have tk_13 := c_ne (a := y_12.toInt) (b := i9.toInt) rfl rfl k_13
              refine lv_iload hx hb dX8_leapThrough_100 (lv_at hl 6 rfl) ?_
              refine lv_iconst (v := 1) hx hb dX8_leapThrough_102 (by decide) ?_
              refine lv_iadd hx hb dX8_leapThrough_103 ?_
              refine lv_topi (fun y_14 ey_14 => ?_)
              first | have ty_14 := i_add (a := wh.toInt) (b := 1) rfl (by decide) ey_14 (by omega) (by omega) | skip
              refine lv_iload_n hx hb dX8_leapThrough_104 rfl (lv_at hl 8 rfl) ?_
              refine lv_icmp_ge (tgt := 115) hx hb dX8_leapThrough_105 (by decide) (fun k_15 => ?_) (fun k_15 => ?_)
              · have tk_15 := c_ge (a := y_14.toInt) (b := i9.toInt) rfl rfl k_15
                refine lv_iconst (v := 0) hx hb dX8_leapThrough_115 (by decide) ?_
                refine lv_istore (lv' := [(4, .int 0), (2, .int r_10), (3, .int y_12), (8, .int r_10), (7, .int y_7), (6, .int lp), (5, .int y_2), (0, .ref w), (1, .int i9)]) hx hb dX8_leapThrough_116 hl (by decide) rfl (fun ls hl => ?_)
                obtain ⟨y_16, ey_16⟩ : ∃ y : Int32, y = lp + 1 := ⟨_, rfl⟩
                first | have ty_16 := i_add (a := lp.toInt) (b := 1) rfl (by decide) ey_16 (by omega) (by omega) | skip
                refine lv_iinc (v := y_16) (lv' := [(6, .int y_16), (4, .int 0), (2, .int r_10), (3, .int y_12), (8, .int r_10), (7, .int y_7), (5, .int y_2), (0, .ref w), (1, .int i9)]) hx hb dX8_leapThrough_118 hl (k := 5) rfl (by rw [ey_16]; rfl) (by decide) rfl (fun ls hl => ?_)
                refine lv_goto (tgt := 18) hx hb dX8_leapThrough_121 (by decide) ?_
                have lit_16 : (0 : Int32).toInt = 0 := by decide
                exact ih18 r_10 y_12 0 y_16 xa y_4 (by first | omega | decide | assumption) (by first | omega | decide | assumption) (by first | omega | decide | assumption) (by omega) _ _ ls hP hD hS (lv_sub hl [0, 6, 1, 3, 2, 7, 8] rfl)
              · have tk_15 := c_nge (a := y_14.toInt) (b := i9.toInt) rfl rfl k_15
                refine lv_iload hx hb dX8_leapThrough_108 (lv_at hl 6 rfl) ?_
                refine lv_iconst (v := 1) hx hb dX8_leapThrough_110 (by decide) ?_
                refine lv_iadd hx hb dX8_leapThrough_111 ?_
                refine lv_topi (fun y_18 ey_18 => ?_)
                first | have ty_18 := i_add (a := wh.toInt) (b := 1) rfl (by decide) ey_18 (by omega) (by omega) | skip
                refine lv_goto (tgt := 116) hx hb dX8_leapThrough_112 (by decide) ?_
                refine lv_istore (lv' := [(4, .int y_18), (2, .int r_10), (3, .int y_12), (8, .int r_10), (7, .int y_7), (6, .int lp), (5, .int y_2), (0, .ref w), (1, .int i9)]) hx hb dX8_leapThrough_116 hl (by decide) rfl (fun ls hl => ?_)
                obtain ⟨y_19, ey_19⟩ : ∃ y : Int32, y = lp + 1 := ⟨_, rfl⟩
                first | have ty_19 := i_add (a := lp.toInt) (b := 1) rfl (by decide) ey_19 (by omega) (by omega) | skip
                refine lv_iinc (v := y_19) (lv' := [(6, .int y_19), (4, .int y_18), (2, .int r_10), (3, .int y_12), (8, .int r_10), (7, .int y_7), (5, .int y_2), (0, .ref w), (1, .int i9)]) hx hb dX8_leapThrough_118 hl (k := 5) rfl (by rw [ey_19]; rfl) (by decide) rfl (fun ls hl => ?_)
                refine lv_goto (tgt := 18) hx hb dX8_leapThrough_121 (by decide) ?_
                exact ih18 r_10 y_12 y_18 y_19 xa y_4 (by first | omega | decide | assumption) (by first | omega | decide | assumption) (by first | omega | decide | assumption) (by omega) _ _ ls hP hD hS (lv_sub hl [0, 6, 1, 3, 2, 7, 8] rfl)
            · have tk_13 := c_eq (a := y_12.toInt) (b := i9.toInt) rfl rfl k_13
              refine lv_aload_n hx hb dX8_leapThrough_83 rfl (lv_at hl 7 rfl) ?_
              refine lv_dup hx hb dX8_leapThrough_84 rfl ?_
              refine va_get (D := (dC, dI)) (ci := 8) (v := .int xa) (C := RX8) (T := TX8) (N := 3) hx hb hts fin_X8_leapThrough_X8 hown hK hP 0 rfl rfl 0 (by decide) (hts (.fieldLink RX8 15 "PatternGate$Walk" "candidates" "I") (List.mem_of_getElem? (i := 8) (by decide +kernel))) (fun _ h9 => h9) rfl dX8_leapThrough_85 ?_
              refine lv_iconst (v := 1) hx hb dX8_leapThrough_88 (by decide) ?_
              refine lv_iload_n hx hb dX8_leapThrough_89 rfl (lv_at hl 0 rfl) ?_
              refine lv_ishl hx hb dX8_leapThrough_90 ?_
              refine lv_topi (fun y_20 ey_20 => ?_)
              have rg_y_20 := i_rng y_20
              refine lv_ior hx hb dX8_leapThrough_91 ?_
              refine lv_topi (fun y_21 ey_21 => ?_)
              have rg_y_21 := i_rng y_21
              refine va_put (D := (dC, dI)) (ci := 8) (v := .int y_21) (ty := .int) (C := RX8) (T := TX8) (N := 3) hx hb hts fin_X8_leapThrough_X8 tyX8 tyX8_ok nmX8 hown hK hP hD hS 0 rfl rfl 0 (by decide) (hts (.fieldLink RX8 15 "PatternGate$Walk" "candidates" "I") (List.mem_of_getElem? (i := 8) (by decide +kernel))) (fun _ h9 => h9) rfl (by decide +kernel) rfl rfl (Nat.le_of_ble_eq_true rfl) dX8_leapThrough_92 (fun H locs hP hD hS => ?_)
              have hP : va_P (dC, dI) vwCl [(w, .inr (8, [.int y_21, .int y_4, .ref li])), (li, .inl (cL, 24, .inl f))] H := hP
              have hD : va_D A [(w, .inr (8, [.int y_21, .int y_4, .ref li])), (li, .inl (cL, 24, .inl f))] := hD
              obtain ⟨y_22, ey_22⟩ : ∃ y : Int32, y = r_10 + 1 := ⟨_, rfl⟩
              first | have ty_22 := i_add (a := r_10.toInt) (b := 1) rfl (by decide) ey_22 (by omega) (by omega) | skip
              refine lv_iinc (v := y_22) (lv' := [(2, .int y_22), (3, .int y_12), (8, .int r_10), (7, .int y_7), (6, .int lp), (5, .int y_2), (4, .int wh), (0, .ref w), (1, .int i9)]) hx hb dX8_leapThrough_95 hl (k := 0) rfl (by rw [ey_22]; rfl) (by decide) rfl (fun ls hl => ?_)
              refine lv_iconst (v := 0) hx hb dX8_leapThrough_98 (by decide) ?_
              refine lv_istore_n (lv' := [(3, .int 0), (2, .int y_22), (8, .int r_10), (7, .int y_7), (6, .int lp), (5, .int y_2), (4, .int wh), (0, .ref w), (1, .int i9)]) hx hb dX8_leapThrough_99 rfl hl (by decide) rfl (fun ls hl => ?_)
              refine lv_iload hx hb dX8_leapThrough_100 (lv_at hl 6 rfl) ?_
              refine lv_iconst (v := 1) hx hb dX8_leapThrough_102 (by decide) ?_
              refine lv_iadd hx hb dX8_leapThrough_103 ?_
              refine lv_topi (fun y_23 ey_23 => ?_)
              first | have ty_23 := i_add (a := wh.toInt) (b := 1) rfl (by decide) ey_23 (by omega) (by omega) | skip
              refine lv_iload_n hx hb dX8_leapThrough_104 rfl (lv_at hl 8 rfl) ?_
              refine lv_icmp_ge (tgt := 115) hx hb dX8_leapThrough_105 (by decide) (fun k_24 => ?_) (fun k_24 => ?_)
              · have tk_24 := c_ge (a := y_23.toInt) (b := i9.toInt) rfl rfl k_24
                refine lv_iconst (v := 0) hx hb dX8_leapThrough_115 (by decide) ?_
                refine lv_istore (lv' := [(4, .int 0), (3, .int 0), (2, .int y_22), (8, .int r_10), (7, .int y_7), (6, .int lp), (5, .int y_2), (0, .ref w), (1, .int i9)]) hx hb dX8_leapThrough_116 hl (by decide) rfl (fun ls hl => ?_)
                obtain ⟨y_25, ey_25⟩ : ∃ y : Int32, y = lp + 1 := ⟨_, rfl⟩
                first | have ty_25 := i_add (a := lp.toInt) (b := 1) rfl (by decide) ey_25 (by omega) (by omega) | skip
                refine lv_iinc (v := y_25) (lv' := [(6, .int y_25), (4, .int 0), (3, .int 0), (2, .int y_22), (8, .int r_10), (7, .int y_7), (5, .int y_2), (0, .ref w), (1, .int i9)]) hx hb dX8_leapThrough_118 hl (k := 5) rfl (by rw [ey_25]; rfl) (by decide) rfl (fun ls hl => ?_)
                refine lv_goto (tgt := 18) hx hb dX8_leapThrough_121 (by decide) ?_
                have lit_25 : (0 : Int32).toInt = 0 := by decide
                have lit_26 : (0 : Int32).toInt = 0 := by decide
                exact ih18 y_22 0 0 y_25 y_21 y_4 (by first | omega | decide | assumption) (by first | omega | decide | assumption) (by first | omega | decide | assumption) (by omega) _ _ ls hP hD hS (lv_sub hl [0, 6, 1, 2, 3, 7, 8] rfl)
              · have tk_24 := c_nge (a := y_23.toInt) (b := i9.toInt) rfl rfl k_24
                refine lv_iload hx hb dX8_leapThrough_108 (lv_at hl 6 rfl) ?_
                refine lv_iconst (v := 1) hx hb dX8_leapThrough_110 (by decide) ?_
                refine lv_iadd hx hb dX8_leapThrough_111 ?_
                refine lv_topi (fun y_28 ey_28 => ?_)
                first | have ty_28 := i_add (a := wh.toInt) (b := 1) rfl (by decide) ey_28 (by omega) (by omega) | skip
                refine lv_goto (tgt := 116) hx hb dX8_leapThrough_112 (by decide) ?_
                refine lv_istore (lv' := [(4, .int y_28), (3, .int 0), (2, .int y_22), (8, .int r_10), (7, .int y_7), (6, .int lp), (5, .int y_2), (0, .ref w), (1, .int i9)]) hx hb dX8_leapThrough_116 hl (by decide) rfl (fun ls hl => ?_)
                obtain ⟨y_29, ey_29⟩ : ∃ y : Int32, y = lp + 1 := ⟨_, rfl⟩
                first | have ty_29 := i_add (a := lp.toInt) (b := 1) rfl (by decide) ey_29 (by omega) (by omega) | skip
                refine lv_iinc (v := y_29) (lv' := [(6, .int y_29), (4, .int y_28), (3, .int 0), (2, .int y_22), (8, .int r_10), (7, .int y_7), (5, .int y_2), (0, .ref w), (1, .int i9)]) hx hb dX8_leapThrough_118 hl (k := 5) rfl (by rw [ey_29]; rfl) (by decide) rfl (fun ls hl => ?_)
                refine lv_goto (tgt := 18) hx hb dX8_leapThrough_121 (by decide) ?_
                have lit_29 : (0 : Int32).toInt = 0 := by decide
                exact ih18 y_22 0 y_28 y_29 y_21 y_4 (by first | omega | decide | assumption) (by first | omega | decide | assumption) (by first | omega | decide | assumption) (by omega) _ _ ls hP hD hS (lv_sub hl [0, 6, 1, 2, 3, 7, 8] rfl)
          · have tk_11 := c_nle (a := r_10.toInt) (b := ax.toInt) rfl rfl k_11
            refine lv_iconst (v := 1) hx hb dX8_leapThrough_67 (by decide) ?_
            refine lv_goto (tgt := 74) hx hb dX8_leapThrough_68 (by decide) ?_
            refine lv_istore_n (lv' := [(3, .int 1), (8, .int r_10), (7, .int y_7), (6, .int lp), (5, .int y_2), (4, .int wh), (2, .int ax), (0, .ref w), (1, .int i9)]) hx hb dX8_leapThrough_74 rfl hl (by decide) rfl (fun ls hl => ?_)
            refine lv_iload hx hb dX8_leapThrough_75 (lv_at hl 1 rfl) ?_
            refine lv_istore_n (lv' := [(2, .int r_10), (3, .int 1), (8, .int r_10), (7, .int y_7), (6, .int lp), (5, .int y_2), (4, .int wh), (0, .ref w), (1, .int i9)]) hx hb dX8_leapThrough_77 rfl hl (by decide) rfl (fun ls hl => ?_)
            refine lv_iload_n hx hb dX8_leapThrough_78 rfl (lv_at hl 1 rfl) ?_
            refine lv_iload_n hx hb dX8_leapThrough_79 rfl (lv_at hl 8 rfl) ?_
            refine lv_icmp_ne (tgt := 100) hx hb dX8_leapThrough_80 (by decide) (fun k_31 => ?_) (fun k_31 => ?_)
            · have tk_31 := c_ne (a := 1) (b := i9.toInt) (by decide) rfl k_31
              refine lv_iload hx hb dX8_leapThrough_100 (lv_at hl 6 rfl) ?_
              refine lv_iconst (v := 1) hx hb dX8_leapThrough_102 (by decide) ?_
              refine lv_iadd hx hb dX8_leapThrough_103 ?_
              refine lv_topi (fun y_32 ey_32 => ?_)
              first | have ty_32 := i_add (a := wh.toInt) (b := 1) rfl (by decide) ey_32 (by omega) (by omega) | skip
              refine lv_iload_n hx hb dX8_leapThrough_104 rfl (lv_at hl 8 rfl) ?_
              refine lv_icmp_ge (tgt := 115) hx hb dX8_leapThrough_105 (by decide) (fun k_33 => ?_) (fun k_33 => ?_)
              · have tk_33 := c_ge (a := y_32.toInt) (b := i9.toInt) rfl rfl k_33
                refine lv_iconst (v := 0) hx hb dX8_leapThrough_115 (by decide) ?_
                refine lv_istore (lv' := [(4, .int 0), (2, .int r_10), (3, .int 1), (8, .int r_10), (7, .int y_7), (6, .int lp), (5, .int y_2), (0, .ref w), (1, .int i9)]) hx hb dX8_leapThrough_116 hl (by decide) rfl (fun ls hl => ?_)
                obtain ⟨y_34, ey_34⟩ : ∃ y : Int32, y = lp + 1 := ⟨_, rfl⟩
                first | have ty_34 := i_add (a := lp.toInt) (b := 1) rfl (by decide) ey_34 (by omega) (by omega) | skip
                refine lv_iinc (v := y_34) (lv' := [(6, .int y_34), (4, .int 0), (2, .int r_10), (3, .int 1), (8, .int r_10), (7, .int y_7), (5, .int y_2), (0, .ref w), (1, .int i9)]) hx hb dX8_leapThrough_118 hl (k := 5) rfl (by rw [ey_34]; rfl) (by decide) rfl (fun ls hl => ?_)
                refine lv_goto (tgt := 18) hx hb dX8_leapThrough_121 (by decide) ?_
                have lit_34 : (1 : Int32).toInt = 1 := by decide
                have lit_35 : (0 : Int32).toInt = 0 := by decide
                exact ih18 r_10 1 0 y_34 xa y_4 (by first | omega | decide | assumption) (by first | omega | decide | assumption) (by first | omega | decide | assumption) (by omega) _ _ ls hP hD hS (lv_sub hl [0, 6, 1, 3, 2, 7, 8] rfl)
              · have tk_33 := c_nge (a := y_32.toInt) (b := i9.toInt) rfl rfl k_33
                refine lv_iload hx hb dX8_leapThrough_108 (lv_at hl 6 rfl) ?_
                refine lv_iconst (v := 1) hx hb dX8_leapThrough_110 (by decide) ?_
                refine lv_iadd hx hb dX8_leapThrough_111 ?_
                refine lv_topi (fun y_37 ey_37 => ?_)
                first | have ty_37 := i_add (a := wh.toInt) (b := 1) rfl (by decide) ey_37 (by omega) (by omega) | skip
                refine lv_goto (tgt := 116) hx hb dX8_leapThrough_112 (by decide) ?_
                refine lv_istore (lv' := [(4, .int y_37), (2, .int r_10), (3, .int 1), (8, .int r_10), (7, .int y_7), (6, .int lp), (5, .int y_2), (0, .ref w), (1, .int i9)]) hx hb dX8_leapThrough_116 hl (by decide) rfl (fun ls hl => ?_)
                obtain ⟨y_38, ey_38⟩ : ∃ y : Int32, y = lp + 1 := ⟨_, rfl⟩
                first | have ty_38 := i_add (a := lp.toInt) (b := 1) rfl (by decide) ey_38 (by omega) (by omega) | skip
                refine lv_iinc (v := y_38) (lv' := [(6, .int y_38), (4, .int y_37), (2, .int r_10), (3, .int 1), (8, .int r_10), (7, .int y_7), (5, .int y_2), (0, .ref w), (1, .int i9)]) hx hb dX8_leapThrough_118 hl (k := 5) rfl (by rw [ey_38]; rfl) (by decide) rfl (fun ls hl => ?_)
                refine lv_goto (tgt := 18) hx hb dX8_leapThrough_121 (by decide) ?_
                have lit_38 : (1 : Int32).toInt = 1 := by decide
                exact ih18 r_10 1 y_37 y_38 xa y_4 (by first | omega | decide | assumption) (by first | omega | decide | assumption) (by first | omega | decide | assumption) (by omega) _ _ ls hP hD hS (lv_sub hl [0, 6, 1, 3, 2, 7, 8] rfl)
            · have tk_31 := c_eq (a := 1) (b := i9.toInt) (by decide) rfl k_31
              refine lv_aload_n hx hb dX8_leapThrough_83 rfl (lv_at hl 7 rfl) ?_
              refine lv_dup hx hb dX8_leapThrough_84 rfl ?_
              refine va_get (D := (dC, dI)) (ci := 8) (v := .int xa) (C := RX8) (T := TX8) (N := 3) hx hb hts fin_X8_leapThrough_X8 hown hK hP 0 rfl rfl 0 (by decide) (hts (.fieldLink RX8 15 "PatternGate$Walk" "candidates" "I") (List.mem_of_getElem? (i := 8) (by decide +kernel))) (fun _ h9 => h9) rfl dX8_leapThrough_85 ?_
              refine lv_iconst (v := 1) hx hb dX8_leapThrough_88 (by decide) ?_
              refine lv_iload_n hx hb dX8_leapThrough_89 rfl (lv_at hl 0 rfl) ?_
              refine lv_ishl hx hb dX8_leapThrough_90 ?_
              refine lv_topi (fun y_40 ey_40 => ?_)
              have rg_y_40 := i_rng y_40
              refine lv_ior hx hb dX8_leapThrough_91 ?_
              refine lv_topi (fun y_41 ey_41 => ?_)
              have rg_y_41 := i_rng y_41
              refine va_put (D := (dC, dI)) (ci := 8) (v := .int y_41) (ty := .int) (C := RX8) (T := TX8) (N := 3) hx hb hts fin_X8_leapThrough_X8 tyX8 tyX8_ok nmX8 hown hK hP hD hS 0 rfl rfl 0 (by decide) (hts (.fieldLink RX8 15 "PatternGate$Walk" "candidates" "I") (List.mem_of_getElem? (i := 8) (by decide +kernel))) (fun _ h9 => h9) rfl (by decide +kernel) rfl rfl (Nat.le_of_ble_eq_true rfl) dX8_leapThrough_92 (fun H locs hP hD hS => ?_)
              have hP : va_P (dC, dI) vwCl [(w, .inr (8, [.int y_41, .int y_4, .ref li])), (li, .inl (cL, 24, .inl f))] H := hP
              have hD : va_D A [(w, .inr (8, [.int y_41, .int y_4, .ref li])), (li, .inl (cL, 24, .inl f))] := hD
              obtain ⟨y_42, ey_42⟩ : ∃ y : Int32, y = r_10 + 1 := ⟨_, rfl⟩
              first | have ty_42 := i_add (a := r_10.toInt) (b := 1) rfl (by decide) ey_42 (by omega) (by omega) | skip
              refine lv_iinc (v := y_42) (lv' := [(2, .int y_42), (3, .int 1), (8, .int r_10), (7, .int y_7), (6, .int lp), (5, .int y_2), (4, .int wh), (0, .ref w), (1, .int i9)]) hx hb dX8_leapThrough_95 hl (k := 0) rfl (by rw [ey_42]; rfl) (by decide) rfl (fun ls hl => ?_)
              refine lv_iconst (v := 0) hx hb dX8_leapThrough_98 (by decide) ?_
              refine lv_istore_n (lv' := [(3, .int 0), (2, .int y_42), (8, .int r_10), (7, .int y_7), (6, .int lp), (5, .int y_2), (4, .int wh), (0, .ref w), (1, .int i9)]) hx hb dX8_leapThrough_99 rfl hl (by decide) rfl (fun ls hl => ?_)
              refine lv_iload hx hb dX8_leapThrough_100 (lv_at hl 6 rfl) ?_
              refine lv_iconst (v := 1) hx hb dX8_leapThrough_102 (by decide) ?_
              refine lv_iadd hx hb dX8_leapThrough_103 ?_
              refine lv_topi (fun y_43 ey_43 => ?_)
              first | have ty_43 := i_add (a := wh.toInt) (b := 1) rfl (by decide) ey_43 (by omega) (by omega) | skip
              refine lv_iload_n hx hb dX8_leapThrough_104 rfl (lv_at hl 8 rfl) ?_
              refine lv_icmp_ge (tgt := 115) hx hb dX8_leapThrough_105 (by decide) (fun k_44 => ?_) (fun k_44 => ?_)
              · have tk_44 := c_ge (a := y_43.toInt) (b := i9.toInt) rfl rfl k_44
                refine lv_iconst (v := 0) hx hb dX8_leapThrough_115 (by decide) ?_
                refine lv_istore (lv' := [(4, .int 0), (3, .int 0), (2, .int y_42), (8, .int r_10), (7, .int y_7), (6, .int lp), (5, .int y_2), (0, .ref w), (1, .int i9)]) hx hb dX8_leapThrough_116 hl (by decide) rfl (fun ls hl => ?_)
                obtain ⟨y_45, ey_45⟩ : ∃ y : Int32, y = lp + 1 := ⟨_, rfl⟩
                first | have ty_45 := i_add (a := lp.toInt) (b := 1) rfl (by decide) ey_45 (by omega) (by omega) | skip
                refine lv_iinc (v := y_45) (lv' := [(6, .int y_45), (4, .int 0), (3, .int 0), (2, .int y_42), (8, .int r_10), (7, .int y_7), (5, .int y_2), (0, .ref w), (1, .int i9)]) hx hb dX8_leapThrough_118 hl (k := 5) rfl (by rw [ey_45]; rfl) (by decide) rfl (fun ls hl => ?_)
                refine lv_goto (tgt := 18) hx hb dX8_leapThrough_121 (by decide) ?_
                have lit_45 : (0 : Int32).toInt = 0 := by decide
                have lit_46 : (0 : Int32).toInt = 0 := by decide
                exact ih18 y_42 0 0 y_45 y_41 y_4 (by first | omega | decide | assumption) (by first | omega | decide | assumption) (by first | omega | decide | assumption) (by omega) _ _ ls hP hD hS (lv_sub hl [0, 6, 1, 2, 3, 7, 8] rfl)
              · have tk_44 := c_nge (a := y_43.toInt) (b := i9.toInt) rfl rfl k_44
                refine lv_iload hx hb dX8_leapThrough_108 (lv_at hl 6 rfl) ?_
                refine lv_iconst (v := 1) hx hb dX8_leapThrough_110 (by decide) ?_
                refine lv_iadd hx hb dX8_leapThrough_111 ?_
                refine lv_topi (fun y_48 ey_48 => ?_)
                first | have ty_48 := i_add (a := wh.toInt) (b := 1) rfl (by decide) ey_48 (by omega) (by omega) | skip
                refine lv_goto (tgt := 116) hx hb dX8_leapThrough_112 (by decide) ?_
                refine lv_istore (lv' := [(4, .int y_48), (3, .int 0), (2, .int y_42), (8, .int r_10), (7, .int y_7), (6, .int lp), (5, .int y_2), (0, .ref w), (1, .int i9)]) hx hb dX8_leapThrough_116 hl (by decide) rfl (fun ls hl => ?_)
                obtain ⟨y_49, ey_49⟩ : ∃ y : Int32, y = lp + 1 := ⟨_, rfl⟩
                first | have ty_49 := i_add (a := lp.toInt) (b := 1) rfl (by decide) ey_49 (by omega) (by omega) | skip
                refine lv_iinc (v := y_49) (lv' := [(6, .int y_49), (4, .int y_48), (3, .int 0), (2, .int y_42), (8, .int r_10), (7, .int y_7), (5, .int y_2), (0, .ref w), (1, .int i9)]) hx hb dX8_leapThrough_118 hl (k := 5) rfl (by rw [ey_49]; rfl) (by decide) rfl (fun ls hl => ?_)
                refine lv_goto (tgt := 18) hx hb dX8_leapThrough_121 (by decide) ?_
                have lit_49 : (0 : Int32).toInt = 0 := by decide
                exact ih18 y_42 0 y_48 y_49 y_41 y_4 (by first | omega | decide | assumption) (by first | omega | decide | assumption) (by first | omega | decide | assumption) (by omega) _ _ ls hP hD hS (lv_sub hl [0, 6, 1, 2, 3, 7, 8] rfl)
        · have tk_8 := c_eq (a := y_7.toInt) (b := 0) rfl (by decide) k_8
          have hP9 := hP.sub (ws' := [(w, .inr (8, [.int xa, .int y_4, .ref li])), (li, .inl (cL, 24, .inl f))]) [0, 1] rfl
          have hD9 := hD.sub (ws' := [(w, .inr (8, [.int xa, .int y_4, .ref li])), (li, .inl (cL, 24, .inl f))]) [0, 1] (by decide) rfl
          have hK9 := hK.sub (tys' := [(cL, .int)]) [0] rfl
          exact W.vret hx hb hr (fun t ht hW => ⟨⟨(), rfl, trivial, xa, y_4, by rw [ht]; exact hP9, va_K.moved hW.alike hK9, hD9⟩, hS.F ht⟩) hS.2.2 dX8_leapThrough_53
  have lit_50 : (0 : Int32).toInt = 0 := by decide
  have lit_51 : (0 : Int32).toInt = 0 := by decide
  have lit_52 : (0 : Int32).toInt = 0 := by decide
  have lit_53 : (0 : Int32).toInt = 0 := by decide
  exact loop18 _ 0 0 0 0 x0 x1 (by first | omega | decide | assumption) (by first | omega | decide | assumption) (by first | omega | decide | assumption) (Nat.lt_succ_self _) _ _ ls hP hD hS (lv_sub hl [0, 1, 2, 3, 4, 5, 6] rfl)

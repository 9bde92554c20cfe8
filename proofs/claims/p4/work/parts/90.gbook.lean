theorem dX0_withDoc_0 : decode cX0_withDoc 0 = .ok (.aload_n 0, 1) := by decide +kernel
theorem dX0_withDoc_1 : decode cX0_withDoc 1 = .ok (.getfield 7, 3) := by decide +kernel
theorem dX0_withDoc_4 : decode cX0_withDoc 4 = .ok (.invokevirtual 43, 3) := by decide +kernel
theorem dX0_withDoc_7 : decode cX0_withDoc 7 = .ok (.checkcast 44, 3) := by decide +kernel
theorem dX0_withDoc_10 : decode cX0_withDoc 10 = .ok (.astore_n 3, 1) := by decide +kernel
theorem dX0_withDoc_11 : decode cX0_withDoc 11 = .ok (.iload_n 1, 1) := by decide +kernel
theorem dX0_withDoc_12 : decode cX0_withDoc 12 = .ok (.ifCond .lt 13, 3) := by decide +kernel
theorem dX0_withDoc_15 : decode cX0_withDoc 15 = .ok (.iload_n 1, 1) := by decide +kernel
theorem dX0_withDoc_16 : decode cX0_withDoc 16 = .ok (.aload_n 3, 1) := by decide +kernel
theorem dX0_withDoc_17 : decode cX0_withDoc 17 = .ok (.arraylength, 1) := by decide +kernel
theorem dX0_withDoc_18 : decode cX0_withDoc 18 = .ok (.if_icmp .ge 7, 3) := by decide +kernel
theorem dX0_withDoc_21 : decode cX0_withDoc 21 = .ok (.aload_n 3, 1) := by decide +kernel
theorem dX0_withDoc_22 : decode cX0_withDoc 22 = .ok (.iload_n 1, 1) := by decide +kernel
theorem dX0_withDoc_23 : decode cX0_withDoc 23 = .ok (.aload_n 2, 1) := by decide +kernel
theorem dX0_withDoc_24 : decode cX0_withDoc 24 = .ok (.aastore, 1) := by decide +kernel
theorem dX0_withDoc_25 : decode cX0_withDoc 25 = .ok (.new 8, 3) := by decide +kernel
theorem dX0_withDoc_28 : decode cX0_withDoc 28 = .ok (.dup, 1) := by decide +kernel
theorem dX0_withDoc_29 : decode cX0_withDoc 29 = .ok (.aload_n 3, 1) := by decide +kernel
theorem dX0_withDoc_30 : decode cX0_withDoc 30 = .ok (.aload_n 0, 1) := by decide +kernel
theorem dX0_withDoc_31 : decode cX0_withDoc 31 = .ok (.getfield 13, 3) := by decide +kernel
theorem dX0_withDoc_34 : decode cX0_withDoc 34 = .ok (.aload_n 0, 1) := by decide +kernel
theorem dX0_withDoc_35 : decode cX0_withDoc 35 = .ok (.invokespecial 48, 3) := by decide +kernel
theorem dX0_withDoc_38 : decode cX0_withDoc 38 = .ok (.areturn, 1) := by decide +kernel
def mwX0_withDoc : List Cond := .code yX0_withDoc cX0_withDoc 4 (some (.object "PatternGate$Book")) :: (([.fieldLink RX0 7 "PatternGate$Book" "docs" "[LPatternGate$Doc;", .methodLink RX0 43 ⟨"[LPatternGate$Doc;", "clone", "()Ljava/lang/Object;"⟩, .sameMethod "[LPatternGate$Doc;" "java/lang/Object" "clone" "()Ljava/lang/Object;", .native ⟨"java/lang/Object", "clone", "()Ljava/lang/Object;"⟩, .instanceMethod ⟨"java/lang/Object", "clone", "()Ljava/lang/Object;"⟩, .selects "[LPatternGate$Doc;" ⟨"[LPatternGate$Doc;", "clone", "()Ljava/lang/Object;"⟩ ⟨"java/lang/Object", "clone", "()Ljava/lang/Object;"⟩, .classLink RX0 44 "[LPatternGate$Doc;", .classLink RX0 8 RX0, .instantiable RX0 3, .initialized RX0, .fieldLink RX0 13 "PatternGate$Book" "patterns" "[LPatternGate$Pattern;", .methodLink RX0 48 yX0_init, .instanceMethod yX0_init] : List Cond) ++ (wsX00 ++ (mwX0_init)))
theorem fin_X0_withDoc_X0 : ∀ w ∈ wsX00, w ∈ mwX0_withDoc := fun w h => List.mem_cons_of_mem _ (List.mem_append_right _ (List.mem_append_left _ h))
set_option maxRecDepth 100000 in
theorem gd_mwX0_init : mwX0_init.all goodWord = true := by decide +kernel
set_option maxRecDepth 20000 in
theorem mg_X0_withDoc_X0_init_48 : GoodIn mwX0_withDoc mwX0_init := gi_sub gd_mwX0_init (fun w h => List.mem_cons_of_mem _ (List.mem_append_right _ (List.mem_append_right _ (h))))
set_option maxHeartbeats 4000000 in
set_option maxRecDepth 100000 in
/-- Book.withDoc -/
theorem s_withDoc (l : Launch) (dC : Nat → ClassId) (dI : Nat → Nat → Nat) (W9 : va_W) (T9 : List (ClassId × FieldType)) (b : Nat) (ear : Option Nat) (d la ta : Nat) (sz : Nat) (i1 : Int32) (hB3 : poB3 W9 T9 b ear) : Met l yX0_withDoc mwX0_withDoc ({ frames := 2, cells := 2, slots := 13, locals := 120 }) (va_Pc [.ref b, .int i1, .ref d] (fun U => U.heap.size = sz ∧ va_P (dC, dI) vwCl ([(d, .inr (2, [.ref la, .ref ta]))]) U.heap ∧ va_K (dC, dI) vwCl ([]) U ∧ va_D (fun _ => True) ([(d, .inr (2, [.ref la, .ref ta]))]) ∧ va_Nw (.castable "[LPatternGate$Doc;" "java/lang/Cloneable") U ∧ va_P (dC, dI) vwCl W9 U.heap ∧ va_K (dC, dI) vwCl T9 U ∧ (∀ q ∈ W9, ¬ va_A ([(d, .inr (2, [.ref la, .ref ta]))]) sz q.1))) (va_Qr (fun (_ : Unit) => True) (fun _ a t => ∃ (qn n9 ps9 : Nat) (f9 : Nat → Option Nat) (cN : ClassId), bX W9 T9 b (fun x => x = d) a qn n9 ps9 f9 cN ∧ n9 ≤ 10 ∧ va_P (dC, dI) vwCl [(d, .inr (2, [.ref la, .ref ta])), (qn, .inl (cN, n9, .inr (.inr (.inr (.inr f9))))), (a, .inr (0, [.ref qn, .ref ps9, .ref b]))] t.heap ∧ va_K (dC, dI) vwCl [(cN, .object "PatternGate$Doc")] t ∧ va_D (va_A ([(d, .inr (2, [.ref la, .ref ta]))]) sz) [(d, .inr (2, [.ref la, .ref ta])), (qn, .inl (cN, n9, .inr (.inr (.inr (.inr f9))))), (a, .inr (0, [.ref qn, .ref ps9, .ref b]))]) (va_A ([(d, .inr (2, [.ref la, .ref ta]))]) sz)) 2 13 (va_A ([(d, .inr (2, [.ref la, .ref ta]))]) sz) := by
  refine Met.ofW (cc := cX0_withDoc) (maxL := 4) (ret := (some (.object "PatternGate$Book"))) (by decide +kernel) rfl ?_
  intro p e s m args below meth c s₁ B hml hv
  obtain ⟨rfl, hsz, hP, hK, hD0, hcld, hQ0, hKQ, hQA⟩ := hv
  have hx := B.exec
  have hb := B.bytes
  have hr := B.returns
  have hts := atoms_spec (ws := mwX0_withDoc) B.pre
  have hown : s.vm.findClass RX0 = some m.cls := findClass_of_methodNamed B.named
  have hlocks := B.notSynchronized
  subst hsz
  have hD := hD0.self (sz := s.heap.size)
  generalize hAe : va_A ([(d, .inr (2, [.ref la, .ref ta]))]) s.heap.size = A at hD hQA ⊢
  have hA : ∀ q : Nat, s.heap.size ≤ q → A q := fun q h => by rw [← hAe]; exact Or.inr h
  have hP : va_P (dC, dI) vwCl [(d, .inr (2, [.ref la, .ref ta]))] s.heap := hP
  have hD : va_D A [(d, .inr (2, [.ref la, .ref ta]))] := hD
  have hK : va_K (dC, dI) vwCl [] s := hK
  generalize hH : s.heap = H at hP ⊢
  have hS : va_S A s.heap H [] := by rw [← hH]; exact va_S.rf
  have hQ := q_at hQ0 hQA hS
  have hl := lv_entry ([.ref b, .int i1, .ref d]) (n := 4) (Nat.le_of_ble_eq_true rfl)
  rw [lg_entry_eq]
  generalize (lg_sl ([.ref b, .int i1, .ref d]) ++ List.replicate (4 - (lg_sl ([.ref b, .int i1, .ref d])).length) Slot.unset).toArray = ls at hl ⊢
  have hl : lv_has ls 4 [(0, .ref b), (1, .int i1), (2, .ref d)] := hl
  have rg_i1 := i_rng i1
  obtain ⟨ds, ps, nd, np, fd, fp, cD, cP, m1, m2, m3, m4, m5, hnd, hnp, hds, hps⟩ := id hB3
  obtain ⟨k_1, hk_1⟩ := List.getElem?_of_mem m1
  obtain ⟨k_2, hk_2⟩ := List.getElem?_of_mem m2
  obtain ⟨j_3, hj_3⟩ := List.getElem?_of_mem m3
  obtain ⟨k_4, hk_4⟩ := List.getElem?_of_mem m4
  obtain ⟨j_5, hj_5⟩ := List.getElem?_of_mem m5
  refine lv_aload_n hx hb dX0_withDoc_0 rfl (lv_at hl 0 rfl) ?_
  refine va_get (D := (dC, dI)) (ci := 0) (v := .ref ds) (C := RX0) (T := TX0) (N := 3) hx hb hts fin_X0_withDoc_X0 hown hKQ hQ k_1 hk_1 rfl 0 (by decide) (hts (.fieldLink RX0 7 "PatternGate$Book" "docs" "[LPatternGate$Doc;") (List.mem_of_getElem? (i := 1) (by decide +kernel))) (fun _ h9 => h9) rfl dX0_withDoc_1 ?_
  refine q_clone hx hb (hml.trans hl.1.symm) hown (hts (.methodLink RX0 43 ⟨"[LPatternGate$Doc;", "clone", "()Ljava/lang/Object;"⟩) (List.mem_of_getElem? (i := 2) (by decide +kernel))) (hts (.sameMethod "[LPatternGate$Doc;" "java/lang/Object" "clone" "()Ljava/lang/Object;") (List.mem_of_getElem? (i := 3) (by decide +kernel))) (hts (.native ⟨"java/lang/Object", "clone", "()Ljava/lang/Object;"⟩) (List.mem_of_getElem? (i := 4) (by decide +kernel))) (hts (.instanceMethod ⟨"java/lang/Object", "clone", "()Ljava/lang/Object;"⟩) (List.mem_of_getElem? (i := 5) (by decide +kernel))) (hts (.selects "[LPatternGate$Doc;" ⟨"[LPatternGate$Doc;", "clone", "()Ljava/lang/Object;"⟩ ⟨"java/lang/Object", "clone", "()Ljava/lang/Object;"⟩) (List.mem_of_getElem? (i := 6) (by decide +kernel))) hcld hQ hKQ hQA hK hP hD hS hA k_2 j_3 hk_2 hj_3 (q_nm (hKQ.2 j_3 _ hj_3).2 (by decide +kernel)) (va_fit (n := nd) (F := fun j => va_rf (fd j)) (fun j _ => by cases fd j <;> rfl)) (Nat.le_of_ble_eq_true rfl) (by decide +kernel) (Nat.le_of_ble_eq_true rfl) (Nat.le_trans (Nat.add_le_add_left (show nd ≤ 10 by omega) _) (Nat.le_of_ble_eq_true rfl)) dX0_withDoc_4 (fun q_6 H hK hP hD hS => ?_)
  refine W.widen (k := 1) (n := 10) (by omega) (show 0 + nd ≤ 10 by omega) ?_
  have hP : va_P (dC, dI) vwCl [(d, .inr (2, [.ref la, .ref ta])), (q_6, .inl (cD, nd, .inr (.inr (.inr (.inr fd)))))] H := hP
  have hD : va_D A [(d, .inr (2, [.ref la, .ref ta])), (q_6, .inl (cD, nd, .inr (.inr (.inr (.inr fd)))))] := hD
  have hQ := q_at hQ0 hQA hS
  have hK : va_K (dC, dI) vwCl [(cD, .object "PatternGate$Doc")] s := hK
  refine q_cast hx hb hown (hts (.classLink RX0 44 "[LPatternGate$Doc;") (List.mem_of_getElem? (i := 7) (by decide +kernel))) (q_nm (hK.2 0 _ rfl).2 (by decide +kernel)) hP 1 rfl dX0_withDoc_7 ?_
  refine lv_astore_n (lv' := [(3, .ref q_6), (0, .ref b), (1, .int i1), (2, .ref d)]) hx hb dX0_withDoc_10 rfl hl (by decide) rfl (fun ls hl => ?_)
  refine lv_iload_n hx hb dX0_withDoc_11 rfl (lv_at hl 2 rfl) ?_
  refine lv_if_lt (tgt := 25) hx hb dX0_withDoc_12 (by decide) (fun k_7 => ?_) (fun k_7 => ?_)
  · have tk_7 := c_lt (a := i1.toInt) (b := 0) rfl (by decide) k_7
    refine va_new (ci := 0) (fs := [.null, .null, .null]) (C := RX0) (T := TX0) (N := 3) hx hb hts fin_X0_withDoc_X0 tyX0 tyX0_ok hown (hts (.classLink RX0 8 RX0) (List.mem_of_getElem? (i := 8) (by decide +kernel))) (hts (.instantiable RX0 3) (List.mem_of_getElem? (i := 9) (by decide +kernel))) (hts (.initialized RX0) (List.mem_of_getElem? (i := 10) (by decide +kernel))) hK hP hD hS hA rfl (fun j hj => by rcases (show j = 0 ∨ j = 1 ∨ j = 2 by omega) with rfl | rfl | rfl <;> rfl) (Nat.le_of_ble_eq_true rfl) (Nat.le_of_ble_eq_true rfl) dX0_withDoc_25 (fun q_8 H hP hD hS => ?_)
    have hP : va_P (dC, dI) vwCl [(d, .inr (2, [.ref la, .ref ta])), (q_6, .inl (cD, nd, .inr (.inr (.inr (.inr fd))))), (q_8, .inr (0, [.null, .null, .null]))] H := hP
    have hD : va_D A [(d, .inr (2, [.ref la, .ref ta])), (q_6, .inl (cD, nd, .inr (.inr (.inr (.inr fd))))), (q_8, .inr (0, [.null, .null, .null]))] := hD
    have hQ := q_at hQ0 hQA hS
    refine W.widen (k := 2) (n := 13) (by omega) (by omega) ?_
    refine lv_dup hx hb dX0_withDoc_28 rfl ?_
    refine lv_aload_n hx hb dX0_withDoc_29 rfl (lv_at hl 0 rfl) ?_
    refine lv_aload_n hx hb dX0_withDoc_30 rfl (lv_at hl 1 rfl) ?_
    refine va_get (D := (dC, dI)) (ci := 0) (v := .ref ps) (C := RX0) (T := TX0) (N := 3) hx hb hts fin_X0_withDoc_X0 hown hKQ hQ k_1 hk_1 rfl 1 (by decide) (hts (.fieldLink RX0 13 "PatternGate$Book" "patterns" "[LPatternGate$Pattern;") (List.mem_of_getElem? (i := 11) (by decide +kernel))) (fun _ h9 => h9) rfl dX0_withDoc_31 ?_
    refine lv_aload_n hx hb dX0_withDoc_34 rfl (lv_at hl 1 rfl) ?_
    have hPc := hP.sub (ws' := [(q_8, .inr (0, [.null, .null, .null]))]) [2] rfl
    have hKc := hK.sub (tys' := []) [] rfl
    have hDc := hD.sub (ws' := [(q_8, .inr (0, [.null, .null, .null]))]) [2] (by decide) rfl
    have hFc := va_free (wc := [(q_8, .inr (0, [.null, .null, .null]))]) hD hS hA [2] rfl
    refine va_callv (va_runI (As := [.ref q_6, .ref ps, .ref b]) (rest := [.ref q_8]) ⟨hx, hb, hml, hown, hts⟩ (s_Book_init l dC dI q_8 q_6 ps b H.size) (cwI 3 hts mg_X0_withDoc_X0_init_48 rfl rfl rfl (hts (.initialized RX0) (List.mem_of_getElem? (i := 10) (by decide +kernel))) (hts (.methodLink RX0 48 yX0_init) (List.mem_of_getElem? (i := 12) (by decide +kernel))) (hts (.instanceMethod yX0_init) (List.mem_of_getElem? (i := 13) (by decide +kernel))) rfl (by decide +kernel) ⟨Nat.le_of_ble_eq_true rfl, Nat.le_of_ble_eq_true rfl⟩) ⟨fun a U g mk q => by obtain ⟨q0, q1, qP, qK, qD⟩ := q; exact ⟨q0, q1, qP, va_K.moved (u := U) (U := U.calling g mk a) (Vm.Alike.refl U.vm) qK, qD⟩, fun U hU hW => ⟨rfl, by rw [hU], by rw [hU]; exact hPc, va_K.moved hW.alike hKc, hDc.weaken (fun _ _ _ _ => trivial)⟩⟩ rfl rfl hl.1 rfl (lv_room (Nat.le_of_ble_eq_true rfl)) dX0_withDoc_35 ⟨Nat.le_of_ble_eq_true rfl, Nat.le_of_ble_eq_true rfl⟩) hS (fun q _ h => hFc q h) hFc (fun u t H1 locs ht hvm hw hB hz1 hk1 hS => ?_)
    obtain ⟨hP1, hK1, hD1⟩ := hB
    rw [ht] at hP1
    obtain ⟨hP, hD⟩ := va_join (wr := [(d, .inr (2, [.ref la, .ref ta])), (q_6, .inl (cD, nd, .inr (.inr (.inr (.inr fd)))))]) (w1 := [(q_8, .inr (0, [.ref q_6, .ref ps, .ref b]))]) hP hD [2] [0, 1] rfl rfl (by decide) (by decide) hk1 hFc hP1 hD1
    generalize H1 = H at hP hS ⊢
    have hP : va_P (dC, dI) vwCl [(d, .inr (2, [.ref la, .ref ta])), (q_6, .inl (cD, nd, .inr (.inr (.inr (.inr fd))))), (q_8, .inr (0, [.ref q_6, .ref ps, .ref b]))] H := hP
    have hD : va_D A [(d, .inr (2, [.ref la, .ref ta])), (q_6, .inl (cD, nd, .inr (.inr (.inr (.inr fd))))), (q_8, .inr (0, [.ref q_6, .ref ps, .ref b]))] := hD
    have hQ := q_at hQ0 hQA hS
    have hP9 := hP.sub (ws' := [(d, .inr (2, [.ref la, .ref ta])), (q_6, .inl (cD, nd, .inr (.inr (.inr (.inr fd))))), (q_8, .inr (0, [.ref q_6, .ref ps, .ref b]))]) [0, 1, 2] rfl
    have hD9 := hD.sub (ws' := [(d, .inr (2, [.ref la, .ref ta])), (q_6, .inl (cD, nd, .inr (.inr (.inr (.inr fd))))), (q_8, .inr (0, [.ref q_6, .ref ps, .ref b]))]) [0, 1, 2] (by decide) rfl
    have hK9 := hK.sub (tys' := [(cD, .object "PatternGate$Doc")]) [0] rfl
    have hf9 := (show ∀ i, i < nd → ∃ x, fd i = some x ∧ ((fun x => x = d) x ∨ poD W9 T9 x) from fun i hi => by obtain ⟨x, e1, e2⟩ := hds i hi; exact ⟨x, e1, Or.inr e2⟩)
    refine W.widen (k := 2) (n := 13) (by omega) (by omega) ?_
    exact W.aret hx hb hr (Or.inl ⟨_, rfl⟩) (Or.inr ⟨_, rfl⟩) (fun t ht hW => ⟨⟨(), _, rfl, trivial, q_6, nd, ps, fd, cD, bX_mk m4 m5 hnp hps (by omega) hf9, by omega, by rw [ht]; exact hP9, va_K.moved hW.alike hK9, hD9⟩, hS.F ht⟩) hS.2.2 dX0_withDoc_38
  · have tk_7 := c_nlt (a := i1.toInt) (b := 0) rfl (by decide) k_7
    refine lv_iload_n hx hb dX0_withDoc_15 rfl (lv_at hl 2 rfl) ?_
    refine lv_aload_n hx hb dX0_withDoc_16 rfl (lv_at hl 0 rfl) ?_
    refine va_alen hx hb hK hP 1 0 rfl rfl rfl dX0_withDoc_17 ?_
    refine lv_topi (fun y_11 ey_11 => ?_)
    have ty_11 : y_11.toInt = (nd : Int) := i_len ey_11 (by omega)
    refine lv_icmp_ge (tgt := 25) hx hb dX0_withDoc_18 (by decide) (fun k_12 => ?_) (fun k_12 => ?_)
    · have tk_12 := c_ge (a := i1.toInt) (b := y_11.toInt) rfl rfl k_12
      refine va_new (ci := 0) (fs := [.null, .null, .null]) (C := RX0) (T := TX0) (N := 3) hx hb hts fin_X0_withDoc_X0 tyX0 tyX0_ok hown (hts (.classLink RX0 8 RX0) (List.mem_of_getElem? (i := 8) (by decide +kernel))) (hts (.instantiable RX0 3) (List.mem_of_getElem? (i := 9) (by decide +kernel))) (hts (.initialized RX0) (List.mem_of_getElem? (i := 10) (by decide +kernel))) hK hP hD hS hA rfl (fun j hj => by rcases (show j = 0 ∨ j = 1 ∨ j = 2 by omega) with rfl | rfl | rfl <;> rfl) (Nat.le_of_ble_eq_true rfl) (Nat.le_of_ble_eq_true rfl) dX0_withDoc_25 (fun q_13 H hP hD hS => ?_)
      have hP : va_P (dC, dI) vwCl [(d, .inr (2, [.ref la, .ref ta])), (q_6, .inl (cD, nd, .inr (.inr (.inr (.inr fd))))), (q_13, .inr (0, [.null, .null, .null]))] H := hP
      have hD : va_D A [(d, .inr (2, [.ref la, .ref ta])), (q_6, .inl (cD, nd, .inr (.inr (.inr (.inr fd))))), (q_13, .inr (0, [.null, .null, .null]))] := hD
      have hQ := q_at hQ0 hQA hS
      refine W.widen (k := 2) (n := 13) (by omega) (by omega) ?_
      refine lv_dup hx hb dX0_withDoc_28 rfl ?_
      refine lv_aload_n hx hb dX0_withDoc_29 rfl (lv_at hl 0 rfl) ?_
      refine lv_aload_n hx hb dX0_withDoc_30 rfl (lv_at hl 1 rfl) ?_
      refine va_get (D := (dC, dI)) (ci := 0) (v := .ref ps) (C := RX0) (T := TX0) (N := 3) hx hb hts fin_X0_withDoc_X0 hown hKQ hQ k_1 hk_1 rfl 1 (by decide) (hts (.fieldLink RX0 13 "PatternGate$Book" "patterns" "[LPatternGate$Pattern;") (List.mem_of_getElem? (i := 11) (by decide +kernel))) (fun _ h9 => h9) rfl dX0_withDoc_31 ?_
      refine lv_aload_n hx hb dX0_withDoc_34 rfl (lv_at hl 1 rfl) ?_
      have hPc := hP.sub (ws' := [(q_13, .inr (0, [.null, .null, .null]))]) [2] rfl
      have hKc := hK.sub (tys' := []) [] rfl
      have hDc := hD.sub (ws' := [(q_13, .inr (0, [.null, .null, .null]))]) [2] (by decide) rfl
      have hFc := va_free (wc := [(q_13, .inr (0, [.null, .null, .null]))]) hD hS hA [2] rfl
      refine va_callv (va_runI (As := [.ref q_6, .ref ps, .ref b]) (rest := [.ref q_13]) ⟨hx, hb, hml, hown, hts⟩ (s_Book_init l dC dI q_13 q_6 ps b H.size) (cwI 3 hts mg_X0_withDoc_X0_init_48 rfl rfl rfl (hts (.initialized RX0) (List.mem_of_getElem? (i := 10) (by decide +kernel))) (hts (.methodLink RX0 48 yX0_init) (List.mem_of_getElem? (i := 12) (by decide +kernel))) (hts (.instanceMethod yX0_init) (List.mem_of_getElem? (i := 13) (by decide +kernel))) rfl (by decide +kernel) ⟨Nat.le_of_ble_eq_true rfl, Nat.le_of_ble_eq_true rfl⟩) ⟨fun a U g mk q => by obtain ⟨q0, q1, qP, qK, qD⟩ := q; exact ⟨q0, q1, qP, va_K.moved (u := U) (U := U.calling g mk a) (Vm.Alike.refl U.vm) qK, qD⟩, fun U hU hW => ⟨rfl, by rw [hU], by rw [hU]; exact hPc, va_K.moved hW.alike hKc, hDc.weaken (fun _ _ _ _ => trivial)⟩⟩ rfl rfl hl.1 rfl (lv_room (Nat.le_of_ble_eq_true rfl)) dX0_withDoc_35 ⟨Nat.le_of_ble_eq_true rfl, Nat.le_of_ble_eq_true rfl⟩) hS (fun q _ h => hFc q h) hFc (fun u t H1 locs ht hvm hw hB hz1 hk1 hS => ?_)
      obtain ⟨hP1, hK1, hD1⟩ := hB
      rw [ht] at hP1
      obtain ⟨hP, hD⟩ := va_join (wr := [(d, .inr (2, [.ref la, .ref ta])), (q_6, .inl (cD, nd, .inr (.inr (.inr (.inr fd)))))]) (w1 := [(q_13, .inr (0, [.ref q_6, .ref ps, .ref b]))]) hP hD [2] [0, 1] rfl rfl (by decide) (by decide) hk1 hFc hP1 hD1
      generalize H1 = H at hP hS ⊢
      have hP : va_P (dC, dI) vwCl [(d, .inr (2, [.ref la, .ref ta])), (q_6, .inl (cD, nd, .inr (.inr (.inr (.inr fd))))), (q_13, .inr (0, [.ref q_6, .ref ps, .ref b]))] H := hP
      have hD : va_D A [(d, .inr (2, [.ref la, .ref ta])), (q_6, .inl (cD, nd, .inr (.inr (.inr (.inr fd))))), (q_13, .inr (0, [.ref q_6, .ref ps, .ref b]))] := hD
      have hQ := q_at hQ0 hQA hS
      have hP9 := hP.sub (ws' := [(d, .inr (2, [.ref la, .ref ta])), (q_6, .inl (cD, nd, .inr (.inr (.inr (.inr fd))))), (q_13, .inr (0, [.ref q_6, .ref ps, .ref b]))]) [0, 1, 2] rfl
      have hD9 := hD.sub (ws' := [(d, .inr (2, [.ref la, .ref ta])), (q_6, .inl (cD, nd, .inr (.inr (.inr (.inr fd))))), (q_13, .inr (0, [.ref q_6, .ref ps, .ref b]))]) [0, 1, 2] (by decide) rfl
      have hK9 := hK.sub (tys' := [(cD, .object "PatternGate$Doc")]) [0] rfl
      have hf9 := (show ∀ i, i < nd → ∃ x, fd i = some x ∧ ((fun x => x = d) x ∨ poD W9 T9 x) from fun i hi => by obtain ⟨x, e1, e2⟩ := hds i hi; exact ⟨x, e1, Or.inr e2⟩)
      refine W.widen (k := 2) (n := 13) (by omega) (by omega) ?_
      exact W.aret hx hb hr (Or.inl ⟨_, rfl⟩) (Or.inr ⟨_, rfl⟩) (fun t ht hW => ⟨⟨(), _, rfl, trivial, q_6, nd, ps, fd, cD, bX_mk m4 m5 hnp hps (by omega) hf9, by omega, by rw [ht]; exact hP9, va_K.moved hW.alike hK9, hD9⟩, hS.F ht⟩) hS.2.2 dX0_withDoc_38
    · have tk_12 := c_nge (a := i1.toInt) (b := y_11.toInt) rfl rfl k_12
      refine lv_aload_n hx hb dX0_withDoc_21 rfl (lv_at hl 0 rfl) ?_
      refine lv_iload_n hx hb dX0_withDoc_22 rfl (lv_at hl 2 rfl) ?_
      refine lv_aload_n hx hb dX0_withDoc_23 rfl (lv_at hl 3 rfl) ?_
      refine va_astq (r := (RX2, TX2, 2)) hx hb hK hP hD hS 1 0 0 2 rfl rfl rfl rfl (i := i1) (vp_of (a := i1.toInt) rfl (by omega) (by omega)) dX0_withDoc_24 (fun H locs hP hD hS => ?_)
      generalize hf_f_16 : va_up fd _ _ = f_16 at hP hD
      have hP : va_P (dC, dI) vwCl [(d, .inr (2, [.ref la, .ref ta])), (q_6, .inl (cD, nd, .inr (.inr (.inr (.inr f_16)))))] H := hP
      have hD : va_D A [(d, .inr (2, [.ref la, .ref ta])), (q_6, .inl (cD, nd, .inr (.inr (.inr (.inr f_16)))))] := hD
      have hQ := q_at hQ0 hQA hS
      refine va_new (ci := 0) (fs := [.null, .null, .null]) (C := RX0) (T := TX0) (N := 3) hx hb hts fin_X0_withDoc_X0 tyX0 tyX0_ok hown (hts (.classLink RX0 8 RX0) (List.mem_of_getElem? (i := 8) (by decide +kernel))) (hts (.instantiable RX0 3) (List.mem_of_getElem? (i := 9) (by decide +kernel))) (hts (.initialized RX0) (List.mem_of_getElem? (i := 10) (by decide +kernel))) hK hP hD hS hA rfl (fun j hj => by rcases (show j = 0 ∨ j = 1 ∨ j = 2 by omega) with rfl | rfl | rfl <;> rfl) (Nat.le_of_ble_eq_true rfl) (Nat.le_of_ble_eq_true rfl) dX0_withDoc_25 (fun q_17 H hP hD hS => ?_)
      have hP : va_P (dC, dI) vwCl [(d, .inr (2, [.ref la, .ref ta])), (q_6, .inl (cD, nd, .inr (.inr (.inr (.inr f_16))))), (q_17, .inr (0, [.null, .null, .null]))] H := hP
      have hD : va_D A [(d, .inr (2, [.ref la, .ref ta])), (q_6, .inl (cD, nd, .inr (.inr (.inr (.inr f_16))))), (q_17, .inr (0, [.null, .null, .null]))] := hD
      have hQ := q_at hQ0 hQA hS
      refine W.widen (k := 2) (n := 13) (by omega) (by omega) ?_
      refine lv_dup hx hb dX0_withDoc_28 rfl ?_
      refine lv_aload_n hx hb dX0_withDoc_29 rfl (lv_at hl 0 rfl) ?_
      refine lv_aload_n hx hb dX0_withDoc_30 rfl (lv_at hl 1 rfl) ?_
      refine va_get (D := (dC, dI)) (ci := 0) (v := .ref ps) (C := RX0) (T := TX0) (N := 3) hx hb hts fin_X0_withDoc_X0 hown hKQ hQ k_1 hk_1 rfl 1 (by decide) (hts (.fieldLink RX0 13 "PatternGate$Book" "patterns" "[LPatternGate$Pattern;") (List.mem_of_getElem? (i := 11) (by decide +kernel))) (fun _ h9 => h9) rfl dX0_withDoc_31 ?_
      refine lv_aload_n hx hb dX0_withDoc_34 rfl (lv_at hl 1 rfl) ?_
      have hPc := hP.sub (ws' := [(q_17, .inr (0, [.null, .null, .null]))]) [2] rfl
      have hKc := hK.sub (tys' := []) [] rfl
      have hDc := hD.sub (ws' := [(q_17, .inr (0, [.null, .null, .null]))]) [2] (by decide) rfl
      have hFc := va_free (wc := [(q_17, .inr (0, [.null, .null, .null]))]) hD hS hA [2] rfl
      refine va_callv (va_runI (As := [.ref q_6, .ref ps, .ref b]) (rest := [.ref q_17]) ⟨hx, hb, hml, hown, hts⟩ (s_Book_init l dC dI q_17 q_6 ps b H.size) (cwI 3 hts mg_X0_withDoc_X0_init_48 rfl rfl rfl (hts (.initialized RX0) (List.mem_of_getElem? (i := 10) (by decide +kernel))) (hts (.methodLink RX0 48 yX0_init) (List.mem_of_getElem? (i := 12) (by decide +kernel))) (hts (.instanceMethod yX0_init) (List.mem_of_getElem? (i := 13) (by decide +kernel))) rfl (by decide +kernel) ⟨Nat.le_of_ble_eq_true rfl, Nat.le_of_ble_eq_true rfl⟩) ⟨fun a U g mk q => by obtain ⟨q0, q1, qP, qK, qD⟩ := q; exact ⟨q0, q1, qP, va_K.moved (u := U) (U := U.calling g mk a) (Vm.Alike.refl U.vm) qK, qD⟩, fun U hU hW => ⟨rfl, by rw [hU], by rw [hU]; exact hPc, va_K.moved hW.alike hKc, hDc.weaken (fun _ _ _ _ => trivial)⟩⟩ rfl rfl hl.1 rfl (lv_room (Nat.le_of_ble_eq_true rfl)) dX0_withDoc_35 ⟨Nat.le_of_ble_eq_true rfl, Nat.le_of_ble_eq_true rfl⟩) hS (fun q _ h => hFc q h) hFc (fun u t H1 locs ht hvm hw hB hz1 hk1 hS => ?_)
      obtain ⟨hP1, hK1, hD1⟩ := hB
      rw [ht] at hP1
      obtain ⟨hP, hD⟩ := va_join (wr := [(d, .inr (2, [.ref la, .ref ta])), (q_6, .inl (cD, nd, .inr (.inr (.inr (.inr f_16)))))]) (w1 := [(q_17, .inr (0, [.ref q_6, .ref ps, .ref b]))]) hP hD [2] [0, 1] rfl rfl (by decide) (by decide) hk1 hFc hP1 hD1
      generalize H1 = H at hP hS ⊢
      have hP : va_P (dC, dI) vwCl [(d, .inr (2, [.ref la, .ref ta])), (q_6, .inl (cD, nd, .inr (.inr (.inr (.inr f_16))))), (q_17, .inr (0, [.ref q_6, .ref ps, .ref b]))] H := hP
      have hD : va_D A [(d, .inr (2, [.ref la, .ref ta])), (q_6, .inl (cD, nd, .inr (.inr (.inr (.inr f_16))))), (q_17, .inr (0, [.ref q_6, .ref ps, .ref b]))] := hD
      have hQ := q_at hQ0 hQA hS
      have hP9 := hP.sub (ws' := [(d, .inr (2, [.ref la, .ref ta])), (q_6, .inl (cD, nd, .inr (.inr (.inr (.inr f_16))))), (q_17, .inr (0, [.ref q_6, .ref ps, .ref b]))]) [0, 1, 2] rfl
      have hD9 := hD.sub (ws' := [(d, .inr (2, [.ref la, .ref ta])), (q_6, .inl (cD, nd, .inr (.inr (.inr (.inr f_16))))), (q_17, .inr (0, [.ref q_6, .ref ps, .ref b]))]) [0, 1, 2] (by decide) rfl
      have hK9 := hK.sub (tys' := [(cD, .object "PatternGate$Doc")]) [0] rfl
      have hf9 := fx_up (show ∀ i, i < nd → ∃ x, fd i = some x ∧ ((fun x => x = d) x ∨ poD W9 T9 x) from fun i hi => by obtain ⟨x, e1, e2⟩ := hds i hi; exact ⟨x, e1, Or.inr e2⟩) hf_f_16 (Or.inl rfl)
      refine W.widen (k := 2) (n := 13) (by omega) (by omega) ?_
      exact W.aret hx hb hr (Or.inl ⟨_, rfl⟩) (Or.inr ⟨_, rfl⟩) (fun t ht hW => ⟨⟨(), _, rfl, trivial, q_6, nd, ps, f_16, cD, bX_mk m4 m5 hnp hps (by omega) hf9, by omega, by rw [ht]; exact hP9, va_K.moved hW.alike hK9, hD9⟩, hS.F ht⟩) hS.2.2 dX0_withDoc_38
theorem dX0_withOneMore_0 : decode cX0_withOneMore 0 = .ok (.aload_n 0, 1) := by decide +kernel
theorem dX0_withOneMore_1 : decode cX0_withOneMore 1 = .ok (.getfield 7, 3) := by decide +kernel
theorem dX0_withOneMore_4 : decode cX0_withOneMore 4 = .ok (.arraylength, 1) := by decide +kernel
theorem dX0_withOneMore_5 : decode cX0_withOneMore 5 = .ok (.iconst 1, 1) := by decide +kernel
theorem dX0_withOneMore_6 : decode cX0_withOneMore 6 = .ok (.iadd, 1) := by decide +kernel
theorem dX0_withOneMore_7 : decode cX0_withOneMore 7 = .ok (.anewarray 22, 3) := by decide +kernel
theorem dX0_withOneMore_10 : decode cX0_withOneMore 10 = .ok (.astore_n 2, 1) := by decide +kernel
theorem dX0_withOneMore_11 : decode cX0_withOneMore 11 = .ok (.aload_n 0, 1) := by decide +kernel
theorem dX0_withOneMore_12 : decode cX0_withOneMore 12 = .ok (.getfield 7, 3) := by decide +kernel
theorem dX0_withOneMore_15 : decode cX0_withOneMore 15 = .ok (.iconst 0, 1) := by decide +kernel
theorem dX0_withOneMore_16 : decode cX0_withOneMore 16 = .ok (.aload_n 2, 1) := by decide +kernel
theorem dX0_withOneMore_17 : decode cX0_withOneMore 17 = .ok (.iconst 0, 1) := by decide +kernel
theorem dX0_withOneMore_18 : decode cX0_withOneMore 18 = .ok (.aload_n 0, 1) := by decide +kernel
theorem dX0_withOneMore_19 : decode cX0_withOneMore 19 = .ok (.getfield 7, 3) := by decide +kernel
theorem dX0_withOneMore_22 : decode cX0_withOneMore 22 = .ok (.arraylength, 1) := by decide +kernel
theorem dX0_withOneMore_23 : decode cX0_withOneMore 23 = .ok (.invokestatic 51, 3) := by decide +kernel
theorem dX0_withOneMore_26 : decode cX0_withOneMore 26 = .ok (.aload_n 2, 1) := by decide +kernel
theorem dX0_withOneMore_27 : decode cX0_withOneMore 27 = .ok (.aload_n 0, 1) := by decide +kernel
theorem dX0_withOneMore_28 : decode cX0_withOneMore 28 = .ok (.getfield 7, 3) := by decide +kernel
theorem dX0_withOneMore_31 : decode cX0_withOneMore 31 = .ok (.arraylength, 1) := by decide +kernel
theorem dX0_withOneMore_32 : decode cX0_withOneMore 32 = .ok (.aload_n 1, 1) := by decide +kernel
theorem dX0_withOneMore_33 : decode cX0_withOneMore 33 = .ok (.aastore, 1) := by decide +kernel
theorem dX0_withOneMore_34 : decode cX0_withOneMore 34 = .ok (.new 8, 3) := by decide +kernel
theorem dX0_withOneMore_37 : decode cX0_withOneMore 37 = .ok (.dup, 1) := by decide +kernel
theorem dX0_withOneMore_38 : decode cX0_withOneMore 38 = .ok (.aload_n 2, 1) := by decide +kernel
theorem dX0_withOneMore_39 : decode cX0_withOneMore 39 = .ok (.aload_n 0, 1) := by decide +kernel
theorem dX0_withOneMore_40 : decode cX0_withOneMore 40 = .ok (.getfield 13, 3) := by decide +kernel
theorem dX0_withOneMore_43 : decode cX0_withOneMore 43 = .ok (.aload_n 0, 1) := by decide +kernel
theorem dX0_withOneMore_44 : decode cX0_withOneMore 44 = .ok (.invokespecial 48, 3) := by decide +kernel
theorem dX0_withOneMore_47 : decode cX0_withOneMore 47 = .ok (.areturn, 1) := by decide +kernel
def mwX0_withOneMore : List Cond := .code yX0_withOneMore cX0_withOneMore 3 (some (.object "PatternGate$Book")) :: (([.fieldLink RX0 7 "PatternGate$Book" "docs" "[LPatternGate$Doc;", .classLink RX0 22 RX2, .methodLink RX0 51 arraycopyName, .native arraycopyName, .static arraycopyName, .initialized "java/lang/System", .classLink RX0 8 RX0, .instantiable RX0 3, .initialized RX0, .fieldLink RX0 13 "PatternGate$Book" "patterns" "[LPatternGate$Pattern;", .methodLink RX0 48 yX0_init, .instanceMethod yX0_init] : List Cond) ++ (wsX00 ++ (mwX0_init)))
theorem fin_X0_withOneMore_X0 : ∀ w ∈ wsX00, w ∈ mwX0_withOneMore := fun w h => List.mem_cons_of_mem _ (List.mem_append_right _ (List.mem_append_left _ h))
set_option maxRecDepth 20000 in
theorem mg_X0_withOneMore_X0_init_48 : GoodIn mwX0_withOneMore mwX0_init := gi_sub gd_mwX0_init (fun w h => List.mem_cons_of_mem _ (List.mem_append_right _ (List.mem_append_right _ (h))))
set_option maxHeartbeats 4000000 in
set_option maxRecDepth 100000 in
/-- Book.withOneMore -/
theorem s_withOneMore (l : Launch) (dC : Nat → ClassId) (dI : Nat → Nat → Nat) (W9 : va_W) (T9 : List (ClassId × FieldType)) (b : Nat) (ear : Option Nat) (ds ps nd np : Nat) (fd fp : Nat → Option Nat) (cD cP : ClassId) (d la ta : Nat) (sz : Nat) (m1 : (b, .inr (0, [.ref ds, .ref ps, va_rf ear])) ∈ W9) (m2 : (ds, .inl (cD, nd, .inr (.inr (.inr (.inr fd))))) ∈ W9) (m3 : (cD, .object "PatternGate$Doc") ∈ T9) (m4 : (ps, .inl (cP, np, .inr (.inr (.inr (.inr fp))))) ∈ W9) (m5 : (cP, .object "PatternGate$Pattern") ∈ T9) (hnp : np ≤ 8) (hds : ∀ i, i < nd → ∃ a, fd i = some a ∧ poD W9 T9 a) (hps : ∀ i, i < np → ∃ a, fp i = some a ∧ poP2 W9 T9 a) (h10 : nd < 10) : Met l yX0_withOneMore mwX0_withOneMore ({ frames := 2, cells := 2, slots := 13, locals := 120 }) (va_Pc [.ref b, .ref d] (fun U => U.heap.size = sz ∧ va_P (dC, dI) vwCl ([(d, .inr (2, [.ref la, .ref ta]))]) U.heap ∧ va_K (dC, dI) vwCl ([]) U ∧ va_D (fun _ => True) ([(d, .inr (2, [.ref la, .ref ta]))]) ∧ va_AO "PatternGate$Doc" U ∧ va_P (dC, dI) vwCl W9 U.heap ∧ va_K (dC, dI) vwCl T9 U ∧ (∀ q ∈ W9, ¬ va_A ([(d, .inr (2, [.ref la, .ref ta]))]) sz q.1))) (va_Qr (fun (_ : Unit) => True) (fun _ a t => ∃ (qn n9 ps9 : Nat) (f9 : Nat → Option Nat) (cN : ClassId), bX W9 T9 b (fun x => x = d) a qn n9 ps9 f9 cN ∧ n9 ≤ 10 ∧ va_P (dC, dI) vwCl [(d, .inr (2, [.ref la, .ref ta])), (qn, .inl (cN, n9, .inr (.inr (.inr (.inr f9))))), (a, .inr (0, [.ref qn, .ref ps9, .ref b]))] t.heap ∧ va_K (dC, dI) vwCl [(cN, .object "PatternGate$Doc")] t ∧ va_D (va_A ([(d, .inr (2, [.ref la, .ref ta]))]) sz) [(d, .inr (2, [.ref la, .ref ta])), (qn, .inl (cN, n9, .inr (.inr (.inr (.inr f9))))), (a, .inr (0, [.ref qn, .ref ps9, .ref b]))]) (va_A ([(d, .inr (2, [.ref la, .ref ta]))]) sz)) 2 13 (va_A ([(d, .inr (2, [.ref la, .ref ta]))]) sz) := by
  refine Met.ofW (cc := cX0_withOneMore) (maxL := 3) (ret := (some (.object "PatternGate$Book"))) (by decide +kernel) rfl ?_
  intro p e s m args below meth c s₁ B hml hv
  obtain ⟨rfl, hsz, hP, hK, hD0, hAO2, hQ0, hKQ, hQA⟩ := hv
  have hx := B.exec
  have hb := B.bytes
  have hr := B.returns
  have hts := atoms_spec (ws := mwX0_withOneMore) B.pre
  have hown : s.vm.findClass RX0 = some m.cls := findClass_of_methodNamed B.named
  have hlocks := B.notSynchronized
  subst hsz
  have hD := hD0.self (sz := s.heap.size)
  generalize hAe : va_A ([(d, .inr (2, [.ref la, .ref ta]))]) s.heap.size = A at hD hQA ⊢
  have hA : ∀ q : Nat, s.heap.size ≤ q → A q := fun q h => by rw [← hAe]; exact Or.inr h
  have hP : va_P (dC, dI) vwCl [(d, .inr (2, [.ref la, .ref ta]))] s.heap := hP
  have hD : va_D A [(d, .inr (2, [.ref la, .ref ta]))] := hD
  have hK : va_K (dC, dI) vwCl [] s := hK
  generalize hH : s.heap = H at hP ⊢
  have hS : va_S A s.heap H [] := by rw [← hH]; exact va_S.rf
  have hQ := q_at hQ0 hQA hS
  have hl := lv_entry ([.ref b, .ref d]) (n := 3) (Nat.le_of_ble_eq_true rfl)
  rw [lg_entry_eq]
  generalize (lg_sl ([.ref b, .ref d]) ++ List.replicate (3 - (lg_sl ([.ref b, .ref d])).length) Slot.unset).toArray = ls at hl ⊢
  have hl : lv_has ls 3 [(0, .ref b), (1, .ref d)] := hl
  obtain ⟨k_1, hk_1⟩ := List.getElem?_of_mem m1
  obtain ⟨k_2, hk_2⟩ := List.getElem?_of_mem m2
  obtain ⟨j_3, hj_3⟩ := List.getElem?_of_mem m3
  obtain ⟨k_4, hk_4⟩ := List.getElem?_of_mem m4
  obtain ⟨j_5, hj_5⟩ := List.getElem?_of_mem m5
  refine lv_aload_n hx hb dX0_withOneMore_0 rfl (lv_at hl 0 rfl) ?_
  refine va_get (D := (dC, dI)) (ci := 0) (v := .ref ds) (C := RX0) (T := TX0) (N := 3) hx hb hts fin_X0_withOneMore_X0 hown hKQ hQ k_1 hk_1 rfl 0 (by decide) (hts (.fieldLink RX0 7 "PatternGate$Book" "docs" "[LPatternGate$Doc;") (List.mem_of_getElem? (i := 1) (by decide +kernel))) (fun _ h9 => h9) rfl dX0_withOneMore_1 ?_
  refine va_alen hx hb hKQ hQ k_2 j_3 hk_2 hj_3 rfl dX0_withOneMore_4 ?_
  refine lv_topi (fun y_6 ey_6 => ?_)
  have ty_6 : y_6.toInt = (nd : Int) := i_len ey_6 (by omega)
  refine lv_iconst (v := 1) hx hb dX0_withOneMore_5 (by decide) ?_
  refine lv_iadd hx hb dX0_withOneMore_6 ?_
  refine lv_topi (fun y_7 ey_7 => ?_)
  first | have ty_7 := i_add (a := y_6.toInt) (b := 1) rfl (by decide) ey_7 (by omega) (by omega) | skip
  obtain ⟨n_10, hn_10, en_10⟩ := nI_of (i_nn (x := y_7) rfl (by omega))
  have tn_10 : y_7.toInt = (n_10 : Int) := by rw [en_10]; exact nI_toInt hn_10
  have un_10 : n_10 ≤ 10 := by omega
  refine va_newq (C := "PatternGate$Doc") (n := y_7) (N' := n_10) hx hb hown (hts (.classLink RX0 22 RX2) (List.mem_of_getElem? (i := 2) (by decide +kernel))) hAO2 hK hP hD hS hA (i_nn rfl (by omega)) (by rw [en_10]; exact nI_clamp hn_10) (by omega) (Nat.le_of_ble_eq_true rfl) (Nat.le_trans (Nat.add_le_add_left un_10 _) (Nat.le_of_ble_eq_true rfl)) dX0_withOneMore_7 (fun q_8 c_9 H hK hP hD hS => ?_)
  have hP : va_P (dC, dI) vwCl [(d, .inr (2, [.ref la, .ref ta])), (q_8, .inl (c_9, n_10, .inr (.inr (.inr (.inr (fun _ => none))))))] H := hP
  have hD : va_D A [(d, .inr (2, [.ref la, .ref ta])), (q_8, .inl (c_9, n_10, .inr (.inr (.inr (.inr (fun _ => none))))))] := hD
  have hQ := q_at hQ0 hQA hS
  have hK : va_K (dC, dI) vwCl [(c_9, .object "PatternGate$Doc")] s := hK
  refine W.widen (k := 1) (n := 10) (by omega) (by omega) ?_
  refine lv_astore_n (lv' := [(2, .ref q_8), (0, .ref b), (1, .ref d)]) hx hb dX0_withOneMore_10 rfl hl (by decide) rfl (fun ls hl => ?_)
  refine lv_aload_n hx hb dX0_withOneMore_11 rfl (lv_at hl 1 rfl) ?_
  refine va_get (D := (dC, dI)) (ci := 0) (v := .ref ds) (C := RX0) (T := TX0) (N := 3) hx hb hts fin_X0_withOneMore_X0 hown hKQ hQ k_1 hk_1 rfl 0 (by decide) (hts (.fieldLink RX0 7 "PatternGate$Book" "docs" "[LPatternGate$Doc;") (List.mem_of_getElem? (i := 1) (by decide +kernel))) (fun _ h9 => h9) rfl dX0_withOneMore_12 ?_
  refine lv_iconst (v := 0) hx hb dX0_withOneMore_15 (by decide) ?_
  refine lv_aload_n hx hb dX0_withOneMore_16 rfl (lv_at hl 0 rfl) ?_
  refine lv_iconst (v := 0) hx hb dX0_withOneMore_17 (by decide) ?_
  refine lv_aload_n hx hb dX0_withOneMore_18 rfl (lv_at hl 1 rfl) ?_
  refine va_get (D := (dC, dI)) (ci := 0) (v := .ref ds) (C := RX0) (T := TX0) (N := 3) hx hb hts fin_X0_withOneMore_X0 hown hKQ hQ k_1 hk_1 rfl 0 (by decide) (hts (.fieldLink RX0 7 "PatternGate$Book" "docs" "[LPatternGate$Doc;") (List.mem_of_getElem? (i := 1) (by decide +kernel))) (fun _ h9 => h9) rfl dX0_withOneMore_19 ?_
  refine va_alen hx hb hKQ hQ k_2 j_3 hk_2 hj_3 rfl dX0_withOneMore_22 ?_
  refine lv_topi (fun y_11 ey_11 => ?_)
  have ty_11 : y_11.toInt = (nd : Int) := i_len ey_11 (by omega)
  refine q_copyq (C := "PatternGate$Doc") hx hb (hml.trans hl.1.symm) hown (hts (.methodLink RX0 51 arraycopyName) (List.mem_of_getElem? (i := 3) (by decide +kernel))) (hts (.native arraycopyName) (List.mem_of_getElem? (i := 4) (by decide +kernel))) (hts (.static arraycopyName) (List.mem_of_getElem? (i := 5) (by decide +kernel))) (hts (.initialized "java/lang/System") (List.mem_of_getElem? (i := 6) (by decide +kernel))) hQ hKQ hQA hK hP hD hS k_2 1 j_3 0 hk_2 rfl hj_3 rfl (i_nn (a := 0) (by decide) (by omega)) (i_nn (a := 0) (by decide) (by omega)) (i_nn (a := y_11.toInt) rfl (by omega)) (cp_le (a := 0) (b := y_11.toInt) (by decide) rfl (by omega) (by omega) (by omega)) (cp_le (a := 0) (b := y_11.toInt) (by decide) rfl (by omega) (by omega) (by omega)) (el_D hQ hK hds (cp_le (a := 0) (b := y_11.toInt) (by decide) rfl (by omega) (by omega) (by omega))) (fun c1 c2 h1 h2 => vb_asgS c1 c2 h1 h2) (Nat.le_of_ble_eq_true rfl) (by decide +kernel) dX0_withOneMore_23 (fun H locs hP hD hS => ?_)
  generalize hf_f_12 : va_cpy _ _ _ _ _ = f_12 at hP hD
  have hP : va_P (dC, dI) vwCl [(d, .inr (2, [.ref la, .ref ta])), (q_8, .inl (c_9, n_10, .inr (.inr (.inr (.inr f_12)))))] H := hP
  have hD : va_D A [(d, .inr (2, [.ref la, .ref ta])), (q_8, .inl (c_9, n_10, .inr (.inr (.inr (.inr f_12)))))] := hD
  have hQ := q_at hQ0 hQA hS
  refine lv_aload_n hx hb dX0_withOneMore_26 rfl (lv_at hl 0 rfl) ?_
  refine lv_aload_n hx hb dX0_withOneMore_27 rfl (lv_at hl 1 rfl) ?_
  refine va_get (D := (dC, dI)) (ci := 0) (v := .ref ds) (C := RX0) (T := TX0) (N := 3) hx hb hts fin_X0_withOneMore_X0 hown hKQ hQ k_1 hk_1 rfl 0 (by decide) (hts (.fieldLink RX0 7 "PatternGate$Book" "docs" "[LPatternGate$Doc;") (List.mem_of_getElem? (i := 1) (by decide +kernel))) (fun _ h9 => h9) rfl dX0_withOneMore_28 ?_
  refine va_alen hx hb hKQ hQ k_2 j_3 hk_2 hj_3 rfl dX0_withOneMore_31 ?_
  refine lv_topi (fun y_13 ey_13 => ?_)
  have ty_13 : y_13.toInt = (nd : Int) := i_len ey_13 (by omega)
  refine lv_aload_n hx hb dX0_withOneMore_32 rfl (lv_at hl 2 rfl) ?_
  refine va_astq (r := (RX2, TX2, 2)) hx hb hK hP hD hS 1 0 0 2 rfl rfl rfl rfl (i := y_13) (vp_of (a := y_13.toInt) rfl (by omega) (by omega)) dX0_withOneMore_33 (fun H locs hP hD hS => ?_)
  generalize hf_f_14 : va_up f_12 _ _ = f_14 at hP hD
  have hP : va_P (dC, dI) vwCl [(d, .inr (2, [.ref la, .ref ta])), (q_8, .inl (c_9, n_10, .inr (.inr (.inr (.inr f_14)))))] H := hP
  have hD : va_D A [(d, .inr (2, [.ref la, .ref ta])), (q_8, .inl (c_9, n_10, .inr (.inr (.inr (.inr f_14)))))] := hD
  have hQ := q_at hQ0 hQA hS
  refine va_new (ci := 0) (fs := [.null, .null, .null]) (C := RX0) (T := TX0) (N := 3) hx hb hts fin_X0_withOneMore_X0 tyX0 tyX0_ok hown (hts (.classLink RX0 8 RX0) (List.mem_of_getElem? (i := 7) (by decide +kernel))) (hts (.instantiable RX0 3) (List.mem_of_getElem? (i := 8) (by decide +kernel))) (hts (.initialized RX0) (List.mem_of_getElem? (i := 9) (by decide +kernel))) hK hP hD hS hA rfl (fun j hj => by rcases (show j = 0 ∨ j = 1 ∨ j = 2 by omega) with rfl | rfl | rfl <;> rfl) (Nat.le_of_ble_eq_true rfl) (Nat.le_of_ble_eq_true rfl) dX0_withOneMore_34 (fun q_15 H hP hD hS => ?_)
  have hP : va_P (dC, dI) vwCl [(d, .inr (2, [.ref la, .ref ta])), (q_8, .inl (c_9, n_10, .inr (.inr (.inr (.inr f_14))))), (q_15, .inr (0, [.null, .null, .null]))] H := hP
  have hD : va_D A [(d, .inr (2, [.ref la, .ref ta])), (q_8, .inl (c_9, n_10, .inr (.inr (.inr (.inr f_14))))), (q_15, .inr (0, [.null, .null, .null]))] := hD
  have hQ := q_at hQ0 hQA hS
  refine W.widen (k := 2) (n := 13) (by omega) (by omega) ?_
  refine lv_dup hx hb dX0_withOneMore_37 rfl ?_
  refine lv_aload_n hx hb dX0_withOneMore_38 rfl (lv_at hl 0 rfl) ?_
  refine lv_aload_n hx hb dX0_withOneMore_39 rfl (lv_at hl 1 rfl) ?_
  refine va_get (D := (dC, dI)) (ci := 0) (v := .ref ps) (C := RX0) (T := TX0) (N := 3) hx hb hts fin_X0_withOneMore_X0 hown hKQ hQ k_1 hk_1 rfl 1 (by decide) (hts (.fieldLink RX0 13 "PatternGate$Book" "patterns" "[LPatternGate$Pattern;") (List.mem_of_getElem? (i := 10) (by decide +kernel))) (fun _ h9 => h9) rfl dX0_withOneMore_40 ?_
  refine lv_aload_n hx hb dX0_withOneMore_43 rfl (lv_at hl 1 rfl) ?_
  have hPc := hP.sub (ws' := [(q_15, .inr (0, [.null, .null, .null]))]) [2] rfl
  have hKc := hK.sub (tys' := []) [] rfl
  have hDc := hD.sub (ws' := [(q_15, .inr (0, [.null, .null, .null]))]) [2] (by decide) rfl
  have hFc := va_free (wc := [(q_15, .inr (0, [.null, .null, .null]))]) hD hS hA [2] rfl
  refine va_callv (va_runI (As := [.ref q_8, .ref ps, .ref b]) (rest := [.ref q_15]) ⟨hx, hb, hml, hown, hts⟩ (s_Book_init l dC dI q_15 q_8 ps b H.size) (cwI 3 hts mg_X0_withOneMore_X0_init_48 rfl rfl rfl (hts (.initialized RX0) (List.mem_of_getElem? (i := 9) (by decide +kernel))) (hts (.methodLink RX0 48 yX0_init) (List.mem_of_getElem? (i := 11) (by decide +kernel))) (hts (.instanceMethod yX0_init) (List.mem_of_getElem? (i := 12) (by decide +kernel))) rfl (by decide +kernel) ⟨Nat.le_of_ble_eq_true rfl, Nat.le_of_ble_eq_true rfl⟩) ⟨fun a U g mk q => by obtain ⟨q0, q1, qP, qK, qD⟩ := q; exact ⟨q0, q1, qP, va_K.moved (u := U) (U := U.calling g mk a) (Vm.Alike.refl U.vm) qK, qD⟩, fun U hU hW => ⟨rfl, by rw [hU], by rw [hU]; exact hPc, va_K.moved hW.alike hKc, hDc.weaken (fun _ _ _ _ => trivial)⟩⟩ rfl rfl hl.1 rfl (lv_room (Nat.le_of_ble_eq_true rfl)) dX0_withOneMore_44 ⟨Nat.le_of_ble_eq_true rfl, Nat.le_of_ble_eq_true rfl⟩) hS (fun q _ h => hFc q h) hFc (fun u t H1 locs ht hvm hw hB hz1 hk1 hS => ?_)
  obtain ⟨hP1, hK1, hD1⟩ := hB
  rw [ht] at hP1
  obtain ⟨hP, hD⟩ := va_join (wr := [(d, .inr (2, [.ref la, .ref ta])), (q_8, .inl (c_9, n_10, .inr (.inr (.inr (.inr f_14)))))]) (w1 := [(q_15, .inr (0, [.ref q_8, .ref ps, .ref b]))]) hP hD [2] [0, 1] rfl rfl (by decide) (by decide) hk1 hFc hP1 hD1
  generalize H1 = H at hP hS ⊢
  have hP : va_P (dC, dI) vwCl [(d, .inr (2, [.ref la, .ref ta])), (q_8, .inl (c_9, n_10, .inr (.inr (.inr (.inr f_14))))), (q_15, .inr (0, [.ref q_8, .ref ps, .ref b]))] H := hP
  have hD : va_D A [(d, .inr (2, [.ref la, .ref ta])), (q_8, .inl (c_9, n_10, .inr (.inr (.inr (.inr f_14))))), (q_15, .inr (0, [.ref q_8, .ref ps, .ref b]))] := hD
  have hQ := q_at hQ0 hQA hS
  have hP9 := hP.sub (ws' := [(d, .inr (2, [.ref la, .ref ta])), (q_8, .inl (c_9, n_10, .inr (.inr (.inr (.inr f_14))))), (q_15, .inr (0, [.ref q_8, .ref ps, .ref b]))]) [0, 1, 2] rfl
  have hD9 := hD.sub (ws' := [(d, .inr (2, [.ref la, .ref ta])), (q_8, .inl (c_9, n_10, .inr (.inr (.inr (.inr f_14))))), (q_15, .inr (0, [.ref q_8, .ref ps, .ref b]))]) [0, 1, 2] (by decide) rfl
  have hK9 := hK.sub (tys' := [(c_9, .object "PatternGate$Doc")]) [0] rfl
  have hf9 := (show ∀ i, i < n_10 → ∃ x, f_14 i = some x ∧ ((fun x => x = d) x ∨ poD W9 T9 x) from by rw [show n_10 = nd + 1 by omega]; exact fx_one (show ∀ i, i < nd → ∃ x, fd i = some x ∧ ((fun x => x = d) x ∨ poD W9 T9 x) from fun i hi => by obtain ⟨x, e1, e2⟩ := hds i hi; exact ⟨x, e1, Or.inr e2⟩) hf_f_12 hf_f_14 (by decide) (by decide) (by omega) (by omega) (Or.inl rfl))
  refine W.widen (k := 2) (n := 13) (by omega) (by omega) ?_
  exact W.aret hx hb hr (Or.inl ⟨_, rfl⟩) (Or.inr ⟨_, rfl⟩) (fun t ht hW => ⟨⟨(), _, rfl, trivial, q_8, n_10, ps, f_14, c_9, bX_mk m4 m5 hnp hps (by omega) hf9, by omega, by rw [ht]; exact hP9, va_K.moved hW.alike hK9, hD9⟩, hS.F ht⟩) hS.2.2 dX0_withOneMore_47
theorem dX0_withoutDoc_0 : decode cX0_withoutDoc 0 = .ok (.iload_n 1, 1) := by decide +kernel
theorem dX0_withoutDoc_1 : decode cX0_withoutDoc 1 = .ok (.ifCond .lt 12, 3) := by decide +kernel
theorem dX0_withoutDoc_4 : decode cX0_withoutDoc 4 = .ok (.iload_n 1, 1) := by decide +kernel
theorem dX0_withoutDoc_5 : decode cX0_withoutDoc 5 = .ok (.aload_n 0, 1) := by decide +kernel
theorem dX0_withoutDoc_6 : decode cX0_withoutDoc 6 = .ok (.getfield 7, 3) := by decide +kernel
theorem dX0_withoutDoc_9 : decode cX0_withoutDoc 9 = .ok (.arraylength, 1) := by decide +kernel
theorem dX0_withoutDoc_10 : decode cX0_withoutDoc 10 = .ok (.if_icmp .lt 5, 3) := by decide +kernel
theorem dX0_withoutDoc_13 : decode cX0_withoutDoc 13 = .ok (.aload_n 0, 1) := by decide +kernel
theorem dX0_withoutDoc_14 : decode cX0_withoutDoc 14 = .ok (.areturn, 1) := by decide +kernel
theorem dX0_withoutDoc_15 : decode cX0_withoutDoc 15 = .ok (.aload_n 0, 1) := by decide +kernel
theorem dX0_withoutDoc_16 : decode cX0_withoutDoc 16 = .ok (.getfield 7, 3) := by decide +kernel
theorem dX0_withoutDoc_19 : decode cX0_withoutDoc 19 = .ok (.arraylength, 1) := by decide +kernel
theorem dX0_withoutDoc_20 : decode cX0_withoutDoc 20 = .ok (.iconst 1, 1) := by decide +kernel
theorem dX0_withoutDoc_21 : decode cX0_withoutDoc 21 = .ok (.isub, 1) := by decide +kernel
theorem dX0_withoutDoc_22 : decode cX0_withoutDoc 22 = .ok (.anewarray 22, 3) := by decide +kernel
theorem dX0_withoutDoc_25 : decode cX0_withoutDoc 25 = .ok (.astore_n 2, 1) := by decide +kernel
theorem dX0_withoutDoc_26 : decode cX0_withoutDoc 26 = .ok (.aload_n 0, 1) := by decide +kernel
theorem dX0_withoutDoc_27 : decode cX0_withoutDoc 27 = .ok (.getfield 7, 3) := by decide +kernel
theorem dX0_withoutDoc_30 : decode cX0_withoutDoc 30 = .ok (.iconst 0, 1) := by decide +kernel
theorem dX0_withoutDoc_31 : decode cX0_withoutDoc 31 = .ok (.aload_n 2, 1) := by decide +kernel
theorem dX0_withoutDoc_32 : decode cX0_withoutDoc 32 = .ok (.iconst 0, 1) := by decide +kernel
theorem dX0_withoutDoc_33 : decode cX0_withoutDoc 33 = .ok (.iload_n 1, 1) := by decide +kernel
theorem dX0_withoutDoc_34 : decode cX0_withoutDoc 34 = .ok (.invokestatic 51, 3) := by decide +kernel
theorem dX0_withoutDoc_37 : decode cX0_withoutDoc 37 = .ok (.aload_n 0, 1) := by decide +kernel
theorem dX0_withoutDoc_38 : decode cX0_withoutDoc 38 = .ok (.getfield 7, 3) := by decide +kernel
theorem dX0_withoutDoc_41 : decode cX0_withoutDoc 41 = .ok (.iload_n 1, 1) := by decide +kernel
theorem dX0_withoutDoc_42 : decode cX0_withoutDoc 42 = .ok (.iconst 1, 1) := by decide +kernel
theorem dX0_withoutDoc_43 : decode cX0_withoutDoc 43 = .ok (.iadd, 1) := by decide +kernel
theorem dX0_withoutDoc_44 : decode cX0_withoutDoc 44 = .ok (.aload_n 2, 1) := by decide +kernel
theorem dX0_withoutDoc_45 : decode cX0_withoutDoc 45 = .ok (.iload_n 1, 1) := by decide +kernel
theorem dX0_withoutDoc_46 : decode cX0_withoutDoc 46 = .ok (.aload_n 2, 1) := by decide +kernel
theorem dX0_withoutDoc_47 : decode cX0_withoutDoc 47 = .ok (.arraylength, 1) := by decide +kernel
theorem dX0_withoutDoc_48 : decode cX0_withoutDoc 48 = .ok (.iload_n 1, 1) := by decide +kernel
theorem dX0_withoutDoc_49 : decode cX0_withoutDoc 49 = .ok (.isub, 1) := by decide +kernel
theorem dX0_withoutDoc_50 : decode cX0_withoutDoc 50 = .ok (.invokestatic 51, 3) := by decide +kernel
theorem dX0_withoutDoc_53 : decode cX0_withoutDoc 53 = .ok (.new 8, 3) := by decide +kernel
theorem dX0_withoutDoc_56 : decode cX0_withoutDoc 56 = .ok (.dup, 1) := by decide +kernel
theorem dX0_withoutDoc_57 : decode cX0_withoutDoc 57 = .ok (.aload_n 2, 1) := by decide +kernel
theorem dX0_withoutDoc_58 : decode cX0_withoutDoc 58 = .ok (.aload_n 0, 1) := by decide +kernel
theorem dX0_withoutDoc_59 : decode cX0_withoutDoc 59 = .ok (.getfield 13, 3) := by decide +kernel
theorem dX0_withoutDoc_62 : decode cX0_withoutDoc 62 = .ok (.aload_n 0, 1) := by decide +kernel
theorem dX0_withoutDoc_63 : decode cX0_withoutDoc 63 = .ok (.invokespecial 48, 3) := by decide +kernel
theorem dX0_withoutDoc_66 : decode cX0_withoutDoc 66 = .ok (.areturn, 1) := by decide +kernel
def mwX0_withoutDoc : List Cond := .code yX0_withoutDoc cX0_withoutDoc 3 (some (.object "PatternGate$Book")) :: (([.fieldLink RX0 7 "PatternGate$Book" "docs" "[LPatternGate$Doc;", .classLink RX0 22 RX2, .methodLink RX0 51 arraycopyName, .native arraycopyName, .static arraycopyName, .initialized "java/lang/System", .classLink RX0 8 RX0, .instantiable RX0 3, .initialized RX0, .fieldLink RX0 13 "PatternGate$Book" "patterns" "[LPatternGate$Pattern;", .methodLink RX0 48 yX0_init, .instanceMethod yX0_init] : List Cond) ++ (wsX00 ++ (mwX0_init)))
theorem fin_X0_withoutDoc_X0 : ∀ w ∈ wsX00, w ∈ mwX0_withoutDoc := fun w h => List.mem_cons_of_mem _ (List.mem_append_right _ (List.mem_append_left _ h))
set_option maxRecDepth 20000 in
theorem mg_X0_withoutDoc_X0_init_48 : GoodIn mwX0_withoutDoc mwX0_init := gi_sub gd_mwX0_init (fun w h => List.mem_cons_of_mem _ (List.mem_append_right _ (List.mem_append_right _ (h))))
set_option maxHeartbeats 4000000 in
set_option maxRecDepth 100000 in
/-- Book.withoutDoc -/
theorem s_withoutDoc (l : Launch) (dC : Nat → ClassId) (dI : Nat → Nat → Nat) (W9 : va_W) (T9 : List (ClassId × FieldType)) (b : Nat) (ear : Option Nat) (sz : Nat) (i1 : Int32) (hB3 : poB3 W9 T9 b ear) : Met l yX0_withoutDoc mwX0_withoutDoc ({ frames := 2, cells := 2, slots := 13, locals := 120 }) (va_Pc [.ref b, .int i1] (fun U => U.heap.size = sz ∧ va_P (dC, dI) vwCl ([]) U.heap ∧ va_K (dC, dI) vwCl ([]) U ∧ va_D (fun _ => True) ([]) ∧ va_AO "PatternGate$Doc" U ∧ va_P (dC, dI) vwCl W9 U.heap ∧ va_K (dC, dI) vwCl T9 U ∧ (∀ q ∈ W9, ¬ va_A ([]) sz q.1))) (va_Qr (fun (_ : Unit) => True) (fun _ a t => (a = b ∧ va_K (dC, dI) vwCl [] t) ∨ (∃ (qn n9 ps9 : Nat) (f9 : Nat → Option Nat) (cN : ClassId), bX W9 T9 b (fun _ => False) a qn n9 ps9 f9 cN ∧ n9 ≤ 10 ∧ va_P (dC, dI) vwCl [(qn, .inl (cN, n9, .inr (.inr (.inr (.inr f9))))), (a, .inr (0, [.ref qn, .ref ps9, .ref b]))] t.heap ∧ va_K (dC, dI) vwCl [(cN, .object "PatternGate$Doc")] t ∧ va_D (va_A ([]) sz) [(qn, .inl (cN, n9, .inr (.inr (.inr (.inr f9))))), (a, .inr (0, [.ref qn, .ref ps9, .ref b]))])) (va_A ([]) sz)) 2 13 (va_A ([]) sz) := by
  refine Met.ofW (cc := cX0_withoutDoc) (maxL := 3) (ret := (some (.object "PatternGate$Book"))) (by decide +kernel) rfl ?_
  intro p e s m args below meth c s₁ B hml hv
  obtain ⟨rfl, hsz, hP, hK, hD0, hAO2, hQ0, hKQ, hQA⟩ := hv
  have hx := B.exec
  have hb := B.bytes
  have hr := B.returns
  have hts := atoms_spec (ws := mwX0_withoutDoc) B.pre
  have hown : s.vm.findClass RX0 = some m.cls := findClass_of_methodNamed B.named
  have hlocks := B.notSynchronized
  subst hsz
  have hD := hD0.self (sz := s.heap.size)
  generalize hAe : va_A ([]) s.heap.size = A at hD hQA ⊢
  have hA : ∀ q : Nat, s.heap.size ≤ q → A q := fun q h => by rw [← hAe]; exact Or.inr h
  have hP : va_P (dC, dI) vwCl [] s.heap := hP
  have hD : va_D A [] := hD
  have hK : va_K (dC, dI) vwCl [] s := hK
  generalize hH : s.heap = H at hP ⊢
  have hS : va_S A s.heap H [] := by rw [← hH]; exact va_S.rf
  have hQ := q_at hQ0 hQA hS
  have hl := lv_entry ([.ref b, .int i1]) (n := 3) (Nat.le_of_ble_eq_true rfl)
  rw [lg_entry_eq]
  generalize (lg_sl ([.ref b, .int i1]) ++ List.replicate (3 - (lg_sl ([.ref b, .int i1])).length) Slot.unset).toArray = ls at hl ⊢
  have hl : lv_has ls 3 [(0, .ref b), (1, .int i1)] := hl
  have rg_i1 := i_rng i1
  obtain ⟨ds, ps, nd, np, fd, fp, cD, cP, m1, m2, m3, m4, m5, hnd, hnp, hds, hps⟩ := id hB3
  obtain ⟨k_1, hk_1⟩ := List.getElem?_of_mem m1
  obtain ⟨k_2, hk_2⟩ := List.getElem?_of_mem m2
  obtain ⟨j_3, hj_3⟩ := List.getElem?_of_mem m3
  obtain ⟨k_4, hk_4⟩ := List.getElem?_of_mem m4
  obtain ⟨j_5, hj_5⟩ := List.getElem?_of_mem m5
  refine lv_iload_n hx hb dX0_withoutDoc_0 rfl (lv_at hl 1 rfl) ?_
  refine lv_if_lt (tgt := 13) hx hb dX0_withoutDoc_1 (by decide) (fun k_6 => ?_) (fun k_6 => ?_)
  · have tk_6 := c_lt (a := i1.toInt) (b := 0) rfl (by decide) k_6
    refine lv_aload_n hx hb dX0_withoutDoc_13 rfl (lv_at hl 0 rfl) ?_
    refine W.widen (k := 2) (n := 13) (by omega) (by omega) ?_
    have hK9 := hK.sub (tys' := []) [] rfl
    exact W.aret hx hb hr (Or.inl ⟨_, rfl⟩) (Or.inr ⟨_, rfl⟩) (fun t ht hW => ⟨⟨(), _, rfl, trivial, Or.inl ⟨rfl, va_K.moved hW.alike hK9⟩⟩, hS.F ht⟩) hS.2.2 dX0_withoutDoc_14
  · have tk_6 := c_nlt (a := i1.toInt) (b := 0) rfl (by decide) k_6
    refine lv_iload_n hx hb dX0_withoutDoc_4 rfl (lv_at hl 1 rfl) ?_
    refine lv_aload_n hx hb dX0_withoutDoc_5 rfl (lv_at hl 0 rfl) ?_
    refine va_get (D := (dC, dI)) (ci := 0) (v := .ref ds) (C := RX0) (T := TX0) (N := 3) hx hb hts fin_X0_withoutDoc_X0 hown hKQ hQ k_1 hk_1 rfl 0 (by decide) (hts (.fieldLink RX0 7 "PatternGate$Book" "docs" "[LPatternGate$Doc;") (List.mem_of_getElem? (i := 1) (by decide +kernel))) (fun _ h9 => h9) rfl dX0_withoutDoc_6 ?_
    refine va_alen hx hb hKQ hQ k_2 j_3 hk_2 hj_3 rfl dX0_withoutDoc_9 ?_
    refine lv_topi (fun y_7 ey_7 => ?_)
    have ty_7 : y_7.toInt = (nd : Int) := i_len ey_7 (by omega)
    refine lv_icmp_lt (tgt := 15) hx hb dX0_withoutDoc_10 (by decide) (fun k_8 => ?_) (fun k_8 => ?_)
    · have tk_8 := c_lt (a := i1.toInt) (b := y_7.toInt) rfl rfl k_8
      refine lv_aload_n hx hb dX0_withoutDoc_15 rfl (lv_at hl 0 rfl) ?_
      refine va_get (D := (dC, dI)) (ci := 0) (v := .ref ds) (C := RX0) (T := TX0) (N := 3) hx hb hts fin_X0_withoutDoc_X0 hown hKQ hQ k_1 hk_1 rfl 0 (by decide) (hts (.fieldLink RX0 7 "PatternGate$Book" "docs" "[LPatternGate$Doc;") (List.mem_of_getElem? (i := 1) (by decide +kernel))) (fun _ h9 => h9) rfl dX0_withoutDoc_16 ?_
      refine va_alen hx hb hKQ hQ k_2 j_3 hk_2 hj_3 rfl dX0_withoutDoc_19 ?_
      refine lv_topi (fun y_9 ey_9 => ?_)
      have ty_9 : y_9.toInt = (nd : Int) := i_len ey_9 (by omega)
      refine lv_iconst (v := 1) hx hb dX0_withoutDoc_20 (by decide) ?_
      refine lv_isub hx hb dX0_withoutDoc_21 ?_
      refine lv_topi (fun y_10 ey_10 => ?_)
      first | have ty_10 := i_sub (a := y_9.toInt) (b := 1) rfl (by decide) ey_10 (by omega) (by omega) | skip
      obtain ⟨n_13, hn_13, en_13⟩ := nI_of (i_nn (x := y_10) rfl (by omega))
      have tn_13 : y_10.toInt = (n_13 : Int) := by rw [en_13]; exact nI_toInt hn_13
      have un_13 : n_13 ≤ 10 := by omega
      refine va_newq (C := "PatternGate$Doc") (n := y_10) (N' := n_13) hx hb hown (hts (.classLink RX0 22 RX2) (List.mem_of_getElem? (i := 2) (by decide +kernel))) hAO2 hK hP hD hS hA (i_nn rfl (by omega)) (by rw [en_13]; exact nI_clamp hn_13) (by omega) (Nat.le_of_ble_eq_true rfl) (Nat.le_trans (Nat.add_le_add_left un_13 _) (Nat.le_of_ble_eq_true rfl)) dX0_withoutDoc_22 (fun q_11 c_12 H hK hP hD hS => ?_)
      have hP : va_P (dC, dI) vwCl [(q_11, .inl (c_12, n_13, .inr (.inr (.inr (.inr (fun _ => none))))))] H := hP
      have hD : va_D A [(q_11, .inl (c_12, n_13, .inr (.inr (.inr (.inr (fun _ => none))))))] := hD
      have hQ := q_at hQ0 hQA hS
      have hK : va_K (dC, dI) vwCl [(c_12, .object "PatternGate$Doc")] s := hK
      refine W.widen (k := 1) (n := 10) (by omega) (by omega) ?_
      refine lv_astore_n (lv' := [(2, .ref q_11), (0, .ref b), (1, .int i1)]) hx hb dX0_withoutDoc_25 rfl hl (by decide) rfl (fun ls hl => ?_)
      refine lv_aload_n hx hb dX0_withoutDoc_26 rfl (lv_at hl 1 rfl) ?_
      refine va_get (D := (dC, dI)) (ci := 0) (v := .ref ds) (C := RX0) (T := TX0) (N := 3) hx hb hts fin_X0_withoutDoc_X0 hown hKQ hQ k_1 hk_1 rfl 0 (by decide) (hts (.fieldLink RX0 7 "PatternGate$Book" "docs" "[LPatternGate$Doc;") (List.mem_of_getElem? (i := 1) (by decide +kernel))) (fun _ h9 => h9) rfl dX0_withoutDoc_27 ?_
      refine lv_iconst (v := 0) hx hb dX0_withoutDoc_30 (by decide) ?_
      refine lv_aload_n hx hb dX0_withoutDoc_31 rfl (lv_at hl 0 rfl) ?_
      refine lv_iconst (v := 0) hx hb dX0_withoutDoc_32 (by decide) ?_
      refine lv_iload_n hx hb dX0_withoutDoc_33 rfl (lv_at hl 2 rfl) ?_
      refine q_copyq (C := "PatternGate$Doc") hx hb (hml.trans hl.1.symm) hown (hts (.methodLink RX0 51 arraycopyName) (List.mem_of_getElem? (i := 3) (by decide +kernel))) (hts (.native arraycopyName) (List.mem_of_getElem? (i := 4) (by decide +kernel))) (hts (.static arraycopyName) (List.mem_of_getElem? (i := 5) (by decide +kernel))) (hts (.initialized "java/lang/System") (List.mem_of_getElem? (i := 6) (by decide +kernel))) hQ hKQ hQA hK hP hD hS k_2 0 j_3 0 hk_2 rfl hj_3 rfl (i_nn (a := 0) (by decide) (by omega)) (i_nn (a := 0) (by decide) (by omega)) (i_nn (a := i1.toInt) rfl (by omega)) (cp_le (a := 0) (b := i1.toInt) (by decide) rfl (by omega) (by omega) (by omega)) (cp_le (a := 0) (b := i1.toInt) (by decide) rfl (by omega) (by omega) (by omega)) (el_D hQ hK hds (cp_le (a := 0) (b := i1.toInt) (by decide) rfl (by omega) (by omega) (by omega))) (fun c1 c2 h1 h2 => vb_asgS c1 c2 h1 h2) (Nat.le_of_ble_eq_true rfl) (by decide +kernel) dX0_withoutDoc_34 (fun H locs hP hD hS => ?_)
      generalize hf_f_14 : va_cpy _ _ _ _ _ = f_14 at hP hD
      have hP : va_P (dC, dI) vwCl [(q_11, .inl (c_12, n_13, .inr (.inr (.inr (.inr f_14)))))] H := hP
      have hD : va_D A [(q_11, .inl (c_12, n_13, .inr (.inr (.inr (.inr f_14)))))] := hD
      have hQ := q_at hQ0 hQA hS
      refine lv_aload_n hx hb dX0_withoutDoc_37 rfl (lv_at hl 1 rfl) ?_
      refine va_get (D := (dC, dI)) (ci := 0) (v := .ref ds) (C := RX0) (T := TX0) (N := 3) hx hb hts fin_X0_withoutDoc_X0 hown hKQ hQ k_1 hk_1 rfl 0 (by decide) (hts (.fieldLink RX0 7 "PatternGate$Book" "docs" "[LPatternGate$Doc;") (List.mem_of_getElem? (i := 1) (by decide +kernel))) (fun _ h9 => h9) rfl dX0_withoutDoc_38 ?_
      refine lv_iload_n hx hb dX0_withoutDoc_41 rfl (lv_at hl 2 rfl) ?_
      refine lv_iconst (v := 1) hx hb dX0_withoutDoc_42 (by decide) ?_
      refine lv_iadd hx hb dX0_withoutDoc_43 ?_
      refine lv_topi (fun y_15 ey_15 => ?_)
      first | have ty_15 := i_add (a := i1.toInt) (b := 1) rfl (by decide) ey_15 (by omega) (by omega) | skip
      refine lv_aload_n hx hb dX0_withoutDoc_44 rfl (lv_at hl 0 rfl) ?_
      refine lv_iload_n hx hb dX0_withoutDoc_45 rfl (lv_at hl 2 rfl) ?_
      refine lv_aload_n hx hb dX0_withoutDoc_46 rfl (lv_at hl 0 rfl) ?_
      refine va_alen hx hb hK hP 0 0 rfl rfl rfl dX0_withoutDoc_47 ?_
      refine lv_topi (fun y_16 ey_16 => ?_)
      have ty_16 : y_16.toInt = (n_13 : Int) := i_len ey_16 (by omega)
      refine lv_iload_n hx hb dX0_withoutDoc_48 rfl (lv_at hl 2 rfl) ?_
      refine lv_isub hx hb dX0_withoutDoc_49 ?_
      refine lv_topi (fun y_17 ey_17 => ?_)
      first | have ty_17 := i_sub (a := y_16.toInt) (b := i1.toInt) rfl rfl ey_17 (by omega) (by omega) | skip
      refine q_copyq (C := "PatternGate$Doc") hx hb (hml.trans hl.1.symm) hown (hts (.methodLink RX0 51 arraycopyName) (List.mem_of_getElem? (i := 3) (by decide +kernel))) (hts (.native arraycopyName) (List.mem_of_getElem? (i := 4) (by decide +kernel))) (hts (.static arraycopyName) (List.mem_of_getElem? (i := 5) (by decide +kernel))) (hts (.initialized "java/lang/System") (List.mem_of_getElem? (i := 6) (by decide +kernel))) hQ hKQ hQA hK hP hD hS k_2 0 j_3 0 hk_2 rfl hj_3 rfl (i_nn (a := y_15.toInt) rfl (by omega)) (i_nn (a := i1.toInt) rfl (by omega)) (i_nn (a := y_17.toInt) rfl (by omega)) (cp_le (a := y_15.toInt) (b := y_17.toInt) rfl rfl (by omega) (by omega) (by omega)) (cp_le (a := i1.toInt) (b := y_17.toInt) rfl rfl (by omega) (by omega) (by omega)) (el_D hQ hK hds (cp_le (a := y_15.toInt) (b := y_17.toInt) rfl rfl (by omega) (by omega) (by omega))) (fun c1 c2 h1 h2 => vb_asgS c1 c2 h1 h2) (Nat.le_of_ble_eq_true rfl) (by decide +kernel) dX0_withoutDoc_50 (fun H locs hP hD hS => ?_)
      generalize hf_f_18 : va_cpy _ _ _ _ _ = f_18 at hP hD
      have hP : va_P (dC, dI) vwCl [(q_11, .inl (c_12, n_13, .inr (.inr (.inr (.inr f_18)))))] H := hP
      have hD : va_D A [(q_11, .inl (c_12, n_13, .inr (.inr (.inr (.inr f_18)))))] := hD
      have hQ := q_at hQ0 hQA hS
      refine va_new (ci := 0) (fs := [.null, .null, .null]) (C := RX0) (T := TX0) (N := 3) hx hb hts fin_X0_withoutDoc_X0 tyX0 tyX0_ok hown (hts (.classLink RX0 8 RX0) (List.mem_of_getElem? (i := 7) (by decide +kernel))) (hts (.instantiable RX0 3) (List.mem_of_getElem? (i := 8) (by decide +kernel))) (hts (.initialized RX0) (List.mem_of_getElem? (i := 9) (by decide +kernel))) hK hP hD hS hA rfl (fun j hj => by rcases (show j = 0 ∨ j = 1 ∨ j = 2 by omega) with rfl | rfl | rfl <;> rfl) (Nat.le_of_ble_eq_true rfl) (Nat.le_of_ble_eq_true rfl) dX0_withoutDoc_53 (fun q_19 H hP hD hS => ?_)
      have hP : va_P (dC, dI) vwCl [(q_11, .inl (c_12, n_13, .inr (.inr (.inr (.inr f_18))))), (q_19, .inr (0, [.null, .null, .null]))] H := hP
      have hD : va_D A [(q_11, .inl (c_12, n_13, .inr (.inr (.inr (.inr f_18))))), (q_19, .inr (0, [.null, .null, .null]))] := hD
      have hQ := q_at hQ0 hQA hS
      refine W.widen (k := 2) (n := 13) (by omega) (by omega) ?_
      refine lv_dup hx hb dX0_withoutDoc_56 rfl ?_
      refine lv_aload_n hx hb dX0_withoutDoc_57 rfl (lv_at hl 0 rfl) ?_
      refine lv_aload_n hx hb dX0_withoutDoc_58 rfl (lv_at hl 1 rfl) ?_
      refine va_get (D := (dC, dI)) (ci := 0) (v := .ref ps) (C := RX0) (T := TX0) (N := 3) hx hb hts fin_X0_withoutDoc_X0 hown hKQ hQ k_1 hk_1 rfl 1 (by decide) (hts (.fieldLink RX0 13 "PatternGate$Book" "patterns" "[LPatternGate$Pattern;") (List.mem_of_getElem? (i := 10) (by decide +kernel))) (fun _ h9 => h9) rfl dX0_withoutDoc_59 ?_
      refine lv_aload_n hx hb dX0_withoutDoc_62 rfl (lv_at hl 1 rfl) ?_
      have hPc := hP.sub (ws' := [(q_19, .inr (0, [.null, .null, .null]))]) [1] rfl
      have hKc := hK.sub (tys' := []) [] rfl
      have hDc := hD.sub (ws' := [(q_19, .inr (0, [.null, .null, .null]))]) [1] (by decide) rfl
      have hFc := va_free (wc := [(q_19, .inr (0, [.null, .null, .null]))]) hD hS hA [1] rfl
      refine va_callv (va_runI (As := [.ref q_11, .ref ps, .ref b]) (rest := [.ref q_19]) ⟨hx, hb, hml, hown, hts⟩ (s_Book_init l dC dI q_19 q_11 ps b H.size) (cwI 3 hts mg_X0_withoutDoc_X0_init_48 rfl rfl rfl (hts (.initialized RX0) (List.mem_of_getElem? (i := 9) (by decide +kernel))) (hts (.methodLink RX0 48 yX0_init) (List.mem_of_getElem? (i := 11) (by decide +kernel))) (hts (.instanceMethod yX0_init) (List.mem_of_getElem? (i := 12) (by decide +kernel))) rfl (by decide +kernel) ⟨Nat.le_of_ble_eq_true rfl, Nat.le_of_ble_eq_true rfl⟩) ⟨fun a U g mk q => by obtain ⟨q0, q1, qP, qK, qD⟩ := q; exact ⟨q0, q1, qP, va_K.moved (u := U) (U := U.calling g mk a) (Vm.Alike.refl U.vm) qK, qD⟩, fun U hU hW => ⟨rfl, by rw [hU], by rw [hU]; exact hPc, va_K.moved hW.alike hKc, hDc.weaken (fun _ _ _ _ => trivial)⟩⟩ rfl rfl hl.1 rfl (lv_room (Nat.le_of_ble_eq_true rfl)) dX0_withoutDoc_63 ⟨Nat.le_of_ble_eq_true rfl, Nat.le_of_ble_eq_true rfl⟩) hS (fun q _ h => hFc q h) hFc (fun u t H1 locs ht hvm hw hB hz1 hk1 hS => ?_)
      obtain ⟨hP1, hK1, hD1⟩ := hB
      rw [ht] at hP1
      obtain ⟨hP, hD⟩ := va_join (wr := [(q_11, .inl (c_12, n_13, .inr (.inr (.inr (.inr f_18)))))]) (w1 := [(q_19, .inr (0, [.ref q_11, .ref ps, .ref b]))]) hP hD [1] [0] rfl rfl (by decide) (by decide) hk1 hFc hP1 hD1
      generalize H1 = H at hP hS ⊢
      have hP : va_P (dC, dI) vwCl [(q_11, .inl (c_12, n_13, .inr (.inr (.inr (.inr f_18))))), (q_19, .inr (0, [.ref q_11, .ref ps, .ref b]))] H := hP
      have hD : va_D A [(q_11, .inl (c_12, n_13, .inr (.inr (.inr (.inr f_18))))), (q_19, .inr (0, [.ref q_11, .ref ps, .ref b]))] := hD
      have hQ := q_at hQ0 hQA hS
      have hP9 := hP.sub (ws' := [(q_11, .inl (c_12, n_13, .inr (.inr (.inr (.inr f_18))))), (q_19, .inr (0, [.ref q_11, .ref ps, .ref b]))]) [0, 1] rfl
      have hD9 := hD.sub (ws' := [(q_11, .inl (c_12, n_13, .inr (.inr (.inr (.inr f_18))))), (q_19, .inr (0, [.ref q_11, .ref ps, .ref b]))]) [0, 1] (by decide) rfl
      have hK9 := hK.sub (tys' := [(c_12, .object "PatternGate$Doc")]) [0] rfl
      have hf9 := fx_less (i := i1) (n2 := n_13) (show ∀ i, i < nd → ∃ x, fd i = some x ∧ ((fun _ => False) x ∨ poD W9 T9 x) from fun i hi => by obtain ⟨x, e1, e2⟩ := hds i hi; exact ⟨x, e1, Or.inr e2⟩) hf_f_14 hf_f_18 (by decide) (by decide) rfl (by omega) rfl (by omega) (by omega) (by omega)
      refine W.widen (k := 2) (n := 13) (by omega) (by omega) ?_
      exact W.aret hx hb hr (Or.inl ⟨_, rfl⟩) (Or.inr ⟨_, rfl⟩) (fun t ht hW => ⟨⟨(), _, rfl, trivial, Or.inr ⟨q_11, n_13, ps, f_18, c_12, bX_mk m4 m5 hnp hps (by omega) hf9, by omega, by rw [ht]; exact hP9, va_K.moved hW.alike hK9, hD9⟩⟩, hS.F ht⟩) hS.2.2 dX0_withoutDoc_66
    · have tk_8 := c_nlt (a := i1.toInt) (b := y_7.toInt) rfl rfl k_8
      refine lv_aload_n hx hb dX0_withoutDoc_13 rfl (lv_at hl 0 rfl) ?_
      refine W.widen (k := 2) (n := 13) (by omega) (by omega) ?_
      have hK9 := hK.sub (tys' := []) [] rfl
      exact W.aret hx hb hr (Or.inl ⟨_, rfl⟩) (Or.inr ⟨_, rfl⟩) (fun t ht hW => ⟨⟨(), _, rfl, trivial, Or.inl ⟨rfl, va_K.moved hW.alike hK9⟩⟩, hS.F ht⟩) hS.2.2 dX0_withoutDoc_14
theorem dX0_withoutPattern_0 : decode cX0_withoutPattern 0 = .ok (.iload_n 1, 1) := by decide +kernel
theorem dX0_withoutPattern_1 : decode cX0_withoutPattern 1 = .ok (.ifCond .lt 12, 3) := by decide +kernel
theorem dX0_withoutPattern_4 : decode cX0_withoutPattern 4 = .ok (.iload_n 1, 1) := by decide +kernel
theorem dX0_withoutPattern_5 : decode cX0_withoutPattern 5 = .ok (.aload_n 0, 1) := by decide +kernel
theorem dX0_withoutPattern_6 : decode cX0_withoutPattern 6 = .ok (.getfield 13, 3) := by decide +kernel
theorem dX0_withoutPattern_9 : decode cX0_withoutPattern 9 = .ok (.arraylength, 1) := by decide +kernel
theorem dX0_withoutPattern_10 : decode cX0_withoutPattern 10 = .ok (.if_icmp .lt 5, 3) := by decide +kernel
theorem dX0_withoutPattern_13 : decode cX0_withoutPattern 13 = .ok (.aload_n 0, 1) := by decide +kernel
theorem dX0_withoutPattern_14 : decode cX0_withoutPattern 14 = .ok (.areturn, 1) := by decide +kernel
theorem dX0_withoutPattern_15 : decode cX0_withoutPattern 15 = .ok (.aload_n 0, 1) := by decide +kernel
theorem dX0_withoutPattern_16 : decode cX0_withoutPattern 16 = .ok (.getfield 13, 3) := by decide +kernel
theorem dX0_withoutPattern_19 : decode cX0_withoutPattern 19 = .ok (.arraylength, 1) := by decide +kernel
theorem dX0_withoutPattern_20 : decode cX0_withoutPattern 20 = .ok (.iconst 1, 1) := by decide +kernel
theorem dX0_withoutPattern_21 : decode cX0_withoutPattern 21 = .ok (.isub, 1) := by decide +kernel
theorem dX0_withoutPattern_22 : decode cX0_withoutPattern 22 = .ok (.anewarray 57, 3) := by decide +kernel
theorem dX0_withoutPattern_25 : decode cX0_withoutPattern 25 = .ok (.astore_n 2, 1) := by decide +kernel
theorem dX0_withoutPattern_26 : decode cX0_withoutPattern 26 = .ok (.aload_n 0, 1) := by decide +kernel
theorem dX0_withoutPattern_27 : decode cX0_withoutPattern 27 = .ok (.getfield 13, 3) := by decide +kernel
theorem dX0_withoutPattern_30 : decode cX0_withoutPattern 30 = .ok (.iconst 0, 1) := by decide +kernel
theorem dX0_withoutPattern_31 : decode cX0_withoutPattern 31 = .ok (.aload_n 2, 1) := by decide +kernel
theorem dX0_withoutPattern_32 : decode cX0_withoutPattern 32 = .ok (.iconst 0, 1) := by decide +kernel
theorem dX0_withoutPattern_33 : decode cX0_withoutPattern 33 = .ok (.iload_n 1, 1) := by decide +kernel
theorem dX0_withoutPattern_34 : decode cX0_withoutPattern 34 = .ok (.invokestatic 51, 3) := by decide +kernel
theorem dX0_withoutPattern_37 : decode cX0_withoutPattern 37 = .ok (.aload_n 0, 1) := by decide +kernel
theorem dX0_withoutPattern_38 : decode cX0_withoutPattern 38 = .ok (.getfield 13, 3) := by decide +kernel
theorem dX0_withoutPattern_41 : decode cX0_withoutPattern 41 = .ok (.iload_n 1, 1) := by decide +kernel
theorem dX0_withoutPattern_42 : decode cX0_withoutPattern 42 = .ok (.iconst 1, 1) := by decide +kernel
theorem dX0_withoutPattern_43 : decode cX0_withoutPattern 43 = .ok (.iadd, 1) := by decide +kernel
theorem dX0_withoutPattern_44 : decode cX0_withoutPattern 44 = .ok (.aload_n 2, 1) := by decide +kernel
theorem dX0_withoutPattern_45 : decode cX0_withoutPattern 45 = .ok (.iload_n 1, 1) := by decide +kernel
theorem dX0_withoutPattern_46 : decode cX0_withoutPattern 46 = .ok (.aload_n 2, 1) := by decide +kernel
theorem dX0_withoutPattern_47 : decode cX0_withoutPattern 47 = .ok (.arraylength, 1) := by decide +kernel
theorem dX0_withoutPattern_48 : decode cX0_withoutPattern 48 = .ok (.iload_n 1, 1) := by decide +kernel
theorem dX0_withoutPattern_49 : decode cX0_withoutPattern 49 = .ok (.isub, 1) := by decide +kernel
theorem dX0_withoutPattern_50 : decode cX0_withoutPattern 50 = .ok (.invokestatic 51, 3) := by decide +kernel
theorem dX0_withoutPattern_53 : decode cX0_withoutPattern 53 = .ok (.new 8, 3) := by decide +kernel
theorem dX0_withoutPattern_56 : decode cX0_withoutPattern 56 = .ok (.dup, 1) := by decide +kernel
theorem dX0_withoutPattern_57 : decode cX0_withoutPattern 57 = .ok (.aload_n 0, 1) := by decide +kernel
theorem dX0_withoutPattern_58 : decode cX0_withoutPattern 58 = .ok (.getfield 7, 3) := by decide +kernel
theorem dX0_withoutPattern_61 : decode cX0_withoutPattern 61 = .ok (.aload_n 2, 1) := by decide +kernel
theorem dX0_withoutPattern_62 : decode cX0_withoutPattern 62 = .ok (.aload_n 0, 1) := by decide +kernel
theorem dX0_withoutPattern_63 : decode cX0_withoutPattern 63 = .ok (.invokespecial 48, 3) := by decide +kernel
theorem dX0_withoutPattern_66 : decode cX0_withoutPattern 66 = .ok (.areturn, 1) := by decide +kernel
def mwX0_withoutPattern : List Cond := .code yX0_withoutPattern cX0_withoutPattern 3 (some (.object "PatternGate$Book")) :: (([.fieldLink RX0 13 "PatternGate$Book" "patterns" "[LPatternGate$Pattern;", .classLink RX0 57 RX5, .methodLink RX0 51 arraycopyName, .native arraycopyName, .static arraycopyName, .initialized "java/lang/System", .classLink RX0 8 RX0, .instantiable RX0 3, .initialized RX0, .fieldLink RX0 7 "PatternGate$Book" "docs" "[LPatternGate$Doc;", .methodLink RX0 48 yX0_init, .instanceMethod yX0_init] : List Cond) ++ (wsX00 ++ (mwX0_init)))
theorem fin_X0_withoutPattern_X0 : ∀ w ∈ wsX00, w ∈ mwX0_withoutPattern := fun w h => List.mem_cons_of_mem _ (List.mem_append_right _ (List.mem_append_left _ h))
set_option maxRecDepth 20000 in
theorem mg_X0_withoutPattern_X0_init_48 : GoodIn mwX0_withoutPattern mwX0_init := gi_sub gd_mwX0_init (fun w h => List.mem_cons_of_mem _ (List.mem_append_right _ (List.mem_append_right _ (h))))
set_option maxHeartbeats 4000000 in
set_option maxRecDepth 100000 in
/-- Book.withoutPattern -/
theorem s_withoutPattern (l : Launch) (dC : Nat → ClassId) (dI : Nat → Nat → Nat) (W9 : va_W) (T9 : List (ClassId × FieldType)) (b : Nat) (ear : Option Nat) (sz : Nat) (i1 : Int32) (hB3 : poB3 W9 T9 b ear) : Met l yX0_withoutPattern mwX0_withoutPattern ({ frames := 2, cells := 2, slots := 13, locals := 120 }) (va_Pc [.ref b, .int i1] (fun U => U.heap.size = sz ∧ va_P (dC, dI) vwCl ([]) U.heap ∧ va_K (dC, dI) vwCl ([]) U ∧ va_D (fun _ => True) ([]) ∧ va_AO "PatternGate$Pattern" U ∧ va_P (dC, dI) vwCl W9 U.heap ∧ va_K (dC, dI) vwCl T9 U ∧ (∀ q ∈ W9, ¬ va_A ([]) sz q.1))) (va_Qr (fun (_ : Unit) => True) (fun _ a t => (a = b ∧ va_K (dC, dI) vwCl [] t) ∨ (∃ (qn n9 ds9 : Nat) (f9 : Nat → Option Nat) (cN : ClassId), bY W9 T9 b a qn n9 ds9 f9 cN ∧ n9 ≤ 8 ∧ va_P (dC, dI) vwCl [(qn, .inl (cN, n9, .inr (.inr (.inr (.inr f9))))), (a, .inr (0, [.ref ds9, .ref qn, .ref b]))] t.heap ∧ va_K (dC, dI) vwCl [(cN, .object "PatternGate$Pattern")] t ∧ va_D (va_A ([]) sz) [(qn, .inl (cN, n9, .inr (.inr (.inr (.inr f9))))), (a, .inr (0, [.ref ds9, .ref qn, .ref b]))])) (va_A ([]) sz)) 2 13 (va_A ([]) sz) := by
  refine Met.ofW (cc := cX0_withoutPattern) (maxL := 3) (ret := (some (.object "PatternGate$Book"))) (by decide +kernel) rfl ?_
  intro p e s m args below meth c s₁ B hml hv
  obtain ⟨rfl, hsz, hP, hK, hD0, hAO5, hQ0, hKQ, hQA⟩ := hv
  have hx := B.exec
  have hb := B.bytes
  have hr := B.returns
  have hts := atoms_spec (ws := mwX0_withoutPattern) B.pre
  have hown : s.vm.findClass RX0 = some m.cls := findClass_of_methodNamed B.named
  have hlocks := B.notSynchronized
  subst hsz
  have hD := hD0.self (sz := s.heap.size)
  generalize hAe : va_A ([]) s.heap.size = A at hD hQA ⊢
  have hA : ∀ q : Nat, s.heap.size ≤ q → A q := fun q h => by rw [← hAe]; exact Or.inr h
  have hP : va_P (dC, dI) vwCl [] s.heap := hP
  have hD : va_D A [] := hD
  have hK : va_K (dC, dI) vwCl [] s := hK
  generalize hH : s.heap = H at hP ⊢
  have hS : va_S A s.heap H [] := by rw [← hH]; exact va_S.rf
  have hQ := q_at hQ0 hQA hS
  have hl := lv_entry ([.ref b, .int i1]) (n := 3) (Nat.le_of_ble_eq_true rfl)
  rw [lg_entry_eq]
  generalize (lg_sl ([.ref b, .int i1]) ++ List.replicate (3 - (lg_sl ([.ref b, .int i1])).length) Slot.unset).toArray = ls at hl ⊢
  have hl : lv_has ls 3 [(0, .ref b), (1, .int i1)] := hl
  have rg_i1 := i_rng i1
  obtain ⟨ds, ps, nd, np, fd, fp, cD, cP, m1, m2, m3, m4, m5, hnd, hnp, hds, hps⟩ := id hB3
  obtain ⟨k_1, hk_1⟩ := List.getElem?_of_mem m1
  obtain ⟨k_2, hk_2⟩ := List.getElem?_of_mem m2
  obtain ⟨j_3, hj_3⟩ := List.getElem?_of_mem m3
  obtain ⟨k_4, hk_4⟩ := List.getElem?_of_mem m4
  obtain ⟨j_5, hj_5⟩ := List.getElem?_of_mem m5
  refine lv_iload_n hx hb dX0_withoutPattern_0 rfl (lv_at hl 1 rfl) ?_
  refine lv_if_lt (tgt := 13) hx hb dX0_withoutPattern_1 (by decide) (fun k_6 => ?_) (fun k_6 => ?_)
  · have tk_6 := c_lt (a := i1.toInt) (b := 0) rfl (by decide) k_6
    refine lv_aload_n hx hb dX0_withoutPattern_13 rfl (lv_at hl 0 rfl) ?_
    refine W.widen (k := 2) (n := 13) (by omega) (by omega) ?_
    have hK9 := hK.sub (tys' := []) [] rfl
    exact W.aret hx hb hr (Or.inl ⟨_, rfl⟩) (Or.inr ⟨_, rfl⟩) (fun t ht hW => ⟨⟨(), _, rfl, trivial, Or.inl ⟨rfl, va_K.moved hW.alike hK9⟩⟩, hS.F ht⟩) hS.2.2 dX0_withoutPattern_14
  · have tk_6 := c_nlt (a := i1.toInt) (b := 0) rfl (by decide) k_6
    refine lv_iload_n hx hb dX0_withoutPattern_4 rfl (lv_at hl 1 rfl) ?_
    refine lv_aload_n hx hb dX0_withoutPattern_5 rfl (lv_at hl 0 rfl) ?_
    refine va_get (D := (dC, dI)) (ci := 0) (v := .ref ps) (C := RX0) (T := TX0) (N := 3) hx hb hts fin_X0_withoutPattern_X0 hown hKQ hQ k_1 hk_1 rfl 1 (by decide) (hts (.fieldLink RX0 13 "PatternGate$Book" "patterns" "[LPatternGate$Pattern;") (List.mem_of_getElem? (i := 1) (by decide +kernel))) (fun _ h9 => h9) rfl dX0_withoutPattern_6 ?_
    refine va_alen hx hb hKQ hQ k_4 j_5 hk_4 hj_5 rfl dX0_withoutPattern_9 ?_
    refine lv_topi (fun y_7 ey_7 => ?_)
    have ty_7 : y_7.toInt = (np : Int) := i_len ey_7 (by omega)
    refine lv_icmp_lt (tgt := 15) hx hb dX0_withoutPattern_10 (by decide) (fun k_8 => ?_) (fun k_8 => ?_)
    · have tk_8 := c_lt (a := i1.toInt) (b := y_7.toInt) rfl rfl k_8
      refine lv_aload_n hx hb dX0_withoutPattern_15 rfl (lv_at hl 0 rfl) ?_
      refine va_get (D := (dC, dI)) (ci := 0) (v := .ref ps) (C := RX0) (T := TX0) (N := 3) hx hb hts fin_X0_withoutPattern_X0 hown hKQ hQ k_1 hk_1 rfl 1 (by decide) (hts (.fieldLink RX0 13 "PatternGate$Book" "patterns" "[LPatternGate$Pattern;") (List.mem_of_getElem? (i := 1) (by decide +kernel))) (fun _ h9 => h9) rfl dX0_withoutPattern_16 ?_
      refine va_alen hx hb hKQ hQ k_4 j_5 hk_4 hj_5 rfl dX0_withoutPattern_19 ?_
      refine lv_topi (fun y_9 ey_9 => ?_)
      have ty_9 : y_9.toInt = (np : Int) := i_len ey_9 (by omega)
      refine lv_iconst (v := 1) hx hb dX0_withoutPattern_20 (by decide) ?_
      refine lv_isub hx hb dX0_withoutPattern_21 ?_
      refine lv_topi (fun y_10 ey_10 => ?_)
      first | have ty_10 := i_sub (a := y_9.toInt) (b := 1) rfl (by decide) ey_10 (by omega) (by omega) | skip
      obtain ⟨n_13, hn_13, en_13⟩ := nI_of (i_nn (x := y_10) rfl (by omega))
      have tn_13 : y_10.toInt = (n_13 : Int) := by rw [en_13]; exact nI_toInt hn_13
      have un_13 : n_13 ≤ 10 := by omega
      refine va_newq (C := "PatternGate$Pattern") (n := y_10) (N' := n_13) hx hb hown (hts (.classLink RX0 57 RX5) (List.mem_of_getElem? (i := 2) (by decide +kernel))) hAO5 hK hP hD hS hA (i_nn rfl (by omega)) (by rw [en_13]; exact nI_clamp hn_13) (by omega) (Nat.le_of_ble_eq_true rfl) (Nat.le_trans (Nat.add_le_add_left un_13 _) (Nat.le_of_ble_eq_true rfl)) dX0_withoutPattern_22 (fun q_11 c_12 H hK hP hD hS => ?_)
      have hP : va_P (dC, dI) vwCl [(q_11, .inl (c_12, n_13, .inr (.inr (.inr (.inr (fun _ => none))))))] H := hP
      have hD : va_D A [(q_11, .inl (c_12, n_13, .inr (.inr (.inr (.inr (fun _ => none))))))] := hD
      have hQ := q_at hQ0 hQA hS
      have hK : va_K (dC, dI) vwCl [(c_12, .object "PatternGate$Pattern")] s := hK
      refine W.widen (k := 1) (n := 10) (by omega) (by omega) ?_
      refine lv_astore_n (lv' := [(2, .ref q_11), (0, .ref b), (1, .int i1)]) hx hb dX0_withoutPattern_25 rfl hl (by decide) rfl (fun ls hl => ?_)
      refine lv_aload_n hx hb dX0_withoutPattern_26 rfl (lv_at hl 1 rfl) ?_
      refine va_get (D := (dC, dI)) (ci := 0) (v := .ref ps) (C := RX0) (T := TX0) (N := 3) hx hb hts fin_X0_withoutPattern_X0 hown hKQ hQ k_1 hk_1 rfl 1 (by decide) (hts (.fieldLink RX0 13 "PatternGate$Book" "patterns" "[LPatternGate$Pattern;") (List.mem_of_getElem? (i := 1) (by decide +kernel))) (fun _ h9 => h9) rfl dX0_withoutPattern_27 ?_
      refine lv_iconst (v := 0) hx hb dX0_withoutPattern_30 (by decide) ?_
      refine lv_aload_n hx hb dX0_withoutPattern_31 rfl (lv_at hl 0 rfl) ?_
      refine lv_iconst (v := 0) hx hb dX0_withoutPattern_32 (by decide) ?_
      refine lv_iload_n hx hb dX0_withoutPattern_33 rfl (lv_at hl 2 rfl) ?_
      refine q_copyq (C := "PatternGate$Pattern") hx hb (hml.trans hl.1.symm) hown (hts (.methodLink RX0 51 arraycopyName) (List.mem_of_getElem? (i := 3) (by decide +kernel))) (hts (.native arraycopyName) (List.mem_of_getElem? (i := 4) (by decide +kernel))) (hts (.static arraycopyName) (List.mem_of_getElem? (i := 5) (by decide +kernel))) (hts (.initialized "java/lang/System") (List.mem_of_getElem? (i := 6) (by decide +kernel))) hQ hKQ hQA hK hP hD hS k_4 0 j_5 0 hk_4 rfl hj_5 rfl (i_nn (a := 0) (by decide) (by omega)) (i_nn (a := 0) (by decide) (by omega)) (i_nn (a := i1.toInt) rfl (by omega)) (cp_le (a := 0) (b := i1.toInt) (by decide) rfl (by omega) (by omega) (by omega)) (cp_le (a := 0) (b := i1.toInt) (by decide) rfl (by omega) (by omega) (by omega)) (el_P hQ hK hps (cp_le (a := 0) (b := i1.toInt) (by decide) rfl (by omega) (by omega) (by omega))) (fun c1 c2 h1 h2 => vb_asgS c1 c2 h1 h2) (Nat.le_of_ble_eq_true rfl) (by decide +kernel) dX0_withoutPattern_34 (fun H locs hP hD hS => ?_)
      generalize hf_f_14 : va_cpy _ _ _ _ _ = f_14 at hP hD
      have hP : va_P (dC, dI) vwCl [(q_11, .inl (c_12, n_13, .inr (.inr (.inr (.inr f_14)))))] H := hP
      have hD : va_D A [(q_11, .inl (c_12, n_13, .inr (.inr (.inr (.inr f_14)))))] := hD
      have hQ := q_at hQ0 hQA hS
      refine lv_aload_n hx hb dX0_withoutPattern_37 rfl (lv_at hl 1 rfl) ?_
      refine va_get (D := (dC, dI)) (ci := 0) (v := .ref ps) (C := RX0) (T := TX0) (N := 3) hx hb hts fin_X0_withoutPattern_X0 hown hKQ hQ k_1 hk_1 rfl 1 (by decide) (hts (.fieldLink RX0 13 "PatternGate$Book" "patterns" "[LPatternGate$Pattern;") (List.mem_of_getElem? (i := 1) (by decide +kernel))) (fun _ h9 => h9) rfl dX0_withoutPattern_38 ?_
      refine lv_iload_n hx hb dX0_withoutPattern_41 rfl (lv_at hl 2 rfl) ?_
      refine lv_iconst (v := 1) hx hb dX0_withoutPattern_42 (by decide) ?_
      refine lv_iadd hx hb dX0_withoutPattern_43 ?_
      refine lv_topi (fun y_15 ey_15 => ?_)
      first | have ty_15 := i_add (a := i1.toInt) (b := 1) rfl (by decide) ey_15 (by omega) (by omega) | skip
      refine lv_aload_n hx hb dX0_withoutPattern_44 rfl (lv_at hl 0 rfl) ?_
      refine lv_iload_n hx hb dX0_withoutPattern_45 rfl (lv_at hl 2 rfl) ?_
      refine lv_aload_n hx hb dX0_withoutPattern_46 rfl (lv_at hl 0 rfl) ?_
      refine va_alen hx hb hK hP 0 0 rfl rfl rfl dX0_withoutPattern_47 ?_
      refine lv_topi (fun y_16 ey_16 => ?_)
      have ty_16 : y_16.toInt = (n_13 : Int) := i_len ey_16 (by omega)
      refine lv_iload_n hx hb dX0_withoutPattern_48 rfl (lv_at hl 2 rfl) ?_
      refine lv_isub hx hb dX0_withoutPattern_49 ?_
      refine lv_topi (fun y_17 ey_17 => ?_)
      first | have ty_17 := i_sub (a := y_16.toInt) (b := i1.toInt) rfl rfl ey_17 (by omega) (by omega) | skip
      refine q_copyq (C := "PatternGate$Pattern") hx hb (hml.trans hl.1.symm) hown (hts (.methodLink RX0 51 arraycopyName) (List.mem_of_getElem? (i := 3) (by decide +kernel))) (hts (.native arraycopyName) (List.mem_of_getElem? (i := 4) (by decide +kernel))) (hts (.static arraycopyName) (List.mem_of_getElem? (i := 5) (by decide +kernel))) (hts (.initialized "java/lang/System") (List.mem_of_getElem? (i := 6) (by decide +kernel))) hQ hKQ hQA hK hP hD hS k_4 0 j_5 0 hk_4 rfl hj_5 rfl (i_nn (a := y_15.toInt) rfl (by omega)) (i_nn (a := i1.toInt) rfl (by omega)) (i_nn (a := y_17.toInt) rfl (by omega)) (cp_le (a := y_15.toInt) (b := y_17.toInt) rfl rfl (by omega) (by omega) (by omega)) (cp_le (a := i1.toInt) (b := y_17.toInt) rfl rfl (by omega) (by omega) (by omega)) (el_P hQ hK hps (cp_le (a := y_15.toInt) (b := y_17.toInt) rfl rfl (by omega) (by omega) (by omega))) (fun c1 c2 h1 h2 => vb_asgS c1 c2 h1 h2) (Nat.le_of_ble_eq_true rfl) (by decide +kernel) dX0_withoutPattern_50 (fun H locs hP hD hS => ?_)
      generalize hf_f_18 : va_cpy _ _ _ _ _ = f_18 at hP hD
      have hP : va_P (dC, dI) vwCl [(q_11, .inl (c_12, n_13, .inr (.inr (.inr (.inr f_18)))))] H := hP
      have hD : va_D A [(q_11, .inl (c_12, n_13, .inr (.inr (.inr (.inr f_18)))))] := hD
      have hQ := q_at hQ0 hQA hS
      refine va_new (ci := 0) (fs := [.null, .null, .null]) (C := RX0) (T := TX0) (N := 3) hx hb hts fin_X0_withoutPattern_X0 tyX0 tyX0_ok hown (hts (.classLink RX0 8 RX0) (List.mem_of_getElem? (i := 7) (by decide +kernel))) (hts (.instantiable RX0 3) (List.mem_of_getElem? (i := 8) (by decide +kernel))) (hts (.initialized RX0) (List.mem_of_getElem? (i := 9) (by decide +kernel))) hK hP hD hS hA rfl (fun j hj => by rcases (show j = 0 ∨ j = 1 ∨ j = 2 by omega) with rfl | rfl | rfl <;> rfl) (Nat.le_of_ble_eq_true rfl) (Nat.le_of_ble_eq_true rfl) dX0_withoutPattern_53 (fun q_19 H hP hD hS => ?_)
      have hP : va_P (dC, dI) vwCl [(q_11, .inl (c_12, n_13, .inr (.inr (.inr (.inr f_18))))), (q_19, .inr (0, [.null, .null, .null]))] H := hP
      have hD : va_D A [(q_11, .inl (c_12, n_13, .inr (.inr (.inr (.inr f_18))))), (q_19, .inr (0, [.null, .null, .null]))] := hD
      have hQ := q_at hQ0 hQA hS
      refine W.widen (k := 2) (n := 13) (by omega) (by omega) ?_
      refine lv_dup hx hb dX0_withoutPattern_56 rfl ?_
      refine lv_aload_n hx hb dX0_withoutPattern_57 rfl (lv_at hl 1 rfl) ?_
      refine va_get (D := (dC, dI)) (ci := 0) (v := .ref ds) (C := RX0) (T := TX0) (N := 3) hx hb hts fin_X0_withoutPattern_X0 hown hKQ hQ k_1 hk_1 rfl 0 (by decide) (hts (.fieldLink RX0 7 "PatternGate$Book" "docs" "[LPatternGate$Doc;") (List.mem_of_getElem? (i := 10) (by decide +kernel))) (fun _ h9 => h9) rfl dX0_withoutPattern_58 ?_
      refine lv_aload_n hx hb dX0_withoutPattern_61 rfl (lv_at hl 0 rfl) ?_
      refine lv_aload_n hx hb dX0_withoutPattern_62 rfl (lv_at hl 1 rfl) ?_
      have hPc := hP.sub (ws' := [(q_19, .inr (0, [.null, .null, .null]))]) [1] rfl
      have hKc := hK.sub (tys' := []) [] rfl
      have hDc := hD.sub (ws' := [(q_19, .inr (0, [.null, .null, .null]))]) [1] (by decide) rfl
      have hFc := va_free (wc := [(q_19, .inr (0, [.null, .null, .null]))]) hD hS hA [1] rfl
      refine va_callv (va_runI (As := [.ref ds, .ref q_11, .ref b]) (rest := [.ref q_19]) ⟨hx, hb, hml, hown, hts⟩ (s_Book_init l dC dI q_19 ds q_11 b H.size) (cwI 3 hts mg_X0_withoutPattern_X0_init_48 rfl rfl rfl (hts (.initialized RX0) (List.mem_of_getElem? (i := 9) (by decide +kernel))) (hts (.methodLink RX0 48 yX0_init) (List.mem_of_getElem? (i := 11) (by decide +kernel))) (hts (.instanceMethod yX0_init) (List.mem_of_getElem? (i := 12) (by decide +kernel))) rfl (by decide +kernel) ⟨Nat.le_of_ble_eq_true rfl, Nat.le_of_ble_eq_true rfl⟩) ⟨fun a U g mk q => by obtain ⟨q0, q1, qP, qK, qD⟩ := q; exact ⟨q0, q1, qP, va_K.moved (u := U) (U := U.calling g mk a) (Vm.Alike.refl U.vm) qK, qD⟩, fun U hU hW => ⟨rfl, by rw [hU], by rw [hU]; exact hPc, va_K.moved hW.alike hKc, hDc.weaken (fun _ _ _ _ => trivial)⟩⟩ rfl rfl hl.1 rfl (lv_room (Nat.le_of_ble_eq_true rfl)) dX0_withoutPattern_63 ⟨Nat.le_of_ble_eq_true rfl, Nat.le_of_ble_eq_true rfl⟩) hS (fun q _ h => hFc q h) hFc (fun u t H1 locs ht hvm hw hB hz1 hk1 hS => ?_)
      obtain ⟨hP1, hK1, hD1⟩ := hB
      rw [ht] at hP1
      obtain ⟨hP, hD⟩ := va_join (wr := [(q_11, .inl (c_12, n_13, .inr (.inr (.inr (.inr f_18)))))]) (w1 := [(q_19, .inr (0, [.ref ds, .ref q_11, .ref b]))]) hP hD [1] [0] rfl rfl (by decide) (by decide) hk1 hFc hP1 hD1
      generalize H1 = H at hP hS ⊢
      have hP : va_P (dC, dI) vwCl [(q_11, .inl (c_12, n_13, .inr (.inr (.inr (.inr f_18))))), (q_19, .inr (0, [.ref ds, .ref q_11, .ref b]))] H := hP
      have hD : va_D A [(q_11, .inl (c_12, n_13, .inr (.inr (.inr (.inr f_18))))), (q_19, .inr (0, [.ref ds, .ref q_11, .ref b]))] := hD
      have hQ := q_at hQ0 hQA hS
      have hP9 := hP.sub (ws' := [(q_11, .inl (c_12, n_13, .inr (.inr (.inr (.inr f_18))))), (q_19, .inr (0, [.ref ds, .ref q_11, .ref b]))]) [0, 1] rfl
      have hD9 := hD.sub (ws' := [(q_11, .inl (c_12, n_13, .inr (.inr (.inr (.inr f_18))))), (q_19, .inr (0, [.ref ds, .ref q_11, .ref b]))]) [0, 1] (by decide) rfl
      have hK9 := hK.sub (tys' := [(c_12, .object "PatternGate$Pattern")]) [0] rfl
      have hf9 := fx_less (i := i1) (n2 := n_13) hps hf_f_14 hf_f_18 (by decide) (by decide) rfl (by omega) rfl (by omega) (by omega) (by omega)
      refine W.widen (k := 2) (n := 13) (by omega) (by omega) ?_
      exact W.aret hx hb hr (Or.inl ⟨_, rfl⟩) (Or.inr ⟨_, rfl⟩) (fun t ht hW => ⟨⟨(), _, rfl, trivial, Or.inr ⟨q_11, n_13, ds, f_18, c_12, bY_mk m2 m3 hnd hds (by omega) hf9, by omega, by rw [ht]; exact hP9, va_K.moved hW.alike hK9, hD9⟩⟩, hS.F ht⟩) hS.2.2 dX0_withoutPattern_66
    · have tk_8 := c_nlt (a := i1.toInt) (b := y_7.toInt) rfl rfl k_8
      refine lv_aload_n hx hb dX0_withoutPattern_13 rfl (lv_at hl 0 rfl) ?_
      refine W.widen (k := 2) (n := 13) (by omega) (by omega) ?_
      have hK9 := hK.sub (tys' := []) [] rfl
      exact W.aret hx hb hr (Or.inl ⟨_, rfl⟩) (Or.inr ⟨_, rfl⟩) (fun t ht hW => ⟨⟨(), _, rfl, trivial, Or.inl ⟨rfl, va_K.moved hW.alike hK9⟩⟩, hS.F ht⟩) hS.2.2 dX0_withoutPattern_14

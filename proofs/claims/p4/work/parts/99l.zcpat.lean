def mwX6_endOfPatternq : List Cond := .code yX6_endOfPattern cX6_endOfPattern 9 (some .int) :: (([.methodLink RX6 71 yX6_fail, .instanceMethod yX6_fail, .selects RX6 yX6_fail yX6_fail, .initialized RX6, .initialized RX9, .static yX9_isSmall, .fieldLink RX6 22 "PatternGate$Reader" "faultKind" "I", .methodLink RX6 102 yX6_isSign, .static yX6_isSign, .methodLink RX6 99 yX6_endOfSet, .instanceMethod yX6_endOfSet, .selects RX6 yX6_endOfSet yX6_endOfSet, .methodLink RX6 61 Lib.Math.max.name, .static Lib.Math.max.name, .initialized "java/lang/Math", .code Lib.Math.max.name Lib.Math.max.code 2 (some .int)] : List Cond) ++ (wsX60 ++ (mwX6_fail ++ (mwX9_isSmallwq ++ (mwX6_isSignq ++ (mwX6_endOfSetq))))))
theorem fin_X6_endOfPatternq_X6 : ∀ w ∈ wsX60, w ∈ mwX6_endOfPatternq := fun w h => List.mem_cons_of_mem _ (List.mem_append_right _ (List.mem_append_left _ h))
set_option maxRecDepth 100000 in
theorem gd_mwX6_isSignq : mwX6_isSignq.all goodWord = true := by decide +kernel
set_option maxRecDepth 100000 in
theorem gd_mwX6_endOfSetq : mwX6_endOfSetq.all goodWord = true := by decide +kernel
set_option maxRecDepth 20000 in
theorem mg_X6_endOfPatternq_X6_fail_71 : GoodIn mwX6_endOfPatternq (wsV RX6 71 RX6 yX6_fail mwX6_fail) := gi_app (A := [.methodLink RX6 71 yX6_fail, .instanceMethod yX6_fail, .selects RX6 yX6_fail yX6_fail, .initialized RX6]) (goodIn_r _ [1, 2, 3, 4] (by decide +kernel) (by decide +kernel)) (gi_sub gd_mwX6_fail (fun w h => List.mem_cons_of_mem _ (List.mem_append_right _ (List.mem_append_right _ (List.mem_append_left _ h)))))
set_option maxRecDepth 20000 in
theorem mg_X6_endOfPatternq_X9_isSmall_53 : GoodIn mwX6_endOfPatternq mwX9_isSmallwq := gi_sub gd_mwX9_isSmallwq (fun w h => List.mem_cons_of_mem _ (List.mem_append_right _ (List.mem_append_right _ (List.mem_append_right _ (List.mem_append_left _ h)))))
set_option maxRecDepth 20000 in
theorem mg_X6_endOfPatternq_X6_isSign_102 : GoodIn mwX6_endOfPatternq (va_wsS RX6 102 yX6_isSign mwX6_isSignq) := gi_app (A := [.methodLink RX6 102 yX6_isSign, .static yX6_isSign, .initialized RX6]) (goodIn_r _ [8, 9, 4] (by decide +kernel) (by decide +kernel)) (gi_sub gd_mwX6_isSignq (fun w h => List.mem_cons_of_mem _ (List.mem_append_right _ (List.mem_append_right _ (List.mem_append_right _ (List.mem_append_right _ (List.mem_append_left _ h)))))))
set_option maxRecDepth 20000 in
theorem mg_X6_endOfPatternq_X6_endOfSet_99 : GoodIn mwX6_endOfPatternq (wsV RX6 99 RX6 yX6_endOfSet mwX6_endOfSetq) := gi_app (A := [.methodLink RX6 99 yX6_endOfSet, .instanceMethod yX6_endOfSet, .selects RX6 yX6_endOfSet yX6_endOfSet, .initialized RX6]) (goodIn_r _ [10, 11, 12, 4] (by decide +kernel) (by decide +kernel)) (gi_sub gd_mwX6_endOfSetq (fun w h => List.mem_cons_of_mem _ (List.mem_append_right _ (List.mem_append_right _ (List.mem_append_right _ (List.mem_append_right _ (List.mem_append_right _ (h))))))))
set_option maxHeartbeats 4000000 in
set_option maxRecDepth 100000 in
/-- Reader.endOfPattern: what it reads -/
theorem s_endOfPattern_q (l : Launch) (dC : Nat → ClassId) (dI : Nat → Nat → Nat) (rd : Nat) (r : Nat → Nat) (a0 a1 a2 a3 a4 a5 a6 a7 : Int32) (ta nb : Nat) (cT : ClassId) (ft : Nat → Int32) (sz : Nat) (i8 i9 : Int32) (hn : nb ≤ 1000) (h1 : 0 ≤ i8.toInt) (h2 : i9.toInt ≤ nb) (h3 : i8.toInt ≤ i9.toInt) (h0 : a0.toInt = 0) : Met l yX6_endOfPattern mwX6_endOfPatternq ({ frames := 2, cells := 0, slots := 0, locals := 120 }) (va_Pc [.ref rd, .ref ta, .int i8, .int i9] (fun U => U.heap.size = sz ∧ va_P (dC, dI) vwCl ([(rd, .inr (6, rF r a0 a1 a2 a3 a4 a5 a6 a7)), (ta, .inl (cT, nb, .inl ft))]) U.heap ∧ va_K (dC, dI) vwCl ([(cT, .int)]) U ∧ va_D (fun _ => True) ([(rd, .inr (6, rF r a0 a1 a2 a3 a4 a5 a6 a7)), (ta, .inl (cT, nb, .inl ft))]) ∧ va_Nw (.methodLinkNest RX6 53 yX9_isSmall "PatternGate") U)) (va_Qi (fun (o9 : Int32) (u : Int32) => o9 = u ∧ i8.toInt ≤ o9.toInt ∧ o9.toInt ≤ i9.toInt) (fun u t => ∃ y0 y1 : Int32, dP (tc ft i9.toInt) i8.toInt u.toInt y0.toInt ∧ va_P (dC, dI) vwCl [(rd, .inr (6, rF r y0 y1 a2 a3 a4 a5 a6 a7)), (ta, .inl (cT, nb, .inl ft))] t.heap ∧ va_K (dC, dI) vwCl [(cT, .int)] t ∧ va_D (va_A ([(rd, .inr (6, rF r a0 a1 a2 a3 a4 a5 a6 a7)), (ta, .inl (cT, nb, .inl ft))]) sz) [(rd, .inr (6, rF r y0 y1 a2 a3 a4 a5 a6 a7)), (ta, .inl (cT, nb, .inl ft))]) (va_A ([(rd, .inr (6, rF r a0 a1 a2 a3 a4 a5 a6 a7)), (ta, .inl (cT, nb, .inl ft))]) sz)) 0 0 (va_A ([(rd, .inr (6, rF r a0 a1 a2 a3 a4 a5 a6 a7)), (ta, .inl (cT, nb, .inl ft))]) sz) := by
  refine Met.ofW (cc := cX6_endOfPattern) (maxL := 9) (ret := (some .int)) (by decide +kernel) rfl ?_
  intro p e s m args below meth c s₁ B hml hv
  obtain ⟨rfl, hsz, hP, hK, hD0, hN53⟩ := hv
  have hx := B.exec
  have hb := B.bytes
  have hr := B.returns
  have hts := atoms_spec (ws := mwX6_endOfPatternq) B.pre
  have hown : s.vm.findClass RX6 = some m.cls := findClass_of_methodNamed B.named
  have hlocks := B.notSynchronized
  subst hsz
  have hD := hD0.self (sz := s.heap.size)
  generalize hAe : va_A ([(rd, .inr (6, rF r a0 a1 a2 a3 a4 a5 a6 a7)), (ta, .inl (cT, nb, .inl ft))]) s.heap.size = A at hD ⊢
  have hA : ∀ q : Nat, s.heap.size ≤ q → A q := fun q h => by rw [← hAe]; exact Or.inr h
  have hP : va_P (dC, dI) vwCl [(rd, .inr (6, rF r a0 a1 a2 a3 a4 a5 a6 a7)), (ta, .inl (cT, nb, .inl ft))] s.heap := hP
  have hD : va_D A [(rd, .inr (6, rF r a0 a1 a2 a3 a4 a5 a6 a7)), (ta, .inl (cT, nb, .inl ft))] := hD
  have hK : va_K (dC, dI) vwCl [(cT, .int)] s := hK
  generalize hH : s.heap = H at hP ⊢
  have hS : va_S A s.heap H [] := by rw [← hH]; exact va_S.rf
  have hl := lv_entry ([.ref rd, .ref ta, .int i8, .int i9]) (n := 9) (Nat.le_of_ble_eq_true rfl)
  rw [lg_entry_eq]
  generalize (lg_sl ([.ref rd, .ref ta, .int i8, .int i9]) ++ List.replicate (9 - (lg_sl ([.ref rd, .ref ta, .int i8, .int i9])).length) Slot.unset).toArray = ls at hl ⊢
  have hl : lv_has ls 9 [(0, .ref rd), (1, .ref ta), (2, .int i8), (3, .int i9)] := hl
  have rg_i8 := i_rng i8
  have rg_i9 := i_rng i9
  refine lv_iconst (v := 0) hx hb dX6_endOfPattern_0 (by decide) ?_
  refine lv_istore (lv' := [(4, .int 0), (0, .ref rd), (1, .ref ta), (2, .int i8), (3, .int i9)]) hx hb dX6_endOfPattern_1 hl (by decide) rfl (fun ls hl => ?_)
  refine lv_iconst (v := 0) hx hb dX6_endOfPattern_3 (by decide) ?_
  refine lv_istore (lv' := [(5, .int 0), (4, .int 0), (0, .ref rd), (1, .ref ta), (2, .int i8), (3, .int i9)]) hx hb dX6_endOfPattern_4 hl (by decide) rfl (fun ls hl => ?_)
  refine lv_iconst (v := 0) hx hb dX6_endOfPattern_6 (by decide) ?_
  refine lv_istore (lv' := [(6, .int 0), (5, .int 0), (4, .int 0), (0, .ref rd), (1, .ref ta), (2, .int i8), (3, .int i9)]) hx hb dX6_endOfPattern_7 hl (by decide) rfl (fun ls hl => ?_)
  refine lv_iload_n hx hb dX6_endOfPattern_9 rfl (lv_at hl 5 rfl) ?_
  refine lv_istore (lv' := [(7, .int i8), (6, .int 0), (5, .int 0), (4, .int 0), (0, .ref rd), (1, .ref ta), (2, .int i8), (3, .int i9)]) hx hb dX6_endOfPattern_10 hl (by decide) rfl (fun ls hl => ?_)
  have loop12 : ∀ (lm12 : Nat) (sp op sd ax fa fb : Int32), (i8.toInt ≤ ax.toInt ∧ ax.toInt ≤ 2000) → (∀ d p, Ld (tc ft i9.toInt) (zPt i8.toInt 0 0 0 d p) (zPt ax.toInt sp.toInt op.toInt sd.toInt d p)) → (fa.toInt = 0) → (0 ≤ sp.toInt ∧ sp.toInt ≤ 24 ∧ 0 ≤ op.toInt ∧ op.toInt ≤ 5 ∧ 0 ≤ sd.toInt ∧ sd.toInt ≤ 2) → (ax.toInt ≤ i9.toInt) → ((i9.toInt - ax.toInt).toNat) < lm12 → ∀ (H : Heap) (locs : List Loc) (ls : Array Slot), va_P (dC, dI) vwCl [(rd, .inr (6, rF r fa fb a2 a3 a4 a5 a6 a7)), (ta, .inl (cT, nb, .inl ft))] H → va_D A [(rd, .inr (6, rF r fa fb a2 a3 a4 a5 a6 a7)), (ta, .inl (cT, nb, .inl ft))] → va_S A s.heap H locs → lv_has ls 9 [(7, .int ax), (6, .int sd), (5, .int op), (4, .int sp), (0, .ref rd), (1, .ref ta), (2, .int i8), (3, .int i9)] → W p l e (headSpec mwX6_endOfPatternq ({ frames := 2, cells := 0, slots := 0, locals := 120 })).room s m ([.ref rd, .ref ta, .int i8, .int i9]).toArray below meth c H locs 0 0 (MQ below (va_Qi (fun (o9 : Int32) (u : Int32) => o9 = u ∧ i8.toInt ≤ o9.toInt ∧ o9.toInt ≤ i9.toInt) (fun u t => ∃ y0 y1 : Int32, dP (tc ft i9.toInt) i8.toInt u.toInt y0.toInt ∧ va_P (dC, dI) vwCl [(rd, .inr (6, rF r y0 y1 a2 a3 a4 a5 a6 a7)), (ta, .inl (cT, nb, .inl ft))] t.heap ∧ va_K (dC, dI) vwCl [(cT, .int)] t ∧ va_D A [(rd, .inr (6, rF r y0 y1 a2 a3 a4 a5 a6 a7)), (ta, .inl (cT, nb, .inl ft))]) A) ([.ref rd, .ref ta, .int i8, .int i9]).toArray s 0 0 A) (F0 m 12 ls []) := by
    intro lm12
    induction lm12 with
    | zero => intro sp op sd ax fa fb v12_0 v12_1 v12_2 v12_3 v12_4 hm12; exact absurd hm12 (Nat.not_lt_zero _)
    | succ lm12 ih12 =>
      intro sp op sd ax fa fb v12_0 v12_1 v12_2 v12_3 v12_4 hm12 H locs ls hP hD hS hl
      have rg_sp := i_rng sp
      have rg_op := i_rng op
      have rg_sd := i_rng sd
      have rg_ax := i_rng ax
      have rg_fa := i_rng fa
      have rg_fb := i_rng fb
      refine lv_iload hx hb dX6_endOfPattern_12 (lv_at hl 0 rfl) ?_
      refine lv_iload_n hx hb dX6_endOfPattern_14 rfl (lv_at hl 7 rfl) ?_
      refine lv_icmp_ge (tgt := 236) hx hb dX6_endOfPattern_15 (by decide) (fun k_1 => ?_) (fun k_1 => ?_)
      · have tk_1 := c_ge (a := ax.toInt) (b := i9.toInt) rfl rfl k_1
        refine lv_aload_n hx hb dX6_endOfPattern_236 rfl (lv_at hl 4 rfl) ?_
        refine lv_iconst (v := 1) hx hb dX6_endOfPattern_237 (by decide) ?_
        refine lv_iload_n hx hb dX6_endOfPattern_238 rfl (lv_at hl 7 rfl) ?_
        have hPc := hP.sub (ws' := [(rd, .inr (6, rF r fa fb a2 a3 a4 a5 a6 a7))]) [0] rfl
        have hKc := hK.sub (tys' := []) [] rfl
        have hDc := hD.sub (ws' := [(rd, .inr (6, rF r fa fb a2 a3 a4 a5 a6 a7))]) [0] (by decide) rfl
        have hFc := va_free (wc := [(rd, .inr (6, rF r fa fb a2 a3 a4 a5 a6 a7))]) hD hS hA [0] rfl
        refine va_callv (va_runV (As := [.int 1, .int i9]) (rest := []) ⟨hx, hb, hml, hown, hts⟩ (s_fail l dC dI rd r fa fb a2 a3 a4 a5 a6 a7 H.size 1 i9) (cwV 2 hts mg_X6_endOfPatternq_X6_fail_71 rfl rfl rfl (by decide +kernel) ⟨Nat.le_of_ble_eq_true rfl, Nat.le_of_ble_eq_true rfl⟩) ⟨fun a U g mk q => by obtain ⟨q0, q1, qP, qK, qD⟩ := q; exact ⟨q0, q1, qP, va_K.moved (u := U) (U := U.calling g mk a) (Vm.Alike.refl U.vm) qK, qD⟩, va_recv hKc hPc (ci := 6) (q0 := 0) rfl rfl, fun U hU hW => ⟨rfl, by rw [hU], by rw [hU]; exact hPc, va_K.moved hW.alike hKc, hDc.weaken (fun _ _ _ _ => trivial)⟩⟩ rfl rfl hl.1 rfl (lv_room (Nat.le_of_ble_eq_true rfl)) dX6_endOfPattern_239 ⟨Nat.le_of_ble_eq_true rfl, Nat.le_of_ble_eq_true rfl⟩) hS (fun q _ h => hFc q h) hFc (fun u t H1 locs ht hvm hw hB hz1 hk1 hS => ?_)
        obtain ⟨hP1, hK1, hD1⟩ := hB
        rw [ht] at hP1
        obtain ⟨hP, hD⟩ := va_join (wr := [(ta, .inl (cT, nb, .inl ft))]) (w1 := [(rd, .inr (6, rF r 1 i9 a2 a3 a4 a5 a6 a7))]) hP hD [0] [1] rfl rfl (by decide) (by decide) hk1 hFc hP1 hD1
        generalize H1 = H at hP hS ⊢
        have hP : va_P (dC, dI) vwCl [(ta, .inl (cT, nb, .inl ft)), (rd, .inr (6, rF r 1 i9 a2 a3 a4 a5 a6 a7))] H := hP
        have hD : va_D A [(ta, .inl (cT, nb, .inl ft)), (rd, .inr (6, rF r 1 i9 a2 a3 a4 a5 a6 a7))] := hD
        refine lv_iload_n hx hb dX6_endOfPattern_242 rfl (lv_at hl 7 rfl) ?_
        have hP9 := hP.sub (ws' := [(rd, .inr (6, rF r 1 i9 a2 a3 a4 a5 a6 a7)), (ta, .inl (cT, nb, .inl ft))]) [1, 0] rfl
        have hD9 := hD.sub (ws' := [(rd, .inr (6, rF r 1 i9 a2 a3 a4 a5 a6 a7)), (ta, .inl (cT, nb, .inl ft))]) [1, 0] (by decide) rfl
        have hK9 := hK.sub (tys' := [(cT, .int)]) [0] rfl
        exact W.iret hx hb hr (fun t ht hW => ⟨⟨_, i9, rfl, ⟨rfl, by omega⟩, 1, i9, (dP_f v12_1 (fun d p => mv_px (by rw [tc_end (by omega)]; unfold isAt; omega) (by rw [tc_end (by omega)]; omega)) (by decide)), by rw [ht]; exact hP9, va_K.moved hW.alike hK9, hD9⟩, hS.F ht⟩) hS.2.2 dX6_endOfPattern_243
      · have tk_1 := c_nge (a := ax.toInt) (b := i9.toInt) rfl rfl k_1
        refine lv_aload_n hx hb dX6_endOfPattern_18 rfl (lv_at hl 5 rfl) ?_
        refine lv_iload hx hb dX6_endOfPattern_19 (lv_at hl 0 rfl) ?_
        refine va_iald hx hb hK hP 1 0 rfl rfl (i := ax) (vp_of (a := ax.toInt) rfl (by omega) (by omega)) dX6_endOfPattern_21 ?_
        refine lv_topi (fun y_4 ey_4 => ?_)
        have rg_y_4 := i_rng y_4
        have wy_4 := tc_ld (n := i9.toInt) ey_4 (by omega)
        have rg_y_4 := i_rng y_4
        refine lv_istore (lv' := [(8, .int y_4), (7, .int ax), (6, .int sd), (5, .int op), (4, .int sp), (0, .ref rd), (1, .ref ta), (2, .int i8), (3, .int i9)]) hx hb dX6_endOfPattern_22 hl (by decide) rfl (fun ls hl => ?_)
        refine lv_iload hx hb dX6_endOfPattern_24 (lv_at hl 0 rfl) ?_
        have hPc := hP.sub (ws' := []) [] rfl
        have hKc := hK.sub (tys' := []) [] rfl
        have hDc := hD.sub (ws' := []) [] (by decide) rfl
        have hFc := va_free (wc := []) hD hS hA [] rfl
        refine va_calli (va_runSN (As := [.int y_4]) (rest := []) ⟨hx, hb, hml, hown, hts⟩ (s_isSmallW_q l dC dI H.size y_4) ⟨va_cnB 1 hts mg_X6_endOfPatternq_X9_isSmall_53 rfl rfl rfl hN53 (hts (.initialized RX9) (List.mem_of_getElem? (i := 5) (by decide +kernel))) (by decide +kernel) ⟨Nat.le_of_ble_eq_true rfl, Nat.le_of_ble_eq_true rfl⟩, (hts (.static yX9_isSmall) (List.mem_of_getElem? (i := 6) (by decide +kernel))), trivial⟩ ⟨fun a U g mk q => by obtain ⟨q0, q1, qP, qK, qD⟩ := q; exact ⟨q0, q1, qP, va_K.moved (u := U) (U := U.calling g mk a) (Vm.Alike.refl U.vm) qK, qD⟩, fun U hU hW => ⟨rfl, by rw [hU], by rw [hU]; exact hPc, va_K.moved hW.alike hKc, hDc.weaken (fun _ _ _ _ => trivial)⟩⟩ rfl rfl hl.1 rfl (lv_room (Nat.le_of_ble_eq_true rfl)) dX6_endOfPattern_26 ⟨Nat.le_of_ble_eq_true rfl, Nat.le_of_ble_eq_true rfl⟩) hS (fun q _ h => hFc q h) hFc (fun r_6 u t H1 locs ht hvm hw hB hz1 hk1 hS => ?_)
        have hr_6 := hw
        obtain ⟨hP, hD⟩ := va_join (wr := [(rd, .inr (6, rF r fa fb a2 a3 a4 a5 a6 a7)), (ta, .inl (cT, nb, .inl ft))]) (w1 := []) hP hD [] [0, 1] rfl rfl (by decide) (by decide) hk1 hFc (fun k q h => by simp at h) ⟨fun i j p q h => by simp at h, fun k q h => by simp at h⟩
        generalize H1 = H at hP hS ⊢
        have hP : va_P (dC, dI) vwCl [(rd, .inr (6, rF r fa fb a2 a3 a4 a5 a6 a7)), (ta, .inl (cT, nb, .inl ft))] H := hP
        have hD : va_D A [(rd, .inr (6, rF r fa fb a2 a3 a4 a5 a6 a7)), (ta, .inl (cT, nb, .inl ft))] := hD
        refine lv_if_ne (tgt := 46) hx hb dX6_endOfPattern_29 (by decide) (fun k_7 => ?_) (fun k_7 => ?_)
        · have tk_7 := c_ne (a := r_6.toInt) (b := 0) rfl (by decide) k_7
          refine lv_iload hx hb dX6_endOfPattern_46 (lv_at hl 4 rfl) ?_
          refine lv_bipush (v := 24) hx hb dX6_endOfPattern_48 (by decide) ?_
          refine lv_icmp_lt (tgt := 60) hx hb dX6_endOfPattern_50 (by decide) (fun k_8 => ?_) (fun k_8 => ?_)
          · have tk_8 := c_lt (a := sp.toInt) (b := 24) rfl (by decide) k_8
            obtain ⟨y_9, ey_9⟩ : ∃ y : Int32, y = sp + 1 := ⟨_, rfl⟩
            first | have ty_9 := i_add (a := sp.toInt) (b := 1) rfl (by decide) ey_9 (by omega) (by omega) | skip
            refine lv_iinc (v := y_9) (lv' := [(4, .int y_9), (8, .int y_4), (7, .int ax), (6, .int sd), (5, .int op), (0, .ref rd), (1, .ref ta), (2, .int i8), (3, .int i9)]) hx hb dX6_endOfPattern_60 hl (k := 4) rfl (by rw [ey_9]; rfl) (by decide) rfl (fun ls hl => ?_)
            refine lv_iconst (v := 1) hx hb dX6_endOfPattern_63 (by decide) ?_
            refine lv_istore (lv' := [(6, .int 1), (4, .int y_9), (8, .int y_4), (7, .int ax), (5, .int op), (0, .ref rd), (1, .ref ta), (2, .int i8), (3, .int i9)]) hx hb dX6_endOfPattern_64 hl (by decide) rfl (fun ls hl => ?_)
            refine lv_iload hx hb dX6_endOfPattern_66 (lv_at hl 2 rfl) ?_
            refine lv_bipush (v := 91) hx hb dX6_endOfPattern_68 (by decide) ?_
            refine lv_icmp_ne (tgt := 220) hx hb dX6_endOfPattern_70 (by decide) (fun k_10 => ?_) (fun k_10 => absurd k_10 (fun e9 => by have e8 := congrArg Int32.toInt e9; rw [show (91 : Int32).toInt = 91 by decide] at e8; omega))
            have tk_10 := c_ne (a := y_4.toInt) (b := 91) rfl (by decide) k_10
            refine lv_aload_n hx hb dX6_endOfPattern_220 rfl (lv_at hl 5 rfl) ?_
            refine va_get (D := (dC, dI)) (ci := 6) (v := .int fa) (C := RX6) (T := TX6) (N := 11) hx hb hts fin_X6_endOfPatternq_X6 hown hK hP 0 rfl rfl 0 (by decide) (hts (.fieldLink RX6 22 "PatternGate$Reader" "faultKind" "I") (List.mem_of_getElem? (i := 7) (by decide +kernel))) (fun _ h9 => h9) rfl dX6_endOfPattern_221 ?_
            refine lv_if_eq (tgt := 230) hx hb dX6_endOfPattern_224 (by decide) (fun k_11 => ?_) (fun k_11 => absurd (Int32.toInt_inj.mp (v12_2.trans (by decide))) k_11)
            have tk_11 := c_eq (a := fa.toInt) (b := 0) rfl (by decide) k_11
            obtain ⟨y_12, ey_12⟩ : ∃ y : Int32, y = ax + 1 := ⟨_, rfl⟩
            first | have ty_12 := i_add (a := ax.toInt) (b := 1) rfl (by decide) ey_12 (by omega) (by omega) | skip
            refine lv_iinc (v := y_12) (lv' := [(7, .int y_12), (6, .int 1), (4, .int y_9), (8, .int y_4), (5, .int op), (0, .ref rd), (1, .ref ta), (2, .int i8), (3, .int i9)]) hx hb dX6_endOfPattern_230 hl (k := 3) rfl (by rw [ey_12]; rfl) (by decide) rfl (fun ls hl => ?_)
            refine lv_goto (tgt := 12) hx hb dX6_endOfPattern_233 (by decide) ?_
            have lit_12 : (1 : Int32).toInt = 1 := by decide
            exact ih12 y_9 op 1 y_12 fa fb (by first | omega | assumption | decide) (dP_next v12_1 (fun d p => by rw [show y_12.toInt = ax.toInt + 1 by omega, show y_9.toInt = sp.toInt + 1 by omega, show (1 : Int32).toInt = 1 by decide]; exact mv_pa (by unfold isAt; omega) (by omega) (by omega) (by omega))) (by first | omega | assumption | decide) (by first | omega | assumption | decide) (by first | omega | assumption | decide) (by omega) _ _ ls hP hD hS (lv_sub hl [0, 1, 4, 2, 5, 6, 7, 8] rfl)
          · have tk_8 := c_nlt (a := sp.toInt) (b := 24) rfl (by decide) k_8
            refine lv_aload_n hx hb dX6_endOfPattern_53 rfl (lv_at hl 5 rfl) ?_
            refine lv_iconst (v := 4) hx hb dX6_endOfPattern_54 (by decide) ?_
            refine lv_iload hx hb dX6_endOfPattern_55 (lv_at hl 1 rfl) ?_
            have hPc := hP.sub (ws' := [(rd, .inr (6, rF r fa fb a2 a3 a4 a5 a6 a7))]) [0] rfl
            have hKc := hK.sub (tys' := []) [] rfl
            have hDc := hD.sub (ws' := [(rd, .inr (6, rF r fa fb a2 a3 a4 a5 a6 a7))]) [0] (by decide) rfl
            have hFc := va_free (wc := [(rd, .inr (6, rF r fa fb a2 a3 a4 a5 a6 a7))]) hD hS hA [0] rfl
            refine va_callv (va_runV (As := [.int 4, .int ax]) (rest := []) ⟨hx, hb, hml, hown, hts⟩ (s_fail l dC dI rd r fa fb a2 a3 a4 a5 a6 a7 H.size 4 ax) (cwV 2 hts mg_X6_endOfPatternq_X6_fail_71 rfl rfl rfl (by decide +kernel) ⟨Nat.le_of_ble_eq_true rfl, Nat.le_of_ble_eq_true rfl⟩) ⟨fun a U g mk q => by obtain ⟨q0, q1, qP, qK, qD⟩ := q; exact ⟨q0, q1, qP, va_K.moved (u := U) (U := U.calling g mk a) (Vm.Alike.refl U.vm) qK, qD⟩, va_recv hKc hPc (ci := 6) (q0 := 0) rfl rfl, fun U hU hW => ⟨rfl, by rw [hU], by rw [hU]; exact hPc, va_K.moved hW.alike hKc, hDc.weaken (fun _ _ _ _ => trivial)⟩⟩ rfl rfl hl.1 rfl (lv_room (Nat.le_of_ble_eq_true rfl)) dX6_endOfPattern_57 ⟨Nat.le_of_ble_eq_true rfl, Nat.le_of_ble_eq_true rfl⟩) hS (fun q _ h => hFc q h) hFc (fun u t H1 locs ht hvm hw hB hz1 hk1 hS => ?_)
            obtain ⟨hP1, hK1, hD1⟩ := hB
            rw [ht] at hP1
            obtain ⟨hP, hD⟩ := va_join (wr := [(ta, .inl (cT, nb, .inl ft))]) (w1 := [(rd, .inr (6, rF r 4 ax a2 a3 a4 a5 a6 a7))]) hP hD [0] [1] rfl rfl (by decide) (by decide) hk1 hFc hP1 hD1
            generalize H1 = H at hP hS ⊢
            have hP : va_P (dC, dI) vwCl [(ta, .inl (cT, nb, .inl ft)), (rd, .inr (6, rF r 4 ax a2 a3 a4 a5 a6 a7))] H := hP
            have hD : va_D A [(ta, .inl (cT, nb, .inl ft)), (rd, .inr (6, rF r 4 ax a2 a3 a4 a5 a6 a7))] := hD
            obtain ⟨y_16, ey_16⟩ : ∃ y : Int32, y = sp + 1 := ⟨_, rfl⟩
            first | have ty_16 := i_add (a := sp.toInt) (b := 1) rfl (by decide) ey_16 (by omega) (by omega) | skip
            refine lv_iinc (v := y_16) (lv' := [(4, .int y_16), (8, .int y_4), (7, .int ax), (6, .int sd), (5, .int op), (0, .ref rd), (1, .ref ta), (2, .int i8), (3, .int i9)]) hx hb dX6_endOfPattern_60 hl (k := 4) rfl (by rw [ey_16]; rfl) (by decide) rfl (fun ls hl => ?_)
            refine lv_iconst (v := 1) hx hb dX6_endOfPattern_63 (by decide) ?_
            refine lv_istore (lv' := [(6, .int 1), (4, .int y_16), (8, .int y_4), (7, .int ax), (5, .int op), (0, .ref rd), (1, .ref ta), (2, .int i8), (3, .int i9)]) hx hb dX6_endOfPattern_64 hl (by decide) rfl (fun ls hl => ?_)
            refine lv_iload hx hb dX6_endOfPattern_66 (lv_at hl 2 rfl) ?_
            refine lv_bipush (v := 91) hx hb dX6_endOfPattern_68 (by decide) ?_
            refine lv_icmp_ne (tgt := 220) hx hb dX6_endOfPattern_70 (by decide) (fun k_17 => ?_) (fun k_17 => absurd k_17 (fun e9 => by have e8 := congrArg Int32.toInt e9; rw [show (91 : Int32).toInt = 91 by decide] at e8; omega))
            have tk_17 := c_ne (a := y_4.toInt) (b := 91) rfl (by decide) k_17
            refine lv_aload_n hx hb dX6_endOfPattern_220 rfl (lv_at hl 5 rfl) ?_
            refine va_get (D := (dC, dI)) (ci := 6) (v := .int 4) (C := RX6) (T := TX6) (N := 11) hx hb hts fin_X6_endOfPatternq_X6 hown hK hP 1 rfl rfl 0 (by decide) (hts (.fieldLink RX6 22 "PatternGate$Reader" "faultKind" "I") (List.mem_of_getElem? (i := 7) (by decide +kernel))) (fun _ h9 => h9) rfl dX6_endOfPattern_221 ?_
            refine lv_if_eq (tgt := 230) hx hb dX6_endOfPattern_224 (by decide) (fun k_18 => absurd k_18 (by decide)) (fun k_18 => ?_)
            have tk_18 := c_ne (a := 4) (b := 0) (by decide) (by decide) k_18
            refine lv_iload hx hb dX6_endOfPattern_227 (lv_at hl 3 rfl) ?_
            have hP9 := hP.sub (ws' := [(rd, .inr (6, rF r 4 ax a2 a3 a4 a5 a6 a7)), (ta, .inl (cT, nb, .inl ft))]) [1, 0] rfl
            have hD9 := hD.sub (ws' := [(rd, .inr (6, rF r 4 ax a2 a3 a4 a5 a6 a7)), (ta, .inl (cT, nb, .inl ft))]) [1, 0] (by decide) rfl
            have hK9 := hK.sub (tys' := [(cT, .int)]) [0] rfl
            exact W.iret hx hb hr (fun t ht hW => ⟨⟨_, ax, rfl, ⟨rfl, by omega⟩, 4, ax, (dP_f v12_1 (fun d p => mv_paf (by unfold isAt; omega) (by omega) (by omega)) (by decide)), by rw [ht]; exact hP9, va_K.moved hW.alike hK9, hD9⟩, hS.F ht⟩) hS.2.2 dX6_endOfPattern_229
        · have tk_7 := c_eq (a := r_6.toInt) (b := 0) rfl (by decide) k_7
          refine lv_iload hx hb dX6_endOfPattern_32 (lv_at hl 0 rfl) ?_
          refine lv_bipush (v := 46) hx hb dX6_endOfPattern_34 (by decide) ?_
          refine lv_icmp_eq (tgt := 46) hx hb dX6_endOfPattern_36 (by decide) (fun k_19 => ?_) (fun k_19 => ?_)
          · have tk_19 := c_eq (a := y_4.toInt) (b := 46) rfl (by decide) k_19
            refine lv_iload hx hb dX6_endOfPattern_46 (lv_at hl 4 rfl) ?_
            refine lv_bipush (v := 24) hx hb dX6_endOfPattern_48 (by decide) ?_
            refine lv_icmp_lt (tgt := 60) hx hb dX6_endOfPattern_50 (by decide) (fun k_20 => ?_) (fun k_20 => ?_)
            · have tk_20 := c_lt (a := sp.toInt) (b := 24) rfl (by decide) k_20
              obtain ⟨y_21, ey_21⟩ : ∃ y : Int32, y = sp + 1 := ⟨_, rfl⟩
              first | have ty_21 := i_add (a := sp.toInt) (b := 1) rfl (by decide) ey_21 (by omega) (by omega) | skip
              refine lv_iinc (v := y_21) (lv' := [(4, .int y_21), (8, .int y_4), (7, .int ax), (6, .int sd), (5, .int op), (0, .ref rd), (1, .ref ta), (2, .int i8), (3, .int i9)]) hx hb dX6_endOfPattern_60 hl (k := 4) rfl (by rw [ey_21]; rfl) (by decide) rfl (fun ls hl => ?_)
              refine lv_iconst (v := 1) hx hb dX6_endOfPattern_63 (by decide) ?_
              refine lv_istore (lv' := [(6, .int 1), (4, .int y_21), (8, .int y_4), (7, .int ax), (5, .int op), (0, .ref rd), (1, .ref ta), (2, .int i8), (3, .int i9)]) hx hb dX6_endOfPattern_64 hl (by decide) rfl (fun ls hl => ?_)
              refine lv_iload hx hb dX6_endOfPattern_66 (lv_at hl 2 rfl) ?_
              refine lv_bipush (v := 91) hx hb dX6_endOfPattern_68 (by decide) ?_
              refine lv_icmp_ne (tgt := 220) hx hb dX6_endOfPattern_70 (by decide) (fun k_22 => ?_) (fun k_22 => absurd k_22 (fun e9 => by have e8 := congrArg Int32.toInt e9; rw [show (91 : Int32).toInt = 91 by decide] at e8; omega))
              have tk_22 := c_ne (a := y_4.toInt) (b := 91) rfl (by decide) k_22
              refine lv_aload_n hx hb dX6_endOfPattern_220 rfl (lv_at hl 5 rfl) ?_
              refine va_get (D := (dC, dI)) (ci := 6) (v := .int fa) (C := RX6) (T := TX6) (N := 11) hx hb hts fin_X6_endOfPatternq_X6 hown hK hP 0 rfl rfl 0 (by decide) (hts (.fieldLink RX6 22 "PatternGate$Reader" "faultKind" "I") (List.mem_of_getElem? (i := 7) (by decide +kernel))) (fun _ h9 => h9) rfl dX6_endOfPattern_221 ?_
              refine lv_if_eq (tgt := 230) hx hb dX6_endOfPattern_224 (by decide) (fun k_23 => ?_) (fun k_23 => absurd (Int32.toInt_inj.mp (v12_2.trans (by decide))) k_23)
              have tk_23 := c_eq (a := fa.toInt) (b := 0) rfl (by decide) k_23
              obtain ⟨y_24, ey_24⟩ : ∃ y : Int32, y = ax + 1 := ⟨_, rfl⟩
              first | have ty_24 := i_add (a := ax.toInt) (b := 1) rfl (by decide) ey_24 (by omega) (by omega) | skip
              refine lv_iinc (v := y_24) (lv' := [(7, .int y_24), (6, .int 1), (4, .int y_21), (8, .int y_4), (5, .int op), (0, .ref rd), (1, .ref ta), (2, .int i8), (3, .int i9)]) hx hb dX6_endOfPattern_230 hl (k := 3) rfl (by rw [ey_24]; rfl) (by decide) rfl (fun ls hl => ?_)
              refine lv_goto (tgt := 12) hx hb dX6_endOfPattern_233 (by decide) ?_
              have lit_24 : (1 : Int32).toInt = 1 := by decide
              exact ih12 y_21 op 1 y_24 fa fb (by first | omega | assumption | decide) (dP_next v12_1 (fun d p => by rw [show y_24.toInt = ax.toInt + 1 by omega, show y_21.toInt = sp.toInt + 1 by omega, show (1 : Int32).toInt = 1 by decide]; exact mv_pa (by unfold isAt; omega) (by omega) (by omega) (by omega))) (by first | omega | assumption | decide) (by first | omega | assumption | decide) (by first | omega | assumption | decide) (by omega) _ _ ls hP hD hS (lv_sub hl [0, 1, 4, 2, 5, 6, 7, 8] rfl)
            · have tk_20 := c_nlt (a := sp.toInt) (b := 24) rfl (by decide) k_20
              refine lv_aload_n hx hb dX6_endOfPattern_53 rfl (lv_at hl 5 rfl) ?_
              refine lv_iconst (v := 4) hx hb dX6_endOfPattern_54 (by decide) ?_
              refine lv_iload hx hb dX6_endOfPattern_55 (lv_at hl 1 rfl) ?_
              have hPc := hP.sub (ws' := [(rd, .inr (6, rF r fa fb a2 a3 a4 a5 a6 a7))]) [0] rfl
              have hKc := hK.sub (tys' := []) [] rfl
              have hDc := hD.sub (ws' := [(rd, .inr (6, rF r fa fb a2 a3 a4 a5 a6 a7))]) [0] (by decide) rfl
              have hFc := va_free (wc := [(rd, .inr (6, rF r fa fb a2 a3 a4 a5 a6 a7))]) hD hS hA [0] rfl
              refine va_callv (va_runV (As := [.int 4, .int ax]) (rest := []) ⟨hx, hb, hml, hown, hts⟩ (s_fail l dC dI rd r fa fb a2 a3 a4 a5 a6 a7 H.size 4 ax) (cwV 2 hts mg_X6_endOfPatternq_X6_fail_71 rfl rfl rfl (by decide +kernel) ⟨Nat.le_of_ble_eq_true rfl, Nat.le_of_ble_eq_true rfl⟩) ⟨fun a U g mk q => by obtain ⟨q0, q1, qP, qK, qD⟩ := q; exact ⟨q0, q1, qP, va_K.moved (u := U) (U := U.calling g mk a) (Vm.Alike.refl U.vm) qK, qD⟩, va_recv hKc hPc (ci := 6) (q0 := 0) rfl rfl, fun U hU hW => ⟨rfl, by rw [hU], by rw [hU]; exact hPc, va_K.moved hW.alike hKc, hDc.weaken (fun _ _ _ _ => trivial)⟩⟩ rfl rfl hl.1 rfl (lv_room (Nat.le_of_ble_eq_true rfl)) dX6_endOfPattern_57 ⟨Nat.le_of_ble_eq_true rfl, Nat.le_of_ble_eq_true rfl⟩) hS (fun q _ h => hFc q h) hFc (fun u t H1 locs ht hvm hw hB hz1 hk1 hS => ?_)
              obtain ⟨hP1, hK1, hD1⟩ := hB
              rw [ht] at hP1
              obtain ⟨hP, hD⟩ := va_join (wr := [(ta, .inl (cT, nb, .inl ft))]) (w1 := [(rd, .inr (6, rF r 4 ax a2 a3 a4 a5 a6 a7))]) hP hD [0] [1] rfl rfl (by decide) (by decide) hk1 hFc hP1 hD1
              generalize H1 = H at hP hS ⊢
              have hP : va_P (dC, dI) vwCl [(ta, .inl (cT, nb, .inl ft)), (rd, .inr (6, rF r 4 ax a2 a3 a4 a5 a6 a7))] H := hP
              have hD : va_D A [(ta, .inl (cT, nb, .inl ft)), (rd, .inr (6, rF r 4 ax a2 a3 a4 a5 a6 a7))] := hD
              obtain ⟨y_28, ey_28⟩ : ∃ y : Int32, y = sp + 1 := ⟨_, rfl⟩
              first | have ty_28 := i_add (a := sp.toInt) (b := 1) rfl (by decide) ey_28 (by omega) (by omega) | skip
              refine lv_iinc (v := y_28) (lv' := [(4, .int y_28), (8, .int y_4), (7, .int ax), (6, .int sd), (5, .int op), (0, .ref rd), (1, .ref ta), (2, .int i8), (3, .int i9)]) hx hb dX6_endOfPattern_60 hl (k := 4) rfl (by rw [ey_28]; rfl) (by decide) rfl (fun ls hl => ?_)
              refine lv_iconst (v := 1) hx hb dX6_endOfPattern_63 (by decide) ?_
              refine lv_istore (lv' := [(6, .int 1), (4, .int y_28), (8, .int y_4), (7, .int ax), (5, .int op), (0, .ref rd), (1, .ref ta), (2, .int i8), (3, .int i9)]) hx hb dX6_endOfPattern_64 hl (by decide) rfl (fun ls hl => ?_)
              refine lv_iload hx hb dX6_endOfPattern_66 (lv_at hl 2 rfl) ?_
              refine lv_bipush (v := 91) hx hb dX6_endOfPattern_68 (by decide) ?_
              refine lv_icmp_ne (tgt := 220) hx hb dX6_endOfPattern_70 (by decide) (fun k_29 => ?_) (fun k_29 => absurd k_29 (fun e9 => by have e8 := congrArg Int32.toInt e9; rw [show (91 : Int32).toInt = 91 by decide] at e8; omega))
              have tk_29 := c_ne (a := y_4.toInt) (b := 91) rfl (by decide) k_29
              refine lv_aload_n hx hb dX6_endOfPattern_220 rfl (lv_at hl 5 rfl) ?_
              refine va_get (D := (dC, dI)) (ci := 6) (v := .int 4) (C := RX6) (T := TX6) (N := 11) hx hb hts fin_X6_endOfPatternq_X6 hown hK hP 1 rfl rfl 0 (by decide) (hts (.fieldLink RX6 22 "PatternGate$Reader" "faultKind" "I") (List.mem_of_getElem? (i := 7) (by decide +kernel))) (fun _ h9 => h9) rfl dX6_endOfPattern_221 ?_
              refine lv_if_eq (tgt := 230) hx hb dX6_endOfPattern_224 (by decide) (fun k_30 => absurd k_30 (by decide)) (fun k_30 => ?_)
              have tk_30 := c_ne (a := 4) (b := 0) (by decide) (by decide) k_30
              refine lv_iload hx hb dX6_endOfPattern_227 (lv_at hl 3 rfl) ?_
              have hP9 := hP.sub (ws' := [(rd, .inr (6, rF r 4 ax a2 a3 a4 a5 a6 a7)), (ta, .inl (cT, nb, .inl ft))]) [1, 0] rfl
              have hD9 := hD.sub (ws' := [(rd, .inr (6, rF r 4 ax a2 a3 a4 a5 a6 a7)), (ta, .inl (cT, nb, .inl ft))]) [1, 0] (by decide) rfl
              have hK9 := hK.sub (tys' := [(cT, .int)]) [0] rfl
              exact W.iret hx hb hr (fun t ht hW => ⟨⟨_, ax, rfl, ⟨rfl, by omega⟩, 4, ax, (dP_f v12_1 (fun d p => mv_paf (by unfold isAt; omega) (by omega) (by omega)) (by decide)), by rw [ht]; exact hP9, va_K.moved hW.alike hK9, hD9⟩, hS.F ht⟩) hS.2.2 dX6_endOfPattern_229
          · have tk_19 := c_ne (a := y_4.toInt) (b := 46) rfl (by decide) k_19
            refine lv_iload hx hb dX6_endOfPattern_39 (lv_at hl 0 rfl) ?_
            refine lv_bipush (v := 91) hx hb dX6_endOfPattern_41 (by decide) ?_
            refine lv_icmp_ne (tgt := 100) hx hb dX6_endOfPattern_43 (by decide) (fun k_31 => ?_) (fun k_31 => ?_)
            · have tk_31 := c_ne (a := y_4.toInt) (b := 91) rfl (by decide) k_31
              refine lv_iload hx hb dX6_endOfPattern_100 (lv_at hl 0 rfl) ?_
              refine lv_bipush (v := 40) hx hb dX6_endOfPattern_102 (by decide) ?_
              refine lv_icmp_ne (tgt := 129) hx hb dX6_endOfPattern_104 (by decide) (fun k_32 => ?_) (fun k_32 => ?_)
              · have tk_32 := c_ne (a := y_4.toInt) (b := 40) rfl (by decide) k_32
                refine lv_iload hx hb dX6_endOfPattern_129 (lv_at hl 0 rfl) ?_
                refine lv_bipush (v := 34) hx hb dX6_endOfPattern_131 (by decide) ?_
                refine lv_icmp_ne (tgt := 149) hx hb dX6_endOfPattern_133 (by decide) (fun k_33 => ?_) (fun k_33 => ?_)
                · have tk_33 := c_ne (a := y_4.toInt) (b := 34) rfl (by decide) k_33
                  refine lv_iload hx hb dX6_endOfPattern_149 (lv_at hl 0 rfl) ?_
                  refine lv_bipush (v := 124) hx hb dX6_endOfPattern_151 (by decide) ?_
                  refine lv_icmp_ne (tgt := 167) hx hb dX6_endOfPattern_153 (by decide) (fun k_34 => ?_) (fun k_34 => ?_)
                  · have tk_34 := c_ne (a := y_4.toInt) (b := 124) rfl (by decide) k_34
                    refine lv_iload hx hb dX6_endOfPattern_167 (lv_at hl 0 rfl) ?_
                    refine lv_bipush (v := 41) hx hb dX6_endOfPattern_169 (by decide) ?_
                    refine lv_icmp_ne (tgt := 193) hx hb dX6_endOfPattern_171 (by decide) (fun k_35 => ?_) (fun k_35 => ?_)
                    · have tk_35 := c_ne (a := y_4.toInt) (b := 41) rfl (by decide) k_35
                      refine lv_iload hx hb dX6_endOfPattern_193 (lv_at hl 0 rfl) ?_
                      refine vp_callSi (W.runS (As := [.int y_4]) (rest := []) ⟨hx, hb, hml, hown, hts⟩ (s_isSign_q l dC dI y_4) (va_cwS 1 hts mg_X6_endOfPatternq_X6_isSign_102 rfl rfl rfl (by decide +kernel) ⟨Nat.le_of_ble_eq_true rfl, Nat.le_of_ble_eq_true rfl⟩) ⟨fun a U g mk q => ⟨q.1, trivial⟩, fun U hU hW => ⟨rfl, trivial⟩⟩ rfl rfl hl.1 rfl (lv_room (Nat.le_of_ble_eq_true rfl)) dX6_endOfPattern_195 ⟨Nat.le_of_ble_eq_true rfl, Nat.le_of_ble_eq_true rfl⟩) (fun r_37 hw => ?_)
                      have hr_37 := hw
                      refine lv_if_eq (tgt := 213) hx hb dX6_endOfPattern_198 (by decide) (fun k_38 => ?_) (fun k_38 => ?_)
                      · have tk_38 := c_eq (a := r_37.toInt) (b := 0) rfl (by decide) k_38
                        refine lv_aload_n hx hb dX6_endOfPattern_213 rfl (lv_at hl 5 rfl) ?_
                        refine lv_iconst (v := 1) hx hb dX6_endOfPattern_214 (by decide) ?_
                        refine lv_iload hx hb dX6_endOfPattern_215 (lv_at hl 1 rfl) ?_
                        have hPc := hP.sub (ws' := [(rd, .inr (6, rF r fa fb a2 a3 a4 a5 a6 a7))]) [0] rfl
                        have hKc := hK.sub (tys' := []) [] rfl
                        have hDc := hD.sub (ws' := [(rd, .inr (6, rF r fa fb a2 a3 a4 a5 a6 a7))]) [0] (by decide) rfl
                        have hFc := va_free (wc := [(rd, .inr (6, rF r fa fb a2 a3 a4 a5 a6 a7))]) hD hS hA [0] rfl
                        refine va_callv (va_runV (As := [.int 1, .int ax]) (rest := []) ⟨hx, hb, hml, hown, hts⟩ (s_fail l dC dI rd r fa fb a2 a3 a4 a5 a6 a7 H.size 1 ax) (cwV 2 hts mg_X6_endOfPatternq_X6_fail_71 rfl rfl rfl (by decide +kernel) ⟨Nat.le_of_ble_eq_true rfl, Nat.le_of_ble_eq_true rfl⟩) ⟨fun a U g mk q => by obtain ⟨q0, q1, qP, qK, qD⟩ := q; exact ⟨q0, q1, qP, va_K.moved (u := U) (U := U.calling g mk a) (Vm.Alike.refl U.vm) qK, qD⟩, va_recv hKc hPc (ci := 6) (q0 := 0) rfl rfl, fun U hU hW => ⟨rfl, by rw [hU], by rw [hU]; exact hPc, va_K.moved hW.alike hKc, hDc.weaken (fun _ _ _ _ => trivial)⟩⟩ rfl rfl hl.1 rfl (lv_room (Nat.le_of_ble_eq_true rfl)) dX6_endOfPattern_217 ⟨Nat.le_of_ble_eq_true rfl, Nat.le_of_ble_eq_true rfl⟩) hS (fun q _ h => hFc q h) hFc (fun u t H1 locs ht hvm hw hB hz1 hk1 hS => ?_)
                        obtain ⟨hP1, hK1, hD1⟩ := hB
                        rw [ht] at hP1
                        obtain ⟨hP, hD⟩ := va_join (wr := [(ta, .inl (cT, nb, .inl ft))]) (w1 := [(rd, .inr (6, rF r 1 ax a2 a3 a4 a5 a6 a7))]) hP hD [0] [1] rfl rfl (by decide) (by decide) hk1 hFc hP1 hD1
                        generalize H1 = H at hP hS ⊢
                        have hP : va_P (dC, dI) vwCl [(ta, .inl (cT, nb, .inl ft)), (rd, .inr (6, rF r 1 ax a2 a3 a4 a5 a6 a7))] H := hP
                        have hD : va_D A [(ta, .inl (cT, nb, .inl ft)), (rd, .inr (6, rF r 1 ax a2 a3 a4 a5 a6 a7))] := hD
                        refine lv_aload_n hx hb dX6_endOfPattern_220 rfl (lv_at hl 5 rfl) ?_
                        refine va_get (D := (dC, dI)) (ci := 6) (v := .int 1) (C := RX6) (T := TX6) (N := 11) hx hb hts fin_X6_endOfPatternq_X6 hown hK hP 1 rfl rfl 0 (by decide) (hts (.fieldLink RX6 22 "PatternGate$Reader" "faultKind" "I") (List.mem_of_getElem? (i := 7) (by decide +kernel))) (fun _ h9 => h9) rfl dX6_endOfPattern_221 ?_
                        refine lv_if_eq (tgt := 230) hx hb dX6_endOfPattern_224 (by decide) (fun k_41 => absurd k_41 (by decide)) (fun k_41 => ?_)
                        have tk_41 := c_ne (a := 1) (b := 0) (by decide) (by decide) k_41
                        refine lv_iload hx hb dX6_endOfPattern_227 (lv_at hl 1 rfl) ?_
                        have hP9 := hP.sub (ws' := [(rd, .inr (6, rF r 1 ax a2 a3 a4 a5 a6 a7)), (ta, .inl (cT, nb, .inl ft))]) [1, 0] rfl
                        have hD9 := hD.sub (ws' := [(rd, .inr (6, rF r 1 ax a2 a3 a4 a5 a6 a7)), (ta, .inl (cT, nb, .inl ft))]) [1, 0] (by decide) rfl
                        have hK9 := hK.sub (tys' := [(cT, .int)]) [0] rfl
                        exact W.iret hx hb hr (fun t ht hW => ⟨⟨_, ax, rfl, ⟨rfl, by omega⟩, 1, ax, (dP_f v12_1 (fun d p => mv_px (by unfold isAt; omega) (by omega)) (by decide)), by rw [ht]; exact hP9, va_K.moved hW.alike hK9, hD9⟩, hS.F ht⟩) hS.2.2 dX6_endOfPattern_229
                      · have tk_38 := c_ne (a := r_37.toInt) (b := 0) rfl (by decide) k_38
                        refine lv_iload hx hb dX6_endOfPattern_201 (lv_at hl 2 rfl) ?_
                        refine lv_iconst (v := 1) hx hb dX6_endOfPattern_203 (by decide) ?_
                        refine lv_icmp_ne (tgt := 213) hx hb dX6_endOfPattern_204 (by decide) (fun k_42 => ?_) (fun k_42 => ?_)
                        · have tk_42 := c_ne (a := sd.toInt) (b := 1) rfl (by decide) k_42
                          refine lv_aload_n hx hb dX6_endOfPattern_213 rfl (lv_at hl 5 rfl) ?_
                          refine lv_iconst (v := 1) hx hb dX6_endOfPattern_214 (by decide) ?_
                          refine lv_iload hx hb dX6_endOfPattern_215 (lv_at hl 1 rfl) ?_
                          have hPc := hP.sub (ws' := [(rd, .inr (6, rF r fa fb a2 a3 a4 a5 a6 a7))]) [0] rfl
                          have hKc := hK.sub (tys' := []) [] rfl
                          have hDc := hD.sub (ws' := [(rd, .inr (6, rF r fa fb a2 a3 a4 a5 a6 a7))]) [0] (by decide) rfl
                          have hFc := va_free (wc := [(rd, .inr (6, rF r fa fb a2 a3 a4 a5 a6 a7))]) hD hS hA [0] rfl
                          refine va_callv (va_runV (As := [.int 1, .int ax]) (rest := []) ⟨hx, hb, hml, hown, hts⟩ (s_fail l dC dI rd r fa fb a2 a3 a4 a5 a6 a7 H.size 1 ax) (cwV 2 hts mg_X6_endOfPatternq_X6_fail_71 rfl rfl rfl (by decide +kernel) ⟨Nat.le_of_ble_eq_true rfl, Nat.le_of_ble_eq_true rfl⟩) ⟨fun a U g mk q => by obtain ⟨q0, q1, qP, qK, qD⟩ := q; exact ⟨q0, q1, qP, va_K.moved (u := U) (U := U.calling g mk a) (Vm.Alike.refl U.vm) qK, qD⟩, va_recv hKc hPc (ci := 6) (q0 := 0) rfl rfl, fun U hU hW => ⟨rfl, by rw [hU], by rw [hU]; exact hPc, va_K.moved hW.alike hKc, hDc.weaken (fun _ _ _ _ => trivial)⟩⟩ rfl rfl hl.1 rfl (lv_room (Nat.le_of_ble_eq_true rfl)) dX6_endOfPattern_217 ⟨Nat.le_of_ble_eq_true rfl, Nat.le_of_ble_eq_true rfl⟩) hS (fun q _ h => hFc q h) hFc (fun u t H1 locs ht hvm hw hB hz1 hk1 hS => ?_)
                          obtain ⟨hP1, hK1, hD1⟩ := hB
                          rw [ht] at hP1
                          obtain ⟨hP, hD⟩ := va_join (wr := [(ta, .inl (cT, nb, .inl ft))]) (w1 := [(rd, .inr (6, rF r 1 ax a2 a3 a4 a5 a6 a7))]) hP hD [0] [1] rfl rfl (by decide) (by decide) hk1 hFc hP1 hD1
                          generalize H1 = H at hP hS ⊢
                          have hP : va_P (dC, dI) vwCl [(ta, .inl (cT, nb, .inl ft)), (rd, .inr (6, rF r 1 ax a2 a3 a4 a5 a6 a7))] H := hP
                          have hD : va_D A [(ta, .inl (cT, nb, .inl ft)), (rd, .inr (6, rF r 1 ax a2 a3 a4 a5 a6 a7))] := hD
                          refine lv_aload_n hx hb dX6_endOfPattern_220 rfl (lv_at hl 5 rfl) ?_
                          refine va_get (D := (dC, dI)) (ci := 6) (v := .int 1) (C := RX6) (T := TX6) (N := 11) hx hb hts fin_X6_endOfPatternq_X6 hown hK hP 1 rfl rfl 0 (by decide) (hts (.fieldLink RX6 22 "PatternGate$Reader" "faultKind" "I") (List.mem_of_getElem? (i := 7) (by decide +kernel))) (fun _ h9 => h9) rfl dX6_endOfPattern_221 ?_
                          refine lv_if_eq (tgt := 230) hx hb dX6_endOfPattern_224 (by decide) (fun k_45 => absurd k_45 (by decide)) (fun k_45 => ?_)
                          have tk_45 := c_ne (a := 1) (b := 0) (by decide) (by decide) k_45
                          refine lv_iload hx hb dX6_endOfPattern_227 (lv_at hl 1 rfl) ?_
                          have hP9 := hP.sub (ws' := [(rd, .inr (6, rF r 1 ax a2 a3 a4 a5 a6 a7)), (ta, .inl (cT, nb, .inl ft))]) [1, 0] rfl
                          have hD9 := hD.sub (ws' := [(rd, .inr (6, rF r 1 ax a2 a3 a4 a5 a6 a7)), (ta, .inl (cT, nb, .inl ft))]) [1, 0] (by decide) rfl
                          have hK9 := hK.sub (tys' := [(cT, .int)]) [0] rfl
                          exact W.iret hx hb hr (fun t ht hW => ⟨⟨_, ax, rfl, ⟨rfl, by omega⟩, 1, ax, (dP_f v12_1 (fun d p => mv_px (by unfold isAt; omega) (by omega)) (by decide)), by rw [ht]; exact hP9, va_K.moved hW.alike hK9, hD9⟩, hS.F ht⟩) hS.2.2 dX6_endOfPattern_229
                        · have tk_42 := c_eq (a := sd.toInt) (b := 1) rfl (by decide) k_42
                          refine lv_iconst (v := 2) hx hb dX6_endOfPattern_207 (by decide) ?_
                          refine lv_istore (lv' := [(6, .int 2), (8, .int y_4), (7, .int ax), (5, .int op), (4, .int sp), (0, .ref rd), (1, .ref ta), (2, .int i8), (3, .int i9)]) hx hb dX6_endOfPattern_208 hl (by decide) rfl (fun ls hl => ?_)
                          refine lv_goto (tgt := 220) hx hb dX6_endOfPattern_210 (by decide) ?_
                          refine lv_aload_n hx hb dX6_endOfPattern_220 rfl (lv_at hl 5 rfl) ?_
                          refine va_get (D := (dC, dI)) (ci := 6) (v := .int fa) (C := RX6) (T := TX6) (N := 11) hx hb hts fin_X6_endOfPatternq_X6 hown hK hP 0 rfl rfl 0 (by decide) (hts (.fieldLink RX6 22 "PatternGate$Reader" "faultKind" "I") (List.mem_of_getElem? (i := 7) (by decide +kernel))) (fun _ h9 => h9) rfl dX6_endOfPattern_221 ?_
                          refine lv_if_eq (tgt := 230) hx hb dX6_endOfPattern_224 (by decide) (fun k_46 => ?_) (fun k_46 => absurd (Int32.toInt_inj.mp (v12_2.trans (by decide))) k_46)
                          have tk_46 := c_eq (a := fa.toInt) (b := 0) rfl (by decide) k_46
                          obtain ⟨y_47, ey_47⟩ : ∃ y : Int32, y = ax + 1 := ⟨_, rfl⟩
                          first | have ty_47 := i_add (a := ax.toInt) (b := 1) rfl (by decide) ey_47 (by omega) (by omega) | skip
                          refine lv_iinc (v := y_47) (lv' := [(7, .int y_47), (6, .int 2), (8, .int y_4), (5, .int op), (4, .int sp), (0, .ref rd), (1, .ref ta), (2, .int i8), (3, .int i9)]) hx hb dX6_endOfPattern_230 hl (k := 2) rfl (by rw [ey_47]; rfl) (by decide) rfl (fun ls hl => ?_)
                          refine lv_goto (tgt := 12) hx hb dX6_endOfPattern_233 (by decide) ?_
                          have lit_47 : (2 : Int32).toInt = 2 := by decide
                          exact ih12 sp op 2 y_47 fa fb (by first | omega | assumption | decide) (dP_next v12_1 (fun d p => by rw [show sd.toInt = 1 by omega]; rw [show y_47.toInt = ax.toInt + 1 by omega, show (2 : Int32).toInt = 2 by decide]; exact mv_pg (by unfold isQu; omega))) (by first | omega | assumption | decide) (by first | omega | assumption | decide) (by first | omega | assumption | decide) (by omega) _ _ ls hP hD hS (lv_sub hl [0, 1, 3, 4, 5, 6, 7, 8] rfl)
                    · have tk_35 := c_eq (a := y_4.toInt) (b := 41) rfl (by decide) k_35
                      refine lv_iload hx hb dX6_endOfPattern_174 (lv_at hl 3 rfl) ?_
                      refine lv_if_le (tgt := 193) hx hb dX6_endOfPattern_176 (by decide) (fun k_49 => ?_) (fun k_49 => ?_)
                      · have tk_49 := c_le (a := op.toInt) (b := 0) rfl (by decide) k_49
                        refine lv_iload hx hb dX6_endOfPattern_193 (lv_at hl 0 rfl) ?_
                        refine vp_callSi (W.runS (As := [.int y_4]) (rest := []) ⟨hx, hb, hml, hown, hts⟩ (s_isSign_q l dC dI y_4) (va_cwS 1 hts mg_X6_endOfPatternq_X6_isSign_102 rfl rfl rfl (by decide +kernel) ⟨Nat.le_of_ble_eq_true rfl, Nat.le_of_ble_eq_true rfl⟩) ⟨fun a U g mk q => ⟨q.1, trivial⟩, fun U hU hW => ⟨rfl, trivial⟩⟩ rfl rfl hl.1 rfl (lv_room (Nat.le_of_ble_eq_true rfl)) dX6_endOfPattern_195 ⟨Nat.le_of_ble_eq_true rfl, Nat.le_of_ble_eq_true rfl⟩) (fun r_51 hw => ?_)
                        have hr_51 := hw
                        refine lv_if_eq (tgt := 213) hx hb dX6_endOfPattern_198 (by decide) (fun k_52 => ?_) (fun k_52 => ?_)
                        · have tk_52 := c_eq (a := r_51.toInt) (b := 0) rfl (by decide) k_52
                          refine lv_aload_n hx hb dX6_endOfPattern_213 rfl (lv_at hl 5 rfl) ?_
                          refine lv_iconst (v := 1) hx hb dX6_endOfPattern_214 (by decide) ?_
                          refine lv_iload hx hb dX6_endOfPattern_215 (lv_at hl 1 rfl) ?_
                          have hPc := hP.sub (ws' := [(rd, .inr (6, rF r fa fb a2 a3 a4 a5 a6 a7))]) [0] rfl
                          have hKc := hK.sub (tys' := []) [] rfl
                          have hDc := hD.sub (ws' := [(rd, .inr (6, rF r fa fb a2 a3 a4 a5 a6 a7))]) [0] (by decide) rfl
                          have hFc := va_free (wc := [(rd, .inr (6, rF r fa fb a2 a3 a4 a5 a6 a7))]) hD hS hA [0] rfl
                          refine va_callv (va_runV (As := [.int 1, .int ax]) (rest := []) ⟨hx, hb, hml, hown, hts⟩ (s_fail l dC dI rd r fa fb a2 a3 a4 a5 a6 a7 H.size 1 ax) (cwV 2 hts mg_X6_endOfPatternq_X6_fail_71 rfl rfl rfl (by decide +kernel) ⟨Nat.le_of_ble_eq_true rfl, Nat.le_of_ble_eq_true rfl⟩) ⟨fun a U g mk q => by obtain ⟨q0, q1, qP, qK, qD⟩ := q; exact ⟨q0, q1, qP, va_K.moved (u := U) (U := U.calling g mk a) (Vm.Alike.refl U.vm) qK, qD⟩, va_recv hKc hPc (ci := 6) (q0 := 0) rfl rfl, fun U hU hW => ⟨rfl, by rw [hU], by rw [hU]; exact hPc, va_K.moved hW.alike hKc, hDc.weaken (fun _ _ _ _ => trivial)⟩⟩ rfl rfl hl.1 rfl (lv_room (Nat.le_of_ble_eq_true rfl)) dX6_endOfPattern_217 ⟨Nat.le_of_ble_eq_true rfl, Nat.le_of_ble_eq_true rfl⟩) hS (fun q _ h => hFc q h) hFc (fun u t H1 locs ht hvm hw hB hz1 hk1 hS => ?_)
                          obtain ⟨hP1, hK1, hD1⟩ := hB
                          rw [ht] at hP1
                          obtain ⟨hP, hD⟩ := va_join (wr := [(ta, .inl (cT, nb, .inl ft))]) (w1 := [(rd, .inr (6, rF r 1 ax a2 a3 a4 a5 a6 a7))]) hP hD [0] [1] rfl rfl (by decide) (by decide) hk1 hFc hP1 hD1
                          generalize H1 = H at hP hS ⊢
                          have hP : va_P (dC, dI) vwCl [(ta, .inl (cT, nb, .inl ft)), (rd, .inr (6, rF r 1 ax a2 a3 a4 a5 a6 a7))] H := hP
                          have hD : va_D A [(ta, .inl (cT, nb, .inl ft)), (rd, .inr (6, rF r 1 ax a2 a3 a4 a5 a6 a7))] := hD
                          refine lv_aload_n hx hb dX6_endOfPattern_220 rfl (lv_at hl 5 rfl) ?_
                          refine va_get (D := (dC, dI)) (ci := 6) (v := .int 1) (C := RX6) (T := TX6) (N := 11) hx hb hts fin_X6_endOfPatternq_X6 hown hK hP 1 rfl rfl 0 (by decide) (hts (.fieldLink RX6 22 "PatternGate$Reader" "faultKind" "I") (List.mem_of_getElem? (i := 7) (by decide +kernel))) (fun _ h9 => h9) rfl dX6_endOfPattern_221 ?_
                          refine lv_if_eq (tgt := 230) hx hb dX6_endOfPattern_224 (by decide) (fun k_55 => absurd k_55 (by decide)) (fun k_55 => ?_)
                          have tk_55 := c_ne (a := 1) (b := 0) (by decide) (by decide) k_55
                          refine lv_iload hx hb dX6_endOfPattern_227 (lv_at hl 1 rfl) ?_
                          have hP9 := hP.sub (ws' := [(rd, .inr (6, rF r 1 ax a2 a3 a4 a5 a6 a7)), (ta, .inl (cT, nb, .inl ft))]) [1, 0] rfl
                          have hD9 := hD.sub (ws' := [(rd, .inr (6, rF r 1 ax a2 a3 a4 a5 a6 a7)), (ta, .inl (cT, nb, .inl ft))]) [1, 0] (by decide) rfl
                          have hK9 := hK.sub (tys' := [(cT, .int)]) [0] rfl
                          exact W.iret hx hb hr (fun t ht hW => ⟨⟨_, ax, rfl, ⟨rfl, by omega⟩, 1, ax, (dP_f v12_1 (fun d p => mv_px (by unfold isAt; omega) (by omega)) (by decide)), by rw [ht]; exact hP9, va_K.moved hW.alike hK9, hD9⟩, hS.F ht⟩) hS.2.2 dX6_endOfPattern_229
                        · have tk_52 := c_ne (a := r_51.toInt) (b := 0) rfl (by decide) k_52
                          refine lv_iload hx hb dX6_endOfPattern_201 (lv_at hl 2 rfl) ?_
                          refine lv_iconst (v := 1) hx hb dX6_endOfPattern_203 (by decide) ?_
                          refine lv_icmp_ne (tgt := 213) hx hb dX6_endOfPattern_204 (by decide) (fun k_56 => ?_) (fun k_56 => ?_)
                          · have tk_56 := c_ne (a := sd.toInt) (b := 1) rfl (by decide) k_56
                            refine lv_aload_n hx hb dX6_endOfPattern_213 rfl (lv_at hl 5 rfl) ?_
                            refine lv_iconst (v := 1) hx hb dX6_endOfPattern_214 (by decide) ?_
                            refine lv_iload hx hb dX6_endOfPattern_215 (lv_at hl 1 rfl) ?_
                            have hPc := hP.sub (ws' := [(rd, .inr (6, rF r fa fb a2 a3 a4 a5 a6 a7))]) [0] rfl
                            have hKc := hK.sub (tys' := []) [] rfl
                            have hDc := hD.sub (ws' := [(rd, .inr (6, rF r fa fb a2 a3 a4 a5 a6 a7))]) [0] (by decide) rfl
                            have hFc := va_free (wc := [(rd, .inr (6, rF r fa fb a2 a3 a4 a5 a6 a7))]) hD hS hA [0] rfl
                            refine va_callv (va_runV (As := [.int 1, .int ax]) (rest := []) ⟨hx, hb, hml, hown, hts⟩ (s_fail l dC dI rd r fa fb a2 a3 a4 a5 a6 a7 H.size 1 ax) (cwV 2 hts mg_X6_endOfPatternq_X6_fail_71 rfl rfl rfl (by decide +kernel) ⟨Nat.le_of_ble_eq_true rfl, Nat.le_of_ble_eq_true rfl⟩) ⟨fun a U g mk q => by obtain ⟨q0, q1, qP, qK, qD⟩ := q; exact ⟨q0, q1, qP, va_K.moved (u := U) (U := U.calling g mk a) (Vm.Alike.refl U.vm) qK, qD⟩, va_recv hKc hPc (ci := 6) (q0 := 0) rfl rfl, fun U hU hW => ⟨rfl, by rw [hU], by rw [hU]; exact hPc, va_K.moved hW.alike hKc, hDc.weaken (fun _ _ _ _ => trivial)⟩⟩ rfl rfl hl.1 rfl (lv_room (Nat.le_of_ble_eq_true rfl)) dX6_endOfPattern_217 ⟨Nat.le_of_ble_eq_true rfl, Nat.le_of_ble_eq_true rfl⟩) hS (fun q _ h => hFc q h) hFc (fun u t H1 locs ht hvm hw hB hz1 hk1 hS => ?_)
                            obtain ⟨hP1, hK1, hD1⟩ := hB
                            rw [ht] at hP1
                            obtain ⟨hP, hD⟩ := va_join (wr := [(ta, .inl (cT, nb, .inl ft))]) (w1 := [(rd, .inr (6, rF r 1 ax a2 a3 a4 a5 a6 a7))]) hP hD [0] [1] rfl rfl (by decide) (by decide) hk1 hFc hP1 hD1
                            generalize H1 = H at hP hS ⊢
                            have hP : va_P (dC, dI) vwCl [(ta, .inl (cT, nb, .inl ft)), (rd, .inr (6, rF r 1 ax a2 a3 a4 a5 a6 a7))] H := hP
                            have hD : va_D A [(ta, .inl (cT, nb, .inl ft)), (rd, .inr (6, rF r 1 ax a2 a3 a4 a5 a6 a7))] := hD
                            refine lv_aload_n hx hb dX6_endOfPattern_220 rfl (lv_at hl 5 rfl) ?_
                            refine va_get (D := (dC, dI)) (ci := 6) (v := .int 1) (C := RX6) (T := TX6) (N := 11) hx hb hts fin_X6_endOfPatternq_X6 hown hK hP 1 rfl rfl 0 (by decide) (hts (.fieldLink RX6 22 "PatternGate$Reader" "faultKind" "I") (List.mem_of_getElem? (i := 7) (by decide +kernel))) (fun _ h9 => h9) rfl dX6_endOfPattern_221 ?_
                            refine lv_if_eq (tgt := 230) hx hb dX6_endOfPattern_224 (by decide) (fun k_59 => absurd k_59 (by decide)) (fun k_59 => ?_)
                            have tk_59 := c_ne (a := 1) (b := 0) (by decide) (by decide) k_59
                            refine lv_iload hx hb dX6_endOfPattern_227 (lv_at hl 1 rfl) ?_
                            have hP9 := hP.sub (ws' := [(rd, .inr (6, rF r 1 ax a2 a3 a4 a5 a6 a7)), (ta, .inl (cT, nb, .inl ft))]) [1, 0] rfl
                            have hD9 := hD.sub (ws' := [(rd, .inr (6, rF r 1 ax a2 a3 a4 a5 a6 a7)), (ta, .inl (cT, nb, .inl ft))]) [1, 0] (by decide) rfl
                            have hK9 := hK.sub (tys' := [(cT, .int)]) [0] rfl
                            exact W.iret hx hb hr (fun t ht hW => ⟨⟨_, ax, rfl, ⟨rfl, by omega⟩, 1, ax, (dP_f v12_1 (fun d p => mv_px (by unfold isAt; omega) (by omega)) (by decide)), by rw [ht]; exact hP9, va_K.moved hW.alike hK9, hD9⟩, hS.F ht⟩) hS.2.2 dX6_endOfPattern_229
                          · have tk_56 := c_eq (a := sd.toInt) (b := 1) rfl (by decide) k_56
                            refine lv_iconst (v := 2) hx hb dX6_endOfPattern_207 (by decide) ?_
                            refine lv_istore (lv' := [(6, .int 2), (8, .int y_4), (7, .int ax), (5, .int op), (4, .int sp), (0, .ref rd), (1, .ref ta), (2, .int i8), (3, .int i9)]) hx hb dX6_endOfPattern_208 hl (by decide) rfl (fun ls hl => ?_)
                            refine lv_goto (tgt := 220) hx hb dX6_endOfPattern_210 (by decide) ?_
                            refine lv_aload_n hx hb dX6_endOfPattern_220 rfl (lv_at hl 5 rfl) ?_
                            refine va_get (D := (dC, dI)) (ci := 6) (v := .int fa) (C := RX6) (T := TX6) (N := 11) hx hb hts fin_X6_endOfPatternq_X6 hown hK hP 0 rfl rfl 0 (by decide) (hts (.fieldLink RX6 22 "PatternGate$Reader" "faultKind" "I") (List.mem_of_getElem? (i := 7) (by decide +kernel))) (fun _ h9 => h9) rfl dX6_endOfPattern_221 ?_
                            refine lv_if_eq (tgt := 230) hx hb dX6_endOfPattern_224 (by decide) (fun k_60 => ?_) (fun k_60 => absurd (Int32.toInt_inj.mp (v12_2.trans (by decide))) k_60)
                            have tk_60 := c_eq (a := fa.toInt) (b := 0) rfl (by decide) k_60
                            obtain ⟨y_61, ey_61⟩ : ∃ y : Int32, y = ax + 1 := ⟨_, rfl⟩
                            first | have ty_61 := i_add (a := ax.toInt) (b := 1) rfl (by decide) ey_61 (by omega) (by omega) | skip
                            refine lv_iinc (v := y_61) (lv' := [(7, .int y_61), (6, .int 2), (8, .int y_4), (5, .int op), (4, .int sp), (0, .ref rd), (1, .ref ta), (2, .int i8), (3, .int i9)]) hx hb dX6_endOfPattern_230 hl (k := 2) rfl (by rw [ey_61]; rfl) (by decide) rfl (fun ls hl => ?_)
                            refine lv_goto (tgt := 12) hx hb dX6_endOfPattern_233 (by decide) ?_
                            have lit_61 : (2 : Int32).toInt = 2 := by decide
                            exact ih12 sp op 2 y_61 fa fb (by first | omega | assumption | decide) (dP_next v12_1 (fun d p => by rw [show sd.toInt = 1 by omega]; rw [show y_61.toInt = ax.toInt + 1 by omega, show (2 : Int32).toInt = 2 by decide]; exact mv_pg (by unfold isQu; omega))) (by first | omega | assumption | decide) (by first | omega | assumption | decide) (by first | omega | assumption | decide) (by omega) _ _ ls hP hD hS (lv_sub hl [0, 1, 3, 4, 5, 6, 7, 8] rfl)
                      · have tk_49 := c_nle (a := op.toInt) (b := 0) rfl (by decide) k_49
                        refine lv_iload hx hb dX6_endOfPattern_179 (lv_at hl 2 rfl) ?_
                        refine lv_if_eq (tgt := 193) hx hb dX6_endOfPattern_181 (by decide) (fun k_63 => ?_) (fun k_63 => ?_)
                        · have tk_63 := c_eq (a := sd.toInt) (b := 0) rfl (by decide) k_63
                          refine lv_iload hx hb dX6_endOfPattern_193 (lv_at hl 0 rfl) ?_
                          refine vp_callSi (W.runS (As := [.int y_4]) (rest := []) ⟨hx, hb, hml, hown, hts⟩ (s_isSign_q l dC dI y_4) (va_cwS 1 hts mg_X6_endOfPatternq_X6_isSign_102 rfl rfl rfl (by decide +kernel) ⟨Nat.le_of_ble_eq_true rfl, Nat.le_of_ble_eq_true rfl⟩) ⟨fun a U g mk q => ⟨q.1, trivial⟩, fun U hU hW => ⟨rfl, trivial⟩⟩ rfl rfl hl.1 rfl (lv_room (Nat.le_of_ble_eq_true rfl)) dX6_endOfPattern_195 ⟨Nat.le_of_ble_eq_true rfl, Nat.le_of_ble_eq_true rfl⟩) (fun r_65 hw => ?_)
                          have hr_65 := hw
                          refine lv_if_eq (tgt := 213) hx hb dX6_endOfPattern_198 (by decide) (fun k_66 => ?_) (fun k_66 => ?_)
                          · have tk_66 := c_eq (a := r_65.toInt) (b := 0) rfl (by decide) k_66
                            refine lv_aload_n hx hb dX6_endOfPattern_213 rfl (lv_at hl 5 rfl) ?_
                            refine lv_iconst (v := 1) hx hb dX6_endOfPattern_214 (by decide) ?_
                            refine lv_iload hx hb dX6_endOfPattern_215 (lv_at hl 1 rfl) ?_
                            have hPc := hP.sub (ws' := [(rd, .inr (6, rF r fa fb a2 a3 a4 a5 a6 a7))]) [0] rfl
                            have hKc := hK.sub (tys' := []) [] rfl
                            have hDc := hD.sub (ws' := [(rd, .inr (6, rF r fa fb a2 a3 a4 a5 a6 a7))]) [0] (by decide) rfl
                            have hFc := va_free (wc := [(rd, .inr (6, rF r fa fb a2 a3 a4 a5 a6 a7))]) hD hS hA [0] rfl
                            refine va_callv (va_runV (As := [.int 1, .int ax]) (rest := []) ⟨hx, hb, hml, hown, hts⟩ (s_fail l dC dI rd r fa fb a2 a3 a4 a5 a6 a7 H.size 1 ax) (cwV 2 hts mg_X6_endOfPatternq_X6_fail_71 rfl rfl rfl (by decide +kernel) ⟨Nat.le_of_ble_eq_true rfl, Nat.le_of_ble_eq_true rfl⟩) ⟨fun a U g mk q => by obtain ⟨q0, q1, qP, qK, qD⟩ := q; exact ⟨q0, q1, qP, va_K.moved (u := U) (U := U.calling g mk a) (Vm.Alike.refl U.vm) qK, qD⟩, va_recv hKc hPc (ci := 6) (q0 := 0) rfl rfl, fun U hU hW => ⟨rfl, by rw [hU], by rw [hU]; exact hPc, va_K.moved hW.alike hKc, hDc.weaken (fun _ _ _ _ => trivial)⟩⟩ rfl rfl hl.1 rfl (lv_room (Nat.le_of_ble_eq_true rfl)) dX6_endOfPattern_217 ⟨Nat.le_of_ble_eq_true rfl, Nat.le_of_ble_eq_true rfl⟩) hS (fun q _ h => hFc q h) hFc (fun u t H1 locs ht hvm hw hB hz1 hk1 hS => ?_)
                            obtain ⟨hP1, hK1, hD1⟩ := hB
                            rw [ht] at hP1
                            obtain ⟨hP, hD⟩ := va_join (wr := [(ta, .inl (cT, nb, .inl ft))]) (w1 := [(rd, .inr (6, rF r 1 ax a2 a3 a4 a5 a6 a7))]) hP hD [0] [1] rfl rfl (by decide) (by decide) hk1 hFc hP1 hD1
                            generalize H1 = H at hP hS ⊢
                            have hP : va_P (dC, dI) vwCl [(ta, .inl (cT, nb, .inl ft)), (rd, .inr (6, rF r 1 ax a2 a3 a4 a5 a6 a7))] H := hP
                            have hD : va_D A [(ta, .inl (cT, nb, .inl ft)), (rd, .inr (6, rF r 1 ax a2 a3 a4 a5 a6 a7))] := hD
                            refine lv_aload_n hx hb dX6_endOfPattern_220 rfl (lv_at hl 5 rfl) ?_
                            refine va_get (D := (dC, dI)) (ci := 6) (v := .int 1) (C := RX6) (T := TX6) (N := 11) hx hb hts fin_X6_endOfPatternq_X6 hown hK hP 1 rfl rfl 0 (by decide) (hts (.fieldLink RX6 22 "PatternGate$Reader" "faultKind" "I") (List.mem_of_getElem? (i := 7) (by decide +kernel))) (fun _ h9 => h9) rfl dX6_endOfPattern_221 ?_
                            refine lv_if_eq (tgt := 230) hx hb dX6_endOfPattern_224 (by decide) (fun k_69 => absurd k_69 (by decide)) (fun k_69 => ?_)
                            have tk_69 := c_ne (a := 1) (b := 0) (by decide) (by decide) k_69
                            refine lv_iload hx hb dX6_endOfPattern_227 (lv_at hl 1 rfl) ?_
                            have hP9 := hP.sub (ws' := [(rd, .inr (6, rF r 1 ax a2 a3 a4 a5 a6 a7)), (ta, .inl (cT, nb, .inl ft))]) [1, 0] rfl
                            have hD9 := hD.sub (ws' := [(rd, .inr (6, rF r 1 ax a2 a3 a4 a5 a6 a7)), (ta, .inl (cT, nb, .inl ft))]) [1, 0] (by decide) rfl
                            have hK9 := hK.sub (tys' := [(cT, .int)]) [0] rfl
                            exact W.iret hx hb hr (fun t ht hW => ⟨⟨_, ax, rfl, ⟨rfl, by omega⟩, 1, ax, (dP_f v12_1 (fun d p => mv_px (by unfold isAt; omega) (by omega)) (by decide)), by rw [ht]; exact hP9, va_K.moved hW.alike hK9, hD9⟩, hS.F ht⟩) hS.2.2 dX6_endOfPattern_229
                          · have tk_66 := c_ne (a := r_65.toInt) (b := 0) rfl (by decide) k_66
                            refine lv_iload hx hb dX6_endOfPattern_201 (lv_at hl 2 rfl) ?_
                            refine lv_iconst (v := 1) hx hb dX6_endOfPattern_203 (by decide) ?_
                            refine lv_icmp_ne (tgt := 213) hx hb dX6_endOfPattern_204 (by decide) (fun k_70 => ?_) (fun k_70 => ?_)
                            · have tk_70 := c_ne (a := sd.toInt) (b := 1) rfl (by decide) k_70
                              refine lv_aload_n hx hb dX6_endOfPattern_213 rfl (lv_at hl 5 rfl) ?_
                              refine lv_iconst (v := 1) hx hb dX6_endOfPattern_214 (by decide) ?_
                              refine lv_iload hx hb dX6_endOfPattern_215 (lv_at hl 1 rfl) ?_
                              have hPc := hP.sub (ws' := [(rd, .inr (6, rF r fa fb a2 a3 a4 a5 a6 a7))]) [0] rfl
                              have hKc := hK.sub (tys' := []) [] rfl
                              have hDc := hD.sub (ws' := [(rd, .inr (6, rF r fa fb a2 a3 a4 a5 a6 a7))]) [0] (by decide) rfl
                              have hFc := va_free (wc := [(rd, .inr (6, rF r fa fb a2 a3 a4 a5 a6 a7))]) hD hS hA [0] rfl
                              refine va_callv (va_runV (As := [.int 1, .int ax]) (rest := []) ⟨hx, hb, hml, hown, hts⟩ (s_fail l dC dI rd r fa fb a2 a3 a4 a5 a6 a7 H.size 1 ax) (cwV 2 hts mg_X6_endOfPatternq_X6_fail_71 rfl rfl rfl (by decide +kernel) ⟨Nat.le_of_ble_eq_true rfl, Nat.le_of_ble_eq_true rfl⟩) ⟨fun a U g mk q => by obtain ⟨q0, q1, qP, qK, qD⟩ := q; exact ⟨q0, q1, qP, va_K.moved (u := U) (U := U.calling g mk a) (Vm.Alike.refl U.vm) qK, qD⟩, va_recv hKc hPc (ci := 6) (q0 := 0) rfl rfl, fun U hU hW => ⟨rfl, by rw [hU], by rw [hU]; exact hPc, va_K.moved hW.alike hKc, hDc.weaken (fun _ _ _ _ => trivial)⟩⟩ rfl rfl hl.1 rfl (lv_room (Nat.le_of_ble_eq_true rfl)) dX6_endOfPattern_217 ⟨Nat.le_of_ble_eq_true rfl, Nat.le_of_ble_eq_true rfl⟩) hS (fun q _ h => hFc q h) hFc (fun u t H1 locs ht hvm hw hB hz1 hk1 hS => ?_)
                              obtain ⟨hP1, hK1, hD1⟩ := hB
                              rw [ht] at hP1
                              obtain ⟨hP, hD⟩ := va_join (wr := [(ta, .inl (cT, nb, .inl ft))]) (w1 := [(rd, .inr (6, rF r 1 ax a2 a3 a4 a5 a6 a7))]) hP hD [0] [1] rfl rfl (by decide) (by decide) hk1 hFc hP1 hD1
                              generalize H1 = H at hP hS ⊢
                              have hP : va_P (dC, dI) vwCl [(ta, .inl (cT, nb, .inl ft)), (rd, .inr (6, rF r 1 ax a2 a3 a4 a5 a6 a7))] H := hP
                              have hD : va_D A [(ta, .inl (cT, nb, .inl ft)), (rd, .inr (6, rF r 1 ax a2 a3 a4 a5 a6 a7))] := hD
                              refine lv_aload_n hx hb dX6_endOfPattern_220 rfl (lv_at hl 5 rfl) ?_
                              refine va_get (D := (dC, dI)) (ci := 6) (v := .int 1) (C := RX6) (T := TX6) (N := 11) hx hb hts fin_X6_endOfPatternq_X6 hown hK hP 1 rfl rfl 0 (by decide) (hts (.fieldLink RX6 22 "PatternGate$Reader" "faultKind" "I") (List.mem_of_getElem? (i := 7) (by decide +kernel))) (fun _ h9 => h9) rfl dX6_endOfPattern_221 ?_
                              refine lv_if_eq (tgt := 230) hx hb dX6_endOfPattern_224 (by decide) (fun k_73 => absurd k_73 (by decide)) (fun k_73 => ?_)
                              have tk_73 := c_ne (a := 1) (b := 0) (by decide) (by decide) k_73
                              refine lv_iload hx hb dX6_endOfPattern_227 (lv_at hl 1 rfl) ?_
                              have hP9 := hP.sub (ws' := [(rd, .inr (6, rF r 1 ax a2 a3 a4 a5 a6 a7)), (ta, .inl (cT, nb, .inl ft))]) [1, 0] rfl
                              have hD9 := hD.sub (ws' := [(rd, .inr (6, rF r 1 ax a2 a3 a4 a5 a6 a7)), (ta, .inl (cT, nb, .inl ft))]) [1, 0] (by decide) rfl
                              have hK9 := hK.sub (tys' := [(cT, .int)]) [0] rfl
                              exact W.iret hx hb hr (fun t ht hW => ⟨⟨_, ax, rfl, ⟨rfl, by omega⟩, 1, ax, (dP_f v12_1 (fun d p => mv_px (by unfold isAt; omega) (by omega)) (by decide)), by rw [ht]; exact hP9, va_K.moved hW.alike hK9, hD9⟩, hS.F ht⟩) hS.2.2 dX6_endOfPattern_229
                            · have tk_70 := c_eq (a := sd.toInt) (b := 1) rfl (by decide) k_70
                              refine lv_iconst (v := 2) hx hb dX6_endOfPattern_207 (by decide) ?_
                              refine lv_istore (lv' := [(6, .int 2), (8, .int y_4), (7, .int ax), (5, .int op), (4, .int sp), (0, .ref rd), (1, .ref ta), (2, .int i8), (3, .int i9)]) hx hb dX6_endOfPattern_208 hl (by decide) rfl (fun ls hl => ?_)
                              refine lv_goto (tgt := 220) hx hb dX6_endOfPattern_210 (by decide) ?_
                              refine lv_aload_n hx hb dX6_endOfPattern_220 rfl (lv_at hl 5 rfl) ?_
                              refine va_get (D := (dC, dI)) (ci := 6) (v := .int fa) (C := RX6) (T := TX6) (N := 11) hx hb hts fin_X6_endOfPatternq_X6 hown hK hP 0 rfl rfl 0 (by decide) (hts (.fieldLink RX6 22 "PatternGate$Reader" "faultKind" "I") (List.mem_of_getElem? (i := 7) (by decide +kernel))) (fun _ h9 => h9) rfl dX6_endOfPattern_221 ?_
                              refine lv_if_eq (tgt := 230) hx hb dX6_endOfPattern_224 (by decide) (fun k_74 => ?_) (fun k_74 => absurd (Int32.toInt_inj.mp (v12_2.trans (by decide))) k_74)
                              have tk_74 := c_eq (a := fa.toInt) (b := 0) rfl (by decide) k_74
                              obtain ⟨y_75, ey_75⟩ : ∃ y : Int32, y = ax + 1 := ⟨_, rfl⟩
                              first | have ty_75 := i_add (a := ax.toInt) (b := 1) rfl (by decide) ey_75 (by omega) (by omega) | skip
                              refine lv_iinc (v := y_75) (lv' := [(7, .int y_75), (6, .int 2), (8, .int y_4), (5, .int op), (4, .int sp), (0, .ref rd), (1, .ref ta), (2, .int i8), (3, .int i9)]) hx hb dX6_endOfPattern_230 hl (k := 2) rfl (by rw [ey_75]; rfl) (by decide) rfl (fun ls hl => ?_)
                              refine lv_goto (tgt := 12) hx hb dX6_endOfPattern_233 (by decide) ?_
                              have lit_75 : (2 : Int32).toInt = 2 := by decide
                              exact ih12 sp op 2 y_75 fa fb (by first | omega | assumption | decide) (dP_next v12_1 (fun d p => by rw [show sd.toInt = 1 by omega]; rw [show y_75.toInt = ax.toInt + 1 by omega, show (2 : Int32).toInt = 2 by decide]; exact mv_pg (by unfold isQu; omega))) (by first | omega | assumption | decide) (by first | omega | assumption | decide) (by first | omega | assumption | decide) (by omega) _ _ ls hP hD hS (lv_sub hl [0, 1, 3, 4, 5, 6, 7, 8] rfl)
                        · have tk_63 := c_ne (a := sd.toInt) (b := 0) rfl (by decide) k_63
                          obtain ⟨y_77, ey_77⟩ : ∃ y : Int32, y = op + (-1) := ⟨_, rfl⟩
                          first | have ty_77 := i_add (a := op.toInt) (b := (-1)) rfl (by decide) ey_77 (by omega) (by omega) | skip
                          refine lv_iinc (v := y_77) (lv' := [(5, .int y_77), (8, .int y_4), (7, .int ax), (6, .int sd), (4, .int sp), (0, .ref rd), (1, .ref ta), (2, .int i8), (3, .int i9)]) hx hb dX6_endOfPattern_184 hl (k := 3) rfl (by rw [ey_77]; rfl) (by decide) rfl (fun ls hl => ?_)
                          refine lv_iconst (v := 1) hx hb dX6_endOfPattern_187 (by decide) ?_
                          refine lv_istore (lv' := [(6, .int 1), (5, .int y_77), (8, .int y_4), (7, .int ax), (4, .int sp), (0, .ref rd), (1, .ref ta), (2, .int i8), (3, .int i9)]) hx hb dX6_endOfPattern_188 hl (by decide) rfl (fun ls hl => ?_)
                          refine lv_goto (tgt := 220) hx hb dX6_endOfPattern_190 (by decide) ?_
                          refine lv_aload_n hx hb dX6_endOfPattern_220 rfl (lv_at hl 5 rfl) ?_
                          refine va_get (D := (dC, dI)) (ci := 6) (v := .int fa) (C := RX6) (T := TX6) (N := 11) hx hb hts fin_X6_endOfPatternq_X6 hown hK hP 0 rfl rfl 0 (by decide) (hts (.fieldLink RX6 22 "PatternGate$Reader" "faultKind" "I") (List.mem_of_getElem? (i := 7) (by decide +kernel))) (fun _ h9 => h9) rfl dX6_endOfPattern_221 ?_
                          refine lv_if_eq (tgt := 230) hx hb dX6_endOfPattern_224 (by decide) (fun k_78 => ?_) (fun k_78 => absurd (Int32.toInt_inj.mp (v12_2.trans (by decide))) k_78)
                          have tk_78 := c_eq (a := fa.toInt) (b := 0) rfl (by decide) k_78
                          obtain ⟨y_79, ey_79⟩ : ∃ y : Int32, y = ax + 1 := ⟨_, rfl⟩
                          first | have ty_79 := i_add (a := ax.toInt) (b := 1) rfl (by decide) ey_79 (by omega) (by omega) | skip
                          refine lv_iinc (v := y_79) (lv' := [(7, .int y_79), (6, .int 1), (5, .int y_77), (8, .int y_4), (4, .int sp), (0, .ref rd), (1, .ref ta), (2, .int i8), (3, .int i9)]) hx hb dX6_endOfPattern_230 hl (k := 3) rfl (by rw [ey_79]; rfl) (by decide) rfl (fun ls hl => ?_)
                          refine lv_goto (tgt := 12) hx hb dX6_endOfPattern_233 (by decide) ?_
                          have lit_79 : (1 : Int32).toInt = 1 := by decide
                          exact ih12 sp y_77 1 y_79 fa fb (by first | omega | assumption | decide) (dP_next v12_1 (fun d p => by rw [show y_79.toInt = ax.toInt + 1 by omega, show y_77.toInt = op.toInt - 1 by omega, show (1 : Int32).toInt = 1 by decide]; exact mv_pc (by omega) (by omega) (by omega))) (by first | omega | assumption | decide) (by first | omega | assumption | decide) (by first | omega | assumption | decide) (by omega) _ _ ls hP hD hS (lv_sub hl [0, 1, 2, 4, 5, 6, 7, 8] rfl)
                  · have tk_34 := c_eq (a := y_4.toInt) (b := 124) rfl (by decide) k_34
                    refine lv_iload hx hb dX6_endOfPattern_156 (lv_at hl 2 rfl) ?_
                    refine lv_if_eq (tgt := 167) hx hb dX6_endOfPattern_158 (by decide) (fun k_81 => ?_) (fun k_81 => ?_)
                    · have tk_81 := c_eq (a := sd.toInt) (b := 0) rfl (by decide) k_81
                      refine lv_iload hx hb dX6_endOfPattern_167 (lv_at hl 0 rfl) ?_
                      refine lv_bipush (v := 41) hx hb dX6_endOfPattern_169 (by decide) ?_
                      refine lv_icmp_ne (tgt := 193) hx hb dX6_endOfPattern_171 (by decide) (fun k_82 => ?_) (fun k_82 => ?_)
                      · have tk_82 := c_ne (a := y_4.toInt) (b := 41) rfl (by decide) k_82
                        refine lv_iload hx hb dX6_endOfPattern_193 (lv_at hl 0 rfl) ?_
                        refine vp_callSi (W.runS (As := [.int y_4]) (rest := []) ⟨hx, hb, hml, hown, hts⟩ (s_isSign_q l dC dI y_4) (va_cwS 1 hts mg_X6_endOfPatternq_X6_isSign_102 rfl rfl rfl (by decide +kernel) ⟨Nat.le_of_ble_eq_true rfl, Nat.le_of_ble_eq_true rfl⟩) ⟨fun a U g mk q => ⟨q.1, trivial⟩, fun U hU hW => ⟨rfl, trivial⟩⟩ rfl rfl hl.1 rfl (lv_room (Nat.le_of_ble_eq_true rfl)) dX6_endOfPattern_195 ⟨Nat.le_of_ble_eq_true rfl, Nat.le_of_ble_eq_true rfl⟩) (fun r_84 hw => ?_)
                        have hr_84 := hw
                        refine lv_if_eq (tgt := 213) hx hb dX6_endOfPattern_198 (by decide) (fun k_85 => ?_) (fun k_85 => ?_)
                        · have tk_85 := c_eq (a := r_84.toInt) (b := 0) rfl (by decide) k_85
                          refine lv_aload_n hx hb dX6_endOfPattern_213 rfl (lv_at hl 5 rfl) ?_
                          refine lv_iconst (v := 1) hx hb dX6_endOfPattern_214 (by decide) ?_
                          refine lv_iload hx hb dX6_endOfPattern_215 (lv_at hl 1 rfl) ?_
                          have hPc := hP.sub (ws' := [(rd, .inr (6, rF r fa fb a2 a3 a4 a5 a6 a7))]) [0] rfl
                          have hKc := hK.sub (tys' := []) [] rfl
                          have hDc := hD.sub (ws' := [(rd, .inr (6, rF r fa fb a2 a3 a4 a5 a6 a7))]) [0] (by decide) rfl
                          have hFc := va_free (wc := [(rd, .inr (6, rF r fa fb a2 a3 a4 a5 a6 a7))]) hD hS hA [0] rfl
                          refine va_callv (va_runV (As := [.int 1, .int ax]) (rest := []) ⟨hx, hb, hml, hown, hts⟩ (s_fail l dC dI rd r fa fb a2 a3 a4 a5 a6 a7 H.size 1 ax) (cwV 2 hts mg_X6_endOfPatternq_X6_fail_71 rfl rfl rfl (by decide +kernel) ⟨Nat.le_of_ble_eq_true rfl, Nat.le_of_ble_eq_true rfl⟩) ⟨fun a U g mk q => by obtain ⟨q0, q1, qP, qK, qD⟩ := q; exact ⟨q0, q1, qP, va_K.moved (u := U) (U := U.calling g mk a) (Vm.Alike.refl U.vm) qK, qD⟩, va_recv hKc hPc (ci := 6) (q0 := 0) rfl rfl, fun U hU hW => ⟨rfl, by rw [hU], by rw [hU]; exact hPc, va_K.moved hW.alike hKc, hDc.weaken (fun _ _ _ _ => trivial)⟩⟩ rfl rfl hl.1 rfl (lv_room (Nat.le_of_ble_eq_true rfl)) dX6_endOfPattern_217 ⟨Nat.le_of_ble_eq_true rfl, Nat.le_of_ble_eq_true rfl⟩) hS (fun q _ h => hFc q h) hFc (fun u t H1 locs ht hvm hw hB hz1 hk1 hS => ?_)
                          obtain ⟨hP1, hK1, hD1⟩ := hB
                          rw [ht] at hP1
                          obtain ⟨hP, hD⟩ := va_join (wr := [(ta, .inl (cT, nb, .inl ft))]) (w1 := [(rd, .inr (6, rF r 1 ax a2 a3 a4 a5 a6 a7))]) hP hD [0] [1] rfl rfl (by decide) (by decide) hk1 hFc hP1 hD1
                          generalize H1 = H at hP hS ⊢
                          have hP : va_P (dC, dI) vwCl [(ta, .inl (cT, nb, .inl ft)), (rd, .inr (6, rF r 1 ax a2 a3 a4 a5 a6 a7))] H := hP
                          have hD : va_D A [(ta, .inl (cT, nb, .inl ft)), (rd, .inr (6, rF r 1 ax a2 a3 a4 a5 a6 a7))] := hD
                          refine lv_aload_n hx hb dX6_endOfPattern_220 rfl (lv_at hl 5 rfl) ?_
                          refine va_get (D := (dC, dI)) (ci := 6) (v := .int 1) (C := RX6) (T := TX6) (N := 11) hx hb hts fin_X6_endOfPatternq_X6 hown hK hP 1 rfl rfl 0 (by decide) (hts (.fieldLink RX6 22 "PatternGate$Reader" "faultKind" "I") (List.mem_of_getElem? (i := 7) (by decide +kernel))) (fun _ h9 => h9) rfl dX6_endOfPattern_221 ?_
                          refine lv_if_eq (tgt := 230) hx hb dX6_endOfPattern_224 (by decide) (fun k_88 => absurd k_88 (by decide)) (fun k_88 => ?_)
                          have tk_88 := c_ne (a := 1) (b := 0) (by decide) (by decide) k_88
                          refine lv_iload hx hb dX6_endOfPattern_227 (lv_at hl 1 rfl) ?_
                          have hP9 := hP.sub (ws' := [(rd, .inr (6, rF r 1 ax a2 a3 a4 a5 a6 a7)), (ta, .inl (cT, nb, .inl ft))]) [1, 0] rfl
                          have hD9 := hD.sub (ws' := [(rd, .inr (6, rF r 1 ax a2 a3 a4 a5 a6 a7)), (ta, .inl (cT, nb, .inl ft))]) [1, 0] (by decide) rfl
                          have hK9 := hK.sub (tys' := [(cT, .int)]) [0] rfl
                          exact W.iret hx hb hr (fun t ht hW => ⟨⟨_, ax, rfl, ⟨rfl, by omega⟩, 1, ax, (dP_f v12_1 (fun d p => mv_px (by unfold isAt; omega) (by omega)) (by decide)), by rw [ht]; exact hP9, va_K.moved hW.alike hK9, hD9⟩, hS.F ht⟩) hS.2.2 dX6_endOfPattern_229
                        · have tk_85 := c_ne (a := r_84.toInt) (b := 0) rfl (by decide) k_85
                          refine lv_iload hx hb dX6_endOfPattern_201 (lv_at hl 2 rfl) ?_
                          refine lv_iconst (v := 1) hx hb dX6_endOfPattern_203 (by decide) ?_
                          refine lv_icmp_ne (tgt := 213) hx hb dX6_endOfPattern_204 (by decide) (fun k_89 => ?_) (fun k_89 => ?_)
                          · have tk_89 := c_ne (a := sd.toInt) (b := 1) rfl (by decide) k_89
                            refine lv_aload_n hx hb dX6_endOfPattern_213 rfl (lv_at hl 5 rfl) ?_
                            refine lv_iconst (v := 1) hx hb dX6_endOfPattern_214 (by decide) ?_
                            refine lv_iload hx hb dX6_endOfPattern_215 (lv_at hl 1 rfl) ?_
                            have hPc := hP.sub (ws' := [(rd, .inr (6, rF r fa fb a2 a3 a4 a5 a6 a7))]) [0] rfl
                            have hKc := hK.sub (tys' := []) [] rfl
                            have hDc := hD.sub (ws' := [(rd, .inr (6, rF r fa fb a2 a3 a4 a5 a6 a7))]) [0] (by decide) rfl
                            have hFc := va_free (wc := [(rd, .inr (6, rF r fa fb a2 a3 a4 a5 a6 a7))]) hD hS hA [0] rfl
                            refine va_callv (va_runV (As := [.int 1, .int ax]) (rest := []) ⟨hx, hb, hml, hown, hts⟩ (s_fail l dC dI rd r fa fb a2 a3 a4 a5 a6 a7 H.size 1 ax) (cwV 2 hts mg_X6_endOfPatternq_X6_fail_71 rfl rfl rfl (by decide +kernel) ⟨Nat.le_of_ble_eq_true rfl, Nat.le_of_ble_eq_true rfl⟩) ⟨fun a U g mk q => by obtain ⟨q0, q1, qP, qK, qD⟩ := q; exact ⟨q0, q1, qP, va_K.moved (u := U) (U := U.calling g mk a) (Vm.Alike.refl U.vm) qK, qD⟩, va_recv hKc hPc (ci := 6) (q0 := 0) rfl rfl, fun U hU hW => ⟨rfl, by rw [hU], by rw [hU]; exact hPc, va_K.moved hW.alike hKc, hDc.weaken (fun _ _ _ _ => trivial)⟩⟩ rfl rfl hl.1 rfl (lv_room (Nat.le_of_ble_eq_true rfl)) dX6_endOfPattern_217 ⟨Nat.le_of_ble_eq_true rfl, Nat.le_of_ble_eq_true rfl⟩) hS (fun q _ h => hFc q h) hFc (fun u t H1 locs ht hvm hw hB hz1 hk1 hS => ?_)
                            obtain ⟨hP1, hK1, hD1⟩ := hB
                            rw [ht] at hP1
                            obtain ⟨hP, hD⟩ := va_join (wr := [(ta, .inl (cT, nb, .inl ft))]) (w1 := [(rd, .inr (6, rF r 1 ax a2 a3 a4 a5 a6 a7))]) hP hD [0] [1] rfl rfl (by decide) (by decide) hk1 hFc hP1 hD1
                            generalize H1 = H at hP hS ⊢
                            have hP : va_P (dC, dI) vwCl [(ta, .inl (cT, nb, .inl ft)), (rd, .inr (6, rF r 1 ax a2 a3 a4 a5 a6 a7))] H := hP
                            have hD : va_D A [(ta, .inl (cT, nb, .inl ft)), (rd, .inr (6, rF r 1 ax a2 a3 a4 a5 a6 a7))] := hD
                            refine lv_aload_n hx hb dX6_endOfPattern_220 rfl (lv_at hl 5 rfl) ?_
                            refine va_get (D := (dC, dI)) (ci := 6) (v := .int 1) (C := RX6) (T := TX6) (N := 11) hx hb hts fin_X6_endOfPatternq_X6 hown hK hP 1 rfl rfl 0 (by decide) (hts (.fieldLink RX6 22 "PatternGate$Reader" "faultKind" "I") (List.mem_of_getElem? (i := 7) (by decide +kernel))) (fun _ h9 => h9) rfl dX6_endOfPattern_221 ?_
                            refine lv_if_eq (tgt := 230) hx hb dX6_endOfPattern_224 (by decide) (fun k_92 => absurd k_92 (by decide)) (fun k_92 => ?_)
                            have tk_92 := c_ne (a := 1) (b := 0) (by decide) (by decide) k_92
                            refine lv_iload hx hb dX6_endOfPattern_227 (lv_at hl 1 rfl) ?_
                            have hP9 := hP.sub (ws' := [(rd, .inr (6, rF r 1 ax a2 a3 a4 a5 a6 a7)), (ta, .inl (cT, nb, .inl ft))]) [1, 0] rfl
                            have hD9 := hD.sub (ws' := [(rd, .inr (6, rF r 1 ax a2 a3 a4 a5 a6 a7)), (ta, .inl (cT, nb, .inl ft))]) [1, 0] (by decide) rfl
                            have hK9 := hK.sub (tys' := [(cT, .int)]) [0] rfl
                            exact W.iret hx hb hr (fun t ht hW => ⟨⟨_, ax, rfl, ⟨rfl, by omega⟩, 1, ax, (dP_f v12_1 (fun d p => mv_px (by unfold isAt; omega) (by omega)) (by decide)), by rw [ht]; exact hP9, va_K.moved hW.alike hK9, hD9⟩, hS.F ht⟩) hS.2.2 dX6_endOfPattern_229
                          · have tk_89 := c_eq (a := sd.toInt) (b := 1) rfl (by decide) k_89
                            refine lv_iconst (v := 2) hx hb dX6_endOfPattern_207 (by decide) ?_
                            refine lv_istore (lv' := [(6, .int 2), (8, .int y_4), (7, .int ax), (5, .int op), (4, .int sp), (0, .ref rd), (1, .ref ta), (2, .int i8), (3, .int i9)]) hx hb dX6_endOfPattern_208 hl (by decide) rfl (fun ls hl => ?_)
                            refine lv_goto (tgt := 220) hx hb dX6_endOfPattern_210 (by decide) ?_
                            refine lv_aload_n hx hb dX6_endOfPattern_220 rfl (lv_at hl 5 rfl) ?_
                            refine va_get (D := (dC, dI)) (ci := 6) (v := .int fa) (C := RX6) (T := TX6) (N := 11) hx hb hts fin_X6_endOfPatternq_X6 hown hK hP 0 rfl rfl 0 (by decide) (hts (.fieldLink RX6 22 "PatternGate$Reader" "faultKind" "I") (List.mem_of_getElem? (i := 7) (by decide +kernel))) (fun _ h9 => h9) rfl dX6_endOfPattern_221 ?_
                            refine lv_if_eq (tgt := 230) hx hb dX6_endOfPattern_224 (by decide) (fun k_93 => ?_) (fun k_93 => absurd (Int32.toInt_inj.mp (v12_2.trans (by decide))) k_93)
                            have tk_93 := c_eq (a := fa.toInt) (b := 0) rfl (by decide) k_93
                            obtain ⟨y_94, ey_94⟩ : ∃ y : Int32, y = ax + 1 := ⟨_, rfl⟩
                            first | have ty_94 := i_add (a := ax.toInt) (b := 1) rfl (by decide) ey_94 (by omega) (by omega) | skip
                            refine lv_iinc (v := y_94) (lv' := [(7, .int y_94), (6, .int 2), (8, .int y_4), (5, .int op), (4, .int sp), (0, .ref rd), (1, .ref ta), (2, .int i8), (3, .int i9)]) hx hb dX6_endOfPattern_230 hl (k := 2) rfl (by rw [ey_94]; rfl) (by decide) rfl (fun ls hl => ?_)
                            refine lv_goto (tgt := 12) hx hb dX6_endOfPattern_233 (by decide) ?_
                            have lit_94 : (2 : Int32).toInt = 2 := by decide
                            exact ih12 sp op 2 y_94 fa fb (by first | omega | assumption | decide) (dP_next v12_1 (fun d p => by rw [show sd.toInt = 1 by omega]; rw [show y_94.toInt = ax.toInt + 1 by omega, show (2 : Int32).toInt = 2 by decide]; exact mv_pg (by unfold isQu; omega))) (by first | omega | assumption | decide) (by first | omega | assumption | decide) (by first | omega | assumption | decide) (by omega) _ _ ls hP hD hS (lv_sub hl [0, 1, 3, 4, 5, 6, 7, 8] rfl)
                      · have tk_82 := c_eq (a := y_4.toInt) (b := 41) rfl (by decide) k_82
                        refine lv_iload hx hb dX6_endOfPattern_174 (lv_at hl 3 rfl) ?_
                        refine lv_if_le (tgt := 193) hx hb dX6_endOfPattern_176 (by decide) (fun k_96 => ?_) (fun k_96 => ?_)
                        · have tk_96 := c_le (a := op.toInt) (b := 0) rfl (by decide) k_96
                          refine lv_iload hx hb dX6_endOfPattern_193 (lv_at hl 0 rfl) ?_
                          refine vp_callSi (W.runS (As := [.int y_4]) (rest := []) ⟨hx, hb, hml, hown, hts⟩ (s_isSign_q l dC dI y_4) (va_cwS 1 hts mg_X6_endOfPatternq_X6_isSign_102 rfl rfl rfl (by decide +kernel) ⟨Nat.le_of_ble_eq_true rfl, Nat.le_of_ble_eq_true rfl⟩) ⟨fun a U g mk q => ⟨q.1, trivial⟩, fun U hU hW => ⟨rfl, trivial⟩⟩ rfl rfl hl.1 rfl (lv_room (Nat.le_of_ble_eq_true rfl)) dX6_endOfPattern_195 ⟨Nat.le_of_ble_eq_true rfl, Nat.le_of_ble_eq_true rfl⟩) (fun r_98 hw => ?_)
                          have hr_98 := hw
                          refine lv_if_eq (tgt := 213) hx hb dX6_endOfPattern_198 (by decide) (fun k_99 => ?_) (fun k_99 => ?_)
                          · have tk_99 := c_eq (a := r_98.toInt) (b := 0) rfl (by decide) k_99
                            refine lv_aload_n hx hb dX6_endOfPattern_213 rfl (lv_at hl 5 rfl) ?_
                            refine lv_iconst (v := 1) hx hb dX6_endOfPattern_214 (by decide) ?_
                            refine lv_iload hx hb dX6_endOfPattern_215 (lv_at hl 1 rfl) ?_
                            have hPc := hP.sub (ws' := [(rd, .inr (6, rF r fa fb a2 a3 a4 a5 a6 a7))]) [0] rfl
                            have hKc := hK.sub (tys' := []) [] rfl
                            have hDc := hD.sub (ws' := [(rd, .inr (6, rF r fa fb a2 a3 a4 a5 a6 a7))]) [0] (by decide) rfl
                            have hFc := va_free (wc := [(rd, .inr (6, rF r fa fb a2 a3 a4 a5 a6 a7))]) hD hS hA [0] rfl
                            refine va_callv (va_runV (As := [.int 1, .int ax]) (rest := []) ⟨hx, hb, hml, hown, hts⟩ (s_fail l dC dI rd r fa fb a2 a3 a4 a5 a6 a7 H.size 1 ax) (cwV 2 hts mg_X6_endOfPatternq_X6_fail_71 rfl rfl rfl (by decide +kernel) ⟨Nat.le_of_ble_eq_true rfl, Nat.le_of_ble_eq_true rfl⟩) ⟨fun a U g mk q => by obtain ⟨q0, q1, qP, qK, qD⟩ := q; exact ⟨q0, q1, qP, va_K.moved (u := U) (U := U.calling g mk a) (Vm.Alike.refl U.vm) qK, qD⟩, va_recv hKc hPc (ci := 6) (q0 := 0) rfl rfl, fun U hU hW => ⟨rfl, by rw [hU], by rw [hU]; exact hPc, va_K.moved hW.alike hKc, hDc.weaken (fun _ _ _ _ => trivial)⟩⟩ rfl rfl hl.1 rfl (lv_room (Nat.le_of_ble_eq_true rfl)) dX6_endOfPattern_217 ⟨Nat.le_of_ble_eq_true rfl, Nat.le_of_ble_eq_true rfl⟩) hS (fun q _ h => hFc q h) hFc (fun u t H1 locs ht hvm hw hB hz1 hk1 hS => ?_)
                            obtain ⟨hP1, hK1, hD1⟩ := hB
                            rw [ht] at hP1
                            obtain ⟨hP, hD⟩ := va_join (wr := [(ta, .inl (cT, nb, .inl ft))]) (w1 := [(rd, .inr (6, rF r 1 ax a2 a3 a4 a5 a6 a7))]) hP hD [0] [1] rfl rfl (by decide) (by decide) hk1 hFc hP1 hD1
                            generalize H1 = H at hP hS ⊢
                            have hP : va_P (dC, dI) vwCl [(ta, .inl (cT, nb, .inl ft)), (rd, .inr (6, rF r 1 ax a2 a3 a4 a5 a6 a7))] H := hP
                            have hD : va_D A [(ta, .inl (cT, nb, .inl ft)), (rd, .inr (6, rF r 1 ax a2 a3 a4 a5 a6 a7))] := hD
                            refine lv_aload_n hx hb dX6_endOfPattern_220 rfl (lv_at hl 5 rfl) ?_
                            refine va_get (D := (dC, dI)) (ci := 6) (v := .int 1) (C := RX6) (T := TX6) (N := 11) hx hb hts fin_X6_endOfPatternq_X6 hown hK hP 1 rfl rfl 0 (by decide) (hts (.fieldLink RX6 22 "PatternGate$Reader" "faultKind" "I") (List.mem_of_getElem? (i := 7) (by decide +kernel))) (fun _ h9 => h9) rfl dX6_endOfPattern_221 ?_
                            refine lv_if_eq (tgt := 230) hx hb dX6_endOfPattern_224 (by decide) (fun k_102 => absurd k_102 (by decide)) (fun k_102 => ?_)
                            have tk_102 := c_ne (a := 1) (b := 0) (by decide) (by decide) k_102
                            refine lv_iload hx hb dX6_endOfPattern_227 (lv_at hl 1 rfl) ?_
                            have hP9 := hP.sub (ws' := [(rd, .inr (6, rF r 1 ax a2 a3 a4 a5 a6 a7)), (ta, .inl (cT, nb, .inl ft))]) [1, 0] rfl
                            have hD9 := hD.sub (ws' := [(rd, .inr (6, rF r 1 ax a2 a3 a4 a5 a6 a7)), (ta, .inl (cT, nb, .inl ft))]) [1, 0] (by decide) rfl
                            have hK9 := hK.sub (tys' := [(cT, .int)]) [0] rfl
                            exact W.iret hx hb hr (fun t ht hW => ⟨⟨_, ax, rfl, ⟨rfl, by omega⟩, 1, ax, (dP_f v12_1 (fun d p => mv_px (by unfold isAt; omega) (by omega)) (by decide)), by rw [ht]; exact hP9, va_K.moved hW.alike hK9, hD9⟩, hS.F ht⟩) hS.2.2 dX6_endOfPattern_229
                          · have tk_99 := c_ne (a := r_98.toInt) (b := 0) rfl (by decide) k_99
                            refine lv_iload hx hb dX6_endOfPattern_201 (lv_at hl 2 rfl) ?_
                            refine lv_iconst (v := 1) hx hb dX6_endOfPattern_203 (by decide) ?_
                            refine lv_icmp_ne (tgt := 213) hx hb dX6_endOfPattern_204 (by decide) (fun k_103 => ?_) (fun k_103 => ?_)
                            · have tk_103 := c_ne (a := sd.toInt) (b := 1) rfl (by decide) k_103
                              refine lv_aload_n hx hb dX6_endOfPattern_213 rfl (lv_at hl 5 rfl) ?_
                              refine lv_iconst (v := 1) hx hb dX6_endOfPattern_214 (by decide) ?_
                              refine lv_iload hx hb dX6_endOfPattern_215 (lv_at hl 1 rfl) ?_
                              have hPc := hP.sub (ws' := [(rd, .inr (6, rF r fa fb a2 a3 a4 a5 a6 a7))]) [0] rfl
                              have hKc := hK.sub (tys' := []) [] rfl
                              have hDc := hD.sub (ws' := [(rd, .inr (6, rF r fa fb a2 a3 a4 a5 a6 a7))]) [0] (by decide) rfl
                              have hFc := va_free (wc := [(rd, .inr (6, rF r fa fb a2 a3 a4 a5 a6 a7))]) hD hS hA [0] rfl
                              refine va_callv (va_runV (As := [.int 1, .int ax]) (rest := []) ⟨hx, hb, hml, hown, hts⟩ (s_fail l dC dI rd r fa fb a2 a3 a4 a5 a6 a7 H.size 1 ax) (cwV 2 hts mg_X6_endOfPatternq_X6_fail_71 rfl rfl rfl (by decide +kernel) ⟨Nat.le_of_ble_eq_true rfl, Nat.le_of_ble_eq_true rfl⟩) ⟨fun a U g mk q => by obtain ⟨q0, q1, qP, qK, qD⟩ := q; exact ⟨q0, q1, qP, va_K.moved (u := U) (U := U.calling g mk a) (Vm.Alike.refl U.vm) qK, qD⟩, va_recv hKc hPc (ci := 6) (q0 := 0) rfl rfl, fun U hU hW => ⟨rfl, by rw [hU], by rw [hU]; exact hPc, va_K.moved hW.alike hKc, hDc.weaken (fun _ _ _ _ => trivial)⟩⟩ rfl rfl hl.1 rfl (lv_room (Nat.le_of_ble_eq_true rfl)) dX6_endOfPattern_217 ⟨Nat.le_of_ble_eq_true rfl, Nat.le_of_ble_eq_true rfl⟩) hS (fun q _ h => hFc q h) hFc (fun u t H1 locs ht hvm hw hB hz1 hk1 hS => ?_)
                              obtain ⟨hP1, hK1, hD1⟩ := hB
                              rw [ht] at hP1
                              obtain ⟨hP, hD⟩ := va_join (wr := [(ta, .inl (cT, nb, .inl ft))]) (w1 := [(rd, .inr (6, rF r 1 ax a2 a3 a4 a5 a6 a7))]) hP hD [0] [1] rfl rfl (by decide) (by decide) hk1 hFc hP1 hD1
                              generalize H1 = H at hP hS ⊢
                              have hP : va_P (dC, dI) vwCl [(ta, .inl (cT, nb, .inl ft)), (rd, .inr (6, rF r 1 ax a2 a3 a4 a5 a6 a7))] H := hP
                              have hD : va_D A [(ta, .inl (cT, nb, .inl ft)), (rd, .inr (6, rF r 1 ax a2 a3 a4 a5 a6 a7))] := hD
                              refine lv_aload_n hx hb dX6_endOfPattern_220 rfl (lv_at hl 5 rfl) ?_
                              refine va_get (D := (dC, dI)) (ci := 6) (v := .int 1) (C := RX6) (T := TX6) (N := 11) hx hb hts fin_X6_endOfPatternq_X6 hown hK hP 1 rfl rfl 0 (by decide) (hts (.fieldLink RX6 22 "PatternGate$Reader" "faultKind" "I") (List.mem_of_getElem? (i := 7) (by decide +kernel))) (fun _ h9 => h9) rfl dX6_endOfPattern_221 ?_
                              refine lv_if_eq (tgt := 230) hx hb dX6_endOfPattern_224 (by decide) (fun k_106 => absurd k_106 (by decide)) (fun k_106 => ?_)
                              have tk_106 := c_ne (a := 1) (b := 0) (by decide) (by decide) k_106
                              refine lv_iload hx hb dX6_endOfPattern_227 (lv_at hl 1 rfl) ?_
                              have hP9 := hP.sub (ws' := [(rd, .inr (6, rF r 1 ax a2 a3 a4 a5 a6 a7)), (ta, .inl (cT, nb, .inl ft))]) [1, 0] rfl
                              have hD9 := hD.sub (ws' := [(rd, .inr (6, rF r 1 ax a2 a3 a4 a5 a6 a7)), (ta, .inl (cT, nb, .inl ft))]) [1, 0] (by decide) rfl
                              have hK9 := hK.sub (tys' := [(cT, .int)]) [0] rfl
                              exact W.iret hx hb hr (fun t ht hW => ⟨⟨_, ax, rfl, ⟨rfl, by omega⟩, 1, ax, (dP_f v12_1 (fun d p => mv_px (by unfold isAt; omega) (by omega)) (by decide)), by rw [ht]; exact hP9, va_K.moved hW.alike hK9, hD9⟩, hS.F ht⟩) hS.2.2 dX6_endOfPattern_229
                            · have tk_103 := c_eq (a := sd.toInt) (b := 1) rfl (by decide) k_103
                              refine lv_iconst (v := 2) hx hb dX6_endOfPattern_207 (by decide) ?_
                              refine lv_istore (lv' := [(6, .int 2), (8, .int y_4), (7, .int ax), (5, .int op), (4, .int sp), (0, .ref rd), (1, .ref ta), (2, .int i8), (3, .int i9)]) hx hb dX6_endOfPattern_208 hl (by decide) rfl (fun ls hl => ?_)
                              refine lv_goto (tgt := 220) hx hb dX6_endOfPattern_210 (by decide) ?_
                              refine lv_aload_n hx hb dX6_endOfPattern_220 rfl (lv_at hl 5 rfl) ?_
                              refine va_get (D := (dC, dI)) (ci := 6) (v := .int fa) (C := RX6) (T := TX6) (N := 11) hx hb hts fin_X6_endOfPatternq_X6 hown hK hP 0 rfl rfl 0 (by decide) (hts (.fieldLink RX6 22 "PatternGate$Reader" "faultKind" "I") (List.mem_of_getElem? (i := 7) (by decide +kernel))) (fun _ h9 => h9) rfl dX6_endOfPattern_221 ?_
                              refine lv_if_eq (tgt := 230) hx hb dX6_endOfPattern_224 (by decide) (fun k_107 => ?_) (fun k_107 => absurd (Int32.toInt_inj.mp (v12_2.trans (by decide))) k_107)
                              have tk_107 := c_eq (a := fa.toInt) (b := 0) rfl (by decide) k_107
                              obtain ⟨y_108, ey_108⟩ : ∃ y : Int32, y = ax + 1 := ⟨_, rfl⟩
                              first | have ty_108 := i_add (a := ax.toInt) (b := 1) rfl (by decide) ey_108 (by omega) (by omega) | skip
                              refine lv_iinc (v := y_108) (lv' := [(7, .int y_108), (6, .int 2), (8, .int y_4), (5, .int op), (4, .int sp), (0, .ref rd), (1, .ref ta), (2, .int i8), (3, .int i9)]) hx hb dX6_endOfPattern_230 hl (k := 2) rfl (by rw [ey_108]; rfl) (by decide) rfl (fun ls hl => ?_)
                              refine lv_goto (tgt := 12) hx hb dX6_endOfPattern_233 (by decide) ?_
                              have lit_108 : (2 : Int32).toInt = 2 := by decide
                              exact ih12 sp op 2 y_108 fa fb (by first | omega | assumption | decide) (dP_next v12_1 (fun d p => by rw [show sd.toInt = 1 by omega]; rw [show y_108.toInt = ax.toInt + 1 by omega, show (2 : Int32).toInt = 2 by decide]; exact mv_pg (by unfold isQu; omega))) (by first | omega | assumption | decide) (by first | omega | assumption | decide) (by first | omega | assumption | decide) (by omega) _ _ ls hP hD hS (lv_sub hl [0, 1, 3, 4, 5, 6, 7, 8] rfl)
                        · have tk_96 := c_nle (a := op.toInt) (b := 0) rfl (by decide) k_96
                          refine lv_iload hx hb dX6_endOfPattern_179 (lv_at hl 2 rfl) ?_
                          refine lv_if_eq (tgt := 193) hx hb dX6_endOfPattern_181 (by decide) (fun k_110 => ?_) (fun k_110 => ?_)
                          · have tk_110 := c_eq (a := sd.toInt) (b := 0) rfl (by decide) k_110
                            refine lv_iload hx hb dX6_endOfPattern_193 (lv_at hl 0 rfl) ?_
                            refine vp_callSi (W.runS (As := [.int y_4]) (rest := []) ⟨hx, hb, hml, hown, hts⟩ (s_isSign_q l dC dI y_4) (va_cwS 1 hts mg_X6_endOfPatternq_X6_isSign_102 rfl rfl rfl (by decide +kernel) ⟨Nat.le_of_ble_eq_true rfl, Nat.le_of_ble_eq_true rfl⟩) ⟨fun a U g mk q => ⟨q.1, trivial⟩, fun U hU hW => ⟨rfl, trivial⟩⟩ rfl rfl hl.1 rfl (lv_room (Nat.le_of_ble_eq_true rfl)) dX6_endOfPattern_195 ⟨Nat.le_of_ble_eq_true rfl, Nat.le_of_ble_eq_true rfl⟩) (fun r_112 hw => ?_)
                            have hr_112 := hw
                            refine lv_if_eq (tgt := 213) hx hb dX6_endOfPattern_198 (by decide) (fun k_113 => ?_) (fun k_113 => ?_)
                            · have tk_113 := c_eq (a := r_112.toInt) (b := 0) rfl (by decide) k_113
                              refine lv_aload_n hx hb dX6_endOfPattern_213 rfl (lv_at hl 5 rfl) ?_
                              refine lv_iconst (v := 1) hx hb dX6_endOfPattern_214 (by decide) ?_
                              refine lv_iload hx hb dX6_endOfPattern_215 (lv_at hl 1 rfl) ?_
                              have hPc := hP.sub (ws' := [(rd, .inr (6, rF r fa fb a2 a3 a4 a5 a6 a7))]) [0] rfl
                              have hKc := hK.sub (tys' := []) [] rfl
                              have hDc := hD.sub (ws' := [(rd, .inr (6, rF r fa fb a2 a3 a4 a5 a6 a7))]) [0] (by decide) rfl
                              have hFc := va_free (wc := [(rd, .inr (6, rF r fa fb a2 a3 a4 a5 a6 a7))]) hD hS hA [0] rfl
                              refine va_callv (va_runV (As := [.int 1, .int ax]) (rest := []) ⟨hx, hb, hml, hown, hts⟩ (s_fail l dC dI rd r fa fb a2 a3 a4 a5 a6 a7 H.size 1 ax) (cwV 2 hts mg_X6_endOfPatternq_X6_fail_71 rfl rfl rfl (by decide +kernel) ⟨Nat.le_of_ble_eq_true rfl, Nat.le_of_ble_eq_true rfl⟩) ⟨fun a U g mk q => by obtain ⟨q0, q1, qP, qK, qD⟩ := q; exact ⟨q0, q1, qP, va_K.moved (u := U) (U := U.calling g mk a) (Vm.Alike.refl U.vm) qK, qD⟩, va_recv hKc hPc (ci := 6) (q0 := 0) rfl rfl, fun U hU hW => ⟨rfl, by rw [hU], by rw [hU]; exact hPc, va_K.moved hW.alike hKc, hDc.weaken (fun _ _ _ _ => trivial)⟩⟩ rfl rfl hl.1 rfl (lv_room (Nat.le_of_ble_eq_true rfl)) dX6_endOfPattern_217 ⟨Nat.le_of_ble_eq_true rfl, Nat.le_of_ble_eq_true rfl⟩) hS (fun q _ h => hFc q h) hFc (fun u t H1 locs ht hvm hw hB hz1 hk1 hS => ?_)
                              obtain ⟨hP1, hK1, hD1⟩ := hB
                              rw [ht] at hP1
                              obtain ⟨hP, hD⟩ := va_join (wr := [(ta, .inl (cT, nb, .inl ft))]) (w1 := [(rd, .inr (6, rF r 1 ax a2 a3 a4 a5 a6 a7))]) hP hD [0] [1] rfl rfl (by decide) (by decide) hk1 hFc hP1 hD1
                              generalize H1 = H at hP hS ⊢
                              have hP : va_P (dC, dI) vwCl [(ta, .inl (cT, nb, .inl ft)), (rd, .inr (6, rF r 1 ax a2 a3 a4 a5 a6 a7))] H := hP
                              have hD : va_D A [(ta, .inl (cT, nb, .inl ft)), (rd, .inr (6, rF r 1 ax a2 a3 a4 a5 a6 a7))] := hD
                              refine lv_aload_n hx hb dX6_endOfPattern_220 rfl (lv_at hl 5 rfl) ?_
                              refine va_get (D := (dC, dI)) (ci := 6) (v := .int 1) (C := RX6) (T := TX6) (N := 11) hx hb hts fin_X6_endOfPatternq_X6 hown hK hP 1 rfl rfl 0 (by decide) (hts (.fieldLink RX6 22 "PatternGate$Reader" "faultKind" "I") (List.mem_of_getElem? (i := 7) (by decide +kernel))) (fun _ h9 => h9) rfl dX6_endOfPattern_221 ?_
                              refine lv_if_eq (tgt := 230) hx hb dX6_endOfPattern_224 (by decide) (fun k_116 => absurd k_116 (by decide)) (fun k_116 => ?_)
                              have tk_116 := c_ne (a := 1) (b := 0) (by decide) (by decide) k_116
                              refine lv_iload hx hb dX6_endOfPattern_227 (lv_at hl 1 rfl) ?_
                              have hP9 := hP.sub (ws' := [(rd, .inr (6, rF r 1 ax a2 a3 a4 a5 a6 a7)), (ta, .inl (cT, nb, .inl ft))]) [1, 0] rfl
                              have hD9 := hD.sub (ws' := [(rd, .inr (6, rF r 1 ax a2 a3 a4 a5 a6 a7)), (ta, .inl (cT, nb, .inl ft))]) [1, 0] (by decide) rfl
                              have hK9 := hK.sub (tys' := [(cT, .int)]) [0] rfl
                              exact W.iret hx hb hr (fun t ht hW => ⟨⟨_, ax, rfl, ⟨rfl, by omega⟩, 1, ax, (dP_f v12_1 (fun d p => mv_px (by unfold isAt; omega) (by omega)) (by decide)), by rw [ht]; exact hP9, va_K.moved hW.alike hK9, hD9⟩, hS.F ht⟩) hS.2.2 dX6_endOfPattern_229
                            · have tk_113 := c_ne (a := r_112.toInt) (b := 0) rfl (by decide) k_113
                              refine lv_iload hx hb dX6_endOfPattern_201 (lv_at hl 2 rfl) ?_
                              refine lv_iconst (v := 1) hx hb dX6_endOfPattern_203 (by decide) ?_
                              refine lv_icmp_ne (tgt := 213) hx hb dX6_endOfPattern_204 (by decide) (fun k_117 => ?_) (fun k_117 => ?_)
                              · have tk_117 := c_ne (a := sd.toInt) (b := 1) rfl (by decide) k_117
                                refine lv_aload_n hx hb dX6_endOfPattern_213 rfl (lv_at hl 5 rfl) ?_
                                refine lv_iconst (v := 1) hx hb dX6_endOfPattern_214 (by decide) ?_
                                refine lv_iload hx hb dX6_endOfPattern_215 (lv_at hl 1 rfl) ?_
                                have hPc := hP.sub (ws' := [(rd, .inr (6, rF r fa fb a2 a3 a4 a5 a6 a7))]) [0] rfl
                                have hKc := hK.sub (tys' := []) [] rfl
                                have hDc := hD.sub (ws' := [(rd, .inr (6, rF r fa fb a2 a3 a4 a5 a6 a7))]) [0] (by decide) rfl
                                have hFc := va_free (wc := [(rd, .inr (6, rF r fa fb a2 a3 a4 a5 a6 a7))]) hD hS hA [0] rfl
                                refine va_callv (va_runV (As := [.int 1, .int ax]) (rest := []) ⟨hx, hb, hml, hown, hts⟩ (s_fail l dC dI rd r fa fb a2 a3 a4 a5 a6 a7 H.size 1 ax) (cwV 2 hts mg_X6_endOfPatternq_X6_fail_71 rfl rfl rfl (by decide +kernel) ⟨Nat.le_of_ble_eq_true rfl, Nat.le_of_ble_eq_true rfl⟩) ⟨fun a U g mk q => by obtain ⟨q0, q1, qP, qK, qD⟩ := q; exact ⟨q0, q1, qP, va_K.moved (u := U) (U := U.calling g mk a) (Vm.Alike.refl U.vm) qK, qD⟩, va_recv hKc hPc (ci := 6) (q0 := 0) rfl rfl, fun U hU hW => ⟨rfl, by rw [hU], by rw [hU]; exact hPc, va_K.moved hW.alike hKc, hDc.weaken (fun _ _ _ _ => trivial)⟩⟩ rfl rfl hl.1 rfl (lv_room (Nat.le_of_ble_eq_true rfl)) dX6_endOfPattern_217 ⟨Nat.le_of_ble_eq_true rfl, Nat.le_of_ble_eq_true rfl⟩) hS (fun q _ h => hFc q h) hFc (fun u t H1 locs ht hvm hw hB hz1 hk1 hS => ?_)
                                obtain ⟨hP1, hK1, hD1⟩ := hB
                                rw [ht] at hP1
                                obtain ⟨hP, hD⟩ := va_join (wr := [(ta, .inl (cT, nb, .inl ft))]) (w1 := [(rd, .inr (6, rF r 1 ax a2 a3 a4 a5 a6 a7))]) hP hD [0] [1] rfl rfl (by decide) (by decide) hk1 hFc hP1 hD1
                                generalize H1 = H at hP hS ⊢
                                have hP : va_P (dC, dI) vwCl [(ta, .inl (cT, nb, .inl ft)), (rd, .inr (6, rF r 1 ax a2 a3 a4 a5 a6 a7))] H := hP
                                have hD : va_D A [(ta, .inl (cT, nb, .inl ft)), (rd, .inr (6, rF r 1 ax a2 a3 a4 a5 a6 a7))] := hD
                                refine lv_aload_n hx hb dX6_endOfPattern_220 rfl (lv_at hl 5 rfl) ?_
                                refine va_get (D := (dC, dI)) (ci := 6) (v := .int 1) (C := RX6) (T := TX6) (N := 11) hx hb hts fin_X6_endOfPatternq_X6 hown hK hP 1 rfl rfl 0 (by decide) (hts (.fieldLink RX6 22 "PatternGate$Reader" "faultKind" "I") (List.mem_of_getElem? (i := 7) (by decide +kernel))) (fun _ h9 => h9) rfl dX6_endOfPattern_221 ?_
                                refine lv_if_eq (tgt := 230) hx hb dX6_endOfPattern_224 (by decide) (fun k_120 => absurd k_120 (by decide)) (fun k_120 => ?_)
                                have tk_120 := c_ne (a := 1) (b := 0) (by decide) (by decide) k_120
                                refine lv_iload hx hb dX6_endOfPattern_227 (lv_at hl 1 rfl) ?_
                                have hP9 := hP.sub (ws' := [(rd, .inr (6, rF r 1 ax a2 a3 a4 a5 a6 a7)), (ta, .inl (cT, nb, .inl ft))]) [1, 0] rfl
                                have hD9 := hD.sub (ws' := [(rd, .inr (6, rF r 1 ax a2 a3 a4 a5 a6 a7)), (ta, .inl (cT, nb, .inl ft))]) [1, 0] (by decide) rfl
                                have hK9 := hK.sub (tys' := [(cT, .int)]) [0] rfl
                                exact W.iret hx hb hr (fun t ht hW => ⟨⟨_, ax, rfl, ⟨rfl, by omega⟩, 1, ax, (dP_f v12_1 (fun d p => mv_px (by unfold isAt; omega) (by omega)) (by decide)), by rw [ht]; exact hP9, va_K.moved hW.alike hK9, hD9⟩, hS.F ht⟩) hS.2.2 dX6_endOfPattern_229
                              · have tk_117 := c_eq (a := sd.toInt) (b := 1) rfl (by decide) k_117
                                refine lv_iconst (v := 2) hx hb dX6_endOfPattern_207 (by decide) ?_
                                refine lv_istore (lv' := [(6, .int 2), (8, .int y_4), (7, .int ax), (5, .int op), (4, .int sp), (0, .ref rd), (1, .ref ta), (2, .int i8), (3, .int i9)]) hx hb dX6_endOfPattern_208 hl (by decide) rfl (fun ls hl => ?_)
                                refine lv_goto (tgt := 220) hx hb dX6_endOfPattern_210 (by decide) ?_
                                refine lv_aload_n hx hb dX6_endOfPattern_220 rfl (lv_at hl 5 rfl) ?_
                                refine va_get (D := (dC, dI)) (ci := 6) (v := .int fa) (C := RX6) (T := TX6) (N := 11) hx hb hts fin_X6_endOfPatternq_X6 hown hK hP 0 rfl rfl 0 (by decide) (hts (.fieldLink RX6 22 "PatternGate$Reader" "faultKind" "I") (List.mem_of_getElem? (i := 7) (by decide +kernel))) (fun _ h9 => h9) rfl dX6_endOfPattern_221 ?_
                                refine lv_if_eq (tgt := 230) hx hb dX6_endOfPattern_224 (by decide) (fun k_121 => ?_) (fun k_121 => absurd (Int32.toInt_inj.mp (v12_2.trans (by decide))) k_121)
                                have tk_121 := c_eq (a := fa.toInt) (b := 0) rfl (by decide) k_121
                                obtain ⟨y_122, ey_122⟩ : ∃ y : Int32, y = ax + 1 := ⟨_, rfl⟩
                                first | have ty_122 := i_add (a := ax.toInt) (b := 1) rfl (by decide) ey_122 (by omega) (by omega) | skip
                                refine lv_iinc (v := y_122) (lv' := [(7, .int y_122), (6, .int 2), (8, .int y_4), (5, .int op), (4, .int sp), (0, .ref rd), (1, .ref ta), (2, .int i8), (3, .int i9)]) hx hb dX6_endOfPattern_230 hl (k := 2) rfl (by rw [ey_122]; rfl) (by decide) rfl (fun ls hl => ?_)
                                refine lv_goto (tgt := 12) hx hb dX6_endOfPattern_233 (by decide) ?_
                                have lit_122 : (2 : Int32).toInt = 2 := by decide
                                exact ih12 sp op 2 y_122 fa fb (by first | omega | assumption | decide) (dP_next v12_1 (fun d p => by rw [show sd.toInt = 1 by omega]; rw [show y_122.toInt = ax.toInt + 1 by omega, show (2 : Int32).toInt = 2 by decide]; exact mv_pg (by unfold isQu; omega))) (by first | omega | assumption | decide) (by first | omega | assumption | decide) (by first | omega | assumption | decide) (by omega) _ _ ls hP hD hS (lv_sub hl [0, 1, 3, 4, 5, 6, 7, 8] rfl)
                          · have tk_110 := c_ne (a := sd.toInt) (b := 0) rfl (by decide) k_110
                            obtain ⟨y_124, ey_124⟩ : ∃ y : Int32, y = op + (-1) := ⟨_, rfl⟩
                            first | have ty_124 := i_add (a := op.toInt) (b := (-1)) rfl (by decide) ey_124 (by omega) (by omega) | skip
                            refine lv_iinc (v := y_124) (lv' := [(5, .int y_124), (8, .int y_4), (7, .int ax), (6, .int sd), (4, .int sp), (0, .ref rd), (1, .ref ta), (2, .int i8), (3, .int i9)]) hx hb dX6_endOfPattern_184 hl (k := 3) rfl (by rw [ey_124]; rfl) (by decide) rfl (fun ls hl => ?_)
                            refine lv_iconst (v := 1) hx hb dX6_endOfPattern_187 (by decide) ?_
                            refine lv_istore (lv' := [(6, .int 1), (5, .int y_124), (8, .int y_4), (7, .int ax), (4, .int sp), (0, .ref rd), (1, .ref ta), (2, .int i8), (3, .int i9)]) hx hb dX6_endOfPattern_188 hl (by decide) rfl (fun ls hl => ?_)
                            refine lv_goto (tgt := 220) hx hb dX6_endOfPattern_190 (by decide) ?_
                            refine lv_aload_n hx hb dX6_endOfPattern_220 rfl (lv_at hl 5 rfl) ?_
                            refine va_get (D := (dC, dI)) (ci := 6) (v := .int fa) (C := RX6) (T := TX6) (N := 11) hx hb hts fin_X6_endOfPatternq_X6 hown hK hP 0 rfl rfl 0 (by decide) (hts (.fieldLink RX6 22 "PatternGate$Reader" "faultKind" "I") (List.mem_of_getElem? (i := 7) (by decide +kernel))) (fun _ h9 => h9) rfl dX6_endOfPattern_221 ?_
                            refine lv_if_eq (tgt := 230) hx hb dX6_endOfPattern_224 (by decide) (fun k_125 => ?_) (fun k_125 => absurd (Int32.toInt_inj.mp (v12_2.trans (by decide))) k_125)
                            have tk_125 := c_eq (a := fa.toInt) (b := 0) rfl (by decide) k_125
                            obtain ⟨y_126, ey_126⟩ : ∃ y : Int32, y = ax + 1 := ⟨_, rfl⟩
                            first | have ty_126 := i_add (a := ax.toInt) (b := 1) rfl (by decide) ey_126 (by omega) (by omega) | skip
                            refine lv_iinc (v := y_126) (lv' := [(7, .int y_126), (6, .int 1), (5, .int y_124), (8, .int y_4), (4, .int sp), (0, .ref rd), (1, .ref ta), (2, .int i8), (3, .int i9)]) hx hb dX6_endOfPattern_230 hl (k := 3) rfl (by rw [ey_126]; rfl) (by decide) rfl (fun ls hl => ?_)
                            refine lv_goto (tgt := 12) hx hb dX6_endOfPattern_233 (by decide) ?_
                            have lit_126 : (1 : Int32).toInt = 1 := by decide
                            exact ih12 sp y_124 1 y_126 fa fb (by first | omega | assumption | decide) (dP_next v12_1 (fun d p => by rw [show y_126.toInt = ax.toInt + 1 by omega, show y_124.toInt = op.toInt - 1 by omega, show (1 : Int32).toInt = 1 by decide]; exact mv_pc (by omega) (by omega) (by omega))) (by first | omega | assumption | decide) (by first | omega | assumption | decide) (by first | omega | assumption | decide) (by omega) _ _ ls hP hD hS (lv_sub hl [0, 1, 2, 4, 5, 6, 7, 8] rfl)
                    · have tk_81 := c_ne (a := sd.toInt) (b := 0) rfl (by decide) k_81
                      refine lv_iconst (v := 0) hx hb dX6_endOfPattern_161 (by decide) ?_
                      refine lv_istore (lv' := [(6, .int 0), (8, .int y_4), (7, .int ax), (5, .int op), (4, .int sp), (0, .ref rd), (1, .ref ta), (2, .int i8), (3, .int i9)]) hx hb dX6_endOfPattern_162 hl (by decide) rfl (fun ls hl => ?_)
                      refine lv_goto (tgt := 220) hx hb dX6_endOfPattern_164 (by decide) ?_
                      refine lv_aload_n hx hb dX6_endOfPattern_220 rfl (lv_at hl 5 rfl) ?_
                      refine va_get (D := (dC, dI)) (ci := 6) (v := .int fa) (C := RX6) (T := TX6) (N := 11) hx hb hts fin_X6_endOfPatternq_X6 hown hK hP 0 rfl rfl 0 (by decide) (hts (.fieldLink RX6 22 "PatternGate$Reader" "faultKind" "I") (List.mem_of_getElem? (i := 7) (by decide +kernel))) (fun _ h9 => h9) rfl dX6_endOfPattern_221 ?_
                      refine lv_if_eq (tgt := 230) hx hb dX6_endOfPattern_224 (by decide) (fun k_128 => ?_) (fun k_128 => absurd (Int32.toInt_inj.mp (v12_2.trans (by decide))) k_128)
                      have tk_128 := c_eq (a := fa.toInt) (b := 0) rfl (by decide) k_128
                      obtain ⟨y_129, ey_129⟩ : ∃ y : Int32, y = ax + 1 := ⟨_, rfl⟩
                      first | have ty_129 := i_add (a := ax.toInt) (b := 1) rfl (by decide) ey_129 (by omega) (by omega) | skip
                      refine lv_iinc (v := y_129) (lv' := [(7, .int y_129), (6, .int 0), (8, .int y_4), (5, .int op), (4, .int sp), (0, .ref rd), (1, .ref ta), (2, .int i8), (3, .int i9)]) hx hb dX6_endOfPattern_230 hl (k := 2) rfl (by rw [ey_129]; rfl) (by decide) rfl (fun ls hl => ?_)
                      refine lv_goto (tgt := 12) hx hb dX6_endOfPattern_233 (by decide) ?_
                      have lit_129 : (0 : Int32).toInt = 0 := by decide
                      exact ih12 sp op 0 y_129 fa fb (by first | omega | assumption | decide) (dP_next v12_1 (fun d p => by rw [show y_129.toInt = ax.toInt + 1 by omega, show (0 : Int32).toInt = 0 by decide]; exact mv_pb (by omega) (by omega))) (by first | omega | assumption | decide) (by first | omega | assumption | decide) (by first | omega | assumption | decide) (by omega) _ _ ls hP hD hS (lv_sub hl [0, 1, 3, 4, 5, 6, 7, 8] rfl)
                · have tk_33 := c_eq (a := y_4.toInt) (b := 34) rfl (by decide) k_33
                  refine lv_iload hx hb dX6_endOfPattern_136 (lv_at hl 3 rfl) ?_
                  refine lv_if_ne (tgt := 149) hx hb dX6_endOfPattern_138 (by decide) (fun k_131 => ?_) (fun k_131 => ?_)
                  · have tk_131 := c_ne (a := op.toInt) (b := 0) rfl (by decide) k_131
                    refine lv_iload hx hb dX6_endOfPattern_149 (lv_at hl 0 rfl) ?_
                    refine lv_bipush (v := 124) hx hb dX6_endOfPattern_151 (by decide) ?_
                    refine lv_icmp_ne (tgt := 167) hx hb dX6_endOfPattern_153 (by decide) (fun k_132 => ?_) (fun k_132 => ?_)
                    · have tk_132 := c_ne (a := y_4.toInt) (b := 124) rfl (by decide) k_132
                      refine lv_iload hx hb dX6_endOfPattern_167 (lv_at hl 0 rfl) ?_
                      refine lv_bipush (v := 41) hx hb dX6_endOfPattern_169 (by decide) ?_
                      refine lv_icmp_ne (tgt := 193) hx hb dX6_endOfPattern_171 (by decide) (fun k_133 => ?_) (fun k_133 => ?_)
                      · have tk_133 := c_ne (a := y_4.toInt) (b := 41) rfl (by decide) k_133
                        refine lv_iload hx hb dX6_endOfPattern_193 (lv_at hl 0 rfl) ?_
                        refine vp_callSi (W.runS (As := [.int y_4]) (rest := []) ⟨hx, hb, hml, hown, hts⟩ (s_isSign_q l dC dI y_4) (va_cwS 1 hts mg_X6_endOfPatternq_X6_isSign_102 rfl rfl rfl (by decide +kernel) ⟨Nat.le_of_ble_eq_true rfl, Nat.le_of_ble_eq_true rfl⟩) ⟨fun a U g mk q => ⟨q.1, trivial⟩, fun U hU hW => ⟨rfl, trivial⟩⟩ rfl rfl hl.1 rfl (lv_room (Nat.le_of_ble_eq_true rfl)) dX6_endOfPattern_195 ⟨Nat.le_of_ble_eq_true rfl, Nat.le_of_ble_eq_true rfl⟩) (fun r_135 hw => ?_)
                        have hr_135 := hw
                        refine lv_if_eq (tgt := 213) hx hb dX6_endOfPattern_198 (by decide) (fun k_136 => ?_) (fun k_136 => ?_)
                        · have tk_136 := c_eq (a := r_135.toInt) (b := 0) rfl (by decide) k_136
                          refine lv_aload_n hx hb dX6_endOfPattern_213 rfl (lv_at hl 5 rfl) ?_
                          refine lv_iconst (v := 1) hx hb dX6_endOfPattern_214 (by decide) ?_
                          refine lv_iload hx hb dX6_endOfPattern_215 (lv_at hl 1 rfl) ?_
                          have hPc := hP.sub (ws' := [(rd, .inr (6, rF r fa fb a2 a3 a4 a5 a6 a7))]) [0] rfl
                          have hKc := hK.sub (tys' := []) [] rfl
                          have hDc := hD.sub (ws' := [(rd, .inr (6, rF r fa fb a2 a3 a4 a5 a6 a7))]) [0] (by decide) rfl
                          have hFc := va_free (wc := [(rd, .inr (6, rF r fa fb a2 a3 a4 a5 a6 a7))]) hD hS hA [0] rfl
                          refine va_callv (va_runV (As := [.int 1, .int ax]) (rest := []) ⟨hx, hb, hml, hown, hts⟩ (s_fail l dC dI rd r fa fb a2 a3 a4 a5 a6 a7 H.size 1 ax) (cwV 2 hts mg_X6_endOfPatternq_X6_fail_71 rfl rfl rfl (by decide +kernel) ⟨Nat.le_of_ble_eq_true rfl, Nat.le_of_ble_eq_true rfl⟩) ⟨fun a U g mk q => by obtain ⟨q0, q1, qP, qK, qD⟩ := q; exact ⟨q0, q1, qP, va_K.moved (u := U) (U := U.calling g mk a) (Vm.Alike.refl U.vm) qK, qD⟩, va_recv hKc hPc (ci := 6) (q0 := 0) rfl rfl, fun U hU hW => ⟨rfl, by rw [hU], by rw [hU]; exact hPc, va_K.moved hW.alike hKc, hDc.weaken (fun _ _ _ _ => trivial)⟩⟩ rfl rfl hl.1 rfl (lv_room (Nat.le_of_ble_eq_true rfl)) dX6_endOfPattern_217 ⟨Nat.le_of_ble_eq_true rfl, Nat.le_of_ble_eq_true rfl⟩) hS (fun q _ h => hFc q h) hFc (fun u t H1 locs ht hvm hw hB hz1 hk1 hS => ?_)
                          obtain ⟨hP1, hK1, hD1⟩ := hB
                          rw [ht] at hP1
                          obtain ⟨hP, hD⟩ := va_join (wr := [(ta, .inl (cT, nb, .inl ft))]) (w1 := [(rd, .inr (6, rF r 1 ax a2 a3 a4 a5 a6 a7))]) hP hD [0] [1] rfl rfl (by decide) (by decide) hk1 hFc hP1 hD1
                          generalize H1 = H at hP hS ⊢
                          have hP : va_P (dC, dI) vwCl [(ta, .inl (cT, nb, .inl ft)), (rd, .inr (6, rF r 1 ax a2 a3 a4 a5 a6 a7))] H := hP
                          have hD : va_D A [(ta, .inl (cT, nb, .inl ft)), (rd, .inr (6, rF r 1 ax a2 a3 a4 a5 a6 a7))] := hD
                          refine lv_aload_n hx hb dX6_endOfPattern_220 rfl (lv_at hl 5 rfl) ?_
                          refine va_get (D := (dC, dI)) (ci := 6) (v := .int 1) (C := RX6) (T := TX6) (N := 11) hx hb hts fin_X6_endOfPatternq_X6 hown hK hP 1 rfl rfl 0 (by decide) (hts (.fieldLink RX6 22 "PatternGate$Reader" "faultKind" "I") (List.mem_of_getElem? (i := 7) (by decide +kernel))) (fun _ h9 => h9) rfl dX6_endOfPattern_221 ?_
                          refine lv_if_eq (tgt := 230) hx hb dX6_endOfPattern_224 (by decide) (fun k_139 => absurd k_139 (by decide)) (fun k_139 => ?_)
                          have tk_139 := c_ne (a := 1) (b := 0) (by decide) (by decide) k_139
                          refine lv_iload hx hb dX6_endOfPattern_227 (lv_at hl 1 rfl) ?_
                          have hP9 := hP.sub (ws' := [(rd, .inr (6, rF r 1 ax a2 a3 a4 a5 a6 a7)), (ta, .inl (cT, nb, .inl ft))]) [1, 0] rfl
                          have hD9 := hD.sub (ws' := [(rd, .inr (6, rF r 1 ax a2 a3 a4 a5 a6 a7)), (ta, .inl (cT, nb, .inl ft))]) [1, 0] (by decide) rfl
                          have hK9 := hK.sub (tys' := [(cT, .int)]) [0] rfl
                          exact W.iret hx hb hr (fun t ht hW => ⟨⟨_, ax, rfl, ⟨rfl, by omega⟩, 1, ax, (dP_f v12_1 (fun d p => mv_px (by unfold isAt; omega) (by omega)) (by decide)), by rw [ht]; exact hP9, va_K.moved hW.alike hK9, hD9⟩, hS.F ht⟩) hS.2.2 dX6_endOfPattern_229
                        · have tk_136 := c_ne (a := r_135.toInt) (b := 0) rfl (by decide) k_136
                          refine lv_iload hx hb dX6_endOfPattern_201 (lv_at hl 2 rfl) ?_
                          refine lv_iconst (v := 1) hx hb dX6_endOfPattern_203 (by decide) ?_
                          refine lv_icmp_ne (tgt := 213) hx hb dX6_endOfPattern_204 (by decide) (fun k_140 => ?_) (fun k_140 => ?_)
                          · have tk_140 := c_ne (a := sd.toInt) (b := 1) rfl (by decide) k_140
                            refine lv_aload_n hx hb dX6_endOfPattern_213 rfl (lv_at hl 5 rfl) ?_
                            refine lv_iconst (v := 1) hx hb dX6_endOfPattern_214 (by decide) ?_
                            refine lv_iload hx hb dX6_endOfPattern_215 (lv_at hl 1 rfl) ?_
                            have hPc := hP.sub (ws' := [(rd, .inr (6, rF r fa fb a2 a3 a4 a5 a6 a7))]) [0] rfl
                            have hKc := hK.sub (tys' := []) [] rfl
                            have hDc := hD.sub (ws' := [(rd, .inr (6, rF r fa fb a2 a3 a4 a5 a6 a7))]) [0] (by decide) rfl
                            have hFc := va_free (wc := [(rd, .inr (6, rF r fa fb a2 a3 a4 a5 a6 a7))]) hD hS hA [0] rfl
                            refine va_callv (va_runV (As := [.int 1, .int ax]) (rest := []) ⟨hx, hb, hml, hown, hts⟩ (s_fail l dC dI rd r fa fb a2 a3 a4 a5 a6 a7 H.size 1 ax) (cwV 2 hts mg_X6_endOfPatternq_X6_fail_71 rfl rfl rfl (by decide +kernel) ⟨Nat.le_of_ble_eq_true rfl, Nat.le_of_ble_eq_true rfl⟩) ⟨fun a U g mk q => by obtain ⟨q0, q1, qP, qK, qD⟩ := q; exact ⟨q0, q1, qP, va_K.moved (u := U) (U := U.calling g mk a) (Vm.Alike.refl U.vm) qK, qD⟩, va_recv hKc hPc (ci := 6) (q0 := 0) rfl rfl, fun U hU hW => ⟨rfl, by rw [hU], by rw [hU]; exact hPc, va_K.moved hW.alike hKc, hDc.weaken (fun _ _ _ _ => trivial)⟩⟩ rfl rfl hl.1 rfl (lv_room (Nat.le_of_ble_eq_true rfl)) dX6_endOfPattern_217 ⟨Nat.le_of_ble_eq_true rfl, Nat.le_of_ble_eq_true rfl⟩) hS (fun q _ h => hFc q h) hFc (fun u t H1 locs ht hvm hw hB hz1 hk1 hS => ?_)
                            obtain ⟨hP1, hK1, hD1⟩ := hB
                            rw [ht] at hP1
                            obtain ⟨hP, hD⟩ := va_join (wr := [(ta, .inl (cT, nb, .inl ft))]) (w1 := [(rd, .inr (6, rF r 1 ax a2 a3 a4 a5 a6 a7))]) hP hD [0] [1] rfl rfl (by decide) (by decide) hk1 hFc hP1 hD1
                            generalize H1 = H at hP hS ⊢
                            have hP : va_P (dC, dI) vwCl [(ta, .inl (cT, nb, .inl ft)), (rd, .inr (6, rF r 1 ax a2 a3 a4 a5 a6 a7))] H := hP
                            have hD : va_D A [(ta, .inl (cT, nb, .inl ft)), (rd, .inr (6, rF r 1 ax a2 a3 a4 a5 a6 a7))] := hD
                            refine lv_aload_n hx hb dX6_endOfPattern_220 rfl (lv_at hl 5 rfl) ?_
                            refine va_get (D := (dC, dI)) (ci := 6) (v := .int 1) (C := RX6) (T := TX6) (N := 11) hx hb hts fin_X6_endOfPatternq_X6 hown hK hP 1 rfl rfl 0 (by decide) (hts (.fieldLink RX6 22 "PatternGate$Reader" "faultKind" "I") (List.mem_of_getElem? (i := 7) (by decide +kernel))) (fun _ h9 => h9) rfl dX6_endOfPattern_221 ?_
                            refine lv_if_eq (tgt := 230) hx hb dX6_endOfPattern_224 (by decide) (fun k_143 => absurd k_143 (by decide)) (fun k_143 => ?_)
                            have tk_143 := c_ne (a := 1) (b := 0) (by decide) (by decide) k_143
                            refine lv_iload hx hb dX6_endOfPattern_227 (lv_at hl 1 rfl) ?_
                            have hP9 := hP.sub (ws' := [(rd, .inr (6, rF r 1 ax a2 a3 a4 a5 a6 a7)), (ta, .inl (cT, nb, .inl ft))]) [1, 0] rfl
                            have hD9 := hD.sub (ws' := [(rd, .inr (6, rF r 1 ax a2 a3 a4 a5 a6 a7)), (ta, .inl (cT, nb, .inl ft))]) [1, 0] (by decide) rfl
                            have hK9 := hK.sub (tys' := [(cT, .int)]) [0] rfl
                            exact W.iret hx hb hr (fun t ht hW => ⟨⟨_, ax, rfl, ⟨rfl, by omega⟩, 1, ax, (dP_f v12_1 (fun d p => mv_px (by unfold isAt; omega) (by omega)) (by decide)), by rw [ht]; exact hP9, va_K.moved hW.alike hK9, hD9⟩, hS.F ht⟩) hS.2.2 dX6_endOfPattern_229
                          · have tk_140 := c_eq (a := sd.toInt) (b := 1) rfl (by decide) k_140
                            refine lv_iconst (v := 2) hx hb dX6_endOfPattern_207 (by decide) ?_
                            refine lv_istore (lv' := [(6, .int 2), (8, .int y_4), (7, .int ax), (5, .int op), (4, .int sp), (0, .ref rd), (1, .ref ta), (2, .int i8), (3, .int i9)]) hx hb dX6_endOfPattern_208 hl (by decide) rfl (fun ls hl => ?_)
                            refine lv_goto (tgt := 220) hx hb dX6_endOfPattern_210 (by decide) ?_
                            refine lv_aload_n hx hb dX6_endOfPattern_220 rfl (lv_at hl 5 rfl) ?_
                            refine va_get (D := (dC, dI)) (ci := 6) (v := .int fa) (C := RX6) (T := TX6) (N := 11) hx hb hts fin_X6_endOfPatternq_X6 hown hK hP 0 rfl rfl 0 (by decide) (hts (.fieldLink RX6 22 "PatternGate$Reader" "faultKind" "I") (List.mem_of_getElem? (i := 7) (by decide +kernel))) (fun _ h9 => h9) rfl dX6_endOfPattern_221 ?_
                            refine lv_if_eq (tgt := 230) hx hb dX6_endOfPattern_224 (by decide) (fun k_144 => ?_) (fun k_144 => absurd (Int32.toInt_inj.mp (v12_2.trans (by decide))) k_144)
                            have tk_144 := c_eq (a := fa.toInt) (b := 0) rfl (by decide) k_144
                            obtain ⟨y_145, ey_145⟩ : ∃ y : Int32, y = ax + 1 := ⟨_, rfl⟩
                            first | have ty_145 := i_add (a := ax.toInt) (b := 1) rfl (by decide) ey_145 (by omega) (by omega) | skip
                            refine lv_iinc (v := y_145) (lv' := [(7, .int y_145), (6, .int 2), (8, .int y_4), (5, .int op), (4, .int sp), (0, .ref rd), (1, .ref ta), (2, .int i8), (3, .int i9)]) hx hb dX6_endOfPattern_230 hl (k := 2) rfl (by rw [ey_145]; rfl) (by decide) rfl (fun ls hl => ?_)
                            refine lv_goto (tgt := 12) hx hb dX6_endOfPattern_233 (by decide) ?_
                            have lit_145 : (2 : Int32).toInt = 2 := by decide
                            exact ih12 sp op 2 y_145 fa fb (by first | omega | assumption | decide) (dP_next v12_1 (fun d p => by rw [show sd.toInt = 1 by omega]; rw [show y_145.toInt = ax.toInt + 1 by omega, show (2 : Int32).toInt = 2 by decide]; exact mv_pg (by unfold isQu; omega))) (by first | omega | assumption | decide) (by first | omega | assumption | decide) (by first | omega | assumption | decide) (by omega) _ _ ls hP hD hS (lv_sub hl [0, 1, 3, 4, 5, 6, 7, 8] rfl)
                      · have tk_133 := c_eq (a := y_4.toInt) (b := 41) rfl (by decide) k_133
                        refine lv_iload hx hb dX6_endOfPattern_174 (lv_at hl 3 rfl) ?_
                        refine lv_if_le (tgt := 193) hx hb dX6_endOfPattern_176 (by decide) (fun k_147 => ?_) (fun k_147 => ?_)
                        · have tk_147 := c_le (a := op.toInt) (b := 0) rfl (by decide) k_147
                          refine lv_iload hx hb dX6_endOfPattern_193 (lv_at hl 0 rfl) ?_
                          refine vp_callSi (W.runS (As := [.int y_4]) (rest := []) ⟨hx, hb, hml, hown, hts⟩ (s_isSign_q l dC dI y_4) (va_cwS 1 hts mg_X6_endOfPatternq_X6_isSign_102 rfl rfl rfl (by decide +kernel) ⟨Nat.le_of_ble_eq_true rfl, Nat.le_of_ble_eq_true rfl⟩) ⟨fun a U g mk q => ⟨q.1, trivial⟩, fun U hU hW => ⟨rfl, trivial⟩⟩ rfl rfl hl.1 rfl (lv_room (Nat.le_of_ble_eq_true rfl)) dX6_endOfPattern_195 ⟨Nat.le_of_ble_eq_true rfl, Nat.le_of_ble_eq_true rfl⟩) (fun r_149 hw => ?_)
                          have hr_149 := hw
                          refine lv_if_eq (tgt := 213) hx hb dX6_endOfPattern_198 (by decide) (fun k_150 => ?_) (fun k_150 => ?_)
                          · have tk_150 := c_eq (a := r_149.toInt) (b := 0) rfl (by decide) k_150
                            refine lv_aload_n hx hb dX6_endOfPattern_213 rfl (lv_at hl 5 rfl) ?_
                            refine lv_iconst (v := 1) hx hb dX6_endOfPattern_214 (by decide) ?_
                            refine lv_iload hx hb dX6_endOfPattern_215 (lv_at hl 1 rfl) ?_
                            have hPc := hP.sub (ws' := [(rd, .inr (6, rF r fa fb a2 a3 a4 a5 a6 a7))]) [0] rfl
                            have hKc := hK.sub (tys' := []) [] rfl
                            have hDc := hD.sub (ws' := [(rd, .inr (6, rF r fa fb a2 a3 a4 a5 a6 a7))]) [0] (by decide) rfl
                            have hFc := va_free (wc := [(rd, .inr (6, rF r fa fb a2 a3 a4 a5 a6 a7))]) hD hS hA [0] rfl
                            refine va_callv (va_runV (As := [.int 1, .int ax]) (rest := []) ⟨hx, hb, hml, hown, hts⟩ (s_fail l dC dI rd r fa fb a2 a3 a4 a5 a6 a7 H.size 1 ax) (cwV 2 hts mg_X6_endOfPatternq_X6_fail_71 rfl rfl rfl (by decide +kernel) ⟨Nat.le_of_ble_eq_true rfl, Nat.le_of_ble_eq_true rfl⟩) ⟨fun a U g mk q => by obtain ⟨q0, q1, qP, qK, qD⟩ := q; exact ⟨q0, q1, qP, va_K.moved (u := U) (U := U.calling g mk a) (Vm.Alike.refl U.vm) qK, qD⟩, va_recv hKc hPc (ci := 6) (q0 := 0) rfl rfl, fun U hU hW => ⟨rfl, by rw [hU], by rw [hU]; exact hPc, va_K.moved hW.alike hKc, hDc.weaken (fun _ _ _ _ => trivial)⟩⟩ rfl rfl hl.1 rfl (lv_room (Nat.le_of_ble_eq_true rfl)) dX6_endOfPattern_217 ⟨Nat.le_of_ble_eq_true rfl, Nat.le_of_ble_eq_true rfl⟩) hS (fun q _ h => hFc q h) hFc (fun u t H1 locs ht hvm hw hB hz1 hk1 hS => ?_)
                            obtain ⟨hP1, hK1, hD1⟩ := hB
                            rw [ht] at hP1
                            obtain ⟨hP, hD⟩ := va_join (wr := [(ta, .inl (cT, nb, .inl ft))]) (w1 := [(rd, .inr (6, rF r 1 ax a2 a3 a4 a5 a6 a7))]) hP hD [0] [1] rfl rfl (by decide) (by decide) hk1 hFc hP1 hD1
                            generalize H1 = H at hP hS ⊢
                            have hP : va_P (dC, dI) vwCl [(ta, .inl (cT, nb, .inl ft)), (rd, .inr (6, rF r 1 ax a2 a3 a4 a5 a6 a7))] H := hP
                            have hD : va_D A [(ta, .inl (cT, nb, .inl ft)), (rd, .inr (6, rF r 1 ax a2 a3 a4 a5 a6 a7))] := hD
                            refine lv_aload_n hx hb dX6_endOfPattern_220 rfl (lv_at hl 5 rfl) ?_
                            refine va_get (D := (dC, dI)) (ci := 6) (v := .int 1) (C := RX6) (T := TX6) (N := 11) hx hb hts fin_X6_endOfPatternq_X6 hown hK hP 1 rfl rfl 0 (by decide) (hts (.fieldLink RX6 22 "PatternGate$Reader" "faultKind" "I") (List.mem_of_getElem? (i := 7) (by decide +kernel))) (fun _ h9 => h9) rfl dX6_endOfPattern_221 ?_
                            refine lv_if_eq (tgt := 230) hx hb dX6_endOfPattern_224 (by decide) (fun k_153 => absurd k_153 (by decide)) (fun k_153 => ?_)
                            have tk_153 := c_ne (a := 1) (b := 0) (by decide) (by decide) k_153
                            refine lv_iload hx hb dX6_endOfPattern_227 (lv_at hl 1 rfl) ?_
                            have hP9 := hP.sub (ws' := [(rd, .inr (6, rF r 1 ax a2 a3 a4 a5 a6 a7)), (ta, .inl (cT, nb, .inl ft))]) [1, 0] rfl
                            have hD9 := hD.sub (ws' := [(rd, .inr (6, rF r 1 ax a2 a3 a4 a5 a6 a7)), (ta, .inl (cT, nb, .inl ft))]) [1, 0] (by decide) rfl
                            have hK9 := hK.sub (tys' := [(cT, .int)]) [0] rfl
                            exact W.iret hx hb hr (fun t ht hW => ⟨⟨_, ax, rfl, ⟨rfl, by omega⟩, 1, ax, (dP_f v12_1 (fun d p => mv_px (by unfold isAt; omega) (by omega)) (by decide)), by rw [ht]; exact hP9, va_K.moved hW.alike hK9, hD9⟩, hS.F ht⟩) hS.2.2 dX6_endOfPattern_229
                          · have tk_150 := c_ne (a := r_149.toInt) (b := 0) rfl (by decide) k_150
                            refine lv_iload hx hb dX6_endOfPattern_201 (lv_at hl 2 rfl) ?_
                            refine lv_iconst (v := 1) hx hb dX6_endOfPattern_203 (by decide) ?_
                            refine lv_icmp_ne (tgt := 213) hx hb dX6_endOfPattern_204 (by decide) (fun k_154 => ?_) (fun k_154 => ?_)
                            · have tk_154 := c_ne (a := sd.toInt) (b := 1) rfl (by decide) k_154
                              refine lv_aload_n hx hb dX6_endOfPattern_213 rfl (lv_at hl 5 rfl) ?_
                              refine lv_iconst (v := 1) hx hb dX6_endOfPattern_214 (by decide) ?_
                              refine lv_iload hx hb dX6_endOfPattern_215 (lv_at hl 1 rfl) ?_
                              have hPc := hP.sub (ws' := [(rd, .inr (6, rF r fa fb a2 a3 a4 a5 a6 a7))]) [0] rfl
                              have hKc := hK.sub (tys' := []) [] rfl
                              have hDc := hD.sub (ws' := [(rd, .inr (6, rF r fa fb a2 a3 a4 a5 a6 a7))]) [0] (by decide) rfl
                              have hFc := va_free (wc := [(rd, .inr (6, rF r fa fb a2 a3 a4 a5 a6 a7))]) hD hS hA [0] rfl
                              refine va_callv (va_runV (As := [.int 1, .int ax]) (rest := []) ⟨hx, hb, hml, hown, hts⟩ (s_fail l dC dI rd r fa fb a2 a3 a4 a5 a6 a7 H.size 1 ax) (cwV 2 hts mg_X6_endOfPatternq_X6_fail_71 rfl rfl rfl (by decide +kernel) ⟨Nat.le_of_ble_eq_true rfl, Nat.le_of_ble_eq_true rfl⟩) ⟨fun a U g mk q => by obtain ⟨q0, q1, qP, qK, qD⟩ := q; exact ⟨q0, q1, qP, va_K.moved (u := U) (U := U.calling g mk a) (Vm.Alike.refl U.vm) qK, qD⟩, va_recv hKc hPc (ci := 6) (q0 := 0) rfl rfl, fun U hU hW => ⟨rfl, by rw [hU], by rw [hU]; exact hPc, va_K.moved hW.alike hKc, hDc.weaken (fun _ _ _ _ => trivial)⟩⟩ rfl rfl hl.1 rfl (lv_room (Nat.le_of_ble_eq_true rfl)) dX6_endOfPattern_217 ⟨Nat.le_of_ble_eq_true rfl, Nat.le_of_ble_eq_true rfl⟩) hS (fun q _ h => hFc q h) hFc (fun u t H1 locs ht hvm hw hB hz1 hk1 hS => ?_)
                              obtain ⟨hP1, hK1, hD1⟩ := hB
                              rw [ht] at hP1
                              obtain ⟨hP, hD⟩ := va_join (wr := [(ta, .inl (cT, nb, .inl ft))]) (w1 := [(rd, .inr (6, rF r 1 ax a2 a3 a4 a5 a6 a7))]) hP hD [0] [1] rfl rfl (by decide) (by decide) hk1 hFc hP1 hD1
                              generalize H1 = H at hP hS ⊢
                              have hP : va_P (dC, dI) vwCl [(ta, .inl (cT, nb, .inl ft)), (rd, .inr (6, rF r 1 ax a2 a3 a4 a5 a6 a7))] H := hP
                              have hD : va_D A [(ta, .inl (cT, nb, .inl ft)), (rd, .inr (6, rF r 1 ax a2 a3 a4 a5 a6 a7))] := hD
                              refine lv_aload_n hx hb dX6_endOfPattern_220 rfl (lv_at hl 5 rfl) ?_
                              refine va_get (D := (dC, dI)) (ci := 6) (v := .int 1) (C := RX6) (T := TX6) (N := 11) hx hb hts fin_X6_endOfPatternq_X6 hown hK hP 1 rfl rfl 0 (by decide) (hts (.fieldLink RX6 22 "PatternGate$Reader" "faultKind" "I") (List.mem_of_getElem? (i := 7) (by decide +kernel))) (fun _ h9 => h9) rfl dX6_endOfPattern_221 ?_
                              refine lv_if_eq (tgt := 230) hx hb dX6_endOfPattern_224 (by decide) (fun k_157 => absurd k_157 (by decide)) (fun k_157 => ?_)
                              have tk_157 := c_ne (a := 1) (b := 0) (by decide) (by decide) k_157
                              refine lv_iload hx hb dX6_endOfPattern_227 (lv_at hl 1 rfl) ?_
                              have hP9 := hP.sub (ws' := [(rd, .inr (6, rF r 1 ax a2 a3 a4 a5 a6 a7)), (ta, .inl (cT, nb, .inl ft))]) [1, 0] rfl
                              have hD9 := hD.sub (ws' := [(rd, .inr (6, rF r 1 ax a2 a3 a4 a5 a6 a7)), (ta, .inl (cT, nb, .inl ft))]) [1, 0] (by decide) rfl
                              have hK9 := hK.sub (tys' := [(cT, .int)]) [0] rfl
                              exact W.iret hx hb hr (fun t ht hW => ⟨⟨_, ax, rfl, ⟨rfl, by omega⟩, 1, ax, (dP_f v12_1 (fun d p => mv_px (by unfold isAt; omega) (by omega)) (by decide)), by rw [ht]; exact hP9, va_K.moved hW.alike hK9, hD9⟩, hS.F ht⟩) hS.2.2 dX6_endOfPattern_229
                            · have tk_154 := c_eq (a := sd.toInt) (b := 1) rfl (by decide) k_154
                              refine lv_iconst (v := 2) hx hb dX6_endOfPattern_207 (by decide) ?_
                              refine lv_istore (lv' := [(6, .int 2), (8, .int y_4), (7, .int ax), (5, .int op), (4, .int sp), (0, .ref rd), (1, .ref ta), (2, .int i8), (3, .int i9)]) hx hb dX6_endOfPattern_208 hl (by decide) rfl (fun ls hl => ?_)
                              refine lv_goto (tgt := 220) hx hb dX6_endOfPattern_210 (by decide) ?_
                              refine lv_aload_n hx hb dX6_endOfPattern_220 rfl (lv_at hl 5 rfl) ?_
                              refine va_get (D := (dC, dI)) (ci := 6) (v := .int fa) (C := RX6) (T := TX6) (N := 11) hx hb hts fin_X6_endOfPatternq_X6 hown hK hP 0 rfl rfl 0 (by decide) (hts (.fieldLink RX6 22 "PatternGate$Reader" "faultKind" "I") (List.mem_of_getElem? (i := 7) (by decide +kernel))) (fun _ h9 => h9) rfl dX6_endOfPattern_221 ?_
                              refine lv_if_eq (tgt := 230) hx hb dX6_endOfPattern_224 (by decide) (fun k_158 => ?_) (fun k_158 => absurd (Int32.toInt_inj.mp (v12_2.trans (by decide))) k_158)
                              have tk_158 := c_eq (a := fa.toInt) (b := 0) rfl (by decide) k_158
                              obtain ⟨y_159, ey_159⟩ : ∃ y : Int32, y = ax + 1 := ⟨_, rfl⟩
                              first | have ty_159 := i_add (a := ax.toInt) (b := 1) rfl (by decide) ey_159 (by omega) (by omega) | skip
                              refine lv_iinc (v := y_159) (lv' := [(7, .int y_159), (6, .int 2), (8, .int y_4), (5, .int op), (4, .int sp), (0, .ref rd), (1, .ref ta), (2, .int i8), (3, .int i9)]) hx hb dX6_endOfPattern_230 hl (k := 2) rfl (by rw [ey_159]; rfl) (by decide) rfl (fun ls hl => ?_)
                              refine lv_goto (tgt := 12) hx hb dX6_endOfPattern_233 (by decide) ?_
                              have lit_159 : (2 : Int32).toInt = 2 := by decide
                              exact ih12 sp op 2 y_159 fa fb (by first | omega | assumption | decide) (dP_next v12_1 (fun d p => by rw [show sd.toInt = 1 by omega]; rw [show y_159.toInt = ax.toInt + 1 by omega, show (2 : Int32).toInt = 2 by decide]; exact mv_pg (by unfold isQu; omega))) (by first | omega | assumption | decide) (by first | omega | assumption | decide) (by first | omega | assumption | decide) (by omega) _ _ ls hP hD hS (lv_sub hl [0, 1, 3, 4, 5, 6, 7, 8] rfl)
                        · have tk_147 := c_nle (a := op.toInt) (b := 0) rfl (by decide) k_147
                          refine lv_iload hx hb dX6_endOfPattern_179 (lv_at hl 2 rfl) ?_
                          refine lv_if_eq (tgt := 193) hx hb dX6_endOfPattern_181 (by decide) (fun k_161 => ?_) (fun k_161 => ?_)
                          · have tk_161 := c_eq (a := sd.toInt) (b := 0) rfl (by decide) k_161
                            refine lv_iload hx hb dX6_endOfPattern_193 (lv_at hl 0 rfl) ?_
                            refine vp_callSi (W.runS (As := [.int y_4]) (rest := []) ⟨hx, hb, hml, hown, hts⟩ (s_isSign_q l dC dI y_4) (va_cwS 1 hts mg_X6_endOfPatternq_X6_isSign_102 rfl rfl rfl (by decide +kernel) ⟨Nat.le_of_ble_eq_true rfl, Nat.le_of_ble_eq_true rfl⟩) ⟨fun a U g mk q => ⟨q.1, trivial⟩, fun U hU hW => ⟨rfl, trivial⟩⟩ rfl rfl hl.1 rfl (lv_room (Nat.le_of_ble_eq_true rfl)) dX6_endOfPattern_195 ⟨Nat.le_of_ble_eq_true rfl, Nat.le_of_ble_eq_true rfl⟩) (fun r_163 hw => ?_)
                            have hr_163 := hw
                            refine lv_if_eq (tgt := 213) hx hb dX6_endOfPattern_198 (by decide) (fun k_164 => ?_) (fun k_164 => ?_)
                            · have tk_164 := c_eq (a := r_163.toInt) (b := 0) rfl (by decide) k_164
                              refine lv_aload_n hx hb dX6_endOfPattern_213 rfl (lv_at hl 5 rfl) ?_
                              refine lv_iconst (v := 1) hx hb dX6_endOfPattern_214 (by decide) ?_
                              refine lv_iload hx hb dX6_endOfPattern_215 (lv_at hl 1 rfl) ?_
                              have hPc := hP.sub (ws' := [(rd, .inr (6, rF r fa fb a2 a3 a4 a5 a6 a7))]) [0] rfl
                              have hKc := hK.sub (tys' := []) [] rfl
                              have hDc := hD.sub (ws' := [(rd, .inr (6, rF r fa fb a2 a3 a4 a5 a6 a7))]) [0] (by decide) rfl
                              have hFc := va_free (wc := [(rd, .inr (6, rF r fa fb a2 a3 a4 a5 a6 a7))]) hD hS hA [0] rfl
                              refine va_callv (va_runV (As := [.int 1, .int ax]) (rest := []) ⟨hx, hb, hml, hown, hts⟩ (s_fail l dC dI rd r fa fb a2 a3 a4 a5 a6 a7 H.size 1 ax) (cwV 2 hts mg_X6_endOfPatternq_X6_fail_71 rfl rfl rfl (by decide +kernel) ⟨Nat.le_of_ble_eq_true rfl, Nat.le_of_ble_eq_true rfl⟩) ⟨fun a U g mk q => by obtain ⟨q0, q1, qP, qK, qD⟩ := q; exact ⟨q0, q1, qP, va_K.moved (u := U) (U := U.calling g mk a) (Vm.Alike.refl U.vm) qK, qD⟩, va_recv hKc hPc (ci := 6) (q0 := 0) rfl rfl, fun U hU hW => ⟨rfl, by rw [hU], by rw [hU]; exact hPc, va_K.moved hW.alike hKc, hDc.weaken (fun _ _ _ _ => trivial)⟩⟩ rfl rfl hl.1 rfl (lv_room (Nat.le_of_ble_eq_true rfl)) dX6_endOfPattern_217 ⟨Nat.le_of_ble_eq_true rfl, Nat.le_of_ble_eq_true rfl⟩) hS (fun q _ h => hFc q h) hFc (fun u t H1 locs ht hvm hw hB hz1 hk1 hS => ?_)
                              obtain ⟨hP1, hK1, hD1⟩ := hB
                              rw [ht] at hP1
                              obtain ⟨hP, hD⟩ := va_join (wr := [(ta, .inl (cT, nb, .inl ft))]) (w1 := [(rd, .inr (6, rF r 1 ax a2 a3 a4 a5 a6 a7))]) hP hD [0] [1] rfl rfl (by decide) (by decide) hk1 hFc hP1 hD1
                              generalize H1 = H at hP hS ⊢
                              have hP : va_P (dC, dI) vwCl [(ta, .inl (cT, nb, .inl ft)), (rd, .inr (6, rF r 1 ax a2 a3 a4 a5 a6 a7))] H := hP
                              have hD : va_D A [(ta, .inl (cT, nb, .inl ft)), (rd, .inr (6, rF r 1 ax a2 a3 a4 a5 a6 a7))] := hD
                              refine lv_aload_n hx hb dX6_endOfPattern_220 rfl (lv_at hl 5 rfl) ?_
                              refine va_get (D := (dC, dI)) (ci := 6) (v := .int 1) (C := RX6) (T := TX6) (N := 11) hx hb hts fin_X6_endOfPatternq_X6 hown hK hP 1 rfl rfl 0 (by decide) (hts (.fieldLink RX6 22 "PatternGate$Reader" "faultKind" "I") (List.mem_of_getElem? (i := 7) (by decide +kernel))) (fun _ h9 => h9) rfl dX6_endOfPattern_221 ?_
                              refine lv_if_eq (tgt := 230) hx hb dX6_endOfPattern_224 (by decide) (fun k_167 => absurd k_167 (by decide)) (fun k_167 => ?_)
                              have tk_167 := c_ne (a := 1) (b := 0) (by decide) (by decide) k_167
                              refine lv_iload hx hb dX6_endOfPattern_227 (lv_at hl 1 rfl) ?_
                              have hP9 := hP.sub (ws' := [(rd, .inr (6, rF r 1 ax a2 a3 a4 a5 a6 a7)), (ta, .inl (cT, nb, .inl ft))]) [1, 0] rfl
                              have hD9 := hD.sub (ws' := [(rd, .inr (6, rF r 1 ax a2 a3 a4 a5 a6 a7)), (ta, .inl (cT, nb, .inl ft))]) [1, 0] (by decide) rfl
                              have hK9 := hK.sub (tys' := [(cT, .int)]) [0] rfl
                              exact W.iret hx hb hr (fun t ht hW => ⟨⟨_, ax, rfl, ⟨rfl, by omega⟩, 1, ax, (dP_f v12_1 (fun d p => mv_px (by unfold isAt; omega) (by omega)) (by decide)), by rw [ht]; exact hP9, va_K.moved hW.alike hK9, hD9⟩, hS.F ht⟩) hS.2.2 dX6_endOfPattern_229
                            · have tk_164 := c_ne (a := r_163.toInt) (b := 0) rfl (by decide) k_164
                              refine lv_iload hx hb dX6_endOfPattern_201 (lv_at hl 2 rfl) ?_
                              refine lv_iconst (v := 1) hx hb dX6_endOfPattern_203 (by decide) ?_
                              refine lv_icmp_ne (tgt := 213) hx hb dX6_endOfPattern_204 (by decide) (fun k_168 => ?_) (fun k_168 => ?_)
                              · have tk_168 := c_ne (a := sd.toInt) (b := 1) rfl (by decide) k_168
                                refine lv_aload_n hx hb dX6_endOfPattern_213 rfl (lv_at hl 5 rfl) ?_
                                refine lv_iconst (v := 1) hx hb dX6_endOfPattern_214 (by decide) ?_
                                refine lv_iload hx hb dX6_endOfPattern_215 (lv_at hl 1 rfl) ?_
                                have hPc := hP.sub (ws' := [(rd, .inr (6, rF r fa fb a2 a3 a4 a5 a6 a7))]) [0] rfl
                                have hKc := hK.sub (tys' := []) [] rfl
                                have hDc := hD.sub (ws' := [(rd, .inr (6, rF r fa fb a2 a3 a4 a5 a6 a7))]) [0] (by decide) rfl
                                have hFc := va_free (wc := [(rd, .inr (6, rF r fa fb a2 a3 a4 a5 a6 a7))]) hD hS hA [0] rfl
                                refine va_callv (va_runV (As := [.int 1, .int ax]) (rest := []) ⟨hx, hb, hml, hown, hts⟩ (s_fail l dC dI rd r fa fb a2 a3 a4 a5 a6 a7 H.size 1 ax) (cwV 2 hts mg_X6_endOfPatternq_X6_fail_71 rfl rfl rfl (by decide +kernel) ⟨Nat.le_of_ble_eq_true rfl, Nat.le_of_ble_eq_true rfl⟩) ⟨fun a U g mk q => by obtain ⟨q0, q1, qP, qK, qD⟩ := q; exact ⟨q0, q1, qP, va_K.moved (u := U) (U := U.calling g mk a) (Vm.Alike.refl U.vm) qK, qD⟩, va_recv hKc hPc (ci := 6) (q0 := 0) rfl rfl, fun U hU hW => ⟨rfl, by rw [hU], by rw [hU]; exact hPc, va_K.moved hW.alike hKc, hDc.weaken (fun _ _ _ _ => trivial)⟩⟩ rfl rfl hl.1 rfl (lv_room (Nat.le_of_ble_eq_true rfl)) dX6_endOfPattern_217 ⟨Nat.le_of_ble_eq_true rfl, Nat.le_of_ble_eq_true rfl⟩) hS (fun q _ h => hFc q h) hFc (fun u t H1 locs ht hvm hw hB hz1 hk1 hS => ?_)
                                obtain ⟨hP1, hK1, hD1⟩ := hB
                                rw [ht] at hP1
                                obtain ⟨hP, hD⟩ := va_join (wr := [(ta, .inl (cT, nb, .inl ft))]) (w1 := [(rd, .inr (6, rF r 1 ax a2 a3 a4 a5 a6 a7))]) hP hD [0] [1] rfl rfl (by decide) (by decide) hk1 hFc hP1 hD1
                                generalize H1 = H at hP hS ⊢
                                have hP : va_P (dC, dI) vwCl [(ta, .inl (cT, nb, .inl ft)), (rd, .inr (6, rF r 1 ax a2 a3 a4 a5 a6 a7))] H := hP
                                have hD : va_D A [(ta, .inl (cT, nb, .inl ft)), (rd, .inr (6, rF r 1 ax a2 a3 a4 a5 a6 a7))] := hD
                                refine lv_aload_n hx hb dX6_endOfPattern_220 rfl (lv_at hl 5 rfl) ?_
                                refine va_get (D := (dC, dI)) (ci := 6) (v := .int 1) (C := RX6) (T := TX6) (N := 11) hx hb hts fin_X6_endOfPatternq_X6 hown hK hP 1 rfl rfl 0 (by decide) (hts (.fieldLink RX6 22 "PatternGate$Reader" "faultKind" "I") (List.mem_of_getElem? (i := 7) (by decide +kernel))) (fun _ h9 => h9) rfl dX6_endOfPattern_221 ?_
                                refine lv_if_eq (tgt := 230) hx hb dX6_endOfPattern_224 (by decide) (fun k_171 => absurd k_171 (by decide)) (fun k_171 => ?_)
                                have tk_171 := c_ne (a := 1) (b := 0) (by decide) (by decide) k_171
                                refine lv_iload hx hb dX6_endOfPattern_227 (lv_at hl 1 rfl) ?_
                                have hP9 := hP.sub (ws' := [(rd, .inr (6, rF r 1 ax a2 a3 a4 a5 a6 a7)), (ta, .inl (cT, nb, .inl ft))]) [1, 0] rfl
                                have hD9 := hD.sub (ws' := [(rd, .inr (6, rF r 1 ax a2 a3 a4 a5 a6 a7)), (ta, .inl (cT, nb, .inl ft))]) [1, 0] (by decide) rfl
                                have hK9 := hK.sub (tys' := [(cT, .int)]) [0] rfl
                                exact W.iret hx hb hr (fun t ht hW => ⟨⟨_, ax, rfl, ⟨rfl, by omega⟩, 1, ax, (dP_f v12_1 (fun d p => mv_px (by unfold isAt; omega) (by omega)) (by decide)), by rw [ht]; exact hP9, va_K.moved hW.alike hK9, hD9⟩, hS.F ht⟩) hS.2.2 dX6_endOfPattern_229
                              · have tk_168 := c_eq (a := sd.toInt) (b := 1) rfl (by decide) k_168
                                refine lv_iconst (v := 2) hx hb dX6_endOfPattern_207 (by decide) ?_
                                refine lv_istore (lv' := [(6, .int 2), (8, .int y_4), (7, .int ax), (5, .int op), (4, .int sp), (0, .ref rd), (1, .ref ta), (2, .int i8), (3, .int i9)]) hx hb dX6_endOfPattern_208 hl (by decide) rfl (fun ls hl => ?_)
                                refine lv_goto (tgt := 220) hx hb dX6_endOfPattern_210 (by decide) ?_
                                refine lv_aload_n hx hb dX6_endOfPattern_220 rfl (lv_at hl 5 rfl) ?_
                                refine va_get (D := (dC, dI)) (ci := 6) (v := .int fa) (C := RX6) (T := TX6) (N := 11) hx hb hts fin_X6_endOfPatternq_X6 hown hK hP 0 rfl rfl 0 (by decide) (hts (.fieldLink RX6 22 "PatternGate$Reader" "faultKind" "I") (List.mem_of_getElem? (i := 7) (by decide +kernel))) (fun _ h9 => h9) rfl dX6_endOfPattern_221 ?_
                                refine lv_if_eq (tgt := 230) hx hb dX6_endOfPattern_224 (by decide) (fun k_172 => ?_) (fun k_172 => absurd (Int32.toInt_inj.mp (v12_2.trans (by decide))) k_172)
                                have tk_172 := c_eq (a := fa.toInt) (b := 0) rfl (by decide) k_172
                                obtain ⟨y_173, ey_173⟩ : ∃ y : Int32, y = ax + 1 := ⟨_, rfl⟩
                                first | have ty_173 := i_add (a := ax.toInt) (b := 1) rfl (by decide) ey_173 (by omega) (by omega) | skip
                                refine lv_iinc (v := y_173) (lv' := [(7, .int y_173), (6, .int 2), (8, .int y_4), (5, .int op), (4, .int sp), (0, .ref rd), (1, .ref ta), (2, .int i8), (3, .int i9)]) hx hb dX6_endOfPattern_230 hl (k := 2) rfl (by rw [ey_173]; rfl) (by decide) rfl (fun ls hl => ?_)
                                refine lv_goto (tgt := 12) hx hb dX6_endOfPattern_233 (by decide) ?_
                                have lit_173 : (2 : Int32).toInt = 2 := by decide
                                exact ih12 sp op 2 y_173 fa fb (by first | omega | assumption | decide) (dP_next v12_1 (fun d p => by rw [show sd.toInt = 1 by omega]; rw [show y_173.toInt = ax.toInt + 1 by omega, show (2 : Int32).toInt = 2 by decide]; exact mv_pg (by unfold isQu; omega))) (by first | omega | assumption | decide) (by first | omega | assumption | decide) (by first | omega | assumption | decide) (by omega) _ _ ls hP hD hS (lv_sub hl [0, 1, 3, 4, 5, 6, 7, 8] rfl)
                          · have tk_161 := c_ne (a := sd.toInt) (b := 0) rfl (by decide) k_161
                            obtain ⟨y_175, ey_175⟩ : ∃ y : Int32, y = op + (-1) := ⟨_, rfl⟩
                            first | have ty_175 := i_add (a := op.toInt) (b := (-1)) rfl (by decide) ey_175 (by omega) (by omega) | skip
                            refine lv_iinc (v := y_175) (lv' := [(5, .int y_175), (8, .int y_4), (7, .int ax), (6, .int sd), (4, .int sp), (0, .ref rd), (1, .ref ta), (2, .int i8), (3, .int i9)]) hx hb dX6_endOfPattern_184 hl (k := 3) rfl (by rw [ey_175]; rfl) (by decide) rfl (fun ls hl => ?_)
                            refine lv_iconst (v := 1) hx hb dX6_endOfPattern_187 (by decide) ?_
                            refine lv_istore (lv' := [(6, .int 1), (5, .int y_175), (8, .int y_4), (7, .int ax), (4, .int sp), (0, .ref rd), (1, .ref ta), (2, .int i8), (3, .int i9)]) hx hb dX6_endOfPattern_188 hl (by decide) rfl (fun ls hl => ?_)
                            refine lv_goto (tgt := 220) hx hb dX6_endOfPattern_190 (by decide) ?_
                            refine lv_aload_n hx hb dX6_endOfPattern_220 rfl (lv_at hl 5 rfl) ?_
                            refine va_get (D := (dC, dI)) (ci := 6) (v := .int fa) (C := RX6) (T := TX6) (N := 11) hx hb hts fin_X6_endOfPatternq_X6 hown hK hP 0 rfl rfl 0 (by decide) (hts (.fieldLink RX6 22 "PatternGate$Reader" "faultKind" "I") (List.mem_of_getElem? (i := 7) (by decide +kernel))) (fun _ h9 => h9) rfl dX6_endOfPattern_221 ?_
                            refine lv_if_eq (tgt := 230) hx hb dX6_endOfPattern_224 (by decide) (fun k_176 => ?_) (fun k_176 => absurd (Int32.toInt_inj.mp (v12_2.trans (by decide))) k_176)
                            have tk_176 := c_eq (a := fa.toInt) (b := 0) rfl (by decide) k_176
                            obtain ⟨y_177, ey_177⟩ : ∃ y : Int32, y = ax + 1 := ⟨_, rfl⟩
                            first | have ty_177 := i_add (a := ax.toInt) (b := 1) rfl (by decide) ey_177 (by omega) (by omega) | skip
                            refine lv_iinc (v := y_177) (lv' := [(7, .int y_177), (6, .int 1), (5, .int y_175), (8, .int y_4), (4, .int sp), (0, .ref rd), (1, .ref ta), (2, .int i8), (3, .int i9)]) hx hb dX6_endOfPattern_230 hl (k := 3) rfl (by rw [ey_177]; rfl) (by decide) rfl (fun ls hl => ?_)
                            refine lv_goto (tgt := 12) hx hb dX6_endOfPattern_233 (by decide) ?_
                            have lit_177 : (1 : Int32).toInt = 1 := by decide
                            exact ih12 sp y_175 1 y_177 fa fb (by first | omega | assumption | decide) (dP_next v12_1 (fun d p => by rw [show y_177.toInt = ax.toInt + 1 by omega, show y_175.toInt = op.toInt - 1 by omega, show (1 : Int32).toInt = 1 by decide]; exact mv_pc (by omega) (by omega) (by omega))) (by first | omega | assumption | decide) (by first | omega | assumption | decide) (by first | omega | assumption | decide) (by omega) _ _ ls hP hD hS (lv_sub hl [0, 1, 2, 4, 5, 6, 7, 8] rfl)
                    · have tk_132 := c_eq (a := y_4.toInt) (b := 124) rfl (by decide) k_132
                      refine lv_iload hx hb dX6_endOfPattern_156 (lv_at hl 2 rfl) ?_
                      refine lv_if_eq (tgt := 167) hx hb dX6_endOfPattern_158 (by decide) (fun k_179 => ?_) (fun k_179 => ?_)
                      · have tk_179 := c_eq (a := sd.toInt) (b := 0) rfl (by decide) k_179
                        refine lv_iload hx hb dX6_endOfPattern_167 (lv_at hl 0 rfl) ?_
                        refine lv_bipush (v := 41) hx hb dX6_endOfPattern_169 (by decide) ?_
                        refine lv_icmp_ne (tgt := 193) hx hb dX6_endOfPattern_171 (by decide) (fun k_180 => ?_) (fun k_180 => ?_)
                        · have tk_180 := c_ne (a := y_4.toInt) (b := 41) rfl (by decide) k_180
                          refine lv_iload hx hb dX6_endOfPattern_193 (lv_at hl 0 rfl) ?_
                          refine vp_callSi (W.runS (As := [.int y_4]) (rest := []) ⟨hx, hb, hml, hown, hts⟩ (s_isSign_q l dC dI y_4) (va_cwS 1 hts mg_X6_endOfPatternq_X6_isSign_102 rfl rfl rfl (by decide +kernel) ⟨Nat.le_of_ble_eq_true rfl, Nat.le_of_ble_eq_true rfl⟩) ⟨fun a U g mk q => ⟨q.1, trivial⟩, fun U hU hW => ⟨rfl, trivial⟩⟩ rfl rfl hl.1 rfl (lv_room (Nat.le_of_ble_eq_true rfl)) dX6_endOfPattern_195 ⟨Nat.le_of_ble_eq_true rfl, Nat.le_of_ble_eq_true rfl⟩) (fun r_182 hw => ?_)
                          have hr_182 := hw
                          refine lv_if_eq (tgt := 213) hx hb dX6_endOfPattern_198 (by decide) (fun k_183 => ?_) (fun k_183 => ?_)
                          · have tk_183 := c_eq (a := r_182.toInt) (b := 0) rfl (by decide) k_183
                            refine lv_aload_n hx hb dX6_endOfPattern_213 rfl (lv_at hl 5 rfl) ?_
                            refine lv_iconst (v := 1) hx hb dX6_endOfPattern_214 (by decide) ?_
                            refine lv_iload hx hb dX6_endOfPattern_215 (lv_at hl 1 rfl) ?_
                            have hPc := hP.sub (ws' := [(rd, .inr (6, rF r fa fb a2 a3 a4 a5 a6 a7))]) [0] rfl
                            have hKc := hK.sub (tys' := []) [] rfl
                            have hDc := hD.sub (ws' := [(rd, .inr (6, rF r fa fb a2 a3 a4 a5 a6 a7))]) [0] (by decide) rfl
                            have hFc := va_free (wc := [(rd, .inr (6, rF r fa fb a2 a3 a4 a5 a6 a7))]) hD hS hA [0] rfl
                            refine va_callv (va_runV (As := [.int 1, .int ax]) (rest := []) ⟨hx, hb, hml, hown, hts⟩ (s_fail l dC dI rd r fa fb a2 a3 a4 a5 a6 a7 H.size 1 ax) (cwV 2 hts mg_X6_endOfPatternq_X6_fail_71 rfl rfl rfl (by decide +kernel) ⟨Nat.le_of_ble_eq_true rfl, Nat.le_of_ble_eq_true rfl⟩) ⟨fun a U g mk q => by obtain ⟨q0, q1, qP, qK, qD⟩ := q; exact ⟨q0, q1, qP, va_K.moved (u := U) (U := U.calling g mk a) (Vm.Alike.refl U.vm) qK, qD⟩, va_recv hKc hPc (ci := 6) (q0 := 0) rfl rfl, fun U hU hW => ⟨rfl, by rw [hU], by rw [hU]; exact hPc, va_K.moved hW.alike hKc, hDc.weaken (fun _ _ _ _ => trivial)⟩⟩ rfl rfl hl.1 rfl (lv_room (Nat.le_of_ble_eq_true rfl)) dX6_endOfPattern_217 ⟨Nat.le_of_ble_eq_true rfl, Nat.le_of_ble_eq_true rfl⟩) hS (fun q _ h => hFc q h) hFc (fun u t H1 locs ht hvm hw hB hz1 hk1 hS => ?_)
                            obtain ⟨hP1, hK1, hD1⟩ := hB
                            rw [ht] at hP1
                            obtain ⟨hP, hD⟩ := va_join (wr := [(ta, .inl (cT, nb, .inl ft))]) (w1 := [(rd, .inr (6, rF r 1 ax a2 a3 a4 a5 a6 a7))]) hP hD [0] [1] rfl rfl (by decide) (by decide) hk1 hFc hP1 hD1
                            generalize H1 = H at hP hS ⊢
                            have hP : va_P (dC, dI) vwCl [(ta, .inl (cT, nb, .inl ft)), (rd, .inr (6, rF r 1 ax a2 a3 a4 a5 a6 a7))] H := hP
                            have hD : va_D A [(ta, .inl (cT, nb, .inl ft)), (rd, .inr (6, rF r 1 ax a2 a3 a4 a5 a6 a7))] := hD
                            refine lv_aload_n hx hb dX6_endOfPattern_220 rfl (lv_at hl 5 rfl) ?_
                            refine va_get (D := (dC, dI)) (ci := 6) (v := .int 1) (C := RX6) (T := TX6) (N := 11) hx hb hts fin_X6_endOfPatternq_X6 hown hK hP 1 rfl rfl 0 (by decide) (hts (.fieldLink RX6 22 "PatternGate$Reader" "faultKind" "I") (List.mem_of_getElem? (i := 7) (by decide +kernel))) (fun _ h9 => h9) rfl dX6_endOfPattern_221 ?_
                            refine lv_if_eq (tgt := 230) hx hb dX6_endOfPattern_224 (by decide) (fun k_186 => absurd k_186 (by decide)) (fun k_186 => ?_)
                            have tk_186 := c_ne (a := 1) (b := 0) (by decide) (by decide) k_186
                            refine lv_iload hx hb dX6_endOfPattern_227 (lv_at hl 1 rfl) ?_
                            have hP9 := hP.sub (ws' := [(rd, .inr (6, rF r 1 ax a2 a3 a4 a5 a6 a7)), (ta, .inl (cT, nb, .inl ft))]) [1, 0] rfl
                            have hD9 := hD.sub (ws' := [(rd, .inr (6, rF r 1 ax a2 a3 a4 a5 a6 a7)), (ta, .inl (cT, nb, .inl ft))]) [1, 0] (by decide) rfl
                            have hK9 := hK.sub (tys' := [(cT, .int)]) [0] rfl
                            exact W.iret hx hb hr (fun t ht hW => ⟨⟨_, ax, rfl, ⟨rfl, by omega⟩, 1, ax, (dP_f v12_1 (fun d p => mv_px (by unfold isAt; omega) (by omega)) (by decide)), by rw [ht]; exact hP9, va_K.moved hW.alike hK9, hD9⟩, hS.F ht⟩) hS.2.2 dX6_endOfPattern_229
                          · have tk_183 := c_ne (a := r_182.toInt) (b := 0) rfl (by decide) k_183
                            refine lv_iload hx hb dX6_endOfPattern_201 (lv_at hl 2 rfl) ?_
                            refine lv_iconst (v := 1) hx hb dX6_endOfPattern_203 (by decide) ?_
                            refine lv_icmp_ne (tgt := 213) hx hb dX6_endOfPattern_204 (by decide) (fun k_187 => ?_) (fun k_187 => ?_)
                            · have tk_187 := c_ne (a := sd.toInt) (b := 1) rfl (by decide) k_187
                              refine lv_aload_n hx hb dX6_endOfPattern_213 rfl (lv_at hl 5 rfl) ?_
                              refine lv_iconst (v := 1) hx hb dX6_endOfPattern_214 (by decide) ?_
                              refine lv_iload hx hb dX6_endOfPattern_215 (lv_at hl 1 rfl) ?_
                              have hPc := hP.sub (ws' := [(rd, .inr (6, rF r fa fb a2 a3 a4 a5 a6 a7))]) [0] rfl
                              have hKc := hK.sub (tys' := []) [] rfl
                              have hDc := hD.sub (ws' := [(rd, .inr (6, rF r fa fb a2 a3 a4 a5 a6 a7))]) [0] (by decide) rfl
                              have hFc := va_free (wc := [(rd, .inr (6, rF r fa fb a2 a3 a4 a5 a6 a7))]) hD hS hA [0] rfl
                              refine va_callv (va_runV (As := [.int 1, .int ax]) (rest := []) ⟨hx, hb, hml, hown, hts⟩ (s_fail l dC dI rd r fa fb a2 a3 a4 a5 a6 a7 H.size 1 ax) (cwV 2 hts mg_X6_endOfPatternq_X6_fail_71 rfl rfl rfl (by decide +kernel) ⟨Nat.le_of_ble_eq_true rfl, Nat.le_of_ble_eq_true rfl⟩) ⟨fun a U g mk q => by obtain ⟨q0, q1, qP, qK, qD⟩ := q; exact ⟨q0, q1, qP, va_K.moved (u := U) (U := U.calling g mk a) (Vm.Alike.refl U.vm) qK, qD⟩, va_recv hKc hPc (ci := 6) (q0 := 0) rfl rfl, fun U hU hW => ⟨rfl, by rw [hU], by rw [hU]; exact hPc, va_K.moved hW.alike hKc, hDc.weaken (fun _ _ _ _ => trivial)⟩⟩ rfl rfl hl.1 rfl (lv_room (Nat.le_of_ble_eq_true rfl)) dX6_endOfPattern_217 ⟨Nat.le_of_ble_eq_true rfl, Nat.le_of_ble_eq_true rfl⟩) hS (fun q _ h => hFc q h) hFc (fun u t H1 locs ht hvm hw hB hz1 hk1 hS => ?_)
                              obtain ⟨hP1, hK1, hD1⟩ := hB
                              rw [ht] at hP1
                              obtain ⟨hP, hD⟩ := va_join (wr := [(ta, .inl (cT, nb, .inl ft))]) (w1 := [(rd, .inr (6, rF r 1 ax a2 a3 a4 a5 a6 a7))]) hP hD [0] [1] rfl rfl (by decide) (by decide) hk1 hFc hP1 hD1
                              generalize H1 = H at hP hS ⊢
                              have hP : va_P (dC, dI) vwCl [(ta, .inl (cT, nb, .inl ft)), (rd, .inr (6, rF r 1 ax a2 a3 a4 a5 a6 a7))] H := hP
                              have hD : va_D A [(ta, .inl (cT, nb, .inl ft)), (rd, .inr (6, rF r 1 ax a2 a3 a4 a5 a6 a7))] := hD
                              refine lv_aload_n hx hb dX6_endOfPattern_220 rfl (lv_at hl 5 rfl) ?_
                              refine va_get (D := (dC, dI)) (ci := 6) (v := .int 1) (C := RX6) (T := TX6) (N := 11) hx hb hts fin_X6_endOfPatternq_X6 hown hK hP 1 rfl rfl 0 (by decide) (hts (.fieldLink RX6 22 "PatternGate$Reader" "faultKind" "I") (List.mem_of_getElem? (i := 7) (by decide +kernel))) (fun _ h9 => h9) rfl dX6_endOfPattern_221 ?_
                              refine lv_if_eq (tgt := 230) hx hb dX6_endOfPattern_224 (by decide) (fun k_190 => absurd k_190 (by decide)) (fun k_190 => ?_)
                              have tk_190 := c_ne (a := 1) (b := 0) (by decide) (by decide) k_190
                              refine lv_iload hx hb dX6_endOfPattern_227 (lv_at hl 1 rfl) ?_
                              have hP9 := hP.sub (ws' := [(rd, .inr (6, rF r 1 ax a2 a3 a4 a5 a6 a7)), (ta, .inl (cT, nb, .inl ft))]) [1, 0] rfl
                              have hD9 := hD.sub (ws' := [(rd, .inr (6, rF r 1 ax a2 a3 a4 a5 a6 a7)), (ta, .inl (cT, nb, .inl ft))]) [1, 0] (by decide) rfl
                              have hK9 := hK.sub (tys' := [(cT, .int)]) [0] rfl
                              exact W.iret hx hb hr (fun t ht hW => ⟨⟨_, ax, rfl, ⟨rfl, by omega⟩, 1, ax, (dP_f v12_1 (fun d p => mv_px (by unfold isAt; omega) (by omega)) (by decide)), by rw [ht]; exact hP9, va_K.moved hW.alike hK9, hD9⟩, hS.F ht⟩) hS.2.2 dX6_endOfPattern_229
                            · have tk_187 := c_eq (a := sd.toInt) (b := 1) rfl (by decide) k_187
                              refine lv_iconst (v := 2) hx hb dX6_endOfPattern_207 (by decide) ?_
                              refine lv_istore (lv' := [(6, .int 2), (8, .int y_4), (7, .int ax), (5, .int op), (4, .int sp), (0, .ref rd), (1, .ref ta), (2, .int i8), (3, .int i9)]) hx hb dX6_endOfPattern_208 hl (by decide) rfl (fun ls hl => ?_)
                              refine lv_goto (tgt := 220) hx hb dX6_endOfPattern_210 (by decide) ?_
                              refine lv_aload_n hx hb dX6_endOfPattern_220 rfl (lv_at hl 5 rfl) ?_
                              refine va_get (D := (dC, dI)) (ci := 6) (v := .int fa) (C := RX6) (T := TX6) (N := 11) hx hb hts fin_X6_endOfPatternq_X6 hown hK hP 0 rfl rfl 0 (by decide) (hts (.fieldLink RX6 22 "PatternGate$Reader" "faultKind" "I") (List.mem_of_getElem? (i := 7) (by decide +kernel))) (fun _ h9 => h9) rfl dX6_endOfPattern_221 ?_
                              refine lv_if_eq (tgt := 230) hx hb dX6_endOfPattern_224 (by decide) (fun k_191 => ?_) (fun k_191 => absurd (Int32.toInt_inj.mp (v12_2.trans (by decide))) k_191)
                              have tk_191 := c_eq (a := fa.toInt) (b := 0) rfl (by decide) k_191
                              obtain ⟨y_192, ey_192⟩ : ∃ y : Int32, y = ax + 1 := ⟨_, rfl⟩
                              first | have ty_192 := i_add (a := ax.toInt) (b := 1) rfl (by decide) ey_192 (by omega) (by omega) | skip
                              refine lv_iinc (v := y_192) (lv' := [(7, .int y_192), (6, .int 2), (8, .int y_4), (5, .int op), (4, .int sp), (0, .ref rd), (1, .ref ta), (2, .int i8), (3, .int i9)]) hx hb dX6_endOfPattern_230 hl (k := 2) rfl (by rw [ey_192]; rfl) (by decide) rfl (fun ls hl => ?_)
                              refine lv_goto (tgt := 12) hx hb dX6_endOfPattern_233 (by decide) ?_
                              have lit_192 : (2 : Int32).toInt = 2 := by decide
                              exact ih12 sp op 2 y_192 fa fb (by first | omega | assumption | decide) (dP_next v12_1 (fun d p => by rw [show sd.toInt = 1 by omega]; rw [show y_192.toInt = ax.toInt + 1 by omega, show (2 : Int32).toInt = 2 by decide]; exact mv_pg (by unfold isQu; omega))) (by first | omega | assumption | decide) (by first | omega | assumption | decide) (by first | omega | assumption | decide) (by omega) _ _ ls hP hD hS (lv_sub hl [0, 1, 3, 4, 5, 6, 7, 8] rfl)
                        · have tk_180 := c_eq (a := y_4.toInt) (b := 41) rfl (by decide) k_180
                          refine lv_iload hx hb dX6_endOfPattern_174 (lv_at hl 3 rfl) ?_
                          refine lv_if_le (tgt := 193) hx hb dX6_endOfPattern_176 (by decide) (fun k_194 => ?_) (fun k_194 => ?_)
                          · have tk_194 := c_le (a := op.toInt) (b := 0) rfl (by decide) k_194
                            refine lv_iload hx hb dX6_endOfPattern_193 (lv_at hl 0 rfl) ?_
                            refine vp_callSi (W.runS (As := [.int y_4]) (rest := []) ⟨hx, hb, hml, hown, hts⟩ (s_isSign_q l dC dI y_4) (va_cwS 1 hts mg_X6_endOfPatternq_X6_isSign_102 rfl rfl rfl (by decide +kernel) ⟨Nat.le_of_ble_eq_true rfl, Nat.le_of_ble_eq_true rfl⟩) ⟨fun a U g mk q => ⟨q.1, trivial⟩, fun U hU hW => ⟨rfl, trivial⟩⟩ rfl rfl hl.1 rfl (lv_room (Nat.le_of_ble_eq_true rfl)) dX6_endOfPattern_195 ⟨Nat.le_of_ble_eq_true rfl, Nat.le_of_ble_eq_true rfl⟩) (fun r_196 hw => ?_)
                            have hr_196 := hw
                            refine lv_if_eq (tgt := 213) hx hb dX6_endOfPattern_198 (by decide) (fun k_197 => ?_) (fun k_197 => ?_)
                            · have tk_197 := c_eq (a := r_196.toInt) (b := 0) rfl (by decide) k_197
                              refine lv_aload_n hx hb dX6_endOfPattern_213 rfl (lv_at hl 5 rfl) ?_
                              refine lv_iconst (v := 1) hx hb dX6_endOfPattern_214 (by decide) ?_
                              refine lv_iload hx hb dX6_endOfPattern_215 (lv_at hl 1 rfl) ?_
                              have hPc := hP.sub (ws' := [(rd, .inr (6, rF r fa fb a2 a3 a4 a5 a6 a7))]) [0] rfl
                              have hKc := hK.sub (tys' := []) [] rfl
                              have hDc := hD.sub (ws' := [(rd, .inr (6, rF r fa fb a2 a3 a4 a5 a6 a7))]) [0] (by decide) rfl
                              have hFc := va_free (wc := [(rd, .inr (6, rF r fa fb a2 a3 a4 a5 a6 a7))]) hD hS hA [0] rfl
                              refine va_callv (va_runV (As := [.int 1, .int ax]) (rest := []) ⟨hx, hb, hml, hown, hts⟩ (s_fail l dC dI rd r fa fb a2 a3 a4 a5 a6 a7 H.size 1 ax) (cwV 2 hts mg_X6_endOfPatternq_X6_fail_71 rfl rfl rfl (by decide +kernel) ⟨Nat.le_of_ble_eq_true rfl, Nat.le_of_ble_eq_true rfl⟩) ⟨fun a U g mk q => by obtain ⟨q0, q1, qP, qK, qD⟩ := q; exact ⟨q0, q1, qP, va_K.moved (u := U) (U := U.calling g mk a) (Vm.Alike.refl U.vm) qK, qD⟩, va_recv hKc hPc (ci := 6) (q0 := 0) rfl rfl, fun U hU hW => ⟨rfl, by rw [hU], by rw [hU]; exact hPc, va_K.moved hW.alike hKc, hDc.weaken (fun _ _ _ _ => trivial)⟩⟩ rfl rfl hl.1 rfl (lv_room (Nat.le_of_ble_eq_true rfl)) dX6_endOfPattern_217 ⟨Nat.le_of_ble_eq_true rfl, Nat.le_of_ble_eq_true rfl⟩) hS (fun q _ h => hFc q h) hFc (fun u t H1 locs ht hvm hw hB hz1 hk1 hS => ?_)
                              obtain ⟨hP1, hK1, hD1⟩ := hB
                              rw [ht] at hP1
                              obtain ⟨hP, hD⟩ := va_join (wr := [(ta, .inl (cT, nb, .inl ft))]) (w1 := [(rd, .inr (6, rF r 1 ax a2 a3 a4 a5 a6 a7))]) hP hD [0] [1] rfl rfl (by decide) (by decide) hk1 hFc hP1 hD1
                              generalize H1 = H at hP hS ⊢
                              have hP : va_P (dC, dI) vwCl [(ta, .inl (cT, nb, .inl ft)), (rd, .inr (6, rF r 1 ax a2 a3 a4 a5 a6 a7))] H := hP
                              have hD : va_D A [(ta, .inl (cT, nb, .inl ft)), (rd, .inr (6, rF r 1 ax a2 a3 a4 a5 a6 a7))] := hD
                              refine lv_aload_n hx hb dX6_endOfPattern_220 rfl (lv_at hl 5 rfl) ?_
                              refine va_get (D := (dC, dI)) (ci := 6) (v := .int 1) (C := RX6) (T := TX6) (N := 11) hx hb hts fin_X6_endOfPatternq_X6 hown hK hP 1 rfl rfl 0 (by decide) (hts (.fieldLink RX6 22 "PatternGate$Reader" "faultKind" "I") (List.mem_of_getElem? (i := 7) (by decide +kernel))) (fun _ h9 => h9) rfl dX6_endOfPattern_221 ?_
                              refine lv_if_eq (tgt := 230) hx hb dX6_endOfPattern_224 (by decide) (fun k_200 => absurd k_200 (by decide)) (fun k_200 => ?_)
                              have tk_200 := c_ne (a := 1) (b := 0) (by decide) (by decide) k_200
                              refine lv_iload hx hb dX6_endOfPattern_227 (lv_at hl 1 rfl) ?_
                              have hP9 := hP.sub (ws' := [(rd, .inr (6, rF r 1 ax a2 a3 a4 a5 a6 a7)), (ta, .inl (cT, nb, .inl ft))]) [1, 0] rfl
                              have hD9 := hD.sub (ws' := [(rd, .inr (6, rF r 1 ax a2 a3 a4 a5 a6 a7)), (ta, .inl (cT, nb, .inl ft))]) [1, 0] (by decide) rfl
                              have hK9 := hK.sub (tys' := [(cT, .int)]) [0] rfl
                              exact W.iret hx hb hr (fun t ht hW => ⟨⟨_, ax, rfl, ⟨rfl, by omega⟩, 1, ax, (dP_f v12_1 (fun d p => mv_px (by unfold isAt; omega) (by omega)) (by decide)), by rw [ht]; exact hP9, va_K.moved hW.alike hK9, hD9⟩, hS.F ht⟩) hS.2.2 dX6_endOfPattern_229
                            · have tk_197 := c_ne (a := r_196.toInt) (b := 0) rfl (by decide) k_197
                              refine lv_iload hx hb dX6_endOfPattern_201 (lv_at hl 2 rfl) ?_
                              refine lv_iconst (v := 1) hx hb dX6_endOfPattern_203 (by decide) ?_
                              refine lv_icmp_ne (tgt := 213) hx hb dX6_endOfPattern_204 (by decide) (fun k_201 => ?_) (fun k_201 => ?_)
                              · have tk_201 := c_ne (a := sd.toInt) (b := 1) rfl (by decide) k_201
                                refine lv_aload_n hx hb dX6_endOfPattern_213 rfl (lv_at hl 5 rfl) ?_
                                refine lv_iconst (v := 1) hx hb dX6_endOfPattern_214 (by decide) ?_
                                refine lv_iload hx hb dX6_endOfPattern_215 (lv_at hl 1 rfl) ?_
                                have hPc := hP.sub (ws' := [(rd, .inr (6, rF r fa fb a2 a3 a4 a5 a6 a7))]) [0] rfl
                                have hKc := hK.sub (tys' := []) [] rfl
                                have hDc := hD.sub (ws' := [(rd, .inr (6, rF r fa fb a2 a3 a4 a5 a6 a7))]) [0] (by decide) rfl
                                have hFc := va_free (wc := [(rd, .inr (6, rF r fa fb a2 a3 a4 a5 a6 a7))]) hD hS hA [0] rfl
                                refine va_callv (va_runV (As := [.int 1, .int ax]) (rest := []) ⟨hx, hb, hml, hown, hts⟩ (s_fail l dC dI rd r fa fb a2 a3 a4 a5 a6 a7 H.size 1 ax) (cwV 2 hts mg_X6_endOfPatternq_X6_fail_71 rfl rfl rfl (by decide +kernel) ⟨Nat.le_of_ble_eq_true rfl, Nat.le_of_ble_eq_true rfl⟩) ⟨fun a U g mk q => by obtain ⟨q0, q1, qP, qK, qD⟩ := q; exact ⟨q0, q1, qP, va_K.moved (u := U) (U := U.calling g mk a) (Vm.Alike.refl U.vm) qK, qD⟩, va_recv hKc hPc (ci := 6) (q0 := 0) rfl rfl, fun U hU hW => ⟨rfl, by rw [hU], by rw [hU]; exact hPc, va_K.moved hW.alike hKc, hDc.weaken (fun _ _ _ _ => trivial)⟩⟩ rfl rfl hl.1 rfl (lv_room (Nat.le_of_ble_eq_true rfl)) dX6_endOfPattern_217 ⟨Nat.le_of_ble_eq_true rfl, Nat.le_of_ble_eq_true rfl⟩) hS (fun q _ h => hFc q h) hFc (fun u t H1 locs ht hvm hw hB hz1 hk1 hS => ?_)
                                obtain ⟨hP1, hK1, hD1⟩ := hB
                                rw [ht] at hP1
                                obtain ⟨hP, hD⟩ := va_join (wr := [(ta, .inl (cT, nb, .inl ft))]) (w1 := [(rd, .inr (6, rF r 1 ax a2 a3 a4 a5 a6 a7))]) hP hD [0] [1] rfl rfl (by decide) (by decide) hk1 hFc hP1 hD1
                                generalize H1 = H at hP hS ⊢
                                have hP : va_P (dC, dI) vwCl [(ta, .inl (cT, nb, .inl ft)), (rd, .inr (6, rF r 1 ax a2 a3 a4 a5 a6 a7))] H := hP
                                have hD : va_D A [(ta, .inl (cT, nb, .inl ft)), (rd, .inr (6, rF r 1 ax a2 a3 a4 a5 a6 a7))] := hD
                                refine lv_aload_n hx hb dX6_endOfPattern_220 rfl (lv_at hl 5 rfl) ?_
                                refine va_get (D := (dC, dI)) (ci := 6) (v := .int 1) (C := RX6) (T := TX6) (N := 11) hx hb hts fin_X6_endOfPatternq_X6 hown hK hP 1 rfl rfl 0 (by decide) (hts (.fieldLink RX6 22 "PatternGate$Reader" "faultKind" "I") (List.mem_of_getElem? (i := 7) (by decide +kernel))) (fun _ h9 => h9) rfl dX6_endOfPattern_221 ?_
                                refine lv_if_eq (tgt := 230) hx hb dX6_endOfPattern_224 (by decide) (fun k_204 => absurd k_204 (by decide)) (fun k_204 => ?_)
                                have tk_204 := c_ne (a := 1) (b := 0) (by decide) (by decide) k_204
                                refine lv_iload hx hb dX6_endOfPattern_227 (lv_at hl 1 rfl) ?_
                                have hP9 := hP.sub (ws' := [(rd, .inr (6, rF r 1 ax a2 a3 a4 a5 a6 a7)), (ta, .inl (cT, nb, .inl ft))]) [1, 0] rfl
                                have hD9 := hD.sub (ws' := [(rd, .inr (6, rF r 1 ax a2 a3 a4 a5 a6 a7)), (ta, .inl (cT, nb, .inl ft))]) [1, 0] (by decide) rfl
                                have hK9 := hK.sub (tys' := [(cT, .int)]) [0] rfl
                                exact W.iret hx hb hr (fun t ht hW => ⟨⟨_, ax, rfl, ⟨rfl, by omega⟩, 1, ax, (dP_f v12_1 (fun d p => mv_px (by unfold isAt; omega) (by omega)) (by decide)), by rw [ht]; exact hP9, va_K.moved hW.alike hK9, hD9⟩, hS.F ht⟩) hS.2.2 dX6_endOfPattern_229
                              · have tk_201 := c_eq (a := sd.toInt) (b := 1) rfl (by decide) k_201
                                refine lv_iconst (v := 2) hx hb dX6_endOfPattern_207 (by decide) ?_
                                refine lv_istore (lv' := [(6, .int 2), (8, .int y_4), (7, .int ax), (5, .int op), (4, .int sp), (0, .ref rd), (1, .ref ta), (2, .int i8), (3, .int i9)]) hx hb dX6_endOfPattern_208 hl (by decide) rfl (fun ls hl => ?_)
                                refine lv_goto (tgt := 220) hx hb dX6_endOfPattern_210 (by decide) ?_
                                refine lv_aload_n hx hb dX6_endOfPattern_220 rfl (lv_at hl 5 rfl) ?_
                                refine va_get (D := (dC, dI)) (ci := 6) (v := .int fa) (C := RX6) (T := TX6) (N := 11) hx hb hts fin_X6_endOfPatternq_X6 hown hK hP 0 rfl rfl 0 (by decide) (hts (.fieldLink RX6 22 "PatternGate$Reader" "faultKind" "I") (List.mem_of_getElem? (i := 7) (by decide +kernel))) (fun _ h9 => h9) rfl dX6_endOfPattern_221 ?_
                                refine lv_if_eq (tgt := 230) hx hb dX6_endOfPattern_224 (by decide) (fun k_205 => ?_) (fun k_205 => absurd (Int32.toInt_inj.mp (v12_2.trans (by decide))) k_205)
                                have tk_205 := c_eq (a := fa.toInt) (b := 0) rfl (by decide) k_205
                                obtain ⟨y_206, ey_206⟩ : ∃ y : Int32, y = ax + 1 := ⟨_, rfl⟩
                                first | have ty_206 := i_add (a := ax.toInt) (b := 1) rfl (by decide) ey_206 (by omega) (by omega) | skip
                                refine lv_iinc (v := y_206) (lv' := [(7, .int y_206), (6, .int 2), (8, .int y_4), (5, .int op), (4, .int sp), (0, .ref rd), (1, .ref ta), (2, .int i8), (3, .int i9)]) hx hb dX6_endOfPattern_230 hl (k := 2) rfl (by rw [ey_206]; rfl) (by decide) rfl (fun ls hl => ?_)
                                refine lv_goto (tgt := 12) hx hb dX6_endOfPattern_233 (by decide) ?_
                                have lit_206 : (2 : Int32).toInt = 2 := by decide
                                exact ih12 sp op 2 y_206 fa fb (by first | omega | assumption | decide) (dP_next v12_1 (fun d p => by rw [show sd.toInt = 1 by omega]; rw [show y_206.toInt = ax.toInt + 1 by omega, show (2 : Int32).toInt = 2 by decide]; exact mv_pg (by unfold isQu; omega))) (by first | omega | assumption | decide) (by first | omega | assumption | decide) (by first | omega | assumption | decide) (by omega) _ _ ls hP hD hS (lv_sub hl [0, 1, 3, 4, 5, 6, 7, 8] rfl)
                          · have tk_194 := c_nle (a := op.toInt) (b := 0) rfl (by decide) k_194
                            refine lv_iload hx hb dX6_endOfPattern_179 (lv_at hl 2 rfl) ?_
                            refine lv_if_eq (tgt := 193) hx hb dX6_endOfPattern_181 (by decide) (fun k_208 => ?_) (fun k_208 => ?_)
                            · have tk_208 := c_eq (a := sd.toInt) (b := 0) rfl (by decide) k_208
                              refine lv_iload hx hb dX6_endOfPattern_193 (lv_at hl 0 rfl) ?_
                              refine vp_callSi (W.runS (As := [.int y_4]) (rest := []) ⟨hx, hb, hml, hown, hts⟩ (s_isSign_q l dC dI y_4) (va_cwS 1 hts mg_X6_endOfPatternq_X6_isSign_102 rfl rfl rfl (by decide +kernel) ⟨Nat.le_of_ble_eq_true rfl, Nat.le_of_ble_eq_true rfl⟩) ⟨fun a U g mk q => ⟨q.1, trivial⟩, fun U hU hW => ⟨rfl, trivial⟩⟩ rfl rfl hl.1 rfl (lv_room (Nat.le_of_ble_eq_true rfl)) dX6_endOfPattern_195 ⟨Nat.le_of_ble_eq_true rfl, Nat.le_of_ble_eq_true rfl⟩) (fun r_210 hw => ?_)
                              have hr_210 := hw
                              refine lv_if_eq (tgt := 213) hx hb dX6_endOfPattern_198 (by decide) (fun k_211 => ?_) (fun k_211 => ?_)
                              · have tk_211 := c_eq (a := r_210.toInt) (b := 0) rfl (by decide) k_211
                                refine lv_aload_n hx hb dX6_endOfPattern_213 rfl (lv_at hl 5 rfl) ?_
                                refine lv_iconst (v := 1) hx hb dX6_endOfPattern_214 (by decide) ?_
                                refine lv_iload hx hb dX6_endOfPattern_215 (lv_at hl 1 rfl) ?_
                                have hPc := hP.sub (ws' := [(rd, .inr (6, rF r fa fb a2 a3 a4 a5 a6 a7))]) [0] rfl
                                have hKc := hK.sub (tys' := []) [] rfl
                                have hDc := hD.sub (ws' := [(rd, .inr (6, rF r fa fb a2 a3 a4 a5 a6 a7))]) [0] (by decide) rfl
                                have hFc := va_free (wc := [(rd, .inr (6, rF r fa fb a2 a3 a4 a5 a6 a7))]) hD hS hA [0] rfl
                                refine va_callv (va_runV (As := [.int 1, .int ax]) (rest := []) ⟨hx, hb, hml, hown, hts⟩ (s_fail l dC dI rd r fa fb a2 a3 a4 a5 a6 a7 H.size 1 ax) (cwV 2 hts mg_X6_endOfPatternq_X6_fail_71 rfl rfl rfl (by decide +kernel) ⟨Nat.le_of_ble_eq_true rfl, Nat.le_of_ble_eq_true rfl⟩) ⟨fun a U g mk q => by obtain ⟨q0, q1, qP, qK, qD⟩ := q; exact ⟨q0, q1, qP, va_K.moved (u := U) (U := U.calling g mk a) (Vm.Alike.refl U.vm) qK, qD⟩, va_recv hKc hPc (ci := 6) (q0 := 0) rfl rfl, fun U hU hW => ⟨rfl, by rw [hU], by rw [hU]; exact hPc, va_K.moved hW.alike hKc, hDc.weaken (fun _ _ _ _ => trivial)⟩⟩ rfl rfl hl.1 rfl (lv_room (Nat.le_of_ble_eq_true rfl)) dX6_endOfPattern_217 ⟨Nat.le_of_ble_eq_true rfl, Nat.le_of_ble_eq_true rfl⟩) hS (fun q _ h => hFc q h) hFc (fun u t H1 locs ht hvm hw hB hz1 hk1 hS => ?_)
                                obtain ⟨hP1, hK1, hD1⟩ := hB
                                rw [ht] at hP1
                                obtain ⟨hP, hD⟩ := va_join (wr := [(ta, .inl (cT, nb, .inl ft))]) (w1 := [(rd, .inr (6, rF r 1 ax a2 a3 a4 a5 a6 a7))]) hP hD [0] [1] rfl rfl (by decide) (by decide) hk1 hFc hP1 hD1
                                generalize H1 = H at hP hS ⊢
                                have hP : va_P (dC, dI) vwCl [(ta, .inl (cT, nb, .inl ft)), (rd, .inr (6, rF r 1 ax a2 a3 a4 a5 a6 a7))] H := hP
                                have hD : va_D A [(ta, .inl (cT, nb, .inl ft)), (rd, .inr (6, rF r 1 ax a2 a3 a4 a5 a6 a7))] := hD
                                refine lv_aload_n hx hb dX6_endOfPattern_220 rfl (lv_at hl 5 rfl) ?_
                                refine va_get (D := (dC, dI)) (ci := 6) (v := .int 1) (C := RX6) (T := TX6) (N := 11) hx hb hts fin_X6_endOfPatternq_X6 hown hK hP 1 rfl rfl 0 (by decide) (hts (.fieldLink RX6 22 "PatternGate$Reader" "faultKind" "I") (List.mem_of_getElem? (i := 7) (by decide +kernel))) (fun _ h9 => h9) rfl dX6_endOfPattern_221 ?_
                                refine lv_if_eq (tgt := 230) hx hb dX6_endOfPattern_224 (by decide) (fun k_214 => absurd k_214 (by decide)) (fun k_214 => ?_)
                                have tk_214 := c_ne (a := 1) (b := 0) (by decide) (by decide) k_214
                                refine lv_iload hx hb dX6_endOfPattern_227 (lv_at hl 1 rfl) ?_
                                have hP9 := hP.sub (ws' := [(rd, .inr (6, rF r 1 ax a2 a3 a4 a5 a6 a7)), (ta, .inl (cT, nb, .inl ft))]) [1, 0] rfl
                                have hD9 := hD.sub (ws' := [(rd, .inr (6, rF r 1 ax a2 a3 a4 a5 a6 a7)), (ta, .inl (cT, nb, .inl ft))]) [1, 0] (by decide) rfl
                                have hK9 := hK.sub (tys' := [(cT, .int)]) [0] rfl
                                exact W.iret hx hb hr (fun t ht hW => ⟨⟨_, ax, rfl, ⟨rfl, by omega⟩, 1, ax, (dP_f v12_1 (fun d p => mv_px (by unfold isAt; omega) (by omega)) (by decide)), by rw [ht]; exact hP9, va_K.moved hW.alike hK9, hD9⟩, hS.F ht⟩) hS.2.2 dX6_endOfPattern_229
                              · have tk_211 := c_ne (a := r_210.toInt) (b := 0) rfl (by decide) k_211
                                refine lv_iload hx hb dX6_endOfPattern_201 (lv_at hl 2 rfl) ?_
                                refine lv_iconst (v := 1) hx hb dX6_endOfPattern_203 (by decide) ?_
                                refine lv_icmp_ne (tgt := 213) hx hb dX6_endOfPattern_204 (by decide) (fun k_215 => ?_) (fun k_215 => ?_)
                                · have tk_215 := c_ne (a := sd.toInt) (b := 1) rfl (by decide) k_215
                                  refine lv_aload_n hx hb dX6_endOfPattern_213 rfl (lv_at hl 5 rfl) ?_
                                  refine lv_iconst (v := 1) hx hb dX6_endOfPattern_214 (by decide) ?_
                                  refine lv_iload hx hb dX6_endOfPattern_215 (lv_at hl 1 rfl) ?_
                                  have hPc := hP.sub (ws' := [(rd, .inr (6, rF r fa fb a2 a3 a4 a5 a6 a7))]) [0] rfl
                                  have hKc := hK.sub (tys' := []) [] rfl
                                  have hDc := hD.sub (ws' := [(rd, .inr (6, rF r fa fb a2 a3 a4 a5 a6 a7))]) [0] (by decide) rfl
                                  have hFc := va_free (wc := [(rd, .inr (6, rF r fa fb a2 a3 a4 a5 a6 a7))]) hD hS hA [0] rfl
                                  refine va_callv (va_runV (As := [.int 1, .int ax]) (rest := []) ⟨hx, hb, hml, hown, hts⟩ (s_fail l dC dI rd r fa fb a2 a3 a4 a5 a6 a7 H.size 1 ax) (cwV 2 hts mg_X6_endOfPatternq_X6_fail_71 rfl rfl rfl (by decide +kernel) ⟨Nat.le_of_ble_eq_true rfl, Nat.le_of_ble_eq_true rfl⟩) ⟨fun a U g mk q => by obtain ⟨q0, q1, qP, qK, qD⟩ := q; exact ⟨q0, q1, qP, va_K.moved (u := U) (U := U.calling g mk a) (Vm.Alike.refl U.vm) qK, qD⟩, va_recv hKc hPc (ci := 6) (q0 := 0) rfl rfl, fun U hU hW => ⟨rfl, by rw [hU], by rw [hU]; exact hPc, va_K.moved hW.alike hKc, hDc.weaken (fun _ _ _ _ => trivial)⟩⟩ rfl rfl hl.1 rfl (lv_room (Nat.le_of_ble_eq_true rfl)) dX6_endOfPattern_217 ⟨Nat.le_of_ble_eq_true rfl, Nat.le_of_ble_eq_true rfl⟩) hS (fun q _ h => hFc q h) hFc (fun u t H1 locs ht hvm hw hB hz1 hk1 hS => ?_)
                                  obtain ⟨hP1, hK1, hD1⟩ := hB
                                  rw [ht] at hP1
                                  obtain ⟨hP, hD⟩ := va_join (wr := [(ta, .inl (cT, nb, .inl ft))]) (w1 := [(rd, .inr (6, rF r 1 ax a2 a3 a4 a5 a6 a7))]) hP hD [0] [1] rfl rfl (by decide) (by decide) hk1 hFc hP1 hD1
                                  generalize H1 = H at hP hS ⊢
                                  have hP : va_P (dC, dI) vwCl [(ta, .inl (cT, nb, .inl ft)), (rd, .inr (6, rF r 1 ax a2 a3 a4 a5 a6 a7))] H := hP
                                  have hD : va_D A [(ta, .inl (cT, nb, .inl ft)), (rd, .inr (6, rF r 1 ax a2 a3 a4 a5 a6 a7))] := hD
                                  refine lv_aload_n hx hb dX6_endOfPattern_220 rfl (lv_at hl 5 rfl) ?_
                                  refine va_get (D := (dC, dI)) (ci := 6) (v := .int 1) (C := RX6) (T := TX6) (N := 11) hx hb hts fin_X6_endOfPatternq_X6 hown hK hP 1 rfl rfl 0 (by decide) (hts (.fieldLink RX6 22 "PatternGate$Reader" "faultKind" "I") (List.mem_of_getElem? (i := 7) (by decide +kernel))) (fun _ h9 => h9) rfl dX6_endOfPattern_221 ?_
                                  refine lv_if_eq (tgt := 230) hx hb dX6_endOfPattern_224 (by decide) (fun k_218 => absurd k_218 (by decide)) (fun k_218 => ?_)
                                  have tk_218 := c_ne (a := 1) (b := 0) (by decide) (by decide) k_218
                                  refine lv_iload hx hb dX6_endOfPattern_227 (lv_at hl 1 rfl) ?_
                                  have hP9 := hP.sub (ws' := [(rd, .inr (6, rF r 1 ax a2 a3 a4 a5 a6 a7)), (ta, .inl (cT, nb, .inl ft))]) [1, 0] rfl
                                  have hD9 := hD.sub (ws' := [(rd, .inr (6, rF r 1 ax a2 a3 a4 a5 a6 a7)), (ta, .inl (cT, nb, .inl ft))]) [1, 0] (by decide) rfl
                                  have hK9 := hK.sub (tys' := [(cT, .int)]) [0] rfl
                                  exact W.iret hx hb hr (fun t ht hW => ⟨⟨_, ax, rfl, ⟨rfl, by omega⟩, 1, ax, (dP_f v12_1 (fun d p => mv_px (by unfold isAt; omega) (by omega)) (by decide)), by rw [ht]; exact hP9, va_K.moved hW.alike hK9, hD9⟩, hS.F ht⟩) hS.2.2 dX6_endOfPattern_229
                                · have tk_215 := c_eq (a := sd.toInt) (b := 1) rfl (by decide) k_215
                                  refine lv_iconst (v := 2) hx hb dX6_endOfPattern_207 (by decide) ?_
                                  refine lv_istore (lv' := [(6, .int 2), (8, .int y_4), (7, .int ax), (5, .int op), (4, .int sp), (0, .ref rd), (1, .ref ta), (2, .int i8), (3, .int i9)]) hx hb dX6_endOfPattern_208 hl (by decide) rfl (fun ls hl => ?_)
                                  refine lv_goto (tgt := 220) hx hb dX6_endOfPattern_210 (by decide) ?_
                                  refine lv_aload_n hx hb dX6_endOfPattern_220 rfl (lv_at hl 5 rfl) ?_
                                  refine va_get (D := (dC, dI)) (ci := 6) (v := .int fa) (C := RX6) (T := TX6) (N := 11) hx hb hts fin_X6_endOfPatternq_X6 hown hK hP 0 rfl rfl 0 (by decide) (hts (.fieldLink RX6 22 "PatternGate$Reader" "faultKind" "I") (List.mem_of_getElem? (i := 7) (by decide +kernel))) (fun _ h9 => h9) rfl dX6_endOfPattern_221 ?_
                                  refine lv_if_eq (tgt := 230) hx hb dX6_endOfPattern_224 (by decide) (fun k_219 => ?_) (fun k_219 => absurd (Int32.toInt_inj.mp (v12_2.trans (by decide))) k_219)
                                  have tk_219 := c_eq (a := fa.toInt) (b := 0) rfl (by decide) k_219
                                  obtain ⟨y_220, ey_220⟩ : ∃ y : Int32, y = ax + 1 := ⟨_, rfl⟩
                                  first | have ty_220 := i_add (a := ax.toInt) (b := 1) rfl (by decide) ey_220 (by omega) (by omega) | skip
                                  refine lv_iinc (v := y_220) (lv' := [(7, .int y_220), (6, .int 2), (8, .int y_4), (5, .int op), (4, .int sp), (0, .ref rd), (1, .ref ta), (2, .int i8), (3, .int i9)]) hx hb dX6_endOfPattern_230 hl (k := 2) rfl (by rw [ey_220]; rfl) (by decide) rfl (fun ls hl => ?_)
                                  refine lv_goto (tgt := 12) hx hb dX6_endOfPattern_233 (by decide) ?_
                                  have lit_220 : (2 : Int32).toInt = 2 := by decide
                                  exact ih12 sp op 2 y_220 fa fb (by first | omega | assumption | decide) (dP_next v12_1 (fun d p => by rw [show sd.toInt = 1 by omega]; rw [show y_220.toInt = ax.toInt + 1 by omega, show (2 : Int32).toInt = 2 by decide]; exact mv_pg (by unfold isQu; omega))) (by first | omega | assumption | decide) (by first | omega | assumption | decide) (by first | omega | assumption | decide) (by omega) _ _ ls hP hD hS (lv_sub hl [0, 1, 3, 4, 5, 6, 7, 8] rfl)
                            · have tk_208 := c_ne (a := sd.toInt) (b := 0) rfl (by decide) k_208
                              obtain ⟨y_222, ey_222⟩ : ∃ y : Int32, y = op + (-1) := ⟨_, rfl⟩
                              first | have ty_222 := i_add (a := op.toInt) (b := (-1)) rfl (by decide) ey_222 (by omega) (by omega) | skip
                              refine lv_iinc (v := y_222) (lv' := [(5, .int y_222), (8, .int y_4), (7, .int ax), (6, .int sd), (4, .int sp), (0, .ref rd), (1, .ref ta), (2, .int i8), (3, .int i9)]) hx hb dX6_endOfPattern_184 hl (k := 3) rfl (by rw [ey_222]; rfl) (by decide) rfl (fun ls hl => ?_)
                              refine lv_iconst (v := 1) hx hb dX6_endOfPattern_187 (by decide) ?_
                              refine lv_istore (lv' := [(6, .int 1), (5, .int y_222), (8, .int y_4), (7, .int ax), (4, .int sp), (0, .ref rd), (1, .ref ta), (2, .int i8), (3, .int i9)]) hx hb dX6_endOfPattern_188 hl (by decide) rfl (fun ls hl => ?_)
                              refine lv_goto (tgt := 220) hx hb dX6_endOfPattern_190 (by decide) ?_
                              refine lv_aload_n hx hb dX6_endOfPattern_220 rfl (lv_at hl 5 rfl) ?_
                              refine va_get (D := (dC, dI)) (ci := 6) (v := .int fa) (C := RX6) (T := TX6) (N := 11) hx hb hts fin_X6_endOfPatternq_X6 hown hK hP 0 rfl rfl 0 (by decide) (hts (.fieldLink RX6 22 "PatternGate$Reader" "faultKind" "I") (List.mem_of_getElem? (i := 7) (by decide +kernel))) (fun _ h9 => h9) rfl dX6_endOfPattern_221 ?_
                              refine lv_if_eq (tgt := 230) hx hb dX6_endOfPattern_224 (by decide) (fun k_223 => ?_) (fun k_223 => absurd (Int32.toInt_inj.mp (v12_2.trans (by decide))) k_223)
                              have tk_223 := c_eq (a := fa.toInt) (b := 0) rfl (by decide) k_223
                              obtain ⟨y_224, ey_224⟩ : ∃ y : Int32, y = ax + 1 := ⟨_, rfl⟩
                              first | have ty_224 := i_add (a := ax.toInt) (b := 1) rfl (by decide) ey_224 (by omega) (by omega) | skip
                              refine lv_iinc (v := y_224) (lv' := [(7, .int y_224), (6, .int 1), (5, .int y_222), (8, .int y_4), (4, .int sp), (0, .ref rd), (1, .ref ta), (2, .int i8), (3, .int i9)]) hx hb dX6_endOfPattern_230 hl (k := 3) rfl (by rw [ey_224]; rfl) (by decide) rfl (fun ls hl => ?_)
                              refine lv_goto (tgt := 12) hx hb dX6_endOfPattern_233 (by decide) ?_
                              have lit_224 : (1 : Int32).toInt = 1 := by decide
                              exact ih12 sp y_222 1 y_224 fa fb (by first | omega | assumption | decide) (dP_next v12_1 (fun d p => by rw [show y_224.toInt = ax.toInt + 1 by omega, show y_222.toInt = op.toInt - 1 by omega, show (1 : Int32).toInt = 1 by decide]; exact mv_pc (by omega) (by omega) (by omega))) (by first | omega | assumption | decide) (by first | omega | assumption | decide) (by first | omega | assumption | decide) (by omega) _ _ ls hP hD hS (lv_sub hl [0, 1, 2, 4, 5, 6, 7, 8] rfl)
                      · have tk_179 := c_ne (a := sd.toInt) (b := 0) rfl (by decide) k_179
                        refine lv_iconst (v := 0) hx hb dX6_endOfPattern_161 (by decide) ?_
                        refine lv_istore (lv' := [(6, .int 0), (8, .int y_4), (7, .int ax), (5, .int op), (4, .int sp), (0, .ref rd), (1, .ref ta), (2, .int i8), (3, .int i9)]) hx hb dX6_endOfPattern_162 hl (by decide) rfl (fun ls hl => ?_)
                        refine lv_goto (tgt := 220) hx hb dX6_endOfPattern_164 (by decide) ?_
                        refine lv_aload_n hx hb dX6_endOfPattern_220 rfl (lv_at hl 5 rfl) ?_
                        refine va_get (D := (dC, dI)) (ci := 6) (v := .int fa) (C := RX6) (T := TX6) (N := 11) hx hb hts fin_X6_endOfPatternq_X6 hown hK hP 0 rfl rfl 0 (by decide) (hts (.fieldLink RX6 22 "PatternGate$Reader" "faultKind" "I") (List.mem_of_getElem? (i := 7) (by decide +kernel))) (fun _ h9 => h9) rfl dX6_endOfPattern_221 ?_
                        refine lv_if_eq (tgt := 230) hx hb dX6_endOfPattern_224 (by decide) (fun k_226 => ?_) (fun k_226 => absurd (Int32.toInt_inj.mp (v12_2.trans (by decide))) k_226)
                        have tk_226 := c_eq (a := fa.toInt) (b := 0) rfl (by decide) k_226
                        obtain ⟨y_227, ey_227⟩ : ∃ y : Int32, y = ax + 1 := ⟨_, rfl⟩
                        first | have ty_227 := i_add (a := ax.toInt) (b := 1) rfl (by decide) ey_227 (by omega) (by omega) | skip
                        refine lv_iinc (v := y_227) (lv' := [(7, .int y_227), (6, .int 0), (8, .int y_4), (5, .int op), (4, .int sp), (0, .ref rd), (1, .ref ta), (2, .int i8), (3, .int i9)]) hx hb dX6_endOfPattern_230 hl (k := 2) rfl (by rw [ey_227]; rfl) (by decide) rfl (fun ls hl => ?_)
                        refine lv_goto (tgt := 12) hx hb dX6_endOfPattern_233 (by decide) ?_
                        have lit_227 : (0 : Int32).toInt = 0 := by decide
                        exact ih12 sp op 0 y_227 fa fb (by first | omega | assumption | decide) (dP_next v12_1 (fun d p => by rw [show y_227.toInt = ax.toInt + 1 by omega, show (0 : Int32).toInt = 0 by decide]; exact mv_pb (by omega) (by omega))) (by first | omega | assumption | decide) (by first | omega | assumption | decide) (by first | omega | assumption | decide) (by omega) _ _ ls hP hD hS (lv_sub hl [0, 1, 3, 4, 5, 6, 7, 8] rfl)
                  · have tk_131 := c_eq (a := op.toInt) (b := 0) rfl (by decide) k_131
                    refine lv_iload hx hb dX6_endOfPattern_141 (lv_at hl 2 rfl) ?_
                    refine lv_if_eq (tgt := 149) hx hb dX6_endOfPattern_143 (by decide) (fun k_229 => ?_) (fun k_229 => ?_)
                    · have tk_229 := c_eq (a := sd.toInt) (b := 0) rfl (by decide) k_229
                      refine lv_iload hx hb dX6_endOfPattern_149 (lv_at hl 0 rfl) ?_
                      refine lv_bipush (v := 124) hx hb dX6_endOfPattern_151 (by decide) ?_
                      refine lv_icmp_ne (tgt := 167) hx hb dX6_endOfPattern_153 (by decide) (fun k_230 => ?_) (fun k_230 => ?_)
                      · have tk_230 := c_ne (a := y_4.toInt) (b := 124) rfl (by decide) k_230
                        refine lv_iload hx hb dX6_endOfPattern_167 (lv_at hl 0 rfl) ?_
                        refine lv_bipush (v := 41) hx hb dX6_endOfPattern_169 (by decide) ?_
                        refine lv_icmp_ne (tgt := 193) hx hb dX6_endOfPattern_171 (by decide) (fun k_231 => ?_) (fun k_231 => ?_)
                        · have tk_231 := c_ne (a := y_4.toInt) (b := 41) rfl (by decide) k_231
                          refine lv_iload hx hb dX6_endOfPattern_193 (lv_at hl 0 rfl) ?_
                          refine vp_callSi (W.runS (As := [.int y_4]) (rest := []) ⟨hx, hb, hml, hown, hts⟩ (s_isSign_q l dC dI y_4) (va_cwS 1 hts mg_X6_endOfPatternq_X6_isSign_102 rfl rfl rfl (by decide +kernel) ⟨Nat.le_of_ble_eq_true rfl, Nat.le_of_ble_eq_true rfl⟩) ⟨fun a U g mk q => ⟨q.1, trivial⟩, fun U hU hW => ⟨rfl, trivial⟩⟩ rfl rfl hl.1 rfl (lv_room (Nat.le_of_ble_eq_true rfl)) dX6_endOfPattern_195 ⟨Nat.le_of_ble_eq_true rfl, Nat.le_of_ble_eq_true rfl⟩) (fun r_233 hw => ?_)
                          have hr_233 := hw
                          refine lv_if_eq (tgt := 213) hx hb dX6_endOfPattern_198 (by decide) (fun k_234 => ?_) (fun k_234 => ?_)
                          · have tk_234 := c_eq (a := r_233.toInt) (b := 0) rfl (by decide) k_234
                            refine lv_aload_n hx hb dX6_endOfPattern_213 rfl (lv_at hl 5 rfl) ?_
                            refine lv_iconst (v := 1) hx hb dX6_endOfPattern_214 (by decide) ?_
                            refine lv_iload hx hb dX6_endOfPattern_215 (lv_at hl 1 rfl) ?_
                            have hPc := hP.sub (ws' := [(rd, .inr (6, rF r fa fb a2 a3 a4 a5 a6 a7))]) [0] rfl
                            have hKc := hK.sub (tys' := []) [] rfl
                            have hDc := hD.sub (ws' := [(rd, .inr (6, rF r fa fb a2 a3 a4 a5 a6 a7))]) [0] (by decide) rfl
                            have hFc := va_free (wc := [(rd, .inr (6, rF r fa fb a2 a3 a4 a5 a6 a7))]) hD hS hA [0] rfl
                            refine va_callv (va_runV (As := [.int 1, .int ax]) (rest := []) ⟨hx, hb, hml, hown, hts⟩ (s_fail l dC dI rd r fa fb a2 a3 a4 a5 a6 a7 H.size 1 ax) (cwV 2 hts mg_X6_endOfPatternq_X6_fail_71 rfl rfl rfl (by decide +kernel) ⟨Nat.le_of_ble_eq_true rfl, Nat.le_of_ble_eq_true rfl⟩) ⟨fun a U g mk q => by obtain ⟨q0, q1, qP, qK, qD⟩ := q; exact ⟨q0, q1, qP, va_K.moved (u := U) (U := U.calling g mk a) (Vm.Alike.refl U.vm) qK, qD⟩, va_recv hKc hPc (ci := 6) (q0 := 0) rfl rfl, fun U hU hW => ⟨rfl, by rw [hU], by rw [hU]; exact hPc, va_K.moved hW.alike hKc, hDc.weaken (fun _ _ _ _ => trivial)⟩⟩ rfl rfl hl.1 rfl (lv_room (Nat.le_of_ble_eq_true rfl)) dX6_endOfPattern_217 ⟨Nat.le_of_ble_eq_true rfl, Nat.le_of_ble_eq_true rfl⟩) hS (fun q _ h => hFc q h) hFc (fun u t H1 locs ht hvm hw hB hz1 hk1 hS => ?_)
                            obtain ⟨hP1, hK1, hD1⟩ := hB
                            rw [ht] at hP1
                            obtain ⟨hP, hD⟩ := va_join (wr := [(ta, .inl (cT, nb, .inl ft))]) (w1 := [(rd, .inr (6, rF r 1 ax a2 a3 a4 a5 a6 a7))]) hP hD [0] [1] rfl rfl (by decide) (by decide) hk1 hFc hP1 hD1
                            generalize H1 = H at hP hS ⊢
                            have hP : va_P (dC, dI) vwCl [(ta, .inl (cT, nb, .inl ft)), (rd, .inr (6, rF r 1 ax a2 a3 a4 a5 a6 a7))] H := hP
                            have hD : va_D A [(ta, .inl (cT, nb, .inl ft)), (rd, .inr (6, rF r 1 ax a2 a3 a4 a5 a6 a7))] := hD
                            refine lv_aload_n hx hb dX6_endOfPattern_220 rfl (lv_at hl 5 rfl) ?_
                            refine va_get (D := (dC, dI)) (ci := 6) (v := .int 1) (C := RX6) (T := TX6) (N := 11) hx hb hts fin_X6_endOfPatternq_X6 hown hK hP 1 rfl rfl 0 (by decide) (hts (.fieldLink RX6 22 "PatternGate$Reader" "faultKind" "I") (List.mem_of_getElem? (i := 7) (by decide +kernel))) (fun _ h9 => h9) rfl dX6_endOfPattern_221 ?_
                            refine lv_if_eq (tgt := 230) hx hb dX6_endOfPattern_224 (by decide) (fun k_237 => absurd k_237 (by decide)) (fun k_237 => ?_)
                            have tk_237 := c_ne (a := 1) (b := 0) (by decide) (by decide) k_237
                            refine lv_iload hx hb dX6_endOfPattern_227 (lv_at hl 1 rfl) ?_
                            have hP9 := hP.sub (ws' := [(rd, .inr (6, rF r 1 ax a2 a3 a4 a5 a6 a7)), (ta, .inl (cT, nb, .inl ft))]) [1, 0] rfl
                            have hD9 := hD.sub (ws' := [(rd, .inr (6, rF r 1 ax a2 a3 a4 a5 a6 a7)), (ta, .inl (cT, nb, .inl ft))]) [1, 0] (by decide) rfl
                            have hK9 := hK.sub (tys' := [(cT, .int)]) [0] rfl
                            exact W.iret hx hb hr (fun t ht hW => ⟨⟨_, ax, rfl, ⟨rfl, by omega⟩, 1, ax, (dP_f v12_1 (fun d p => mv_px (by unfold isAt; omega) (by omega)) (by decide)), by rw [ht]; exact hP9, va_K.moved hW.alike hK9, hD9⟩, hS.F ht⟩) hS.2.2 dX6_endOfPattern_229
                          · have tk_234 := c_ne (a := r_233.toInt) (b := 0) rfl (by decide) k_234
                            refine lv_iload hx hb dX6_endOfPattern_201 (lv_at hl 2 rfl) ?_
                            refine lv_iconst (v := 1) hx hb dX6_endOfPattern_203 (by decide) ?_
                            refine lv_icmp_ne (tgt := 213) hx hb dX6_endOfPattern_204 (by decide) (fun k_238 => ?_) (fun k_238 => ?_)
                            · have tk_238 := c_ne (a := sd.toInt) (b := 1) rfl (by decide) k_238
                              refine lv_aload_n hx hb dX6_endOfPattern_213 rfl (lv_at hl 5 rfl) ?_
                              refine lv_iconst (v := 1) hx hb dX6_endOfPattern_214 (by decide) ?_
                              refine lv_iload hx hb dX6_endOfPattern_215 (lv_at hl 1 rfl) ?_
                              have hPc := hP.sub (ws' := [(rd, .inr (6, rF r fa fb a2 a3 a4 a5 a6 a7))]) [0] rfl
                              have hKc := hK.sub (tys' := []) [] rfl
                              have hDc := hD.sub (ws' := [(rd, .inr (6, rF r fa fb a2 a3 a4 a5 a6 a7))]) [0] (by decide) rfl
                              have hFc := va_free (wc := [(rd, .inr (6, rF r fa fb a2 a3 a4 a5 a6 a7))]) hD hS hA [0] rfl
                              refine va_callv (va_runV (As := [.int 1, .int ax]) (rest := []) ⟨hx, hb, hml, hown, hts⟩ (s_fail l dC dI rd r fa fb a2 a3 a4 a5 a6 a7 H.size 1 ax) (cwV 2 hts mg_X6_endOfPatternq_X6_fail_71 rfl rfl rfl (by decide +kernel) ⟨Nat.le_of_ble_eq_true rfl, Nat.le_of_ble_eq_true rfl⟩) ⟨fun a U g mk q => by obtain ⟨q0, q1, qP, qK, qD⟩ := q; exact ⟨q0, q1, qP, va_K.moved (u := U) (U := U.calling g mk a) (Vm.Alike.refl U.vm) qK, qD⟩, va_recv hKc hPc (ci := 6) (q0 := 0) rfl rfl, fun U hU hW => ⟨rfl, by rw [hU], by rw [hU]; exact hPc, va_K.moved hW.alike hKc, hDc.weaken (fun _ _ _ _ => trivial)⟩⟩ rfl rfl hl.1 rfl (lv_room (Nat.le_of_ble_eq_true rfl)) dX6_endOfPattern_217 ⟨Nat.le_of_ble_eq_true rfl, Nat.le_of_ble_eq_true rfl⟩) hS (fun q _ h => hFc q h) hFc (fun u t H1 locs ht hvm hw hB hz1 hk1 hS => ?_)
                              obtain ⟨hP1, hK1, hD1⟩ := hB
                              rw [ht] at hP1
                              obtain ⟨hP, hD⟩ := va_join (wr := [(ta, .inl (cT, nb, .inl ft))]) (w1 := [(rd, .inr (6, rF r 1 ax a2 a3 a4 a5 a6 a7))]) hP hD [0] [1] rfl rfl (by decide) (by decide) hk1 hFc hP1 hD1
                              generalize H1 = H at hP hS ⊢
                              have hP : va_P (dC, dI) vwCl [(ta, .inl (cT, nb, .inl ft)), (rd, .inr (6, rF r 1 ax a2 a3 a4 a5 a6 a7))] H := hP
                              have hD : va_D A [(ta, .inl (cT, nb, .inl ft)), (rd, .inr (6, rF r 1 ax a2 a3 a4 a5 a6 a7))] := hD
                              refine lv_aload_n hx hb dX6_endOfPattern_220 rfl (lv_at hl 5 rfl) ?_
                              refine va_get (D := (dC, dI)) (ci := 6) (v := .int 1) (C := RX6) (T := TX6) (N := 11) hx hb hts fin_X6_endOfPatternq_X6 hown hK hP 1 rfl rfl 0 (by decide) (hts (.fieldLink RX6 22 "PatternGate$Reader" "faultKind" "I") (List.mem_of_getElem? (i := 7) (by decide +kernel))) (fun _ h9 => h9) rfl dX6_endOfPattern_221 ?_
                              refine lv_if_eq (tgt := 230) hx hb dX6_endOfPattern_224 (by decide) (fun k_241 => absurd k_241 (by decide)) (fun k_241 => ?_)
                              have tk_241 := c_ne (a := 1) (b := 0) (by decide) (by decide) k_241
                              refine lv_iload hx hb dX6_endOfPattern_227 (lv_at hl 1 rfl) ?_
                              have hP9 := hP.sub (ws' := [(rd, .inr (6, rF r 1 ax a2 a3 a4 a5 a6 a7)), (ta, .inl (cT, nb, .inl ft))]) [1, 0] rfl
                              have hD9 := hD.sub (ws' := [(rd, .inr (6, rF r 1 ax a2 a3 a4 a5 a6 a7)), (ta, .inl (cT, nb, .inl ft))]) [1, 0] (by decide) rfl
                              have hK9 := hK.sub (tys' := [(cT, .int)]) [0] rfl
                              exact W.iret hx hb hr (fun t ht hW => ⟨⟨_, ax, rfl, ⟨rfl, by omega⟩, 1, ax, (dP_f v12_1 (fun d p => mv_px (by unfold isAt; omega) (by omega)) (by decide)), by rw [ht]; exact hP9, va_K.moved hW.alike hK9, hD9⟩, hS.F ht⟩) hS.2.2 dX6_endOfPattern_229
                            · have tk_238 := c_eq (a := sd.toInt) (b := 1) rfl (by decide) k_238
                              refine lv_iconst (v := 2) hx hb dX6_endOfPattern_207 (by decide) ?_
                              refine lv_istore (lv' := [(6, .int 2), (8, .int y_4), (7, .int ax), (5, .int op), (4, .int sp), (0, .ref rd), (1, .ref ta), (2, .int i8), (3, .int i9)]) hx hb dX6_endOfPattern_208 hl (by decide) rfl (fun ls hl => ?_)
                              refine lv_goto (tgt := 220) hx hb dX6_endOfPattern_210 (by decide) ?_
                              refine lv_aload_n hx hb dX6_endOfPattern_220 rfl (lv_at hl 5 rfl) ?_
                              refine va_get (D := (dC, dI)) (ci := 6) (v := .int fa) (C := RX6) (T := TX6) (N := 11) hx hb hts fin_X6_endOfPatternq_X6 hown hK hP 0 rfl rfl 0 (by decide) (hts (.fieldLink RX6 22 "PatternGate$Reader" "faultKind" "I") (List.mem_of_getElem? (i := 7) (by decide +kernel))) (fun _ h9 => h9) rfl dX6_endOfPattern_221 ?_
                              refine lv_if_eq (tgt := 230) hx hb dX6_endOfPattern_224 (by decide) (fun k_242 => ?_) (fun k_242 => absurd (Int32.toInt_inj.mp (v12_2.trans (by decide))) k_242)
                              have tk_242 := c_eq (a := fa.toInt) (b := 0) rfl (by decide) k_242
                              obtain ⟨y_243, ey_243⟩ : ∃ y : Int32, y = ax + 1 := ⟨_, rfl⟩
                              first | have ty_243 := i_add (a := ax.toInt) (b := 1) rfl (by decide) ey_243 (by omega) (by omega) | skip
                              refine lv_iinc (v := y_243) (lv' := [(7, .int y_243), (6, .int 2), (8, .int y_4), (5, .int op), (4, .int sp), (0, .ref rd), (1, .ref ta), (2, .int i8), (3, .int i9)]) hx hb dX6_endOfPattern_230 hl (k := 2) rfl (by rw [ey_243]; rfl) (by decide) rfl (fun ls hl => ?_)
                              refine lv_goto (tgt := 12) hx hb dX6_endOfPattern_233 (by decide) ?_
                              have lit_243 : (2 : Int32).toInt = 2 := by decide
                              exact ih12 sp op 2 y_243 fa fb (by first | omega | assumption | decide) (dP_next v12_1 (fun d p => by rw [show sd.toInt = 1 by omega]; rw [show y_243.toInt = ax.toInt + 1 by omega, show (2 : Int32).toInt = 2 by decide]; exact mv_pg (by unfold isQu; omega))) (by first | omega | assumption | decide) (by first | omega | assumption | decide) (by first | omega | assumption | decide) (by omega) _ _ ls hP hD hS (lv_sub hl [0, 1, 3, 4, 5, 6, 7, 8] rfl)
                        · have tk_231 := c_eq (a := y_4.toInt) (b := 41) rfl (by decide) k_231
                          refine lv_iload hx hb dX6_endOfPattern_174 (lv_at hl 3 rfl) ?_
                          refine lv_if_le (tgt := 193) hx hb dX6_endOfPattern_176 (by decide) (fun k_245 => ?_) (fun k_245 => ?_)
                          · have tk_245 := c_le (a := op.toInt) (b := 0) rfl (by decide) k_245
                            refine lv_iload hx hb dX6_endOfPattern_193 (lv_at hl 0 rfl) ?_
                            refine vp_callSi (W.runS (As := [.int y_4]) (rest := []) ⟨hx, hb, hml, hown, hts⟩ (s_isSign_q l dC dI y_4) (va_cwS 1 hts mg_X6_endOfPatternq_X6_isSign_102 rfl rfl rfl (by decide +kernel) ⟨Nat.le_of_ble_eq_true rfl, Nat.le_of_ble_eq_true rfl⟩) ⟨fun a U g mk q => ⟨q.1, trivial⟩, fun U hU hW => ⟨rfl, trivial⟩⟩ rfl rfl hl.1 rfl (lv_room (Nat.le_of_ble_eq_true rfl)) dX6_endOfPattern_195 ⟨Nat.le_of_ble_eq_true rfl, Nat.le_of_ble_eq_true rfl⟩) (fun r_247 hw => ?_)
                            have hr_247 := hw
                            refine lv_if_eq (tgt := 213) hx hb dX6_endOfPattern_198 (by decide) (fun k_248 => ?_) (fun k_248 => ?_)
                            · have tk_248 := c_eq (a := r_247.toInt) (b := 0) rfl (by decide) k_248
                              refine lv_aload_n hx hb dX6_endOfPattern_213 rfl (lv_at hl 5 rfl) ?_
                              refine lv_iconst (v := 1) hx hb dX6_endOfPattern_214 (by decide) ?_
                              refine lv_iload hx hb dX6_endOfPattern_215 (lv_at hl 1 rfl) ?_
                              have hPc := hP.sub (ws' := [(rd, .inr (6, rF r fa fb a2 a3 a4 a5 a6 a7))]) [0] rfl
                              have hKc := hK.sub (tys' := []) [] rfl
                              have hDc := hD.sub (ws' := [(rd, .inr (6, rF r fa fb a2 a3 a4 a5 a6 a7))]) [0] (by decide) rfl
                              have hFc := va_free (wc := [(rd, .inr (6, rF r fa fb a2 a3 a4 a5 a6 a7))]) hD hS hA [0] rfl
                              refine va_callv (va_runV (As := [.int 1, .int ax]) (rest := []) ⟨hx, hb, hml, hown, hts⟩ (s_fail l dC dI rd r fa fb a2 a3 a4 a5 a6 a7 H.size 1 ax) (cwV 2 hts mg_X6_endOfPatternq_X6_fail_71 rfl rfl rfl (by decide +kernel) ⟨Nat.le_of_ble_eq_true rfl, Nat.le_of_ble_eq_true rfl⟩) ⟨fun a U g mk q => by obtain ⟨q0, q1, qP, qK, qD⟩ := q; exact ⟨q0, q1, qP, va_K.moved (u := U) (U := U.calling g mk a) (Vm.Alike.refl U.vm) qK, qD⟩, va_recv hKc hPc (ci := 6) (q0 := 0) rfl rfl, fun U hU hW => ⟨rfl, by rw [hU], by rw [hU]; exact hPc, va_K.moved hW.alike hKc, hDc.weaken (fun _ _ _ _ => trivial)⟩⟩ rfl rfl hl.1 rfl (lv_room (Nat.le_of_ble_eq_true rfl)) dX6_endOfPattern_217 ⟨Nat.le_of_ble_eq_true rfl, Nat.le_of_ble_eq_true rfl⟩) hS (fun q _ h => hFc q h) hFc (fun u t H1 locs ht hvm hw hB hz1 hk1 hS => ?_)
                              obtain ⟨hP1, hK1, hD1⟩ := hB
                              rw [ht] at hP1
                              obtain ⟨hP, hD⟩ := va_join (wr := [(ta, .inl (cT, nb, .inl ft))]) (w1 := [(rd, .inr (6, rF r 1 ax a2 a3 a4 a5 a6 a7))]) hP hD [0] [1] rfl rfl (by decide) (by decide) hk1 hFc hP1 hD1
                              generalize H1 = H at hP hS ⊢
                              have hP : va_P (dC, dI) vwCl [(ta, .inl (cT, nb, .inl ft)), (rd, .inr (6, rF r 1 ax a2 a3 a4 a5 a6 a7))] H := hP
                              have hD : va_D A [(ta, .inl (cT, nb, .inl ft)), (rd, .inr (6, rF r 1 ax a2 a3 a4 a5 a6 a7))] := hD
                              refine lv_aload_n hx hb dX6_endOfPattern_220 rfl (lv_at hl 5 rfl) ?_
                              refine va_get (D := (dC, dI)) (ci := 6) (v := .int 1) (C := RX6) (T := TX6) (N := 11) hx hb hts fin_X6_endOfPatternq_X6 hown hK hP 1 rfl rfl 0 (by decide) (hts (.fieldLink RX6 22 "PatternGate$Reader" "faultKind" "I") (List.mem_of_getElem? (i := 7) (by decide +kernel))) (fun _ h9 => h9) rfl dX6_endOfPattern_221 ?_
                              refine lv_if_eq (tgt := 230) hx hb dX6_endOfPattern_224 (by decide) (fun k_251 => absurd k_251 (by decide)) (fun k_251 => ?_)
                              have tk_251 := c_ne (a := 1) (b := 0) (by decide) (by decide) k_251
                              refine lv_iload hx hb dX6_endOfPattern_227 (lv_at hl 1 rfl) ?_
                              have hP9 := hP.sub (ws' := [(rd, .inr (6, rF r 1 ax a2 a3 a4 a5 a6 a7)), (ta, .inl (cT, nb, .inl ft))]) [1, 0] rfl
                              have hD9 := hD.sub (ws' := [(rd, .inr (6, rF r 1 ax a2 a3 a4 a5 a6 a7)), (ta, .inl (cT, nb, .inl ft))]) [1, 0] (by decide) rfl
                              have hK9 := hK.sub (tys' := [(cT, .int)]) [0] rfl
                              exact W.iret hx hb hr (fun t ht hW => ⟨⟨_, ax, rfl, ⟨rfl, by omega⟩, 1, ax, (dP_f v12_1 (fun d p => mv_px (by unfold isAt; omega) (by omega)) (by decide)), by rw [ht]; exact hP9, va_K.moved hW.alike hK9, hD9⟩, hS.F ht⟩) hS.2.2 dX6_endOfPattern_229
                            · have tk_248 := c_ne (a := r_247.toInt) (b := 0) rfl (by decide) k_248
                              refine lv_iload hx hb dX6_endOfPattern_201 (lv_at hl 2 rfl) ?_
                              refine lv_iconst (v := 1) hx hb dX6_endOfPattern_203 (by decide) ?_
                              refine lv_icmp_ne (tgt := 213) hx hb dX6_endOfPattern_204 (by decide) (fun k_252 => ?_) (fun k_252 => ?_)
                              · have tk_252 := c_ne (a := sd.toInt) (b := 1) rfl (by decide) k_252
                                refine lv_aload_n hx hb dX6_endOfPattern_213 rfl (lv_at hl 5 rfl) ?_
                                refine lv_iconst (v := 1) hx hb dX6_endOfPattern_214 (by decide) ?_
                                refine lv_iload hx hb dX6_endOfPattern_215 (lv_at hl 1 rfl) ?_
                                have hPc := hP.sub (ws' := [(rd, .inr (6, rF r fa fb a2 a3 a4 a5 a6 a7))]) [0] rfl
                                have hKc := hK.sub (tys' := []) [] rfl
                                have hDc := hD.sub (ws' := [(rd, .inr (6, rF r fa fb a2 a3 a4 a5 a6 a7))]) [0] (by decide) rfl
                                have hFc := va_free (wc := [(rd, .inr (6, rF r fa fb a2 a3 a4 a5 a6 a7))]) hD hS hA [0] rfl
                                refine va_callv (va_runV (As := [.int 1, .int ax]) (rest := []) ⟨hx, hb, hml, hown, hts⟩ (s_fail l dC dI rd r fa fb a2 a3 a4 a5 a6 a7 H.size 1 ax) (cwV 2 hts mg_X6_endOfPatternq_X6_fail_71 rfl rfl rfl (by decide +kernel) ⟨Nat.le_of_ble_eq_true rfl, Nat.le_of_ble_eq_true rfl⟩) ⟨fun a U g mk q => by obtain ⟨q0, q1, qP, qK, qD⟩ := q; exact ⟨q0, q1, qP, va_K.moved (u := U) (U := U.calling g mk a) (Vm.Alike.refl U.vm) qK, qD⟩, va_recv hKc hPc (ci := 6) (q0 := 0) rfl rfl, fun U hU hW => ⟨rfl, by rw [hU], by rw [hU]; exact hPc, va_K.moved hW.alike hKc, hDc.weaken (fun _ _ _ _ => trivial)⟩⟩ rfl rfl hl.1 rfl (lv_room (Nat.le_of_ble_eq_true rfl)) dX6_endOfPattern_217 ⟨Nat.le_of_ble_eq_true rfl, Nat.le_of_ble_eq_true rfl⟩) hS (fun q _ h => hFc q h) hFc (fun u t H1 locs ht hvm hw hB hz1 hk1 hS => ?_)
                                obtain ⟨hP1, hK1, hD1⟩ := hB
                                rw [ht] at hP1
                                obtain ⟨hP, hD⟩ := va_join (wr := [(ta, .inl (cT, nb, .inl ft))]) (w1 := [(rd, .inr (6, rF r 1 ax a2 a3 a4 a5 a6 a7))]) hP hD [0] [1] rfl rfl (by decide) (by decide) hk1 hFc hP1 hD1
                                generalize H1 = H at hP hS ⊢
                                have hP : va_P (dC, dI) vwCl [(ta, .inl (cT, nb, .inl ft)), (rd, .inr (6, rF r 1 ax a2 a3 a4 a5 a6 a7))] H := hP
                                have hD : va_D A [(ta, .inl (cT, nb, .inl ft)), (rd, .inr (6, rF r 1 ax a2 a3 a4 a5 a6 a7))] := hD
                                refine lv_aload_n hx hb dX6_endOfPattern_220 rfl (lv_at hl 5 rfl) ?_
                                refine va_get (D := (dC, dI)) (ci := 6) (v := .int 1) (C := RX6) (T := TX6) (N := 11) hx hb hts fin_X6_endOfPatternq_X6 hown hK hP 1 rfl rfl 0 (by decide) (hts (.fieldLink RX6 22 "PatternGate$Reader" "faultKind" "I") (List.mem_of_getElem? (i := 7) (by decide +kernel))) (fun _ h9 => h9) rfl dX6_endOfPattern_221 ?_
                                refine lv_if_eq (tgt := 230) hx hb dX6_endOfPattern_224 (by decide) (fun k_255 => absurd k_255 (by decide)) (fun k_255 => ?_)
                                have tk_255 := c_ne (a := 1) (b := 0) (by decide) (by decide) k_255
                                refine lv_iload hx hb dX6_endOfPattern_227 (lv_at hl 1 rfl) ?_
                                have hP9 := hP.sub (ws' := [(rd, .inr (6, rF r 1 ax a2 a3 a4 a5 a6 a7)), (ta, .inl (cT, nb, .inl ft))]) [1, 0] rfl
                                have hD9 := hD.sub (ws' := [(rd, .inr (6, rF r 1 ax a2 a3 a4 a5 a6 a7)), (ta, .inl (cT, nb, .inl ft))]) [1, 0] (by decide) rfl
                                have hK9 := hK.sub (tys' := [(cT, .int)]) [0] rfl
                                exact W.iret hx hb hr (fun t ht hW => ⟨⟨_, ax, rfl, ⟨rfl, by omega⟩, 1, ax, (dP_f v12_1 (fun d p => mv_px (by unfold isAt; omega) (by omega)) (by decide)), by rw [ht]; exact hP9, va_K.moved hW.alike hK9, hD9⟩, hS.F ht⟩) hS.2.2 dX6_endOfPattern_229
                              · have tk_252 := c_eq (a := sd.toInt) (b := 1) rfl (by decide) k_252
                                refine lv_iconst (v := 2) hx hb dX6_endOfPattern_207 (by decide) ?_
                                refine lv_istore (lv' := [(6, .int 2), (8, .int y_4), (7, .int ax), (5, .int op), (4, .int sp), (0, .ref rd), (1, .ref ta), (2, .int i8), (3, .int i9)]) hx hb dX6_endOfPattern_208 hl (by decide) rfl (fun ls hl => ?_)
                                refine lv_goto (tgt := 220) hx hb dX6_endOfPattern_210 (by decide) ?_
                                refine lv_aload_n hx hb dX6_endOfPattern_220 rfl (lv_at hl 5 rfl) ?_
                                refine va_get (D := (dC, dI)) (ci := 6) (v := .int fa) (C := RX6) (T := TX6) (N := 11) hx hb hts fin_X6_endOfPatternq_X6 hown hK hP 0 rfl rfl 0 (by decide) (hts (.fieldLink RX6 22 "PatternGate$Reader" "faultKind" "I") (List.mem_of_getElem? (i := 7) (by decide +kernel))) (fun _ h9 => h9) rfl dX6_endOfPattern_221 ?_
                                refine lv_if_eq (tgt := 230) hx hb dX6_endOfPattern_224 (by decide) (fun k_256 => ?_) (fun k_256 => absurd (Int32.toInt_inj.mp (v12_2.trans (by decide))) k_256)
                                have tk_256 := c_eq (a := fa.toInt) (b := 0) rfl (by decide) k_256
                                obtain ⟨y_257, ey_257⟩ : ∃ y : Int32, y = ax + 1 := ⟨_, rfl⟩
                                first | have ty_257 := i_add (a := ax.toInt) (b := 1) rfl (by decide) ey_257 (by omega) (by omega) | skip
                                refine lv_iinc (v := y_257) (lv' := [(7, .int y_257), (6, .int 2), (8, .int y_4), (5, .int op), (4, .int sp), (0, .ref rd), (1, .ref ta), (2, .int i8), (3, .int i9)]) hx hb dX6_endOfPattern_230 hl (k := 2) rfl (by rw [ey_257]; rfl) (by decide) rfl (fun ls hl => ?_)
                                refine lv_goto (tgt := 12) hx hb dX6_endOfPattern_233 (by decide) ?_
                                have lit_257 : (2 : Int32).toInt = 2 := by decide
                                exact ih12 sp op 2 y_257 fa fb (by first | omega | assumption | decide) (dP_next v12_1 (fun d p => by rw [show sd.toInt = 1 by omega]; rw [show y_257.toInt = ax.toInt + 1 by omega, show (2 : Int32).toInt = 2 by decide]; exact mv_pg (by unfold isQu; omega))) (by first | omega | assumption | decide) (by first | omega | assumption | decide) (by first | omega | assumption | decide) (by omega) _ _ ls hP hD hS (lv_sub hl [0, 1, 3, 4, 5, 6, 7, 8] rfl)
                          · have tk_245 := c_nle (a := op.toInt) (b := 0) rfl (by decide) k_245
                            refine lv_iload hx hb dX6_endOfPattern_179 (lv_at hl 2 rfl) ?_
                            refine lv_if_eq (tgt := 193) hx hb dX6_endOfPattern_181 (by decide) (fun k_259 => ?_) (fun k_259 => ?_)
                            · have tk_259 := c_eq (a := sd.toInt) (b := 0) rfl (by decide) k_259
                              refine lv_iload hx hb dX6_endOfPattern_193 (lv_at hl 0 rfl) ?_
                              refine vp_callSi (W.runS (As := [.int y_4]) (rest := []) ⟨hx, hb, hml, hown, hts⟩ (s_isSign_q l dC dI y_4) (va_cwS 1 hts mg_X6_endOfPatternq_X6_isSign_102 rfl rfl rfl (by decide +kernel) ⟨Nat.le_of_ble_eq_true rfl, Nat.le_of_ble_eq_true rfl⟩) ⟨fun a U g mk q => ⟨q.1, trivial⟩, fun U hU hW => ⟨rfl, trivial⟩⟩ rfl rfl hl.1 rfl (lv_room (Nat.le_of_ble_eq_true rfl)) dX6_endOfPattern_195 ⟨Nat.le_of_ble_eq_true rfl, Nat.le_of_ble_eq_true rfl⟩) (fun r_261 hw => ?_)
                              have hr_261 := hw
                              refine lv_if_eq (tgt := 213) hx hb dX6_endOfPattern_198 (by decide) (fun k_262 => ?_) (fun k_262 => ?_)
                              · have tk_262 := c_eq (a := r_261.toInt) (b := 0) rfl (by decide) k_262
                                refine lv_aload_n hx hb dX6_endOfPattern_213 rfl (lv_at hl 5 rfl) ?_
                                refine lv_iconst (v := 1) hx hb dX6_endOfPattern_214 (by decide) ?_
                                refine lv_iload hx hb dX6_endOfPattern_215 (lv_at hl 1 rfl) ?_
                                have hPc := hP.sub (ws' := [(rd, .inr (6, rF r fa fb a2 a3 a4 a5 a6 a7))]) [0] rfl
                                have hKc := hK.sub (tys' := []) [] rfl
                                have hDc := hD.sub (ws' := [(rd, .inr (6, rF r fa fb a2 a3 a4 a5 a6 a7))]) [0] (by decide) rfl
                                have hFc := va_free (wc := [(rd, .inr (6, rF r fa fb a2 a3 a4 a5 a6 a7))]) hD hS hA [0] rfl
                                refine va_callv (va_runV (As := [.int 1, .int ax]) (rest := []) ⟨hx, hb, hml, hown, hts⟩ (s_fail l dC dI rd r fa fb a2 a3 a4 a5 a6 a7 H.size 1 ax) (cwV 2 hts mg_X6_endOfPatternq_X6_fail_71 rfl rfl rfl (by decide +kernel) ⟨Nat.le_of_ble_eq_true rfl, Nat.le_of_ble_eq_true rfl⟩) ⟨fun a U g mk q => by obtain ⟨q0, q1, qP, qK, qD⟩ := q; exact ⟨q0, q1, qP, va_K.moved (u := U) (U := U.calling g mk a) (Vm.Alike.refl U.vm) qK, qD⟩, va_recv hKc hPc (ci := 6) (q0 := 0) rfl rfl, fun U hU hW => ⟨rfl, by rw [hU], by rw [hU]; exact hPc, va_K.moved hW.alike hKc, hDc.weaken (fun _ _ _ _ => trivial)⟩⟩ rfl rfl hl.1 rfl (lv_room (Nat.le_of_ble_eq_true rfl)) dX6_endOfPattern_217 ⟨Nat.le_of_ble_eq_true rfl, Nat.le_of_ble_eq_true rfl⟩) hS (fun q _ h => hFc q h) hFc (fun u t H1 locs ht hvm hw hB hz1 hk1 hS => ?_)
                                obtain ⟨hP1, hK1, hD1⟩ := hB
                                rw [ht] at hP1
                                obtain ⟨hP, hD⟩ := va_join (wr := [(ta, .inl (cT, nb, .inl ft))]) (w1 := [(rd, .inr (6, rF r 1 ax a2 a3 a4 a5 a6 a7))]) hP hD [0] [1] rfl rfl (by decide) (by decide) hk1 hFc hP1 hD1
                                generalize H1 = H at hP hS ⊢
                                have hP : va_P (dC, dI) vwCl [(ta, .inl (cT, nb, .inl ft)), (rd, .inr (6, rF r 1 ax a2 a3 a4 a5 a6 a7))] H := hP
                                have hD : va_D A [(ta, .inl (cT, nb, .inl ft)), (rd, .inr (6, rF r 1 ax a2 a3 a4 a5 a6 a7))] := hD
                                refine lv_aload_n hx hb dX6_endOfPattern_220 rfl (lv_at hl 5 rfl) ?_
                                refine va_get (D := (dC, dI)) (ci := 6) (v := .int 1) (C := RX6) (T := TX6) (N := 11) hx hb hts fin_X6_endOfPatternq_X6 hown hK hP 1 rfl rfl 0 (by decide) (hts (.fieldLink RX6 22 "PatternGate$Reader" "faultKind" "I") (List.mem_of_getElem? (i := 7) (by decide +kernel))) (fun _ h9 => h9) rfl dX6_endOfPattern_221 ?_
                                refine lv_if_eq (tgt := 230) hx hb dX6_endOfPattern_224 (by decide) (fun k_265 => absurd k_265 (by decide)) (fun k_265 => ?_)
                                have tk_265 := c_ne (a := 1) (b := 0) (by decide) (by decide) k_265
                                refine lv_iload hx hb dX6_endOfPattern_227 (lv_at hl 1 rfl) ?_
                                have hP9 := hP.sub (ws' := [(rd, .inr (6, rF r 1 ax a2 a3 a4 a5 a6 a7)), (ta, .inl (cT, nb, .inl ft))]) [1, 0] rfl
                                have hD9 := hD.sub (ws' := [(rd, .inr (6, rF r 1 ax a2 a3 a4 a5 a6 a7)), (ta, .inl (cT, nb, .inl ft))]) [1, 0] (by decide) rfl
                                have hK9 := hK.sub (tys' := [(cT, .int)]) [0] rfl
                                exact W.iret hx hb hr (fun t ht hW => ⟨⟨_, ax, rfl, ⟨rfl, by omega⟩, 1, ax, (dP_f v12_1 (fun d p => mv_px (by unfold isAt; omega) (by omega)) (by decide)), by rw [ht]; exact hP9, va_K.moved hW.alike hK9, hD9⟩, hS.F ht⟩) hS.2.2 dX6_endOfPattern_229
                              · have tk_262 := c_ne (a := r_261.toInt) (b := 0) rfl (by decide) k_262
                                refine lv_iload hx hb dX6_endOfPattern_201 (lv_at hl 2 rfl) ?_
                                refine lv_iconst (v := 1) hx hb dX6_endOfPattern_203 (by decide) ?_
                                refine lv_icmp_ne (tgt := 213) hx hb dX6_endOfPattern_204 (by decide) (fun k_266 => ?_) (fun k_266 => ?_)
                                · have tk_266 := c_ne (a := sd.toInt) (b := 1) rfl (by decide) k_266
                                  refine lv_aload_n hx hb dX6_endOfPattern_213 rfl (lv_at hl 5 rfl) ?_
                                  refine lv_iconst (v := 1) hx hb dX6_endOfPattern_214 (by decide) ?_
                                  refine lv_iload hx hb dX6_endOfPattern_215 (lv_at hl 1 rfl) ?_
                                  have hPc := hP.sub (ws' := [(rd, .inr (6, rF r fa fb a2 a3 a4 a5 a6 a7))]) [0] rfl
                                  have hKc := hK.sub (tys' := []) [] rfl
                                  have hDc := hD.sub (ws' := [(rd, .inr (6, rF r fa fb a2 a3 a4 a5 a6 a7))]) [0] (by decide) rfl
                                  have hFc := va_free (wc := [(rd, .inr (6, rF r fa fb a2 a3 a4 a5 a6 a7))]) hD hS hA [0] rfl
                                  refine va_callv (va_runV (As := [.int 1, .int ax]) (rest := []) ⟨hx, hb, hml, hown, hts⟩ (s_fail l dC dI rd r fa fb a2 a3 a4 a5 a6 a7 H.size 1 ax) (cwV 2 hts mg_X6_endOfPatternq_X6_fail_71 rfl rfl rfl (by decide +kernel) ⟨Nat.le_of_ble_eq_true rfl, Nat.le_of_ble_eq_true rfl⟩) ⟨fun a U g mk q => by obtain ⟨q0, q1, qP, qK, qD⟩ := q; exact ⟨q0, q1, qP, va_K.moved (u := U) (U := U.calling g mk a) (Vm.Alike.refl U.vm) qK, qD⟩, va_recv hKc hPc (ci := 6) (q0 := 0) rfl rfl, fun U hU hW => ⟨rfl, by rw [hU], by rw [hU]; exact hPc, va_K.moved hW.alike hKc, hDc.weaken (fun _ _ _ _ => trivial)⟩⟩ rfl rfl hl.1 rfl (lv_room (Nat.le_of_ble_eq_true rfl)) dX6_endOfPattern_217 ⟨Nat.le_of_ble_eq_true rfl, Nat.le_of_ble_eq_true rfl⟩) hS (fun q _ h => hFc q h) hFc (fun u t H1 locs ht hvm hw hB hz1 hk1 hS => ?_)
                                  obtain ⟨hP1, hK1, hD1⟩ := hB
                                  rw [ht] at hP1
                                  obtain ⟨hP, hD⟩ := va_join (wr := [(ta, .inl (cT, nb, .inl ft))]) (w1 := [(rd, .inr (6, rF r 1 ax a2 a3 a4 a5 a6 a7))]) hP hD [0] [1] rfl rfl (by decide) (by decide) hk1 hFc hP1 hD1
                                  generalize H1 = H at hP hS ⊢
                                  have hP : va_P (dC, dI) vwCl [(ta, .inl (cT, nb, .inl ft)), (rd, .inr (6, rF r 1 ax a2 a3 a4 a5 a6 a7))] H := hP
                                  have hD : va_D A [(ta, .inl (cT, nb, .inl ft)), (rd, .inr (6, rF r 1 ax a2 a3 a4 a5 a6 a7))] := hD
                                  refine lv_aload_n hx hb dX6_endOfPattern_220 rfl (lv_at hl 5 rfl) ?_
                                  refine va_get (D := (dC, dI)) (ci := 6) (v := .int 1) (C := RX6) (T := TX6) (N := 11) hx hb hts fin_X6_endOfPatternq_X6 hown hK hP 1 rfl rfl 0 (by decide) (hts (.fieldLink RX6 22 "PatternGate$Reader" "faultKind" "I") (List.mem_of_getElem? (i := 7) (by decide +kernel))) (fun _ h9 => h9) rfl dX6_endOfPattern_221 ?_
                                  refine lv_if_eq (tgt := 230) hx hb dX6_endOfPattern_224 (by decide) (fun k_269 => absurd k_269 (by decide)) (fun k_269 => ?_)
                                  have tk_269 := c_ne (a := 1) (b := 0) (by decide) (by decide) k_269
                                  refine lv_iload hx hb dX6_endOfPattern_227 (lv_at hl 1 rfl) ?_
                                  have hP9 := hP.sub (ws' := [(rd, .inr (6, rF r 1 ax a2 a3 a4 a5 a6 a7)), (ta, .inl (cT, nb, .inl ft))]) [1, 0] rfl
                                  have hD9 := hD.sub (ws' := [(rd, .inr (6, rF r 1 ax a2 a3 a4 a5 a6 a7)), (ta, .inl (cT, nb, .inl ft))]) [1, 0] (by decide) rfl
                                  have hK9 := hK.sub (tys' := [(cT, .int)]) [0] rfl
                                  exact W.iret hx hb hr (fun t ht hW => ⟨⟨_, ax, rfl, ⟨rfl, by omega⟩, 1, ax, (dP_f v12_1 (fun d p => mv_px (by unfold isAt; omega) (by omega)) (by decide)), by rw [ht]; exact hP9, va_K.moved hW.alike hK9, hD9⟩, hS.F ht⟩) hS.2.2 dX6_endOfPattern_229
                                · have tk_266 := c_eq (a := sd.toInt) (b := 1) rfl (by decide) k_266
                                  refine lv_iconst (v := 2) hx hb dX6_endOfPattern_207 (by decide) ?_
                                  refine lv_istore (lv' := [(6, .int 2), (8, .int y_4), (7, .int ax), (5, .int op), (4, .int sp), (0, .ref rd), (1, .ref ta), (2, .int i8), (3, .int i9)]) hx hb dX6_endOfPattern_208 hl (by decide) rfl (fun ls hl => ?_)
                                  refine lv_goto (tgt := 220) hx hb dX6_endOfPattern_210 (by decide) ?_
                                  refine lv_aload_n hx hb dX6_endOfPattern_220 rfl (lv_at hl 5 rfl) ?_
                                  refine va_get (D := (dC, dI)) (ci := 6) (v := .int fa) (C := RX6) (T := TX6) (N := 11) hx hb hts fin_X6_endOfPatternq_X6 hown hK hP 0 rfl rfl 0 (by decide) (hts (.fieldLink RX6 22 "PatternGate$Reader" "faultKind" "I") (List.mem_of_getElem? (i := 7) (by decide +kernel))) (fun _ h9 => h9) rfl dX6_endOfPattern_221 ?_
                                  refine lv_if_eq (tgt := 230) hx hb dX6_endOfPattern_224 (by decide) (fun k_270 => ?_) (fun k_270 => absurd (Int32.toInt_inj.mp (v12_2.trans (by decide))) k_270)
                                  have tk_270 := c_eq (a := fa.toInt) (b := 0) rfl (by decide) k_270
                                  obtain ⟨y_271, ey_271⟩ : ∃ y : Int32, y = ax + 1 := ⟨_, rfl⟩
                                  first | have ty_271 := i_add (a := ax.toInt) (b := 1) rfl (by decide) ey_271 (by omega) (by omega) | skip
                                  refine lv_iinc (v := y_271) (lv' := [(7, .int y_271), (6, .int 2), (8, .int y_4), (5, .int op), (4, .int sp), (0, .ref rd), (1, .ref ta), (2, .int i8), (3, .int i9)]) hx hb dX6_endOfPattern_230 hl (k := 2) rfl (by rw [ey_271]; rfl) (by decide) rfl (fun ls hl => ?_)
                                  refine lv_goto (tgt := 12) hx hb dX6_endOfPattern_233 (by decide) ?_
                                  have lit_271 : (2 : Int32).toInt = 2 := by decide
                                  exact ih12 sp op 2 y_271 fa fb (by first | omega | assumption | decide) (dP_next v12_1 (fun d p => by rw [show sd.toInt = 1 by omega]; rw [show y_271.toInt = ax.toInt + 1 by omega, show (2 : Int32).toInt = 2 by decide]; exact mv_pg (by unfold isQu; omega))) (by first | omega | assumption | decide) (by first | omega | assumption | decide) (by first | omega | assumption | decide) (by omega) _ _ ls hP hD hS (lv_sub hl [0, 1, 3, 4, 5, 6, 7, 8] rfl)
                            · have tk_259 := c_ne (a := sd.toInt) (b := 0) rfl (by decide) k_259
                              obtain ⟨y_273, ey_273⟩ : ∃ y : Int32, y = op + (-1) := ⟨_, rfl⟩
                              first | have ty_273 := i_add (a := op.toInt) (b := (-1)) rfl (by decide) ey_273 (by omega) (by omega) | skip
                              refine lv_iinc (v := y_273) (lv' := [(5, .int y_273), (8, .int y_4), (7, .int ax), (6, .int sd), (4, .int sp), (0, .ref rd), (1, .ref ta), (2, .int i8), (3, .int i9)]) hx hb dX6_endOfPattern_184 hl (k := 3) rfl (by rw [ey_273]; rfl) (by decide) rfl (fun ls hl => ?_)
                              refine lv_iconst (v := 1) hx hb dX6_endOfPattern_187 (by decide) ?_
                              refine lv_istore (lv' := [(6, .int 1), (5, .int y_273), (8, .int y_4), (7, .int ax), (4, .int sp), (0, .ref rd), (1, .ref ta), (2, .int i8), (3, .int i9)]) hx hb dX6_endOfPattern_188 hl (by decide) rfl (fun ls hl => ?_)
                              refine lv_goto (tgt := 220) hx hb dX6_endOfPattern_190 (by decide) ?_
                              refine lv_aload_n hx hb dX6_endOfPattern_220 rfl (lv_at hl 5 rfl) ?_
                              refine va_get (D := (dC, dI)) (ci := 6) (v := .int fa) (C := RX6) (T := TX6) (N := 11) hx hb hts fin_X6_endOfPatternq_X6 hown hK hP 0 rfl rfl 0 (by decide) (hts (.fieldLink RX6 22 "PatternGate$Reader" "faultKind" "I") (List.mem_of_getElem? (i := 7) (by decide +kernel))) (fun _ h9 => h9) rfl dX6_endOfPattern_221 ?_
                              refine lv_if_eq (tgt := 230) hx hb dX6_endOfPattern_224 (by decide) (fun k_274 => ?_) (fun k_274 => absurd (Int32.toInt_inj.mp (v12_2.trans (by decide))) k_274)
                              have tk_274 := c_eq (a := fa.toInt) (b := 0) rfl (by decide) k_274
                              obtain ⟨y_275, ey_275⟩ : ∃ y : Int32, y = ax + 1 := ⟨_, rfl⟩
                              first | have ty_275 := i_add (a := ax.toInt) (b := 1) rfl (by decide) ey_275 (by omega) (by omega) | skip
                              refine lv_iinc (v := y_275) (lv' := [(7, .int y_275), (6, .int 1), (5, .int y_273), (8, .int y_4), (4, .int sp), (0, .ref rd), (1, .ref ta), (2, .int i8), (3, .int i9)]) hx hb dX6_endOfPattern_230 hl (k := 3) rfl (by rw [ey_275]; rfl) (by decide) rfl (fun ls hl => ?_)
                              refine lv_goto (tgt := 12) hx hb dX6_endOfPattern_233 (by decide) ?_
                              have lit_275 : (1 : Int32).toInt = 1 := by decide
                              exact ih12 sp y_273 1 y_275 fa fb (by first | omega | assumption | decide) (dP_next v12_1 (fun d p => by rw [show y_275.toInt = ax.toInt + 1 by omega, show y_273.toInt = op.toInt - 1 by omega, show (1 : Int32).toInt = 1 by decide]; exact mv_pc (by omega) (by omega) (by omega))) (by first | omega | assumption | decide) (by first | omega | assumption | decide) (by first | omega | assumption | decide) (by omega) _ _ ls hP hD hS (lv_sub hl [0, 1, 2, 4, 5, 6, 7, 8] rfl)
                      · have tk_230 := c_eq (a := y_4.toInt) (b := 124) rfl (by decide) k_230
                        refine lv_iload hx hb dX6_endOfPattern_156 (lv_at hl 2 rfl) ?_
                        refine lv_if_eq (tgt := 167) hx hb dX6_endOfPattern_158 (by decide) (fun k_277 => ?_) (fun k_277 => ?_)
                        · have tk_277 := c_eq (a := sd.toInt) (b := 0) rfl (by decide) k_277
                          refine lv_iload hx hb dX6_endOfPattern_167 (lv_at hl 0 rfl) ?_
                          refine lv_bipush (v := 41) hx hb dX6_endOfPattern_169 (by decide) ?_
                          refine lv_icmp_ne (tgt := 193) hx hb dX6_endOfPattern_171 (by decide) (fun k_278 => ?_) (fun k_278 => ?_)
                          · have tk_278 := c_ne (a := y_4.toInt) (b := 41) rfl (by decide) k_278
                            refine lv_iload hx hb dX6_endOfPattern_193 (lv_at hl 0 rfl) ?_
                            refine vp_callSi (W.runS (As := [.int y_4]) (rest := []) ⟨hx, hb, hml, hown, hts⟩ (s_isSign_q l dC dI y_4) (va_cwS 1 hts mg_X6_endOfPatternq_X6_isSign_102 rfl rfl rfl (by decide +kernel) ⟨Nat.le_of_ble_eq_true rfl, Nat.le_of_ble_eq_true rfl⟩) ⟨fun a U g mk q => ⟨q.1, trivial⟩, fun U hU hW => ⟨rfl, trivial⟩⟩ rfl rfl hl.1 rfl (lv_room (Nat.le_of_ble_eq_true rfl)) dX6_endOfPattern_195 ⟨Nat.le_of_ble_eq_true rfl, Nat.le_of_ble_eq_true rfl⟩) (fun r_280 hw => ?_)
                            have hr_280 := hw
                            refine lv_if_eq (tgt := 213) hx hb dX6_endOfPattern_198 (by decide) (fun k_281 => ?_) (fun k_281 => ?_)
                            · have tk_281 := c_eq (a := r_280.toInt) (b := 0) rfl (by decide) k_281
                              refine lv_aload_n hx hb dX6_endOfPattern_213 rfl (lv_at hl 5 rfl) ?_
                              refine lv_iconst (v := 1) hx hb dX6_endOfPattern_214 (by decide) ?_
                              refine lv_iload hx hb dX6_endOfPattern_215 (lv_at hl 1 rfl) ?_
                              have hPc := hP.sub (ws' := [(rd, .inr (6, rF r fa fb a2 a3 a4 a5 a6 a7))]) [0] rfl
                              have hKc := hK.sub (tys' := []) [] rfl
                              have hDc := hD.sub (ws' := [(rd, .inr (6, rF r fa fb a2 a3 a4 a5 a6 a7))]) [0] (by decide) rfl
                              have hFc := va_free (wc := [(rd, .inr (6, rF r fa fb a2 a3 a4 a5 a6 a7))]) hD hS hA [0] rfl
                              refine va_callv (va_runV (As := [.int 1, .int ax]) (rest := []) ⟨hx, hb, hml, hown, hts⟩ (s_fail l dC dI rd r fa fb a2 a3 a4 a5 a6 a7 H.size 1 ax) (cwV 2 hts mg_X6_endOfPatternq_X6_fail_71 rfl rfl rfl (by decide +kernel) ⟨Nat.le_of_ble_eq_true rfl, Nat.le_of_ble_eq_true rfl⟩) ⟨fun a U g mk q => by obtain ⟨q0, q1, qP, qK, qD⟩ := q; exact ⟨q0, q1, qP, va_K.moved (u := U) (U := U.calling g mk a) (Vm.Alike.refl U.vm) qK, qD⟩, va_recv hKc hPc (ci := 6) (q0 := 0) rfl rfl, fun U hU hW => ⟨rfl, by rw [hU], by rw [hU]; exact hPc, va_K.moved hW.alike hKc, hDc.weaken (fun _ _ _ _ => trivial)⟩⟩ rfl rfl hl.1 rfl (lv_room (Nat.le_of_ble_eq_true rfl)) dX6_endOfPattern_217 ⟨Nat.le_of_ble_eq_true rfl, Nat.le_of_ble_eq_true rfl⟩) hS (fun q _ h => hFc q h) hFc (fun u t H1 locs ht hvm hw hB hz1 hk1 hS => ?_)
                              obtain ⟨hP1, hK1, hD1⟩ := hB
                              rw [ht] at hP1
                              obtain ⟨hP, hD⟩ := va_join (wr := [(ta, .inl (cT, nb, .inl ft))]) (w1 := [(rd, .inr (6, rF r 1 ax a2 a3 a4 a5 a6 a7))]) hP hD [0] [1] rfl rfl (by decide) (by decide) hk1 hFc hP1 hD1
                              generalize H1 = H at hP hS ⊢
                              have hP : va_P (dC, dI) vwCl [(ta, .inl (cT, nb, .inl ft)), (rd, .inr (6, rF r 1 ax a2 a3 a4 a5 a6 a7))] H := hP
                              have hD : va_D A [(ta, .inl (cT, nb, .inl ft)), (rd, .inr (6, rF r 1 ax a2 a3 a4 a5 a6 a7))] := hD
                              refine lv_aload_n hx hb dX6_endOfPattern_220 rfl (lv_at hl 5 rfl) ?_
                              refine va_get (D := (dC, dI)) (ci := 6) (v := .int 1) (C := RX6) (T := TX6) (N := 11) hx hb hts fin_X6_endOfPatternq_X6 hown hK hP 1 rfl rfl 0 (by decide) (hts (.fieldLink RX6 22 "PatternGate$Reader" "faultKind" "I") (List.mem_of_getElem? (i := 7) (by decide +kernel))) (fun _ h9 => h9) rfl dX6_endOfPattern_221 ?_
                              refine lv_if_eq (tgt := 230) hx hb dX6_endOfPattern_224 (by decide) (fun k_284 => absurd k_284 (by decide)) (fun k_284 => ?_)
                              have tk_284 := c_ne (a := 1) (b := 0) (by decide) (by decide) k_284
                              refine lv_iload hx hb dX6_endOfPattern_227 (lv_at hl 1 rfl) ?_
                              have hP9 := hP.sub (ws' := [(rd, .inr (6, rF r 1 ax a2 a3 a4 a5 a6 a7)), (ta, .inl (cT, nb, .inl ft))]) [1, 0] rfl
                              have hD9 := hD.sub (ws' := [(rd, .inr (6, rF r 1 ax a2 a3 a4 a5 a6 a7)), (ta, .inl (cT, nb, .inl ft))]) [1, 0] (by decide) rfl
                              have hK9 := hK.sub (tys' := [(cT, .int)]) [0] rfl
                              exact W.iret hx hb hr (fun t ht hW => ⟨⟨_, ax, rfl, ⟨rfl, by omega⟩, 1, ax, (dP_f v12_1 (fun d p => mv_px (by unfold isAt; omega) (by omega)) (by decide)), by rw [ht]; exact hP9, va_K.moved hW.alike hK9, hD9⟩, hS.F ht⟩) hS.2.2 dX6_endOfPattern_229
                            · have tk_281 := c_ne (a := r_280.toInt) (b := 0) rfl (by decide) k_281
                              refine lv_iload hx hb dX6_endOfPattern_201 (lv_at hl 2 rfl) ?_
                              refine lv_iconst (v := 1) hx hb dX6_endOfPattern_203 (by decide) ?_
                              refine lv_icmp_ne (tgt := 213) hx hb dX6_endOfPattern_204 (by decide) (fun k_285 => ?_) (fun k_285 => ?_)
                              · have tk_285 := c_ne (a := sd.toInt) (b := 1) rfl (by decide) k_285
                                refine lv_aload_n hx hb dX6_endOfPattern_213 rfl (lv_at hl 5 rfl) ?_
                                refine lv_iconst (v := 1) hx hb dX6_endOfPattern_214 (by decide) ?_
                                refine lv_iload hx hb dX6_endOfPattern_215 (lv_at hl 1 rfl) ?_
                                have hPc := hP.sub (ws' := [(rd, .inr (6, rF r fa fb a2 a3 a4 a5 a6 a7))]) [0] rfl
                                have hKc := hK.sub (tys' := []) [] rfl
                                have hDc := hD.sub (ws' := [(rd, .inr (6, rF r fa fb a2 a3 a4 a5 a6 a7))]) [0] (by decide) rfl
                                have hFc := va_free (wc := [(rd, .inr (6, rF r fa fb a2 a3 a4 a5 a6 a7))]) hD hS hA [0] rfl
                                refine va_callv (va_runV (As := [.int 1, .int ax]) (rest := []) ⟨hx, hb, hml, hown, hts⟩ (s_fail l dC dI rd r fa fb a2 a3 a4 a5 a6 a7 H.size 1 ax) (cwV 2 hts mg_X6_endOfPatternq_X6_fail_71 rfl rfl rfl (by decide +kernel) ⟨Nat.le_of_ble_eq_true rfl, Nat.le_of_ble_eq_true rfl⟩) ⟨fun a U g mk q => by obtain ⟨q0, q1, qP, qK, qD⟩ := q; exact ⟨q0, q1, qP, va_K.moved (u := U) (U := U.calling g mk a) (Vm.Alike.refl U.vm) qK, qD⟩, va_recv hKc hPc (ci := 6) (q0 := 0) rfl rfl, fun U hU hW => ⟨rfl, by rw [hU], by rw [hU]; exact hPc, va_K.moved hW.alike hKc, hDc.weaken (fun _ _ _ _ => trivial)⟩⟩ rfl rfl hl.1 rfl (lv_room (Nat.le_of_ble_eq_true rfl)) dX6_endOfPattern_217 ⟨Nat.le_of_ble_eq_true rfl, Nat.le_of_ble_eq_true rfl⟩) hS (fun q _ h => hFc q h) hFc (fun u t H1 locs ht hvm hw hB hz1 hk1 hS => ?_)
                                obtain ⟨hP1, hK1, hD1⟩ := hB
                                rw [ht] at hP1
                                obtain ⟨hP, hD⟩ := va_join (wr := [(ta, .inl (cT, nb, .inl ft))]) (w1 := [(rd, .inr (6, rF r 1 ax a2 a3 a4 a5 a6 a7))]) hP hD [0] [1] rfl rfl (by decide) (by decide) hk1 hFc hP1 hD1
                                generalize H1 = H at hP hS ⊢
                                have hP : va_P (dC, dI) vwCl [(ta, .inl (cT, nb, .inl ft)), (rd, .inr (6, rF r 1 ax a2 a3 a4 a5 a6 a7))] H := hP
                                have hD : va_D A [(ta, .inl (cT, nb, .inl ft)), (rd, .inr (6, rF r 1 ax a2 a3 a4 a5 a6 a7))] := hD
                                refine lv_aload_n hx hb dX6_endOfPattern_220 rfl (lv_at hl 5 rfl) ?_
                                refine va_get (D := (dC, dI)) (ci := 6) (v := .int 1) (C := RX6) (T := TX6) (N := 11) hx hb hts fin_X6_endOfPatternq_X6 hown hK hP 1 rfl rfl 0 (by decide) (hts (.fieldLink RX6 22 "PatternGate$Reader" "faultKind" "I") (List.mem_of_getElem? (i := 7) (by decide +kernel))) (fun _ h9 => h9) rfl dX6_endOfPattern_221 ?_
                                refine lv_if_eq (tgt := 230) hx hb dX6_endOfPattern_224 (by decide) (fun k_288 => absurd k_288 (by decide)) (fun k_288 => ?_)
                                have tk_288 := c_ne (a := 1) (b := 0) (by decide) (by decide) k_288
                                refine lv_iload hx hb dX6_endOfPattern_227 (lv_at hl 1 rfl) ?_
                                have hP9 := hP.sub (ws' := [(rd, .inr (6, rF r 1 ax a2 a3 a4 a5 a6 a7)), (ta, .inl (cT, nb, .inl ft))]) [1, 0] rfl
                                have hD9 := hD.sub (ws' := [(rd, .inr (6, rF r 1 ax a2 a3 a4 a5 a6 a7)), (ta, .inl (cT, nb, .inl ft))]) [1, 0] (by decide) rfl
                                have hK9 := hK.sub (tys' := [(cT, .int)]) [0] rfl
                                exact W.iret hx hb hr (fun t ht hW => ⟨⟨_, ax, rfl, ⟨rfl, by omega⟩, 1, ax, (dP_f v12_1 (fun d p => mv_px (by unfold isAt; omega) (by omega)) (by decide)), by rw [ht]; exact hP9, va_K.moved hW.alike hK9, hD9⟩, hS.F ht⟩) hS.2.2 dX6_endOfPattern_229
                              · have tk_285 := c_eq (a := sd.toInt) (b := 1) rfl (by decide) k_285
                                refine lv_iconst (v := 2) hx hb dX6_endOfPattern_207 (by decide) ?_
                                refine lv_istore (lv' := [(6, .int 2), (8, .int y_4), (7, .int ax), (5, .int op), (4, .int sp), (0, .ref rd), (1, .ref ta), (2, .int i8), (3, .int i9)]) hx hb dX6_endOfPattern_208 hl (by decide) rfl (fun ls hl => ?_)
                                refine lv_goto (tgt := 220) hx hb dX6_endOfPattern_210 (by decide) ?_
                                refine lv_aload_n hx hb dX6_endOfPattern_220 rfl (lv_at hl 5 rfl) ?_
                                refine va_get (D := (dC, dI)) (ci := 6) (v := .int fa) (C := RX6) (T := TX6) (N := 11) hx hb hts fin_X6_endOfPatternq_X6 hown hK hP 0 rfl rfl 0 (by decide) (hts (.fieldLink RX6 22 "PatternGate$Reader" "faultKind" "I") (List.mem_of_getElem? (i := 7) (by decide +kernel))) (fun _ h9 => h9) rfl dX6_endOfPattern_221 ?_
                                refine lv_if_eq (tgt := 230) hx hb dX6_endOfPattern_224 (by decide) (fun k_289 => ?_) (fun k_289 => absurd (Int32.toInt_inj.mp (v12_2.trans (by decide))) k_289)
                                have tk_289 := c_eq (a := fa.toInt) (b := 0) rfl (by decide) k_289
                                obtain ⟨y_290, ey_290⟩ : ∃ y : Int32, y = ax + 1 := ⟨_, rfl⟩
                                first | have ty_290 := i_add (a := ax.toInt) (b := 1) rfl (by decide) ey_290 (by omega) (by omega) | skip
                                refine lv_iinc (v := y_290) (lv' := [(7, .int y_290), (6, .int 2), (8, .int y_4), (5, .int op), (4, .int sp), (0, .ref rd), (1, .ref ta), (2, .int i8), (3, .int i9)]) hx hb dX6_endOfPattern_230 hl (k := 2) rfl (by rw [ey_290]; rfl) (by decide) rfl (fun ls hl => ?_)
                                refine lv_goto (tgt := 12) hx hb dX6_endOfPattern_233 (by decide) ?_
                                have lit_290 : (2 : Int32).toInt = 2 := by decide
                                exact ih12 sp op 2 y_290 fa fb (by first | omega | assumption | decide) (dP_next v12_1 (fun d p => by rw [show sd.toInt = 1 by omega]; rw [show y_290.toInt = ax.toInt + 1 by omega, show (2 : Int32).toInt = 2 by decide]; exact mv_pg (by unfold isQu; omega))) (by first | omega | assumption | decide) (by first | omega | assumption | decide) (by first | omega | assumption | decide) (by omega) _ _ ls hP hD hS (lv_sub hl [0, 1, 3, 4, 5, 6, 7, 8] rfl)
                          · have tk_278 := c_eq (a := y_4.toInt) (b := 41) rfl (by decide) k_278
                            refine lv_iload hx hb dX6_endOfPattern_174 (lv_at hl 3 rfl) ?_
                            refine lv_if_le (tgt := 193) hx hb dX6_endOfPattern_176 (by decide) (fun k_292 => ?_) (fun k_292 => ?_)
                            · have tk_292 := c_le (a := op.toInt) (b := 0) rfl (by decide) k_292
                              refine lv_iload hx hb dX6_endOfPattern_193 (lv_at hl 0 rfl) ?_
                              refine vp_callSi (W.runS (As := [.int y_4]) (rest := []) ⟨hx, hb, hml, hown, hts⟩ (s_isSign_q l dC dI y_4) (va_cwS 1 hts mg_X6_endOfPatternq_X6_isSign_102 rfl rfl rfl (by decide +kernel) ⟨Nat.le_of_ble_eq_true rfl, Nat.le_of_ble_eq_true rfl⟩) ⟨fun a U g mk q => ⟨q.1, trivial⟩, fun U hU hW => ⟨rfl, trivial⟩⟩ rfl rfl hl.1 rfl (lv_room (Nat.le_of_ble_eq_true rfl)) dX6_endOfPattern_195 ⟨Nat.le_of_ble_eq_true rfl, Nat.le_of_ble_eq_true rfl⟩) (fun r_294 hw => ?_)
                              have hr_294 := hw
                              refine lv_if_eq (tgt := 213) hx hb dX6_endOfPattern_198 (by decide) (fun k_295 => ?_) (fun k_295 => ?_)
                              · have tk_295 := c_eq (a := r_294.toInt) (b := 0) rfl (by decide) k_295
                                refine lv_aload_n hx hb dX6_endOfPattern_213 rfl (lv_at hl 5 rfl) ?_
                                refine lv_iconst (v := 1) hx hb dX6_endOfPattern_214 (by decide) ?_
                                refine lv_iload hx hb dX6_endOfPattern_215 (lv_at hl 1 rfl) ?_
                                have hPc := hP.sub (ws' := [(rd, .inr (6, rF r fa fb a2 a3 a4 a5 a6 a7))]) [0] rfl
                                have hKc := hK.sub (tys' := []) [] rfl
                                have hDc := hD.sub (ws' := [(rd, .inr (6, rF r fa fb a2 a3 a4 a5 a6 a7))]) [0] (by decide) rfl
                                have hFc := va_free (wc := [(rd, .inr (6, rF r fa fb a2 a3 a4 a5 a6 a7))]) hD hS hA [0] rfl
                                refine va_callv (va_runV (As := [.int 1, .int ax]) (rest := []) ⟨hx, hb, hml, hown, hts⟩ (s_fail l dC dI rd r fa fb a2 a3 a4 a5 a6 a7 H.size 1 ax) (cwV 2 hts mg_X6_endOfPatternq_X6_fail_71 rfl rfl rfl (by decide +kernel) ⟨Nat.le_of_ble_eq_true rfl, Nat.le_of_ble_eq_true rfl⟩) ⟨fun a U g mk q => by obtain ⟨q0, q1, qP, qK, qD⟩ := q; exact ⟨q0, q1, qP, va_K.moved (u := U) (U := U.calling g mk a) (Vm.Alike.refl U.vm) qK, qD⟩, va_recv hKc hPc (ci := 6) (q0 := 0) rfl rfl, fun U hU hW => ⟨rfl, by rw [hU], by rw [hU]; exact hPc, va_K.moved hW.alike hKc, hDc.weaken (fun _ _ _ _ => trivial)⟩⟩ rfl rfl hl.1 rfl (lv_room (Nat.le_of_ble_eq_true rfl)) dX6_endOfPattern_217 ⟨Nat.le_of_ble_eq_true rfl, Nat.le_of_ble_eq_true rfl⟩) hS (fun q _ h => hFc q h) hFc (fun u t H1 locs ht hvm hw hB hz1 hk1 hS => ?_)
                                obtain ⟨hP1, hK1, hD1⟩ := hB
                                rw [ht] at hP1
                                obtain ⟨hP, hD⟩ := va_join (wr := [(ta, .inl (cT, nb, .inl ft))]) (w1 := [(rd, .inr (6, rF r 1 ax a2 a3 a4 a5 a6 a7))]) hP hD [0] [1] rfl rfl (by decide) (by decide) hk1 hFc hP1 hD1
                                generalize H1 = H at hP hS ⊢
                                have hP : va_P (dC, dI) vwCl [(ta, .inl (cT, nb, .inl ft)), (rd, .inr (6, rF r 1 ax a2 a3 a4 a5 a6 a7))] H := hP
                                have hD : va_D A [(ta, .inl (cT, nb, .inl ft)), (rd, .inr (6, rF r 1 ax a2 a3 a4 a5 a6 a7))] := hD
                                refine lv_aload_n hx hb dX6_endOfPattern_220 rfl (lv_at hl 5 rfl) ?_
                                refine va_get (D := (dC, dI)) (ci := 6) (v := .int 1) (C := RX6) (T := TX6) (N := 11) hx hb hts fin_X6_endOfPatternq_X6 hown hK hP 1 rfl rfl 0 (by decide) (hts (.fieldLink RX6 22 "PatternGate$Reader" "faultKind" "I") (List.mem_of_getElem? (i := 7) (by decide +kernel))) (fun _ h9 => h9) rfl dX6_endOfPattern_221 ?_
                                refine lv_if_eq (tgt := 230) hx hb dX6_endOfPattern_224 (by decide) (fun k_298 => absurd k_298 (by decide)) (fun k_298 => ?_)
                                have tk_298 := c_ne (a := 1) (b := 0) (by decide) (by decide) k_298
                                refine lv_iload hx hb dX6_endOfPattern_227 (lv_at hl 1 rfl) ?_
                                have hP9 := hP.sub (ws' := [(rd, .inr (6, rF r 1 ax a2 a3 a4 a5 a6 a7)), (ta, .inl (cT, nb, .inl ft))]) [1, 0] rfl
                                have hD9 := hD.sub (ws' := [(rd, .inr (6, rF r 1 ax a2 a3 a4 a5 a6 a7)), (ta, .inl (cT, nb, .inl ft))]) [1, 0] (by decide) rfl
                                have hK9 := hK.sub (tys' := [(cT, .int)]) [0] rfl
                                exact W.iret hx hb hr (fun t ht hW => ⟨⟨_, ax, rfl, ⟨rfl, by omega⟩, 1, ax, (dP_f v12_1 (fun d p => mv_px (by unfold isAt; omega) (by omega)) (by decide)), by rw [ht]; exact hP9, va_K.moved hW.alike hK9, hD9⟩, hS.F ht⟩) hS.2.2 dX6_endOfPattern_229
                              · have tk_295 := c_ne (a := r_294.toInt) (b := 0) rfl (by decide) k_295
                                refine lv_iload hx hb dX6_endOfPattern_201 (lv_at hl 2 rfl) ?_
                                refine lv_iconst (v := 1) hx hb dX6_endOfPattern_203 (by decide) ?_
                                refine lv_icmp_ne (tgt := 213) hx hb dX6_endOfPattern_204 (by decide) (fun k_299 => ?_) (fun k_299 => ?_)
                                · have tk_299 := c_ne (a := sd.toInt) (b := 1) rfl (by decide) k_299
                                  refine lv_aload_n hx hb dX6_endOfPattern_213 rfl (lv_at hl 5 rfl) ?_
                                  refine lv_iconst (v := 1) hx hb dX6_endOfPattern_214 (by decide) ?_
                                  refine lv_iload hx hb dX6_endOfPattern_215 (lv_at hl 1 rfl) ?_
                                  have hPc := hP.sub (ws' := [(rd, .inr (6, rF r fa fb a2 a3 a4 a5 a6 a7))]) [0] rfl
                                  have hKc := hK.sub (tys' := []) [] rfl
                                  have hDc := hD.sub (ws' := [(rd, .inr (6, rF r fa fb a2 a3 a4 a5 a6 a7))]) [0] (by decide) rfl
                                  have hFc := va_free (wc := [(rd, .inr (6, rF r fa fb a2 a3 a4 a5 a6 a7))]) hD hS hA [0] rfl
                                  refine va_callv (va_runV (As := [.int 1, .int ax]) (rest := []) ⟨hx, hb, hml, hown, hts⟩ (s_fail l dC dI rd r fa fb a2 a3 a4 a5 a6 a7 H.size 1 ax) (cwV 2 hts mg_X6_endOfPatternq_X6_fail_71 rfl rfl rfl (by decide +kernel) ⟨Nat.le_of_ble_eq_true rfl, Nat.le_of_ble_eq_true rfl⟩) ⟨fun a U g mk q => by obtain ⟨q0, q1, qP, qK, qD⟩ := q; exact ⟨q0, q1, qP, va_K.moved (u := U) (U := U.calling g mk a) (Vm.Alike.refl U.vm) qK, qD⟩, va_recv hKc hPc (ci := 6) (q0 := 0) rfl rfl, fun U hU hW => ⟨rfl, by rw [hU], by rw [hU]; exact hPc, va_K.moved hW.alike hKc, hDc.weaken (fun _ _ _ _ => trivial)⟩⟩ rfl rfl hl.1 rfl (lv_room (Nat.le_of_ble_eq_true rfl)) dX6_endOfPattern_217 ⟨Nat.le_of_ble_eq_true rfl, Nat.le_of_ble_eq_true rfl⟩) hS (fun q _ h => hFc q h) hFc (fun u t H1 locs ht hvm hw hB hz1 hk1 hS => ?_)
                                  obtain ⟨hP1, hK1, hD1⟩ := hB
                                  rw [ht] at hP1
                                  obtain ⟨hP, hD⟩ := va_join (wr := [(ta, .inl (cT, nb, .inl ft))]) (w1 := [(rd, .inr (6, rF r 1 ax a2 a3 a4 a5 a6 a7))]) hP hD [0] [1] rfl rfl (by decide) (by decide) hk1 hFc hP1 hD1
                                  generalize H1 = H at hP hS ⊢
                                  have hP : va_P (dC, dI) vwCl [(ta, .inl (cT, nb, .inl ft)), (rd, .inr (6, rF r 1 ax a2 a3 a4 a5 a6 a7))] H := hP
                                  have hD : va_D A [(ta, .inl (cT, nb, .inl ft)), (rd, .inr (6, rF r 1 ax a2 a3 a4 a5 a6 a7))] := hD
                                  refine lv_aload_n hx hb dX6_endOfPattern_220 rfl (lv_at hl 5 rfl) ?_
                                  refine va_get (D := (dC, dI)) (ci := 6) (v := .int 1) (C := RX6) (T := TX6) (N := 11) hx hb hts fin_X6_endOfPatternq_X6 hown hK hP 1 rfl rfl 0 (by decide) (hts (.fieldLink RX6 22 "PatternGate$Reader" "faultKind" "I") (List.mem_of_getElem? (i := 7) (by decide +kernel))) (fun _ h9 => h9) rfl dX6_endOfPattern_221 ?_
                                  refine lv_if_eq (tgt := 230) hx hb dX6_endOfPattern_224 (by decide) (fun k_302 => absurd k_302 (by decide)) (fun k_302 => ?_)
                                  have tk_302 := c_ne (a := 1) (b := 0) (by decide) (by decide) k_302
                                  refine lv_iload hx hb dX6_endOfPattern_227 (lv_at hl 1 rfl) ?_
                                  have hP9 := hP.sub (ws' := [(rd, .inr (6, rF r 1 ax a2 a3 a4 a5 a6 a7)), (ta, .inl (cT, nb, .inl ft))]) [1, 0] rfl
                                  have hD9 := hD.sub (ws' := [(rd, .inr (6, rF r 1 ax a2 a3 a4 a5 a6 a7)), (ta, .inl (cT, nb, .inl ft))]) [1, 0] (by decide) rfl
                                  have hK9 := hK.sub (tys' := [(cT, .int)]) [0] rfl
                                  exact W.iret hx hb hr (fun t ht hW => ⟨⟨_, ax, rfl, ⟨rfl, by omega⟩, 1, ax, (dP_f v12_1 (fun d p => mv_px (by unfold isAt; omega) (by omega)) (by decide)), by rw [ht]; exact hP9, va_K.moved hW.alike hK9, hD9⟩, hS.F ht⟩) hS.2.2 dX6_endOfPattern_229
                                · have tk_299 := c_eq (a := sd.toInt) (b := 1) rfl (by decide) k_299
                                  refine lv_iconst (v := 2) hx hb dX6_endOfPattern_207 (by decide) ?_
                                  refine lv_istore (lv' := [(6, .int 2), (8, .int y_4), (7, .int ax), (5, .int op), (4, .int sp), (0, .ref rd), (1, .ref ta), (2, .int i8), (3, .int i9)]) hx hb dX6_endOfPattern_208 hl (by decide) rfl (fun ls hl => ?_)
                                  refine lv_goto (tgt := 220) hx hb dX6_endOfPattern_210 (by decide) ?_
                                  refine lv_aload_n hx hb dX6_endOfPattern_220 rfl (lv_at hl 5 rfl) ?_
                                  refine va_get (D := (dC, dI)) (ci := 6) (v := .int fa) (C := RX6) (T := TX6) (N := 11) hx hb hts fin_X6_endOfPatternq_X6 hown hK hP 0 rfl rfl 0 (by decide) (hts (.fieldLink RX6 22 "PatternGate$Reader" "faultKind" "I") (List.mem_of_getElem? (i := 7) (by decide +kernel))) (fun _ h9 => h9) rfl dX6_endOfPattern_221 ?_
                                  refine lv_if_eq (tgt := 230) hx hb dX6_endOfPattern_224 (by decide) (fun k_303 => ?_) (fun k_303 => absurd (Int32.toInt_inj.mp (v12_2.trans (by decide))) k_303)
                                  have tk_303 := c_eq (a := fa.toInt) (b := 0) rfl (by decide) k_303
                                  obtain ⟨y_304, ey_304⟩ : ∃ y : Int32, y = ax + 1 := ⟨_, rfl⟩
                                  first | have ty_304 := i_add (a := ax.toInt) (b := 1) rfl (by decide) ey_304 (by omega) (by omega) | skip
                                  refine lv_iinc (v := y_304) (lv' := [(7, .int y_304), (6, .int 2), (8, .int y_4), (5, .int op), (4, .int sp), (0, .ref rd), (1, .ref ta), (2, .int i8), (3, .int i9)]) hx hb dX6_endOfPattern_230 hl (k := 2) rfl (by rw [ey_304]; rfl) (by decide) rfl (fun ls hl => ?_)
                                  refine lv_goto (tgt := 12) hx hb dX6_endOfPattern_233 (by decide) ?_
                                  have lit_304 : (2 : Int32).toInt = 2 := by decide
                                  exact ih12 sp op 2 y_304 fa fb (by first | omega | assumption | decide) (dP_next v12_1 (fun d p => by rw [show sd.toInt = 1 by omega]; rw [show y_304.toInt = ax.toInt + 1 by omega, show (2 : Int32).toInt = 2 by decide]; exact mv_pg (by unfold isQu; omega))) (by first | omega | assumption | decide) (by first | omega | assumption | decide) (by first | omega | assumption | decide) (by omega) _ _ ls hP hD hS (lv_sub hl [0, 1, 3, 4, 5, 6, 7, 8] rfl)
                            · have tk_292 := c_nle (a := op.toInt) (b := 0) rfl (by decide) k_292
                              refine lv_iload hx hb dX6_endOfPattern_179 (lv_at hl 2 rfl) ?_
                              refine lv_if_eq (tgt := 193) hx hb dX6_endOfPattern_181 (by decide) (fun k_306 => ?_) (fun k_306 => ?_)
                              · have tk_306 := c_eq (a := sd.toInt) (b := 0) rfl (by decide) k_306
                                refine lv_iload hx hb dX6_endOfPattern_193 (lv_at hl 0 rfl) ?_
                                refine vp_callSi (W.runS (As := [.int y_4]) (rest := []) ⟨hx, hb, hml, hown, hts⟩ (s_isSign_q l dC dI y_4) (va_cwS 1 hts mg_X6_endOfPatternq_X6_isSign_102 rfl rfl rfl (by decide +kernel) ⟨Nat.le_of_ble_eq_true rfl, Nat.le_of_ble_eq_true rfl⟩) ⟨fun a U g mk q => ⟨q.1, trivial⟩, fun U hU hW => ⟨rfl, trivial⟩⟩ rfl rfl hl.1 rfl (lv_room (Nat.le_of_ble_eq_true rfl)) dX6_endOfPattern_195 ⟨Nat.le_of_ble_eq_true rfl, Nat.le_of_ble_eq_true rfl⟩) (fun r_308 hw => ?_)
                                have hr_308 := hw
                                refine lv_if_eq (tgt := 213) hx hb dX6_endOfPattern_198 (by decide) (fun k_309 => ?_) (fun k_309 => ?_)
                                · have tk_309 := c_eq (a := r_308.toInt) (b := 0) rfl (by decide) k_309
                                  refine lv_aload_n hx hb dX6_endOfPattern_213 rfl (lv_at hl 5 rfl) ?_
                                  refine lv_iconst (v := 1) hx hb dX6_endOfPattern_214 (by decide) ?_
                                  refine lv_iload hx hb dX6_endOfPattern_215 (lv_at hl 1 rfl) ?_
                                  have hPc := hP.sub (ws' := [(rd, .inr (6, rF r fa fb a2 a3 a4 a5 a6 a7))]) [0] rfl
                                  have hKc := hK.sub (tys' := []) [] rfl
                                  have hDc := hD.sub (ws' := [(rd, .inr (6, rF r fa fb a2 a3 a4 a5 a6 a7))]) [0] (by decide) rfl
                                  have hFc := va_free (wc := [(rd, .inr (6, rF r fa fb a2 a3 a4 a5 a6 a7))]) hD hS hA [0] rfl
                                  refine va_callv (va_runV (As := [.int 1, .int ax]) (rest := []) ⟨hx, hb, hml, hown, hts⟩ (s_fail l dC dI rd r fa fb a2 a3 a4 a5 a6 a7 H.size 1 ax) (cwV 2 hts mg_X6_endOfPatternq_X6_fail_71 rfl rfl rfl (by decide +kernel) ⟨Nat.le_of_ble_eq_true rfl, Nat.le_of_ble_eq_true rfl⟩) ⟨fun a U g mk q => by obtain ⟨q0, q1, qP, qK, qD⟩ := q; exact ⟨q0, q1, qP, va_K.moved (u := U) (U := U.calling g mk a) (Vm.Alike.refl U.vm) qK, qD⟩, va_recv hKc hPc (ci := 6) (q0 := 0) rfl rfl, fun U hU hW => ⟨rfl, by rw [hU], by rw [hU]; exact hPc, va_K.moved hW.alike hKc, hDc.weaken (fun _ _ _ _ => trivial)⟩⟩ rfl rfl hl.1 rfl (lv_room (Nat.le_of_ble_eq_true rfl)) dX6_endOfPattern_217 ⟨Nat.le_of_ble_eq_true rfl, Nat.le_of_ble_eq_true rfl⟩) hS (fun q _ h => hFc q h) hFc (fun u t H1 locs ht hvm hw hB hz1 hk1 hS => ?_)
                                  obtain ⟨hP1, hK1, hD1⟩ := hB
                                  rw [ht] at hP1
                                  obtain ⟨hP, hD⟩ := va_join (wr := [(ta, .inl (cT, nb, .inl ft))]) (w1 := [(rd, .inr (6, rF r 1 ax a2 a3 a4 a5 a6 a7))]) hP hD [0] [1] rfl rfl (by decide) (by decide) hk1 hFc hP1 hD1
                                  generalize H1 = H at hP hS ⊢
                                  have hP : va_P (dC, dI) vwCl [(ta, .inl (cT, nb, .inl ft)), (rd, .inr (6, rF r 1 ax a2 a3 a4 a5 a6 a7))] H := hP
                                  have hD : va_D A [(ta, .inl (cT, nb, .inl ft)), (rd, .inr (6, rF r 1 ax a2 a3 a4 a5 a6 a7))] := hD
                                  refine lv_aload_n hx hb dX6_endOfPattern_220 rfl (lv_at hl 5 rfl) ?_
                                  refine va_get (D := (dC, dI)) (ci := 6) (v := .int 1) (C := RX6) (T := TX6) (N := 11) hx hb hts fin_X6_endOfPatternq_X6 hown hK hP 1 rfl rfl 0 (by decide) (hts (.fieldLink RX6 22 "PatternGate$Reader" "faultKind" "I") (List.mem_of_getElem? (i := 7) (by decide +kernel))) (fun _ h9 => h9) rfl dX6_endOfPattern_221 ?_
                                  refine lv_if_eq (tgt := 230) hx hb dX6_endOfPattern_224 (by decide) (fun k_312 => absurd k_312 (by decide)) (fun k_312 => ?_)
                                  have tk_312 := c_ne (a := 1) (b := 0) (by decide) (by decide) k_312
                                  refine lv_iload hx hb dX6_endOfPattern_227 (lv_at hl 1 rfl) ?_
                                  have hP9 := hP.sub (ws' := [(rd, .inr (6, rF r 1 ax a2 a3 a4 a5 a6 a7)), (ta, .inl (cT, nb, .inl ft))]) [1, 0] rfl
                                  have hD9 := hD.sub (ws' := [(rd, .inr (6, rF r 1 ax a2 a3 a4 a5 a6 a7)), (ta, .inl (cT, nb, .inl ft))]) [1, 0] (by decide) rfl
                                  have hK9 := hK.sub (tys' := [(cT, .int)]) [0] rfl
                                  exact W.iret hx hb hr (fun t ht hW => ⟨⟨_, ax, rfl, ⟨rfl, by omega⟩, 1, ax, (dP_f v12_1 (fun d p => mv_px (by unfold isAt; omega) (by omega)) (by decide)), by rw [ht]; exact hP9, va_K.moved hW.alike hK9, hD9⟩, hS.F ht⟩) hS.2.2 dX6_endOfPattern_229
                                · have tk_309 := c_ne (a := r_308.toInt) (b := 0) rfl (by decide) k_309
                                  refine lv_iload hx hb dX6_endOfPattern_201 (lv_at hl 2 rfl) ?_
                                  refine lv_iconst (v := 1) hx hb dX6_endOfPattern_203 (by decide) ?_
                                  refine lv_icmp_ne (tgt := 213) hx hb dX6_endOfPattern_204 (by decide) (fun k_313 => ?_) (fun k_313 => ?_)
                                  · have tk_313 := c_ne (a := sd.toInt) (b := 1) rfl (by decide) k_313
                                    refine lv_aload_n hx hb dX6_endOfPattern_213 rfl (lv_at hl 5 rfl) ?_
                                    refine lv_iconst (v := 1) hx hb dX6_endOfPattern_214 (by decide) ?_
                                    refine lv_iload hx hb dX6_endOfPattern_215 (lv_at hl 1 rfl) ?_
                                    have hPc := hP.sub (ws' := [(rd, .inr (6, rF r fa fb a2 a3 a4 a5 a6 a7))]) [0] rfl
                                    have hKc := hK.sub (tys' := []) [] rfl
                                    have hDc := hD.sub (ws' := [(rd, .inr (6, rF r fa fb a2 a3 a4 a5 a6 a7))]) [0] (by decide) rfl
                                    have hFc := va_free (wc := [(rd, .inr (6, rF r fa fb a2 a3 a4 a5 a6 a7))]) hD hS hA [0] rfl
                                    refine va_callv (va_runV (As := [.int 1, .int ax]) (rest := []) ⟨hx, hb, hml, hown, hts⟩ (s_fail l dC dI rd r fa fb a2 a3 a4 a5 a6 a7 H.size 1 ax) (cwV 2 hts mg_X6_endOfPatternq_X6_fail_71 rfl rfl rfl (by decide +kernel) ⟨Nat.le_of_ble_eq_true rfl, Nat.le_of_ble_eq_true rfl⟩) ⟨fun a U g mk q => by obtain ⟨q0, q1, qP, qK, qD⟩ := q; exact ⟨q0, q1, qP, va_K.moved (u := U) (U := U.calling g mk a) (Vm.Alike.refl U.vm) qK, qD⟩, va_recv hKc hPc (ci := 6) (q0 := 0) rfl rfl, fun U hU hW => ⟨rfl, by rw [hU], by rw [hU]; exact hPc, va_K.moved hW.alike hKc, hDc.weaken (fun _ _ _ _ => trivial)⟩⟩ rfl rfl hl.1 rfl (lv_room (Nat.le_of_ble_eq_true rfl)) dX6_endOfPattern_217 ⟨Nat.le_of_ble_eq_true rfl, Nat.le_of_ble_eq_true rfl⟩) hS (fun q _ h => hFc q h) hFc (fun u t H1 locs ht hvm hw hB hz1 hk1 hS => ?_)
                                    obtain ⟨hP1, hK1, hD1⟩ := hB
                                    rw [ht] at hP1
                                    obtain ⟨hP, hD⟩ := va_join (wr := [(ta, .inl (cT, nb, .inl ft))]) (w1 := [(rd, .inr (6, rF r 1 ax a2 a3 a4 a5 a6 a7))]) hP hD [0] [1] rfl rfl (by decide) (by decide) hk1 hFc hP1 hD1
                                    generalize H1 = H at hP hS ⊢
                                    have hP : va_P (dC, dI) vwCl [(ta, .inl (cT, nb, .inl ft)), (rd, .inr (6, rF r 1 ax a2 a3 a4 a5 a6 a7))] H := hP
                                    have hD : va_D A [(ta, .inl (cT, nb, .inl ft)), (rd, .inr (6, rF r 1 ax a2 a3 a4 a5 a6 a7))] := hD
                                    refine lv_aload_n hx hb dX6_endOfPattern_220 rfl (lv_at hl 5 rfl) ?_
                                    refine va_get (D := (dC, dI)) (ci := 6) (v := .int 1) (C := RX6) (T := TX6) (N := 11) hx hb hts fin_X6_endOfPatternq_X6 hown hK hP 1 rfl rfl 0 (by decide) (hts (.fieldLink RX6 22 "PatternGate$Reader" "faultKind" "I") (List.mem_of_getElem? (i := 7) (by decide +kernel))) (fun _ h9 => h9) rfl dX6_endOfPattern_221 ?_
                                    refine lv_if_eq (tgt := 230) hx hb dX6_endOfPattern_224 (by decide) (fun k_316 => absurd k_316 (by decide)) (fun k_316 => ?_)
                                    have tk_316 := c_ne (a := 1) (b := 0) (by decide) (by decide) k_316
                                    refine lv_iload hx hb dX6_endOfPattern_227 (lv_at hl 1 rfl) ?_
                                    have hP9 := hP.sub (ws' := [(rd, .inr (6, rF r 1 ax a2 a3 a4 a5 a6 a7)), (ta, .inl (cT, nb, .inl ft))]) [1, 0] rfl
                                    have hD9 := hD.sub (ws' := [(rd, .inr (6, rF r 1 ax a2 a3 a4 a5 a6 a7)), (ta, .inl (cT, nb, .inl ft))]) [1, 0] (by decide) rfl
                                    have hK9 := hK.sub (tys' := [(cT, .int)]) [0] rfl
                                    exact W.iret hx hb hr (fun t ht hW => ⟨⟨_, ax, rfl, ⟨rfl, by omega⟩, 1, ax, (dP_f v12_1 (fun d p => mv_px (by unfold isAt; omega) (by omega)) (by decide)), by rw [ht]; exact hP9, va_K.moved hW.alike hK9, hD9⟩, hS.F ht⟩) hS.2.2 dX6_endOfPattern_229
                                  · have tk_313 := c_eq (a := sd.toInt) (b := 1) rfl (by decide) k_313
                                    refine lv_iconst (v := 2) hx hb dX6_endOfPattern_207 (by decide) ?_
                                    refine lv_istore (lv' := [(6, .int 2), (8, .int y_4), (7, .int ax), (5, .int op), (4, .int sp), (0, .ref rd), (1, .ref ta), (2, .int i8), (3, .int i9)]) hx hb dX6_endOfPattern_208 hl (by decide) rfl (fun ls hl => ?_)
                                    refine lv_goto (tgt := 220) hx hb dX6_endOfPattern_210 (by decide) ?_
                                    refine lv_aload_n hx hb dX6_endOfPattern_220 rfl (lv_at hl 5 rfl) ?_
                                    refine va_get (D := (dC, dI)) (ci := 6) (v := .int fa) (C := RX6) (T := TX6) (N := 11) hx hb hts fin_X6_endOfPatternq_X6 hown hK hP 0 rfl rfl 0 (by decide) (hts (.fieldLink RX6 22 "PatternGate$Reader" "faultKind" "I") (List.mem_of_getElem? (i := 7) (by decide +kernel))) (fun _ h9 => h9) rfl dX6_endOfPattern_221 ?_
                                    refine lv_if_eq (tgt := 230) hx hb dX6_endOfPattern_224 (by decide) (fun k_317 => ?_) (fun k_317 => absurd (Int32.toInt_inj.mp (v12_2.trans (by decide))) k_317)
                                    have tk_317 := c_eq (a := fa.toInt) (b := 0) rfl (by decide) k_317
                                    obtain ⟨y_318, ey_318⟩ : ∃ y : Int32, y = ax + 1 := ⟨_, rfl⟩
                                    first | have ty_318 := i_add (a := ax.toInt) (b := 1) rfl (by decide) ey_318 (by omega) (by omega) | skip
                                    refine lv_iinc (v := y_318) (lv' := [(7, .int y_318), (6, .int 2), (8, .int y_4), (5, .int op), (4, .int sp), (0, .ref rd), (1, .ref ta), (2, .int i8), (3, .int i9)]) hx hb dX6_endOfPattern_230 hl (k := 2) rfl (by rw [ey_318]; rfl) (by decide) rfl (fun ls hl => ?_)
                                    refine lv_goto (tgt := 12) hx hb dX6_endOfPattern_233 (by decide) ?_
                                    have lit_318 : (2 : Int32).toInt = 2 := by decide
                                    exact ih12 sp op 2 y_318 fa fb (by first | omega | assumption | decide) (dP_next v12_1 (fun d p => by rw [show sd.toInt = 1 by omega]; rw [show y_318.toInt = ax.toInt + 1 by omega, show (2 : Int32).toInt = 2 by decide]; exact mv_pg (by unfold isQu; omega))) (by first | omega | assumption | decide) (by first | omega | assumption | decide) (by first | omega | assumption | decide) (by omega) _ _ ls hP hD hS (lv_sub hl [0, 1, 3, 4, 5, 6, 7, 8] rfl)
                              · have tk_306 := c_ne (a := sd.toInt) (b := 0) rfl (by decide) k_306
                                obtain ⟨y_320, ey_320⟩ : ∃ y : Int32, y = op + (-1) := ⟨_, rfl⟩
                                first | have ty_320 := i_add (a := op.toInt) (b := (-1)) rfl (by decide) ey_320 (by omega) (by omega) | skip
                                refine lv_iinc (v := y_320) (lv' := [(5, .int y_320), (8, .int y_4), (7, .int ax), (6, .int sd), (4, .int sp), (0, .ref rd), (1, .ref ta), (2, .int i8), (3, .int i9)]) hx hb dX6_endOfPattern_184 hl (k := 3) rfl (by rw [ey_320]; rfl) (by decide) rfl (fun ls hl => ?_)
                                refine lv_iconst (v := 1) hx hb dX6_endOfPattern_187 (by decide) ?_
                                refine lv_istore (lv' := [(6, .int 1), (5, .int y_320), (8, .int y_4), (7, .int ax), (4, .int sp), (0, .ref rd), (1, .ref ta), (2, .int i8), (3, .int i9)]) hx hb dX6_endOfPattern_188 hl (by decide) rfl (fun ls hl => ?_)
                                refine lv_goto (tgt := 220) hx hb dX6_endOfPattern_190 (by decide) ?_
                                refine lv_aload_n hx hb dX6_endOfPattern_220 rfl (lv_at hl 5 rfl) ?_
                                refine va_get (D := (dC, dI)) (ci := 6) (v := .int fa) (C := RX6) (T := TX6) (N := 11) hx hb hts fin_X6_endOfPatternq_X6 hown hK hP 0 rfl rfl 0 (by decide) (hts (.fieldLink RX6 22 "PatternGate$Reader" "faultKind" "I") (List.mem_of_getElem? (i := 7) (by decide +kernel))) (fun _ h9 => h9) rfl dX6_endOfPattern_221 ?_
                                refine lv_if_eq (tgt := 230) hx hb dX6_endOfPattern_224 (by decide) (fun k_321 => ?_) (fun k_321 => absurd (Int32.toInt_inj.mp (v12_2.trans (by decide))) k_321)
                                have tk_321 := c_eq (a := fa.toInt) (b := 0) rfl (by decide) k_321
                                obtain ⟨y_322, ey_322⟩ : ∃ y : Int32, y = ax + 1 := ⟨_, rfl⟩
                                first | have ty_322 := i_add (a := ax.toInt) (b := 1) rfl (by decide) ey_322 (by omega) (by omega) | skip
                                refine lv_iinc (v := y_322) (lv' := [(7, .int y_322), (6, .int 1), (5, .int y_320), (8, .int y_4), (4, .int sp), (0, .ref rd), (1, .ref ta), (2, .int i8), (3, .int i9)]) hx hb dX6_endOfPattern_230 hl (k := 3) rfl (by rw [ey_322]; rfl) (by decide) rfl (fun ls hl => ?_)
                                refine lv_goto (tgt := 12) hx hb dX6_endOfPattern_233 (by decide) ?_
                                have lit_322 : (1 : Int32).toInt = 1 := by decide
                                exact ih12 sp y_320 1 y_322 fa fb (by first | omega | assumption | decide) (dP_next v12_1 (fun d p => by rw [show y_322.toInt = ax.toInt + 1 by omega, show y_320.toInt = op.toInt - 1 by omega, show (1 : Int32).toInt = 1 by decide]; exact mv_pc (by omega) (by omega) (by omega))) (by first | omega | assumption | decide) (by first | omega | assumption | decide) (by first | omega | assumption | decide) (by omega) _ _ ls hP hD hS (lv_sub hl [0, 1, 2, 4, 5, 6, 7, 8] rfl)
                        · have tk_277 := c_ne (a := sd.toInt) (b := 0) rfl (by decide) k_277
                          refine lv_iconst (v := 0) hx hb dX6_endOfPattern_161 (by decide) ?_
                          refine lv_istore (lv' := [(6, .int 0), (8, .int y_4), (7, .int ax), (5, .int op), (4, .int sp), (0, .ref rd), (1, .ref ta), (2, .int i8), (3, .int i9)]) hx hb dX6_endOfPattern_162 hl (by decide) rfl (fun ls hl => ?_)
                          refine lv_goto (tgt := 220) hx hb dX6_endOfPattern_164 (by decide) ?_
                          refine lv_aload_n hx hb dX6_endOfPattern_220 rfl (lv_at hl 5 rfl) ?_
                          refine va_get (D := (dC, dI)) (ci := 6) (v := .int fa) (C := RX6) (T := TX6) (N := 11) hx hb hts fin_X6_endOfPatternq_X6 hown hK hP 0 rfl rfl 0 (by decide) (hts (.fieldLink RX6 22 "PatternGate$Reader" "faultKind" "I") (List.mem_of_getElem? (i := 7) (by decide +kernel))) (fun _ h9 => h9) rfl dX6_endOfPattern_221 ?_
                          refine lv_if_eq (tgt := 230) hx hb dX6_endOfPattern_224 (by decide) (fun k_324 => ?_) (fun k_324 => absurd (Int32.toInt_inj.mp (v12_2.trans (by decide))) k_324)
                          have tk_324 := c_eq (a := fa.toInt) (b := 0) rfl (by decide) k_324
                          obtain ⟨y_325, ey_325⟩ : ∃ y : Int32, y = ax + 1 := ⟨_, rfl⟩
                          first | have ty_325 := i_add (a := ax.toInt) (b := 1) rfl (by decide) ey_325 (by omega) (by omega) | skip
                          refine lv_iinc (v := y_325) (lv' := [(7, .int y_325), (6, .int 0), (8, .int y_4), (5, .int op), (4, .int sp), (0, .ref rd), (1, .ref ta), (2, .int i8), (3, .int i9)]) hx hb dX6_endOfPattern_230 hl (k := 2) rfl (by rw [ey_325]; rfl) (by decide) rfl (fun ls hl => ?_)
                          refine lv_goto (tgt := 12) hx hb dX6_endOfPattern_233 (by decide) ?_
                          have lit_325 : (0 : Int32).toInt = 0 := by decide
                          exact ih12 sp op 0 y_325 fa fb (by first | omega | assumption | decide) (dP_next v12_1 (fun d p => by rw [show y_325.toInt = ax.toInt + 1 by omega, show (0 : Int32).toInt = 0 by decide]; exact mv_pb (by omega) (by omega))) (by first | omega | assumption | decide) (by first | omega | assumption | decide) (by first | omega | assumption | decide) (by omega) _ _ ls hP hD hS (lv_sub hl [0, 1, 3, 4, 5, 6, 7, 8] rfl)
                    · have tk_229 := c_ne (a := sd.toInt) (b := 0) rfl (by decide) k_229
                      refine lv_iload hx hb dX6_endOfPattern_146 (lv_at hl 1 rfl) ?_
                      have hP9 := hP.sub (ws' := [(rd, .inr (6, rF r fa fb a2 a3 a4 a5 a6 a7)), (ta, .inl (cT, nb, .inl ft))]) [0, 1] rfl
                      have hD9 := hD.sub (ws' := [(rd, .inr (6, rF r fa fb a2 a3 a4 a5 a6 a7)), (ta, .inl (cT, nb, .inl ft))]) [0, 1] (by decide) rfl
                      have hK9 := hK.sub (tys' := [(cT, .int)]) [0] rfl
                      exact W.iret hx hb hr (fun t ht hW => ⟨⟨_, ax, rfl, ⟨rfl, by omega⟩, fa, fb, (dP_e v12_1 (by omega) (by omega) (by omega) (by omega)), by rw [ht]; exact hP9, va_K.moved hW.alike hK9, hD9⟩, hS.F ht⟩) hS.2.2 dX6_endOfPattern_148
              · have tk_32 := c_eq (a := y_4.toInt) (b := 40) rfl (by decide) k_32
                refine lv_iload hx hb dX6_endOfPattern_107 (lv_at hl 3 rfl) ?_
                refine lv_iconst (v := 5) hx hb dX6_endOfPattern_109 (by decide) ?_
                refine lv_icmp_lt (tgt := 120) hx hb dX6_endOfPattern_110 (by decide) (fun k_327 => ?_) (fun k_327 => ?_)
                · have tk_327 := c_lt (a := op.toInt) (b := 5) rfl (by decide) k_327
                  obtain ⟨y_328, ey_328⟩ : ∃ y : Int32, y = op + 1 := ⟨_, rfl⟩
                  first | have ty_328 := i_add (a := op.toInt) (b := 1) rfl (by decide) ey_328 (by omega) (by omega) | skip
                  refine lv_iinc (v := y_328) (lv' := [(5, .int y_328), (8, .int y_4), (7, .int ax), (6, .int sd), (4, .int sp), (0, .ref rd), (1, .ref ta), (2, .int i8), (3, .int i9)]) hx hb dX6_endOfPattern_120 hl (k := 3) rfl (by rw [ey_328]; rfl) (by decide) rfl (fun ls hl => ?_)
                  refine lv_iconst (v := 0) hx hb dX6_endOfPattern_123 (by decide) ?_
                  refine lv_istore (lv' := [(6, .int 0), (5, .int y_328), (8, .int y_4), (7, .int ax), (4, .int sp), (0, .ref rd), (1, .ref ta), (2, .int i8), (3, .int i9)]) hx hb dX6_endOfPattern_124 hl (by decide) rfl (fun ls hl => ?_)
                  refine lv_goto (tgt := 220) hx hb dX6_endOfPattern_126 (by decide) ?_
                  refine lv_aload_n hx hb dX6_endOfPattern_220 rfl (lv_at hl 5 rfl) ?_
                  refine va_get (D := (dC, dI)) (ci := 6) (v := .int fa) (C := RX6) (T := TX6) (N := 11) hx hb hts fin_X6_endOfPatternq_X6 hown hK hP 0 rfl rfl 0 (by decide) (hts (.fieldLink RX6 22 "PatternGate$Reader" "faultKind" "I") (List.mem_of_getElem? (i := 7) (by decide +kernel))) (fun _ h9 => h9) rfl dX6_endOfPattern_221 ?_
                  refine lv_if_eq (tgt := 230) hx hb dX6_endOfPattern_224 (by decide) (fun k_329 => ?_) (fun k_329 => absurd (Int32.toInt_inj.mp (v12_2.trans (by decide))) k_329)
                  have tk_329 := c_eq (a := fa.toInt) (b := 0) rfl (by decide) k_329
                  obtain ⟨y_330, ey_330⟩ : ∃ y : Int32, y = ax + 1 := ⟨_, rfl⟩
                  first | have ty_330 := i_add (a := ax.toInt) (b := 1) rfl (by decide) ey_330 (by omega) (by omega) | skip
                  refine lv_iinc (v := y_330) (lv' := [(7, .int y_330), (6, .int 0), (5, .int y_328), (8, .int y_4), (4, .int sp), (0, .ref rd), (1, .ref ta), (2, .int i8), (3, .int i9)]) hx hb dX6_endOfPattern_230 hl (k := 3) rfl (by rw [ey_330]; rfl) (by decide) rfl (fun ls hl => ?_)
                  refine lv_goto (tgt := 12) hx hb dX6_endOfPattern_233 (by decide) ?_
                  have lit_330 : (0 : Int32).toInt = 0 := by decide
                  exact ih12 sp y_328 0 y_330 fa fb (by first | omega | assumption | decide) (dP_next v12_1 (fun d p => by rw [show y_330.toInt = ax.toInt + 1 by omega, show y_328.toInt = op.toInt + 1 by omega, show (0 : Int32).toInt = 0 by decide]; exact mv_po (by omega) (by omega))) (by first | omega | assumption | decide) (by first | omega | assumption | decide) (by first | omega | assumption | decide) (by omega) _ _ ls hP hD hS (lv_sub hl [0, 1, 2, 4, 5, 6, 7, 8] rfl)
                · have tk_327 := c_nlt (a := op.toInt) (b := 5) rfl (by decide) k_327
                  refine lv_aload_n hx hb dX6_endOfPattern_113 rfl (lv_at hl 5 rfl) ?_
                  refine lv_iconst (v := 4) hx hb dX6_endOfPattern_114 (by decide) ?_
                  refine lv_iload hx hb dX6_endOfPattern_115 (lv_at hl 1 rfl) ?_
                  have hPc := hP.sub (ws' := [(rd, .inr (6, rF r fa fb a2 a3 a4 a5 a6 a7))]) [0] rfl
                  have hKc := hK.sub (tys' := []) [] rfl
                  have hDc := hD.sub (ws' := [(rd, .inr (6, rF r fa fb a2 a3 a4 a5 a6 a7))]) [0] (by decide) rfl
                  have hFc := va_free (wc := [(rd, .inr (6, rF r fa fb a2 a3 a4 a5 a6 a7))]) hD hS hA [0] rfl
                  refine va_callv (va_runV (As := [.int 4, .int ax]) (rest := []) ⟨hx, hb, hml, hown, hts⟩ (s_fail l dC dI rd r fa fb a2 a3 a4 a5 a6 a7 H.size 4 ax) (cwV 2 hts mg_X6_endOfPatternq_X6_fail_71 rfl rfl rfl (by decide +kernel) ⟨Nat.le_of_ble_eq_true rfl, Nat.le_of_ble_eq_true rfl⟩) ⟨fun a U g mk q => by obtain ⟨q0, q1, qP, qK, qD⟩ := q; exact ⟨q0, q1, qP, va_K.moved (u := U) (U := U.calling g mk a) (Vm.Alike.refl U.vm) qK, qD⟩, va_recv hKc hPc (ci := 6) (q0 := 0) rfl rfl, fun U hU hW => ⟨rfl, by rw [hU], by rw [hU]; exact hPc, va_K.moved hW.alike hKc, hDc.weaken (fun _ _ _ _ => trivial)⟩⟩ rfl rfl hl.1 rfl (lv_room (Nat.le_of_ble_eq_true rfl)) dX6_endOfPattern_117 ⟨Nat.le_of_ble_eq_true rfl, Nat.le_of_ble_eq_true rfl⟩) hS (fun q _ h => hFc q h) hFc (fun u t H1 locs ht hvm hw hB hz1 hk1 hS => ?_)
                  obtain ⟨hP1, hK1, hD1⟩ := hB
                  rw [ht] at hP1
                  obtain ⟨hP, hD⟩ := va_join (wr := [(ta, .inl (cT, nb, .inl ft))]) (w1 := [(rd, .inr (6, rF r 4 ax a2 a3 a4 a5 a6 a7))]) hP hD [0] [1] rfl rfl (by decide) (by decide) hk1 hFc hP1 hD1
                  generalize H1 = H at hP hS ⊢
                  have hP : va_P (dC, dI) vwCl [(ta, .inl (cT, nb, .inl ft)), (rd, .inr (6, rF r 4 ax a2 a3 a4 a5 a6 a7))] H := hP
                  have hD : va_D A [(ta, .inl (cT, nb, .inl ft)), (rd, .inr (6, rF r 4 ax a2 a3 a4 a5 a6 a7))] := hD
                  obtain ⟨y_334, ey_334⟩ : ∃ y : Int32, y = op + 1 := ⟨_, rfl⟩
                  first | have ty_334 := i_add (a := op.toInt) (b := 1) rfl (by decide) ey_334 (by omega) (by omega) | skip
                  refine lv_iinc (v := y_334) (lv' := [(5, .int y_334), (8, .int y_4), (7, .int ax), (6, .int sd), (4, .int sp), (0, .ref rd), (1, .ref ta), (2, .int i8), (3, .int i9)]) hx hb dX6_endOfPattern_120 hl (k := 3) rfl (by rw [ey_334]; rfl) (by decide) rfl (fun ls hl => ?_)
                  refine lv_iconst (v := 0) hx hb dX6_endOfPattern_123 (by decide) ?_
                  refine lv_istore (lv' := [(6, .int 0), (5, .int y_334), (8, .int y_4), (7, .int ax), (4, .int sp), (0, .ref rd), (1, .ref ta), (2, .int i8), (3, .int i9)]) hx hb dX6_endOfPattern_124 hl (by decide) rfl (fun ls hl => ?_)
                  refine lv_goto (tgt := 220) hx hb dX6_endOfPattern_126 (by decide) ?_
                  refine lv_aload_n hx hb dX6_endOfPattern_220 rfl (lv_at hl 5 rfl) ?_
                  refine va_get (D := (dC, dI)) (ci := 6) (v := .int 4) (C := RX6) (T := TX6) (N := 11) hx hb hts fin_X6_endOfPatternq_X6 hown hK hP 1 rfl rfl 0 (by decide) (hts (.fieldLink RX6 22 "PatternGate$Reader" "faultKind" "I") (List.mem_of_getElem? (i := 7) (by decide +kernel))) (fun _ h9 => h9) rfl dX6_endOfPattern_221 ?_
                  refine lv_if_eq (tgt := 230) hx hb dX6_endOfPattern_224 (by decide) (fun k_335 => absurd k_335 (by decide)) (fun k_335 => ?_)
                  have tk_335 := c_ne (a := 4) (b := 0) (by decide) (by decide) k_335
                  refine lv_iload hx hb dX6_endOfPattern_227 (lv_at hl 3 rfl) ?_
                  have hP9 := hP.sub (ws' := [(rd, .inr (6, rF r 4 ax a2 a3 a4 a5 a6 a7)), (ta, .inl (cT, nb, .inl ft))]) [1, 0] rfl
                  have hD9 := hD.sub (ws' := [(rd, .inr (6, rF r 4 ax a2 a3 a4 a5 a6 a7)), (ta, .inl (cT, nb, .inl ft))]) [1, 0] (by decide) rfl
                  have hK9 := hK.sub (tys' := [(cT, .int)]) [0] rfl
                  exact W.iret hx hb hr (fun t ht hW => ⟨⟨_, ax, rfl, ⟨rfl, by omega⟩, 4, ax, (dP_f v12_1 (fun d p => mv_pof (by omega) (by omega)) (by decide)), by rw [ht]; exact hP9, va_K.moved hW.alike hK9, hD9⟩, hS.F ht⟩) hS.2.2 dX6_endOfPattern_229
            · have tk_31 := c_eq (a := y_4.toInt) (b := 91) rfl (by decide) k_31
              refine lv_iload hx hb dX6_endOfPattern_46 (lv_at hl 4 rfl) ?_
              refine lv_bipush (v := 24) hx hb dX6_endOfPattern_48 (by decide) ?_
              refine lv_icmp_lt (tgt := 60) hx hb dX6_endOfPattern_50 (by decide) (fun k_336 => ?_) (fun k_336 => ?_)
              · have tk_336 := c_lt (a := sp.toInt) (b := 24) rfl (by decide) k_336
                obtain ⟨y_337, ey_337⟩ : ∃ y : Int32, y = sp + 1 := ⟨_, rfl⟩
                first | have ty_337 := i_add (a := sp.toInt) (b := 1) rfl (by decide) ey_337 (by omega) (by omega) | skip
                refine lv_iinc (v := y_337) (lv' := [(4, .int y_337), (8, .int y_4), (7, .int ax), (6, .int sd), (5, .int op), (0, .ref rd), (1, .ref ta), (2, .int i8), (3, .int i9)]) hx hb dX6_endOfPattern_60 hl (k := 4) rfl (by rw [ey_337]; rfl) (by decide) rfl (fun ls hl => ?_)
                refine lv_iconst (v := 1) hx hb dX6_endOfPattern_63 (by decide) ?_
                refine lv_istore (lv' := [(6, .int 1), (4, .int y_337), (8, .int y_4), (7, .int ax), (5, .int op), (0, .ref rd), (1, .ref ta), (2, .int i8), (3, .int i9)]) hx hb dX6_endOfPattern_64 hl (by decide) rfl (fun ls hl => ?_)
                refine lv_iload hx hb dX6_endOfPattern_66 (lv_at hl 2 rfl) ?_
                refine lv_bipush (v := 91) hx hb dX6_endOfPattern_68 (by decide) ?_
                refine lv_icmp_ne (tgt := 220) hx hb dX6_endOfPattern_70 (by decide) (fun k_338 => absurd k_31 k_338) (fun k_338 => ?_)
                have tk_338 := c_eq (a := y_4.toInt) (b := 91) rfl (by decide) k_338
                refine lv_aload_n hx hb dX6_endOfPattern_73 rfl (lv_at hl 5 rfl) ?_
                refine va_get (D := (dC, dI)) (ci := 6) (v := .int fa) (C := RX6) (T := TX6) (N := 11) hx hb hts fin_X6_endOfPatternq_X6 hown hK hP 0 rfl rfl 0 (by decide) (hts (.fieldLink RX6 22 "PatternGate$Reader" "faultKind" "I") (List.mem_of_getElem? (i := 7) (by decide +kernel))) (fun _ h9 => h9) rfl dX6_endOfPattern_74 ?_
                refine lv_if_ne (tgt := 220) hx hb dX6_endOfPattern_77 (by decide) (fun k_339 => absurd (Int32.toInt_inj.mp (v12_2.trans (by decide))) k_339) (fun k_339 => ?_)
                have tk_339 := c_eq (a := fa.toInt) (b := 0) rfl (by decide) k_339
                refine lv_iload hx hb dX6_endOfPattern_80 (lv_at hl 3 rfl) ?_
                refine lv_aload_n hx hb dX6_endOfPattern_82 rfl (lv_at hl 5 rfl) ?_
                refine lv_aload_n hx hb dX6_endOfPattern_83 rfl (lv_at hl 6 rfl) ?_
                refine lv_iload hx hb dX6_endOfPattern_84 (lv_at hl 3 rfl) ?_
                refine lv_iconst (v := 1) hx hb dX6_endOfPattern_86 (by decide) ?_
                refine lv_iadd hx hb dX6_endOfPattern_87 ?_
                refine lv_topi (fun y_340 ey_340 => ?_)
                first | have ty_340 := i_add (a := ax.toInt) (b := 1) rfl (by decide) ey_340 (by omega) (by omega) | skip
                refine lv_iload_n hx hb dX6_endOfPattern_88 rfl (lv_at hl 8 rfl) ?_
                have hPc := hP.sub (ws' := [(rd, .inr (6, rF r fa fb a2 a3 a4 a5 a6 a7)), (ta, .inl (cT, nb, .inl ft))]) [0, 1] rfl
                have hKc := hK.sub (tys' := [(cT, .int)]) [0] rfl
                have hDc := hD.sub (ws' := [(rd, .inr (6, rF r fa fb a2 a3 a4 a5 a6 a7)), (ta, .inl (cT, nb, .inl ft))]) [0, 1] (by decide) rfl
                have hFc := va_free (wc := [(rd, .inr (6, rF r fa fb a2 a3 a4 a5 a6 a7)), (ta, .inl (cT, nb, .inl ft))]) hD hS hA [0, 1] rfl
                refine va_calli (va_runV (As := [.ref ta, .int y_340, .int i9]) (rest := [.int ax]) ⟨hx, hb, hml, hown, hts⟩ (s_endOfSet_q l dC dI rd r fa fb a2 a3 a4 a5 a6 a7 ta nb cT ft H.size y_340 i9 (by first | omega | decide | (have l0 := Int32.toInt_zero; omega)) (by first | omega | decide | (have l0 := Int32.toInt_zero; omega)) (by first | omega | decide | (have l0 := Int32.toInt_zero; omega)) (by first | omega | decide | (have l0 := Int32.toInt_zero; omega)) (by first | omega | decide | (have l0 := Int32.toInt_zero; omega))) (cwV 3 hts mg_X6_endOfPatternq_X6_endOfSet_99 rfl rfl rfl (by decide +kernel) ⟨Nat.le_of_ble_eq_true rfl, Nat.le_of_ble_eq_true rfl⟩) ⟨fun a U g mk q => by obtain ⟨q0, q1, qP, qK, qD, qE0⟩ := q; exact ⟨q0, q1, qP, va_K.moved (u := U) (U := U.calling g mk a) (Vm.Alike.refl U.vm) qK, qD, va_Nw.same rfl (rfl : U.vm = (U.calling g mk a).vm) qE0⟩, va_recv hKc hPc (ci := 6) (q0 := 0) rfl rfl, fun U hU hW => ⟨rfl, by rw [hU], by rw [hU]; exact hPc, va_K.moved hW.alike hKc, hDc.weaken (fun _ _ _ _ => trivial), va_Nw.warmM hW hN53⟩⟩ rfl rfl hl.1 rfl (lv_room (Nat.le_of_ble_eq_true rfl)) dX6_endOfPattern_89 ⟨Nat.le_of_ble_eq_true rfl, Nat.le_of_ble_eq_true rfl⟩) hS (fun q _ h => hFc q h) hFc (fun r_342 u t H1 locs ht hvm hw hB hz1 hk1 hS => ?_)
                obtain ⟨hu9, hr_342⟩ := hw
                obtain ⟨y_343, y_344, qr_342, hP1, hK1, hD1⟩ := hB
                rw [← hu9] at qr_342
                rw [ht] at hP1
                have rg_r_342 := i_rng r_342
                have rg_y_343 := i_rng y_343
                obtain ⟨hP, hD⟩ := va_join (wr := []) (w1 := [(rd, .inr (6, rF r y_343 y_344 a2 a3 a4 a5 a6 a7)), (ta, .inl (cT, nb, .inl ft))]) hP hD [0, 1] [] rfl rfl (by decide) (by decide) hk1 hFc hP1 hD1
                generalize H1 = H at hP hS ⊢
                have hP : va_P (dC, dI) vwCl [(rd, .inr (6, rF r y_343 y_344 a2 a3 a4 a5 a6 a7)), (ta, .inl (cT, nb, .inl ft))] H := hP
                have hD : va_D A [(rd, .inr (6, rF r y_343 y_344 a2 a3 a4 a5 a6 a7)), (ta, .inl (cT, nb, .inl ft))] := hD
                refine va_mmax hx hb (hml.trans hl.1.symm) hown (hts (.methodLink RX6 61 Lib.Math.max.name) (List.mem_of_getElem? (i := 13) (by decide +kernel))) (hts (.static Lib.Math.max.name) (List.mem_of_getElem? (i := 14) (by decide +kernel))) (hts (.initialized "java/lang/Math") (List.mem_of_getElem? (i := 15) (by decide +kernel))) (hts (.code Lib.Math.max.name Lib.Math.max.code 2 (some .int)) (List.mem_of_getElem? (i := 16) (by decide +kernel))) (Nat.le_of_ble_eq_true rfl) (Nat.le_of_ble_eq_true rfl) (Nat.le_of_ble_eq_true rfl) (Nat.le_of_ble_eq_true rfl) dX6_endOfPattern_92 ?_
                refine lv_topi (fun y_345 ey_345 => ?_)
                have ty_345 := i_max (a := ax.toInt) (b := r_342.toInt) rfl rfl ey_345
                refine lv_istore (lv' := [(7, .int y_345), (6, .int 1), (4, .int y_337), (8, .int y_4), (5, .int op), (0, .ref rd), (1, .ref ta), (2, .int i8), (3, .int i9)]) hx hb dX6_endOfPattern_95 hl (by decide) rfl (fun ls hl => ?_)
                refine lv_goto (tgt := 220) hx hb dX6_endOfPattern_97 (by decide) ?_
                refine lv_aload_n hx hb dX6_endOfPattern_220 rfl (lv_at hl 5 rfl) ?_
                refine va_get (D := (dC, dI)) (ci := 6) (v := .int y_343) (C := RX6) (T := TX6) (N := 11) hx hb hts fin_X6_endOfPatternq_X6 hown hK hP 0 rfl rfl 0 (by decide) (hts (.fieldLink RX6 22 "PatternGate$Reader" "faultKind" "I") (List.mem_of_getElem? (i := 7) (by decide +kernel))) (fun _ h9 => h9) rfl dX6_endOfPattern_221 ?_
                refine lv_if_eq (tgt := 230) hx hb dX6_endOfPattern_224 (by decide) (fun k_346 => ?_) (fun k_346 => ?_)
                · have tk_346 := c_eq (a := y_343.toInt) (b := 0) rfl (by decide) k_346
                  obtain ⟨y_347, ey_347⟩ : ∃ y : Int32, y = y_345 + 1 := ⟨_, rfl⟩
                  first | have ty_347 := i_add (a := y_345.toInt) (b := 1) rfl (by decide) ey_347 (by omega) (by omega) | skip
                  refine lv_iinc (v := y_347) (lv' := [(7, .int y_347), (6, .int 1), (4, .int y_337), (8, .int y_4), (5, .int op), (0, .ref rd), (1, .ref ta), (2, .int i8), (3, .int i9)]) hx hb dX6_endOfPattern_230 hl (k := 0) rfl (by rw [ey_347]; rfl) (by decide) rfl (fun ls hl => ?_)
                  refine lv_goto (tgt := 12) hx hb dX6_endOfPattern_233 (by decide) ?_
                  have lit_347 : (1 : Int32).toInt = 1 := by decide
                  exact ih12 y_337 op 1 y_347 y_343 y_344 (by first | omega | assumption | decide) (dP_next v12_1 (fun d p => by have h8 := qr_342.1.1 (by omega); rw [show y_340.toInt = ax.toInt + 1 by omega] at h8; have h9 := (mv_ps (t := (tc ft i9.toInt)) (k := ax.toInt) (sp := sp.toInt) (op := op.toInt) (st := sd.toInt) (d := d) (p := p) (by omega) (by omega)).tr (h8 _ _ d p); rw [show y_347.toInt = r_342.toInt + 1 by omega, show y_337.toInt = sp.toInt + 1 by omega, show (1 : Int32).toInt = 1 by decide]; exact h9)) (by first | omega | assumption | decide) (by first | omega | assumption | decide) (by first | omega | assumption | decide) (by omega) _ _ ls hP hD hS (lv_sub hl [0, 1, 4, 2, 5, 6, 7, 8] rfl)
                · have tk_346 := c_ne (a := y_343.toInt) (b := 0) rfl (by decide) k_346
                  refine lv_iload hx hb dX6_endOfPattern_227 (lv_at hl 0 rfl) ?_
                  have hP9 := hP.sub (ws' := [(rd, .inr (6, rF r y_343 y_344 a2 a3 a4 a5 a6 a7)), (ta, .inl (cT, nb, .inl ft))]) [0, 1] rfl
                  have hD9 := hD.sub (ws' := [(rd, .inr (6, rF r y_343 y_344 a2 a3 a4 a5 a6 a7)), (ta, .inl (cT, nb, .inl ft))]) [0, 1] (by decide) rfl
                  have hK9 := hK.sub (tys' := [(cT, .int)]) [0] rfl
                  exact W.iret hx hb hr (fun t ht hW => ⟨⟨_, y_345, rfl, ⟨rfl, by omega⟩, y_343, y_344, (dP_f v12_1 (fun d p => (mv_ps (by omega) (by omega)).tr (by have h9 := qr_342.1.2 (by omega); rw [show y_340.toInt = ax.toInt + 1 by omega] at h9; exact h9 _ _ d p)) (by omega)), by rw [ht]; exact hP9, va_K.moved hW.alike hK9, hD9⟩, hS.F ht⟩) hS.2.2 dX6_endOfPattern_229
              · have tk_336 := c_nlt (a := sp.toInt) (b := 24) rfl (by decide) k_336
                refine lv_aload_n hx hb dX6_endOfPattern_53 rfl (lv_at hl 5 rfl) ?_
                refine lv_iconst (v := 4) hx hb dX6_endOfPattern_54 (by decide) ?_
                refine lv_iload hx hb dX6_endOfPattern_55 (lv_at hl 1 rfl) ?_
                have hPc := hP.sub (ws' := [(rd, .inr (6, rF r fa fb a2 a3 a4 a5 a6 a7))]) [0] rfl
                have hKc := hK.sub (tys' := []) [] rfl
                have hDc := hD.sub (ws' := [(rd, .inr (6, rF r fa fb a2 a3 a4 a5 a6 a7))]) [0] (by decide) rfl
                have hFc := va_free (wc := [(rd, .inr (6, rF r fa fb a2 a3 a4 a5 a6 a7))]) hD hS hA [0] rfl
                refine va_callv (va_runV (As := [.int 4, .int ax]) (rest := []) ⟨hx, hb, hml, hown, hts⟩ (s_fail l dC dI rd r fa fb a2 a3 a4 a5 a6 a7 H.size 4 ax) (cwV 2 hts mg_X6_endOfPatternq_X6_fail_71 rfl rfl rfl (by decide +kernel) ⟨Nat.le_of_ble_eq_true rfl, Nat.le_of_ble_eq_true rfl⟩) ⟨fun a U g mk q => by obtain ⟨q0, q1, qP, qK, qD⟩ := q; exact ⟨q0, q1, qP, va_K.moved (u := U) (U := U.calling g mk a) (Vm.Alike.refl U.vm) qK, qD⟩, va_recv hKc hPc (ci := 6) (q0 := 0) rfl rfl, fun U hU hW => ⟨rfl, by rw [hU], by rw [hU]; exact hPc, va_K.moved hW.alike hKc, hDc.weaken (fun _ _ _ _ => trivial)⟩⟩ rfl rfl hl.1 rfl (lv_room (Nat.le_of_ble_eq_true rfl)) dX6_endOfPattern_57 ⟨Nat.le_of_ble_eq_true rfl, Nat.le_of_ble_eq_true rfl⟩) hS (fun q _ h => hFc q h) hFc (fun u t H1 locs ht hvm hw hB hz1 hk1 hS => ?_)
                obtain ⟨hP1, hK1, hD1⟩ := hB
                rw [ht] at hP1
                obtain ⟨hP, hD⟩ := va_join (wr := [(ta, .inl (cT, nb, .inl ft))]) (w1 := [(rd, .inr (6, rF r 4 ax a2 a3 a4 a5 a6 a7))]) hP hD [0] [1] rfl rfl (by decide) (by decide) hk1 hFc hP1 hD1
                generalize H1 = H at hP hS ⊢
                have hP : va_P (dC, dI) vwCl [(ta, .inl (cT, nb, .inl ft)), (rd, .inr (6, rF r 4 ax a2 a3 a4 a5 a6 a7))] H := hP
                have hD : va_D A [(ta, .inl (cT, nb, .inl ft)), (rd, .inr (6, rF r 4 ax a2 a3 a4 a5 a6 a7))] := hD
                obtain ⟨y_351, ey_351⟩ : ∃ y : Int32, y = sp + 1 := ⟨_, rfl⟩
                first | have ty_351 := i_add (a := sp.toInt) (b := 1) rfl (by decide) ey_351 (by omega) (by omega) | skip
                refine lv_iinc (v := y_351) (lv' := [(4, .int y_351), (8, .int y_4), (7, .int ax), (6, .int sd), (5, .int op), (0, .ref rd), (1, .ref ta), (2, .int i8), (3, .int i9)]) hx hb dX6_endOfPattern_60 hl (k := 4) rfl (by rw [ey_351]; rfl) (by decide) rfl (fun ls hl => ?_)
                refine lv_iconst (v := 1) hx hb dX6_endOfPattern_63 (by decide) ?_
                refine lv_istore (lv' := [(6, .int 1), (4, .int y_351), (8, .int y_4), (7, .int ax), (5, .int op), (0, .ref rd), (1, .ref ta), (2, .int i8), (3, .int i9)]) hx hb dX6_endOfPattern_64 hl (by decide) rfl (fun ls hl => ?_)
                refine lv_iload hx hb dX6_endOfPattern_66 (lv_at hl 2 rfl) ?_
                refine lv_bipush (v := 91) hx hb dX6_endOfPattern_68 (by decide) ?_
                refine lv_icmp_ne (tgt := 220) hx hb dX6_endOfPattern_70 (by decide) (fun k_352 => absurd k_31 k_352) (fun k_352 => ?_)
                have tk_352 := c_eq (a := y_4.toInt) (b := 91) rfl (by decide) k_352
                refine lv_aload_n hx hb dX6_endOfPattern_73 rfl (lv_at hl 5 rfl) ?_
                refine va_get (D := (dC, dI)) (ci := 6) (v := .int 4) (C := RX6) (T := TX6) (N := 11) hx hb hts fin_X6_endOfPatternq_X6 hown hK hP 1 rfl rfl 0 (by decide) (hts (.fieldLink RX6 22 "PatternGate$Reader" "faultKind" "I") (List.mem_of_getElem? (i := 7) (by decide +kernel))) (fun _ h9 => h9) rfl dX6_endOfPattern_74 ?_
                refine lv_if_ne (tgt := 220) hx hb dX6_endOfPattern_77 (by decide) (fun k_353 => ?_) (fun k_353 => absurd k_353 (by decide))
                have tk_353 := c_ne (a := 4) (b := 0) (by decide) (by decide) k_353
                refine lv_aload_n hx hb dX6_endOfPattern_220 rfl (lv_at hl 5 rfl) ?_
                refine va_get (D := (dC, dI)) (ci := 6) (v := .int 4) (C := RX6) (T := TX6) (N := 11) hx hb hts fin_X6_endOfPatternq_X6 hown hK hP 1 rfl rfl 0 (by decide) (hts (.fieldLink RX6 22 "PatternGate$Reader" "faultKind" "I") (List.mem_of_getElem? (i := 7) (by decide +kernel))) (fun _ h9 => h9) rfl dX6_endOfPattern_221 ?_
                refine lv_if_eq (tgt := 230) hx hb dX6_endOfPattern_224 (by decide) (fun k_354 => absurd k_354 (by decide)) (fun k_354 => ?_)
                have tk_354 := c_ne (a := 4) (b := 0) (by decide) (by decide) k_354
                refine lv_iload hx hb dX6_endOfPattern_227 (lv_at hl 3 rfl) ?_
                have hP9 := hP.sub (ws' := [(rd, .inr (6, rF r 4 ax a2 a3 a4 a5 a6 a7)), (ta, .inl (cT, nb, .inl ft))]) [1, 0] rfl
                have hD9 := hD.sub (ws' := [(rd, .inr (6, rF r 4 ax a2 a3 a4 a5 a6 a7)), (ta, .inl (cT, nb, .inl ft))]) [1, 0] (by decide) rfl
                have hK9 := hK.sub (tys' := [(cT, .int)]) [0] rfl
                exact W.iret hx hb hr (fun t ht hW => ⟨⟨_, ax, rfl, ⟨rfl, by omega⟩, 4, ax, (dP_f v12_1 (fun d p => mv_paf (by unfold isAt; omega) (by omega) (by omega)) (by decide)), by rw [ht]; exact hP9, va_K.moved hW.alike hK9, hD9⟩, hS.F ht⟩) hS.2.2 dX6_endOfPattern_229
  have lit_354 : (0 : Int32).toInt = 0 := by decide
  have lit_355 : (0 : Int32).toInt = 0 := by decide
  have lit_356 : (0 : Int32).toInt = 0 := by decide
  exact loop12 _ 0 0 0 i8 a0 a1 (by first | omega | assumption | decide) (fun _ _ => by rw [show (0 : Int32).toInt = 0 by decide]; exact Ld.rf) (by first | omega | assumption | decide) (by first | omega | assumption | decide) (by first | omega | assumption | decide) (Nat.lt_succ_self _) _ _ ls hP hD hS (lv_sub hl [0, 1, 2, 3, 4, 5, 6, 7] rfl)

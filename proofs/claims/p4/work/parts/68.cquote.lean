def mwX6_endOfDoc2 : List Cond := .code yX6_endOfDoc cX6_endOfDoc 5 (some .int) :: (([.methodLink RX6 71 yX6_fail, .instanceMethod yX6_fail, .selects RX6 yX6_fail yX6_fail, .initialized RX6, .initialized RX9, .static yX9_isSmall] : List Cond) ++ (mwX6_fail ++ (mwX9_isSmallw)))
set_option maxRecDepth 20000 in
theorem mg_X6_endOfDoc2_X6_fail_71 : GoodIn mwX6_endOfDoc2 (wsV RX6 71 RX6 yX6_fail mwX6_fail) := gi_app (A := [.methodLink RX6 71 yX6_fail, .instanceMethod yX6_fail, .selects RX6 yX6_fail yX6_fail, .initialized RX6]) (goodIn_r _ [1, 2, 3, 4] (by decide +kernel) (by decide +kernel)) (gi_sub gd_mwX6_fail (fun w h => List.mem_cons_of_mem _ (List.mem_append_right _ (List.mem_append_left _ h))))
set_option maxRecDepth 20000 in
theorem mg_X6_endOfDoc2_X9_isSmall_53 : GoodIn mwX6_endOfDoc2 mwX9_isSmallw := gi_sub gd_mwX9_isSmallw (fun w h => List.mem_cons_of_mem _ (List.mem_append_right _ (List.mem_append_right _ (h))))
set_option maxHeartbeats 4000000 in
set_option maxRecDepth 100000 in
/-- Reader.endOfDoc, with its stretch -/
theorem s_endOfDoc2 (l : Launch) (dC : Nat → ClassId) (dI : Nat → Nat → Nat) (rd : Nat) (r : Nat → Nat) (a0 a1 a2 a3 a4 a5 a6 a7 : Int32) (ta nb : Nat) (cT : ClassId) (ft : Nat → Int32) (sz : Nat) (i8 i9 : Int32) (hn : nb ≤ 1000) (h1 : 0 ≤ i8.toInt) (h2 : i9.toInt ≤ nb) (h3 : i8.toInt ≤ i9.toInt) : Met l yX6_endOfDoc mwX6_endOfDoc2 ({ frames := 1, cells := 0, slots := 0, locals := 60 }) (va_Pc [.ref rd, .ref ta, .int i8, .int i9] (fun U => U.heap.size = sz ∧ va_P (dC, dI) vwCl ([(rd, .inr (6, rF r a0 a1 a2 a3 a4 a5 a6 a7)), (ta, .inl (cT, nb, .inl ft))]) U.heap ∧ va_K (dC, dI) vwCl ([(cT, .int)]) U ∧ va_D (fun _ => True) ([(rd, .inr (6, rF r a0 a1 a2 a3 a4 a5 a6 a7)), (ta, .inl (cT, nb, .inl ft))]) ∧ va_Nw (.methodLinkNest RX6 53 yX9_isSmall "PatternGate") U)) (va_Qi (fun (o9 : Int32) (_ : Unit) => i8.toInt ≤ o9.toInt ∧ o9.toInt ≤ i9.toInt ∧ o9.toInt - i8.toInt ≤ 60) (fun _ t => ∃ y0 y1 : Int32, va_P (dC, dI) vwCl [(rd, .inr (6, rF r y0 y1 a2 a3 a4 a5 a6 a7)), (ta, .inl (cT, nb, .inl ft))] t.heap ∧ va_K (dC, dI) vwCl [(cT, .int)] t ∧ va_D (va_A ([(rd, .inr (6, rF r a0 a1 a2 a3 a4 a5 a6 a7)), (ta, .inl (cT, nb, .inl ft))]) sz) [(rd, .inr (6, rF r y0 y1 a2 a3 a4 a5 a6 a7)), (ta, .inl (cT, nb, .inl ft))]) (va_A ([(rd, .inr (6, rF r a0 a1 a2 a3 a4 a5 a6 a7)), (ta, .inl (cT, nb, .inl ft))]) sz)) 0 0 (va_A ([(rd, .inr (6, rF r a0 a1 a2 a3 a4 a5 a6 a7)), (ta, .inl (cT, nb, .inl ft))]) sz) := by
  refine Met.ofW (cc := cX6_endOfDoc) (maxL := 5) (ret := (some .int)) (by decide +kernel) rfl ?_
  intro p e s m args below meth c s₁ B hml hv
  obtain ⟨rfl, hsz, hP, hK, hD0, hN53⟩ := hv
  have hx := B.exec
  have hb := B.bytes
  have hr := B.returns
  have hts := atoms_spec (ws := mwX6_endOfDoc2) B.pre
  have hown : s.vm.findClass RX6 = some m.cls := findClass_of_methodNamed B.named
  have hlocks := B.notSynchronized
  subst hsz
  have hD := hD0.self (sz := s.heap.size)
  generalize hAe : va_A ([(rd, .inr (6, rF r a0 a1 a2 a3 a4 a5 a6 a7)), (ta, .inl (cT, nb, .inl ft))]) s.heap.size = A at hD ⊢
  have hA : ∀ q : Nat, s.heap.size ≤ q → A q := fun q h => by rw [← hAe]; exact Or.inr h
  have hP : va_P (dC, dI) vwCl [(rd, .inr (6, rF r a0 a1 a2 a3 a4 a5 a6 a7)), (ta, .inl (cT, nb, .inl ft))] s.heap := hP
  have hD : va_D A [(rd, .inr (6, rF r a0 a1 a2 a3 a4 a5 a6 a7)), (ta, .inl (cT, nb, .inl ft))] := hD
  have hK : va_K (dC, dI) vwCl [(cT, .int)] s := hK
  generalize hH : s.heap = H at hP ⊢
  have hS : va_S A s.heap H [] := by rw [← hH]; exact va_S.rf
  have hl := lv_entry ([.ref rd, .ref ta, .int i8, .int i9]) (n := 5) (Nat.le_of_ble_eq_true rfl)
  rw [lg_entry_eq]
  generalize (lg_sl ([.ref rd, .ref ta, .int i8, .int i9]) ++ List.replicate (5 - (lg_sl ([.ref rd, .ref ta, .int i8, .int i9])).length) Slot.unset).toArray = ls at hl ⊢
  have hl : lv_has ls 5 [(0, .ref rd), (1, .ref ta), (2, .int i8), (3, .int i9)] := hl
  have rg_i8 := i_rng i8
  have rg_i9 := i_rng i9
  refine lv_iload_n hx hb dX6_endOfDoc_0 rfl (lv_at hl 2 rfl) ?_
  refine lv_istore (lv' := [(4, .int i8), (0, .ref rd), (1, .ref ta), (2, .int i8), (3, .int i9)]) hx hb dX6_endOfDoc_1 hl (by decide) rfl (fun ls hl => ?_)
  have loop3 : ∀ (lm3 : Nat) (ax : Int32), (i8.toInt ≤ ax.toInt ∧ ax.toInt ≤ i9.toInt ∧ ax.toInt - i8.toInt ≤ 60) → ((i9.toInt - ax.toInt).toNat) < lm3 → ∀ (H : Heap) (locs : List Loc) (ls : Array Slot), va_P (dC, dI) vwCl [(rd, .inr (6, rF r a0 a1 a2 a3 a4 a5 a6 a7)), (ta, .inl (cT, nb, .inl ft))] H → va_D A [(rd, .inr (6, rF r a0 a1 a2 a3 a4 a5 a6 a7)), (ta, .inl (cT, nb, .inl ft))] → va_S A s.heap H locs → lv_has ls 5 [(4, .int ax), (0, .ref rd), (1, .ref ta), (2, .int i8), (3, .int i9)] → W p l e (headSpec mwX6_endOfDoc2 ({ frames := 1, cells := 0, slots := 0, locals := 60 })).room s m ([.ref rd, .ref ta, .int i8, .int i9]).toArray below meth c H locs 0 0 (MQ below (va_Qi (fun (o9 : Int32) (_ : Unit) => i8.toInt ≤ o9.toInt ∧ o9.toInt ≤ i9.toInt ∧ o9.toInt - i8.toInt ≤ 60) (fun _ t => ∃ y0 y1 : Int32, va_P (dC, dI) vwCl [(rd, .inr (6, rF r y0 y1 a2 a3 a4 a5 a6 a7)), (ta, .inl (cT, nb, .inl ft))] t.heap ∧ va_K (dC, dI) vwCl [(cT, .int)] t ∧ va_D A [(rd, .inr (6, rF r y0 y1 a2 a3 a4 a5 a6 a7)), (ta, .inl (cT, nb, .inl ft))]) A) ([.ref rd, .ref ta, .int i8, .int i9]).toArray s 0 0 A) (F0 m 3 ls []) := by
    intro lm3
    induction lm3 with
    | zero => intro ax v3_0 hm3; exact absurd hm3 (Nat.not_lt_zero _)
    | succ lm3 ih3 =>
      intro ax v3_0 hm3 H locs ls hP hD hS hl
      have rg_ax := i_rng ax
      refine lv_iload hx hb dX6_endOfDoc_3 (lv_at hl 0 rfl) ?_
      refine lv_iload_n hx hb dX6_endOfDoc_5 rfl (lv_at hl 4 rfl) ?_
      refine lv_icmp_ge (tgt := 72) hx hb dX6_endOfDoc_6 (by decide) (fun k_1 => ?_) (fun k_1 => ?_)
      · have tk_1 := c_ge (a := ax.toInt) (b := i9.toInt) rfl rfl k_1
        refine lv_aload_n hx hb dX6_endOfDoc_72 rfl (lv_at hl 1 rfl) ?_
        refine lv_iconst (v := 1) hx hb dX6_endOfDoc_73 (by decide) ?_
        refine lv_iload_n hx hb dX6_endOfDoc_74 rfl (lv_at hl 4 rfl) ?_
        have hPc := hP.sub (ws' := [(rd, .inr (6, rF r a0 a1 a2 a3 a4 a5 a6 a7))]) [0] rfl
        have hKc := hK.sub (tys' := []) [] rfl
        have hDc := hD.sub (ws' := [(rd, .inr (6, rF r a0 a1 a2 a3 a4 a5 a6 a7))]) [0] (by decide) rfl
        have hFc := va_free (wc := [(rd, .inr (6, rF r a0 a1 a2 a3 a4 a5 a6 a7))]) hD hS hA [0] rfl
        refine va_callv (va_runV (As := [.int 1, .int i9]) (rest := []) ⟨hx, hb, hml, hown, hts⟩ (s_fail l dC dI rd r a0 a1 a2 a3 a4 a5 a6 a7 H.size 1 i9) (cwV 2 hts mg_X6_endOfDoc2_X6_fail_71 rfl rfl rfl (by decide +kernel) ⟨Nat.le_of_ble_eq_true rfl, Nat.le_of_ble_eq_true rfl⟩) ⟨fun a U g mk q => by obtain ⟨q0, q1, qP, qK, qD⟩ := q; exact ⟨q0, q1, qP, va_K.moved (u := U) (U := U.calling g mk a) (Vm.Alike.refl U.vm) qK, qD⟩, va_recv hKc hPc (ci := 6) (q0 := 0) rfl rfl, fun U hU hW => ⟨rfl, by rw [hU], by rw [hU]; exact hPc, va_K.moved hW.alike hKc, hDc.weaken (fun _ _ _ _ => trivial)⟩⟩ rfl rfl hl.1 rfl (lv_room (Nat.le_of_ble_eq_true rfl)) dX6_endOfDoc_75 ⟨Nat.le_of_ble_eq_true rfl, Nat.le_of_ble_eq_true rfl⟩) hS (fun q _ h => hFc q h) hFc (fun u t H1 locs ht hvm hw hB hz1 hk1 hS => ?_)
        obtain ⟨hP1, hK1, hD1⟩ := hB
        rw [ht] at hP1
        obtain ⟨hP, hD⟩ := va_join (wr := [(ta, .inl (cT, nb, .inl ft))]) (w1 := [(rd, .inr (6, rF r 1 i9 a2 a3 a4 a5 a6 a7))]) hP hD [0] [1] rfl rfl (by decide) (by decide) hk1 hFc hP1 hD1
        generalize H1 = H at hP hS ⊢
        have hP : va_P (dC, dI) vwCl [(ta, .inl (cT, nb, .inl ft)), (rd, .inr (6, rF r 1 i9 a2 a3 a4 a5 a6 a7))] H := hP
        have hD : va_D A [(ta, .inl (cT, nb, .inl ft)), (rd, .inr (6, rF r 1 i9 a2 a3 a4 a5 a6 a7))] := hD
        refine lv_iload_n hx hb dX6_endOfDoc_78 rfl (lv_at hl 4 rfl) ?_
        have hP9 := hP.sub (ws' := [(rd, .inr (6, rF r 1 i9 a2 a3 a4 a5 a6 a7)), (ta, .inl (cT, nb, .inl ft))]) [1, 0] rfl
        have hD9 := hD.sub (ws' := [(rd, .inr (6, rF r 1 i9 a2 a3 a4 a5 a6 a7)), (ta, .inl (cT, nb, .inl ft))]) [1, 0] (by decide) rfl
        have hK9 := hK.sub (tys' := [(cT, .int)]) [0] rfl
        exact W.iret hx hb hr (fun t ht hW => ⟨⟨_, (), rfl, by omega, 1, i9, by rw [ht]; exact hP9, va_K.moved hW.alike hK9, hD9⟩, hS.F ht⟩) hS.2.2 dX6_endOfDoc_79
      · have tk_1 := c_nge (a := ax.toInt) (b := i9.toInt) rfl rfl k_1
        refine lv_aload_n hx hb dX6_endOfDoc_9 rfl (lv_at hl 2 rfl) ?_
        refine lv_iload hx hb dX6_endOfDoc_10 (lv_at hl 0 rfl) ?_
        refine va_iald hx hb hK hP 1 0 rfl rfl (i := ax) (vp_of (a := ax.toInt) rfl (by omega) (by omega)) dX6_endOfDoc_12 ?_
        refine lv_topi (fun y_4 ey_4 => ?_)
        have rg_y_4 := i_rng y_4
        refine lv_bipush (v := 34) hx hb dX6_endOfDoc_13 (by decide) ?_
        refine lv_icmp_ne (tgt := 27) hx hb dX6_endOfDoc_15 (by decide) (fun k_5 => ?_) (fun k_5 => ?_)
        · have tk_5 := c_ne (a := y_4.toInt) (b := 34) rfl (by decide) k_5
          refine lv_aload_n hx hb dX6_endOfDoc_27 rfl (lv_at hl 2 rfl) ?_
          refine lv_iload hx hb dX6_endOfDoc_28 (lv_at hl 0 rfl) ?_
          refine va_iald hx hb hK hP 1 0 rfl rfl (i := ax) (vp_of (a := ax.toInt) rfl (by omega) (by omega)) dX6_endOfDoc_30 ?_
          refine lv_topi (fun y_6 ey_6 => ?_)
          have rg_y_6 := i_rng y_6
          have hPc := hP.sub (ws' := []) [] rfl
          have hKc := hK.sub (tys' := []) [] rfl
          have hDc := hD.sub (ws' := []) [] (by decide) rfl
          have hFc := va_free (wc := []) hD hS hA [] rfl
          refine va_calli (va_runSN (As := [.int y_6]) (rest := []) ⟨hx, hb, hml, hown, hts⟩ (s_isSmallW l dC dI H.size y_6) ⟨va_cnB 1 hts mg_X6_endOfDoc2_X9_isSmall_53 rfl rfl rfl hN53 (hts (.initialized RX9) (List.mem_of_getElem? (i := 5) (by decide +kernel))) (by decide +kernel) ⟨Nat.le_of_ble_eq_true rfl, Nat.le_of_ble_eq_true rfl⟩, (hts (.static yX9_isSmall) (List.mem_of_getElem? (i := 6) (by decide +kernel))), trivial⟩ ⟨fun a U g mk q => by obtain ⟨q0, q1, qP, qK, qD⟩ := q; exact ⟨q0, q1, qP, va_K.moved (u := U) (U := U.calling g mk a) (Vm.Alike.refl U.vm) qK, qD⟩, fun U hU hW => ⟨rfl, by rw [hU], by rw [hU]; exact hPc, va_K.moved hW.alike hKc, hDc.weaken (fun _ _ _ _ => trivial)⟩⟩ rfl rfl hl.1 rfl (lv_room (Nat.le_of_ble_eq_true rfl)) dX6_endOfDoc_31 ⟨Nat.le_of_ble_eq_true rfl, Nat.le_of_ble_eq_true rfl⟩) hS (fun q _ h => hFc q h) hFc (fun r_8 u t H1 locs ht hvm hw hB hz1 hk1 hS => ?_)
          have hr_8 := hw
          obtain ⟨hP, hD⟩ := va_join (wr := [(rd, .inr (6, rF r a0 a1 a2 a3 a4 a5 a6 a7)), (ta, .inl (cT, nb, .inl ft))]) (w1 := []) hP hD [] [0, 1] rfl rfl (by decide) (by decide) hk1 hFc (fun k q h => by simp at h) ⟨fun i j p q h => by simp at h, fun k q h => by simp at h⟩
          generalize H1 = H at hP hS ⊢
          have hP : va_P (dC, dI) vwCl [(rd, .inr (6, rF r a0 a1 a2 a3 a4 a5 a6 a7)), (ta, .inl (cT, nb, .inl ft))] H := hP
          have hD : va_D A [(rd, .inr (6, rF r a0 a1 a2 a3 a4 a5 a6 a7)), (ta, .inl (cT, nb, .inl ft))] := hD
          refine lv_if_ne (tgt := 47) hx hb dX6_endOfDoc_34 (by decide) (fun k_9 => ?_) (fun k_9 => ?_)
          · have tk_9 := c_ne (a := r_8.toInt) (b := 0) rfl (by decide) k_9
            refine lv_iload hx hb dX6_endOfDoc_47 (lv_at hl 0 rfl) ?_
            refine lv_iload_n hx hb dX6_endOfDoc_49 rfl (lv_at hl 3 rfl) ?_
            refine lv_isub hx hb dX6_endOfDoc_50 ?_
            refine lv_topi (fun y_10 ey_10 => ?_)
            first | have ty_10 := i_sub (a := ax.toInt) (b := i8.toInt) rfl rfl ey_10 (by omega) (by omega) | skip
            refine lv_bipush (v := 60) hx hb dX6_endOfDoc_51 (by decide) ?_
            refine lv_icmp_lt (tgt := 66) hx hb dX6_endOfDoc_53 (by decide) (fun k_11 => ?_) (fun k_11 => ?_)
            · have tk_11 := c_lt (a := y_10.toInt) (b := 60) rfl (by decide) k_11
              obtain ⟨y_12, ey_12⟩ : ∃ y : Int32, y = ax + 1 := ⟨_, rfl⟩
              first | have ty_12 := i_add (a := ax.toInt) (b := 1) rfl (by decide) ey_12 (by omega) (by omega) | skip
              refine lv_iinc (v := y_12) (lv' := [(4, .int y_12), (0, .ref rd), (1, .ref ta), (2, .int i8), (3, .int i9)]) hx hb dX6_endOfDoc_66 hl (k := 0) rfl (by rw [ey_12]; rfl) (by decide) rfl (fun ls hl => ?_)
              refine lv_goto (tgt := 3) hx hb dX6_endOfDoc_69 (by decide) ?_
              exact ih3 y_12 (by first | omega | assumption | decide) (by omega) _ _ ls hP hD hS (lv_sub hl [0, 1, 2, 3, 4] rfl)
            · have tk_11 := c_nlt (a := y_10.toInt) (b := 60) rfl (by decide) k_11
              refine lv_aload_n hx hb dX6_endOfDoc_56 rfl (lv_at hl 1 rfl) ?_
              refine lv_iconst (v := 4) hx hb dX6_endOfDoc_57 (by decide) ?_
              refine lv_iload hx hb dX6_endOfDoc_58 (lv_at hl 0 rfl) ?_
              have hPc := hP.sub (ws' := [(rd, .inr (6, rF r a0 a1 a2 a3 a4 a5 a6 a7))]) [0] rfl
              have hKc := hK.sub (tys' := []) [] rfl
              have hDc := hD.sub (ws' := [(rd, .inr (6, rF r a0 a1 a2 a3 a4 a5 a6 a7))]) [0] (by decide) rfl
              have hFc := va_free (wc := [(rd, .inr (6, rF r a0 a1 a2 a3 a4 a5 a6 a7))]) hD hS hA [0] rfl
              refine va_callv (va_runV (As := [.int 4, .int ax]) (rest := []) ⟨hx, hb, hml, hown, hts⟩ (s_fail l dC dI rd r a0 a1 a2 a3 a4 a5 a6 a7 H.size 4 ax) (cwV 2 hts mg_X6_endOfDoc2_X6_fail_71 rfl rfl rfl (by decide +kernel) ⟨Nat.le_of_ble_eq_true rfl, Nat.le_of_ble_eq_true rfl⟩) ⟨fun a U g mk q => by obtain ⟨q0, q1, qP, qK, qD⟩ := q; exact ⟨q0, q1, qP, va_K.moved (u := U) (U := U.calling g mk a) (Vm.Alike.refl U.vm) qK, qD⟩, va_recv hKc hPc (ci := 6) (q0 := 0) rfl rfl, fun U hU hW => ⟨rfl, by rw [hU], by rw [hU]; exact hPc, va_K.moved hW.alike hKc, hDc.weaken (fun _ _ _ _ => trivial)⟩⟩ rfl rfl hl.1 rfl (lv_room (Nat.le_of_ble_eq_true rfl)) dX6_endOfDoc_60 ⟨Nat.le_of_ble_eq_true rfl, Nat.le_of_ble_eq_true rfl⟩) hS (fun q _ h => hFc q h) hFc (fun u t H1 locs ht hvm hw hB hz1 hk1 hS => ?_)
              obtain ⟨hP1, hK1, hD1⟩ := hB
              rw [ht] at hP1
              obtain ⟨hP, hD⟩ := va_join (wr := [(ta, .inl (cT, nb, .inl ft))]) (w1 := [(rd, .inr (6, rF r 4 ax a2 a3 a4 a5 a6 a7))]) hP hD [0] [1] rfl rfl (by decide) (by decide) hk1 hFc hP1 hD1
              generalize H1 = H at hP hS ⊢
              have hP : va_P (dC, dI) vwCl [(ta, .inl (cT, nb, .inl ft)), (rd, .inr (6, rF r 4 ax a2 a3 a4 a5 a6 a7))] H := hP
              have hD : va_D A [(ta, .inl (cT, nb, .inl ft)), (rd, .inr (6, rF r 4 ax a2 a3 a4 a5 a6 a7))] := hD
              refine lv_iload hx hb dX6_endOfDoc_63 (lv_at hl 0 rfl) ?_
              have hP9 := hP.sub (ws' := [(rd, .inr (6, rF r 4 ax a2 a3 a4 a5 a6 a7)), (ta, .inl (cT, nb, .inl ft))]) [1, 0] rfl
              have hD9 := hD.sub (ws' := [(rd, .inr (6, rF r 4 ax a2 a3 a4 a5 a6 a7)), (ta, .inl (cT, nb, .inl ft))]) [1, 0] (by decide) rfl
              have hK9 := hK.sub (tys' := [(cT, .int)]) [0] rfl
              exact W.iret hx hb hr (fun t ht hW => ⟨⟨_, (), rfl, by omega, 4, ax, by rw [ht]; exact hP9, va_K.moved hW.alike hK9, hD9⟩, hS.F ht⟩) hS.2.2 dX6_endOfDoc_65
          · have tk_9 := c_eq (a := r_8.toInt) (b := 0) rfl (by decide) k_9
            refine lv_aload_n hx hb dX6_endOfDoc_37 rfl (lv_at hl 1 rfl) ?_
            refine lv_iconst (v := 1) hx hb dX6_endOfDoc_38 (by decide) ?_
            refine lv_iload hx hb dX6_endOfDoc_39 (lv_at hl 0 rfl) ?_
            have hPc := hP.sub (ws' := [(rd, .inr (6, rF r a0 a1 a2 a3 a4 a5 a6 a7))]) [0] rfl
            have hKc := hK.sub (tys' := []) [] rfl
            have hDc := hD.sub (ws' := [(rd, .inr (6, rF r a0 a1 a2 a3 a4 a5 a6 a7))]) [0] (by decide) rfl
            have hFc := va_free (wc := [(rd, .inr (6, rF r a0 a1 a2 a3 a4 a5 a6 a7))]) hD hS hA [0] rfl
            refine va_callv (va_runV (As := [.int 1, .int ax]) (rest := []) ⟨hx, hb, hml, hown, hts⟩ (s_fail l dC dI rd r a0 a1 a2 a3 a4 a5 a6 a7 H.size 1 ax) (cwV 2 hts mg_X6_endOfDoc2_X6_fail_71 rfl rfl rfl (by decide +kernel) ⟨Nat.le_of_ble_eq_true rfl, Nat.le_of_ble_eq_true rfl⟩) ⟨fun a U g mk q => by obtain ⟨q0, q1, qP, qK, qD⟩ := q; exact ⟨q0, q1, qP, va_K.moved (u := U) (U := U.calling g mk a) (Vm.Alike.refl U.vm) qK, qD⟩, va_recv hKc hPc (ci := 6) (q0 := 0) rfl rfl, fun U hU hW => ⟨rfl, by rw [hU], by rw [hU]; exact hPc, va_K.moved hW.alike hKc, hDc.weaken (fun _ _ _ _ => trivial)⟩⟩ rfl rfl hl.1 rfl (lv_room (Nat.le_of_ble_eq_true rfl)) dX6_endOfDoc_41 ⟨Nat.le_of_ble_eq_true rfl, Nat.le_of_ble_eq_true rfl⟩) hS (fun q _ h => hFc q h) hFc (fun u t H1 locs ht hvm hw hB hz1 hk1 hS => ?_)
            obtain ⟨hP1, hK1, hD1⟩ := hB
            rw [ht] at hP1
            obtain ⟨hP, hD⟩ := va_join (wr := [(ta, .inl (cT, nb, .inl ft))]) (w1 := [(rd, .inr (6, rF r 1 ax a2 a3 a4 a5 a6 a7))]) hP hD [0] [1] rfl rfl (by decide) (by decide) hk1 hFc hP1 hD1
            generalize H1 = H at hP hS ⊢
            have hP : va_P (dC, dI) vwCl [(ta, .inl (cT, nb, .inl ft)), (rd, .inr (6, rF r 1 ax a2 a3 a4 a5 a6 a7))] H := hP
            have hD : va_D A [(ta, .inl (cT, nb, .inl ft)), (rd, .inr (6, rF r 1 ax a2 a3 a4 a5 a6 a7))] := hD
            refine lv_iload hx hb dX6_endOfDoc_44 (lv_at hl 0 rfl) ?_
            have hP9 := hP.sub (ws' := [(rd, .inr (6, rF r 1 ax a2 a3 a4 a5 a6 a7)), (ta, .inl (cT, nb, .inl ft))]) [1, 0] rfl
            have hD9 := hD.sub (ws' := [(rd, .inr (6, rF r 1 ax a2 a3 a4 a5 a6 a7)), (ta, .inl (cT, nb, .inl ft))]) [1, 0] (by decide) rfl
            have hK9 := hK.sub (tys' := [(cT, .int)]) [0] rfl
            exact W.iret hx hb hr (fun t ht hW => ⟨⟨_, (), rfl, by omega, 1, ax, by rw [ht]; exact hP9, va_K.moved hW.alike hK9, hD9⟩, hS.F ht⟩) hS.2.2 dX6_endOfDoc_46
        · have tk_5 := c_eq (a := y_4.toInt) (b := 34) rfl (by decide) k_5
          refine lv_iload hx hb dX6_endOfDoc_18 (lv_at hl 0 rfl) ?_
          refine lv_iload_n hx hb dX6_endOfDoc_20 rfl (lv_at hl 3 rfl) ?_
          refine lv_icmp_le (tgt := 27) hx hb dX6_endOfDoc_21 (by decide) (fun k_17 => ?_) (fun k_17 => ?_)
          · have tk_17 := c_le (a := ax.toInt) (b := i8.toInt) rfl rfl k_17
            refine lv_aload_n hx hb dX6_endOfDoc_27 rfl (lv_at hl 2 rfl) ?_
            refine lv_iload hx hb dX6_endOfDoc_28 (lv_at hl 0 rfl) ?_
            refine va_iald hx hb hK hP 1 0 rfl rfl (i := ax) (vp_of (a := ax.toInt) rfl (by omega) (by omega)) dX6_endOfDoc_30 ?_
            refine lv_topi (fun y_18 ey_18 => ?_)
            have rg_y_18 := i_rng y_18
            have hPc := hP.sub (ws' := []) [] rfl
            have hKc := hK.sub (tys' := []) [] rfl
            have hDc := hD.sub (ws' := []) [] (by decide) rfl
            have hFc := va_free (wc := []) hD hS hA [] rfl
            refine va_calli (va_runSN (As := [.int y_18]) (rest := []) ⟨hx, hb, hml, hown, hts⟩ (s_isSmallW l dC dI H.size y_18) ⟨va_cnB 1 hts mg_X6_endOfDoc2_X9_isSmall_53 rfl rfl rfl hN53 (hts (.initialized RX9) (List.mem_of_getElem? (i := 5) (by decide +kernel))) (by decide +kernel) ⟨Nat.le_of_ble_eq_true rfl, Nat.le_of_ble_eq_true rfl⟩, (hts (.static yX9_isSmall) (List.mem_of_getElem? (i := 6) (by decide +kernel))), trivial⟩ ⟨fun a U g mk q => by obtain ⟨q0, q1, qP, qK, qD⟩ := q; exact ⟨q0, q1, qP, va_K.moved (u := U) (U := U.calling g mk a) (Vm.Alike.refl U.vm) qK, qD⟩, fun U hU hW => ⟨rfl, by rw [hU], by rw [hU]; exact hPc, va_K.moved hW.alike hKc, hDc.weaken (fun _ _ _ _ => trivial)⟩⟩ rfl rfl hl.1 rfl (lv_room (Nat.le_of_ble_eq_true rfl)) dX6_endOfDoc_31 ⟨Nat.le_of_ble_eq_true rfl, Nat.le_of_ble_eq_true rfl⟩) hS (fun q _ h => hFc q h) hFc (fun r_20 u t H1 locs ht hvm hw hB hz1 hk1 hS => ?_)
            have hr_20 := hw
            obtain ⟨hP, hD⟩ := va_join (wr := [(rd, .inr (6, rF r a0 a1 a2 a3 a4 a5 a6 a7)), (ta, .inl (cT, nb, .inl ft))]) (w1 := []) hP hD [] [0, 1] rfl rfl (by decide) (by decide) hk1 hFc (fun k q h => by simp at h) ⟨fun i j p q h => by simp at h, fun k q h => by simp at h⟩
            generalize H1 = H at hP hS ⊢
            have hP : va_P (dC, dI) vwCl [(rd, .inr (6, rF r a0 a1 a2 a3 a4 a5 a6 a7)), (ta, .inl (cT, nb, .inl ft))] H := hP
            have hD : va_D A [(rd, .inr (6, rF r a0 a1 a2 a3 a4 a5 a6 a7)), (ta, .inl (cT, nb, .inl ft))] := hD
            refine lv_if_ne (tgt := 47) hx hb dX6_endOfDoc_34 (by decide) (fun k_21 => ?_) (fun k_21 => ?_)
            · have tk_21 := c_ne (a := r_20.toInt) (b := 0) rfl (by decide) k_21
              refine lv_iload hx hb dX6_endOfDoc_47 (lv_at hl 0 rfl) ?_
              refine lv_iload_n hx hb dX6_endOfDoc_49 rfl (lv_at hl 3 rfl) ?_
              refine lv_isub hx hb dX6_endOfDoc_50 ?_
              refine lv_topi (fun y_22 ey_22 => ?_)
              first | have ty_22 := i_sub (a := ax.toInt) (b := i8.toInt) rfl rfl ey_22 (by omega) (by omega) | skip
              refine lv_bipush (v := 60) hx hb dX6_endOfDoc_51 (by decide) ?_
              refine lv_icmp_lt (tgt := 66) hx hb dX6_endOfDoc_53 (by decide) (fun k_23 => ?_) (fun k_23 => ?_)
              · have tk_23 := c_lt (a := y_22.toInt) (b := 60) rfl (by decide) k_23
                obtain ⟨y_24, ey_24⟩ : ∃ y : Int32, y = ax + 1 := ⟨_, rfl⟩
                first | have ty_24 := i_add (a := ax.toInt) (b := 1) rfl (by decide) ey_24 (by omega) (by omega) | skip
                refine lv_iinc (v := y_24) (lv' := [(4, .int y_24), (0, .ref rd), (1, .ref ta), (2, .int i8), (3, .int i9)]) hx hb dX6_endOfDoc_66 hl (k := 0) rfl (by rw [ey_24]; rfl) (by decide) rfl (fun ls hl => ?_)
                refine lv_goto (tgt := 3) hx hb dX6_endOfDoc_69 (by decide) ?_
                exact ih3 y_24 (by first | omega | assumption | decide) (by omega) _ _ ls hP hD hS (lv_sub hl [0, 1, 2, 3, 4] rfl)
              · have tk_23 := c_nlt (a := y_22.toInt) (b := 60) rfl (by decide) k_23
                refine lv_aload_n hx hb dX6_endOfDoc_56 rfl (lv_at hl 1 rfl) ?_
                refine lv_iconst (v := 4) hx hb dX6_endOfDoc_57 (by decide) ?_
                refine lv_iload hx hb dX6_endOfDoc_58 (lv_at hl 0 rfl) ?_
                have hPc := hP.sub (ws' := [(rd, .inr (6, rF r a0 a1 a2 a3 a4 a5 a6 a7))]) [0] rfl
                have hKc := hK.sub (tys' := []) [] rfl
                have hDc := hD.sub (ws' := [(rd, .inr (6, rF r a0 a1 a2 a3 a4 a5 a6 a7))]) [0] (by decide) rfl
                have hFc := va_free (wc := [(rd, .inr (6, rF r a0 a1 a2 a3 a4 a5 a6 a7))]) hD hS hA [0] rfl
                refine va_callv (va_runV (As := [.int 4, .int ax]) (rest := []) ⟨hx, hb, hml, hown, hts⟩ (s_fail l dC dI rd r a0 a1 a2 a3 a4 a5 a6 a7 H.size 4 ax) (cwV 2 hts mg_X6_endOfDoc2_X6_fail_71 rfl rfl rfl (by decide +kernel) ⟨Nat.le_of_ble_eq_true rfl, Nat.le_of_ble_eq_true rfl⟩) ⟨fun a U g mk q => by obtain ⟨q0, q1, qP, qK, qD⟩ := q; exact ⟨q0, q1, qP, va_K.moved (u := U) (U := U.calling g mk a) (Vm.Alike.refl U.vm) qK, qD⟩, va_recv hKc hPc (ci := 6) (q0 := 0) rfl rfl, fun U hU hW => ⟨rfl, by rw [hU], by rw [hU]; exact hPc, va_K.moved hW.alike hKc, hDc.weaken (fun _ _ _ _ => trivial)⟩⟩ rfl rfl hl.1 rfl (lv_room (Nat.le_of_ble_eq_true rfl)) dX6_endOfDoc_60 ⟨Nat.le_of_ble_eq_true rfl, Nat.le_of_ble_eq_true rfl⟩) hS (fun q _ h => hFc q h) hFc (fun u t H1 locs ht hvm hw hB hz1 hk1 hS => ?_)
                obtain ⟨hP1, hK1, hD1⟩ := hB
                rw [ht] at hP1
                obtain ⟨hP, hD⟩ := va_join (wr := [(ta, .inl (cT, nb, .inl ft))]) (w1 := [(rd, .inr (6, rF r 4 ax a2 a3 a4 a5 a6 a7))]) hP hD [0] [1] rfl rfl (by decide) (by decide) hk1 hFc hP1 hD1
                generalize H1 = H at hP hS ⊢
                have hP : va_P (dC, dI) vwCl [(ta, .inl (cT, nb, .inl ft)), (rd, .inr (6, rF r 4 ax a2 a3 a4 a5 a6 a7))] H := hP
                have hD : va_D A [(ta, .inl (cT, nb, .inl ft)), (rd, .inr (6, rF r 4 ax a2 a3 a4 a5 a6 a7))] := hD
                refine lv_iload hx hb dX6_endOfDoc_63 (lv_at hl 0 rfl) ?_
                have hP9 := hP.sub (ws' := [(rd, .inr (6, rF r 4 ax a2 a3 a4 a5 a6 a7)), (ta, .inl (cT, nb, .inl ft))]) [1, 0] rfl
                have hD9 := hD.sub (ws' := [(rd, .inr (6, rF r 4 ax a2 a3 a4 a5 a6 a7)), (ta, .inl (cT, nb, .inl ft))]) [1, 0] (by decide) rfl
                have hK9 := hK.sub (tys' := [(cT, .int)]) [0] rfl
                exact W.iret hx hb hr (fun t ht hW => ⟨⟨_, (), rfl, by omega, 4, ax, by rw [ht]; exact hP9, va_K.moved hW.alike hK9, hD9⟩, hS.F ht⟩) hS.2.2 dX6_endOfDoc_65
            · have tk_21 := c_eq (a := r_20.toInt) (b := 0) rfl (by decide) k_21
              refine lv_aload_n hx hb dX6_endOfDoc_37 rfl (lv_at hl 1 rfl) ?_
              refine lv_iconst (v := 1) hx hb dX6_endOfDoc_38 (by decide) ?_
              refine lv_iload hx hb dX6_endOfDoc_39 (lv_at hl 0 rfl) ?_
              have hPc := hP.sub (ws' := [(rd, .inr (6, rF r a0 a1 a2 a3 a4 a5 a6 a7))]) [0] rfl
              have hKc := hK.sub (tys' := []) [] rfl
              have hDc := hD.sub (ws' := [(rd, .inr (6, rF r a0 a1 a2 a3 a4 a5 a6 a7))]) [0] (by decide) rfl
              have hFc := va_free (wc := [(rd, .inr (6, rF r a0 a1 a2 a3 a4 a5 a6 a7))]) hD hS hA [0] rfl
              refine va_callv (va_runV (As := [.int 1, .int ax]) (rest := []) ⟨hx, hb, hml, hown, hts⟩ (s_fail l dC dI rd r a0 a1 a2 a3 a4 a5 a6 a7 H.size 1 ax) (cwV 2 hts mg_X6_endOfDoc2_X6_fail_71 rfl rfl rfl (by decide +kernel) ⟨Nat.le_of_ble_eq_true rfl, Nat.le_of_ble_eq_true rfl⟩) ⟨fun a U g mk q => by obtain ⟨q0, q1, qP, qK, qD⟩ := q; exact ⟨q0, q1, qP, va_K.moved (u := U) (U := U.calling g mk a) (Vm.Alike.refl U.vm) qK, qD⟩, va_recv hKc hPc (ci := 6) (q0 := 0) rfl rfl, fun U hU hW => ⟨rfl, by rw [hU], by rw [hU]; exact hPc, va_K.moved hW.alike hKc, hDc.weaken (fun _ _ _ _ => trivial)⟩⟩ rfl rfl hl.1 rfl (lv_room (Nat.le_of_ble_eq_true rfl)) dX6_endOfDoc_41 ⟨Nat.le_of_ble_eq_true rfl, Nat.le_of_ble_eq_true rfl⟩) hS (fun q _ h => hFc q h) hFc (fun u t H1 locs ht hvm hw hB hz1 hk1 hS => ?_)
              obtain ⟨hP1, hK1, hD1⟩ := hB
              rw [ht] at hP1
              obtain ⟨hP, hD⟩ := va_join (wr := [(ta, .inl (cT, nb, .inl ft))]) (w1 := [(rd, .inr (6, rF r 1 ax a2 a3 a4 a5 a6 a7))]) hP hD [0] [1] rfl rfl (by decide) (by decide) hk1 hFc hP1 hD1
              generalize H1 = H at hP hS ⊢
              have hP : va_P (dC, dI) vwCl [(ta, .inl (cT, nb, .inl ft)), (rd, .inr (6, rF r 1 ax a2 a3 a4 a5 a6 a7))] H := hP
              have hD : va_D A [(ta, .inl (cT, nb, .inl ft)), (rd, .inr (6, rF r 1 ax a2 a3 a4 a5 a6 a7))] := hD
              refine lv_iload hx hb dX6_endOfDoc_44 (lv_at hl 0 rfl) ?_
              have hP9 := hP.sub (ws' := [(rd, .inr (6, rF r 1 ax a2 a3 a4 a5 a6 a7)), (ta, .inl (cT, nb, .inl ft))]) [1, 0] rfl
              have hD9 := hD.sub (ws' := [(rd, .inr (6, rF r 1 ax a2 a3 a4 a5 a6 a7)), (ta, .inl (cT, nb, .inl ft))]) [1, 0] (by decide) rfl
              have hK9 := hK.sub (tys' := [(cT, .int)]) [0] rfl
              exact W.iret hx hb hr (fun t ht hW => ⟨⟨_, (), rfl, by omega, 1, ax, by rw [ht]; exact hP9, va_K.moved hW.alike hK9, hD9⟩, hS.F ht⟩) hS.2.2 dX6_endOfDoc_46
          · have tk_17 := c_nle (a := ax.toInt) (b := i8.toInt) rfl rfl k_17
            refine lv_iload hx hb dX6_endOfDoc_24 (lv_at hl 0 rfl) ?_
            have hP9 := hP.sub (ws' := [(rd, .inr (6, rF r a0 a1 a2 a3 a4 a5 a6 a7)), (ta, .inl (cT, nb, .inl ft))]) [0, 1] rfl
            have hD9 := hD.sub (ws' := [(rd, .inr (6, rF r a0 a1 a2 a3 a4 a5 a6 a7)), (ta, .inl (cT, nb, .inl ft))]) [0, 1] (by decide) rfl
            have hK9 := hK.sub (tys' := [(cT, .int)]) [0] rfl
            exact W.iret hx hb hr (fun t ht hW => ⟨⟨_, (), rfl, by omega, a0, a1, by rw [ht]; exact hP9, va_K.moved hW.alike hK9, hD9⟩, hS.F ht⟩) hS.2.2 dX6_endOfDoc_26
  exact loop3 _ i8 (by first | omega | assumption | decide) (Nat.lt_succ_self _) _ _ ls hP hD hS (lv_sub hl [0, 1, 2, 3, 4] rfl)

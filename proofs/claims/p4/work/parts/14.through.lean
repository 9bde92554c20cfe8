def mwX5_sizeOfb : List Cond := .code yX5_sizeOf cX5_sizeOf 2 (some .int) :: ([.fieldLink RX5 76 "PatternGate$Pattern" "starts" "[I"] ++ wsX50)
theorem fin_X5_sizeOfb_X5 : ∀ w ∈ wsX50, w ∈ mwX5_sizeOfb := fun w h => List.mem_cons_of_mem _ (List.mem_append_right _ h)
set_option maxHeartbeats 4000000 in
set_option maxRecDepth 100000 in
/-- Pattern.sizeOf, bounded -/
theorem s_sizeOfB (l : Launch) (dC : Nat → ClassId) (dI : Nat → Nat → Nat) (pt : Nat) (q : Nat → Nat) (a0 a1 a2 a3 a4 a5 : Int32) (ns : Nat) (fs : Nat → Int32) (cS : ClassId) (nr : Nat) (i : Int32) (hs : ns ≤ 1000) (hi : i.toInt ≤ 1000) (hr9 : nr ≤ 288) (hSt : ∀ i, i < ns → 0 ≤ (fs i).toInt ∧ (fs i).toInt ≤ nr) : Met l yX5_sizeOf mwX5_sizeOfb ({ frames := 0, cells := 0, slots := 0, locals := 0 }) (va_Pc [.ref pt, .int i] (fun U => va_P (dC, dI) vwCl ([(pt, .inr (5, pF q a0 a1 a2 a3 a4 a5)), (q 5, .inl (cS, ns, .inl fs))]) U.heap ∧ va_K (dC, dI) vwCl ([(cS, .int)]) U)) (vp_Si (fun o => -288 ≤ o.toInt ∧ o.toInt ≤ 288)) 0 0 (fun _ => False) := by
  refine Met.ofW (cc := cX5_sizeOf) (maxL := 2) (ret := (some .int)) (by decide +kernel) rfl ?_
  intro p e s m args below meth c s₁ B hml hv
  obtain ⟨rfl, hP, hK⟩ := hv
  have hx := B.exec
  have hb := B.bytes
  have hr := B.returns
  have hts := atoms_spec (ws := mwX5_sizeOfb) B.pre
  have hown : s.vm.findClass RX5 = some m.cls := findClass_of_methodNamed B.named
  have hlocks := B.notSynchronized
  have hP : va_P (dC, dI) vwCl [(pt, .inr (5, pF q a0 a1 a2 a3 a4 a5)), (q 5, .inl (cS, ns, .inl fs))] s.heap := hP
  have hK : va_K (dC, dI) vwCl [(cS, .int)] s := hK
  generalize hH : s.heap = H at hP ⊢
  have hl := lv_entry ([.ref pt, .int i]) (n := 2) (Nat.le_of_ble_eq_true rfl)
  rw [lg_entry_eq]
  generalize (lg_sl ([.ref pt, .int i]) ++ List.replicate (2 - (lg_sl ([.ref pt, .int i])).length) Slot.unset).toArray = ls at hl ⊢
  have hl : lv_has ls 2 [(0, .ref pt), (1, .int i)] := hl
  have rg_i := i_rng i
  refine lv_iload_n hx hb dX5_sizeOf_0 rfl (lv_at hl 1 rfl) ?_
  refine lv_if_lt (tgt := 33) hx hb dX5_sizeOf_1 (by decide) (fun k_1 => ?_) (fun k_1 => ?_)
  · have tk_1 := c_lt (a := i.toInt) (b := 0) rfl (by decide) k_1
    refine lv_iconst (v := 0) hx hb dX5_sizeOf_33 (by decide) ?_
    exact W.iret hx hb hr (fun t ht hW => ⟨_, rfl, (by first | omega | decide), ht.trans hH.symm⟩) t_nil dX5_sizeOf_34
  · have tk_1 := c_nlt (a := i.toInt) (b := 0) rfl (by decide) k_1
    refine lv_iload_n hx hb dX5_sizeOf_4 rfl (lv_at hl 1 rfl) ?_
    refine lv_iconst (v := 1) hx hb dX5_sizeOf_5 (by decide) ?_
    refine lv_iadd hx hb dX5_sizeOf_6 ?_
    refine lv_topi (fun y_2 ey_2 => ?_)
    first | have ty_2 := i_add (a := i.toInt) (b := 1) rfl (by decide) ey_2 (by omega) (by omega) | skip
    refine lv_aload_n hx hb dX5_sizeOf_7 rfl (lv_at hl 0 rfl) ?_
    refine va_get (D := (dC, dI)) (ci := 5) (v := .ref (q 5)) (C := RX5) (T := TX5) (N := 13) hx hb hts fin_X5_sizeOfb_X5 hown hK hP 0 rfl rfl 11 (by decide) (hts (.fieldLink RX5 76 "PatternGate$Pattern" "starts" "[I") (List.mem_of_getElem? (i := 1) (by decide +kernel))) (fun _ h9 => h9) rfl dX5_sizeOf_8 ?_
    refine va_alen hx hb hK hP 1 0 rfl rfl rfl dX5_sizeOf_11 ?_
    refine lv_topi (fun y_3 ey_3 => ?_)
    have ty_3 : y_3.toInt = (ns : Int) := i_len ey_3 (by omega)
    refine lv_icmp_ge (tgt := 33) hx hb dX5_sizeOf_12 (by decide) (fun k_4 => ?_) (fun k_4 => ?_)
    · have tk_4 := c_ge (a := y_2.toInt) (b := y_3.toInt) rfl rfl k_4
      refine lv_iconst (v := 0) hx hb dX5_sizeOf_33 (by decide) ?_
      exact W.iret hx hb hr (fun t ht hW => ⟨_, rfl, (by first | omega | decide), ht.trans hH.symm⟩) t_nil dX5_sizeOf_34
    · have tk_4 := c_nge (a := y_2.toInt) (b := y_3.toInt) rfl rfl k_4
      refine lv_aload_n hx hb dX5_sizeOf_15 rfl (lv_at hl 0 rfl) ?_
      refine va_get (D := (dC, dI)) (ci := 5) (v := .ref (q 5)) (C := RX5) (T := TX5) (N := 13) hx hb hts fin_X5_sizeOfb_X5 hown hK hP 0 rfl rfl 11 (by decide) (hts (.fieldLink RX5 76 "PatternGate$Pattern" "starts" "[I") (List.mem_of_getElem? (i := 1) (by decide +kernel))) (fun _ h9 => h9) rfl dX5_sizeOf_16 ?_
      refine lv_iload_n hx hb dX5_sizeOf_19 rfl (lv_at hl 1 rfl) ?_
      refine lv_iconst (v := 1) hx hb dX5_sizeOf_20 (by decide) ?_
      refine lv_iadd hx hb dX5_sizeOf_21 ?_
      refine lv_topi (fun y_5 ey_5 => ?_)
      first | have ty_5 := i_add (a := i.toInt) (b := 1) rfl (by decide) ey_5 (by omega) (by omega) | skip
      refine va_iald hx hb hK hP 1 0 rfl rfl (i := y_5) (vp_of (a := y_5.toInt) rfl (by omega) (by omega)) dX5_sizeOf_22 ?_
      refine lv_topi (fun y_6 ey_6 => ?_)
      have rg_y_6 := i_rng y_6
      have by_6 : 0 ≤ y_6.toInt ∧ y_6.toInt ≤ (nr : Int) := by rw [ey_6]; exact hSt _ (vp_nat (i := y_5) (a := y_5.toInt) (n := ns) rfl (by omega) (by omega))
      refine lv_aload_n hx hb dX5_sizeOf_23 rfl (lv_at hl 0 rfl) ?_
      refine va_get (D := (dC, dI)) (ci := 5) (v := .ref (q 5)) (C := RX5) (T := TX5) (N := 13) hx hb hts fin_X5_sizeOfb_X5 hown hK hP 0 rfl rfl 11 (by decide) (hts (.fieldLink RX5 76 "PatternGate$Pattern" "starts" "[I") (List.mem_of_getElem? (i := 1) (by decide +kernel))) (fun _ h9 => h9) rfl dX5_sizeOf_24 ?_
      refine lv_iload_n hx hb dX5_sizeOf_27 rfl (lv_at hl 1 rfl) ?_
      refine va_iald hx hb hK hP 1 0 rfl rfl (i := i) (vp_of (a := i.toInt) rfl (by omega) (by omega)) dX5_sizeOf_28 ?_
      refine lv_topi (fun y_7 ey_7 => ?_)
      have rg_y_7 := i_rng y_7
      have by_7 : 0 ≤ y_7.toInt ∧ y_7.toInt ≤ (nr : Int) := by rw [ey_7]; exact hSt _ (vp_nat (i := i) (a := i.toInt) (n := ns) rfl (by omega) (by omega))
      refine lv_isub hx hb dX5_sizeOf_29 ?_
      refine lv_topi (fun y_8 ey_8 => ?_)
      first | have ty_8 := i_sub (a := y_6.toInt) (b := y_7.toInt) rfl rfl ey_8 (by omega) (by omega) | skip
      refine lv_goto (tgt := 34) hx hb dX5_sizeOf_30 (by decide) ?_
      exact W.iret hx hb hr (fun t ht hW => ⟨_, rfl, (by first | omega | decide), ht.trans hH.symm⟩) t_nil dX5_sizeOf_34
def mwX8_leapThroughg : List Cond := .code yX8_leapThrough cX8_leapThrough 9 none :: ([.fieldLink RX8 19 "PatternGate$Walk" "leaps" "I", .fieldLink RX8 9 "PatternGate$Walk" "lists" "[I", .code yJ6_numberOfTrailingZeros_0f7a4 cJ6_numberOfTrailingZeros_0f7a4 2 (some .int), .constant RJ6 264 (65536), .methodLink RX8 54 yJ6_numberOfTrailingZeros_0f7a4, .static yJ6_numberOfTrailingZeros_0f7a4, .initialized RJ6, .fieldLink RX8 15 "PatternGate$Walk" "candidates" "I"] ++ wsX80)
theorem fin_X8_leapThroughg_X8 : ∀ w ∈ wsX80, w ∈ mwX8_leapThroughg := fun w h => List.mem_cons_of_mem _ (List.mem_append_right _ h)
set_option maxRecDepth 20000 in
theorem mg_X8_leapThroughg_J6_numberOfTrailingZeros_0f7a4_54 : GoodIn mwX8_leapThroughg (va_wsS RX8 54 yJ6_numberOfTrailingZeros_0f7a4 mwJ6_numberOfTrailingZeros_0f7a4) := goodIn_r _ [5, 6, 7, 3, 4] (by decide +kernel) (by decide +kernel)
set_option maxHeartbeats 4000000 in
set_option maxRecDepth 100000 in
/-- Walk.leapThrough, any number of LISTS -/
theorem s_leapG (l : Launch) (dC : Nat → ClassId) (dI : Nat → Nat → Nat) (w li : Nat) (cL : ClassId) (f : Nat → Int32) (x0 x1 : Int32) (sz : Nat) (i9 : Int32) (h1 : -10000 ≤ i9.toInt) (h2 : i9.toInt ≤ 24) : Met l yX8_leapThrough mwX8_leapThroughg ({ frames := 1, cells := 0, slots := 0, locals := 60 }) (va_Pc [.ref w, .int i9] (fun U => U.heap.size = sz ∧ va_P (dC, dI) vwCl ([(w, .inr (8, [.int x0, .int x1, .ref li])), (li, .inl (cL, 24, .inl f))]) U.heap ∧ va_K (dC, dI) vwCl ([(cL, .int)]) U ∧ va_D (fun _ => True) ([(w, .inr (8, [.int x0, .int x1, .ref li])), (li, .inl (cL, 24, .inl f))]))) (va_Qv (fun (_ : Unit) => True) (fun _ t => ∃ y0 y1 : Int32, va_P (dC, dI) vwCl [(w, .inr (8, [.int y0, .int y1, .ref li])), (li, .inl (cL, 24, .inl f))] t.heap ∧ va_K (dC, dI) vwCl [(cL, .int)] t ∧ va_D (va_A ([(w, .inr (8, [.int x0, .int x1, .ref li])), (li, .inl (cL, 24, .inl f))]) sz) [(w, .inr (8, [.int y0, .int y1, .ref li])), (li, .inl (cL, 24, .inl f))]) (va_A ([(w, .inr (8, [.int x0, .int x1, .ref li])), (li, .inl (cL, 24, .inl f))]) sz)) 0 0 (va_A ([(w, .inr (8, [.int x0, .int x1, .ref li])), (li, .inl (cL, 24, .inl f))]) sz) := by
  refine Met.ofW (cc := cX8_leapThrough) (maxL := 9) (ret := none) (by decide +kernel) rfl ?_
  intro p e s m args below meth c s₁ B hml hv
  obtain ⟨rfl, hsz, hP, hK, hD0⟩ := hv
  have hx := B.exec
  have hb := B.bytes
  have hr := B.returns
  have hts := atoms_spec (ws := mwX8_leapThroughg) B.pre
  have hown : s.vm.findClass RX8 = some m.cls := findClass_of_methodNamed B.named
  have hlocks := B.notSynchronized
  subst hsz
  have hD := hD0.self (sz := s.heap.size)
  generalize hAe : va_A ([(w, .inr (8, [.int x0, .int x1, .ref li])), (li, .inl (cL, 24, .inl f))]) s.heap.size = A at hD ⊢
  have hA : ∀ q : Nat, s.heap.size ≤ q → A q := fun q h => by rw [← hAe]; exact Or.inr h
  have hP : va_P (dC, dI) vwCl [(w, .inr (8, [.int x0, .int x1, .ref li])), (li, .inl (cL, 24, .inl f))] s.heap := hP
  have hD : va_D A [(w, .inr (8, [.int x0, .int x1, .ref li])), (li, .inl (cL, 24, .inl f))] := hD
  have hK : va_K (dC, dI) vwCl [(cL, .int)] s := hK
  generalize hH : s.heap = H at hP ⊢
  have hS : va_S A s.heap H [] := by rw [← hH]; exact va_S.rf
  have hl := lv_entry ([.ref w, .int i9]) (n := 9) (Nat.le_of_ble_eq_true rfl)
  rw [lg_entry_eq]
  generalize (lg_sl ([.ref w, .int i9]) ++ List.replicate (9 - (lg_sl ([.ref w, .int i9])).length) Slot.unset).toArray = ls at hl ⊢
  have hl : lv_has ls 9 [(0, .ref w), (1, .int i9)] := hl
  have rg_i9 := i_rng i9
  refine lv_iconst (v := 0) hx hb dX8_leapThrough_0 (by decide) ?_
  refine lv_istore_n (lv' := [(2, .int 0), (0, .ref w), (1, .int i9)]) hx hb dX8_leapThrough_1 rfl hl (by decide) rfl (fun ls hl => ?_)
  refine lv_iconst (v := 0) hx hb dX8_leapThrough_2 (by decide) ?_
  refine lv_istore_n (lv' := [(3, .int 0), (2, .int 0), (0, .ref w), (1, .int i9)]) hx hb dX8_leapThrough_3 rfl hl (by decide) rfl (fun ls hl => ?_)
  refine lv_iconst (v := 0) hx hb dX8_leapThrough_4 (by decide) ?_
  refine lv_istore (lv' := [(4, .int 0), (3, .int 0), (2, .int 0), (0, .ref w), (1, .int i9)]) hx hb dX8_leapThrough_5 hl (by decide) rfl (fun ls hl => ?_)
  refine lv_bipush (v := 12) hx hb dX8_leapThrough_7 (by decide) ?_
  refine lv_iload_n hx hb dX8_leapThrough_9 rfl (lv_at hl 4 rfl) ?_
  refine lv_iconst (v := 1) hx hb dX8_leapThrough_10 (by decide) ?_
  refine lv_iadd hx hb dX8_leapThrough_11 ?_
  refine lv_topi (fun y_1 ey_1 => ?_)
  first | have ty_1 := i_add (a := i9.toInt) (b := 1) rfl (by decide) ey_1 (by omega) (by omega) | skip
  refine lv_imul hx hb dX8_leapThrough_12 ?_
  refine lv_topi (fun y_2 ey_2 => ?_)
  first | have ty_2 := i_mul (a := 12) (b := y_1.toInt) (by decide) rfl ey_2 (by omega) (by omega) | skip
  refine lv_istore (lv' := [(5, .int y_2), (4, .int 0), (3, .int 0), (2, .int 0), (0, .ref w), (1, .int i9)]) hx hb dX8_leapThrough_13 hl (by decide) rfl (fun ls hl => ?_)
  refine lv_iconst (v := 0) hx hb dX8_leapThrough_15 (by decide) ?_
  refine lv_istore (lv' := [(6, .int 0), (5, .int y_2), (4, .int 0), (3, .int 0), (2, .int 0), (0, .ref w), (1, .int i9)]) hx hb dX8_leapThrough_16 hl (by decide) rfl (fun ls hl => ?_)
  have loop18 : ∀ (n_18 : Nat) (ax ag wh lp xa xb : Int32), (0 ≤ wh.toInt) → (wh.toInt ≤ 23) → (0 ≤ lp.toInt) → ((1000 - lp.toInt).toNat) < n_18 → ∀ (H : Heap) (locs : List Loc) (ls : Array Slot), va_P (dC, dI) vwCl [(w, .inr (8, [.int xa, .int xb, .ref li])), (li, .inl (cL, 24, .inl f))] H → va_D A [(w, .inr (8, [.int xa, .int xb, .ref li])), (li, .inl (cL, 24, .inl f))] → va_S A s.heap H locs → lv_has ls 9 [(6, .int lp), (5, .int y_2), (4, .int wh), (3, .int ag), (2, .int ax), (0, .ref w), (1, .int i9)] → W p l e (headSpec mwX8_leapThroughg ({ frames := 1, cells := 0, slots := 0, locals := 60 })).room s m ([.ref w, .int i9]).toArray below meth c H locs 0 0 (MQ below (va_Qv (fun (_ : Unit) => True) (fun _ t => ∃ y0 y1 : Int32, va_P (dC, dI) vwCl [(w, .inr (8, [.int y0, .int y1, .ref li])), (li, .inl (cL, 24, .inl f))] t.heap ∧ va_K (dC, dI) vwCl [(cL, .int)] t ∧ va_D A [(w, .inr (8, [.int y0, .int y1, .ref li])), (li, .inl (cL, 24, .inl f))]) A) ([.ref w, .int i9]).toArray s 0 0 A) (F0 m 18 ls []) := by
    intro n_18
    induction n_18 with
    | zero => intro ax ag wh lp xa xb v18_0 v18_1 v18_2 hm18; exact absurd hm18 (Nat.not_lt_zero _)
    | succ n_18 ih18 =>
      intro ax ag wh lp xa xb v18_0 v18_1 v18_2 hm18 H locs ls hP hD hS hl
      have rg_ax := i_rng ax
      have rg_ag := i_rng ag
      have rg_wh := i_rng wh
      have rg_lp := i_rng lp
      have rg_xa := i_rng xa
      have rg_xb := i_rng xb
      refine lv_iload hx hb dX8_leapThrough_18 (lv_at hl 0 rfl) ?_
      refine lv_iload hx hb dX8_leapThrough_20 (lv_at hl 1 rfl) ?_
      refine lv_icmp_ge (tgt := 124) hx hb dX8_leapThrough_22 (by decide) (fun k_3 => ?_) (fun k_3 => ?_)
      · have tk_3 := c_ge (a := lp.toInt) (b := y_2.toInt) rfl rfl k_3
        have hP9 := hP.sub (ws' := [(w, .inr (8, [.int xa, .int xb, .ref li])), (li, .inl (cL, 24, .inl f))]) [0, 1] rfl
        have hD9 := hD.sub (ws' := [(w, .inr (8, [.int xa, .int xb, .ref li])), (li, .inl (cL, 24, .inl f))]) [0, 1] (by decide) rfl
        have hK9 := hK.sub (tys' := [(cL, .int)]) [0] rfl
        exact W.vret hx hb hr (fun t ht hW => ⟨⟨(), rfl, trivial, xa, xb, by rw [ht]; exact hP9, va_K.moved hW.alike hK9, hD9⟩, hS.F ht⟩) hS.2.2 dX8_leapThrough_124
      · have tk_3 := c_nge (a := lp.toInt) (b := y_2.toInt) rfl rfl k_3
        refine lv_aload_n hx hb dX8_leapThrough_25 rfl (lv_at hl 5 rfl) ?_
        refine lv_dup hx hb dX8_leapThrough_26 rfl ?_
        refine va_get (D := (dC, dI)) (ci := 8) (v := .int xb) (C := RX8) (T := TX8) (N := 3) hx hb hts fin_X8_leapThroughg_X8 hown hK hP 0 rfl rfl 1 (by decide) (hts (.fieldLink RX8 19 "PatternGate$Walk" "leaps" "I") (List.mem_of_getElem? (i := 1) (by decide +kernel))) (fun _ h9 => h9) rfl dX8_leapThrough_27 ?_
        refine lv_iconst (v := 1) hx hb dX8_leapThrough_30 (by decide) ?_
        refine lv_iadd hx hb dX8_leapThrough_31 ?_
        refine lv_topi (fun y_4 ey_4 => ?_)
        first | have ty_4 := i_add (a := xb.toInt) (b := 1) rfl (by decide) ey_4 (by omega) (by omega) | skip
        refine va_put (D := (dC, dI)) (ci := 8) (v := .int y_4) (ty := .int) (C := RX8) (T := TX8) (N := 3) hx hb hts fin_X8_leapThroughg_X8 tyX8 tyX8_ok nmX8 hown hK hP hD hS 0 rfl rfl 1 (by decide) (hts (.fieldLink RX8 19 "PatternGate$Walk" "leaps" "I") (List.mem_of_getElem? (i := 1) (by decide +kernel))) (fun _ h9 => h9) rfl (by decide +kernel) rfl rfl (Nat.le_of_ble_eq_true rfl) dX8_leapThrough_32 (fun H locs hP hD hS => ?_)
        have hP : va_P (dC, dI) vwCl [(w, .inr (8, [.int xa, .int y_4, .ref li])), (li, .inl (cL, 24, .inl f))] H := hP
        have hD : va_D A [(w, .inr (8, [.int xa, .int y_4, .ref li])), (li, .inl (cL, 24, .inl f))] := hD
        refine lv_aload_n hx hb dX8_leapThrough_35 rfl (lv_at hl 5 rfl) ?_
        refine va_get (D := (dC, dI)) (ci := 8) (v := .ref li) (C := RX8) (T := TX8) (N := 3) hx hb hts fin_X8_leapThroughg_X8 hown hK hP 0 rfl rfl 2 (by decide) (hts (.fieldLink RX8 9 "PatternGate$Walk" "lists" "[I") (List.mem_of_getElem? (i := 2) (by decide +kernel))) (fun _ h9 => h9) rfl dX8_leapThrough_36 ?_
        refine lv_iload hx hb dX8_leapThrough_39 (lv_at hl 2 rfl) ?_
        refine va_iald hx hb hK hP 1 0 rfl rfl (i := wh) (vp_of (a := wh.toInt) rfl (by omega) (by omega)) dX8_leapThrough_41 ?_
        refine lv_topi (fun y_5 ey_5 => ?_)
        have rg_y_5 := i_rng y_5
        refine lv_iload_n hx hb dX8_leapThrough_42 rfl (lv_at hl 4 rfl) ?_
        refine lv_iushr hx hb dX8_leapThrough_43 rfl ?_
        refine lv_topi (fun y_6 ey_6 => ?_)
        refine lv_iload_n hx hb dX8_leapThrough_44 rfl (lv_at hl 4 rfl) ?_
        refine lv_ishl hx hb dX8_leapThrough_45 ?_
        refine lv_topi (fun y_7 ey_7 => ?_)
        have rg_y_7 := i_rng y_7
        refine lv_istore (lv' := [(7, .int y_7), (6, .int lp), (5, .int y_2), (4, .int wh), (3, .int ag), (2, .int ax), (0, .ref w), (1, .int i9)]) hx hb dX8_leapThrough_46 hl (by decide) rfl (fun ls hl => ?_)
        refine lv_iload hx hb dX8_leapThrough_48 (lv_at hl 0 rfl) ?_
        refine lv_if_ne (tgt := 54) hx hb dX8_leapThrough_50 (by decide) (fun k_8 => ?_) (fun k_8 => ?_)
        · have tk_8 := c_ne (a := y_7.toInt) (b := 0) rfl (by decide) k_8
          refine lv_iload hx hb dX8_leapThrough_54 (lv_at hl 0 rfl) ?_
          refine vp_callSi (W.runS (As := [.int y_7]) (rest := []) ⟨hx, hb, hml, hown, hts⟩ (s_ntz l dC dI y_7) (va_cwS 1 hts mg_X8_leapThroughg_J6_numberOfTrailingZeros_0f7a4_54 rfl rfl rfl (by decide +kernel) ⟨Nat.le_of_ble_eq_true rfl, Nat.le_of_ble_eq_true rfl⟩) ⟨fun a U g mk q => ⟨q.1, trivial⟩, fun U hU hW => ⟨rfl, trivial⟩⟩ rfl rfl hl.1 rfl (lv_room (Nat.le_of_ble_eq_true rfl)) dX8_leapThrough_56 ⟨Nat.le_of_ble_eq_true rfl, Nat.le_of_ble_eq_true rfl⟩) (fun r_10 hw => ?_)
          have hr_10 := hw
          refine lv_istore (lv' := [(8, .int r_10), (7, .int y_7), (6, .int lp), (5, .int y_2), (4, .int wh), (3, .int ag), (2, .int ax), (0, .ref w), (1, .int i9)]) hx hb dX8_leapThrough_59 hl (by decide) rfl (fun ls hl => ?_)
          refine lv_iload hx hb dX8_leapThrough_61 (lv_at hl 0 rfl) ?_
          refine lv_iload_n hx hb dX8_leapThrough_63 rfl (lv_at hl 6 rfl) ?_
          refine lv_icmp_le (tgt := 71) hx hb dX8_leapThrough_64 (by decide) (fun k_11 => ?_) (fun k_11 => ?_)
          · have tk_11 := c_le (a := r_10.toInt) (b := ax.toInt) rfl rfl k_11
            refine lv_iload_n hx hb dX8_leapThrough_71 rfl (lv_at hl 5 rfl) ?_
            refine lv_iconst (v := 1) hx hb dX8_leapThrough_72 (by decide) ?_
            refine lv_iadd hx hb dX8_leapThrough_73 ?_
            refine lv_topi (fun y_12 ey_12 => ?_)
            first | have ty_12 := i_add (a := ag.toInt) (b := 1) rfl (by decide) ey_12 (by omega) (by omega) | skip
            refine lv_istore_n (lv' := [(3, .int y_12), (8, .int r_10), (7, .int y_7), (6, .int lp), (5, .int y_2), (4, .int wh), (2, .int ax), (0, .ref w), (1, .int i9)]) hx hb dX8_leapThrough_74 rfl hl (by decide) rfl (fun ls hl => ?_)
            refine lv_iload hx hb dX8_leapThrough_75 (lv_at hl 1 rfl) ?_
            refine lv_istore_n (lv' := [(2, .int r_10), (3, .int y_12), (8, .int r_10), (7, .int y_7), (6, .int lp), (5, .int y_2), (4, .int wh), (0, .ref w), (1, .int i9)]) hx hb dX8_leapThrough_77 rfl hl (by decide) rfl (fun ls hl => ?_)
            refine lv_iload_n hx hb dX8_leapThrough_78 rfl (lv_at hl 1 rfl) ?_
            refine lv_iload_n hx hb dX8_leapThrough_79 rfl (lv_at hl 8 rfl) ?_
            refine lv_icmp_ne (tgt := 100) hx hb dX8_leapThrough_80 (by decide) (fun k_13 => ?_) (fun k_13 => ?_)
            · have tk_13 := c_ne (a := y_12.toInt) (b := i9.toInt) rfl rfl k_13
              refine lv_iload hx hb dX8_leapThrough_100 (lv_at hl 6 rfl) ?_
              refine lv_iconst (v := 1) hx hb dX8_leapThrough_102 (by decide) ?_
              refine lv_iadd hx hb dX8_leapThrough_103 ?_
              refine lv_topi (fun y_14 ey_14 => ?_)
              first | have ty_14 := i_add (a := wh.toInt) (b := 1) rfl (by decide) ey_14 (by omega) (by omega) | skip
              refine lv_iload_n hx hb dX8_leapThrough_104 rfl (lv_at hl 8 rfl) ?_
              refine lv_icmp_ge (tgt := 115) hx hb dX8_leapThrough_105 (by decide) (fun k_15 => ?_) (fun k_15 => ?_)
              · have tk_15 := c_ge (a := y_14.toInt) (b := i9.toInt) rfl rfl k_15
                refine lv_iconst (v := 0) hx hb dX8_leapThrough_115 (by decide) ?_
                refine lv_istore (lv' := [(4, .int 0), (2, .int r_10), (3, .int y_12), (8, .int r_10), (7, .int y_7), (6, .int lp), (5, .int y_2), (0, .ref w), (1, .int i9)]) hx hb dX8_leapThrough_116 hl (by decide) rfl (fun ls hl => ?_)
                obtain ⟨y_16, ey_16⟩ : ∃ y : Int32, y = lp + 1 := ⟨_, rfl⟩
                first | have ty_16 := i_add (a := lp.toInt) (b := 1) rfl (by decide) ey_16 (by omega) (by omega) | skip
                refine lv_iinc (v := y_16) (lv' := [(6, .int y_16), (4, .int 0), (2, .int r_10), (3, .int y_12), (8, .int r_10), (7, .int y_7), (5, .int y_2), (0, .ref w), (1, .int i9)]) hx hb dX8_leapThrough_118 hl (k := 5) rfl (by rw [ey_16]; rfl) (by decide) rfl (fun ls hl => ?_)
                refine lv_goto (tgt := 18) hx hb dX8_leapThrough_121 (by decide) ?_
                have lit_16 : (0 : Int32).toInt = 0 := by decide
                exact ih18 r_10 y_12 0 y_16 xa y_4 (by first | omega | decide | assumption) (by first | omega | decide | assumption) (by first | omega | decide | assumption) (by omega) _ _ ls hP hD hS (lv_sub hl [0, 6, 1, 3, 2, 7, 8] rfl)
              · have tk_15 := c_nge (a := y_14.toInt) (b := i9.toInt) rfl rfl k_15
                refine lv_iload hx hb dX8_leapThrough_108 (lv_at hl 6 rfl) ?_
                refine lv_iconst (v := 1) hx hb dX8_leapThrough_110 (by decide) ?_
                refine lv_iadd hx hb dX8_leapThrough_111 ?_
                refine lv_topi (fun y_18 ey_18 => ?_)
                first | have ty_18 := i_add (a := wh.toInt) (b := 1) rfl (by decide) ey_18 (by omega) (by omega) | skip
                refine lv_goto (tgt := 116) hx hb dX8_leapThrough_112 (by decide) ?_
                refine lv_istore (lv' := [(4, .int y_18), (2, .int r_10), (3, .int y_12), (8, .int r_10), (7, .int y_7), (6, .int lp), (5, .int y_2), (0, .ref w), (1, .int i9)]) hx hb dX8_leapThrough_116 hl (by decide) rfl (fun ls hl => ?_)
                obtain ⟨y_19, ey_19⟩ : ∃ y : Int32, y = lp + 1 := ⟨_, rfl⟩
                first | have ty_19 := i_add (a := lp.toInt) (b := 1) rfl (by decide) ey_19 (by omega) (by omega) | skip
                refine lv_iinc (v := y_19) (lv' := [(6, .int y_19), (4, .int y_18), (2, .int r_10), (3, .int y_12), (8, .int r_10), (7, .int y_7), (5, .int y_2), (0, .ref w), (1, .int i9)]) hx hb dX8_leapThrough_118 hl (k := 5) rfl (by rw [ey_19]; rfl) (by decide) rfl (fun ls hl => ?_)
                refine lv_goto (tgt := 18) hx hb dX8_leapThrough_121 (by decide) ?_
                exact ih18 r_10 y_12 y_18 y_19 xa y_4 (by first | omega | decide | assumption) (by first | omega | decide | assumption) (by first | omega | decide | assumption) (by omega) _ _ ls hP hD hS (lv_sub hl [0, 6, 1, 3, 2, 7, 8] rfl)
            · have tk_13 := c_eq (a := y_12.toInt) (b := i9.toInt) rfl rfl k_13
              refine lv_aload_n hx hb dX8_leapThrough_83 rfl (lv_at hl 7 rfl) ?_
              refine lv_dup hx hb dX8_leapThrough_84 rfl ?_
              refine va_get (D := (dC, dI)) (ci := 8) (v := .int xa) (C := RX8) (T := TX8) (N := 3) hx hb hts fin_X8_leapThroughg_X8 hown hK hP 0 rfl rfl 0 (by decide) (hts (.fieldLink RX8 15 "PatternGate$Walk" "candidates" "I") (List.mem_of_getElem? (i := 8) (by decide +kernel))) (fun _ h9 => h9) rfl dX8_leapThrough_85 ?_
              refine lv_iconst (v := 1) hx hb dX8_leapThrough_88 (by decide) ?_
              refine lv_iload_n hx hb dX8_leapThrough_89 rfl (lv_at hl 0 rfl) ?_
              refine lv_ishl hx hb dX8_leapThrough_90 ?_
              refine lv_topi (fun y_20 ey_20 => ?_)
              have rg_y_20 := i_rng y_20
              refine lv_ior hx hb dX8_leapThrough_91 ?_
              refine lv_topi (fun y_21 ey_21 => ?_)
              have rg_y_21 := i_rng y_21
              refine va_put (D := (dC, dI)) (ci := 8) (v := .int y_21) (ty := .int) (C := RX8) (T := TX8) (N := 3) hx hb hts fin_X8_leapThroughg_X8 tyX8 tyX8_ok nmX8 hown hK hP hD hS 0 rfl rfl 0 (by decide) (hts (.fieldLink RX8 15 "PatternGate$Walk" "candidates" "I") (List.mem_of_getElem? (i := 8) (by decide +kernel))) (fun _ h9 => h9) rfl (by decide +kernel) rfl rfl (Nat.le_of_ble_eq_true rfl) dX8_leapThrough_92 (fun H locs hP hD hS => ?_)
              have hP : va_P (dC, dI) vwCl [(w, .inr (8, [.int y_21, .int y_4, .ref li])), (li, .inl (cL, 24, .inl f))] H := hP
              have hD : va_D A [(w, .inr (8, [.int y_21, .int y_4, .ref li])), (li, .inl (cL, 24, .inl f))] := hD
              obtain ⟨y_22, ey_22⟩ : ∃ y : Int32, y = r_10 + 1 := ⟨_, rfl⟩
              first | have ty_22 := i_add (a := r_10.toInt) (b := 1) rfl (by decide) ey_22 (by omega) (by omega) | skip
              refine lv_iinc (v := y_22) (lv' := [(2, .int y_22), (3, .int y_12), (8, .int r_10), (7, .int y_7), (6, .int lp), (5, .int y_2), (4, .int wh), (0, .ref w), (1, .int i9)]) hx hb dX8_leapThrough_95 hl (k := 0) rfl (by rw [ey_22]; rfl) (by decide) rfl (fun ls hl => ?_)
              refine lv_iconst (v := 0) hx hb dX8_leapThrough_98 (by decide) ?_
              refine lv_istore_n (lv' := [(3, .int 0), (2, .int y_22), (8, .int r_10), (7, .int y_7), (6, .int lp), (5, .int y_2), (4, .int wh), (0, .ref w), (1, .int i9)]) hx hb dX8_leapThrough_99 rfl hl (by decide) rfl (fun ls hl => ?_)
              refine lv_iload hx hb dX8_leapThrough_100 (lv_at hl 6 rfl) ?_
              refine lv_iconst (v := 1) hx hb dX8_leapThrough_102 (by decide) ?_
              refine lv_iadd hx hb dX8_leapThrough_103 ?_
              refine lv_topi (fun y_23 ey_23 => ?_)
              first | have ty_23 := i_add (a := wh.toInt) (b := 1) rfl (by decide) ey_23 (by omega) (by omega) | skip
              refine lv_iload_n hx hb dX8_leapThrough_104 rfl (lv_at hl 8 rfl) ?_
              refine lv_icmp_ge (tgt := 115) hx hb dX8_leapThrough_105 (by decide) (fun k_24 => ?_) (fun k_24 => ?_)
              · have tk_24 := c_ge (a := y_23.toInt) (b := i9.toInt) rfl rfl k_24
                refine lv_iconst (v := 0) hx hb dX8_leapThrough_115 (by decide) ?_
                refine lv_istore (lv' := [(4, .int 0), (3, .int 0), (2, .int y_22), (8, .int r_10), (7, .int y_7), (6, .int lp), (5, .int y_2), (0, .ref w), (1, .int i9)]) hx hb dX8_leapThrough_116 hl (by decide) rfl (fun ls hl => ?_)
                obtain ⟨y_25, ey_25⟩ : ∃ y : Int32, y = lp + 1 := ⟨_, rfl⟩
                first | have ty_25 := i_add (a := lp.toInt) (b := 1) rfl (by decide) ey_25 (by omega) (by omega) | skip
                refine lv_iinc (v := y_25) (lv' := [(6, .int y_25), (4, .int 0), (3, .int 0), (2, .int y_22), (8, .int r_10), (7, .int y_7), (5, .int y_2), (0, .ref w), (1, .int i9)]) hx hb dX8_leapThrough_118 hl (k := 5) rfl (by rw [ey_25]; rfl) (by decide) rfl (fun ls hl => ?_)
                refine lv_goto (tgt := 18) hx hb dX8_leapThrough_121 (by decide) ?_
                have lit_25 : (0 : Int32).toInt = 0 := by decide
                have lit_26 : (0 : Int32).toInt = 0 := by decide
                exact ih18 y_22 0 0 y_25 y_21 y_4 (by first | omega | decide | assumption) (by first | omega | decide | assumption) (by first | omega | decide | assumption) (by omega) _ _ ls hP hD hS (lv_sub hl [0, 6, 1, 2, 3, 7, 8] rfl)
              · have tk_24 := c_nge (a := y_23.toInt) (b := i9.toInt) rfl rfl k_24
                refine lv_iload hx hb dX8_leapThrough_108 (lv_at hl 6 rfl) ?_
                refine lv_iconst (v := 1) hx hb dX8_leapThrough_110 (by decide) ?_
                refine lv_iadd hx hb dX8_leapThrough_111 ?_
                refine lv_topi (fun y_28 ey_28 => ?_)
                first | have ty_28 := i_add (a := wh.toInt) (b := 1) rfl (by decide) ey_28 (by omega) (by omega) | skip
                refine lv_goto (tgt := 116) hx hb dX8_leapThrough_112 (by decide) ?_
                refine lv_istore (lv' := [(4, .int y_28), (3, .int 0), (2, .int y_22), (8, .int r_10), (7, .int y_7), (6, .int lp), (5, .int y_2), (0, .ref w), (1, .int i9)]) hx hb dX8_leapThrough_116 hl (by decide) rfl (fun ls hl => ?_)
                obtain ⟨y_29, ey_29⟩ : ∃ y : Int32, y = lp + 1 := ⟨_, rfl⟩
                first | have ty_29 := i_add (a := lp.toInt) (b := 1) rfl (by decide) ey_29 (by omega) (by omega) | skip
                refine lv_iinc (v := y_29) (lv' := [(6, .int y_29), (4, .int y_28), (3, .int 0), (2, .int y_22), (8, .int r_10), (7, .int y_7), (5, .int y_2), (0, .ref w), (1, .int i9)]) hx hb dX8_leapThrough_118 hl (k := 5) rfl (by rw [ey_29]; rfl) (by decide) rfl (fun ls hl => ?_)
                refine lv_goto (tgt := 18) hx hb dX8_leapThrough_121 (by decide) ?_
                have lit_29 : (0 : Int32).toInt = 0 := by decide
                exact ih18 y_22 0 y_28 y_29 y_21 y_4 (by first | omega | decide | assumption) (by first | omega | decide | assumption) (by first | omega | decide | assumption) (by omega) _ _ ls hP hD hS (lv_sub hl [0, 6, 1, 2, 3, 7, 8] rfl)
          · have tk_11 := c_nle (a := r_10.toInt) (b := ax.toInt) rfl rfl k_11
            refine lv_iconst (v := 1) hx hb dX8_leapThrough_67 (by decide) ?_
            refine lv_goto (tgt := 74) hx hb dX8_leapThrough_68 (by decide) ?_
            refine lv_istore_n (lv' := [(3, .int 1), (8, .int r_10), (7, .int y_7), (6, .int lp), (5, .int y_2), (4, .int wh), (2, .int ax), (0, .ref w), (1, .int i9)]) hx hb dX8_leapThrough_74 rfl hl (by decide) rfl (fun ls hl => ?_)
            refine lv_iload hx hb dX8_leapThrough_75 (lv_at hl 1 rfl) ?_
            refine lv_istore_n (lv' := [(2, .int r_10), (3, .int 1), (8, .int r_10), (7, .int y_7), (6, .int lp), (5, .int y_2), (4, .int wh), (0, .ref w), (1, .int i9)]) hx hb dX8_leapThrough_77 rfl hl (by decide) rfl (fun ls hl => ?_)
            refine lv_iload_n hx hb dX8_leapThrough_78 rfl (lv_at hl 1 rfl) ?_
            refine lv_iload_n hx hb dX8_leapThrough_79 rfl (lv_at hl 8 rfl) ?_
            refine lv_icmp_ne (tgt := 100) hx hb dX8_leapThrough_80 (by decide) (fun k_31 => ?_) (fun k_31 => ?_)
            · have tk_31 := c_ne (a := 1) (b := i9.toInt) (by decide) rfl k_31
              refine lv_iload hx hb dX8_leapThrough_100 (lv_at hl 6 rfl) ?_
              refine lv_iconst (v := 1) hx hb dX8_leapThrough_102 (by decide) ?_
              refine lv_iadd hx hb dX8_leapThrough_103 ?_
              refine lv_topi (fun y_32 ey_32 => ?_)
              first | have ty_32 := i_add (a := wh.toInt) (b := 1) rfl (by decide) ey_32 (by omega) (by omega) | skip
              refine lv_iload_n hx hb dX8_leapThrough_104 rfl (lv_at hl 8 rfl) ?_
              refine lv_icmp_ge (tgt := 115) hx hb dX8_leapThrough_105 (by decide) (fun k_33 => ?_) (fun k_33 => ?_)
              · have tk_33 := c_ge (a := y_32.toInt) (b := i9.toInt) rfl rfl k_33
                refine lv_iconst (v := 0) hx hb dX8_leapThrough_115 (by decide) ?_
                refine lv_istore (lv' := [(4, .int 0), (2, .int r_10), (3, .int 1), (8, .int r_10), (7, .int y_7), (6, .int lp), (5, .int y_2), (0, .ref w), (1, .int i9)]) hx hb dX8_leapThrough_116 hl (by decide) rfl (fun ls hl => ?_)
                obtain ⟨y_34, ey_34⟩ : ∃ y : Int32, y = lp + 1 := ⟨_, rfl⟩
                first | have ty_34 := i_add (a := lp.toInt) (b := 1) rfl (by decide) ey_34 (by omega) (by omega) | skip
                refine lv_iinc (v := y_34) (lv' := [(6, .int y_34), (4, .int 0), (2, .int r_10), (3, .int 1), (8, .int r_10), (7, .int y_7), (5, .int y_2), (0, .ref w), (1, .int i9)]) hx hb dX8_leapThrough_118 hl (k := 5) rfl (by rw [ey_34]; rfl) (by decide) rfl (fun ls hl => ?_)
                refine lv_goto (tgt := 18) hx hb dX8_leapThrough_121 (by decide) ?_
                have lit_34 : (1 : Int32).toInt = 1 := by decide
                have lit_35 : (0 : Int32).toInt = 0 := by decide
                exact ih18 r_10 1 0 y_34 xa y_4 (by first | omega | decide | assumption) (by first | omega | decide | assumption) (by first | omega | decide | assumption) (by omega) _ _ ls hP hD hS (lv_sub hl [0, 6, 1, 3, 2, 7, 8] rfl)
              · have tk_33 := c_nge (a := y_32.toInt) (b := i9.toInt) rfl rfl k_33
                refine lv_iload hx hb dX8_leapThrough_108 (lv_at hl 6 rfl) ?_
                refine lv_iconst (v := 1) hx hb dX8_leapThrough_110 (by decide) ?_
                refine lv_iadd hx hb dX8_leapThrough_111 ?_
                refine lv_topi (fun y_37 ey_37 => ?_)
                first | have ty_37 := i_add (a := wh.toInt) (b := 1) rfl (by decide) ey_37 (by omega) (by omega) | skip
                refine lv_goto (tgt := 116) hx hb dX8_leapThrough_112 (by decide) ?_
                refine lv_istore (lv' := [(4, .int y_37), (2, .int r_10), (3, .int 1), (8, .int r_10), (7, .int y_7), (6, .int lp), (5, .int y_2), (0, .ref w), (1, .int i9)]) hx hb dX8_leapThrough_116 hl (by decide) rfl (fun ls hl => ?_)
                obtain ⟨y_38, ey_38⟩ : ∃ y : Int32, y = lp + 1 := ⟨_, rfl⟩
                first | have ty_38 := i_add (a := lp.toInt) (b := 1) rfl (by decide) ey_38 (by omega) (by omega) | skip
                refine lv_iinc (v := y_38) (lv' := [(6, .int y_38), (4, .int y_37), (2, .int r_10), (3, .int 1), (8, .int r_10), (7, .int y_7), (5, .int y_2), (0, .ref w), (1, .int i9)]) hx hb dX8_leapThrough_118 hl (k := 5) rfl (by rw [ey_38]; rfl) (by decide) rfl (fun ls hl => ?_)
                refine lv_goto (tgt := 18) hx hb dX8_leapThrough_121 (by decide) ?_
                have lit_38 : (1 : Int32).toInt = 1 := by decide
                exact ih18 r_10 1 y_37 y_38 xa y_4 (by first | omega | decide | assumption) (by first | omega | decide | assumption) (by first | omega | decide | assumption) (by omega) _ _ ls hP hD hS (lv_sub hl [0, 6, 1, 3, 2, 7, 8] rfl)
            · have tk_31 := c_eq (a := 1) (b := i9.toInt) (by decide) rfl k_31
              refine lv_aload_n hx hb dX8_leapThrough_83 rfl (lv_at hl 7 rfl) ?_
              refine lv_dup hx hb dX8_leapThrough_84 rfl ?_
              refine va_get (D := (dC, dI)) (ci := 8) (v := .int xa) (C := RX8) (T := TX8) (N := 3) hx hb hts fin_X8_leapThroughg_X8 hown hK hP 0 rfl rfl 0 (by decide) (hts (.fieldLink RX8 15 "PatternGate$Walk" "candidates" "I") (List.mem_of_getElem? (i := 8) (by decide +kernel))) (fun _ h9 => h9) rfl dX8_leapThrough_85 ?_
              refine lv_iconst (v := 1) hx hb dX8_leapThrough_88 (by decide) ?_
              refine lv_iload_n hx hb dX8_leapThrough_89 rfl (lv_at hl 0 rfl) ?_
              refine lv_ishl hx hb dX8_leapThrough_90 ?_
              refine lv_topi (fun y_40 ey_40 => ?_)
              have rg_y_40 := i_rng y_40
              refine lv_ior hx hb dX8_leapThrough_91 ?_
              refine lv_topi (fun y_41 ey_41 => ?_)
              have rg_y_41 := i_rng y_41
              refine va_put (D := (dC, dI)) (ci := 8) (v := .int y_41) (ty := .int) (C := RX8) (T := TX8) (N := 3) hx hb hts fin_X8_leapThroughg_X8 tyX8 tyX8_ok nmX8 hown hK hP hD hS 0 rfl rfl 0 (by decide) (hts (.fieldLink RX8 15 "PatternGate$Walk" "candidates" "I") (List.mem_of_getElem? (i := 8) (by decide +kernel))) (fun _ h9 => h9) rfl (by decide +kernel) rfl rfl (Nat.le_of_ble_eq_true rfl) dX8_leapThrough_92 (fun H locs hP hD hS => ?_)
              have hP : va_P (dC, dI) vwCl [(w, .inr (8, [.int y_41, .int y_4, .ref li])), (li, .inl (cL, 24, .inl f))] H := hP
              have hD : va_D A [(w, .inr (8, [.int y_41, .int y_4, .ref li])), (li, .inl (cL, 24, .inl f))] := hD
              obtain ⟨y_42, ey_42⟩ : ∃ y : Int32, y = r_10 + 1 := ⟨_, rfl⟩
              first | have ty_42 := i_add (a := r_10.toInt) (b := 1) rfl (by decide) ey_42 (by omega) (by omega) | skip
              refine lv_iinc (v := y_42) (lv' := [(2, .int y_42), (3, .int 1), (8, .int r_10), (7, .int y_7), (6, .int lp), (5, .int y_2), (4, .int wh), (0, .ref w), (1, .int i9)]) hx hb dX8_leapThrough_95 hl (k := 0) rfl (by rw [ey_42]; rfl) (by decide) rfl (fun ls hl => ?_)
              refine lv_iconst (v := 0) hx hb dX8_leapThrough_98 (by decide) ?_
              refine lv_istore_n (lv' := [(3, .int 0), (2, .int y_42), (8, .int r_10), (7, .int y_7), (6, .int lp), (5, .int y_2), (4, .int wh), (0, .ref w), (1, .int i9)]) hx hb dX8_leapThrough_99 rfl hl (by decide) rfl (fun ls hl => ?_)
              refine lv_iload hx hb dX8_leapThrough_100 (lv_at hl 6 rfl) ?_
              refine lv_iconst (v := 1) hx hb dX8_leapThrough_102 (by decide) ?_
              refine lv_iadd hx hb dX8_leapThrough_103 ?_
              refine lv_topi (fun y_43 ey_43 => ?_)
              first | have ty_43 := i_add (a := wh.toInt) (b := 1) rfl (by decide) ey_43 (by omega) (by omega) | skip
              refine lv_iload_n hx hb dX8_leapThrough_104 rfl (lv_at hl 8 rfl) ?_
              refine lv_icmp_ge (tgt := 115) hx hb dX8_leapThrough_105 (by decide) (fun k_44 => ?_) (fun k_44 => ?_)
              · have tk_44 := c_ge (a := y_43.toInt) (b := i9.toInt) rfl rfl k_44
                refine lv_iconst (v := 0) hx hb dX8_leapThrough_115 (by decide) ?_
                refine lv_istore (lv' := [(4, .int 0), (3, .int 0), (2, .int y_42), (8, .int r_10), (7, .int y_7), (6, .int lp), (5, .int y_2), (0, .ref w), (1, .int i9)]) hx hb dX8_leapThrough_116 hl (by decide) rfl (fun ls hl => ?_)
                obtain ⟨y_45, ey_45⟩ : ∃ y : Int32, y = lp + 1 := ⟨_, rfl⟩
                first | have ty_45 := i_add (a := lp.toInt) (b := 1) rfl (by decide) ey_45 (by omega) (by omega) | skip
                refine lv_iinc (v := y_45) (lv' := [(6, .int y_45), (4, .int 0), (3, .int 0), (2, .int y_42), (8, .int r_10), (7, .int y_7), (5, .int y_2), (0, .ref w), (1, .int i9)]) hx hb dX8_leapThrough_118 hl (k := 5) rfl (by rw [ey_45]; rfl) (by decide) rfl (fun ls hl => ?_)
                refine lv_goto (tgt := 18) hx hb dX8_leapThrough_121 (by decide) ?_
                have lit_45 : (0 : Int32).toInt = 0 := by decide
                have lit_46 : (0 : Int32).toInt = 0 := by decide
                exact ih18 y_42 0 0 y_45 y_41 y_4 (by first | omega | decide | assumption) (by first | omega | decide | assumption) (by first | omega | decide | assumption) (by omega) _ _ ls hP hD hS (lv_sub hl [0, 6, 1, 2, 3, 7, 8] rfl)
              · have tk_44 := c_nge (a := y_43.toInt) (b := i9.toInt) rfl rfl k_44
                refine lv_iload hx hb dX8_leapThrough_108 (lv_at hl 6 rfl) ?_
                refine lv_iconst (v := 1) hx hb dX8_leapThrough_110 (by decide) ?_
                refine lv_iadd hx hb dX8_leapThrough_111 ?_
                refine lv_topi (fun y_48 ey_48 => ?_)
                first | have ty_48 := i_add (a := wh.toInt) (b := 1) rfl (by decide) ey_48 (by omega) (by omega) | skip
                refine lv_goto (tgt := 116) hx hb dX8_leapThrough_112 (by decide) ?_
                refine lv_istore (lv' := [(4, .int y_48), (3, .int 0), (2, .int y_42), (8, .int r_10), (7, .int y_7), (6, .int lp), (5, .int y_2), (0, .ref w), (1, .int i9)]) hx hb dX8_leapThrough_116 hl (by decide) rfl (fun ls hl => ?_)
                obtain ⟨y_49, ey_49⟩ : ∃ y : Int32, y = lp + 1 := ⟨_, rfl⟩
                first | have ty_49 := i_add (a := lp.toInt) (b := 1) rfl (by decide) ey_49 (by omega) (by omega) | skip
                refine lv_iinc (v := y_49) (lv' := [(6, .int y_49), (4, .int y_48), (3, .int 0), (2, .int y_42), (8, .int r_10), (7, .int y_7), (5, .int y_2), (0, .ref w), (1, .int i9)]) hx hb dX8_leapThrough_118 hl (k := 5) rfl (by rw [ey_49]; rfl) (by decide) rfl (fun ls hl => ?_)
                refine lv_goto (tgt := 18) hx hb dX8_leapThrough_121 (by decide) ?_
                have lit_49 : (0 : Int32).toInt = 0 := by decide
                exact ih18 y_42 0 y_48 y_49 y_41 y_4 (by first | omega | decide | assumption) (by first | omega | decide | assumption) (by first | omega | decide | assumption) (by omega) _ _ ls hP hD hS (lv_sub hl [0, 6, 1, 2, 3, 7, 8] rfl)
        · have tk_8 := c_eq (a := y_7.toInt) (b := 0) rfl (by decide) k_8
          have hP9 := hP.sub (ws' := [(w, .inr (8, [.int xa, .int y_4, .ref li])), (li, .inl (cL, 24, .inl f))]) [0, 1] rfl
          have hD9 := hD.sub (ws' := [(w, .inr (8, [.int xa, .int y_4, .ref li])), (li, .inl (cL, 24, .inl f))]) [0, 1] (by decide) rfl
          have hK9 := hK.sub (tys' := [(cL, .int)]) [0] rfl
          exact W.vret hx hb hr (fun t ht hW => ⟨⟨(), rfl, trivial, xa, y_4, by rw [ht]; exact hP9, va_K.moved hW.alike hK9, hD9⟩, hS.F ht⟩) hS.2.2 dX8_leapThrough_53
  have lit_50 : (0 : Int32).toInt = 0 := by decide
  have lit_51 : (0 : Int32).toInt = 0 := by decide
  have lit_52 : (0 : Int32).toInt = 0 := by decide
  have lit_53 : (0 : Int32).toInt = 0 := by decide
  exact loop18 _ 0 0 0 0 x0 x1 (by first | omega | decide | assumption) (by first | omega | decide | assumption) (by first | omega | decide | assumption) (Nat.lt_succ_self _) _ _ ls hP hD hS (lv_sub hl [0, 1, 2, 3, 4, 5, 6] rfl)
theorem dX8_through_0 : decode cX8_through 0 = .ok (.aload_n 0, 1) := by decide +kernel
theorem dX8_through_1 : decode cX8_through 1 = .ok (.iconst 0, 1) := by decide +kernel
theorem dX8_through_2 : decode cX8_through 2 = .ok (.putfield 15, 3) := by decide +kernel
theorem dX8_through_5 : decode cX8_through 5 = .ok (.aload_n 0, 1) := by decide +kernel
theorem dX8_through_6 : decode cX8_through 6 = .ok (.iconst 0, 1) := by decide +kernel
theorem dX8_through_7 : decode cX8_through 7 = .ok (.putfield 19, 3) := by decide +kernel
theorem dX8_through_10 : decode cX8_through 10 = .ok (.iconst 0, 1) := by decide +kernel
theorem dX8_through_11 : decode cX8_through 11 = .ok (.istore_n 3, 1) := by decide +kernel
theorem dX8_through_12 : decode cX8_through 12 = .ok (.iload_n 3, 1) := by decide +kernel
theorem dX8_through_13 : decode cX8_through 13 = .ok (.aload_n 1, 1) := by decide +kernel
theorem dX8_through_14 : decode cX8_through 14 = .ok (.invokevirtual 22, 3) := by decide +kernel
theorem dX8_through_17 : decode cX8_through 17 = .ok (.if_icmp .ge 90, 3) := by decide +kernel
theorem dX8_through_20 : decode cX8_through 20 = .ok (.aload_n 1, 1) := by decide +kernel
theorem dX8_through_21 : decode cX8_through 21 = .ok (.iload_n 3, 1) := by decide +kernel
theorem dX8_through_22 : decode cX8_through 22 = .ok (.invokevirtual 28, 3) := by decide +kernel
theorem dX8_through_25 : decode cX8_through 25 = .ok (.aload_n 0, 1) := by decide +kernel
theorem dX8_through_26 : decode cX8_through 26 = .ok (.getfield 9, 3) := by decide +kernel
theorem dX8_through_29 : decode cX8_through 29 = .ok (.arraylength, 1) := by decide +kernel
theorem dX8_through_30 : decode cX8_through 30 = .ok (.invokestatic 32, 3) := by decide +kernel
theorem dX8_through_33 : decode cX8_through 33 = .ok (.istore 4, 2) := by decide +kernel
theorem dX8_through_35 : decode cX8_through 35 = .ok (.iload 4, 2) := by decide +kernel
theorem dX8_through_37 : decode cX8_through 37 = .ok (.ifCond .ne 24, 3) := by decide +kernel
theorem dX8_through_40 : decode cX8_through 40 = .ok (.aload_n 0, 1) := by decide +kernel
theorem dX8_through_41 : decode cX8_through 41 = .ok (.dup, 1) := by decide +kernel
theorem dX8_through_42 : decode cX8_through 42 = .ok (.getfield 15, 3) := by decide +kernel
theorem dX8_through_45 : decode cX8_through 45 = .ok (.iconst 1, 1) := by decide +kernel
theorem dX8_through_46 : decode cX8_through 46 = .ok (.aload_n 2, 1) := by decide +kernel
theorem dX8_through_47 : decode cX8_through 47 = .ok (.getfield 38, 3) := by decide +kernel
theorem dX8_through_50 : decode cX8_through 50 = .ok (.arraylength, 1) := by decide +kernel
theorem dX8_through_51 : decode cX8_through 51 = .ok (.ishl, 1) := by decide +kernel
theorem dX8_through_52 : decode cX8_through 52 = .ok (.iconst 1, 1) := by decide +kernel
theorem dX8_through_53 : decode cX8_through 53 = .ok (.isub, 1) := by decide +kernel
theorem dX8_through_54 : decode cX8_through 54 = .ok (.ior, 1) := by decide +kernel
theorem dX8_through_55 : decode cX8_through 55 = .ok (.putfield 15, 3) := by decide +kernel
theorem dX8_through_58 : decode cX8_through 58 = .ok (.goto 43, 3) := by decide +kernel
theorem dX8_through_61 : decode cX8_through 61 = .ok (.iconst 0, 1) := by decide +kernel
theorem dX8_through_62 : decode cX8_through 62 = .ok (.istore 5, 2) := by decide +kernel
theorem dX8_through_64 : decode cX8_through 64 = .ok (.iload 5, 2) := by decide +kernel
theorem dX8_through_66 : decode cX8_through 66 = .ok (.iload 4, 2) := by decide +kernel
theorem dX8_through_68 : decode cX8_through 68 = .ok (.if_icmp .ge 27, 3) := by decide +kernel
theorem dX8_through_71 : decode cX8_through 71 = .ok (.aload_n 0, 1) := by decide +kernel
theorem dX8_through_72 : decode cX8_through 72 = .ok (.getfield 9, 3) := by decide +kernel
theorem dX8_through_75 : decode cX8_through 75 = .ok (.iload 5, 2) := by decide +kernel
theorem dX8_through_77 : decode cX8_through 77 = .ok (.aload_n 2, 1) := by decide +kernel
theorem dX8_through_78 : decode cX8_through 78 = .ok (.aload_n 1, 1) := by decide +kernel
theorem dX8_through_79 : decode cX8_through 79 = .ok (.iload_n 3, 1) := by decide +kernel
theorem dX8_through_80 : decode cX8_through 80 = .ok (.iload 5, 2) := by decide +kernel
theorem dX8_through_82 : decode cX8_through 82 = .ok (.invokevirtual 44, 3) := by decide +kernel
theorem dX8_through_85 : decode cX8_through 85 = .ok (.invokevirtual 47, 3) := by decide +kernel
theorem dX8_through_88 : decode cX8_through 88 = .ok (.iastore, 1) := by decide +kernel
theorem dX8_through_89 : decode cX8_through 89 = .ok (.iinc 5 1, 3) := by decide +kernel
theorem dX8_through_92 : decode cX8_through 92 = .ok (.goto (-28), 3) := by decide +kernel
theorem dX8_through_95 : decode cX8_through 95 = .ok (.aload_n 0, 1) := by decide +kernel
theorem dX8_through_96 : decode cX8_through 96 = .ok (.iload 4, 2) := by decide +kernel
theorem dX8_through_98 : decode cX8_through 98 = .ok (.invokevirtual 50, 3) := by decide +kernel
theorem dX8_through_101 : decode cX8_through 101 = .ok (.iinc 3 1, 3) := by decide +kernel
theorem dX8_through_104 : decode cX8_through 104 = .ok (.goto (-92), 3) := by decide +kernel
theorem dX8_through_107 : decode cX8_through 107 = .ok (.return_, 1) := by decide +kernel
def mwX8_through : List Cond := .code yX8_through cX8_through 6 none :: ([.fieldLink RX8 15 "PatternGate$Walk" "candidates" "I", .fieldLink RX8 19 "PatternGate$Walk" "leaps" "I", .code yX5_choices cX5_choices 1 (some .int), .fieldLink RX5 76 "PatternGate$Pattern" "starts" "[I", .methodLink RX8 22 yX5_choices, .instanceMethod yX5_choices, .selects RX5 yX5_choices yX5_choices, .initialized RX5, .code yX5_sizeOf cX5_sizeOf 2 (some .int), .methodLink RX8 28 yX5_sizeOf, .instanceMethod yX5_sizeOf, .selects RX5 yX5_sizeOf yX5_sizeOf, .fieldLink RX8 9 "PatternGate$Walk" "lists" "[I", .methodLink RX8 32 Lib.Math.min.name, .static Lib.Math.min.name, .initialized "java/lang/Math", .code Lib.Math.min.name Lib.Math.min.code 2 (some .int), .code yX8_leapThrough cX8_leapThrough 9 none, .code yJ6_numberOfTrailingZeros_0f7a4 cJ6_numberOfTrailingZeros_0f7a4 2 (some .int), .constant RJ6 264 (65536), .methodLink RX8 54 yJ6_numberOfTrailingZeros_0f7a4, .static yJ6_numberOfTrailingZeros_0f7a4, .initialized RJ6, .methodLink RX8 50 yX8_leapThrough, .instanceMethod yX8_leapThrough, .selects RX8 yX8_leapThrough yX8_leapThrough, .initialized RX8, .code yX5_tripleAt cX5_tripleAt 4 (some .int), .fieldLink RX5 83 "PatternGate$Pattern" "triples" "[I", .methodLink RX8 44 yX5_tripleAt, .instanceMethod yX5_tripleAt, .selects RX5 yX5_tripleAt yX5_tripleAt, .code yX0_listBits cX0_listBits 4 (some .int), .fieldLink RX0 7 "PatternGate$Book" "docs" "[LPatternGate$Doc;", .code yX2_has cX2_has 5 (some .boolean), .fieldLink RX2 15 "PatternGate$Doc" "triples" "[I", .methodLink RX0 21 yX2_has, .instanceMethod yX2_has, .selects RX2 yX2_has yX2_has, .initialized RX2, .methodLink RX8 47 yX0_listBits, .instanceMethod yX0_listBits, .selects RX0 yX0_listBits yX0_listBits, .initialized RX0, .fieldLink RX8 38 "PatternGate$Book" "docs" "[LPatternGate$Doc;"] ++ wsX80 ++ wsX50 ++ wsX00 ++ wsX20)
theorem fin_X8_through_X0 : ∀ w ∈ wsX00, w ∈ mwX8_through := fun w h => List.mem_cons_of_mem _ (List.mem_append_left _ (List.mem_append_right _ h))
theorem fin_X8_through_X8 : ∀ w ∈ wsX80, w ∈ mwX8_through := fun w h => List.mem_cons_of_mem _ (List.mem_append_left _ (List.mem_append_left _ (List.mem_append_left _ (List.mem_append_right _ h))))
set_option maxRecDepth 20000 in
theorem mg_X8_through_X5_choices_22 : GoodIn mwX8_through (wsV RX8 22 RX5 yX5_choices mwX5_choices) := goodIn_r _ [5, 6, 7, 8, 3, 4, 49, 50, 51, 52, 53, 54, 55, 56, 57, 58, 59, 60, 61] (by decide +kernel) (by decide +kernel)
set_option maxRecDepth 20000 in
theorem mg_X8_through_X5_sizeOf_28 : GoodIn mwX8_through (wsV RX8 28 RX5 yX5_sizeOf mwX5_sizeOfb) := goodIn_r _ [10, 11, 12, 8, 9, 4, 49, 50, 51, 52, 53, 54, 55, 56, 57, 58, 59, 60, 61] (by decide +kernel) (by decide +kernel)
set_option maxRecDepth 20000 in
theorem mg_X8_through_X8_leapThrough_50 : GoodIn mwX8_through (wsV RX8 50 RX8 yX8_leapThrough mwX8_leapThroughg) := goodIn_r _ [24, 25, 26, 27, 18, 2, 13, 19, 20, 21, 22, 23, 1, 46, 47, 48] (by decide +kernel) (by decide +kernel)
set_option maxRecDepth 20000 in
theorem mg_X8_through_X5_tripleAt_44 : GoodIn mwX8_through (wsV RX8 44 RX5 yX5_tripleAt mwX5_tripleAt) := goodIn_r _ [30, 31, 32, 8, 28, 4, 29, 49, 50, 51, 52, 53, 54, 55, 56, 57, 58, 59, 60, 61] (by decide +kernel) (by decide +kernel)
set_option maxRecDepth 20000 in
theorem mg_X8_through_X0_listBits_47 : GoodIn mwX8_through (wsV RX8 47 RX0 yX0_listBits mwX0_listBits) := goodIn_r _ [41, 42, 43, 44, 33, 34, 35, 36, 37, 38, 39, 40, 62, 63, 64, 65, 66] (by decide +kernel) (by decide +kernel)
set_option maxHeartbeats 4000000 in
set_option maxRecDepth 100000 in
/-- Walk.through -/
theorem s_through (l : Launch) (dC : Nat → ClassId) (dI : Nat → Nat → Nat) (W9 : va_W) (T9 : List (ClassId × FieldType)) (pt b w li : Nat) (cL : ClassId) (f : Nat → Int32) (x0 x1 : Int32) (sz : Nat) (hPt : poP W9 T9 pt) (hB : poB W9 T9 b) : Met l yX8_through mwX8_through ({ frames := 2, cells := 0, slots := 0, locals := 120 }) (va_Pc [.ref w, .ref pt, .ref b] (fun U => U.heap.size = sz ∧ va_P (dC, dI) vwCl ([(w, .inr (8, [.int x0, .int x1, .ref li])), (li, .inl (cL, 24, .inl f))]) U.heap ∧ va_K (dC, dI) vwCl ([(cL, .int)]) U ∧ va_D (fun _ => True) ([(w, .inr (8, [.int x0, .int x1, .ref li])), (li, .inl (cL, 24, .inl f))]) ∧ va_P (dC, dI) vwCl W9 U.heap ∧ va_K (dC, dI) vwCl T9 U ∧ (∀ q ∈ W9, ¬ va_A ([(w, .inr (8, [.int x0, .int x1, .ref li])), (li, .inl (cL, 24, .inl f))]) sz q.1))) (va_Qv (fun (_ : Unit) => True) (fun _ t => ∃ (y0 y1 : Int32) (f9 : Nat → Int32), va_P (dC, dI) vwCl [(w, .inr (8, [.int y0, .int y1, .ref li])), (li, .inl (cL, 24, .inl f9))] t.heap ∧ va_K (dC, dI) vwCl [(cL, .int)] t ∧ va_D (va_A ([(w, .inr (8, [.int x0, .int x1, .ref li])), (li, .inl (cL, 24, .inl f))]) sz) [(w, .inr (8, [.int y0, .int y1, .ref li])), (li, .inl (cL, 24, .inl f9))]) (va_A ([(w, .inr (8, [.int x0, .int x1, .ref li])), (li, .inl (cL, 24, .inl f))]) sz)) 0 0 (va_A ([(w, .inr (8, [.int x0, .int x1, .ref li])), (li, .inl (cL, 24, .inl f))]) sz) := by
  refine Met.ofW (cc := cX8_through) (maxL := 6) (ret := none) (by decide +kernel) rfl ?_
  intro p e s m args below meth c s₁ B hml hv
  obtain ⟨rfl, hsz, hP, hK, hD0, hQ0, hKQ, hQA⟩ := hv
  have hx := B.exec
  have hb := B.bytes
  have hr := B.returns
  have hts := atoms_spec (ws := mwX8_through) B.pre
  have hown : s.vm.findClass RX8 = some m.cls := findClass_of_methodNamed B.named
  have hlocks := B.notSynchronized
  subst hsz
  have hD := hD0.self (sz := s.heap.size)
  generalize hAe : va_A ([(w, .inr (8, [.int x0, .int x1, .ref li])), (li, .inl (cL, 24, .inl f))]) s.heap.size = A at hD hQA ⊢
  have hA : ∀ q : Nat, s.heap.size ≤ q → A q := fun q h => by rw [← hAe]; exact Or.inr h
  have hP : va_P (dC, dI) vwCl [(w, .inr (8, [.int x0, .int x1, .ref li])), (li, .inl (cL, 24, .inl f))] s.heap := hP
  have hD : va_D A [(w, .inr (8, [.int x0, .int x1, .ref li])), (li, .inl (cL, 24, .inl f))] := hD
  have hK : va_K (dC, dI) vwCl [(cL, .int)] s := hK
  generalize hH : s.heap = H at hP ⊢
  have hS : va_S A s.heap H [] := by rw [← hH]; exact va_S.rf
  have hQ := q_at hQ0 hQA hS
  have hl := lv_entry ([.ref w, .ref pt, .ref b]) (n := 6) (Nat.le_of_ble_eq_true rfl)
  rw [lg_entry_eq]
  generalize (lg_sl ([.ref w, .ref pt, .ref b]) ++ List.replicate (6 - (lg_sl ([.ref w, .ref pt, .ref b])).length) Slot.unset).toArray = ls at hl ⊢
  have hl : lv_has ls 6 [(0, .ref w), (1, .ref pt), (2, .ref b)] := hl
  obtain ⟨q_1, a_2, a_3, a_4, a_5, a_6, a_7, n_8, n_9, n_10, n_11, n_12, n_13, f_14, f_15, f_16, f_17, f_18, f_19, c_20, c_21, c_22, c_23, c_24, c_25, m_26, ⟨m_27, m_28⟩, ⟨m_29, m_30⟩, ⟨m_31, m_32⟩, ⟨m_33, m_34⟩, ⟨m_35, m_36⟩, ⟨m_37, m_38⟩, h_39, h_40, h_41, h_42, h_43, h_44, h_45, h_46, h_47, h_48⟩ := hPt
  obtain ⟨k_49, hk_49⟩ := List.getElem?_of_mem m_26
  obtain ⟨k_50, hk_50⟩ := List.getElem?_of_mem m_33
  obtain ⟨j_51, hj_51⟩ := List.getElem?_of_mem m_34
  obtain ⟨k_52, hk_52⟩ := List.getElem?_of_mem m_35
  obtain ⟨j_53, hj_53⟩ := List.getElem?_of_mem m_36
  have hB0 := hB
  obtain ⟨ds, ps, nd, np, ear, fd, fp, cD, cP, m1, m2, m3, m4, m5, hnd, hnp, hds, hps⟩ := hB
  obtain ⟨k_54, hk_54⟩ := List.getElem?_of_mem m1
  obtain ⟨k_55, hk_55⟩ := List.getElem?_of_mem m2
  obtain ⟨j_56, hj_56⟩ := List.getElem?_of_mem m3
  obtain ⟨k_57, hk_57⟩ := List.getElem?_of_mem m4
  obtain ⟨j_58, hj_58⟩ := List.getElem?_of_mem m5
  refine lv_aload_n hx hb dX8_through_0 rfl (lv_at hl 0 rfl) ?_
  refine lv_iconst (v := 0) hx hb dX8_through_1 (by decide) ?_
  refine va_put (D := (dC, dI)) (ci := 8) (v := .int 0) (ty := .int) (C := RX8) (T := TX8) (N := 3) hx hb hts fin_X8_through_X8 tyX8 tyX8_ok nmX8 hown hK hP hD hS 0 rfl rfl 0 (by decide) (hts (.fieldLink RX8 15 "PatternGate$Walk" "candidates" "I") (List.mem_of_getElem? (i := 1) (by decide +kernel))) (fun _ h9 => h9) rfl (by decide +kernel) rfl rfl (Nat.le_of_ble_eq_true rfl) dX8_through_2 (fun H locs hP hD hS => ?_)
  have hP : va_P (dC, dI) vwCl [(w, .inr (8, [.int 0, .int x1, .ref li])), (li, .inl (cL, 24, .inl f))] H := hP
  have hD : va_D A [(w, .inr (8, [.int 0, .int x1, .ref li])), (li, .inl (cL, 24, .inl f))] := hD
  have hQ := q_at hQ0 hQA hS
  refine lv_aload_n hx hb dX8_through_5 rfl (lv_at hl 0 rfl) ?_
  refine lv_iconst (v := 0) hx hb dX8_through_6 (by decide) ?_
  refine va_put (D := (dC, dI)) (ci := 8) (v := .int 0) (ty := .int) (C := RX8) (T := TX8) (N := 3) hx hb hts fin_X8_through_X8 tyX8 tyX8_ok nmX8 hown hK hP hD hS 0 rfl rfl 1 (by decide) (hts (.fieldLink RX8 19 "PatternGate$Walk" "leaps" "I") (List.mem_of_getElem? (i := 2) (by decide +kernel))) (fun _ h9 => h9) rfl (by decide +kernel) rfl rfl (Nat.le_of_ble_eq_true rfl) dX8_through_7 (fun H locs hP hD hS => ?_)
  have hP : va_P (dC, dI) vwCl [(w, .inr (8, [.int 0, .int 0, .ref li])), (li, .inl (cL, 24, .inl f))] H := hP
  have hD : va_D A [(w, .inr (8, [.int 0, .int 0, .ref li])), (li, .inl (cL, 24, .inl f))] := hD
  have hQ := q_at hQ0 hQA hS
  refine lv_iconst (v := 0) hx hb dX8_through_10 (by decide) ?_
  refine lv_istore_n (lv' := [(3, .int 0), (0, .ref w), (1, .ref pt), (2, .ref b)]) hx hb dX8_through_11 rfl hl (by decide) rfl (fun ls hl => ?_)
  have loop12 : ∀ (lm12 : Nat) (ii xa xb : Int32) (ga : Nat → Int32), (0 ≤ ii.toInt) → (ii.toInt ≤ 100) → ((1000 - ii.toInt).toNat) < lm12 → ∀ (H : Heap) (locs : List Loc) (ls : Array Slot), va_P (dC, dI) vwCl [(w, .inr (8, [.int xa, .int xb, .ref li])), (li, .inl (cL, 24, .inl ga))] H → va_D A [(w, .inr (8, [.int xa, .int xb, .ref li])), (li, .inl (cL, 24, .inl ga))] → va_S A s.heap H locs → lv_has ls 6 [(3, .int ii), (0, .ref w), (1, .ref pt), (2, .ref b)] → W p l e (headSpec mwX8_through ({ frames := 2, cells := 0, slots := 0, locals := 120 })).room s m ([.ref w, .ref pt, .ref b]).toArray below meth c H locs 0 0 (MQ below (va_Qv (fun (_ : Unit) => True) (fun _ t => ∃ (y0 y1 : Int32) (f9 : Nat → Int32), va_P (dC, dI) vwCl [(w, .inr (8, [.int y0, .int y1, .ref li])), (li, .inl (cL, 24, .inl f9))] t.heap ∧ va_K (dC, dI) vwCl [(cL, .int)] t ∧ va_D A [(w, .inr (8, [.int y0, .int y1, .ref li])), (li, .inl (cL, 24, .inl f9))]) A) ([.ref w, .ref pt, .ref b]).toArray s 0 0 A) (F0 m 12 ls []) := by
    intro lm12
    induction lm12 with
    | zero => intro ii xa xb ga v12_0 v12_1 hm12; exact absurd hm12 (Nat.not_lt_zero _)
    | succ lm12 ih12 =>
      intro ii xa xb ga v12_0 v12_1 hm12 H locs ls hP hD hS hl
      have hQ := q_at hQ0 hQA hS
      have rg_ii := i_rng ii
      have rg_xa := i_rng xa
      have rg_xb := i_rng xb
      refine lv_iload_n hx hb dX8_through_12 rfl (lv_at hl 0 rfl) ?_
      refine lv_aload_n hx hb dX8_through_13 rfl (lv_at hl 2 rfl) ?_
      have hPc : va_P (dC, dI) vwCl [(pt, .inr (5, pF q_1 a_2 a_3 a_4 a_5 a_6 a_7)), (q_1 5, .inl (c_24, n_12, .inl f_18))] H := p_sub hQ (List.forall_mem_cons.mpr ⟨m_26, List.forall_mem_cons.mpr ⟨m_35, fun _ h => absurd h List.not_mem_nil⟩⟩)
      have hKc : va_K (dC, dI) vwCl [(c_24, .int)] s := k_sub hKQ (List.forall_mem_cons.mpr ⟨m_36, fun _ h => absurd h List.not_mem_nil⟩)
      refine vp_callSi (W.runV (As := []) (rest := [.int ii]) ⟨hx, hb, hml, hown, hts⟩ (s_choices l dC dI pt q_1 a_2 a_3 a_4 a_5 a_6 a_7 n_12 f_18 c_24 (by omega)) (cwV 0 hts mg_X8_through_X5_choices_22 rfl rfl rfl (by decide +kernel) ⟨Nat.le_of_ble_eq_true rfl, Nat.le_of_ble_eq_true rfl⟩) ⟨fun a U g mk q => by obtain ⟨q0, qP, qK⟩ := q; exact ⟨q0, qP, va_K.moved (u := U) (U := U.calling g mk a) (Vm.Alike.refl U.vm) qK⟩, va_recv hKc hPc (ci := 5) (q0 := 0) rfl rfl, fun U hU hW => ⟨rfl, by rw [hU]; exact hPc, va_K.moved hW.alike hKc⟩⟩ rfl rfl hl.1 rfl (lv_room (Nat.le_of_ble_eq_true rfl)) dX8_through_14 ⟨Nat.le_of_ble_eq_true rfl, Nat.le_of_ble_eq_true rfl⟩) (fun r_60 hw => ?_)
      refine lv_icmp_ge (tgt := 107) hx hb dX8_through_17 (by decide) (fun k_61 => ?_) (fun k_61 => ?_)
      · have tk_61 := c_ge (a := ii.toInt) (b := r_60.toInt) rfl rfl k_61
        have hP9 := hP.sub (ws' := [(w, .inr (8, [.int xa, .int xb, .ref li])), (li, .inl (cL, 24, .inl ga))]) [0, 1] rfl
        have hD9 := hD.sub (ws' := [(w, .inr (8, [.int xa, .int xb, .ref li])), (li, .inl (cL, 24, .inl ga))]) [0, 1] (by decide) rfl
        have hK9 := hK.sub (tys' := [(cL, .int)]) [0] rfl
        exact W.vret hx hb hr (fun t ht hW => ⟨⟨(), rfl, trivial, xa, xb, ga, by rw [ht]; exact hP9, va_K.moved hW.alike hK9, hD9⟩, hS.F ht⟩) hS.2.2 dX8_through_107
      · have tk_61 := c_nge (a := ii.toInt) (b := r_60.toInt) rfl rfl k_61
        refine lv_aload_n hx hb dX8_through_20 rfl (lv_at hl 2 rfl) ?_
        refine lv_iload_n hx hb dX8_through_21 rfl (lv_at hl 0 rfl) ?_
        have hPc : va_P (dC, dI) vwCl [(pt, .inr (5, pF q_1 a_2 a_3 a_4 a_5 a_6 a_7)), (q_1 5, .inl (c_24, n_12, .inl f_18))] H := p_sub hQ (List.forall_mem_cons.mpr ⟨m_26, List.forall_mem_cons.mpr ⟨m_35, fun _ h => absurd h List.not_mem_nil⟩⟩)
        have hKc : va_K (dC, dI) vwCl [(c_24, .int)] s := k_sub hKQ (List.forall_mem_cons.mpr ⟨m_36, fun _ h => absurd h List.not_mem_nil⟩)
        refine vp_callSi (W.runV (As := [.int ii]) (rest := []) ⟨hx, hb, hml, hown, hts⟩ (s_sizeOfB l dC dI pt q_1 a_2 a_3 a_4 a_5 a_6 a_7 n_12 f_18 c_24 n_11 ii (by first | omega | decide | (have l0 := Int32.toInt_zero; omega)) (by first | omega | decide | (have l0 := Int32.toInt_zero; omega)) (by first | omega | decide | (have l0 := Int32.toInt_zero; omega)) h_48) (cwV 1 hts mg_X8_through_X5_sizeOf_28 rfl rfl rfl (by decide +kernel) ⟨Nat.le_of_ble_eq_true rfl, Nat.le_of_ble_eq_true rfl⟩) ⟨fun a U g mk q => by obtain ⟨q0, qP, qK⟩ := q; exact ⟨q0, qP, va_K.moved (u := U) (U := U.calling g mk a) (Vm.Alike.refl U.vm) qK⟩, va_recv hKc hPc (ci := 5) (q0 := 0) rfl rfl, fun U hU hW => ⟨rfl, by rw [hU]; exact hPc, va_K.moved hW.alike hKc⟩⟩ rfl rfl hl.1 rfl (lv_room (Nat.le_of_ble_eq_true rfl)) dX8_through_22 ⟨Nat.le_of_ble_eq_true rfl, Nat.le_of_ble_eq_true rfl⟩) (fun r_63 hw => ?_)
        refine lv_aload_n hx hb dX8_through_25 rfl (lv_at hl 1 rfl) ?_
        refine va_get (D := (dC, dI)) (ci := 8) (v := .ref li) (C := RX8) (T := TX8) (N := 3) hx hb hts fin_X8_through_X8 hown hK hP 0 rfl rfl 2 (by decide) (hts (.fieldLink RX8 9 "PatternGate$Walk" "lists" "[I") (List.mem_of_getElem? (i := 13) (by decide +kernel))) (fun _ h9 => h9) rfl dX8_through_26 ?_
        refine va_alen (v := 24) hx hb hK hP 1 0 rfl rfl rfl dX8_through_29 ?_
        refine va_mmin hx hb (hml.trans hl.1.symm) hown (hts (.methodLink RX8 32 Lib.Math.min.name) (List.mem_of_getElem? (i := 14) (by decide +kernel))) (hts (.static Lib.Math.min.name) (List.mem_of_getElem? (i := 15) (by decide +kernel))) (hts (.initialized "java/lang/Math") (List.mem_of_getElem? (i := 16) (by decide +kernel))) (hts (.code Lib.Math.min.name Lib.Math.min.code 2 (some .int)) (List.mem_of_getElem? (i := 17) (by decide +kernel))) (Nat.le_of_ble_eq_true rfl) (Nat.le_of_ble_eq_true rfl) (Nat.le_of_ble_eq_true rfl) (Nat.le_of_ble_eq_true rfl) dX8_through_30 ?_
        refine lv_topi (fun y_64 ey_64 => ?_)
        have ty_64 := i_min (a := r_63.toInt) (b := 24) rfl (by decide) ey_64
        refine lv_istore (lv' := [(4, .int y_64), (3, .int ii), (0, .ref w), (1, .ref pt), (2, .ref b)]) hx hb dX8_through_33 hl (by decide) rfl (fun ls hl => ?_)
        refine lv_iload hx hb dX8_through_35 (lv_at hl 0 rfl) ?_
        refine lv_if_ne (tgt := 61) hx hb dX8_through_37 (by decide) (fun k_65 => ?_) (fun k_65 => ?_)
        · have tk_65 := c_ne (a := y_64.toInt) (b := 0) rfl (by decide) k_65
          refine lv_iconst (v := 0) hx hb dX8_through_61 (by decide) ?_
          refine lv_istore (lv' := [(5, .int 0), (4, .int y_64), (3, .int ii), (0, .ref w), (1, .ref pt), (2, .ref b)]) hx hb dX8_through_62 hl (by decide) rfl (fun ls hl => ?_)
          have loop64 : ∀ (lm64 : Nat) (kk : Int32) (gb : Nat → Int32), (0 ≤ kk.toInt) → ((1000 - kk.toInt).toNat) < lm64 → ∀ (H : Heap) (locs : List Loc) (ls : Array Slot), va_P (dC, dI) vwCl [(w, .inr (8, [.int xa, .int xb, .ref li])), (li, .inl (cL, 24, .inl gb))] H → va_D A [(w, .inr (8, [.int xa, .int xb, .ref li])), (li, .inl (cL, 24, .inl gb))] → va_S A s.heap H locs → lv_has ls 6 [(5, .int kk), (4, .int y_64), (3, .int ii), (0, .ref w), (1, .ref pt), (2, .ref b)] → W p l e (headSpec mwX8_through ({ frames := 2, cells := 0, slots := 0, locals := 120 })).room s m ([.ref w, .ref pt, .ref b]).toArray below meth c H locs 0 0 (MQ below (va_Qv (fun (_ : Unit) => True) (fun _ t => ∃ (y0 y1 : Int32) (f9 : Nat → Int32), va_P (dC, dI) vwCl [(w, .inr (8, [.int y0, .int y1, .ref li])), (li, .inl (cL, 24, .inl f9))] t.heap ∧ va_K (dC, dI) vwCl [(cL, .int)] t ∧ va_D A [(w, .inr (8, [.int y0, .int y1, .ref li])), (li, .inl (cL, 24, .inl f9))]) A) ([.ref w, .ref pt, .ref b]).toArray s 0 0 A) (F0 m 64 ls []) := by
            intro lm64
            induction lm64 with
            | zero => intro kk gb v64_0 hm64; exact absurd hm64 (Nat.not_lt_zero _)
            | succ lm64 ih64 =>
              intro kk gb v64_0 hm64 H locs ls hP hD hS hl
              have hQ := q_at hQ0 hQA hS
              have rg_kk := i_rng kk
              refine lv_iload hx hb dX8_through_64 (lv_at hl 0 rfl) ?_
              refine lv_iload hx hb dX8_through_66 (lv_at hl 1 rfl) ?_
              refine lv_icmp_ge (tgt := 95) hx hb dX8_through_68 (by decide) (fun k_66 => ?_) (fun k_66 => ?_)
              · have tk_66 := c_ge (a := kk.toInt) (b := y_64.toInt) rfl rfl k_66
                refine lv_aload_n hx hb dX8_through_95 rfl (lv_at hl 3 rfl) ?_
                refine lv_iload hx hb dX8_through_96 (lv_at hl 1 rfl) ?_
                have hPc := hP.sub (ws' := [(w, .inr (8, [.int xa, .int xb, .ref li])), (li, .inl (cL, 24, .inl gb))]) [0, 1] rfl
                have hKc := hK.sub (tys' := [(cL, .int)]) [0] rfl
                have hDc := hD.sub (ws' := [(w, .inr (8, [.int xa, .int xb, .ref li])), (li, .inl (cL, 24, .inl gb))]) [0, 1] (by decide) rfl
                have hFc := va_free (wc := [(w, .inr (8, [.int xa, .int xb, .ref li])), (li, .inl (cL, 24, .inl gb))]) hD hS hA [0, 1] rfl
                refine va_callv (va_runV (As := [.int y_64]) (rest := []) ⟨hx, hb, hml, hown, hts⟩ (s_leapG l dC dI w li cL gb xa xb H.size y_64 (by first | omega | decide | (have l0 := Int32.toInt_zero; omega)) (by first | omega | decide | (have l0 := Int32.toInt_zero; omega))) (cwV 1 hts mg_X8_through_X8_leapThrough_50 rfl rfl rfl (by decide +kernel) ⟨Nat.le_of_ble_eq_true rfl, Nat.le_of_ble_eq_true rfl⟩) ⟨fun a U g mk q => by obtain ⟨q0, q1, qP, qK, qD⟩ := q; exact ⟨q0, q1, qP, va_K.moved (u := U) (U := U.calling g mk a) (Vm.Alike.refl U.vm) qK, qD⟩, va_recv hKc hPc (ci := 8) (q0 := 0) rfl rfl, fun U hU hW => ⟨rfl, by rw [hU], by rw [hU]; exact hPc, va_K.moved hW.alike hKc, hDc.weaken (fun _ _ _ _ => trivial)⟩⟩ rfl rfl hl.1 rfl (lv_room (Nat.le_of_ble_eq_true rfl)) dX8_through_98 ⟨Nat.le_of_ble_eq_true rfl, Nat.le_of_ble_eq_true rfl⟩) hS (fun q _ h => hFc q h) hFc (fun u t H1 locs ht hvm hw hB hz1 hk1 hS => ?_)
                obtain ⟨y_69, y_70, hP1, hK1, hD1⟩ := hB
                rw [ht] at hP1
                obtain ⟨hP, hD⟩ := va_join (wr := []) (w1 := [(w, .inr (8, [.int y_69, .int y_70, .ref li])), (li, .inl (cL, 24, .inl gb))]) hP hD [0, 1] [] rfl rfl (by decide) (by decide) hk1 hFc hP1 hD1
                generalize H1 = H at hP hS ⊢
                have hP : va_P (dC, dI) vwCl [(w, .inr (8, [.int y_69, .int y_70, .ref li])), (li, .inl (cL, 24, .inl gb))] H := hP
                have hD : va_D A [(w, .inr (8, [.int y_69, .int y_70, .ref li])), (li, .inl (cL, 24, .inl gb))] := hD
                have hQ := q_at hQ0 hQA hS
                obtain ⟨y_71, ey_71⟩ : ∃ y : Int32, y = ii + 1 := ⟨_, rfl⟩
                first | have ty_71 := i_add (a := ii.toInt) (b := 1) rfl (by decide) ey_71 (by omega) (by omega) | skip
                refine lv_iinc (v := y_71) (lv' := [(3, .int y_71), (5, .int kk), (4, .int y_64), (0, .ref w), (1, .ref pt), (2, .ref b)]) hx hb dX8_through_101 hl (k := 2) rfl (by rw [ey_71]; rfl) (by decide) rfl (fun ls hl => ?_)
                refine lv_goto (tgt := 12) hx hb dX8_through_104 (by decide) ?_
                exact ih12 y_71 y_69 y_70 gb (by first | omega | decide | assumption) (by first | omega | decide | assumption) (by omega) _ _ ls hP hD hS (lv_sub hl [0, 3, 4, 5] rfl)
              · have tk_66 := c_nge (a := kk.toInt) (b := y_64.toInt) rfl rfl k_66
                refine lv_aload_n hx hb dX8_through_71 rfl (lv_at hl 3 rfl) ?_
                refine va_get (D := (dC, dI)) (ci := 8) (v := .ref li) (C := RX8) (T := TX8) (N := 3) hx hb hts fin_X8_through_X8 hown hK hP 0 rfl rfl 2 (by decide) (hts (.fieldLink RX8 9 "PatternGate$Walk" "lists" "[I") (List.mem_of_getElem? (i := 13) (by decide +kernel))) (fun _ h9 => h9) rfl dX8_through_72 ?_
                refine lv_iload hx hb dX8_through_75 (lv_at hl 0 rfl) ?_
                refine lv_aload_n hx hb dX8_through_77 rfl (lv_at hl 5 rfl) ?_
                refine lv_aload_n hx hb dX8_through_78 rfl (lv_at hl 4 rfl) ?_
                refine lv_iload_n hx hb dX8_through_79 rfl (lv_at hl 2 rfl) ?_
                refine lv_iload hx hb dX8_through_80 (lv_at hl 0 rfl) ?_
                have hPc : va_P (dC, dI) vwCl [(pt, .inr (5, pF q_1 a_2 a_3 a_4 a_5 a_6 a_7)), (q_1 5, .inl (c_24, n_12, .inl f_18)), (q_1 4, .inl (c_23, n_11, .inl f_17))] H := p_sub hQ (List.forall_mem_cons.mpr ⟨m_26, List.forall_mem_cons.mpr ⟨m_35, List.forall_mem_cons.mpr ⟨m_33, fun _ h => absurd h List.not_mem_nil⟩⟩⟩)
                have hKc : va_K (dC, dI) vwCl [(c_24, .int), (c_23, .int)] s := k_sub hKQ (List.forall_mem_cons.mpr ⟨m_36, List.forall_mem_cons.mpr ⟨m_34, fun _ h => absurd h List.not_mem_nil⟩⟩)
                refine vp_callSi (W.runV (As := [.int ii, .int kk]) (rest := [.ref b, .int kk, .ref li]) ⟨hx, hb, hml, hown, hts⟩ (s_tripleAt l dC dI pt q_1 a_2 a_3 a_4 a_5 a_6 a_7 n_12 f_18 c_24 n_11 f_17 c_23 ii kk (by omega) (by omega)) (cwV 2 hts mg_X8_through_X5_tripleAt_44 rfl rfl rfl (by decide +kernel) ⟨Nat.le_of_ble_eq_true rfl, Nat.le_of_ble_eq_true rfl⟩) ⟨fun a U g mk q => by obtain ⟨q0, qP, qK⟩ := q; exact ⟨q0, qP, va_K.moved (u := U) (U := U.calling g mk a) (Vm.Alike.refl U.vm) qK⟩, va_recv hKc hPc (ci := 5) (q0 := 0) rfl rfl, fun U hU hW => ⟨rfl, by rw [hU]; exact hPc, va_K.moved hW.alike hKc⟩⟩ rfl rfl hl.1 rfl (lv_room (Nat.le_of_ble_eq_true rfl)) dX8_through_82 ⟨Nat.le_of_ble_eq_true rfl, Nat.le_of_ble_eq_true rfl⟩) (fun r_73 hw => ?_)
                have hPc := hQ
                have hKc := hKQ
                refine vp_callSi (W.runV (As := [.int r_73]) (rest := [.int kk, .ref li]) ⟨hx, hb, hml, hown, hts⟩ (s_listBits l dC dI W9 T9 b r_73 hB0) (cwV 1 hts mg_X8_through_X0_listBits_47 rfl rfl rfl (by decide +kernel) ⟨Nat.le_of_ble_eq_true rfl, Nat.le_of_ble_eq_true rfl⟩) ⟨fun a U g mk q => by obtain ⟨q0, qP, qK⟩ := q; exact ⟨q0, qP, va_K.moved (u := U) (U := U.calling g mk a) (Vm.Alike.refl U.vm) qK⟩, va_recv hKc hPc (ci := 0) (q0 := k_54) rfl hk_54, fun U hU hW => ⟨rfl, by rw [hU]; exact hPc, va_K.moved hW.alike hKc⟩⟩ rfl rfl hl.1 rfl (lv_room (Nat.le_of_ble_eq_true rfl)) dX8_through_85 ⟨Nat.le_of_ble_eq_true rfl, Nat.le_of_ble_eq_true rfl⟩) (fun r_75 hw => ?_)
                refine va_iast hx hb hK hP hD hS 1 0 rfl rfl (i := kk) (vp_of (a := kk.toInt) rfl (by omega) (by omega)) dX8_through_88 (fun H locs hP hD hS => ?_)
                generalize hf_f_76 : upd gb _ _ = f_76 at hP hD
                have hP : va_P (dC, dI) vwCl [(w, .inr (8, [.int xa, .int xb, .ref li])), (li, .inl (cL, 24, .inl f_76))] H := hP
                have hD : va_D A [(w, .inr (8, [.int xa, .int xb, .ref li])), (li, .inl (cL, 24, .inl f_76))] := hD
                have hQ := q_at hQ0 hQA hS
                obtain ⟨y_77, ey_77⟩ : ∃ y : Int32, y = kk + 1 := ⟨_, rfl⟩
                first | have ty_77 := i_add (a := kk.toInt) (b := 1) rfl (by decide) ey_77 (by omega) (by omega) | skip
                refine lv_iinc (v := y_77) (lv' := [(5, .int y_77), (4, .int y_64), (3, .int ii), (0, .ref w), (1, .ref pt), (2, .ref b)]) hx hb dX8_through_89 hl (k := 0) rfl (by rw [ey_77]; rfl) (by decide) rfl (fun ls hl => ?_)
                refine lv_goto (tgt := 64) hx hb dX8_through_92 (by decide) ?_
                exact ih64 y_77 f_76 (by first | omega | decide | assumption) (by omega) _ _ ls hP hD hS (lv_sub hl [0, 1, 2, 3, 4, 5] rfl)
          have lit_77 : (0 : Int32).toInt = 0 := by decide
          exact loop64 _ 0 ga (by first | omega | decide | assumption) (Nat.lt_succ_self _) _ _ ls hP hD hS (lv_sub hl [0, 1, 2, 3, 4, 5] rfl)
        · have tk_65 := c_eq (a := y_64.toInt) (b := 0) rfl (by decide) k_65
          refine lv_aload_n hx hb dX8_through_40 rfl (lv_at hl 2 rfl) ?_
          refine lv_dup hx hb dX8_through_41 rfl ?_
          refine va_get (D := (dC, dI)) (ci := 8) (v := .int xa) (C := RX8) (T := TX8) (N := 3) hx hb hts fin_X8_through_X8 hown hK hP 0 rfl rfl 0 (by decide) (hts (.fieldLink RX8 15 "PatternGate$Walk" "candidates" "I") (List.mem_of_getElem? (i := 1) (by decide +kernel))) (fun _ h9 => h9) rfl dX8_through_42 ?_
          refine lv_iconst (v := 1) hx hb dX8_through_45 (by decide) ?_
          refine lv_aload_n hx hb dX8_through_46 rfl (lv_at hl 4 rfl) ?_
          refine va_get (D := (dC, dI)) (ci := 0) (v := .ref ds) (C := RX0) (T := TX0) (N := 3) hx hb hts fin_X8_through_X0 hown hKQ hQ k_54 hk_54 rfl 0 (by decide) (hts (.fieldLink RX8 38 "PatternGate$Book" "docs" "[LPatternGate$Doc;") (List.mem_of_getElem? (i := 45) (by decide +kernel))) (fun _ h9 => h9) rfl dX8_through_47 ?_
          refine va_alen hx hb hKQ hQ k_55 j_56 hk_55 hj_56 rfl dX8_through_50 ?_
          refine lv_topi (fun y_79 ey_79 => ?_)
          have ty_79 : y_79.toInt = (nd : Int) := i_len ey_79 (by omega)
          refine lv_ishl hx hb dX8_through_51 ?_
          refine lv_topi (fun y_80 ey_80 => ?_)
          have rg_y_80 := i_rng y_80
          refine lv_iconst (v := 1) hx hb dX8_through_52 (by decide) ?_
          refine lv_isub hx hb dX8_through_53 ?_
          refine lv_topi (fun y_81 ey_81 => ?_)
          first | have ty_81 := i_sub (a := y_80.toInt) (b := 1) rfl (by decide) ey_81 (by omega) (by omega) | skip
          refine lv_ior hx hb dX8_through_54 ?_
          refine lv_topi (fun y_82 ey_82 => ?_)
          have rg_y_82 := i_rng y_82
          refine va_put (D := (dC, dI)) (ci := 8) (v := .int y_82) (ty := .int) (C := RX8) (T := TX8) (N := 3) hx hb hts fin_X8_through_X8 tyX8 tyX8_ok nmX8 hown hK hP hD hS 0 rfl rfl 0 (by decide) (hts (.fieldLink RX8 15 "PatternGate$Walk" "candidates" "I") (List.mem_of_getElem? (i := 1) (by decide +kernel))) (fun _ h9 => h9) rfl (by decide +kernel) rfl rfl (Nat.le_of_ble_eq_true rfl) dX8_through_55 (fun H locs hP hD hS => ?_)
          have hP : va_P (dC, dI) vwCl [(w, .inr (8, [.int y_82, .int xb, .ref li])), (li, .inl (cL, 24, .inl ga))] H := hP
          have hD : va_D A [(w, .inr (8, [.int y_82, .int xb, .ref li])), (li, .inl (cL, 24, .inl ga))] := hD
          have hQ := q_at hQ0 hQA hS
          refine lv_goto (tgt := 101) hx hb dX8_through_58 (by decide) ?_
          obtain ⟨y_83, ey_83⟩ : ∃ y : Int32, y = ii + 1 := ⟨_, rfl⟩
          first | have ty_83 := i_add (a := ii.toInt) (b := 1) rfl (by decide) ey_83 (by omega) (by omega) | skip
          refine lv_iinc (v := y_83) (lv' := [(3, .int y_83), (4, .int y_64), (0, .ref w), (1, .ref pt), (2, .ref b)]) hx hb dX8_through_101 hl (k := 1) rfl (by rw [ey_83]; rfl) (by decide) rfl (fun ls hl => ?_)
          refine lv_goto (tgt := 12) hx hb dX8_through_104 (by decide) ?_
          exact ih12 y_83 y_82 xb ga (by first | omega | decide | assumption) (by first | omega | decide | assumption) (by omega) _ _ ls hP hD hS (lv_sub hl [0, 2, 3, 4] rfl)
  have lit_83 : (0 : Int32).toInt = 0 := by decide
  have lit_84 : (0 : Int32).toInt = 0 := by decide
  have lit_85 : (0 : Int32).toInt = 0 := by decide
  exact loop12 _ 0 0 0 f (by first | omega | decide | assumption) (by first | omega | decide | assumption) (Nat.lt_succ_self _) _ _ ls hP hD hS (lv_sub hl [0, 1, 2, 3] rfl)

theorem iw_l {a : Int} {P Q : Prop} (h : a = 1 ∧ P ∨ a = 0 ∧ ¬ Q) (h1 : a ≠ 0) : P := by
  rcases h with h | h
  · exact h.2
  · exact absurd h.1 h1
theorem iw_r {a : Int} {P Q : Prop} (h : a = 1 ∧ P ∨ a = 0 ∧ ¬ Q) (h1 : a = 0) : ¬ Q := by
  rcases h with h | h
  · omega
  · exact h.2
def mwX10_isWordmq : List Cond := .code yX10_isWord cX10_isWord 4 (some .boolean) :: (([.fieldLink RX10 120 "PatternGateModel" "token" "I", .methodLink RX10 141 yJ0_length_8abf5, .instanceMethod yJ0_length_8abf5, .selects RJ0 yJ0_length_8abf5 yJ0_length_8abf5, .initialized RJ0, .fieldLink RX10 123 "PatternGateModel" "begin" "I", .methodLink RX10 133 yX10_byteAt, .instanceMethod yX10_byteAt, .selects RX10 yX10_byteAt yX10_byteAt, .initialized RX10, .methodLink RX10 147 yJ0_charAt_5068e, .instanceMethod yJ0_charAt_5068e, .selects RJ0 yJ0_charAt_5068e yJ0_charAt_5068e, .fieldLink RX10 130 "PatternGateModel" "end" "I"] : List Cond) ++ (wsX100 ++ (mwJ0_length_8abf5j ++ (mwX10_byteAtm ++ (mwJ0_charAt_5068ejq)))))
theorem fin_X10_isWordmq_X10 : ∀ w ∈ wsX100, w ∈ mwX10_isWordmq := fun w h => List.mem_cons_of_mem _ (List.mem_append_right _ (List.mem_append_left _ h))
set_option maxRecDepth 100000 in
theorem gd_mwJ0_charAt_5068ejq : mwJ0_charAt_5068ejq.all goodWord = true := by decide +kernel
set_option maxRecDepth 20000 in
theorem mg_X10_isWordmq_J0_length_8abf5_141 : GoodIn mwX10_isWordmq (wsV RX10 141 RJ0 yJ0_length_8abf5 mwJ0_length_8abf5j) := gi_app (A := [.methodLink RX10 141 yJ0_length_8abf5, .instanceMethod yJ0_length_8abf5, .selects RJ0 yJ0_length_8abf5 yJ0_length_8abf5, .initialized RJ0]) (goodIn_r _ [2, 3, 4, 5] (by decide +kernel) (by decide +kernel)) (gi_sub gd_mwJ0_length_8abf5j (fun w h => List.mem_cons_of_mem _ (List.mem_append_right _ (List.mem_append_right _ (List.mem_append_left _ h)))))
set_option maxRecDepth 20000 in
theorem mg_X10_isWordmq_X10_byteAt_133 : GoodIn mwX10_isWordmq (wsV RX10 133 RX10 yX10_byteAt mwX10_byteAtm) := gi_app (A := [.methodLink RX10 133 yX10_byteAt, .instanceMethod yX10_byteAt, .selects RX10 yX10_byteAt yX10_byteAt, .initialized RX10]) (goodIn_r _ [7, 8, 9, 10] (by decide +kernel) (by decide +kernel)) (gi_sub gd_mwX10_byteAtm (fun w h => List.mem_cons_of_mem _ (List.mem_append_right _ (List.mem_append_right _ (List.mem_append_right _ (List.mem_append_left _ h))))))
set_option maxRecDepth 20000 in
theorem mg_X10_isWordmq_J0_charAt_5068e_147 : GoodIn mwX10_isWordmq (wsV RX10 147 RJ0 yJ0_charAt_5068e mwJ0_charAt_5068ejq) := gi_app (A := [.methodLink RX10 147 yJ0_charAt_5068e, .instanceMethod yJ0_charAt_5068e, .selects RJ0 yJ0_charAt_5068e yJ0_charAt_5068e, .initialized RJ0]) (goodIn_r _ [11, 12, 13, 5] (by decide +kernel) (by decide +kernel)) (gi_sub gd_mwJ0_charAt_5068ejq (fun w h => List.mem_cons_of_mem _ (List.mem_append_right _ (List.mem_append_right _ (List.mem_append_right _ (List.mem_append_right _ (h)))))))
set_option maxHeartbeats 4000000 in
set_option maxRecDepth 100000 in
theorem m_isWord_q (l : Launch) (dC : Nat → ClassId) (dI : Nat → Nat → Nat) (ad : Nat → Nat) (kc : Nat → ClassId) (x0 x1 x2 x3 x4 x5 x6 x7 x8 x9 x10 x11 x12 x13 x14 x15 x16 x17 x18 x19 x20 x21 : Int32) (f0 f1 f2 f3 f4 f5 f6 f7 f8 f9 f10 f11 f12 f13 f14 f15 f16 f17 f18 f19 f20 f21 : Nat → Int32) (fL : Nat → Nat → Int64) (fN : Nat → Nat → Int32) (fP : Nat → Nat → Nat) (fM : Nat → Nat → Int32) (fO : Nat → Nat → Int32) (sz : Nat) (qs : Nat) (ns : Nat) (gs : Nat → Int32) (q0 : ns < 100) (q1 : 0 ≤ x6.toInt ∧ x6.toInt ≤ 900) (q2 : x4.toInt ≤ 900) (q3 : x6.toInt ≤ x7.toInt ∧ x7.toInt ≤ 900) : Met l yX10_isWord mwX10_isWordmq ({ frames := 4, cells := 0, slots := 0, locals := 240 }) (va_Pc [.ref (ad 0), .ref qs] (fun U => U.heap.size = sz ∧ va_P (dC, dI) vwCl (mW ad kc x0 x1 x2 x3 x4 x5 x6 x7 x8 x9 x10 x11 x12 x13 x14 x15 x16 x17 x18 x19 x20 x21 f0 f1 f2 f3 f4 f5 f6 f7 f8 f9 f10 f11 f12 f13 f14 f15 f16 f17 f18 f19 f20 f21 fL fN fP fM fO) U.heap ∧ va_K (dC, dI) vwCl (mT kc) U ∧ va_D (fun _ => True) (mW ad kc x0 x1 x2 x3 x4 x5 x6 x7 x8 x9 x10 x11 x12 x13 x14 x15 x16 x17 x18 x19 x20 x21 f0 f1 f2 f3 f4 f5 f6 f7 f8 f9 f10 f11 f12 f13 f14 f15 f16 f17 f18 f19 f20 f21 fL fN fP fM fO) ∧ sY (va_A (mW ad kc x0 x1 x2 x3 x4 x5 x6 x7 x8 x9 x10 x11 x12 x13 x14 x15 x16 x17 x18 x19 x20 x21 f0 f1 f2 f3 f4 f5 f6 f7 f8 f9 f10 f11 f12 f13 f14 f15 f16 f17 f18 f19 f20 f21 fL fN fP fM fO) sz) U U.heap qs ns gs ∧ sC (va_A (mW ad kc x0 x1 x2 x3 x4 x5 x6 x7 x8 x9 x10 x11 x12 x13 x14 x15 x16 x17 x18 x19 x20 x21 f0 f1 f2 f3 f4 f5 f6 f7 f8 f9 f10 f11 f12 f13 f14 f15 f16 f17 f18 f19 f20 f21 fL fN fP fM fO) sz) U U.heap)) (va_Qi (fun (o9 u9 : Int32) => o9 = u9) (fun (o9 : Int32) t => (o9.toInt = 1 ∧ (x5.toInt = 2 ∧ x7.toInt - x6.toInt = (ns : Int) ∧ isTx (tx f2 x4.toInt) gs x6.toInt ns) ∨ o9.toInt = 0 ∧ ¬ (x5.toInt = 2 ∧ x7.toInt - x6.toInt = (ns : Int) ∧ isTx (tx f2 x4.toInt) gs x6.toInt ns)) ∧ (o9.toInt = 0 ∨ o9.toInt = 1) ∧ va_P (dC, dI) vwCl (mW ad kc x0 x1 x2 x3 x4 x5 x6 x7 x8 x9 x10 x11 x12 x13 x14 x15 x16 x17 x18 x19 x20 x21 f0 f1 f2 f3 f4 f5 f6 f7 f8 f9 f10 f11 f12 f13 f14 f15 f16 f17 f18 f19 f20 f21 fL fN fP fM fO) t.heap ∧ va_K (dC, dI) vwCl (mT kc) t ∧ va_D (va_A (mW ad kc x0 x1 x2 x3 x4 x5 x6 x7 x8 x9 x10 x11 x12 x13 x14 x15 x16 x17 x18 x19 x20 x21 f0 f1 f2 f3 f4 f5 f6 f7 f8 f9 f10 f11 f12 f13 f14 f15 f16 f17 f18 f19 f20 f21 fL fN fP fM fO) sz) (mW ad kc x0 x1 x2 x3 x4 x5 x6 x7 x8 x9 x10 x11 x12 x13 x14 x15 x16 x17 x18 x19 x20 x21 f0 f1 f2 f3 f4 f5 f6 f7 f8 f9 f10 f11 f12 f13 f14 f15 f16 f17 f18 f19 f20 f21 fL fN fP fM fO)) (va_A (mW ad kc x0 x1 x2 x3 x4 x5 x6 x7 x8 x9 x10 x11 x12 x13 x14 x15 x16 x17 x18 x19 x20 x21 f0 f1 f2 f3 f4 f5 f6 f7 f8 f9 f10 f11 f12 f13 f14 f15 f16 f17 f18 f19 f20 f21 fL fN fP fM fO) sz)) 0 0 (va_A (mW ad kc x0 x1 x2 x3 x4 x5 x6 x7 x8 x9 x10 x11 x12 x13 x14 x15 x16 x17 x18 x19 x20 x21 f0 f1 f2 f3 f4 f5 f6 f7 f8 f9 f10 f11 f12 f13 f14 f15 f16 f17 f18 f19 f20 f21 fL fN fP fM fO) sz) := by
  refine Met.ofW (cc := cX10_isWord) (maxL := 4) (ret := (some .boolean)) (by decide +kernel) rfl ?_
  intro p e s m args below meth c s₁ B hml hv
  obtain ⟨rfl, hsz, hP, hK, hD0, hX9, hC9⟩ := hv
  have hx := B.exec
  have hb := B.bytes
  have hr := B.returns
  have hts := atoms_spec (ws := mwX10_isWordmq) B.pre
  have hown : s.vm.findClass RX10 = some m.cls := findClass_of_methodNamed B.named
  have hlocks := B.notSynchronized
  subst hsz
  have hD := hD0.self (sz := s.heap.size)
  generalize hAe : va_A (mW ad kc x0 x1 x2 x3 x4 x5 x6 x7 x8 x9 x10 x11 x12 x13 x14 x15 x16 x17 x18 x19 x20 x21 f0 f1 f2 f3 f4 f5 f6 f7 f8 f9 f10 f11 f12 f13 f14 f15 f16 f17 f18 f19 f20 f21 fL fN fP fM fO) s.heap.size = A at hD hX9 hC9 ⊢
  have hA : ∀ q : Nat, s.heap.size ≤ q → A q := fun q h => by rw [← hAe]; exact Or.inr h
  have hP : va_P (dC, dI) vwCl (mW ad kc x0 x1 x2 x3 x4 x5 x6 x7 x8 x9 x10 x11 x12 x13 x14 x15 x16 x17 x18 x19 x20 x21 f0 f1 f2 f3 f4 f5 f6 f7 f8 f9 f10 f11 f12 f13 f14 f15 f16 f17 f18 f19 f20 f21 fL fN fP fM fO) s.heap := hP
  have hD : va_D A (mW ad kc x0 x1 x2 x3 x4 x5 x6 x7 x8 x9 x10 x11 x12 x13 x14 x15 x16 x17 x18 x19 x20 x21 f0 f1 f2 f3 f4 f5 f6 f7 f8 f9 f10 f11 f12 f13 f14 f15 f16 f17 f18 f19 f20 f21 fL fN fP fM fO) := hD
  have hK : va_K (dC, dI) vwCl (mT kc) s := hK
  generalize hH : s.heap = H at hP ⊢
  have hS : va_S A s.heap H [] := by rw [← hH]; exact va_S.rf
  have hl := lv_entry ([.ref (ad 0), .ref qs]) (n := 4) (Nat.le_of_ble_eq_true rfl)
  rw [lg_entry_eq]
  generalize (lg_sl ([.ref (ad 0), .ref qs]) ++ List.replicate (4 - (lg_sl ([.ref (ad 0), .ref qs])).length) Slot.unset).toArray = ls at hl ⊢
  have hl : lv_has ls 4 [(0, .ref (ad 0)), (1, .ref qs)] := hl
  refine lv_aload_n hx hb dX10_isWord_0 rfl (lv_at hl 0 rfl) ?_
  refine va_get (D := (dC, dI)) (ci := 10) (v := .int x5) (C := RX10) (T := TX10) (N := 48) hx hb hts fin_X10_isWordmq_X10 hown hK hP 0 rfl rfl 8 (by decide) (hts (.fieldLink RX10 120 "PatternGateModel" "token" "I") (List.mem_of_getElem? (i := 1) (by decide +kernel))) (fun _ h9 => h9) rfl dX10_isWord_1 ?_
  refine lv_iconst (v := 2) hx hb dX10_isWord_4 (by decide) ?_
  refine lv_icmp_ne (tgt := 28) hx hb dX10_isWord_5 (by decide) (fun k_1 => ?_) (fun k_1 => ?_)
  · have tk_1 := c_ne (a := x5.toInt) (b := 2) rfl (by decide) k_1
    refine lv_iconst (v := 0) hx hb dX10_isWord_28 (by decide) ?_
    refine lv_istore_n (lv' := [(2, .int 0), (0, .ref (ad 0)), (1, .ref qs)]) hx hb dX10_isWord_29 rfl hl (by decide) rfl (fun ls hl => ?_)
    refine lv_iconst (v := 0) hx hb dX10_isWord_30 (by decide) ?_
    refine lv_istore_n (lv' := [(3, .int 0), (2, .int 0), (0, .ref (ad 0)), (1, .ref qs)]) hx hb dX10_isWord_31 rfl hl (by decide) rfl (fun ls hl => ?_)
    have loop32 : ∀ (lm32 : Nat) (is kk : Int32), (is.toInt = 1 ∧ (x5.toInt = 2 ∧ x7.toInt - x6.toInt = (ns : Int) ∧ isTx (tx f2 x4.toInt) gs x6.toInt kk.toInt) ∨ is.toInt = 0 ∧ ¬ (x5.toInt = 2 ∧ x7.toInt - x6.toInt = (ns : Int) ∧ isTx (tx f2 x4.toInt) gs x6.toInt ns)) → (0 ≤ kk.toInt ∧ kk.toInt ≤ ns) → (is.toInt = 0 ∨ is.toInt = 1) → (((ns : Int) - kk.toInt).toNat) < lm32 → ∀ (H : Heap) (locs : List Loc) (ls : Array Slot), va_P (dC, dI) vwCl (mW ad kc x0 x1 x2 x3 x4 x5 x6 x7 x8 x9 x10 x11 x12 x13 x14 x15 x16 x17 x18 x19 x20 x21 f0 f1 f2 f3 f4 f5 f6 f7 f8 f9 f10 f11 f12 f13 f14 f15 f16 f17 f18 f19 f20 f21 fL fN fP fM fO) H → va_D A (mW ad kc x0 x1 x2 x3 x4 x5 x6 x7 x8 x9 x10 x11 x12 x13 x14 x15 x16 x17 x18 x19 x20 x21 f0 f1 f2 f3 f4 f5 f6 f7 f8 f9 f10 f11 f12 f13 f14 f15 f16 f17 f18 f19 f20 f21 fL fN fP fM fO) → va_S A s.heap H locs → lv_has ls 4 [(3, .int kk), (2, .int is), (0, .ref (ad 0)), (1, .ref qs)] → W p l e (headSpec mwX10_isWordmq ({ frames := 4, cells := 0, slots := 0, locals := 240 })).room s m ([.ref (ad 0), .ref qs]).toArray below meth c H locs 0 0 (MQ below (va_Qi (fun (o9 u9 : Int32) => o9 = u9) (fun (o9 : Int32) t => (o9.toInt = 1 ∧ (x5.toInt = 2 ∧ x7.toInt - x6.toInt = (ns : Int) ∧ isTx (tx f2 x4.toInt) gs x6.toInt ns) ∨ o9.toInt = 0 ∧ ¬ (x5.toInt = 2 ∧ x7.toInt - x6.toInt = (ns : Int) ∧ isTx (tx f2 x4.toInt) gs x6.toInt ns)) ∧ (o9.toInt = 0 ∨ o9.toInt = 1) ∧ va_P (dC, dI) vwCl (mW ad kc x0 x1 x2 x3 x4 x5 x6 x7 x8 x9 x10 x11 x12 x13 x14 x15 x16 x17 x18 x19 x20 x21 f0 f1 f2 f3 f4 f5 f6 f7 f8 f9 f10 f11 f12 f13 f14 f15 f16 f17 f18 f19 f20 f21 fL fN fP fM fO) t.heap ∧ va_K (dC, dI) vwCl (mT kc) t ∧ va_D A (mW ad kc x0 x1 x2 x3 x4 x5 x6 x7 x8 x9 x10 x11 x12 x13 x14 x15 x16 x17 x18 x19 x20 x21 f0 f1 f2 f3 f4 f5 f6 f7 f8 f9 f10 f11 f12 f13 f14 f15 f16 f17 f18 f19 f20 f21 fL fN fP fM fO)) A) ([.ref (ad 0), .ref qs]).toArray s 0 0 A) (F0 m 32 ls []) := by
      intro lm32
      induction lm32 with
      | zero => intro is kk v32_0 v32_1 v32_2 hm32; exact absurd hm32 (Nat.not_lt_zero _)
      | succ lm32 ih32 =>
        intro is kk v32_0 v32_1 v32_2 hm32 H locs ls hP hD hS hl
        have rg_is := i_rng is
        have rg_kk := i_rng kk
        refine lv_iload_n hx hb dX10_isWord_32 rfl (lv_at hl 0 rfl) ?_
        refine lv_aload_n hx hb dX10_isWord_33 rfl (lv_at hl 3 rfl) ?_
        refine vp_callSi (W.runV (As := []) (rest := [.int kk]) ⟨hx, hb, hml, hown, hts⟩ (j_length l qs ns (by omega)) (cwV 0 hts mg_X10_isWordmq_J0_length_8abf5_141 rfl rfl rfl (by decide +kernel) ⟨Nat.le_of_ble_eq_true rfl, Nat.le_of_ble_eq_true rfl⟩) ⟨fun a U g mk q => ⟨q.1, sP.call q.2⟩, sX.recv hX9.sX hS, fun U hU hW => ⟨rfl, sP.of hX9.sX hC9 hS hW.alike hU⟩⟩ rfl rfl hl.1 rfl (lv_room (Nat.le_of_ble_eq_true rfl)) dX10_isWord_34 ⟨Nat.le_of_ble_eq_true rfl, Nat.le_of_ble_eq_true rfl⟩) (fun r_2 hw => ?_)
        have hlr_2 : r_2.toInt = (ns : Int) := hw
        refine lv_icmp_ge (tgt := 74) hx hb dX10_isWord_37 (by decide) (fun k_3 => ?_) (fun k_3 => ?_)
        · have tk_3 := c_ge (a := kk.toInt) (b := r_2.toInt) rfl rfl k_3
          refine lv_iload_n hx hb dX10_isWord_74 rfl (lv_at hl 1 rfl) ?_
          exact W.zret hx hb hr (z_nar (by first | assumption | decide | exact z_of (by omega))) (fun t ht hW => ⟨⟨_, _, rfl, rfl, (by rcases v32_0 with h9 | h9; exact Or.inl ⟨h9.1, h9.2.1, h9.2.2.1, by rw [← show kk.toInt = (ns : Int) by omega]; exact h9.2.2.2⟩; exact Or.inr h9), (by first | omega | assumption | rfl | decide), by rw [ht]; exact hP, va_K.moved hW.alike hK, hD⟩, hS.F ht⟩) hS.2.2 dX10_isWord_75
        · have tk_3 := c_nge (a := kk.toInt) (b := r_2.toInt) rfl rfl k_3
          refine lv_iload_n hx hb dX10_isWord_40 rfl (lv_at hl 1 rfl) ?_
          refine lv_if_eq (tgt := 74) hx hb dX10_isWord_41 (by decide) (fun k_4 => ?_) (fun k_4 => ?_)
          · have tk_4 := c_eq (a := is.toInt) (b := 0) rfl (by decide) k_4
            refine lv_iload_n hx hb dX10_isWord_74 rfl (lv_at hl 1 rfl) ?_
            exact W.zret hx hb hr (z_nar (by first | assumption | decide | exact z_of (by omega))) (fun t ht hW => ⟨⟨_, _, rfl, rfl, (Or.inr ⟨by omega, iw_r v32_0 (by omega)⟩), (by first | omega | assumption | rfl | decide), by rw [ht]; exact hP, va_K.moved hW.alike hK, hD⟩, hS.F ht⟩) hS.2.2 dX10_isWord_75
          · have tk_4 := c_ne (a := is.toInt) (b := 0) rfl (by decide) k_4
            refine lv_aload_n hx hb dX10_isWord_44 rfl (lv_at hl 2 rfl) ?_
            refine lv_aload_n hx hb dX10_isWord_45 rfl (lv_at hl 2 rfl) ?_
            refine va_get (D := (dC, dI)) (ci := 10) (v := .int x6) (C := RX10) (T := TX10) (N := 48) hx hb hts fin_X10_isWordmq_X10 hown hK hP 0 rfl rfl 9 (by decide) (hts (.fieldLink RX10 123 "PatternGateModel" "begin" "I") (List.mem_of_getElem? (i := 6) (by decide +kernel))) (fun _ h9 => h9) rfl dX10_isWord_46 ?_
            refine lv_iload_n hx hb dX10_isWord_49 rfl (lv_at hl 0 rfl) ?_
            refine lv_iadd hx hb dX10_isWord_50 ?_
            refine lv_topi (fun y_5 ey_5 => ?_)
            first | have ty_5 := i_add (a := x6.toInt) (b := kk.toInt) rfl rfl ey_5 (by omega) (by omega) | skip
            refine vp_callSi (W.runV (As := [.int y_5]) (rest := []) ⟨hx, hb, hml, hown, hts⟩ (m_byteAt l dC dI ad kc x0 x1 x2 x3 x4 x5 x6 x7 x8 x9 x10 x11 x12 x13 x14 x15 x16 x17 x18 x19 x20 x21 f0 f1 f2 f3 f4 f5 f6 f7 f8 f9 f10 f11 f12 f13 f14 f15 f16 f17 f18 f19 f20 f21 fL fN fP fM fO y_5 (by first | omega | assumption | decide | (have l0 := Int32.toInt_zero; omega)) (by first | omega | assumption | decide | (have l0 := Int32.toInt_zero; omega))) (cwV 1 hts mg_X10_isWordmq_X10_byteAt_133 rfl rfl rfl (by decide +kernel) ⟨Nat.le_of_ble_eq_true rfl, Nat.le_of_ble_eq_true rfl⟩) ⟨fun a U g mk q => by obtain ⟨q0, qP, qK⟩ := q; exact ⟨q0, qP, va_K.moved (u := U) (U := U.calling g mk a) (Vm.Alike.refl U.vm) qK⟩, va_recv hK hP (ci := 10) (q0 := 0) rfl rfl, fun U hU hW => ⟨rfl, by rw [hU]; exact hP, va_K.moved hW.alike hK⟩⟩ rfl rfl hl.1 rfl (lv_room (Nat.le_of_ble_eq_true rfl)) dX10_isWord_51 ⟨Nat.le_of_ble_eq_true rfl, Nat.le_of_ble_eq_true rfl⟩) (fun r_6 hr_6 => ?_)
            have rg_r_6 := i_rng r_6
            refine lv_aload_n hx hb dX10_isWord_54 rfl (lv_at hl 3 rfl) ?_
            refine lv_iload_n hx hb dX10_isWord_55 rfl (lv_at hl 0 rfl) ?_
            refine vp_callSi (W.runV (As := [.int kk]) (rest := [.int r_6]) ⟨hx, hb, hml, hown, hts⟩ (j_charAt_q l qs ns gs kk (by omega) (by omega) (by omega)) (cwV 1 hts mg_X10_isWordmq_J0_charAt_5068e_147 rfl rfl rfl (by decide +kernel) ⟨Nat.le_of_ble_eq_true rfl, Nat.le_of_ble_eq_true rfl⟩) ⟨fun a U g mk q => ⟨q.1, sPg.call q.2⟩, sX.recv hX9.sX hS, fun U hU hW => ⟨rfl, sPg.of hX9 hC9 hS hW.alike hU⟩⟩ rfl rfl hl.1 rfl (lv_room (Nat.le_of_ble_eq_true rfl)) dX10_isWord_56 ⟨Nat.le_of_ble_eq_true rfl, Nat.le_of_ble_eq_true rfl⟩) (fun r_7 hw => ?_)
            have rg_r_7 := i_rng r_7
            have hcr_7 := hw
            refine lv_icmp_ne (tgt := 66) hx hb dX10_isWord_59 (by decide) (fun k_8 => ?_) (fun k_8 => ?_)
            · have tk_8 := c_ne (a := r_6.toInt) (b := r_7.toInt) rfl rfl k_8
              refine lv_iconst (v := 0) hx hb dX10_isWord_66 (by decide) ?_
              refine lv_istore_n (lv' := [(2, .int 0), (3, .int kk), (0, .ref (ad 0)), (1, .ref qs)]) hx hb dX10_isWord_67 rfl hl (by decide) rfl (fun ls hl => ?_)
              obtain ⟨y_9, ey_9⟩ : ∃ y : Int32, y = kk + 1 := ⟨_, rfl⟩
              first | have ty_9 := i_add (a := kk.toInt) (b := 1) rfl (by decide) ey_9 (by omega) (by omega) | skip
              refine lv_iinc (v := y_9) (lv' := [(3, .int y_9), (2, .int 0), (0, .ref (ad 0)), (1, .ref qs)]) hx hb dX10_isWord_68 hl (k := 1) rfl (by rw [ey_9]; rfl) (by decide) rfl (fun ls hl => ?_)
              refine lv_goto (tgt := 32) hx hb dX10_isWord_71 (by decide) ?_
              have lit_9 : (0 : Int32).toInt = 0 := by decide
              exact ih32 0 y_9 (Or.inr ⟨by decide, fun h9 => by have h8 := h9.2.2 kk.toInt (by omega) (by omega); rw [← show y_5.toInt = x6.toInt + kk.toInt by omega] at h8; omega⟩) (by first | omega | assumption | decide) (by first | omega | assumption | decide) (by omega) _ _ ls hP hD hS (lv_sub hl [0, 1, 2, 3] rfl)
            · have tk_8 := c_eq (a := r_6.toInt) (b := r_7.toInt) rfl rfl k_8
              refine lv_iconst (v := 1) hx hb dX10_isWord_62 (by decide) ?_
              refine lv_goto (tgt := 67) hx hb dX10_isWord_63 (by decide) ?_
              refine lv_istore_n (lv' := [(2, .int 1), (3, .int kk), (0, .ref (ad 0)), (1, .ref qs)]) hx hb dX10_isWord_67 rfl hl (by decide) rfl (fun ls hl => ?_)
              obtain ⟨y_11, ey_11⟩ : ∃ y : Int32, y = kk + 1 := ⟨_, rfl⟩
              first | have ty_11 := i_add (a := kk.toInt) (b := 1) rfl (by decide) ey_11 (by omega) (by omega) | skip
              refine lv_iinc (v := y_11) (lv' := [(3, .int y_11), (2, .int 1), (0, .ref (ad 0)), (1, .ref qs)]) hx hb dX10_isWord_68 hl (k := 1) rfl (by rw [ey_11]; rfl) (by decide) rfl (fun ls hl => ?_)
              refine lv_goto (tgt := 32) hx hb dX10_isWord_71 (by decide) ?_
              have lit_11 : (1 : Int32).toInt = 1 := by decide
              exact ih32 1 y_11 (Or.inl ⟨by decide, (iw_l v32_0 (by omega)).1, (iw_l v32_0 (by omega)).2.1, tx_next (iw_l v32_0 (by omega)).2.2 (by rw [← show y_5.toInt = x6.toInt + kk.toInt by omega]; omega) (show y_11.toInt = kk.toInt + 1 by omega)⟩) (by first | omega | assumption | decide) (by first | omega | assumption | decide) (by omega) _ _ ls hP hD hS (lv_sub hl [0, 1, 2, 3] rfl)
    have lit_12 : (0 : Int32).toInt = 0 := by decide
    have lit_13 : (0 : Int32).toInt = 0 := by decide
    exact loop32 _ 0 0 (Or.inr ⟨by decide, fun h9 => by omega⟩) (by first | omega | assumption | decide) (by first | omega | assumption | decide) (Nat.lt_succ_self _) _ _ ls hP hD hS (lv_sub hl [0, 1, 2, 3] rfl)
  · have tk_1 := c_eq (a := x5.toInt) (b := 2) rfl (by decide) k_1
    refine lv_aload_n hx hb dX10_isWord_8 rfl (lv_at hl 0 rfl) ?_
    refine va_get (D := (dC, dI)) (ci := 10) (v := .int x7) (C := RX10) (T := TX10) (N := 48) hx hb hts fin_X10_isWordmq_X10 hown hK hP 0 rfl rfl 10 (by decide) (hts (.fieldLink RX10 130 "PatternGateModel" "end" "I") (List.mem_of_getElem? (i := 14) (by decide +kernel))) (fun _ h9 => h9) rfl dX10_isWord_9 ?_
    refine lv_aload_n hx hb dX10_isWord_12 rfl (lv_at hl 0 rfl) ?_
    refine va_get (D := (dC, dI)) (ci := 10) (v := .int x6) (C := RX10) (T := TX10) (N := 48) hx hb hts fin_X10_isWordmq_X10 hown hK hP 0 rfl rfl 9 (by decide) (hts (.fieldLink RX10 123 "PatternGateModel" "begin" "I") (List.mem_of_getElem? (i := 6) (by decide +kernel))) (fun _ h9 => h9) rfl dX10_isWord_13 ?_
    refine lv_isub hx hb dX10_isWord_16 ?_
    refine lv_topi (fun y_15 ey_15 => ?_)
    first | have ty_15 := i_sub (a := x7.toInt) (b := x6.toInt) rfl rfl ey_15 (by omega) (by omega) | skip
    refine lv_aload_n hx hb dX10_isWord_17 rfl (lv_at hl 1 rfl) ?_
    refine vp_callSi (W.runV (As := []) (rest := [.int y_15]) ⟨hx, hb, hml, hown, hts⟩ (j_length l qs ns (by omega)) (cwV 0 hts mg_X10_isWordmq_J0_length_8abf5_141 rfl rfl rfl (by decide +kernel) ⟨Nat.le_of_ble_eq_true rfl, Nat.le_of_ble_eq_true rfl⟩) ⟨fun a U g mk q => ⟨q.1, sP.call q.2⟩, sX.recv hX9.sX hS, fun U hU hW => ⟨rfl, sP.of hX9.sX hC9 hS hW.alike hU⟩⟩ rfl rfl hl.1 rfl (lv_room (Nat.le_of_ble_eq_true rfl)) dX10_isWord_18 ⟨Nat.le_of_ble_eq_true rfl, Nat.le_of_ble_eq_true rfl⟩) (fun r_16 hw => ?_)
    have hlr_16 : r_16.toInt = (ns : Int) := hw
    refine lv_icmp_ne (tgt := 28) hx hb dX10_isWord_21 (by decide) (fun k_17 => ?_) (fun k_17 => ?_)
    · have tk_17 := c_ne (a := y_15.toInt) (b := r_16.toInt) rfl rfl k_17
      refine lv_iconst (v := 0) hx hb dX10_isWord_28 (by decide) ?_
      refine lv_istore_n (lv' := [(2, .int 0), (0, .ref (ad 0)), (1, .ref qs)]) hx hb dX10_isWord_29 rfl hl (by decide) rfl (fun ls hl => ?_)
      refine lv_iconst (v := 0) hx hb dX10_isWord_30 (by decide) ?_
      refine lv_istore_n (lv' := [(3, .int 0), (2, .int 0), (0, .ref (ad 0)), (1, .ref qs)]) hx hb dX10_isWord_31 rfl hl (by decide) rfl (fun ls hl => ?_)
      have loop32 : ∀ (lm32 : Nat) (is kk : Int32), (is.toInt = 1 ∧ (x5.toInt = 2 ∧ x7.toInt - x6.toInt = (ns : Int) ∧ isTx (tx f2 x4.toInt) gs x6.toInt kk.toInt) ∨ is.toInt = 0 ∧ ¬ (x5.toInt = 2 ∧ x7.toInt - x6.toInt = (ns : Int) ∧ isTx (tx f2 x4.toInt) gs x6.toInt ns)) → (0 ≤ kk.toInt ∧ kk.toInt ≤ ns) → (is.toInt = 0 ∨ is.toInt = 1) → (((ns : Int) - kk.toInt).toNat) < lm32 → ∀ (H : Heap) (locs : List Loc) (ls : Array Slot), va_P (dC, dI) vwCl (mW ad kc x0 x1 x2 x3 x4 x5 x6 x7 x8 x9 x10 x11 x12 x13 x14 x15 x16 x17 x18 x19 x20 x21 f0 f1 f2 f3 f4 f5 f6 f7 f8 f9 f10 f11 f12 f13 f14 f15 f16 f17 f18 f19 f20 f21 fL fN fP fM fO) H → va_D A (mW ad kc x0 x1 x2 x3 x4 x5 x6 x7 x8 x9 x10 x11 x12 x13 x14 x15 x16 x17 x18 x19 x20 x21 f0 f1 f2 f3 f4 f5 f6 f7 f8 f9 f10 f11 f12 f13 f14 f15 f16 f17 f18 f19 f20 f21 fL fN fP fM fO) → va_S A s.heap H locs → lv_has ls 4 [(3, .int kk), (2, .int is), (0, .ref (ad 0)), (1, .ref qs)] → W p l e (headSpec mwX10_isWordmq ({ frames := 4, cells := 0, slots := 0, locals := 240 })).room s m ([.ref (ad 0), .ref qs]).toArray below meth c H locs 0 0 (MQ below (va_Qi (fun (o9 u9 : Int32) => o9 = u9) (fun (o9 : Int32) t => (o9.toInt = 1 ∧ (x5.toInt = 2 ∧ x7.toInt - x6.toInt = (ns : Int) ∧ isTx (tx f2 x4.toInt) gs x6.toInt ns) ∨ o9.toInt = 0 ∧ ¬ (x5.toInt = 2 ∧ x7.toInt - x6.toInt = (ns : Int) ∧ isTx (tx f2 x4.toInt) gs x6.toInt ns)) ∧ (o9.toInt = 0 ∨ o9.toInt = 1) ∧ va_P (dC, dI) vwCl (mW ad kc x0 x1 x2 x3 x4 x5 x6 x7 x8 x9 x10 x11 x12 x13 x14 x15 x16 x17 x18 x19 x20 x21 f0 f1 f2 f3 f4 f5 f6 f7 f8 f9 f10 f11 f12 f13 f14 f15 f16 f17 f18 f19 f20 f21 fL fN fP fM fO) t.heap ∧ va_K (dC, dI) vwCl (mT kc) t ∧ va_D A (mW ad kc x0 x1 x2 x3 x4 x5 x6 x7 x8 x9 x10 x11 x12 x13 x14 x15 x16 x17 x18 x19 x20 x21 f0 f1 f2 f3 f4 f5 f6 f7 f8 f9 f10 f11 f12 f13 f14 f15 f16 f17 f18 f19 f20 f21 fL fN fP fM fO)) A) ([.ref (ad 0), .ref qs]).toArray s 0 0 A) (F0 m 32 ls []) := by
        intro lm32
        induction lm32 with
        | zero => intro is kk v32_0 v32_1 v32_2 hm32; exact absurd hm32 (Nat.not_lt_zero _)
        | succ lm32 ih32 =>
          intro is kk v32_0 v32_1 v32_2 hm32 H locs ls hP hD hS hl
          have rg_is := i_rng is
          have rg_kk := i_rng kk
          refine lv_iload_n hx hb dX10_isWord_32 rfl (lv_at hl 0 rfl) ?_
          refine lv_aload_n hx hb dX10_isWord_33 rfl (lv_at hl 3 rfl) ?_
          refine vp_callSi (W.runV (As := []) (rest := [.int kk]) ⟨hx, hb, hml, hown, hts⟩ (j_length l qs ns (by omega)) (cwV 0 hts mg_X10_isWordmq_J0_length_8abf5_141 rfl rfl rfl (by decide +kernel) ⟨Nat.le_of_ble_eq_true rfl, Nat.le_of_ble_eq_true rfl⟩) ⟨fun a U g mk q => ⟨q.1, sP.call q.2⟩, sX.recv hX9.sX hS, fun U hU hW => ⟨rfl, sP.of hX9.sX hC9 hS hW.alike hU⟩⟩ rfl rfl hl.1 rfl (lv_room (Nat.le_of_ble_eq_true rfl)) dX10_isWord_34 ⟨Nat.le_of_ble_eq_true rfl, Nat.le_of_ble_eq_true rfl⟩) (fun r_18 hw => ?_)
          have hlr_18 : r_18.toInt = (ns : Int) := hw
          refine lv_icmp_ge (tgt := 74) hx hb dX10_isWord_37 (by decide) (fun k_19 => ?_) (fun k_19 => ?_)
          · have tk_19 := c_ge (a := kk.toInt) (b := r_18.toInt) rfl rfl k_19
            refine lv_iload_n hx hb dX10_isWord_74 rfl (lv_at hl 1 rfl) ?_
            exact W.zret hx hb hr (z_nar (by first | assumption | decide | exact z_of (by omega))) (fun t ht hW => ⟨⟨_, _, rfl, rfl, (by rcases v32_0 with h9 | h9; exact Or.inl ⟨h9.1, h9.2.1, h9.2.2.1, by rw [← show kk.toInt = (ns : Int) by omega]; exact h9.2.2.2⟩; exact Or.inr h9), (by first | omega | assumption | rfl | decide), by rw [ht]; exact hP, va_K.moved hW.alike hK, hD⟩, hS.F ht⟩) hS.2.2 dX10_isWord_75
          · have tk_19 := c_nge (a := kk.toInt) (b := r_18.toInt) rfl rfl k_19
            refine lv_iload_n hx hb dX10_isWord_40 rfl (lv_at hl 1 rfl) ?_
            refine lv_if_eq (tgt := 74) hx hb dX10_isWord_41 (by decide) (fun k_20 => ?_) (fun k_20 => ?_)
            · have tk_20 := c_eq (a := is.toInt) (b := 0) rfl (by decide) k_20
              refine lv_iload_n hx hb dX10_isWord_74 rfl (lv_at hl 1 rfl) ?_
              exact W.zret hx hb hr (z_nar (by first | assumption | decide | exact z_of (by omega))) (fun t ht hW => ⟨⟨_, _, rfl, rfl, (Or.inr ⟨by omega, iw_r v32_0 (by omega)⟩), (by first | omega | assumption | rfl | decide), by rw [ht]; exact hP, va_K.moved hW.alike hK, hD⟩, hS.F ht⟩) hS.2.2 dX10_isWord_75
            · have tk_20 := c_ne (a := is.toInt) (b := 0) rfl (by decide) k_20
              refine lv_aload_n hx hb dX10_isWord_44 rfl (lv_at hl 2 rfl) ?_
              refine lv_aload_n hx hb dX10_isWord_45 rfl (lv_at hl 2 rfl) ?_
              refine va_get (D := (dC, dI)) (ci := 10) (v := .int x6) (C := RX10) (T := TX10) (N := 48) hx hb hts fin_X10_isWordmq_X10 hown hK hP 0 rfl rfl 9 (by decide) (hts (.fieldLink RX10 123 "PatternGateModel" "begin" "I") (List.mem_of_getElem? (i := 6) (by decide +kernel))) (fun _ h9 => h9) rfl dX10_isWord_46 ?_
              refine lv_iload_n hx hb dX10_isWord_49 rfl (lv_at hl 0 rfl) ?_
              refine lv_iadd hx hb dX10_isWord_50 ?_
              refine lv_topi (fun y_21 ey_21 => ?_)
              first | have ty_21 := i_add (a := x6.toInt) (b := kk.toInt) rfl rfl ey_21 (by omega) (by omega) | skip
              refine vp_callSi (W.runV (As := [.int y_21]) (rest := []) ⟨hx, hb, hml, hown, hts⟩ (m_byteAt l dC dI ad kc x0 x1 x2 x3 x4 x5 x6 x7 x8 x9 x10 x11 x12 x13 x14 x15 x16 x17 x18 x19 x20 x21 f0 f1 f2 f3 f4 f5 f6 f7 f8 f9 f10 f11 f12 f13 f14 f15 f16 f17 f18 f19 f20 f21 fL fN fP fM fO y_21 (by first | omega | assumption | decide | (have l0 := Int32.toInt_zero; omega)) (by first | omega | assumption | decide | (have l0 := Int32.toInt_zero; omega))) (cwV 1 hts mg_X10_isWordmq_X10_byteAt_133 rfl rfl rfl (by decide +kernel) ⟨Nat.le_of_ble_eq_true rfl, Nat.le_of_ble_eq_true rfl⟩) ⟨fun a U g mk q => by obtain ⟨q0, qP, qK⟩ := q; exact ⟨q0, qP, va_K.moved (u := U) (U := U.calling g mk a) (Vm.Alike.refl U.vm) qK⟩, va_recv hK hP (ci := 10) (q0 := 0) rfl rfl, fun U hU hW => ⟨rfl, by rw [hU]; exact hP, va_K.moved hW.alike hK⟩⟩ rfl rfl hl.1 rfl (lv_room (Nat.le_of_ble_eq_true rfl)) dX10_isWord_51 ⟨Nat.le_of_ble_eq_true rfl, Nat.le_of_ble_eq_true rfl⟩) (fun r_22 hr_22 => ?_)
              have rg_r_22 := i_rng r_22
              refine lv_aload_n hx hb dX10_isWord_54 rfl (lv_at hl 3 rfl) ?_
              refine lv_iload_n hx hb dX10_isWord_55 rfl (lv_at hl 0 rfl) ?_
              refine vp_callSi (W.runV (As := [.int kk]) (rest := [.int r_22]) ⟨hx, hb, hml, hown, hts⟩ (j_charAt_q l qs ns gs kk (by omega) (by omega) (by omega)) (cwV 1 hts mg_X10_isWordmq_J0_charAt_5068e_147 rfl rfl rfl (by decide +kernel) ⟨Nat.le_of_ble_eq_true rfl, Nat.le_of_ble_eq_true rfl⟩) ⟨fun a U g mk q => ⟨q.1, sPg.call q.2⟩, sX.recv hX9.sX hS, fun U hU hW => ⟨rfl, sPg.of hX9 hC9 hS hW.alike hU⟩⟩ rfl rfl hl.1 rfl (lv_room (Nat.le_of_ble_eq_true rfl)) dX10_isWord_56 ⟨Nat.le_of_ble_eq_true rfl, Nat.le_of_ble_eq_true rfl⟩) (fun r_23 hw => ?_)
              have rg_r_23 := i_rng r_23
              have hcr_23 := hw
              refine lv_icmp_ne (tgt := 66) hx hb dX10_isWord_59 (by decide) (fun k_24 => ?_) (fun k_24 => ?_)
              · have tk_24 := c_ne (a := r_22.toInt) (b := r_23.toInt) rfl rfl k_24
                refine lv_iconst (v := 0) hx hb dX10_isWord_66 (by decide) ?_
                refine lv_istore_n (lv' := [(2, .int 0), (3, .int kk), (0, .ref (ad 0)), (1, .ref qs)]) hx hb dX10_isWord_67 rfl hl (by decide) rfl (fun ls hl => ?_)
                obtain ⟨y_25, ey_25⟩ : ∃ y : Int32, y = kk + 1 := ⟨_, rfl⟩
                first | have ty_25 := i_add (a := kk.toInt) (b := 1) rfl (by decide) ey_25 (by omega) (by omega) | skip
                refine lv_iinc (v := y_25) (lv' := [(3, .int y_25), (2, .int 0), (0, .ref (ad 0)), (1, .ref qs)]) hx hb dX10_isWord_68 hl (k := 1) rfl (by rw [ey_25]; rfl) (by decide) rfl (fun ls hl => ?_)
                refine lv_goto (tgt := 32) hx hb dX10_isWord_71 (by decide) ?_
                have lit_25 : (0 : Int32).toInt = 0 := by decide
                exact ih32 0 y_25 (Or.inr ⟨by decide, fun h9 => by have h8 := h9.2.2 kk.toInt (by omega) (by omega); rw [← show y_21.toInt = x6.toInt + kk.toInt by omega] at h8; omega⟩) (by first | omega | assumption | decide) (by first | omega | assumption | decide) (by omega) _ _ ls hP hD hS (lv_sub hl [0, 1, 2, 3] rfl)
              · have tk_24 := c_eq (a := r_22.toInt) (b := r_23.toInt) rfl rfl k_24
                refine lv_iconst (v := 1) hx hb dX10_isWord_62 (by decide) ?_
                refine lv_goto (tgt := 67) hx hb dX10_isWord_63 (by decide) ?_
                refine lv_istore_n (lv' := [(2, .int 1), (3, .int kk), (0, .ref (ad 0)), (1, .ref qs)]) hx hb dX10_isWord_67 rfl hl (by decide) rfl (fun ls hl => ?_)
                obtain ⟨y_27, ey_27⟩ : ∃ y : Int32, y = kk + 1 := ⟨_, rfl⟩
                first | have ty_27 := i_add (a := kk.toInt) (b := 1) rfl (by decide) ey_27 (by omega) (by omega) | skip
                refine lv_iinc (v := y_27) (lv' := [(3, .int y_27), (2, .int 1), (0, .ref (ad 0)), (1, .ref qs)]) hx hb dX10_isWord_68 hl (k := 1) rfl (by rw [ey_27]; rfl) (by decide) rfl (fun ls hl => ?_)
                refine lv_goto (tgt := 32) hx hb dX10_isWord_71 (by decide) ?_
                have lit_27 : (1 : Int32).toInt = 1 := by decide
                exact ih32 1 y_27 (Or.inl ⟨by decide, (iw_l v32_0 (by omega)).1, (iw_l v32_0 (by omega)).2.1, tx_next (iw_l v32_0 (by omega)).2.2 (by rw [← show y_21.toInt = x6.toInt + kk.toInt by omega]; omega) (show y_27.toInt = kk.toInt + 1 by omega)⟩) (by first | omega | assumption | decide) (by first | omega | assumption | decide) (by omega) _ _ ls hP hD hS (lv_sub hl [0, 1, 2, 3] rfl)
      have lit_28 : (0 : Int32).toInt = 0 := by decide
      have lit_29 : (0 : Int32).toInt = 0 := by decide
      exact loop32 _ 0 0 (Or.inr ⟨by decide, fun h9 => by omega⟩) (by first | omega | assumption | decide) (by first | omega | assumption | decide) (Nat.lt_succ_self _) _ _ ls hP hD hS (lv_sub hl [0, 1, 2, 3] rfl)
    · have tk_17 := c_eq (a := y_15.toInt) (b := r_16.toInt) rfl rfl k_17
      refine lv_iconst (v := 1) hx hb dX10_isWord_24 (by decide) ?_
      refine lv_goto (tgt := 29) hx hb dX10_isWord_25 (by decide) ?_
      refine lv_istore_n (lv' := [(2, .int 1), (0, .ref (ad 0)), (1, .ref qs)]) hx hb dX10_isWord_29 rfl hl (by decide) rfl (fun ls hl => ?_)
      refine lv_iconst (v := 0) hx hb dX10_isWord_30 (by decide) ?_
      refine lv_istore_n (lv' := [(3, .int 0), (2, .int 1), (0, .ref (ad 0)), (1, .ref qs)]) hx hb dX10_isWord_31 rfl hl (by decide) rfl (fun ls hl => ?_)
      have loop32 : ∀ (lm32 : Nat) (is kk : Int32), (is.toInt = 1 ∧ (x5.toInt = 2 ∧ x7.toInt - x6.toInt = (ns : Int) ∧ isTx (tx f2 x4.toInt) gs x6.toInt kk.toInt) ∨ is.toInt = 0 ∧ ¬ (x5.toInt = 2 ∧ x7.toInt - x6.toInt = (ns : Int) ∧ isTx (tx f2 x4.toInt) gs x6.toInt ns)) → (0 ≤ kk.toInt ∧ kk.toInt ≤ ns) → (is.toInt = 0 ∨ is.toInt = 1) → (((ns : Int) - kk.toInt).toNat) < lm32 → ∀ (H : Heap) (locs : List Loc) (ls : Array Slot), va_P (dC, dI) vwCl (mW ad kc x0 x1 x2 x3 x4 x5 x6 x7 x8 x9 x10 x11 x12 x13 x14 x15 x16 x17 x18 x19 x20 x21 f0 f1 f2 f3 f4 f5 f6 f7 f8 f9 f10 f11 f12 f13 f14 f15 f16 f17 f18 f19 f20 f21 fL fN fP fM fO) H → va_D A (mW ad kc x0 x1 x2 x3 x4 x5 x6 x7 x8 x9 x10 x11 x12 x13 x14 x15 x16 x17 x18 x19 x20 x21 f0 f1 f2 f3 f4 f5 f6 f7 f8 f9 f10 f11 f12 f13 f14 f15 f16 f17 f18 f19 f20 f21 fL fN fP fM fO) → va_S A s.heap H locs → lv_has ls 4 [(3, .int kk), (2, .int is), (0, .ref (ad 0)), (1, .ref qs)] → W p l e (headSpec mwX10_isWordmq ({ frames := 4, cells := 0, slots := 0, locals := 240 })).room s m ([.ref (ad 0), .ref qs]).toArray below meth c H locs 0 0 (MQ below (va_Qi (fun (o9 u9 : Int32) => o9 = u9) (fun (o9 : Int32) t => (o9.toInt = 1 ∧ (x5.toInt = 2 ∧ x7.toInt - x6.toInt = (ns : Int) ∧ isTx (tx f2 x4.toInt) gs x6.toInt ns) ∨ o9.toInt = 0 ∧ ¬ (x5.toInt = 2 ∧ x7.toInt - x6.toInt = (ns : Int) ∧ isTx (tx f2 x4.toInt) gs x6.toInt ns)) ∧ (o9.toInt = 0 ∨ o9.toInt = 1) ∧ va_P (dC, dI) vwCl (mW ad kc x0 x1 x2 x3 x4 x5 x6 x7 x8 x9 x10 x11 x12 x13 x14 x15 x16 x17 x18 x19 x20 x21 f0 f1 f2 f3 f4 f5 f6 f7 f8 f9 f10 f11 f12 f13 f14 f15 f16 f17 f18 f19 f20 f21 fL fN fP fM fO) t.heap ∧ va_K (dC, dI) vwCl (mT kc) t ∧ va_D A (mW ad kc x0 x1 x2 x3 x4 x5 x6 x7 x8 x9 x10 x11 x12 x13 x14 x15 x16 x17 x18 x19 x20 x21 f0 f1 f2 f3 f4 f5 f6 f7 f8 f9 f10 f11 f12 f13 f14 f15 f16 f17 f18 f19 f20 f21 fL fN fP fM fO)) A) ([.ref (ad 0), .ref qs]).toArray s 0 0 A) (F0 m 32 ls []) := by
        intro lm32
        induction lm32 with
        | zero => intro is kk v32_0 v32_1 v32_2 hm32; exact absurd hm32 (Nat.not_lt_zero _)
        | succ lm32 ih32 =>
          intro is kk v32_0 v32_1 v32_2 hm32 H locs ls hP hD hS hl
          have rg_is := i_rng is
          have rg_kk := i_rng kk
          refine lv_iload_n hx hb dX10_isWord_32 rfl (lv_at hl 0 rfl) ?_
          refine lv_aload_n hx hb dX10_isWord_33 rfl (lv_at hl 3 rfl) ?_
          refine vp_callSi (W.runV (As := []) (rest := [.int kk]) ⟨hx, hb, hml, hown, hts⟩ (j_length l qs ns (by omega)) (cwV 0 hts mg_X10_isWordmq_J0_length_8abf5_141 rfl rfl rfl (by decide +kernel) ⟨Nat.le_of_ble_eq_true rfl, Nat.le_of_ble_eq_true rfl⟩) ⟨fun a U g mk q => ⟨q.1, sP.call q.2⟩, sX.recv hX9.sX hS, fun U hU hW => ⟨rfl, sP.of hX9.sX hC9 hS hW.alike hU⟩⟩ rfl rfl hl.1 rfl (lv_room (Nat.le_of_ble_eq_true rfl)) dX10_isWord_34 ⟨Nat.le_of_ble_eq_true rfl, Nat.le_of_ble_eq_true rfl⟩) (fun r_31 hw => ?_)
          have hlr_31 : r_31.toInt = (ns : Int) := hw
          refine lv_icmp_ge (tgt := 74) hx hb dX10_isWord_37 (by decide) (fun k_32 => ?_) (fun k_32 => ?_)
          · have tk_32 := c_ge (a := kk.toInt) (b := r_31.toInt) rfl rfl k_32
            refine lv_iload_n hx hb dX10_isWord_74 rfl (lv_at hl 1 rfl) ?_
            exact W.zret hx hb hr (z_nar (by first | assumption | decide | exact z_of (by omega))) (fun t ht hW => ⟨⟨_, _, rfl, rfl, (by rcases v32_0 with h9 | h9; exact Or.inl ⟨h9.1, h9.2.1, h9.2.2.1, by rw [← show kk.toInt = (ns : Int) by omega]; exact h9.2.2.2⟩; exact Or.inr h9), (by first | omega | assumption | rfl | decide), by rw [ht]; exact hP, va_K.moved hW.alike hK, hD⟩, hS.F ht⟩) hS.2.2 dX10_isWord_75
          · have tk_32 := c_nge (a := kk.toInt) (b := r_31.toInt) rfl rfl k_32
            refine lv_iload_n hx hb dX10_isWord_40 rfl (lv_at hl 1 rfl) ?_
            refine lv_if_eq (tgt := 74) hx hb dX10_isWord_41 (by decide) (fun k_33 => ?_) (fun k_33 => ?_)
            · have tk_33 := c_eq (a := is.toInt) (b := 0) rfl (by decide) k_33
              refine lv_iload_n hx hb dX10_isWord_74 rfl (lv_at hl 1 rfl) ?_
              exact W.zret hx hb hr (z_nar (by first | assumption | decide | exact z_of (by omega))) (fun t ht hW => ⟨⟨_, _, rfl, rfl, (Or.inr ⟨by omega, iw_r v32_0 (by omega)⟩), (by first | omega | assumption | rfl | decide), by rw [ht]; exact hP, va_K.moved hW.alike hK, hD⟩, hS.F ht⟩) hS.2.2 dX10_isWord_75
            · have tk_33 := c_ne (a := is.toInt) (b := 0) rfl (by decide) k_33
              refine lv_aload_n hx hb dX10_isWord_44 rfl (lv_at hl 2 rfl) ?_
              refine lv_aload_n hx hb dX10_isWord_45 rfl (lv_at hl 2 rfl) ?_
              refine va_get (D := (dC, dI)) (ci := 10) (v := .int x6) (C := RX10) (T := TX10) (N := 48) hx hb hts fin_X10_isWordmq_X10 hown hK hP 0 rfl rfl 9 (by decide) (hts (.fieldLink RX10 123 "PatternGateModel" "begin" "I") (List.mem_of_getElem? (i := 6) (by decide +kernel))) (fun _ h9 => h9) rfl dX10_isWord_46 ?_
              refine lv_iload_n hx hb dX10_isWord_49 rfl (lv_at hl 0 rfl) ?_
              refine lv_iadd hx hb dX10_isWord_50 ?_
              refine lv_topi (fun y_34 ey_34 => ?_)
              first | have ty_34 := i_add (a := x6.toInt) (b := kk.toInt) rfl rfl ey_34 (by omega) (by omega) | skip
              refine vp_callSi (W.runV (As := [.int y_34]) (rest := []) ⟨hx, hb, hml, hown, hts⟩ (m_byteAt l dC dI ad kc x0 x1 x2 x3 x4 x5 x6 x7 x8 x9 x10 x11 x12 x13 x14 x15 x16 x17 x18 x19 x20 x21 f0 f1 f2 f3 f4 f5 f6 f7 f8 f9 f10 f11 f12 f13 f14 f15 f16 f17 f18 f19 f20 f21 fL fN fP fM fO y_34 (by first | omega | assumption | decide | (have l0 := Int32.toInt_zero; omega)) (by first | omega | assumption | decide | (have l0 := Int32.toInt_zero; omega))) (cwV 1 hts mg_X10_isWordmq_X10_byteAt_133 rfl rfl rfl (by decide +kernel) ⟨Nat.le_of_ble_eq_true rfl, Nat.le_of_ble_eq_true rfl⟩) ⟨fun a U g mk q => by obtain ⟨q0, qP, qK⟩ := q; exact ⟨q0, qP, va_K.moved (u := U) (U := U.calling g mk a) (Vm.Alike.refl U.vm) qK⟩, va_recv hK hP (ci := 10) (q0 := 0) rfl rfl, fun U hU hW => ⟨rfl, by rw [hU]; exact hP, va_K.moved hW.alike hK⟩⟩ rfl rfl hl.1 rfl (lv_room (Nat.le_of_ble_eq_true rfl)) dX10_isWord_51 ⟨Nat.le_of_ble_eq_true rfl, Nat.le_of_ble_eq_true rfl⟩) (fun r_35 hr_35 => ?_)
              have rg_r_35 := i_rng r_35
              refine lv_aload_n hx hb dX10_isWord_54 rfl (lv_at hl 3 rfl) ?_
              refine lv_iload_n hx hb dX10_isWord_55 rfl (lv_at hl 0 rfl) ?_
              refine vp_callSi (W.runV (As := [.int kk]) (rest := [.int r_35]) ⟨hx, hb, hml, hown, hts⟩ (j_charAt_q l qs ns gs kk (by omega) (by omega) (by omega)) (cwV 1 hts mg_X10_isWordmq_J0_charAt_5068e_147 rfl rfl rfl (by decide +kernel) ⟨Nat.le_of_ble_eq_true rfl, Nat.le_of_ble_eq_true rfl⟩) ⟨fun a U g mk q => ⟨q.1, sPg.call q.2⟩, sX.recv hX9.sX hS, fun U hU hW => ⟨rfl, sPg.of hX9 hC9 hS hW.alike hU⟩⟩ rfl rfl hl.1 rfl (lv_room (Nat.le_of_ble_eq_true rfl)) dX10_isWord_56 ⟨Nat.le_of_ble_eq_true rfl, Nat.le_of_ble_eq_true rfl⟩) (fun r_36 hw => ?_)
              have rg_r_36 := i_rng r_36
              have hcr_36 := hw
              refine lv_icmp_ne (tgt := 66) hx hb dX10_isWord_59 (by decide) (fun k_37 => ?_) (fun k_37 => ?_)
              · have tk_37 := c_ne (a := r_35.toInt) (b := r_36.toInt) rfl rfl k_37
                refine lv_iconst (v := 0) hx hb dX10_isWord_66 (by decide) ?_
                refine lv_istore_n (lv' := [(2, .int 0), (3, .int kk), (0, .ref (ad 0)), (1, .ref qs)]) hx hb dX10_isWord_67 rfl hl (by decide) rfl (fun ls hl => ?_)
                obtain ⟨y_38, ey_38⟩ : ∃ y : Int32, y = kk + 1 := ⟨_, rfl⟩
                first | have ty_38 := i_add (a := kk.toInt) (b := 1) rfl (by decide) ey_38 (by omega) (by omega) | skip
                refine lv_iinc (v := y_38) (lv' := [(3, .int y_38), (2, .int 0), (0, .ref (ad 0)), (1, .ref qs)]) hx hb dX10_isWord_68 hl (k := 1) rfl (by rw [ey_38]; rfl) (by decide) rfl (fun ls hl => ?_)
                refine lv_goto (tgt := 32) hx hb dX10_isWord_71 (by decide) ?_
                have lit_38 : (0 : Int32).toInt = 0 := by decide
                exact ih32 0 y_38 (Or.inr ⟨by decide, fun h9 => by have h8 := h9.2.2 kk.toInt (by omega) (by omega); rw [← show y_34.toInt = x6.toInt + kk.toInt by omega] at h8; omega⟩) (by first | omega | assumption | decide) (by first | omega | assumption | decide) (by omega) _ _ ls hP hD hS (lv_sub hl [0, 1, 2, 3] rfl)
              · have tk_37 := c_eq (a := r_35.toInt) (b := r_36.toInt) rfl rfl k_37
                refine lv_iconst (v := 1) hx hb dX10_isWord_62 (by decide) ?_
                refine lv_goto (tgt := 67) hx hb dX10_isWord_63 (by decide) ?_
                refine lv_istore_n (lv' := [(2, .int 1), (3, .int kk), (0, .ref (ad 0)), (1, .ref qs)]) hx hb dX10_isWord_67 rfl hl (by decide) rfl (fun ls hl => ?_)
                obtain ⟨y_40, ey_40⟩ : ∃ y : Int32, y = kk + 1 := ⟨_, rfl⟩
                first | have ty_40 := i_add (a := kk.toInt) (b := 1) rfl (by decide) ey_40 (by omega) (by omega) | skip
                refine lv_iinc (v := y_40) (lv' := [(3, .int y_40), (2, .int 1), (0, .ref (ad 0)), (1, .ref qs)]) hx hb dX10_isWord_68 hl (k := 1) rfl (by rw [ey_40]; rfl) (by decide) rfl (fun ls hl => ?_)
                refine lv_goto (tgt := 32) hx hb dX10_isWord_71 (by decide) ?_
                have lit_40 : (1 : Int32).toInt = 1 := by decide
                exact ih32 1 y_40 (Or.inl ⟨by decide, (iw_l v32_0 (by omega)).1, (iw_l v32_0 (by omega)).2.1, tx_next (iw_l v32_0 (by omega)).2.2 (by rw [← show y_34.toInt = x6.toInt + kk.toInt by omega]; omega) (show y_40.toInt = kk.toInt + 1 by omega)⟩) (by first | omega | assumption | decide) (by first | omega | assumption | decide) (by omega) _ _ ls hP hD hS (lv_sub hl [0, 1, 2, 3] rfl)
      have lit_41 : (1 : Int32).toInt = 1 := by decide
      have lit_42 : (0 : Int32).toInt = 0 := by decide
      exact loop32 _ 1 0 (Or.inl ⟨by decide, by omega, by omega, fun j a b => by have z0 := Int32.toInt_zero; omega⟩) (by first | omega | assumption | decide) (by first | omega | assumption | decide) (Nat.lt_succ_self _) _ _ ls hP hD hS (lv_sub hl [0, 1, 2, 3] rfl)
def mwX10_aLinemq : List Cond := .code yX10_aLine cX10_aLine 2 (some .boolean) :: (([.methodLink RX10 175 yX10_isWord, .instanceMethod yX10_isWord, .selects RX10 yX10_isWord yX10_isWord, .initialized RX10, .fieldLink RX10 8 "PatternGateModel" "all" "[I", .methodLink RX10 184 yX10_ahead, .instanceMethod yX10_ahead, .selects RX10 yX10_ahead yX10_ahead, .fieldLink RX10 120 "PatternGateModel" "token" "I", .methodLink RX10 187 yX10_docQuote, .instanceMethod yX10_docQuote, .selects RX10 yX10_docQuote yX10_docQuote, .methodLink RX10 181 yX10_fails, .instanceMethod yX10_fails, .selects RX10 yX10_fails yX10_fails, .methodLink RX10 190 yX10_patternQuote, .instanceMethod yX10_patternQuote, .selects RX10 yX10_patternQuote yX10_patternQuote] : List Cond) ++ (wsX100 ++ (mwX10_isWordmq ++ (mwX10_aheadmq ++ (mwX10_docQuotemq ++ (mwX10_failsmq ++ (mwX10_patternQuotemq)))))))
theorem fin_X10_aLinemq_X10 : ∀ w ∈ wsX100, w ∈ mwX10_aLinemq := fun w h => List.mem_cons_of_mem _ (List.mem_append_right _ (List.mem_append_left _ h))
set_option maxRecDepth 100000 in
theorem gd_mwX10_isWordmq : mwX10_isWordmq.all goodWord = true := by decide +kernel
set_option maxRecDepth 100000 in
theorem gd_mwX10_aheadmq : mwX10_aheadmq.all goodWord = true := by decide +kernel
set_option maxRecDepth 100000 in
theorem gd_mwX10_docQuotemq : mwX10_docQuotemq.all goodWord = true := by decide +kernel
set_option maxRecDepth 100000 in
theorem gd_mwX10_failsmq : mwX10_failsmq.all goodWord = true := by decide +kernel
set_option maxRecDepth 100000 in
theorem gd_mwX10_patternQuotemq : mwX10_patternQuotemq.all goodWord = true := by decide +kernel
set_option maxRecDepth 20000 in
theorem mg_X10_aLinemq_X10_isWord_175 : GoodIn mwX10_aLinemq (wsV RX10 175 RX10 yX10_isWord mwX10_isWordmq) := gi_app (A := [.methodLink RX10 175 yX10_isWord, .instanceMethod yX10_isWord, .selects RX10 yX10_isWord yX10_isWord, .initialized RX10]) (goodIn_r _ [1, 2, 3, 4] (by decide +kernel) (by decide +kernel)) (gi_sub gd_mwX10_isWordmq (fun w h => List.mem_cons_of_mem _ (List.mem_append_right _ (List.mem_append_right _ (List.mem_append_left _ h)))))
set_option maxRecDepth 20000 in
theorem mg_X10_aLinemq_X10_ahead_184 : GoodIn mwX10_aLinemq (wsV RX10 184 RX10 yX10_ahead mwX10_aheadmq) := gi_app (A := [.methodLink RX10 184 yX10_ahead, .instanceMethod yX10_ahead, .selects RX10 yX10_ahead yX10_ahead, .initialized RX10]) (goodIn_r _ [6, 7, 8, 4] (by decide +kernel) (by decide +kernel)) (gi_sub gd_mwX10_aheadmq (fun w h => List.mem_cons_of_mem _ (List.mem_append_right _ (List.mem_append_right _ (List.mem_append_right _ (List.mem_append_left _ h))))))
set_option maxRecDepth 20000 in
theorem mg_X10_aLinemq_X10_docQuote_187 : GoodIn mwX10_aLinemq (wsV RX10 187 RX10 yX10_docQuote mwX10_docQuotemq) := gi_app (A := [.methodLink RX10 187 yX10_docQuote, .instanceMethod yX10_docQuote, .selects RX10 yX10_docQuote yX10_docQuote, .initialized RX10]) (goodIn_r _ [10, 11, 12, 4] (by decide +kernel) (by decide +kernel)) (gi_sub gd_mwX10_docQuotemq (fun w h => List.mem_cons_of_mem _ (List.mem_append_right _ (List.mem_append_right _ (List.mem_append_right _ (List.mem_append_right _ (List.mem_append_left _ h)))))))
set_option maxRecDepth 20000 in
theorem mg_X10_aLinemq_X10_fails_181 : GoodIn mwX10_aLinemq (wsV RX10 181 RX10 yX10_fails mwX10_failsmq) := gi_app (A := [.methodLink RX10 181 yX10_fails, .instanceMethod yX10_fails, .selects RX10 yX10_fails yX10_fails, .initialized RX10]) (goodIn_r _ [13, 14, 15, 4] (by decide +kernel) (by decide +kernel)) (gi_sub gd_mwX10_failsmq (fun w h => List.mem_cons_of_mem _ (List.mem_append_right _ (List.mem_append_right _ (List.mem_append_right _ (List.mem_append_right _ (List.mem_append_right _ (List.mem_append_left _ h))))))))
set_option maxRecDepth 20000 in
theorem mg_X10_aLinemq_X10_patternQuote_190 : GoodIn mwX10_aLinemq (wsV RX10 190 RX10 yX10_patternQuote mwX10_patternQuotemq) := gi_app (A := [.methodLink RX10 190 yX10_patternQuote, .instanceMethod yX10_patternQuote, .selects RX10 yX10_patternQuote yX10_patternQuote, .initialized RX10]) (goodIn_r _ [16, 17, 18, 4] (by decide +kernel) (by decide +kernel)) (gi_sub gd_mwX10_patternQuotemq (fun w h => List.mem_cons_of_mem _ (List.mem_append_right _ (List.mem_append_right _ (List.mem_append_right _ (List.mem_append_right _ (List.mem_append_right _ (List.mem_append_right _ (h)))))))))
set_option maxHeartbeats 4000000 in
set_option maxRecDepth 100000 in
theorem m_aLine_q (l : Launch) (dC : Nat → ClassId) (dI : Nat → Nat → Nat) (ad : Nat → Nat) (kc : Nat → ClassId) (x0 x1 x2 x3 x4 x5 x6 x7 x8 x9 x10 x11 x12 x13 x14 x15 x16 x17 x18 x19 x20 x21 : Int32) (f0 f1 f2 f3 f4 f5 f6 f7 f8 f9 f10 f11 f12 f13 f14 f15 f16 f17 f18 f19 f20 f21 : Nat → Int32) (fL : Nat → Nat → Int64) (fN : Nat → Nat → Int32) (fP : Nat → Nat → Nat) (fM : Nat → Nat → Int32) (fO : Nat → Nat → Int32) (sz : Nat) (q0 : OKd f0 0) (q1 : 0 ≤ x6.toInt ∧ x6.toInt ≤ x7.toInt) (q2 : x7.toInt ≤ x4.toInt ∧ x4.toInt ≤ 900) (q3 : tK (tx f2 x4.toInt) x6.toInt x7.toInt x5.toInt) (q4 : x5.toInt ≠ 0) (q5 : 0 ≤ x8.toInt) : Met l yX10_aLine mwX10_aLinemq ({ frames := 22, cells := 0, slots := 0, locals := 1320 }) (va_Pc [.ref (ad 0)] (fun U => U.heap.size = sz ∧ va_P (dC, dI) vwCl (mW ad kc x0 x1 x2 x3 x4 x5 x6 x7 x8 x9 x10 x11 x12 x13 x14 x15 x16 x17 x18 x19 x20 x21 f0 f1 f2 f3 f4 f5 f6 f7 f8 f9 f10 f11 f12 f13 f14 f15 f16 f17 f18 f19 f20 f21 fL fN fP fM fO) U.heap ∧ va_K (dC, dI) vwCl (mT kc) U ∧ va_D (fun _ => True) (mW ad kc x0 x1 x2 x3 x4 x5 x6 x7 x8 x9 x10 x11 x12 x13 x14 x15 x16 x17 x18 x19 x20 x21 f0 f1 f2 f3 f4 f5 f6 f7 f8 f9 f10 f11 f12 f13 f14 f15 f16 f17 f18 f19 f20 f21 fL fN fP fM fO) ∧ sW2 (va_A (mW ad kc x0 x1 x2 x3 x4 x5 x6 x7 x8 x9 x10 x11 x12 x13 x14 x15 x16 x17 x18 x19 x20 x21 f0 f1 f2 f3 f4 f5 f6 f7 f8 f9 f10 f11 f12 f13 f14 f15 f16 f17 f18 f19 f20 f21 fL fN fP fM fO) sz) U U.heap)) (va_Qi (fun (o9 u9 : Int32) => o9 = u9) (fun (o9 : Int32) t => ∃ (y5 y6 y7 y8 y9 y11 : Int32) (g0 : Nat → Int32), (OKd g0 0) ∧ (∀ z : Int, 7820 ≤ z → vI g0 z = vI f0 z) ∧ (0 ≤ y6.toInt ∧ y6.toInt ≤ y7.toInt) ∧ (x7.toInt ≤ y7.toInt ∧ y7.toInt ≤ x4.toInt) ∧ (o9.toInt = 0 ∨ o9.toInt = 1) ∧ (o9.toInt = 1 → x7.toInt < y7.toInt) ∧ (o9.toInt = 1 ∧ (Ld (tx f2 x4.toInt) (zTop x6.toInt 0 (vI f0 0) (vI f0 611)) (zTop y6.toInt 0 (vI g0 0) (vI g0 611)) ∧ tK (tx f2 x4.toInt) y6.toInt y7.toInt y5.toInt) ∨ o9.toInt = 0 ∧ Ld (tx f2 x4.toInt) (zTop x6.toInt 0 (vI f0 0) (vI f0 611)) (zOut (-1))) ∧ (o9.toInt = 1 ∧ y8.toInt = x8.toInt ∨ o9.toInt = 0 ∧ 0 < y8.toInt) ∧ va_P (dC, dI) vwCl (mW ad kc x0 x1 x2 x3 x4 y5 y6 y7 y8 y9 x10 y11 x12 x13 x14 x15 x16 x17 x18 x19 x20 x21 g0 f1 f2 f3 f4 f5 f6 f7 f8 f9 f10 f11 f12 f13 f14 f15 f16 f17 f18 f19 f20 f21 fL fN fP fM fO) t.heap ∧ va_K (dC, dI) vwCl (mT kc) t ∧ va_D (va_A (mW ad kc x0 x1 x2 x3 x4 x5 x6 x7 x8 x9 x10 x11 x12 x13 x14 x15 x16 x17 x18 x19 x20 x21 f0 f1 f2 f3 f4 f5 f6 f7 f8 f9 f10 f11 f12 f13 f14 f15 f16 f17 f18 f19 f20 f21 fL fN fP fM fO) sz) (mW ad kc x0 x1 x2 x3 x4 y5 y6 y7 y8 y9 x10 y11 x12 x13 x14 x15 x16 x17 x18 x19 x20 x21 g0 f1 f2 f3 f4 f5 f6 f7 f8 f9 f10 f11 f12 f13 f14 f15 f16 f17 f18 f19 f20 f21 fL fN fP fM fO)) (va_A (mW ad kc x0 x1 x2 x3 x4 x5 x6 x7 x8 x9 x10 x11 x12 x13 x14 x15 x16 x17 x18 x19 x20 x21 f0 f1 f2 f3 f4 f5 f6 f7 f8 f9 f10 f11 f12 f13 f14 f15 f16 f17 f18 f19 f20 f21 fL fN fP fM fO) sz)) 0 0 (va_A (mW ad kc x0 x1 x2 x3 x4 x5 x6 x7 x8 x9 x10 x11 x12 x13 x14 x15 x16 x17 x18 x19 x20 x21 f0 f1 f2 f3 f4 f5 f6 f7 f8 f9 f10 f11 f12 f13 f14 f15 f16 f17 f18 f19 f20 f21 fL fN fP fM fO) sz) := by
  refine Met.ofW (cc := cX10_aLine) (maxL := 2) (ret := (some .boolean)) (by decide +kernel) rfl ?_
  intro p e s m args below meth c s₁ B hml hv
  obtain ⟨rfl, hsz, hP, hK, hD0, hSW⟩ := hv
  have hx := B.exec
  have hb := B.bytes
  have hr := B.returns
  have hts := atoms_spec (ws := mwX10_aLinemq) B.pre
  have hown : s.vm.findClass RX10 = some m.cls := findClass_of_methodNamed B.named
  have hlocks := B.notSynchronized
  subst hsz
  have hD := hD0.self (sz := s.heap.size)
  generalize hAe : va_A (mW ad kc x0 x1 x2 x3 x4 x5 x6 x7 x8 x9 x10 x11 x12 x13 x14 x15 x16 x17 x18 x19 x20 x21 f0 f1 f2 f3 f4 f5 f6 f7 f8 f9 f10 f11 f12 f13 f14 f15 f16 f17 f18 f19 f20 f21 fL fN fP fM fO) s.heap.size = A at hD hSW ⊢
  have hA : ∀ q : Nat, s.heap.size ≤ q → A q := fun q h => by rw [← hAe]; exact Or.inr h
  have hP : va_P (dC, dI) vwCl (mW ad kc x0 x1 x2 x3 x4 x5 x6 x7 x8 x9 x10 x11 x12 x13 x14 x15 x16 x17 x18 x19 x20 x21 f0 f1 f2 f3 f4 f5 f6 f7 f8 f9 f10 f11 f12 f13 f14 f15 f16 f17 f18 f19 f20 f21 fL fN fP fM fO) s.heap := hP
  have hD : va_D A (mW ad kc x0 x1 x2 x3 x4 x5 x6 x7 x8 x9 x10 x11 x12 x13 x14 x15 x16 x17 x18 x19 x20 x21 f0 f1 f2 f3 f4 f5 f6 f7 f8 f9 f10 f11 f12 f13 f14 f15 f16 f17 f18 f19 f20 f21 fL fN fP fM fO) := hD
  have hK : va_K (dC, dI) vwCl (mT kc) s := hK
  generalize hH : s.heap = H at hP ⊢
  have hS : va_S A s.heap H [] := by rw [← hH]; exact va_S.rf
  have hl := lv_entry ([.ref (ad 0)]) (n := 2) (Nat.le_of_ble_eq_true rfl)
  rw [lg_entry_eq]
  generalize (lg_sl ([.ref (ad 0)]) ++ List.replicate (2 - (lg_sl ([.ref (ad 0)])).length) Slot.unset).toArray = ls at hl ⊢
  have hl : lv_has ls 2 [(0, .ref (ad 0))] := hl
  obtain ⟨qd, qp, hR173, hR179, hXd, hXp, hC9⟩ := hSW
  have hd10 := q0.n0
  have hp8 := q0.P0
  refine lv_aload_n hx hb dX10_aLine_0 rfl (lv_at hl 0 rfl) ?_
  refine va_ldcS hx hb hown hR173 dX10_aLine_1 ?_
  have hFc := m_free hD hS hA
  refine va_calli (va_runV (As := [.ref qd]) (rest := []) ⟨hx, hb, hml, hown, hts⟩ (m_isWord_q l dC dI ad kc x0 x1 x2 x3 x4 x5 x6 x7 x8 x9 x10 x11 x12 x13 x14 x15 x16 x17 x18 x19 x20 x21 f0 f1 f2 f3 f4 f5 f6 f7 f8 f9 f10 f11 f12 f13 f14 f15 f16 f17 f18 f19 f20 f21 fL fN fP fM fO H.size qd 3 gDoc (by first | omega | assumption | decide | (have l0 := Int32.toInt_zero; omega)) (by first | omega | assumption | decide | (have l0 := Int32.toInt_zero; omega)) (by first | omega | assumption | decide | (have l0 := Int32.toInt_zero; omega)) (by first | omega | assumption | decide | (have l0 := Int32.toInt_zero; omega))) (cwV 1 hts mg_X10_aLinemq_X10_isWord_175 rfl rfl rfl (by decide +kernel) ⟨Nat.le_of_ble_eq_true rfl, Nat.le_of_ble_eq_true rfl⟩) ⟨fun a U g mk q => by obtain ⟨q0, q1, qP, qK, qD, qE0, qE1⟩ := q; exact ⟨q0, q1, qP, va_K.moved (u := U) (U := U.calling g mk a) (Vm.Alike.refl U.vm) qK, qD, sY.moved (u := U) (U := U.calling g mk a) (Vm.Alike.refl U.vm) qE0, sC.moved (u := U) (U := U.calling g mk a) (Vm.Alike.refl U.vm) qE1⟩, va_recv hK hP (ci := 10) (q0 := 0) rfl rfl, fun U hU hW => ⟨rfl, by rw [hU], by rw [hU]; exact hP, va_K.moved hW.alike hK, hD.weaken (fun _ _ _ _ => trivial), sY.to hXd hS hFc hW hU, sC.to hC9 hS hFc hW hU⟩⟩ rfl rfl hl.1 rfl (lv_room (Nat.le_of_ble_eq_true rfl)) dX10_aLine_3 ⟨Nat.le_of_ble_eq_true rfl, Nat.le_of_ble_eq_true rfl⟩) hS (fun q _ h => hFc q h) hFc (fun r_1 u t H1 locs ht hvm hw hB hz1 hk1 hS => ?_)
  subst hw
  obtain ⟨hr_1_0, hr_1_1, hP, hK1, hD1⟩ := hB
  rw [ht] at hP
  have hD := hD1.weaken (fun k q _ h => hFc q.1 h)
  clear hz1 hk1 hFc hD1 hK1 hvm
  generalize H1 = H at hP hS ⊢
  have rg_r_1 := i_rng r_1
  have hP : va_P (dC, dI) vwCl (mW ad kc x0 x1 x2 x3 x4 x5 x6 x7 x8 x9 x10 x11 x12 x13 x14 x15 x16 x17 x18 x19 x20 x21 f0 f1 f2 f3 f4 f5 f6 f7 f8 f9 f10 f11 f12 f13 f14 f15 f16 f17 f18 f19 f20 f21 fL fN fP fM fO) H := hP
  have hD : va_D A (mW ad kc x0 x1 x2 x3 x4 x5 x6 x7 x8 x9 x10 x11 x12 x13 x14 x15 x16 x17 x18 x19 x20 x21 f0 f1 f2 f3 f4 f5 f6 f7 f8 f9 f10 f11 f12 f13 f14 f15 f16 f17 f18 f19 f20 f21 fL fN fP fM fO) := hD
  refine lv_istore_n (lv' := [(1, .int r_1), (0, .ref (ad 0))]) hx hb dX10_aLine_6 rfl hl (by decide) rfl (fun ls hl => ?_)
  refine lv_iload_n hx hb dX10_aLine_7 rfl (lv_at hl 0 rfl) ?_
  refine lv_if_ne (tgt := 26) hx hb dX10_aLine_8 (by decide) (fun k_2 => ?_) (fun k_2 => ?_)
  · have tk_2 := c_ne (a := r_1.toInt) (b := 0) rfl (by decide) k_2
    have hWd : x5.toInt = 2 ∧ wDoc (tx f2 x4.toInt) x6.toInt x7.toInt := ⟨(iw_l hr_1_0 (by omega)).1, tx_doc.mp (iw_l hr_1_0 (by omega)).2⟩
    refine lv_aload_n hx hb dX10_aLine_26 rfl (lv_at hl 1 rfl) ?_
    refine va_get (D := (dC, dI)) (ci := 10) (v := .ref (ad 1)) (C := RX10) (T := TX10) (N := 48) hx hb hts fin_X10_aLinemq_X10 hown hK hP 0 rfl rfl 0 (by decide) (hts (.fieldLink RX10 8 "PatternGateModel" "all" "[I") (List.mem_of_getElem? (i := 5) (by decide +kernel))) (fun _ h9 => h9) rfl dX10_aLine_27 ?_
    refine lv_iload_n hx hb dX10_aLine_30 rfl (lv_at hl 0 rfl) ?_
    refine lv_if_eq (tgt := 38) hx hb dX10_aLine_31 (by decide) (fun k_3 => absurd k_3 k_2) (fun k_3 => ?_)
    have tk_3 := c_ne (a := r_1.toInt) (b := 0) rfl (by decide) k_3
    refine lv_iconst (v := 0) hx hb dX10_aLine_34 (by decide) ?_
    refine lv_goto (tgt := 41) hx hb dX10_aLine_35 (by decide) ?_
    refine va_iald hx hb hK hP 1 0 rfl rfl (i := 0) (by unfold vp_in; decide +kernel) dX10_aLine_41 ?_
    refine lv_topi (fun y_4 ey_4 => ?_)
    have rg_y_4 := i_rng y_4
    have vy_4 := vI_lda (f := f0) (i := 0) (a := 0) ey_4 (by first | omega | decide)
    have rg_y_4 := i_rng y_4
    refine lv_iload_n hx hb dX10_aLine_42 rfl (lv_at hl 0 rfl) ?_
    refine lv_if_eq (tgt := 51) hx hb dX10_aLine_43 (by decide) (fun k_5 => absurd k_5 k_2) (fun k_5 => ?_)
    have tk_5 := c_ne (a := r_1.toInt) (b := 0) rfl (by decide) k_5
    refine lv_bipush (v := 10) hx hb dX10_aLine_46 (by decide) ?_
    refine lv_goto (tgt := 53) hx hb dX10_aLine_48 (by decide) ?_
    refine lv_icmp_ne (tgt := 62) hx hb dX10_aLine_53 (by decide) (fun k_6 => ?_) (fun k_6 => ?_)
    · have tk_6 := c_ne (a := y_4.toInt) (b := 10) rfl (by decide) k_6
      have hL1 := wd_doc (d := vI f0 0) (p := vI f0 611) q3 hWd.1 hWd.2 (by omega)
      refine lv_aload_n hx hb dX10_aLine_62 rfl (lv_at hl 1 rfl) ?_
      have hFc := m_free hD hS hA
      refine va_callv (va_runV (As := []) (rest := []) ⟨hx, hb, hml, hown, hts⟩ (m_ahead_q l dC dI ad kc x0 x1 x2 x3 x4 x5 x6 x7 x8 x9 x10 x11 x12 x13 x14 x15 x16 x17 x18 x19 x20 x21 f0 f1 f2 f3 f4 f5 f6 f7 f8 f9 f10 f11 f12 f13 f14 f15 f16 f17 f18 f19 f20 f21 fL fN fP fM fO H.size (by first | omega | assumption | decide | (have l0 := Int32.toInt_zero; omega)) (by first | omega | assumption | decide | (have l0 := Int32.toInt_zero; omega)) (by first | omega | assumption | decide | (have l0 := Int32.toInt_zero; omega))) (cwV 0 hts mg_X10_aLinemq_X10_ahead_184 rfl rfl rfl (by decide +kernel) ⟨Nat.le_of_ble_eq_true rfl, Nat.le_of_ble_eq_true rfl⟩) ⟨fun a U g mk q => by obtain ⟨q0, q1, qP, qK, qD⟩ := q; exact ⟨q0, q1, qP, va_K.moved (u := U) (U := U.calling g mk a) (Vm.Alike.refl U.vm) qK, qD⟩, va_recv hK hP (ci := 10) (q0 := 0) rfl rfl, fun U hU hW => ⟨rfl, by rw [hU], by rw [hU]; exact hP, va_K.moved hW.alike hK, hD.weaken (fun _ _ _ _ => trivial)⟩⟩ rfl rfl hl.1 rfl (lv_room (Nat.le_of_ble_eq_true rfl)) dX10_aLine_63 ⟨Nat.le_of_ble_eq_true rfl, Nat.le_of_ble_eq_true rfl⟩) hS (fun q _ h => hFc q h) hFc (fun u t H1 locs ht hvm hw hB hz1 hk1 hS => ?_)
      obtain ⟨x_8, x_9, x_10, hr_7_0, hr_7_1, hr_7_2, hr_7_3, hr_7_4, hr_7_5, hr_7_6, hP, hK1, hD1⟩ := hB
      rw [ht] at hP
      have hD := hD1.weaken (fun k q _ h => hFc q.1 h)
      clear hz1 hk1 hFc hD1 hK1 hvm
      generalize H1 = H at hP hS ⊢
      have rg_x_8 := i_rng x_8
      have rg_x_9 := i_rng x_9
      have rg_x_10 := i_rng x_10
      have hP : va_P (dC, dI) vwCl (mW ad kc x0 x1 x2 x3 x4 x_8 x_9 x_10 x8 x9 x10 x11 x12 x13 x14 x15 x16 x17 x18 x19 x20 x21 f0 f1 f2 f3 f4 f5 f6 f7 f8 f9 f10 f11 f12 f13 f14 f15 f16 f17 f18 f19 f20 f21 fL fN fP fM fO) H := hP
      have hD : va_D A (mW ad kc x0 x1 x2 x3 x4 x_8 x_9 x_10 x8 x9 x10 x11 x12 x13 x14 x15 x16 x17 x18 x19 x20 x21 f0 f1 f2 f3 f4 f5 f6 f7 f8 f9 f10 f11 f12 f13 f14 f15 f16 f17 f18 f19 f20 f21 fL fN fP fM fO) := hD
      have hL2 := hL1.tr (hr_7_5 _ _ _)
      refine lv_aload_n hx hb dX10_aLine_66 rfl (lv_at hl 1 rfl) ?_
      refine va_get (D := (dC, dI)) (ci := 10) (v := .int x_8) (C := RX10) (T := TX10) (N := 48) hx hb hts fin_X10_aLinemq_X10 hown hK hP 0 rfl rfl 8 (by decide) (hts (.fieldLink RX10 120 "PatternGateModel" "token" "I") (List.mem_of_getElem? (i := 9) (by decide +kernel))) (fun _ h9 => h9) rfl dX10_aLine_67 ?_
      refine lv_iconst (v := 3) hx hb dX10_aLine_70 (by decide) ?_
      refine lv_icmp_eq (tgt := 80) hx hb dX10_aLine_71 (by decide) (fun k_11 => ?_) (fun k_11 => ?_)
      · have tk_11 := c_eq (a := x_8.toInt) (b := 3) rfl (by decide) k_11
        have hq9a := tK_q hr_7_6 (by omega)
        have hL3 : Ld (tx f2 x4.toInt) (zTop x6.toInt 0 (vI f0 0) (vI f0 611)) (zDc x_10.toInt x_10.toInt (vI f0 0) (vI f0 611)) := by rw [hq9a.2]; exact hL2.tr (mv_qd hq9a.1)
        refine lv_iload_n hx hb dX10_aLine_80 rfl (lv_at hl 0 rfl) ?_
        refine lv_if_eq (tgt := 94) hx hb dX10_aLine_81 (by decide) (fun k_12 => absurd k_12 k_2) (fun k_12 => ?_)
        have tk_12 := c_ne (a := r_1.toInt) (b := 0) rfl (by decide) k_12
        refine lv_aload_n hx hb dX10_aLine_84 rfl (lv_at hl 1 rfl) ?_
        have hFc := m_free hD hS hA
        refine va_calli (va_runV (As := []) (rest := []) ⟨hx, hb, hml, hown, hts⟩ (m_docQuote_q l dC dI ad kc x0 x1 x2 x3 x4 x_8 x_9 x_10 x8 x9 x10 x11 x12 x13 x14 x15 x16 x17 x18 x19 x20 x21 f0 f1 f2 f3 f4 f5 f6 f7 f8 f9 f10 f11 f12 f13 f14 f15 f16 f17 f18 f19 f20 f21 fL fN fP fM fO H.size (by first | omega | assumption | decide | (have l0 := Int32.toInt_zero; omega)) (by first | omega | assumption | decide | (have l0 := Int32.toInt_zero; omega)) (by first | omega | assumption | decide | (have l0 := Int32.toInt_zero; omega)) (by first | omega | assumption | decide | (have l0 := Int32.toInt_zero; omega)) (by first | omega | assumption | decide | (have l0 := Int32.toInt_zero; omega)) (by first | omega | assumption | decide | (have l0 := Int32.toInt_zero; omega))) (cwV 0 hts mg_X10_aLinemq_X10_docQuote_187 rfl rfl rfl (by decide +kernel) ⟨Nat.le_of_ble_eq_true rfl, Nat.le_of_ble_eq_true rfl⟩) ⟨fun a U g mk q => by obtain ⟨q0, q1, qP, qK, qD⟩ := q; exact ⟨q0, q1, qP, va_K.moved (u := U) (U := U.calling g mk a) (Vm.Alike.refl U.vm) qK, qD⟩, va_recv hK hP (ci := 10) (q0 := 0) rfl rfl, fun U hU hW => ⟨rfl, by rw [hU], by rw [hU]; exact hP, va_K.moved hW.alike hK, hD.weaken (fun _ _ _ _ => trivial)⟩⟩ rfl rfl hl.1 rfl (lv_room (Nat.le_of_ble_eq_true rfl)) dX10_aLine_85 ⟨Nat.le_of_ble_eq_true rfl, Nat.le_of_ble_eq_true rfl⟩) hS (fun q _ h => hFc q h) hFc (fun r_13 u t H1 locs ht hvm hw hB hz1 hk1 hS => ?_)
        subst hw
        obtain ⟨x_14, x_15, x_16, f_17, hr_13_0, hr_13_1, hr_13_2, hr_13_3, hr_13_4, hr_13_5, hr_13_6, hr_13_7, hP, hK1, hD1⟩ := hB
        rw [ht] at hP
        have hD := hD1.weaken (fun k q _ h => hFc q.1 h)
        clear hz1 hk1 hFc hD1 hK1 hvm
        generalize H1 = H at hP hS ⊢
        have rg_x_14 := i_rng x_14
        have rg_x_15 := i_rng x_15
        have rg_x_16 := i_rng x_16
        have rg_r_13 := i_rng r_13
        have hP : va_P (dC, dI) vwCl (mW ad kc x0 x1 x2 x3 x4 x_8 x_9 x_14 x_15 x_16 x10 x11 x12 x13 x14 x15 x16 x17 x18 x19 x20 x21 f_17 f1 f2 f3 f4 f5 f6 f7 f8 f9 f10 f11 f12 f13 f14 f15 f16 f17 f18 f19 f20 f21 fL fN fP fM fO) H := hP
        have hD : va_D A (mW ad kc x0 x1 x2 x3 x4 x_8 x_9 x_14 x_15 x_16 x10 x11 x12 x13 x14 x15 x16 x17 x18 x19 x20 x21 f_17 f1 f2 f3 f4 f5 f6 f7 f8 f9 f10 f11 f12 f13 f14 f15 f16 f17 f18 f19 f20 f21 fL fN fP fM fO) := hD
        have hq9 := hr_13_0
        have hq8 := hr_13_1
        refine lv_if_eq (tgt := 101) hx hb dX10_aLine_88 (by decide) (fun k_18 => ?_) (fun k_18 => ?_)
        · have tk_18 := c_eq (a := r_13.toInt) (b := 0) rfl (by decide) k_18
          have hB4 := hL3.tr (hr_13_5.2 (by omega) _)
          refine lv_iconst (v := 0) hx hb dX10_aLine_101 (by decide) ?_
          have lit_18 : (0 : Int32).toInt = 0 := by decide
          exact W.zret hx hb hr (z_nar (by first | assumption | decide | exact z_of (by omega))) (fun t ht hW => ⟨⟨_, _, rfl, rfl, x_8, x_9, x_14, x_15, x_16, x11, f_17, hq9, hq8, (by first | omega | assumption | rfl | decide), (by first | omega | assumption | rfl | decide), (by first | omega | assumption | rfl | decide), (fun h9 => by omega), (Or.inr ⟨by decide, hB4⟩), (by first | omega | assumption | rfl | decide), by rw [ht]; exact hP, va_K.moved hW.alike hK, hD⟩, hS.F ht⟩) hS.2.2 dX10_aLine_102
        · have tk_18 := c_ne (a := r_13.toInt) (b := 0) rfl (by decide) k_18
          have hL4 := hL3.tr (hr_13_5.1 (by omega) _)
          have hN4 := hr_13_6 (by omega)
          refine lv_goto (tgt := 103) hx hb dX10_aLine_91 (by decide) ?_
          refine lv_aload_n hx hb dX10_aLine_103 rfl (lv_at hl 1 rfl) ?_
          have hFc := m_free hD hS hA
          refine va_callv (va_runV (As := []) (rest := []) ⟨hx, hb, hml, hown, hts⟩ (m_ahead_q l dC dI ad kc x0 x1 x2 x3 x4 x_8 x_9 x_14 x_15 x_16 x10 x11 x12 x13 x14 x15 x16 x17 x18 x19 x20 x21 f_17 f1 f2 f3 f4 f5 f6 f7 f8 f9 f10 f11 f12 f13 f14 f15 f16 f17 f18 f19 f20 f21 fL fN fP fM fO H.size (by first | omega | assumption | decide | (have l0 := Int32.toInt_zero; omega)) (by first | omega | assumption | decide | (have l0 := Int32.toInt_zero; omega)) (by first | omega | assumption | decide | (have l0 := Int32.toInt_zero; omega))) (cwV 0 hts mg_X10_aLinemq_X10_ahead_184 rfl rfl rfl (by decide +kernel) ⟨Nat.le_of_ble_eq_true rfl, Nat.le_of_ble_eq_true rfl⟩) ⟨fun a U g mk q => by obtain ⟨q0, q1, qP, qK, qD⟩ := q; exact ⟨q0, q1, qP, va_K.moved (u := U) (U := U.calling g mk a) (Vm.Alike.refl U.vm) qK, qD⟩, va_recv hK hP (ci := 10) (q0 := 0) rfl rfl, fun U hU hW => ⟨rfl, by rw [hU], by rw [hU]; exact hP, va_K.moved hW.alike hK, hD.weaken (fun _ _ _ _ => trivial)⟩⟩ rfl rfl hl.1 rfl (lv_room (Nat.le_of_ble_eq_true rfl)) dX10_aLine_104 ⟨Nat.le_of_ble_eq_true rfl, Nat.le_of_ble_eq_true rfl⟩) hS (fun q _ h => hFc q h) hFc (fun u t H1 locs ht hvm hw hB hz1 hk1 hS => ?_)
          obtain ⟨x_21, x_22, x_23, hr_20_0, hr_20_1, hr_20_2, hr_20_3, hr_20_4, hr_20_5, hr_20_6, hP, hK1, hD1⟩ := hB
          rw [ht] at hP
          have hD := hD1.weaken (fun k q _ h => hFc q.1 h)
          clear hz1 hk1 hFc hD1 hK1 hvm
          generalize H1 = H at hP hS ⊢
          have rg_x_21 := i_rng x_21
          have rg_x_22 := i_rng x_22
          have rg_x_23 := i_rng x_23
          have hP : va_P (dC, dI) vwCl (mW ad kc x0 x1 x2 x3 x4 x_21 x_22 x_23 x_15 x_16 x10 x11 x12 x13 x14 x15 x16 x17 x18 x19 x20 x21 f_17 f1 f2 f3 f4 f5 f6 f7 f8 f9 f10 f11 f12 f13 f14 f15 f16 f17 f18 f19 f20 f21 fL fN fP fM fO) H := hP
          have hD : va_D A (mW ad kc x0 x1 x2 x3 x4 x_21 x_22 x_23 x_15 x_16 x10 x11 x12 x13 x14 x15 x16 x17 x18 x19 x20 x21 f_17 f1 f2 f3 f4 f5 f6 f7 f8 f9 f10 f11 f12 f13 f14 f15 f16 f17 f18 f19 f20 f21 fL fN fP fM fO) := hD
          have hL5 := hL4.tr (hr_20_5 _ _ _)
          refine lv_aload_n hx hb dX10_aLine_107 rfl (lv_at hl 1 rfl) ?_
          refine va_get (D := (dC, dI)) (ci := 10) (v := .int x_21) (C := RX10) (T := TX10) (N := 48) hx hb hts fin_X10_aLinemq_X10 hown hK hP 0 rfl rfl 8 (by decide) (hts (.fieldLink RX10 120 "PatternGateModel" "token" "I") (List.mem_of_getElem? (i := 9) (by decide +kernel))) (fun _ h9 => h9) rfl dX10_aLine_108 ?_
          refine lv_iconst (v := 4) hx hb dX10_aLine_111 (by decide) ?_
          refine lv_icmp_eq (tgt := 121) hx hb dX10_aLine_112 (by decide) (fun k_24 => ?_) (fun k_24 => ?_)
          · have tk_24 := c_eq (a := x_21.toInt) (b := 4) rfl (by decide) k_24
            have hs9a := tK_s hr_20_6 (by omega)
            have hL6 : Ld (tx f2 x4.toInt) (zTop x6.toInt 0 (vI f0 0) (vI f0 611)) (zTop x_23.toInt 0 (vI f0 0 + 1) (vI f0 611)) := by rw [hs9a.2]; exact hL5.tr (mv_sc hs9a.1)
            refine lv_aload_n hx hb dX10_aLine_121 rfl (lv_at hl 1 rfl) ?_
            have hFc := m_free hD hS hA
            refine va_callv (va_runV (As := []) (rest := []) ⟨hx, hb, hml, hown, hts⟩ (m_ahead_q l dC dI ad kc x0 x1 x2 x3 x4 x_21 x_22 x_23 x_15 x_16 x10 x11 x12 x13 x14 x15 x16 x17 x18 x19 x20 x21 f_17 f1 f2 f3 f4 f5 f6 f7 f8 f9 f10 f11 f12 f13 f14 f15 f16 f17 f18 f19 f20 f21 fL fN fP fM fO H.size (by first | omega | assumption | decide | (have l0 := Int32.toInt_zero; omega)) (by first | omega | assumption | decide | (have l0 := Int32.toInt_zero; omega)) (by first | omega | assumption | decide | (have l0 := Int32.toInt_zero; omega))) (cwV 0 hts mg_X10_aLinemq_X10_ahead_184 rfl rfl rfl (by decide +kernel) ⟨Nat.le_of_ble_eq_true rfl, Nat.le_of_ble_eq_true rfl⟩) ⟨fun a U g mk q => by obtain ⟨q0, q1, qP, qK, qD⟩ := q; exact ⟨q0, q1, qP, va_K.moved (u := U) (U := U.calling g mk a) (Vm.Alike.refl U.vm) qK, qD⟩, va_recv hK hP (ci := 10) (q0 := 0) rfl rfl, fun U hU hW => ⟨rfl, by rw [hU], by rw [hU]; exact hP, va_K.moved hW.alike hK, hD.weaken (fun _ _ _ _ => trivial)⟩⟩ rfl rfl hl.1 rfl (lv_room (Nat.le_of_ble_eq_true rfl)) dX10_aLine_122 ⟨Nat.le_of_ble_eq_true rfl, Nat.le_of_ble_eq_true rfl⟩) hS (fun q _ h => hFc q h) hFc (fun u t H1 locs ht hvm hw hB hz1 hk1 hS => ?_)
            obtain ⟨x_26, x_27, x_28, hr_25_0, hr_25_1, hr_25_2, hr_25_3, hr_25_4, hr_25_5, hr_25_6, hP, hK1, hD1⟩ := hB
            rw [ht] at hP
            have hD := hD1.weaken (fun k q _ h => hFc q.1 h)
            clear hz1 hk1 hFc hD1 hK1 hvm
            generalize H1 = H at hP hS ⊢
            have rg_x_26 := i_rng x_26
            have rg_x_27 := i_rng x_27
            have rg_x_28 := i_rng x_28
            have hP : va_P (dC, dI) vwCl (mW ad kc x0 x1 x2 x3 x4 x_26 x_27 x_28 x_15 x_16 x10 x11 x12 x13 x14 x15 x16 x17 x18 x19 x20 x21 f_17 f1 f2 f3 f4 f5 f6 f7 f8 f9 f10 f11 f12 f13 f14 f15 f16 f17 f18 f19 f20 f21 fL fN fP fM fO) H := hP
            have hD : va_D A (mW ad kc x0 x1 x2 x3 x4 x_26 x_27 x_28 x_15 x_16 x10 x11 x12 x13 x14 x15 x16 x17 x18 x19 x20 x21 f_17 f1 f2 f3 f4 f5 f6 f7 f8 f9 f10 f11 f12 f13 f14 f15 f16 f17 f18 f19 f20 f21 fL fN fP fM fO) := hD
            have hL7 := hL6.tr (hr_25_5 _ _ _)
            refine lv_iconst (v := 1) hx hb dX10_aLine_125 (by decide) ?_
            have lit_28 : (1 : Int32).toInt = 1 := by decide
            exact W.zret hx hb hr (z_nar (by first | assumption | decide | exact z_of (by omega))) (fun t ht hW => ⟨⟨_, _, rfl, rfl, x_26, x_27, x_28, x_15, x_16, x11, f_17, hq9, hq8, (by first | omega | assumption | rfl | decide), (by first | omega | assumption | rfl | decide), (by first | omega | assumption | rfl | decide), (fun h9 => by omega), (Or.inl ⟨by decide, by rw [hN4.1, hN4.2]; exact hL7, hr_25_6⟩), (by first | omega | assumption | rfl | decide), by rw [ht]; exact hP, va_K.moved hW.alike hK, hD⟩, hS.F ht⟩) hS.2.2 dX10_aLine_126
          · have tk_24 := c_ne (a := x_21.toInt) (b := 4) rfl (by decide) k_24
            refine lv_aload_n hx hb dX10_aLine_115 rfl (lv_at hl 1 rfl) ?_
            refine lv_iconst (v := 2) hx hb dX10_aLine_116 (by decide) ?_
            have lit_29 : (2 : Int32).toInt = 2 := by decide
            have hFc := m_free hD hS hA
            refine va_calli (va_runV (As := [.int 2]) (rest := []) ⟨hx, hb, hml, hown, hts⟩ (m_fails_q l dC dI ad kc x0 x1 x2 x3 x4 x_21 x_22 x_23 x_15 x_16 x10 x11 x12 x13 x14 x15 x16 x17 x18 x19 x20 x21 f_17 f1 f2 f3 f4 f5 f6 f7 f8 f9 f10 f11 f12 f13 f14 f15 f16 f17 f18 f19 f20 f21 fL fN fP fM fO H.size 2 (by first | omega | assumption | decide | (have l0 := Int32.toInt_zero; omega)) (by first | omega | assumption | decide | (have l0 := Int32.toInt_zero; omega))) (cwV 1 hts mg_X10_aLinemq_X10_fails_181 rfl rfl rfl (by decide +kernel) ⟨Nat.le_of_ble_eq_true rfl, Nat.le_of_ble_eq_true rfl⟩) ⟨fun a U g mk q => by obtain ⟨q0, q1, qP, qK, qD⟩ := q; exact ⟨q0, q1, qP, va_K.moved (u := U) (U := U.calling g mk a) (Vm.Alike.refl U.vm) qK, qD⟩, va_recv hK hP (ci := 10) (q0 := 0) rfl rfl, fun U hU hW => ⟨rfl, by rw [hU], by rw [hU]; exact hP, va_K.moved hW.alike hK, hD.weaken (fun _ _ _ _ => trivial)⟩⟩ rfl rfl hl.1 rfl (lv_room (Nat.le_of_ble_eq_true rfl)) dX10_aLine_117 ⟨Nat.le_of_ble_eq_true rfl, Nat.le_of_ble_eq_true rfl⟩) hS (fun q _ h => hFc q h) hFc (fun r_31 u t H1 locs ht hvm hw hB hz1 hk1 hS => ?_)
            subst hw
            obtain ⟨x_32, x_33, hr_31_0, hr_31_1, hP, hK1, hD1⟩ := hB
            rw [ht] at hP
            have hD := hD1.weaken (fun k q _ h => hFc q.1 h)
            clear hz1 hk1 hFc hD1 hK1 hvm
            generalize H1 = H at hP hS ⊢
            have rg_x_32 := i_rng x_32
            have rg_x_33 := i_rng x_33
            have rg_r_31 := i_rng r_31
            have hP : va_P (dC, dI) vwCl (mW ad kc x0 x1 x2 x3 x4 x_21 x_22 x_23 x_32 x_33 x10 x11 x12 x13 x14 x15 x16 x17 x18 x19 x20 x21 f_17 f1 f2 f3 f4 f5 f6 f7 f8 f9 f10 f11 f12 f13 f14 f15 f16 f17 f18 f19 f20 f21 fL fN fP fM fO) H := hP
            have hD : va_D A (mW ad kc x0 x1 x2 x3 x4 x_21 x_22 x_23 x_32 x_33 x10 x11 x12 x13 x14 x15 x16 x17 x18 x19 x20 x21 f_17 f1 f2 f3 f4 f5 f6 f7 f8 f9 f10 f11 f12 f13 f14 f15 f16 f17 f18 f19 f20 f21 fL fN fP fM fO) := hD
            exact W.zret hx hb hr (z_nar (by first | assumption | decide | exact z_of (by omega))) (fun t ht hW => ⟨⟨_, _, rfl, rfl, x_21, x_22, x_23, x_32, x_33, x11, f_17, hq9, hq8, (by first | omega | assumption | rfl | decide), (by first | omega | assumption | rfl | decide), (by first | omega | assumption | rfl | decide), (fun h9 => by omega), (Or.inr ⟨by omega, hL5.tr (tK_f3 hr_20_6 (by omega))⟩), (by first | omega | assumption | rfl | decide), by rw [ht]; exact hP, va_K.moved hW.alike hK, hD⟩, hS.F ht⟩) hS.2.2 dX10_aLine_120
      · have tk_11 := c_ne (a := x_8.toInt) (b := 3) rfl (by decide) k_11
        refine lv_aload_n hx hb dX10_aLine_74 rfl (lv_at hl 1 rfl) ?_
        refine lv_iconst (v := 2) hx hb dX10_aLine_75 (by decide) ?_
        have lit_33 : (2 : Int32).toInt = 2 := by decide
        have hFc := m_free hD hS hA
        refine va_calli (va_runV (As := [.int 2]) (rest := []) ⟨hx, hb, hml, hown, hts⟩ (m_fails_q l dC dI ad kc x0 x1 x2 x3 x4 x_8 x_9 x_10 x8 x9 x10 x11 x12 x13 x14 x15 x16 x17 x18 x19 x20 x21 f0 f1 f2 f3 f4 f5 f6 f7 f8 f9 f10 f11 f12 f13 f14 f15 f16 f17 f18 f19 f20 f21 fL fN fP fM fO H.size 2 (by first | omega | assumption | decide | (have l0 := Int32.toInt_zero; omega)) (by first | omega | assumption | decide | (have l0 := Int32.toInt_zero; omega))) (cwV 1 hts mg_X10_aLinemq_X10_fails_181 rfl rfl rfl (by decide +kernel) ⟨Nat.le_of_ble_eq_true rfl, Nat.le_of_ble_eq_true rfl⟩) ⟨fun a U g mk q => by obtain ⟨q0, q1, qP, qK, qD⟩ := q; exact ⟨q0, q1, qP, va_K.moved (u := U) (U := U.calling g mk a) (Vm.Alike.refl U.vm) qK, qD⟩, va_recv hK hP (ci := 10) (q0 := 0) rfl rfl, fun U hU hW => ⟨rfl, by rw [hU], by rw [hU]; exact hP, va_K.moved hW.alike hK, hD.weaken (fun _ _ _ _ => trivial)⟩⟩ rfl rfl hl.1 rfl (lv_room (Nat.le_of_ble_eq_true rfl)) dX10_aLine_76 ⟨Nat.le_of_ble_eq_true rfl, Nat.le_of_ble_eq_true rfl⟩) hS (fun q _ h => hFc q h) hFc (fun r_35 u t H1 locs ht hvm hw hB hz1 hk1 hS => ?_)
        subst hw
        obtain ⟨x_36, x_37, hr_35_0, hr_35_1, hP, hK1, hD1⟩ := hB
        rw [ht] at hP
        have hD := hD1.weaken (fun k q _ h => hFc q.1 h)
        clear hz1 hk1 hFc hD1 hK1 hvm
        generalize H1 = H at hP hS ⊢
        have rg_x_36 := i_rng x_36
        have rg_x_37 := i_rng x_37
        have rg_r_35 := i_rng r_35
        have hP : va_P (dC, dI) vwCl (mW ad kc x0 x1 x2 x3 x4 x_8 x_9 x_10 x_36 x_37 x10 x11 x12 x13 x14 x15 x16 x17 x18 x19 x20 x21 f0 f1 f2 f3 f4 f5 f6 f7 f8 f9 f10 f11 f12 f13 f14 f15 f16 f17 f18 f19 f20 f21 fL fN fP fM fO) H := hP
        have hD : va_D A (mW ad kc x0 x1 x2 x3 x4 x_8 x_9 x_10 x_36 x_37 x10 x11 x12 x13 x14 x15 x16 x17 x18 x19 x20 x21 f0 f1 f2 f3 f4 f5 f6 f7 f8 f9 f10 f11 f12 f13 f14 f15 f16 f17 f18 f19 f20 f21 fL fN fP fM fO) := hD
        exact W.zret hx hb hr (z_nar (by first | assumption | decide | exact z_of (by omega))) (fun t ht hW => ⟨⟨_, _, rfl, rfl, x_8, x_9, x_10, x_36, x_37, x11, f0, q0, (fun _ _ => rfl), (by first | omega | assumption | rfl | decide), (by first | omega | assumption | rfl | decide), (by first | omega | assumption | rfl | decide), (fun h9 => by omega), (Or.inr ⟨by omega, hL2.tr (tK_f1 hr_7_6 (by omega) (by omega))⟩), (by first | omega | assumption | rfl | decide), by rw [ht]; exact hP, va_K.moved hW.alike hK, hD⟩, hS.F ht⟩) hS.2.2 dX10_aLine_79
    · have tk_6 := c_eq (a := y_4.toInt) (b := 10) rfl (by decide) k_6
      refine lv_aload_n hx hb dX10_aLine_56 rfl (lv_at hl 1 rfl) ?_
      refine lv_iconst (v := 3) hx hb dX10_aLine_57 (by decide) ?_
      have lit_37 : (3 : Int32).toInt = 3 := by decide
      have hFc := m_free hD hS hA
      refine va_calli (va_runV (As := [.int 3]) (rest := []) ⟨hx, hb, hml, hown, hts⟩ (m_fails_q l dC dI ad kc x0 x1 x2 x3 x4 x5 x6 x7 x8 x9 x10 x11 x12 x13 x14 x15 x16 x17 x18 x19 x20 x21 f0 f1 f2 f3 f4 f5 f6 f7 f8 f9 f10 f11 f12 f13 f14 f15 f16 f17 f18 f19 f20 f21 fL fN fP fM fO H.size 3 (by first | omega | assumption | decide | (have l0 := Int32.toInt_zero; omega)) (by first | omega | assumption | decide | (have l0 := Int32.toInt_zero; omega))) (cwV 1 hts mg_X10_aLinemq_X10_fails_181 rfl rfl rfl (by decide +kernel) ⟨Nat.le_of_ble_eq_true rfl, Nat.le_of_ble_eq_true rfl⟩) ⟨fun a U g mk q => by obtain ⟨q0, q1, qP, qK, qD⟩ := q; exact ⟨q0, q1, qP, va_K.moved (u := U) (U := U.calling g mk a) (Vm.Alike.refl U.vm) qK, qD⟩, va_recv hK hP (ci := 10) (q0 := 0) rfl rfl, fun U hU hW => ⟨rfl, by rw [hU], by rw [hU]; exact hP, va_K.moved hW.alike hK, hD.weaken (fun _ _ _ _ => trivial)⟩⟩ rfl rfl hl.1 rfl (lv_room (Nat.le_of_ble_eq_true rfl)) dX10_aLine_58 ⟨Nat.le_of_ble_eq_true rfl, Nat.le_of_ble_eq_true rfl⟩) hS (fun q _ h => hFc q h) hFc (fun r_39 u t H1 locs ht hvm hw hB hz1 hk1 hS => ?_)
      subst hw
      obtain ⟨x_40, x_41, hr_39_0, hr_39_1, hP, hK1, hD1⟩ := hB
      rw [ht] at hP
      have hD := hD1.weaken (fun k q _ h => hFc q.1 h)
      clear hz1 hk1 hFc hD1 hK1 hvm
      generalize H1 = H at hP hS ⊢
      have rg_x_40 := i_rng x_40
      have rg_x_41 := i_rng x_41
      have rg_r_39 := i_rng r_39
      have hP : va_P (dC, dI) vwCl (mW ad kc x0 x1 x2 x3 x4 x5 x6 x7 x_40 x_41 x10 x11 x12 x13 x14 x15 x16 x17 x18 x19 x20 x21 f0 f1 f2 f3 f4 f5 f6 f7 f8 f9 f10 f11 f12 f13 f14 f15 f16 f17 f18 f19 f20 f21 fL fN fP fM fO) H := hP
      have hD : va_D A (mW ad kc x0 x1 x2 x3 x4 x5 x6 x7 x_40 x_41 x10 x11 x12 x13 x14 x15 x16 x17 x18 x19 x20 x21 f0 f1 f2 f3 f4 f5 f6 f7 f8 f9 f10 f11 f12 f13 f14 f15 f16 f17 f18 f19 f20 f21 fL fN fP fM fO) := hD
      exact W.zret hx hb hr (z_nar (by first | assumption | decide | exact z_of (by omega))) (fun t ht hW => ⟨⟨_, _, rfl, rfl, x5, x6, x7, x_40, x_41, x11, f0, q0, (fun _ _ => rfl), (by first | omega | assumption | rfl | decide), (by first | omega | assumption | rfl | decide), (by first | omega | assumption | rfl | decide), (fun h9 => by omega), (Or.inr ⟨by omega, wd_bad q3 q4 (fun _ _ => by omega) (fun _ b9 => by have h1 := hWd.2.1; have h2 := b9.1; omega)⟩), (by first | omega | assumption | rfl | decide), by rw [ht]; exact hP, va_K.moved hW.alike hK, hD⟩, hS.F ht⟩) hS.2.2 dX10_aLine_61
  · have tk_2 := c_eq (a := r_1.toInt) (b := 0) rfl (by decide) k_2
    have hnd : ¬ (x5.toInt = 2 ∧ wDoc (tx f2 x4.toInt) x6.toInt x7.toInt) := fun z9 => iw_r hr_1_0 (by omega) ⟨z9.1, tx_doc.mpr z9.2⟩
    refine lv_aload_n hx hb dX10_aLine_11 rfl (lv_at hl 1 rfl) ?_
    refine va_ldcS hx hb hown hR179 dX10_aLine_12 ?_
    have hFc := m_free hD hS hA
    refine va_calli (va_runV (As := [.ref qp]) (rest := []) ⟨hx, hb, hml, hown, hts⟩ (m_isWord_q l dC dI ad kc x0 x1 x2 x3 x4 x5 x6 x7 x8 x9 x10 x11 x12 x13 x14 x15 x16 x17 x18 x19 x20 x21 f0 f1 f2 f3 f4 f5 f6 f7 f8 f9 f10 f11 f12 f13 f14 f15 f16 f17 f18 f19 f20 f21 fL fN fP fM fO H.size qp 7 gPat (by first | omega | assumption | decide | (have l0 := Int32.toInt_zero; omega)) (by first | omega | assumption | decide | (have l0 := Int32.toInt_zero; omega)) (by first | omega | assumption | decide | (have l0 := Int32.toInt_zero; omega)) (by first | omega | assumption | decide | (have l0 := Int32.toInt_zero; omega))) (cwV 1 hts mg_X10_aLinemq_X10_isWord_175 rfl rfl rfl (by decide +kernel) ⟨Nat.le_of_ble_eq_true rfl, Nat.le_of_ble_eq_true rfl⟩) ⟨fun a U g mk q => by obtain ⟨q0, q1, qP, qK, qD, qE0, qE1⟩ := q; exact ⟨q0, q1, qP, va_K.moved (u := U) (U := U.calling g mk a) (Vm.Alike.refl U.vm) qK, qD, sY.moved (u := U) (U := U.calling g mk a) (Vm.Alike.refl U.vm) qE0, sC.moved (u := U) (U := U.calling g mk a) (Vm.Alike.refl U.vm) qE1⟩, va_recv hK hP (ci := 10) (q0 := 0) rfl rfl, fun U hU hW => ⟨rfl, by rw [hU], by rw [hU]; exact hP, va_K.moved hW.alike hK, hD.weaken (fun _ _ _ _ => trivial), sY.to hXp hS hFc hW hU, sC.to hC9 hS hFc hW hU⟩⟩ rfl rfl hl.1 rfl (lv_room (Nat.le_of_ble_eq_true rfl)) dX10_aLine_14 ⟨Nat.le_of_ble_eq_true rfl, Nat.le_of_ble_eq_true rfl⟩) hS (fun q _ h => hFc q h) hFc (fun r_42 u t H1 locs ht hvm hw hB hz1 hk1 hS => ?_)
    subst hw
    obtain ⟨hr_42_0, hr_42_1, hP, hK1, hD1⟩ := hB
    rw [ht] at hP
    have hD := hD1.weaken (fun k q _ h => hFc q.1 h)
    clear hz1 hk1 hFc hD1 hK1 hvm
    generalize H1 = H at hP hS ⊢
    have rg_r_42 := i_rng r_42
    have hP : va_P (dC, dI) vwCl (mW ad kc x0 x1 x2 x3 x4 x5 x6 x7 x8 x9 x10 x11 x12 x13 x14 x15 x16 x17 x18 x19 x20 x21 f0 f1 f2 f3 f4 f5 f6 f7 f8 f9 f10 f11 f12 f13 f14 f15 f16 f17 f18 f19 f20 f21 fL fN fP fM fO) H := hP
    have hD : va_D A (mW ad kc x0 x1 x2 x3 x4 x5 x6 x7 x8 x9 x10 x11 x12 x13 x14 x15 x16 x17 x18 x19 x20 x21 f0 f1 f2 f3 f4 f5 f6 f7 f8 f9 f10 f11 f12 f13 f14 f15 f16 f17 f18 f19 f20 f21 fL fN fP fM fO) := hD
    refine lv_if_ne (tgt := 26) hx hb dX10_aLine_17 (by decide) (fun k_43 => ?_) (fun k_43 => ?_)
    · have tk_43 := c_ne (a := r_42.toInt) (b := 0) rfl (by decide) k_43
      have hWp : x5.toInt = 2 ∧ wPat (tx f2 x4.toInt) x6.toInt x7.toInt := ⟨(iw_l hr_42_0 (by omega)).1, tx_pat.mp (iw_l hr_42_0 (by omega)).2⟩
      refine lv_aload_n hx hb dX10_aLine_26 rfl (lv_at hl 1 rfl) ?_
      refine va_get (D := (dC, dI)) (ci := 10) (v := .ref (ad 1)) (C := RX10) (T := TX10) (N := 48) hx hb hts fin_X10_aLinemq_X10 hown hK hP 0 rfl rfl 0 (by decide) (hts (.fieldLink RX10 8 "PatternGateModel" "all" "[I") (List.mem_of_getElem? (i := 5) (by decide +kernel))) (fun _ h9 => h9) rfl dX10_aLine_27 ?_
      refine lv_iload_n hx hb dX10_aLine_30 rfl (lv_at hl 0 rfl) ?_
      refine lv_if_eq (tgt := 38) hx hb dX10_aLine_31 (by decide) (fun k_44 => ?_) (fun k_44 => absurd k_2 k_44)
      have tk_44 := c_eq (a := r_1.toInt) (b := 0) rfl (by decide) k_44
      refine lv_sipush (v := 611) hx hb dX10_aLine_38 (by decide) ?_
      refine va_iald hx hb hK hP 1 0 rfl rfl (i := 611) (by unfold vp_in; decide +kernel) dX10_aLine_41 ?_
      refine lv_topi (fun y_45 ey_45 => ?_)
      have rg_y_45 := i_rng y_45
      have vy_45 := vI_lda (f := f0) (i := 611) (a := 611) ey_45 (by first | omega | decide)
      have rg_y_45 := i_rng y_45
      refine lv_iload_n hx hb dX10_aLine_42 rfl (lv_at hl 0 rfl) ?_
      refine lv_if_eq (tgt := 51) hx hb dX10_aLine_43 (by decide) (fun k_46 => ?_) (fun k_46 => absurd k_2 k_46)
      have tk_46 := c_eq (a := r_1.toInt) (b := 0) rfl (by decide) k_46
      refine lv_bipush (v := 8) hx hb dX10_aLine_51 (by decide) ?_
      refine lv_icmp_ne (tgt := 62) hx hb dX10_aLine_53 (by decide) (fun k_47 => ?_) (fun k_47 => ?_)
      · have tk_47 := c_ne (a := y_45.toInt) (b := 8) rfl (by decide) k_47
        have hL1 := wd_pat (d := vI f0 0) (p := vI f0 611) q3 hWp.1 hWp.2 (by omega)
        refine lv_aload_n hx hb dX10_aLine_62 rfl (lv_at hl 1 rfl) ?_
        have hFc := m_free hD hS hA
        refine va_callv (va_runV (As := []) (rest := []) ⟨hx, hb, hml, hown, hts⟩ (m_ahead_q l dC dI ad kc x0 x1 x2 x3 x4 x5 x6 x7 x8 x9 x10 x11 x12 x13 x14 x15 x16 x17 x18 x19 x20 x21 f0 f1 f2 f3 f4 f5 f6 f7 f8 f9 f10 f11 f12 f13 f14 f15 f16 f17 f18 f19 f20 f21 fL fN fP fM fO H.size (by first | omega | assumption | decide | (have l0 := Int32.toInt_zero; omega)) (by first | omega | assumption | decide | (have l0 := Int32.toInt_zero; omega)) (by first | omega | assumption | decide | (have l0 := Int32.toInt_zero; omega))) (cwV 0 hts mg_X10_aLinemq_X10_ahead_184 rfl rfl rfl (by decide +kernel) ⟨Nat.le_of_ble_eq_true rfl, Nat.le_of_ble_eq_true rfl⟩) ⟨fun a U g mk q => by obtain ⟨q0, q1, qP, qK, qD⟩ := q; exact ⟨q0, q1, qP, va_K.moved (u := U) (U := U.calling g mk a) (Vm.Alike.refl U.vm) qK, qD⟩, va_recv hK hP (ci := 10) (q0 := 0) rfl rfl, fun U hU hW => ⟨rfl, by rw [hU], by rw [hU]; exact hP, va_K.moved hW.alike hK, hD.weaken (fun _ _ _ _ => trivial)⟩⟩ rfl rfl hl.1 rfl (lv_room (Nat.le_of_ble_eq_true rfl)) dX10_aLine_63 ⟨Nat.le_of_ble_eq_true rfl, Nat.le_of_ble_eq_true rfl⟩) hS (fun q _ h => hFc q h) hFc (fun u t H1 locs ht hvm hw hB hz1 hk1 hS => ?_)
        obtain ⟨x_49, x_50, x_51, hr_48_0, hr_48_1, hr_48_2, hr_48_3, hr_48_4, hr_48_5, hr_48_6, hP, hK1, hD1⟩ := hB
        rw [ht] at hP
        have hD := hD1.weaken (fun k q _ h => hFc q.1 h)
        clear hz1 hk1 hFc hD1 hK1 hvm
        generalize H1 = H at hP hS ⊢
        have rg_x_49 := i_rng x_49
        have rg_x_50 := i_rng x_50
        have rg_x_51 := i_rng x_51
        have hP : va_P (dC, dI) vwCl (mW ad kc x0 x1 x2 x3 x4 x_49 x_50 x_51 x8 x9 x10 x11 x12 x13 x14 x15 x16 x17 x18 x19 x20 x21 f0 f1 f2 f3 f4 f5 f6 f7 f8 f9 f10 f11 f12 f13 f14 f15 f16 f17 f18 f19 f20 f21 fL fN fP fM fO) H := hP
        have hD : va_D A (mW ad kc x0 x1 x2 x3 x4 x_49 x_50 x_51 x8 x9 x10 x11 x12 x13 x14 x15 x16 x17 x18 x19 x20 x21 f0 f1 f2 f3 f4 f5 f6 f7 f8 f9 f10 f11 f12 f13 f14 f15 f16 f17 f18 f19 f20 f21 fL fN fP fM fO) := hD
        have hL2 := hL1.tr (hr_48_5 _ _ _)
        refine lv_aload_n hx hb dX10_aLine_66 rfl (lv_at hl 1 rfl) ?_
        refine va_get (D := (dC, dI)) (ci := 10) (v := .int x_49) (C := RX10) (T := TX10) (N := 48) hx hb hts fin_X10_aLinemq_X10 hown hK hP 0 rfl rfl 8 (by decide) (hts (.fieldLink RX10 120 "PatternGateModel" "token" "I") (List.mem_of_getElem? (i := 9) (by decide +kernel))) (fun _ h9 => h9) rfl dX10_aLine_67 ?_
        refine lv_iconst (v := 3) hx hb dX10_aLine_70 (by decide) ?_
        refine lv_icmp_eq (tgt := 80) hx hb dX10_aLine_71 (by decide) (fun k_52 => ?_) (fun k_52 => ?_)
        · have tk_52 := c_eq (a := x_49.toInt) (b := 3) rfl (by decide) k_52
          have hq9a := tK_q hr_48_6 (by omega)
          have hL3 : Ld (tx f2 x4.toInt) (zTop x6.toInt 0 (vI f0 0) (vI f0 611)) (zPt x_51.toInt 0 0 0 (vI f0 0) (vI f0 611)) := by rw [hq9a.2]; exact hL2.tr (mv_qp hq9a.1)
          refine lv_iload_n hx hb dX10_aLine_80 rfl (lv_at hl 0 rfl) ?_
          refine lv_if_eq (tgt := 94) hx hb dX10_aLine_81 (by decide) (fun k_53 => ?_) (fun k_53 => absurd k_2 k_53)
          have tk_53 := c_eq (a := r_1.toInt) (b := 0) rfl (by decide) k_53
          refine lv_aload_n hx hb dX10_aLine_94 rfl (lv_at hl 1 rfl) ?_
          have hFc := m_free hD hS hA
          refine va_calli (va_runV (As := []) (rest := []) ⟨hx, hb, hml, hown, hts⟩ (m_patternQuote_q l dC dI ad kc x0 x1 x2 x3 x4 x_49 x_50 x_51 x8 x9 x10 x11 x12 x13 x14 x15 x16 x17 x18 x19 x20 x21 f0 f1 f2 f3 f4 f5 f6 f7 f8 f9 f10 f11 f12 f13 f14 f15 f16 f17 f18 f19 f20 f21 fL fN fP fM fO H.size (by first | omega | assumption | decide | (have l0 := Int32.toInt_zero; omega)) (by first | omega | assumption | decide | (have l0 := Int32.toInt_zero; omega)) (by first | omega | assumption | decide | (have l0 := Int32.toInt_zero; omega)) (by first | omega | assumption | decide | (have l0 := Int32.toInt_zero; omega)) (by first | omega | assumption | decide | (have l0 := Int32.toInt_zero; omega)) (by first | omega | assumption | decide | (have l0 := Int32.toInt_zero; omega))) (cwV 0 hts mg_X10_aLinemq_X10_patternQuote_190 rfl rfl rfl (by decide +kernel) ⟨Nat.le_of_ble_eq_true rfl, Nat.le_of_ble_eq_true rfl⟩) ⟨fun a U g mk q => by obtain ⟨q0, q1, qP, qK, qD⟩ := q; exact ⟨q0, q1, qP, va_K.moved (u := U) (U := U.calling g mk a) (Vm.Alike.refl U.vm) qK, qD⟩, va_recv hK hP (ci := 10) (q0 := 0) rfl rfl, fun U hU hW => ⟨rfl, by rw [hU], by rw [hU]; exact hP, va_K.moved hW.alike hK, hD.weaken (fun _ _ _ _ => trivial)⟩⟩ rfl rfl hl.1 rfl (lv_room (Nat.le_of_ble_eq_true rfl)) dX10_aLine_95 ⟨Nat.le_of_ble_eq_true rfl, Nat.le_of_ble_eq_true rfl⟩) hS (fun q _ h => hFc q h) hFc (fun r_54 u t H1 locs ht hvm hw hB hz1 hk1 hS => ?_)
          subst hw
          obtain ⟨x_55, x_56, x_57, x_58, f_59, hr_54_0, hr_54_1, hr_54_2, hr_54_3, hr_54_4, hr_54_5, hr_54_6, hr_54_7, hP, hK1, hD1⟩ := hB
          rw [ht] at hP
          have hD := hD1.weaken (fun k q _ h => hFc q.1 h)
          clear hz1 hk1 hFc hD1 hK1 hvm
          generalize H1 = H at hP hS ⊢
          have rg_x_55 := i_rng x_55
          have rg_x_56 := i_rng x_56
          have rg_x_57 := i_rng x_57
          have rg_x_58 := i_rng x_58
          have rg_r_54 := i_rng r_54
          have hP : va_P (dC, dI) vwCl (mW ad kc x0 x1 x2 x3 x4 x_49 x_50 x_55 x_56 x_57 x10 x_58 x12 x13 x14 x15 x16 x17 x18 x19 x20 x21 f_59 f1 f2 f3 f4 f5 f6 f7 f8 f9 f10 f11 f12 f13 f14 f15 f16 f17 f18 f19 f20 f21 fL fN fP fM fO) H := hP
          have hD : va_D A (mW ad kc x0 x1 x2 x3 x4 x_49 x_50 x_55 x_56 x_57 x10 x_58 x12 x13 x14 x15 x16 x17 x18 x19 x20 x21 f_59 f1 f2 f3 f4 f5 f6 f7 f8 f9 f10 f11 f12 f13 f14 f15 f16 f17 f18 f19 f20 f21 fL fN fP fM fO) := hD
          have hq9 := hr_54_0
          have hq8 := hr_54_1
          refine lv_if_ne (tgt := 103) hx hb dX10_aLine_98 (by decide) (fun k_60 => ?_) (fun k_60 => ?_)
          · have tk_60 := c_ne (a := r_54.toInt) (b := 0) rfl (by decide) k_60
            have hL4 := hL3.tr (hr_54_5.1 (by omega) _)
            have hN4 := hr_54_6 (by omega)
            refine lv_aload_n hx hb dX10_aLine_103 rfl (lv_at hl 1 rfl) ?_
            have hFc := m_free hD hS hA
            refine va_callv (va_runV (As := []) (rest := []) ⟨hx, hb, hml, hown, hts⟩ (m_ahead_q l dC dI ad kc x0 x1 x2 x3 x4 x_49 x_50 x_55 x_56 x_57 x10 x_58 x12 x13 x14 x15 x16 x17 x18 x19 x20 x21 f_59 f1 f2 f3 f4 f5 f6 f7 f8 f9 f10 f11 f12 f13 f14 f15 f16 f17 f18 f19 f20 f21 fL fN fP fM fO H.size (by first | omega | assumption | decide | (have l0 := Int32.toInt_zero; omega)) (by first | omega | assumption | decide | (have l0 := Int32.toInt_zero; omega)) (by first | omega | assumption | decide | (have l0 := Int32.toInt_zero; omega))) (cwV 0 hts mg_X10_aLinemq_X10_ahead_184 rfl rfl rfl (by decide +kernel) ⟨Nat.le_of_ble_eq_true rfl, Nat.le_of_ble_eq_true rfl⟩) ⟨fun a U g mk q => by obtain ⟨q0, q1, qP, qK, qD⟩ := q; exact ⟨q0, q1, qP, va_K.moved (u := U) (U := U.calling g mk a) (Vm.Alike.refl U.vm) qK, qD⟩, va_recv hK hP (ci := 10) (q0 := 0) rfl rfl, fun U hU hW => ⟨rfl, by rw [hU], by rw [hU]; exact hP, va_K.moved hW.alike hK, hD.weaken (fun _ _ _ _ => trivial)⟩⟩ rfl rfl hl.1 rfl (lv_room (Nat.le_of_ble_eq_true rfl)) dX10_aLine_104 ⟨Nat.le_of_ble_eq_true rfl, Nat.le_of_ble_eq_true rfl⟩) hS (fun q _ h => hFc q h) hFc (fun u t H1 locs ht hvm hw hB hz1 hk1 hS => ?_)
            obtain ⟨x_62, x_63, x_64, hr_61_0, hr_61_1, hr_61_2, hr_61_3, hr_61_4, hr_61_5, hr_61_6, hP, hK1, hD1⟩ := hB
            rw [ht] at hP
            have hD := hD1.weaken (fun k q _ h => hFc q.1 h)
            clear hz1 hk1 hFc hD1 hK1 hvm
            generalize H1 = H at hP hS ⊢
            have rg_x_62 := i_rng x_62
            have rg_x_63 := i_rng x_63
            have rg_x_64 := i_rng x_64
            have hP : va_P (dC, dI) vwCl (mW ad kc x0 x1 x2 x3 x4 x_62 x_63 x_64 x_56 x_57 x10 x_58 x12 x13 x14 x15 x16 x17 x18 x19 x20 x21 f_59 f1 f2 f3 f4 f5 f6 f7 f8 f9 f10 f11 f12 f13 f14 f15 f16 f17 f18 f19 f20 f21 fL fN fP fM fO) H := hP
            have hD : va_D A (mW ad kc x0 x1 x2 x3 x4 x_62 x_63 x_64 x_56 x_57 x10 x_58 x12 x13 x14 x15 x16 x17 x18 x19 x20 x21 f_59 f1 f2 f3 f4 f5 f6 f7 f8 f9 f10 f11 f12 f13 f14 f15 f16 f17 f18 f19 f20 f21 fL fN fP fM fO) := hD
            have hL5 := hL4.tr (hr_61_5 _ _ _)
            refine lv_aload_n hx hb dX10_aLine_107 rfl (lv_at hl 1 rfl) ?_
            refine va_get (D := (dC, dI)) (ci := 10) (v := .int x_62) (C := RX10) (T := TX10) (N := 48) hx hb hts fin_X10_aLinemq_X10 hown hK hP 0 rfl rfl 8 (by decide) (hts (.fieldLink RX10 120 "PatternGateModel" "token" "I") (List.mem_of_getElem? (i := 9) (by decide +kernel))) (fun _ h9 => h9) rfl dX10_aLine_108 ?_
            refine lv_iconst (v := 4) hx hb dX10_aLine_111 (by decide) ?_
            refine lv_icmp_eq (tgt := 121) hx hb dX10_aLine_112 (by decide) (fun k_65 => ?_) (fun k_65 => ?_)
            · have tk_65 := c_eq (a := x_62.toInt) (b := 4) rfl (by decide) k_65
              have hs9a := tK_s hr_61_6 (by omega)
              have hL6 : Ld (tx f2 x4.toInt) (zTop x6.toInt 0 (vI f0 0) (vI f0 611)) (zTop x_64.toInt 0 (vI f0 0) (vI f0 611 + 1)) := by rw [hs9a.2]; exact hL5.tr (mv_sc hs9a.1)
              refine lv_aload_n hx hb dX10_aLine_121 rfl (lv_at hl 1 rfl) ?_
              have hFc := m_free hD hS hA
              refine va_callv (va_runV (As := []) (rest := []) ⟨hx, hb, hml, hown, hts⟩ (m_ahead_q l dC dI ad kc x0 x1 x2 x3 x4 x_62 x_63 x_64 x_56 x_57 x10 x_58 x12 x13 x14 x15 x16 x17 x18 x19 x20 x21 f_59 f1 f2 f3 f4 f5 f6 f7 f8 f9 f10 f11 f12 f13 f14 f15 f16 f17 f18 f19 f20 f21 fL fN fP fM fO H.size (by first | omega | assumption | decide | (have l0 := Int32.toInt_zero; omega)) (by first | omega | assumption | decide | (have l0 := Int32.toInt_zero; omega)) (by first | omega | assumption | decide | (have l0 := Int32.toInt_zero; omega))) (cwV 0 hts mg_X10_aLinemq_X10_ahead_184 rfl rfl rfl (by decide +kernel) ⟨Nat.le_of_ble_eq_true rfl, Nat.le_of_ble_eq_true rfl⟩) ⟨fun a U g mk q => by obtain ⟨q0, q1, qP, qK, qD⟩ := q; exact ⟨q0, q1, qP, va_K.moved (u := U) (U := U.calling g mk a) (Vm.Alike.refl U.vm) qK, qD⟩, va_recv hK hP (ci := 10) (q0 := 0) rfl rfl, fun U hU hW => ⟨rfl, by rw [hU], by rw [hU]; exact hP, va_K.moved hW.alike hK, hD.weaken (fun _ _ _ _ => trivial)⟩⟩ rfl rfl hl.1 rfl (lv_room (Nat.le_of_ble_eq_true rfl)) dX10_aLine_122 ⟨Nat.le_of_ble_eq_true rfl, Nat.le_of_ble_eq_true rfl⟩) hS (fun q _ h => hFc q h) hFc (fun u t H1 locs ht hvm hw hB hz1 hk1 hS => ?_)
              obtain ⟨x_67, x_68, x_69, hr_66_0, hr_66_1, hr_66_2, hr_66_3, hr_66_4, hr_66_5, hr_66_6, hP, hK1, hD1⟩ := hB
              rw [ht] at hP
              have hD := hD1.weaken (fun k q _ h => hFc q.1 h)
              clear hz1 hk1 hFc hD1 hK1 hvm
              generalize H1 = H at hP hS ⊢
              have rg_x_67 := i_rng x_67
              have rg_x_68 := i_rng x_68
              have rg_x_69 := i_rng x_69
              have hP : va_P (dC, dI) vwCl (mW ad kc x0 x1 x2 x3 x4 x_67 x_68 x_69 x_56 x_57 x10 x_58 x12 x13 x14 x15 x16 x17 x18 x19 x20 x21 f_59 f1 f2 f3 f4 f5 f6 f7 f8 f9 f10 f11 f12 f13 f14 f15 f16 f17 f18 f19 f20 f21 fL fN fP fM fO) H := hP
              have hD : va_D A (mW ad kc x0 x1 x2 x3 x4 x_67 x_68 x_69 x_56 x_57 x10 x_58 x12 x13 x14 x15 x16 x17 x18 x19 x20 x21 f_59 f1 f2 f3 f4 f5 f6 f7 f8 f9 f10 f11 f12 f13 f14 f15 f16 f17 f18 f19 f20 f21 fL fN fP fM fO) := hD
              have hL7 := hL6.tr (hr_66_5 _ _ _)
              refine lv_iconst (v := 1) hx hb dX10_aLine_125 (by decide) ?_
              have lit_69 : (1 : Int32).toInt = 1 := by decide
              exact W.zret hx hb hr (z_nar (by first | assumption | decide | exact z_of (by omega))) (fun t ht hW => ⟨⟨_, _, rfl, rfl, x_67, x_68, x_69, x_56, x_57, x_58, f_59, hq9, hq8, (by first | omega | assumption | rfl | decide), (by first | omega | assumption | rfl | decide), (by first | omega | assumption | rfl | decide), (fun h9 => by omega), (Or.inl ⟨by decide, by rw [hN4.2, hN4.1]; exact hL7, hr_66_6⟩), (by first | omega | assumption | rfl | decide), by rw [ht]; exact hP, va_K.moved hW.alike hK, hD⟩, hS.F ht⟩) hS.2.2 dX10_aLine_126
            · have tk_65 := c_ne (a := x_62.toInt) (b := 4) rfl (by decide) k_65
              refine lv_aload_n hx hb dX10_aLine_115 rfl (lv_at hl 1 rfl) ?_
              refine lv_iconst (v := 2) hx hb dX10_aLine_116 (by decide) ?_
              have lit_70 : (2 : Int32).toInt = 2 := by decide
              have hFc := m_free hD hS hA
              refine va_calli (va_runV (As := [.int 2]) (rest := []) ⟨hx, hb, hml, hown, hts⟩ (m_fails_q l dC dI ad kc x0 x1 x2 x3 x4 x_62 x_63 x_64 x_56 x_57 x10 x_58 x12 x13 x14 x15 x16 x17 x18 x19 x20 x21 f_59 f1 f2 f3 f4 f5 f6 f7 f8 f9 f10 f11 f12 f13 f14 f15 f16 f17 f18 f19 f20 f21 fL fN fP fM fO H.size 2 (by first | omega | assumption | decide | (have l0 := Int32.toInt_zero; omega)) (by first | omega | assumption | decide | (have l0 := Int32.toInt_zero; omega))) (cwV 1 hts mg_X10_aLinemq_X10_fails_181 rfl rfl rfl (by decide +kernel) ⟨Nat.le_of_ble_eq_true rfl, Nat.le_of_ble_eq_true rfl⟩) ⟨fun a U g mk q => by obtain ⟨q0, q1, qP, qK, qD⟩ := q; exact ⟨q0, q1, qP, va_K.moved (u := U) (U := U.calling g mk a) (Vm.Alike.refl U.vm) qK, qD⟩, va_recv hK hP (ci := 10) (q0 := 0) rfl rfl, fun U hU hW => ⟨rfl, by rw [hU], by rw [hU]; exact hP, va_K.moved hW.alike hK, hD.weaken (fun _ _ _ _ => trivial)⟩⟩ rfl rfl hl.1 rfl (lv_room (Nat.le_of_ble_eq_true rfl)) dX10_aLine_117 ⟨Nat.le_of_ble_eq_true rfl, Nat.le_of_ble_eq_true rfl⟩) hS (fun q _ h => hFc q h) hFc (fun r_72 u t H1 locs ht hvm hw hB hz1 hk1 hS => ?_)
              subst hw
              obtain ⟨x_73, x_74, hr_72_0, hr_72_1, hP, hK1, hD1⟩ := hB
              rw [ht] at hP
              have hD := hD1.weaken (fun k q _ h => hFc q.1 h)
              clear hz1 hk1 hFc hD1 hK1 hvm
              generalize H1 = H at hP hS ⊢
              have rg_x_73 := i_rng x_73
              have rg_x_74 := i_rng x_74
              have rg_r_72 := i_rng r_72
              have hP : va_P (dC, dI) vwCl (mW ad kc x0 x1 x2 x3 x4 x_62 x_63 x_64 x_73 x_74 x10 x_58 x12 x13 x14 x15 x16 x17 x18 x19 x20 x21 f_59 f1 f2 f3 f4 f5 f6 f7 f8 f9 f10 f11 f12 f13 f14 f15 f16 f17 f18 f19 f20 f21 fL fN fP fM fO) H := hP
              have hD : va_D A (mW ad kc x0 x1 x2 x3 x4 x_62 x_63 x_64 x_73 x_74 x10 x_58 x12 x13 x14 x15 x16 x17 x18 x19 x20 x21 f_59 f1 f2 f3 f4 f5 f6 f7 f8 f9 f10 f11 f12 f13 f14 f15 f16 f17 f18 f19 f20 f21 fL fN fP fM fO) := hD
              exact W.zret hx hb hr (z_nar (by first | assumption | decide | exact z_of (by omega))) (fun t ht hW => ⟨⟨_, _, rfl, rfl, x_62, x_63, x_64, x_73, x_74, x_58, f_59, hq9, hq8, (by first | omega | assumption | rfl | decide), (by first | omega | assumption | rfl | decide), (by first | omega | assumption | rfl | decide), (fun h9 => by omega), (Or.inr ⟨by omega, hL5.tr (tK_f3 hr_61_6 (by omega))⟩), (by first | omega | assumption | rfl | decide), by rw [ht]; exact hP, va_K.moved hW.alike hK, hD⟩, hS.F ht⟩) hS.2.2 dX10_aLine_120
          · have tk_60 := c_eq (a := r_54.toInt) (b := 0) rfl (by decide) k_60
            have hB4 := hL3.tr (hr_54_5.2 (by omega) _)
            refine lv_iconst (v := 0) hx hb dX10_aLine_101 (by decide) ?_
            have lit_74 : (0 : Int32).toInt = 0 := by decide
            exact W.zret hx hb hr (z_nar (by first | assumption | decide | exact z_of (by omega))) (fun t ht hW => ⟨⟨_, _, rfl, rfl, x_49, x_50, x_55, x_56, x_57, x_58, f_59, hq9, hq8, (by first | omega | assumption | rfl | decide), (by first | omega | assumption | rfl | decide), (by first | omega | assumption | rfl | decide), (fun h9 => by omega), (Or.inr ⟨by decide, hB4⟩), (by first | omega | assumption | rfl | decide), by rw [ht]; exact hP, va_K.moved hW.alike hK, hD⟩, hS.F ht⟩) hS.2.2 dX10_aLine_102
        · have tk_52 := c_ne (a := x_49.toInt) (b := 3) rfl (by decide) k_52
          refine lv_aload_n hx hb dX10_aLine_74 rfl (lv_at hl 1 rfl) ?_
          refine lv_iconst (v := 2) hx hb dX10_aLine_75 (by decide) ?_
          have lit_75 : (2 : Int32).toInt = 2 := by decide
          have hFc := m_free hD hS hA
          refine va_calli (va_runV (As := [.int 2]) (rest := []) ⟨hx, hb, hml, hown, hts⟩ (m_fails_q l dC dI ad kc x0 x1 x2 x3 x4 x_49 x_50 x_51 x8 x9 x10 x11 x12 x13 x14 x15 x16 x17 x18 x19 x20 x21 f0 f1 f2 f3 f4 f5 f6 f7 f8 f9 f10 f11 f12 f13 f14 f15 f16 f17 f18 f19 f20 f21 fL fN fP fM fO H.size 2 (by first | omega | assumption | decide | (have l0 := Int32.toInt_zero; omega)) (by first | omega | assumption | decide | (have l0 := Int32.toInt_zero; omega))) (cwV 1 hts mg_X10_aLinemq_X10_fails_181 rfl rfl rfl (by decide +kernel) ⟨Nat.le_of_ble_eq_true rfl, Nat.le_of_ble_eq_true rfl⟩) ⟨fun a U g mk q => by obtain ⟨q0, q1, qP, qK, qD⟩ := q; exact ⟨q0, q1, qP, va_K.moved (u := U) (U := U.calling g mk a) (Vm.Alike.refl U.vm) qK, qD⟩, va_recv hK hP (ci := 10) (q0 := 0) rfl rfl, fun U hU hW => ⟨rfl, by rw [hU], by rw [hU]; exact hP, va_K.moved hW.alike hK, hD.weaken (fun _ _ _ _ => trivial)⟩⟩ rfl rfl hl.1 rfl (lv_room (Nat.le_of_ble_eq_true rfl)) dX10_aLine_76 ⟨Nat.le_of_ble_eq_true rfl, Nat.le_of_ble_eq_true rfl⟩) hS (fun q _ h => hFc q h) hFc (fun r_77 u t H1 locs ht hvm hw hB hz1 hk1 hS => ?_)
          subst hw
          obtain ⟨x_78, x_79, hr_77_0, hr_77_1, hP, hK1, hD1⟩ := hB
          rw [ht] at hP
          have hD := hD1.weaken (fun k q _ h => hFc q.1 h)
          clear hz1 hk1 hFc hD1 hK1 hvm
          generalize H1 = H at hP hS ⊢
          have rg_x_78 := i_rng x_78
          have rg_x_79 := i_rng x_79
          have rg_r_77 := i_rng r_77
          have hP : va_P (dC, dI) vwCl (mW ad kc x0 x1 x2 x3 x4 x_49 x_50 x_51 x_78 x_79 x10 x11 x12 x13 x14 x15 x16 x17 x18 x19 x20 x21 f0 f1 f2 f3 f4 f5 f6 f7 f8 f9 f10 f11 f12 f13 f14 f15 f16 f17 f18 f19 f20 f21 fL fN fP fM fO) H := hP
          have hD : va_D A (mW ad kc x0 x1 x2 x3 x4 x_49 x_50 x_51 x_78 x_79 x10 x11 x12 x13 x14 x15 x16 x17 x18 x19 x20 x21 f0 f1 f2 f3 f4 f5 f6 f7 f8 f9 f10 f11 f12 f13 f14 f15 f16 f17 f18 f19 f20 f21 fL fN fP fM fO) := hD
          exact W.zret hx hb hr (z_nar (by first | assumption | decide | exact z_of (by omega))) (fun t ht hW => ⟨⟨_, _, rfl, rfl, x_49, x_50, x_51, x_78, x_79, x11, f0, q0, (fun _ _ => rfl), (by first | omega | assumption | rfl | decide), (by first | omega | assumption | rfl | decide), (by first | omega | assumption | rfl | decide), (fun h9 => by omega), (Or.inr ⟨by omega, hL2.tr (tK_f1 hr_48_6 (by omega) (by omega))⟩), (by first | omega | assumption | rfl | decide), by rw [ht]; exact hP, va_K.moved hW.alike hK, hD⟩, hS.F ht⟩) hS.2.2 dX10_aLine_79
      · have tk_47 := c_eq (a := y_45.toInt) (b := 8) rfl (by decide) k_47
        refine lv_aload_n hx hb dX10_aLine_56 rfl (lv_at hl 1 rfl) ?_
        refine lv_iconst (v := 3) hx hb dX10_aLine_57 (by decide) ?_
        have lit_79 : (3 : Int32).toInt = 3 := by decide
        have hFc := m_free hD hS hA
        refine va_calli (va_runV (As := [.int 3]) (rest := []) ⟨hx, hb, hml, hown, hts⟩ (m_fails_q l dC dI ad kc x0 x1 x2 x3 x4 x5 x6 x7 x8 x9 x10 x11 x12 x13 x14 x15 x16 x17 x18 x19 x20 x21 f0 f1 f2 f3 f4 f5 f6 f7 f8 f9 f10 f11 f12 f13 f14 f15 f16 f17 f18 f19 f20 f21 fL fN fP fM fO H.size 3 (by first | omega | assumption | decide | (have l0 := Int32.toInt_zero; omega)) (by first | omega | assumption | decide | (have l0 := Int32.toInt_zero; omega))) (cwV 1 hts mg_X10_aLinemq_X10_fails_181 rfl rfl rfl (by decide +kernel) ⟨Nat.le_of_ble_eq_true rfl, Nat.le_of_ble_eq_true rfl⟩) ⟨fun a U g mk q => by obtain ⟨q0, q1, qP, qK, qD⟩ := q; exact ⟨q0, q1, qP, va_K.moved (u := U) (U := U.calling g mk a) (Vm.Alike.refl U.vm) qK, qD⟩, va_recv hK hP (ci := 10) (q0 := 0) rfl rfl, fun U hU hW => ⟨rfl, by rw [hU], by rw [hU]; exact hP, va_K.moved hW.alike hK, hD.weaken (fun _ _ _ _ => trivial)⟩⟩ rfl rfl hl.1 rfl (lv_room (Nat.le_of_ble_eq_true rfl)) dX10_aLine_58 ⟨Nat.le_of_ble_eq_true rfl, Nat.le_of_ble_eq_true rfl⟩) hS (fun q _ h => hFc q h) hFc (fun r_81 u t H1 locs ht hvm hw hB hz1 hk1 hS => ?_)
        subst hw
        obtain ⟨x_82, x_83, hr_81_0, hr_81_1, hP, hK1, hD1⟩ := hB
        rw [ht] at hP
        have hD := hD1.weaken (fun k q _ h => hFc q.1 h)
        clear hz1 hk1 hFc hD1 hK1 hvm
        generalize H1 = H at hP hS ⊢
        have rg_x_82 := i_rng x_82
        have rg_x_83 := i_rng x_83
        have rg_r_81 := i_rng r_81
        have hP : va_P (dC, dI) vwCl (mW ad kc x0 x1 x2 x3 x4 x5 x6 x7 x_82 x_83 x10 x11 x12 x13 x14 x15 x16 x17 x18 x19 x20 x21 f0 f1 f2 f3 f4 f5 f6 f7 f8 f9 f10 f11 f12 f13 f14 f15 f16 f17 f18 f19 f20 f21 fL fN fP fM fO) H := hP
        have hD : va_D A (mW ad kc x0 x1 x2 x3 x4 x5 x6 x7 x_82 x_83 x10 x11 x12 x13 x14 x15 x16 x17 x18 x19 x20 x21 f0 f1 f2 f3 f4 f5 f6 f7 f8 f9 f10 f11 f12 f13 f14 f15 f16 f17 f18 f19 f20 f21 fL fN fP fM fO) := hD
        exact W.zret hx hb hr (z_nar (by first | assumption | decide | exact z_of (by omega))) (fun t ht hW => ⟨⟨_, _, rfl, rfl, x5, x6, x7, x_82, x_83, x11, f0, q0, (fun _ _ => rfl), (by first | omega | assumption | rfl | decide), (by first | omega | assumption | rfl | decide), (by first | omega | assumption | rfl | decide), (fun h9 => by omega), (Or.inr ⟨by omega, wd_bad q3 q4 (fun _ b9 => by have h1 := hWp.2.1; have h2 := b9.1; omega) (fun _ _ => by omega)⟩), (by first | omega | assumption | rfl | decide), by rw [ht]; exact hP, va_K.moved hW.alike hK, hD⟩, hS.F ht⟩) hS.2.2 dX10_aLine_61
    · have tk_43 := c_eq (a := r_42.toInt) (b := 0) rfl (by decide) k_43
      have hnp : ¬ (x5.toInt = 2 ∧ wPat (tx f2 x4.toInt) x6.toInt x7.toInt) := fun z9 => iw_r hr_42_0 (by omega) ⟨z9.1, tx_pat.mpr z9.2⟩
      refine lv_aload_n hx hb dX10_aLine_20 rfl (lv_at hl 1 rfl) ?_
      refine lv_iconst (v := 2) hx hb dX10_aLine_21 (by decide) ?_
      have lit_83 : (2 : Int32).toInt = 2 := by decide
      have hFc := m_free hD hS hA
      refine va_calli (va_runV (As := [.int 2]) (rest := []) ⟨hx, hb, hml, hown, hts⟩ (m_fails_q l dC dI ad kc x0 x1 x2 x3 x4 x5 x6 x7 x8 x9 x10 x11 x12 x13 x14 x15 x16 x17 x18 x19 x20 x21 f0 f1 f2 f3 f4 f5 f6 f7 f8 f9 f10 f11 f12 f13 f14 f15 f16 f17 f18 f19 f20 f21 fL fN fP fM fO H.size 2 (by first | omega | assumption | decide | (have l0 := Int32.toInt_zero; omega)) (by first | omega | assumption | decide | (have l0 := Int32.toInt_zero; omega))) (cwV 1 hts mg_X10_aLinemq_X10_fails_181 rfl rfl rfl (by decide +kernel) ⟨Nat.le_of_ble_eq_true rfl, Nat.le_of_ble_eq_true rfl⟩) ⟨fun a U g mk q => by obtain ⟨q0, q1, qP, qK, qD⟩ := q; exact ⟨q0, q1, qP, va_K.moved (u := U) (U := U.calling g mk a) (Vm.Alike.refl U.vm) qK, qD⟩, va_recv hK hP (ci := 10) (q0 := 0) rfl rfl, fun U hU hW => ⟨rfl, by rw [hU], by rw [hU]; exact hP, va_K.moved hW.alike hK, hD.weaken (fun _ _ _ _ => trivial)⟩⟩ rfl rfl hl.1 rfl (lv_room (Nat.le_of_ble_eq_true rfl)) dX10_aLine_22 ⟨Nat.le_of_ble_eq_true rfl, Nat.le_of_ble_eq_true rfl⟩) hS (fun q _ h => hFc q h) hFc (fun r_85 u t H1 locs ht hvm hw hB hz1 hk1 hS => ?_)
      subst hw
      obtain ⟨x_86, x_87, hr_85_0, hr_85_1, hP, hK1, hD1⟩ := hB
      rw [ht] at hP
      have hD := hD1.weaken (fun k q _ h => hFc q.1 h)
      clear hz1 hk1 hFc hD1 hK1 hvm
      generalize H1 = H at hP hS ⊢
      have rg_x_86 := i_rng x_86
      have rg_x_87 := i_rng x_87
      have rg_r_85 := i_rng r_85
      have hP : va_P (dC, dI) vwCl (mW ad kc x0 x1 x2 x3 x4 x5 x6 x7 x_86 x_87 x10 x11 x12 x13 x14 x15 x16 x17 x18 x19 x20 x21 f0 f1 f2 f3 f4 f5 f6 f7 f8 f9 f10 f11 f12 f13 f14 f15 f16 f17 f18 f19 f20 f21 fL fN fP fM fO) H := hP
      have hD : va_D A (mW ad kc x0 x1 x2 x3 x4 x5 x6 x7 x_86 x_87 x10 x11 x12 x13 x14 x15 x16 x17 x18 x19 x20 x21 f0 f1 f2 f3 f4 f5 f6 f7 f8 f9 f10 f11 f12 f13 f14 f15 f16 f17 f18 f19 f20 f21 fL fN fP fM fO) := hD
      exact W.zret hx hb hr (z_nar (by first | assumption | decide | exact z_of (by omega))) (fun t ht hW => ⟨⟨_, _, rfl, rfl, x5, x6, x7, x_86, x_87, x11, f0, q0, (fun _ _ => rfl), (by first | omega | assumption | rfl | decide), (by first | omega | assumption | rfl | decide), (by first | omega | assumption | rfl | decide), (fun h9 => by omega), (Or.inr ⟨by omega, wd_bad q3 q4 (fun a9 b9 => absurd ⟨a9, b9⟩ hnd) (fun a9 b9 => absurd ⟨a9, b9⟩ hnp)⟩), (by first | omega | assumption | rfl | decide), by rw [ht]; exact hP, va_K.moved hW.alike hK, hD⟩, hS.F ht⟩) hS.2.2 dX10_aLine_25

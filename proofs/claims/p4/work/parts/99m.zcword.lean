def mwX6_isWordq : List Cond := .code yX6_isWord cX6_isWord 5 (some .boolean) :: (([.methodLink RX6 83 yJ0_length_8abf5, .instanceMethod yJ0_length_8abf5, .selects RJ0 yJ0_length_8abf5 yJ0_length_8abf5, .initialized RJ0, .methodLink RX6 89 yJ0_charAt_5068e, .instanceMethod yJ0_charAt_5068e, .selects RJ0 yJ0_charAt_5068e yJ0_charAt_5068e] : List Cond) ++ (mwJ0_length_8abf5j ++ (mwJ0_charAt_5068ejq)))
set_option maxRecDepth 20000 in
theorem mg_X6_isWordq_J0_length_8abf5_83 : GoodIn mwX6_isWordq (wsV RX6 83 RJ0 yJ0_length_8abf5 mwJ0_length_8abf5j) := gi_app (A := [.methodLink RX6 83 yJ0_length_8abf5, .instanceMethod yJ0_length_8abf5, .selects RJ0 yJ0_length_8abf5 yJ0_length_8abf5, .initialized RJ0]) (goodIn_r _ [1, 2, 3, 4] (by decide +kernel) (by decide +kernel)) (gi_sub gd_mwJ0_length_8abf5j (fun w h => List.mem_cons_of_mem _ (List.mem_append_right _ (List.mem_append_left _ h))))
set_option maxRecDepth 20000 in
theorem mg_X6_isWordq_J0_charAt_5068e_89 : GoodIn mwX6_isWordq (wsV RX6 89 RJ0 yJ0_charAt_5068e mwJ0_charAt_5068ejq) := gi_app (A := [.methodLink RX6 89 yJ0_charAt_5068e, .instanceMethod yJ0_charAt_5068e, .selects RJ0 yJ0_charAt_5068e yJ0_charAt_5068e, .initialized RJ0]) (goodIn_r _ [5, 6, 7, 4] (by decide +kernel) (by decide +kernel)) (gi_sub gd_mwJ0_charAt_5068ejq (fun w h => List.mem_cons_of_mem _ (List.mem_append_right _ (List.mem_append_right _ (h)))))
set_option maxHeartbeats 4000000 in
set_option maxRecDepth 100000 in
/-- Reader.isWord: which -/
theorem s_isWord_q (l : Launch) (dC : Nat → ClassId) (dI : Nat → Nat → Nat) (ba kb qs ns : Nat) (gs : Nat → Int32) (cb : ClassId) (fb : Nat → Int32) (sz : Nat) (i1 i2 : Int32) (n9 : Int) (hkb : kb ≤ 900) (hns : ns < 100) (h1 : 0 ≤ i1.toInt ∧ i1.toInt ≤ i2.toInt ∧ i2.toInt ≤ kb) (h2 : i2.toInt ≤ n9) : Met l yX6_isWord mwX6_isWordq ({ frames := 4, cells := 0, slots := 0, locals := 240 }) (va_Pc [.ref ba, .int i1, .int i2, .ref qs] (fun U => U.heap.size = sz ∧ va_P (dC, dI) vwCl ([(ba, .inl (cb, kb, .inl fb))]) U.heap ∧ va_K (dC, dI) vwCl ([(cb, .int)]) U ∧ va_D (fun _ => True) ([(ba, .inl (cb, kb, .inl fb))]) ∧ sY (va_A ([(ba, .inl (cb, kb, .inl fb))]) sz) U U.heap qs ns gs ∧ sC (va_A ([(ba, .inl (cb, kb, .inl fb))]) sz) U U.heap)) (va_Qi (fun (o9 : Int32) (_ : Unit) => o9.toInt = 1 ∧ (i2.toInt - i1.toInt = (ns : Int) ∧ isTx (tc fb n9) gs i1.toInt ns) ∨ o9.toInt = 0 ∧ ¬ (i2.toInt - i1.toInt = (ns : Int) ∧ isTx (tc fb n9) gs i1.toInt ns)) (fun _ t => va_P (dC, dI) vwCl [(ba, .inl (cb, kb, .inl fb))] t.heap ∧ va_K (dC, dI) vwCl [(cb, .int)] t ∧ va_D (va_A ([(ba, .inl (cb, kb, .inl fb))]) sz) [(ba, .inl (cb, kb, .inl fb))]) (va_A ([(ba, .inl (cb, kb, .inl fb))]) sz)) 0 0 (va_A ([(ba, .inl (cb, kb, .inl fb))]) sz) := by
  refine Met.ofW (cc := cX6_isWord) (maxL := 5) (ret := (some .boolean)) (by decide +kernel) rfl ?_
  intro p e s m args below meth c s₁ B hml hv
  obtain ⟨rfl, hsz, hP, hK, hD0, hX9, hC9⟩ := hv
  have hx := B.exec
  have hb := B.bytes
  have hr := B.returns
  have hts := atoms_spec (ws := mwX6_isWordq) B.pre
  have hown : s.vm.findClass RX6 = some m.cls := findClass_of_methodNamed B.named
  have hlocks := B.notSynchronized
  subst hsz
  have hD := hD0.self (sz := s.heap.size)
  generalize hAe : va_A ([(ba, .inl (cb, kb, .inl fb))]) s.heap.size = A at hD hX9 hC9 ⊢
  have hA : ∀ q : Nat, s.heap.size ≤ q → A q := fun q h => by rw [← hAe]; exact Or.inr h
  have hP : va_P (dC, dI) vwCl [(ba, .inl (cb, kb, .inl fb))] s.heap := hP
  have hD : va_D A [(ba, .inl (cb, kb, .inl fb))] := hD
  have hK : va_K (dC, dI) vwCl [(cb, .int)] s := hK
  generalize hH : s.heap = H at hP ⊢
  have hS : va_S A s.heap H [] := by rw [← hH]; exact va_S.rf
  have hl := lv_entry ([.ref ba, .int i1, .int i2, .ref qs]) (n := 5) (Nat.le_of_ble_eq_true rfl)
  rw [lg_entry_eq]
  generalize (lg_sl ([.ref ba, .int i1, .int i2, .ref qs]) ++ List.replicate (5 - (lg_sl ([.ref ba, .int i1, .int i2, .ref qs])).length) Slot.unset).toArray = ls at hl ⊢
  have hl : lv_has ls 5 [(0, .ref ba), (1, .int i1), (2, .int i2), (3, .ref qs)] := hl
  have rg_i1 := i_rng i1
  have rg_i2 := i_rng i2
  refine lv_iload_n hx hb dX6_isWord_0 rfl (lv_at hl 2 rfl) ?_
  refine lv_iload_n hx hb dX6_isWord_1 rfl (lv_at hl 1 rfl) ?_
  refine lv_isub hx hb dX6_isWord_2 ?_
  refine lv_topi (fun y_1 ey_1 => ?_)
  first | have ty_1 := i_sub (a := i2.toInt) (b := i1.toInt) rfl rfl ey_1 (by omega) (by omega) | skip
  refine lv_aload_n hx hb dX6_isWord_3 rfl (lv_at hl 3 rfl) ?_
  refine vp_callSi (W.runV (As := []) (rest := [.int y_1]) ⟨hx, hb, hml, hown, hts⟩ (j_length l qs ns (by omega)) (cwV 0 hts mg_X6_isWordq_J0_length_8abf5_83 rfl rfl rfl (by decide +kernel) ⟨Nat.le_of_ble_eq_true rfl, Nat.le_of_ble_eq_true rfl⟩) ⟨fun a U g mk q => ⟨q.1, sP.call q.2⟩, sX.recv hX9.sX hS, fun U hU hW => ⟨rfl, sP.of hX9.sX hC9 hS hW.alike hU⟩⟩ rfl rfl hl.1 rfl (lv_room (Nat.le_of_ble_eq_true rfl)) dX6_isWord_4 ⟨Nat.le_of_ble_eq_true rfl, Nat.le_of_ble_eq_true rfl⟩) (fun r_2 hw => ?_)
  have hlr_2 : r_2.toInt = (ns : Int) := hw
  refine lv_icmp_eq (tgt := 12) hx hb dX6_isWord_7 (by decide) (fun k_3 => ?_) (fun k_3 => ?_)
  · have tk_3 := c_eq (a := y_1.toInt) (b := r_2.toInt) rfl rfl k_3
    refine lv_iconst (v := 0) hx hb dX6_isWord_12 (by decide) ?_
    refine lv_istore (lv' := [(4, .int 0), (0, .ref ba), (1, .int i1), (2, .int i2), (3, .ref qs)]) hx hb dX6_isWord_13 hl (by decide) rfl (fun ls hl => ?_)
    have loop15 : ∀ (lm15 : Nat) (kk : Int32), (0 ≤ kk.toInt ∧ kk.toInt ≤ ns) → (isTx (tc fb n9) gs i1.toInt kk.toInt) → (((ns : Int) - kk.toInt).toNat) < lm15 → ∀ (H : Heap) (locs : List Loc) (ls : Array Slot), va_P (dC, dI) vwCl [(ba, .inl (cb, kb, .inl fb))] H → va_D A [(ba, .inl (cb, kb, .inl fb))] → va_S A s.heap H locs → lv_has ls 5 [(4, .int kk), (0, .ref ba), (1, .int i1), (2, .int i2), (3, .ref qs)] → W p l e (headSpec mwX6_isWordq ({ frames := 4, cells := 0, slots := 0, locals := 240 })).room s m ([.ref ba, .int i1, .int i2, .ref qs]).toArray below meth c H locs 0 0 (MQ below (va_Qi (fun (o9 : Int32) (_ : Unit) => o9.toInt = 1 ∧ (i2.toInt - i1.toInt = (ns : Int) ∧ isTx (tc fb n9) gs i1.toInt ns) ∨ o9.toInt = 0 ∧ ¬ (i2.toInt - i1.toInt = (ns : Int) ∧ isTx (tc fb n9) gs i1.toInt ns)) (fun _ t => va_P (dC, dI) vwCl [(ba, .inl (cb, kb, .inl fb))] t.heap ∧ va_K (dC, dI) vwCl [(cb, .int)] t ∧ va_D A [(ba, .inl (cb, kb, .inl fb))]) A) ([.ref ba, .int i1, .int i2, .ref qs]).toArray s 0 0 A) (F0 m 15 ls []) := by
      intro lm15
      induction lm15 with
      | zero => intro kk v15_0 v15_1 hm15; exact absurd hm15 (Nat.not_lt_zero _)
      | succ lm15 ih15 =>
        intro kk v15_0 v15_1 hm15 H locs ls hP hD hS hl
        have rg_kk := i_rng kk
        refine lv_iload hx hb dX6_isWord_15 (lv_at hl 0 rfl) ?_
        refine lv_aload_n hx hb dX6_isWord_17 rfl (lv_at hl 4 rfl) ?_
        refine vp_callSi (W.runV (As := []) (rest := [.int kk]) ⟨hx, hb, hml, hown, hts⟩ (j_length l qs ns (by omega)) (cwV 0 hts mg_X6_isWordq_J0_length_8abf5_83 rfl rfl rfl (by decide +kernel) ⟨Nat.le_of_ble_eq_true rfl, Nat.le_of_ble_eq_true rfl⟩) ⟨fun a U g mk q => ⟨q.1, sP.call q.2⟩, sX.recv hX9.sX hS, fun U hU hW => ⟨rfl, sP.of hX9.sX hC9 hS hW.alike hU⟩⟩ rfl rfl hl.1 rfl (lv_room (Nat.le_of_ble_eq_true rfl)) dX6_isWord_18 ⟨Nat.le_of_ble_eq_true rfl, Nat.le_of_ble_eq_true rfl⟩) (fun r_4 hw => ?_)
        have hlr_4 : r_4.toInt = (ns : Int) := hw
        refine lv_icmp_ge (tgt := 47) hx hb dX6_isWord_21 (by decide) (fun k_5 => ?_) (fun k_5 => ?_)
        · have tk_5 := c_ge (a := kk.toInt) (b := r_4.toInt) rfl rfl k_5
          refine lv_iconst (v := 1) hx hb dX6_isWord_47 (by decide) ?_
          have hP9 := hP.sub (ws' := [(ba, .inl (cb, kb, .inl fb))]) [0] rfl
          have hD9 := hD.sub (ws' := [(ba, .inl (cb, kb, .inl fb))]) [0] (by decide) rfl
          have hK9 := hK.sub (tys' := [(cb, .int)]) [0] rfl
          exact W.zret hx hb hr rfl (fun t ht hW => ⟨⟨_, (), rfl, (Or.inl ⟨by decide, by omega, by rw [← show kk.toInt = (ns : Int) by omega]; exact v15_1⟩), by rw [ht]; exact hP9, va_K.moved hW.alike hK9, hD9⟩, hS.F ht⟩) hS.2.2 dX6_isWord_48
        · have tk_5 := c_nge (a := kk.toInt) (b := r_4.toInt) rfl rfl k_5
          refine lv_aload_n hx hb dX6_isWord_24 rfl (lv_at hl 1 rfl) ?_
          refine lv_iload_n hx hb dX6_isWord_25 rfl (lv_at hl 2 rfl) ?_
          refine lv_iload hx hb dX6_isWord_26 (lv_at hl 0 rfl) ?_
          refine lv_iadd hx hb dX6_isWord_28 ?_
          refine lv_topi (fun y_6 ey_6 => ?_)
          first | have ty_6 := i_add (a := i1.toInt) (b := kk.toInt) rfl rfl ey_6 (by omega) (by omega) | skip
          refine va_iald hx hb hK hP 0 0 rfl rfl (i := y_6) (vp_of (a := y_6.toInt) rfl (by omega) (by omega)) dX6_isWord_29 ?_
          refine lv_topi (fun y_7 ey_7 => ?_)
          have rg_y_7 := i_rng y_7
          have wy_7 := tc_ld (n := n9) ey_7 (by omega)
          have rg_y_7 := i_rng y_7
          refine lv_aload_n hx hb dX6_isWord_30 rfl (lv_at hl 4 rfl) ?_
          refine lv_iload hx hb dX6_isWord_31 (lv_at hl 0 rfl) ?_
          refine vp_callSi (W.runV (As := [.int kk]) (rest := [.int y_7]) ⟨hx, hb, hml, hown, hts⟩ (j_charAt_q l qs ns gs kk (by omega) (by omega) (by omega)) (cwV 1 hts mg_X6_isWordq_J0_charAt_5068e_89 rfl rfl rfl (by decide +kernel) ⟨Nat.le_of_ble_eq_true rfl, Nat.le_of_ble_eq_true rfl⟩) ⟨fun a U g mk q => ⟨q.1, sPg.call q.2⟩, sX.recv hX9.sX hS, fun U hU hW => ⟨rfl, sPg.of hX9 hC9 hS hW.alike hU⟩⟩ rfl rfl hl.1 rfl (lv_room (Nat.le_of_ble_eq_true rfl)) dX6_isWord_33 ⟨Nat.le_of_ble_eq_true rfl, Nat.le_of_ble_eq_true rfl⟩) (fun r_8 hw => ?_)
          have rg_r_8 := i_rng r_8
          have hcr_8 := hw
          refine lv_icmp_eq (tgt := 41) hx hb dX6_isWord_36 (by decide) (fun k_9 => ?_) (fun k_9 => ?_)
          · have tk_9 := c_eq (a := y_7.toInt) (b := r_8.toInt) rfl rfl k_9
            obtain ⟨y_10, ey_10⟩ : ∃ y : Int32, y = kk + 1 := ⟨_, rfl⟩
            first | have ty_10 := i_add (a := kk.toInt) (b := 1) rfl (by decide) ey_10 (by omega) (by omega) | skip
            refine lv_iinc (v := y_10) (lv' := [(4, .int y_10), (0, .ref ba), (1, .int i1), (2, .int i2), (3, .ref qs)]) hx hb dX6_isWord_41 hl (k := 0) rfl (by rw [ey_10]; rfl) (by decide) rfl (fun ls hl => ?_)
            refine lv_goto (tgt := 15) hx hb dX6_isWord_44 (by decide) ?_
            exact ih15 y_10 (by first | omega | assumption | decide) (tx_next v15_1 (by rw [← show y_6.toInt = i1.toInt + kk.toInt by omega]; omega) (show y_10.toInt = kk.toInt + 1 by omega)) (by omega) _ _ ls hP hD hS (lv_sub hl [0, 1, 2, 3, 4] rfl)
          · have tk_9 := c_ne (a := y_7.toInt) (b := r_8.toInt) rfl rfl k_9
            refine lv_iconst (v := 0) hx hb dX6_isWord_39 (by decide) ?_
            have hP9 := hP.sub (ws' := [(ba, .inl (cb, kb, .inl fb))]) [0] rfl
            have hD9 := hD.sub (ws' := [(ba, .inl (cb, kb, .inl fb))]) [0] (by decide) rfl
            have hK9 := hK.sub (tys' := [(cb, .int)]) [0] rfl
            exact W.zret hx hb hr rfl (fun t ht hW => ⟨⟨_, (), rfl, (Or.inr ⟨by decide, fun h9 => by have h8 := h9.2 kk.toInt (by omega) (by omega); rw [← show y_6.toInt = i1.toInt + kk.toInt by omega] at h8; omega⟩), by rw [ht]; exact hP9, va_K.moved hW.alike hK9, hD9⟩, hS.F ht⟩) hS.2.2 dX6_isWord_40
    have lit_10 : (0 : Int32).toInt = 0 := by decide
    exact loop15 _ 0 (by first | omega | assumption | decide) (fun j a b => by have z0 := Int32.toInt_zero; omega) (Nat.lt_succ_self _) _ _ ls hP hD hS (lv_sub hl [0, 1, 2, 3, 4] rfl)
  · have tk_3 := c_ne (a := y_1.toInt) (b := r_2.toInt) rfl rfl k_3
    refine lv_iconst (v := 0) hx hb dX6_isWord_10 (by decide) ?_
    have hP9 := hP.sub (ws' := [(ba, .inl (cb, kb, .inl fb))]) [0] rfl
    have hD9 := hD.sub (ws' := [(ba, .inl (cb, kb, .inl fb))]) [0] (by decide) rfl
    have hK9 := hK.sub (tys' := [(cb, .int)]) [0] rfl
    exact W.zret hx hb hr rfl (fun t ht hW => ⟨⟨_, (), rfl, (Or.inr ⟨by decide, fun h9 => by omega⟩), by rw [ht]; exact hP9, va_K.moved hW.alike hK9, hD9⟩, hS.F ht⟩) hS.2.2 dX6_isWord_11
/-- from a token to behind it -/
def rW (t : Int → Int) (b e a y w d p d' p' : Int) : Prop := (y = 0 → Ld t (zTop b a d p) (zTop (e + 1) w d' p')) ∧ (y ≠ 0 → Ld t (zTop b a d p) (zOut (-1)))
theorem rW_o {t : Int → Int} {b e e1 a a1 y w w1 d p d' p' d1 p1 : Int} (h : Ld t (zTop b a1 d p) (zTop e1 w1 d1 p1)) (ha : a = a1) (he : e + 1 = e1) (hw : w = w1) (hd : d' = d1) (hp : p' = p1) (hy : y = 0) : rW t b e a y w d p d' p' := by
  subst ha; subst he; subst hw; subst hd; subst hp
  exact ⟨fun _ => h, fun q => absurd hy q⟩
theorem rW_f {t : Int → Int} {b e a a1 y w d p d' p' : Int} (h : Ld t (zTop b a1 d p) (zOut (-1))) (ha : a = a1) (hy : y ≠ 0) : rW t b e a y w d p d' p' := by
  subst ha
  exact ⟨fun q => absurd q hy, fun _ => h⟩
def mwX6_readWordq : List Cond := .code yX6_readWord cX6_readWord 6 (some .int) :: (([.methodLink RX6 77 yX6_isWord, .static yX6_isWord, .initialized RX6, .fieldLink RX6 44 "PatternGate$Reader" "wanted" "I", .methodLink RX6 71 yX6_fail, .instanceMethod yX6_fail, .selects RX6 yX6_fail yX6_fail, .fieldLink RX6 38 "PatternGate$Reader" "docsAhead" "I", .fieldLink RX6 32 "PatternGate$Reader" "newDocs" "I", .fieldLink RX6 41 "PatternGate$Reader" "patternsAhead" "I", .fieldLink RX6 35 "PatternGate$Reader" "newPatterns" "I", .initialized RX9, .static yX9_isSmall] : List Cond) ++ (wsX60 ++ (mwX6_isWordq ++ (mwX6_fail ++ (mwX9_isSmallwq)))))
theorem fin_X6_readWordq_X6 : ∀ w ∈ wsX60, w ∈ mwX6_readWordq := fun w h => List.mem_cons_of_mem _ (List.mem_append_right _ (List.mem_append_left _ h))
set_option maxRecDepth 100000 in
theorem gd_mwX6_isWordq : mwX6_isWordq.all goodWord = true := by decide +kernel
set_option maxRecDepth 20000 in
theorem mg_X6_readWordq_X6_isWord_77 : GoodIn mwX6_readWordq (va_wsS RX6 77 yX6_isWord mwX6_isWordq) := gi_app (A := [.methodLink RX6 77 yX6_isWord, .static yX6_isWord, .initialized RX6]) (goodIn_r _ [1, 2, 3] (by decide +kernel) (by decide +kernel)) (gi_sub gd_mwX6_isWordq (fun w h => List.mem_cons_of_mem _ (List.mem_append_right _ (List.mem_append_right _ (List.mem_append_left _ h)))))
set_option maxRecDepth 20000 in
theorem mg_X6_readWordq_X6_fail_71 : GoodIn mwX6_readWordq (wsV RX6 71 RX6 yX6_fail mwX6_fail) := gi_app (A := [.methodLink RX6 71 yX6_fail, .instanceMethod yX6_fail, .selects RX6 yX6_fail yX6_fail, .initialized RX6]) (goodIn_r _ [5, 6, 7, 3] (by decide +kernel) (by decide +kernel)) (gi_sub gd_mwX6_fail (fun w h => List.mem_cons_of_mem _ (List.mem_append_right _ (List.mem_append_right _ (List.mem_append_right _ (List.mem_append_left _ h))))))
set_option maxRecDepth 20000 in
theorem mg_X6_readWordq_X9_isSmall_53 : GoodIn mwX6_readWordq mwX9_isSmallwq := gi_sub gd_mwX9_isSmallwq (fun w h => List.mem_cons_of_mem _ (List.mem_append_right _ (List.mem_append_right _ (List.mem_append_right _ (List.mem_append_right _ (h))))))
set_option maxHeartbeats 4000000 in
set_option maxRecDepth 100000 in
/-- Reader.readWord: what it reads -/
theorem s_readWord_q (l : Launch) (dC : Nat → ClassId) (dI : Nat → Nat → Nat) (rd : Nat) (r : Nat → Nat) (a0 a1 a2 a3 a4 a5 a6 a7 : Int32) (ba kb : Nat) (cb : ClassId) (fb : Nat → Int32) (sz : Nat) (i1 i2 : Int32) (hkb : kb ≤ 900) (h1 : 0 ≤ i1.toInt ∧ i1.toInt < i2.toInt ∧ i2.toInt ≤ kb) (h3 : 0 ≤ a3.toInt ∧ a3.toInt ≤ 10) (h4 : 0 ≤ a4.toInt ∧ a4.toInt ≤ 8) (h5 : 0 ≤ a5.toInt ∧ a5.toInt ≤ 10) (h6 : 0 ≤ a6.toInt ∧ a6.toInt ≤ 8) (h0 : a0.toInt = 0) (hs : isSm ((tc fb i2.toInt) i1.toInt)) : Met l yX6_readWord mwX6_readWordq ({ frames := 5, cells := 0, slots := 0, locals := 300 }) (va_Pc [.ref rd, .ref ba, .int i1, .int i2] (fun U => U.heap.size = sz ∧ va_P (dC, dI) vwCl ([(rd, .inr (6, rF r a0 a1 a2 a3 a4 a5 a6 a7)), (ba, .inl (cb, kb, .inl fb))]) U.heap ∧ va_K (dC, dI) vwCl ([(cb, .int)]) U ∧ va_D (fun _ => True) ([(rd, .inr (6, rF r a0 a1 a2 a3 a4 a5 a6 a7)), (ba, .inl (cb, kb, .inl fb))]) ∧ va_Nw (.methodLinkNest RX6 53 yX9_isSmall "PatternGate") U ∧ sR2 (va_A ([(rd, .inr (6, rF r a0 a1 a2 a3 a4 a5 a6 a7)), (ba, .inl (cb, kb, .inl fb))]) sz) U U.heap)) (va_Qi (fun (o9 : Int32) (u : Int32) => o9 = u ∧ i1.toInt ≤ o9.toInt ∧ o9.toInt < i2.toInt) (fun u t => ∃ y0 y1 y7 : Int32, ((y7 = a7 ∧ (y0 = 2 ∨ y0 = 3)) ∨ (y0 = a0 ∧ ((y7 = 1 ∧ a5.toInt + a3.toInt < 10) ∨ (y7 = 2 ∧ a6.toInt + a4.toInt < 8)))) ∧ rW (tc fb i2.toInt) i1.toInt u.toInt a7.toInt y0.toInt y7.toInt (a5.toInt + a3.toInt) (a6.toInt + a4.toInt) (a5.toInt + a3.toInt) (a6.toInt + a4.toInt) ∧ va_P (dC, dI) vwCl [(rd, .inr (6, rF r y0 y1 a2 a3 a4 a5 a6 y7)), (ba, .inl (cb, kb, .inl fb))] t.heap ∧ va_K (dC, dI) vwCl [(cb, .int)] t ∧ va_D (va_A ([(rd, .inr (6, rF r a0 a1 a2 a3 a4 a5 a6 a7)), (ba, .inl (cb, kb, .inl fb))]) sz) [(rd, .inr (6, rF r y0 y1 a2 a3 a4 a5 a6 y7)), (ba, .inl (cb, kb, .inl fb))]) (va_A ([(rd, .inr (6, rF r a0 a1 a2 a3 a4 a5 a6 a7)), (ba, .inl (cb, kb, .inl fb))]) sz)) 0 0 (va_A ([(rd, .inr (6, rF r a0 a1 a2 a3 a4 a5 a6 a7)), (ba, .inl (cb, kb, .inl fb))]) sz) := by
  refine Met.ofW (cc := cX6_readWord) (maxL := 6) (ret := (some .int)) (by decide +kernel) rfl ?_
  intro p e s m args below meth c s₁ B hml hv
  obtain ⟨rfl, hsz, hP, hK, hD0, hN53, hSR⟩ := hv
  have hx := B.exec
  have hb := B.bytes
  have hr := B.returns
  have hts := atoms_spec (ws := mwX6_readWordq) B.pre
  have hown : s.vm.findClass RX6 = some m.cls := findClass_of_methodNamed B.named
  have hlocks := B.notSynchronized
  subst hsz
  have hD := hD0.self (sz := s.heap.size)
  generalize hAe : va_A ([(rd, .inr (6, rF r a0 a1 a2 a3 a4 a5 a6 a7)), (ba, .inl (cb, kb, .inl fb))]) s.heap.size = A at hD hSR ⊢
  have hA : ∀ q : Nat, s.heap.size ≤ q → A q := fun q h => by rw [← hAe]; exact Or.inr h
  have hP : va_P (dC, dI) vwCl [(rd, .inr (6, rF r a0 a1 a2 a3 a4 a5 a6 a7)), (ba, .inl (cb, kb, .inl fb))] s.heap := hP
  have hD : va_D A [(rd, .inr (6, rF r a0 a1 a2 a3 a4 a5 a6 a7)), (ba, .inl (cb, kb, .inl fb))] := hD
  have hK : va_K (dC, dI) vwCl [(cb, .int)] s := hK
  generalize hH : s.heap = H at hP ⊢
  have hS : va_S A s.heap H [] := by rw [← hH]; exact va_S.rf
  have hl := lv_entry ([.ref rd, .ref ba, .int i1, .int i2]) (n := 6) (Nat.le_of_ble_eq_true rfl)
  rw [lg_entry_eq]
  generalize (lg_sl ([.ref rd, .ref ba, .int i1, .int i2]) ++ List.replicate (6 - (lg_sl ([.ref rd, .ref ba, .int i1, .int i2])).length) Slot.unset).toArray = ls at hl ⊢
  have hl : lv_has ls 6 [(0, .ref rd), (1, .ref ba), (2, .int i1), (3, .int i2)] := hl
  have rg_i1 := i_rng i1
  have rg_i2 := i_rng i2
  obtain ⟨qd, qp, hR75, hR81, hXd, hXp, hC9⟩ := hSR
  have ra3 := i_rng a3
  have ra4 := i_rng a4
  have ra5 := i_rng a5
  have ra6 := i_rng a6
  have ra7 := i_rng a7
  refine lv_iload_n hx hb dX6_readWord_0 rfl (lv_at hl 2 rfl) ?_
  refine lv_iconst (v := 1) hx hb dX6_readWord_1 (by decide) ?_
  refine lv_iadd hx hb dX6_readWord_2 ?_
  refine lv_topi (fun y_1 ey_1 => ?_)
  first | have ty_1 := i_add (a := i1.toInt) (b := 1) rfl (by decide) ey_1 (by omega) (by omega) | skip
  refine lv_istore (lv' := [(4, .int y_1), (0, .ref rd), (1, .ref ba), (2, .int i1), (3, .int i2)]) hx hb dX6_readWord_3 hl (by decide) rfl (fun ls hl => ?_)
  have loop5 : ∀ (lm5 : Nat) (kk : Int32), (i1.toInt + 1 ≤ kk.toInt ∧ kk.toInt ≤ i2.toInt) → (∀ j, i1.toInt ≤ j → j < kk.toInt → isSm ((tc fb i2.toInt) j)) → ((i2.toInt - kk.toInt).toNat) < lm5 → ∀ (H : Heap) (locs : List Loc) (ls : Array Slot), va_P (dC, dI) vwCl [(rd, .inr (6, rF r a0 a1 a2 a3 a4 a5 a6 a7)), (ba, .inl (cb, kb, .inl fb))] H → va_D A [(rd, .inr (6, rF r a0 a1 a2 a3 a4 a5 a6 a7)), (ba, .inl (cb, kb, .inl fb))] → va_S A s.heap H locs → lv_has ls 6 [(4, .int kk), (0, .ref rd), (1, .ref ba), (2, .int i1), (3, .int i2)] → W p l e (headSpec mwX6_readWordq ({ frames := 5, cells := 0, slots := 0, locals := 300 })).room s m ([.ref rd, .ref ba, .int i1, .int i2]).toArray below meth c H locs 0 0 (MQ below (va_Qi (fun (o9 : Int32) (u : Int32) => o9 = u ∧ i1.toInt ≤ o9.toInt ∧ o9.toInt < i2.toInt) (fun u t => ∃ y0 y1 y7 : Int32, ((y7 = a7 ∧ (y0 = 2 ∨ y0 = 3)) ∨ (y0 = a0 ∧ ((y7 = 1 ∧ a5.toInt + a3.toInt < 10) ∨ (y7 = 2 ∧ a6.toInt + a4.toInt < 8)))) ∧ rW (tc fb i2.toInt) i1.toInt u.toInt a7.toInt y0.toInt y7.toInt (a5.toInt + a3.toInt) (a6.toInt + a4.toInt) (a5.toInt + a3.toInt) (a6.toInt + a4.toInt) ∧ va_P (dC, dI) vwCl [(rd, .inr (6, rF r y0 y1 a2 a3 a4 a5 a6 y7)), (ba, .inl (cb, kb, .inl fb))] t.heap ∧ va_K (dC, dI) vwCl [(cb, .int)] t ∧ va_D A [(rd, .inr (6, rF r y0 y1 a2 a3 a4 a5 a6 y7)), (ba, .inl (cb, kb, .inl fb))]) A) ([.ref rd, .ref ba, .int i1, .int i2]).toArray s 0 0 A) (F0 m 5 ls []) := by
    intro lm5
    induction lm5 with
    | zero => intro kk v5_0 v5_1 hm5; exact absurd hm5 (Nat.not_lt_zero _)
    | succ lm5 ih5 =>
      intro kk v5_0 v5_1 hm5 H locs ls hP hD hS hl
      have rg_kk := i_rng kk
      refine lv_iload hx hb dX6_readWord_5 (lv_at hl 0 rfl) ?_
      refine lv_iload_n hx hb dX6_readWord_7 rfl (lv_at hl 4 rfl) ?_
      refine lv_icmp_ge (tgt := 27) hx hb dX6_readWord_8 (by decide) (fun k_2 => ?_) (fun k_2 => ?_)
      · have tk_2 := c_ge (a := kk.toInt) (b := i2.toInt) rfl rfl k_2
        have hEnd : ¬ isSm ((tc fb i2.toInt) kk.toInt) := by rw [tc_end (by omega)]; unfold isSm; omega
        have hWd : isSm ((tc fb i2.toInt) i1.toInt) ∧ i1.toInt < kk.toInt ∧ (∀ j, i1.toInt ≤ j → j < kk.toInt → isSm ((tc fb i2.toInt) j)) ∧ ¬ isSm ((tc fb i2.toInt) kk.toInt) := ⟨hs, by omega, v5_1, hEnd⟩
        refine lv_aload_n hx hb dX6_readWord_27 rfl (lv_at hl 2 rfl) ?_
        refine lv_iload_n hx hb dX6_readWord_28 rfl (lv_at hl 3 rfl) ?_
        refine lv_iload hx hb dX6_readWord_29 (lv_at hl 0 rfl) ?_
        refine va_ldcS hx hb hown hR75 dX6_readWord_31 ?_
        have hPc := hP.sub (ws' := [(ba, .inl (cb, kb, .inl fb))]) [1] rfl
        have hKc := hK.sub (tys' := [(cb, .int)]) [0] rfl
        have hDc := hD.sub (ws' := [(ba, .inl (cb, kb, .inl fb))]) [1] (by decide) rfl
        have hFc := va_free (wc := [(ba, .inl (cb, kb, .inl fb))]) hD hS hA [1] rfl
        refine va_calli (va_runS (As := [.ref ba, .int i1, .int kk, .ref qd]) (rest := []) ⟨hx, hb, hml, hown, hts⟩ (s_isWord_q l dC dI ba kb qd 3 gDoc cb fb H.size i1 kk i2.toInt (by omega) (by omega) (by omega) (by omega)) (va_cwS 4 hts mg_X6_readWordq_X6_isWord_77 rfl rfl rfl (by decide +kernel) ⟨Nat.le_of_ble_eq_true rfl, Nat.le_of_ble_eq_true rfl⟩) ⟨fun a U g mk q => by obtain ⟨q0, q1, qP, qK, qD, qE0, qE1⟩ := q; exact ⟨q0, q1, qP, va_K.moved (u := U) (U := U.calling g mk a) (Vm.Alike.refl U.vm) qK, qD, sY.moved (u := U) (U := U.calling g mk a) (Vm.Alike.refl U.vm) qE0, sC.moved (u := U) (U := U.calling g mk a) (Vm.Alike.refl U.vm) qE1⟩, fun U hU hW => ⟨rfl, by rw [hU], by rw [hU]; exact hPc, va_K.moved hW.alike hKc, hDc.weaken (fun _ _ _ _ => trivial), sY.to hXd hS hFc hW hU, sC.to hC9 hS hFc hW hU⟩⟩ rfl rfl hl.1 rfl (lv_room (Nat.le_of_ble_eq_true rfl)) dX6_readWord_33 ⟨Nat.le_of_ble_eq_true rfl, Nat.le_of_ble_eq_true rfl⟩) hS (fun q _ h => hFc q h) hFc (fun r_4 u t H1 locs ht hvm hw hB hz1 hk1 hS => ?_)
        obtain ⟨hP1, hK1, hD1⟩ := hB
        rw [ht] at hP1
        have hr_4 := hw
        have rg_r_4 := i_rng r_4
        obtain ⟨hP, hD⟩ := va_join (wr := [(rd, .inr (6, rF r a0 a1 a2 a3 a4 a5 a6 a7))]) (w1 := [(ba, .inl (cb, kb, .inl fb))]) hP hD [1] [0] rfl rfl (by decide) (by decide) hk1 hFc hP1 hD1
        generalize H1 = H at hP hS ⊢
        have hP : va_P (dC, dI) vwCl [(rd, .inr (6, rF r a0 a1 a2 a3 a4 a5 a6 a7)), (ba, .inl (cb, kb, .inl fb))] H := hP
        have hD : va_D A [(rd, .inr (6, rF r a0 a1 a2 a3 a4 a5 a6 a7)), (ba, .inl (cb, kb, .inl fb))] := hD
        refine lv_istore (lv' := [(5, .int r_4), (4, .int kk), (0, .ref rd), (1, .ref ba), (2, .int i1), (3, .int i2)]) hx hb dX6_readWord_36 hl (by decide) rfl (fun ls hl => ?_)
        refine lv_aload_n hx hb dX6_readWord_38 rfl (lv_at hl 2 rfl) ?_
        refine va_get (D := (dC, dI)) (ci := 6) (v := .int a7) (C := RX6) (T := TX6) (N := 11) hx hb hts fin_X6_readWordq_X6 hown hK hP 0 rfl rfl 10 (by decide) (hts (.fieldLink RX6 44 "PatternGate$Reader" "wanted" "I") (List.mem_of_getElem? (i := 4) (by decide +kernel))) (fun _ h9 => h9) rfl dX6_readWord_39 ?_
        refine lv_if_ne (tgt := 62) hx hb dX6_readWord_42 (by decide) (fun k_5 => ?_) (fun k_5 => ?_)
        · have tk_5 := c_ne (a := a7.toInt) (b := 0) rfl (by decide) k_5
          refine lv_aload_n hx hb dX6_readWord_62 rfl (lv_at hl 2 rfl) ?_
          refine lv_iconst (v := 2) hx hb dX6_readWord_63 (by decide) ?_
          refine lv_iload_n hx hb dX6_readWord_64 rfl (lv_at hl 4 rfl) ?_
          have hPc := hP.sub (ws' := [(rd, .inr (6, rF r a0 a1 a2 a3 a4 a5 a6 a7))]) [0] rfl
          have hKc := hK.sub (tys' := []) [] rfl
          have hDc := hD.sub (ws' := [(rd, .inr (6, rF r a0 a1 a2 a3 a4 a5 a6 a7))]) [0] (by decide) rfl
          have hFc := va_free (wc := [(rd, .inr (6, rF r a0 a1 a2 a3 a4 a5 a6 a7))]) hD hS hA [0] rfl
          refine va_callv (va_runV (As := [.int 2, .int i1]) (rest := []) ⟨hx, hb, hml, hown, hts⟩ (s_fail l dC dI rd r a0 a1 a2 a3 a4 a5 a6 a7 H.size 2 i1) (cwV 2 hts mg_X6_readWordq_X6_fail_71 rfl rfl rfl (by decide +kernel) ⟨Nat.le_of_ble_eq_true rfl, Nat.le_of_ble_eq_true rfl⟩) ⟨fun a U g mk q => by obtain ⟨q0, q1, qP, qK, qD⟩ := q; exact ⟨q0, q1, qP, va_K.moved (u := U) (U := U.calling g mk a) (Vm.Alike.refl U.vm) qK, qD⟩, va_recv hKc hPc (ci := 6) (q0 := 0) rfl rfl, fun U hU hW => ⟨rfl, by rw [hU], by rw [hU]; exact hPc, va_K.moved hW.alike hKc, hDc.weaken (fun _ _ _ _ => trivial)⟩⟩ rfl rfl hl.1 rfl (lv_room (Nat.le_of_ble_eq_true rfl)) dX6_readWord_65 ⟨Nat.le_of_ble_eq_true rfl, Nat.le_of_ble_eq_true rfl⟩) hS (fun q _ h => hFc q h) hFc (fun u t H1 locs ht hvm hw hB hz1 hk1 hS => ?_)
          obtain ⟨hP1, hK1, hD1⟩ := hB
          rw [ht] at hP1
          obtain ⟨hP, hD⟩ := va_join (wr := [(ba, .inl (cb, kb, .inl fb))]) (w1 := [(rd, .inr (6, rF r 2 i1 a2 a3 a4 a5 a6 a7))]) hP hD [0] [1] rfl rfl (by decide) (by decide) hk1 hFc hP1 hD1
          generalize H1 = H at hP hS ⊢
          have hP : va_P (dC, dI) vwCl [(ba, .inl (cb, kb, .inl fb)), (rd, .inr (6, rF r 2 i1 a2 a3 a4 a5 a6 a7))] H := hP
          have hD : va_D A [(ba, .inl (cb, kb, .inl fb)), (rd, .inr (6, rF r 2 i1 a2 a3 a4 a5 a6 a7))] := hD
          refine lv_goto (tgt := 130) hx hb dX6_readWord_68 (by decide) ?_
          refine lv_iload hx hb dX6_readWord_130 (lv_at hl 1 rfl) ?_
          refine lv_iconst (v := 1) hx hb dX6_readWord_132 (by decide) ?_
          refine lv_isub hx hb dX6_readWord_133 ?_
          refine lv_topi (fun y_8 ey_8 => ?_)
          first | have ty_8 := i_sub (a := kk.toInt) (b := 1) rfl (by decide) ey_8 (by omega) (by omega) | skip
          have hP9 := hP.sub (ws' := [(rd, .inr (6, rF r 2 i1 a2 a3 a4 a5 a6 a7)), (ba, .inl (cb, kb, .inl fb))]) [1, 0] rfl
          have hD9 := hD.sub (ws' := [(rd, .inr (6, rF r 2 i1 a2 a3 a4 a5 a6 a7)), (ba, .inl (cb, kb, .inl fb))]) [1, 0] (by decide) rfl
          have hK9 := hK.sub (tys' := [(cb, .int)]) [0] rfl
          have lit_8 : (2 : Int32).toInt = 2 := by decide
          exact W.iret hx hb hr (fun t ht hW => ⟨⟨_, y_8, rfl, ⟨rfl, by omega⟩, 2, i1, a7, (Or.inl ⟨rfl, Or.inl rfl⟩), (rW_f (mv_wdf hs (show a7.toInt ≠ 0 by omega)) rfl (by decide)), by rw [ht]; exact hP9, va_K.moved hW.alike hK9, hD9⟩, hS.F ht⟩) hS.2.2 dX6_readWord_134
        · have tk_5 := c_eq (a := a7.toInt) (b := 0) rfl (by decide) k_5
          refine lv_iload hx hb dX6_readWord_45 (lv_at hl 0 rfl) ?_
          refine lv_if_ne (tgt := 71) hx hb dX6_readWord_47 (by decide) (fun k_10 => ?_) (fun k_10 => ?_)
          · have tk_10 := c_ne (a := r_4.toInt) (b := 0) rfl (by decide) k_10
            have hWdoc : wDoc (tc fb i2.toInt) i1.toInt kk.toInt := tx_doc.mp (iw_l hr_4 (by omega))
            refine lv_iload hx hb dX6_readWord_71 (lv_at hl 0 rfl) ?_
            refine lv_if_eq (tgt := 93) hx hb dX6_readWord_73 (by decide) (fun k_11 => absurd k_11 k_10) (fun k_11 => ?_)
            have tk_11 := c_ne (a := r_4.toInt) (b := 0) rfl (by decide) k_11
            refine lv_aload_n hx hb dX6_readWord_76 rfl (lv_at hl 2 rfl) ?_
            refine va_get (D := (dC, dI)) (ci := 6) (v := .int a5) (C := RX6) (T := TX6) (N := 11) hx hb hts fin_X6_readWordq_X6 hown hK hP 0 rfl rfl 8 (by decide) (hts (.fieldLink RX6 38 "PatternGate$Reader" "docsAhead" "I") (List.mem_of_getElem? (i := 8) (by decide +kernel))) (fun _ h9 => h9) rfl dX6_readWord_77 ?_
            refine lv_aload_n hx hb dX6_readWord_80 rfl (lv_at hl 2 rfl) ?_
            refine va_get (D := (dC, dI)) (ci := 6) (v := .int a3) (C := RX6) (T := TX6) (N := 11) hx hb hts fin_X6_readWordq_X6 hown hK hP 0 rfl rfl 3 (by decide) (hts (.fieldLink RX6 32 "PatternGate$Reader" "newDocs" "I") (List.mem_of_getElem? (i := 9) (by decide +kernel))) (fun _ h9 => h9) rfl dX6_readWord_81 ?_
            refine lv_iadd hx hb dX6_readWord_84 ?_
            refine lv_topi (fun y_12 ey_12 => ?_)
            first | have ty_12 := i_add (a := a5.toInt) (b := a3.toInt) rfl rfl ey_12 (by omega) (by omega) | skip
            refine lv_bipush (v := 10) hx hb dX6_readWord_85 (by decide) ?_
            refine lv_icmp_lt (tgt := 116) hx hb dX6_readWord_87 (by decide) (fun k_13 => ?_) (fun k_13 => ?_)
            · have tk_13 := c_lt (a := y_12.toInt) (b := 10) rfl (by decide) k_13
              refine lv_aload_n hx hb dX6_readWord_116 rfl (lv_at hl 2 rfl) ?_
              refine lv_iload hx hb dX6_readWord_117 (lv_at hl 0 rfl) ?_
              refine lv_if_eq (tgt := 126) hx hb dX6_readWord_119 (by decide) (fun k_14 => absurd k_14 k_10) (fun k_14 => ?_)
              have tk_14 := c_ne (a := r_4.toInt) (b := 0) rfl (by decide) k_14
              refine lv_iconst (v := 1) hx hb dX6_readWord_122 (by decide) ?_
              refine lv_goto (tgt := 127) hx hb dX6_readWord_123 (by decide) ?_
              refine va_put (D := (dC, dI)) (ci := 6) (v := .int 1) (ty := .int) (C := RX6) (T := TX6) (N := 11) hx hb hts fin_X6_readWordq_X6 tyX6 tyX6_ok nmX6 hown hK hP hD hS 0 rfl rfl 10 (by decide) (hts (.fieldLink RX6 44 "PatternGate$Reader" "wanted" "I") (List.mem_of_getElem? (i := 4) (by decide +kernel))) (fun _ h9 => h9) rfl (by decide +kernel) rfl rfl (Nat.le_of_ble_eq_true rfl) dX6_readWord_127 (fun H locs hP hD hS => ?_)
              have hP : va_P (dC, dI) vwCl [(rd, .inr (6, rF r a0 a1 a2 a3 a4 a5 a6 1)), (ba, .inl (cb, kb, .inl fb))] H := hP
              have hD : va_D A [(rd, .inr (6, rF r a0 a1 a2 a3 a4 a5 a6 1)), (ba, .inl (cb, kb, .inl fb))] := hD
              refine lv_iload hx hb dX6_readWord_130 (lv_at hl 1 rfl) ?_
              refine lv_iconst (v := 1) hx hb dX6_readWord_132 (by decide) ?_
              refine lv_isub hx hb dX6_readWord_133 ?_
              refine lv_topi (fun y_15 ey_15 => ?_)
              first | have ty_15 := i_sub (a := kk.toInt) (b := 1) rfl (by decide) ey_15 (by omega) (by omega) | skip
              have hP9 := hP.sub (ws' := [(rd, .inr (6, rF r a0 a1 a2 a3 a4 a5 a6 1)), (ba, .inl (cb, kb, .inl fb))]) [0, 1] rfl
              have hD9 := hD.sub (ws' := [(rd, .inr (6, rF r a0 a1 a2 a3 a4 a5 a6 1)), (ba, .inl (cb, kb, .inl fb))]) [0, 1] (by decide) rfl
              have hK9 := hK.sub (tys' := [(cb, .int)]) [0] rfl
              have lit_15 : (1 : Int32).toInt = 1 := by decide
              exact W.iret hx hb hr (fun t ht hW => ⟨⟨_, y_15, rfl, ⟨rfl, by omega⟩, a0, a1, 1, (Or.inr ⟨rfl, Or.inl ⟨rfl, by omega⟩⟩), (rW_o (a1 := 0) ((wd_all hWd).tr (mv_wdoc hEnd hWdoc (by omega))) (by omega) (by omega) (by decide) rfl rfl (by omega)), by rw [ht]; exact hP9, va_K.moved hW.alike hK9, hD9⟩, hS.F ht⟩) hS.2.2 dX6_readWord_134
            · have tk_13 := c_nlt (a := y_12.toInt) (b := 10) rfl (by decide) k_13
              refine lv_goto (tgt := 107) hx hb dX6_readWord_90 (by decide) ?_
              refine lv_aload_n hx hb dX6_readWord_107 rfl (lv_at hl 2 rfl) ?_
              refine lv_iconst (v := 3) hx hb dX6_readWord_108 (by decide) ?_
              refine lv_iload_n hx hb dX6_readWord_109 rfl (lv_at hl 4 rfl) ?_
              have hPc := hP.sub (ws' := [(rd, .inr (6, rF r a0 a1 a2 a3 a4 a5 a6 a7))]) [0] rfl
              have hKc := hK.sub (tys' := []) [] rfl
              have hDc := hD.sub (ws' := [(rd, .inr (6, rF r a0 a1 a2 a3 a4 a5 a6 a7))]) [0] (by decide) rfl
              have hFc := va_free (wc := [(rd, .inr (6, rF r a0 a1 a2 a3 a4 a5 a6 a7))]) hD hS hA [0] rfl
              refine va_callv (va_runV (As := [.int 3, .int i1]) (rest := []) ⟨hx, hb, hml, hown, hts⟩ (s_fail l dC dI rd r a0 a1 a2 a3 a4 a5 a6 a7 H.size 3 i1) (cwV 2 hts mg_X6_readWordq_X6_fail_71 rfl rfl rfl (by decide +kernel) ⟨Nat.le_of_ble_eq_true rfl, Nat.le_of_ble_eq_true rfl⟩) ⟨fun a U g mk q => by obtain ⟨q0, q1, qP, qK, qD⟩ := q; exact ⟨q0, q1, qP, va_K.moved (u := U) (U := U.calling g mk a) (Vm.Alike.refl U.vm) qK, qD⟩, va_recv hKc hPc (ci := 6) (q0 := 0) rfl rfl, fun U hU hW => ⟨rfl, by rw [hU], by rw [hU]; exact hPc, va_K.moved hW.alike hKc, hDc.weaken (fun _ _ _ _ => trivial)⟩⟩ rfl rfl hl.1 rfl (lv_room (Nat.le_of_ble_eq_true rfl)) dX6_readWord_110 ⟨Nat.le_of_ble_eq_true rfl, Nat.le_of_ble_eq_true rfl⟩) hS (fun q _ h => hFc q h) hFc (fun u t H1 locs ht hvm hw hB hz1 hk1 hS => ?_)
              obtain ⟨hP1, hK1, hD1⟩ := hB
              rw [ht] at hP1
              obtain ⟨hP, hD⟩ := va_join (wr := [(ba, .inl (cb, kb, .inl fb))]) (w1 := [(rd, .inr (6, rF r 3 i1 a2 a3 a4 a5 a6 a7))]) hP hD [0] [1] rfl rfl (by decide) (by decide) hk1 hFc hP1 hD1
              generalize H1 = H at hP hS ⊢
              have hP : va_P (dC, dI) vwCl [(ba, .inl (cb, kb, .inl fb)), (rd, .inr (6, rF r 3 i1 a2 a3 a4 a5 a6 a7))] H := hP
              have hD : va_D A [(ba, .inl (cb, kb, .inl fb)), (rd, .inr (6, rF r 3 i1 a2 a3 a4 a5 a6 a7))] := hD
              refine lv_goto (tgt := 130) hx hb dX6_readWord_113 (by decide) ?_
              refine lv_iload hx hb dX6_readWord_130 (lv_at hl 1 rfl) ?_
              refine lv_iconst (v := 1) hx hb dX6_readWord_132 (by decide) ?_
              refine lv_isub hx hb dX6_readWord_133 ?_
              refine lv_topi (fun y_19 ey_19 => ?_)
              first | have ty_19 := i_sub (a := kk.toInt) (b := 1) rfl (by decide) ey_19 (by omega) (by omega) | skip
              have hP9 := hP.sub (ws' := [(rd, .inr (6, rF r 3 i1 a2 a3 a4 a5 a6 a7)), (ba, .inl (cb, kb, .inl fb))]) [1, 0] rfl
              have hD9 := hD.sub (ws' := [(rd, .inr (6, rF r 3 i1 a2 a3 a4 a5 a6 a7)), (ba, .inl (cb, kb, .inl fb))]) [1, 0] (by decide) rfl
              have hK9 := hK.sub (tys' := [(cb, .int)]) [0] rfl
              have lit_19 : (3 : Int32).toInt = 3 := by decide
              exact W.iret hx hb hr (fun t ht hW => ⟨⟨_, y_19, rfl, ⟨rfl, by omega⟩, 3, i1, a7, (Or.inl ⟨rfl, Or.inr rfl⟩), (rW_f (a1 := 0) ((wd_all hWd).tr (mv_wbad hEnd (fun _ => by omega) (fun z9 => by have h8 := hWdoc.1; have h9 := z9.1; omega))) (by omega) (by decide)), by rw [ht]; exact hP9, va_K.moved hW.alike hK9, hD9⟩, hS.F ht⟩) hS.2.2 dX6_readWord_134
          · have tk_10 := c_eq (a := r_4.toInt) (b := 0) rfl (by decide) k_10
            have hnd : ¬ wDoc (tc fb i2.toInt) i1.toInt kk.toInt := fun z9 => iw_r hr_4 (by omega) (tx_doc.mpr z9)
            refine lv_aload_n hx hb dX6_readWord_50 rfl (lv_at hl 3 rfl) ?_
            refine lv_iload_n hx hb dX6_readWord_51 rfl (lv_at hl 4 rfl) ?_
            refine lv_iload hx hb dX6_readWord_52 (lv_at hl 1 rfl) ?_
            refine va_ldcS hx hb hown hR81 dX6_readWord_54 ?_
            have hPc := hP.sub (ws' := [(ba, .inl (cb, kb, .inl fb))]) [1] rfl
            have hKc := hK.sub (tys' := [(cb, .int)]) [0] rfl
            have hDc := hD.sub (ws' := [(ba, .inl (cb, kb, .inl fb))]) [1] (by decide) rfl
            have hFc := va_free (wc := [(ba, .inl (cb, kb, .inl fb))]) hD hS hA [1] rfl
            refine va_calli (va_runS (As := [.ref ba, .int i1, .int kk, .ref qp]) (rest := []) ⟨hx, hb, hml, hown, hts⟩ (s_isWord_q l dC dI ba kb qp 7 gPat cb fb H.size i1 kk i2.toInt (by omega) (by omega) (by omega) (by omega)) (va_cwS 4 hts mg_X6_readWordq_X6_isWord_77 rfl rfl rfl (by decide +kernel) ⟨Nat.le_of_ble_eq_true rfl, Nat.le_of_ble_eq_true rfl⟩) ⟨fun a U g mk q => by obtain ⟨q0, q1, qP, qK, qD, qE0, qE1⟩ := q; exact ⟨q0, q1, qP, va_K.moved (u := U) (U := U.calling g mk a) (Vm.Alike.refl U.vm) qK, qD, sY.moved (u := U) (U := U.calling g mk a) (Vm.Alike.refl U.vm) qE0, sC.moved (u := U) (U := U.calling g mk a) (Vm.Alike.refl U.vm) qE1⟩, fun U hU hW => ⟨rfl, by rw [hU], by rw [hU]; exact hPc, va_K.moved hW.alike hKc, hDc.weaken (fun _ _ _ _ => trivial), sY.to hXp hS hFc hW hU, sC.to hC9 hS hFc hW hU⟩⟩ rfl rfl hl.1 rfl (lv_room (Nat.le_of_ble_eq_true rfl)) dX6_readWord_56 ⟨Nat.le_of_ble_eq_true rfl, Nat.le_of_ble_eq_true rfl⟩) hS (fun q _ h => hFc q h) hFc (fun r_22 u t H1 locs ht hvm hw hB hz1 hk1 hS => ?_)
            obtain ⟨hP1, hK1, hD1⟩ := hB
            rw [ht] at hP1
            have hr_22 := hw
            have rg_r_22 := i_rng r_22
            obtain ⟨hP, hD⟩ := va_join (wr := [(rd, .inr (6, rF r a0 a1 a2 a3 a4 a5 a6 a7))]) (w1 := [(ba, .inl (cb, kb, .inl fb))]) hP hD [1] [0] rfl rfl (by decide) (by decide) hk1 hFc hP1 hD1
            generalize H1 = H at hP hS ⊢
            have hP : va_P (dC, dI) vwCl [(rd, .inr (6, rF r a0 a1 a2 a3 a4 a5 a6 a7)), (ba, .inl (cb, kb, .inl fb))] H := hP
            have hD : va_D A [(rd, .inr (6, rF r a0 a1 a2 a3 a4 a5 a6 a7)), (ba, .inl (cb, kb, .inl fb))] := hD
            refine lv_if_ne (tgt := 71) hx hb dX6_readWord_59 (by decide) (fun k_23 => ?_) (fun k_23 => ?_)
            · have tk_23 := c_ne (a := r_22.toInt) (b := 0) rfl (by decide) k_23
              have hWpat : wPat (tc fb i2.toInt) i1.toInt kk.toInt := tx_pat.mp (iw_l hr_22 (by omega))
              refine lv_iload hx hb dX6_readWord_71 (lv_at hl 0 rfl) ?_
              refine lv_if_eq (tgt := 93) hx hb dX6_readWord_73 (by decide) (fun k_24 => ?_) (fun k_24 => absurd k_10 k_24)
              have tk_24 := c_eq (a := r_4.toInt) (b := 0) rfl (by decide) k_24
              refine lv_aload_n hx hb dX6_readWord_93 rfl (lv_at hl 2 rfl) ?_
              refine va_get (D := (dC, dI)) (ci := 6) (v := .int a6) (C := RX6) (T := TX6) (N := 11) hx hb hts fin_X6_readWordq_X6 hown hK hP 0 rfl rfl 9 (by decide) (hts (.fieldLink RX6 41 "PatternGate$Reader" "patternsAhead" "I") (List.mem_of_getElem? (i := 10) (by decide +kernel))) (fun _ h9 => h9) rfl dX6_readWord_94 ?_
              refine lv_aload_n hx hb dX6_readWord_97 rfl (lv_at hl 2 rfl) ?_
              refine va_get (D := (dC, dI)) (ci := 6) (v := .int a4) (C := RX6) (T := TX6) (N := 11) hx hb hts fin_X6_readWordq_X6 hown hK hP 0 rfl rfl 4 (by decide) (hts (.fieldLink RX6 35 "PatternGate$Reader" "newPatterns" "I") (List.mem_of_getElem? (i := 11) (by decide +kernel))) (fun _ h9 => h9) rfl dX6_readWord_98 ?_
              refine lv_iadd hx hb dX6_readWord_101 ?_
              refine lv_topi (fun y_25 ey_25 => ?_)
              first | have ty_25 := i_add (a := a6.toInt) (b := a4.toInt) rfl rfl ey_25 (by omega) (by omega) | skip
              refine lv_bipush (v := 8) hx hb dX6_readWord_102 (by decide) ?_
              refine lv_icmp_lt (tgt := 116) hx hb dX6_readWord_104 (by decide) (fun k_26 => ?_) (fun k_26 => ?_)
              · have tk_26 := c_lt (a := y_25.toInt) (b := 8) rfl (by decide) k_26
                refine lv_aload_n hx hb dX6_readWord_116 rfl (lv_at hl 2 rfl) ?_
                refine lv_iload hx hb dX6_readWord_117 (lv_at hl 0 rfl) ?_
                refine lv_if_eq (tgt := 126) hx hb dX6_readWord_119 (by decide) (fun k_27 => ?_) (fun k_27 => absurd k_10 k_27)
                have tk_27 := c_eq (a := r_4.toInt) (b := 0) rfl (by decide) k_27
                refine lv_iconst (v := 2) hx hb dX6_readWord_126 (by decide) ?_
                refine va_put (D := (dC, dI)) (ci := 6) (v := .int 2) (ty := .int) (C := RX6) (T := TX6) (N := 11) hx hb hts fin_X6_readWordq_X6 tyX6 tyX6_ok nmX6 hown hK hP hD hS 0 rfl rfl 10 (by decide) (hts (.fieldLink RX6 44 "PatternGate$Reader" "wanted" "I") (List.mem_of_getElem? (i := 4) (by decide +kernel))) (fun _ h9 => h9) rfl (by decide +kernel) rfl rfl (Nat.le_of_ble_eq_true rfl) dX6_readWord_127 (fun H locs hP hD hS => ?_)
                have hP : va_P (dC, dI) vwCl [(rd, .inr (6, rF r a0 a1 a2 a3 a4 a5 a6 2)), (ba, .inl (cb, kb, .inl fb))] H := hP
                have hD : va_D A [(rd, .inr (6, rF r a0 a1 a2 a3 a4 a5 a6 2)), (ba, .inl (cb, kb, .inl fb))] := hD
                refine lv_iload hx hb dX6_readWord_130 (lv_at hl 1 rfl) ?_
                refine lv_iconst (v := 1) hx hb dX6_readWord_132 (by decide) ?_
                refine lv_isub hx hb dX6_readWord_133 ?_
                refine lv_topi (fun y_28 ey_28 => ?_)
                first | have ty_28 := i_sub (a := kk.toInt) (b := 1) rfl (by decide) ey_28 (by omega) (by omega) | skip
                have hP9 := hP.sub (ws' := [(rd, .inr (6, rF r a0 a1 a2 a3 a4 a5 a6 2)), (ba, .inl (cb, kb, .inl fb))]) [0, 1] rfl
                have hD9 := hD.sub (ws' := [(rd, .inr (6, rF r a0 a1 a2 a3 a4 a5 a6 2)), (ba, .inl (cb, kb, .inl fb))]) [0, 1] (by decide) rfl
                have hK9 := hK.sub (tys' := [(cb, .int)]) [0] rfl
                have lit_28 : (2 : Int32).toInt = 2 := by decide
                exact W.iret hx hb hr (fun t ht hW => ⟨⟨_, y_28, rfl, ⟨rfl, by omega⟩, a0, a1, 2, (Or.inr ⟨rfl, Or.inr ⟨rfl, by omega⟩⟩), (rW_o (a1 := 0) ((wd_all hWd).tr (mv_wpat hEnd hWpat (by omega))) (by omega) (by omega) (by decide) rfl rfl (by omega)), by rw [ht]; exact hP9, va_K.moved hW.alike hK9, hD9⟩, hS.F ht⟩) hS.2.2 dX6_readWord_134
              · have tk_26 := c_nlt (a := y_25.toInt) (b := 8) rfl (by decide) k_26
                refine lv_aload_n hx hb dX6_readWord_107 rfl (lv_at hl 2 rfl) ?_
                refine lv_iconst (v := 3) hx hb dX6_readWord_108 (by decide) ?_
                refine lv_iload_n hx hb dX6_readWord_109 rfl (lv_at hl 4 rfl) ?_
                have hPc := hP.sub (ws' := [(rd, .inr (6, rF r a0 a1 a2 a3 a4 a5 a6 a7))]) [0] rfl
                have hKc := hK.sub (tys' := []) [] rfl
                have hDc := hD.sub (ws' := [(rd, .inr (6, rF r a0 a1 a2 a3 a4 a5 a6 a7))]) [0] (by decide) rfl
                have hFc := va_free (wc := [(rd, .inr (6, rF r a0 a1 a2 a3 a4 a5 a6 a7))]) hD hS hA [0] rfl
                refine va_callv (va_runV (As := [.int 3, .int i1]) (rest := []) ⟨hx, hb, hml, hown, hts⟩ (s_fail l dC dI rd r a0 a1 a2 a3 a4 a5 a6 a7 H.size 3 i1) (cwV 2 hts mg_X6_readWordq_X6_fail_71 rfl rfl rfl (by decide +kernel) ⟨Nat.le_of_ble_eq_true rfl, Nat.le_of_ble_eq_true rfl⟩) ⟨fun a U g mk q => by obtain ⟨q0, q1, qP, qK, qD⟩ := q; exact ⟨q0, q1, qP, va_K.moved (u := U) (U := U.calling g mk a) (Vm.Alike.refl U.vm) qK, qD⟩, va_recv hKc hPc (ci := 6) (q0 := 0) rfl rfl, fun U hU hW => ⟨rfl, by rw [hU], by rw [hU]; exact hPc, va_K.moved hW.alike hKc, hDc.weaken (fun _ _ _ _ => trivial)⟩⟩ rfl rfl hl.1 rfl (lv_room (Nat.le_of_ble_eq_true rfl)) dX6_readWord_110 ⟨Nat.le_of_ble_eq_true rfl, Nat.le_of_ble_eq_true rfl⟩) hS (fun q _ h => hFc q h) hFc (fun u t H1 locs ht hvm hw hB hz1 hk1 hS => ?_)
                obtain ⟨hP1, hK1, hD1⟩ := hB
                rw [ht] at hP1
                obtain ⟨hP, hD⟩ := va_join (wr := [(ba, .inl (cb, kb, .inl fb))]) (w1 := [(rd, .inr (6, rF r 3 i1 a2 a3 a4 a5 a6 a7))]) hP hD [0] [1] rfl rfl (by decide) (by decide) hk1 hFc hP1 hD1
                generalize H1 = H at hP hS ⊢
                have hP : va_P (dC, dI) vwCl [(ba, .inl (cb, kb, .inl fb)), (rd, .inr (6, rF r 3 i1 a2 a3 a4 a5 a6 a7))] H := hP
                have hD : va_D A [(ba, .inl (cb, kb, .inl fb)), (rd, .inr (6, rF r 3 i1 a2 a3 a4 a5 a6 a7))] := hD
                refine lv_goto (tgt := 130) hx hb dX6_readWord_113 (by decide) ?_
                refine lv_iload hx hb dX6_readWord_130 (lv_at hl 1 rfl) ?_
                refine lv_iconst (v := 1) hx hb dX6_readWord_132 (by decide) ?_
                refine lv_isub hx hb dX6_readWord_133 ?_
                refine lv_topi (fun y_32 ey_32 => ?_)
                first | have ty_32 := i_sub (a := kk.toInt) (b := 1) rfl (by decide) ey_32 (by omega) (by omega) | skip
                have hP9 := hP.sub (ws' := [(rd, .inr (6, rF r 3 i1 a2 a3 a4 a5 a6 a7)), (ba, .inl (cb, kb, .inl fb))]) [1, 0] rfl
                have hD9 := hD.sub (ws' := [(rd, .inr (6, rF r 3 i1 a2 a3 a4 a5 a6 a7)), (ba, .inl (cb, kb, .inl fb))]) [1, 0] (by decide) rfl
                have hK9 := hK.sub (tys' := [(cb, .int)]) [0] rfl
                have lit_32 : (3 : Int32).toInt = 3 := by decide
                exact W.iret hx hb hr (fun t ht hW => ⟨⟨_, y_32, rfl, ⟨rfl, by omega⟩, 3, i1, a7, (Or.inl ⟨rfl, Or.inr rfl⟩), (rW_f (a1 := 0) ((wd_all hWd).tr (mv_wbad hEnd (fun z9 => by have h8 := hWpat.1; have h9 := z9.1; omega) (fun _ => by omega))) (by omega) (by decide)), by rw [ht]; exact hP9, va_K.moved hW.alike hK9, hD9⟩, hS.F ht⟩) hS.2.2 dX6_readWord_134
            · have tk_23 := c_eq (a := r_22.toInt) (b := 0) rfl (by decide) k_23
              have hnp : ¬ wPat (tc fb i2.toInt) i1.toInt kk.toInt := fun z9 => iw_r hr_22 (by omega) (tx_pat.mpr z9)
              refine lv_aload_n hx hb dX6_readWord_62 rfl (lv_at hl 2 rfl) ?_
              refine lv_iconst (v := 2) hx hb dX6_readWord_63 (by decide) ?_
              refine lv_iload_n hx hb dX6_readWord_64 rfl (lv_at hl 4 rfl) ?_
              have hPc := hP.sub (ws' := [(rd, .inr (6, rF r a0 a1 a2 a3 a4 a5 a6 a7))]) [0] rfl
              have hKc := hK.sub (tys' := []) [] rfl
              have hDc := hD.sub (ws' := [(rd, .inr (6, rF r a0 a1 a2 a3 a4 a5 a6 a7))]) [0] (by decide) rfl
              have hFc := va_free (wc := [(rd, .inr (6, rF r a0 a1 a2 a3 a4 a5 a6 a7))]) hD hS hA [0] rfl
              refine va_callv (va_runV (As := [.int 2, .int i1]) (rest := []) ⟨hx, hb, hml, hown, hts⟩ (s_fail l dC dI rd r a0 a1 a2 a3 a4 a5 a6 a7 H.size 2 i1) (cwV 2 hts mg_X6_readWordq_X6_fail_71 rfl rfl rfl (by decide +kernel) ⟨Nat.le_of_ble_eq_true rfl, Nat.le_of_ble_eq_true rfl⟩) ⟨fun a U g mk q => by obtain ⟨q0, q1, qP, qK, qD⟩ := q; exact ⟨q0, q1, qP, va_K.moved (u := U) (U := U.calling g mk a) (Vm.Alike.refl U.vm) qK, qD⟩, va_recv hKc hPc (ci := 6) (q0 := 0) rfl rfl, fun U hU hW => ⟨rfl, by rw [hU], by rw [hU]; exact hPc, va_K.moved hW.alike hKc, hDc.weaken (fun _ _ _ _ => trivial)⟩⟩ rfl rfl hl.1 rfl (lv_room (Nat.le_of_ble_eq_true rfl)) dX6_readWord_65 ⟨Nat.le_of_ble_eq_true rfl, Nat.le_of_ble_eq_true rfl⟩) hS (fun q _ h => hFc q h) hFc (fun u t H1 locs ht hvm hw hB hz1 hk1 hS => ?_)
              obtain ⟨hP1, hK1, hD1⟩ := hB
              rw [ht] at hP1
              obtain ⟨hP, hD⟩ := va_join (wr := [(ba, .inl (cb, kb, .inl fb))]) (w1 := [(rd, .inr (6, rF r 2 i1 a2 a3 a4 a5 a6 a7))]) hP hD [0] [1] rfl rfl (by decide) (by decide) hk1 hFc hP1 hD1
              generalize H1 = H at hP hS ⊢
              have hP : va_P (dC, dI) vwCl [(ba, .inl (cb, kb, .inl fb)), (rd, .inr (6, rF r 2 i1 a2 a3 a4 a5 a6 a7))] H := hP
              have hD : va_D A [(ba, .inl (cb, kb, .inl fb)), (rd, .inr (6, rF r 2 i1 a2 a3 a4 a5 a6 a7))] := hD
              refine lv_goto (tgt := 130) hx hb dX6_readWord_68 (by decide) ?_
              refine lv_iload hx hb dX6_readWord_130 (lv_at hl 1 rfl) ?_
              refine lv_iconst (v := 1) hx hb dX6_readWord_132 (by decide) ?_
              refine lv_isub hx hb dX6_readWord_133 ?_
              refine lv_topi (fun y_36 ey_36 => ?_)
              first | have ty_36 := i_sub (a := kk.toInt) (b := 1) rfl (by decide) ey_36 (by omega) (by omega) | skip
              have hP9 := hP.sub (ws' := [(rd, .inr (6, rF r 2 i1 a2 a3 a4 a5 a6 a7)), (ba, .inl (cb, kb, .inl fb))]) [1, 0] rfl
              have hD9 := hD.sub (ws' := [(rd, .inr (6, rF r 2 i1 a2 a3 a4 a5 a6 a7)), (ba, .inl (cb, kb, .inl fb))]) [1, 0] (by decide) rfl
              have hK9 := hK.sub (tys' := [(cb, .int)]) [0] rfl
              have lit_36 : (2 : Int32).toInt = 2 := by decide
              exact W.iret hx hb hr (fun t ht hW => ⟨⟨_, y_36, rfl, ⟨rfl, by omega⟩, 2, i1, a7, (Or.inl ⟨rfl, Or.inl rfl⟩), (rW_f (a1 := 0) ((wd_all hWd).tr (mv_wbad hEnd (fun z9 => absurd z9 hnd) (fun z9 => absurd z9 hnp))) (by omega) (by decide)), by rw [ht]; exact hP9, va_K.moved hW.alike hK9, hD9⟩, hS.F ht⟩) hS.2.2 dX6_readWord_134
      · have tk_2 := c_nge (a := kk.toInt) (b := i2.toInt) rfl rfl k_2
        refine lv_aload_n hx hb dX6_readWord_11 rfl (lv_at hl 2 rfl) ?_
        refine lv_iload hx hb dX6_readWord_12 (lv_at hl 0 rfl) ?_
        refine va_iald hx hb hK hP 1 0 rfl rfl (i := kk) (vp_of (a := kk.toInt) rfl (by omega) (by omega)) dX6_readWord_14 ?_
        refine lv_topi (fun y_38 ey_38 => ?_)
        have rg_y_38 := i_rng y_38
        have wy_38 := tc_ld (n := i2.toInt) ey_38 (by omega)
        have rg_y_38 := i_rng y_38
        have hPc := hP.sub (ws' := []) [] rfl
        have hKc := hK.sub (tys' := []) [] rfl
        have hDc := hD.sub (ws' := []) [] (by decide) rfl
        have hFc := va_free (wc := []) hD hS hA [] rfl
        refine va_calli (va_runSN (As := [.int y_38]) (rest := []) ⟨hx, hb, hml, hown, hts⟩ (s_isSmallW_q l dC dI H.size y_38) ⟨va_cnB 1 hts mg_X6_readWordq_X9_isSmall_53 rfl rfl rfl hN53 (hts (.initialized RX9) (List.mem_of_getElem? (i := 12) (by decide +kernel))) (by decide +kernel) ⟨Nat.le_of_ble_eq_true rfl, Nat.le_of_ble_eq_true rfl⟩, (hts (.static yX9_isSmall) (List.mem_of_getElem? (i := 13) (by decide +kernel))), trivial⟩ ⟨fun a U g mk q => by obtain ⟨q0, q1, qP, qK, qD⟩ := q; exact ⟨q0, q1, qP, va_K.moved (u := U) (U := U.calling g mk a) (Vm.Alike.refl U.vm) qK, qD⟩, fun U hU hW => ⟨rfl, by rw [hU], by rw [hU]; exact hPc, va_K.moved hW.alike hKc, hDc.weaken (fun _ _ _ _ => trivial)⟩⟩ rfl rfl hl.1 rfl (lv_room (Nat.le_of_ble_eq_true rfl)) dX6_readWord_15 ⟨Nat.le_of_ble_eq_true rfl, Nat.le_of_ble_eq_true rfl⟩) hS (fun q _ h => hFc q h) hFc (fun r_40 u t H1 locs ht hvm hw hB hz1 hk1 hS => ?_)
        have hr_40 := hw
        obtain ⟨hP, hD⟩ := va_join (wr := [(rd, .inr (6, rF r a0 a1 a2 a3 a4 a5 a6 a7)), (ba, .inl (cb, kb, .inl fb))]) (w1 := []) hP hD [] [0, 1] rfl rfl (by decide) (by decide) hk1 hFc (fun k q h => by simp at h) ⟨fun i j p q h => by simp at h, fun k q h => by simp at h⟩
        generalize H1 = H at hP hS ⊢
        have hP : va_P (dC, dI) vwCl [(rd, .inr (6, rF r a0 a1 a2 a3 a4 a5 a6 a7)), (ba, .inl (cb, kb, .inl fb))] H := hP
        have hD : va_D A [(rd, .inr (6, rF r a0 a1 a2 a3 a4 a5 a6 a7)), (ba, .inl (cb, kb, .inl fb))] := hD
        refine lv_if_eq (tgt := 27) hx hb dX6_readWord_18 (by decide) (fun k_41 => ?_) (fun k_41 => ?_)
        · have tk_41 := c_eq (a := r_40.toInt) (b := 0) rfl (by decide) k_41
          have hEnd : ¬ isSm ((tc fb i2.toInt) kk.toInt) := by unfold isSm; omega
          have hWd : isSm ((tc fb i2.toInt) i1.toInt) ∧ i1.toInt < kk.toInt ∧ (∀ j, i1.toInt ≤ j → j < kk.toInt → isSm ((tc fb i2.toInt) j)) ∧ ¬ isSm ((tc fb i2.toInt) kk.toInt) := ⟨hs, by omega, v5_1, hEnd⟩
          refine lv_aload_n hx hb dX6_readWord_27 rfl (lv_at hl 2 rfl) ?_
          refine lv_iload_n hx hb dX6_readWord_28 rfl (lv_at hl 3 rfl) ?_
          refine lv_iload hx hb dX6_readWord_29 (lv_at hl 0 rfl) ?_
          refine va_ldcS hx hb hown hR75 dX6_readWord_31 ?_
          have hPc := hP.sub (ws' := [(ba, .inl (cb, kb, .inl fb))]) [1] rfl
          have hKc := hK.sub (tys' := [(cb, .int)]) [0] rfl
          have hDc := hD.sub (ws' := [(ba, .inl (cb, kb, .inl fb))]) [1] (by decide) rfl
          have hFc := va_free (wc := [(ba, .inl (cb, kb, .inl fb))]) hD hS hA [1] rfl
          refine va_calli (va_runS (As := [.ref ba, .int i1, .int kk, .ref qd]) (rest := []) ⟨hx, hb, hml, hown, hts⟩ (s_isWord_q l dC dI ba kb qd 3 gDoc cb fb H.size i1 kk i2.toInt (by omega) (by omega) (by omega) (by omega)) (va_cwS 4 hts mg_X6_readWordq_X6_isWord_77 rfl rfl rfl (by decide +kernel) ⟨Nat.le_of_ble_eq_true rfl, Nat.le_of_ble_eq_true rfl⟩) ⟨fun a U g mk q => by obtain ⟨q0, q1, qP, qK, qD, qE0, qE1⟩ := q; exact ⟨q0, q1, qP, va_K.moved (u := U) (U := U.calling g mk a) (Vm.Alike.refl U.vm) qK, qD, sY.moved (u := U) (U := U.calling g mk a) (Vm.Alike.refl U.vm) qE0, sC.moved (u := U) (U := U.calling g mk a) (Vm.Alike.refl U.vm) qE1⟩, fun U hU hW => ⟨rfl, by rw [hU], by rw [hU]; exact hPc, va_K.moved hW.alike hKc, hDc.weaken (fun _ _ _ _ => trivial), sY.to hXd hS hFc hW hU, sC.to hC9 hS hFc hW hU⟩⟩ rfl rfl hl.1 rfl (lv_room (Nat.le_of_ble_eq_true rfl)) dX6_readWord_33 ⟨Nat.le_of_ble_eq_true rfl, Nat.le_of_ble_eq_true rfl⟩) hS (fun q _ h => hFc q h) hFc (fun r_43 u t H1 locs ht hvm hw hB hz1 hk1 hS => ?_)
          obtain ⟨hP1, hK1, hD1⟩ := hB
          rw [ht] at hP1
          have hr_43 := hw
          have rg_r_43 := i_rng r_43
          obtain ⟨hP, hD⟩ := va_join (wr := [(rd, .inr (6, rF r a0 a1 a2 a3 a4 a5 a6 a7))]) (w1 := [(ba, .inl (cb, kb, .inl fb))]) hP hD [1] [0] rfl rfl (by decide) (by decide) hk1 hFc hP1 hD1
          generalize H1 = H at hP hS ⊢
          have hP : va_P (dC, dI) vwCl [(rd, .inr (6, rF r a0 a1 a2 a3 a4 a5 a6 a7)), (ba, .inl (cb, kb, .inl fb))] H := hP
          have hD : va_D A [(rd, .inr (6, rF r a0 a1 a2 a3 a4 a5 a6 a7)), (ba, .inl (cb, kb, .inl fb))] := hD
          refine lv_istore (lv' := [(5, .int r_43), (4, .int kk), (0, .ref rd), (1, .ref ba), (2, .int i1), (3, .int i2)]) hx hb dX6_readWord_36 hl (by decide) rfl (fun ls hl => ?_)
          refine lv_aload_n hx hb dX6_readWord_38 rfl (lv_at hl 2 rfl) ?_
          refine va_get (D := (dC, dI)) (ci := 6) (v := .int a7) (C := RX6) (T := TX6) (N := 11) hx hb hts fin_X6_readWordq_X6 hown hK hP 0 rfl rfl 10 (by decide) (hts (.fieldLink RX6 44 "PatternGate$Reader" "wanted" "I") (List.mem_of_getElem? (i := 4) (by decide +kernel))) (fun _ h9 => h9) rfl dX6_readWord_39 ?_
          refine lv_if_ne (tgt := 62) hx hb dX6_readWord_42 (by decide) (fun k_44 => ?_) (fun k_44 => ?_)
          · have tk_44 := c_ne (a := a7.toInt) (b := 0) rfl (by decide) k_44
            refine lv_aload_n hx hb dX6_readWord_62 rfl (lv_at hl 2 rfl) ?_
            refine lv_iconst (v := 2) hx hb dX6_readWord_63 (by decide) ?_
            refine lv_iload_n hx hb dX6_readWord_64 rfl (lv_at hl 4 rfl) ?_
            have hPc := hP.sub (ws' := [(rd, .inr (6, rF r a0 a1 a2 a3 a4 a5 a6 a7))]) [0] rfl
            have hKc := hK.sub (tys' := []) [] rfl
            have hDc := hD.sub (ws' := [(rd, .inr (6, rF r a0 a1 a2 a3 a4 a5 a6 a7))]) [0] (by decide) rfl
            have hFc := va_free (wc := [(rd, .inr (6, rF r a0 a1 a2 a3 a4 a5 a6 a7))]) hD hS hA [0] rfl
            refine va_callv (va_runV (As := [.int 2, .int i1]) (rest := []) ⟨hx, hb, hml, hown, hts⟩ (s_fail l dC dI rd r a0 a1 a2 a3 a4 a5 a6 a7 H.size 2 i1) (cwV 2 hts mg_X6_readWordq_X6_fail_71 rfl rfl rfl (by decide +kernel) ⟨Nat.le_of_ble_eq_true rfl, Nat.le_of_ble_eq_true rfl⟩) ⟨fun a U g mk q => by obtain ⟨q0, q1, qP, qK, qD⟩ := q; exact ⟨q0, q1, qP, va_K.moved (u := U) (U := U.calling g mk a) (Vm.Alike.refl U.vm) qK, qD⟩, va_recv hKc hPc (ci := 6) (q0 := 0) rfl rfl, fun U hU hW => ⟨rfl, by rw [hU], by rw [hU]; exact hPc, va_K.moved hW.alike hKc, hDc.weaken (fun _ _ _ _ => trivial)⟩⟩ rfl rfl hl.1 rfl (lv_room (Nat.le_of_ble_eq_true rfl)) dX6_readWord_65 ⟨Nat.le_of_ble_eq_true rfl, Nat.le_of_ble_eq_true rfl⟩) hS (fun q _ h => hFc q h) hFc (fun u t H1 locs ht hvm hw hB hz1 hk1 hS => ?_)
            obtain ⟨hP1, hK1, hD1⟩ := hB
            rw [ht] at hP1
            obtain ⟨hP, hD⟩ := va_join (wr := [(ba, .inl (cb, kb, .inl fb))]) (w1 := [(rd, .inr (6, rF r 2 i1 a2 a3 a4 a5 a6 a7))]) hP hD [0] [1] rfl rfl (by decide) (by decide) hk1 hFc hP1 hD1
            generalize H1 = H at hP hS ⊢
            have hP : va_P (dC, dI) vwCl [(ba, .inl (cb, kb, .inl fb)), (rd, .inr (6, rF r 2 i1 a2 a3 a4 a5 a6 a7))] H := hP
            have hD : va_D A [(ba, .inl (cb, kb, .inl fb)), (rd, .inr (6, rF r 2 i1 a2 a3 a4 a5 a6 a7))] := hD
            refine lv_goto (tgt := 130) hx hb dX6_readWord_68 (by decide) ?_
            refine lv_iload hx hb dX6_readWord_130 (lv_at hl 1 rfl) ?_
            refine lv_iconst (v := 1) hx hb dX6_readWord_132 (by decide) ?_
            refine lv_isub hx hb dX6_readWord_133 ?_
            refine lv_topi (fun y_47 ey_47 => ?_)
            first | have ty_47 := i_sub (a := kk.toInt) (b := 1) rfl (by decide) ey_47 (by omega) (by omega) | skip
            have hP9 := hP.sub (ws' := [(rd, .inr (6, rF r 2 i1 a2 a3 a4 a5 a6 a7)), (ba, .inl (cb, kb, .inl fb))]) [1, 0] rfl
            have hD9 := hD.sub (ws' := [(rd, .inr (6, rF r 2 i1 a2 a3 a4 a5 a6 a7)), (ba, .inl (cb, kb, .inl fb))]) [1, 0] (by decide) rfl
            have hK9 := hK.sub (tys' := [(cb, .int)]) [0] rfl
            have lit_47 : (2 : Int32).toInt = 2 := by decide
            exact W.iret hx hb hr (fun t ht hW => ⟨⟨_, y_47, rfl, ⟨rfl, by omega⟩, 2, i1, a7, (Or.inl ⟨rfl, Or.inl rfl⟩), (rW_f (mv_wdf hs (show a7.toInt ≠ 0 by omega)) rfl (by decide)), by rw [ht]; exact hP9, va_K.moved hW.alike hK9, hD9⟩, hS.F ht⟩) hS.2.2 dX6_readWord_134
          · have tk_44 := c_eq (a := a7.toInt) (b := 0) rfl (by decide) k_44
            refine lv_iload hx hb dX6_readWord_45 (lv_at hl 0 rfl) ?_
            refine lv_if_ne (tgt := 71) hx hb dX6_readWord_47 (by decide) (fun k_49 => ?_) (fun k_49 => ?_)
            · have tk_49 := c_ne (a := r_43.toInt) (b := 0) rfl (by decide) k_49
              have hWdoc : wDoc (tc fb i2.toInt) i1.toInt kk.toInt := tx_doc.mp (iw_l hr_43 (by omega))
              refine lv_iload hx hb dX6_readWord_71 (lv_at hl 0 rfl) ?_
              refine lv_if_eq (tgt := 93) hx hb dX6_readWord_73 (by decide) (fun k_50 => absurd k_50 k_49) (fun k_50 => ?_)
              have tk_50 := c_ne (a := r_43.toInt) (b := 0) rfl (by decide) k_50
              refine lv_aload_n hx hb dX6_readWord_76 rfl (lv_at hl 2 rfl) ?_
              refine va_get (D := (dC, dI)) (ci := 6) (v := .int a5) (C := RX6) (T := TX6) (N := 11) hx hb hts fin_X6_readWordq_X6 hown hK hP 0 rfl rfl 8 (by decide) (hts (.fieldLink RX6 38 "PatternGate$Reader" "docsAhead" "I") (List.mem_of_getElem? (i := 8) (by decide +kernel))) (fun _ h9 => h9) rfl dX6_readWord_77 ?_
              refine lv_aload_n hx hb dX6_readWord_80 rfl (lv_at hl 2 rfl) ?_
              refine va_get (D := (dC, dI)) (ci := 6) (v := .int a3) (C := RX6) (T := TX6) (N := 11) hx hb hts fin_X6_readWordq_X6 hown hK hP 0 rfl rfl 3 (by decide) (hts (.fieldLink RX6 32 "PatternGate$Reader" "newDocs" "I") (List.mem_of_getElem? (i := 9) (by decide +kernel))) (fun _ h9 => h9) rfl dX6_readWord_81 ?_
              refine lv_iadd hx hb dX6_readWord_84 ?_
              refine lv_topi (fun y_51 ey_51 => ?_)
              first | have ty_51 := i_add (a := a5.toInt) (b := a3.toInt) rfl rfl ey_51 (by omega) (by omega) | skip
              refine lv_bipush (v := 10) hx hb dX6_readWord_85 (by decide) ?_
              refine lv_icmp_lt (tgt := 116) hx hb dX6_readWord_87 (by decide) (fun k_52 => ?_) (fun k_52 => ?_)
              · have tk_52 := c_lt (a := y_51.toInt) (b := 10) rfl (by decide) k_52
                refine lv_aload_n hx hb dX6_readWord_116 rfl (lv_at hl 2 rfl) ?_
                refine lv_iload hx hb dX6_readWord_117 (lv_at hl 0 rfl) ?_
                refine lv_if_eq (tgt := 126) hx hb dX6_readWord_119 (by decide) (fun k_53 => absurd k_53 k_49) (fun k_53 => ?_)
                have tk_53 := c_ne (a := r_43.toInt) (b := 0) rfl (by decide) k_53
                refine lv_iconst (v := 1) hx hb dX6_readWord_122 (by decide) ?_
                refine lv_goto (tgt := 127) hx hb dX6_readWord_123 (by decide) ?_
                refine va_put (D := (dC, dI)) (ci := 6) (v := .int 1) (ty := .int) (C := RX6) (T := TX6) (N := 11) hx hb hts fin_X6_readWordq_X6 tyX6 tyX6_ok nmX6 hown hK hP hD hS 0 rfl rfl 10 (by decide) (hts (.fieldLink RX6 44 "PatternGate$Reader" "wanted" "I") (List.mem_of_getElem? (i := 4) (by decide +kernel))) (fun _ h9 => h9) rfl (by decide +kernel) rfl rfl (Nat.le_of_ble_eq_true rfl) dX6_readWord_127 (fun H locs hP hD hS => ?_)
                have hP : va_P (dC, dI) vwCl [(rd, .inr (6, rF r a0 a1 a2 a3 a4 a5 a6 1)), (ba, .inl (cb, kb, .inl fb))] H := hP
                have hD : va_D A [(rd, .inr (6, rF r a0 a1 a2 a3 a4 a5 a6 1)), (ba, .inl (cb, kb, .inl fb))] := hD
                refine lv_iload hx hb dX6_readWord_130 (lv_at hl 1 rfl) ?_
                refine lv_iconst (v := 1) hx hb dX6_readWord_132 (by decide) ?_
                refine lv_isub hx hb dX6_readWord_133 ?_
                refine lv_topi (fun y_54 ey_54 => ?_)
                first | have ty_54 := i_sub (a := kk.toInt) (b := 1) rfl (by decide) ey_54 (by omega) (by omega) | skip
                have hP9 := hP.sub (ws' := [(rd, .inr (6, rF r a0 a1 a2 a3 a4 a5 a6 1)), (ba, .inl (cb, kb, .inl fb))]) [0, 1] rfl
                have hD9 := hD.sub (ws' := [(rd, .inr (6, rF r a0 a1 a2 a3 a4 a5 a6 1)), (ba, .inl (cb, kb, .inl fb))]) [0, 1] (by decide) rfl
                have hK9 := hK.sub (tys' := [(cb, .int)]) [0] rfl
                have lit_54 : (1 : Int32).toInt = 1 := by decide
                exact W.iret hx hb hr (fun t ht hW => ⟨⟨_, y_54, rfl, ⟨rfl, by omega⟩, a0, a1, 1, (Or.inr ⟨rfl, Or.inl ⟨rfl, by omega⟩⟩), (rW_o (a1 := 0) ((wd_all hWd).tr (mv_wdoc hEnd hWdoc (by omega))) (by omega) (by omega) (by decide) rfl rfl (by omega)), by rw [ht]; exact hP9, va_K.moved hW.alike hK9, hD9⟩, hS.F ht⟩) hS.2.2 dX6_readWord_134
              · have tk_52 := c_nlt (a := y_51.toInt) (b := 10) rfl (by decide) k_52
                refine lv_goto (tgt := 107) hx hb dX6_readWord_90 (by decide) ?_
                refine lv_aload_n hx hb dX6_readWord_107 rfl (lv_at hl 2 rfl) ?_
                refine lv_iconst (v := 3) hx hb dX6_readWord_108 (by decide) ?_
                refine lv_iload_n hx hb dX6_readWord_109 rfl (lv_at hl 4 rfl) ?_
                have hPc := hP.sub (ws' := [(rd, .inr (6, rF r a0 a1 a2 a3 a4 a5 a6 a7))]) [0] rfl
                have hKc := hK.sub (tys' := []) [] rfl
                have hDc := hD.sub (ws' := [(rd, .inr (6, rF r a0 a1 a2 a3 a4 a5 a6 a7))]) [0] (by decide) rfl
                have hFc := va_free (wc := [(rd, .inr (6, rF r a0 a1 a2 a3 a4 a5 a6 a7))]) hD hS hA [0] rfl
                refine va_callv (va_runV (As := [.int 3, .int i1]) (rest := []) ⟨hx, hb, hml, hown, hts⟩ (s_fail l dC dI rd r a0 a1 a2 a3 a4 a5 a6 a7 H.size 3 i1) (cwV 2 hts mg_X6_readWordq_X6_fail_71 rfl rfl rfl (by decide +kernel) ⟨Nat.le_of_ble_eq_true rfl, Nat.le_of_ble_eq_true rfl⟩) ⟨fun a U g mk q => by obtain ⟨q0, q1, qP, qK, qD⟩ := q; exact ⟨q0, q1, qP, va_K.moved (u := U) (U := U.calling g mk a) (Vm.Alike.refl U.vm) qK, qD⟩, va_recv hKc hPc (ci := 6) (q0 := 0) rfl rfl, fun U hU hW => ⟨rfl, by rw [hU], by rw [hU]; exact hPc, va_K.moved hW.alike hKc, hDc.weaken (fun _ _ _ _ => trivial)⟩⟩ rfl rfl hl.1 rfl (lv_room (Nat.le_of_ble_eq_true rfl)) dX6_readWord_110 ⟨Nat.le_of_ble_eq_true rfl, Nat.le_of_ble_eq_true rfl⟩) hS (fun q _ h => hFc q h) hFc (fun u t H1 locs ht hvm hw hB hz1 hk1 hS => ?_)
                obtain ⟨hP1, hK1, hD1⟩ := hB
                rw [ht] at hP1
                obtain ⟨hP, hD⟩ := va_join (wr := [(ba, .inl (cb, kb, .inl fb))]) (w1 := [(rd, .inr (6, rF r 3 i1 a2 a3 a4 a5 a6 a7))]) hP hD [0] [1] rfl rfl (by decide) (by decide) hk1 hFc hP1 hD1
                generalize H1 = H at hP hS ⊢
                have hP : va_P (dC, dI) vwCl [(ba, .inl (cb, kb, .inl fb)), (rd, .inr (6, rF r 3 i1 a2 a3 a4 a5 a6 a7))] H := hP
                have hD : va_D A [(ba, .inl (cb, kb, .inl fb)), (rd, .inr (6, rF r 3 i1 a2 a3 a4 a5 a6 a7))] := hD
                refine lv_goto (tgt := 130) hx hb dX6_readWord_113 (by decide) ?_
                refine lv_iload hx hb dX6_readWord_130 (lv_at hl 1 rfl) ?_
                refine lv_iconst (v := 1) hx hb dX6_readWord_132 (by decide) ?_
                refine lv_isub hx hb dX6_readWord_133 ?_
                refine lv_topi (fun y_58 ey_58 => ?_)
                first | have ty_58 := i_sub (a := kk.toInt) (b := 1) rfl (by decide) ey_58 (by omega) (by omega) | skip
                have hP9 := hP.sub (ws' := [(rd, .inr (6, rF r 3 i1 a2 a3 a4 a5 a6 a7)), (ba, .inl (cb, kb, .inl fb))]) [1, 0] rfl
                have hD9 := hD.sub (ws' := [(rd, .inr (6, rF r 3 i1 a2 a3 a4 a5 a6 a7)), (ba, .inl (cb, kb, .inl fb))]) [1, 0] (by decide) rfl
                have hK9 := hK.sub (tys' := [(cb, .int)]) [0] rfl
                have lit_58 : (3 : Int32).toInt = 3 := by decide
                exact W.iret hx hb hr (fun t ht hW => ⟨⟨_, y_58, rfl, ⟨rfl, by omega⟩, 3, i1, a7, (Or.inl ⟨rfl, Or.inr rfl⟩), (rW_f (a1 := 0) ((wd_all hWd).tr (mv_wbad hEnd (fun _ => by omega) (fun z9 => by have h8 := hWdoc.1; have h9 := z9.1; omega))) (by omega) (by decide)), by rw [ht]; exact hP9, va_K.moved hW.alike hK9, hD9⟩, hS.F ht⟩) hS.2.2 dX6_readWord_134
            · have tk_49 := c_eq (a := r_43.toInt) (b := 0) rfl (by decide) k_49
              have hnd : ¬ wDoc (tc fb i2.toInt) i1.toInt kk.toInt := fun z9 => iw_r hr_43 (by omega) (tx_doc.mpr z9)
              refine lv_aload_n hx hb dX6_readWord_50 rfl (lv_at hl 3 rfl) ?_
              refine lv_iload_n hx hb dX6_readWord_51 rfl (lv_at hl 4 rfl) ?_
              refine lv_iload hx hb dX6_readWord_52 (lv_at hl 1 rfl) ?_
              refine va_ldcS hx hb hown hR81 dX6_readWord_54 ?_
              have hPc := hP.sub (ws' := [(ba, .inl (cb, kb, .inl fb))]) [1] rfl
              have hKc := hK.sub (tys' := [(cb, .int)]) [0] rfl
              have hDc := hD.sub (ws' := [(ba, .inl (cb, kb, .inl fb))]) [1] (by decide) rfl
              have hFc := va_free (wc := [(ba, .inl (cb, kb, .inl fb))]) hD hS hA [1] rfl
              refine va_calli (va_runS (As := [.ref ba, .int i1, .int kk, .ref qp]) (rest := []) ⟨hx, hb, hml, hown, hts⟩ (s_isWord_q l dC dI ba kb qp 7 gPat cb fb H.size i1 kk i2.toInt (by omega) (by omega) (by omega) (by omega)) (va_cwS 4 hts mg_X6_readWordq_X6_isWord_77 rfl rfl rfl (by decide +kernel) ⟨Nat.le_of_ble_eq_true rfl, Nat.le_of_ble_eq_true rfl⟩) ⟨fun a U g mk q => by obtain ⟨q0, q1, qP, qK, qD, qE0, qE1⟩ := q; exact ⟨q0, q1, qP, va_K.moved (u := U) (U := U.calling g mk a) (Vm.Alike.refl U.vm) qK, qD, sY.moved (u := U) (U := U.calling g mk a) (Vm.Alike.refl U.vm) qE0, sC.moved (u := U) (U := U.calling g mk a) (Vm.Alike.refl U.vm) qE1⟩, fun U hU hW => ⟨rfl, by rw [hU], by rw [hU]; exact hPc, va_K.moved hW.alike hKc, hDc.weaken (fun _ _ _ _ => trivial), sY.to hXp hS hFc hW hU, sC.to hC9 hS hFc hW hU⟩⟩ rfl rfl hl.1 rfl (lv_room (Nat.le_of_ble_eq_true rfl)) dX6_readWord_56 ⟨Nat.le_of_ble_eq_true rfl, Nat.le_of_ble_eq_true rfl⟩) hS (fun q _ h => hFc q h) hFc (fun r_61 u t H1 locs ht hvm hw hB hz1 hk1 hS => ?_)
              obtain ⟨hP1, hK1, hD1⟩ := hB
              rw [ht] at hP1
              have hr_61 := hw
              have rg_r_61 := i_rng r_61
              obtain ⟨hP, hD⟩ := va_join (wr := [(rd, .inr (6, rF r a0 a1 a2 a3 a4 a5 a6 a7))]) (w1 := [(ba, .inl (cb, kb, .inl fb))]) hP hD [1] [0] rfl rfl (by decide) (by decide) hk1 hFc hP1 hD1
              generalize H1 = H at hP hS ⊢
              have hP : va_P (dC, dI) vwCl [(rd, .inr (6, rF r a0 a1 a2 a3 a4 a5 a6 a7)), (ba, .inl (cb, kb, .inl fb))] H := hP
              have hD : va_D A [(rd, .inr (6, rF r a0 a1 a2 a3 a4 a5 a6 a7)), (ba, .inl (cb, kb, .inl fb))] := hD
              refine lv_if_ne (tgt := 71) hx hb dX6_readWord_59 (by decide) (fun k_62 => ?_) (fun k_62 => ?_)
              · have tk_62 := c_ne (a := r_61.toInt) (b := 0) rfl (by decide) k_62
                have hWpat : wPat (tc fb i2.toInt) i1.toInt kk.toInt := tx_pat.mp (iw_l hr_61 (by omega))
                refine lv_iload hx hb dX6_readWord_71 (lv_at hl 0 rfl) ?_
                refine lv_if_eq (tgt := 93) hx hb dX6_readWord_73 (by decide) (fun k_63 => ?_) (fun k_63 => absurd k_49 k_63)
                have tk_63 := c_eq (a := r_43.toInt) (b := 0) rfl (by decide) k_63
                refine lv_aload_n hx hb dX6_readWord_93 rfl (lv_at hl 2 rfl) ?_
                refine va_get (D := (dC, dI)) (ci := 6) (v := .int a6) (C := RX6) (T := TX6) (N := 11) hx hb hts fin_X6_readWordq_X6 hown hK hP 0 rfl rfl 9 (by decide) (hts (.fieldLink RX6 41 "PatternGate$Reader" "patternsAhead" "I") (List.mem_of_getElem? (i := 10) (by decide +kernel))) (fun _ h9 => h9) rfl dX6_readWord_94 ?_
                refine lv_aload_n hx hb dX6_readWord_97 rfl (lv_at hl 2 rfl) ?_
                refine va_get (D := (dC, dI)) (ci := 6) (v := .int a4) (C := RX6) (T := TX6) (N := 11) hx hb hts fin_X6_readWordq_X6 hown hK hP 0 rfl rfl 4 (by decide) (hts (.fieldLink RX6 35 "PatternGate$Reader" "newPatterns" "I") (List.mem_of_getElem? (i := 11) (by decide +kernel))) (fun _ h9 => h9) rfl dX6_readWord_98 ?_
                refine lv_iadd hx hb dX6_readWord_101 ?_
                refine lv_topi (fun y_64 ey_64 => ?_)
                first | have ty_64 := i_add (a := a6.toInt) (b := a4.toInt) rfl rfl ey_64 (by omega) (by omega) | skip
                refine lv_bipush (v := 8) hx hb dX6_readWord_102 (by decide) ?_
                refine lv_icmp_lt (tgt := 116) hx hb dX6_readWord_104 (by decide) (fun k_65 => ?_) (fun k_65 => ?_)
                · have tk_65 := c_lt (a := y_64.toInt) (b := 8) rfl (by decide) k_65
                  refine lv_aload_n hx hb dX6_readWord_116 rfl (lv_at hl 2 rfl) ?_
                  refine lv_iload hx hb dX6_readWord_117 (lv_at hl 0 rfl) ?_
                  refine lv_if_eq (tgt := 126) hx hb dX6_readWord_119 (by decide) (fun k_66 => ?_) (fun k_66 => absurd k_49 k_66)
                  have tk_66 := c_eq (a := r_43.toInt) (b := 0) rfl (by decide) k_66
                  refine lv_iconst (v := 2) hx hb dX6_readWord_126 (by decide) ?_
                  refine va_put (D := (dC, dI)) (ci := 6) (v := .int 2) (ty := .int) (C := RX6) (T := TX6) (N := 11) hx hb hts fin_X6_readWordq_X6 tyX6 tyX6_ok nmX6 hown hK hP hD hS 0 rfl rfl 10 (by decide) (hts (.fieldLink RX6 44 "PatternGate$Reader" "wanted" "I") (List.mem_of_getElem? (i := 4) (by decide +kernel))) (fun _ h9 => h9) rfl (by decide +kernel) rfl rfl (Nat.le_of_ble_eq_true rfl) dX6_readWord_127 (fun H locs hP hD hS => ?_)
                  have hP : va_P (dC, dI) vwCl [(rd, .inr (6, rF r a0 a1 a2 a3 a4 a5 a6 2)), (ba, .inl (cb, kb, .inl fb))] H := hP
                  have hD : va_D A [(rd, .inr (6, rF r a0 a1 a2 a3 a4 a5 a6 2)), (ba, .inl (cb, kb, .inl fb))] := hD
                  refine lv_iload hx hb dX6_readWord_130 (lv_at hl 1 rfl) ?_
                  refine lv_iconst (v := 1) hx hb dX6_readWord_132 (by decide) ?_
                  refine lv_isub hx hb dX6_readWord_133 ?_
                  refine lv_topi (fun y_67 ey_67 => ?_)
                  first | have ty_67 := i_sub (a := kk.toInt) (b := 1) rfl (by decide) ey_67 (by omega) (by omega) | skip
                  have hP9 := hP.sub (ws' := [(rd, .inr (6, rF r a0 a1 a2 a3 a4 a5 a6 2)), (ba, .inl (cb, kb, .inl fb))]) [0, 1] rfl
                  have hD9 := hD.sub (ws' := [(rd, .inr (6, rF r a0 a1 a2 a3 a4 a5 a6 2)), (ba, .inl (cb, kb, .inl fb))]) [0, 1] (by decide) rfl
                  have hK9 := hK.sub (tys' := [(cb, .int)]) [0] rfl
                  have lit_67 : (2 : Int32).toInt = 2 := by decide
                  exact W.iret hx hb hr (fun t ht hW => ⟨⟨_, y_67, rfl, ⟨rfl, by omega⟩, a0, a1, 2, (Or.inr ⟨rfl, Or.inr ⟨rfl, by omega⟩⟩), (rW_o (a1 := 0) ((wd_all hWd).tr (mv_wpat hEnd hWpat (by omega))) (by omega) (by omega) (by decide) rfl rfl (by omega)), by rw [ht]; exact hP9, va_K.moved hW.alike hK9, hD9⟩, hS.F ht⟩) hS.2.2 dX6_readWord_134
                · have tk_65 := c_nlt (a := y_64.toInt) (b := 8) rfl (by decide) k_65
                  refine lv_aload_n hx hb dX6_readWord_107 rfl (lv_at hl 2 rfl) ?_
                  refine lv_iconst (v := 3) hx hb dX6_readWord_108 (by decide) ?_
                  refine lv_iload_n hx hb dX6_readWord_109 rfl (lv_at hl 4 rfl) ?_
                  have hPc := hP.sub (ws' := [(rd, .inr (6, rF r a0 a1 a2 a3 a4 a5 a6 a7))]) [0] rfl
                  have hKc := hK.sub (tys' := []) [] rfl
                  have hDc := hD.sub (ws' := [(rd, .inr (6, rF r a0 a1 a2 a3 a4 a5 a6 a7))]) [0] (by decide) rfl
                  have hFc := va_free (wc := [(rd, .inr (6, rF r a0 a1 a2 a3 a4 a5 a6 a7))]) hD hS hA [0] rfl
                  refine va_callv (va_runV (As := [.int 3, .int i1]) (rest := []) ⟨hx, hb, hml, hown, hts⟩ (s_fail l dC dI rd r a0 a1 a2 a3 a4 a5 a6 a7 H.size 3 i1) (cwV 2 hts mg_X6_readWordq_X6_fail_71 rfl rfl rfl (by decide +kernel) ⟨Nat.le_of_ble_eq_true rfl, Nat.le_of_ble_eq_true rfl⟩) ⟨fun a U g mk q => by obtain ⟨q0, q1, qP, qK, qD⟩ := q; exact ⟨q0, q1, qP, va_K.moved (u := U) (U := U.calling g mk a) (Vm.Alike.refl U.vm) qK, qD⟩, va_recv hKc hPc (ci := 6) (q0 := 0) rfl rfl, fun U hU hW => ⟨rfl, by rw [hU], by rw [hU]; exact hPc, va_K.moved hW.alike hKc, hDc.weaken (fun _ _ _ _ => trivial)⟩⟩ rfl rfl hl.1 rfl (lv_room (Nat.le_of_ble_eq_true rfl)) dX6_readWord_110 ⟨Nat.le_of_ble_eq_true rfl, Nat.le_of_ble_eq_true rfl⟩) hS (fun q _ h => hFc q h) hFc (fun u t H1 locs ht hvm hw hB hz1 hk1 hS => ?_)
                  obtain ⟨hP1, hK1, hD1⟩ := hB
                  rw [ht] at hP1
                  obtain ⟨hP, hD⟩ := va_join (wr := [(ba, .inl (cb, kb, .inl fb))]) (w1 := [(rd, .inr (6, rF r 3 i1 a2 a3 a4 a5 a6 a7))]) hP hD [0] [1] rfl rfl (by decide) (by decide) hk1 hFc hP1 hD1
                  generalize H1 = H at hP hS ⊢
                  have hP : va_P (dC, dI) vwCl [(ba, .inl (cb, kb, .inl fb)), (rd, .inr (6, rF r 3 i1 a2 a3 a4 a5 a6 a7))] H := hP
                  have hD : va_D A [(ba, .inl (cb, kb, .inl fb)), (rd, .inr (6, rF r 3 i1 a2 a3 a4 a5 a6 a7))] := hD
                  refine lv_goto (tgt := 130) hx hb dX6_readWord_113 (by decide) ?_
                  refine lv_iload hx hb dX6_readWord_130 (lv_at hl 1 rfl) ?_
                  refine lv_iconst (v := 1) hx hb dX6_readWord_132 (by decide) ?_
                  refine lv_isub hx hb dX6_readWord_133 ?_
                  refine lv_topi (fun y_71 ey_71 => ?_)
                  first | have ty_71 := i_sub (a := kk.toInt) (b := 1) rfl (by decide) ey_71 (by omega) (by omega) | skip
                  have hP9 := hP.sub (ws' := [(rd, .inr (6, rF r 3 i1 a2 a3 a4 a5 a6 a7)), (ba, .inl (cb, kb, .inl fb))]) [1, 0] rfl
                  have hD9 := hD.sub (ws' := [(rd, .inr (6, rF r 3 i1 a2 a3 a4 a5 a6 a7)), (ba, .inl (cb, kb, .inl fb))]) [1, 0] (by decide) rfl
                  have hK9 := hK.sub (tys' := [(cb, .int)]) [0] rfl
                  have lit_71 : (3 : Int32).toInt = 3 := by decide
                  exact W.iret hx hb hr (fun t ht hW => ⟨⟨_, y_71, rfl, ⟨rfl, by omega⟩, 3, i1, a7, (Or.inl ⟨rfl, Or.inr rfl⟩), (rW_f (a1 := 0) ((wd_all hWd).tr (mv_wbad hEnd (fun z9 => by have h8 := hWpat.1; have h9 := z9.1; omega) (fun _ => by omega))) (by omega) (by decide)), by rw [ht]; exact hP9, va_K.moved hW.alike hK9, hD9⟩, hS.F ht⟩) hS.2.2 dX6_readWord_134
              · have tk_62 := c_eq (a := r_61.toInt) (b := 0) rfl (by decide) k_62
                have hnp : ¬ wPat (tc fb i2.toInt) i1.toInt kk.toInt := fun z9 => iw_r hr_61 (by omega) (tx_pat.mpr z9)
                refine lv_aload_n hx hb dX6_readWord_62 rfl (lv_at hl 2 rfl) ?_
                refine lv_iconst (v := 2) hx hb dX6_readWord_63 (by decide) ?_
                refine lv_iload_n hx hb dX6_readWord_64 rfl (lv_at hl 4 rfl) ?_
                have hPc := hP.sub (ws' := [(rd, .inr (6, rF r a0 a1 a2 a3 a4 a5 a6 a7))]) [0] rfl
                have hKc := hK.sub (tys' := []) [] rfl
                have hDc := hD.sub (ws' := [(rd, .inr (6, rF r a0 a1 a2 a3 a4 a5 a6 a7))]) [0] (by decide) rfl
                have hFc := va_free (wc := [(rd, .inr (6, rF r a0 a1 a2 a3 a4 a5 a6 a7))]) hD hS hA [0] rfl
                refine va_callv (va_runV (As := [.int 2, .int i1]) (rest := []) ⟨hx, hb, hml, hown, hts⟩ (s_fail l dC dI rd r a0 a1 a2 a3 a4 a5 a6 a7 H.size 2 i1) (cwV 2 hts mg_X6_readWordq_X6_fail_71 rfl rfl rfl (by decide +kernel) ⟨Nat.le_of_ble_eq_true rfl, Nat.le_of_ble_eq_true rfl⟩) ⟨fun a U g mk q => by obtain ⟨q0, q1, qP, qK, qD⟩ := q; exact ⟨q0, q1, qP, va_K.moved (u := U) (U := U.calling g mk a) (Vm.Alike.refl U.vm) qK, qD⟩, va_recv hKc hPc (ci := 6) (q0 := 0) rfl rfl, fun U hU hW => ⟨rfl, by rw [hU], by rw [hU]; exact hPc, va_K.moved hW.alike hKc, hDc.weaken (fun _ _ _ _ => trivial)⟩⟩ rfl rfl hl.1 rfl (lv_room (Nat.le_of_ble_eq_true rfl)) dX6_readWord_65 ⟨Nat.le_of_ble_eq_true rfl, Nat.le_of_ble_eq_true rfl⟩) hS (fun q _ h => hFc q h) hFc (fun u t H1 locs ht hvm hw hB hz1 hk1 hS => ?_)
                obtain ⟨hP1, hK1, hD1⟩ := hB
                rw [ht] at hP1
                obtain ⟨hP, hD⟩ := va_join (wr := [(ba, .inl (cb, kb, .inl fb))]) (w1 := [(rd, .inr (6, rF r 2 i1 a2 a3 a4 a5 a6 a7))]) hP hD [0] [1] rfl rfl (by decide) (by decide) hk1 hFc hP1 hD1
                generalize H1 = H at hP hS ⊢
                have hP : va_P (dC, dI) vwCl [(ba, .inl (cb, kb, .inl fb)), (rd, .inr (6, rF r 2 i1 a2 a3 a4 a5 a6 a7))] H := hP
                have hD : va_D A [(ba, .inl (cb, kb, .inl fb)), (rd, .inr (6, rF r 2 i1 a2 a3 a4 a5 a6 a7))] := hD
                refine lv_goto (tgt := 130) hx hb dX6_readWord_68 (by decide) ?_
                refine lv_iload hx hb dX6_readWord_130 (lv_at hl 1 rfl) ?_
                refine lv_iconst (v := 1) hx hb dX6_readWord_132 (by decide) ?_
                refine lv_isub hx hb dX6_readWord_133 ?_
                refine lv_topi (fun y_75 ey_75 => ?_)
                first | have ty_75 := i_sub (a := kk.toInt) (b := 1) rfl (by decide) ey_75 (by omega) (by omega) | skip
                have hP9 := hP.sub (ws' := [(rd, .inr (6, rF r 2 i1 a2 a3 a4 a5 a6 a7)), (ba, .inl (cb, kb, .inl fb))]) [1, 0] rfl
                have hD9 := hD.sub (ws' := [(rd, .inr (6, rF r 2 i1 a2 a3 a4 a5 a6 a7)), (ba, .inl (cb, kb, .inl fb))]) [1, 0] (by decide) rfl
                have hK9 := hK.sub (tys' := [(cb, .int)]) [0] rfl
                have lit_75 : (2 : Int32).toInt = 2 := by decide
                exact W.iret hx hb hr (fun t ht hW => ⟨⟨_, y_75, rfl, ⟨rfl, by omega⟩, 2, i1, a7, (Or.inl ⟨rfl, Or.inl rfl⟩), (rW_f (a1 := 0) ((wd_all hWd).tr (mv_wbad hEnd (fun z9 => absurd z9 hnd) (fun z9 => absurd z9 hnp))) (by omega) (by decide)), by rw [ht]; exact hP9, va_K.moved hW.alike hK9, hD9⟩, hS.F ht⟩) hS.2.2 dX6_readWord_134
        · have tk_41 := c_ne (a := r_40.toInt) (b := 0) rfl (by decide) k_41
          obtain ⟨y_77, ey_77⟩ : ∃ y : Int32, y = kk + 1 := ⟨_, rfl⟩
          first | have ty_77 := i_add (a := kk.toInt) (b := 1) rfl (by decide) ey_77 (by omega) (by omega) | skip
          refine lv_iinc (v := y_77) (lv' := [(4, .int y_77), (0, .ref rd), (1, .ref ba), (2, .int i1), (3, .int i2)]) hx hb dX6_readWord_21 hl (k := 0) rfl (by rw [ey_77]; rfl) (by decide) rfl (fun ls hl => ?_)
          refine lv_goto (tgt := 5) hx hb dX6_readWord_24 (by decide) ?_
          exact ih5 y_77 (by first | omega | assumption | decide) (by rw [show y_77.toInt = kk.toInt + 1 by omega]; exact sm_step v5_1 (by unfold isSm; omega)) (by omega) _ _ ls hP hD hS (lv_sub hl [0, 1, 2, 3, 4] rfl)
  exact loop5 _ y_1 (by first | omega | assumption | decide) (fun j a b => by rw [show j = i1.toInt by omega]; exact hs) (Nat.lt_succ_self _) _ _ ls hP hD hS (lv_sub hl [0, 1, 2, 3, 4] rfl)
def mwX6_readSemicolonq : List Cond := .code yX6_readSemicolon cX6_readSemicolon 2 none :: (([.fieldLink RX6 44 "PatternGate$Reader" "wanted" "I", .methodLink RX6 71 yX6_fail, .instanceMethod yX6_fail, .selects RX6 yX6_fail yX6_fail, .initialized RX6] : List Cond) ++ (wsX60 ++ (mwX6_fail)))
theorem fin_X6_readSemicolonq_X6 : ∀ w ∈ wsX60, w ∈ mwX6_readSemicolonq := fun w h => List.mem_cons_of_mem _ (List.mem_append_right _ (List.mem_append_left _ h))
set_option maxRecDepth 20000 in
theorem mg_X6_readSemicolonq_X6_fail_71 : GoodIn mwX6_readSemicolonq (wsV RX6 71 RX6 yX6_fail mwX6_fail) := gi_app (A := [.methodLink RX6 71 yX6_fail, .instanceMethod yX6_fail, .selects RX6 yX6_fail yX6_fail, .initialized RX6]) (goodIn_r _ [2, 3, 4, 5] (by decide +kernel) (by decide +kernel)) (gi_sub gd_mwX6_fail (fun w h => List.mem_cons_of_mem _ (List.mem_append_right _ (List.mem_append_right _ (h)))))
set_option maxHeartbeats 4000000 in
set_option maxRecDepth 100000 in
/-- Reader.readSemicolon: which -/
theorem s_readSemicolon_q (l : Launch) (dC : Nat → ClassId) (dI : Nat → Nat → Nat) (rd : Nat) (r : Nat → Nat) (a0 a1 a2 a3 a4 a5 a6 a7 : Int32) (sz : Nat) (i9 : Int32) : Met l yX6_readSemicolon mwX6_readSemicolonq ({ frames := 1, cells := 0, slots := 0, locals := 60 }) (va_Pc [.ref rd, .int i9] (fun U => U.heap.size = sz ∧ va_P (dC, dI) vwCl ([(rd, .inr (6, rF r a0 a1 a2 a3 a4 a5 a6 a7))]) U.heap ∧ va_K (dC, dI) vwCl ([]) U ∧ va_D (fun _ => True) ([(rd, .inr (6, rF r a0 a1 a2 a3 a4 a5 a6 a7))]))) (va_Qv (fun (_ : Unit) => True) (fun _ t => ∃ y0 y1 : Int32, (a7.toInt = 3 ∧ y0 = a0 ∨ a7.toInt ≠ 3 ∧ y0 = 2) ∧ va_P (dC, dI) vwCl [(rd, .inr (6, rF r y0 y1 a2 a3 a4 a5 a6 0))] t.heap ∧ va_K (dC, dI) vwCl [] t ∧ va_D (va_A ([(rd, .inr (6, rF r a0 a1 a2 a3 a4 a5 a6 a7))]) sz) [(rd, .inr (6, rF r y0 y1 a2 a3 a4 a5 a6 0))]) (va_A ([(rd, .inr (6, rF r a0 a1 a2 a3 a4 a5 a6 a7))]) sz)) 0 0 (va_A ([(rd, .inr (6, rF r a0 a1 a2 a3 a4 a5 a6 a7))]) sz) := by
  refine Met.ofW (cc := cX6_readSemicolon) (maxL := 2) (ret := none) (by decide +kernel) rfl ?_
  intro p e s m args below meth c s₁ B hml hv
  obtain ⟨rfl, hsz, hP, hK, hD0⟩ := hv
  have hx := B.exec
  have hb := B.bytes
  have hr := B.returns
  have hts := atoms_spec (ws := mwX6_readSemicolonq) B.pre
  have hown : s.vm.findClass RX6 = some m.cls := findClass_of_methodNamed B.named
  have hlocks := B.notSynchronized
  subst hsz
  have hD := hD0.self (sz := s.heap.size)
  generalize hAe : va_A ([(rd, .inr (6, rF r a0 a1 a2 a3 a4 a5 a6 a7))]) s.heap.size = A at hD ⊢
  have hA : ∀ q : Nat, s.heap.size ≤ q → A q := fun q h => by rw [← hAe]; exact Or.inr h
  have hP : va_P (dC, dI) vwCl [(rd, .inr (6, rF r a0 a1 a2 a3 a4 a5 a6 a7))] s.heap := hP
  have hD : va_D A [(rd, .inr (6, rF r a0 a1 a2 a3 a4 a5 a6 a7))] := hD
  have hK : va_K (dC, dI) vwCl [] s := hK
  generalize hH : s.heap = H at hP ⊢
  have hS : va_S A s.heap H [] := by rw [← hH]; exact va_S.rf
  have hl := lv_entry ([.ref rd, .int i9]) (n := 2) (Nat.le_of_ble_eq_true rfl)
  rw [lg_entry_eq]
  generalize (lg_sl ([.ref rd, .int i9]) ++ List.replicate (2 - (lg_sl ([.ref rd, .int i9])).length) Slot.unset).toArray = ls at hl ⊢
  have hl : lv_has ls 2 [(0, .ref rd), (1, .int i9)] := hl
  have rg_i9 := i_rng i9
  refine lv_aload_n hx hb dX6_readSemicolon_0 rfl (lv_at hl 0 rfl) ?_
  refine va_get (D := (dC, dI)) (ci := 6) (v := .int a7) (C := RX6) (T := TX6) (N := 11) hx hb hts fin_X6_readSemicolonq_X6 hown hK hP 0 rfl rfl 10 (by decide) (hts (.fieldLink RX6 44 "PatternGate$Reader" "wanted" "I") (List.mem_of_getElem? (i := 1) (by decide +kernel))) (fun _ h9 => h9) rfl dX6_readSemicolon_1 ?_
  refine lv_iconst (v := 3) hx hb dX6_readSemicolon_4 (by decide) ?_
  refine lv_icmp_eq (tgt := 14) hx hb dX6_readSemicolon_5 (by decide) (fun k_1 => ?_) (fun k_1 => ?_)
  · have tk_1 := c_eq (a := a7.toInt) (b := 3) rfl (by decide) k_1
    refine lv_aload_n hx hb dX6_readSemicolon_14 rfl (lv_at hl 0 rfl) ?_
    refine lv_iconst (v := 0) hx hb dX6_readSemicolon_15 (by decide) ?_
    refine va_put (D := (dC, dI)) (ci := 6) (v := .int 0) (ty := .int) (C := RX6) (T := TX6) (N := 11) hx hb hts fin_X6_readSemicolonq_X6 tyX6 tyX6_ok nmX6 hown hK hP hD hS 0 rfl rfl 10 (by decide) (hts (.fieldLink RX6 44 "PatternGate$Reader" "wanted" "I") (List.mem_of_getElem? (i := 1) (by decide +kernel))) (fun _ h9 => h9) rfl (by decide +kernel) rfl rfl (Nat.le_of_ble_eq_true rfl) dX6_readSemicolon_16 (fun H locs hP hD hS => ?_)
    have hP : va_P (dC, dI) vwCl [(rd, .inr (6, rF r a0 a1 a2 a3 a4 a5 a6 0))] H := hP
    have hD : va_D A [(rd, .inr (6, rF r a0 a1 a2 a3 a4 a5 a6 0))] := hD
    have hP9 := hP.sub (ws' := [(rd, .inr (6, rF r a0 a1 a2 a3 a4 a5 a6 0))]) [0] rfl
    have hD9 := hD.sub (ws' := [(rd, .inr (6, rF r a0 a1 a2 a3 a4 a5 a6 0))]) [0] (by decide) rfl
    have hK9 := hK.sub (tys' := []) [] rfl
    exact W.vret hx hb hr (fun t ht hW => ⟨⟨(), rfl, trivial, a0, a1, (Or.inl ⟨by omega, rfl⟩), by rw [ht]; exact hP9, va_K.moved hW.alike hK9, hD9⟩, hS.F ht⟩) hS.2.2 dX6_readSemicolon_19
  · have tk_1 := c_ne (a := a7.toInt) (b := 3) rfl (by decide) k_1
    refine lv_aload_n hx hb dX6_readSemicolon_8 rfl (lv_at hl 0 rfl) ?_
    refine lv_iconst (v := 2) hx hb dX6_readSemicolon_9 (by decide) ?_
    refine lv_iload_n hx hb dX6_readSemicolon_10 rfl (lv_at hl 1 rfl) ?_
    have hPc := hP.sub (ws' := [(rd, .inr (6, rF r a0 a1 a2 a3 a4 a5 a6 a7))]) [0] rfl
    have hKc := hK.sub (tys' := []) [] rfl
    have hDc := hD.sub (ws' := [(rd, .inr (6, rF r a0 a1 a2 a3 a4 a5 a6 a7))]) [0] (by decide) rfl
    have hFc := va_free (wc := [(rd, .inr (6, rF r a0 a1 a2 a3 a4 a5 a6 a7))]) hD hS hA [0] rfl
    refine va_callv (va_runV (As := [.int 2, .int i9]) (rest := []) ⟨hx, hb, hml, hown, hts⟩ (s_fail l dC dI rd r a0 a1 a2 a3 a4 a5 a6 a7 H.size 2 i9) (cwV 2 hts mg_X6_readSemicolonq_X6_fail_71 rfl rfl rfl (by decide +kernel) ⟨Nat.le_of_ble_eq_true rfl, Nat.le_of_ble_eq_true rfl⟩) ⟨fun a U g mk q => by obtain ⟨q0, q1, qP, qK, qD⟩ := q; exact ⟨q0, q1, qP, va_K.moved (u := U) (U := U.calling g mk a) (Vm.Alike.refl U.vm) qK, qD⟩, va_recv hKc hPc (ci := 6) (q0 := 0) rfl rfl, fun U hU hW => ⟨rfl, by rw [hU], by rw [hU]; exact hPc, va_K.moved hW.alike hKc, hDc.weaken (fun _ _ _ _ => trivial)⟩⟩ rfl rfl hl.1 rfl (lv_room (Nat.le_of_ble_eq_true rfl)) dX6_readSemicolon_11 ⟨Nat.le_of_ble_eq_true rfl, Nat.le_of_ble_eq_true rfl⟩) hS (fun q _ h => hFc q h) hFc (fun u t H1 locs ht hvm hw hB hz1 hk1 hS => ?_)
    obtain ⟨hP1, hK1, hD1⟩ := hB
    rw [ht] at hP1
    obtain ⟨hP, hD⟩ := va_join (wr := []) (w1 := [(rd, .inr (6, rF r 2 i9 a2 a3 a4 a5 a6 a7))]) hP hD [0] [] rfl rfl (by decide) (by decide) hk1 hFc hP1 hD1
    generalize H1 = H at hP hS ⊢
    have hP : va_P (dC, dI) vwCl [(rd, .inr (6, rF r 2 i9 a2 a3 a4 a5 a6 a7))] H := hP
    have hD : va_D A [(rd, .inr (6, rF r 2 i9 a2 a3 a4 a5 a6 a7))] := hD
    refine lv_aload_n hx hb dX6_readSemicolon_14 rfl (lv_at hl 0 rfl) ?_
    refine lv_iconst (v := 0) hx hb dX6_readSemicolon_15 (by decide) ?_
    refine va_put (D := (dC, dI)) (ci := 6) (v := .int 0) (ty := .int) (C := RX6) (T := TX6) (N := 11) hx hb hts fin_X6_readSemicolonq_X6 tyX6 tyX6_ok nmX6 hown hK hP hD hS 0 rfl rfl 10 (by decide) (hts (.fieldLink RX6 44 "PatternGate$Reader" "wanted" "I") (List.mem_of_getElem? (i := 1) (by decide +kernel))) (fun _ h9 => h9) rfl (by decide +kernel) rfl rfl (Nat.le_of_ble_eq_true rfl) dX6_readSemicolon_16 (fun H locs hP hD hS => ?_)
    have hP : va_P (dC, dI) vwCl [(rd, .inr (6, rF r 2 i9 a2 a3 a4 a5 a6 0))] H := hP
    have hD : va_D A [(rd, .inr (6, rF r 2 i9 a2 a3 a4 a5 a6 0))] := hD
    have hP9 := hP.sub (ws' := [(rd, .inr (6, rF r 2 i9 a2 a3 a4 a5 a6 0))]) [0] rfl
    have hD9 := hD.sub (ws' := [(rd, .inr (6, rF r 2 i9 a2 a3 a4 a5 a6 0))]) [0] (by decide) rfl
    have hK9 := hK.sub (tys' := []) [] rfl
    exact W.vret hx hb hr (fun t ht hW => ⟨⟨(), rfl, trivial, 2, i9, (Or.inr ⟨by omega, rfl⟩), by rw [ht]; exact hP9, va_K.moved hW.alike hK9, hD9⟩, hS.F ht⟩) hS.2.2 dX6_readSemicolon_19

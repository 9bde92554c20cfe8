theorem qA_sub {A B : Nat → Prop} {q : Nat} (h : ¬ A q) (hF : ∀ x, B x → A x) : ¬ B q := fun hb => h (hF q hb)
theorem dX9_fittingPatterns_0 : decode cX9_fittingPatterns 0 = .ok (.iconst 0, 1) := by decide +kernel
theorem dX9_fittingPatterns_1 : decode cX9_fittingPatterns 1 = .ok (.istore_n 2, 1) := by decide +kernel
theorem dX9_fittingPatterns_2 : decode cX9_fittingPatterns 2 = .ok (.iconst 0, 1) := by decide +kernel
theorem dX9_fittingPatterns_3 : decode cX9_fittingPatterns 3 = .ok (.istore_n 3, 1) := by decide +kernel
theorem dX9_fittingPatterns_4 : decode cX9_fittingPatterns 4 = .ok (.iload_n 3, 1) := by decide +kernel
theorem dX9_fittingPatterns_5 : decode cX9_fittingPatterns 5 = .ok (.aload_n 0, 1) := by decide +kernel
theorem dX9_fittingPatterns_6 : decode cX9_fittingPatterns 6 = .ok (.getfield 29, 3) := by decide +kernel
theorem dX9_fittingPatterns_9 : decode cX9_fittingPatterns 9 = .ok (.getfield 103, 3) := by decide +kernel
theorem dX9_fittingPatterns_12 : decode cX9_fittingPatterns 12 = .ok (.arraylength, 1) := by decide +kernel
theorem dX9_fittingPatterns_13 : decode cX9_fittingPatterns 13 = .ok (.if_icmp .ge 39, 3) := by decide +kernel
theorem dX9_fittingPatterns_16 : decode cX9_fittingPatterns 16 = .ok (.aload_n 0, 1) := by decide +kernel
theorem dX9_fittingPatterns_17 : decode cX9_fittingPatterns 17 = .ok (.getfield 29, 3) := by decide +kernel
theorem dX9_fittingPatterns_20 : decode cX9_fittingPatterns 20 = .ok (.iload_n 3, 1) := by decide +kernel
theorem dX9_fittingPatterns_21 : decode cX9_fittingPatterns 21 = .ok (.invokevirtual 140, 3) := by decide +kernel
theorem dX9_fittingPatterns_24 : decode cX9_fittingPatterns 24 = .ok (.astore 4, 2) := by decide +kernel
theorem dX9_fittingPatterns_26 : decode cX9_fittingPatterns 26 = .ok (.aload 4, 2) := by decide +kernel
theorem dX9_fittingPatterns_28 : decode cX9_fittingPatterns 28 = .ok (.ifnull 18, 3) := by decide +kernel
theorem dX9_fittingPatterns_31 : decode cX9_fittingPatterns 31 = .ok (.aload 4, 2) := by decide +kernel
theorem dX9_fittingPatterns_33 : decode cX9_fittingPatterns 33 = .ok (.aload_n 1, 1) := by decide +kernel
theorem dX9_fittingPatterns_34 : decode cX9_fittingPatterns 34 = .ok (.invokevirtual 328, 3) := by decide +kernel
theorem dX9_fittingPatterns_37 : decode cX9_fittingPatterns 37 = .ok (.ifCond .eq 9, 3) := by decide +kernel
theorem dX9_fittingPatterns_40 : decode cX9_fittingPatterns 40 = .ok (.iload_n 2, 1) := by decide +kernel
theorem dX9_fittingPatterns_41 : decode cX9_fittingPatterns 41 = .ok (.iconst 1, 1) := by decide +kernel
theorem dX9_fittingPatterns_42 : decode cX9_fittingPatterns 42 = .ok (.iload_n 3, 1) := by decide +kernel
theorem dX9_fittingPatterns_43 : decode cX9_fittingPatterns 43 = .ok (.ishl, 1) := by decide +kernel
theorem dX9_fittingPatterns_44 : decode cX9_fittingPatterns 44 = .ok (.ior, 1) := by decide +kernel
theorem dX9_fittingPatterns_45 : decode cX9_fittingPatterns 45 = .ok (.istore_n 2, 1) := by decide +kernel
theorem dX9_fittingPatterns_46 : decode cX9_fittingPatterns 46 = .ok (.iinc 3 1, 3) := by decide +kernel
theorem dX9_fittingPatterns_49 : decode cX9_fittingPatterns 49 = .ok (.goto (-45), 3) := by decide +kernel
theorem dX9_fittingPatterns_52 : decode cX9_fittingPatterns 52 = .ok (.iload_n 2, 1) := by decide +kernel
theorem dX9_fittingPatterns_53 : decode cX9_fittingPatterns 53 = .ok (.ireturn, 1) := by decide +kernel
def mwX9_fittingPatterns : List Cond := .code yX9_fittingPatterns cX9_fittingPatterns 5 (some .int) :: (([.fieldLink RX9 29 "PatternGate" "book" "LPatternGate$Book;", .fieldLink RX9 103 "PatternGate$Book" "patterns" "[LPatternGate$Pattern;", .methodLink RX9 140 yX0_patternAt, .instanceMethod yX0_patternAt, .selects RX0 yX0_patternAt yX0_patternAt, .initialized RX0, .methodLink RX9 328 yX5_fits, .instanceMethod yX5_fits, .selects RX5 yX5_fits yX5_fits, .initialized RX5] : List Cond) ++ (wsX90 ++ (wsX00 ++ (mwX0_patternAt2 ++ (mwX5_fits)))))
theorem fin_X9_fittingPatterns_X0 : ∀ w ∈ wsX00, w ∈ mwX9_fittingPatterns := fun w h => List.mem_cons_of_mem _ (List.mem_append_right _ (List.mem_append_right _ (List.mem_append_left _ h)))
theorem fin_X9_fittingPatterns_X9 : ∀ w ∈ wsX90, w ∈ mwX9_fittingPatterns := fun w h => List.mem_cons_of_mem _ (List.mem_append_right _ (List.mem_append_left _ h))
set_option maxRecDepth 100000 in
theorem gd_mwX5_fits : mwX5_fits.all goodWord = true := by decide +kernel
set_option maxRecDepth 20000 in
theorem mg_X9_fittingPatterns_X0_patternAt_140 : GoodIn mwX9_fittingPatterns (wsV RX9 140 RX0 yX0_patternAt mwX0_patternAt2) := gi_app (A := [.methodLink RX9 140 yX0_patternAt, .instanceMethod yX0_patternAt, .selects RX0 yX0_patternAt yX0_patternAt, .initialized RX0]) (goodIn_r _ [3, 4, 5, 6] (by decide +kernel) (by decide +kernel)) (gi_sub gd_mwX0_patternAt2 (fun w h => List.mem_cons_of_mem _ (List.mem_append_right _ (List.mem_append_right _ (List.mem_append_right _ (List.mem_append_left _ h))))))
set_option maxRecDepth 20000 in
theorem mg_X9_fittingPatterns_X5_fits_328 : GoodIn mwX9_fittingPatterns (wsV RX9 328 RX5 yX5_fits mwX5_fits) := gi_app (A := [.methodLink RX9 328 yX5_fits, .instanceMethod yX5_fits, .selects RX5 yX5_fits yX5_fits, .initialized RX5]) (goodIn_r _ [7, 8, 9, 10] (by decide +kernel) (by decide +kernel)) (gi_sub gd_mwX5_fits (fun w h => List.mem_cons_of_mem _ (List.mem_append_right _ (List.mem_append_right _ (List.mem_append_right _ (List.mem_append_right _ (h)))))))
set_option maxHeartbeats 4000000 in
set_option maxRecDepth 100000 in
/-- gate: fittingPatterns -/
theorem s_g_fittingPatterns (l : Launch) (dC : Nat → ClassId) (dI : Nat → Nat → Nat) (W9 : va_W) (T9 : List (ClassId × FieldType)) (B9 : Nat → Prop) (gt tp bk mb mu rd cm wk pp so ty : Nat) (st9 td fk fpl un mk : Int32) (d : Nat) (sz : Nat) (hB9 : gB W9 T9 B9) (hbk : B9 bk) (hDc : poD W9 T9 d) : Met l yX9_fittingPatterns mwX9_fittingPatterns ({ frames := 2, cells := 0, slots := 0, locals := 120 }) (va_Pc [.ref gt, .ref d] (fun U => U.heap.size = sz ∧ va_P (dC, dI) vwCl ([(gt, .inr (9, [.int st9, .ref tp, .int td, .int fk, .int fpl, .ref bk, .int un, .ref mb, .ref mu, .int mk, .ref rd, .ref cm, .ref wk, .ref pp, .ref so, .ref ty]))]) U.heap ∧ va_K (dC, dI) vwCl ([]) U ∧ va_D (fun _ => True) ([(gt, .inr (9, [.int st9, .ref tp, .int td, .int fk, .int fpl, .ref bk, .int un, .ref mb, .ref mu, .int mk, .ref rd, .ref cm, .ref wk, .ref pp, .ref so, .ref ty]))]) ∧ va_P (dC, dI) vwCl W9 U.heap ∧ va_K (dC, dI) vwCl T9 U ∧ (∀ q ∈ W9, ¬ va_A ([(gt, .inr (9, [.int st9, .ref tp, .int td, .int fk, .int fpl, .ref bk, .int un, .ref mb, .ref mu, .int mk, .ref rd, .ref cm, .ref wk, .ref pp, .ref so, .ref ty]))]) sz q.1))) (va_Qi (fun (_ : Int32) (_ : Unit) => True) (fun _ t => va_P (dC, dI) vwCl [(gt, .inr (9, [.int st9, .ref tp, .int td, .int fk, .int fpl, .ref bk, .int un, .ref mb, .ref mu, .int mk, .ref rd, .ref cm, .ref wk, .ref pp, .ref so, .ref ty]))] t.heap ∧ va_K (dC, dI) vwCl [] t ∧ va_D (va_A ([(gt, .inr (9, [.int st9, .ref tp, .int td, .int fk, .int fpl, .ref bk, .int un, .ref mb, .ref mu, .int mk, .ref rd, .ref cm, .ref wk, .ref pp, .ref so, .ref ty]))]) sz) [(gt, .inr (9, [.int st9, .ref tp, .int td, .int fk, .int fpl, .ref bk, .int un, .ref mb, .ref mu, .int mk, .ref rd, .ref cm, .ref wk, .ref pp, .ref so, .ref ty]))]) (va_A ([(gt, .inr (9, [.int st9, .ref tp, .int td, .int fk, .int fpl, .ref bk, .int un, .ref mb, .ref mu, .int mk, .ref rd, .ref cm, .ref wk, .ref pp, .ref so, .ref ty]))]) sz)) 0 0 (va_A ([(gt, .inr (9, [.int st9, .ref tp, .int td, .int fk, .int fpl, .ref bk, .int un, .ref mb, .ref mu, .int mk, .ref rd, .ref cm, .ref wk, .ref pp, .ref so, .ref ty]))]) sz) := by
  refine Met.ofW (cc := cX9_fittingPatterns) (maxL := 5) (ret := (some .int)) (by decide +kernel) rfl ?_
  intro p e s m args below meth c s₁ B hml hv
  obtain ⟨rfl, hsz, hP, hK, hD0, hQ0, hKQ, hQA⟩ := hv
  have hx := B.exec
  have hb := B.bytes
  have hr := B.returns
  have hts := atoms_spec (ws := mwX9_fittingPatterns) B.pre
  have hown : s.vm.findClass RX9 = some m.cls := findClass_of_methodNamed B.named
  have hlocks := B.notSynchronized
  subst hsz
  have hD := hD0.self (sz := s.heap.size)
  generalize hAe : va_A ([(gt, .inr (9, [.int st9, .ref tp, .int td, .int fk, .int fpl, .ref bk, .int un, .ref mb, .ref mu, .int mk, .ref rd, .ref cm, .ref wk, .ref pp, .ref so, .ref ty]))]) s.heap.size = A at hD hQA ⊢
  have hA : ∀ q : Nat, s.heap.size ≤ q → A q := fun q h => by rw [← hAe]; exact Or.inr h
  have hP : va_P (dC, dI) vwCl [(gt, .inr (9, [.int st9, .ref tp, .int td, .int fk, .int fpl, .ref bk, .int un, .ref mb, .ref mu, .int mk, .ref rd, .ref cm, .ref wk, .ref pp, .ref so, .ref ty]))] s.heap := hP
  have hD : va_D A [(gt, .inr (9, [.int st9, .ref tp, .int td, .int fk, .int fpl, .ref bk, .int un, .ref mb, .ref mu, .int mk, .ref rd, .ref cm, .ref wk, .ref pp, .ref so, .ref ty]))] := hD
  have hK : va_K (dC, dI) vwCl [] s := hK
  generalize hH : s.heap = H at hP ⊢
  have hS : va_S A s.heap H [] := by rw [← hH]; exact va_S.rf
  have hQ := q_at hQ0 hQA hS
  have hl := lv_entry ([.ref gt, .ref d]) (n := 5) (Nat.le_of_ble_eq_true rfl)
  rw [lg_entry_eq]
  generalize (lg_sl ([.ref gt, .ref d]) ++ List.replicate (5 - (lg_sl ([.ref gt, .ref d])).length) Slot.unset).toArray = ls at hl ⊢
  have hl : lv_has ls 5 [(0, .ref gt), (1, .ref d)] := hl
  obtain ⟨ear, hB3, hear⟩ := hB9 bk hbk
  have hB0 := hB3.poB
  obtain ⟨ds, ps, nd, np, fd, fp, cD, cP, m1, m2, m3, m4, m5, hnd, hnp, hds, hps⟩ := id hB3
  obtain ⟨k_1, hk_1⟩ := List.getElem?_of_mem m1
  obtain ⟨k_2, hk_2⟩ := List.getElem?_of_mem m2
  obtain ⟨j_3, hj_3⟩ := List.getElem?_of_mem m3
  obtain ⟨k_4, hk_4⟩ := List.getElem?_of_mem m4
  obtain ⟨j_5, hj_5⟩ := List.getElem?_of_mem m5
  have r_un := i_rng un
  have r_mk := i_rng mk
  have r_td := i_rng td
  have hDcD := hDc
  obtain ⟨la_6, ta_7, m_8, n_9, fl_10, ft_11, cI_12, cJ_13, m_14, ⟨m_15, m_16⟩, ⟨m_17, m_18⟩, m_19, m_20⟩ := hDc
  obtain ⟨k_21, hk_21⟩ := List.getElem?_of_mem m_14
  obtain ⟨k_22, hk_22⟩ := List.getElem?_of_mem m_15
  obtain ⟨j_23, hj_23⟩ := List.getElem?_of_mem m_16
  obtain ⟨k_24, hk_24⟩ := List.getElem?_of_mem m_17
  obtain ⟨j_25, hj_25⟩ := List.getElem?_of_mem m_18
  refine lv_iconst (v := 0) hx hb dX9_fittingPatterns_0 (by decide) ?_
  refine lv_istore_n (lv' := [(2, .int 0), (0, .ref gt), (1, .ref d)]) hx hb dX9_fittingPatterns_1 rfl hl (by decide) rfl (fun ls hl => ?_)
  refine lv_iconst (v := 0) hx hb dX9_fittingPatterns_2 (by decide) ?_
  refine lv_istore_n (lv' := [(3, .int 0), (2, .int 0), (0, .ref gt), (1, .ref d)]) hx hb dX9_fittingPatterns_3 rfl hl (by decide) rfl (fun ls hl => ?_)
  have loop4 : ∀ (lm4 : Nat) (bi ii : Int32), (0 ≤ ii.toInt) → (((np : Int) - ii.toInt).toNat) < lm4 → ∀ (H : Heap) (locs : List Loc) (ls : Array Slot), va_P (dC, dI) vwCl [(gt, .inr (9, [.int st9, .ref tp, .int td, .int fk, .int fpl, .ref bk, .int un, .ref mb, .ref mu, .int mk, .ref rd, .ref cm, .ref wk, .ref pp, .ref so, .ref ty]))] H → va_D A [(gt, .inr (9, [.int st9, .ref tp, .int td, .int fk, .int fpl, .ref bk, .int un, .ref mb, .ref mu, .int mk, .ref rd, .ref cm, .ref wk, .ref pp, .ref so, .ref ty]))] → va_S A s.heap H locs → lv_has ls 5 [(3, .int ii), (2, .int bi), (0, .ref gt), (1, .ref d)] → W p l e (headSpec mwX9_fittingPatterns ({ frames := 2, cells := 0, slots := 0, locals := 120 })).room s m ([.ref gt, .ref d]).toArray below meth c H locs 0 0 (MQ below (va_Qi (fun (_ : Int32) (_ : Unit) => True) (fun _ t => va_P (dC, dI) vwCl [(gt, .inr (9, [.int st9, .ref tp, .int td, .int fk, .int fpl, .ref bk, .int un, .ref mb, .ref mu, .int mk, .ref rd, .ref cm, .ref wk, .ref pp, .ref so, .ref ty]))] t.heap ∧ va_K (dC, dI) vwCl [] t ∧ va_D A [(gt, .inr (9, [.int st9, .ref tp, .int td, .int fk, .int fpl, .ref bk, .int un, .ref mb, .ref mu, .int mk, .ref rd, .ref cm, .ref wk, .ref pp, .ref so, .ref ty]))]) A) ([.ref gt, .ref d]).toArray s 0 0 A) (F0 m 4 ls []) := by
    intro lm4
    induction lm4 with
    | zero => intro bi ii v4_0 hm4; exact absurd hm4 (Nat.not_lt_zero _)
    | succ lm4 ih4 =>
      intro bi ii v4_0 hm4 H locs ls hP hD hS hl
      have hQ := q_at hQ0 hQA hS
      have rg_bi := i_rng bi
      have rg_ii := i_rng ii
      refine lv_iload_n hx hb dX9_fittingPatterns_4 rfl (lv_at hl 0 rfl) ?_
      refine lv_aload_n hx hb dX9_fittingPatterns_5 rfl (lv_at hl 2 rfl) ?_
      refine va_get (D := (dC, dI)) (ci := 9) (v := .ref bk) (C := RX9) (T := TX9) (N := 16) hx hb hts fin_X9_fittingPatterns_X9 hown hK hP 0 rfl rfl 5 (by decide) (hts (.fieldLink RX9 29 "PatternGate" "book" "LPatternGate$Book;") (List.mem_of_getElem? (i := 1) (by decide +kernel))) (fun _ h9 => h9) rfl dX9_fittingPatterns_6 ?_
      refine va_get (D := (dC, dI)) (ci := 0) (v := .ref ps) (C := RX0) (T := TX0) (N := 3) hx hb hts fin_X9_fittingPatterns_X0 hown hKQ hQ k_1 hk_1 rfl 1 (by decide) (hts (.fieldLink RX9 103 "PatternGate$Book" "patterns" "[LPatternGate$Pattern;") (List.mem_of_getElem? (i := 2) (by decide +kernel))) (fun _ h9 => h9) rfl dX9_fittingPatterns_9 ?_
      refine va_alen hx hb hKQ hQ k_4 j_5 hk_4 hj_5 rfl dX9_fittingPatterns_12 ?_
      refine lv_topi (fun y_26 ey_26 => ?_)
      have ty_26 : y_26.toInt = (np : Int) := i_len ey_26 (by omega)
      refine lv_icmp_ge (tgt := 52) hx hb dX9_fittingPatterns_13 (by decide) (fun k_27 => ?_) (fun k_27 => ?_)
      · have tk_27 := c_ge (a := ii.toInt) (b := y_26.toInt) rfl rfl k_27
        refine lv_iload_n hx hb dX9_fittingPatterns_52 rfl (lv_at hl 1 rfl) ?_
        have hP9 := hP.sub (ws' := [(gt, .inr (9, [.int st9, .ref tp, .int td, .int fk, .int fpl, .ref bk, .int un, .ref mb, .ref mu, .int mk, .ref rd, .ref cm, .ref wk, .ref pp, .ref so, .ref ty]))]) [0] rfl
        have hD9 := hD.sub (ws' := [(gt, .inr (9, [.int st9, .ref tp, .int td, .int fk, .int fpl, .ref bk, .int un, .ref mb, .ref mu, .int mk, .ref rd, .ref cm, .ref wk, .ref pp, .ref so, .ref ty]))]) [0] (by decide) rfl
        have hK9 := hK.sub (tys' := []) [] rfl
        exact W.iret hx hb hr (fun t ht hW => ⟨⟨_, (), rfl, trivial, by rw [ht]; exact hP9, va_K.moved hW.alike hK9, hD9⟩, hS.F ht⟩) hS.2.2 dX9_fittingPatterns_53
      · have tk_27 := c_nge (a := ii.toInt) (b := y_26.toInt) rfl rfl k_27
        refine lv_aload_n hx hb dX9_fittingPatterns_16 rfl (lv_at hl 2 rfl) ?_
        refine va_get (D := (dC, dI)) (ci := 9) (v := .ref bk) (C := RX9) (T := TX9) (N := 16) hx hb hts fin_X9_fittingPatterns_X9 hown hK hP 0 rfl rfl 5 (by decide) (hts (.fieldLink RX9 29 "PatternGate" "book" "LPatternGate$Book;") (List.mem_of_getElem? (i := 1) (by decide +kernel))) (fun _ h9 => h9) rfl dX9_fittingPatterns_17 ?_
        refine lv_iload_n hx hb dX9_fittingPatterns_20 rfl (lv_at hl 0 rfl) ?_
        have hPc := hQ
        have hKc := hKQ
        refine va_csq (W.runV (As := [.int ii]) (rest := []) ⟨hx, hb, hml, hown, hts⟩ (s_patternAt2 l dC dI W9 T9 bk ear ii hB3) (cwV 1 hts mg_X9_fittingPatterns_X0_patternAt_140 rfl rfl rfl (by decide +kernel) ⟨Nat.le_of_ble_eq_true rfl, Nat.le_of_ble_eq_true rfl⟩) ⟨fun a U g mk q => by obtain ⟨q0, qP, qK⟩ := q; exact ⟨q0, qP, va_K.moved (u := U) (U := U.calling g mk a) (Vm.Alike.refl U.vm) qK⟩, va_recv hKc hPc (ci := 0) (q0 := k_1) rfl hk_1, fun U hU hW => ⟨rfl, by rw [hU]; exact hPc, va_K.moved hW.alike hKc⟩⟩ rfl rfl hl.1 rfl (lv_room (Nat.le_of_ble_eq_true rfl)) dX9_fittingPatterns_21 ⟨Nat.le_of_ble_eq_true rfl, Nat.le_of_ble_eq_true rfl⟩) (fun r_29 hw => ?_)
        rcases hw with rfl | ⟨d_30, rfl, hd_30⟩
        · refine W.eq (g2 := F0 m 24 ls [.null]) rfl ?_
          refine lv_astoreN (lv' := [(4, .null), (3, .int ii), (2, .int bi), (0, .ref gt), (1, .ref d)]) hx hb dX9_fittingPatterns_24 hl (by decide) rfl (fun ls hl => ?_)
          refine lv_aloadN hx hb dX9_fittingPatterns_26 (lv_at hl 0 rfl) ?_
          refine lv_ifnullN (tgt := 46) hx hb dX9_fittingPatterns_28 (by decide) ?_
          obtain ⟨y_31, ey_31⟩ : ∃ y : Int32, y = ii + 1 := ⟨_, rfl⟩
          first | have ty_31 := i_add (a := ii.toInt) (b := 1) rfl (by decide) ey_31 (by omega) (by omega) | skip
          refine lv_iinc (v := y_31) (lv' := [(3, .int y_31), (4, .null), (2, .int bi), (0, .ref gt), (1, .ref d)]) hx hb dX9_fittingPatterns_46 hl (k := 1) rfl (by rw [ey_31]; rfl) (by decide) rfl (fun ls hl => ?_)
          refine lv_goto (tgt := 4) hx hb dX9_fittingPatterns_49 (by decide) ?_
          exact ih4 bi y_31 (by first | omega | assumption | decide) (by omega) _ _ ls hP hD hS (lv_sub hl [0, 2, 3, 4] rfl)
        · refine W.eq (g2 := F0 m 24 ls [.ref d_30]) rfl ?_
          have hd_30P := hd_30.poP
          have hd_30Q := hd_30
          obtain ⟨q_32, a_33, a_34, a_35, a_36, a_37, a_38, n_39, n_40, n_41, n_42, n_43, n_44, n_45, f_46, f_47, f_48, f_49, f_50, f_51, f_52, c_53, c_54, c_55, c_56, c_57, c_58, c_59, m_60, ⟨m_61, m_62⟩, ⟨m_63, m_64⟩, ⟨m_65, m_66⟩, ⟨m_67, m_68⟩, ⟨m_69, m_70⟩, ⟨m_71, m_72⟩, ⟨m_73, m_74, h_85⟩, h_75, h_76, h_77, h_78, h_79, h_80, h_81, h_82, h_83, h_84⟩ := hd_30
          obtain ⟨k_86, hk_86⟩ := List.getElem?_of_mem m_60
          obtain ⟨k_87, hk_87⟩ := List.getElem?_of_mem m_61
          obtain ⟨j_88, hj_88⟩ := List.getElem?_of_mem m_62
          obtain ⟨k_89, hk_89⟩ := List.getElem?_of_mem m_63
          obtain ⟨j_90, hj_90⟩ := List.getElem?_of_mem m_64
          obtain ⟨k_91, hk_91⟩ := List.getElem?_of_mem m_65
          obtain ⟨j_92, hj_92⟩ := List.getElem?_of_mem m_66
          obtain ⟨k_93, hk_93⟩ := List.getElem?_of_mem m_67
          obtain ⟨j_94, hj_94⟩ := List.getElem?_of_mem m_68
          obtain ⟨k_95, hk_95⟩ := List.getElem?_of_mem m_69
          obtain ⟨j_96, hj_96⟩ := List.getElem?_of_mem m_70
          obtain ⟨k_97, hk_97⟩ := List.getElem?_of_mem m_71
          obtain ⟨j_98, hj_98⟩ := List.getElem?_of_mem m_72
          obtain ⟨k_99, hk_99⟩ := List.getElem?_of_mem m_73
          obtain ⟨j_100, hj_100⟩ := List.getElem?_of_mem m_74
          refine lv_astore (lv' := [(4, .ref d_30), (3, .int ii), (2, .int bi), (0, .ref gt), (1, .ref d)]) hx hb dX9_fittingPatterns_24 hl (by decide) rfl (fun ls hl => ?_)
          refine lv_aload hx hb dX9_fittingPatterns_26 (lv_at hl 0 rfl) ?_
          refine lv_ifnull hx hb dX9_fittingPatterns_28 ?_
          refine lv_aload hx hb dX9_fittingPatterns_31 (lv_at hl 0 rfl) ?_
          refine lv_aload_n hx hb dX9_fittingPatterns_33 rfl (lv_at hl 4 rfl) ?_
          have hPc : va_P (dC, dI) vwCl [(d_30, .inr (5, pF q_32 a_33 a_34 a_35 a_36 a_37 a_38)), (q_32 1, .inl (c_54, n_40, .inl f_47)), (q_32 2, .inl (c_55, n_41, .inl f_48)), (d, .inr (2, [.ref la_6, .ref ta_7])), (la_6, .inl (cI_12, m_8, .inl fl_10))] H := p_sub hQ (List.forall_mem_cons.mpr ⟨m_60, List.forall_mem_cons.mpr ⟨m_63, List.forall_mem_cons.mpr ⟨m_65, List.forall_mem_cons.mpr ⟨m_14, List.forall_mem_cons.mpr ⟨m_15, fun _ h => absurd h List.not_mem_nil⟩⟩⟩⟩⟩)
          have hKc : va_K (dC, dI) vwCl [(c_54, .int), (c_55, .int), (cI_12, .int)] s := k_sub hKQ (List.forall_mem_cons.mpr ⟨m_64, List.forall_mem_cons.mpr ⟨m_66, List.forall_mem_cons.mpr ⟨m_16, fun _ h => absurd h List.not_mem_nil⟩⟩⟩)
          refine vp_callSi (W.runV (As := [.ref d]) (rest := []) ⟨hx, hb, hml, hown, hts⟩ (s_fits l dC dI d_30 q_32 a_33 a_34 a_35 a_36 a_37 a_38 n_40 f_47 c_54 n_41 f_48 c_55 d la_6 ta_7 m_8 fl_10 cI_12 (by omega) (by omega) (by omega) (by assumption)) (cwV 1 hts mg_X9_fittingPatterns_X5_fits_328 rfl rfl rfl (by decide +kernel) ⟨Nat.le_of_ble_eq_true rfl, Nat.le_of_ble_eq_true rfl⟩) ⟨fun a U g mk q => by obtain ⟨q0, qP, qK⟩ := q; exact ⟨q0, qP, va_K.moved (u := U) (U := U.calling g mk a) (Vm.Alike.refl U.vm) qK⟩, va_recv hKc hPc (ci := 5) (q0 := 0) rfl rfl, fun U hU hW => ⟨rfl, by rw [hU]; exact hPc, va_K.moved hW.alike hKc⟩⟩ rfl rfl hl.1 rfl (lv_room (Nat.le_of_ble_eq_true rfl)) dX9_fittingPatterns_34 ⟨Nat.le_of_ble_eq_true rfl, Nat.le_of_ble_eq_true rfl⟩) (fun r_102 hw => ?_)
          have hr_102 := hw
          refine lv_if_eq (tgt := 46) hx hb dX9_fittingPatterns_37 (by decide) (fun k_103 => ?_) (fun k_103 => ?_)
          · have tk_103 := c_eq (a := r_102.toInt) (b := 0) rfl (by decide) k_103
            obtain ⟨y_104, ey_104⟩ : ∃ y : Int32, y = ii + 1 := ⟨_, rfl⟩
            first | have ty_104 := i_add (a := ii.toInt) (b := 1) rfl (by decide) ey_104 (by omega) (by omega) | skip
            refine lv_iinc (v := y_104) (lv' := [(3, .int y_104), (4, .ref d_30), (2, .int bi), (0, .ref gt), (1, .ref d)]) hx hb dX9_fittingPatterns_46 hl (k := 1) rfl (by rw [ey_104]; rfl) (by decide) rfl (fun ls hl => ?_)
            refine lv_goto (tgt := 4) hx hb dX9_fittingPatterns_49 (by decide) ?_
            exact ih4 bi y_104 (by first | omega | assumption | decide) (by omega) _ _ ls hP hD hS (lv_sub hl [0, 2, 3, 4] rfl)
          · have tk_103 := c_ne (a := r_102.toInt) (b := 0) rfl (by decide) k_103
            refine lv_iload_n hx hb dX9_fittingPatterns_40 rfl (lv_at hl 2 rfl) ?_
            refine lv_iconst (v := 1) hx hb dX9_fittingPatterns_41 (by decide) ?_
            refine lv_iload_n hx hb dX9_fittingPatterns_42 rfl (lv_at hl 1 rfl) ?_
            refine lv_ishl hx hb dX9_fittingPatterns_43 ?_
            refine lv_topi (fun y_105 ey_105 => ?_)
            have rg_y_105 := i_rng y_105
            refine lv_ior hx hb dX9_fittingPatterns_44 ?_
            refine lv_topi (fun y_106 ey_106 => ?_)
            have rg_y_106 := i_rng y_106
            refine lv_istore_n (lv' := [(2, .int y_106), (4, .ref d_30), (3, .int ii), (0, .ref gt), (1, .ref d)]) hx hb dX9_fittingPatterns_45 rfl hl (by decide) rfl (fun ls hl => ?_)
            obtain ⟨y_107, ey_107⟩ : ∃ y : Int32, y = ii + 1 := ⟨_, rfl⟩
            first | have ty_107 := i_add (a := ii.toInt) (b := 1) rfl (by decide) ey_107 (by omega) (by omega) | skip
            refine lv_iinc (v := y_107) (lv' := [(3, .int y_107), (2, .int y_106), (4, .ref d_30), (0, .ref gt), (1, .ref d)]) hx hb dX9_fittingPatterns_46 hl (k := 2) rfl (by rw [ey_107]; rfl) (by decide) rfl (fun ls hl => ?_)
            refine lv_goto (tgt := 4) hx hb dX9_fittingPatterns_49 (by decide) ?_
            exact ih4 y_106 y_107 (by first | omega | assumption | decide) (by omega) _ _ ls hP hD hS (lv_sub hl [0, 1, 3, 4] rfl)
  have lit_107 : (0 : Int32).toInt = 0 := by decide
  have lit_108 : (0 : Int32).toInt = 0 := by decide
  exact loop4 _ 0 0 (by first | omega | assumption | decide) (Nat.lt_succ_self _) _ _ ls hP hD hS (lv_sub hl [0, 1, 2, 3] rfl)
theorem dX9_fittingDocuments_0 : decode cX9_fittingDocuments 0 = .ok (.iconst 0, 1) := by decide +kernel
theorem dX9_fittingDocuments_1 : decode cX9_fittingDocuments 1 = .ok (.istore_n 2, 1) := by decide +kernel
theorem dX9_fittingDocuments_2 : decode cX9_fittingDocuments 2 = .ok (.iconst 0, 1) := by decide +kernel
theorem dX9_fittingDocuments_3 : decode cX9_fittingDocuments 3 = .ok (.istore_n 3, 1) := by decide +kernel
theorem dX9_fittingDocuments_4 : decode cX9_fittingDocuments 4 = .ok (.iload_n 3, 1) := by decide +kernel
theorem dX9_fittingDocuments_5 : decode cX9_fittingDocuments 5 = .ok (.aload_n 0, 1) := by decide +kernel
theorem dX9_fittingDocuments_6 : decode cX9_fittingDocuments 6 = .ok (.getfield 29, 3) := by decide +kernel
theorem dX9_fittingDocuments_9 : decode cX9_fittingDocuments 9 = .ok (.getfield 96, 3) := by decide +kernel
theorem dX9_fittingDocuments_12 : decode cX9_fittingDocuments 12 = .ok (.arraylength, 1) := by decide +kernel
theorem dX9_fittingDocuments_13 : decode cX9_fittingDocuments 13 = .ok (.if_icmp .ge 39, 3) := by decide +kernel
theorem dX9_fittingDocuments_16 : decode cX9_fittingDocuments 16 = .ok (.aload_n 0, 1) := by decide +kernel
theorem dX9_fittingDocuments_17 : decode cX9_fittingDocuments 17 = .ok (.getfield 29, 3) := by decide +kernel
theorem dX9_fittingDocuments_20 : decode cX9_fittingDocuments 20 = .ok (.iload_n 3, 1) := by decide +kernel
theorem dX9_fittingDocuments_21 : decode cX9_fittingDocuments 21 = .ok (.invokevirtual 123, 3) := by decide +kernel
theorem dX9_fittingDocuments_24 : decode cX9_fittingDocuments 24 = .ok (.astore 4, 2) := by decide +kernel
theorem dX9_fittingDocuments_26 : decode cX9_fittingDocuments 26 = .ok (.aload 4, 2) := by decide +kernel
theorem dX9_fittingDocuments_28 : decode cX9_fittingDocuments 28 = .ok (.ifnull 18, 3) := by decide +kernel
theorem dX9_fittingDocuments_31 : decode cX9_fittingDocuments 31 = .ok (.aload_n 1, 1) := by decide +kernel
theorem dX9_fittingDocuments_32 : decode cX9_fittingDocuments 32 = .ok (.aload 4, 2) := by decide +kernel
theorem dX9_fittingDocuments_34 : decode cX9_fittingDocuments 34 = .ok (.invokevirtual 328, 3) := by decide +kernel
theorem dX9_fittingDocuments_37 : decode cX9_fittingDocuments 37 = .ok (.ifCond .eq 9, 3) := by decide +kernel
theorem dX9_fittingDocuments_40 : decode cX9_fittingDocuments 40 = .ok (.iload_n 2, 1) := by decide +kernel
theorem dX9_fittingDocuments_41 : decode cX9_fittingDocuments 41 = .ok (.iconst 1, 1) := by decide +kernel
theorem dX9_fittingDocuments_42 : decode cX9_fittingDocuments 42 = .ok (.iload_n 3, 1) := by decide +kernel
theorem dX9_fittingDocuments_43 : decode cX9_fittingDocuments 43 = .ok (.ishl, 1) := by decide +kernel
theorem dX9_fittingDocuments_44 : decode cX9_fittingDocuments 44 = .ok (.ior, 1) := by decide +kernel
theorem dX9_fittingDocuments_45 : decode cX9_fittingDocuments 45 = .ok (.istore_n 2, 1) := by decide +kernel
theorem dX9_fittingDocuments_46 : decode cX9_fittingDocuments 46 = .ok (.iinc 3 1, 3) := by decide +kernel
theorem dX9_fittingDocuments_49 : decode cX9_fittingDocuments 49 = .ok (.goto (-45), 3) := by decide +kernel
theorem dX9_fittingDocuments_52 : decode cX9_fittingDocuments 52 = .ok (.iload_n 2, 1) := by decide +kernel
theorem dX9_fittingDocuments_53 : decode cX9_fittingDocuments 53 = .ok (.ireturn, 1) := by decide +kernel
def mwX9_fittingDocuments : List Cond := .code yX9_fittingDocuments cX9_fittingDocuments 5 (some .int) :: (([.fieldLink RX9 29 "PatternGate" "book" "LPatternGate$Book;", .fieldLink RX9 96 "PatternGate$Book" "docs" "[LPatternGate$Doc;", .methodLink RX9 123 yX0_docAt, .instanceMethod yX0_docAt, .selects RX0 yX0_docAt yX0_docAt, .initialized RX0, .methodLink RX9 328 yX5_fits, .instanceMethod yX5_fits, .selects RX5 yX5_fits yX5_fits, .initialized RX5] : List Cond) ++ (wsX90 ++ (wsX00 ++ (mwX0_docAt ++ (mwX5_fits)))))
theorem fin_X9_fittingDocuments_X0 : ∀ w ∈ wsX00, w ∈ mwX9_fittingDocuments := fun w h => List.mem_cons_of_mem _ (List.mem_append_right _ (List.mem_append_right _ (List.mem_append_left _ h)))
theorem fin_X9_fittingDocuments_X9 : ∀ w ∈ wsX90, w ∈ mwX9_fittingDocuments := fun w h => List.mem_cons_of_mem _ (List.mem_append_right _ (List.mem_append_left _ h))
set_option maxRecDepth 20000 in
theorem mg_X9_fittingDocuments_X0_docAt_123 : GoodIn mwX9_fittingDocuments (wsV RX9 123 RX0 yX0_docAt mwX0_docAt) := gi_app (A := [.methodLink RX9 123 yX0_docAt, .instanceMethod yX0_docAt, .selects RX0 yX0_docAt yX0_docAt, .initialized RX0]) (goodIn_r _ [3, 4, 5, 6] (by decide +kernel) (by decide +kernel)) (gi_sub gd_mwX0_docAt (fun w h => List.mem_cons_of_mem _ (List.mem_append_right _ (List.mem_append_right _ (List.mem_append_right _ (List.mem_append_left _ h))))))
set_option maxRecDepth 20000 in
theorem mg_X9_fittingDocuments_X5_fits_328 : GoodIn mwX9_fittingDocuments (wsV RX9 328 RX5 yX5_fits mwX5_fits) := gi_app (A := [.methodLink RX9 328 yX5_fits, .instanceMethod yX5_fits, .selects RX5 yX5_fits yX5_fits, .initialized RX5]) (goodIn_r _ [7, 8, 9, 10] (by decide +kernel) (by decide +kernel)) (gi_sub gd_mwX5_fits (fun w h => List.mem_cons_of_mem _ (List.mem_append_right _ (List.mem_append_right _ (List.mem_append_right _ (List.mem_append_right _ (h)))))))
set_option maxHeartbeats 4000000 in
set_option maxRecDepth 100000 in
/-- gate: fittingDocuments -/
theorem s_g_fittingDocuments (l : Launch) (dC : Nat → ClassId) (dI : Nat → Nat → Nat) (W9 : va_W) (T9 : List (ClassId × FieldType)) (B9 : Nat → Prop) (gt tp bk mb mu rd cm wk pp so ty : Nat) (st9 td fk fpl un mk : Int32) (pt : Nat) (sz : Nat) (hB9 : gB W9 T9 B9) (hbk : B9 bk) (hPt : poP2 W9 T9 pt) : Met l yX9_fittingDocuments mwX9_fittingDocuments ({ frames := 2, cells := 0, slots := 0, locals := 120 }) (va_Pc [.ref gt, .ref pt] (fun U => U.heap.size = sz ∧ va_P (dC, dI) vwCl ([(gt, .inr (9, [.int st9, .ref tp, .int td, .int fk, .int fpl, .ref bk, .int un, .ref mb, .ref mu, .int mk, .ref rd, .ref cm, .ref wk, .ref pp, .ref so, .ref ty]))]) U.heap ∧ va_K (dC, dI) vwCl ([]) U ∧ va_D (fun _ => True) ([(gt, .inr (9, [.int st9, .ref tp, .int td, .int fk, .int fpl, .ref bk, .int un, .ref mb, .ref mu, .int mk, .ref rd, .ref cm, .ref wk, .ref pp, .ref so, .ref ty]))]) ∧ va_P (dC, dI) vwCl W9 U.heap ∧ va_K (dC, dI) vwCl T9 U ∧ (∀ q ∈ W9, ¬ va_A ([(gt, .inr (9, [.int st9, .ref tp, .int td, .int fk, .int fpl, .ref bk, .int un, .ref mb, .ref mu, .int mk, .ref rd, .ref cm, .ref wk, .ref pp, .ref so, .ref ty]))]) sz q.1))) (va_Qi (fun (_ : Int32) (_ : Unit) => True) (fun _ t => va_P (dC, dI) vwCl [(gt, .inr (9, [.int st9, .ref tp, .int td, .int fk, .int fpl, .ref bk, .int un, .ref mb, .ref mu, .int mk, .ref rd, .ref cm, .ref wk, .ref pp, .ref so, .ref ty]))] t.heap ∧ va_K (dC, dI) vwCl [] t ∧ va_D (va_A ([(gt, .inr (9, [.int st9, .ref tp, .int td, .int fk, .int fpl, .ref bk, .int un, .ref mb, .ref mu, .int mk, .ref rd, .ref cm, .ref wk, .ref pp, .ref so, .ref ty]))]) sz) [(gt, .inr (9, [.int st9, .ref tp, .int td, .int fk, .int fpl, .ref bk, .int un, .ref mb, .ref mu, .int mk, .ref rd, .ref cm, .ref wk, .ref pp, .ref so, .ref ty]))]) (va_A ([(gt, .inr (9, [.int st9, .ref tp, .int td, .int fk, .int fpl, .ref bk, .int un, .ref mb, .ref mu, .int mk, .ref rd, .ref cm, .ref wk, .ref pp, .ref so, .ref ty]))]) sz)) 0 0 (va_A ([(gt, .inr (9, [.int st9, .ref tp, .int td, .int fk, .int fpl, .ref bk, .int un, .ref mb, .ref mu, .int mk, .ref rd, .ref cm, .ref wk, .ref pp, .ref so, .ref ty]))]) sz) := by
  refine Met.ofW (cc := cX9_fittingDocuments) (maxL := 5) (ret := (some .int)) (by decide +kernel) rfl ?_
  intro p e s m args below meth c s₁ B hml hv
  obtain ⟨rfl, hsz, hP, hK, hD0, hQ0, hKQ, hQA⟩ := hv
  have hx := B.exec
  have hb := B.bytes
  have hr := B.returns
  have hts := atoms_spec (ws := mwX9_fittingDocuments) B.pre
  have hown : s.vm.findClass RX9 = some m.cls := findClass_of_methodNamed B.named
  have hlocks := B.notSynchronized
  subst hsz
  have hD := hD0.self (sz := s.heap.size)
  generalize hAe : va_A ([(gt, .inr (9, [.int st9, .ref tp, .int td, .int fk, .int fpl, .ref bk, .int un, .ref mb, .ref mu, .int mk, .ref rd, .ref cm, .ref wk, .ref pp, .ref so, .ref ty]))]) s.heap.size = A at hD hQA ⊢
  have hA : ∀ q : Nat, s.heap.size ≤ q → A q := fun q h => by rw [← hAe]; exact Or.inr h
  have hP : va_P (dC, dI) vwCl [(gt, .inr (9, [.int st9, .ref tp, .int td, .int fk, .int fpl, .ref bk, .int un, .ref mb, .ref mu, .int mk, .ref rd, .ref cm, .ref wk, .ref pp, .ref so, .ref ty]))] s.heap := hP
  have hD : va_D A [(gt, .inr (9, [.int st9, .ref tp, .int td, .int fk, .int fpl, .ref bk, .int un, .ref mb, .ref mu, .int mk, .ref rd, .ref cm, .ref wk, .ref pp, .ref so, .ref ty]))] := hD
  have hK : va_K (dC, dI) vwCl [] s := hK
  generalize hH : s.heap = H at hP ⊢
  have hS : va_S A s.heap H [] := by rw [← hH]; exact va_S.rf
  have hQ := q_at hQ0 hQA hS
  have hl := lv_entry ([.ref gt, .ref pt]) (n := 5) (Nat.le_of_ble_eq_true rfl)
  rw [lg_entry_eq]
  generalize (lg_sl ([.ref gt, .ref pt]) ++ List.replicate (5 - (lg_sl ([.ref gt, .ref pt])).length) Slot.unset).toArray = ls at hl ⊢
  have hl : lv_has ls 5 [(0, .ref gt), (1, .ref pt)] := hl
  obtain ⟨ear, hB3, hear⟩ := hB9 bk hbk
  have hB0 := hB3.poB
  obtain ⟨ds, ps, nd, np, fd, fp, cD, cP, m1, m2, m3, m4, m5, hnd, hnp, hds, hps⟩ := id hB3
  obtain ⟨k_1, hk_1⟩ := List.getElem?_of_mem m1
  obtain ⟨k_2, hk_2⟩ := List.getElem?_of_mem m2
  obtain ⟨j_3, hj_3⟩ := List.getElem?_of_mem m3
  obtain ⟨k_4, hk_4⟩ := List.getElem?_of_mem m4
  obtain ⟨j_5, hj_5⟩ := List.getElem?_of_mem m5
  have r_un := i_rng un
  have r_mk := i_rng mk
  have r_td := i_rng td
  have hPtP := hPt.poP
  have hPtQ := hPt
  obtain ⟨q_6, a_7, a_8, a_9, a_10, a_11, a_12, n_13, n_14, n_15, n_16, n_17, n_18, n_19, f_20, f_21, f_22, f_23, f_24, f_25, f_26, c_27, c_28, c_29, c_30, c_31, c_32, c_33, m_34, ⟨m_35, m_36⟩, ⟨m_37, m_38⟩, ⟨m_39, m_40⟩, ⟨m_41, m_42⟩, ⟨m_43, m_44⟩, ⟨m_45, m_46⟩, ⟨m_47, m_48, h_59⟩, h_49, h_50, h_51, h_52, h_53, h_54, h_55, h_56, h_57, h_58⟩ := hPt
  obtain ⟨k_60, hk_60⟩ := List.getElem?_of_mem m_34
  obtain ⟨k_61, hk_61⟩ := List.getElem?_of_mem m_35
  obtain ⟨j_62, hj_62⟩ := List.getElem?_of_mem m_36
  obtain ⟨k_63, hk_63⟩ := List.getElem?_of_mem m_37
  obtain ⟨j_64, hj_64⟩ := List.getElem?_of_mem m_38
  obtain ⟨k_65, hk_65⟩ := List.getElem?_of_mem m_39
  obtain ⟨j_66, hj_66⟩ := List.getElem?_of_mem m_40
  obtain ⟨k_67, hk_67⟩ := List.getElem?_of_mem m_41
  obtain ⟨j_68, hj_68⟩ := List.getElem?_of_mem m_42
  obtain ⟨k_69, hk_69⟩ := List.getElem?_of_mem m_43
  obtain ⟨j_70, hj_70⟩ := List.getElem?_of_mem m_44
  obtain ⟨k_71, hk_71⟩ := List.getElem?_of_mem m_45
  obtain ⟨j_72, hj_72⟩ := List.getElem?_of_mem m_46
  obtain ⟨k_73, hk_73⟩ := List.getElem?_of_mem m_47
  obtain ⟨j_74, hj_74⟩ := List.getElem?_of_mem m_48
  refine lv_iconst (v := 0) hx hb dX9_fittingDocuments_0 (by decide) ?_
  refine lv_istore_n (lv' := [(2, .int 0), (0, .ref gt), (1, .ref pt)]) hx hb dX9_fittingDocuments_1 rfl hl (by decide) rfl (fun ls hl => ?_)
  refine lv_iconst (v := 0) hx hb dX9_fittingDocuments_2 (by decide) ?_
  refine lv_istore_n (lv' := [(3, .int 0), (2, .int 0), (0, .ref gt), (1, .ref pt)]) hx hb dX9_fittingDocuments_3 rfl hl (by decide) rfl (fun ls hl => ?_)
  have loop4 : ∀ (lm4 : Nat) (bi ii : Int32), (0 ≤ ii.toInt) → (((nd : Int) - ii.toInt).toNat) < lm4 → ∀ (H : Heap) (locs : List Loc) (ls : Array Slot), va_P (dC, dI) vwCl [(gt, .inr (9, [.int st9, .ref tp, .int td, .int fk, .int fpl, .ref bk, .int un, .ref mb, .ref mu, .int mk, .ref rd, .ref cm, .ref wk, .ref pp, .ref so, .ref ty]))] H → va_D A [(gt, .inr (9, [.int st9, .ref tp, .int td, .int fk, .int fpl, .ref bk, .int un, .ref mb, .ref mu, .int mk, .ref rd, .ref cm, .ref wk, .ref pp, .ref so, .ref ty]))] → va_S A s.heap H locs → lv_has ls 5 [(3, .int ii), (2, .int bi), (0, .ref gt), (1, .ref pt)] → W p l e (headSpec mwX9_fittingDocuments ({ frames := 2, cells := 0, slots := 0, locals := 120 })).room s m ([.ref gt, .ref pt]).toArray below meth c H locs 0 0 (MQ below (va_Qi (fun (_ : Int32) (_ : Unit) => True) (fun _ t => va_P (dC, dI) vwCl [(gt, .inr (9, [.int st9, .ref tp, .int td, .int fk, .int fpl, .ref bk, .int un, .ref mb, .ref mu, .int mk, .ref rd, .ref cm, .ref wk, .ref pp, .ref so, .ref ty]))] t.heap ∧ va_K (dC, dI) vwCl [] t ∧ va_D A [(gt, .inr (9, [.int st9, .ref tp, .int td, .int fk, .int fpl, .ref bk, .int un, .ref mb, .ref mu, .int mk, .ref rd, .ref cm, .ref wk, .ref pp, .ref so, .ref ty]))]) A) ([.ref gt, .ref pt]).toArray s 0 0 A) (F0 m 4 ls []) := by
    intro lm4
    induction lm4 with
    | zero => intro bi ii v4_0 hm4; exact absurd hm4 (Nat.not_lt_zero _)
    | succ lm4 ih4 =>
      intro bi ii v4_0 hm4 H locs ls hP hD hS hl
      have hQ := q_at hQ0 hQA hS
      have rg_bi := i_rng bi
      have rg_ii := i_rng ii
      refine lv_iload_n hx hb dX9_fittingDocuments_4 rfl (lv_at hl 0 rfl) ?_
      refine lv_aload_n hx hb dX9_fittingDocuments_5 rfl (lv_at hl 2 rfl) ?_
      refine va_get (D := (dC, dI)) (ci := 9) (v := .ref bk) (C := RX9) (T := TX9) (N := 16) hx hb hts fin_X9_fittingDocuments_X9 hown hK hP 0 rfl rfl 5 (by decide) (hts (.fieldLink RX9 29 "PatternGate" "book" "LPatternGate$Book;") (List.mem_of_getElem? (i := 1) (by decide +kernel))) (fun _ h9 => h9) rfl dX9_fittingDocuments_6 ?_
      refine va_get (D := (dC, dI)) (ci := 0) (v := .ref ds) (C := RX0) (T := TX0) (N := 3) hx hb hts fin_X9_fittingDocuments_X0 hown hKQ hQ k_1 hk_1 rfl 0 (by decide) (hts (.fieldLink RX9 96 "PatternGate$Book" "docs" "[LPatternGate$Doc;") (List.mem_of_getElem? (i := 2) (by decide +kernel))) (fun _ h9 => h9) rfl dX9_fittingDocuments_9 ?_
      refine va_alen hx hb hKQ hQ k_2 j_3 hk_2 hj_3 rfl dX9_fittingDocuments_12 ?_
      refine lv_topi (fun y_75 ey_75 => ?_)
      have ty_75 : y_75.toInt = (nd : Int) := i_len ey_75 (by omega)
      refine lv_icmp_ge (tgt := 52) hx hb dX9_fittingDocuments_13 (by decide) (fun k_76 => ?_) (fun k_76 => ?_)
      · have tk_76 := c_ge (a := ii.toInt) (b := y_75.toInt) rfl rfl k_76
        refine lv_iload_n hx hb dX9_fittingDocuments_52 rfl (lv_at hl 1 rfl) ?_
        have hP9 := hP.sub (ws' := [(gt, .inr (9, [.int st9, .ref tp, .int td, .int fk, .int fpl, .ref bk, .int un, .ref mb, .ref mu, .int mk, .ref rd, .ref cm, .ref wk, .ref pp, .ref so, .ref ty]))]) [0] rfl
        have hD9 := hD.sub (ws' := [(gt, .inr (9, [.int st9, .ref tp, .int td, .int fk, .int fpl, .ref bk, .int un, .ref mb, .ref mu, .int mk, .ref rd, .ref cm, .ref wk, .ref pp, .ref so, .ref ty]))]) [0] (by decide) rfl
        have hK9 := hK.sub (tys' := []) [] rfl
        exact W.iret hx hb hr (fun t ht hW => ⟨⟨_, (), rfl, trivial, by rw [ht]; exact hP9, va_K.moved hW.alike hK9, hD9⟩, hS.F ht⟩) hS.2.2 dX9_fittingDocuments_53
      · have tk_76 := c_nge (a := ii.toInt) (b := y_75.toInt) rfl rfl k_76
        refine lv_aload_n hx hb dX9_fittingDocuments_16 rfl (lv_at hl 2 rfl) ?_
        refine va_get (D := (dC, dI)) (ci := 9) (v := .ref bk) (C := RX9) (T := TX9) (N := 16) hx hb hts fin_X9_fittingDocuments_X9 hown hK hP 0 rfl rfl 5 (by decide) (hts (.fieldLink RX9 29 "PatternGate" "book" "LPatternGate$Book;") (List.mem_of_getElem? (i := 1) (by decide +kernel))) (fun _ h9 => h9) rfl dX9_fittingDocuments_17 ?_
        refine lv_iload_n hx hb dX9_fittingDocuments_20 rfl (lv_at hl 0 rfl) ?_
        have hPc := hQ
        have hKc := hKQ
        refine va_csq (W.runV (As := [.int ii]) (rest := []) ⟨hx, hb, hml, hown, hts⟩ (s_docAt l dC dI W9 T9 bk ii hB0) (cwV 1 hts mg_X9_fittingDocuments_X0_docAt_123 rfl rfl rfl (by decide +kernel) ⟨Nat.le_of_ble_eq_true rfl, Nat.le_of_ble_eq_true rfl⟩) ⟨fun a U g mk q => by obtain ⟨q0, qP, qK⟩ := q; exact ⟨q0, qP, va_K.moved (u := U) (U := U.calling g mk a) (Vm.Alike.refl U.vm) qK⟩, va_recv hKc hPc (ci := 0) (q0 := k_1) rfl hk_1, fun U hU hW => ⟨rfl, by rw [hU]; exact hPc, va_K.moved hW.alike hKc⟩⟩ rfl rfl hl.1 rfl (lv_room (Nat.le_of_ble_eq_true rfl)) dX9_fittingDocuments_21 ⟨Nat.le_of_ble_eq_true rfl, Nat.le_of_ble_eq_true rfl⟩) (fun r_78 hw => ?_)
        rcases hw with rfl | ⟨d_79, rfl, hd_79⟩
        · refine W.eq (g2 := F0 m 24 ls [.null]) rfl ?_
          refine lv_astoreN (lv' := [(4, .null), (3, .int ii), (2, .int bi), (0, .ref gt), (1, .ref pt)]) hx hb dX9_fittingDocuments_24 hl (by decide) rfl (fun ls hl => ?_)
          refine lv_aloadN hx hb dX9_fittingDocuments_26 (lv_at hl 0 rfl) ?_
          refine lv_ifnullN (tgt := 46) hx hb dX9_fittingDocuments_28 (by decide) ?_
          obtain ⟨y_80, ey_80⟩ : ∃ y : Int32, y = ii + 1 := ⟨_, rfl⟩
          first | have ty_80 := i_add (a := ii.toInt) (b := 1) rfl (by decide) ey_80 (by omega) (by omega) | skip
          refine lv_iinc (v := y_80) (lv' := [(3, .int y_80), (4, .null), (2, .int bi), (0, .ref gt), (1, .ref pt)]) hx hb dX9_fittingDocuments_46 hl (k := 1) rfl (by rw [ey_80]; rfl) (by decide) rfl (fun ls hl => ?_)
          refine lv_goto (tgt := 4) hx hb dX9_fittingDocuments_49 (by decide) ?_
          exact ih4 bi y_80 (by first | omega | assumption | decide) (by omega) _ _ ls hP hD hS (lv_sub hl [0, 2, 3, 4] rfl)
        · refine W.eq (g2 := F0 m 24 ls [.ref d_79]) rfl ?_
          have hd_79D := hd_79
          obtain ⟨la_81, ta_82, m_83, n_84, fl_85, ft_86, cI_87, cJ_88, m_89, ⟨m_90, m_91⟩, ⟨m_92, m_93⟩, m_94, m_95⟩ := hd_79
          obtain ⟨k_96, hk_96⟩ := List.getElem?_of_mem m_89
          obtain ⟨k_97, hk_97⟩ := List.getElem?_of_mem m_90
          obtain ⟨j_98, hj_98⟩ := List.getElem?_of_mem m_91
          obtain ⟨k_99, hk_99⟩ := List.getElem?_of_mem m_92
          obtain ⟨j_100, hj_100⟩ := List.getElem?_of_mem m_93
          refine lv_astore (lv' := [(4, .ref d_79), (3, .int ii), (2, .int bi), (0, .ref gt), (1, .ref pt)]) hx hb dX9_fittingDocuments_24 hl (by decide) rfl (fun ls hl => ?_)
          refine lv_aload hx hb dX9_fittingDocuments_26 (lv_at hl 0 rfl) ?_
          refine lv_ifnull hx hb dX9_fittingDocuments_28 ?_
          refine lv_aload_n hx hb dX9_fittingDocuments_31 rfl (lv_at hl 4 rfl) ?_
          refine lv_aload hx hb dX9_fittingDocuments_32 (lv_at hl 0 rfl) ?_
          have hPc : va_P (dC, dI) vwCl [(pt, .inr (5, pF q_6 a_7 a_8 a_9 a_10 a_11 a_12)), (q_6 1, .inl (c_28, n_14, .inl f_21)), (q_6 2, .inl (c_29, n_15, .inl f_22)), (d_79, .inr (2, [.ref la_81, .ref ta_82])), (la_81, .inl (cI_87, m_83, .inl fl_85))] H := p_sub hQ (List.forall_mem_cons.mpr ⟨m_34, List.forall_mem_cons.mpr ⟨m_37, List.forall_mem_cons.mpr ⟨m_39, List.forall_mem_cons.mpr ⟨m_89, List.forall_mem_cons.mpr ⟨m_90, fun _ h => absurd h List.not_mem_nil⟩⟩⟩⟩⟩)
          have hKc : va_K (dC, dI) vwCl [(c_28, .int), (c_29, .int), (cI_87, .int)] s := k_sub hKQ (List.forall_mem_cons.mpr ⟨m_38, List.forall_mem_cons.mpr ⟨m_40, List.forall_mem_cons.mpr ⟨m_91, fun _ h => absurd h List.not_mem_nil⟩⟩⟩)
          refine vp_callSi (W.runV (As := [.ref d_79]) (rest := []) ⟨hx, hb, hml, hown, hts⟩ (s_fits l dC dI pt q_6 a_7 a_8 a_9 a_10 a_11 a_12 n_14 f_21 c_28 n_15 f_22 c_29 d_79 la_81 ta_82 m_83 fl_85 cI_87 (by omega) (by omega) (by omega) (by assumption)) (cwV 1 hts mg_X9_fittingDocuments_X5_fits_328 rfl rfl rfl (by decide +kernel) ⟨Nat.le_of_ble_eq_true rfl, Nat.le_of_ble_eq_true rfl⟩) ⟨fun a U g mk q => by obtain ⟨q0, qP, qK⟩ := q; exact ⟨q0, qP, va_K.moved (u := U) (U := U.calling g mk a) (Vm.Alike.refl U.vm) qK⟩, va_recv hKc hPc (ci := 5) (q0 := 0) rfl rfl, fun U hU hW => ⟨rfl, by rw [hU]; exact hPc, va_K.moved hW.alike hKc⟩⟩ rfl rfl hl.1 rfl (lv_room (Nat.le_of_ble_eq_true rfl)) dX9_fittingDocuments_34 ⟨Nat.le_of_ble_eq_true rfl, Nat.le_of_ble_eq_true rfl⟩) (fun r_102 hw => ?_)
          have hr_102 := hw
          refine lv_if_eq (tgt := 46) hx hb dX9_fittingDocuments_37 (by decide) (fun k_103 => ?_) (fun k_103 => ?_)
          · have tk_103 := c_eq (a := r_102.toInt) (b := 0) rfl (by decide) k_103
            obtain ⟨y_104, ey_104⟩ : ∃ y : Int32, y = ii + 1 := ⟨_, rfl⟩
            first | have ty_104 := i_add (a := ii.toInt) (b := 1) rfl (by decide) ey_104 (by omega) (by omega) | skip
            refine lv_iinc (v := y_104) (lv' := [(3, .int y_104), (4, .ref d_79), (2, .int bi), (0, .ref gt), (1, .ref pt)]) hx hb dX9_fittingDocuments_46 hl (k := 1) rfl (by rw [ey_104]; rfl) (by decide) rfl (fun ls hl => ?_)
            refine lv_goto (tgt := 4) hx hb dX9_fittingDocuments_49 (by decide) ?_
            exact ih4 bi y_104 (by first | omega | assumption | decide) (by omega) _ _ ls hP hD hS (lv_sub hl [0, 2, 3, 4] rfl)
          · have tk_103 := c_ne (a := r_102.toInt) (b := 0) rfl (by decide) k_103
            refine lv_iload_n hx hb dX9_fittingDocuments_40 rfl (lv_at hl 2 rfl) ?_
            refine lv_iconst (v := 1) hx hb dX9_fittingDocuments_41 (by decide) ?_
            refine lv_iload_n hx hb dX9_fittingDocuments_42 rfl (lv_at hl 1 rfl) ?_
            refine lv_ishl hx hb dX9_fittingDocuments_43 ?_
            refine lv_topi (fun y_105 ey_105 => ?_)
            have rg_y_105 := i_rng y_105
            refine lv_ior hx hb dX9_fittingDocuments_44 ?_
            refine lv_topi (fun y_106 ey_106 => ?_)
            have rg_y_106 := i_rng y_106
            refine lv_istore_n (lv' := [(2, .int y_106), (4, .ref d_79), (3, .int ii), (0, .ref gt), (1, .ref pt)]) hx hb dX9_fittingDocuments_45 rfl hl (by decide) rfl (fun ls hl => ?_)
            obtain ⟨y_107, ey_107⟩ : ∃ y : Int32, y = ii + 1 := ⟨_, rfl⟩
            first | have ty_107 := i_add (a := ii.toInt) (b := 1) rfl (by decide) ey_107 (by omega) (by omega) | skip
            refine lv_iinc (v := y_107) (lv' := [(3, .int y_107), (2, .int y_106), (4, .ref d_79), (0, .ref gt), (1, .ref pt)]) hx hb dX9_fittingDocuments_46 hl (k := 2) rfl (by rw [ey_107]; rfl) (by decide) rfl (fun ls hl => ?_)
            refine lv_goto (tgt := 4) hx hb dX9_fittingDocuments_49 (by decide) ?_
            exact ih4 y_106 y_107 (by first | omega | assumption | decide) (by omega) _ _ ls hP hD hS (lv_sub hl [0, 1, 3, 4] rfl)
  have lit_107 : (0 : Int32).toInt = 0 := by decide
  have lit_108 : (0 : Int32).toInt = 0 := by decide
  exact loop4 _ 0 0 (by first | omega | assumption | decide) (Nat.lt_succ_self _) _ _ ls hP hD hS (lv_sub hl [0, 1, 2, 3] rfl)
theorem dX9_admittingPatterns_0 : decode cX9_admittingPatterns 0 = .ok (.iconst 0, 1) := by decide +kernel
theorem dX9_admittingPatterns_1 : decode cX9_admittingPatterns 1 = .ok (.istore_n 2, 1) := by decide +kernel
theorem dX9_admittingPatterns_2 : decode cX9_admittingPatterns 2 = .ok (.iconst 0, 1) := by decide +kernel
theorem dX9_admittingPatterns_3 : decode cX9_admittingPatterns 3 = .ok (.istore_n 3, 1) := by decide +kernel
theorem dX9_admittingPatterns_4 : decode cX9_admittingPatterns 4 = .ok (.iload_n 3, 1) := by decide +kernel
theorem dX9_admittingPatterns_5 : decode cX9_admittingPatterns 5 = .ok (.aload_n 0, 1) := by decide +kernel
theorem dX9_admittingPatterns_6 : decode cX9_admittingPatterns 6 = .ok (.getfield 29, 3) := by decide +kernel
theorem dX9_admittingPatterns_9 : decode cX9_admittingPatterns 9 = .ok (.getfield 103, 3) := by decide +kernel
theorem dX9_admittingPatterns_12 : decode cX9_admittingPatterns 12 = .ok (.arraylength, 1) := by decide +kernel
theorem dX9_admittingPatterns_13 : decode cX9_admittingPatterns 13 = .ok (.if_icmp .ge 53, 3) := by decide +kernel
theorem dX9_admittingPatterns_16 : decode cX9_admittingPatterns 16 = .ok (.aload_n 0, 1) := by decide +kernel
theorem dX9_admittingPatterns_17 : decode cX9_admittingPatterns 17 = .ok (.getfield 29, 3) := by decide +kernel
theorem dX9_admittingPatterns_20 : decode cX9_admittingPatterns 20 = .ok (.iload_n 3, 1) := by decide +kernel
theorem dX9_admittingPatterns_21 : decode cX9_admittingPatterns 21 = .ok (.invokevirtual 140, 3) := by decide +kernel
theorem dX9_admittingPatterns_24 : decode cX9_admittingPatterns 24 = .ok (.astore 4, 2) := by decide +kernel
theorem dX9_admittingPatterns_26 : decode cX9_admittingPatterns 26 = .ok (.aload 4, 2) := by decide +kernel
theorem dX9_admittingPatterns_28 : decode cX9_admittingPatterns 28 = .ok (.ifnull 32, 3) := by decide +kernel
theorem dX9_admittingPatterns_31 : decode cX9_admittingPatterns 31 = .ok (.aload_n 0, 1) := by decide +kernel
theorem dX9_admittingPatterns_32 : decode cX9_admittingPatterns 32 = .ok (.getfield 57, 3) := by decide +kernel
theorem dX9_admittingPatterns_35 : decode cX9_admittingPatterns 35 = .ok (.aload 4, 2) := by decide +kernel
theorem dX9_admittingPatterns_37 : decode cX9_admittingPatterns 37 = .ok (.aload_n 0, 1) := by decide +kernel
theorem dX9_admittingPatterns_38 : decode cX9_admittingPatterns 38 = .ok (.getfield 29, 3) := by decide +kernel
theorem dX9_admittingPatterns_41 : decode cX9_admittingPatterns 41 = .ok (.invokevirtual 212, 3) := by decide +kernel
theorem dX9_admittingPatterns_44 : decode cX9_admittingPatterns 44 = .ok (.iload_n 2, 1) := by decide +kernel
theorem dX9_admittingPatterns_45 : decode cX9_admittingPatterns 45 = .ok (.aload_n 0, 1) := by decide +kernel
theorem dX9_admittingPatterns_46 : decode cX9_admittingPatterns 46 = .ok (.getfield 57, 3) := by decide +kernel
theorem dX9_admittingPatterns_49 : decode cX9_admittingPatterns 49 = .ok (.getfield 216, 3) := by decide +kernel
theorem dX9_admittingPatterns_52 : decode cX9_admittingPatterns 52 = .ok (.iload_n 1, 1) := by decide +kernel
theorem dX9_admittingPatterns_53 : decode cX9_admittingPatterns 53 = .ok (.iushr, 1) := by decide +kernel
theorem dX9_admittingPatterns_54 : decode cX9_admittingPatterns 54 = .ok (.iconst 1, 1) := by decide +kernel
theorem dX9_admittingPatterns_55 : decode cX9_admittingPatterns 55 = .ok (.iand, 1) := by decide +kernel
theorem dX9_admittingPatterns_56 : decode cX9_admittingPatterns 56 = .ok (.iload_n 3, 1) := by decide +kernel
theorem dX9_admittingPatterns_57 : decode cX9_admittingPatterns 57 = .ok (.ishl, 1) := by decide +kernel
theorem dX9_admittingPatterns_58 : decode cX9_admittingPatterns 58 = .ok (.ior, 1) := by decide +kernel
theorem dX9_admittingPatterns_59 : decode cX9_admittingPatterns 59 = .ok (.istore_n 2, 1) := by decide +kernel
theorem dX9_admittingPatterns_60 : decode cX9_admittingPatterns 60 = .ok (.iinc 3 1, 3) := by decide +kernel
theorem dX9_admittingPatterns_63 : decode cX9_admittingPatterns 63 = .ok (.goto (-59), 3) := by decide +kernel
theorem dX9_admittingPatterns_66 : decode cX9_admittingPatterns 66 = .ok (.iload_n 2, 1) := by decide +kernel
theorem dX9_admittingPatterns_67 : decode cX9_admittingPatterns 67 = .ok (.ireturn, 1) := by decide +kernel
def mwX9_admittingPatterns : List Cond := .code yX9_admittingPatterns cX9_admittingPatterns 5 (some .int) :: (([.fieldLink RX9 29 "PatternGate" "book" "LPatternGate$Book;", .fieldLink RX9 103 "PatternGate$Book" "patterns" "[LPatternGate$Pattern;", .methodLink RX9 140 yX0_patternAt, .instanceMethod yX0_patternAt, .selects RX0 yX0_patternAt yX0_patternAt, .initialized RX0, .fieldLink RX9 57 "PatternGate" "walk" "LPatternGate$Walk;", .methodLink RX9 212 yX8_through, .instanceMethod yX8_through, .selects RX8 yX8_through yX8_through, .initialized RX8, .fieldLink RX9 216 "PatternGate$Walk" "candidates" "I"] : List Cond) ++ (wsX90 ++ (wsX00 ++ (wsX80 ++ (mwX0_patternAt2 ++ (mwX8_through))))))
theorem fin_X9_admittingPatterns_X0 : ∀ w ∈ wsX00, w ∈ mwX9_admittingPatterns := fun w h => List.mem_cons_of_mem _ (List.mem_append_right _ (List.mem_append_right _ (List.mem_append_left _ h)))
theorem fin_X9_admittingPatterns_X8 : ∀ w ∈ wsX80, w ∈ mwX9_admittingPatterns := fun w h => List.mem_cons_of_mem _ (List.mem_append_right _ (List.mem_append_right _ (List.mem_append_right _ (List.mem_append_left _ h))))
theorem fin_X9_admittingPatterns_X9 : ∀ w ∈ wsX90, w ∈ mwX9_admittingPatterns := fun w h => List.mem_cons_of_mem _ (List.mem_append_right _ (List.mem_append_left _ h))
set_option maxRecDepth 100000 in
theorem gd_mwX8_through : mwX8_through.all goodWord = true := by decide +kernel
set_option maxRecDepth 20000 in
theorem mg_X9_admittingPatterns_X0_patternAt_140 : GoodIn mwX9_admittingPatterns (wsV RX9 140 RX0 yX0_patternAt mwX0_patternAt2) := gi_app (A := [.methodLink RX9 140 yX0_patternAt, .instanceMethod yX0_patternAt, .selects RX0 yX0_patternAt yX0_patternAt, .initialized RX0]) (goodIn_r _ [3, 4, 5, 6] (by decide +kernel) (by decide +kernel)) (gi_sub gd_mwX0_patternAt2 (fun w h => List.mem_cons_of_mem _ (List.mem_append_right _ (List.mem_append_right _ (List.mem_append_right _ (List.mem_append_right _ (List.mem_append_left _ h)))))))
set_option maxRecDepth 20000 in
theorem mg_X9_admittingPatterns_X8_through_212 : GoodIn mwX9_admittingPatterns (wsV RX9 212 RX8 yX8_through mwX8_through) := gi_app (A := [.methodLink RX9 212 yX8_through, .instanceMethod yX8_through, .selects RX8 yX8_through yX8_through, .initialized RX8]) (goodIn_r _ [8, 9, 10, 11] (by decide +kernel) (by decide +kernel)) (gi_sub gd_mwX8_through (fun w h => List.mem_cons_of_mem _ (List.mem_append_right _ (List.mem_append_right _ (List.mem_append_right _ (List.mem_append_right _ (List.mem_append_right _ (h))))))))
set_option maxHeartbeats 4000000 in
set_option maxRecDepth 100000 in
/-- gate: admittingPatterns -/
theorem s_g_admittingPatterns (l : Launch) (dC : Nat → ClassId) (dI : Nat → Nat → Nat) (W9 : va_W) (T9 : List (ClassId × FieldType)) (B9 : Nat → Prop) (gt tp bk mb mu rd cm wk pp so ty : Nat) (st9 td fk fpl un mk : Int32) (li : Nat) (cli : ClassId) (fli : Nat → Int32) (x0 x1 : Int32) (sz : Nat) (i1 : Int32) (hB9 : gB W9 T9 B9) (hbk : B9 bk) : Met l yX9_admittingPatterns mwX9_admittingPatterns ({ frames := 3, cells := 0, slots := 0, locals := 180 }) (va_Pc [.ref gt, .int i1] (fun U => U.heap.size = sz ∧ va_P (dC, dI) vwCl ([(gt, .inr (9, [.int st9, .ref tp, .int td, .int fk, .int fpl, .ref bk, .int un, .ref mb, .ref mu, .int mk, .ref rd, .ref cm, .ref wk, .ref pp, .ref so, .ref ty])), (wk, .inr (8, [.int x0, .int x1, .ref li])), (li, .inl (cli, 24, .inl fli))]) U.heap ∧ va_K (dC, dI) vwCl ([(cli, .int)]) U ∧ va_D (fun _ => True) ([(gt, .inr (9, [.int st9, .ref tp, .int td, .int fk, .int fpl, .ref bk, .int un, .ref mb, .ref mu, .int mk, .ref rd, .ref cm, .ref wk, .ref pp, .ref so, .ref ty])), (wk, .inr (8, [.int x0, .int x1, .ref li])), (li, .inl (cli, 24, .inl fli))]) ∧ va_P (dC, dI) vwCl W9 U.heap ∧ va_K (dC, dI) vwCl T9 U ∧ (∀ q ∈ W9, ¬ va_A ([(gt, .inr (9, [.int st9, .ref tp, .int td, .int fk, .int fpl, .ref bk, .int un, .ref mb, .ref mu, .int mk, .ref rd, .ref cm, .ref wk, .ref pp, .ref so, .ref ty])), (wk, .inr (8, [.int x0, .int x1, .ref li])), (li, .inl (cli, 24, .inl fli))]) sz q.1))) (va_Qi (fun (_ : Int32) (_ : Unit) => True) (fun _ t => ∃ (y1 y2 : Int32) (f9 : Nat → Int32), va_P (dC, dI) vwCl [(gt, .inr (9, [.int st9, .ref tp, .int td, .int fk, .int fpl, .ref bk, .int un, .ref mb, .ref mu, .int mk, .ref rd, .ref cm, .ref wk, .ref pp, .ref so, .ref ty])), (wk, .inr (8, [.int y1, .int y2, .ref li])), (li, .inl (cli, 24, .inl f9))] t.heap ∧ va_K (dC, dI) vwCl [(cli, .int)] t ∧ va_D (va_A ([(gt, .inr (9, [.int st9, .ref tp, .int td, .int fk, .int fpl, .ref bk, .int un, .ref mb, .ref mu, .int mk, .ref rd, .ref cm, .ref wk, .ref pp, .ref so, .ref ty])), (wk, .inr (8, [.int x0, .int x1, .ref li])), (li, .inl (cli, 24, .inl fli))]) sz) [(gt, .inr (9, [.int st9, .ref tp, .int td, .int fk, .int fpl, .ref bk, .int un, .ref mb, .ref mu, .int mk, .ref rd, .ref cm, .ref wk, .ref pp, .ref so, .ref ty])), (wk, .inr (8, [.int y1, .int y2, .ref li])), (li, .inl (cli, 24, .inl f9))]) (va_A ([(gt, .inr (9, [.int st9, .ref tp, .int td, .int fk, .int fpl, .ref bk, .int un, .ref mb, .ref mu, .int mk, .ref rd, .ref cm, .ref wk, .ref pp, .ref so, .ref ty])), (wk, .inr (8, [.int x0, .int x1, .ref li])), (li, .inl (cli, 24, .inl fli))]) sz)) 0 0 (va_A ([(gt, .inr (9, [.int st9, .ref tp, .int td, .int fk, .int fpl, .ref bk, .int un, .ref mb, .ref mu, .int mk, .ref rd, .ref cm, .ref wk, .ref pp, .ref so, .ref ty])), (wk, .inr (8, [.int x0, .int x1, .ref li])), (li, .inl (cli, 24, .inl fli))]) sz) := by
  refine Met.ofW (cc := cX9_admittingPatterns) (maxL := 5) (ret := (some .int)) (by decide +kernel) rfl ?_
  intro p e s m args below meth c s₁ B hml hv
  obtain ⟨rfl, hsz, hP, hK, hD0, hQ0, hKQ, hQA⟩ := hv
  have hx := B.exec
  have hb := B.bytes
  have hr := B.returns
  have hts := atoms_spec (ws := mwX9_admittingPatterns) B.pre
  have hown : s.vm.findClass RX9 = some m.cls := findClass_of_methodNamed B.named
  have hlocks := B.notSynchronized
  subst hsz
  have hD := hD0.self (sz := s.heap.size)
  generalize hAe : va_A ([(gt, .inr (9, [.int st9, .ref tp, .int td, .int fk, .int fpl, .ref bk, .int un, .ref mb, .ref mu, .int mk, .ref rd, .ref cm, .ref wk, .ref pp, .ref so, .ref ty])), (wk, .inr (8, [.int x0, .int x1, .ref li])), (li, .inl (cli, 24, .inl fli))]) s.heap.size = A at hD hQA ⊢
  have hA : ∀ q : Nat, s.heap.size ≤ q → A q := fun q h => by rw [← hAe]; exact Or.inr h
  have hP : va_P (dC, dI) vwCl [(gt, .inr (9, [.int st9, .ref tp, .int td, .int fk, .int fpl, .ref bk, .int un, .ref mb, .ref mu, .int mk, .ref rd, .ref cm, .ref wk, .ref pp, .ref so, .ref ty])), (wk, .inr (8, [.int x0, .int x1, .ref li])), (li, .inl (cli, 24, .inl fli))] s.heap := hP
  have hD : va_D A [(gt, .inr (9, [.int st9, .ref tp, .int td, .int fk, .int fpl, .ref bk, .int un, .ref mb, .ref mu, .int mk, .ref rd, .ref cm, .ref wk, .ref pp, .ref so, .ref ty])), (wk, .inr (8, [.int x0, .int x1, .ref li])), (li, .inl (cli, 24, .inl fli))] := hD
  have hK : va_K (dC, dI) vwCl [(cli, .int)] s := hK
  generalize hH : s.heap = H at hP ⊢
  have hS : va_S A s.heap H [] := by rw [← hH]; exact va_S.rf
  have hQ := q_at hQ0 hQA hS
  have hl := lv_entry ([.ref gt, .int i1]) (n := 5) (Nat.le_of_ble_eq_true rfl)
  rw [lg_entry_eq]
  generalize (lg_sl ([.ref gt, .int i1]) ++ List.replicate (5 - (lg_sl ([.ref gt, .int i1])).length) Slot.unset).toArray = ls at hl ⊢
  have hl : lv_has ls 5 [(0, .ref gt), (1, .int i1)] := hl
  have rg_i1 := i_rng i1
  obtain ⟨ear, hB3, hear⟩ := hB9 bk hbk
  have hB0 := hB3.poB
  obtain ⟨ds, ps, nd, np, fd, fp, cD, cP, m1, m2, m3, m4, m5, hnd, hnp, hds, hps⟩ := id hB3
  obtain ⟨k_1, hk_1⟩ := List.getElem?_of_mem m1
  obtain ⟨k_2, hk_2⟩ := List.getElem?_of_mem m2
  obtain ⟨j_3, hj_3⟩ := List.getElem?_of_mem m3
  obtain ⟨k_4, hk_4⟩ := List.getElem?_of_mem m4
  obtain ⟨j_5, hj_5⟩ := List.getElem?_of_mem m5
  have r_un := i_rng un
  have r_mk := i_rng mk
  have r_td := i_rng td
  refine lv_iconst (v := 0) hx hb dX9_admittingPatterns_0 (by decide) ?_
  refine lv_istore_n (lv' := [(2, .int 0), (0, .ref gt), (1, .int i1)]) hx hb dX9_admittingPatterns_1 rfl hl (by decide) rfl (fun ls hl => ?_)
  refine lv_iconst (v := 0) hx hb dX9_admittingPatterns_2 (by decide) ?_
  refine lv_istore_n (lv' := [(3, .int 0), (2, .int 0), (0, .ref gt), (1, .int i1)]) hx hb dX9_admittingPatterns_3 rfl hl (by decide) rfl (fun ls hl => ?_)
  have loop4 : ∀ (lm4 : Nat) (bi ii xa xb : Int32) (ga : Nat → Int32), (0 ≤ ii.toInt) → (((np : Int) - ii.toInt).toNat) < lm4 → ∀ (H : Heap) (locs : List Loc) (ls : Array Slot), va_P (dC, dI) vwCl [(gt, .inr (9, [.int st9, .ref tp, .int td, .int fk, .int fpl, .ref bk, .int un, .ref mb, .ref mu, .int mk, .ref rd, .ref cm, .ref wk, .ref pp, .ref so, .ref ty])), (wk, .inr (8, [.int xa, .int xb, .ref li])), (li, .inl (cli, 24, .inl ga))] H → va_D A [(gt, .inr (9, [.int st9, .ref tp, .int td, .int fk, .int fpl, .ref bk, .int un, .ref mb, .ref mu, .int mk, .ref rd, .ref cm, .ref wk, .ref pp, .ref so, .ref ty])), (wk, .inr (8, [.int xa, .int xb, .ref li])), (li, .inl (cli, 24, .inl ga))] → va_S A s.heap H locs → lv_has ls 5 [(3, .int ii), (2, .int bi), (0, .ref gt), (1, .int i1)] → W p l e (headSpec mwX9_admittingPatterns ({ frames := 3, cells := 0, slots := 0, locals := 180 })).room s m ([.ref gt, .int i1]).toArray below meth c H locs 0 0 (MQ below (va_Qi (fun (_ : Int32) (_ : Unit) => True) (fun _ t => ∃ (y1 y2 : Int32) (f9 : Nat → Int32), va_P (dC, dI) vwCl [(gt, .inr (9, [.int st9, .ref tp, .int td, .int fk, .int fpl, .ref bk, .int un, .ref mb, .ref mu, .int mk, .ref rd, .ref cm, .ref wk, .ref pp, .ref so, .ref ty])), (wk, .inr (8, [.int y1, .int y2, .ref li])), (li, .inl (cli, 24, .inl f9))] t.heap ∧ va_K (dC, dI) vwCl [(cli, .int)] t ∧ va_D A [(gt, .inr (9, [.int st9, .ref tp, .int td, .int fk, .int fpl, .ref bk, .int un, .ref mb, .ref mu, .int mk, .ref rd, .ref cm, .ref wk, .ref pp, .ref so, .ref ty])), (wk, .inr (8, [.int y1, .int y2, .ref li])), (li, .inl (cli, 24, .inl f9))]) A) ([.ref gt, .int i1]).toArray s 0 0 A) (F0 m 4 ls []) := by
    intro lm4
    induction lm4 with
    | zero => intro bi ii xa xb ga v4_0 hm4; exact absurd hm4 (Nat.not_lt_zero _)
    | succ lm4 ih4 =>
      intro bi ii xa xb ga v4_0 hm4 H locs ls hP hD hS hl
      have hQ := q_at hQ0 hQA hS
      have rg_bi := i_rng bi
      have rg_ii := i_rng ii
      have rg_xa := i_rng xa
      have rg_xb := i_rng xb
      refine lv_iload_n hx hb dX9_admittingPatterns_4 rfl (lv_at hl 0 rfl) ?_
      refine lv_aload_n hx hb dX9_admittingPatterns_5 rfl (lv_at hl 2 rfl) ?_
      refine va_get (D := (dC, dI)) (ci := 9) (v := .ref bk) (C := RX9) (T := TX9) (N := 16) hx hb hts fin_X9_admittingPatterns_X9 hown hK hP 0 rfl rfl 5 (by decide) (hts (.fieldLink RX9 29 "PatternGate" "book" "LPatternGate$Book;") (List.mem_of_getElem? (i := 1) (by decide +kernel))) (fun _ h9 => h9) rfl dX9_admittingPatterns_6 ?_
      refine va_get (D := (dC, dI)) (ci := 0) (v := .ref ps) (C := RX0) (T := TX0) (N := 3) hx hb hts fin_X9_admittingPatterns_X0 hown hKQ hQ k_1 hk_1 rfl 1 (by decide) (hts (.fieldLink RX9 103 "PatternGate$Book" "patterns" "[LPatternGate$Pattern;") (List.mem_of_getElem? (i := 2) (by decide +kernel))) (fun _ h9 => h9) rfl dX9_admittingPatterns_9 ?_
      refine va_alen hx hb hKQ hQ k_4 j_5 hk_4 hj_5 rfl dX9_admittingPatterns_12 ?_
      refine lv_topi (fun y_6 ey_6 => ?_)
      have ty_6 : y_6.toInt = (np : Int) := i_len ey_6 (by omega)
      refine lv_icmp_ge (tgt := 66) hx hb dX9_admittingPatterns_13 (by decide) (fun k_7 => ?_) (fun k_7 => ?_)
      · have tk_7 := c_ge (a := ii.toInt) (b := y_6.toInt) rfl rfl k_7
        refine lv_iload_n hx hb dX9_admittingPatterns_66 rfl (lv_at hl 1 rfl) ?_
        have hP9 := hP.sub (ws' := [(gt, .inr (9, [.int st9, .ref tp, .int td, .int fk, .int fpl, .ref bk, .int un, .ref mb, .ref mu, .int mk, .ref rd, .ref cm, .ref wk, .ref pp, .ref so, .ref ty])), (wk, .inr (8, [.int xa, .int xb, .ref li])), (li, .inl (cli, 24, .inl ga))]) [0, 1, 2] rfl
        have hD9 := hD.sub (ws' := [(gt, .inr (9, [.int st9, .ref tp, .int td, .int fk, .int fpl, .ref bk, .int un, .ref mb, .ref mu, .int mk, .ref rd, .ref cm, .ref wk, .ref pp, .ref so, .ref ty])), (wk, .inr (8, [.int xa, .int xb, .ref li])), (li, .inl (cli, 24, .inl ga))]) [0, 1, 2] (by decide) rfl
        have hK9 := hK.sub (tys' := [(cli, .int)]) [0] rfl
        exact W.iret hx hb hr (fun t ht hW => ⟨⟨_, (), rfl, trivial, xa, xb, ga, by rw [ht]; exact hP9, va_K.moved hW.alike hK9, hD9⟩, hS.F ht⟩) hS.2.2 dX9_admittingPatterns_67
      · have tk_7 := c_nge (a := ii.toInt) (b := y_6.toInt) rfl rfl k_7
        refine lv_aload_n hx hb dX9_admittingPatterns_16 rfl (lv_at hl 2 rfl) ?_
        refine va_get (D := (dC, dI)) (ci := 9) (v := .ref bk) (C := RX9) (T := TX9) (N := 16) hx hb hts fin_X9_admittingPatterns_X9 hown hK hP 0 rfl rfl 5 (by decide) (hts (.fieldLink RX9 29 "PatternGate" "book" "LPatternGate$Book;") (List.mem_of_getElem? (i := 1) (by decide +kernel))) (fun _ h9 => h9) rfl dX9_admittingPatterns_17 ?_
        refine lv_iload_n hx hb dX9_admittingPatterns_20 rfl (lv_at hl 0 rfl) ?_
        have hPc := hQ
        have hKc := hKQ
        refine va_csq (W.runV (As := [.int ii]) (rest := []) ⟨hx, hb, hml, hown, hts⟩ (s_patternAt2 l dC dI W9 T9 bk ear ii hB3) (cwV 1 hts mg_X9_admittingPatterns_X0_patternAt_140 rfl rfl rfl (by decide +kernel) ⟨Nat.le_of_ble_eq_true rfl, Nat.le_of_ble_eq_true rfl⟩) ⟨fun a U g mk q => by obtain ⟨q0, qP, qK⟩ := q; exact ⟨q0, qP, va_K.moved (u := U) (U := U.calling g mk a) (Vm.Alike.refl U.vm) qK⟩, va_recv hKc hPc (ci := 0) (q0 := k_1) rfl hk_1, fun U hU hW => ⟨rfl, by rw [hU]; exact hPc, va_K.moved hW.alike hKc⟩⟩ rfl rfl hl.1 rfl (lv_room (Nat.le_of_ble_eq_true rfl)) dX9_admittingPatterns_21 ⟨Nat.le_of_ble_eq_true rfl, Nat.le_of_ble_eq_true rfl⟩) (fun r_9 hw => ?_)
        rcases hw with rfl | ⟨d_10, rfl, hd_10⟩
        · refine W.eq (g2 := F0 m 24 ls [.null]) rfl ?_
          refine lv_astoreN (lv' := [(4, .null), (3, .int ii), (2, .int bi), (0, .ref gt), (1, .int i1)]) hx hb dX9_admittingPatterns_24 hl (by decide) rfl (fun ls hl => ?_)
          refine lv_aloadN hx hb dX9_admittingPatterns_26 (lv_at hl 0 rfl) ?_
          refine lv_ifnullN (tgt := 60) hx hb dX9_admittingPatterns_28 (by decide) ?_
          obtain ⟨y_11, ey_11⟩ : ∃ y : Int32, y = ii + 1 := ⟨_, rfl⟩
          first | have ty_11 := i_add (a := ii.toInt) (b := 1) rfl (by decide) ey_11 (by omega) (by omega) | skip
          refine lv_iinc (v := y_11) (lv' := [(3, .int y_11), (4, .null), (2, .int bi), (0, .ref gt), (1, .int i1)]) hx hb dX9_admittingPatterns_60 hl (k := 1) rfl (by rw [ey_11]; rfl) (by decide) rfl (fun ls hl => ?_)
          refine lv_goto (tgt := 4) hx hb dX9_admittingPatterns_63 (by decide) ?_
          exact ih4 bi y_11 xa xb ga (by first | omega | assumption | decide) (by omega) _ _ ls hP hD hS (lv_sub hl [0, 2, 3, 4] rfl)
        · refine W.eq (g2 := F0 m 24 ls [.ref d_10]) rfl ?_
          have hd_10P := hd_10.poP
          have hd_10Q := hd_10
          obtain ⟨q_12, a_13, a_14, a_15, a_16, a_17, a_18, n_19, n_20, n_21, n_22, n_23, n_24, n_25, f_26, f_27, f_28, f_29, f_30, f_31, f_32, c_33, c_34, c_35, c_36, c_37, c_38, c_39, m_40, ⟨m_41, m_42⟩, ⟨m_43, m_44⟩, ⟨m_45, m_46⟩, ⟨m_47, m_48⟩, ⟨m_49, m_50⟩, ⟨m_51, m_52⟩, ⟨m_53, m_54, h_65⟩, h_55, h_56, h_57, h_58, h_59, h_60, h_61, h_62, h_63, h_64⟩ := hd_10
          obtain ⟨k_66, hk_66⟩ := List.getElem?_of_mem m_40
          obtain ⟨k_67, hk_67⟩ := List.getElem?_of_mem m_41
          obtain ⟨j_68, hj_68⟩ := List.getElem?_of_mem m_42
          obtain ⟨k_69, hk_69⟩ := List.getElem?_of_mem m_43
          obtain ⟨j_70, hj_70⟩ := List.getElem?_of_mem m_44
          obtain ⟨k_71, hk_71⟩ := List.getElem?_of_mem m_45
          obtain ⟨j_72, hj_72⟩ := List.getElem?_of_mem m_46
          obtain ⟨k_73, hk_73⟩ := List.getElem?_of_mem m_47
          obtain ⟨j_74, hj_74⟩ := List.getElem?_of_mem m_48
          obtain ⟨k_75, hk_75⟩ := List.getElem?_of_mem m_49
          obtain ⟨j_76, hj_76⟩ := List.getElem?_of_mem m_50
          obtain ⟨k_77, hk_77⟩ := List.getElem?_of_mem m_51
          obtain ⟨j_78, hj_78⟩ := List.getElem?_of_mem m_52
          obtain ⟨k_79, hk_79⟩ := List.getElem?_of_mem m_53
          obtain ⟨j_80, hj_80⟩ := List.getElem?_of_mem m_54
          refine lv_astore (lv' := [(4, .ref d_10), (3, .int ii), (2, .int bi), (0, .ref gt), (1, .int i1)]) hx hb dX9_admittingPatterns_24 hl (by decide) rfl (fun ls hl => ?_)
          refine lv_aload hx hb dX9_admittingPatterns_26 (lv_at hl 0 rfl) ?_
          refine lv_ifnull hx hb dX9_admittingPatterns_28 ?_
          refine lv_aload_n hx hb dX9_admittingPatterns_31 rfl (lv_at hl 3 rfl) ?_
          refine va_get (D := (dC, dI)) (ci := 9) (v := .ref wk) (C := RX9) (T := TX9) (N := 16) hx hb hts fin_X9_admittingPatterns_X9 hown hK hP 0 rfl rfl 12 (by decide) (hts (.fieldLink RX9 57 "PatternGate" "walk" "LPatternGate$Walk;") (List.mem_of_getElem? (i := 7) (by decide +kernel))) (fun _ h9 => h9) rfl dX9_admittingPatterns_32 ?_
          refine lv_aload hx hb dX9_admittingPatterns_35 (lv_at hl 0 rfl) ?_
          refine lv_aload_n hx hb dX9_admittingPatterns_37 rfl (lv_at hl 3 rfl) ?_
          refine va_get (D := (dC, dI)) (ci := 9) (v := .ref bk) (C := RX9) (T := TX9) (N := 16) hx hb hts fin_X9_admittingPatterns_X9 hown hK hP 0 rfl rfl 5 (by decide) (hts (.fieldLink RX9 29 "PatternGate" "book" "LPatternGate$Book;") (List.mem_of_getElem? (i := 1) (by decide +kernel))) (fun _ h9 => h9) rfl dX9_admittingPatterns_38 ?_
          have hPc := hP.sub (ws' := [(wk, .inr (8, [.int xa, .int xb, .ref li])), (li, .inl (cli, 24, .inl ga))]) [1, 2] rfl
          have hKc := hK.sub (tys' := [(cli, .int)]) [0] rfl
          have hDc := hD.sub (ws' := [(wk, .inr (8, [.int xa, .int xb, .ref li])), (li, .inl (cli, 24, .inl ga))]) [1, 2] (by decide) rfl
          have hFc := va_free (wc := [(wk, .inr (8, [.int xa, .int xb, .ref li])), (li, .inl (cli, 24, .inl ga))]) hD hS hA [1, 2] rfl
          refine va_callv (va_runV (As := [.ref d_10, .ref bk]) (rest := []) ⟨hx, hb, hml, hown, hts⟩ (s_through l dC dI W9 T9 d_10 bk wk li cli ga xa xb H.size hd_10P hB0) (cwV 2 hts mg_X9_admittingPatterns_X8_through_212 rfl rfl rfl (by decide +kernel) ⟨Nat.le_of_ble_eq_true rfl, Nat.le_of_ble_eq_true rfl⟩) ⟨fun a U g mk q => by obtain ⟨q0, q1, qP, qK, qD, qE0, qE1, qE2⟩ := q; exact ⟨q0, q1, qP, va_K.moved (u := U) (U := U.calling g mk a) (Vm.Alike.refl U.vm) qK, qD, qE0, va_K.moved (u := U) (U := U.calling g mk a) (Vm.Alike.refl U.vm) qE1, qE2⟩, va_recv hKc hPc (ci := 8) (q0 := 0) rfl rfl, fun U hU hW => ⟨rfl, by rw [hU], by rw [hU]; exact hPc, va_K.moved hW.alike hKc, hDc.weaken (fun _ _ _ _ => trivial), (by rw [hU]; exact hQ), va_K.moved hW.alike hKQ, (fun q hq => qA_sub (hQA q hq) hFc)⟩⟩ rfl rfl hl.1 rfl (lv_room (Nat.le_of_ble_eq_true rfl)) dX9_admittingPatterns_41 ⟨Nat.le_of_ble_eq_true rfl, Nat.le_of_ble_eq_true rfl⟩) hS (fun q _ h => hFc q h) hFc (fun u t H1 locs ht hvm hw hB hz1 hk1 hS => ?_)
          obtain ⟨y_83, y_84, f_85, hP1, hK1, hD1⟩ := hB
          rw [ht] at hP1
          obtain ⟨hP, hD⟩ := va_join (wr := [(gt, .inr (9, [.int st9, .ref tp, .int td, .int fk, .int fpl, .ref bk, .int un, .ref mb, .ref mu, .int mk, .ref rd, .ref cm, .ref wk, .ref pp, .ref so, .ref ty]))]) (w1 := [(wk, .inr (8, [.int y_83, .int y_84, .ref li])), (li, .inl (cli, 24, .inl f_85))]) hP hD [1, 2] [0] rfl rfl (by decide) (by decide) hk1 hFc hP1 hD1
          generalize H1 = H at hP hS ⊢
          have hP : va_P (dC, dI) vwCl [(gt, .inr (9, [.int st9, .ref tp, .int td, .int fk, .int fpl, .ref bk, .int un, .ref mb, .ref mu, .int mk, .ref rd, .ref cm, .ref wk, .ref pp, .ref so, .ref ty])), (wk, .inr (8, [.int y_83, .int y_84, .ref li])), (li, .inl (cli, 24, .inl f_85))] H := hP
          have hD : va_D A [(gt, .inr (9, [.int st9, .ref tp, .int td, .int fk, .int fpl, .ref bk, .int un, .ref mb, .ref mu, .int mk, .ref rd, .ref cm, .ref wk, .ref pp, .ref so, .ref ty])), (wk, .inr (8, [.int y_83, .int y_84, .ref li])), (li, .inl (cli, 24, .inl f_85))] := hD
          have hQ := q_at hQ0 hQA hS
          refine lv_iload_n hx hb dX9_admittingPatterns_44 rfl (lv_at hl 2 rfl) ?_
          refine lv_aload_n hx hb dX9_admittingPatterns_45 rfl (lv_at hl 3 rfl) ?_
          refine va_get (D := (dC, dI)) (ci := 9) (v := .ref wk) (C := RX9) (T := TX9) (N := 16) hx hb hts fin_X9_admittingPatterns_X9 hown hK hP 0 rfl rfl 12 (by decide) (hts (.fieldLink RX9 57 "PatternGate" "walk" "LPatternGate$Walk;") (List.mem_of_getElem? (i := 7) (by decide +kernel))) (fun _ h9 => h9) rfl dX9_admittingPatterns_46 ?_
          refine va_get (D := (dC, dI)) (ci := 8) (v := .int y_83) (C := RX8) (T := TX8) (N := 3) hx hb hts fin_X9_admittingPatterns_X8 hown hK hP 1 rfl rfl 0 (by decide) (hts (.fieldLink RX9 216 "PatternGate$Walk" "candidates" "I") (List.mem_of_getElem? (i := 12) (by decide +kernel))) (fun _ h9 => h9) rfl dX9_admittingPatterns_49 ?_
          refine lv_iload_n hx hb dX9_admittingPatterns_52 rfl (lv_at hl 4 rfl) ?_
          refine lv_iushr hx hb dX9_admittingPatterns_53 rfl ?_
          refine lv_topi (fun y_86 ey_86 => ?_)
          refine lv_iconst (v := 1) hx hb dX9_admittingPatterns_54 (by decide) ?_
          refine lv_iand hx hb dX9_admittingPatterns_55 ?_
          refine lv_topi (fun y_87 ey_87 => ?_)
          have ty_87 := i_and (b := 1) (by decide) (by decide) ey_87
          refine lv_iload_n hx hb dX9_admittingPatterns_56 rfl (lv_at hl 1 rfl) ?_
          refine lv_ishl hx hb dX9_admittingPatterns_57 ?_
          refine lv_topi (fun y_88 ey_88 => ?_)
          have rg_y_88 := i_rng y_88
          refine lv_ior hx hb dX9_admittingPatterns_58 ?_
          refine lv_topi (fun y_89 ey_89 => ?_)
          have rg_y_89 := i_rng y_89
          refine lv_istore_n (lv' := [(2, .int y_89), (4, .ref d_10), (3, .int ii), (0, .ref gt), (1, .int i1)]) hx hb dX9_admittingPatterns_59 rfl hl (by decide) rfl (fun ls hl => ?_)
          obtain ⟨y_90, ey_90⟩ : ∃ y : Int32, y = ii + 1 := ⟨_, rfl⟩
          first | have ty_90 := i_add (a := ii.toInt) (b := 1) rfl (by decide) ey_90 (by omega) (by omega) | skip
          refine lv_iinc (v := y_90) (lv' := [(3, .int y_90), (2, .int y_89), (4, .ref d_10), (0, .ref gt), (1, .int i1)]) hx hb dX9_admittingPatterns_60 hl (k := 2) rfl (by rw [ey_90]; rfl) (by decide) rfl (fun ls hl => ?_)
          refine lv_goto (tgt := 4) hx hb dX9_admittingPatterns_63 (by decide) ?_
          exact ih4 y_89 y_90 y_83 y_84 f_85 (by first | omega | assumption | decide) (by omega) _ _ ls hP hD hS (lv_sub hl [0, 1, 3, 4] rfl)
  have lit_90 : (0 : Int32).toInt = 0 := by decide
  have lit_91 : (0 : Int32).toInt = 0 := by decide
  exact loop4 _ 0 0 x0 x1 fli (by first | omega | assumption | decide) (Nat.lt_succ_self _) _ _ ls hP hD hS (lv_sub hl [0, 1, 2, 3] rfl)
theorem dX9_document_0 : decode cX9_document 0 = .ok (.iload_n 2, 1) := by decide +kernel
theorem dX9_document_1 : decode cX9_document 1 = .ok (.ifCond .lt 8, 3) := by decide +kernel
theorem dX9_document_4 : decode cX9_document 4 = .ok (.iload_n 2, 1) := by decide +kernel
theorem dX9_document_5 : decode cX9_document 5 = .ok (.iconst 3, 1) := by decide +kernel
theorem dX9_document_6 : decode cX9_document 6 = .ok (.if_icmp .le 9, 3) := by decide +kernel
theorem dX9_document_9 : decode cX9_document 9 = .ok (.aload_n 0, 1) := by decide +kernel
theorem dX9_document_10 : decode cX9_document 10 = .ok (.iconst 1, 1) := by decide +kernel
theorem dX9_document_11 : decode cX9_document 11 = .ok (.invokevirtual 80, 3) := by decide +kernel
theorem dX9_document_14 : decode cX9_document 14 = .ok (.ireturn, 1) := by decide +kernel
theorem dX9_document_15 : decode cX9_document 15 = .ok (.aload_n 0, 1) := by decide +kernel
theorem dX9_document_16 : decode cX9_document 16 = .ok (.getfield 29, 3) := by decide +kernel
theorem dX9_document_19 : decode cX9_document 19 = .ok (.iload_n 1, 1) := by decide +kernel
theorem dX9_document_20 : decode cX9_document 20 = .ok (.invokevirtual 123, 3) := by decide +kernel
theorem dX9_document_23 : decode cX9_document 23 = .ok (.astore_n 3, 1) := by decide +kernel
theorem dX9_document_24 : decode cX9_document 24 = .ok (.aload_n 3, 1) := by decide +kernel
theorem dX9_document_25 : decode cX9_document 25 = .ok (.ifnonnull 9, 3) := by decide +kernel
theorem dX9_document_28 : decode cX9_document 28 = .ok (.aload_n 0, 1) := by decide +kernel
theorem dX9_document_29 : decode cX9_document 29 = .ok (.iconst 2, 1) := by decide +kernel
theorem dX9_document_30 : decode cX9_document 30 = .ok (.invokevirtual 80, 3) := by decide +kernel
theorem dX9_document_33 : decode cX9_document 33 = .ok (.ireturn, 1) := by decide +kernel
theorem dX9_document_34 : decode cX9_document 34 = .ok (.iload_n 2, 1) := by decide +kernel
theorem dX9_document_35 : decode cX9_document 35 = .ok (.ifCond .ne 13, 3) := by decide +kernel
theorem dX9_document_38 : decode cX9_document 38 = .ok (.aload_n 0, 1) := by decide +kernel
theorem dX9_document_39 : decode cX9_document 39 = .ok (.aload_n 3, 1) := by decide +kernel
theorem dX9_document_40 : decode cX9_document 40 = .ok (.getfield 127, 3) := by decide +kernel
theorem dX9_document_43 : decode cX9_document 43 = .ok (.arraylength, 1) := by decide +kernel
theorem dX9_document_44 : decode cX9_document 44 = .ok (.invokevirtual 100, 3) := by decide +kernel
theorem dX9_document_47 : decode cX9_document 47 = .ok (.ireturn, 1) := by decide +kernel
theorem dX9_document_48 : decode cX9_document 48 = .ok (.iload_n 2, 1) := by decide +kernel
theorem dX9_document_49 : decode cX9_document 49 = .ok (.iconst 1, 1) := by decide +kernel
theorem dX9_document_50 : decode cX9_document 50 = .ok (.if_icmp .ne 13, 3) := by decide +kernel
theorem dX9_document_53 : decode cX9_document 53 = .ok (.aload_n 0, 1) := by decide +kernel
theorem dX9_document_54 : decode cX9_document 54 = .ok (.aload_n 3, 1) := by decide +kernel
theorem dX9_document_55 : decode cX9_document 55 = .ok (.getfield 130, 3) := by decide +kernel
theorem dX9_document_58 : decode cX9_document 58 = .ok (.arraylength, 1) := by decide +kernel
theorem dX9_document_59 : decode cX9_document 59 = .ok (.invokevirtual 100, 3) := by decide +kernel
theorem dX9_document_62 : decode cX9_document 62 = .ok (.ireturn, 1) := by decide +kernel
theorem dX9_document_63 : decode cX9_document 63 = .ok (.aload_n 0, 1) := by decide +kernel
theorem dX9_document_64 : decode cX9_document 64 = .ok (.iload_n 2, 1) := by decide +kernel
theorem dX9_document_65 : decode cX9_document 65 = .ok (.iconst 2, 1) := by decide +kernel
theorem dX9_document_66 : decode cX9_document 66 = .ok (.if_icmp .ne 11, 3) := by decide +kernel
theorem dX9_document_69 : decode cX9_document 69 = .ok (.aload_n 0, 1) := by decide +kernel
theorem dX9_document_70 : decode cX9_document 70 = .ok (.aload_n 3, 1) := by decide +kernel
theorem dX9_document_71 : decode cX9_document 71 = .ok (.invokevirtual 133, 3) := by decide +kernel
theorem dX9_document_74 : decode cX9_document 74 = .ok (.goto 8, 3) := by decide +kernel
theorem dX9_document_77 : decode cX9_document 77 = .ok (.aload_n 0, 1) := by decide +kernel
theorem dX9_document_78 : decode cX9_document 78 = .ok (.iload_n 1, 1) := by decide +kernel
theorem dX9_document_79 : decode cX9_document 79 = .ok (.invokevirtual 137, 3) := by decide +kernel
theorem dX9_document_82 : decode cX9_document 82 = .ok (.invokevirtual 100, 3) := by decide +kernel
theorem dX9_document_85 : decode cX9_document 85 = .ok (.ireturn, 1) := by decide +kernel
def mwX9_document : List Cond := .code yX9_document cX9_document 4 (some .int) :: (([.methodLink RX9 80 yX9_refuse, .instanceMethod yX9_refuse, .selects RX9 yX9_refuse yX9_refuse, .initialized RX9, .fieldLink RX9 29 "PatternGate" "book" "LPatternGate$Book;", .methodLink RX9 123 yX0_docAt, .instanceMethod yX0_docAt, .selects RX0 yX0_docAt yX0_docAt, .initialized RX0, .methodLink RX9 137 yX9_admittingPatterns, .instanceMethod yX9_admittingPatterns, .selects RX9 yX9_admittingPatterns yX9_admittingPatterns, .methodLink RX9 100 yX9_answer, .instanceMethod yX9_answer, .selects RX9 yX9_answer yX9_answer, .methodLink RX9 133 yX9_fittingPatterns, .instanceMethod yX9_fittingPatterns, .selects RX9 yX9_fittingPatterns yX9_fittingPatterns, .fieldLink RX9 130 "PatternGate$Doc" "triples" "[I", .fieldLink RX9 127 "PatternGate$Doc" "letters" "[I"] : List Cond) ++ (wsX90 ++ (wsX20 ++ (mwX9_refuse ++ (mwX0_docAt ++ (mwX9_admittingPatterns ++ (mwX9_answer ++ (mwX9_fittingPatterns))))))))
theorem fin_X9_document_X2 : ∀ w ∈ wsX20, w ∈ mwX9_document := fun w h => List.mem_cons_of_mem _ (List.mem_append_right _ (List.mem_append_right _ (List.mem_append_left _ h)))
theorem fin_X9_document_X9 : ∀ w ∈ wsX90, w ∈ mwX9_document := fun w h => List.mem_cons_of_mem _ (List.mem_append_right _ (List.mem_append_left _ h))
set_option maxRecDepth 100000 in
theorem gd_mwX9_admittingPatterns : mwX9_admittingPatterns.all goodWord = true := by decide +kernel
set_option maxRecDepth 100000 in
theorem gd_mwX9_fittingPatterns : mwX9_fittingPatterns.all goodWord = true := by decide +kernel
set_option maxRecDepth 20000 in
theorem mg_X9_document_X9_refuse_80 : GoodIn mwX9_document (wsV RX9 80 RX9 yX9_refuse mwX9_refuse) := gi_app (A := [.methodLink RX9 80 yX9_refuse, .instanceMethod yX9_refuse, .selects RX9 yX9_refuse yX9_refuse, .initialized RX9]) (goodIn_r _ [1, 2, 3, 4] (by decide +kernel) (by decide +kernel)) (gi_sub gd_mwX9_refuse (fun w h => List.mem_cons_of_mem _ (List.mem_append_right _ (List.mem_append_right _ (List.mem_append_right _ (List.mem_append_left _ h))))))
set_option maxRecDepth 20000 in
theorem mg_X9_document_X0_docAt_123 : GoodIn mwX9_document (wsV RX9 123 RX0 yX0_docAt mwX0_docAt) := gi_app (A := [.methodLink RX9 123 yX0_docAt, .instanceMethod yX0_docAt, .selects RX0 yX0_docAt yX0_docAt, .initialized RX0]) (goodIn_r _ [6, 7, 8, 9] (by decide +kernel) (by decide +kernel)) (gi_sub gd_mwX0_docAt (fun w h => List.mem_cons_of_mem _ (List.mem_append_right _ (List.mem_append_right _ (List.mem_append_right _ (List.mem_append_right _ (List.mem_append_left _ h)))))))
set_option maxRecDepth 20000 in
theorem mg_X9_document_X9_admittingPatterns_137 : GoodIn mwX9_document (wsV RX9 137 RX9 yX9_admittingPatterns mwX9_admittingPatterns) := gi_app (A := [.methodLink RX9 137 yX9_admittingPatterns, .instanceMethod yX9_admittingPatterns, .selects RX9 yX9_admittingPatterns yX9_admittingPatterns, .initialized RX9]) (goodIn_r _ [10, 11, 12, 4] (by decide +kernel) (by decide +kernel)) (gi_sub gd_mwX9_admittingPatterns (fun w h => List.mem_cons_of_mem _ (List.mem_append_right _ (List.mem_append_right _ (List.mem_append_right _ (List.mem_append_right _ (List.mem_append_right _ (List.mem_append_left _ h))))))))
set_option maxRecDepth 20000 in
theorem mg_X9_document_X9_answer_100 : GoodIn mwX9_document (wsV RX9 100 RX9 yX9_answer mwX9_answer) := gi_app (A := [.methodLink RX9 100 yX9_answer, .instanceMethod yX9_answer, .selects RX9 yX9_answer yX9_answer, .initialized RX9]) (goodIn_r _ [13, 14, 15, 4] (by decide +kernel) (by decide +kernel)) (gi_sub gd_mwX9_answer (fun w h => List.mem_cons_of_mem _ (List.mem_append_right _ (List.mem_append_right _ (List.mem_append_right _ (List.mem_append_right _ (List.mem_append_right _ (List.mem_append_right _ (List.mem_append_left _ h)))))))))
set_option maxRecDepth 20000 in
theorem mg_X9_document_X9_fittingPatterns_133 : GoodIn mwX9_document (wsV RX9 133 RX9 yX9_fittingPatterns mwX9_fittingPatterns) := gi_app (A := [.methodLink RX9 133 yX9_fittingPatterns, .instanceMethod yX9_fittingPatterns, .selects RX9 yX9_fittingPatterns yX9_fittingPatterns, .initialized RX9]) (goodIn_r _ [16, 17, 18, 4] (by decide +kernel) (by decide +kernel)) (gi_sub gd_mwX9_fittingPatterns (fun w h => List.mem_cons_of_mem _ (List.mem_append_right _ (List.mem_append_right _ (List.mem_append_right _ (List.mem_append_right _ (List.mem_append_right _ (List.mem_append_right _ (List.mem_append_right _ (h))))))))))
set_option maxHeartbeats 4000000 in
set_option maxRecDepth 100000 in
/-- gate: document -/
theorem s_g_document (l : Launch) (dC : Nat → ClassId) (dI : Nat → Nat → Nat) (W9 : va_W) (T9 : List (ClassId × FieldType)) (B9 : Nat → Prop) (gt tp bk mb mu rd cm wk pp so ty : Nat) (st9 td fk fpl un mk : Int32) (li : Nat) (cli : ClassId) (fli : Nat → Int32) (x0 x1 : Int32) (sz : Nat) (i1 i2 : Int32) (hB9 : gB W9 T9 B9) (hbk : B9 bk) : Met l yX9_document mwX9_document ({ frames := 4, cells := 0, slots := 0, locals := 240 }) (va_Pc [.ref gt, .int i1, .int i2] (fun U => U.heap.size = sz ∧ va_P (dC, dI) vwCl ([(gt, .inr (9, [.int st9, .ref tp, .int td, .int fk, .int fpl, .ref bk, .int un, .ref mb, .ref mu, .int mk, .ref rd, .ref cm, .ref wk, .ref pp, .ref so, .ref ty])), (wk, .inr (8, [.int x0, .int x1, .ref li])), (li, .inl (cli, 24, .inl fli))]) U.heap ∧ va_K (dC, dI) vwCl ([(cli, .int)]) U ∧ va_D (fun _ => True) ([(gt, .inr (9, [.int st9, .ref tp, .int td, .int fk, .int fpl, .ref bk, .int un, .ref mb, .ref mu, .int mk, .ref rd, .ref cm, .ref wk, .ref pp, .ref so, .ref ty])), (wk, .inr (8, [.int x0, .int x1, .ref li])), (li, .inl (cli, 24, .inl fli))]) ∧ va_P (dC, dI) vwCl W9 U.heap ∧ va_K (dC, dI) vwCl T9 U ∧ (∀ q ∈ W9, ¬ va_A ([(gt, .inr (9, [.int st9, .ref tp, .int td, .int fk, .int fpl, .ref bk, .int un, .ref mb, .ref mu, .int mk, .ref rd, .ref cm, .ref wk, .ref pp, .ref so, .ref ty])), (wk, .inr (8, [.int x0, .int x1, .ref li])), (li, .inl (cli, 24, .inl fli))]) sz q.1))) (va_Qi (fun (_ : Int32) (_ : Unit) => True) (fun _ t => ∃ (y0 y1 y2 : Int32) (f9 : Nat → Int32), va_P (dC, dI) vwCl [(gt, .inr (9, [.int y0, .ref tp, .int td, .int fk, .int fpl, .ref bk, .int un, .ref mb, .ref mu, .int mk, .ref rd, .ref cm, .ref wk, .ref pp, .ref so, .ref ty])), (wk, .inr (8, [.int y1, .int y2, .ref li])), (li, .inl (cli, 24, .inl f9))] t.heap ∧ va_K (dC, dI) vwCl [(cli, .int)] t ∧ va_D (va_A ([(gt, .inr (9, [.int st9, .ref tp, .int td, .int fk, .int fpl, .ref bk, .int un, .ref mb, .ref mu, .int mk, .ref rd, .ref cm, .ref wk, .ref pp, .ref so, .ref ty])), (wk, .inr (8, [.int x0, .int x1, .ref li])), (li, .inl (cli, 24, .inl fli))]) sz) [(gt, .inr (9, [.int y0, .ref tp, .int td, .int fk, .int fpl, .ref bk, .int un, .ref mb, .ref mu, .int mk, .ref rd, .ref cm, .ref wk, .ref pp, .ref so, .ref ty])), (wk, .inr (8, [.int y1, .int y2, .ref li])), (li, .inl (cli, 24, .inl f9))]) (va_A ([(gt, .inr (9, [.int st9, .ref tp, .int td, .int fk, .int fpl, .ref bk, .int un, .ref mb, .ref mu, .int mk, .ref rd, .ref cm, .ref wk, .ref pp, .ref so, .ref ty])), (wk, .inr (8, [.int x0, .int x1, .ref li])), (li, .inl (cli, 24, .inl fli))]) sz)) 0 0 (va_A ([(gt, .inr (9, [.int st9, .ref tp, .int td, .int fk, .int fpl, .ref bk, .int un, .ref mb, .ref mu, .int mk, .ref rd, .ref cm, .ref wk, .ref pp, .ref so, .ref ty])), (wk, .inr (8, [.int x0, .int x1, .ref li])), (li, .inl (cli, 24, .inl fli))]) sz) := by
  refine Met.ofW (cc := cX9_document) (maxL := 4) (ret := (some .int)) (by decide +kernel) rfl ?_
  intro p e s m args below meth c s₁ B hml hv
  obtain ⟨rfl, hsz, hP, hK, hD0, hQ0, hKQ, hQA⟩ := hv
  have hx := B.exec
  have hb := B.bytes
  have hr := B.returns
  have hts := atoms_spec (ws := mwX9_document) B.pre
  have hown : s.vm.findClass RX9 = some m.cls := findClass_of_methodNamed B.named
  have hlocks := B.notSynchronized
  subst hsz
  have hD := hD0.self (sz := s.heap.size)
  generalize hAe : va_A ([(gt, .inr (9, [.int st9, .ref tp, .int td, .int fk, .int fpl, .ref bk, .int un, .ref mb, .ref mu, .int mk, .ref rd, .ref cm, .ref wk, .ref pp, .ref so, .ref ty])), (wk, .inr (8, [.int x0, .int x1, .ref li])), (li, .inl (cli, 24, .inl fli))]) s.heap.size = A at hD hQA ⊢
  have hA : ∀ q : Nat, s.heap.size ≤ q → A q := fun q h => by rw [← hAe]; exact Or.inr h
  have hP : va_P (dC, dI) vwCl [(gt, .inr (9, [.int st9, .ref tp, .int td, .int fk, .int fpl, .ref bk, .int un, .ref mb, .ref mu, .int mk, .ref rd, .ref cm, .ref wk, .ref pp, .ref so, .ref ty])), (wk, .inr (8, [.int x0, .int x1, .ref li])), (li, .inl (cli, 24, .inl fli))] s.heap := hP
  have hD : va_D A [(gt, .inr (9, [.int st9, .ref tp, .int td, .int fk, .int fpl, .ref bk, .int un, .ref mb, .ref mu, .int mk, .ref rd, .ref cm, .ref wk, .ref pp, .ref so, .ref ty])), (wk, .inr (8, [.int x0, .int x1, .ref li])), (li, .inl (cli, 24, .inl fli))] := hD
  have hK : va_K (dC, dI) vwCl [(cli, .int)] s := hK
  generalize hH : s.heap = H at hP ⊢
  have hS : va_S A s.heap H [] := by rw [← hH]; exact va_S.rf
  have hQ := q_at hQ0 hQA hS
  have hl := lv_entry ([.ref gt, .int i1, .int i2]) (n := 4) (Nat.le_of_ble_eq_true rfl)
  rw [lg_entry_eq]
  generalize (lg_sl ([.ref gt, .int i1, .int i2]) ++ List.replicate (4 - (lg_sl ([.ref gt, .int i1, .int i2])).length) Slot.unset).toArray = ls at hl ⊢
  have hl : lv_has ls 4 [(0, .ref gt), (1, .int i1), (2, .int i2)] := hl
  have rg_i1 := i_rng i1
  have rg_i2 := i_rng i2
  obtain ⟨ear, hB3, hear⟩ := hB9 bk hbk
  have hB0 := hB3.poB
  obtain ⟨ds, ps, nd, np, fd, fp, cD, cP, m1, m2, m3, m4, m5, hnd, hnp, hds, hps⟩ := id hB3
  obtain ⟨k_1, hk_1⟩ := List.getElem?_of_mem m1
  obtain ⟨k_2, hk_2⟩ := List.getElem?_of_mem m2
  obtain ⟨j_3, hj_3⟩ := List.getElem?_of_mem m3
  obtain ⟨k_4, hk_4⟩ := List.getElem?_of_mem m4
  obtain ⟨j_5, hj_5⟩ := List.getElem?_of_mem m5
  have r_un := i_rng un
  have r_mk := i_rng mk
  have r_td := i_rng td
  refine lv_iload_n hx hb dX9_document_0 rfl (lv_at hl 2 rfl) ?_
  refine lv_if_lt (tgt := 9) hx hb dX9_document_1 (by decide) (fun k_6 => ?_) (fun k_6 => ?_)
  · have tk_6 := c_lt (a := i2.toInt) (b := 0) rfl (by decide) k_6
    refine lv_aload_n hx hb dX9_document_9 rfl (lv_at hl 0 rfl) ?_
    refine lv_iconst (v := 1) hx hb dX9_document_10 (by decide) ?_
    have hPc := hP.sub (ws' := [(gt, .inr (9, [.int st9, .ref tp, .int td, .int fk, .int fpl, .ref bk, .int un, .ref mb, .ref mu, .int mk, .ref rd, .ref cm, .ref wk, .ref pp, .ref so, .ref ty]))]) [0] rfl
    have hKc := hK.sub (tys' := []) [] rfl
    have hDc := hD.sub (ws' := [(gt, .inr (9, [.int st9, .ref tp, .int td, .int fk, .int fpl, .ref bk, .int un, .ref mb, .ref mu, .int mk, .ref rd, .ref cm, .ref wk, .ref pp, .ref so, .ref ty]))]) [0] (by decide) rfl
    have hFc := va_free (wc := [(gt, .inr (9, [.int st9, .ref tp, .int td, .int fk, .int fpl, .ref bk, .int un, .ref mb, .ref mu, .int mk, .ref rd, .ref cm, .ref wk, .ref pp, .ref so, .ref ty]))]) hD hS hA [0] rfl
    refine va_calli (va_runV (As := [.int 1]) (rest := []) ⟨hx, hb, hml, hown, hts⟩ (s_refuse l dC dI gt tp bk mb mu rd cm wk pp so ty st9 td fk fpl un mk H.size 1) (cwV 1 hts mg_X9_document_X9_refuse_80 rfl rfl rfl (by decide +kernel) ⟨Nat.le_of_ble_eq_true rfl, Nat.le_of_ble_eq_true rfl⟩) ⟨fun a U g mk q => by obtain ⟨q0, q1, qP, qK, qD⟩ := q; exact ⟨q0, q1, qP, va_K.moved (u := U) (U := U.calling g mk a) (Vm.Alike.refl U.vm) qK, qD⟩, va_recv hKc hPc (ci := 9) (q0 := 0) rfl rfl, fun U hU hW => ⟨rfl, by rw [hU], by rw [hU]; exact hPc, va_K.moved hW.alike hKc, hDc.weaken (fun _ _ _ _ => trivial)⟩⟩ rfl rfl hl.1 rfl (lv_room (Nat.le_of_ble_eq_true rfl)) dX9_document_11 ⟨Nat.le_of_ble_eq_true rfl, Nat.le_of_ble_eq_true rfl⟩) hS (fun q _ h => hFc q h) hFc (fun r_8 u t H1 locs ht hvm hw hB hz1 hk1 hS => ?_)
    obtain ⟨hP1, hK1, hD1⟩ := hB
    rw [ht] at hP1
    have hr_8 := hw
    obtain ⟨hP, hD⟩ := va_join (wr := [(wk, .inr (8, [.int x0, .int x1, .ref li])), (li, .inl (cli, 24, .inl fli))]) (w1 := [(gt, .inr (9, [.int 1, .ref tp, .int td, .int fk, .int fpl, .ref bk, .int un, .ref mb, .ref mu, .int mk, .ref rd, .ref cm, .ref wk, .ref pp, .ref so, .ref ty]))]) hP hD [0] [1, 2] rfl rfl (by decide) (by decide) hk1 hFc hP1 hD1
    generalize H1 = H at hP hS ⊢
    have hP : va_P (dC, dI) vwCl [(wk, .inr (8, [.int x0, .int x1, .ref li])), (li, .inl (cli, 24, .inl fli)), (gt, .inr (9, [.int 1, .ref tp, .int td, .int fk, .int fpl, .ref bk, .int un, .ref mb, .ref mu, .int mk, .ref rd, .ref cm, .ref wk, .ref pp, .ref so, .ref ty]))] H := hP
    have hD : va_D A [(wk, .inr (8, [.int x0, .int x1, .ref li])), (li, .inl (cli, 24, .inl fli)), (gt, .inr (9, [.int 1, .ref tp, .int td, .int fk, .int fpl, .ref bk, .int un, .ref mb, .ref mu, .int mk, .ref rd, .ref cm, .ref wk, .ref pp, .ref so, .ref ty]))] := hD
    have hQ := q_at hQ0 hQA hS
    have hP9 := hP.sub (ws' := [(gt, .inr (9, [.int 1, .ref tp, .int td, .int fk, .int fpl, .ref bk, .int un, .ref mb, .ref mu, .int mk, .ref rd, .ref cm, .ref wk, .ref pp, .ref so, .ref ty])), (wk, .inr (8, [.int x0, .int x1, .ref li])), (li, .inl (cli, 24, .inl fli))]) [2, 0, 1] rfl
    have hD9 := hD.sub (ws' := [(gt, .inr (9, [.int 1, .ref tp, .int td, .int fk, .int fpl, .ref bk, .int un, .ref mb, .ref mu, .int mk, .ref rd, .ref cm, .ref wk, .ref pp, .ref so, .ref ty])), (wk, .inr (8, [.int x0, .int x1, .ref li])), (li, .inl (cli, 24, .inl fli))]) [2, 0, 1] (by decide) rfl
    have hK9 := hK.sub (tys' := [(cli, .int)]) [0] rfl
    exact W.iret hx hb hr (fun t ht hW => ⟨⟨_, (), rfl, trivial, 1, x0, x1, fli, by rw [ht]; exact hP9, va_K.moved hW.alike hK9, hD9⟩, hS.F ht⟩) hS.2.2 dX9_document_14
  · have tk_6 := c_nlt (a := i2.toInt) (b := 0) rfl (by decide) k_6
    refine lv_iload_n hx hb dX9_document_4 rfl (lv_at hl 2 rfl) ?_
    refine lv_iconst (v := 3) hx hb dX9_document_5 (by decide) ?_
    refine lv_icmp_le (tgt := 15) hx hb dX9_document_6 (by decide) (fun k_9 => ?_) (fun k_9 => ?_)
    · have tk_9 := c_le (a := i2.toInt) (b := 3) rfl (by decide) k_9
      refine lv_aload_n hx hb dX9_document_15 rfl (lv_at hl 0 rfl) ?_
      refine va_get (D := (dC, dI)) (ci := 9) (v := .ref bk) (C := RX9) (T := TX9) (N := 16) hx hb hts fin_X9_document_X9 hown hK hP 0 rfl rfl 5 (by decide) (hts (.fieldLink RX9 29 "PatternGate" "book" "LPatternGate$Book;") (List.mem_of_getElem? (i := 5) (by decide +kernel))) (fun _ h9 => h9) rfl dX9_document_16 ?_
      refine lv_iload_n hx hb dX9_document_19 rfl (lv_at hl 1 rfl) ?_
      have hPc := hQ
      have hKc := hKQ
      refine va_csq (W.runV (As := [.int i1]) (rest := []) ⟨hx, hb, hml, hown, hts⟩ (s_docAt l dC dI W9 T9 bk i1 hB0) (cwV 1 hts mg_X9_document_X0_docAt_123 rfl rfl rfl (by decide +kernel) ⟨Nat.le_of_ble_eq_true rfl, Nat.le_of_ble_eq_true rfl⟩) ⟨fun a U g mk q => by obtain ⟨q0, qP, qK⟩ := q; exact ⟨q0, qP, va_K.moved (u := U) (U := U.calling g mk a) (Vm.Alike.refl U.vm) qK⟩, va_recv hKc hPc (ci := 0) (q0 := k_1) rfl hk_1, fun U hU hW => ⟨rfl, by rw [hU]; exact hPc, va_K.moved hW.alike hKc⟩⟩ rfl rfl hl.1 rfl (lv_room (Nat.le_of_ble_eq_true rfl)) dX9_document_20 ⟨Nat.le_of_ble_eq_true rfl, Nat.le_of_ble_eq_true rfl⟩) (fun r_11 hw => ?_)
      rcases hw with rfl | ⟨d_12, rfl, hd_12⟩
      · refine W.eq (g2 := F0 m 23 ls [.null]) rfl ?_
        refine lv_astore_nN (lv' := [(3, .null), (0, .ref gt), (1, .int i1), (2, .int i2)]) hx hb dX9_document_23 rfl hl (by decide) rfl (fun ls hl => ?_)
        refine lv_aload_nN hx hb dX9_document_24 rfl (lv_at hl 0 rfl) ?_
        refine lv_ifnonnullN hx hb dX9_document_25 ?_
        refine lv_aload_n hx hb dX9_document_28 rfl (lv_at hl 1 rfl) ?_
        refine lv_iconst (v := 2) hx hb dX9_document_29 (by decide) ?_
        have hPc := hP.sub (ws' := [(gt, .inr (9, [.int st9, .ref tp, .int td, .int fk, .int fpl, .ref bk, .int un, .ref mb, .ref mu, .int mk, .ref rd, .ref cm, .ref wk, .ref pp, .ref so, .ref ty]))]) [0] rfl
        have hKc := hK.sub (tys' := []) [] rfl
        have hDc := hD.sub (ws' := [(gt, .inr (9, [.int st9, .ref tp, .int td, .int fk, .int fpl, .ref bk, .int un, .ref mb, .ref mu, .int mk, .ref rd, .ref cm, .ref wk, .ref pp, .ref so, .ref ty]))]) [0] (by decide) rfl
        have hFc := va_free (wc := [(gt, .inr (9, [.int st9, .ref tp, .int td, .int fk, .int fpl, .ref bk, .int un, .ref mb, .ref mu, .int mk, .ref rd, .ref cm, .ref wk, .ref pp, .ref so, .ref ty]))]) hD hS hA [0] rfl
        refine va_calli (va_runV (As := [.int 2]) (rest := []) ⟨hx, hb, hml, hown, hts⟩ (s_refuse l dC dI gt tp bk mb mu rd cm wk pp so ty st9 td fk fpl un mk H.size 2) (cwV 1 hts mg_X9_document_X9_refuse_80 rfl rfl rfl (by decide +kernel) ⟨Nat.le_of_ble_eq_true rfl, Nat.le_of_ble_eq_true rfl⟩) ⟨fun a U g mk q => by obtain ⟨q0, q1, qP, qK, qD⟩ := q; exact ⟨q0, q1, qP, va_K.moved (u := U) (U := U.calling g mk a) (Vm.Alike.refl U.vm) qK, qD⟩, va_recv hKc hPc (ci := 9) (q0 := 0) rfl rfl, fun U hU hW => ⟨rfl, by rw [hU], by rw [hU]; exact hPc, va_K.moved hW.alike hKc, hDc.weaken (fun _ _ _ _ => trivial)⟩⟩ rfl rfl hl.1 rfl (lv_room (Nat.le_of_ble_eq_true rfl)) dX9_document_30 ⟨Nat.le_of_ble_eq_true rfl, Nat.le_of_ble_eq_true rfl⟩) hS (fun q _ h => hFc q h) hFc (fun r_14 u t H1 locs ht hvm hw hB hz1 hk1 hS => ?_)
        obtain ⟨hP1, hK1, hD1⟩ := hB
        rw [ht] at hP1
        have hr_14 := hw
        obtain ⟨hP, hD⟩ := va_join (wr := [(wk, .inr (8, [.int x0, .int x1, .ref li])), (li, .inl (cli, 24, .inl fli))]) (w1 := [(gt, .inr (9, [.int 2, .ref tp, .int td, .int fk, .int fpl, .ref bk, .int un, .ref mb, .ref mu, .int mk, .ref rd, .ref cm, .ref wk, .ref pp, .ref so, .ref ty]))]) hP hD [0] [1, 2] rfl rfl (by decide) (by decide) hk1 hFc hP1 hD1
        generalize H1 = H at hP hS ⊢
        have hP : va_P (dC, dI) vwCl [(wk, .inr (8, [.int x0, .int x1, .ref li])), (li, .inl (cli, 24, .inl fli)), (gt, .inr (9, [.int 2, .ref tp, .int td, .int fk, .int fpl, .ref bk, .int un, .ref mb, .ref mu, .int mk, .ref rd, .ref cm, .ref wk, .ref pp, .ref so, .ref ty]))] H := hP
        have hD : va_D A [(wk, .inr (8, [.int x0, .int x1, .ref li])), (li, .inl (cli, 24, .inl fli)), (gt, .inr (9, [.int 2, .ref tp, .int td, .int fk, .int fpl, .ref bk, .int un, .ref mb, .ref mu, .int mk, .ref rd, .ref cm, .ref wk, .ref pp, .ref so, .ref ty]))] := hD
        have hQ := q_at hQ0 hQA hS
        have hP9 := hP.sub (ws' := [(gt, .inr (9, [.int 2, .ref tp, .int td, .int fk, .int fpl, .ref bk, .int un, .ref mb, .ref mu, .int mk, .ref rd, .ref cm, .ref wk, .ref pp, .ref so, .ref ty])), (wk, .inr (8, [.int x0, .int x1, .ref li])), (li, .inl (cli, 24, .inl fli))]) [2, 0, 1] rfl
        have hD9 := hD.sub (ws' := [(gt, .inr (9, [.int 2, .ref tp, .int td, .int fk, .int fpl, .ref bk, .int un, .ref mb, .ref mu, .int mk, .ref rd, .ref cm, .ref wk, .ref pp, .ref so, .ref ty])), (wk, .inr (8, [.int x0, .int x1, .ref li])), (li, .inl (cli, 24, .inl fli))]) [2, 0, 1] (by decide) rfl
        have hK9 := hK.sub (tys' := [(cli, .int)]) [0] rfl
        exact W.iret hx hb hr (fun t ht hW => ⟨⟨_, (), rfl, trivial, 2, x0, x1, fli, by rw [ht]; exact hP9, va_K.moved hW.alike hK9, hD9⟩, hS.F ht⟩) hS.2.2 dX9_document_33
      · refine W.eq (g2 := F0 m 23 ls [.ref d_12]) rfl ?_
        have hd_12D := hd_12
        obtain ⟨la_15, ta_16, m_17, n_18, fl_19, ft_20, cI_21, cJ_22, m_23, ⟨m_24, m_25⟩, ⟨m_26, m_27⟩, m_28, m_29⟩ := hd_12
        obtain ⟨k_30, hk_30⟩ := List.getElem?_of_mem m_23
        obtain ⟨k_31, hk_31⟩ := List.getElem?_of_mem m_24
        obtain ⟨j_32, hj_32⟩ := List.getElem?_of_mem m_25
        obtain ⟨k_33, hk_33⟩ := List.getElem?_of_mem m_26
        obtain ⟨j_34, hj_34⟩ := List.getElem?_of_mem m_27
        refine lv_astore_n (lv' := [(3, .ref d_12), (0, .ref gt), (1, .int i1), (2, .int i2)]) hx hb dX9_document_23 rfl hl (by decide) rfl (fun ls hl => ?_)
        refine lv_aload_n hx hb dX9_document_24 rfl (lv_at hl 0 rfl) ?_
        refine lv_ifnonnull (tgt := 34) hx hb dX9_document_25 (by decide) ?_
        refine lv_iload_n hx hb dX9_document_34 rfl (lv_at hl 3 rfl) ?_
        refine lv_if_ne (tgt := 48) hx hb dX9_document_35 (by decide) (fun k_35 => ?_) (fun k_35 => ?_)
        · have tk_35 := c_ne (a := i2.toInt) (b := 0) rfl (by decide) k_35
          refine lv_iload_n hx hb dX9_document_48 rfl (lv_at hl 3 rfl) ?_
          refine lv_iconst (v := 1) hx hb dX9_document_49 (by decide) ?_
          refine lv_icmp_ne (tgt := 63) hx hb dX9_document_50 (by decide) (fun k_36 => ?_) (fun k_36 => ?_)
          · have tk_36 := c_ne (a := i2.toInt) (b := 1) rfl (by decide) k_36
            refine lv_aload_n hx hb dX9_document_63 rfl (lv_at hl 1 rfl) ?_
            refine lv_iload_n hx hb dX9_document_64 rfl (lv_at hl 3 rfl) ?_
            refine lv_iconst (v := 2) hx hb dX9_document_65 (by decide) ?_
            refine lv_icmp_ne (tgt := 77) hx hb dX9_document_66 (by decide) (fun k_37 => ?_) (fun k_37 => ?_)
            · have tk_37 := c_ne (a := i2.toInt) (b := 2) rfl (by decide) k_37
              refine lv_aload_n hx hb dX9_document_77 rfl (lv_at hl 1 rfl) ?_
              refine lv_iload_n hx hb dX9_document_78 rfl (lv_at hl 2 rfl) ?_
              have hPc := hP.sub (ws' := [(gt, .inr (9, [.int st9, .ref tp, .int td, .int fk, .int fpl, .ref bk, .int un, .ref mb, .ref mu, .int mk, .ref rd, .ref cm, .ref wk, .ref pp, .ref so, .ref ty])), (wk, .inr (8, [.int x0, .int x1, .ref li])), (li, .inl (cli, 24, .inl fli))]) [0, 1, 2] rfl
              have hKc := hK.sub (tys' := [(cli, .int)]) [0] rfl
              have hDc := hD.sub (ws' := [(gt, .inr (9, [.int st9, .ref tp, .int td, .int fk, .int fpl, .ref bk, .int un, .ref mb, .ref mu, .int mk, .ref rd, .ref cm, .ref wk, .ref pp, .ref so, .ref ty])), (wk, .inr (8, [.int x0, .int x1, .ref li])), (li, .inl (cli, 24, .inl fli))]) [0, 1, 2] (by decide) rfl
              have hFc := va_free (wc := [(gt, .inr (9, [.int st9, .ref tp, .int td, .int fk, .int fpl, .ref bk, .int un, .ref mb, .ref mu, .int mk, .ref rd, .ref cm, .ref wk, .ref pp, .ref so, .ref ty])), (wk, .inr (8, [.int x0, .int x1, .ref li])), (li, .inl (cli, 24, .inl fli))]) hD hS hA [0, 1, 2] rfl
              refine va_calli (va_runV (As := [.int i1]) (rest := [.ref gt]) ⟨hx, hb, hml, hown, hts⟩ (s_g_admittingPatterns l dC dI W9 T9 B9 gt tp bk mb mu rd cm wk pp so ty st9 td fk fpl un mk li cli fli x0 x1 H.size i1 hB9 hbk) (cwV 1 hts mg_X9_document_X9_admittingPatterns_137 rfl rfl rfl (by decide +kernel) ⟨Nat.le_of_ble_eq_true rfl, Nat.le_of_ble_eq_true rfl⟩) ⟨fun a U g mk q => by obtain ⟨q0, q1, qP, qK, qD, qE0, qE1, qE2⟩ := q; exact ⟨q0, q1, qP, va_K.moved (u := U) (U := U.calling g mk a) (Vm.Alike.refl U.vm) qK, qD, qE0, va_K.moved (u := U) (U := U.calling g mk a) (Vm.Alike.refl U.vm) qE1, qE2⟩, va_recv hKc hPc (ci := 9) (q0 := 0) rfl rfl, fun U hU hW => ⟨rfl, by rw [hU], by rw [hU]; exact hPc, va_K.moved hW.alike hKc, hDc.weaken (fun _ _ _ _ => trivial), (by rw [hU]; exact hQ), va_K.moved hW.alike hKQ, (fun q hq => qA_sub (hQA q hq) hFc)⟩⟩ rfl rfl hl.1 rfl (lv_room (Nat.le_of_ble_eq_true rfl)) dX9_document_79 ⟨Nat.le_of_ble_eq_true rfl, Nat.le_of_ble_eq_true rfl⟩) hS (fun q _ h => hFc q h) hFc (fun r_39 u t H1 locs ht hvm hw hB hz1 hk1 hS => ?_)
              obtain ⟨y_40, y_41, f_42, hP1, hK1, hD1⟩ := hB
              rw [ht] at hP1
              obtain ⟨hP, hD⟩ := va_join (wr := []) (w1 := [(gt, .inr (9, [.int st9, .ref tp, .int td, .int fk, .int fpl, .ref bk, .int un, .ref mb, .ref mu, .int mk, .ref rd, .ref cm, .ref wk, .ref pp, .ref so, .ref ty])), (wk, .inr (8, [.int y_40, .int y_41, .ref li])), (li, .inl (cli, 24, .inl f_42))]) hP hD [0, 1, 2] [] rfl rfl (by decide) (by decide) hk1 hFc hP1 hD1
              generalize H1 = H at hP hS ⊢
              have hP : va_P (dC, dI) vwCl [(gt, .inr (9, [.int st9, .ref tp, .int td, .int fk, .int fpl, .ref bk, .int un, .ref mb, .ref mu, .int mk, .ref rd, .ref cm, .ref wk, .ref pp, .ref so, .ref ty])), (wk, .inr (8, [.int y_40, .int y_41, .ref li])), (li, .inl (cli, 24, .inl f_42))] H := hP
              have hD : va_D A [(gt, .inr (9, [.int st9, .ref tp, .int td, .int fk, .int fpl, .ref bk, .int un, .ref mb, .ref mu, .int mk, .ref rd, .ref cm, .ref wk, .ref pp, .ref so, .ref ty])), (wk, .inr (8, [.int y_40, .int y_41, .ref li])), (li, .inl (cli, 24, .inl f_42))] := hD
              have hQ := q_at hQ0 hQA hS
              have hPc := hP.sub (ws' := [(gt, .inr (9, [.int st9, .ref tp, .int td, .int fk, .int fpl, .ref bk, .int un, .ref mb, .ref mu, .int mk, .ref rd, .ref cm, .ref wk, .ref pp, .ref so, .ref ty]))]) [0] rfl
              have hKc := hK.sub (tys' := []) [] rfl
              have hDc := hD.sub (ws' := [(gt, .inr (9, [.int st9, .ref tp, .int td, .int fk, .int fpl, .ref bk, .int un, .ref mb, .ref mu, .int mk, .ref rd, .ref cm, .ref wk, .ref pp, .ref so, .ref ty]))]) [0] (by decide) rfl
              have hFc := va_free (wc := [(gt, .inr (9, [.int st9, .ref tp, .int td, .int fk, .int fpl, .ref bk, .int un, .ref mb, .ref mu, .int mk, .ref rd, .ref cm, .ref wk, .ref pp, .ref so, .ref ty]))]) hD hS hA [0] rfl
              refine va_calli (va_runV (As := [.int r_39]) (rest := []) ⟨hx, hb, hml, hown, hts⟩ (s_answer l dC dI gt tp bk mb mu rd cm wk pp so ty st9 td fk fpl un mk H.size r_39) (cwV 1 hts mg_X9_document_X9_answer_100 rfl rfl rfl (by decide +kernel) ⟨Nat.le_of_ble_eq_true rfl, Nat.le_of_ble_eq_true rfl⟩) ⟨fun a U g mk q => by obtain ⟨q0, q1, qP, qK, qD⟩ := q; exact ⟨q0, q1, qP, va_K.moved (u := U) (U := U.calling g mk a) (Vm.Alike.refl U.vm) qK, qD⟩, va_recv hKc hPc (ci := 9) (q0 := 0) rfl rfl, fun U hU hW => ⟨rfl, by rw [hU], by rw [hU]; exact hPc, va_K.moved hW.alike hKc, hDc.weaken (fun _ _ _ _ => trivial)⟩⟩ rfl rfl hl.1 rfl (lv_room (Nat.le_of_ble_eq_true rfl)) dX9_document_82 ⟨Nat.le_of_ble_eq_true rfl, Nat.le_of_ble_eq_true rfl⟩) hS (fun q _ h => hFc q h) hFc (fun r_44 u t H1 locs ht hvm hw hB hz1 hk1 hS => ?_)
              obtain ⟨hP1, hK1, hD1⟩ := hB
              rw [ht] at hP1
              have hr_44 := hw
              obtain ⟨hP, hD⟩ := va_join (wr := [(wk, .inr (8, [.int y_40, .int y_41, .ref li])), (li, .inl (cli, 24, .inl f_42))]) (w1 := [(gt, .inr (9, [.int 0, .ref tp, .int td, .int fk, .int fpl, .ref bk, .int un, .ref mb, .ref mu, .int mk, .ref rd, .ref cm, .ref wk, .ref pp, .ref so, .ref ty]))]) hP hD [0] [1, 2] rfl rfl (by decide) (by decide) hk1 hFc hP1 hD1
              generalize H1 = H at hP hS ⊢
              have hP : va_P (dC, dI) vwCl [(wk, .inr (8, [.int y_40, .int y_41, .ref li])), (li, .inl (cli, 24, .inl f_42)), (gt, .inr (9, [.int 0, .ref tp, .int td, .int fk, .int fpl, .ref bk, .int un, .ref mb, .ref mu, .int mk, .ref rd, .ref cm, .ref wk, .ref pp, .ref so, .ref ty]))] H := hP
              have hD : va_D A [(wk, .inr (8, [.int y_40, .int y_41, .ref li])), (li, .inl (cli, 24, .inl f_42)), (gt, .inr (9, [.int 0, .ref tp, .int td, .int fk, .int fpl, .ref bk, .int un, .ref mb, .ref mu, .int mk, .ref rd, .ref cm, .ref wk, .ref pp, .ref so, .ref ty]))] := hD
              have hQ := q_at hQ0 hQA hS
              have hP9 := hP.sub (ws' := [(gt, .inr (9, [.int 0, .ref tp, .int td, .int fk, .int fpl, .ref bk, .int un, .ref mb, .ref mu, .int mk, .ref rd, .ref cm, .ref wk, .ref pp, .ref so, .ref ty])), (wk, .inr (8, [.int y_40, .int y_41, .ref li])), (li, .inl (cli, 24, .inl f_42))]) [2, 0, 1] rfl
              have hD9 := hD.sub (ws' := [(gt, .inr (9, [.int 0, .ref tp, .int td, .int fk, .int fpl, .ref bk, .int un, .ref mb, .ref mu, .int mk, .ref rd, .ref cm, .ref wk, .ref pp, .ref so, .ref ty])), (wk, .inr (8, [.int y_40, .int y_41, .ref li])), (li, .inl (cli, 24, .inl f_42))]) [2, 0, 1] (by decide) rfl
              have hK9 := hK.sub (tys' := [(cli, .int)]) [0] rfl
              exact W.iret hx hb hr (fun t ht hW => ⟨⟨_, (), rfl, trivial, 0, y_40, y_41, f_42, by rw [ht]; exact hP9, va_K.moved hW.alike hK9, hD9⟩, hS.F ht⟩) hS.2.2 dX9_document_85
            · have tk_37 := c_eq (a := i2.toInt) (b := 2) rfl (by decide) k_37
              refine lv_aload_n hx hb dX9_document_69 rfl (lv_at hl 1 rfl) ?_
              refine lv_aload_n hx hb dX9_document_70 rfl (lv_at hl 0 rfl) ?_
              have hPc := hP.sub (ws' := [(gt, .inr (9, [.int st9, .ref tp, .int td, .int fk, .int fpl, .ref bk, .int un, .ref mb, .ref mu, .int mk, .ref rd, .ref cm, .ref wk, .ref pp, .ref so, .ref ty]))]) [0] rfl
              have hKc := hK.sub (tys' := []) [] rfl
              have hDc := hD.sub (ws' := [(gt, .inr (9, [.int st9, .ref tp, .int td, .int fk, .int fpl, .ref bk, .int un, .ref mb, .ref mu, .int mk, .ref rd, .ref cm, .ref wk, .ref pp, .ref so, .ref ty]))]) [0] (by decide) rfl
              have hFc := va_free (wc := [(gt, .inr (9, [.int st9, .ref tp, .int td, .int fk, .int fpl, .ref bk, .int un, .ref mb, .ref mu, .int mk, .ref rd, .ref cm, .ref wk, .ref pp, .ref so, .ref ty]))]) hD hS hA [0] rfl
              refine va_calli (va_runV (As := [.ref d_12]) (rest := [.ref gt]) ⟨hx, hb, hml, hown, hts⟩ (s_g_fittingPatterns l dC dI W9 T9 B9 gt tp bk mb mu rd cm wk pp so ty st9 td fk fpl un mk d_12 H.size hB9 hbk hd_12D) (cwV 1 hts mg_X9_document_X9_fittingPatterns_133 rfl rfl rfl (by decide +kernel) ⟨Nat.le_of_ble_eq_true rfl, Nat.le_of_ble_eq_true rfl⟩) ⟨fun a U g mk q => by obtain ⟨q0, q1, qP, qK, qD, qE0, qE1, qE2⟩ := q; exact ⟨q0, q1, qP, va_K.moved (u := U) (U := U.calling g mk a) (Vm.Alike.refl U.vm) qK, qD, qE0, va_K.moved (u := U) (U := U.calling g mk a) (Vm.Alike.refl U.vm) qE1, qE2⟩, va_recv hKc hPc (ci := 9) (q0 := 0) rfl rfl, fun U hU hW => ⟨rfl, by rw [hU], by rw [hU]; exact hPc, va_K.moved hW.alike hKc, hDc.weaken (fun _ _ _ _ => trivial), (by rw [hU]; exact hQ), va_K.moved hW.alike hKQ, (fun q hq => qA_sub (hQA q hq) hFc)⟩⟩ rfl rfl hl.1 rfl (lv_room (Nat.le_of_ble_eq_true rfl)) dX9_document_71 ⟨Nat.le_of_ble_eq_true rfl, Nat.le_of_ble_eq_true rfl⟩) hS (fun q _ h => hFc q h) hFc (fun r_46 u t H1 locs ht hvm hw hB hz1 hk1 hS => ?_)
              obtain ⟨hP1, hK1, hD1⟩ := hB
              rw [ht] at hP1
              obtain ⟨hP, hD⟩ := va_join (wr := [(wk, .inr (8, [.int x0, .int x1, .ref li])), (li, .inl (cli, 24, .inl fli))]) (w1 := [(gt, .inr (9, [.int st9, .ref tp, .int td, .int fk, .int fpl, .ref bk, .int un, .ref mb, .ref mu, .int mk, .ref rd, .ref cm, .ref wk, .ref pp, .ref so, .ref ty]))]) hP hD [0] [1, 2] rfl rfl (by decide) (by decide) hk1 hFc hP1 hD1
              generalize H1 = H at hP hS ⊢
              have hP : va_P (dC, dI) vwCl [(wk, .inr (8, [.int x0, .int x1, .ref li])), (li, .inl (cli, 24, .inl fli)), (gt, .inr (9, [.int st9, .ref tp, .int td, .int fk, .int fpl, .ref bk, .int un, .ref mb, .ref mu, .int mk, .ref rd, .ref cm, .ref wk, .ref pp, .ref so, .ref ty]))] H := hP
              have hD : va_D A [(wk, .inr (8, [.int x0, .int x1, .ref li])), (li, .inl (cli, 24, .inl fli)), (gt, .inr (9, [.int st9, .ref tp, .int td, .int fk, .int fpl, .ref bk, .int un, .ref mb, .ref mu, .int mk, .ref rd, .ref cm, .ref wk, .ref pp, .ref so, .ref ty]))] := hD
              have hQ := q_at hQ0 hQA hS
              refine lv_goto (tgt := 82) hx hb dX9_document_74 (by decide) ?_
              have hPc := hP.sub (ws' := [(gt, .inr (9, [.int st9, .ref tp, .int td, .int fk, .int fpl, .ref bk, .int un, .ref mb, .ref mu, .int mk, .ref rd, .ref cm, .ref wk, .ref pp, .ref so, .ref ty]))]) [2] rfl
              have hKc := hK.sub (tys' := []) [] rfl
              have hDc := hD.sub (ws' := [(gt, .inr (9, [.int st9, .ref tp, .int td, .int fk, .int fpl, .ref bk, .int un, .ref mb, .ref mu, .int mk, .ref rd, .ref cm, .ref wk, .ref pp, .ref so, .ref ty]))]) [2] (by decide) rfl
              have hFc := va_free (wc := [(gt, .inr (9, [.int st9, .ref tp, .int td, .int fk, .int fpl, .ref bk, .int un, .ref mb, .ref mu, .int mk, .ref rd, .ref cm, .ref wk, .ref pp, .ref so, .ref ty]))]) hD hS hA [2] rfl
              refine va_calli (va_runV (As := [.int r_46]) (rest := []) ⟨hx, hb, hml, hown, hts⟩ (s_answer l dC dI gt tp bk mb mu rd cm wk pp so ty st9 td fk fpl un mk H.size r_46) (cwV 1 hts mg_X9_document_X9_answer_100 rfl rfl rfl (by decide +kernel) ⟨Nat.le_of_ble_eq_true rfl, Nat.le_of_ble_eq_true rfl⟩) ⟨fun a U g mk q => by obtain ⟨q0, q1, qP, qK, qD⟩ := q; exact ⟨q0, q1, qP, va_K.moved (u := U) (U := U.calling g mk a) (Vm.Alike.refl U.vm) qK, qD⟩, va_recv hKc hPc (ci := 9) (q0 := 0) rfl rfl, fun U hU hW => ⟨rfl, by rw [hU], by rw [hU]; exact hPc, va_K.moved hW.alike hKc, hDc.weaken (fun _ _ _ _ => trivial)⟩⟩ rfl rfl hl.1 rfl (lv_room (Nat.le_of_ble_eq_true rfl)) dX9_document_82 ⟨Nat.le_of_ble_eq_true rfl, Nat.le_of_ble_eq_true rfl⟩) hS (fun q _ h => hFc q h) hFc (fun r_48 u t H1 locs ht hvm hw hB hz1 hk1 hS => ?_)
              obtain ⟨hP1, hK1, hD1⟩ := hB
              rw [ht] at hP1
              have hr_48 := hw
              obtain ⟨hP, hD⟩ := va_join (wr := [(wk, .inr (8, [.int x0, .int x1, .ref li])), (li, .inl (cli, 24, .inl fli))]) (w1 := [(gt, .inr (9, [.int 0, .ref tp, .int td, .int fk, .int fpl, .ref bk, .int un, .ref mb, .ref mu, .int mk, .ref rd, .ref cm, .ref wk, .ref pp, .ref so, .ref ty]))]) hP hD [2] [0, 1] rfl rfl (by decide) (by decide) hk1 hFc hP1 hD1
              generalize H1 = H at hP hS ⊢
              have hP : va_P (dC, dI) vwCl [(wk, .inr (8, [.int x0, .int x1, .ref li])), (li, .inl (cli, 24, .inl fli)), (gt, .inr (9, [.int 0, .ref tp, .int td, .int fk, .int fpl, .ref bk, .int un, .ref mb, .ref mu, .int mk, .ref rd, .ref cm, .ref wk, .ref pp, .ref so, .ref ty]))] H := hP
              have hD : va_D A [(wk, .inr (8, [.int x0, .int x1, .ref li])), (li, .inl (cli, 24, .inl fli)), (gt, .inr (9, [.int 0, .ref tp, .int td, .int fk, .int fpl, .ref bk, .int un, .ref mb, .ref mu, .int mk, .ref rd, .ref cm, .ref wk, .ref pp, .ref so, .ref ty]))] := hD
              have hQ := q_at hQ0 hQA hS
              have hP9 := hP.sub (ws' := [(gt, .inr (9, [.int 0, .ref tp, .int td, .int fk, .int fpl, .ref bk, .int un, .ref mb, .ref mu, .int mk, .ref rd, .ref cm, .ref wk, .ref pp, .ref so, .ref ty])), (wk, .inr (8, [.int x0, .int x1, .ref li])), (li, .inl (cli, 24, .inl fli))]) [2, 0, 1] rfl
              have hD9 := hD.sub (ws' := [(gt, .inr (9, [.int 0, .ref tp, .int td, .int fk, .int fpl, .ref bk, .int un, .ref mb, .ref mu, .int mk, .ref rd, .ref cm, .ref wk, .ref pp, .ref so, .ref ty])), (wk, .inr (8, [.int x0, .int x1, .ref li])), (li, .inl (cli, 24, .inl fli))]) [2, 0, 1] (by decide) rfl
              have hK9 := hK.sub (tys' := [(cli, .int)]) [0] rfl
              exact W.iret hx hb hr (fun t ht hW => ⟨⟨_, (), rfl, trivial, 0, x0, x1, fli, by rw [ht]; exact hP9, va_K.moved hW.alike hK9, hD9⟩, hS.F ht⟩) hS.2.2 dX9_document_85
          · have tk_36 := c_eq (a := i2.toInt) (b := 1) rfl (by decide) k_36
            refine lv_aload_n hx hb dX9_document_53 rfl (lv_at hl 1 rfl) ?_
            refine lv_aload_n hx hb dX9_document_54 rfl (lv_at hl 0 rfl) ?_
            refine va_get (D := (dC, dI)) (ci := 2) (v := .ref ta_16) (C := RX2) (T := TX2) (N := 2) hx hb hts fin_X9_document_X2 hown hKQ hQ k_30 hk_30 rfl 1 (by decide) (hts (.fieldLink RX9 130 "PatternGate$Doc" "triples" "[I") (List.mem_of_getElem? (i := 19) (by decide +kernel))) (fun _ h9 => h9) rfl dX9_document_55 ?_
            refine va_alen hx hb hKQ hQ k_33 j_34 hk_33 hj_34 rfl dX9_document_58 ?_
            refine lv_topi (fun y_49 ey_49 => ?_)
            have ty_49 : y_49.toInt = (n_18 : Int) := i_len ey_49 (by omega)
            have hPc := hP.sub (ws' := [(gt, .inr (9, [.int st9, .ref tp, .int td, .int fk, .int fpl, .ref bk, .int un, .ref mb, .ref mu, .int mk, .ref rd, .ref cm, .ref wk, .ref pp, .ref so, .ref ty]))]) [0] rfl
            have hKc := hK.sub (tys' := []) [] rfl
            have hDc := hD.sub (ws' := [(gt, .inr (9, [.int st9, .ref tp, .int td, .int fk, .int fpl, .ref bk, .int un, .ref mb, .ref mu, .int mk, .ref rd, .ref cm, .ref wk, .ref pp, .ref so, .ref ty]))]) [0] (by decide) rfl
            have hFc := va_free (wc := [(gt, .inr (9, [.int st9, .ref tp, .int td, .int fk, .int fpl, .ref bk, .int un, .ref mb, .ref mu, .int mk, .ref rd, .ref cm, .ref wk, .ref pp, .ref so, .ref ty]))]) hD hS hA [0] rfl
            refine va_calli (va_runV (As := [.int y_49]) (rest := []) ⟨hx, hb, hml, hown, hts⟩ (s_answer l dC dI gt tp bk mb mu rd cm wk pp so ty st9 td fk fpl un mk H.size y_49) (cwV 1 hts mg_X9_document_X9_answer_100 rfl rfl rfl (by decide +kernel) ⟨Nat.le_of_ble_eq_true rfl, Nat.le_of_ble_eq_true rfl⟩) ⟨fun a U g mk q => by obtain ⟨q0, q1, qP, qK, qD⟩ := q; exact ⟨q0, q1, qP, va_K.moved (u := U) (U := U.calling g mk a) (Vm.Alike.refl U.vm) qK, qD⟩, va_recv hKc hPc (ci := 9) (q0 := 0) rfl rfl, fun U hU hW => ⟨rfl, by rw [hU], by rw [hU]; exact hPc, va_K.moved hW.alike hKc, hDc.weaken (fun _ _ _ _ => trivial)⟩⟩ rfl rfl hl.1 rfl (lv_room (Nat.le_of_ble_eq_true rfl)) dX9_document_59 ⟨Nat.le_of_ble_eq_true rfl, Nat.le_of_ble_eq_true rfl⟩) hS (fun q _ h => hFc q h) hFc (fun r_51 u t H1 locs ht hvm hw hB hz1 hk1 hS => ?_)
            obtain ⟨hP1, hK1, hD1⟩ := hB
            rw [ht] at hP1
            have hr_51 := hw
            obtain ⟨hP, hD⟩ := va_join (wr := [(wk, .inr (8, [.int x0, .int x1, .ref li])), (li, .inl (cli, 24, .inl fli))]) (w1 := [(gt, .inr (9, [.int 0, .ref tp, .int td, .int fk, .int fpl, .ref bk, .int un, .ref mb, .ref mu, .int mk, .ref rd, .ref cm, .ref wk, .ref pp, .ref so, .ref ty]))]) hP hD [0] [1, 2] rfl rfl (by decide) (by decide) hk1 hFc hP1 hD1
            generalize H1 = H at hP hS ⊢
            have hP : va_P (dC, dI) vwCl [(wk, .inr (8, [.int x0, .int x1, .ref li])), (li, .inl (cli, 24, .inl fli)), (gt, .inr (9, [.int 0, .ref tp, .int td, .int fk, .int fpl, .ref bk, .int un, .ref mb, .ref mu, .int mk, .ref rd, .ref cm, .ref wk, .ref pp, .ref so, .ref ty]))] H := hP
            have hD : va_D A [(wk, .inr (8, [.int x0, .int x1, .ref li])), (li, .inl (cli, 24, .inl fli)), (gt, .inr (9, [.int 0, .ref tp, .int td, .int fk, .int fpl, .ref bk, .int un, .ref mb, .ref mu, .int mk, .ref rd, .ref cm, .ref wk, .ref pp, .ref so, .ref ty]))] := hD
            have hQ := q_at hQ0 hQA hS
            have hP9 := hP.sub (ws' := [(gt, .inr (9, [.int 0, .ref tp, .int td, .int fk, .int fpl, .ref bk, .int un, .ref mb, .ref mu, .int mk, .ref rd, .ref cm, .ref wk, .ref pp, .ref so, .ref ty])), (wk, .inr (8, [.int x0, .int x1, .ref li])), (li, .inl (cli, 24, .inl fli))]) [2, 0, 1] rfl
            have hD9 := hD.sub (ws' := [(gt, .inr (9, [.int 0, .ref tp, .int td, .int fk, .int fpl, .ref bk, .int un, .ref mb, .ref mu, .int mk, .ref rd, .ref cm, .ref wk, .ref pp, .ref so, .ref ty])), (wk, .inr (8, [.int x0, .int x1, .ref li])), (li, .inl (cli, 24, .inl fli))]) [2, 0, 1] (by decide) rfl
            have hK9 := hK.sub (tys' := [(cli, .int)]) [0] rfl
            exact W.iret hx hb hr (fun t ht hW => ⟨⟨_, (), rfl, trivial, 0, x0, x1, fli, by rw [ht]; exact hP9, va_K.moved hW.alike hK9, hD9⟩, hS.F ht⟩) hS.2.2 dX9_document_62
        · have tk_35 := c_eq (a := i2.toInt) (b := 0) rfl (by decide) k_35
          refine lv_aload_n hx hb dX9_document_38 rfl (lv_at hl 1 rfl) ?_
          refine lv_aload_n hx hb dX9_document_39 rfl (lv_at hl 0 rfl) ?_
          refine va_get (D := (dC, dI)) (ci := 2) (v := .ref la_15) (C := RX2) (T := TX2) (N := 2) hx hb hts fin_X9_document_X2 hown hKQ hQ k_30 hk_30 rfl 0 (by decide) (hts (.fieldLink RX9 127 "PatternGate$Doc" "letters" "[I") (List.mem_of_getElem? (i := 20) (by decide +kernel))) (fun _ h9 => h9) rfl dX9_document_40 ?_
          refine va_alen hx hb hKQ hQ k_31 j_32 hk_31 hj_32 rfl dX9_document_43 ?_
          refine lv_topi (fun y_52 ey_52 => ?_)
          have ty_52 : y_52.toInt = (m_17 : Int) := i_len ey_52 (by omega)
          have hPc := hP.sub (ws' := [(gt, .inr (9, [.int st9, .ref tp, .int td, .int fk, .int fpl, .ref bk, .int un, .ref mb, .ref mu, .int mk, .ref rd, .ref cm, .ref wk, .ref pp, .ref so, .ref ty]))]) [0] rfl
          have hKc := hK.sub (tys' := []) [] rfl
          have hDc := hD.sub (ws' := [(gt, .inr (9, [.int st9, .ref tp, .int td, .int fk, .int fpl, .ref bk, .int un, .ref mb, .ref mu, .int mk, .ref rd, .ref cm, .ref wk, .ref pp, .ref so, .ref ty]))]) [0] (by decide) rfl
          have hFc := va_free (wc := [(gt, .inr (9, [.int st9, .ref tp, .int td, .int fk, .int fpl, .ref bk, .int un, .ref mb, .ref mu, .int mk, .ref rd, .ref cm, .ref wk, .ref pp, .ref so, .ref ty]))]) hD hS hA [0] rfl
          refine va_calli (va_runV (As := [.int y_52]) (rest := []) ⟨hx, hb, hml, hown, hts⟩ (s_answer l dC dI gt tp bk mb mu rd cm wk pp so ty st9 td fk fpl un mk H.size y_52) (cwV 1 hts mg_X9_document_X9_answer_100 rfl rfl rfl (by decide +kernel) ⟨Nat.le_of_ble_eq_true rfl, Nat.le_of_ble_eq_true rfl⟩) ⟨fun a U g mk q => by obtain ⟨q0, q1, qP, qK, qD⟩ := q; exact ⟨q0, q1, qP, va_K.moved (u := U) (U := U.calling g mk a) (Vm.Alike.refl U.vm) qK, qD⟩, va_recv hKc hPc (ci := 9) (q0 := 0) rfl rfl, fun U hU hW => ⟨rfl, by rw [hU], by rw [hU]; exact hPc, va_K.moved hW.alike hKc, hDc.weaken (fun _ _ _ _ => trivial)⟩⟩ rfl rfl hl.1 rfl (lv_room (Nat.le_of_ble_eq_true rfl)) dX9_document_44 ⟨Nat.le_of_ble_eq_true rfl, Nat.le_of_ble_eq_true rfl⟩) hS (fun q _ h => hFc q h) hFc (fun r_54 u t H1 locs ht hvm hw hB hz1 hk1 hS => ?_)
          obtain ⟨hP1, hK1, hD1⟩ := hB
          rw [ht] at hP1
          have hr_54 := hw
          obtain ⟨hP, hD⟩ := va_join (wr := [(wk, .inr (8, [.int x0, .int x1, .ref li])), (li, .inl (cli, 24, .inl fli))]) (w1 := [(gt, .inr (9, [.int 0, .ref tp, .int td, .int fk, .int fpl, .ref bk, .int un, .ref mb, .ref mu, .int mk, .ref rd, .ref cm, .ref wk, .ref pp, .ref so, .ref ty]))]) hP hD [0] [1, 2] rfl rfl (by decide) (by decide) hk1 hFc hP1 hD1
          generalize H1 = H at hP hS ⊢
          have hP : va_P (dC, dI) vwCl [(wk, .inr (8, [.int x0, .int x1, .ref li])), (li, .inl (cli, 24, .inl fli)), (gt, .inr (9, [.int 0, .ref tp, .int td, .int fk, .int fpl, .ref bk, .int un, .ref mb, .ref mu, .int mk, .ref rd, .ref cm, .ref wk, .ref pp, .ref so, .ref ty]))] H := hP
          have hD : va_D A [(wk, .inr (8, [.int x0, .int x1, .ref li])), (li, .inl (cli, 24, .inl fli)), (gt, .inr (9, [.int 0, .ref tp, .int td, .int fk, .int fpl, .ref bk, .int un, .ref mb, .ref mu, .int mk, .ref rd, .ref cm, .ref wk, .ref pp, .ref so, .ref ty]))] := hD
          have hQ := q_at hQ0 hQA hS
          have hP9 := hP.sub (ws' := [(gt, .inr (9, [.int 0, .ref tp, .int td, .int fk, .int fpl, .ref bk, .int un, .ref mb, .ref mu, .int mk, .ref rd, .ref cm, .ref wk, .ref pp, .ref so, .ref ty])), (wk, .inr (8, [.int x0, .int x1, .ref li])), (li, .inl (cli, 24, .inl fli))]) [2, 0, 1] rfl
          have hD9 := hD.sub (ws' := [(gt, .inr (9, [.int 0, .ref tp, .int td, .int fk, .int fpl, .ref bk, .int un, .ref mb, .ref mu, .int mk, .ref rd, .ref cm, .ref wk, .ref pp, .ref so, .ref ty])), (wk, .inr (8, [.int x0, .int x1, .ref li])), (li, .inl (cli, 24, .inl fli))]) [2, 0, 1] (by decide) rfl
          have hK9 := hK.sub (tys' := [(cli, .int)]) [0] rfl
          exact W.iret hx hb hr (fun t ht hW => ⟨⟨_, (), rfl, trivial, 0, x0, x1, fli, by rw [ht]; exact hP9, va_K.moved hW.alike hK9, hD9⟩, hS.F ht⟩) hS.2.2 dX9_document_47
    · have tk_9 := c_nle (a := i2.toInt) (b := 3) rfl (by decide) k_9
      refine lv_aload_n hx hb dX9_document_9 rfl (lv_at hl 0 rfl) ?_
      refine lv_iconst (v := 1) hx hb dX9_document_10 (by decide) ?_
      have hPc := hP.sub (ws' := [(gt, .inr (9, [.int st9, .ref tp, .int td, .int fk, .int fpl, .ref bk, .int un, .ref mb, .ref mu, .int mk, .ref rd, .ref cm, .ref wk, .ref pp, .ref so, .ref ty]))]) [0] rfl
      have hKc := hK.sub (tys' := []) [] rfl
      have hDc := hD.sub (ws' := [(gt, .inr (9, [.int st9, .ref tp, .int td, .int fk, .int fpl, .ref bk, .int un, .ref mb, .ref mu, .int mk, .ref rd, .ref cm, .ref wk, .ref pp, .ref so, .ref ty]))]) [0] (by decide) rfl
      have hFc := va_free (wc := [(gt, .inr (9, [.int st9, .ref tp, .int td, .int fk, .int fpl, .ref bk, .int un, .ref mb, .ref mu, .int mk, .ref rd, .ref cm, .ref wk, .ref pp, .ref so, .ref ty]))]) hD hS hA [0] rfl
      refine va_calli (va_runV (As := [.int 1]) (rest := []) ⟨hx, hb, hml, hown, hts⟩ (s_refuse l dC dI gt tp bk mb mu rd cm wk pp so ty st9 td fk fpl un mk H.size 1) (cwV 1 hts mg_X9_document_X9_refuse_80 rfl rfl rfl (by decide +kernel) ⟨Nat.le_of_ble_eq_true rfl, Nat.le_of_ble_eq_true rfl⟩) ⟨fun a U g mk q => by obtain ⟨q0, q1, qP, qK, qD⟩ := q; exact ⟨q0, q1, qP, va_K.moved (u := U) (U := U.calling g mk a) (Vm.Alike.refl U.vm) qK, qD⟩, va_recv hKc hPc (ci := 9) (q0 := 0) rfl rfl, fun U hU hW => ⟨rfl, by rw [hU], by rw [hU]; exact hPc, va_K.moved hW.alike hKc, hDc.weaken (fun _ _ _ _ => trivial)⟩⟩ rfl rfl hl.1 rfl (lv_room (Nat.le_of_ble_eq_true rfl)) dX9_document_11 ⟨Nat.le_of_ble_eq_true rfl, Nat.le_of_ble_eq_true rfl⟩) hS (fun q _ h => hFc q h) hFc (fun r_56 u t H1 locs ht hvm hw hB hz1 hk1 hS => ?_)
      obtain ⟨hP1, hK1, hD1⟩ := hB
      rw [ht] at hP1
      have hr_56 := hw
      obtain ⟨hP, hD⟩ := va_join (wr := [(wk, .inr (8, [.int x0, .int x1, .ref li])), (li, .inl (cli, 24, .inl fli))]) (w1 := [(gt, .inr (9, [.int 1, .ref tp, .int td, .int fk, .int fpl, .ref bk, .int un, .ref mb, .ref mu, .int mk, .ref rd, .ref cm, .ref wk, .ref pp, .ref so, .ref ty]))]) hP hD [0] [1, 2] rfl rfl (by decide) (by decide) hk1 hFc hP1 hD1
      generalize H1 = H at hP hS ⊢
      have hP : va_P (dC, dI) vwCl [(wk, .inr (8, [.int x0, .int x1, .ref li])), (li, .inl (cli, 24, .inl fli)), (gt, .inr (9, [.int 1, .ref tp, .int td, .int fk, .int fpl, .ref bk, .int un, .ref mb, .ref mu, .int mk, .ref rd, .ref cm, .ref wk, .ref pp, .ref so, .ref ty]))] H := hP
      have hD : va_D A [(wk, .inr (8, [.int x0, .int x1, .ref li])), (li, .inl (cli, 24, .inl fli)), (gt, .inr (9, [.int 1, .ref tp, .int td, .int fk, .int fpl, .ref bk, .int un, .ref mb, .ref mu, .int mk, .ref rd, .ref cm, .ref wk, .ref pp, .ref so, .ref ty]))] := hD
      have hQ := q_at hQ0 hQA hS
      have hP9 := hP.sub (ws' := [(gt, .inr (9, [.int 1, .ref tp, .int td, .int fk, .int fpl, .ref bk, .int un, .ref mb, .ref mu, .int mk, .ref rd, .ref cm, .ref wk, .ref pp, .ref so, .ref ty])), (wk, .inr (8, [.int x0, .int x1, .ref li])), (li, .inl (cli, 24, .inl fli))]) [2, 0, 1] rfl
      have hD9 := hD.sub (ws' := [(gt, .inr (9, [.int 1, .ref tp, .int td, .int fk, .int fpl, .ref bk, .int un, .ref mb, .ref mu, .int mk, .ref rd, .ref cm, .ref wk, .ref pp, .ref so, .ref ty])), (wk, .inr (8, [.int x0, .int x1, .ref li])), (li, .inl (cli, 24, .inl fli))]) [2, 0, 1] (by decide) rfl
      have hK9 := hK.sub (tys' := [(cli, .int)]) [0] rfl
      exact W.iret hx hb hr (fun t ht hW => ⟨⟨_, (), rfl, trivial, 1, x0, x1, fli, by rw [ht]; exact hP9, va_K.moved hW.alike hK9, hD9⟩, hS.F ht⟩) hS.2.2 dX9_document_14
theorem dX9_gate_0 : decode cX9_gate 0 = .ok (.iload_n 2, 1) := by decide +kernel
theorem dX9_gate_1 : decode cX9_gate 1 = .ok (.ifCond .lt 8, 3) := by decide +kernel
theorem dX9_gate_4 : decode cX9_gate 4 = .ok (.iload_n 2, 1) := by decide +kernel
theorem dX9_gate_5 : decode cX9_gate 5 = .ok (.iconst 3, 1) := by decide +kernel
theorem dX9_gate_6 : decode cX9_gate 6 = .ok (.if_icmp .le 9, 3) := by decide +kernel
theorem dX9_gate_9 : decode cX9_gate 9 = .ok (.aload_n 0, 1) := by decide +kernel
theorem dX9_gate_10 : decode cX9_gate 10 = .ok (.iconst 1, 1) := by decide +kernel
theorem dX9_gate_11 : decode cX9_gate 11 = .ok (.invokevirtual 80, 3) := by decide +kernel
theorem dX9_gate_14 : decode cX9_gate 14 = .ok (.ireturn, 1) := by decide +kernel
theorem dX9_gate_15 : decode cX9_gate 15 = .ok (.aload_n 0, 1) := by decide +kernel
theorem dX9_gate_16 : decode cX9_gate 16 = .ok (.getfield 29, 3) := by decide +kernel
theorem dX9_gate_19 : decode cX9_gate 19 = .ok (.iload_n 1, 1) := by decide +kernel
theorem dX9_gate_20 : decode cX9_gate 20 = .ok (.invokevirtual 140, 3) := by decide +kernel
theorem dX9_gate_23 : decode cX9_gate 23 = .ok (.astore_n 3, 1) := by decide +kernel
theorem dX9_gate_24 : decode cX9_gate 24 = .ok (.aload_n 3, 1) := by decide +kernel
theorem dX9_gate_25 : decode cX9_gate 25 = .ok (.ifnonnull 9, 3) := by decide +kernel
theorem dX9_gate_28 : decode cX9_gate 28 = .ok (.aload_n 0, 1) := by decide +kernel
theorem dX9_gate_29 : decode cX9_gate 29 = .ok (.iconst 2, 1) := by decide +kernel
theorem dX9_gate_30 : decode cX9_gate 30 = .ok (.invokevirtual 80, 3) := by decide +kernel
theorem dX9_gate_33 : decode cX9_gate 33 = .ok (.ireturn, 1) := by decide +kernel
theorem dX9_gate_34 : decode cX9_gate 34 = .ok (.iload_n 2, 1) := by decide +kernel
theorem dX9_gate_35 : decode cX9_gate 35 = .ok (.iconst 2, 1) := by decide +kernel
theorem dX9_gate_36 : decode cX9_gate 36 = .ok (.if_icmp .ne 13, 3) := by decide +kernel
theorem dX9_gate_39 : decode cX9_gate 39 = .ok (.aload_n 0, 1) := by decide +kernel
theorem dX9_gate_40 : decode cX9_gate 40 = .ok (.aload_n 0, 1) := by decide +kernel
theorem dX9_gate_41 : decode cX9_gate 41 = .ok (.aload_n 3, 1) := by decide +kernel
theorem dX9_gate_42 : decode cX9_gate 42 = .ok (.invokevirtual 208, 3) := by decide +kernel
theorem dX9_gate_45 : decode cX9_gate 45 = .ok (.invokevirtual 100, 3) := by decide +kernel
theorem dX9_gate_48 : decode cX9_gate 48 = .ok (.ireturn, 1) := by decide +kernel
theorem dX9_gate_49 : decode cX9_gate 49 = .ok (.aload_n 0, 1) := by decide +kernel
theorem dX9_gate_50 : decode cX9_gate 50 = .ok (.getfield 57, 3) := by decide +kernel
theorem dX9_gate_53 : decode cX9_gate 53 = .ok (.aload_n 3, 1) := by decide +kernel
theorem dX9_gate_54 : decode cX9_gate 54 = .ok (.aload_n 0, 1) := by decide +kernel
theorem dX9_gate_55 : decode cX9_gate 55 = .ok (.getfield 29, 3) := by decide +kernel
theorem dX9_gate_58 : decode cX9_gate 58 = .ok (.invokevirtual 212, 3) := by decide +kernel
theorem dX9_gate_61 : decode cX9_gate 61 = .ok (.iload_n 2, 1) := by decide +kernel
theorem dX9_gate_62 : decode cX9_gate 62 = .ok (.ifCond .ne 15, 3) := by decide +kernel
theorem dX9_gate_65 : decode cX9_gate 65 = .ok (.aload_n 0, 1) := by decide +kernel
theorem dX9_gate_66 : decode cX9_gate 66 = .ok (.aload_n 0, 1) := by decide +kernel
theorem dX9_gate_67 : decode cX9_gate 67 = .ok (.getfield 57, 3) := by decide +kernel
theorem dX9_gate_70 : decode cX9_gate 70 = .ok (.getfield 216, 3) := by decide +kernel
theorem dX9_gate_73 : decode cX9_gate 73 = .ok (.invokevirtual 100, 3) := by decide +kernel
theorem dX9_gate_76 : decode cX9_gate 76 = .ok (.ireturn, 1) := by decide +kernel
theorem dX9_gate_77 : decode cX9_gate 77 = .ok (.iload_n 2, 1) := by decide +kernel
theorem dX9_gate_78 : decode cX9_gate 78 = .ok (.iconst 1, 1) := by decide +kernel
theorem dX9_gate_79 : decode cX9_gate 79 = .ok (.if_icmp .ne 15, 3) := by decide +kernel
theorem dX9_gate_82 : decode cX9_gate 82 = .ok (.aload_n 0, 1) := by decide +kernel
theorem dX9_gate_83 : decode cX9_gate 83 = .ok (.aload_n 0, 1) := by decide +kernel
theorem dX9_gate_84 : decode cX9_gate 84 = .ok (.getfield 57, 3) := by decide +kernel
theorem dX9_gate_87 : decode cX9_gate 87 = .ok (.getfield 219, 3) := by decide +kernel
theorem dX9_gate_90 : decode cX9_gate 90 = .ok (.invokevirtual 100, 3) := by decide +kernel
theorem dX9_gate_93 : decode cX9_gate 93 = .ok (.ireturn, 1) := by decide +kernel
theorem dX9_gate_94 : decode cX9_gate 94 = .ok (.aload_n 0, 1) := by decide +kernel
theorem dX9_gate_95 : decode cX9_gate 95 = .ok (.aload_n 0, 1) := by decide +kernel
theorem dX9_gate_96 : decode cX9_gate 96 = .ok (.getfield 57, 3) := by decide +kernel
theorem dX9_gate_99 : decode cX9_gate 99 = .ok (.getfield 216, 3) := by decide +kernel
theorem dX9_gate_102 : decode cX9_gate 102 = .ok (.aload_n 0, 1) := by decide +kernel
theorem dX9_gate_103 : decode cX9_gate 103 = .ok (.aload_n 3, 1) := by decide +kernel
theorem dX9_gate_104 : decode cX9_gate 104 = .ok (.invokevirtual 208, 3) := by decide +kernel
theorem dX9_gate_107 : decode cX9_gate 107 = .ok (.iconst (-1), 1) := by decide +kernel
theorem dX9_gate_108 : decode cX9_gate 108 = .ok (.ixor, 1) := by decide +kernel
theorem dX9_gate_109 : decode cX9_gate 109 = .ok (.iand, 1) := by decide +kernel
theorem dX9_gate_110 : decode cX9_gate 110 = .ok (.invokestatic 197, 3) := by decide +kernel
theorem dX9_gate_113 : decode cX9_gate 113 = .ok (.invokevirtual 100, 3) := by decide +kernel
theorem dX9_gate_116 : decode cX9_gate 116 = .ok (.ireturn, 1) := by decide +kernel
def mwX9_gate : List Cond := .code yX9_gate cX9_gate 4 (some .int) :: (([.methodLink RX9 80 yX9_refuse, .instanceMethod yX9_refuse, .selects RX9 yX9_refuse yX9_refuse, .initialized RX9, .fieldLink RX9 29 "PatternGate" "book" "LPatternGate$Book;", .methodLink RX9 140 yX0_patternAt, .instanceMethod yX0_patternAt, .selects RX0 yX0_patternAt yX0_patternAt, .initialized RX0, .fieldLink RX9 57 "PatternGate" "walk" "LPatternGate$Walk;", .methodLink RX9 212 yX8_through, .instanceMethod yX8_through, .selects RX8 yX8_through yX8_through, .initialized RX8, .fieldLink RX9 216 "PatternGate$Walk" "candidates" "I", .methodLink RX9 208 yX9_fittingDocuments, .instanceMethod yX9_fittingDocuments, .selects RX9 yX9_fittingDocuments yX9_fittingDocuments, .methodLink RX9 197 yJ6_bitCount_0f7a4, .static yJ6_bitCount_0f7a4, .initialized RJ6, .methodLink RX9 100 yX9_answer, .instanceMethod yX9_answer, .selects RX9 yX9_answer yX9_answer, .fieldLink RX9 219 "PatternGate$Walk" "leaps" "I"] : List Cond) ++ (wsX90 ++ (wsX80 ++ (mwX9_refuse ++ (mwX0_patternAt2 ++ (mwX8_through ++ (mwX9_fittingDocuments ++ (mwJ6_bitCount_0f7a4 ++ (mwX9_answer)))))))))
theorem fin_X9_gate_X8 : ∀ w ∈ wsX80, w ∈ mwX9_gate := fun w h => List.mem_cons_of_mem _ (List.mem_append_right _ (List.mem_append_right _ (List.mem_append_left _ h)))
theorem fin_X9_gate_X9 : ∀ w ∈ wsX90, w ∈ mwX9_gate := fun w h => List.mem_cons_of_mem _ (List.mem_append_right _ (List.mem_append_left _ h))
set_option maxRecDepth 100000 in
theorem gd_mwX9_fittingDocuments : mwX9_fittingDocuments.all goodWord = true := by decide +kernel
set_option maxRecDepth 20000 in
theorem mg_X9_gate_X9_refuse_80 : GoodIn mwX9_gate (wsV RX9 80 RX9 yX9_refuse mwX9_refuse) := gi_app (A := [.methodLink RX9 80 yX9_refuse, .instanceMethod yX9_refuse, .selects RX9 yX9_refuse yX9_refuse, .initialized RX9]) (goodIn_r _ [1, 2, 3, 4] (by decide +kernel) (by decide +kernel)) (gi_sub gd_mwX9_refuse (fun w h => List.mem_cons_of_mem _ (List.mem_append_right _ (List.mem_append_right _ (List.mem_append_right _ (List.mem_append_left _ h))))))
set_option maxRecDepth 20000 in
theorem mg_X9_gate_X0_patternAt_140 : GoodIn mwX9_gate (wsV RX9 140 RX0 yX0_patternAt mwX0_patternAt2) := gi_app (A := [.methodLink RX9 140 yX0_patternAt, .instanceMethod yX0_patternAt, .selects RX0 yX0_patternAt yX0_patternAt, .initialized RX0]) (goodIn_r _ [6, 7, 8, 9] (by decide +kernel) (by decide +kernel)) (gi_sub gd_mwX0_patternAt2 (fun w h => List.mem_cons_of_mem _ (List.mem_append_right _ (List.mem_append_right _ (List.mem_append_right _ (List.mem_append_right _ (List.mem_append_left _ h)))))))
set_option maxRecDepth 20000 in
theorem mg_X9_gate_X8_through_212 : GoodIn mwX9_gate (wsV RX9 212 RX8 yX8_through mwX8_through) := gi_app (A := [.methodLink RX9 212 yX8_through, .instanceMethod yX8_through, .selects RX8 yX8_through yX8_through, .initialized RX8]) (goodIn_r _ [11, 12, 13, 14] (by decide +kernel) (by decide +kernel)) (gi_sub gd_mwX8_through (fun w h => List.mem_cons_of_mem _ (List.mem_append_right _ (List.mem_append_right _ (List.mem_append_right _ (List.mem_append_right _ (List.mem_append_right _ (List.mem_append_left _ h))))))))
set_option maxRecDepth 20000 in
theorem mg_X9_gate_X9_fittingDocuments_208 : GoodIn mwX9_gate (wsV RX9 208 RX9 yX9_fittingDocuments mwX9_fittingDocuments) := gi_app (A := [.methodLink RX9 208 yX9_fittingDocuments, .instanceMethod yX9_fittingDocuments, .selects RX9 yX9_fittingDocuments yX9_fittingDocuments, .initialized RX9]) (goodIn_r _ [16, 17, 18, 4] (by decide +kernel) (by decide +kernel)) (gi_sub gd_mwX9_fittingDocuments (fun w h => List.mem_cons_of_mem _ (List.mem_append_right _ (List.mem_append_right _ (List.mem_append_right _ (List.mem_append_right _ (List.mem_append_right _ (List.mem_append_right _ (List.mem_append_left _ h)))))))))
set_option maxRecDepth 20000 in
theorem mg_X9_gate_J6_bitCount_0f7a4_197 : GoodIn mwX9_gate (va_wsS RX9 197 yJ6_bitCount_0f7a4 mwJ6_bitCount_0f7a4) := gi_app (A := [.methodLink RX9 197 yJ6_bitCount_0f7a4, .static yJ6_bitCount_0f7a4, .initialized RJ6]) (goodIn_r _ [19, 20, 21] (by decide +kernel) (by decide +kernel)) (gi_sub gd_mwJ6_bitCount_0f7a4 (fun w h => List.mem_cons_of_mem _ (List.mem_append_right _ (List.mem_append_right _ (List.mem_append_right _ (List.mem_append_right _ (List.mem_append_right _ (List.mem_append_right _ (List.mem_append_right _ (List.mem_append_left _ h))))))))))
set_option maxRecDepth 20000 in
theorem mg_X9_gate_X9_answer_100 : GoodIn mwX9_gate (wsV RX9 100 RX9 yX9_answer mwX9_answer) := gi_app (A := [.methodLink RX9 100 yX9_answer, .instanceMethod yX9_answer, .selects RX9 yX9_answer yX9_answer, .initialized RX9]) (goodIn_r _ [22, 23, 24, 4] (by decide +kernel) (by decide +kernel)) (gi_sub gd_mwX9_answer (fun w h => List.mem_cons_of_mem _ (List.mem_append_right _ (List.mem_append_right _ (List.mem_append_right _ (List.mem_append_right _ (List.mem_append_right _ (List.mem_append_right _ (List.mem_append_right _ (List.mem_append_right _ (h)))))))))))
set_option maxHeartbeats 4000000 in
set_option maxRecDepth 100000 in
/-- gate: gate -/
theorem s_g_gate (l : Launch) (dC : Nat → ClassId) (dI : Nat → Nat → Nat) (W9 : va_W) (T9 : List (ClassId × FieldType)) (B9 : Nat → Prop) (gt tp bk mb mu rd cm wk pp so ty : Nat) (st9 td fk fpl un mk : Int32) (li : Nat) (cli : ClassId) (fli : Nat → Int32) (x0 x1 : Int32) (sz : Nat) (i1 i2 : Int32) (hB9 : gB W9 T9 B9) (hbk : B9 bk) : Met l yX9_gate mwX9_gate ({ frames := 4, cells := 0, slots := 0, locals := 240 }) (va_Pc [.ref gt, .int i1, .int i2] (fun U => U.heap.size = sz ∧ va_P (dC, dI) vwCl ([(gt, .inr (9, [.int st9, .ref tp, .int td, .int fk, .int fpl, .ref bk, .int un, .ref mb, .ref mu, .int mk, .ref rd, .ref cm, .ref wk, .ref pp, .ref so, .ref ty])), (wk, .inr (8, [.int x0, .int x1, .ref li])), (li, .inl (cli, 24, .inl fli))]) U.heap ∧ va_K (dC, dI) vwCl ([(cli, .int)]) U ∧ va_D (fun _ => True) ([(gt, .inr (9, [.int st9, .ref tp, .int td, .int fk, .int fpl, .ref bk, .int un, .ref mb, .ref mu, .int mk, .ref rd, .ref cm, .ref wk, .ref pp, .ref so, .ref ty])), (wk, .inr (8, [.int x0, .int x1, .ref li])), (li, .inl (cli, 24, .inl fli))]) ∧ va_P (dC, dI) vwCl W9 U.heap ∧ va_K (dC, dI) vwCl T9 U ∧ (∀ q ∈ W9, ¬ va_A ([(gt, .inr (9, [.int st9, .ref tp, .int td, .int fk, .int fpl, .ref bk, .int un, .ref mb, .ref mu, .int mk, .ref rd, .ref cm, .ref wk, .ref pp, .ref so, .ref ty])), (wk, .inr (8, [.int x0, .int x1, .ref li])), (li, .inl (cli, 24, .inl fli))]) sz q.1))) (va_Qi (fun (_ : Int32) (_ : Unit) => True) (fun _ t => ∃ (y0 y1 y2 : Int32) (f9 : Nat → Int32), va_P (dC, dI) vwCl [(gt, .inr (9, [.int y0, .ref tp, .int td, .int fk, .int fpl, .ref bk, .int un, .ref mb, .ref mu, .int mk, .ref rd, .ref cm, .ref wk, .ref pp, .ref so, .ref ty])), (wk, .inr (8, [.int y1, .int y2, .ref li])), (li, .inl (cli, 24, .inl f9))] t.heap ∧ va_K (dC, dI) vwCl [(cli, .int)] t ∧ va_D (va_A ([(gt, .inr (9, [.int st9, .ref tp, .int td, .int fk, .int fpl, .ref bk, .int un, .ref mb, .ref mu, .int mk, .ref rd, .ref cm, .ref wk, .ref pp, .ref so, .ref ty])), (wk, .inr (8, [.int x0, .int x1, .ref li])), (li, .inl (cli, 24, .inl fli))]) sz) [(gt, .inr (9, [.int y0, .ref tp, .int td, .int fk, .int fpl, .ref bk, .int un, .ref mb, .ref mu, .int mk, .ref rd, .ref cm, .ref wk, .ref pp, .ref so, .ref ty])), (wk, .inr (8, [.int y1, .int y2, .ref li])), (li, .inl (cli, 24, .inl f9))]) (va_A ([(gt, .inr (9, [.int st9, .ref tp, .int td, .int fk, .int fpl, .ref bk, .int un, .ref mb, .ref mu, .int mk, .ref rd, .ref cm, .ref wk, .ref pp, .ref so, .ref ty])), (wk, .inr (8, [.int x0, .int x1, .ref li])), (li, .inl (cli, 24, .inl fli))]) sz)) 0 0 (va_A ([(gt, .inr (9, [.int st9, .ref tp, .int td, .int fk, .int fpl, .ref bk, .int un, .ref mb, .ref mu, .int mk, .ref rd, .ref cm, .ref wk, .ref pp, .ref so, .ref ty])), (wk, .inr (8, [.int x0, .int x1, .ref li])), (li, .inl (cli, 24, .inl fli))]) sz) := by
  refine Met.ofW (cc := cX9_gate) (maxL := 4) (ret := (some .int)) (by decide +kernel) rfl ?_
  intro p e s m args below meth c s₁ B hml hv
  obtain ⟨rfl, hsz, hP, hK, hD0, hQ0, hKQ, hQA⟩ := hv
  have hx := B.exec
  have hb := B.bytes
  have hr := B.returns
  have hts := atoms_spec (ws := mwX9_gate) B.pre
  have hown : s.vm.findClass RX9 = some m.cls := findClass_of_methodNamed B.named
  have hlocks := B.notSynchronized
  subst hsz
  have hD := hD0.self (sz := s.heap.size)
  generalize hAe : va_A ([(gt, .inr (9, [.int st9, .ref tp, .int td, .int fk, .int fpl, .ref bk, .int un, .ref mb, .ref mu, .int mk, .ref rd, .ref cm, .ref wk, .ref pp, .ref so, .ref ty])), (wk, .inr (8, [.int x0, .int x1, .ref li])), (li, .inl (cli, 24, .inl fli))]) s.heap.size = A at hD hQA ⊢
  have hA : ∀ q : Nat, s.heap.size ≤ q → A q := fun q h => by rw [← hAe]; exact Or.inr h
  have hP : va_P (dC, dI) vwCl [(gt, .inr (9, [.int st9, .ref tp, .int td, .int fk, .int fpl, .ref bk, .int un, .ref mb, .ref mu, .int mk, .ref rd, .ref cm, .ref wk, .ref pp, .ref so, .ref ty])), (wk, .inr (8, [.int x0, .int x1, .ref li])), (li, .inl (cli, 24, .inl fli))] s.heap := hP
  have hD : va_D A [(gt, .inr (9, [.int st9, .ref tp, .int td, .int fk, .int fpl, .ref bk, .int un, .ref mb, .ref mu, .int mk, .ref rd, .ref cm, .ref wk, .ref pp, .ref so, .ref ty])), (wk, .inr (8, [.int x0, .int x1, .ref li])), (li, .inl (cli, 24, .inl fli))] := hD
  have hK : va_K (dC, dI) vwCl [(cli, .int)] s := hK
  generalize hH : s.heap = H at hP ⊢
  have hS : va_S A s.heap H [] := by rw [← hH]; exact va_S.rf
  have hQ := q_at hQ0 hQA hS
  have hl := lv_entry ([.ref gt, .int i1, .int i2]) (n := 4) (Nat.le_of_ble_eq_true rfl)
  rw [lg_entry_eq]
  generalize (lg_sl ([.ref gt, .int i1, .int i2]) ++ List.replicate (4 - (lg_sl ([.ref gt, .int i1, .int i2])).length) Slot.unset).toArray = ls at hl ⊢
  have hl : lv_has ls 4 [(0, .ref gt), (1, .int i1), (2, .int i2)] := hl
  have rg_i1 := i_rng i1
  have rg_i2 := i_rng i2
  obtain ⟨ear, hB3, hear⟩ := hB9 bk hbk
  have hB0 := hB3.poB
  obtain ⟨ds, ps, nd, np, fd, fp, cD, cP, m1, m2, m3, m4, m5, hnd, hnp, hds, hps⟩ := id hB3
  obtain ⟨k_1, hk_1⟩ := List.getElem?_of_mem m1
  obtain ⟨k_2, hk_2⟩ := List.getElem?_of_mem m2
  obtain ⟨j_3, hj_3⟩ := List.getElem?_of_mem m3
  obtain ⟨k_4, hk_4⟩ := List.getElem?_of_mem m4
  obtain ⟨j_5, hj_5⟩ := List.getElem?_of_mem m5
  have r_un := i_rng un
  have r_mk := i_rng mk
  have r_td := i_rng td
  refine lv_iload_n hx hb dX9_gate_0 rfl (lv_at hl 2 rfl) ?_
  refine lv_if_lt (tgt := 9) hx hb dX9_gate_1 (by decide) (fun k_6 => ?_) (fun k_6 => ?_)
  · have tk_6 := c_lt (a := i2.toInt) (b := 0) rfl (by decide) k_6
    refine lv_aload_n hx hb dX9_gate_9 rfl (lv_at hl 0 rfl) ?_
    refine lv_iconst (v := 1) hx hb dX9_gate_10 (by decide) ?_
    have hPc := hP.sub (ws' := [(gt, .inr (9, [.int st9, .ref tp, .int td, .int fk, .int fpl, .ref bk, .int un, .ref mb, .ref mu, .int mk, .ref rd, .ref cm, .ref wk, .ref pp, .ref so, .ref ty]))]) [0] rfl
    have hKc := hK.sub (tys' := []) [] rfl
    have hDc := hD.sub (ws' := [(gt, .inr (9, [.int st9, .ref tp, .int td, .int fk, .int fpl, .ref bk, .int un, .ref mb, .ref mu, .int mk, .ref rd, .ref cm, .ref wk, .ref pp, .ref so, .ref ty]))]) [0] (by decide) rfl
    have hFc := va_free (wc := [(gt, .inr (9, [.int st9, .ref tp, .int td, .int fk, .int fpl, .ref bk, .int un, .ref mb, .ref mu, .int mk, .ref rd, .ref cm, .ref wk, .ref pp, .ref so, .ref ty]))]) hD hS hA [0] rfl
    refine va_calli (va_runV (As := [.int 1]) (rest := []) ⟨hx, hb, hml, hown, hts⟩ (s_refuse l dC dI gt tp bk mb mu rd cm wk pp so ty st9 td fk fpl un mk H.size 1) (cwV 1 hts mg_X9_gate_X9_refuse_80 rfl rfl rfl (by decide +kernel) ⟨Nat.le_of_ble_eq_true rfl, Nat.le_of_ble_eq_true rfl⟩) ⟨fun a U g mk q => by obtain ⟨q0, q1, qP, qK, qD⟩ := q; exact ⟨q0, q1, qP, va_K.moved (u := U) (U := U.calling g mk a) (Vm.Alike.refl U.vm) qK, qD⟩, va_recv hKc hPc (ci := 9) (q0 := 0) rfl rfl, fun U hU hW => ⟨rfl, by rw [hU], by rw [hU]; exact hPc, va_K.moved hW.alike hKc, hDc.weaken (fun _ _ _ _ => trivial)⟩⟩ rfl rfl hl.1 rfl (lv_room (Nat.le_of_ble_eq_true rfl)) dX9_gate_11 ⟨Nat.le_of_ble_eq_true rfl, Nat.le_of_ble_eq_true rfl⟩) hS (fun q _ h => hFc q h) hFc (fun r_8 u t H1 locs ht hvm hw hB hz1 hk1 hS => ?_)
    obtain ⟨hP1, hK1, hD1⟩ := hB
    rw [ht] at hP1
    have hr_8 := hw
    obtain ⟨hP, hD⟩ := va_join (wr := [(wk, .inr (8, [.int x0, .int x1, .ref li])), (li, .inl (cli, 24, .inl fli))]) (w1 := [(gt, .inr (9, [.int 1, .ref tp, .int td, .int fk, .int fpl, .ref bk, .int un, .ref mb, .ref mu, .int mk, .ref rd, .ref cm, .ref wk, .ref pp, .ref so, .ref ty]))]) hP hD [0] [1, 2] rfl rfl (by decide) (by decide) hk1 hFc hP1 hD1
    generalize H1 = H at hP hS ⊢
    have hP : va_P (dC, dI) vwCl [(wk, .inr (8, [.int x0, .int x1, .ref li])), (li, .inl (cli, 24, .inl fli)), (gt, .inr (9, [.int 1, .ref tp, .int td, .int fk, .int fpl, .ref bk, .int un, .ref mb, .ref mu, .int mk, .ref rd, .ref cm, .ref wk, .ref pp, .ref so, .ref ty]))] H := hP
    have hD : va_D A [(wk, .inr (8, [.int x0, .int x1, .ref li])), (li, .inl (cli, 24, .inl fli)), (gt, .inr (9, [.int 1, .ref tp, .int td, .int fk, .int fpl, .ref bk, .int un, .ref mb, .ref mu, .int mk, .ref rd, .ref cm, .ref wk, .ref pp, .ref so, .ref ty]))] := hD
    have hQ := q_at hQ0 hQA hS
    have hP9 := hP.sub (ws' := [(gt, .inr (9, [.int 1, .ref tp, .int td, .int fk, .int fpl, .ref bk, .int un, .ref mb, .ref mu, .int mk, .ref rd, .ref cm, .ref wk, .ref pp, .ref so, .ref ty])), (wk, .inr (8, [.int x0, .int x1, .ref li])), (li, .inl (cli, 24, .inl fli))]) [2, 0, 1] rfl
    have hD9 := hD.sub (ws' := [(gt, .inr (9, [.int 1, .ref tp, .int td, .int fk, .int fpl, .ref bk, .int un, .ref mb, .ref mu, .int mk, .ref rd, .ref cm, .ref wk, .ref pp, .ref so, .ref ty])), (wk, .inr (8, [.int x0, .int x1, .ref li])), (li, .inl (cli, 24, .inl fli))]) [2, 0, 1] (by decide) rfl
    have hK9 := hK.sub (tys' := [(cli, .int)]) [0] rfl
    exact W.iret hx hb hr (fun t ht hW => ⟨⟨_, (), rfl, trivial, 1, x0, x1, fli, by rw [ht]; exact hP9, va_K.moved hW.alike hK9, hD9⟩, hS.F ht⟩) hS.2.2 dX9_gate_14
  · have tk_6 := c_nlt (a := i2.toInt) (b := 0) rfl (by decide) k_6
    refine lv_iload_n hx hb dX9_gate_4 rfl (lv_at hl 2 rfl) ?_
    refine lv_iconst (v := 3) hx hb dX9_gate_5 (by decide) ?_
    refine lv_icmp_le (tgt := 15) hx hb dX9_gate_6 (by decide) (fun k_9 => ?_) (fun k_9 => ?_)
    · have tk_9 := c_le (a := i2.toInt) (b := 3) rfl (by decide) k_9
      refine lv_aload_n hx hb dX9_gate_15 rfl (lv_at hl 0 rfl) ?_
      refine va_get (D := (dC, dI)) (ci := 9) (v := .ref bk) (C := RX9) (T := TX9) (N := 16) hx hb hts fin_X9_gate_X9 hown hK hP 0 rfl rfl 5 (by decide) (hts (.fieldLink RX9 29 "PatternGate" "book" "LPatternGate$Book;") (List.mem_of_getElem? (i := 5) (by decide +kernel))) (fun _ h9 => h9) rfl dX9_gate_16 ?_
      refine lv_iload_n hx hb dX9_gate_19 rfl (lv_at hl 1 rfl) ?_
      have hPc := hQ
      have hKc := hKQ
      refine va_csq (W.runV (As := [.int i1]) (rest := []) ⟨hx, hb, hml, hown, hts⟩ (s_patternAt2 l dC dI W9 T9 bk ear i1 hB3) (cwV 1 hts mg_X9_gate_X0_patternAt_140 rfl rfl rfl (by decide +kernel) ⟨Nat.le_of_ble_eq_true rfl, Nat.le_of_ble_eq_true rfl⟩) ⟨fun a U g mk q => by obtain ⟨q0, qP, qK⟩ := q; exact ⟨q0, qP, va_K.moved (u := U) (U := U.calling g mk a) (Vm.Alike.refl U.vm) qK⟩, va_recv hKc hPc (ci := 0) (q0 := k_1) rfl hk_1, fun U hU hW => ⟨rfl, by rw [hU]; exact hPc, va_K.moved hW.alike hKc⟩⟩ rfl rfl hl.1 rfl (lv_room (Nat.le_of_ble_eq_true rfl)) dX9_gate_20 ⟨Nat.le_of_ble_eq_true rfl, Nat.le_of_ble_eq_true rfl⟩) (fun r_11 hw => ?_)
      rcases hw with rfl | ⟨d_12, rfl, hd_12⟩
      · refine W.eq (g2 := F0 m 23 ls [.null]) rfl ?_
        refine lv_astore_nN (lv' := [(3, .null), (0, .ref gt), (1, .int i1), (2, .int i2)]) hx hb dX9_gate_23 rfl hl (by decide) rfl (fun ls hl => ?_)
        refine lv_aload_nN hx hb dX9_gate_24 rfl (lv_at hl 0 rfl) ?_
        refine lv_ifnonnullN hx hb dX9_gate_25 ?_
        refine lv_aload_n hx hb dX9_gate_28 rfl (lv_at hl 1 rfl) ?_
        refine lv_iconst (v := 2) hx hb dX9_gate_29 (by decide) ?_
        have hPc := hP.sub (ws' := [(gt, .inr (9, [.int st9, .ref tp, .int td, .int fk, .int fpl, .ref bk, .int un, .ref mb, .ref mu, .int mk, .ref rd, .ref cm, .ref wk, .ref pp, .ref so, .ref ty]))]) [0] rfl
        have hKc := hK.sub (tys' := []) [] rfl
        have hDc := hD.sub (ws' := [(gt, .inr (9, [.int st9, .ref tp, .int td, .int fk, .int fpl, .ref bk, .int un, .ref mb, .ref mu, .int mk, .ref rd, .ref cm, .ref wk, .ref pp, .ref so, .ref ty]))]) [0] (by decide) rfl
        have hFc := va_free (wc := [(gt, .inr (9, [.int st9, .ref tp, .int td, .int fk, .int fpl, .ref bk, .int un, .ref mb, .ref mu, .int mk, .ref rd, .ref cm, .ref wk, .ref pp, .ref so, .ref ty]))]) hD hS hA [0] rfl
        refine va_calli (va_runV (As := [.int 2]) (rest := []) ⟨hx, hb, hml, hown, hts⟩ (s_refuse l dC dI gt tp bk mb mu rd cm wk pp so ty st9 td fk fpl un mk H.size 2) (cwV 1 hts mg_X9_gate_X9_refuse_80 rfl rfl rfl (by decide +kernel) ⟨Nat.le_of_ble_eq_true rfl, Nat.le_of_ble_eq_true rfl⟩) ⟨fun a U g mk q => by obtain ⟨q0, q1, qP, qK, qD⟩ := q; exact ⟨q0, q1, qP, va_K.moved (u := U) (U := U.calling g mk a) (Vm.Alike.refl U.vm) qK, qD⟩, va_recv hKc hPc (ci := 9) (q0 := 0) rfl rfl, fun U hU hW => ⟨rfl, by rw [hU], by rw [hU]; exact hPc, va_K.moved hW.alike hKc, hDc.weaken (fun _ _ _ _ => trivial)⟩⟩ rfl rfl hl.1 rfl (lv_room (Nat.le_of_ble_eq_true rfl)) dX9_gate_30 ⟨Nat.le_of_ble_eq_true rfl, Nat.le_of_ble_eq_true rfl⟩) hS (fun q _ h => hFc q h) hFc (fun r_14 u t H1 locs ht hvm hw hB hz1 hk1 hS => ?_)
        obtain ⟨hP1, hK1, hD1⟩ := hB
        rw [ht] at hP1
        have hr_14 := hw
        obtain ⟨hP, hD⟩ := va_join (wr := [(wk, .inr (8, [.int x0, .int x1, .ref li])), (li, .inl (cli, 24, .inl fli))]) (w1 := [(gt, .inr (9, [.int 2, .ref tp, .int td, .int fk, .int fpl, .ref bk, .int un, .ref mb, .ref mu, .int mk, .ref rd, .ref cm, .ref wk, .ref pp, .ref so, .ref ty]))]) hP hD [0] [1, 2] rfl rfl (by decide) (by decide) hk1 hFc hP1 hD1
        generalize H1 = H at hP hS ⊢
        have hP : va_P (dC, dI) vwCl [(wk, .inr (8, [.int x0, .int x1, .ref li])), (li, .inl (cli, 24, .inl fli)), (gt, .inr (9, [.int 2, .ref tp, .int td, .int fk, .int fpl, .ref bk, .int un, .ref mb, .ref mu, .int mk, .ref rd, .ref cm, .ref wk, .ref pp, .ref so, .ref ty]))] H := hP
        have hD : va_D A [(wk, .inr (8, [.int x0, .int x1, .ref li])), (li, .inl (cli, 24, .inl fli)), (gt, .inr (9, [.int 2, .ref tp, .int td, .int fk, .int fpl, .ref bk, .int un, .ref mb, .ref mu, .int mk, .ref rd, .ref cm, .ref wk, .ref pp, .ref so, .ref ty]))] := hD
        have hQ := q_at hQ0 hQA hS
        have hP9 := hP.sub (ws' := [(gt, .inr (9, [.int 2, .ref tp, .int td, .int fk, .int fpl, .ref bk, .int un, .ref mb, .ref mu, .int mk, .ref rd, .ref cm, .ref wk, .ref pp, .ref so, .ref ty])), (wk, .inr (8, [.int x0, .int x1, .ref li])), (li, .inl (cli, 24, .inl fli))]) [2, 0, 1] rfl
        have hD9 := hD.sub (ws' := [(gt, .inr (9, [.int 2, .ref tp, .int td, .int fk, .int fpl, .ref bk, .int un, .ref mb, .ref mu, .int mk, .ref rd, .ref cm, .ref wk, .ref pp, .ref so, .ref ty])), (wk, .inr (8, [.int x0, .int x1, .ref li])), (li, .inl (cli, 24, .inl fli))]) [2, 0, 1] (by decide) rfl
        have hK9 := hK.sub (tys' := [(cli, .int)]) [0] rfl
        exact W.iret hx hb hr (fun t ht hW => ⟨⟨_, (), rfl, trivial, 2, x0, x1, fli, by rw [ht]; exact hP9, va_K.moved hW.alike hK9, hD9⟩, hS.F ht⟩) hS.2.2 dX9_gate_33
      · refine W.eq (g2 := F0 m 23 ls [.ref d_12]) rfl ?_
        have hd_12P := hd_12.poP
        have hd_12Q := hd_12
        obtain ⟨q_15, a_16, a_17, a_18, a_19, a_20, a_21, n_22, n_23, n_24, n_25, n_26, n_27, n_28, f_29, f_30, f_31, f_32, f_33, f_34, f_35, c_36, c_37, c_38, c_39, c_40, c_41, c_42, m_43, ⟨m_44, m_45⟩, ⟨m_46, m_47⟩, ⟨m_48, m_49⟩, ⟨m_50, m_51⟩, ⟨m_52, m_53⟩, ⟨m_54, m_55⟩, ⟨m_56, m_57, h_68⟩, h_58, h_59, h_60, h_61, h_62, h_63, h_64, h_65, h_66, h_67⟩ := hd_12
        obtain ⟨k_69, hk_69⟩ := List.getElem?_of_mem m_43
        obtain ⟨k_70, hk_70⟩ := List.getElem?_of_mem m_44
        obtain ⟨j_71, hj_71⟩ := List.getElem?_of_mem m_45
        obtain ⟨k_72, hk_72⟩ := List.getElem?_of_mem m_46
        obtain ⟨j_73, hj_73⟩ := List.getElem?_of_mem m_47
        obtain ⟨k_74, hk_74⟩ := List.getElem?_of_mem m_48
        obtain ⟨j_75, hj_75⟩ := List.getElem?_of_mem m_49
        obtain ⟨k_76, hk_76⟩ := List.getElem?_of_mem m_50
        obtain ⟨j_77, hj_77⟩ := List.getElem?_of_mem m_51
        obtain ⟨k_78, hk_78⟩ := List.getElem?_of_mem m_52
        obtain ⟨j_79, hj_79⟩ := List.getElem?_of_mem m_53
        obtain ⟨k_80, hk_80⟩ := List.getElem?_of_mem m_54
        obtain ⟨j_81, hj_81⟩ := List.getElem?_of_mem m_55
        obtain ⟨k_82, hk_82⟩ := List.getElem?_of_mem m_56
        obtain ⟨j_83, hj_83⟩ := List.getElem?_of_mem m_57
        refine lv_astore_n (lv' := [(3, .ref d_12), (0, .ref gt), (1, .int i1), (2, .int i2)]) hx hb dX9_gate_23 rfl hl (by decide) rfl (fun ls hl => ?_)
        refine lv_aload_n hx hb dX9_gate_24 rfl (lv_at hl 0 rfl) ?_
        refine lv_ifnonnull (tgt := 34) hx hb dX9_gate_25 (by decide) ?_
        refine lv_iload_n hx hb dX9_gate_34 rfl (lv_at hl 3 rfl) ?_
        refine lv_iconst (v := 2) hx hb dX9_gate_35 (by decide) ?_
        refine lv_icmp_ne (tgt := 49) hx hb dX9_gate_36 (by decide) (fun k_84 => ?_) (fun k_84 => ?_)
        · have tk_84 := c_ne (a := i2.toInt) (b := 2) rfl (by decide) k_84
          refine lv_aload_n hx hb dX9_gate_49 rfl (lv_at hl 1 rfl) ?_
          refine va_get (D := (dC, dI)) (ci := 9) (v := .ref wk) (C := RX9) (T := TX9) (N := 16) hx hb hts fin_X9_gate_X9 hown hK hP 0 rfl rfl 12 (by decide) (hts (.fieldLink RX9 57 "PatternGate" "walk" "LPatternGate$Walk;") (List.mem_of_getElem? (i := 10) (by decide +kernel))) (fun _ h9 => h9) rfl dX9_gate_50 ?_
          refine lv_aload_n hx hb dX9_gate_53 rfl (lv_at hl 0 rfl) ?_
          refine lv_aload_n hx hb dX9_gate_54 rfl (lv_at hl 1 rfl) ?_
          refine va_get (D := (dC, dI)) (ci := 9) (v := .ref bk) (C := RX9) (T := TX9) (N := 16) hx hb hts fin_X9_gate_X9 hown hK hP 0 rfl rfl 5 (by decide) (hts (.fieldLink RX9 29 "PatternGate" "book" "LPatternGate$Book;") (List.mem_of_getElem? (i := 5) (by decide +kernel))) (fun _ h9 => h9) rfl dX9_gate_55 ?_
          have hPc := hP.sub (ws' := [(wk, .inr (8, [.int x0, .int x1, .ref li])), (li, .inl (cli, 24, .inl fli))]) [1, 2] rfl
          have hKc := hK.sub (tys' := [(cli, .int)]) [0] rfl
          have hDc := hD.sub (ws' := [(wk, .inr (8, [.int x0, .int x1, .ref li])), (li, .inl (cli, 24, .inl fli))]) [1, 2] (by decide) rfl
          have hFc := va_free (wc := [(wk, .inr (8, [.int x0, .int x1, .ref li])), (li, .inl (cli, 24, .inl fli))]) hD hS hA [1, 2] rfl
          refine va_callv (va_runV (As := [.ref d_12, .ref bk]) (rest := []) ⟨hx, hb, hml, hown, hts⟩ (s_through l dC dI W9 T9 d_12 bk wk li cli fli x0 x1 H.size hd_12P hB0) (cwV 2 hts mg_X9_gate_X8_through_212 rfl rfl rfl (by decide +kernel) ⟨Nat.le_of_ble_eq_true rfl, Nat.le_of_ble_eq_true rfl⟩) ⟨fun a U g mk q => by obtain ⟨q0, q1, qP, qK, qD, qE0, qE1, qE2⟩ := q; exact ⟨q0, q1, qP, va_K.moved (u := U) (U := U.calling g mk a) (Vm.Alike.refl U.vm) qK, qD, qE0, va_K.moved (u := U) (U := U.calling g mk a) (Vm.Alike.refl U.vm) qE1, qE2⟩, va_recv hKc hPc (ci := 8) (q0 := 0) rfl rfl, fun U hU hW => ⟨rfl, by rw [hU], by rw [hU]; exact hPc, va_K.moved hW.alike hKc, hDc.weaken (fun _ _ _ _ => trivial), (by rw [hU]; exact hQ), va_K.moved hW.alike hKQ, (fun q hq => qA_sub (hQA q hq) hFc)⟩⟩ rfl rfl hl.1 rfl (lv_room (Nat.le_of_ble_eq_true rfl)) dX9_gate_58 ⟨Nat.le_of_ble_eq_true rfl, Nat.le_of_ble_eq_true rfl⟩) hS (fun q _ h => hFc q h) hFc (fun u t H1 locs ht hvm hw hB hz1 hk1 hS => ?_)
          obtain ⟨y_87, y_88, f_89, hP1, hK1, hD1⟩ := hB
          rw [ht] at hP1
          obtain ⟨hP, hD⟩ := va_join (wr := [(gt, .inr (9, [.int st9, .ref tp, .int td, .int fk, .int fpl, .ref bk, .int un, .ref mb, .ref mu, .int mk, .ref rd, .ref cm, .ref wk, .ref pp, .ref so, .ref ty]))]) (w1 := [(wk, .inr (8, [.int y_87, .int y_88, .ref li])), (li, .inl (cli, 24, .inl f_89))]) hP hD [1, 2] [0] rfl rfl (by decide) (by decide) hk1 hFc hP1 hD1
          generalize H1 = H at hP hS ⊢
          have hP : va_P (dC, dI) vwCl [(gt, .inr (9, [.int st9, .ref tp, .int td, .int fk, .int fpl, .ref bk, .int un, .ref mb, .ref mu, .int mk, .ref rd, .ref cm, .ref wk, .ref pp, .ref so, .ref ty])), (wk, .inr (8, [.int y_87, .int y_88, .ref li])), (li, .inl (cli, 24, .inl f_89))] H := hP
          have hD : va_D A [(gt, .inr (9, [.int st9, .ref tp, .int td, .int fk, .int fpl, .ref bk, .int un, .ref mb, .ref mu, .int mk, .ref rd, .ref cm, .ref wk, .ref pp, .ref so, .ref ty])), (wk, .inr (8, [.int y_87, .int y_88, .ref li])), (li, .inl (cli, 24, .inl f_89))] := hD
          have hQ := q_at hQ0 hQA hS
          refine lv_iload_n hx hb dX9_gate_61 rfl (lv_at hl 3 rfl) ?_
          refine lv_if_ne (tgt := 77) hx hb dX9_gate_62 (by decide) (fun k_90 => ?_) (fun k_90 => ?_)
          · have tk_90 := c_ne (a := i2.toInt) (b := 0) rfl (by decide) k_90
            refine lv_iload_n hx hb dX9_gate_77 rfl (lv_at hl 3 rfl) ?_
            refine lv_iconst (v := 1) hx hb dX9_gate_78 (by decide) ?_
            refine lv_icmp_ne (tgt := 94) hx hb dX9_gate_79 (by decide) (fun k_91 => ?_) (fun k_91 => ?_)
            · have tk_91 := c_ne (a := i2.toInt) (b := 1) rfl (by decide) k_91
              refine lv_aload_n hx hb dX9_gate_94 rfl (lv_at hl 1 rfl) ?_
              refine lv_aload_n hx hb dX9_gate_95 rfl (lv_at hl 1 rfl) ?_
              refine va_get (D := (dC, dI)) (ci := 9) (v := .ref wk) (C := RX9) (T := TX9) (N := 16) hx hb hts fin_X9_gate_X9 hown hK hP 0 rfl rfl 12 (by decide) (hts (.fieldLink RX9 57 "PatternGate" "walk" "LPatternGate$Walk;") (List.mem_of_getElem? (i := 10) (by decide +kernel))) (fun _ h9 => h9) rfl dX9_gate_96 ?_
              refine va_get (D := (dC, dI)) (ci := 8) (v := .int y_87) (C := RX8) (T := TX8) (N := 3) hx hb hts fin_X9_gate_X8 hown hK hP 1 rfl rfl 0 (by decide) (hts (.fieldLink RX9 216 "PatternGate$Walk" "candidates" "I") (List.mem_of_getElem? (i := 15) (by decide +kernel))) (fun _ h9 => h9) rfl dX9_gate_99 ?_
              refine lv_aload_n hx hb dX9_gate_102 rfl (lv_at hl 1 rfl) ?_
              refine lv_aload_n hx hb dX9_gate_103 rfl (lv_at hl 0 rfl) ?_
              have hPc := hP.sub (ws' := [(gt, .inr (9, [.int st9, .ref tp, .int td, .int fk, .int fpl, .ref bk, .int un, .ref mb, .ref mu, .int mk, .ref rd, .ref cm, .ref wk, .ref pp, .ref so, .ref ty]))]) [0] rfl
              have hKc := hK.sub (tys' := []) [] rfl
              have hDc := hD.sub (ws' := [(gt, .inr (9, [.int st9, .ref tp, .int td, .int fk, .int fpl, .ref bk, .int un, .ref mb, .ref mu, .int mk, .ref rd, .ref cm, .ref wk, .ref pp, .ref so, .ref ty]))]) [0] (by decide) rfl
              have hFc := va_free (wc := [(gt, .inr (9, [.int st9, .ref tp, .int td, .int fk, .int fpl, .ref bk, .int un, .ref mb, .ref mu, .int mk, .ref rd, .ref cm, .ref wk, .ref pp, .ref so, .ref ty]))]) hD hS hA [0] rfl
              refine va_calli (va_runV (As := [.ref d_12]) (rest := [.int y_87, .ref gt]) ⟨hx, hb, hml, hown, hts⟩ (s_g_fittingDocuments l dC dI W9 T9 B9 gt tp bk mb mu rd cm wk pp so ty st9 td fk fpl un mk d_12 H.size hB9 hbk hd_12Q) (cwV 1 hts mg_X9_gate_X9_fittingDocuments_208 rfl rfl rfl (by decide +kernel) ⟨Nat.le_of_ble_eq_true rfl, Nat.le_of_ble_eq_true rfl⟩) ⟨fun a U g mk q => by obtain ⟨q0, q1, qP, qK, qD, qE0, qE1, qE2⟩ := q; exact ⟨q0, q1, qP, va_K.moved (u := U) (U := U.calling g mk a) (Vm.Alike.refl U.vm) qK, qD, qE0, va_K.moved (u := U) (U := U.calling g mk a) (Vm.Alike.refl U.vm) qE1, qE2⟩, va_recv hKc hPc (ci := 9) (q0 := 0) rfl rfl, fun U hU hW => ⟨rfl, by rw [hU], by rw [hU]; exact hPc, va_K.moved hW.alike hKc, hDc.weaken (fun _ _ _ _ => trivial), (by rw [hU]; exact hQ), va_K.moved hW.alike hKQ, (fun q hq => qA_sub (hQA q hq) hFc)⟩⟩ rfl rfl hl.1 rfl (lv_room (Nat.le_of_ble_eq_true rfl)) dX9_gate_104 ⟨Nat.le_of_ble_eq_true rfl, Nat.le_of_ble_eq_true rfl⟩) hS (fun q _ h => hFc q h) hFc (fun r_93 u t H1 locs ht hvm hw hB hz1 hk1 hS => ?_)
              obtain ⟨hP1, hK1, hD1⟩ := hB
              rw [ht] at hP1
              obtain ⟨hP, hD⟩ := va_join (wr := [(wk, .inr (8, [.int y_87, .int y_88, .ref li])), (li, .inl (cli, 24, .inl f_89))]) (w1 := [(gt, .inr (9, [.int st9, .ref tp, .int td, .int fk, .int fpl, .ref bk, .int un, .ref mb, .ref mu, .int mk, .ref rd, .ref cm, .ref wk, .ref pp, .ref so, .ref ty]))]) hP hD [0] [1, 2] rfl rfl (by decide) (by decide) hk1 hFc hP1 hD1
              generalize H1 = H at hP hS ⊢
              have hP : va_P (dC, dI) vwCl [(wk, .inr (8, [.int y_87, .int y_88, .ref li])), (li, .inl (cli, 24, .inl f_89)), (gt, .inr (9, [.int st9, .ref tp, .int td, .int fk, .int fpl, .ref bk, .int un, .ref mb, .ref mu, .int mk, .ref rd, .ref cm, .ref wk, .ref pp, .ref so, .ref ty]))] H := hP
              have hD : va_D A [(wk, .inr (8, [.int y_87, .int y_88, .ref li])), (li, .inl (cli, 24, .inl f_89)), (gt, .inr (9, [.int st9, .ref tp, .int td, .int fk, .int fpl, .ref bk, .int un, .ref mb, .ref mu, .int mk, .ref rd, .ref cm, .ref wk, .ref pp, .ref so, .ref ty]))] := hD
              have hQ := q_at hQ0 hQA hS
              refine lv_iconst (v := (-1)) hx hb dX9_gate_107 (by decide) ?_
              refine lv_ixor hx hb dX9_gate_108 ?_
              refine lv_topi (fun y_94 ey_94 => ?_)
              have rg_y_94 := i_rng y_94
              refine lv_iand hx hb dX9_gate_109 ?_
              refine lv_topi (fun y_95 ey_95 => ?_)
              have rg_y_95 := i_rng y_95
              refine vp_callSi (W.runS (As := [.int y_95]) (rest := [.ref gt]) ⟨hx, hb, hml, hown, hts⟩ (s_bitCount l dC dI y_95) (va_cwS 1 hts mg_X9_gate_J6_bitCount_0f7a4_197 rfl rfl rfl (by decide +kernel) ⟨Nat.le_of_ble_eq_true rfl, Nat.le_of_ble_eq_true rfl⟩) ⟨fun a U g mk q => ⟨q.1, trivial⟩, fun U hU hW => ⟨rfl, trivial⟩⟩ rfl rfl hl.1 rfl (lv_room (Nat.le_of_ble_eq_true rfl)) dX9_gate_110 ⟨Nat.le_of_ble_eq_true rfl, Nat.le_of_ble_eq_true rfl⟩) (fun r_97 hw => ?_)
              have hPc := hP.sub (ws' := [(gt, .inr (9, [.int st9, .ref tp, .int td, .int fk, .int fpl, .ref bk, .int un, .ref mb, .ref mu, .int mk, .ref rd, .ref cm, .ref wk, .ref pp, .ref so, .ref ty]))]) [2] rfl
              have hKc := hK.sub (tys' := []) [] rfl
              have hDc := hD.sub (ws' := [(gt, .inr (9, [.int st9, .ref tp, .int td, .int fk, .int fpl, .ref bk, .int un, .ref mb, .ref mu, .int mk, .ref rd, .ref cm, .ref wk, .ref pp, .ref so, .ref ty]))]) [2] (by decide) rfl
              have hFc := va_free (wc := [(gt, .inr (9, [.int st9, .ref tp, .int td, .int fk, .int fpl, .ref bk, .int un, .ref mb, .ref mu, .int mk, .ref rd, .ref cm, .ref wk, .ref pp, .ref so, .ref ty]))]) hD hS hA [2] rfl
              refine va_calli (va_runV (As := [.int r_97]) (rest := []) ⟨hx, hb, hml, hown, hts⟩ (s_answer l dC dI gt tp bk mb mu rd cm wk pp so ty st9 td fk fpl un mk H.size r_97) (cwV 1 hts mg_X9_gate_X9_answer_100 rfl rfl rfl (by decide +kernel) ⟨Nat.le_of_ble_eq_true rfl, Nat.le_of_ble_eq_true rfl⟩) ⟨fun a U g mk q => by obtain ⟨q0, q1, qP, qK, qD⟩ := q; exact ⟨q0, q1, qP, va_K.moved (u := U) (U := U.calling g mk a) (Vm.Alike.refl U.vm) qK, qD⟩, va_recv hKc hPc (ci := 9) (q0 := 0) rfl rfl, fun U hU hW => ⟨rfl, by rw [hU], by rw [hU]; exact hPc, va_K.moved hW.alike hKc, hDc.weaken (fun _ _ _ _ => trivial)⟩⟩ rfl rfl hl.1 rfl (lv_room (Nat.le_of_ble_eq_true rfl)) dX9_gate_113 ⟨Nat.le_of_ble_eq_true rfl, Nat.le_of_ble_eq_true rfl⟩) hS (fun q _ h => hFc q h) hFc (fun r_99 u t H1 locs ht hvm hw hB hz1 hk1 hS => ?_)
              obtain ⟨hP1, hK1, hD1⟩ := hB
              rw [ht] at hP1
              have hr_99 := hw
              obtain ⟨hP, hD⟩ := va_join (wr := [(wk, .inr (8, [.int y_87, .int y_88, .ref li])), (li, .inl (cli, 24, .inl f_89))]) (w1 := [(gt, .inr (9, [.int 0, .ref tp, .int td, .int fk, .int fpl, .ref bk, .int un, .ref mb, .ref mu, .int mk, .ref rd, .ref cm, .ref wk, .ref pp, .ref so, .ref ty]))]) hP hD [2] [0, 1] rfl rfl (by decide) (by decide) hk1 hFc hP1 hD1
              generalize H1 = H at hP hS ⊢
              have hP : va_P (dC, dI) vwCl [(wk, .inr (8, [.int y_87, .int y_88, .ref li])), (li, .inl (cli, 24, .inl f_89)), (gt, .inr (9, [.int 0, .ref tp, .int td, .int fk, .int fpl, .ref bk, .int un, .ref mb, .ref mu, .int mk, .ref rd, .ref cm, .ref wk, .ref pp, .ref so, .ref ty]))] H := hP
              have hD : va_D A [(wk, .inr (8, [.int y_87, .int y_88, .ref li])), (li, .inl (cli, 24, .inl f_89)), (gt, .inr (9, [.int 0, .ref tp, .int td, .int fk, .int fpl, .ref bk, .int un, .ref mb, .ref mu, .int mk, .ref rd, .ref cm, .ref wk, .ref pp, .ref so, .ref ty]))] := hD
              have hQ := q_at hQ0 hQA hS
              have hP9 := hP.sub (ws' := [(gt, .inr (9, [.int 0, .ref tp, .int td, .int fk, .int fpl, .ref bk, .int un, .ref mb, .ref mu, .int mk, .ref rd, .ref cm, .ref wk, .ref pp, .ref so, .ref ty])), (wk, .inr (8, [.int y_87, .int y_88, .ref li])), (li, .inl (cli, 24, .inl f_89))]) [2, 0, 1] rfl
              have hD9 := hD.sub (ws' := [(gt, .inr (9, [.int 0, .ref tp, .int td, .int fk, .int fpl, .ref bk, .int un, .ref mb, .ref mu, .int mk, .ref rd, .ref cm, .ref wk, .ref pp, .ref so, .ref ty])), (wk, .inr (8, [.int y_87, .int y_88, .ref li])), (li, .inl (cli, 24, .inl f_89))]) [2, 0, 1] (by decide) rfl
              have hK9 := hK.sub (tys' := [(cli, .int)]) [0] rfl
              exact W.iret hx hb hr (fun t ht hW => ⟨⟨_, (), rfl, trivial, 0, y_87, y_88, f_89, by rw [ht]; exact hP9, va_K.moved hW.alike hK9, hD9⟩, hS.F ht⟩) hS.2.2 dX9_gate_116
            · have tk_91 := c_eq (a := i2.toInt) (b := 1) rfl (by decide) k_91
              refine lv_aload_n hx hb dX9_gate_82 rfl (lv_at hl 1 rfl) ?_
              refine lv_aload_n hx hb dX9_gate_83 rfl (lv_at hl 1 rfl) ?_
              refine va_get (D := (dC, dI)) (ci := 9) (v := .ref wk) (C := RX9) (T := TX9) (N := 16) hx hb hts fin_X9_gate_X9 hown hK hP 0 rfl rfl 12 (by decide) (hts (.fieldLink RX9 57 "PatternGate" "walk" "LPatternGate$Walk;") (List.mem_of_getElem? (i := 10) (by decide +kernel))) (fun _ h9 => h9) rfl dX9_gate_84 ?_
              refine va_get (D := (dC, dI)) (ci := 8) (v := .int y_88) (C := RX8) (T := TX8) (N := 3) hx hb hts fin_X9_gate_X8 hown hK hP 1 rfl rfl 1 (by decide) (hts (.fieldLink RX9 219 "PatternGate$Walk" "leaps" "I") (List.mem_of_getElem? (i := 25) (by decide +kernel))) (fun _ h9 => h9) rfl dX9_gate_87 ?_
              have hPc := hP.sub (ws' := [(gt, .inr (9, [.int st9, .ref tp, .int td, .int fk, .int fpl, .ref bk, .int un, .ref mb, .ref mu, .int mk, .ref rd, .ref cm, .ref wk, .ref pp, .ref so, .ref ty]))]) [0] rfl
              have hKc := hK.sub (tys' := []) [] rfl
              have hDc := hD.sub (ws' := [(gt, .inr (9, [.int st9, .ref tp, .int td, .int fk, .int fpl, .ref bk, .int un, .ref mb, .ref mu, .int mk, .ref rd, .ref cm, .ref wk, .ref pp, .ref so, .ref ty]))]) [0] (by decide) rfl
              have hFc := va_free (wc := [(gt, .inr (9, [.int st9, .ref tp, .int td, .int fk, .int fpl, .ref bk, .int un, .ref mb, .ref mu, .int mk, .ref rd, .ref cm, .ref wk, .ref pp, .ref so, .ref ty]))]) hD hS hA [0] rfl
              refine va_calli (va_runV (As := [.int y_88]) (rest := []) ⟨hx, hb, hml, hown, hts⟩ (s_answer l dC dI gt tp bk mb mu rd cm wk pp so ty st9 td fk fpl un mk H.size y_88) (cwV 1 hts mg_X9_gate_X9_answer_100 rfl rfl rfl (by decide +kernel) ⟨Nat.le_of_ble_eq_true rfl, Nat.le_of_ble_eq_true rfl⟩) ⟨fun a U g mk q => by obtain ⟨q0, q1, qP, qK, qD⟩ := q; exact ⟨q0, q1, qP, va_K.moved (u := U) (U := U.calling g mk a) (Vm.Alike.refl U.vm) qK, qD⟩, va_recv hKc hPc (ci := 9) (q0 := 0) rfl rfl, fun U hU hW => ⟨rfl, by rw [hU], by rw [hU]; exact hPc, va_K.moved hW.alike hKc, hDc.weaken (fun _ _ _ _ => trivial)⟩⟩ rfl rfl hl.1 rfl (lv_room (Nat.le_of_ble_eq_true rfl)) dX9_gate_90 ⟨Nat.le_of_ble_eq_true rfl, Nat.le_of_ble_eq_true rfl⟩) hS (fun q _ h => hFc q h) hFc (fun r_101 u t H1 locs ht hvm hw hB hz1 hk1 hS => ?_)
              obtain ⟨hP1, hK1, hD1⟩ := hB
              rw [ht] at hP1
              have hr_101 := hw
              obtain ⟨hP, hD⟩ := va_join (wr := [(wk, .inr (8, [.int y_87, .int y_88, .ref li])), (li, .inl (cli, 24, .inl f_89))]) (w1 := [(gt, .inr (9, [.int 0, .ref tp, .int td, .int fk, .int fpl, .ref bk, .int un, .ref mb, .ref mu, .int mk, .ref rd, .ref cm, .ref wk, .ref pp, .ref so, .ref ty]))]) hP hD [0] [1, 2] rfl rfl (by decide) (by decide) hk1 hFc hP1 hD1
              generalize H1 = H at hP hS ⊢
              have hP : va_P (dC, dI) vwCl [(wk, .inr (8, [.int y_87, .int y_88, .ref li])), (li, .inl (cli, 24, .inl f_89)), (gt, .inr (9, [.int 0, .ref tp, .int td, .int fk, .int fpl, .ref bk, .int un, .ref mb, .ref mu, .int mk, .ref rd, .ref cm, .ref wk, .ref pp, .ref so, .ref ty]))] H := hP
              have hD : va_D A [(wk, .inr (8, [.int y_87, .int y_88, .ref li])), (li, .inl (cli, 24, .inl f_89)), (gt, .inr (9, [.int 0, .ref tp, .int td, .int fk, .int fpl, .ref bk, .int un, .ref mb, .ref mu, .int mk, .ref rd, .ref cm, .ref wk, .ref pp, .ref so, .ref ty]))] := hD
              have hQ := q_at hQ0 hQA hS
              have hP9 := hP.sub (ws' := [(gt, .inr (9, [.int 0, .ref tp, .int td, .int fk, .int fpl, .ref bk, .int un, .ref mb, .ref mu, .int mk, .ref rd, .ref cm, .ref wk, .ref pp, .ref so, .ref ty])), (wk, .inr (8, [.int y_87, .int y_88, .ref li])), (li, .inl (cli, 24, .inl f_89))]) [2, 0, 1] rfl
              have hD9 := hD.sub (ws' := [(gt, .inr (9, [.int 0, .ref tp, .int td, .int fk, .int fpl, .ref bk, .int un, .ref mb, .ref mu, .int mk, .ref rd, .ref cm, .ref wk, .ref pp, .ref so, .ref ty])), (wk, .inr (8, [.int y_87, .int y_88, .ref li])), (li, .inl (cli, 24, .inl f_89))]) [2, 0, 1] (by decide) rfl
              have hK9 := hK.sub (tys' := [(cli, .int)]) [0] rfl
              exact W.iret hx hb hr (fun t ht hW => ⟨⟨_, (), rfl, trivial, 0, y_87, y_88, f_89, by rw [ht]; exact hP9, va_K.moved hW.alike hK9, hD9⟩, hS.F ht⟩) hS.2.2 dX9_gate_93
          · have tk_90 := c_eq (a := i2.toInt) (b := 0) rfl (by decide) k_90
            refine lv_aload_n hx hb dX9_gate_65 rfl (lv_at hl 1 rfl) ?_
            refine lv_aload_n hx hb dX9_gate_66 rfl (lv_at hl 1 rfl) ?_
            refine va_get (D := (dC, dI)) (ci := 9) (v := .ref wk) (C := RX9) (T := TX9) (N := 16) hx hb hts fin_X9_gate_X9 hown hK hP 0 rfl rfl 12 (by decide) (hts (.fieldLink RX9 57 "PatternGate" "walk" "LPatternGate$Walk;") (List.mem_of_getElem? (i := 10) (by decide +kernel))) (fun _ h9 => h9) rfl dX9_gate_67 ?_
            refine va_get (D := (dC, dI)) (ci := 8) (v := .int y_87) (C := RX8) (T := TX8) (N := 3) hx hb hts fin_X9_gate_X8 hown hK hP 1 rfl rfl 0 (by decide) (hts (.fieldLink RX9 216 "PatternGate$Walk" "candidates" "I") (List.mem_of_getElem? (i := 15) (by decide +kernel))) (fun _ h9 => h9) rfl dX9_gate_70 ?_
            have hPc := hP.sub (ws' := [(gt, .inr (9, [.int st9, .ref tp, .int td, .int fk, .int fpl, .ref bk, .int un, .ref mb, .ref mu, .int mk, .ref rd, .ref cm, .ref wk, .ref pp, .ref so, .ref ty]))]) [0] rfl
            have hKc := hK.sub (tys' := []) [] rfl
            have hDc := hD.sub (ws' := [(gt, .inr (9, [.int st9, .ref tp, .int td, .int fk, .int fpl, .ref bk, .int un, .ref mb, .ref mu, .int mk, .ref rd, .ref cm, .ref wk, .ref pp, .ref so, .ref ty]))]) [0] (by decide) rfl
            have hFc := va_free (wc := [(gt, .inr (9, [.int st9, .ref tp, .int td, .int fk, .int fpl, .ref bk, .int un, .ref mb, .ref mu, .int mk, .ref rd, .ref cm, .ref wk, .ref pp, .ref so, .ref ty]))]) hD hS hA [0] rfl
            refine va_calli (va_runV (As := [.int y_87]) (rest := []) ⟨hx, hb, hml, hown, hts⟩ (s_answer l dC dI gt tp bk mb mu rd cm wk pp so ty st9 td fk fpl un mk H.size y_87) (cwV 1 hts mg_X9_gate_X9_answer_100 rfl rfl rfl (by decide +kernel) ⟨Nat.le_of_ble_eq_true rfl, Nat.le_of_ble_eq_true rfl⟩) ⟨fun a U g mk q => by obtain ⟨q0, q1, qP, qK, qD⟩ := q; exact ⟨q0, q1, qP, va_K.moved (u := U) (U := U.calling g mk a) (Vm.Alike.refl U.vm) qK, qD⟩, va_recv hKc hPc (ci := 9) (q0 := 0) rfl rfl, fun U hU hW => ⟨rfl, by rw [hU], by rw [hU]; exact hPc, va_K.moved hW.alike hKc, hDc.weaken (fun _ _ _ _ => trivial)⟩⟩ rfl rfl hl.1 rfl (lv_room (Nat.le_of_ble_eq_true rfl)) dX9_gate_73 ⟨Nat.le_of_ble_eq_true rfl, Nat.le_of_ble_eq_true rfl⟩) hS (fun q _ h => hFc q h) hFc (fun r_103 u t H1 locs ht hvm hw hB hz1 hk1 hS => ?_)
            obtain ⟨hP1, hK1, hD1⟩ := hB
            rw [ht] at hP1
            have hr_103 := hw
            obtain ⟨hP, hD⟩ := va_join (wr := [(wk, .inr (8, [.int y_87, .int y_88, .ref li])), (li, .inl (cli, 24, .inl f_89))]) (w1 := [(gt, .inr (9, [.int 0, .ref tp, .int td, .int fk, .int fpl, .ref bk, .int un, .ref mb, .ref mu, .int mk, .ref rd, .ref cm, .ref wk, .ref pp, .ref so, .ref ty]))]) hP hD [0] [1, 2] rfl rfl (by decide) (by decide) hk1 hFc hP1 hD1
            generalize H1 = H at hP hS ⊢
            have hP : va_P (dC, dI) vwCl [(wk, .inr (8, [.int y_87, .int y_88, .ref li])), (li, .inl (cli, 24, .inl f_89)), (gt, .inr (9, [.int 0, .ref tp, .int td, .int fk, .int fpl, .ref bk, .int un, .ref mb, .ref mu, .int mk, .ref rd, .ref cm, .ref wk, .ref pp, .ref so, .ref ty]))] H := hP
            have hD : va_D A [(wk, .inr (8, [.int y_87, .int y_88, .ref li])), (li, .inl (cli, 24, .inl f_89)), (gt, .inr (9, [.int 0, .ref tp, .int td, .int fk, .int fpl, .ref bk, .int un, .ref mb, .ref mu, .int mk, .ref rd, .ref cm, .ref wk, .ref pp, .ref so, .ref ty]))] := hD
            have hQ := q_at hQ0 hQA hS
            have hP9 := hP.sub (ws' := [(gt, .inr (9, [.int 0, .ref tp, .int td, .int fk, .int fpl, .ref bk, .int un, .ref mb, .ref mu, .int mk, .ref rd, .ref cm, .ref wk, .ref pp, .ref so, .ref ty])), (wk, .inr (8, [.int y_87, .int y_88, .ref li])), (li, .inl (cli, 24, .inl f_89))]) [2, 0, 1] rfl
            have hD9 := hD.sub (ws' := [(gt, .inr (9, [.int 0, .ref tp, .int td, .int fk, .int fpl, .ref bk, .int un, .ref mb, .ref mu, .int mk, .ref rd, .ref cm, .ref wk, .ref pp, .ref so, .ref ty])), (wk, .inr (8, [.int y_87, .int y_88, .ref li])), (li, .inl (cli, 24, .inl f_89))]) [2, 0, 1] (by decide) rfl
            have hK9 := hK.sub (tys' := [(cli, .int)]) [0] rfl
            exact W.iret hx hb hr (fun t ht hW => ⟨⟨_, (), rfl, trivial, 0, y_87, y_88, f_89, by rw [ht]; exact hP9, va_K.moved hW.alike hK9, hD9⟩, hS.F ht⟩) hS.2.2 dX9_gate_76
        · have tk_84 := c_eq (a := i2.toInt) (b := 2) rfl (by decide) k_84
          refine lv_aload_n hx hb dX9_gate_39 rfl (lv_at hl 1 rfl) ?_
          refine lv_aload_n hx hb dX9_gate_40 rfl (lv_at hl 1 rfl) ?_
          refine lv_aload_n hx hb dX9_gate_41 rfl (lv_at hl 0 rfl) ?_
          have hPc := hP.sub (ws' := [(gt, .inr (9, [.int st9, .ref tp, .int td, .int fk, .int fpl, .ref bk, .int un, .ref mb, .ref mu, .int mk, .ref rd, .ref cm, .ref wk, .ref pp, .ref so, .ref ty]))]) [0] rfl
          have hKc := hK.sub (tys' := []) [] rfl
          have hDc := hD.sub (ws' := [(gt, .inr (9, [.int st9, .ref tp, .int td, .int fk, .int fpl, .ref bk, .int un, .ref mb, .ref mu, .int mk, .ref rd, .ref cm, .ref wk, .ref pp, .ref so, .ref ty]))]) [0] (by decide) rfl
          have hFc := va_free (wc := [(gt, .inr (9, [.int st9, .ref tp, .int td, .int fk, .int fpl, .ref bk, .int un, .ref mb, .ref mu, .int mk, .ref rd, .ref cm, .ref wk, .ref pp, .ref so, .ref ty]))]) hD hS hA [0] rfl
          refine va_calli (va_runV (As := [.ref d_12]) (rest := [.ref gt]) ⟨hx, hb, hml, hown, hts⟩ (s_g_fittingDocuments l dC dI W9 T9 B9 gt tp bk mb mu rd cm wk pp so ty st9 td fk fpl un mk d_12 H.size hB9 hbk hd_12Q) (cwV 1 hts mg_X9_gate_X9_fittingDocuments_208 rfl rfl rfl (by decide +kernel) ⟨Nat.le_of_ble_eq_true rfl, Nat.le_of_ble_eq_true rfl⟩) ⟨fun a U g mk q => by obtain ⟨q0, q1, qP, qK, qD, qE0, qE1, qE2⟩ := q; exact ⟨q0, q1, qP, va_K.moved (u := U) (U := U.calling g mk a) (Vm.Alike.refl U.vm) qK, qD, qE0, va_K.moved (u := U) (U := U.calling g mk a) (Vm.Alike.refl U.vm) qE1, qE2⟩, va_recv hKc hPc (ci := 9) (q0 := 0) rfl rfl, fun U hU hW => ⟨rfl, by rw [hU], by rw [hU]; exact hPc, va_K.moved hW.alike hKc, hDc.weaken (fun _ _ _ _ => trivial), (by rw [hU]; exact hQ), va_K.moved hW.alike hKQ, (fun q hq => qA_sub (hQA q hq) hFc)⟩⟩ rfl rfl hl.1 rfl (lv_room (Nat.le_of_ble_eq_true rfl)) dX9_gate_42 ⟨Nat.le_of_ble_eq_true rfl, Nat.le_of_ble_eq_true rfl⟩) hS (fun q _ h => hFc q h) hFc (fun r_105 u t H1 locs ht hvm hw hB hz1 hk1 hS => ?_)
          obtain ⟨hP1, hK1, hD1⟩ := hB
          rw [ht] at hP1
          obtain ⟨hP, hD⟩ := va_join (wr := [(wk, .inr (8, [.int x0, .int x1, .ref li])), (li, .inl (cli, 24, .inl fli))]) (w1 := [(gt, .inr (9, [.int st9, .ref tp, .int td, .int fk, .int fpl, .ref bk, .int un, .ref mb, .ref mu, .int mk, .ref rd, .ref cm, .ref wk, .ref pp, .ref so, .ref ty]))]) hP hD [0] [1, 2] rfl rfl (by decide) (by decide) hk1 hFc hP1 hD1
          generalize H1 = H at hP hS ⊢
          have hP : va_P (dC, dI) vwCl [(wk, .inr (8, [.int x0, .int x1, .ref li])), (li, .inl (cli, 24, .inl fli)), (gt, .inr (9, [.int st9, .ref tp, .int td, .int fk, .int fpl, .ref bk, .int un, .ref mb, .ref mu, .int mk, .ref rd, .ref cm, .ref wk, .ref pp, .ref so, .ref ty]))] H := hP
          have hD : va_D A [(wk, .inr (8, [.int x0, .int x1, .ref li])), (li, .inl (cli, 24, .inl fli)), (gt, .inr (9, [.int st9, .ref tp, .int td, .int fk, .int fpl, .ref bk, .int un, .ref mb, .ref mu, .int mk, .ref rd, .ref cm, .ref wk, .ref pp, .ref so, .ref ty]))] := hD
          have hQ := q_at hQ0 hQA hS
          have hPc := hP.sub (ws' := [(gt, .inr (9, [.int st9, .ref tp, .int td, .int fk, .int fpl, .ref bk, .int un, .ref mb, .ref mu, .int mk, .ref rd, .ref cm, .ref wk, .ref pp, .ref so, .ref ty]))]) [2] rfl
          have hKc := hK.sub (tys' := []) [] rfl
          have hDc := hD.sub (ws' := [(gt, .inr (9, [.int st9, .ref tp, .int td, .int fk, .int fpl, .ref bk, .int un, .ref mb, .ref mu, .int mk, .ref rd, .ref cm, .ref wk, .ref pp, .ref so, .ref ty]))]) [2] (by decide) rfl
          have hFc := va_free (wc := [(gt, .inr (9, [.int st9, .ref tp, .int td, .int fk, .int fpl, .ref bk, .int un, .ref mb, .ref mu, .int mk, .ref rd, .ref cm, .ref wk, .ref pp, .ref so, .ref ty]))]) hD hS hA [2] rfl
          refine va_calli (va_runV (As := [.int r_105]) (rest := []) ⟨hx, hb, hml, hown, hts⟩ (s_answer l dC dI gt tp bk mb mu rd cm wk pp so ty st9 td fk fpl un mk H.size r_105) (cwV 1 hts mg_X9_gate_X9_answer_100 rfl rfl rfl (by decide +kernel) ⟨Nat.le_of_ble_eq_true rfl, Nat.le_of_ble_eq_true rfl⟩) ⟨fun a U g mk q => by obtain ⟨q0, q1, qP, qK, qD⟩ := q; exact ⟨q0, q1, qP, va_K.moved (u := U) (U := U.calling g mk a) (Vm.Alike.refl U.vm) qK, qD⟩, va_recv hKc hPc (ci := 9) (q0 := 0) rfl rfl, fun U hU hW => ⟨rfl, by rw [hU], by rw [hU]; exact hPc, va_K.moved hW.alike hKc, hDc.weaken (fun _ _ _ _ => trivial)⟩⟩ rfl rfl hl.1 rfl (lv_room (Nat.le_of_ble_eq_true rfl)) dX9_gate_45 ⟨Nat.le_of_ble_eq_true rfl, Nat.le_of_ble_eq_true rfl⟩) hS (fun q _ h => hFc q h) hFc (fun r_107 u t H1 locs ht hvm hw hB hz1 hk1 hS => ?_)
          obtain ⟨hP1, hK1, hD1⟩ := hB
          rw [ht] at hP1
          have hr_107 := hw
          obtain ⟨hP, hD⟩ := va_join (wr := [(wk, .inr (8, [.int x0, .int x1, .ref li])), (li, .inl (cli, 24, .inl fli))]) (w1 := [(gt, .inr (9, [.int 0, .ref tp, .int td, .int fk, .int fpl, .ref bk, .int un, .ref mb, .ref mu, .int mk, .ref rd, .ref cm, .ref wk, .ref pp, .ref so, .ref ty]))]) hP hD [2] [0, 1] rfl rfl (by decide) (by decide) hk1 hFc hP1 hD1
          generalize H1 = H at hP hS ⊢
          have hP : va_P (dC, dI) vwCl [(wk, .inr (8, [.int x0, .int x1, .ref li])), (li, .inl (cli, 24, .inl fli)), (gt, .inr (9, [.int 0, .ref tp, .int td, .int fk, .int fpl, .ref bk, .int un, .ref mb, .ref mu, .int mk, .ref rd, .ref cm, .ref wk, .ref pp, .ref so, .ref ty]))] H := hP
          have hD : va_D A [(wk, .inr (8, [.int x0, .int x1, .ref li])), (li, .inl (cli, 24, .inl fli)), (gt, .inr (9, [.int 0, .ref tp, .int td, .int fk, .int fpl, .ref bk, .int un, .ref mb, .ref mu, .int mk, .ref rd, .ref cm, .ref wk, .ref pp, .ref so, .ref ty]))] := hD
          have hQ := q_at hQ0 hQA hS
          have hP9 := hP.sub (ws' := [(gt, .inr (9, [.int 0, .ref tp, .int td, .int fk, .int fpl, .ref bk, .int un, .ref mb, .ref mu, .int mk, .ref rd, .ref cm, .ref wk, .ref pp, .ref so, .ref ty])), (wk, .inr (8, [.int x0, .int x1, .ref li])), (li, .inl (cli, 24, .inl fli))]) [2, 0, 1] rfl
          have hD9 := hD.sub (ws' := [(gt, .inr (9, [.int 0, .ref tp, .int td, .int fk, .int fpl, .ref bk, .int un, .ref mb, .ref mu, .int mk, .ref rd, .ref cm, .ref wk, .ref pp, .ref so, .ref ty])), (wk, .inr (8, [.int x0, .int x1, .ref li])), (li, .inl (cli, 24, .inl fli))]) [2, 0, 1] (by decide) rfl
          have hK9 := hK.sub (tys' := [(cli, .int)]) [0] rfl
          exact W.iret hx hb hr (fun t ht hW => ⟨⟨_, (), rfl, trivial, 0, x0, x1, fli, by rw [ht]; exact hP9, va_K.moved hW.alike hK9, hD9⟩, hS.F ht⟩) hS.2.2 dX9_gate_48
    · have tk_9 := c_nle (a := i2.toInt) (b := 3) rfl (by decide) k_9
      refine lv_aload_n hx hb dX9_gate_9 rfl (lv_at hl 0 rfl) ?_
      refine lv_iconst (v := 1) hx hb dX9_gate_10 (by decide) ?_
      have hPc := hP.sub (ws' := [(gt, .inr (9, [.int st9, .ref tp, .int td, .int fk, .int fpl, .ref bk, .int un, .ref mb, .ref mu, .int mk, .ref rd, .ref cm, .ref wk, .ref pp, .ref so, .ref ty]))]) [0] rfl
      have hKc := hK.sub (tys' := []) [] rfl
      have hDc := hD.sub (ws' := [(gt, .inr (9, [.int st9, .ref tp, .int td, .int fk, .int fpl, .ref bk, .int un, .ref mb, .ref mu, .int mk, .ref rd, .ref cm, .ref wk, .ref pp, .ref so, .ref ty]))]) [0] (by decide) rfl
      have hFc := va_free (wc := [(gt, .inr (9, [.int st9, .ref tp, .int td, .int fk, .int fpl, .ref bk, .int un, .ref mb, .ref mu, .int mk, .ref rd, .ref cm, .ref wk, .ref pp, .ref so, .ref ty]))]) hD hS hA [0] rfl
      refine va_calli (va_runV (As := [.int 1]) (rest := []) ⟨hx, hb, hml, hown, hts⟩ (s_refuse l dC dI gt tp bk mb mu rd cm wk pp so ty st9 td fk fpl un mk H.size 1) (cwV 1 hts mg_X9_gate_X9_refuse_80 rfl rfl rfl (by decide +kernel) ⟨Nat.le_of_ble_eq_true rfl, Nat.le_of_ble_eq_true rfl⟩) ⟨fun a U g mk q => by obtain ⟨q0, q1, qP, qK, qD⟩ := q; exact ⟨q0, q1, qP, va_K.moved (u := U) (U := U.calling g mk a) (Vm.Alike.refl U.vm) qK, qD⟩, va_recv hKc hPc (ci := 9) (q0 := 0) rfl rfl, fun U hU hW => ⟨rfl, by rw [hU], by rw [hU]; exact hPc, va_K.moved hW.alike hKc, hDc.weaken (fun _ _ _ _ => trivial)⟩⟩ rfl rfl hl.1 rfl (lv_room (Nat.le_of_ble_eq_true rfl)) dX9_gate_11 ⟨Nat.le_of_ble_eq_true rfl, Nat.le_of_ble_eq_true rfl⟩) hS (fun q _ h => hFc q h) hFc (fun r_109 u t H1 locs ht hvm hw hB hz1 hk1 hS => ?_)
      obtain ⟨hP1, hK1, hD1⟩ := hB
      rw [ht] at hP1
      have hr_109 := hw
      obtain ⟨hP, hD⟩ := va_join (wr := [(wk, .inr (8, [.int x0, .int x1, .ref li])), (li, .inl (cli, 24, .inl fli))]) (w1 := [(gt, .inr (9, [.int 1, .ref tp, .int td, .int fk, .int fpl, .ref bk, .int un, .ref mb, .ref mu, .int mk, .ref rd, .ref cm, .ref wk, .ref pp, .ref so, .ref ty]))]) hP hD [0] [1, 2] rfl rfl (by decide) (by decide) hk1 hFc hP1 hD1
      generalize H1 = H at hP hS ⊢
      have hP : va_P (dC, dI) vwCl [(wk, .inr (8, [.int x0, .int x1, .ref li])), (li, .inl (cli, 24, .inl fli)), (gt, .inr (9, [.int 1, .ref tp, .int td, .int fk, .int fpl, .ref bk, .int un, .ref mb, .ref mu, .int mk, .ref rd, .ref cm, .ref wk, .ref pp, .ref so, .ref ty]))] H := hP
      have hD : va_D A [(wk, .inr (8, [.int x0, .int x1, .ref li])), (li, .inl (cli, 24, .inl fli)), (gt, .inr (9, [.int 1, .ref tp, .int td, .int fk, .int fpl, .ref bk, .int un, .ref mb, .ref mu, .int mk, .ref rd, .ref cm, .ref wk, .ref pp, .ref so, .ref ty]))] := hD
      have hQ := q_at hQ0 hQA hS
      have hP9 := hP.sub (ws' := [(gt, .inr (9, [.int 1, .ref tp, .int td, .int fk, .int fpl, .ref bk, .int un, .ref mb, .ref mu, .int mk, .ref rd, .ref cm, .ref wk, .ref pp, .ref so, .ref ty])), (wk, .inr (8, [.int x0, .int x1, .ref li])), (li, .inl (cli, 24, .inl fli))]) [2, 0, 1] rfl
      have hD9 := hD.sub (ws' := [(gt, .inr (9, [.int 1, .ref tp, .int td, .int fk, .int fpl, .ref bk, .int un, .ref mb, .ref mu, .int mk, .ref rd, .ref cm, .ref wk, .ref pp, .ref so, .ref ty])), (wk, .inr (8, [.int x0, .int x1, .ref li])), (li, .inl (cli, 24, .inl fli))]) [2, 0, 1] (by decide) rfl
      have hK9 := hK.sub (tys' := [(cli, .int)]) [0] rfl
      exact W.iret hx hb hr (fun t ht hW => ⟨⟨_, (), rfl, trivial, 1, x0, x1, fli, by rw [ht]; exact hP9, va_K.moved hW.alike hK9, hD9⟩, hS.F ht⟩) hS.2.2 dX9_gate_14

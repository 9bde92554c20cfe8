theorem dX9_need_0 : decode cX9_need 0 = .ok (.iload_n 2, 1) := by decide +kernel
theorem dX9_need_1 : decode cX9_need 1 = .ok (.ifCond .lt 7, 3) := by decide +kernel
theorem dX9_need_4 : decode cX9_need 4 = .ok (.iload_n 3, 1) := by decide +kernel
theorem dX9_need_5 : decode cX9_need 5 = .ok (.ifCond .ge 9, 3) := by decide +kernel
theorem dX9_need_8 : decode cX9_need 8 = .ok (.aload_n 0, 1) := by decide +kernel
theorem dX9_need_9 : decode cX9_need 9 = .ok (.iconst 1, 1) := by decide +kernel
theorem dX9_need_10 : decode cX9_need 10 = .ok (.invokevirtual 80, 3) := by decide +kernel
theorem dX9_need_13 : decode cX9_need 13 = .ok (.ireturn, 1) := by decide +kernel
theorem dX9_need_14 : decode cX9_need 14 = .ok (.aload_n 0, 1) := by decide +kernel
theorem dX9_need_15 : decode cX9_need 15 = .ok (.getfield 29, 3) := by decide +kernel
theorem dX9_need_18 : decode cX9_need 18 = .ok (.iload_n 1, 1) := by decide +kernel
theorem dX9_need_19 : decode cX9_need 19 = .ok (.invokevirtual 140, 3) := by decide +kernel
theorem dX9_need_22 : decode cX9_need 22 = .ok (.astore 4, 2) := by decide +kernel
theorem dX9_need_24 : decode cX9_need 24 = .ok (.aload 4, 2) := by decide +kernel
theorem dX9_need_26 : decode cX9_need 26 = .ok (.ifnonnull 9, 3) := by decide +kernel
theorem dX9_need_29 : decode cX9_need 29 = .ok (.aload_n 0, 1) := by decide +kernel
theorem dX9_need_30 : decode cX9_need 30 = .ok (.iconst 2, 1) := by decide +kernel
theorem dX9_need_31 : decode cX9_need 31 = .ok (.invokevirtual 80, 3) := by decide +kernel
theorem dX9_need_34 : decode cX9_need 34 = .ok (.ireturn, 1) := by decide +kernel
theorem dX9_need_35 : decode cX9_need 35 = .ok (.iload_n 2, 1) := by decide +kernel
theorem dX9_need_36 : decode cX9_need 36 = .ok (.aload 4, 2) := by decide +kernel
theorem dX9_need_38 : decode cX9_need 38 = .ok (.invokevirtual 150, 3) := by decide +kernel
theorem dX9_need_41 : decode cX9_need 41 = .ok (.if_icmp .ge 13, 3) := by decide +kernel
theorem dX9_need_44 : decode cX9_need 44 = .ok (.iload_n 3, 1) := by decide +kernel
theorem dX9_need_45 : decode cX9_need 45 = .ok (.aload 4, 2) := by decide +kernel
theorem dX9_need_47 : decode cX9_need 47 = .ok (.iload_n 2, 1) := by decide +kernel
theorem dX9_need_48 : decode cX9_need 48 = .ok (.invokevirtual 183, 3) := by decide +kernel
theorem dX9_need_51 : decode cX9_need 51 = .ok (.if_icmp .lt 9, 3) := by decide +kernel
theorem dX9_need_54 : decode cX9_need 54 = .ok (.aload_n 0, 1) := by decide +kernel
theorem dX9_need_55 : decode cX9_need 55 = .ok (.iconst 5, 1) := by decide +kernel
theorem dX9_need_56 : decode cX9_need 56 = .ok (.invokevirtual 80, 3) := by decide +kernel
theorem dX9_need_59 : decode cX9_need 59 = .ok (.ireturn, 1) := by decide +kernel
theorem dX9_need_60 : decode cX9_need 60 = .ok (.aload_n 0, 1) := by decide +kernel
theorem dX9_need_61 : decode cX9_need 61 = .ok (.aload 4, 2) := by decide +kernel
theorem dX9_need_63 : decode cX9_need 63 = .ok (.iload_n 2, 1) := by decide +kernel
theorem dX9_need_64 : decode cX9_need 64 = .ok (.iload_n 3, 1) := by decide +kernel
theorem dX9_need_65 : decode cX9_need 65 = .ok (.invokevirtual 186, 3) := by decide +kernel
theorem dX9_need_68 : decode cX9_need 68 = .ok (.invokevirtual 100, 3) := by decide +kernel
theorem dX9_need_71 : decode cX9_need 71 = .ok (.ireturn, 1) := by decide +kernel
def mwX9_need : List Cond := .code yX9_need cX9_need 5 (some .int) :: (([.methodLink RX9 80 yX9_refuse, .instanceMethod yX9_refuse, .selects RX9 yX9_refuse yX9_refuse, .initialized RX9, .fieldLink RX9 29 "PatternGate" "book" "LPatternGate$Book;", .methodLink RX9 140 yX0_patternAt, .instanceMethod yX0_patternAt, .selects RX0 yX0_patternAt yX0_patternAt, .initialized RX0, .methodLink RX9 150 yX5_choices, .instanceMethod yX5_choices, .selects RX5 yX5_choices yX5_choices, .initialized RX5, .methodLink RX9 183 yX5_sizeOf, .instanceMethod yX5_sizeOf, .selects RX5 yX5_sizeOf yX5_sizeOf, .methodLink RX9 186 yX5_tripleAt, .instanceMethod yX5_tripleAt, .selects RX5 yX5_tripleAt yX5_tripleAt, .methodLink RX9 100 yX9_answer, .instanceMethod yX9_answer, .selects RX9 yX9_answer yX9_answer] : List Cond) ++ (wsX90 ++ (mwX9_refuse ++ (mwX0_patternAt2 ++ (mwX5_choices ++ (mwX5_sizeOf ++ (mwX5_tripleAt ++ (mwX9_answer))))))))
theorem fin_X9_need_X9 : ∀ w ∈ wsX90, w ∈ mwX9_need := fun w h => List.mem_cons_of_mem _ (List.mem_append_right _ (List.mem_append_left _ h))
set_option maxRecDepth 100000 in
theorem gd_mwX5_sizeOf : mwX5_sizeOf.all goodWord = true := by decide +kernel
set_option maxRecDepth 100000 in
theorem gd_mwX5_tripleAt : mwX5_tripleAt.all goodWord = true := by decide +kernel
set_option maxRecDepth 20000 in
theorem mg_X9_need_X9_refuse_80 : GoodIn mwX9_need (wsV RX9 80 RX9 yX9_refuse mwX9_refuse) := gi_app (A := [.methodLink RX9 80 yX9_refuse, .instanceMethod yX9_refuse, .selects RX9 yX9_refuse yX9_refuse, .initialized RX9]) (goodIn_r _ [1, 2, 3, 4] (by decide +kernel) (by decide +kernel)) (gi_sub gd_mwX9_refuse (fun w h => List.mem_cons_of_mem _ (List.mem_append_right _ (List.mem_append_right _ (List.mem_append_left _ h)))))
set_option maxRecDepth 20000 in
theorem mg_X9_need_X0_patternAt_140 : GoodIn mwX9_need (wsV RX9 140 RX0 yX0_patternAt mwX0_patternAt2) := gi_app (A := [.methodLink RX9 140 yX0_patternAt, .instanceMethod yX0_patternAt, .selects RX0 yX0_patternAt yX0_patternAt, .initialized RX0]) (goodIn_r _ [6, 7, 8, 9] (by decide +kernel) (by decide +kernel)) (gi_sub gd_mwX0_patternAt2 (fun w h => List.mem_cons_of_mem _ (List.mem_append_right _ (List.mem_append_right _ (List.mem_append_right _ (List.mem_append_left _ h))))))
set_option maxRecDepth 20000 in
theorem mg_X9_need_X5_choices_150 : GoodIn mwX9_need (wsV RX9 150 RX5 yX5_choices mwX5_choices) := gi_app (A := [.methodLink RX9 150 yX5_choices, .instanceMethod yX5_choices, .selects RX5 yX5_choices yX5_choices, .initialized RX5]) (goodIn_r _ [10, 11, 12, 13] (by decide +kernel) (by decide +kernel)) (gi_sub gd_mwX5_choices (fun w h => List.mem_cons_of_mem _ (List.mem_append_right _ (List.mem_append_right _ (List.mem_append_right _ (List.mem_append_right _ (List.mem_append_left _ h)))))))
set_option maxRecDepth 20000 in
theorem mg_X9_need_X5_sizeOf_183 : GoodIn mwX9_need (wsV RX9 183 RX5 yX5_sizeOf mwX5_sizeOf) := gi_app (A := [.methodLink RX9 183 yX5_sizeOf, .instanceMethod yX5_sizeOf, .selects RX5 yX5_sizeOf yX5_sizeOf, .initialized RX5]) (goodIn_r _ [14, 15, 16, 13] (by decide +kernel) (by decide +kernel)) (gi_sub gd_mwX5_sizeOf (fun w h => List.mem_cons_of_mem _ (List.mem_append_right _ (List.mem_append_right _ (List.mem_append_right _ (List.mem_append_right _ (List.mem_append_right _ (List.mem_append_left _ h))))))))
set_option maxRecDepth 20000 in
theorem mg_X9_need_X5_tripleAt_186 : GoodIn mwX9_need (wsV RX9 186 RX5 yX5_tripleAt mwX5_tripleAt) := gi_app (A := [.methodLink RX9 186 yX5_tripleAt, .instanceMethod yX5_tripleAt, .selects RX5 yX5_tripleAt yX5_tripleAt, .initialized RX5]) (goodIn_r _ [17, 18, 19, 13] (by decide +kernel) (by decide +kernel)) (gi_sub gd_mwX5_tripleAt (fun w h => List.mem_cons_of_mem _ (List.mem_append_right _ (List.mem_append_right _ (List.mem_append_right _ (List.mem_append_right _ (List.mem_append_right _ (List.mem_append_right _ (List.mem_append_left _ h)))))))))
set_option maxRecDepth 20000 in
theorem mg_X9_need_X9_answer_100 : GoodIn mwX9_need (wsV RX9 100 RX9 yX9_answer mwX9_answer) := gi_app (A := [.methodLink RX9 100 yX9_answer, .instanceMethod yX9_answer, .selects RX9 yX9_answer yX9_answer, .initialized RX9]) (goodIn_r _ [20, 21, 22, 4] (by decide +kernel) (by decide +kernel)) (gi_sub gd_mwX9_answer (fun w h => List.mem_cons_of_mem _ (List.mem_append_right _ (List.mem_append_right _ (List.mem_append_right _ (List.mem_append_right _ (List.mem_append_right _ (List.mem_append_right _ (List.mem_append_right _ (h))))))))))
set_option maxHeartbeats 4000000 in
set_option maxRecDepth 100000 in
/-- gate: need -/
theorem s_g_need (l : Launch) (dC : Nat → ClassId) (dI : Nat → Nat → Nat) (W9 : va_W) (T9 : List (ClassId × FieldType)) (B9 : Nat → Prop) (gt tp bk mb mu rd cm wk pp so ty : Nat) (st9 td fk fpl un mk : Int32) (sz : Nat) (i1 i2 i3 : Int32) (hB9 : gB W9 T9 B9) (hbk : B9 bk) : Met l yX9_need mwX9_need ({ frames := 1, cells := 0, slots := 0, locals := 60 }) (va_Pc [.ref gt, .int i1, .int i2, .int i3] (fun U => U.heap.size = sz ∧ va_P (dC, dI) vwCl ([(gt, .inr (9, [.int st9, .ref tp, .int td, .int fk, .int fpl, .ref bk, .int un, .ref mb, .ref mu, .int mk, .ref rd, .ref cm, .ref wk, .ref pp, .ref so, .ref ty]))]) U.heap ∧ va_K (dC, dI) vwCl ([]) U ∧ va_D (fun _ => True) ([(gt, .inr (9, [.int st9, .ref tp, .int td, .int fk, .int fpl, .ref bk, .int un, .ref mb, .ref mu, .int mk, .ref rd, .ref cm, .ref wk, .ref pp, .ref so, .ref ty]))]) ∧ va_P (dC, dI) vwCl W9 U.heap ∧ va_K (dC, dI) vwCl T9 U ∧ (∀ q ∈ W9, ¬ va_A ([(gt, .inr (9, [.int st9, .ref tp, .int td, .int fk, .int fpl, .ref bk, .int un, .ref mb, .ref mu, .int mk, .ref rd, .ref cm, .ref wk, .ref pp, .ref so, .ref ty]))]) sz q.1))) (va_Qi (fun (_ : Int32) (_ : Unit) => True) (fun _ t => ∃ (y0 : Int32), va_P (dC, dI) vwCl [(gt, .inr (9, [.int y0, .ref tp, .int td, .int fk, .int fpl, .ref bk, .int un, .ref mb, .ref mu, .int mk, .ref rd, .ref cm, .ref wk, .ref pp, .ref so, .ref ty]))] t.heap ∧ va_K (dC, dI) vwCl [] t ∧ va_D (va_A ([(gt, .inr (9, [.int st9, .ref tp, .int td, .int fk, .int fpl, .ref bk, .int un, .ref mb, .ref mu, .int mk, .ref rd, .ref cm, .ref wk, .ref pp, .ref so, .ref ty]))]) sz) [(gt, .inr (9, [.int y0, .ref tp, .int td, .int fk, .int fpl, .ref bk, .int un, .ref mb, .ref mu, .int mk, .ref rd, .ref cm, .ref wk, .ref pp, .ref so, .ref ty]))]) (va_A ([(gt, .inr (9, [.int st9, .ref tp, .int td, .int fk, .int fpl, .ref bk, .int un, .ref mb, .ref mu, .int mk, .ref rd, .ref cm, .ref wk, .ref pp, .ref so, .ref ty]))]) sz)) 0 0 (va_A ([(gt, .inr (9, [.int st9, .ref tp, .int td, .int fk, .int fpl, .ref bk, .int un, .ref mb, .ref mu, .int mk, .ref rd, .ref cm, .ref wk, .ref pp, .ref so, .ref ty]))]) sz) := by
  refine Met.ofW (cc := cX9_need) (maxL := 5) (ret := (some .int)) (by decide +kernel) rfl ?_
  intro p e s m args below meth c s₁ B hml hv
  obtain ⟨rfl, hsz, hP, hK, hD0, hQ0, hKQ, hQA⟩ := hv
  have hx := B.exec
  have hb := B.bytes
  have hr := B.returns
  have hts := atoms_spec (ws := mwX9_need) B.pre
  have hown : s.vm.findClass RX9 = some m.cls := findClass_of_methodNamed B.named
  have hlocks := B.notSynchronized
  subst hsz
  have hD := hD0.self (sz := s.heap.size)
  generalize hAe : va_A ([(gt, .inr (9, [.int st9, .ref tp, .int td, .int fk, .int fpl, .ref bk, .int un, .ref mb, .ref mu, .int mk, .ref rd, .ref cm, .ref wk, .ref pp, .ref so, .ref ty]))]) s.heap.size = A at hD hQA ⊢
  have hA : ∀ q : Nat, s.heap.size ≤ q → A q := fun q h => by rw [← hAe]; exact Or.inr h
  have hP : va_P (dC, dI) vwCl [(gt, .inr (9, [.int st9, .ref tp, .int td, .int fk, .int fpl, .ref bk, .int un, .ref mb, .ref mu, .int mk, .ref rd, .ref cm, .ref wk, .ref pp, .ref so, .ref ty]))] s.heap := hP
  have hD : va_D A [(gt, .inr (9, [.int st9, .ref tp, .int td, .int fk, .int fpl, .ref bk, .int un, .ref mb, .ref mu, .int mk, .ref rd, .ref cm, .ref wk, .ref pp, .ref so, .ref ty]))] := hD
  have hK : va_K (dC, dI) vwCl [] s := hK
  generalize hH : s.heap = H at hP ⊢
  have hS : va_S A s.heap H [] := by rw [← hH]; exact va_S.rf
  have hQ := q_at hQ0 hQA hS
  have hl := lv_entry ([.ref gt, .int i1, .int i2, .int i3]) (n := 5) (Nat.le_of_ble_eq_true rfl)
  rw [lg_entry_eq]
  generalize (lg_sl ([.ref gt, .int i1, .int i2, .int i3]) ++ List.replicate (5 - (lg_sl ([.ref gt, .int i1, .int i2, .int i3])).length) Slot.unset).toArray = ls at hl ⊢
  have hl : lv_has ls 5 [(0, .ref gt), (1, .int i1), (2, .int i2), (3, .int i3)] := hl
  have rg_i1 := i_rng i1
  have rg_i2 := i_rng i2
  have rg_i3 := i_rng i3
  obtain ⟨ear, hB3, hear⟩ := hB9 bk hbk
  have hB0 := hB3.poB
  obtain ⟨ds, ps, nd, np, fd, fp, cD, cP, m1, m2, m3, m4, m5, hnd, hnp, hds, hps⟩ := hB3
  obtain ⟨k_1, hk_1⟩ := List.getElem?_of_mem m1
  obtain ⟨k_2, hk_2⟩ := List.getElem?_of_mem m2
  obtain ⟨j_3, hj_3⟩ := List.getElem?_of_mem m3
  obtain ⟨k_4, hk_4⟩ := List.getElem?_of_mem m4
  obtain ⟨j_5, hj_5⟩ := List.getElem?_of_mem m5
  have r_un := i_rng un
  have r_mk := i_rng mk
  have r_td := i_rng td
  refine lv_iload_n hx hb dX9_need_0 rfl (lv_at hl 2 rfl) ?_
  refine lv_if_lt (tgt := 8) hx hb dX9_need_1 (by decide) (fun k_6 => ?_) (fun k_6 => ?_)
  · have tk_6 := c_lt (a := i2.toInt) (b := 0) rfl (by decide) k_6
    refine lv_aload_n hx hb dX9_need_8 rfl (lv_at hl 0 rfl) ?_
    refine lv_iconst (v := 1) hx hb dX9_need_9 (by decide) ?_
    have hPc := hP.sub (ws' := [(gt, .inr (9, [.int st9, .ref tp, .int td, .int fk, .int fpl, .ref bk, .int un, .ref mb, .ref mu, .int mk, .ref rd, .ref cm, .ref wk, .ref pp, .ref so, .ref ty]))]) [0] rfl
    have hKc := hK.sub (tys' := []) [] rfl
    have hDc := hD.sub (ws' := [(gt, .inr (9, [.int st9, .ref tp, .int td, .int fk, .int fpl, .ref bk, .int un, .ref mb, .ref mu, .int mk, .ref rd, .ref cm, .ref wk, .ref pp, .ref so, .ref ty]))]) [0] (by decide) rfl
    have hFc := va_free (wc := [(gt, .inr (9, [.int st9, .ref tp, .int td, .int fk, .int fpl, .ref bk, .int un, .ref mb, .ref mu, .int mk, .ref rd, .ref cm, .ref wk, .ref pp, .ref so, .ref ty]))]) hD hS hA [0] rfl
    refine va_calli (va_runV (As := [.int 1]) (rest := []) ⟨hx, hb, hml, hown, hts⟩ (s_refuse l dC dI gt tp bk mb mu rd cm wk pp so ty st9 td fk fpl un mk H.size 1) (cwV 1 hts mg_X9_need_X9_refuse_80 rfl rfl rfl (by decide +kernel) ⟨Nat.le_of_ble_eq_true rfl, Nat.le_of_ble_eq_true rfl⟩) ⟨fun a U g mk q => by obtain ⟨q0, q1, qP, qK, qD⟩ := q; exact ⟨q0, q1, qP, va_K.moved (u := U) (U := U.calling g mk a) (Vm.Alike.refl U.vm) qK, qD⟩, va_recv hKc hPc (ci := 9) (q0 := 0) rfl rfl, fun U hU hW => ⟨rfl, by rw [hU], by rw [hU]; exact hPc, va_K.moved hW.alike hKc, hDc.weaken (fun _ _ _ _ => trivial)⟩⟩ rfl rfl hl.1 rfl (lv_room (Nat.le_of_ble_eq_true rfl)) dX9_need_10 ⟨Nat.le_of_ble_eq_true rfl, Nat.le_of_ble_eq_true rfl⟩) hS (fun q _ h => hFc q h) hFc (fun r_8 u t H1 locs ht hvm hw hB hz1 hk1 hS => ?_)
    obtain ⟨hP1, hK1, hD1⟩ := hB
    rw [ht] at hP1
    have hr_8 := hw
    obtain ⟨hP, hD⟩ := va_join (wr := []) (w1 := [(gt, .inr (9, [.int 1, .ref tp, .int td, .int fk, .int fpl, .ref bk, .int un, .ref mb, .ref mu, .int mk, .ref rd, .ref cm, .ref wk, .ref pp, .ref so, .ref ty]))]) hP hD [0] [] rfl rfl (by decide) (by decide) hk1 hFc hP1 hD1
    generalize H1 = H at hP hS ⊢
    have hP : va_P (dC, dI) vwCl [(gt, .inr (9, [.int 1, .ref tp, .int td, .int fk, .int fpl, .ref bk, .int un, .ref mb, .ref mu, .int mk, .ref rd, .ref cm, .ref wk, .ref pp, .ref so, .ref ty]))] H := hP
    have hD : va_D A [(gt, .inr (9, [.int 1, .ref tp, .int td, .int fk, .int fpl, .ref bk, .int un, .ref mb, .ref mu, .int mk, .ref rd, .ref cm, .ref wk, .ref pp, .ref so, .ref ty]))] := hD
    have hQ := q_at hQ0 hQA hS
    have hP9 := hP.sub (ws' := [(gt, .inr (9, [.int 1, .ref tp, .int td, .int fk, .int fpl, .ref bk, .int un, .ref mb, .ref mu, .int mk, .ref rd, .ref cm, .ref wk, .ref pp, .ref so, .ref ty]))]) [0] rfl
    have hD9 := hD.sub (ws' := [(gt, .inr (9, [.int 1, .ref tp, .int td, .int fk, .int fpl, .ref bk, .int un, .ref mb, .ref mu, .int mk, .ref rd, .ref cm, .ref wk, .ref pp, .ref so, .ref ty]))]) [0] (by decide) rfl
    have hK9 := hK.sub (tys' := []) [] rfl
    exact W.iret hx hb hr (fun t ht hW => ⟨⟨_, (), rfl, trivial, 1, by rw [ht]; exact hP9, va_K.moved hW.alike hK9, hD9⟩, hS.F ht⟩) hS.2.2 dX9_need_13
  · have tk_6 := c_nlt (a := i2.toInt) (b := 0) rfl (by decide) k_6
    refine lv_iload_n hx hb dX9_need_4 rfl (lv_at hl 3 rfl) ?_
    refine lv_if_ge (tgt := 14) hx hb dX9_need_5 (by decide) (fun k_9 => ?_) (fun k_9 => ?_)
    · have tk_9 := c_ge (a := i3.toInt) (b := 0) rfl (by decide) k_9
      refine lv_aload_n hx hb dX9_need_14 rfl (lv_at hl 0 rfl) ?_
      refine va_get (D := (dC, dI)) (ci := 9) (v := .ref bk) (C := RX9) (T := TX9) (N := 16) hx hb hts fin_X9_need_X9 hown hK hP 0 rfl rfl 5 (by decide) (hts (.fieldLink RX9 29 "PatternGate" "book" "LPatternGate$Book;") (List.mem_of_getElem? (i := 5) (by decide +kernel))) (fun _ h9 => h9) rfl dX9_need_15 ?_
      refine lv_iload_n hx hb dX9_need_18 rfl (lv_at hl 1 rfl) ?_
      have hPc := hQ
      have hKc := hKQ
      refine va_csq (W.runV (As := [.int i1]) (rest := []) ⟨hx, hb, hml, hown, hts⟩ (s_patternAt2 l dC dI W9 T9 bk ear i1 hB3) (cwV 1 hts mg_X9_need_X0_patternAt_140 rfl rfl rfl (by decide +kernel) ⟨Nat.le_of_ble_eq_true rfl, Nat.le_of_ble_eq_true rfl⟩) ⟨fun a U g mk q => by obtain ⟨q0, qP, qK⟩ := q; exact ⟨q0, qP, va_K.moved (u := U) (U := U.calling g mk a) (Vm.Alike.refl U.vm) qK⟩, va_recv hKc hPc (ci := 0) (q0 := k_1) rfl hk_1, fun U hU hW => ⟨rfl, by rw [hU]; exact hPc, va_K.moved hW.alike hKc⟩⟩ rfl rfl hl.1 rfl (lv_room (Nat.le_of_ble_eq_true rfl)) dX9_need_19 ⟨Nat.le_of_ble_eq_true rfl, Nat.le_of_ble_eq_true rfl⟩) (fun r_11 hw => ?_)
      rcases hw with rfl | ⟨d_12, rfl, hd_12⟩
      · refine W.eq (g2 := F0 m 22 ls [.null]) rfl ?_
        refine lv_astoreN (lv' := [(4, .null), (0, .ref gt), (1, .int i1), (2, .int i2), (3, .int i3)]) hx hb dX9_need_22 hl (by decide) rfl (fun ls hl => ?_)
        refine lv_aloadN hx hb dX9_need_24 (lv_at hl 0 rfl) ?_
        refine lv_ifnonnullN hx hb dX9_need_26 ?_
        refine lv_aload_n hx hb dX9_need_29 rfl (lv_at hl 1 rfl) ?_
        refine lv_iconst (v := 2) hx hb dX9_need_30 (by decide) ?_
        have hPc := hP.sub (ws' := [(gt, .inr (9, [.int st9, .ref tp, .int td, .int fk, .int fpl, .ref bk, .int un, .ref mb, .ref mu, .int mk, .ref rd, .ref cm, .ref wk, .ref pp, .ref so, .ref ty]))]) [0] rfl
        have hKc := hK.sub (tys' := []) [] rfl
        have hDc := hD.sub (ws' := [(gt, .inr (9, [.int st9, .ref tp, .int td, .int fk, .int fpl, .ref bk, .int un, .ref mb, .ref mu, .int mk, .ref rd, .ref cm, .ref wk, .ref pp, .ref so, .ref ty]))]) [0] (by decide) rfl
        have hFc := va_free (wc := [(gt, .inr (9, [.int st9, .ref tp, .int td, .int fk, .int fpl, .ref bk, .int un, .ref mb, .ref mu, .int mk, .ref rd, .ref cm, .ref wk, .ref pp, .ref so, .ref ty]))]) hD hS hA [0] rfl
        refine va_calli (va_runV (As := [.int 2]) (rest := []) ⟨hx, hb, hml, hown, hts⟩ (s_refuse l dC dI gt tp bk mb mu rd cm wk pp so ty st9 td fk fpl un mk H.size 2) (cwV 1 hts mg_X9_need_X9_refuse_80 rfl rfl rfl (by decide +kernel) ⟨Nat.le_of_ble_eq_true rfl, Nat.le_of_ble_eq_true rfl⟩) ⟨fun a U g mk q => by obtain ⟨q0, q1, qP, qK, qD⟩ := q; exact ⟨q0, q1, qP, va_K.moved (u := U) (U := U.calling g mk a) (Vm.Alike.refl U.vm) qK, qD⟩, va_recv hKc hPc (ci := 9) (q0 := 0) rfl rfl, fun U hU hW => ⟨rfl, by rw [hU], by rw [hU]; exact hPc, va_K.moved hW.alike hKc, hDc.weaken (fun _ _ _ _ => trivial)⟩⟩ rfl rfl hl.1 rfl (lv_room (Nat.le_of_ble_eq_true rfl)) dX9_need_31 ⟨Nat.le_of_ble_eq_true rfl, Nat.le_of_ble_eq_true rfl⟩) hS (fun q _ h => hFc q h) hFc (fun r_14 u t H1 locs ht hvm hw hB hz1 hk1 hS => ?_)
        obtain ⟨hP1, hK1, hD1⟩ := hB
        rw [ht] at hP1
        have hr_14 := hw
        obtain ⟨hP, hD⟩ := va_join (wr := []) (w1 := [(gt, .inr (9, [.int 2, .ref tp, .int td, .int fk, .int fpl, .ref bk, .int un, .ref mb, .ref mu, .int mk, .ref rd, .ref cm, .ref wk, .ref pp, .ref so, .ref ty]))]) hP hD [0] [] rfl rfl (by decide) (by decide) hk1 hFc hP1 hD1
        generalize H1 = H at hP hS ⊢
        have hP : va_P (dC, dI) vwCl [(gt, .inr (9, [.int 2, .ref tp, .int td, .int fk, .int fpl, .ref bk, .int un, .ref mb, .ref mu, .int mk, .ref rd, .ref cm, .ref wk, .ref pp, .ref so, .ref ty]))] H := hP
        have hD : va_D A [(gt, .inr (9, [.int 2, .ref tp, .int td, .int fk, .int fpl, .ref bk, .int un, .ref mb, .ref mu, .int mk, .ref rd, .ref cm, .ref wk, .ref pp, .ref so, .ref ty]))] := hD
        have hQ := q_at hQ0 hQA hS
        have hP9 := hP.sub (ws' := [(gt, .inr (9, [.int 2, .ref tp, .int td, .int fk, .int fpl, .ref bk, .int un, .ref mb, .ref mu, .int mk, .ref rd, .ref cm, .ref wk, .ref pp, .ref so, .ref ty]))]) [0] rfl
        have hD9 := hD.sub (ws' := [(gt, .inr (9, [.int 2, .ref tp, .int td, .int fk, .int fpl, .ref bk, .int un, .ref mb, .ref mu, .int mk, .ref rd, .ref cm, .ref wk, .ref pp, .ref so, .ref ty]))]) [0] (by decide) rfl
        have hK9 := hK.sub (tys' := []) [] rfl
        exact W.iret hx hb hr (fun t ht hW => ⟨⟨_, (), rfl, trivial, 2, by rw [ht]; exact hP9, va_K.moved hW.alike hK9, hD9⟩, hS.F ht⟩) hS.2.2 dX9_need_34
      · refine W.eq (g2 := F0 m 22 ls [.ref d_12]) rfl ?_
        have hd_12P := hd_12.poP
        obtain ⟨q_15, a_16, a_17, a_18, a_19, a_20, a_21, n_22, n_23, n_24, n_25, n_26, n_27, n_28, f_29, f_30, f_31, f_32, f_33, f_34, f_35, c_36, c_37, c_38, c_39, c_40, c_41, c_42, m_43, ⟨m_44, m_45⟩, ⟨m_46, m_47⟩, ⟨m_48, m_49⟩, ⟨m_50, m_51⟩, ⟨m_52, m_53⟩, ⟨m_54, m_55⟩, ⟨m_56, m_57, h_68⟩, h_58, h_59, h_60, h_61, h_62, h_63, h_64, h_65, h_66, h_67⟩ := hd_12
        obtain ⟨k_69, hk_69⟩ := List.getElem?_of_mem m_43
        obtain ⟨k_70, hk_70⟩ := List.getElem?_of_mem m_44
        obtain ⟨j_71, hj_71⟩ := List.getElem?_of_mem m_45
        obtain ⟨k_72, hk_72⟩ := List.getElem?_of_mem m_46
        obtain ⟨j_73, hj_73⟩ := List.getElem?_of_mem m_47
        obtain ⟨k_74, hk_74⟩ := List.getElem?_of_mem m_48
        obtain ⟨j_75, hj_75⟩ := List.getElem?_of_mem m_49
        obtain ⟨k_76, hk_76⟩ := List.getElem?_of_mem m_50
        obtain ⟨j_77, hj_77⟩ := List.getElem?_of_mem m_51
        obtain ⟨k_78, hk_78⟩ := List.getElem?_of_mem m_52
        obtain ⟨j_79, hj_79⟩ := List.getElem?_of_mem m_53
        obtain ⟨k_80, hk_80⟩ := List.getElem?_of_mem m_54
        obtain ⟨j_81, hj_81⟩ := List.getElem?_of_mem m_55
        obtain ⟨k_82, hk_82⟩ := List.getElem?_of_mem m_56
        obtain ⟨j_83, hj_83⟩ := List.getElem?_of_mem m_57
        refine lv_astore (lv' := [(4, .ref d_12), (0, .ref gt), (1, .int i1), (2, .int i2), (3, .int i3)]) hx hb dX9_need_22 hl (by decide) rfl (fun ls hl => ?_)
        refine lv_aload hx hb dX9_need_24 (lv_at hl 0 rfl) ?_
        refine lv_ifnonnull (tgt := 35) hx hb dX9_need_26 (by decide) ?_
        refine lv_iload_n hx hb dX9_need_35 rfl (lv_at hl 3 rfl) ?_
        refine lv_aload hx hb dX9_need_36 (lv_at hl 0 rfl) ?_
        have hPc : va_P (dC, dI) vwCl [(d_12, .inr (5, pF q_15 a_16 a_17 a_18 a_19 a_20 a_21)), (q_15 5, .inl (c_40, n_26, .inl f_33))] H := p_sub hQ (List.forall_mem_cons.mpr ⟨m_43, List.forall_mem_cons.mpr ⟨m_52, fun _ h => absurd h List.not_mem_nil⟩⟩)
        have hKc : va_K (dC, dI) vwCl [(c_40, .int)] s := k_sub hKQ (List.forall_mem_cons.mpr ⟨m_53, fun _ h => absurd h List.not_mem_nil⟩)
        refine vp_callSi (W.runV (As := []) (rest := [.int i2]) ⟨hx, hb, hml, hown, hts⟩ (s_choices l dC dI d_12 q_15 a_16 a_17 a_18 a_19 a_20 a_21 n_26 f_33 c_40 (by omega)) (cwV 0 hts mg_X9_need_X5_choices_150 rfl rfl rfl (by decide +kernel) ⟨Nat.le_of_ble_eq_true rfl, Nat.le_of_ble_eq_true rfl⟩) ⟨fun a U g mk q => by obtain ⟨q0, qP, qK⟩ := q; exact ⟨q0, qP, va_K.moved (u := U) (U := U.calling g mk a) (Vm.Alike.refl U.vm) qK⟩, va_recv hKc hPc (ci := 5) (q0 := 0) rfl rfl, fun U hU hW => ⟨rfl, by rw [hU]; exact hPc, va_K.moved hW.alike hKc⟩⟩ rfl rfl hl.1 rfl (lv_room (Nat.le_of_ble_eq_true rfl)) dX9_need_38 ⟨Nat.le_of_ble_eq_true rfl, Nat.le_of_ble_eq_true rfl⟩) (fun r_85 hw => ?_)
        refine lv_icmp_ge (tgt := 54) hx hb dX9_need_41 (by decide) (fun k_86 => ?_) (fun k_86 => ?_)
        · have tk_86 := c_ge (a := i2.toInt) (b := r_85.toInt) rfl rfl k_86
          refine lv_aload_n hx hb dX9_need_54 rfl (lv_at hl 1 rfl) ?_
          refine lv_iconst (v := 5) hx hb dX9_need_55 (by decide) ?_
          have hPc := hP.sub (ws' := [(gt, .inr (9, [.int st9, .ref tp, .int td, .int fk, .int fpl, .ref bk, .int un, .ref mb, .ref mu, .int mk, .ref rd, .ref cm, .ref wk, .ref pp, .ref so, .ref ty]))]) [0] rfl
          have hKc := hK.sub (tys' := []) [] rfl
          have hDc := hD.sub (ws' := [(gt, .inr (9, [.int st9, .ref tp, .int td, .int fk, .int fpl, .ref bk, .int un, .ref mb, .ref mu, .int mk, .ref rd, .ref cm, .ref wk, .ref pp, .ref so, .ref ty]))]) [0] (by decide) rfl
          have hFc := va_free (wc := [(gt, .inr (9, [.int st9, .ref tp, .int td, .int fk, .int fpl, .ref bk, .int un, .ref mb, .ref mu, .int mk, .ref rd, .ref cm, .ref wk, .ref pp, .ref so, .ref ty]))]) hD hS hA [0] rfl
          refine va_calli (va_runV (As := [.int 5]) (rest := []) ⟨hx, hb, hml, hown, hts⟩ (s_refuse l dC dI gt tp bk mb mu rd cm wk pp so ty st9 td fk fpl un mk H.size 5) (cwV 1 hts mg_X9_need_X9_refuse_80 rfl rfl rfl (by decide +kernel) ⟨Nat.le_of_ble_eq_true rfl, Nat.le_of_ble_eq_true rfl⟩) ⟨fun a U g mk q => by obtain ⟨q0, q1, qP, qK, qD⟩ := q; exact ⟨q0, q1, qP, va_K.moved (u := U) (U := U.calling g mk a) (Vm.Alike.refl U.vm) qK, qD⟩, va_recv hKc hPc (ci := 9) (q0 := 0) rfl rfl, fun U hU hW => ⟨rfl, by rw [hU], by rw [hU]; exact hPc, va_K.moved hW.alike hKc, hDc.weaken (fun _ _ _ _ => trivial)⟩⟩ rfl rfl hl.1 rfl (lv_room (Nat.le_of_ble_eq_true rfl)) dX9_need_56 ⟨Nat.le_of_ble_eq_true rfl, Nat.le_of_ble_eq_true rfl⟩) hS (fun q _ h => hFc q h) hFc (fun r_88 u t H1 locs ht hvm hw hB hz1 hk1 hS => ?_)
          obtain ⟨hP1, hK1, hD1⟩ := hB
          rw [ht] at hP1
          have hr_88 := hw
          obtain ⟨hP, hD⟩ := va_join (wr := []) (w1 := [(gt, .inr (9, [.int 5, .ref tp, .int td, .int fk, .int fpl, .ref bk, .int un, .ref mb, .ref mu, .int mk, .ref rd, .ref cm, .ref wk, .ref pp, .ref so, .ref ty]))]) hP hD [0] [] rfl rfl (by decide) (by decide) hk1 hFc hP1 hD1
          generalize H1 = H at hP hS ⊢
          have hP : va_P (dC, dI) vwCl [(gt, .inr (9, [.int 5, .ref tp, .int td, .int fk, .int fpl, .ref bk, .int un, .ref mb, .ref mu, .int mk, .ref rd, .ref cm, .ref wk, .ref pp, .ref so, .ref ty]))] H := hP
          have hD : va_D A [(gt, .inr (9, [.int 5, .ref tp, .int td, .int fk, .int fpl, .ref bk, .int un, .ref mb, .ref mu, .int mk, .ref rd, .ref cm, .ref wk, .ref pp, .ref so, .ref ty]))] := hD
          have hQ := q_at hQ0 hQA hS
          have hP9 := hP.sub (ws' := [(gt, .inr (9, [.int 5, .ref tp, .int td, .int fk, .int fpl, .ref bk, .int un, .ref mb, .ref mu, .int mk, .ref rd, .ref cm, .ref wk, .ref pp, .ref so, .ref ty]))]) [0] rfl
          have hD9 := hD.sub (ws' := [(gt, .inr (9, [.int 5, .ref tp, .int td, .int fk, .int fpl, .ref bk, .int un, .ref mb, .ref mu, .int mk, .ref rd, .ref cm, .ref wk, .ref pp, .ref so, .ref ty]))]) [0] (by decide) rfl
          have hK9 := hK.sub (tys' := []) [] rfl
          exact W.iret hx hb hr (fun t ht hW => ⟨⟨_, (), rfl, trivial, 5, by rw [ht]; exact hP9, va_K.moved hW.alike hK9, hD9⟩, hS.F ht⟩) hS.2.2 dX9_need_59
        · have tk_86 := c_nge (a := i2.toInt) (b := r_85.toInt) rfl rfl k_86
          refine lv_iload_n hx hb dX9_need_44 rfl (lv_at hl 4 rfl) ?_
          refine lv_aload hx hb dX9_need_45 (lv_at hl 0 rfl) ?_
          refine lv_iload_n hx hb dX9_need_47 rfl (lv_at hl 3 rfl) ?_
          have hPc : va_P (dC, dI) vwCl [(d_12, .inr (5, pF q_15 a_16 a_17 a_18 a_19 a_20 a_21)), (q_15 5, .inl (c_40, n_26, .inl f_33))] H := p_sub hQ (List.forall_mem_cons.mpr ⟨m_43, List.forall_mem_cons.mpr ⟨m_52, fun _ h => absurd h List.not_mem_nil⟩⟩)
          have hKc : va_K (dC, dI) vwCl [(c_40, .int)] s := k_sub hKQ (List.forall_mem_cons.mpr ⟨m_53, fun _ h => absurd h List.not_mem_nil⟩)
          refine vp_callSi (W.runV (As := [.int i2]) (rest := [.int i3]) ⟨hx, hb, hml, hown, hts⟩ (s_sizeOf l dC dI d_12 q_15 a_16 a_17 a_18 a_19 a_20 a_21 n_26 f_33 c_40 i2 (by omega) (by omega)) (cwV 1 hts mg_X9_need_X5_sizeOf_183 rfl rfl rfl (by decide +kernel) ⟨Nat.le_of_ble_eq_true rfl, Nat.le_of_ble_eq_true rfl⟩) ⟨fun a U g mk q => by obtain ⟨q0, qP, qK⟩ := q; exact ⟨q0, qP, va_K.moved (u := U) (U := U.calling g mk a) (Vm.Alike.refl U.vm) qK⟩, va_recv hKc hPc (ci := 5) (q0 := 0) rfl rfl, fun U hU hW => ⟨rfl, by rw [hU]; exact hPc, va_K.moved hW.alike hKc⟩⟩ rfl rfl hl.1 rfl (lv_room (Nat.le_of_ble_eq_true rfl)) dX9_need_48 ⟨Nat.le_of_ble_eq_true rfl, Nat.le_of_ble_eq_true rfl⟩) (fun r_90 hw => ?_)
          refine lv_icmp_lt (tgt := 60) hx hb dX9_need_51 (by decide) (fun k_91 => ?_) (fun k_91 => ?_)
          · have tk_91 := c_lt (a := i3.toInt) (b := r_90.toInt) rfl rfl k_91
            refine lv_aload_n hx hb dX9_need_60 rfl (lv_at hl 1 rfl) ?_
            refine lv_aload hx hb dX9_need_61 (lv_at hl 0 rfl) ?_
            refine lv_iload_n hx hb dX9_need_63 rfl (lv_at hl 3 rfl) ?_
            refine lv_iload_n hx hb dX9_need_64 rfl (lv_at hl 4 rfl) ?_
            have hPc : va_P (dC, dI) vwCl [(d_12, .inr (5, pF q_15 a_16 a_17 a_18 a_19 a_20 a_21)), (q_15 5, .inl (c_40, n_26, .inl f_33)), (q_15 4, .inl (c_39, n_25, .inl f_32))] H := p_sub hQ (List.forall_mem_cons.mpr ⟨m_43, List.forall_mem_cons.mpr ⟨m_52, List.forall_mem_cons.mpr ⟨m_50, fun _ h => absurd h List.not_mem_nil⟩⟩⟩)
            have hKc : va_K (dC, dI) vwCl [(c_40, .int), (c_39, .int)] s := k_sub hKQ (List.forall_mem_cons.mpr ⟨m_53, List.forall_mem_cons.mpr ⟨m_51, fun _ h => absurd h List.not_mem_nil⟩⟩)
            refine vp_callSi (W.runV (As := [.int i2, .int i3]) (rest := [.ref gt]) ⟨hx, hb, hml, hown, hts⟩ (s_tripleAt l dC dI d_12 q_15 a_16 a_17 a_18 a_19 a_20 a_21 n_26 f_33 c_40 n_25 f_32 c_39 i2 i3 (by omega) (by omega)) (cwV 2 hts mg_X9_need_X5_tripleAt_186 rfl rfl rfl (by decide +kernel) ⟨Nat.le_of_ble_eq_true rfl, Nat.le_of_ble_eq_true rfl⟩) ⟨fun a U g mk q => by obtain ⟨q0, qP, qK⟩ := q; exact ⟨q0, qP, va_K.moved (u := U) (U := U.calling g mk a) (Vm.Alike.refl U.vm) qK⟩, va_recv hKc hPc (ci := 5) (q0 := 0) rfl rfl, fun U hU hW => ⟨rfl, by rw [hU]; exact hPc, va_K.moved hW.alike hKc⟩⟩ rfl rfl hl.1 rfl (lv_room (Nat.le_of_ble_eq_true rfl)) dX9_need_65 ⟨Nat.le_of_ble_eq_true rfl, Nat.le_of_ble_eq_true rfl⟩) (fun r_93 hw => ?_)
            have hPc := hP.sub (ws' := [(gt, .inr (9, [.int st9, .ref tp, .int td, .int fk, .int fpl, .ref bk, .int un, .ref mb, .ref mu, .int mk, .ref rd, .ref cm, .ref wk, .ref pp, .ref so, .ref ty]))]) [0] rfl
            have hKc := hK.sub (tys' := []) [] rfl
            have hDc := hD.sub (ws' := [(gt, .inr (9, [.int st9, .ref tp, .int td, .int fk, .int fpl, .ref bk, .int un, .ref mb, .ref mu, .int mk, .ref rd, .ref cm, .ref wk, .ref pp, .ref so, .ref ty]))]) [0] (by decide) rfl
            have hFc := va_free (wc := [(gt, .inr (9, [.int st9, .ref tp, .int td, .int fk, .int fpl, .ref bk, .int un, .ref mb, .ref mu, .int mk, .ref rd, .ref cm, .ref wk, .ref pp, .ref so, .ref ty]))]) hD hS hA [0] rfl
            refine va_calli (va_runV (As := [.int r_93]) (rest := []) ⟨hx, hb, hml, hown, hts⟩ (s_answer l dC dI gt tp bk mb mu rd cm wk pp so ty st9 td fk fpl un mk H.size r_93) (cwV 1 hts mg_X9_need_X9_answer_100 rfl rfl rfl (by decide +kernel) ⟨Nat.le_of_ble_eq_true rfl, Nat.le_of_ble_eq_true rfl⟩) ⟨fun a U g mk q => by obtain ⟨q0, q1, qP, qK, qD⟩ := q; exact ⟨q0, q1, qP, va_K.moved (u := U) (U := U.calling g mk a) (Vm.Alike.refl U.vm) qK, qD⟩, va_recv hKc hPc (ci := 9) (q0 := 0) rfl rfl, fun U hU hW => ⟨rfl, by rw [hU], by rw [hU]; exact hPc, va_K.moved hW.alike hKc, hDc.weaken (fun _ _ _ _ => trivial)⟩⟩ rfl rfl hl.1 rfl (lv_room (Nat.le_of_ble_eq_true rfl)) dX9_need_68 ⟨Nat.le_of_ble_eq_true rfl, Nat.le_of_ble_eq_true rfl⟩) hS (fun q _ h => hFc q h) hFc (fun r_95 u t H1 locs ht hvm hw hB hz1 hk1 hS => ?_)
            obtain ⟨hP1, hK1, hD1⟩ := hB
            rw [ht] at hP1
            have hr_95 := hw
            obtain ⟨hP, hD⟩ := va_join (wr := []) (w1 := [(gt, .inr (9, [.int 0, .ref tp, .int td, .int fk, .int fpl, .ref bk, .int un, .ref mb, .ref mu, .int mk, .ref rd, .ref cm, .ref wk, .ref pp, .ref so, .ref ty]))]) hP hD [0] [] rfl rfl (by decide) (by decide) hk1 hFc hP1 hD1
            generalize H1 = H at hP hS ⊢
            have hP : va_P (dC, dI) vwCl [(gt, .inr (9, [.int 0, .ref tp, .int td, .int fk, .int fpl, .ref bk, .int un, .ref mb, .ref mu, .int mk, .ref rd, .ref cm, .ref wk, .ref pp, .ref so, .ref ty]))] H := hP
            have hD : va_D A [(gt, .inr (9, [.int 0, .ref tp, .int td, .int fk, .int fpl, .ref bk, .int un, .ref mb, .ref mu, .int mk, .ref rd, .ref cm, .ref wk, .ref pp, .ref so, .ref ty]))] := hD
            have hQ := q_at hQ0 hQA hS
            have hP9 := hP.sub (ws' := [(gt, .inr (9, [.int 0, .ref tp, .int td, .int fk, .int fpl, .ref bk, .int un, .ref mb, .ref mu, .int mk, .ref rd, .ref cm, .ref wk, .ref pp, .ref so, .ref ty]))]) [0] rfl
            have hD9 := hD.sub (ws' := [(gt, .inr (9, [.int 0, .ref tp, .int td, .int fk, .int fpl, .ref bk, .int un, .ref mb, .ref mu, .int mk, .ref rd, .ref cm, .ref wk, .ref pp, .ref so, .ref ty]))]) [0] (by decide) rfl
            have hK9 := hK.sub (tys' := []) [] rfl
            exact W.iret hx hb hr (fun t ht hW => ⟨⟨_, (), rfl, trivial, 0, by rw [ht]; exact hP9, va_K.moved hW.alike hK9, hD9⟩, hS.F ht⟩) hS.2.2 dX9_need_71
          · have tk_91 := c_nlt (a := i3.toInt) (b := r_90.toInt) rfl rfl k_91
            refine lv_aload_n hx hb dX9_need_54 rfl (lv_at hl 1 rfl) ?_
            refine lv_iconst (v := 5) hx hb dX9_need_55 (by decide) ?_
            have hPc := hP.sub (ws' := [(gt, .inr (9, [.int st9, .ref tp, .int td, .int fk, .int fpl, .ref bk, .int un, .ref mb, .ref mu, .int mk, .ref rd, .ref cm, .ref wk, .ref pp, .ref so, .ref ty]))]) [0] rfl
            have hKc := hK.sub (tys' := []) [] rfl
            have hDc := hD.sub (ws' := [(gt, .inr (9, [.int st9, .ref tp, .int td, .int fk, .int fpl, .ref bk, .int un, .ref mb, .ref mu, .int mk, .ref rd, .ref cm, .ref wk, .ref pp, .ref so, .ref ty]))]) [0] (by decide) rfl
            have hFc := va_free (wc := [(gt, .inr (9, [.int st9, .ref tp, .int td, .int fk, .int fpl, .ref bk, .int un, .ref mb, .ref mu, .int mk, .ref rd, .ref cm, .ref wk, .ref pp, .ref so, .ref ty]))]) hD hS hA [0] rfl
            refine va_calli (va_runV (As := [.int 5]) (rest := []) ⟨hx, hb, hml, hown, hts⟩ (s_refuse l dC dI gt tp bk mb mu rd cm wk pp so ty st9 td fk fpl un mk H.size 5) (cwV 1 hts mg_X9_need_X9_refuse_80 rfl rfl rfl (by decide +kernel) ⟨Nat.le_of_ble_eq_true rfl, Nat.le_of_ble_eq_true rfl⟩) ⟨fun a U g mk q => by obtain ⟨q0, q1, qP, qK, qD⟩ := q; exact ⟨q0, q1, qP, va_K.moved (u := U) (U := U.calling g mk a) (Vm.Alike.refl U.vm) qK, qD⟩, va_recv hKc hPc (ci := 9) (q0 := 0) rfl rfl, fun U hU hW => ⟨rfl, by rw [hU], by rw [hU]; exact hPc, va_K.moved hW.alike hKc, hDc.weaken (fun _ _ _ _ => trivial)⟩⟩ rfl rfl hl.1 rfl (lv_room (Nat.le_of_ble_eq_true rfl)) dX9_need_56 ⟨Nat.le_of_ble_eq_true rfl, Nat.le_of_ble_eq_true rfl⟩) hS (fun q _ h => hFc q h) hFc (fun r_97 u t H1 locs ht hvm hw hB hz1 hk1 hS => ?_)
            obtain ⟨hP1, hK1, hD1⟩ := hB
            rw [ht] at hP1
            have hr_97 := hw
            obtain ⟨hP, hD⟩ := va_join (wr := []) (w1 := [(gt, .inr (9, [.int 5, .ref tp, .int td, .int fk, .int fpl, .ref bk, .int un, .ref mb, .ref mu, .int mk, .ref rd, .ref cm, .ref wk, .ref pp, .ref so, .ref ty]))]) hP hD [0] [] rfl rfl (by decide) (by decide) hk1 hFc hP1 hD1
            generalize H1 = H at hP hS ⊢
            have hP : va_P (dC, dI) vwCl [(gt, .inr (9, [.int 5, .ref tp, .int td, .int fk, .int fpl, .ref bk, .int un, .ref mb, .ref mu, .int mk, .ref rd, .ref cm, .ref wk, .ref pp, .ref so, .ref ty]))] H := hP
            have hD : va_D A [(gt, .inr (9, [.int 5, .ref tp, .int td, .int fk, .int fpl, .ref bk, .int un, .ref mb, .ref mu, .int mk, .ref rd, .ref cm, .ref wk, .ref pp, .ref so, .ref ty]))] := hD
            have hQ := q_at hQ0 hQA hS
            have hP9 := hP.sub (ws' := [(gt, .inr (9, [.int 5, .ref tp, .int td, .int fk, .int fpl, .ref bk, .int un, .ref mb, .ref mu, .int mk, .ref rd, .ref cm, .ref wk, .ref pp, .ref so, .ref ty]))]) [0] rfl
            have hD9 := hD.sub (ws' := [(gt, .inr (9, [.int 5, .ref tp, .int td, .int fk, .int fpl, .ref bk, .int un, .ref mb, .ref mu, .int mk, .ref rd, .ref cm, .ref wk, .ref pp, .ref so, .ref ty]))]) [0] (by decide) rfl
            have hK9 := hK.sub (tys' := []) [] rfl
            exact W.iret hx hb hr (fun t ht hW => ⟨⟨_, (), rfl, trivial, 5, by rw [ht]; exact hP9, va_K.moved hW.alike hK9, hD9⟩, hS.F ht⟩) hS.2.2 dX9_need_59
    · have tk_9 := c_nge (a := i3.toInt) (b := 0) rfl (by decide) k_9
      refine lv_aload_n hx hb dX9_need_8 rfl (lv_at hl 0 rfl) ?_
      refine lv_iconst (v := 1) hx hb dX9_need_9 (by decide) ?_
      have hPc := hP.sub (ws' := [(gt, .inr (9, [.int st9, .ref tp, .int td, .int fk, .int fpl, .ref bk, .int un, .ref mb, .ref mu, .int mk, .ref rd, .ref cm, .ref wk, .ref pp, .ref so, .ref ty]))]) [0] rfl
      have hKc := hK.sub (tys' := []) [] rfl
      have hDc := hD.sub (ws' := [(gt, .inr (9, [.int st9, .ref tp, .int td, .int fk, .int fpl, .ref bk, .int un, .ref mb, .ref mu, .int mk, .ref rd, .ref cm, .ref wk, .ref pp, .ref so, .ref ty]))]) [0] (by decide) rfl
      have hFc := va_free (wc := [(gt, .inr (9, [.int st9, .ref tp, .int td, .int fk, .int fpl, .ref bk, .int un, .ref mb, .ref mu, .int mk, .ref rd, .ref cm, .ref wk, .ref pp, .ref so, .ref ty]))]) hD hS hA [0] rfl
      refine va_calli (va_runV (As := [.int 1]) (rest := []) ⟨hx, hb, hml, hown, hts⟩ (s_refuse l dC dI gt tp bk mb mu rd cm wk pp so ty st9 td fk fpl un mk H.size 1) (cwV 1 hts mg_X9_need_X9_refuse_80 rfl rfl rfl (by decide +kernel) ⟨Nat.le_of_ble_eq_true rfl, Nat.le_of_ble_eq_true rfl⟩) ⟨fun a U g mk q => by obtain ⟨q0, q1, qP, qK, qD⟩ := q; exact ⟨q0, q1, qP, va_K.moved (u := U) (U := U.calling g mk a) (Vm.Alike.refl U.vm) qK, qD⟩, va_recv hKc hPc (ci := 9) (q0 := 0) rfl rfl, fun U hU hW => ⟨rfl, by rw [hU], by rw [hU]; exact hPc, va_K.moved hW.alike hKc, hDc.weaken (fun _ _ _ _ => trivial)⟩⟩ rfl rfl hl.1 rfl (lv_room (Nat.le_of_ble_eq_true rfl)) dX9_need_10 ⟨Nat.le_of_ble_eq_true rfl, Nat.le_of_ble_eq_true rfl⟩) hS (fun q _ h => hFc q h) hFc (fun r_99 u t H1 locs ht hvm hw hB hz1 hk1 hS => ?_)
      obtain ⟨hP1, hK1, hD1⟩ := hB
      rw [ht] at hP1
      have hr_99 := hw
      obtain ⟨hP, hD⟩ := va_join (wr := []) (w1 := [(gt, .inr (9, [.int 1, .ref tp, .int td, .int fk, .int fpl, .ref bk, .int un, .ref mb, .ref mu, .int mk, .ref rd, .ref cm, .ref wk, .ref pp, .ref so, .ref ty]))]) hP hD [0] [] rfl rfl (by decide) (by decide) hk1 hFc hP1 hD1
      generalize H1 = H at hP hS ⊢
      have hP : va_P (dC, dI) vwCl [(gt, .inr (9, [.int 1, .ref tp, .int td, .int fk, .int fpl, .ref bk, .int un, .ref mb, .ref mu, .int mk, .ref rd, .ref cm, .ref wk, .ref pp, .ref so, .ref ty]))] H := hP
      have hD : va_D A [(gt, .inr (9, [.int 1, .ref tp, .int td, .int fk, .int fpl, .ref bk, .int un, .ref mb, .ref mu, .int mk, .ref rd, .ref cm, .ref wk, .ref pp, .ref so, .ref ty]))] := hD
      have hQ := q_at hQ0 hQA hS
      have hP9 := hP.sub (ws' := [(gt, .inr (9, [.int 1, .ref tp, .int td, .int fk, .int fpl, .ref bk, .int un, .ref mb, .ref mu, .int mk, .ref rd, .ref cm, .ref wk, .ref pp, .ref so, .ref ty]))]) [0] rfl
      have hD9 := hD.sub (ws' := [(gt, .inr (9, [.int 1, .ref tp, .int td, .int fk, .int fpl, .ref bk, .int un, .ref mb, .ref mu, .int mk, .ref rd, .ref cm, .ref wk, .ref pp, .ref so, .ref ty]))]) [0] (by decide) rfl
      have hK9 := hK.sub (tys' := []) [] rfl
      exact W.iret hx hb hr (fun t ht hW => ⟨⟨_, (), rfl, trivial, 1, by rw [ht]; exact hP9, va_K.moved hW.alike hK9, hD9⟩, hS.F ht⟩) hS.2.2 dX9_need_13

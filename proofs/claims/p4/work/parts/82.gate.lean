theorem dX9_need_0 : decode cX9_need 0 = .ok (.iload_n 2, 1) := by decide +kernel
theorem dX9_need_1 : decode cX9_need 1 = .ok (.ifCond .lt 7, 3) := by decide +kernel
theorem dX9_need_4 : decode cX9_need 4 = .ok (.iload_n 3, 1) := by decide +kernel
theorem dX9_need_5 : decode cX9_need 5 = .ok (.ifCond .ge 9, 3) := by decide +kernel
theorem dX9_need_8 : decode cX9_need 8 = .ok (.aload_n 0, 1) := by decide +kernel
theorem dX9_need_9 : decode cX9_need 9 = .ok (.iconst 1, 1) := by decide +kernel
theorem dX9_need_10 : decode cX9_need 10 = .ok (.invokevirtual 80, 3) := by decide +kernel
theorem dX9_need_13 : decode cX9_need 13 = .ok (.ireturn, 1) := by decide +kernel
theorem dX9_need_14 : decode cX9_need 14 = .ok (.aload_n 0, 1) := by decide +kernel
theorem dX9_need_15 : decode cX9_need 15 = .ok (.getfield 29, 3) := by decide +kernel
theorem dX9_need_18 : decode cX9_need 18 = .ok (.iload_n 1, 1) := by decide +kernel
theorem dX9_need_19 : decode cX9_need 19 = .ok (.invokevirtual 140, 3) := by decide +kernel
theorem dX9_need_22 : decode cX9_need 22 = .ok (.astore 4, 2) := by decide +kernel
theorem dX9_need_24 : decode cX9_need 24 = .ok (.aload 4, 2) := by decide +kernel
theorem dX9_need_26 : decode cX9_need 26 = .ok (.ifnonnull 9, 3) := by decide +kernel
theorem dX9_need_29 : decode cX9_need 29 = .ok (.aload_n 0, 1) := by decide +kernel
theorem dX9_need_30 : decode cX9_need 30 = .ok (.iconst 2, 1) := by decide +kernel
theorem dX9_need_31 : decode cX9_need 31 = .ok (.invokevirtual 80, 3) := by decide +kernel
theorem dX9_need_34 : decode cX9_need 34 = .ok (.ireturn, 1) := by decide +kernel
theorem dX9_need_35 : decode cX9_need 35 = .ok (.iload_n 2, 1) := by decide +kernel
theorem dX9_need_36 : decode cX9_need 36 = .ok (.aload 4, 2) := by decide +kernel
theorem dX9_need_38 : decode cX9_need 38 = .ok (.invokevirtual 150, 3) := by decide +kernel
theorem dX9_need_41 : decode cX9_need 41 = .ok (.if_icmp .ge 13, 3) := by decide +kernel
theorem dX9_need_44 : decode cX9_need 44 = .ok (.iload_n 3, 1) := by decide +kernel
theorem dX9_need_45 : decode cX9_need 45 = .ok (.aload 4, 2) := by decide +kernel
theorem dX9_need_47 : decode cX9_need 47 = .ok (.iload_n 2, 1) := by decide +kernel
theorem dX9_need_48 : decode cX9_need 48 = .ok (.invokevirtual 183, 3) := by decide +kernel
theorem dX9_need_51 : decode cX9_need 51 = .ok (.if_icmp .lt 9, 3) := by decide +kernel
theorem dX9_need_54 : decode cX9_need 54 = .ok (.aload_n 0, 1) := by decide +kernel
theorem dX9_need_55 : decode cX9_need 55 = .ok (.iconst 5, 1) := by decide +kernel
theorem dX9_need_56 : decode cX9_need 56 = .ok (.invokevirtual 80, 3) := by decide +kernel
theorem dX9_need_59 : decode cX9_need 59 = .ok (.ireturn, 1) := by decide +kernel
theorem dX9_need_60 : decode cX9_need 60 = .ok (.aload_n 0, 1) := by decide +kernel
theorem dX9_need_61 : decode cX9_need 61 = .ok (.aload 4, 2) := by decide +kernel
theorem dX9_need_63 : decode cX9_need 63 = .ok (.iload_n 2, 1) := by decide +kernel
theorem dX9_need_64 : decode cX9_need 64 = .ok (.iload_n 3, 1) := by decide +kernel
theorem dX9_need_65 : decode cX9_need 65 = .ok (.invokevirtual 186, 3) := by decide +kernel
theorem dX9_need_68 : decode cX9_need 68 = .ok (.invokevirtual 100, 3) := by decide +kernel
theorem dX9_need_71 : decode cX9_need 71 = .ok (.ireturn, 1) := by decide +kernel
def mwX9_need : List Cond := .code yX9_need cX9_need 5 (some .int) :: (([.methodLink RX9 80 yX9_refuse, .instanceMethod yX9_refuse, .selects RX9 yX9_refuse yX9_refuse, .initialized RX9, .fieldLink RX9 29 "PatternGate" "book" "LPatternGate$Book;", .methodLink RX9 140 yX0_patternAt, .instanceMethod yX0_patternAt, .selects RX0 yX0_patternAt yX0_patternAt, .initialized RX0, .methodLink RX9 150 yX5_choices, .instanceMethod yX5_choices, .selects RX5 yX5_choices yX5_choices, .initialized RX5, .methodLink RX9 183 yX5_sizeOf, .instanceMethod yX5_sizeOf, .selects RX5 yX5_sizeOf yX5_sizeOf, .methodLink RX9 186 yX5_tripleAt, .instanceMethod yX5_tripleAt, .selects RX5 yX5_tripleAt yX5_tripleAt, .methodLink RX9 100 yX9_answer, .instanceMethod yX9_answer, .selects RX9 yX9_answer yX9_answer] : List Cond) ++ (wsX90 ++ (mwX9_refuse ++ (mwX0_patternAt2 ++ (mwX5_choices ++ (mwX5_sizeOf ++ (mwX5_tripleAt ++ (mwX9_answer))))))))
theorem fin_X9_need_X9 : ∀ w ∈ wsX90, w ∈ mwX9_need := fun w h => List.mem_cons_of_mem _ (List.mem_append_right _ (List.mem_append_left _ h))
set_option maxRecDepth 100000 in
theorem gd_mwX5_sizeOf : mwX5_sizeOf.all goodWord = true := by decide +kernel
set_option maxRecDepth 100000 in
theorem gd_mwX5_tripleAt : mwX5_tripleAt.all goodWord = true := by decide +kernel
set_option maxRecDepth 20000 in
theorem mg_X9_need_X9_refuse_80 : GoodIn mwX9_need (wsV RX9 80 RX9 yX9_refuse mwX9_refuse) := gi_app (A := [.methodLink RX9 80 yX9_refuse, .instanceMethod yX9_refuse, .selects RX9 yX9_refuse yX9_refuse, .initialized RX9]) (goodIn_r _ [1, 2, 3, 4] (by decide +kernel) (by decide +kernel)) (gi_sub gd_mwX9_refuse (fun w h => List.mem_cons_of_mem _ (List.mem_append_right _ (List.mem_append_right _ (List.mem_append_left _ h)))))
set_option maxRecDepth 20000 in
theorem mg_X9_need_X0_patternAt_140 : GoodIn mwX9_need (wsV RX9 140 RX0 yX0_patternAt mwX0_patternAt2) := gi_app (A := [.methodLink RX9 140 yX0_patternAt, .instanceMethod yX0_patternAt, .selects RX0 yX0_patternAt yX0_patternAt, .initialized RX0]) (goodIn_r _ [6, 7, 8, 9] (by decide +kernel) (by decide +kernel)) (gi_sub gd_mwX0_patternAt2 (fun w h => List.mem_cons_of_mem _ (List.mem_append_right _ (List.mem_append_right _ (List.mem_append_right _ (List.mem_append_left _ h))))))
set_option maxRecDepth 20000 in
theorem mg_X9_need_X5_choices_150 : GoodIn mwX9_need (wsV RX9 150 RX5 yX5_choices mwX5_choices) := gi_app (A := [.methodLink RX9 150 yX5_choices, .instanceMethod yX5_choices, .selects RX5 yX5_choices yX5_choices, .initialized RX5]) (goodIn_r _ [10, 11, 12, 13] (by decide +kernel) (by decide +kernel)) (gi_sub gd_mwX5_choices (fun w h => List.mem_cons_of_mem _ (List.mem_append_right _ (List.mem_append_right _ (List.mem_append_right _ (List.mem_append_right _ (List.mem_append_left _ h)))))))
set_option maxRecDepth 20000 in
theorem mg_X9_need_X5_sizeOf_183 : GoodIn mwX9_need (wsV RX9 183 RX5 yX5_sizeOf mwX5_sizeOf) := gi_app (A := [.methodLink RX9 183 yX5_sizeOf, .instanceMethod yX5_sizeOf, .selects RX5 yX5_sizeOf yX5_sizeOf, .initialized RX5]) (goodIn_r _ [14, 15, 16, 13] (by decide +kernel) (by decide +kernel)) (gi_sub gd_mwX5_sizeOf (fun w h => List.mem_cons_of_mem _ (List.mem_append_right _ (List.mem_append_right _ (List.mem_append_right _ (List.mem_append_right _ (List.mem_append_right _ (List.mem_append_left _ h))))))))
set_option maxRecDepth 20000 in
theorem mg_X9_need_X5_tripleAt_186 : GoodIn mwX9_need (wsV RX9 186 RX5 yX5_tripleAt mwX5_tripleAt) := gi_app (A := [.methodLink RX9 186 yX5_tripleAt, .instanceMethod yX5_tripleAt, .selects RX5 yX5_tripleAt yX5_tripleAt, .initialized RX5]) (goodIn_r _ [17, 18, 19, 13] (by decide +kernel) (by decide +kernel)) (gi_sub gd_mwX5_tripleAt (fun w h => List.mem_cons_of_mem _ (List.mem_append_right _ (List.mem_append_right _ (List.mem_append_right _ (List.mem_append_right _ (List.mem_append_right _ (List.mem_append_right _ (List.mem_append_left _ h)))))))))
set_option maxRecDepth 20000 in
theorem mg_X9_need_X9_answer_100 : GoodIn mwX9_need (wsV RX9 100 RX9 yX9_answer mwX9_answer) := gi_app (A := [.methodLink RX9 100 yX9_answer, .instanceMethod yX9_answer, .selects RX9 yX9_answer yX9_answer, .initialized RX9]) (goodIn_r _ [20, 21, 22, 4] (by decide +kernel) (by decide +kernel)) (gi_sub gd_mwX9_answer (fun w h => List.mem_cons_of_mem _ (List.mem_append_right _ (List.mem_append_right _ (List.mem_append_right _ (List.mem_append_right _ (List.mem_append_right _ (List.mem_append_right _ (List.mem_append_right _ (h))))))))))
set_option maxHeartbeats 4000000 in
set_option maxRecDepth 100000 in
/-- gate: need -/
theorem s_g_need (l : Launch) (dC : Nat → ClassId) (dI : Nat → Nat → Nat) (W9 : va_W) (T9 : List (ClassId × FieldType)) (B9 : Nat → Prop) (gt tp bk mb mu rd cm wk pp so ty : Nat) (st9 td fk fpl un mk : Int32) (sz : Nat) (i1 i2 i3 : Int32) (hB9 : gB W9 T9 B9) (hbk : B9 bk) : Met l yX9_need mwX9_need ({ frames := 1, cells := 0, slots := 0, locals := 60 }) (va_Pc [.ref gt, .int i1, .int i2, .int i3] (fun U => U.heap.size = sz ∧ va_P (dC, dI) vwCl ([(gt, .inr (9, [.int st9, .ref tp, .int td, .int fk, .int fpl, .ref bk, .int un, .ref mb, .ref mu, .int mk, .ref rd, .ref cm, .ref wk, .ref pp, .ref so, .ref ty]))]) U.heap ∧ va_K (dC, dI) vwCl ([]) U ∧ va_D (fun _ => True) ([(gt, .inr (9, [.int st9, .ref tp, .int td, .int fk, .int fpl, .ref bk, .int un, .ref mb, .ref mu, .int mk, .ref rd, .ref cm, .ref wk, .ref pp, .ref so, .ref ty]))]) ∧ va_P (dC, dI) vwCl W9 U.heap ∧ va_K (dC, dI) vwCl T9 U ∧ (∀ q ∈ W9, ¬ va_A ([(gt, .inr (9, [.int st9, .ref tp, .int td, .int fk, .int fpl, .ref bk, .int un, .ref mb, .ref mu, .int mk, .ref rd, .ref cm, .ref wk, .ref pp, .ref so, .ref ty]))]) sz q.1))) (va_Qi (fun (_ : Int32) (_ : Unit) => True) (fun _ t => ∃ (y0 : Int32), va_P (dC, dI) vwCl [(gt, .inr (9, [.int y0, .ref tp, .int td, .int fk, .int fpl, .ref bk, .int un, .ref mb, .ref mu, .int mk, .ref rd, .ref cm, .ref wk, .ref pp, .ref so, .ref ty]))] t.heap ∧ va_K (dC, dI) vwCl [] t ∧ va_D (va_A ([(gt, .inr (9, [.int st9, .ref tp, .int td, .int fk, .int fpl, .ref bk, .int un, .ref mb, .ref mu, .int mk, .ref rd, .ref cm, .ref wk, .ref pp, .ref so, .ref ty]))]) sz) [(gt, .inr (9, [.int y0, .ref tp, .int td, .int fk, .int fpl, .ref bk, .int un, .ref mb, .ref mu, .int mk, .ref rd, .ref cm, .ref wk, .ref pp, .ref so, .ref ty]))]) (va_A ([(gt, .inr (9, [.int st9, .ref tp, .int td, .int fk, .int fpl, .ref bk, .int un, .ref mb, .ref mu, .int mk, .ref rd, .ref cm, .ref wk, .ref pp, .ref so, .ref ty]))]) sz)) 0 0 (va_A ([(gt, .inr (9, [.int st9, .ref tp, .int td, .int fk, .int fpl, .ref bk, .int un, .ref mb, .ref mu, .int mk, .ref rd, .ref cm, .ref wk, .ref pp, .ref so, .ref ty]))]) sz) := by
  refine Met.ofW (cc := cX9_need) (maxL := 5) (ret := (some .int)) (by decide +kernel) rfl ?_
  intro p e s m args below meth c s₁ B hml hv
  obtain ⟨rfl, hsz, hP, hK, hD0, hQ0, hKQ, hQA⟩ := hv
  have hx := B.exec
  have hb := B.bytes
  have hr := B.returns
  have hts := atoms_spec (ws := mwX9_need) B.pre
  have hown : s.vm.findClass RX9 = some m.cls := findClass_of_methodNamed B.named
  have hlocks := B.notSynchronized
  subst hsz
  have hD := hD0.self (sz := s.heap.size)
  generalize hAe : va_A ([(gt, .inr (9, [.int st9, .ref tp, .int td, .int fk, .int fpl, .ref bk, .int un, .ref mb, .ref mu, .int mk, .ref rd, .ref cm, .ref wk, .ref pp, .ref so, .ref ty]))]) s.heap.size = A at hD hQA ⊢
  have hA : ∀ q : Nat, s.heap.size ≤ q → A q := fun q h => by rw [← hAe]; exact Or.inr h
  have hP : va_P (dC, dI) vwCl [(gt, .inr (9, [.int st9, .ref tp, .int td, .int fk, .int fpl, .ref bk, .int un, .ref mb, .ref mu, .int mk, .ref rd, .ref cm, .ref wk, .ref pp, .ref so, .ref ty]))] s.heap := hP
  have hD : va_D A [(gt, .inr (9, [.int st9, .ref tp, .int td, .int fk, .int fpl, .ref bk, .int un, .ref mb, .ref mu, .int mk, .ref rd, .ref cm, .ref wk, .ref pp, .ref so, .ref ty]))] := hD
  have hK : va_K (dC, dI) vwCl [] s := hK
  generalize hH : s.heap = H at hP ⊢
  have hS : va_S A s.heap H [] := by rw [← hH]; exact va_S.rf
  have hQ := q_at hQ0 hQA hS
  have hl := lv_entry ([.ref gt, .int i1, .int i2, .int i3]) (n := 5) (Nat.le_of_ble_eq_true rfl)
  rw [lg_entry_eq]
  generalize (lg_sl ([.ref gt, .int i1, .int i2, .int i3]) ++ List.replicate (5 - (lg_sl ([.ref gt, .int i1, .int i2, .int i3])).length) Slot.unset).toArray = ls at hl ⊢
  have hl : lv_has ls 5 [(0, .ref gt), (1, .int i1), (2, .int i2), (3, .int i3)] := hl
  have rg_i1 := i_rng i1
  have rg_i2 := i_rng i2
  have rg_i3 := i_rng i3
  obtain ⟨ear, hB3, hear⟩ := hB9 bk hbk
  have hB0 := hB3.poB
  obtain ⟨ds, ps, nd, np, fd, fp, cD, cP, m1, m2, m3, m4, m5, hnd, hnp, hds, hps⟩ := id hB3
  obtain ⟨k_1, hk_1⟩ := List.getElem?_of_mem m1
  obtain ⟨k_2, hk_2⟩ := List.getElem?_of_mem m2
  obtain ⟨j_3, hj_3⟩ := List.getElem?_of_mem m3
  obtain ⟨k_4, hk_4⟩ := List.getElem?_of_mem m4
  obtain ⟨j_5, hj_5⟩ := List.getElem?_of_mem m5
  have r_un := i_rng un
  have r_mk := i_rng mk
  have r_td := i_rng td
  refine lv_iload_n hx hb dX9_need_0 rfl (lv_at hl 2 rfl) ?_
  refine lv_if_lt (tgt := 8) hx hb dX9_need_1 (by decide) (fun k_6 => ?_) (fun k_6 => ?_)
  · have tk_6 := c_lt (a := i2.toInt) (b := 0) rfl (by decide) k_6
    refine lv_aload_n hx hb dX9_need_8 rfl (lv_at hl 0 rfl) ?_
    refine lv_iconst (v := 1) hx hb dX9_need_9 (by decide) ?_
    have hPc := hP.sub (ws' := [(gt, .inr (9, [.int st9, .ref tp, .int td, .int fk, .int fpl, .ref bk, .int un, .ref mb, .ref mu, .int mk, .ref rd, .ref cm, .ref wk, .ref pp, .ref so, .ref ty]))]) [0] rfl
    have hKc := hK.sub (tys' := []) [] rfl
    have hDc := hD.sub (ws' := [(gt, .inr (9, [.int st9, .ref tp, .int td, .int fk, .int fpl, .ref bk, .int un, .ref mb, .ref mu, .int mk, .ref rd, .ref cm, .ref wk, .ref pp, .ref so, .ref ty]))]) [0] (by decide) rfl
    have hFc := va_free (wc := [(gt, .inr (9, [.int st9, .ref tp, .int td, .int fk, .int fpl, .ref bk, .int un, .ref mb, .ref mu, .int mk, .ref rd, .ref cm, .ref wk, .ref pp, .ref so, .ref ty]))]) hD hS hA [0] rfl
    refine va_calli (va_runV (As := [.int 1]) (rest := []) ⟨hx, hb, hml, hown, hts⟩ (s_refuse l dC dI gt tp bk mb mu rd cm wk pp so ty st9 td fk fpl un mk H.size 1) (cwV 1 hts mg_X9_need_X9_refuse_80 rfl rfl rfl (by decide +kernel) ⟨Nat.le_of_ble_eq_true rfl, Nat.le_of_ble_eq_true rfl⟩) ⟨fun a U g mk q => by obtain ⟨q0, q1, qP, qK, qD⟩ := q; exact ⟨q0, q1, qP, va_K.moved (u := U) (U := U.calling g mk a) (Vm.Alike.refl U.vm) qK, qD⟩, va_recv hKc hPc (ci := 9) (q0 := 0) rfl rfl, fun U hU hW => ⟨rfl, by rw [hU], by rw [hU]; exact hPc, va_K.moved hW.alike hKc, hDc.weaken (fun _ _ _ _ => trivial)⟩⟩ rfl rfl hl.1 rfl (lv_room (Nat.le_of_ble_eq_true rfl)) dX9_need_10 ⟨Nat.le_of_ble_eq_true rfl, Nat.le_of_ble_eq_true rfl⟩) hS (fun q _ h => hFc q h) hFc (fun r_8 u t H1 locs ht hvm hw hB hz1 hk1 hS => ?_)
    obtain ⟨hP1, hK1, hD1⟩ := hB
    rw [ht] at hP1
    have hr_8 := hw
    obtain ⟨hP, hD⟩ := va_join (wr := []) (w1 := [(gt, .inr (9, [.int 1, .ref tp, .int td, .int fk, .int fpl, .ref bk, .int un, .ref mb, .ref mu, .int mk, .ref rd, .ref cm, .ref wk, .ref pp, .ref so, .ref ty]))]) hP hD [0] [] rfl rfl (by decide) (by decide) hk1 hFc hP1 hD1
    generalize H1 = H at hP hS ⊢
    have hP : va_P (dC, dI) vwCl [(gt, .inr (9, [.int 1, .ref tp, .int td, .int fk, .int fpl, .ref bk, .int un, .ref mb, .ref mu, .int mk, .ref rd, .ref cm, .ref wk, .ref pp, .ref so, .ref ty]))] H := hP
    have hD : va_D A [(gt, .inr (9, [.int 1, .ref tp, .int td, .int fk, .int fpl, .ref bk, .int un, .ref mb, .ref mu, .int mk, .ref rd, .ref cm, .ref wk, .ref pp, .ref so, .ref ty]))] := hD
    have hQ := q_at hQ0 hQA hS
    have hP9 := hP.sub (ws' := [(gt, .inr (9, [.int 1, .ref tp, .int td, .int fk, .int fpl, .ref bk, .int un, .ref mb, .ref mu, .int mk, .ref rd, .ref cm, .ref wk, .ref pp, .ref so, .ref ty]))]) [0] rfl
    have hD9 := hD.sub (ws' := [(gt, .inr (9, [.int 1, .ref tp, .int td, .int fk, .int fpl, .ref bk, .int un, .ref mb, .ref mu, .int mk, .ref rd, .ref cm, .ref wk, .ref pp, .ref so, .ref ty]))]) [0] (by decide) rfl
    have hK9 := hK.sub (tys' := []) [] rfl
    exact W.iret hx hb hr (fun t ht hW => ⟨⟨_, (), rfl, trivial, 1, by rw [ht]; exact hP9, va_K.moved hW.alike hK9, hD9⟩, hS.F ht⟩) hS.2.2 dX9_need_13
  · have tk_6 := c_nlt (a := i2.toInt) (b := 0) rfl (by decide) k_6
    refine lv_iload_n hx hb dX9_need_4 rfl (lv_at hl 3 rfl) ?_
    refine lv_if_ge (tgt := 14) hx hb dX9_need_5 (by decide) (fun k_9 => ?_) (fun k_9 => ?_)
    · have tk_9 := c_ge (a := i3.toInt) (b := 0) rfl (by decide) k_9
      refine lv_aload_n hx hb dX9_need_14 rfl (lv_at hl 0 rfl) ?_
      refine va_get (D := (dC, dI)) (ci := 9) (v := .ref bk) (C := RX9) (T := TX9) (N := 16) hx hb hts fin_X9_need_X9 hown hK hP 0 rfl rfl 5 (by decide) (hts (.fieldLink RX9 29 "PatternGate" "book" "LPatternGate$Book;") (List.mem_of_getElem? (i := 5) (by decide +kernel))) (fun _ h9 => h9) rfl dX9_need_15 ?_
      refine lv_iload_n hx hb dX9_need_18 rfl (lv_at hl 1 rfl) ?_
      have hPc := hQ
      have hKc := hKQ
      refine va_csq (W.runV (As := [.int i1]) (rest := []) ⟨hx, hb, hml, hown, hts⟩ (s_patternAt2 l dC dI W9 T9 bk ear i1 hB3) (cwV 1 hts mg_X9_need_X0_patternAt_140 rfl rfl rfl (by decide +kernel) ⟨Nat.le_of_ble_eq_true rfl, Nat.le_of_ble_eq_true rfl⟩) ⟨fun a U g mk q => by obtain ⟨q0, qP, qK⟩ := q; exact ⟨q0, qP, va_K.moved (u := U) (U := U.calling g mk a) (Vm.Alike.refl U.vm) qK⟩, va_recv hKc hPc (ci := 0) (q0 := k_1) rfl hk_1, fun U hU hW => ⟨rfl, by rw [hU]; exact hPc, va_K.moved hW.alike hKc⟩⟩ rfl rfl hl.1 rfl (lv_room (Nat.le_of_ble_eq_true rfl)) dX9_need_19 ⟨Nat.le_of_ble_eq_true rfl, Nat.le_of_ble_eq_true rfl⟩) (fun r_11 hw => ?_)
      rcases hw with rfl | ⟨d_12, rfl, hd_12⟩
      · refine W.eq (g2 := F0 m 22 ls [.null]) rfl ?_
        refine lv_astoreN (lv' := [(4, .null), (0, .ref gt), (1, .int i1), (2, .int i2), (3, .int i3)]) hx hb dX9_need_22 hl (by decide) rfl (fun ls hl => ?_)
        refine lv_aloadN hx hb dX9_need_24 (lv_at hl 0 rfl) ?_
        refine lv_ifnonnullN hx hb dX9_need_26 ?_
        refine lv_aload_n hx hb dX9_need_29 rfl (lv_at hl 1 rfl) ?_
        refine lv_iconst (v := 2) hx hb dX9_need_30 (by decide) ?_
        have hPc := hP.sub (ws' := [(gt, .inr (9, [.int st9, .ref tp, .int td, .int fk, .int fpl, .ref bk, .int un, .ref mb, .ref mu, .int mk, .ref rd, .ref cm, .ref wk, .ref pp, .ref so, .ref ty]))]) [0] rfl
        have hKc := hK.sub (tys' := []) [] rfl
        have hDc := hD.sub (ws' := [(gt, .inr (9, [.int st9, .ref tp, .int td, .int fk, .int fpl, .ref bk, .int un, .ref mb, .ref mu, .int mk, .ref rd, .ref cm, .ref wk, .ref pp, .ref so, .ref ty]))]) [0] (by decide) rfl
        have hFc := va_free (wc := [(gt, .inr (9, [.int st9, .ref tp, .int td, .int fk, .int fpl, .ref bk, .int un, .ref mb, .ref mu, .int mk, .ref rd, .ref cm, .ref wk, .ref pp, .ref so, .ref ty]))]) hD hS hA [0] rfl
        refine va_calli (va_runV (As := [.int 2]) (rest := []) ⟨hx, hb, hml, hown, hts⟩ (s_refuse l dC dI gt tp bk mb mu rd cm wk pp so ty st9 td fk fpl un mk H.size 2) (cwV 1 hts mg_X9_need_X9_refuse_80 rfl rfl rfl (by decide +kernel) ⟨Nat.le_of_ble_eq_true rfl, Nat.le_of_ble_eq_true rfl⟩) ⟨fun a U g mk q => by obtain ⟨q0, q1, qP, qK, qD⟩ := q; exact ⟨q0, q1, qP, va_K.moved (u := U) (U := U.calling g mk a) (Vm.Alike.refl U.vm) qK, qD⟩, va_recv hKc hPc (ci := 9) (q0 := 0) rfl rfl, fun U hU hW => ⟨rfl, by rw [hU], by rw [hU]; exact hPc, va_K.moved hW.alike hKc, hDc.weaken (fun _ _ _ _ => trivial)⟩⟩ rfl rfl hl.1 rfl (lv_room (Nat.le_of_ble_eq_true rfl)) dX9_need_31 ⟨Nat.le_of_ble_eq_true rfl, Nat.le_of_ble_eq_true rfl⟩) hS (fun q _ h => hFc q h) hFc (fun r_14 u t H1 locs ht hvm hw hB hz1 hk1 hS => ?_)
        obtain ⟨hP1, hK1, hD1⟩ := hB
        rw [ht] at hP1
        have hr_14 := hw
        obtain ⟨hP, hD⟩ := va_join (wr := []) (w1 := [(gt, .inr (9, [.int 2, .ref tp, .int td, .int fk, .int fpl, .ref bk, .int un, .ref mb, .ref mu, .int mk, .ref rd, .ref cm, .ref wk, .ref pp, .ref so, .ref ty]))]) hP hD [0] [] rfl rfl (by decide) (by decide) hk1 hFc hP1 hD1
        generalize H1 = H at hP hS ⊢
        have hP : va_P (dC, dI) vwCl [(gt, .inr (9, [.int 2, .ref tp, .int td, .int fk, .int fpl, .ref bk, .int un, .ref mb, .ref mu, .int mk, .ref rd, .ref cm, .ref wk, .ref pp, .ref so, .ref ty]))] H := hP
        have hD : va_D A [(gt, .inr (9, [.int 2, .ref tp, .int td, .int fk, .int fpl, .ref bk, .int un, .ref mb, .ref mu, .int mk, .ref rd, .ref cm, .ref wk, .ref pp, .ref so, .ref ty]))] := hD
        have hQ := q_at hQ0 hQA hS
        have hP9 := hP.sub (ws' := [(gt, .inr (9, [.int 2, .ref tp, .int td, .int fk, .int fpl, .ref bk, .int un, .ref mb, .ref mu, .int mk, .ref rd, .ref cm, .ref wk, .ref pp, .ref so, .ref ty]))]) [0] rfl
        have hD9 := hD.sub (ws' := [(gt, .inr (9, [.int 2, .ref tp, .int td, .int fk, .int fpl, .ref bk, .int un, .ref mb, .ref mu, .int mk, .ref rd, .ref cm, .ref wk, .ref pp, .ref so, .ref ty]))]) [0] (by decide) rfl
        have hK9 := hK.sub (tys' := []) [] rfl
        exact W.iret hx hb hr (fun t ht hW => ⟨⟨_, (), rfl, trivial, 2, by rw [ht]; exact hP9, va_K.moved hW.alike hK9, hD9⟩, hS.F ht⟩) hS.2.2 dX9_need_34
      · refine W.eq (g2 := F0 m 22 ls [.ref d_12]) rfl ?_
        have hd_12P := hd_12.poP
        have hd_12Q := hd_12
        obtain ⟨q_15, a_16, a_17, a_18, a_19, a_20, a_21, n_22, n_23, n_24, n_25, n_26, n_27, n_28, f_29, f_30, f_31, f_32, f_33, f_34, f_35, c_36, c_37, c_38, c_39, c_40, c_41, c_42, m_43, ⟨m_44, m_45⟩, ⟨m_46, m_47⟩, ⟨m_48, m_49⟩, ⟨m_50, m_51⟩, ⟨m_52, m_53⟩, ⟨m_54, m_55⟩, ⟨m_56, m_57, h_68⟩, h_58, h_59, h_60, h_61, h_62, h_63, h_64, h_65, h_66, h_67⟩ := hd_12
        obtain ⟨k_69, hk_69⟩ := List.getElem?_of_mem m_43
        obtain ⟨k_70, hk_70⟩ := List.getElem?_of_mem m_44
        obtain ⟨j_71, hj_71⟩ := List.getElem?_of_mem m_45
        obtain ⟨k_72, hk_72⟩ := List.getElem?_of_mem m_46
        obtain ⟨j_73, hj_73⟩ := List.getElem?_of_mem m_47
        obtain ⟨k_74, hk_74⟩ := List.getElem?_of_mem m_48
        obtain ⟨j_75, hj_75⟩ := List.getElem?_of_mem m_49
        obtain ⟨k_76, hk_76⟩ := List.getElem?_of_mem m_50
        obtain ⟨j_77, hj_77⟩ := List.getElem?_of_mem m_51
        obtain ⟨k_78, hk_78⟩ := List.getElem?_of_mem m_52
        obtain ⟨j_79, hj_79⟩ := List.getElem?_of_mem m_53
        obtain ⟨k_80, hk_80⟩ := List.getElem?_of_mem m_54
        obtain ⟨j_81, hj_81⟩ := List.getElem?_of_mem m_55
        obtain ⟨k_82, hk_82⟩ := List.getElem?_of_mem m_56
        obtain ⟨j_83, hj_83⟩ := List.getElem?_of_mem m_57
        refine lv_astore (lv' := [(4, .ref d_12), (0, .ref gt), (1, .int i1), (2, .int i2), (3, .int i3)]) hx hb dX9_need_22 hl (by decide) rfl (fun ls hl => ?_)
        refine lv_aload hx hb dX9_need_24 (lv_at hl 0 rfl) ?_
        refine lv_ifnonnull (tgt := 35) hx hb dX9_need_26 (by decide) ?_
        refine lv_iload_n hx hb dX9_need_35 rfl (lv_at hl 3 rfl) ?_
        refine lv_aload hx hb dX9_need_36 (lv_at hl 0 rfl) ?_
        have hPc : va_P (dC, dI) vwCl [(d_12, .inr (5, pF q_15 a_16 a_17 a_18 a_19 a_20 a_21)), (q_15 5, .inl (c_40, n_26, .inl f_33))] H := p_sub hQ (List.forall_mem_cons.mpr ⟨m_43, List.forall_mem_cons.mpr ⟨m_52, fun _ h => absurd h List.not_mem_nil⟩⟩)
        have hKc : va_K (dC, dI) vwCl [(c_40, .int)] s := k_sub hKQ (List.forall_mem_cons.mpr ⟨m_53, fun _ h => absurd h List.not_mem_nil⟩)
        refine vp_callSi (W.runV (As := []) (rest := [.int i2]) ⟨hx, hb, hml, hown, hts⟩ (s_choices l dC dI d_12 q_15 a_16 a_17 a_18 a_19 a_20 a_21 n_26 f_33 c_40 (by omega)) (cwV 0 hts mg_X9_need_X5_choices_150 rfl rfl rfl (by decide +kernel) ⟨Nat.le_of_ble_eq_true rfl, Nat.le_of_ble_eq_true rfl⟩) ⟨fun a U g mk q => by obtain ⟨q0, qP, qK⟩ := q; exact ⟨q0, qP, va_K.moved (u := U) (U := U.calling g mk a) (Vm.Alike.refl U.vm) qK⟩, va_recv hKc hPc (ci := 5) (q0 := 0) rfl rfl, fun U hU hW => ⟨rfl, by rw [hU]; exact hPc, va_K.moved hW.alike hKc⟩⟩ rfl rfl hl.1 rfl (lv_room (Nat.le_of_ble_eq_true rfl)) dX9_need_38 ⟨Nat.le_of_ble_eq_true rfl, Nat.le_of_ble_eq_true rfl⟩) (fun r_85 hw => ?_)
        refine lv_icmp_ge (tgt := 54) hx hb dX9_need_41 (by decide) (fun k_86 => ?_) (fun k_86 => ?_)
        · have tk_86 := c_ge (a := i2.toInt) (b := r_85.toInt) rfl rfl k_86
          refine lv_aload_n hx hb dX9_need_54 rfl (lv_at hl 1 rfl) ?_
          refine lv_iconst (v := 5) hx hb dX9_need_55 (by decide) ?_
          have hPc := hP.sub (ws' := [(gt, .inr (9, [.int st9, .ref tp, .int td, .int fk, .int fpl, .ref bk, .int un, .ref mb, .ref mu, .int mk, .ref rd, .ref cm, .ref wk, .ref pp, .ref so, .ref ty]))]) [0] rfl
          have hKc := hK.sub (tys' := []) [] rfl
          have hDc := hD.sub (ws' := [(gt, .inr (9, [.int st9, .ref tp, .int td, .int fk, .int fpl, .ref bk, .int un, .ref mb, .ref mu, .int mk, .ref rd, .ref cm, .ref wk, .ref pp, .ref so, .ref ty]))]) [0] (by decide) rfl
          have hFc := va_free (wc := [(gt, .inr (9, [.int st9, .ref tp, .int td, .int fk, .int fpl, .ref bk, .int un, .ref mb, .ref mu, .int mk, .ref rd, .ref cm, .ref wk, .ref pp, .ref so, .ref ty]))]) hD hS hA [0] rfl
          refine va_calli (va_runV (As := [.int 5]) (rest := []) ⟨hx, hb, hml, hown, hts⟩ (s_refuse l dC dI gt tp bk mb mu rd cm wk pp so ty st9 td fk fpl un mk H.size 5) (cwV 1 hts mg_X9_need_X9_refuse_80 rfl rfl rfl (by decide +kernel) ⟨Nat.le_of_ble_eq_true rfl, Nat.le_of_ble_eq_true rfl⟩) ⟨fun a U g mk q => by obtain ⟨q0, q1, qP, qK, qD⟩ := q; exact ⟨q0, q1, qP, va_K.moved (u := U) (U := U.calling g mk a) (Vm.Alike.refl U.vm) qK, qD⟩, va_recv hKc hPc (ci := 9) (q0 := 0) rfl rfl, fun U hU hW => ⟨rfl, by rw [hU], by rw [hU]; exact hPc, va_K.moved hW.alike hKc, hDc.weaken (fun _ _ _ _ => trivial)⟩⟩ rfl rfl hl.1 rfl (lv_room (Nat.le_of_ble_eq_true rfl)) dX9_need_56 ⟨Nat.le_of_ble_eq_true rfl, Nat.le_of_ble_eq_true rfl⟩) hS (fun q _ h => hFc q h) hFc (fun r_88 u t H1 locs ht hvm hw hB hz1 hk1 hS => ?_)
          obtain ⟨hP1, hK1, hD1⟩ := hB
          rw [ht] at hP1
          have hr_88 := hw
          obtain ⟨hP, hD⟩ := va_join (wr := []) (w1 := [(gt, .inr (9, [.int 5, .ref tp, .int td, .int fk, .int fpl, .ref bk, .int un, .ref mb, .ref mu, .int mk, .ref rd, .ref cm, .ref wk, .ref pp, .ref so, .ref ty]))]) hP hD [0] [] rfl rfl (by decide) (by decide) hk1 hFc hP1 hD1
          generalize H1 = H at hP hS ⊢
          have hP : va_P (dC, dI) vwCl [(gt, .inr (9, [.int 5, .ref tp, .int td, .int fk, .int fpl, .ref bk, .int un, .ref mb, .ref mu, .int mk, .ref rd, .ref cm, .ref wk, .ref pp, .ref so, .ref ty]))] H := hP
          have hD : va_D A [(gt, .inr (9, [.int 5, .ref tp, .int td, .int fk, .int fpl, .ref bk, .int un, .ref mb, .ref mu, .int mk, .ref rd, .ref cm, .ref wk, .ref pp, .ref so, .ref ty]))] := hD
          have hQ := q_at hQ0 hQA hS
          have hP9 := hP.sub (ws' := [(gt, .inr (9, [.int 5, .ref tp, .int td, .int fk, .int fpl, .ref bk, .int un, .ref mb, .ref mu, .int mk, .ref rd, .ref cm, .ref wk, .ref pp, .ref so, .ref ty]))]) [0] rfl
          have hD9 := hD.sub (ws' := [(gt, .inr (9, [.int 5, .ref tp, .int td, .int fk, .int fpl, .ref bk, .int un, .ref mb, .ref mu, .int mk, .ref rd, .ref cm, .ref wk, .ref pp, .ref so, .ref ty]))]) [0] (by decide) rfl
          have hK9 := hK.sub (tys' := []) [] rfl
          exact W.iret hx hb hr (fun t ht hW => ⟨⟨_, (), rfl, trivial, 5, by rw [ht]; exact hP9, va_K.moved hW.alike hK9, hD9⟩, hS.F ht⟩) hS.2.2 dX9_need_59
        · have tk_86 := c_nge (a := i2.toInt) (b := r_85.toInt) rfl rfl k_86
          refine lv_iload_n hx hb dX9_need_44 rfl (lv_at hl 4 rfl) ?_
          refine lv_aload hx hb dX9_need_45 (lv_at hl 0 rfl) ?_
          refine lv_iload_n hx hb dX9_need_47 rfl (lv_at hl 3 rfl) ?_
          have hPc : va_P (dC, dI) vwCl [(d_12, .inr (5, pF q_15 a_16 a_17 a_18 a_19 a_20 a_21)), (q_15 5, .inl (c_40, n_26, .inl f_33))] H := p_sub hQ (List.forall_mem_cons.mpr ⟨m_43, List.forall_mem_cons.mpr ⟨m_52, fun _ h => absurd h List.not_mem_nil⟩⟩)
          have hKc : va_K (dC, dI) vwCl [(c_40, .int)] s := k_sub hKQ (List.forall_mem_cons.mpr ⟨m_53, fun _ h => absurd h List.not_mem_nil⟩)
          refine vp_callSi (W.runV (As := [.int i2]) (rest := [.int i3]) ⟨hx, hb, hml, hown, hts⟩ (s_sizeOf l dC dI d_12 q_15 a_16 a_17 a_18 a_19 a_20 a_21 n_26 f_33 c_40 i2 (by omega) (by omega)) (cwV 1 hts mg_X9_need_X5_sizeOf_183 rfl rfl rfl (by decide +kernel) ⟨Nat.le_of_ble_eq_true rfl, Nat.le_of_ble_eq_true rfl⟩) ⟨fun a U g mk q => by obtain ⟨q0, qP, qK⟩ := q; exact ⟨q0, qP, va_K.moved (u := U) (U := U.calling g mk a) (Vm.Alike.refl U.vm) qK⟩, va_recv hKc hPc (ci := 5) (q0 := 0) rfl rfl, fun U hU hW => ⟨rfl, by rw [hU]; exact hPc, va_K.moved hW.alike hKc⟩⟩ rfl rfl hl.1 rfl (lv_room (Nat.le_of_ble_eq_true rfl)) dX9_need_48 ⟨Nat.le_of_ble_eq_true rfl, Nat.le_of_ble_eq_true rfl⟩) (fun r_90 hw => ?_)
          refine lv_icmp_lt (tgt := 60) hx hb dX9_need_51 (by decide) (fun k_91 => ?_) (fun k_91 => ?_)
          · have tk_91 := c_lt (a := i3.toInt) (b := r_90.toInt) rfl rfl k_91
            refine lv_aload_n hx hb dX9_need_60 rfl (lv_at hl 1 rfl) ?_
            refine lv_aload hx hb dX9_need_61 (lv_at hl 0 rfl) ?_
            refine lv_iload_n hx hb dX9_need_63 rfl (lv_at hl 3 rfl) ?_
            refine lv_iload_n hx hb dX9_need_64 rfl (lv_at hl 4 rfl) ?_
            have hPc : va_P (dC, dI) vwCl [(d_12, .inr (5, pF q_15 a_16 a_17 a_18 a_19 a_20 a_21)), (q_15 5, .inl (c_40, n_26, .inl f_33)), (q_15 4, .inl (c_39, n_25, .inl f_32))] H := p_sub hQ (List.forall_mem_cons.mpr ⟨m_43, List.forall_mem_cons.mpr ⟨m_52, List.forall_mem_cons.mpr ⟨m_50, fun _ h => absurd h List.not_mem_nil⟩⟩⟩)
            have hKc : va_K (dC, dI) vwCl [(c_40, .int), (c_39, .int)] s := k_sub hKQ (List.forall_mem_cons.mpr ⟨m_53, List.forall_mem_cons.mpr ⟨m_51, fun _ h => absurd h List.not_mem_nil⟩⟩)
            refine vp_callSi (W.runV (As := [.int i2, .int i3]) (rest := [.ref gt]) ⟨hx, hb, hml, hown, hts⟩ (s_tripleAt l dC dI d_12 q_15 a_16 a_17 a_18 a_19 a_20 a_21 n_26 f_33 c_40 n_25 f_32 c_39 i2 i3 (by omega) (by omega)) (cwV 2 hts mg_X9_need_X5_tripleAt_186 rfl rfl rfl (by decide +kernel) ⟨Nat.le_of_ble_eq_true rfl, Nat.le_of_ble_eq_true rfl⟩) ⟨fun a U g mk q => by obtain ⟨q0, qP, qK⟩ := q; exact ⟨q0, qP, va_K.moved (u := U) (U := U.calling g mk a) (Vm.Alike.refl U.vm) qK⟩, va_recv hKc hPc (ci := 5) (q0 := 0) rfl rfl, fun U hU hW => ⟨rfl, by rw [hU]; exact hPc, va_K.moved hW.alike hKc⟩⟩ rfl rfl hl.1 rfl (lv_room (Nat.le_of_ble_eq_true rfl)) dX9_need_65 ⟨Nat.le_of_ble_eq_true rfl, Nat.le_of_ble_eq_true rfl⟩) (fun r_93 hw => ?_)
            have hPc := hP.sub (ws' := [(gt, .inr (9, [.int st9, .ref tp, .int td, .int fk, .int fpl, .ref bk, .int un, .ref mb, .ref mu, .int mk, .ref rd, .ref cm, .ref wk, .ref pp, .ref so, .ref ty]))]) [0] rfl
            have hKc := hK.sub (tys' := []) [] rfl
            have hDc := hD.sub (ws' := [(gt, .inr (9, [.int st9, .ref tp, .int td, .int fk, .int fpl, .ref bk, .int un, .ref mb, .ref mu, .int mk, .ref rd, .ref cm, .ref wk, .ref pp, .ref so, .ref ty]))]) [0] (by decide) rfl
            have hFc := va_free (wc := [(gt, .inr (9, [.int st9, .ref tp, .int td, .int fk, .int fpl, .ref bk, .int un, .ref mb, .ref mu, .int mk, .ref rd, .ref cm, .ref wk, .ref pp, .ref so, .ref ty]))]) hD hS hA [0] rfl
            refine va_calli (va_runV (As := [.int r_93]) (rest := []) ⟨hx, hb, hml, hown, hts⟩ (s_answer l dC dI gt tp bk mb mu rd cm wk pp so ty st9 td fk fpl un mk H.size r_93) (cwV 1 hts mg_X9_need_X9_answer_100 rfl rfl rfl (by decide +kernel) ⟨Nat.le_of_ble_eq_true rfl, Nat.le_of_ble_eq_true rfl⟩) ⟨fun a U g mk q => by obtain ⟨q0, q1, qP, qK, qD⟩ := q; exact ⟨q0, q1, qP, va_K.moved (u := U) (U := U.calling g mk a) (Vm.Alike.refl U.vm) qK, qD⟩, va_recv hKc hPc (ci := 9) (q0 := 0) rfl rfl, fun U hU hW => ⟨rfl, by rw [hU], by rw [hU]; exact hPc, va_K.moved hW.alike hKc, hDc.weaken (fun _ _ _ _ => trivial)⟩⟩ rfl rfl hl.1 rfl (lv_room (Nat.le_of_ble_eq_true rfl)) dX9_need_68 ⟨Nat.le_of_ble_eq_true rfl, Nat.le_of_ble_eq_true rfl⟩) hS (fun q _ h => hFc q h) hFc (fun r_95 u t H1 locs ht hvm hw hB hz1 hk1 hS => ?_)
            obtain ⟨hP1, hK1, hD1⟩ := hB
            rw [ht] at hP1
            have hr_95 := hw
            obtain ⟨hP, hD⟩ := va_join (wr := []) (w1 := [(gt, .inr (9, [.int 0, .ref tp, .int td, .int fk, .int fpl, .ref bk, .int un, .ref mb, .ref mu, .int mk, .ref rd, .ref cm, .ref wk, .ref pp, .ref so, .ref ty]))]) hP hD [0] [] rfl rfl (by decide) (by decide) hk1 hFc hP1 hD1
            generalize H1 = H at hP hS ⊢
            have hP : va_P (dC, dI) vwCl [(gt, .inr (9, [.int 0, .ref tp, .int td, .int fk, .int fpl, .ref bk, .int un, .ref mb, .ref mu, .int mk, .ref rd, .ref cm, .ref wk, .ref pp, .ref so, .ref ty]))] H := hP
            have hD : va_D A [(gt, .inr (9, [.int 0, .ref tp, .int td, .int fk, .int fpl, .ref bk, .int un, .ref mb, .ref mu, .int mk, .ref rd, .ref cm, .ref wk, .ref pp, .ref so, .ref ty]))] := hD
            have hQ := q_at hQ0 hQA hS
            have hP9 := hP.sub (ws' := [(gt, .inr (9, [.int 0, .ref tp, .int td, .int fk, .int fpl, .ref bk, .int un, .ref mb, .ref mu, .int mk, .ref rd, .ref cm, .ref wk, .ref pp, .ref so, .ref ty]))]) [0] rfl
            have hD9 := hD.sub (ws' := [(gt, .inr (9, [.int 0, .ref tp, .int td, .int fk, .int fpl, .ref bk, .int un, .ref mb, .ref mu, .int mk, .ref rd, .ref cm, .ref wk, .ref pp, .ref so, .ref ty]))]) [0] (by decide) rfl
            have hK9 := hK.sub (tys' := []) [] rfl
            exact W.iret hx hb hr (fun t ht hW => ⟨⟨_, (), rfl, trivial, 0, by rw [ht]; exact hP9, va_K.moved hW.alike hK9, hD9⟩, hS.F ht⟩) hS.2.2 dX9_need_71
          · have tk_91 := c_nlt (a := i3.toInt) (b := r_90.toInt) rfl rfl k_91
            refine lv_aload_n hx hb dX9_need_54 rfl (lv_at hl 1 rfl) ?_
            refine lv_iconst (v := 5) hx hb dX9_need_55 (by decide) ?_
            have hPc := hP.sub (ws' := [(gt, .inr (9, [.int st9, .ref tp, .int td, .int fk, .int fpl, .ref bk, .int un, .ref mb, .ref mu, .int mk, .ref rd, .ref cm, .ref wk, .ref pp, .ref so, .ref ty]))]) [0] rfl
            have hKc := hK.sub (tys' := []) [] rfl
            have hDc := hD.sub (ws' := [(gt, .inr (9, [.int st9, .ref tp, .int td, .int fk, .int fpl, .ref bk, .int un, .ref mb, .ref mu, .int mk, .ref rd, .ref cm, .ref wk, .ref pp, .ref so, .ref ty]))]) [0] (by decide) rfl
            have hFc := va_free (wc := [(gt, .inr (9, [.int st9, .ref tp, .int td, .int fk, .int fpl, .ref bk, .int un, .ref mb, .ref mu, .int mk, .ref rd, .ref cm, .ref wk, .ref pp, .ref so, .ref ty]))]) hD hS hA [0] rfl
            refine va_calli (va_runV (As := [.int 5]) (rest := []) ⟨hx, hb, hml, hown, hts⟩ (s_refuse l dC dI gt tp bk mb mu rd cm wk pp so ty st9 td fk fpl un mk H.size 5) (cwV 1 hts mg_X9_need_X9_refuse_80 rfl rfl rfl (by decide +kernel) ⟨Nat.le_of_ble_eq_true rfl, Nat.le_of_ble_eq_true rfl⟩) ⟨fun a U g mk q => by obtain ⟨q0, q1, qP, qK, qD⟩ := q; exact ⟨q0, q1, qP, va_K.moved (u := U) (U := U.calling g mk a) (Vm.Alike.refl U.vm) qK, qD⟩, va_recv hKc hPc (ci := 9) (q0 := 0) rfl rfl, fun U hU hW => ⟨rfl, by rw [hU], by rw [hU]; exact hPc, va_K.moved hW.alike hKc, hDc.weaken (fun _ _ _ _ => trivial)⟩⟩ rfl rfl hl.1 rfl (lv_room (Nat.le_of_ble_eq_true rfl)) dX9_need_56 ⟨Nat.le_of_ble_eq_true rfl, Nat.le_of_ble_eq_true rfl⟩) hS (fun q _ h => hFc q h) hFc (fun r_97 u t H1 locs ht hvm hw hB hz1 hk1 hS => ?_)
            obtain ⟨hP1, hK1, hD1⟩ := hB
            rw [ht] at hP1
            have hr_97 := hw
            obtain ⟨hP, hD⟩ := va_join (wr := []) (w1 := [(gt, .inr (9, [.int 5, .ref tp, .int td, .int fk, .int fpl, .ref bk, .int un, .ref mb, .ref mu, .int mk, .ref rd, .ref cm, .ref wk, .ref pp, .ref so, .ref ty]))]) hP hD [0] [] rfl rfl (by decide) (by decide) hk1 hFc hP1 hD1
            generalize H1 = H at hP hS ⊢
            have hP : va_P (dC, dI) vwCl [(gt, .inr (9, [.int 5, .ref tp, .int td, .int fk, .int fpl, .ref bk, .int un, .ref mb, .ref mu, .int mk, .ref rd, .ref cm, .ref wk, .ref pp, .ref so, .ref ty]))] H := hP
            have hD : va_D A [(gt, .inr (9, [.int 5, .ref tp, .int td, .int fk, .int fpl, .ref bk, .int un, .ref mb, .ref mu, .int mk, .ref rd, .ref cm, .ref wk, .ref pp, .ref so, .ref ty]))] := hD
            have hQ := q_at hQ0 hQA hS
            have hP9 := hP.sub (ws' := [(gt, .inr (9, [.int 5, .ref tp, .int td, .int fk, .int fpl, .ref bk, .int un, .ref mb, .ref mu, .int mk, .ref rd, .ref cm, .ref wk, .ref pp, .ref so, .ref ty]))]) [0] rfl
            have hD9 := hD.sub (ws' := [(gt, .inr (9, [.int 5, .ref tp, .int td, .int fk, .int fpl, .ref bk, .int un, .ref mb, .ref mu, .int mk, .ref rd, .ref cm, .ref wk, .ref pp, .ref so, .ref ty]))]) [0] (by decide) rfl
            have hK9 := hK.sub (tys' := []) [] rfl
            exact W.iret hx hb hr (fun t ht hW => ⟨⟨_, (), rfl, trivial, 5, by rw [ht]; exact hP9, va_K.moved hW.alike hK9, hD9⟩, hS.F ht⟩) hS.2.2 dX9_need_59
    · have tk_9 := c_nge (a := i3.toInt) (b := 0) rfl (by decide) k_9
      refine lv_aload_n hx hb dX9_need_8 rfl (lv_at hl 0 rfl) ?_
      refine lv_iconst (v := 1) hx hb dX9_need_9 (by decide) ?_
      have hPc := hP.sub (ws' := [(gt, .inr (9, [.int st9, .ref tp, .int td, .int fk, .int fpl, .ref bk, .int un, .ref mb, .ref mu, .int mk, .ref rd, .ref cm, .ref wk, .ref pp, .ref so, .ref ty]))]) [0] rfl
      have hKc := hK.sub (tys' := []) [] rfl
      have hDc := hD.sub (ws' := [(gt, .inr (9, [.int st9, .ref tp, .int td, .int fk, .int fpl, .ref bk, .int un, .ref mb, .ref mu, .int mk, .ref rd, .ref cm, .ref wk, .ref pp, .ref so, .ref ty]))]) [0] (by decide) rfl
      have hFc := va_free (wc := [(gt, .inr (9, [.int st9, .ref tp, .int td, .int fk, .int fpl, .ref bk, .int un, .ref mb, .ref mu, .int mk, .ref rd, .ref cm, .ref wk, .ref pp, .ref so, .ref ty]))]) hD hS hA [0] rfl
      refine va_calli (va_runV (As := [.int 1]) (rest := []) ⟨hx, hb, hml, hown, hts⟩ (s_refuse l dC dI gt tp bk mb mu rd cm wk pp so ty st9 td fk fpl un mk H.size 1) (cwV 1 hts mg_X9_need_X9_refuse_80 rfl rfl rfl (by decide +kernel) ⟨Nat.le_of_ble_eq_true rfl, Nat.le_of_ble_eq_true rfl⟩) ⟨fun a U g mk q => by obtain ⟨q0, q1, qP, qK, qD⟩ := q; exact ⟨q0, q1, qP, va_K.moved (u := U) (U := U.calling g mk a) (Vm.Alike.refl U.vm) qK, qD⟩, va_recv hKc hPc (ci := 9) (q0 := 0) rfl rfl, fun U hU hW => ⟨rfl, by rw [hU], by rw [hU]; exact hPc, va_K.moved hW.alike hKc, hDc.weaken (fun _ _ _ _ => trivial)⟩⟩ rfl rfl hl.1 rfl (lv_room (Nat.le_of_ble_eq_true rfl)) dX9_need_10 ⟨Nat.le_of_ble_eq_true rfl, Nat.le_of_ble_eq_true rfl⟩) hS (fun q _ h => hFc q h) hFc (fun r_99 u t H1 locs ht hvm hw hB hz1 hk1 hS => ?_)
      obtain ⟨hP1, hK1, hD1⟩ := hB
      rw [ht] at hP1
      have hr_99 := hw
      obtain ⟨hP, hD⟩ := va_join (wr := []) (w1 := [(gt, .inr (9, [.int 1, .ref tp, .int td, .int fk, .int fpl, .ref bk, .int un, .ref mb, .ref mu, .int mk, .ref rd, .ref cm, .ref wk, .ref pp, .ref so, .ref ty]))]) hP hD [0] [] rfl rfl (by decide) (by decide) hk1 hFc hP1 hD1
      generalize H1 = H at hP hS ⊢
      have hP : va_P (dC, dI) vwCl [(gt, .inr (9, [.int 1, .ref tp, .int td, .int fk, .int fpl, .ref bk, .int un, .ref mb, .ref mu, .int mk, .ref rd, .ref cm, .ref wk, .ref pp, .ref so, .ref ty]))] H := hP
      have hD : va_D A [(gt, .inr (9, [.int 1, .ref tp, .int td, .int fk, .int fpl, .ref bk, .int un, .ref mb, .ref mu, .int mk, .ref rd, .ref cm, .ref wk, .ref pp, .ref so, .ref ty]))] := hD
      have hQ := q_at hQ0 hQA hS
      have hP9 := hP.sub (ws' := [(gt, .inr (9, [.int 1, .ref tp, .int td, .int fk, .int fpl, .ref bk, .int un, .ref mb, .ref mu, .int mk, .ref rd, .ref cm, .ref wk, .ref pp, .ref so, .ref ty]))]) [0] rfl
      have hD9 := hD.sub (ws' := [(gt, .inr (9, [.int 1, .ref tp, .int td, .int fk, .int fpl, .ref bk, .int un, .ref mb, .ref mu, .int mk, .ref rd, .ref cm, .ref wk, .ref pp, .ref so, .ref ty]))]) [0] (by decide) rfl
      have hK9 := hK.sub (tys' := []) [] rfl
      exact W.iret hx hb hr (fun t ht hW => ⟨⟨_, (), rfl, trivial, 1, by rw [ht]; exact hP9, va_K.moved hW.alike hK9, hD9⟩, hS.F ht⟩) hS.2.2 dX9_need_13
theorem dX9_list_0 : decode cX9_list 0 = .ok (.iload_n 1, 1) := by decide +kernel
theorem dX9_list_1 : decode cX9_list 1 = .ok (.invokestatic 190, 3) := by decide +kernel
theorem dX9_list_4 : decode cX9_list 4 = .ok (.ifCond .eq 7, 3) := by decide +kernel
theorem dX9_list_7 : decode cX9_list 7 = .ok (.iload_n 2, 1) := by decide +kernel
theorem dX9_list_8 : decode cX9_list 8 = .ok (.ifCond .ge 9, 3) := by decide +kernel
theorem dX9_list_11 : decode cX9_list 11 = .ok (.aload_n 0, 1) := by decide +kernel
theorem dX9_list_12 : decode cX9_list 12 = .ok (.iconst 1, 1) := by decide +kernel
theorem dX9_list_13 : decode cX9_list 13 = .ok (.invokevirtual 80, 3) := by decide +kernel
theorem dX9_list_16 : decode cX9_list 16 = .ok (.ireturn, 1) := by decide +kernel
theorem dX9_list_17 : decode cX9_list 17 = .ok (.aload_n 0, 1) := by decide +kernel
theorem dX9_list_18 : decode cX9_list 18 = .ok (.getfield 29, 3) := by decide +kernel
theorem dX9_list_21 : decode cX9_list 21 = .ok (.iload_n 1, 1) := by decide +kernel
theorem dX9_list_22 : decode cX9_list 22 = .ok (.invokevirtual 194, 3) := by decide +kernel
theorem dX9_list_25 : decode cX9_list 25 = .ok (.istore_n 3, 1) := by decide +kernel
theorem dX9_list_26 : decode cX9_list 26 = .ok (.iload_n 2, 1) := by decide +kernel
theorem dX9_list_27 : decode cX9_list 27 = .ok (.iload_n 3, 1) := by decide +kernel
theorem dX9_list_28 : decode cX9_list 28 = .ok (.invokestatic 197, 3) := by decide +kernel
theorem dX9_list_31 : decode cX9_list 31 = .ok (.if_icmp .lt 9, 3) := by decide +kernel
theorem dX9_list_34 : decode cX9_list 34 = .ok (.aload_n 0, 1) := by decide +kernel
theorem dX9_list_35 : decode cX9_list 35 = .ok (.iconst 5, 1) := by decide +kernel
theorem dX9_list_36 : decode cX9_list 36 = .ok (.invokevirtual 80, 3) := by decide +kernel
theorem dX9_list_39 : decode cX9_list 39 = .ok (.ireturn, 1) := by decide +kernel
theorem dX9_list_40 : decode cX9_list 40 = .ok (.iconst 0, 1) := by decide +kernel
theorem dX9_list_41 : decode cX9_list 41 = .ok (.istore 4, 2) := by decide +kernel
theorem dX9_list_43 : decode cX9_list 43 = .ok (.iload 4, 2) := by decide +kernel
theorem dX9_list_45 : decode cX9_list 45 = .ok (.iload_n 2, 1) := by decide +kernel
theorem dX9_list_46 : decode cX9_list 46 = .ok (.if_icmp .ge 15, 3) := by decide +kernel
theorem dX9_list_49 : decode cX9_list 49 = .ok (.iload_n 3, 1) := by decide +kernel
theorem dX9_list_50 : decode cX9_list 50 = .ok (.iload_n 3, 1) := by decide +kernel
theorem dX9_list_51 : decode cX9_list 51 = .ok (.iconst 1, 1) := by decide +kernel
theorem dX9_list_52 : decode cX9_list 52 = .ok (.isub, 1) := by decide +kernel
theorem dX9_list_53 : decode cX9_list 53 = .ok (.iand, 1) := by decide +kernel
theorem dX9_list_54 : decode cX9_list 54 = .ok (.istore_n 3, 1) := by decide +kernel
theorem dX9_list_55 : decode cX9_list 55 = .ok (.iinc 4 1, 3) := by decide +kernel
theorem dX9_list_58 : decode cX9_list 58 = .ok (.goto (-15), 3) := by decide +kernel
theorem dX9_list_61 : decode cX9_list 61 = .ok (.aload_n 0, 1) := by decide +kernel
theorem dX9_list_62 : decode cX9_list 62 = .ok (.iload_n 3, 1) := by decide +kernel
theorem dX9_list_63 : decode cX9_list 63 = .ok (.invokestatic 202, 3) := by decide +kernel
theorem dX9_list_66 : decode cX9_list 66 = .ok (.invokevirtual 100, 3) := by decide +kernel
theorem dX9_list_69 : decode cX9_list 69 = .ok (.ireturn, 1) := by decide +kernel
def mwX9_list : List Cond := .code yX9_list cX9_list 5 (some .int) :: (([.methodLink RX9 190 yX9_isTriple, .static yX9_isTriple, .initialized RX9, .methodLink RX9 80 yX9_refuse, .instanceMethod yX9_refuse, .selects RX9 yX9_refuse yX9_refuse, .fieldLink RX9 29 "PatternGate" "book" "LPatternGate$Book;", .methodLink RX9 194 yX0_listBits, .instanceMethod yX0_listBits, .selects RX0 yX0_listBits yX0_listBits, .initialized RX0, .methodLink RX9 197 yJ6_bitCount_0f7a4, .static yJ6_bitCount_0f7a4, .initialized RJ6, .methodLink RX9 202 yJ6_numberOfTrailingZeros_0f7a4, .static yJ6_numberOfTrailingZeros_0f7a4, .methodLink RX9 100 yX9_answer, .instanceMethod yX9_answer, .selects RX9 yX9_answer yX9_answer] : List Cond) ++ (wsX90 ++ (mwX9_isTriple ++ (mwX9_refuse ++ (mwX0_listBits ++ (mwJ6_bitCount_0f7a4 ++ (mwJ6_numberOfTrailingZeros_0f7a4 ++ (mwX9_answer))))))))
theorem fin_X9_list_X9 : ∀ w ∈ wsX90, w ∈ mwX9_list := fun w h => List.mem_cons_of_mem _ (List.mem_append_right _ (List.mem_append_left _ h))
set_option maxRecDepth 100000 in
theorem gd_mwX9_isTriple : mwX9_isTriple.all goodWord = true := by decide +kernel
set_option maxRecDepth 100000 in
theorem gd_mwX0_listBits : mwX0_listBits.all goodWord = true := by decide +kernel
set_option maxRecDepth 100000 in
theorem gd_mwJ6_bitCount_0f7a4 : mwJ6_bitCount_0f7a4.all goodWord = true := by decide +kernel
set_option maxRecDepth 100000 in
theorem gd_mwJ6_numberOfTrailingZeros_0f7a4 : mwJ6_numberOfTrailingZeros_0f7a4.all goodWord = true := by decide +kernel
set_option maxRecDepth 20000 in
theorem mg_X9_list_X9_isTriple_190 : GoodIn mwX9_list (va_wsS RX9 190 yX9_isTriple mwX9_isTriple) := gi_app (A := [.methodLink RX9 190 yX9_isTriple, .static yX9_isTriple, .initialized RX9]) (goodIn_r _ [1, 2, 3] (by decide +kernel) (by decide +kernel)) (gi_sub gd_mwX9_isTriple (fun w h => List.mem_cons_of_mem _ (List.mem_append_right _ (List.mem_append_right _ (List.mem_append_left _ h)))))
set_option maxRecDepth 20000 in
theorem mg_X9_list_X9_refuse_80 : GoodIn mwX9_list (wsV RX9 80 RX9 yX9_refuse mwX9_refuse) := gi_app (A := [.methodLink RX9 80 yX9_refuse, .instanceMethod yX9_refuse, .selects RX9 yX9_refuse yX9_refuse, .initialized RX9]) (goodIn_r _ [4, 5, 6, 3] (by decide +kernel) (by decide +kernel)) (gi_sub gd_mwX9_refuse (fun w h => List.mem_cons_of_mem _ (List.mem_append_right _ (List.mem_append_right _ (List.mem_append_right _ (List.mem_append_left _ h))))))
set_option maxRecDepth 20000 in
theorem mg_X9_list_X0_listBits_194 : GoodIn mwX9_list (wsV RX9 194 RX0 yX0_listBits mwX0_listBits) := gi_app (A := [.methodLink RX9 194 yX0_listBits, .instanceMethod yX0_listBits, .selects RX0 yX0_listBits yX0_listBits, .initialized RX0]) (goodIn_r _ [8, 9, 10, 11] (by decide +kernel) (by decide +kernel)) (gi_sub gd_mwX0_listBits (fun w h => List.mem_cons_of_mem _ (List.mem_append_right _ (List.mem_append_right _ (List.mem_append_right _ (List.mem_append_right _ (List.mem_append_left _ h)))))))
set_option maxRecDepth 20000 in
theorem mg_X9_list_J6_bitCount_0f7a4_197 : GoodIn mwX9_list (va_wsS RX9 197 yJ6_bitCount_0f7a4 mwJ6_bitCount_0f7a4) := gi_app (A := [.methodLink RX9 197 yJ6_bitCount_0f7a4, .static yJ6_bitCount_0f7a4, .initialized RJ6]) (goodIn_r _ [12, 13, 14] (by decide +kernel) (by decide +kernel)) (gi_sub gd_mwJ6_bitCount_0f7a4 (fun w h => List.mem_cons_of_mem _ (List.mem_append_right _ (List.mem_append_right _ (List.mem_append_right _ (List.mem_append_right _ (List.mem_append_right _ (List.mem_append_left _ h))))))))
set_option maxRecDepth 20000 in
theorem mg_X9_list_J6_numberOfTrailingZeros_0f7a4_202 : GoodIn mwX9_list (va_wsS RX9 202 yJ6_numberOfTrailingZeros_0f7a4 mwJ6_numberOfTrailingZeros_0f7a4) := gi_app (A := [.methodLink RX9 202 yJ6_numberOfTrailingZeros_0f7a4, .static yJ6_numberOfTrailingZeros_0f7a4, .initialized RJ6]) (goodIn_r _ [15, 16, 14] (by decide +kernel) (by decide +kernel)) (gi_sub gd_mwJ6_numberOfTrailingZeros_0f7a4 (fun w h => List.mem_cons_of_mem _ (List.mem_append_right _ (List.mem_append_right _ (List.mem_append_right _ (List.mem_append_right _ (List.mem_append_right _ (List.mem_append_right _ (List.mem_append_left _ h)))))))))
set_option maxRecDepth 20000 in
theorem mg_X9_list_X9_answer_100 : GoodIn mwX9_list (wsV RX9 100 RX9 yX9_answer mwX9_answer) := gi_app (A := [.methodLink RX9 100 yX9_answer, .instanceMethod yX9_answer, .selects RX9 yX9_answer yX9_answer, .initialized RX9]) (goodIn_r _ [17, 18, 19, 3] (by decide +kernel) (by decide +kernel)) (gi_sub gd_mwX9_answer (fun w h => List.mem_cons_of_mem _ (List.mem_append_right _ (List.mem_append_right _ (List.mem_append_right _ (List.mem_append_right _ (List.mem_append_right _ (List.mem_append_right _ (List.mem_append_right _ (h))))))))))
set_option maxHeartbeats 4000000 in
set_option maxRecDepth 100000 in
/-- gate: list -/
theorem s_g_list (l : Launch) (dC : Nat → ClassId) (dI : Nat → Nat → Nat) (W9 : va_W) (T9 : List (ClassId × FieldType)) (B9 : Nat → Prop) (gt tp bk mb mu rd cm wk pp so ty : Nat) (st9 td fk fpl un mk : Int32) (sz : Nat) (i1 i2 : Int32) (hB9 : gB W9 T9 B9) (hbk : B9 bk) : Met l yX9_list mwX9_list ({ frames := 2, cells := 0, slots := 0, locals := 120 }) (va_Pc [.ref gt, .int i1, .int i2] (fun U => U.heap.size = sz ∧ va_P (dC, dI) vwCl ([(gt, .inr (9, [.int st9, .ref tp, .int td, .int fk, .int fpl, .ref bk, .int un, .ref mb, .ref mu, .int mk, .ref rd, .ref cm, .ref wk, .ref pp, .ref so, .ref ty]))]) U.heap ∧ va_K (dC, dI) vwCl ([]) U ∧ va_D (fun _ => True) ([(gt, .inr (9, [.int st9, .ref tp, .int td, .int fk, .int fpl, .ref bk, .int un, .ref mb, .ref mu, .int mk, .ref rd, .ref cm, .ref wk, .ref pp, .ref so, .ref ty]))]) ∧ va_P (dC, dI) vwCl W9 U.heap ∧ va_K (dC, dI) vwCl T9 U ∧ (∀ q ∈ W9, ¬ va_A ([(gt, .inr (9, [.int st9, .ref tp, .int td, .int fk, .int fpl, .ref bk, .int un, .ref mb, .ref mu, .int mk, .ref rd, .ref cm, .ref wk, .ref pp, .ref so, .ref ty]))]) sz q.1))) (va_Qi (fun (_ : Int32) (_ : Unit) => True) (fun _ t => ∃ (y0 : Int32), va_P (dC, dI) vwCl [(gt, .inr (9, [.int y0, .ref tp, .int td, .int fk, .int fpl, .ref bk, .int un, .ref mb, .ref mu, .int mk, .ref rd, .ref cm, .ref wk, .ref pp, .ref so, .ref ty]))] t.heap ∧ va_K (dC, dI) vwCl [] t ∧ va_D (va_A ([(gt, .inr (9, [.int st9, .ref tp, .int td, .int fk, .int fpl, .ref bk, .int un, .ref mb, .ref mu, .int mk, .ref rd, .ref cm, .ref wk, .ref pp, .ref so, .ref ty]))]) sz) [(gt, .inr (9, [.int y0, .ref tp, .int td, .int fk, .int fpl, .ref bk, .int un, .ref mb, .ref mu, .int mk, .ref rd, .ref cm, .ref wk, .ref pp, .ref so, .ref ty]))]) (va_A ([(gt, .inr (9, [.int st9, .ref tp, .int td, .int fk, .int fpl, .ref bk, .int un, .ref mb, .ref mu, .int mk, .ref rd, .ref cm, .ref wk, .ref pp, .ref so, .ref ty]))]) sz)) 0 0 (va_A ([(gt, .inr (9, [.int st9, .ref tp, .int td, .int fk, .int fpl, .ref bk, .int un, .ref mb, .ref mu, .int mk, .ref rd, .ref cm, .ref wk, .ref pp, .ref so, .ref ty]))]) sz) := by
  refine Met.ofW (cc := cX9_list) (maxL := 5) (ret := (some .int)) (by decide +kernel) rfl ?_
  intro p e s m args below meth c s₁ B hml hv
  obtain ⟨rfl, hsz, hP, hK, hD0, hQ0, hKQ, hQA⟩ := hv
  have hx := B.exec
  have hb := B.bytes
  have hr := B.returns
  have hts := atoms_spec (ws := mwX9_list) B.pre
  have hown : s.vm.findClass RX9 = some m.cls := findClass_of_methodNamed B.named
  have hlocks := B.notSynchronized
  subst hsz
  have hD := hD0.self (sz := s.heap.size)
  generalize hAe : va_A ([(gt, .inr (9, [.int st9, .ref tp, .int td, .int fk, .int fpl, .ref bk, .int un, .ref mb, .ref mu, .int mk, .ref rd, .ref cm, .ref wk, .ref pp, .ref so, .ref ty]))]) s.heap.size = A at hD hQA ⊢
  have hA : ∀ q : Nat, s.heap.size ≤ q → A q := fun q h => by rw [← hAe]; exact Or.inr h
  have hP : va_P (dC, dI) vwCl [(gt, .inr (9, [.int st9, .ref tp, .int td, .int fk, .int fpl, .ref bk, .int un, .ref mb, .ref mu, .int mk, .ref rd, .ref cm, .ref wk, .ref pp, .ref so, .ref ty]))] s.heap := hP
  have hD : va_D A [(gt, .inr (9, [.int st9, .ref tp, .int td, .int fk, .int fpl, .ref bk, .int un, .ref mb, .ref mu, .int mk, .ref rd, .ref cm, .ref wk, .ref pp, .ref so, .ref ty]))] := hD
  have hK : va_K (dC, dI) vwCl [] s := hK
  generalize hH : s.heap = H at hP ⊢
  have hS : va_S A s.heap H [] := by rw [← hH]; exact va_S.rf
  have hQ := q_at hQ0 hQA hS
  have hl := lv_entry ([.ref gt, .int i1, .int i2]) (n := 5) (Nat.le_of_ble_eq_true rfl)
  rw [lg_entry_eq]
  generalize (lg_sl ([.ref gt, .int i1, .int i2]) ++ List.replicate (5 - (lg_sl ([.ref gt, .int i1, .int i2])).length) Slot.unset).toArray = ls at hl ⊢
  have hl : lv_has ls 5 [(0, .ref gt), (1, .int i1), (2, .int i2)] := hl
  have rg_i1 := i_rng i1
  have rg_i2 := i_rng i2
  obtain ⟨ear, hB3, hear⟩ := hB9 bk hbk
  have hB0 := hB3.poB
  obtain ⟨ds, ps, nd, np, fd, fp, cD, cP, m1, m2, m3, m4, m5, hnd, hnp, hds, hps⟩ := id hB3
  obtain ⟨k_1, hk_1⟩ := List.getElem?_of_mem m1
  obtain ⟨k_2, hk_2⟩ := List.getElem?_of_mem m2
  obtain ⟨j_3, hj_3⟩ := List.getElem?_of_mem m3
  obtain ⟨k_4, hk_4⟩ := List.getElem?_of_mem m4
  obtain ⟨j_5, hj_5⟩ := List.getElem?_of_mem m5
  have r_un := i_rng un
  have r_mk := i_rng mk
  have r_td := i_rng td
  refine lv_iload_n hx hb dX9_list_0 rfl (lv_at hl 1 rfl) ?_
  refine vp_callSi (W.runS (As := [.int i1]) (rest := []) ⟨hx, hb, hml, hown, hts⟩ (s_isTriple l dC dI i1) (va_cwS 1 hts mg_X9_list_X9_isTriple_190 rfl rfl rfl (by decide +kernel) ⟨Nat.le_of_ble_eq_true rfl, Nat.le_of_ble_eq_true rfl⟩) ⟨fun a U g mk q => ⟨q.1, trivial⟩, fun U hU hW => ⟨rfl, trivial⟩⟩ rfl rfl hl.1 rfl (lv_room (Nat.le_of_ble_eq_true rfl)) dX9_list_1 ⟨Nat.le_of_ble_eq_true rfl, Nat.le_of_ble_eq_true rfl⟩) (fun r_7 hw => ?_)
  refine lv_if_eq (tgt := 11) hx hb dX9_list_4 (by decide) (fun k_8 => ?_) (fun k_8 => ?_)
  · have tk_8 := c_eq (a := r_7.toInt) (b := 0) rfl (by decide) k_8
    refine lv_aload_n hx hb dX9_list_11 rfl (lv_at hl 0 rfl) ?_
    refine lv_iconst (v := 1) hx hb dX9_list_12 (by decide) ?_
    have hPc := hP.sub (ws' := [(gt, .inr (9, [.int st9, .ref tp, .int td, .int fk, .int fpl, .ref bk, .int un, .ref mb, .ref mu, .int mk, .ref rd, .ref cm, .ref wk, .ref pp, .ref so, .ref ty]))]) [0] rfl
    have hKc := hK.sub (tys' := []) [] rfl
    have hDc := hD.sub (ws' := [(gt, .inr (9, [.int st9, .ref tp, .int td, .int fk, .int fpl, .ref bk, .int un, .ref mb, .ref mu, .int mk, .ref rd, .ref cm, .ref wk, .ref pp, .ref so, .ref ty]))]) [0] (by decide) rfl
    have hFc := va_free (wc := [(gt, .inr (9, [.int st9, .ref tp, .int td, .int fk, .int fpl, .ref bk, .int un, .ref mb, .ref mu, .int mk, .ref rd, .ref cm, .ref wk, .ref pp, .ref so, .ref ty]))]) hD hS hA [0] rfl
    refine va_calli (va_runV (As := [.int 1]) (rest := []) ⟨hx, hb, hml, hown, hts⟩ (s_refuse l dC dI gt tp bk mb mu rd cm wk pp so ty st9 td fk fpl un mk H.size 1) (cwV 1 hts mg_X9_list_X9_refuse_80 rfl rfl rfl (by decide +kernel) ⟨Nat.le_of_ble_eq_true rfl, Nat.le_of_ble_eq_true rfl⟩) ⟨fun a U g mk q => by obtain ⟨q0, q1, qP, qK, qD⟩ := q; exact ⟨q0, q1, qP, va_K.moved (u := U) (U := U.calling g mk a) (Vm.Alike.refl U.vm) qK, qD⟩, va_recv hKc hPc (ci := 9) (q0 := 0) rfl rfl, fun U hU hW => ⟨rfl, by rw [hU], by rw [hU]; exact hPc, va_K.moved hW.alike hKc, hDc.weaken (fun _ _ _ _ => trivial)⟩⟩ rfl rfl hl.1 rfl (lv_room (Nat.le_of_ble_eq_true rfl)) dX9_list_13 ⟨Nat.le_of_ble_eq_true rfl, Nat.le_of_ble_eq_true rfl⟩) hS (fun q _ h => hFc q h) hFc (fun r_10 u t H1 locs ht hvm hw hB hz1 hk1 hS => ?_)
    obtain ⟨hP1, hK1, hD1⟩ := hB
    rw [ht] at hP1
    have hr_10 := hw
    obtain ⟨hP, hD⟩ := va_join (wr := []) (w1 := [(gt, .inr (9, [.int 1, .ref tp, .int td, .int fk, .int fpl, .ref bk, .int un, .ref mb, .ref mu, .int mk, .ref rd, .ref cm, .ref wk, .ref pp, .ref so, .ref ty]))]) hP hD [0] [] rfl rfl (by decide) (by decide) hk1 hFc hP1 hD1
    generalize H1 = H at hP hS ⊢
    have hP : va_P (dC, dI) vwCl [(gt, .inr (9, [.int 1, .ref tp, .int td, .int fk, .int fpl, .ref bk, .int un, .ref mb, .ref mu, .int mk, .ref rd, .ref cm, .ref wk, .ref pp, .ref so, .ref ty]))] H := hP
    have hD : va_D A [(gt, .inr (9, [.int 1, .ref tp, .int td, .int fk, .int fpl, .ref bk, .int un, .ref mb, .ref mu, .int mk, .ref rd, .ref cm, .ref wk, .ref pp, .ref so, .ref ty]))] := hD
    have hQ := q_at hQ0 hQA hS
    have hP9 := hP.sub (ws' := [(gt, .inr (9, [.int 1, .ref tp, .int td, .int fk, .int fpl, .ref bk, .int un, .ref mb, .ref mu, .int mk, .ref rd, .ref cm, .ref wk, .ref pp, .ref so, .ref ty]))]) [0] rfl
    have hD9 := hD.sub (ws' := [(gt, .inr (9, [.int 1, .ref tp, .int td, .int fk, .int fpl, .ref bk, .int un, .ref mb, .ref mu, .int mk, .ref rd, .ref cm, .ref wk, .ref pp, .ref so, .ref ty]))]) [0] (by decide) rfl
    have hK9 := hK.sub (tys' := []) [] rfl
    exact W.iret hx hb hr (fun t ht hW => ⟨⟨_, (), rfl, trivial, 1, by rw [ht]; exact hP9, va_K.moved hW.alike hK9, hD9⟩, hS.F ht⟩) hS.2.2 dX9_list_16
  · have tk_8 := c_ne (a := r_7.toInt) (b := 0) rfl (by decide) k_8
    refine lv_iload_n hx hb dX9_list_7 rfl (lv_at hl 2 rfl) ?_
    refine lv_if_ge (tgt := 17) hx hb dX9_list_8 (by decide) (fun k_11 => ?_) (fun k_11 => ?_)
    · have tk_11 := c_ge (a := i2.toInt) (b := 0) rfl (by decide) k_11
      refine lv_aload_n hx hb dX9_list_17 rfl (lv_at hl 0 rfl) ?_
      refine va_get (D := (dC, dI)) (ci := 9) (v := .ref bk) (C := RX9) (T := TX9) (N := 16) hx hb hts fin_X9_list_X9 hown hK hP 0 rfl rfl 5 (by decide) (hts (.fieldLink RX9 29 "PatternGate" "book" "LPatternGate$Book;") (List.mem_of_getElem? (i := 7) (by decide +kernel))) (fun _ h9 => h9) rfl dX9_list_18 ?_
      refine lv_iload_n hx hb dX9_list_21 rfl (lv_at hl 1 rfl) ?_
      have hPc := hQ
      have hKc := hKQ
      refine vp_callSi (W.runV (As := [.int i1]) (rest := []) ⟨hx, hb, hml, hown, hts⟩ (s_listBits l dC dI W9 T9 bk i1 hB0) (cwV 1 hts mg_X9_list_X0_listBits_194 rfl rfl rfl (by decide +kernel) ⟨Nat.le_of_ble_eq_true rfl, Nat.le_of_ble_eq_true rfl⟩) ⟨fun a U g mk q => by obtain ⟨q0, qP, qK⟩ := q; exact ⟨q0, qP, va_K.moved (u := U) (U := U.calling g mk a) (Vm.Alike.refl U.vm) qK⟩, va_recv hKc hPc (ci := 0) (q0 := k_1) rfl hk_1, fun U hU hW => ⟨rfl, by rw [hU]; exact hPc, va_K.moved hW.alike hKc⟩⟩ rfl rfl hl.1 rfl (lv_room (Nat.le_of_ble_eq_true rfl)) dX9_list_22 ⟨Nat.le_of_ble_eq_true rfl, Nat.le_of_ble_eq_true rfl⟩) (fun r_13 hw => ?_)
      refine lv_istore_n (lv' := [(3, .int r_13), (0, .ref gt), (1, .int i1), (2, .int i2)]) hx hb dX9_list_25 rfl hl (by decide) rfl (fun ls hl => ?_)
      refine lv_iload_n hx hb dX9_list_26 rfl (lv_at hl 3 rfl) ?_
      refine lv_iload_n hx hb dX9_list_27 rfl (lv_at hl 0 rfl) ?_
      refine vp_callSi (W.runS (As := [.int r_13]) (rest := [.int i2]) ⟨hx, hb, hml, hown, hts⟩ (s_bitCount l dC dI r_13) (va_cwS 1 hts mg_X9_list_J6_bitCount_0f7a4_197 rfl rfl rfl (by decide +kernel) ⟨Nat.le_of_ble_eq_true rfl, Nat.le_of_ble_eq_true rfl⟩) ⟨fun a U g mk q => ⟨q.1, trivial⟩, fun U hU hW => ⟨rfl, trivial⟩⟩ rfl rfl hl.1 rfl (lv_room (Nat.le_of_ble_eq_true rfl)) dX9_list_28 ⟨Nat.le_of_ble_eq_true rfl, Nat.le_of_ble_eq_true rfl⟩) (fun r_15 hw => ?_)
      refine lv_icmp_lt (tgt := 40) hx hb dX9_list_31 (by decide) (fun k_16 => ?_) (fun k_16 => ?_)
      · have tk_16 := c_lt (a := i2.toInt) (b := r_15.toInt) rfl rfl k_16
        refine lv_iconst (v := 0) hx hb dX9_list_40 (by decide) ?_
        refine lv_istore (lv' := [(4, .int 0), (3, .int r_13), (0, .ref gt), (1, .int i1), (2, .int i2)]) hx hb dX9_list_41 hl (by decide) rfl (fun ls hl => ?_)
        have loop43 : ∀ (lm43 : Nat) (lf kk : Int32), (0 ≤ kk.toInt) → ((i2.toInt - kk.toInt).toNat) < lm43 → ∀ (H : Heap) (locs : List Loc) (ls : Array Slot), va_P (dC, dI) vwCl [(gt, .inr (9, [.int st9, .ref tp, .int td, .int fk, .int fpl, .ref bk, .int un, .ref mb, .ref mu, .int mk, .ref rd, .ref cm, .ref wk, .ref pp, .ref so, .ref ty]))] H → va_D A [(gt, .inr (9, [.int st9, .ref tp, .int td, .int fk, .int fpl, .ref bk, .int un, .ref mb, .ref mu, .int mk, .ref rd, .ref cm, .ref wk, .ref pp, .ref so, .ref ty]))] → va_S A s.heap H locs → lv_has ls 5 [(4, .int kk), (3, .int lf), (0, .ref gt), (1, .int i1), (2, .int i2)] → W p l e (headSpec mwX9_list ({ frames := 2, cells := 0, slots := 0, locals := 120 })).room s m ([.ref gt, .int i1, .int i2]).toArray below meth c H locs 0 0 (MQ below (va_Qi (fun (_ : Int32) (_ : Unit) => True) (fun _ t => ∃ (y0 : Int32), va_P (dC, dI) vwCl [(gt, .inr (9, [.int y0, .ref tp, .int td, .int fk, .int fpl, .ref bk, .int un, .ref mb, .ref mu, .int mk, .ref rd, .ref cm, .ref wk, .ref pp, .ref so, .ref ty]))] t.heap ∧ va_K (dC, dI) vwCl [] t ∧ va_D A [(gt, .inr (9, [.int y0, .ref tp, .int td, .int fk, .int fpl, .ref bk, .int un, .ref mb, .ref mu, .int mk, .ref rd, .ref cm, .ref wk, .ref pp, .ref so, .ref ty]))]) A) ([.ref gt, .int i1, .int i2]).toArray s 0 0 A) (F0 m 43 ls []) := by
          intro lm43
          induction lm43 with
          | zero => intro lf kk v43_0 hm43; exact absurd hm43 (Nat.not_lt_zero _)
          | succ lm43 ih43 =>
            intro lf kk v43_0 hm43 H locs ls hP hD hS hl
            have hQ := q_at hQ0 hQA hS
            have rg_lf := i_rng lf
            have rg_kk := i_rng kk
            refine lv_iload hx hb dX9_list_43 (lv_at hl 0 rfl) ?_
            refine lv_iload_n hx hb dX9_list_45 rfl (lv_at hl 4 rfl) ?_
            refine lv_icmp_ge (tgt := 61) hx hb dX9_list_46 (by decide) (fun k_17 => ?_) (fun k_17 => ?_)
            · have tk_17 := c_ge (a := kk.toInt) (b := i2.toInt) rfl rfl k_17
              refine lv_aload_n hx hb dX9_list_61 rfl (lv_at hl 2 rfl) ?_
              refine lv_iload_n hx hb dX9_list_62 rfl (lv_at hl 1 rfl) ?_
              refine vp_callSi (W.runS (As := [.int lf]) (rest := [.ref gt]) ⟨hx, hb, hml, hown, hts⟩ (s_ntz l dC dI lf) (va_cwS 1 hts mg_X9_list_J6_numberOfTrailingZeros_0f7a4_202 rfl rfl rfl (by decide +kernel) ⟨Nat.le_of_ble_eq_true rfl, Nat.le_of_ble_eq_true rfl⟩) ⟨fun a U g mk q => ⟨q.1, trivial⟩, fun U hU hW => ⟨rfl, trivial⟩⟩ rfl rfl hl.1 rfl (lv_room (Nat.le_of_ble_eq_true rfl)) dX9_list_63 ⟨Nat.le_of_ble_eq_true rfl, Nat.le_of_ble_eq_true rfl⟩) (fun r_19 hw => ?_)
              have hr_19 := hw
              have hPc := hP.sub (ws' := [(gt, .inr (9, [.int st9, .ref tp, .int td, .int fk, .int fpl, .ref bk, .int un, .ref mb, .ref mu, .int mk, .ref rd, .ref cm, .ref wk, .ref pp, .ref so, .ref ty]))]) [0] rfl
              have hKc := hK.sub (tys' := []) [] rfl
              have hDc := hD.sub (ws' := [(gt, .inr (9, [.int st9, .ref tp, .int td, .int fk, .int fpl, .ref bk, .int un, .ref mb, .ref mu, .int mk, .ref rd, .ref cm, .ref wk, .ref pp, .ref so, .ref ty]))]) [0] (by decide) rfl
              have hFc := va_free (wc := [(gt, .inr (9, [.int st9, .ref tp, .int td, .int fk, .int fpl, .ref bk, .int un, .ref mb, .ref mu, .int mk, .ref rd, .ref cm, .ref wk, .ref pp, .ref so, .ref ty]))]) hD hS hA [0] rfl
              refine va_calli (va_runV (As := [.int r_19]) (rest := []) ⟨hx, hb, hml, hown, hts⟩ (s_answer l dC dI gt tp bk mb mu rd cm wk pp so ty st9 td fk fpl un mk H.size r_19) (cwV 1 hts mg_X9_list_X9_answer_100 rfl rfl rfl (by decide +kernel) ⟨Nat.le_of_ble_eq_true rfl, Nat.le_of_ble_eq_true rfl⟩) ⟨fun a U g mk q => by obtain ⟨q0, q1, qP, qK, qD⟩ := q; exact ⟨q0, q1, qP, va_K.moved (u := U) (U := U.calling g mk a) (Vm.Alike.refl U.vm) qK, qD⟩, va_recv hKc hPc (ci := 9) (q0 := 0) rfl rfl, fun U hU hW => ⟨rfl, by rw [hU], by rw [hU]; exact hPc, va_K.moved hW.alike hKc, hDc.weaken (fun _ _ _ _ => trivial)⟩⟩ rfl rfl hl.1 rfl (lv_room (Nat.le_of_ble_eq_true rfl)) dX9_list_66 ⟨Nat.le_of_ble_eq_true rfl, Nat.le_of_ble_eq_true rfl⟩) hS (fun q _ h => hFc q h) hFc (fun r_21 u t H1 locs ht hvm hw hB hz1 hk1 hS => ?_)
              obtain ⟨hP1, hK1, hD1⟩ := hB
              rw [ht] at hP1
              have hr_21 := hw
              obtain ⟨hP, hD⟩ := va_join (wr := []) (w1 := [(gt, .inr (9, [.int 0, .ref tp, .int td, .int fk, .int fpl, .ref bk, .int un, .ref mb, .ref mu, .int mk, .ref rd, .ref cm, .ref wk, .ref pp, .ref so, .ref ty]))]) hP hD [0] [] rfl rfl (by decide) (by decide) hk1 hFc hP1 hD1
              generalize H1 = H at hP hS ⊢
              have hP : va_P (dC, dI) vwCl [(gt, .inr (9, [.int 0, .ref tp, .int td, .int fk, .int fpl, .ref bk, .int un, .ref mb, .ref mu, .int mk, .ref rd, .ref cm, .ref wk, .ref pp, .ref so, .ref ty]))] H := hP
              have hD : va_D A [(gt, .inr (9, [.int 0, .ref tp, .int td, .int fk, .int fpl, .ref bk, .int un, .ref mb, .ref mu, .int mk, .ref rd, .ref cm, .ref wk, .ref pp, .ref so, .ref ty]))] := hD
              have hQ := q_at hQ0 hQA hS
              have hP9 := hP.sub (ws' := [(gt, .inr (9, [.int 0, .ref tp, .int td, .int fk, .int fpl, .ref bk, .int un, .ref mb, .ref mu, .int mk, .ref rd, .ref cm, .ref wk, .ref pp, .ref so, .ref ty]))]) [0] rfl
              have hD9 := hD.sub (ws' := [(gt, .inr (9, [.int 0, .ref tp, .int td, .int fk, .int fpl, .ref bk, .int un, .ref mb, .ref mu, .int mk, .ref rd, .ref cm, .ref wk, .ref pp, .ref so, .ref ty]))]) [0] (by decide) rfl
              have hK9 := hK.sub (tys' := []) [] rfl
              exact W.iret hx hb hr (fun t ht hW => ⟨⟨_, (), rfl, trivial, 0, by rw [ht]; exact hP9, va_K.moved hW.alike hK9, hD9⟩, hS.F ht⟩) hS.2.2 dX9_list_69
            · have tk_17 := c_nge (a := kk.toInt) (b := i2.toInt) rfl rfl k_17
              refine lv_iload_n hx hb dX9_list_49 rfl (lv_at hl 1 rfl) ?_
              refine lv_iload_n hx hb dX9_list_50 rfl (lv_at hl 1 rfl) ?_
              refine lv_iconst (v := 1) hx hb dX9_list_51 (by decide) ?_
              refine lv_isub hx hb dX9_list_52 ?_
              refine lv_topi (fun y_22 ey_22 => ?_)
              first | have ty_22 := i_sub (a := lf.toInt) (b := 1) rfl (by decide) ey_22 (by omega) (by omega) | skip
              refine lv_iand hx hb dX9_list_53 ?_
              refine lv_topi (fun y_23 ey_23 => ?_)
              have rg_y_23 := i_rng y_23
              refine lv_istore_n (lv' := [(3, .int y_23), (4, .int kk), (0, .ref gt), (1, .int i1), (2, .int i2)]) hx hb dX9_list_54 rfl hl (by decide) rfl (fun ls hl => ?_)
              obtain ⟨y_24, ey_24⟩ : ∃ y : Int32, y = kk + 1 := ⟨_, rfl⟩
              first | have ty_24 := i_add (a := kk.toInt) (b := 1) rfl (by decide) ey_24 (by omega) (by omega) | skip
              refine lv_iinc (v := y_24) (lv' := [(4, .int y_24), (3, .int y_23), (0, .ref gt), (1, .int i1), (2, .int i2)]) hx hb dX9_list_55 hl (k := 1) rfl (by rw [ey_24]; rfl) (by decide) rfl (fun ls hl => ?_)
              refine lv_goto (tgt := 43) hx hb dX9_list_58 (by decide) ?_
              exact ih43 y_23 y_24 (by first | omega | assumption | decide) (by omega) _ _ ls hP hD hS (lv_sub hl [0, 1, 2, 3, 4] rfl)
        have lit_24 : (0 : Int32).toInt = 0 := by decide
        exact loop43 _ r_13 0 (by first | omega | assumption | decide) (Nat.lt_succ_self _) _ _ ls hP hD hS (lv_sub hl [0, 1, 2, 3, 4] rfl)
      · have tk_16 := c_nlt (a := i2.toInt) (b := r_15.toInt) rfl rfl k_16
        refine lv_aload_n hx hb dX9_list_34 rfl (lv_at hl 1 rfl) ?_
        refine lv_iconst (v := 5) hx hb dX9_list_35 (by decide) ?_
        have hPc := hP.sub (ws' := [(gt, .inr (9, [.int st9, .ref tp, .int td, .int fk, .int fpl, .ref bk, .int un, .ref mb, .ref mu, .int mk, .ref rd, .ref cm, .ref wk, .ref pp, .ref so, .ref ty]))]) [0] rfl
        have hKc := hK.sub (tys' := []) [] rfl
        have hDc := hD.sub (ws' := [(gt, .inr (9, [.int st9, .ref tp, .int td, .int fk, .int fpl, .ref bk, .int un, .ref mb, .ref mu, .int mk, .ref rd, .ref cm, .ref wk, .ref pp, .ref so, .ref ty]))]) [0] (by decide) rfl
        have hFc := va_free (wc := [(gt, .inr (9, [.int st9, .ref tp, .int td, .int fk, .int fpl, .ref bk, .int un, .ref mb, .ref mu, .int mk, .ref rd, .ref cm, .ref wk, .ref pp, .ref so, .ref ty]))]) hD hS hA [0] rfl
        refine va_calli (va_runV (As := [.int 5]) (rest := []) ⟨hx, hb, hml, hown, hts⟩ (s_refuse l dC dI gt tp bk mb mu rd cm wk pp so ty st9 td fk fpl un mk H.size 5) (cwV 1 hts mg_X9_list_X9_refuse_80 rfl rfl rfl (by decide +kernel) ⟨Nat.le_of_ble_eq_true rfl, Nat.le_of_ble_eq_true rfl⟩) ⟨fun a U g mk q => by obtain ⟨q0, q1, qP, qK, qD⟩ := q; exact ⟨q0, q1, qP, va_K.moved (u := U) (U := U.calling g mk a) (Vm.Alike.refl U.vm) qK, qD⟩, va_recv hKc hPc (ci := 9) (q0 := 0) rfl rfl, fun U hU hW => ⟨rfl, by rw [hU], by rw [hU]; exact hPc, va_K.moved hW.alike hKc, hDc.weaken (fun _ _ _ _ => trivial)⟩⟩ rfl rfl hl.1 rfl (lv_room (Nat.le_of_ble_eq_true rfl)) dX9_list_36 ⟨Nat.le_of_ble_eq_true rfl, Nat.le_of_ble_eq_true rfl⟩) hS (fun q _ h => hFc q h) hFc (fun r_27 u t H1 locs ht hvm hw hB hz1 hk1 hS => ?_)
        obtain ⟨hP1, hK1, hD1⟩ := hB
        rw [ht] at hP1
        have hr_27 := hw
        obtain ⟨hP, hD⟩ := va_join (wr := []) (w1 := [(gt, .inr (9, [.int 5, .ref tp, .int td, .int fk, .int fpl, .ref bk, .int un, .ref mb, .ref mu, .int mk, .ref rd, .ref cm, .ref wk, .ref pp, .ref so, .ref ty]))]) hP hD [0] [] rfl rfl (by decide) (by decide) hk1 hFc hP1 hD1
        generalize H1 = H at hP hS ⊢
        have hP : va_P (dC, dI) vwCl [(gt, .inr (9, [.int 5, .ref tp, .int td, .int fk, .int fpl, .ref bk, .int un, .ref mb, .ref mu, .int mk, .ref rd, .ref cm, .ref wk, .ref pp, .ref so, .ref ty]))] H := hP
        have hD : va_D A [(gt, .inr (9, [.int 5, .ref tp, .int td, .int fk, .int fpl, .ref bk, .int un, .ref mb, .ref mu, .int mk, .ref rd, .ref cm, .ref wk, .ref pp, .ref so, .ref ty]))] := hD
        have hQ := q_at hQ0 hQA hS
        have hP9 := hP.sub (ws' := [(gt, .inr (9, [.int 5, .ref tp, .int td, .int fk, .int fpl, .ref bk, .int un, .ref mb, .ref mu, .int mk, .ref rd, .ref cm, .ref wk, .ref pp, .ref so, .ref ty]))]) [0] rfl
        have hD9 := hD.sub (ws' := [(gt, .inr (9, [.int 5, .ref tp, .int td, .int fk, .int fpl, .ref bk, .int un, .ref mb, .ref mu, .int mk, .ref rd, .ref cm, .ref wk, .ref pp, .ref so, .ref ty]))]) [0] (by decide) rfl
        have hK9 := hK.sub (tys' := []) [] rfl
        exact W.iret hx hb hr (fun t ht hW => ⟨⟨_, (), rfl, trivial, 5, by rw [ht]; exact hP9, va_K.moved hW.alike hK9, hD9⟩, hS.F ht⟩) hS.2.2 dX9_list_39
    · have tk_11 := c_nge (a := i2.toInt) (b := 0) rfl (by decide) k_11
      refine lv_aload_n hx hb dX9_list_11 rfl (lv_at hl 0 rfl) ?_
      refine lv_iconst (v := 1) hx hb dX9_list_12 (by decide) ?_
      have hPc := hP.sub (ws' := [(gt, .inr (9, [.int st9, .ref tp, .int td, .int fk, .int fpl, .ref bk, .int un, .ref mb, .ref mu, .int mk, .ref rd, .ref cm, .ref wk, .ref pp, .ref so, .ref ty]))]) [0] rfl
      have hKc := hK.sub (tys' := []) [] rfl
      have hDc := hD.sub (ws' := [(gt, .inr (9, [.int st9, .ref tp, .int td, .int fk, .int fpl, .ref bk, .int un, .ref mb, .ref mu, .int mk, .ref rd, .ref cm, .ref wk, .ref pp, .ref so, .ref ty]))]) [0] (by decide) rfl
      have hFc := va_free (wc := [(gt, .inr (9, [.int st9, .ref tp, .int td, .int fk, .int fpl, .ref bk, .int un, .ref mb, .ref mu, .int mk, .ref rd, .ref cm, .ref wk, .ref pp, .ref so, .ref ty]))]) hD hS hA [0] rfl
      refine va_calli (va_runV (As := [.int 1]) (rest := []) ⟨hx, hb, hml, hown, hts⟩ (s_refuse l dC dI gt tp bk mb mu rd cm wk pp so ty st9 td fk fpl un mk H.size 1) (cwV 1 hts mg_X9_list_X9_refuse_80 rfl rfl rfl (by decide +kernel) ⟨Nat.le_of_ble_eq_true rfl, Nat.le_of_ble_eq_true rfl⟩) ⟨fun a U g mk q => by obtain ⟨q0, q1, qP, qK, qD⟩ := q; exact ⟨q0, q1, qP, va_K.moved (u := U) (U := U.calling g mk a) (Vm.Alike.refl U.vm) qK, qD⟩, va_recv hKc hPc (ci := 9) (q0 := 0) rfl rfl, fun U hU hW => ⟨rfl, by rw [hU], by rw [hU]; exact hPc, va_K.moved hW.alike hKc, hDc.weaken (fun _ _ _ _ => trivial)⟩⟩ rfl rfl hl.1 rfl (lv_room (Nat.le_of_ble_eq_true rfl)) dX9_list_13 ⟨Nat.le_of_ble_eq_true rfl, Nat.le_of_ble_eq_true rfl⟩) hS (fun q _ h => hFc q h) hFc (fun r_29 u t H1 locs ht hvm hw hB hz1 hk1 hS => ?_)
      obtain ⟨hP1, hK1, hD1⟩ := hB
      rw [ht] at hP1
      have hr_29 := hw
      obtain ⟨hP, hD⟩ := va_join (wr := []) (w1 := [(gt, .inr (9, [.int 1, .ref tp, .int td, .int fk, .int fpl, .ref bk, .int un, .ref mb, .ref mu, .int mk, .ref rd, .ref cm, .ref wk, .ref pp, .ref so, .ref ty]))]) hP hD [0] [] rfl rfl (by decide) (by decide) hk1 hFc hP1 hD1
      generalize H1 = H at hP hS ⊢
      have hP : va_P (dC, dI) vwCl [(gt, .inr (9, [.int 1, .ref tp, .int td, .int fk, .int fpl, .ref bk, .int un, .ref mb, .ref mu, .int mk, .ref rd, .ref cm, .ref wk, .ref pp, .ref so, .ref ty]))] H := hP
      have hD : va_D A [(gt, .inr (9, [.int 1, .ref tp, .int td, .int fk, .int fpl, .ref bk, .int un, .ref mb, .ref mu, .int mk, .ref rd, .ref cm, .ref wk, .ref pp, .ref so, .ref ty]))] := hD
      have hQ := q_at hQ0 hQA hS
      have hP9 := hP.sub (ws' := [(gt, .inr (9, [.int 1, .ref tp, .int td, .int fk, .int fpl, .ref bk, .int un, .ref mb, .ref mu, .int mk, .ref rd, .ref cm, .ref wk, .ref pp, .ref so, .ref ty]))]) [0] rfl
      have hD9 := hD.sub (ws' := [(gt, .inr (9, [.int 1, .ref tp, .int td, .int fk, .int fpl, .ref bk, .int un, .ref mb, .ref mu, .int mk, .ref rd, .ref cm, .ref wk, .ref pp, .ref so, .ref ty]))]) [0] (by decide) rfl
      have hK9 := hK.sub (tys' := []) [] rfl
      exact W.iret hx hb hr (fun t ht hW => ⟨⟨_, (), rfl, trivial, 1, by rw [ht]; exact hP9, va_K.moved hW.alike hK9, hD9⟩, hS.F ht⟩) hS.2.2 dX9_list_16
theorem dX9_often_0 : decode cX9_often 0 = .ok (.iload_n 2, 1) := by decide +kernel
theorem dX9_often_1 : decode cX9_often 1 = .ok (.invokestatic 190, 3) := by decide +kernel
theorem dX9_often_4 : decode cX9_often 4 = .ok (.ifCond .ne 9, 3) := by decide +kernel
theorem dX9_often_7 : decode cX9_often 7 = .ok (.aload_n 0, 1) := by decide +kernel
theorem dX9_often_8 : decode cX9_often 8 = .ok (.iconst 1, 1) := by decide +kernel
theorem dX9_often_9 : decode cX9_often 9 = .ok (.invokevirtual 80, 3) := by decide +kernel
theorem dX9_often_12 : decode cX9_often 12 = .ok (.ireturn, 1) := by decide +kernel
theorem dX9_often_13 : decode cX9_often 13 = .ok (.aload_n 0, 1) := by decide +kernel
theorem dX9_often_14 : decode cX9_often 14 = .ok (.getfield 29, 3) := by decide +kernel
theorem dX9_often_17 : decode cX9_often 17 = .ok (.iload_n 1, 1) := by decide +kernel
theorem dX9_often_18 : decode cX9_often 18 = .ok (.invokevirtual 123, 3) := by decide +kernel
theorem dX9_often_21 : decode cX9_often 21 = .ok (.astore_n 3, 1) := by decide +kernel
theorem dX9_often_22 : decode cX9_often 22 = .ok (.aload_n 3, 1) := by decide +kernel
theorem dX9_often_23 : decode cX9_often 23 = .ok (.ifnonnull 9, 3) := by decide +kernel
theorem dX9_often_26 : decode cX9_often 26 = .ok (.aload_n 0, 1) := by decide +kernel
theorem dX9_often_27 : decode cX9_often 27 = .ok (.iconst 2, 1) := by decide +kernel
theorem dX9_often_28 : decode cX9_often 28 = .ok (.invokevirtual 80, 3) := by decide +kernel
theorem dX9_often_31 : decode cX9_often 31 = .ok (.ireturn, 1) := by decide +kernel
theorem dX9_often_32 : decode cX9_often 32 = .ok (.aload_n 0, 1) := by decide +kernel
theorem dX9_often_33 : decode cX9_often 33 = .ok (.aload_n 3, 1) := by decide +kernel
theorem dX9_often_34 : decode cX9_often 34 = .ok (.iload_n 2, 1) := by decide +kernel
theorem dX9_often_35 : decode cX9_often 35 = .ok (.invokevirtual 205, 3) := by decide +kernel
theorem dX9_often_38 : decode cX9_often 38 = .ok (.invokevirtual 100, 3) := by decide +kernel
theorem dX9_often_41 : decode cX9_often 41 = .ok (.ireturn, 1) := by decide +kernel
def mwX9_often : List Cond := .code yX9_often cX9_often 4 (some .int) :: (([.methodLink RX9 190 yX9_isTriple, .static yX9_isTriple, .initialized RX9, .fieldLink RX9 29 "PatternGate" "book" "LPatternGate$Book;", .methodLink RX9 123 yX0_docAt, .instanceMethod yX0_docAt, .selects RX0 yX0_docAt yX0_docAt, .initialized RX0, .methodLink RX9 80 yX9_refuse, .instanceMethod yX9_refuse, .selects RX9 yX9_refuse yX9_refuse, .methodLink RX9 205 yX2_timesOf, .instanceMethod yX2_timesOf, .selects RX2 yX2_timesOf yX2_timesOf, .initialized RX2, .methodLink RX9 100 yX9_answer, .instanceMethod yX9_answer, .selects RX9 yX9_answer yX9_answer] : List Cond) ++ (wsX90 ++ (mwX9_isTriple ++ (mwX0_docAt ++ (mwX9_refuse ++ (mwX2_timesOf ++ (mwX9_answer)))))))
theorem fin_X9_often_X9 : ∀ w ∈ wsX90, w ∈ mwX9_often := fun w h => List.mem_cons_of_mem _ (List.mem_append_right _ (List.mem_append_left _ h))
set_option maxRecDepth 100000 in
theorem gd_mwX2_timesOf : mwX2_timesOf.all goodWord = true := by decide +kernel
set_option maxRecDepth 20000 in
theorem mg_X9_often_X9_isTriple_190 : GoodIn mwX9_often (va_wsS RX9 190 yX9_isTriple mwX9_isTriple) := gi_app (A := [.methodLink RX9 190 yX9_isTriple, .static yX9_isTriple, .initialized RX9]) (goodIn_r _ [1, 2, 3] (by decide +kernel) (by decide +kernel)) (gi_sub gd_mwX9_isTriple (fun w h => List.mem_cons_of_mem _ (List.mem_append_right _ (List.mem_append_right _ (List.mem_append_left _ h)))))
set_option maxRecDepth 20000 in
theorem mg_X9_often_X0_docAt_123 : GoodIn mwX9_often (wsV RX9 123 RX0 yX0_docAt mwX0_docAt) := gi_app (A := [.methodLink RX9 123 yX0_docAt, .instanceMethod yX0_docAt, .selects RX0 yX0_docAt yX0_docAt, .initialized RX0]) (goodIn_r _ [5, 6, 7, 8] (by decide +kernel) (by decide +kernel)) (gi_sub gd_mwX0_docAt (fun w h => List.mem_cons_of_mem _ (List.mem_append_right _ (List.mem_append_right _ (List.mem_append_right _ (List.mem_append_left _ h))))))
set_option maxRecDepth 20000 in
theorem mg_X9_often_X9_refuse_80 : GoodIn mwX9_often (wsV RX9 80 RX9 yX9_refuse mwX9_refuse) := gi_app (A := [.methodLink RX9 80 yX9_refuse, .instanceMethod yX9_refuse, .selects RX9 yX9_refuse yX9_refuse, .initialized RX9]) (goodIn_r _ [9, 10, 11, 3] (by decide +kernel) (by decide +kernel)) (gi_sub gd_mwX9_refuse (fun w h => List.mem_cons_of_mem _ (List.mem_append_right _ (List.mem_append_right _ (List.mem_append_right _ (List.mem_append_right _ (List.mem_append_left _ h)))))))
set_option maxRecDepth 20000 in
theorem mg_X9_often_X2_timesOf_205 : GoodIn mwX9_often (wsV RX9 205 RX2 yX2_timesOf mwX2_timesOf) := gi_app (A := [.methodLink RX9 205 yX2_timesOf, .instanceMethod yX2_timesOf, .selects RX2 yX2_timesOf yX2_timesOf, .initialized RX2]) (goodIn_r _ [12, 13, 14, 15] (by decide +kernel) (by decide +kernel)) (gi_sub gd_mwX2_timesOf (fun w h => List.mem_cons_of_mem _ (List.mem_append_right _ (List.mem_append_right _ (List.mem_append_right _ (List.mem_append_right _ (List.mem_append_right _ (List.mem_append_left _ h))))))))
set_option maxRecDepth 20000 in
theorem mg_X9_often_X9_answer_100 : GoodIn mwX9_often (wsV RX9 100 RX9 yX9_answer mwX9_answer) := gi_app (A := [.methodLink RX9 100 yX9_answer, .instanceMethod yX9_answer, .selects RX9 yX9_answer yX9_answer, .initialized RX9]) (goodIn_r _ [16, 17, 18, 3] (by decide +kernel) (by decide +kernel)) (gi_sub gd_mwX9_answer (fun w h => List.mem_cons_of_mem _ (List.mem_append_right _ (List.mem_append_right _ (List.mem_append_right _ (List.mem_append_right _ (List.mem_append_right _ (List.mem_append_right _ (h)))))))))
set_option maxHeartbeats 4000000 in
set_option maxRecDepth 100000 in
/-- gate: often -/
theorem s_g_often (l : Launch) (dC : Nat → ClassId) (dI : Nat → Nat → Nat) (W9 : va_W) (T9 : List (ClassId × FieldType)) (B9 : Nat → Prop) (gt tp bk mb mu rd cm wk pp so ty : Nat) (st9 td fk fpl un mk : Int32) (sz : Nat) (i1 i2 : Int32) (hB9 : gB W9 T9 B9) (hbk : B9 bk) : Met l yX9_often mwX9_often ({ frames := 2, cells := 0, slots := 0, locals := 120 }) (va_Pc [.ref gt, .int i1, .int i2] (fun U => U.heap.size = sz ∧ va_P (dC, dI) vwCl ([(gt, .inr (9, [.int st9, .ref tp, .int td, .int fk, .int fpl, .ref bk, .int un, .ref mb, .ref mu, .int mk, .ref rd, .ref cm, .ref wk, .ref pp, .ref so, .ref ty]))]) U.heap ∧ va_K (dC, dI) vwCl ([]) U ∧ va_D (fun _ => True) ([(gt, .inr (9, [.int st9, .ref tp, .int td, .int fk, .int fpl, .ref bk, .int un, .ref mb, .ref mu, .int mk, .ref rd, .ref cm, .ref wk, .ref pp, .ref so, .ref ty]))]) ∧ va_P (dC, dI) vwCl W9 U.heap ∧ va_K (dC, dI) vwCl T9 U ∧ (∀ q ∈ W9, ¬ va_A ([(gt, .inr (9, [.int st9, .ref tp, .int td, .int fk, .int fpl, .ref bk, .int un, .ref mb, .ref mu, .int mk, .ref rd, .ref cm, .ref wk, .ref pp, .ref so, .ref ty]))]) sz q.1))) (va_Qi (fun (_ : Int32) (_ : Unit) => True) (fun _ t => ∃ (y0 : Int32), va_P (dC, dI) vwCl [(gt, .inr (9, [.int y0, .ref tp, .int td, .int fk, .int fpl, .ref bk, .int un, .ref mb, .ref mu, .int mk, .ref rd, .ref cm, .ref wk, .ref pp, .ref so, .ref ty]))] t.heap ∧ va_K (dC, dI) vwCl [] t ∧ va_D (va_A ([(gt, .inr (9, [.int st9, .ref tp, .int td, .int fk, .int fpl, .ref bk, .int un, .ref mb, .ref mu, .int mk, .ref rd, .ref cm, .ref wk, .ref pp, .ref so, .ref ty]))]) sz) [(gt, .inr (9, [.int y0, .ref tp, .int td, .int fk, .int fpl, .ref bk, .int un, .ref mb, .ref mu, .int mk, .ref rd, .ref cm, .ref wk, .ref pp, .ref so, .ref ty]))]) (va_A ([(gt, .inr (9, [.int st9, .ref tp, .int td, .int fk, .int fpl, .ref bk, .int un, .ref mb, .ref mu, .int mk, .ref rd, .ref cm, .ref wk, .ref pp, .ref so, .ref ty]))]) sz)) 0 0 (va_A ([(gt, .inr (9, [.int st9, .ref tp, .int td, .int fk, .int fpl, .ref bk, .int un, .ref mb, .ref mu, .int mk, .ref rd, .ref cm, .ref wk, .ref pp, .ref so, .ref ty]))]) sz) := by
  refine Met.ofW (cc := cX9_often) (maxL := 4) (ret := (some .int)) (by decide +kernel) rfl ?_
  intro p e s m args below meth c s₁ B hml hv
  obtain ⟨rfl, hsz, hP, hK, hD0, hQ0, hKQ, hQA⟩ := hv
  have hx := B.exec
  have hb := B.bytes
  have hr := B.returns
  have hts := atoms_spec (ws := mwX9_often) B.pre
  have hown : s.vm.findClass RX9 = some m.cls := findClass_of_methodNamed B.named
  have hlocks := B.notSynchronized
  subst hsz
  have hD := hD0.self (sz := s.heap.size)
  generalize hAe : va_A ([(gt, .inr (9, [.int st9, .ref tp, .int td, .int fk, .int fpl, .ref bk, .int un, .ref mb, .ref mu, .int mk, .ref rd, .ref cm, .ref wk, .ref pp, .ref so, .ref ty]))]) s.heap.size = A at hD hQA ⊢
  have hA : ∀ q : Nat, s.heap.size ≤ q → A q := fun q h => by rw [← hAe]; exact Or.inr h
  have hP : va_P (dC, dI) vwCl [(gt, .inr (9, [.int st9, .ref tp, .int td, .int fk, .int fpl, .ref bk, .int un, .ref mb, .ref mu, .int mk, .ref rd, .ref cm, .ref wk, .ref pp, .ref so, .ref ty]))] s.heap := hP
  have hD : va_D A [(gt, .inr (9, [.int st9, .ref tp, .int td, .int fk, .int fpl, .ref bk, .int un, .ref mb, .ref mu, .int mk, .ref rd, .ref cm, .ref wk, .ref pp, .ref so, .ref ty]))] := hD
  have hK : va_K (dC, dI) vwCl [] s := hK
  generalize hH : s.heap = H at hP ⊢
  have hS : va_S A s.heap H [] := by rw [← hH]; exact va_S.rf
  have hQ := q_at hQ0 hQA hS
  have hl := lv_entry ([.ref gt, .int i1, .int i2]) (n := 4) (Nat.le_of_ble_eq_true rfl)
  rw [lg_entry_eq]
  generalize (lg_sl ([.ref gt, .int i1, .int i2]) ++ List.replicate (4 - (lg_sl ([.ref gt, .int i1, .int i2])).length) Slot.unset).toArray = ls at hl ⊢
  have hl : lv_has ls 4 [(0, .ref gt), (1, .int i1), (2, .int i2)] := hl
  have rg_i1 := i_rng i1
  have rg_i2 := i_rng i2
  obtain ⟨ear, hB3, hear⟩ := hB9 bk hbk
  have hB0 := hB3.poB
  obtain ⟨ds, ps, nd, np, fd, fp, cD, cP, m1, m2, m3, m4, m5, hnd, hnp, hds, hps⟩ := id hB3
  obtain ⟨k_1, hk_1⟩ := List.getElem?_of_mem m1
  obtain ⟨k_2, hk_2⟩ := List.getElem?_of_mem m2
  obtain ⟨j_3, hj_3⟩ := List.getElem?_of_mem m3
  obtain ⟨k_4, hk_4⟩ := List.getElem?_of_mem m4
  obtain ⟨j_5, hj_5⟩ := List.getElem?_of_mem m5
  have r_un := i_rng un
  have r_mk := i_rng mk
  have r_td := i_rng td
  refine lv_iload_n hx hb dX9_often_0 rfl (lv_at hl 2 rfl) ?_
  refine vp_callSi (W.runS (As := [.int i2]) (rest := []) ⟨hx, hb, hml, hown, hts⟩ (s_isTriple l dC dI i2) (va_cwS 1 hts mg_X9_often_X9_isTriple_190 rfl rfl rfl (by decide +kernel) ⟨Nat.le_of_ble_eq_true rfl, Nat.le_of_ble_eq_true rfl⟩) ⟨fun a U g mk q => ⟨q.1, trivial⟩, fun U hU hW => ⟨rfl, trivial⟩⟩ rfl rfl hl.1 rfl (lv_room (Nat.le_of_ble_eq_true rfl)) dX9_often_1 ⟨Nat.le_of_ble_eq_true rfl, Nat.le_of_ble_eq_true rfl⟩) (fun r_7 hw => ?_)
  refine lv_if_ne (tgt := 13) hx hb dX9_often_4 (by decide) (fun k_8 => ?_) (fun k_8 => ?_)
  · have tk_8 := c_ne (a := r_7.toInt) (b := 0) rfl (by decide) k_8
    refine lv_aload_n hx hb dX9_often_13 rfl (lv_at hl 0 rfl) ?_
    refine va_get (D := (dC, dI)) (ci := 9) (v := .ref bk) (C := RX9) (T := TX9) (N := 16) hx hb hts fin_X9_often_X9 hown hK hP 0 rfl rfl 5 (by decide) (hts (.fieldLink RX9 29 "PatternGate" "book" "LPatternGate$Book;") (List.mem_of_getElem? (i := 4) (by decide +kernel))) (fun _ h9 => h9) rfl dX9_often_14 ?_
    refine lv_iload_n hx hb dX9_often_17 rfl (lv_at hl 1 rfl) ?_
    have hPc := hQ
    have hKc := hKQ
    refine va_csq (W.runV (As := [.int i1]) (rest := []) ⟨hx, hb, hml, hown, hts⟩ (s_docAt l dC dI W9 T9 bk i1 hB0) (cwV 1 hts mg_X9_often_X0_docAt_123 rfl rfl rfl (by decide +kernel) ⟨Nat.le_of_ble_eq_true rfl, Nat.le_of_ble_eq_true rfl⟩) ⟨fun a U g mk q => by obtain ⟨q0, qP, qK⟩ := q; exact ⟨q0, qP, va_K.moved (u := U) (U := U.calling g mk a) (Vm.Alike.refl U.vm) qK⟩, va_recv hKc hPc (ci := 0) (q0 := k_1) rfl hk_1, fun U hU hW => ⟨rfl, by rw [hU]; exact hPc, va_K.moved hW.alike hKc⟩⟩ rfl rfl hl.1 rfl (lv_room (Nat.le_of_ble_eq_true rfl)) dX9_often_18 ⟨Nat.le_of_ble_eq_true rfl, Nat.le_of_ble_eq_true rfl⟩) (fun r_10 hw => ?_)
    rcases hw with rfl | ⟨d_11, rfl, hd_11⟩
    · refine W.eq (g2 := F0 m 21 ls [.null]) rfl ?_
      refine lv_astore_nN (lv' := [(3, .null), (0, .ref gt), (1, .int i1), (2, .int i2)]) hx hb dX9_often_21 rfl hl (by decide) rfl (fun ls hl => ?_)
      refine lv_aload_nN hx hb dX9_often_22 rfl (lv_at hl 0 rfl) ?_
      refine lv_ifnonnullN hx hb dX9_often_23 ?_
      refine lv_aload_n hx hb dX9_often_26 rfl (lv_at hl 1 rfl) ?_
      refine lv_iconst (v := 2) hx hb dX9_often_27 (by decide) ?_
      have hPc := hP.sub (ws' := [(gt, .inr (9, [.int st9, .ref tp, .int td, .int fk, .int fpl, .ref bk, .int un, .ref mb, .ref mu, .int mk, .ref rd, .ref cm, .ref wk, .ref pp, .ref so, .ref ty]))]) [0] rfl
      have hKc := hK.sub (tys' := []) [] rfl
      have hDc := hD.sub (ws' := [(gt, .inr (9, [.int st9, .ref tp, .int td, .int fk, .int fpl, .ref bk, .int un, .ref mb, .ref mu, .int mk, .ref rd, .ref cm, .ref wk, .ref pp, .ref so, .ref ty]))]) [0] (by decide) rfl
      have hFc := va_free (wc := [(gt, .inr (9, [.int st9, .ref tp, .int td, .int fk, .int fpl, .ref bk, .int un, .ref mb, .ref mu, .int mk, .ref rd, .ref cm, .ref wk, .ref pp, .ref so, .ref ty]))]) hD hS hA [0] rfl
      refine va_calli (va_runV (As := [.int 2]) (rest := []) ⟨hx, hb, hml, hown, hts⟩ (s_refuse l dC dI gt tp bk mb mu rd cm wk pp so ty st9 td fk fpl un mk H.size 2) (cwV 1 hts mg_X9_often_X9_refuse_80 rfl rfl rfl (by decide +kernel) ⟨Nat.le_of_ble_eq_true rfl, Nat.le_of_ble_eq_true rfl⟩) ⟨fun a U g mk q => by obtain ⟨q0, q1, qP, qK, qD⟩ := q; exact ⟨q0, q1, qP, va_K.moved (u := U) (U := U.calling g mk a) (Vm.Alike.refl U.vm) qK, qD⟩, va_recv hKc hPc (ci := 9) (q0 := 0) rfl rfl, fun U hU hW => ⟨rfl, by rw [hU], by rw [hU]; exact hPc, va_K.moved hW.alike hKc, hDc.weaken (fun _ _ _ _ => trivial)⟩⟩ rfl rfl hl.1 rfl (lv_room (Nat.le_of_ble_eq_true rfl)) dX9_often_28 ⟨Nat.le_of_ble_eq_true rfl, Nat.le_of_ble_eq_true rfl⟩) hS (fun q _ h => hFc q h) hFc (fun r_13 u t H1 locs ht hvm hw hB hz1 hk1 hS => ?_)
      obtain ⟨hP1, hK1, hD1⟩ := hB
      rw [ht] at hP1
      have hr_13 := hw
      obtain ⟨hP, hD⟩ := va_join (wr := []) (w1 := [(gt, .inr (9, [.int 2, .ref tp, .int td, .int fk, .int fpl, .ref bk, .int un, .ref mb, .ref mu, .int mk, .ref rd, .ref cm, .ref wk, .ref pp, .ref so, .ref ty]))]) hP hD [0] [] rfl rfl (by decide) (by decide) hk1 hFc hP1 hD1
      generalize H1 = H at hP hS ⊢
      have hP : va_P (dC, dI) vwCl [(gt, .inr (9, [.int 2, .ref tp, .int td, .int fk, .int fpl, .ref bk, .int un, .ref mb, .ref mu, .int mk, .ref rd, .ref cm, .ref wk, .ref pp, .ref so, .ref ty]))] H := hP
      have hD : va_D A [(gt, .inr (9, [.int 2, .ref tp, .int td, .int fk, .int fpl, .ref bk, .int un, .ref mb, .ref mu, .int mk, .ref rd, .ref cm, .ref wk, .ref pp, .ref so, .ref ty]))] := hD
      have hQ := q_at hQ0 hQA hS
      have hP9 := hP.sub (ws' := [(gt, .inr (9, [.int 2, .ref tp, .int td, .int fk, .int fpl, .ref bk, .int un, .ref mb, .ref mu, .int mk, .ref rd, .ref cm, .ref wk, .ref pp, .ref so, .ref ty]))]) [0] rfl
      have hD9 := hD.sub (ws' := [(gt, .inr (9, [.int 2, .ref tp, .int td, .int fk, .int fpl, .ref bk, .int un, .ref mb, .ref mu, .int mk, .ref rd, .ref cm, .ref wk, .ref pp, .ref so, .ref ty]))]) [0] (by decide) rfl
      have hK9 := hK.sub (tys' := []) [] rfl
      exact W.iret hx hb hr (fun t ht hW => ⟨⟨_, (), rfl, trivial, 2, by rw [ht]; exact hP9, va_K.moved hW.alike hK9, hD9⟩, hS.F ht⟩) hS.2.2 dX9_often_31
    · refine W.eq (g2 := F0 m 21 ls [.ref d_11]) rfl ?_
      have hd_11D := hd_11
      obtain ⟨la_14, ta_15, m_16, n_17, fl_18, ft_19, cI_20, cJ_21, m_22, ⟨m_23, m_24⟩, ⟨m_25, m_26⟩, m_27, m_28⟩ := hd_11
      obtain ⟨k_29, hk_29⟩ := List.getElem?_of_mem m_22
      obtain ⟨k_30, hk_30⟩ := List.getElem?_of_mem m_23
      obtain ⟨j_31, hj_31⟩ := List.getElem?_of_mem m_24
      obtain ⟨k_32, hk_32⟩ := List.getElem?_of_mem m_25
      obtain ⟨j_33, hj_33⟩ := List.getElem?_of_mem m_26
      refine lv_astore_n (lv' := [(3, .ref d_11), (0, .ref gt), (1, .int i1), (2, .int i2)]) hx hb dX9_often_21 rfl hl (by decide) rfl (fun ls hl => ?_)
      refine lv_aload_n hx hb dX9_often_22 rfl (lv_at hl 0 rfl) ?_
      refine lv_ifnonnull (tgt := 32) hx hb dX9_often_23 (by decide) ?_
      refine lv_aload_n hx hb dX9_often_32 rfl (lv_at hl 1 rfl) ?_
      refine lv_aload_n hx hb dX9_often_33 rfl (lv_at hl 0 rfl) ?_
      refine lv_iload_n hx hb dX9_often_34 rfl (lv_at hl 3 rfl) ?_
      have hPc : va_P (dC, dI) vwCl [(d_11, .inr (2, [.ref la_14, .ref ta_15])), (la_14, .inl (cI_20, m_16, .inl fl_18)), (ta_15, .inl (cJ_21, n_17, .inl ft_19))] H := p_sub hQ (List.forall_mem_cons.mpr ⟨m_22, List.forall_mem_cons.mpr ⟨m_23, List.forall_mem_cons.mpr ⟨m_25, fun _ h => absurd h List.not_mem_nil⟩⟩⟩)
      have hKc : va_K (dC, dI) vwCl [(cI_20, .int), (cJ_21, .int)] s := k_sub hKQ (List.forall_mem_cons.mpr ⟨m_24, List.forall_mem_cons.mpr ⟨m_26, fun _ h => absurd h List.not_mem_nil⟩⟩)
      refine vp_callSi (W.runV (As := [.int i2]) (rest := [.ref gt]) ⟨hx, hb, hml, hown, hts⟩ (s_Doc_timesOf l dC dI d_11 la_14 ta_15 m_16 n_17 fl_18 ft_19 cI_20 cJ_21 i2 (by omega) (by omega)) (cwV 1 hts mg_X9_often_X2_timesOf_205 rfl rfl rfl (by decide +kernel) ⟨Nat.le_of_ble_eq_true rfl, Nat.le_of_ble_eq_true rfl⟩) ⟨fun a U g mk q => by obtain ⟨q0, qP, qK⟩ := q; exact ⟨q0, qP, va_K.moved (u := U) (U := U.calling g mk a) (Vm.Alike.refl U.vm) qK⟩, va_recv hKc hPc (ci := 2) (q0 := 0) rfl rfl, fun U hU hW => ⟨rfl, by rw [hU]; exact hPc, va_K.moved hW.alike hKc⟩⟩ rfl rfl hl.1 rfl (lv_room (Nat.le_of_ble_eq_true rfl)) dX9_often_35 ⟨Nat.le_of_ble_eq_true rfl, Nat.le_of_ble_eq_true rfl⟩) (fun r_35 hw => ?_)
      have hPc := hP.sub (ws' := [(gt, .inr (9, [.int st9, .ref tp, .int td, .int fk, .int fpl, .ref bk, .int un, .ref mb, .ref mu, .int mk, .ref rd, .ref cm, .ref wk, .ref pp, .ref so, .ref ty]))]) [0] rfl
      have hKc := hK.sub (tys' := []) [] rfl
      have hDc := hD.sub (ws' := [(gt, .inr (9, [.int st9, .ref tp, .int td, .int fk, .int fpl, .ref bk, .int un, .ref mb, .ref mu, .int mk, .ref rd, .ref cm, .ref wk, .ref pp, .ref so, .ref ty]))]) [0] (by decide) rfl
      have hFc := va_free (wc := [(gt, .inr (9, [.int st9, .ref tp, .int td, .int fk, .int fpl, .ref bk, .int un, .ref mb, .ref mu, .int mk, .ref rd, .ref cm, .ref wk, .ref pp, .ref so, .ref ty]))]) hD hS hA [0] rfl
      refine va_calli (va_runV (As := [.int r_35]) (rest := []) ⟨hx, hb, hml, hown, hts⟩ (s_answer l dC dI gt tp bk mb mu rd cm wk pp so ty st9 td fk fpl un mk H.size r_35) (cwV 1 hts mg_X9_often_X9_answer_100 rfl rfl rfl (by decide +kernel) ⟨Nat.le_of_ble_eq_true rfl, Nat.le_of_ble_eq_true rfl⟩) ⟨fun a U g mk q => by obtain ⟨q0, q1, qP, qK, qD⟩ := q; exact ⟨q0, q1, qP, va_K.moved (u := U) (U := U.calling g mk a) (Vm.Alike.refl U.vm) qK, qD⟩, va_recv hKc hPc (ci := 9) (q0 := 0) rfl rfl, fun U hU hW => ⟨rfl, by rw [hU], by rw [hU]; exact hPc, va_K.moved hW.alike hKc, hDc.weaken (fun _ _ _ _ => trivial)⟩⟩ rfl rfl hl.1 rfl (lv_room (Nat.le_of_ble_eq_true rfl)) dX9_often_38 ⟨Nat.le_of_ble_eq_true rfl, Nat.le_of_ble_eq_true rfl⟩) hS (fun q _ h => hFc q h) hFc (fun r_37 u t H1 locs ht hvm hw hB hz1 hk1 hS => ?_)
      obtain ⟨hP1, hK1, hD1⟩ := hB
      rw [ht] at hP1
      have hr_37 := hw
      obtain ⟨hP, hD⟩ := va_join (wr := []) (w1 := [(gt, .inr (9, [.int 0, .ref tp, .int td, .int fk, .int fpl, .ref bk, .int un, .ref mb, .ref mu, .int mk, .ref rd, .ref cm, .ref wk, .ref pp, .ref so, .ref ty]))]) hP hD [0] [] rfl rfl (by decide) (by decide) hk1 hFc hP1 hD1
      generalize H1 = H at hP hS ⊢
      have hP : va_P (dC, dI) vwCl [(gt, .inr (9, [.int 0, .ref tp, .int td, .int fk, .int fpl, .ref bk, .int un, .ref mb, .ref mu, .int mk, .ref rd, .ref cm, .ref wk, .ref pp, .ref so, .ref ty]))] H := hP
      have hD : va_D A [(gt, .inr (9, [.int 0, .ref tp, .int td, .int fk, .int fpl, .ref bk, .int un, .ref mb, .ref mu, .int mk, .ref rd, .ref cm, .ref wk, .ref pp, .ref so, .ref ty]))] := hD
      have hQ := q_at hQ0 hQA hS
      have hP9 := hP.sub (ws' := [(gt, .inr (9, [.int 0, .ref tp, .int td, .int fk, .int fpl, .ref bk, .int un, .ref mb, .ref mu, .int mk, .ref rd, .ref cm, .ref wk, .ref pp, .ref so, .ref ty]))]) [0] rfl
      have hD9 := hD.sub (ws' := [(gt, .inr (9, [.int 0, .ref tp, .int td, .int fk, .int fpl, .ref bk, .int un, .ref mb, .ref mu, .int mk, .ref rd, .ref cm, .ref wk, .ref pp, .ref so, .ref ty]))]) [0] (by decide) rfl
      have hK9 := hK.sub (tys' := []) [] rfl
      exact W.iret hx hb hr (fun t ht hW => ⟨⟨_, (), rfl, trivial, 0, by rw [ht]; exact hP9, va_K.moved hW.alike hK9, hD9⟩, hS.F ht⟩) hS.2.2 dX9_often_41
  · have tk_8 := c_eq (a := r_7.toInt) (b := 0) rfl (by decide) k_8
    refine lv_aload_n hx hb dX9_often_7 rfl (lv_at hl 0 rfl) ?_
    refine lv_iconst (v := 1) hx hb dX9_often_8 (by decide) ?_
    have hPc := hP.sub (ws' := [(gt, .inr (9, [.int st9, .ref tp, .int td, .int fk, .int fpl, .ref bk, .int un, .ref mb, .ref mu, .int mk, .ref rd, .ref cm, .ref wk, .ref pp, .ref so, .ref ty]))]) [0] rfl
    have hKc := hK.sub (tys' := []) [] rfl
    have hDc := hD.sub (ws' := [(gt, .inr (9, [.int st9, .ref tp, .int td, .int fk, .int fpl, .ref bk, .int un, .ref mb, .ref mu, .int mk, .ref rd, .ref cm, .ref wk, .ref pp, .ref so, .ref ty]))]) [0] (by decide) rfl
    have hFc := va_free (wc := [(gt, .inr (9, [.int st9, .ref tp, .int td, .int fk, .int fpl, .ref bk, .int un, .ref mb, .ref mu, .int mk, .ref rd, .ref cm, .ref wk, .ref pp, .ref so, .ref ty]))]) hD hS hA [0] rfl
    refine va_calli (va_runV (As := [.int 1]) (rest := []) ⟨hx, hb, hml, hown, hts⟩ (s_refuse l dC dI gt tp bk mb mu rd cm wk pp so ty st9 td fk fpl un mk H.size 1) (cwV 1 hts mg_X9_often_X9_refuse_80 rfl rfl rfl (by decide +kernel) ⟨Nat.le_of_ble_eq_true rfl, Nat.le_of_ble_eq_true rfl⟩) ⟨fun a U g mk q => by obtain ⟨q0, q1, qP, qK, qD⟩ := q; exact ⟨q0, q1, qP, va_K.moved (u := U) (U := U.calling g mk a) (Vm.Alike.refl U.vm) qK, qD⟩, va_recv hKc hPc (ci := 9) (q0 := 0) rfl rfl, fun U hU hW => ⟨rfl, by rw [hU], by rw [hU]; exact hPc, va_K.moved hW.alike hKc, hDc.weaken (fun _ _ _ _ => trivial)⟩⟩ rfl rfl hl.1 rfl (lv_room (Nat.le_of_ble_eq_true rfl)) dX9_often_9 ⟨Nat.le_of_ble_eq_true rfl, Nat.le_of_ble_eq_true rfl⟩) hS (fun q _ h => hFc q h) hFc (fun r_39 u t H1 locs ht hvm hw hB hz1 hk1 hS => ?_)
    obtain ⟨hP1, hK1, hD1⟩ := hB
    rw [ht] at hP1
    have hr_39 := hw
    obtain ⟨hP, hD⟩ := va_join (wr := []) (w1 := [(gt, .inr (9, [.int 1, .ref tp, .int td, .int fk, .int fpl, .ref bk, .int un, .ref mb, .ref mu, .int mk, .ref rd, .ref cm, .ref wk, .ref pp, .ref so, .ref ty]))]) hP hD [0] [] rfl rfl (by decide) (by decide) hk1 hFc hP1 hD1
    generalize H1 = H at hP hS ⊢
    have hP : va_P (dC, dI) vwCl [(gt, .inr (9, [.int 1, .ref tp, .int td, .int fk, .int fpl, .ref bk, .int un, .ref mb, .ref mu, .int mk, .ref rd, .ref cm, .ref wk, .ref pp, .ref so, .ref ty]))] H := hP
    have hD : va_D A [(gt, .inr (9, [.int 1, .ref tp, .int td, .int fk, .int fpl, .ref bk, .int un, .ref mb, .ref mu, .int mk, .ref rd, .ref cm, .ref wk, .ref pp, .ref so, .ref ty]))] := hD
    have hQ := q_at hQ0 hQA hS
    have hP9 := hP.sub (ws' := [(gt, .inr (9, [.int 1, .ref tp, .int td, .int fk, .int fpl, .ref bk, .int un, .ref mb, .ref mu, .int mk, .ref rd, .ref cm, .ref wk, .ref pp, .ref so, .ref ty]))]) [0] rfl
    have hD9 := hD.sub (ws' := [(gt, .inr (9, [.int 1, .ref tp, .int td, .int fk, .int fpl, .ref bk, .int un, .ref mb, .ref mu, .int mk, .ref rd, .ref cm, .ref wk, .ref pp, .ref so, .ref ty]))]) [0] (by decide) rfl
    have hK9 := hK.sub (tys' := []) [] rfl
    exact W.iret hx hb hr (fun t ht hW => ⟨⟨_, (), rfl, trivial, 1, by rw [ht]; exact hP9, va_K.moved hW.alike hK9, hD9⟩, hS.F ht⟩) hS.2.2 dX9_often_12
def mwX5_firstMatchIn2 : List Cond := .code yX5_firstMatchIn cX5_firstMatchIn 3 (some .int) :: (([.fieldLink RX5 100 "PatternGate$Doc" "letters" "[I", .methodLink RX5 112 yX5_longestFrom, .instanceMethod yX5_longestFrom, .selects RX5 yX5_longestFrom yX5_longestFrom, .initialized RX5] : List Cond) ++ (wsX20 ++ (mwX5_longestFrom)))
theorem fin_X5_firstMatchIn2_X2 : ∀ w ∈ wsX20, w ∈ mwX5_firstMatchIn2 := fun w h => List.mem_cons_of_mem _ (List.mem_append_right _ (List.mem_append_left _ h))
set_option maxRecDepth 100000 in
theorem gd_mwX5_longestFrom : mwX5_longestFrom.all goodWord = true := by decide +kernel
set_option maxRecDepth 20000 in
theorem mg_X5_firstMatchIn2_X5_longestFrom_112 : GoodIn mwX5_firstMatchIn2 (wsV RX5 112 RX5 yX5_longestFrom mwX5_longestFrom) := gi_app (A := [.methodLink RX5 112 yX5_longestFrom, .instanceMethod yX5_longestFrom, .selects RX5 yX5_longestFrom yX5_longestFrom, .initialized RX5]) (goodIn_r _ [2, 3, 4, 5] (by decide +kernel) (by decide +kernel)) (gi_sub gd_mwX5_longestFrom (fun w h => List.mem_cons_of_mem _ (List.mem_append_right _ (List.mem_append_right _ (h)))))
set_option maxHeartbeats 4000000 in
set_option maxRecDepth 100000 in
/-- Pattern.firstMatchIn, no less than -1 -/
theorem s_firstMatchIn2 (l : Launch) (dC : Nat → ClassId) (dI : Nat → Nat → Nat) (pt : Nat) (q : Nat → Nat) (a0 a1 a2 a3 a4 a5 : Int32) (nf : Nat) (ff : Nat → Int32) (cF : ClassId) (nk : Nat) (fk : Nat → Int32) (cK : ClassId) (d la ta mm : Nat) (fl : Nat → Int32) (cI : ClassId) (hf : nf ≤ 1000) (hk : nk ≤ 1000) (hm : mm ≤ 1000) : Met l yX5_firstMatchIn mwX5_firstMatchIn2 ({ frames := 2, cells := 0, slots := 0, locals := 120 }) (va_Pc [.ref pt, .ref d] (fun U => va_P (dC, dI) vwCl ([(pt, .inr (5, pF q a0 a1 a2 a3 a4 a5)), (q 1, .inl (cF, nf, .inl ff)), (q 2, .inl (cK, nk, .inl fk)), (d, .inr (2, [.ref la, .ref ta])), (la, .inl (cI, mm, .inl fl))]) U.heap ∧ va_K (dC, dI) vwCl ([(cF, .int), (cK, .int), (cI, .int)]) U)) (vp_Si (fun o => -1 ≤ o.toInt)) 0 0 (fun _ => False) := by
  refine Met.ofW (cc := cX5_firstMatchIn) (maxL := 3) (ret := (some .int)) (by decide +kernel) rfl ?_
  intro p e s m args below meth c s₁ B hml hv
  obtain ⟨rfl, hP, hK⟩ := hv
  have hx := B.exec
  have hb := B.bytes
  have hr := B.returns
  have hts := atoms_spec (ws := mwX5_firstMatchIn2) B.pre
  have hown : s.vm.findClass RX5 = some m.cls := findClass_of_methodNamed B.named
  have hlocks := B.notSynchronized
  have hP : va_P (dC, dI) vwCl [(pt, .inr (5, pF q a0 a1 a2 a3 a4 a5)), (q 1, .inl (cF, nf, .inl ff)), (q 2, .inl (cK, nk, .inl fk)), (d, .inr (2, [.ref la, .ref ta])), (la, .inl (cI, mm, .inl fl))] s.heap := hP
  have hK : va_K (dC, dI) vwCl [(cF, .int), (cK, .int), (cI, .int)] s := hK
  generalize hH : s.heap = H at hP ⊢
  have hl := lv_entry ([.ref pt, .ref d]) (n := 3) (Nat.le_of_ble_eq_true rfl)
  rw [lg_entry_eq]
  generalize (lg_sl ([.ref pt, .ref d]) ++ List.replicate (3 - (lg_sl ([.ref pt, .ref d])).length) Slot.unset).toArray = ls at hl ⊢
  have hl : lv_has ls 3 [(0, .ref pt), (1, .ref d)] := hl
  refine lv_iconst (v := 0) hx hb dX5_firstMatchIn_0 (by decide) ?_
  refine lv_istore_n (lv' := [(2, .int 0), (0, .ref pt), (1, .ref d)]) hx hb dX5_firstMatchIn_1 rfl hl (by decide) rfl (fun ls hl => ?_)
  have loop2 : ∀ (n2 : Nat) (pl : Int32), (0 ≤ pl.toInt) → (((mm : Int) + 1 - pl.toInt).toNat) < n2 → ∀ (ls : Array Slot), lv_has ls 3 [(2, .int pl), (0, .ref pt), (1, .ref d)] → W p l e (headSpec mwX5_firstMatchIn2 ({ frames := 2, cells := 0, slots := 0, locals := 120 })).room s m ([.ref pt, .ref d]).toArray below meth c H [] 0 0 (MQ below (vp_Si (fun o => -1 ≤ o.toInt)) ([.ref pt, .ref d]).toArray s 0 0 (fun _ => False)) (F0 m 2 ls []) := by
    intro n2
    induction n2 with
    | zero => intro pl v2_0 hm2; exact absurd hm2 (Nat.not_lt_zero _)
    | succ n2 ih2 =>
      intro pl v2_0 hm2 ls hl
      have rg_pl := i_rng pl
      refine lv_iload_n hx hb dX5_firstMatchIn_2 rfl (lv_at hl 0 rfl) ?_
      refine lv_aload_n hx hb dX5_firstMatchIn_3 rfl (lv_at hl 2 rfl) ?_
      refine va_get (D := (dC, dI)) (ci := 2) (v := .ref la) (C := RX2) (T := TX2) (N := 2) hx hb hts fin_X5_firstMatchIn2_X2 hown hK hP 3 rfl rfl 0 (by decide) (hts (.fieldLink RX5 100 "PatternGate$Doc" "letters" "[I") (List.mem_of_getElem? (i := 1) (by decide +kernel))) (fun _ h9 => h9) rfl dX5_firstMatchIn_4 ?_
      refine va_alen hx hb hK hP 4 2 rfl rfl rfl dX5_firstMatchIn_7 ?_
      refine lv_topi (fun y_1 ey_1 => ?_)
      have ty_1 : y_1.toInt = (mm : Int) := i_len ey_1 (by omega)
      refine lv_icmp_gt (tgt := 29) hx hb dX5_firstMatchIn_8 (by decide) (fun k_2 => ?_) (fun k_2 => ?_)
      · have tk_2 := c_gt (a := pl.toInt) (b := y_1.toInt) rfl rfl k_2
        refine lv_iconst (v := (-1)) hx hb dX5_firstMatchIn_29 (by decide) ?_
        exact W.iret hx hb hr (fun t ht hW => ⟨_, rfl, (by first | omega | decide), ht.trans hH.symm⟩) t_nil dX5_firstMatchIn_30
      · have tk_2 := c_ngt (a := pl.toInt) (b := y_1.toInt) rfl rfl k_2
        refine lv_aload_n hx hb dX5_firstMatchIn_11 rfl (lv_at hl 1 rfl) ?_
        refine lv_aload_n hx hb dX5_firstMatchIn_12 rfl (lv_at hl 2 rfl) ?_
        refine lv_iload_n hx hb dX5_firstMatchIn_13 rfl (lv_at hl 0 rfl) ?_
        have hPc := hP.sub (ws' := [(pt, .inr (5, pF q a0 a1 a2 a3 a4 a5)), (q 1, .inl (cF, nf, .inl ff)), (q 2, .inl (cK, nk, .inl fk)), (d, .inr (2, [.ref la, .ref ta])), (la, .inl (cI, mm, .inl fl))]) [0, 1, 2, 3, 4] rfl
        have hKc := hK.sub (tys' := [(cF, .int), (cK, .int), (cI, .int)]) [0, 1, 2] rfl
        refine vp_callSi (W.runV (As := [.ref d, .int pl]) (rest := []) ⟨hx, hb, hml, hown, hts⟩ (s_longestFrom l dC dI pt q a0 a1 a2 a3 a4 a5 nf ff cF nk fk cK d la ta mm fl cI pl (by omega) (by omega) (by omega) (by omega)) (cwV 2 hts mg_X5_firstMatchIn2_X5_longestFrom_112 rfl rfl rfl (by decide +kernel) ⟨Nat.le_of_ble_eq_true rfl, Nat.le_of_ble_eq_true rfl⟩) ⟨fun a U g mk q => by obtain ⟨q0, qP, qK⟩ := q; exact ⟨q0, qP, va_K.moved (u := U) (U := U.calling g mk a) (Vm.Alike.refl U.vm) qK⟩, va_recv hKc hPc (ci := 5) (q0 := 0) rfl rfl, fun U hU hW => ⟨rfl, by rw [hU]; exact hPc, va_K.moved hW.alike hKc⟩⟩ rfl rfl hl.1 rfl (lv_room (Nat.le_of_ble_eq_true rfl)) dX5_firstMatchIn_14 ⟨Nat.le_of_ble_eq_true rfl, Nat.le_of_ble_eq_true rfl⟩) (fun r_4 hw => ?_)
        have hr_4 := hw
        refine lv_iconst (v := (-1)) hx hb dX5_firstMatchIn_17 (by decide) ?_
        refine lv_icmp_eq (tgt := 23) hx hb dX5_firstMatchIn_18 (by decide) (fun k_5 => ?_) (fun k_5 => ?_)
        · have tk_5 := c_eq (a := r_4.toInt) (b := (-1)) rfl (by decide) k_5
          obtain ⟨y_6, ey_6⟩ : ∃ y : Int32, y = pl + 1 := ⟨_, rfl⟩
          first | have ty_6 := i_add (a := pl.toInt) (b := 1) rfl (by decide) ey_6 (by omega) (by omega) | skip
          refine lv_iinc (v := y_6) (lv' := [(2, .int y_6), (0, .ref pt), (1, .ref d)]) hx hb dX5_firstMatchIn_23 hl (k := 0) rfl (by rw [ey_6]; rfl) (by decide) rfl (fun ls hl => ?_)
          refine lv_goto (tgt := 2) hx hb dX5_firstMatchIn_26 (by decide) ?_
          exact ih2 y_6 (by first | omega | decide | assumption) (by omega) ls (lv_sub hl [0, 1, 2] rfl)
        · have tk_5 := c_ne (a := r_4.toInt) (b := (-1)) rfl (by decide) k_5
          refine lv_iload_n hx hb dX5_firstMatchIn_21 rfl (lv_at hl 0 rfl) ?_
          exact W.iret hx hb hr (fun t ht hW => ⟨_, rfl, (by first | omega | decide), ht.trans hH.symm⟩) t_nil dX5_firstMatchIn_22
  have lit_6 : (0 : Int32).toInt = 0 := by decide
  exact loop2 _ 0 (by first | omega | decide | assumption) (Nat.lt_succ_self _) ls (lv_sub hl [0, 1, 2] rfl)
theorem dX9_match_0 : decode cX9_match 0 = .ok (.iload_n 3, 1) := by decide +kernel
theorem dX9_match_1 : decode cX9_match 1 = .ok (.ifCond .lt 8, 3) := by decide +kernel
theorem dX9_match_4 : decode cX9_match 4 = .ok (.iload_n 3, 1) := by decide +kernel
theorem dX9_match_5 : decode cX9_match 5 = .ok (.iconst 2, 1) := by decide +kernel
theorem dX9_match_6 : decode cX9_match 6 = .ok (.if_icmp .le 9, 3) := by decide +kernel
theorem dX9_match_9 : decode cX9_match 9 = .ok (.aload_n 0, 1) := by decide +kernel
theorem dX9_match_10 : decode cX9_match 10 = .ok (.iconst 1, 1) := by decide +kernel
theorem dX9_match_11 : decode cX9_match 11 = .ok (.invokevirtual 80, 3) := by decide +kernel
theorem dX9_match_14 : decode cX9_match 14 = .ok (.ireturn, 1) := by decide +kernel
theorem dX9_match_15 : decode cX9_match 15 = .ok (.aload_n 0, 1) := by decide +kernel
theorem dX9_match_16 : decode cX9_match 16 = .ok (.getfield 29, 3) := by decide +kernel
theorem dX9_match_19 : decode cX9_match 19 = .ok (.iload_n 1, 1) := by decide +kernel
theorem dX9_match_20 : decode cX9_match 20 = .ok (.invokevirtual 140, 3) := by decide +kernel
theorem dX9_match_23 : decode cX9_match 23 = .ok (.astore 4, 2) := by decide +kernel
theorem dX9_match_25 : decode cX9_match 25 = .ok (.aload_n 0, 1) := by decide +kernel
theorem dX9_match_26 : decode cX9_match 26 = .ok (.getfield 29, 3) := by decide +kernel
theorem dX9_match_29 : decode cX9_match 29 = .ok (.iload_n 2, 1) := by decide +kernel
theorem dX9_match_30 : decode cX9_match 30 = .ok (.invokevirtual 123, 3) := by decide +kernel
theorem dX9_match_33 : decode cX9_match 33 = .ok (.astore 5, 2) := by decide +kernel
theorem dX9_match_35 : decode cX9_match 35 = .ok (.aload 4, 2) := by decide +kernel
theorem dX9_match_37 : decode cX9_match 37 = .ok (.ifnull 8, 3) := by decide +kernel
theorem dX9_match_40 : decode cX9_match 40 = .ok (.aload 5, 2) := by decide +kernel
theorem dX9_match_42 : decode cX9_match 42 = .ok (.ifnonnull 9, 3) := by decide +kernel
theorem dX9_match_45 : decode cX9_match 45 = .ok (.aload_n 0, 1) := by decide +kernel
theorem dX9_match_46 : decode cX9_match 46 = .ok (.iconst 2, 1) := by decide +kernel
theorem dX9_match_47 : decode cX9_match 47 = .ok (.invokevirtual 80, 3) := by decide +kernel
theorem dX9_match_50 : decode cX9_match 50 = .ok (.ireturn, 1) := by decide +kernel
theorem dX9_match_51 : decode cX9_match 51 = .ok (.iload_n 3, 1) := by decide +kernel
theorem dX9_match_52 : decode cX9_match 52 = .ok (.iconst 2, 1) := by decide +kernel
theorem dX9_match_53 : decode cX9_match 53 = .ok (.if_icmp .ne 15, 3) := by decide +kernel
theorem dX9_match_56 : decode cX9_match 56 = .ok (.aload_n 0, 1) := by decide +kernel
theorem dX9_match_57 : decode cX9_match 57 = .ok (.aload 4, 2) := by decide +kernel
theorem dX9_match_59 : decode cX9_match 59 = .ok (.aload 5, 2) := by decide +kernel
theorem dX9_match_61 : decode cX9_match 61 = .ok (.invokevirtual 222, 3) := by decide +kernel
theorem dX9_match_64 : decode cX9_match 64 = .ok (.invokevirtual 100, 3) := by decide +kernel
theorem dX9_match_67 : decode cX9_match 67 = .ok (.ireturn, 1) := by decide +kernel
theorem dX9_match_68 : decode cX9_match 68 = .ok (.aload 4, 2) := by decide +kernel
theorem dX9_match_70 : decode cX9_match 70 = .ok (.aload 5, 2) := by decide +kernel
theorem dX9_match_72 : decode cX9_match 72 = .ok (.invokevirtual 225, 3) := by decide +kernel
theorem dX9_match_75 : decode cX9_match 75 = .ok (.istore 6, 2) := by decide +kernel
theorem dX9_match_77 : decode cX9_match 77 = .ok (.iload 6, 2) := by decide +kernel
theorem dX9_match_79 : decode cX9_match 79 = .ok (.iconst (-1), 1) := by decide +kernel
theorem dX9_match_80 : decode cX9_match 80 = .ok (.if_icmp .ne 9, 3) := by decide +kernel
theorem dX9_match_83 : decode cX9_match 83 = .ok (.aload_n 0, 1) := by decide +kernel
theorem dX9_match_84 : decode cX9_match 84 = .ok (.iconst 5, 1) := by decide +kernel
theorem dX9_match_85 : decode cX9_match 85 = .ok (.invokevirtual 80, 3) := by decide +kernel
theorem dX9_match_88 : decode cX9_match 88 = .ok (.ireturn, 1) := by decide +kernel
theorem dX9_match_89 : decode cX9_match 89 = .ok (.aload_n 0, 1) := by decide +kernel
theorem dX9_match_90 : decode cX9_match 90 = .ok (.iload_n 3, 1) := by decide +kernel
theorem dX9_match_91 : decode cX9_match 91 = .ok (.ifCond .ne 8, 3) := by decide +kernel
theorem dX9_match_94 : decode cX9_match 94 = .ok (.iload 6, 2) := by decide +kernel
theorem dX9_match_96 : decode cX9_match 96 = .ok (.goto 12, 3) := by decide +kernel
theorem dX9_match_99 : decode cX9_match 99 = .ok (.aload 4, 2) := by decide +kernel
theorem dX9_match_101 : decode cX9_match 101 = .ok (.aload 5, 2) := by decide +kernel
theorem dX9_match_103 : decode cX9_match 103 = .ok (.iload 6, 2) := by decide +kernel
theorem dX9_match_105 : decode cX9_match 105 = .ok (.invokevirtual 228, 3) := by decide +kernel
theorem dX9_match_108 : decode cX9_match 108 = .ok (.invokevirtual 100, 3) := by decide +kernel
theorem dX9_match_111 : decode cX9_match 111 = .ok (.ireturn, 1) := by decide +kernel
def mwX9_match : List Cond := .code yX9_match cX9_match 7 (some .int) :: (([.methodLink RX9 80 yX9_refuse, .instanceMethod yX9_refuse, .selects RX9 yX9_refuse yX9_refuse, .initialized RX9, .fieldLink RX9 29 "PatternGate" "book" "LPatternGate$Book;", .methodLink RX9 140 yX0_patternAt, .instanceMethod yX0_patternAt, .selects RX0 yX0_patternAt yX0_patternAt, .initialized RX0, .methodLink RX9 123 yX0_docAt, .instanceMethod yX0_docAt, .selects RX0 yX0_docAt yX0_docAt, .methodLink RX9 225 yX5_firstMatchIn, .instanceMethod yX5_firstMatchIn, .selects RX5 yX5_firstMatchIn yX5_firstMatchIn, .initialized RX5, .methodLink RX9 228 yX5_longestFrom, .instanceMethod yX5_longestFrom, .selects RX5 yX5_longestFrom yX5_longestFrom, .methodLink RX9 100 yX9_answer, .instanceMethod yX9_answer, .selects RX9 yX9_answer yX9_answer, .methodLink RX9 222 yX5_matchesIn, .instanceMethod yX5_matchesIn, .selects RX5 yX5_matchesIn yX5_matchesIn] : List Cond) ++ (wsX90 ++ (mwX9_refuse ++ (mwX0_patternAt2 ++ (mwX0_docAt ++ (mwX5_firstMatchIn2 ++ (mwX5_longestFrom ++ (mwX9_answer ++ (mwX5_matchesIn)))))))))
theorem fin_X9_match_X9 : ∀ w ∈ wsX90, w ∈ mwX9_match := fun w h => List.mem_cons_of_mem _ (List.mem_append_right _ (List.mem_append_left _ h))
set_option maxRecDepth 100000 in
theorem gd_mwX5_firstMatchIn2 : mwX5_firstMatchIn2.all goodWord = true := by decide +kernel
set_option maxRecDepth 100000 in
theorem gd_mwX5_matchesIn : mwX5_matchesIn.all goodWord = true := by decide +kernel
set_option maxRecDepth 20000 in
theorem mg_X9_match_X9_refuse_80 : GoodIn mwX9_match (wsV RX9 80 RX9 yX9_refuse mwX9_refuse) := gi_app (A := [.methodLink RX9 80 yX9_refuse, .instanceMethod yX9_refuse, .selects RX9 yX9_refuse yX9_refuse, .initialized RX9]) (goodIn_r _ [1, 2, 3, 4] (by decide +kernel) (by decide +kernel)) (gi_sub gd_mwX9_refuse (fun w h => List.mem_cons_of_mem _ (List.mem_append_right _ (List.mem_append_right _ (List.mem_append_left _ h)))))
set_option maxRecDepth 20000 in
theorem mg_X9_match_X0_patternAt_140 : GoodIn mwX9_match (wsV RX9 140 RX0 yX0_patternAt mwX0_patternAt2) := gi_app (A := [.methodLink RX9 140 yX0_patternAt, .instanceMethod yX0_patternAt, .selects RX0 yX0_patternAt yX0_patternAt, .initialized RX0]) (goodIn_r _ [6, 7, 8, 9] (by decide +kernel) (by decide +kernel)) (gi_sub gd_mwX0_patternAt2 (fun w h => List.mem_cons_of_mem _ (List.mem_append_right _ (List.mem_append_right _ (List.mem_append_right _ (List.mem_append_left _ h))))))
set_option maxRecDepth 20000 in
theorem mg_X9_match_X0_docAt_123 : GoodIn mwX9_match (wsV RX9 123 RX0 yX0_docAt mwX0_docAt) := gi_app (A := [.methodLink RX9 123 yX0_docAt, .instanceMethod yX0_docAt, .selects RX0 yX0_docAt yX0_docAt, .initialized RX0]) (goodIn_r _ [10, 11, 12, 9] (by decide +kernel) (by decide +kernel)) (gi_sub gd_mwX0_docAt (fun w h => List.mem_cons_of_mem _ (List.mem_append_right _ (List.mem_append_right _ (List.mem_append_right _ (List.mem_append_right _ (List.mem_append_left _ h)))))))
set_option maxRecDepth 20000 in
theorem mg_X9_match_X5_firstMatchIn_225 : GoodIn mwX9_match (wsV RX9 225 RX5 yX5_firstMatchIn mwX5_firstMatchIn2) := gi_app (A := [.methodLink RX9 225 yX5_firstMatchIn, .instanceMethod yX5_firstMatchIn, .selects RX5 yX5_firstMatchIn yX5_firstMatchIn, .initialized RX5]) (goodIn_r _ [13, 14, 15, 16] (by decide +kernel) (by decide +kernel)) (gi_sub gd_mwX5_firstMatchIn2 (fun w h => List.mem_cons_of_mem _ (List.mem_append_right _ (List.mem_append_right _ (List.mem_append_right _ (List.mem_append_right _ (List.mem_append_right _ (List.mem_append_left _ h))))))))
set_option maxRecDepth 20000 in
theorem mg_X9_match_X5_longestFrom_228 : GoodIn mwX9_match (wsV RX9 228 RX5 yX5_longestFrom mwX5_longestFrom) := gi_app (A := [.methodLink RX9 228 yX5_longestFrom, .instanceMethod yX5_longestFrom, .selects RX5 yX5_longestFrom yX5_longestFrom, .initialized RX5]) (goodIn_r _ [17, 18, 19, 16] (by decide +kernel) (by decide +kernel)) (gi_sub gd_mwX5_longestFrom (fun w h => List.mem_cons_of_mem _ (List.mem_append_right _ (List.mem_append_right _ (List.mem_append_right _ (List.mem_append_right _ (List.mem_append_right _ (List.mem_append_right _ (List.mem_append_left _ h)))))))))
set_option maxRecDepth 20000 in
theorem mg_X9_match_X9_answer_100 : GoodIn mwX9_match (wsV RX9 100 RX9 yX9_answer mwX9_answer) := gi_app (A := [.methodLink RX9 100 yX9_answer, .instanceMethod yX9_answer, .selects RX9 yX9_answer yX9_answer, .initialized RX9]) (goodIn_r _ [20, 21, 22, 4] (by decide +kernel) (by decide +kernel)) (gi_sub gd_mwX9_answer (fun w h => List.mem_cons_of_mem _ (List.mem_append_right _ (List.mem_append_right _ (List.mem_append_right _ (List.mem_append_right _ (List.mem_append_right _ (List.mem_append_right _ (List.mem_append_right _ (List.mem_append_left _ h))))))))))
set_option maxRecDepth 20000 in
theorem mg_X9_match_X5_matchesIn_222 : GoodIn mwX9_match (wsV RX9 222 RX5 yX5_matchesIn mwX5_matchesIn) := gi_app (A := [.methodLink RX9 222 yX5_matchesIn, .instanceMethod yX5_matchesIn, .selects RX5 yX5_matchesIn yX5_matchesIn, .initialized RX5]) (goodIn_r _ [23, 24, 25, 16] (by decide +kernel) (by decide +kernel)) (gi_sub gd_mwX5_matchesIn (fun w h => List.mem_cons_of_mem _ (List.mem_append_right _ (List.mem_append_right _ (List.mem_append_right _ (List.mem_append_right _ (List.mem_append_right _ (List.mem_append_right _ (List.mem_append_right _ (List.mem_append_right _ (h)))))))))))
set_option maxHeartbeats 4000000 in
set_option maxRecDepth 100000 in
/-- gate: match -/
theorem s_g_match (l : Launch) (dC : Nat → ClassId) (dI : Nat → Nat → Nat) (W9 : va_W) (T9 : List (ClassId × FieldType)) (B9 : Nat → Prop) (gt tp bk mb mu rd cm wk pp so ty : Nat) (st9 td fk fpl un mk : Int32) (sz : Nat) (i1 i2 i3 : Int32) (hB9 : gB W9 T9 B9) (hbk : B9 bk) : Met l yX9_match mwX9_match ({ frames := 3, cells := 0, slots := 0, locals := 180 }) (va_Pc [.ref gt, .int i1, .int i2, .int i3] (fun U => U.heap.size = sz ∧ va_P (dC, dI) vwCl ([(gt, .inr (9, [.int st9, .ref tp, .int td, .int fk, .int fpl, .ref bk, .int un, .ref mb, .ref mu, .int mk, .ref rd, .ref cm, .ref wk, .ref pp, .ref so, .ref ty]))]) U.heap ∧ va_K (dC, dI) vwCl ([]) U ∧ va_D (fun _ => True) ([(gt, .inr (9, [.int st9, .ref tp, .int td, .int fk, .int fpl, .ref bk, .int un, .ref mb, .ref mu, .int mk, .ref rd, .ref cm, .ref wk, .ref pp, .ref so, .ref ty]))]) ∧ va_P (dC, dI) vwCl W9 U.heap ∧ va_K (dC, dI) vwCl T9 U ∧ (∀ q ∈ W9, ¬ va_A ([(gt, .inr (9, [.int st9, .ref tp, .int td, .int fk, .int fpl, .ref bk, .int un, .ref mb, .ref mu, .int mk, .ref rd, .ref cm, .ref wk, .ref pp, .ref so, .ref ty]))]) sz q.1))) (va_Qi (fun (_ : Int32) (_ : Unit) => True) (fun _ t => ∃ (y0 : Int32), va_P (dC, dI) vwCl [(gt, .inr (9, [.int y0, .ref tp, .int td, .int fk, .int fpl, .ref bk, .int un, .ref mb, .ref mu, .int mk, .ref rd, .ref cm, .ref wk, .ref pp, .ref so, .ref ty]))] t.heap ∧ va_K (dC, dI) vwCl [] t ∧ va_D (va_A ([(gt, .inr (9, [.int st9, .ref tp, .int td, .int fk, .int fpl, .ref bk, .int un, .ref mb, .ref mu, .int mk, .ref rd, .ref cm, .ref wk, .ref pp, .ref so, .ref ty]))]) sz) [(gt, .inr (9, [.int y0, .ref tp, .int td, .int fk, .int fpl, .ref bk, .int un, .ref mb, .ref mu, .int mk, .ref rd, .ref cm, .ref wk, .ref pp, .ref so, .ref ty]))]) (va_A ([(gt, .inr (9, [.int st9, .ref tp, .int td, .int fk, .int fpl, .ref bk, .int un, .ref mb, .ref mu, .int mk, .ref rd, .ref cm, .ref wk, .ref pp, .ref so, .ref ty]))]) sz)) 0 0 (va_A ([(gt, .inr (9, [.int st9, .ref tp, .int td, .int fk, .int fpl, .ref bk, .int un, .ref mb, .ref mu, .int mk, .ref rd, .ref cm, .ref wk, .ref pp, .ref so, .ref ty]))]) sz) := by
  refine Met.ofW (cc := cX9_match) (maxL := 7) (ret := (some .int)) (by decide +kernel) rfl ?_
  intro p e s m args below meth c s₁ B hml hv
  obtain ⟨rfl, hsz, hP, hK, hD0, hQ0, hKQ, hQA⟩ := hv
  have hx := B.exec
  have hb := B.bytes
  have hr := B.returns
  have hts := atoms_spec (ws := mwX9_match) B.pre
  have hown : s.vm.findClass RX9 = some m.cls := findClass_of_methodNamed B.named
  have hlocks := B.notSynchronized
  subst hsz
  have hD := hD0.self (sz := s.heap.size)
  generalize hAe : va_A ([(gt, .inr (9, [.int st9, .ref tp, .int td, .int fk, .int fpl, .ref bk, .int un, .ref mb, .ref mu, .int mk, .ref rd, .ref cm, .ref wk, .ref pp, .ref so, .ref ty]))]) s.heap.size = A at hD hQA ⊢
  have hA : ∀ q : Nat, s.heap.size ≤ q → A q := fun q h => by rw [← hAe]; exact Or.inr h
  have hP : va_P (dC, dI) vwCl [(gt, .inr (9, [.int st9, .ref tp, .int td, .int fk, .int fpl, .ref bk, .int un, .ref mb, .ref mu, .int mk, .ref rd, .ref cm, .ref wk, .ref pp, .ref so, .ref ty]))] s.heap := hP
  have hD : va_D A [(gt, .inr (9, [.int st9, .ref tp, .int td, .int fk, .int fpl, .ref bk, .int un, .ref mb, .ref mu, .int mk, .ref rd, .ref cm, .ref wk, .ref pp, .ref so, .ref ty]))] := hD
  have hK : va_K (dC, dI) vwCl [] s := hK
  generalize hH : s.heap = H at hP ⊢
  have hS : va_S A s.heap H [] := by rw [← hH]; exact va_S.rf
  have hQ := q_at hQ0 hQA hS
  have hl := lv_entry ([.ref gt, .int i1, .int i2, .int i3]) (n := 7) (Nat.le_of_ble_eq_true rfl)
  rw [lg_entry_eq]
  generalize (lg_sl ([.ref gt, .int i1, .int i2, .int i3]) ++ List.replicate (7 - (lg_sl ([.ref gt, .int i1, .int i2, .int i3])).length) Slot.unset).toArray = ls at hl ⊢
  have hl : lv_has ls 7 [(0, .ref gt), (1, .int i1), (2, .int i2), (3, .int i3)] := hl
  have rg_i1 := i_rng i1
  have rg_i2 := i_rng i2
  have rg_i3 := i_rng i3
  obtain ⟨ear, hB3, hear⟩ := hB9 bk hbk
  have hB0 := hB3.poB
  obtain ⟨ds, ps, nd, np, fd, fp, cD, cP, m1, m2, m3, m4, m5, hnd, hnp, hds, hps⟩ := id hB3
  obtain ⟨k_1, hk_1⟩ := List.getElem?_of_mem m1
  obtain ⟨k_2, hk_2⟩ := List.getElem?_of_mem m2
  obtain ⟨j_3, hj_3⟩ := List.getElem?_of_mem m3
  obtain ⟨k_4, hk_4⟩ := List.getElem?_of_mem m4
  obtain ⟨j_5, hj_5⟩ := List.getElem?_of_mem m5
  have r_un := i_rng un
  have r_mk := i_rng mk
  have r_td := i_rng td
  refine lv_iload_n hx hb dX9_match_0 rfl (lv_at hl 3 rfl) ?_
  refine lv_if_lt (tgt := 9) hx hb dX9_match_1 (by decide) (fun k_6 => ?_) (fun k_6 => ?_)
  · have tk_6 := c_lt (a := i3.toInt) (b := 0) rfl (by decide) k_6
    refine lv_aload_n hx hb dX9_match_9 rfl (lv_at hl 0 rfl) ?_
    refine lv_iconst (v := 1) hx hb dX9_match_10 (by decide) ?_
    have hPc := hP.sub (ws' := [(gt, .inr (9, [.int st9, .ref tp, .int td, .int fk, .int fpl, .ref bk, .int un, .ref mb, .ref mu, .int mk, .ref rd, .ref cm, .ref wk, .ref pp, .ref so, .ref ty]))]) [0] rfl
    have hKc := hK.sub (tys' := []) [] rfl
    have hDc := hD.sub (ws' := [(gt, .inr (9, [.int st9, .ref tp, .int td, .int fk, .int fpl, .ref bk, .int un, .ref mb, .ref mu, .int mk, .ref rd, .ref cm, .ref wk, .ref pp, .ref so, .ref ty]))]) [0] (by decide) rfl
    have hFc := va_free (wc := [(gt, .inr (9, [.int st9, .ref tp, .int td, .int fk, .int fpl, .ref bk, .int un, .ref mb, .ref mu, .int mk, .ref rd, .ref cm, .ref wk, .ref pp, .ref so, .ref ty]))]) hD hS hA [0] rfl
    refine va_calli (va_runV (As := [.int 1]) (rest := []) ⟨hx, hb, hml, hown, hts⟩ (s_refuse l dC dI gt tp bk mb mu rd cm wk pp so ty st9 td fk fpl un mk H.size 1) (cwV 1 hts mg_X9_match_X9_refuse_80 rfl rfl rfl (by decide +kernel) ⟨Nat.le_of_ble_eq_true rfl, Nat.le_of_ble_eq_true rfl⟩) ⟨fun a U g mk q => by obtain ⟨q0, q1, qP, qK, qD⟩ := q; exact ⟨q0, q1, qP, va_K.moved (u := U) (U := U.calling g mk a) (Vm.Alike.refl U.vm) qK, qD⟩, va_recv hKc hPc (ci := 9) (q0 := 0) rfl rfl, fun U hU hW => ⟨rfl, by rw [hU], by rw [hU]; exact hPc, va_K.moved hW.alike hKc, hDc.weaken (fun _ _ _ _ => trivial)⟩⟩ rfl rfl hl.1 rfl (lv_room (Nat.le_of_ble_eq_true rfl)) dX9_match_11 ⟨Nat.le_of_ble_eq_true rfl, Nat.le_of_ble_eq_true rfl⟩) hS (fun q _ h => hFc q h) hFc (fun r_8 u t H1 locs ht hvm hw hB hz1 hk1 hS => ?_)
    obtain ⟨hP1, hK1, hD1⟩ := hB
    rw [ht] at hP1
    have hr_8 := hw
    obtain ⟨hP, hD⟩ := va_join (wr := []) (w1 := [(gt, .inr (9, [.int 1, .ref tp, .int td, .int fk, .int fpl, .ref bk, .int un, .ref mb, .ref mu, .int mk, .ref rd, .ref cm, .ref wk, .ref pp, .ref so, .ref ty]))]) hP hD [0] [] rfl rfl (by decide) (by decide) hk1 hFc hP1 hD1
    generalize H1 = H at hP hS ⊢
    have hP : va_P (dC, dI) vwCl [(gt, .inr (9, [.int 1, .ref tp, .int td, .int fk, .int fpl, .ref bk, .int un, .ref mb, .ref mu, .int mk, .ref rd, .ref cm, .ref wk, .ref pp, .ref so, .ref ty]))] H := hP
    have hD : va_D A [(gt, .inr (9, [.int 1, .ref tp, .int td, .int fk, .int fpl, .ref bk, .int un, .ref mb, .ref mu, .int mk, .ref rd, .ref cm, .ref wk, .ref pp, .ref so, .ref ty]))] := hD
    have hQ := q_at hQ0 hQA hS
    have hP9 := hP.sub (ws' := [(gt, .inr (9, [.int 1, .ref tp, .int td, .int fk, .int fpl, .ref bk, .int un, .ref mb, .ref mu, .int mk, .ref rd, .ref cm, .ref wk, .ref pp, .ref so, .ref ty]))]) [0] rfl
    have hD9 := hD.sub (ws' := [(gt, .inr (9, [.int 1, .ref tp, .int td, .int fk, .int fpl, .ref bk, .int un, .ref mb, .ref mu, .int mk, .ref rd, .ref cm, .ref wk, .ref pp, .ref so, .ref ty]))]) [0] (by decide) rfl
    have hK9 := hK.sub (tys' := []) [] rfl
    exact W.iret hx hb hr (fun t ht hW => ⟨⟨_, (), rfl, trivial, 1, by rw [ht]; exact hP9, va_K.moved hW.alike hK9, hD9⟩, hS.F ht⟩) hS.2.2 dX9_match_14
  · have tk_6 := c_nlt (a := i3.toInt) (b := 0) rfl (by decide) k_6
    refine lv_iload_n hx hb dX9_match_4 rfl (lv_at hl 3 rfl) ?_
    refine lv_iconst (v := 2) hx hb dX9_match_5 (by decide) ?_
    refine lv_icmp_le (tgt := 15) hx hb dX9_match_6 (by decide) (fun k_9 => ?_) (fun k_9 => ?_)
    · have tk_9 := c_le (a := i3.toInt) (b := 2) rfl (by decide) k_9
      refine lv_aload_n hx hb dX9_match_15 rfl (lv_at hl 0 rfl) ?_
      refine va_get (D := (dC, dI)) (ci := 9) (v := .ref bk) (C := RX9) (T := TX9) (N := 16) hx hb hts fin_X9_match_X9 hown hK hP 0 rfl rfl 5 (by decide) (hts (.fieldLink RX9 29 "PatternGate" "book" "LPatternGate$Book;") (List.mem_of_getElem? (i := 5) (by decide +kernel))) (fun _ h9 => h9) rfl dX9_match_16 ?_
      refine lv_iload_n hx hb dX9_match_19 rfl (lv_at hl 1 rfl) ?_
      have hPc := hQ
      have hKc := hKQ
      refine va_csq (W.runV (As := [.int i1]) (rest := []) ⟨hx, hb, hml, hown, hts⟩ (s_patternAt2 l dC dI W9 T9 bk ear i1 hB3) (cwV 1 hts mg_X9_match_X0_patternAt_140 rfl rfl rfl (by decide +kernel) ⟨Nat.le_of_ble_eq_true rfl, Nat.le_of_ble_eq_true rfl⟩) ⟨fun a U g mk q => by obtain ⟨q0, qP, qK⟩ := q; exact ⟨q0, qP, va_K.moved (u := U) (U := U.calling g mk a) (Vm.Alike.refl U.vm) qK⟩, va_recv hKc hPc (ci := 0) (q0 := k_1) rfl hk_1, fun U hU hW => ⟨rfl, by rw [hU]; exact hPc, va_K.moved hW.alike hKc⟩⟩ rfl rfl hl.1 rfl (lv_room (Nat.le_of_ble_eq_true rfl)) dX9_match_20 ⟨Nat.le_of_ble_eq_true rfl, Nat.le_of_ble_eq_true rfl⟩) (fun r_11 hw => ?_)
      rcases hw with rfl | ⟨d_12, rfl, hd_12⟩
      · refine W.eq (g2 := F0 m 23 ls [.null]) rfl ?_
        refine lv_astoreN (lv' := [(4, .null), (0, .ref gt), (1, .int i1), (2, .int i2), (3, .int i3)]) hx hb dX9_match_23 hl (by decide) rfl (fun ls hl => ?_)
        refine lv_aload_n hx hb dX9_match_25 rfl (lv_at hl 1 rfl) ?_
        refine va_get (D := (dC, dI)) (ci := 9) (v := .ref bk) (C := RX9) (T := TX9) (N := 16) hx hb hts fin_X9_match_X9 hown hK hP 0 rfl rfl 5 (by decide) (hts (.fieldLink RX9 29 "PatternGate" "book" "LPatternGate$Book;") (List.mem_of_getElem? (i := 5) (by decide +kernel))) (fun _ h9 => h9) rfl dX9_match_26 ?_
        refine lv_iload_n hx hb dX9_match_29 rfl (lv_at hl 3 rfl) ?_
        have hPc := hQ
        have hKc := hKQ
        refine va_csq (W.runV (As := [.int i2]) (rest := []) ⟨hx, hb, hml, hown, hts⟩ (s_docAt l dC dI W9 T9 bk i2 hB0) (cwV 1 hts mg_X9_match_X0_docAt_123 rfl rfl rfl (by decide +kernel) ⟨Nat.le_of_ble_eq_true rfl, Nat.le_of_ble_eq_true rfl⟩) ⟨fun a U g mk q => by obtain ⟨q0, qP, qK⟩ := q; exact ⟨q0, qP, va_K.moved (u := U) (U := U.calling g mk a) (Vm.Alike.refl U.vm) qK⟩, va_recv hKc hPc (ci := 0) (q0 := k_1) rfl hk_1, fun U hU hW => ⟨rfl, by rw [hU]; exact hPc, va_K.moved hW.alike hKc⟩⟩ rfl rfl hl.1 rfl (lv_room (Nat.le_of_ble_eq_true rfl)) dX9_match_30 ⟨Nat.le_of_ble_eq_true rfl, Nat.le_of_ble_eq_true rfl⟩) (fun r_14 hw => ?_)
        rcases hw with rfl | ⟨d_15, rfl, hd_15⟩
        · refine W.eq (g2 := F0 m 33 ls [.null]) rfl ?_
          refine lv_astoreN (lv' := [(5, .null), (4, .null), (0, .ref gt), (1, .int i1), (2, .int i2), (3, .int i3)]) hx hb dX9_match_33 hl (by decide) rfl (fun ls hl => ?_)
          refine lv_aloadN hx hb dX9_match_35 (lv_at hl 1 rfl) ?_
          refine lv_ifnullN (tgt := 45) hx hb dX9_match_37 (by decide) ?_
          refine lv_aload_n hx hb dX9_match_45 rfl (lv_at hl 2 rfl) ?_
          refine lv_iconst (v := 2) hx hb dX9_match_46 (by decide) ?_
          have hPc := hP.sub (ws' := [(gt, .inr (9, [.int st9, .ref tp, .int td, .int fk, .int fpl, .ref bk, .int un, .ref mb, .ref mu, .int mk, .ref rd, .ref cm, .ref wk, .ref pp, .ref so, .ref ty]))]) [0] rfl
          have hKc := hK.sub (tys' := []) [] rfl
          have hDc := hD.sub (ws' := [(gt, .inr (9, [.int st9, .ref tp, .int td, .int fk, .int fpl, .ref bk, .int un, .ref mb, .ref mu, .int mk, .ref rd, .ref cm, .ref wk, .ref pp, .ref so, .ref ty]))]) [0] (by decide) rfl
          have hFc := va_free (wc := [(gt, .inr (9, [.int st9, .ref tp, .int td, .int fk, .int fpl, .ref bk, .int un, .ref mb, .ref mu, .int mk, .ref rd, .ref cm, .ref wk, .ref pp, .ref so, .ref ty]))]) hD hS hA [0] rfl
          refine va_calli (va_runV (As := [.int 2]) (rest := []) ⟨hx, hb, hml, hown, hts⟩ (s_refuse l dC dI gt tp bk mb mu rd cm wk pp so ty st9 td fk fpl un mk H.size 2) (cwV 1 hts mg_X9_match_X9_refuse_80 rfl rfl rfl (by decide +kernel) ⟨Nat.le_of_ble_eq_true rfl, Nat.le_of_ble_eq_true rfl⟩) ⟨fun a U g mk q => by obtain ⟨q0, q1, qP, qK, qD⟩ := q; exact ⟨q0, q1, qP, va_K.moved (u := U) (U := U.calling g mk a) (Vm.Alike.refl U.vm) qK, qD⟩, va_recv hKc hPc (ci := 9) (q0 := 0) rfl rfl, fun U hU hW => ⟨rfl, by rw [hU], by rw [hU]; exact hPc, va_K.moved hW.alike hKc, hDc.weaken (fun _ _ _ _ => trivial)⟩⟩ rfl rfl hl.1 rfl (lv_room (Nat.le_of_ble_eq_true rfl)) dX9_match_47 ⟨Nat.le_of_ble_eq_true rfl, Nat.le_of_ble_eq_true rfl⟩) hS (fun q _ h => hFc q h) hFc (fun r_17 u t H1 locs ht hvm hw hB hz1 hk1 hS => ?_)
          obtain ⟨hP1, hK1, hD1⟩ := hB
          rw [ht] at hP1
          have hr_17 := hw
          obtain ⟨hP, hD⟩ := va_join (wr := []) (w1 := [(gt, .inr (9, [.int 2, .ref tp, .int td, .int fk, .int fpl, .ref bk, .int un, .ref mb, .ref mu, .int mk, .ref rd, .ref cm, .ref wk, .ref pp, .ref so, .ref ty]))]) hP hD [0] [] rfl rfl (by decide) (by decide) hk1 hFc hP1 hD1
          generalize H1 = H at hP hS ⊢
          have hP : va_P (dC, dI) vwCl [(gt, .inr (9, [.int 2, .ref tp, .int td, .int fk, .int fpl, .ref bk, .int un, .ref mb, .ref mu, .int mk, .ref rd, .ref cm, .ref wk, .ref pp, .ref so, .ref ty]))] H := hP
          have hD : va_D A [(gt, .inr (9, [.int 2, .ref tp, .int td, .int fk, .int fpl, .ref bk, .int un, .ref mb, .ref mu, .int mk, .ref rd, .ref cm, .ref wk, .ref pp, .ref so, .ref ty]))] := hD
          have hQ := q_at hQ0 hQA hS
          have hP9 := hP.sub (ws' := [(gt, .inr (9, [.int 2, .ref tp, .int td, .int fk, .int fpl, .ref bk, .int un, .ref mb, .ref mu, .int mk, .ref rd, .ref cm, .ref wk, .ref pp, .ref so, .ref ty]))]) [0] rfl
          have hD9 := hD.sub (ws' := [(gt, .inr (9, [.int 2, .ref tp, .int td, .int fk, .int fpl, .ref bk, .int un, .ref mb, .ref mu, .int mk, .ref rd, .ref cm, .ref wk, .ref pp, .ref so, .ref ty]))]) [0] (by decide) rfl
          have hK9 := hK.sub (tys' := []) [] rfl
          exact W.iret hx hb hr (fun t ht hW => ⟨⟨_, (), rfl, trivial, 2, by rw [ht]; exact hP9, va_K.moved hW.alike hK9, hD9⟩, hS.F ht⟩) hS.2.2 dX9_match_50
        · refine W.eq (g2 := F0 m 33 ls [.ref d_15]) rfl ?_
          have hd_15D := hd_15
          obtain ⟨la_18, ta_19, m_20, n_21, fl_22, ft_23, cI_24, cJ_25, m_26, ⟨m_27, m_28⟩, ⟨m_29, m_30⟩, m_31, m_32⟩ := hd_15
          obtain ⟨k_33, hk_33⟩ := List.getElem?_of_mem m_26
          obtain ⟨k_34, hk_34⟩ := List.getElem?_of_mem m_27
          obtain ⟨j_35, hj_35⟩ := List.getElem?_of_mem m_28
          obtain ⟨k_36, hk_36⟩ := List.getElem?_of_mem m_29
          obtain ⟨j_37, hj_37⟩ := List.getElem?_of_mem m_30
          refine lv_astore (lv' := [(5, .ref d_15), (4, .null), (0, .ref gt), (1, .int i1), (2, .int i2), (3, .int i3)]) hx hb dX9_match_33 hl (by decide) rfl (fun ls hl => ?_)
          refine lv_aloadN hx hb dX9_match_35 (lv_at hl 1 rfl) ?_
          refine lv_ifnullN (tgt := 45) hx hb dX9_match_37 (by decide) ?_
          refine lv_aload_n hx hb dX9_match_45 rfl (lv_at hl 2 rfl) ?_
          refine lv_iconst (v := 2) hx hb dX9_match_46 (by decide) ?_
          have hPc := hP.sub (ws' := [(gt, .inr (9, [.int st9, .ref tp, .int td, .int fk, .int fpl, .ref bk, .int un, .ref mb, .ref mu, .int mk, .ref rd, .ref cm, .ref wk, .ref pp, .ref so, .ref ty]))]) [0] rfl
          have hKc := hK.sub (tys' := []) [] rfl
          have hDc := hD.sub (ws' := [(gt, .inr (9, [.int st9, .ref tp, .int td, .int fk, .int fpl, .ref bk, .int un, .ref mb, .ref mu, .int mk, .ref rd, .ref cm, .ref wk, .ref pp, .ref so, .ref ty]))]) [0] (by decide) rfl
          have hFc := va_free (wc := [(gt, .inr (9, [.int st9, .ref tp, .int td, .int fk, .int fpl, .ref bk, .int un, .ref mb, .ref mu, .int mk, .ref rd, .ref cm, .ref wk, .ref pp, .ref so, .ref ty]))]) hD hS hA [0] rfl
          refine va_calli (va_runV (As := [.int 2]) (rest := []) ⟨hx, hb, hml, hown, hts⟩ (s_refuse l dC dI gt tp bk mb mu rd cm wk pp so ty st9 td fk fpl un mk H.size 2) (cwV 1 hts mg_X9_match_X9_refuse_80 rfl rfl rfl (by decide +kernel) ⟨Nat.le_of_ble_eq_true rfl, Nat.le_of_ble_eq_true rfl⟩) ⟨fun a U g mk q => by obtain ⟨q0, q1, qP, qK, qD⟩ := q; exact ⟨q0, q1, qP, va_K.moved (u := U) (U := U.calling g mk a) (Vm.Alike.refl U.vm) qK, qD⟩, va_recv hKc hPc (ci := 9) (q0 := 0) rfl rfl, fun U hU hW => ⟨rfl, by rw [hU], by rw [hU]; exact hPc, va_K.moved hW.alike hKc, hDc.weaken (fun _ _ _ _ => trivial)⟩⟩ rfl rfl hl.1 rfl (lv_room (Nat.le_of_ble_eq_true rfl)) dX9_match_47 ⟨Nat.le_of_ble_eq_true rfl, Nat.le_of_ble_eq_true rfl⟩) hS (fun q _ h => hFc q h) hFc (fun r_39 u t H1 locs ht hvm hw hB hz1 hk1 hS => ?_)
          obtain ⟨hP1, hK1, hD1⟩ := hB
          rw [ht] at hP1
          have hr_39 := hw
          obtain ⟨hP, hD⟩ := va_join (wr := []) (w1 := [(gt, .inr (9, [.int 2, .ref tp, .int td, .int fk, .int fpl, .ref bk, .int un, .ref mb, .ref mu, .int mk, .ref rd, .ref cm, .ref wk, .ref pp, .ref so, .ref ty]))]) hP hD [0] [] rfl rfl (by decide) (by decide) hk1 hFc hP1 hD1
          generalize H1 = H at hP hS ⊢
          have hP : va_P (dC, dI) vwCl [(gt, .inr (9, [.int 2, .ref tp, .int td, .int fk, .int fpl, .ref bk, .int un, .ref mb, .ref mu, .int mk, .ref rd, .ref cm, .ref wk, .ref pp, .ref so, .ref ty]))] H := hP
          have hD : va_D A [(gt, .inr (9, [.int 2, .ref tp, .int td, .int fk, .int fpl, .ref bk, .int un, .ref mb, .ref mu, .int mk, .ref rd, .ref cm, .ref wk, .ref pp, .ref so, .ref ty]))] := hD
          have hQ := q_at hQ0 hQA hS
          have hP9 := hP.sub (ws' := [(gt, .inr (9, [.int 2, .ref tp, .int td, .int fk, .int fpl, .ref bk, .int un, .ref mb, .ref mu, .int mk, .ref rd, .ref cm, .ref wk, .ref pp, .ref so, .ref ty]))]) [0] rfl
          have hD9 := hD.sub (ws' := [(gt, .inr (9, [.int 2, .ref tp, .int td, .int fk, .int fpl, .ref bk, .int un, .ref mb, .ref mu, .int mk, .ref rd, .ref cm, .ref wk, .ref pp, .ref so, .ref ty]))]) [0] (by decide) rfl
          have hK9 := hK.sub (tys' := []) [] rfl
          exact W.iret hx hb hr (fun t ht hW => ⟨⟨_, (), rfl, trivial, 2, by rw [ht]; exact hP9, va_K.moved hW.alike hK9, hD9⟩, hS.F ht⟩) hS.2.2 dX9_match_50
      · refine W.eq (g2 := F0 m 23 ls [.ref d_12]) rfl ?_
        have hd_12P := hd_12.poP
        have hd_12Q := hd_12
        obtain ⟨q_40, a_41, a_42, a_43, a_44, a_45, a_46, n_47, n_48, n_49, n_50, n_51, n_52, n_53, f_54, f_55, f_56, f_57, f_58, f_59, f_60, c_61, c_62, c_63, c_64, c_65, c_66, c_67, m_68, ⟨m_69, m_70⟩, ⟨m_71, m_72⟩, ⟨m_73, m_74⟩, ⟨m_75, m_76⟩, ⟨m_77, m_78⟩, ⟨m_79, m_80⟩, ⟨m_81, m_82, h_93⟩, h_83, h_84, h_85, h_86, h_87, h_88, h_89, h_90, h_91, h_92⟩ := hd_12
        obtain ⟨k_94, hk_94⟩ := List.getElem?_of_mem m_68
        obtain ⟨k_95, hk_95⟩ := List.getElem?_of_mem m_69
        obtain ⟨j_96, hj_96⟩ := List.getElem?_of_mem m_70
        obtain ⟨k_97, hk_97⟩ := List.getElem?_of_mem m_71
        obtain ⟨j_98, hj_98⟩ := List.getElem?_of_mem m_72
        obtain ⟨k_99, hk_99⟩ := List.getElem?_of_mem m_73
        obtain ⟨j_100, hj_100⟩ := List.getElem?_of_mem m_74
        obtain ⟨k_101, hk_101⟩ := List.getElem?_of_mem m_75
        obtain ⟨j_102, hj_102⟩ := List.getElem?_of_mem m_76
        obtain ⟨k_103, hk_103⟩ := List.getElem?_of_mem m_77
        obtain ⟨j_104, hj_104⟩ := List.getElem?_of_mem m_78
        obtain ⟨k_105, hk_105⟩ := List.getElem?_of_mem m_79
        obtain ⟨j_106, hj_106⟩ := List.getElem?_of_mem m_80
        obtain ⟨k_107, hk_107⟩ := List.getElem?_of_mem m_81
        obtain ⟨j_108, hj_108⟩ := List.getElem?_of_mem m_82
        refine lv_astore (lv' := [(4, .ref d_12), (0, .ref gt), (1, .int i1), (2, .int i2), (3, .int i3)]) hx hb dX9_match_23 hl (by decide) rfl (fun ls hl => ?_)
        refine lv_aload_n hx hb dX9_match_25 rfl (lv_at hl 1 rfl) ?_
        refine va_get (D := (dC, dI)) (ci := 9) (v := .ref bk) (C := RX9) (T := TX9) (N := 16) hx hb hts fin_X9_match_X9 hown hK hP 0 rfl rfl 5 (by decide) (hts (.fieldLink RX9 29 "PatternGate" "book" "LPatternGate$Book;") (List.mem_of_getElem? (i := 5) (by decide +kernel))) (fun _ h9 => h9) rfl dX9_match_26 ?_
        refine lv_iload_n hx hb dX9_match_29 rfl (lv_at hl 3 rfl) ?_
        have hPc := hQ
        have hKc := hKQ
        refine va_csq (W.runV (As := [.int i2]) (rest := []) ⟨hx, hb, hml, hown, hts⟩ (s_docAt l dC dI W9 T9 bk i2 hB0) (cwV 1 hts mg_X9_match_X0_docAt_123 rfl rfl rfl (by decide +kernel) ⟨Nat.le_of_ble_eq_true rfl, Nat.le_of_ble_eq_true rfl⟩) ⟨fun a U g mk q => by obtain ⟨q0, qP, qK⟩ := q; exact ⟨q0, qP, va_K.moved (u := U) (U := U.calling g mk a) (Vm.Alike.refl U.vm) qK⟩, va_recv hKc hPc (ci := 0) (q0 := k_1) rfl hk_1, fun U hU hW => ⟨rfl, by rw [hU]; exact hPc, va_K.moved hW.alike hKc⟩⟩ rfl rfl hl.1 rfl (lv_room (Nat.le_of_ble_eq_true rfl)) dX9_match_30 ⟨Nat.le_of_ble_eq_true rfl, Nat.le_of_ble_eq_true rfl⟩) (fun r_110 hw => ?_)
        rcases hw with rfl | ⟨d_111, rfl, hd_111⟩
        · refine W.eq (g2 := F0 m 33 ls [.null]) rfl ?_
          refine lv_astoreN (lv' := [(5, .null), (4, .ref d_12), (0, .ref gt), (1, .int i1), (2, .int i2), (3, .int i3)]) hx hb dX9_match_33 hl (by decide) rfl (fun ls hl => ?_)
          refine lv_aload hx hb dX9_match_35 (lv_at hl 1 rfl) ?_
          refine lv_ifnull hx hb dX9_match_37 ?_
          refine lv_aloadN hx hb dX9_match_40 (lv_at hl 0 rfl) ?_
          refine lv_ifnonnullN hx hb dX9_match_42 ?_
          refine lv_aload_n hx hb dX9_match_45 rfl (lv_at hl 2 rfl) ?_
          refine lv_iconst (v := 2) hx hb dX9_match_46 (by decide) ?_
          have hPc := hP.sub (ws' := [(gt, .inr (9, [.int st9, .ref tp, .int td, .int fk, .int fpl, .ref bk, .int un, .ref mb, .ref mu, .int mk, .ref rd, .ref cm, .ref wk, .ref pp, .ref so, .ref ty]))]) [0] rfl
          have hKc := hK.sub (tys' := []) [] rfl
          have hDc := hD.sub (ws' := [(gt, .inr (9, [.int st9, .ref tp, .int td, .int fk, .int fpl, .ref bk, .int un, .ref mb, .ref mu, .int mk, .ref rd, .ref cm, .ref wk, .ref pp, .ref so, .ref ty]))]) [0] (by decide) rfl
          have hFc := va_free (wc := [(gt, .inr (9, [.int st9, .ref tp, .int td, .int fk, .int fpl, .ref bk, .int un, .ref mb, .ref mu, .int mk, .ref rd, .ref cm, .ref wk, .ref pp, .ref so, .ref ty]))]) hD hS hA [0] rfl
          refine va_calli (va_runV (As := [.int 2]) (rest := []) ⟨hx, hb, hml, hown, hts⟩ (s_refuse l dC dI gt tp bk mb mu rd cm wk pp so ty st9 td fk fpl un mk H.size 2) (cwV 1 hts mg_X9_match_X9_refuse_80 rfl rfl rfl (by decide +kernel) ⟨Nat.le_of_ble_eq_true rfl, Nat.le_of_ble_eq_true rfl⟩) ⟨fun a U g mk q => by obtain ⟨q0, q1, qP, qK, qD⟩ := q; exact ⟨q0, q1, qP, va_K.moved (u := U) (U := U.calling g mk a) (Vm.Alike.refl U.vm) qK, qD⟩, va_recv hKc hPc (ci := 9) (q0 := 0) rfl rfl, fun U hU hW => ⟨rfl, by rw [hU], by rw [hU]; exact hPc, va_K.moved hW.alike hKc, hDc.weaken (fun _ _ _ _ => trivial)⟩⟩ rfl rfl hl.1 rfl (lv_room (Nat.le_of_ble_eq_true rfl)) dX9_match_47 ⟨Nat.le_of_ble_eq_true rfl, Nat.le_of_ble_eq_true rfl⟩) hS (fun q _ h => hFc q h) hFc (fun r_113 u t H1 locs ht hvm hw hB hz1 hk1 hS => ?_)
          obtain ⟨hP1, hK1, hD1⟩ := hB
          rw [ht] at hP1
          have hr_113 := hw
          obtain ⟨hP, hD⟩ := va_join (wr := []) (w1 := [(gt, .inr (9, [.int 2, .ref tp, .int td, .int fk, .int fpl, .ref bk, .int un, .ref mb, .ref mu, .int mk, .ref rd, .ref cm, .ref wk, .ref pp, .ref so, .ref ty]))]) hP hD [0] [] rfl rfl (by decide) (by decide) hk1 hFc hP1 hD1
          generalize H1 = H at hP hS ⊢
          have hP : va_P (dC, dI) vwCl [(gt, .inr (9, [.int 2, .ref tp, .int td, .int fk, .int fpl, .ref bk, .int un, .ref mb, .ref mu, .int mk, .ref rd, .ref cm, .ref wk, .ref pp, .ref so, .ref ty]))] H := hP
          have hD : va_D A [(gt, .inr (9, [.int 2, .ref tp, .int td, .int fk, .int fpl, .ref bk, .int un, .ref mb, .ref mu, .int mk, .ref rd, .ref cm, .ref wk, .ref pp, .ref so, .ref ty]))] := hD
          have hQ := q_at hQ0 hQA hS
          have hP9 := hP.sub (ws' := [(gt, .inr (9, [.int 2, .ref tp, .int td, .int fk, .int fpl, .ref bk, .int un, .ref mb, .ref mu, .int mk, .ref rd, .ref cm, .ref wk, .ref pp, .ref so, .ref ty]))]) [0] rfl
          have hD9 := hD.sub (ws' := [(gt, .inr (9, [.int 2, .ref tp, .int td, .int fk, .int fpl, .ref bk, .int un, .ref mb, .ref mu, .int mk, .ref rd, .ref cm, .ref wk, .ref pp, .ref so, .ref ty]))]) [0] (by decide) rfl
          have hK9 := hK.sub (tys' := []) [] rfl
          exact W.iret hx hb hr (fun t ht hW => ⟨⟨_, (), rfl, trivial, 2, by rw [ht]; exact hP9, va_K.moved hW.alike hK9, hD9⟩, hS.F ht⟩) hS.2.2 dX9_match_50
        · refine W.eq (g2 := F0 m 33 ls [.ref d_111]) rfl ?_
          have hd_111D := hd_111
          obtain ⟨la_114, ta_115, m_116, n_117, fl_118, ft_119, cI_120, cJ_121, m_122, ⟨m_123, m_124⟩, ⟨m_125, m_126⟩, m_127, m_128⟩ := hd_111
          obtain ⟨k_129, hk_129⟩ := List.getElem?_of_mem m_122
          obtain ⟨k_130, hk_130⟩ := List.getElem?_of_mem m_123
          obtain ⟨j_131, hj_131⟩ := List.getElem?_of_mem m_124
          obtain ⟨k_132, hk_132⟩ := List.getElem?_of_mem m_125
          obtain ⟨j_133, hj_133⟩ := List.getElem?_of_mem m_126
          refine lv_astore (lv' := [(5, .ref d_111), (4, .ref d_12), (0, .ref gt), (1, .int i1), (2, .int i2), (3, .int i3)]) hx hb dX9_match_33 hl (by decide) rfl (fun ls hl => ?_)
          refine lv_aload hx hb dX9_match_35 (lv_at hl 1 rfl) ?_
          refine lv_ifnull hx hb dX9_match_37 ?_
          refine lv_aload hx hb dX9_match_40 (lv_at hl 0 rfl) ?_
          refine lv_ifnonnull (tgt := 51) hx hb dX9_match_42 (by decide) ?_
          refine lv_iload_n hx hb dX9_match_51 rfl (lv_at hl 5 rfl) ?_
          refine lv_iconst (v := 2) hx hb dX9_match_52 (by decide) ?_
          refine lv_icmp_ne (tgt := 68) hx hb dX9_match_53 (by decide) (fun k_134 => ?_) (fun k_134 => ?_)
          · have tk_134 := c_ne (a := i3.toInt) (b := 2) rfl (by decide) k_134
            refine lv_aload hx hb dX9_match_68 (lv_at hl 1 rfl) ?_
            refine lv_aload hx hb dX9_match_70 (lv_at hl 0 rfl) ?_
            have hPc : va_P (dC, dI) vwCl [(d_12, .inr (5, pF q_40 a_41 a_42 a_43 a_44 a_45 a_46)), (q_40 1, .inl (c_62, n_48, .inl f_55)), (q_40 2, .inl (c_63, n_49, .inl f_56)), (d_111, .inr (2, [.ref la_114, .ref ta_115])), (la_114, .inl (cI_120, m_116, .inl fl_118))] H := p_sub hQ (List.forall_mem_cons.mpr ⟨m_68, List.forall_mem_cons.mpr ⟨m_71, List.forall_mem_cons.mpr ⟨m_73, List.forall_mem_cons.mpr ⟨m_122, List.forall_mem_cons.mpr ⟨m_123, fun _ h => absurd h List.not_mem_nil⟩⟩⟩⟩⟩)
            have hKc : va_K (dC, dI) vwCl [(c_62, .int), (c_63, .int), (cI_120, .int)] s := k_sub hKQ (List.forall_mem_cons.mpr ⟨m_72, List.forall_mem_cons.mpr ⟨m_74, List.forall_mem_cons.mpr ⟨m_124, fun _ h => absurd h List.not_mem_nil⟩⟩⟩)
            refine vp_callSi (W.runV (As := [.ref d_111]) (rest := []) ⟨hx, hb, hml, hown, hts⟩ (s_firstMatchIn2 l dC dI d_12 q_40 a_41 a_42 a_43 a_44 a_45 a_46 n_48 f_55 c_62 n_49 f_56 c_63 d_111 la_114 ta_115 m_116 fl_118 cI_120 (by omega) (by omega) (by omega)) (cwV 1 hts mg_X9_match_X5_firstMatchIn_225 rfl rfl rfl (by decide +kernel) ⟨Nat.le_of_ble_eq_true rfl, Nat.le_of_ble_eq_true rfl⟩) ⟨fun a U g mk q => by obtain ⟨q0, qP, qK⟩ := q; exact ⟨q0, qP, va_K.moved (u := U) (U := U.calling g mk a) (Vm.Alike.refl U.vm) qK⟩, va_recv hKc hPc (ci := 5) (q0 := 0) rfl rfl, fun U hU hW => ⟨rfl, by rw [hU]; exact hPc, va_K.moved hW.alike hKc⟩⟩ rfl rfl hl.1 rfl (lv_room (Nat.le_of_ble_eq_true rfl)) dX9_match_72 ⟨Nat.le_of_ble_eq_true rfl, Nat.le_of_ble_eq_true rfl⟩) (fun r_136 hw => ?_)
            have hr_136 := hw
            refine lv_istore (lv' := [(6, .int r_136), (5, .ref d_111), (4, .ref d_12), (0, .ref gt), (1, .int i1), (2, .int i2), (3, .int i3)]) hx hb dX9_match_75 hl (by decide) rfl (fun ls hl => ?_)
            refine lv_iload hx hb dX9_match_77 (lv_at hl 0 rfl) ?_
            refine lv_iconst (v := (-1)) hx hb dX9_match_79 (by decide) ?_
            refine lv_icmp_ne (tgt := 89) hx hb dX9_match_80 (by decide) (fun k_137 => ?_) (fun k_137 => ?_)
            · have tk_137 := c_ne (a := r_136.toInt) (b := (-1)) rfl (by decide) k_137
              refine lv_aload_n hx hb dX9_match_89 rfl (lv_at hl 3 rfl) ?_
              refine lv_iload_n hx hb dX9_match_90 rfl (lv_at hl 6 rfl) ?_
              refine lv_if_ne (tgt := 99) hx hb dX9_match_91 (by decide) (fun k_138 => ?_) (fun k_138 => ?_)
              · have tk_138 := c_ne (a := i3.toInt) (b := 0) rfl (by decide) k_138
                refine lv_aload hx hb dX9_match_99 (lv_at hl 2 rfl) ?_
                refine lv_aload hx hb dX9_match_101 (lv_at hl 1 rfl) ?_
                refine lv_iload hx hb dX9_match_103 (lv_at hl 0 rfl) ?_
                have hPc : va_P (dC, dI) vwCl [(d_12, .inr (5, pF q_40 a_41 a_42 a_43 a_44 a_45 a_46)), (q_40 1, .inl (c_62, n_48, .inl f_55)), (q_40 2, .inl (c_63, n_49, .inl f_56)), (d_111, .inr (2, [.ref la_114, .ref ta_115])), (la_114, .inl (cI_120, m_116, .inl fl_118))] H := p_sub hQ (List.forall_mem_cons.mpr ⟨m_68, List.forall_mem_cons.mpr ⟨m_71, List.forall_mem_cons.mpr ⟨m_73, List.forall_mem_cons.mpr ⟨m_122, List.forall_mem_cons.mpr ⟨m_123, fun _ h => absurd h List.not_mem_nil⟩⟩⟩⟩⟩)
                have hKc : va_K (dC, dI) vwCl [(c_62, .int), (c_63, .int), (cI_120, .int)] s := k_sub hKQ (List.forall_mem_cons.mpr ⟨m_72, List.forall_mem_cons.mpr ⟨m_74, List.forall_mem_cons.mpr ⟨m_124, fun _ h => absurd h List.not_mem_nil⟩⟩⟩)
                refine vp_callSi (W.runV (As := [.ref d_111, .int r_136]) (rest := [.ref gt]) ⟨hx, hb, hml, hown, hts⟩ (s_longestFrom l dC dI d_12 q_40 a_41 a_42 a_43 a_44 a_45 a_46 n_48 f_55 c_62 n_49 f_56 c_63 d_111 la_114 ta_115 m_116 fl_118 cI_120 r_136 (by omega) (by omega) (by omega) (by omega)) (cwV 2 hts mg_X9_match_X5_longestFrom_228 rfl rfl rfl (by decide +kernel) ⟨Nat.le_of_ble_eq_true rfl, Nat.le_of_ble_eq_true rfl⟩) ⟨fun a U g mk q => by obtain ⟨q0, qP, qK⟩ := q; exact ⟨q0, qP, va_K.moved (u := U) (U := U.calling g mk a) (Vm.Alike.refl U.vm) qK⟩, va_recv hKc hPc (ci := 5) (q0 := 0) rfl rfl, fun U hU hW => ⟨rfl, by rw [hU]; exact hPc, va_K.moved hW.alike hKc⟩⟩ rfl rfl hl.1 rfl (lv_room (Nat.le_of_ble_eq_true rfl)) dX9_match_105 ⟨Nat.le_of_ble_eq_true rfl, Nat.le_of_ble_eq_true rfl⟩) (fun r_140 hw => ?_)
                have hr_140 := hw
                have hPc := hP.sub (ws' := [(gt, .inr (9, [.int st9, .ref tp, .int td, .int fk, .int fpl, .ref bk, .int un, .ref mb, .ref mu, .int mk, .ref rd, .ref cm, .ref wk, .ref pp, .ref so, .ref ty]))]) [0] rfl
                have hKc := hK.sub (tys' := []) [] rfl
                have hDc := hD.sub (ws' := [(gt, .inr (9, [.int st9, .ref tp, .int td, .int fk, .int fpl, .ref bk, .int un, .ref mb, .ref mu, .int mk, .ref rd, .ref cm, .ref wk, .ref pp, .ref so, .ref ty]))]) [0] (by decide) rfl
                have hFc := va_free (wc := [(gt, .inr (9, [.int st9, .ref tp, .int td, .int fk, .int fpl, .ref bk, .int un, .ref mb, .ref mu, .int mk, .ref rd, .ref cm, .ref wk, .ref pp, .ref so, .ref ty]))]) hD hS hA [0] rfl
                refine va_calli (va_runV (As := [.int r_140]) (rest := []) ⟨hx, hb, hml, hown, hts⟩ (s_answer l dC dI gt tp bk mb mu rd cm wk pp so ty st9 td fk fpl un mk H.size r_140) (cwV 1 hts mg_X9_match_X9_answer_100 rfl rfl rfl (by decide +kernel) ⟨Nat.le_of_ble_eq_true rfl, Nat.le_of_ble_eq_true rfl⟩) ⟨fun a U g mk q => by obtain ⟨q0, q1, qP, qK, qD⟩ := q; exact ⟨q0, q1, qP, va_K.moved (u := U) (U := U.calling g mk a) (Vm.Alike.refl U.vm) qK, qD⟩, va_recv hKc hPc (ci := 9) (q0 := 0) rfl rfl, fun U hU hW => ⟨rfl, by rw [hU], by rw [hU]; exact hPc, va_K.moved hW.alike hKc, hDc.weaken (fun _ _ _ _ => trivial)⟩⟩ rfl rfl hl.1 rfl (lv_room (Nat.le_of_ble_eq_true rfl)) dX9_match_108 ⟨Nat.le_of_ble_eq_true rfl, Nat.le_of_ble_eq_true rfl⟩) hS (fun q _ h => hFc q h) hFc (fun r_142 u t H1 locs ht hvm hw hB hz1 hk1 hS => ?_)
                obtain ⟨hP1, hK1, hD1⟩ := hB
                rw [ht] at hP1
                have hr_142 := hw
                obtain ⟨hP, hD⟩ := va_join (wr := []) (w1 := [(gt, .inr (9, [.int 0, .ref tp, .int td, .int fk, .int fpl, .ref bk, .int un, .ref mb, .ref mu, .int mk, .ref rd, .ref cm, .ref wk, .ref pp, .ref so, .ref ty]))]) hP hD [0] [] rfl rfl (by decide) (by decide) hk1 hFc hP1 hD1
                generalize H1 = H at hP hS ⊢
                have hP : va_P (dC, dI) vwCl [(gt, .inr (9, [.int 0, .ref tp, .int td, .int fk, .int fpl, .ref bk, .int un, .ref mb, .ref mu, .int mk, .ref rd, .ref cm, .ref wk, .ref pp, .ref so, .ref ty]))] H := hP
                have hD : va_D A [(gt, .inr (9, [.int 0, .ref tp, .int td, .int fk, .int fpl, .ref bk, .int un, .ref mb, .ref mu, .int mk, .ref rd, .ref cm, .ref wk, .ref pp, .ref so, .ref ty]))] := hD
                have hQ := q_at hQ0 hQA hS
                have hP9 := hP.sub (ws' := [(gt, .inr (9, [.int 0, .ref tp, .int td, .int fk, .int fpl, .ref bk, .int un, .ref mb, .ref mu, .int mk, .ref rd, .ref cm, .ref wk, .ref pp, .ref so, .ref ty]))]) [0] rfl
                have hD9 := hD.sub (ws' := [(gt, .inr (9, [.int 0, .ref tp, .int td, .int fk, .int fpl, .ref bk, .int un, .ref mb, .ref mu, .int mk, .ref rd, .ref cm, .ref wk, .ref pp, .ref so, .ref ty]))]) [0] (by decide) rfl
                have hK9 := hK.sub (tys' := []) [] rfl
                exact W.iret hx hb hr (fun t ht hW => ⟨⟨_, (), rfl, trivial, 0, by rw [ht]; exact hP9, va_K.moved hW.alike hK9, hD9⟩, hS.F ht⟩) hS.2.2 dX9_match_111
              · have tk_138 := c_eq (a := i3.toInt) (b := 0) rfl (by decide) k_138
                refine lv_iload hx hb dX9_match_94 (lv_at hl 0 rfl) ?_
                refine lv_goto (tgt := 108) hx hb dX9_match_96 (by decide) ?_
                have hPc := hP.sub (ws' := [(gt, .inr (9, [.int st9, .ref tp, .int td, .int fk, .int fpl, .ref bk, .int un, .ref mb, .ref mu, .int mk, .ref rd, .ref cm, .ref wk, .ref pp, .ref so, .ref ty]))]) [0] rfl
                have hKc := hK.sub (tys' := []) [] rfl
                have hDc := hD.sub (ws' := [(gt, .inr (9, [.int st9, .ref tp, .int td, .int fk, .int fpl, .ref bk, .int un, .ref mb, .ref mu, .int mk, .ref rd, .ref cm, .ref wk, .ref pp, .ref so, .ref ty]))]) [0] (by decide) rfl
                have hFc := va_free (wc := [(gt, .inr (9, [.int st9, .ref tp, .int td, .int fk, .int fpl, .ref bk, .int un, .ref mb, .ref mu, .int mk, .ref rd, .ref cm, .ref wk, .ref pp, .ref so, .ref ty]))]) hD hS hA [0] rfl
                refine va_calli (va_runV (As := [.int r_136]) (rest := []) ⟨hx, hb, hml, hown, hts⟩ (s_answer l dC dI gt tp bk mb mu rd cm wk pp so ty st9 td fk fpl un mk H.size r_136) (cwV 1 hts mg_X9_match_X9_answer_100 rfl rfl rfl (by decide +kernel) ⟨Nat.le_of_ble_eq_true rfl, Nat.le_of_ble_eq_true rfl⟩) ⟨fun a U g mk q => by obtain ⟨q0, q1, qP, qK, qD⟩ := q; exact ⟨q0, q1, qP, va_K.moved (u := U) (U := U.calling g mk a) (Vm.Alike.refl U.vm) qK, qD⟩, va_recv hKc hPc (ci := 9) (q0 := 0) rfl rfl, fun U hU hW => ⟨rfl, by rw [hU], by rw [hU]; exact hPc, va_K.moved hW.alike hKc, hDc.weaken (fun _ _ _ _ => trivial)⟩⟩ rfl rfl hl.1 rfl (lv_room (Nat.le_of_ble_eq_true rfl)) dX9_match_108 ⟨Nat.le_of_ble_eq_true rfl, Nat.le_of_ble_eq_true rfl⟩) hS (fun q _ h => hFc q h) hFc (fun r_144 u t H1 locs ht hvm hw hB hz1 hk1 hS => ?_)
                obtain ⟨hP1, hK1, hD1⟩ := hB
                rw [ht] at hP1
                have hr_144 := hw
                obtain ⟨hP, hD⟩ := va_join (wr := []) (w1 := [(gt, .inr (9, [.int 0, .ref tp, .int td, .int fk, .int fpl, .ref bk, .int un, .ref mb, .ref mu, .int mk, .ref rd, .ref cm, .ref wk, .ref pp, .ref so, .ref ty]))]) hP hD [0] [] rfl rfl (by decide) (by decide) hk1 hFc hP1 hD1
                generalize H1 = H at hP hS ⊢
                have hP : va_P (dC, dI) vwCl [(gt, .inr (9, [.int 0, .ref tp, .int td, .int fk, .int fpl, .ref bk, .int un, .ref mb, .ref mu, .int mk, .ref rd, .ref cm, .ref wk, .ref pp, .ref so, .ref ty]))] H := hP
                have hD : va_D A [(gt, .inr (9, [.int 0, .ref tp, .int td, .int fk, .int fpl, .ref bk, .int un, .ref mb, .ref mu, .int mk, .ref rd, .ref cm, .ref wk, .ref pp, .ref so, .ref ty]))] := hD
                have hQ := q_at hQ0 hQA hS
                have hP9 := hP.sub (ws' := [(gt, .inr (9, [.int 0, .ref tp, .int td, .int fk, .int fpl, .ref bk, .int un, .ref mb, .ref mu, .int mk, .ref rd, .ref cm, .ref wk, .ref pp, .ref so, .ref ty]))]) [0] rfl
                have hD9 := hD.sub (ws' := [(gt, .inr (9, [.int 0, .ref tp, .int td, .int fk, .int fpl, .ref bk, .int un, .ref mb, .ref mu, .int mk, .ref rd, .ref cm, .ref wk, .ref pp, .ref so, .ref ty]))]) [0] (by decide) rfl
                have hK9 := hK.sub (tys' := []) [] rfl
                exact W.iret hx hb hr (fun t ht hW => ⟨⟨_, (), rfl, trivial, 0, by rw [ht]; exact hP9, va_K.moved hW.alike hK9, hD9⟩, hS.F ht⟩) hS.2.2 dX9_match_111
            · have tk_137 := c_eq (a := r_136.toInt) (b := (-1)) rfl (by decide) k_137
              refine lv_aload_n hx hb dX9_match_83 rfl (lv_at hl 3 rfl) ?_
              refine lv_iconst (v := 5) hx hb dX9_match_84 (by decide) ?_
              have hPc := hP.sub (ws' := [(gt, .inr (9, [.int st9, .ref tp, .int td, .int fk, .int fpl, .ref bk, .int un, .ref mb, .ref mu, .int mk, .ref rd, .ref cm, .ref wk, .ref pp, .ref so, .ref ty]))]) [0] rfl
              have hKc := hK.sub (tys' := []) [] rfl
              have hDc := hD.sub (ws' := [(gt, .inr (9, [.int st9, .ref tp, .int td, .int fk, .int fpl, .ref bk, .int un, .ref mb, .ref mu, .int mk, .ref rd, .ref cm, .ref wk, .ref pp, .ref so, .ref ty]))]) [0] (by decide) rfl
              have hFc := va_free (wc := [(gt, .inr (9, [.int st9, .ref tp, .int td, .int fk, .int fpl, .ref bk, .int un, .ref mb, .ref mu, .int mk, .ref rd, .ref cm, .ref wk, .ref pp, .ref so, .ref ty]))]) hD hS hA [0] rfl
              refine va_calli (va_runV (As := [.int 5]) (rest := []) ⟨hx, hb, hml, hown, hts⟩ (s_refuse l dC dI gt tp bk mb mu rd cm wk pp so ty st9 td fk fpl un mk H.size 5) (cwV 1 hts mg_X9_match_X9_refuse_80 rfl rfl rfl (by decide +kernel) ⟨Nat.le_of_ble_eq_true rfl, Nat.le_of_ble_eq_true rfl⟩) ⟨fun a U g mk q => by obtain ⟨q0, q1, qP, qK, qD⟩ := q; exact ⟨q0, q1, qP, va_K.moved (u := U) (U := U.calling g mk a) (Vm.Alike.refl U.vm) qK, qD⟩, va_recv hKc hPc (ci := 9) (q0 := 0) rfl rfl, fun U hU hW => ⟨rfl, by rw [hU], by rw [hU]; exact hPc, va_K.moved hW.alike hKc, hDc.weaken (fun _ _ _ _ => trivial)⟩⟩ rfl rfl hl.1 rfl (lv_room (Nat.le_of_ble_eq_true rfl)) dX9_match_85 ⟨Nat.le_of_ble_eq_true rfl, Nat.le_of_ble_eq_true rfl⟩) hS (fun q _ h => hFc q h) hFc (fun r_146 u t H1 locs ht hvm hw hB hz1 hk1 hS => ?_)
              obtain ⟨hP1, hK1, hD1⟩ := hB
              rw [ht] at hP1
              have hr_146 := hw
              obtain ⟨hP, hD⟩ := va_join (wr := []) (w1 := [(gt, .inr (9, [.int 5, .ref tp, .int td, .int fk, .int fpl, .ref bk, .int un, .ref mb, .ref mu, .int mk, .ref rd, .ref cm, .ref wk, .ref pp, .ref so, .ref ty]))]) hP hD [0] [] rfl rfl (by decide) (by decide) hk1 hFc hP1 hD1
              generalize H1 = H at hP hS ⊢
              have hP : va_P (dC, dI) vwCl [(gt, .inr (9, [.int 5, .ref tp, .int td, .int fk, .int fpl, .ref bk, .int un, .ref mb, .ref mu, .int mk, .ref rd, .ref cm, .ref wk, .ref pp, .ref so, .ref ty]))] H := hP
              have hD : va_D A [(gt, .inr (9, [.int 5, .ref tp, .int td, .int fk, .int fpl, .ref bk, .int un, .ref mb, .ref mu, .int mk, .ref rd, .ref cm, .ref wk, .ref pp, .ref so, .ref ty]))] := hD
              have hQ := q_at hQ0 hQA hS
              have hP9 := hP.sub (ws' := [(gt, .inr (9, [.int 5, .ref tp, .int td, .int fk, .int fpl, .ref bk, .int un, .ref mb, .ref mu, .int mk, .ref rd, .ref cm, .ref wk, .ref pp, .ref so, .ref ty]))]) [0] rfl
              have hD9 := hD.sub (ws' := [(gt, .inr (9, [.int 5, .ref tp, .int td, .int fk, .int fpl, .ref bk, .int un, .ref mb, .ref mu, .int mk, .ref rd, .ref cm, .ref wk, .ref pp, .ref so, .ref ty]))]) [0] (by decide) rfl
              have hK9 := hK.sub (tys' := []) [] rfl
              exact W.iret hx hb hr (fun t ht hW => ⟨⟨_, (), rfl, trivial, 5, by rw [ht]; exact hP9, va_K.moved hW.alike hK9, hD9⟩, hS.F ht⟩) hS.2.2 dX9_match_88
          · have tk_134 := c_eq (a := i3.toInt) (b := 2) rfl (by decide) k_134
            refine lv_aload_n hx hb dX9_match_56 rfl (lv_at hl 2 rfl) ?_
            refine lv_aload hx hb dX9_match_57 (lv_at hl 1 rfl) ?_
            refine lv_aload hx hb dX9_match_59 (lv_at hl 0 rfl) ?_
            have hPc : va_P (dC, dI) vwCl [(d_12, .inr (5, pF q_40 a_41 a_42 a_43 a_44 a_45 a_46)), (q_40 1, .inl (c_62, n_48, .inl f_55)), (q_40 2, .inl (c_63, n_49, .inl f_56)), (d_111, .inr (2, [.ref la_114, .ref ta_115])), (la_114, .inl (cI_120, m_116, .inl fl_118))] H := p_sub hQ (List.forall_mem_cons.mpr ⟨m_68, List.forall_mem_cons.mpr ⟨m_71, List.forall_mem_cons.mpr ⟨m_73, List.forall_mem_cons.mpr ⟨m_122, List.forall_mem_cons.mpr ⟨m_123, fun _ h => absurd h List.not_mem_nil⟩⟩⟩⟩⟩)
            have hKc : va_K (dC, dI) vwCl [(c_62, .int), (c_63, .int), (cI_120, .int)] s := k_sub hKQ (List.forall_mem_cons.mpr ⟨m_72, List.forall_mem_cons.mpr ⟨m_74, List.forall_mem_cons.mpr ⟨m_124, fun _ h => absurd h List.not_mem_nil⟩⟩⟩)
            refine vp_callSi (W.runV (As := [.ref d_111]) (rest := [.ref gt]) ⟨hx, hb, hml, hown, hts⟩ (s_matchesIn l dC dI d_12 q_40 a_41 a_42 a_43 a_44 a_45 a_46 n_48 f_55 c_62 n_49 f_56 c_63 d_111 la_114 ta_115 m_116 fl_118 cI_120 (by omega) (by omega) (by omega)) (cwV 1 hts mg_X9_match_X5_matchesIn_222 rfl rfl rfl (by decide +kernel) ⟨Nat.le_of_ble_eq_true rfl, Nat.le_of_ble_eq_true rfl⟩) ⟨fun a U g mk q => by obtain ⟨q0, qP, qK⟩ := q; exact ⟨q0, qP, va_K.moved (u := U) (U := U.calling g mk a) (Vm.Alike.refl U.vm) qK⟩, va_recv hKc hPc (ci := 5) (q0 := 0) rfl rfl, fun U hU hW => ⟨rfl, by rw [hU]; exact hPc, va_K.moved hW.alike hKc⟩⟩ rfl rfl hl.1 rfl (lv_room (Nat.le_of_ble_eq_true rfl)) dX9_match_61 ⟨Nat.le_of_ble_eq_true rfl, Nat.le_of_ble_eq_true rfl⟩) (fun r_148 hw => ?_)
            have hr_148 := hw
            have hPc := hP.sub (ws' := [(gt, .inr (9, [.int st9, .ref tp, .int td, .int fk, .int fpl, .ref bk, .int un, .ref mb, .ref mu, .int mk, .ref rd, .ref cm, .ref wk, .ref pp, .ref so, .ref ty]))]) [0] rfl
            have hKc := hK.sub (tys' := []) [] rfl
            have hDc := hD.sub (ws' := [(gt, .inr (9, [.int st9, .ref tp, .int td, .int fk, .int fpl, .ref bk, .int un, .ref mb, .ref mu, .int mk, .ref rd, .ref cm, .ref wk, .ref pp, .ref so, .ref ty]))]) [0] (by decide) rfl
            have hFc := va_free (wc := [(gt, .inr (9, [.int st9, .ref tp, .int td, .int fk, .int fpl, .ref bk, .int un, .ref mb, .ref mu, .int mk, .ref rd, .ref cm, .ref wk, .ref pp, .ref so, .ref ty]))]) hD hS hA [0] rfl
            refine va_calli (va_runV (As := [.int r_148]) (rest := []) ⟨hx, hb, hml, hown, hts⟩ (s_answer l dC dI gt tp bk mb mu rd cm wk pp so ty st9 td fk fpl un mk H.size r_148) (cwV 1 hts mg_X9_match_X9_answer_100 rfl rfl rfl (by decide +kernel) ⟨Nat.le_of_ble_eq_true rfl, Nat.le_of_ble_eq_true rfl⟩) ⟨fun a U g mk q => by obtain ⟨q0, q1, qP, qK, qD⟩ := q; exact ⟨q0, q1, qP, va_K.moved (u := U) (U := U.calling g mk a) (Vm.Alike.refl U.vm) qK, qD⟩, va_recv hKc hPc (ci := 9) (q0 := 0) rfl rfl, fun U hU hW => ⟨rfl, by rw [hU], by rw [hU]; exact hPc, va_K.moved hW.alike hKc, hDc.weaken (fun _ _ _ _ => trivial)⟩⟩ rfl rfl hl.1 rfl (lv_room (Nat.le_of_ble_eq_true rfl)) dX9_match_64 ⟨Nat.le_of_ble_eq_true rfl, Nat.le_of_ble_eq_true rfl⟩) hS (fun q _ h => hFc q h) hFc (fun r_150 u t H1 locs ht hvm hw hB hz1 hk1 hS => ?_)
            obtain ⟨hP1, hK1, hD1⟩ := hB
            rw [ht] at hP1
            have hr_150 := hw
            obtain ⟨hP, hD⟩ := va_join (wr := []) (w1 := [(gt, .inr (9, [.int 0, .ref tp, .int td, .int fk, .int fpl, .ref bk, .int un, .ref mb, .ref mu, .int mk, .ref rd, .ref cm, .ref wk, .ref pp, .ref so, .ref ty]))]) hP hD [0] [] rfl rfl (by decide) (by decide) hk1 hFc hP1 hD1
            generalize H1 = H at hP hS ⊢
            have hP : va_P (dC, dI) vwCl [(gt, .inr (9, [.int 0, .ref tp, .int td, .int fk, .int fpl, .ref bk, .int un, .ref mb, .ref mu, .int mk, .ref rd, .ref cm, .ref wk, .ref pp, .ref so, .ref ty]))] H := hP
            have hD : va_D A [(gt, .inr (9, [.int 0, .ref tp, .int td, .int fk, .int fpl, .ref bk, .int un, .ref mb, .ref mu, .int mk, .ref rd, .ref cm, .ref wk, .ref pp, .ref so, .ref ty]))] := hD
            have hQ := q_at hQ0 hQA hS
            have hP9 := hP.sub (ws' := [(gt, .inr (9, [.int 0, .ref tp, .int td, .int fk, .int fpl, .ref bk, .int un, .ref mb, .ref mu, .int mk, .ref rd, .ref cm, .ref wk, .ref pp, .ref so, .ref ty]))]) [0] rfl
            have hD9 := hD.sub (ws' := [(gt, .inr (9, [.int 0, .ref tp, .int td, .int fk, .int fpl, .ref bk, .int un, .ref mb, .ref mu, .int mk, .ref rd, .ref cm, .ref wk, .ref pp, .ref so, .ref ty]))]) [0] (by decide) rfl
            have hK9 := hK.sub (tys' := []) [] rfl
            exact W.iret hx hb hr (fun t ht hW => ⟨⟨_, (), rfl, trivial, 0, by rw [ht]; exact hP9, va_K.moved hW.alike hK9, hD9⟩, hS.F ht⟩) hS.2.2 dX9_match_67
    · have tk_9 := c_nle (a := i3.toInt) (b := 2) rfl (by decide) k_9
      refine lv_aload_n hx hb dX9_match_9 rfl (lv_at hl 0 rfl) ?_
      refine lv_iconst (v := 1) hx hb dX9_match_10 (by decide) ?_
      have hPc := hP.sub (ws' := [(gt, .inr (9, [.int st9, .ref tp, .int td, .int fk, .int fpl, .ref bk, .int un, .ref mb, .ref mu, .int mk, .ref rd, .ref cm, .ref wk, .ref pp, .ref so, .ref ty]))]) [0] rfl
      have hKc := hK.sub (tys' := []) [] rfl
      have hDc := hD.sub (ws' := [(gt, .inr (9, [.int st9, .ref tp, .int td, .int fk, .int fpl, .ref bk, .int un, .ref mb, .ref mu, .int mk, .ref rd, .ref cm, .ref wk, .ref pp, .ref so, .ref ty]))]) [0] (by decide) rfl
      have hFc := va_free (wc := [(gt, .inr (9, [.int st9, .ref tp, .int td, .int fk, .int fpl, .ref bk, .int un, .ref mb, .ref mu, .int mk, .ref rd, .ref cm, .ref wk, .ref pp, .ref so, .ref ty]))]) hD hS hA [0] rfl
      refine va_calli (va_runV (As := [.int 1]) (rest := []) ⟨hx, hb, hml, hown, hts⟩ (s_refuse l dC dI gt tp bk mb mu rd cm wk pp so ty st9 td fk fpl un mk H.size 1) (cwV 1 hts mg_X9_match_X9_refuse_80 rfl rfl rfl (by decide +kernel) ⟨Nat.le_of_ble_eq_true rfl, Nat.le_of_ble_eq_true rfl⟩) ⟨fun a U g mk q => by obtain ⟨q0, q1, qP, qK, qD⟩ := q; exact ⟨q0, q1, qP, va_K.moved (u := U) (U := U.calling g mk a) (Vm.Alike.refl U.vm) qK, qD⟩, va_recv hKc hPc (ci := 9) (q0 := 0) rfl rfl, fun U hU hW => ⟨rfl, by rw [hU], by rw [hU]; exact hPc, va_K.moved hW.alike hKc, hDc.weaken (fun _ _ _ _ => trivial)⟩⟩ rfl rfl hl.1 rfl (lv_room (Nat.le_of_ble_eq_true rfl)) dX9_match_11 ⟨Nat.le_of_ble_eq_true rfl, Nat.le_of_ble_eq_true rfl⟩) hS (fun q _ h => hFc q h) hFc (fun r_152 u t H1 locs ht hvm hw hB hz1 hk1 hS => ?_)
      obtain ⟨hP1, hK1, hD1⟩ := hB
      rw [ht] at hP1
      have hr_152 := hw
      obtain ⟨hP, hD⟩ := va_join (wr := []) (w1 := [(gt, .inr (9, [.int 1, .ref tp, .int td, .int fk, .int fpl, .ref bk, .int un, .ref mb, .ref mu, .int mk, .ref rd, .ref cm, .ref wk, .ref pp, .ref so, .ref ty]))]) hP hD [0] [] rfl rfl (by decide) (by decide) hk1 hFc hP1 hD1
      generalize H1 = H at hP hS ⊢
      have hP : va_P (dC, dI) vwCl [(gt, .inr (9, [.int 1, .ref tp, .int td, .int fk, .int fpl, .ref bk, .int un, .ref mb, .ref mu, .int mk, .ref rd, .ref cm, .ref wk, .ref pp, .ref so, .ref ty]))] H := hP
      have hD : va_D A [(gt, .inr (9, [.int 1, .ref tp, .int td, .int fk, .int fpl, .ref bk, .int un, .ref mb, .ref mu, .int mk, .ref rd, .ref cm, .ref wk, .ref pp, .ref so, .ref ty]))] := hD
      have hQ := q_at hQ0 hQA hS
      have hP9 := hP.sub (ws' := [(gt, .inr (9, [.int 1, .ref tp, .int td, .int fk, .int fpl, .ref bk, .int un, .ref mb, .ref mu, .int mk, .ref rd, .ref cm, .ref wk, .ref pp, .ref so, .ref ty]))]) [0] rfl
      have hD9 := hD.sub (ws' := [(gt, .inr (9, [.int 1, .ref tp, .int td, .int fk, .int fpl, .ref bk, .int un, .ref mb, .ref mu, .int mk, .ref rd, .ref cm, .ref wk, .ref pp, .ref so, .ref ty]))]) [0] (by decide) rfl
      have hK9 := hK.sub (tys' := []) [] rfl
      exact W.iret hx hb hr (fun t ht hW => ⟨⟨_, (), rfl, trivial, 1, by rw [ht]; exact hP9, va_K.moved hW.alike hK9, hD9⟩, hS.F ht⟩) hS.2.2 dX9_match_14
theorem dX9_alive_0 : decode cX9_alive 0 = .ok (.iload_n 3, 1) := by decide +kernel
theorem dX9_alive_1 : decode cX9_alive 1 = .ok (.ifCond .ge 9, 3) := by decide +kernel
theorem dX9_alive_4 : decode cX9_alive 4 = .ok (.aload_n 0, 1) := by decide +kernel
theorem dX9_alive_5 : decode cX9_alive 5 = .ok (.iconst 1, 1) := by decide +kernel
theorem dX9_alive_6 : decode cX9_alive 6 = .ok (.invokevirtual 80, 3) := by decide +kernel
theorem dX9_alive_9 : decode cX9_alive 9 = .ok (.ireturn, 1) := by decide +kernel
theorem dX9_alive_10 : decode cX9_alive 10 = .ok (.aload_n 0, 1) := by decide +kernel
theorem dX9_alive_11 : decode cX9_alive 11 = .ok (.getfield 29, 3) := by decide +kernel
theorem dX9_alive_14 : decode cX9_alive 14 = .ok (.iload_n 1, 1) := by decide +kernel
theorem dX9_alive_15 : decode cX9_alive 15 = .ok (.invokevirtual 140, 3) := by decide +kernel
theorem dX9_alive_18 : decode cX9_alive 18 = .ok (.astore 4, 2) := by decide +kernel
theorem dX9_alive_20 : decode cX9_alive 20 = .ok (.aload_n 0, 1) := by decide +kernel
theorem dX9_alive_21 : decode cX9_alive 21 = .ok (.getfield 29, 3) := by decide +kernel
theorem dX9_alive_24 : decode cX9_alive 24 = .ok (.iload_n 2, 1) := by decide +kernel
theorem dX9_alive_25 : decode cX9_alive 25 = .ok (.invokevirtual 123, 3) := by decide +kernel
theorem dX9_alive_28 : decode cX9_alive 28 = .ok (.astore 5, 2) := by decide +kernel
theorem dX9_alive_30 : decode cX9_alive 30 = .ok (.aload 4, 2) := by decide +kernel
theorem dX9_alive_32 : decode cX9_alive 32 = .ok (.ifnull 8, 3) := by decide +kernel
theorem dX9_alive_35 : decode cX9_alive 35 = .ok (.aload 5, 2) := by decide +kernel
theorem dX9_alive_37 : decode cX9_alive 37 = .ok (.ifnonnull 9, 3) := by decide +kernel
theorem dX9_alive_40 : decode cX9_alive 40 = .ok (.aload_n 0, 1) := by decide +kernel
theorem dX9_alive_41 : decode cX9_alive 41 = .ok (.iconst 2, 1) := by decide +kernel
theorem dX9_alive_42 : decode cX9_alive 42 = .ok (.invokevirtual 80, 3) := by decide +kernel
theorem dX9_alive_45 : decode cX9_alive 45 = .ok (.ireturn, 1) := by decide +kernel
theorem dX9_alive_46 : decode cX9_alive 46 = .ok (.iload_n 3, 1) := by decide +kernel
theorem dX9_alive_47 : decode cX9_alive 47 = .ok (.aload 5, 2) := by decide +kernel
theorem dX9_alive_49 : decode cX9_alive 49 = .ok (.getfield 127, 3) := by decide +kernel
theorem dX9_alive_52 : decode cX9_alive 52 = .ok (.arraylength, 1) := by decide +kernel
theorem dX9_alive_53 : decode cX9_alive 53 = .ok (.if_icmp .lt 9, 3) := by decide +kernel
theorem dX9_alive_56 : decode cX9_alive 56 = .ok (.aload_n 0, 1) := by decide +kernel
theorem dX9_alive_57 : decode cX9_alive 57 = .ok (.iconst 5, 1) := by decide +kernel
theorem dX9_alive_58 : decode cX9_alive 58 = .ok (.invokevirtual 80, 3) := by decide +kernel
theorem dX9_alive_61 : decode cX9_alive 61 = .ok (.ireturn, 1) := by decide +kernel
theorem dX9_alive_62 : decode cX9_alive 62 = .ok (.aload_n 0, 1) := by decide +kernel
theorem dX9_alive_63 : decode cX9_alive 63 = .ok (.aload 4, 2) := by decide +kernel
theorem dX9_alive_65 : decode cX9_alive 65 = .ok (.aload 5, 2) := by decide +kernel
theorem dX9_alive_67 : decode cX9_alive 67 = .ok (.iload_n 3, 1) := by decide +kernel
theorem dX9_alive_68 : decode cX9_alive 68 = .ok (.invokevirtual 232, 3) := by decide +kernel
theorem dX9_alive_71 : decode cX9_alive 71 = .ok (.invokevirtual 100, 3) := by decide +kernel
theorem dX9_alive_74 : decode cX9_alive 74 = .ok (.ireturn, 1) := by decide +kernel
def mwX9_alive : List Cond := .code yX9_alive cX9_alive 6 (some .int) :: (([.fieldLink RX9 29 "PatternGate" "book" "LPatternGate$Book;", .methodLink RX9 140 yX0_patternAt, .instanceMethod yX0_patternAt, .selects RX0 yX0_patternAt yX0_patternAt, .initialized RX0, .methodLink RX9 123 yX0_docAt, .instanceMethod yX0_docAt, .selects RX0 yX0_docAt yX0_docAt, .methodLink RX9 80 yX9_refuse, .instanceMethod yX9_refuse, .selects RX9 yX9_refuse yX9_refuse, .initialized RX9, .fieldLink RX9 127 "PatternGate$Doc" "letters" "[I", .methodLink RX9 232 yX5_aliveBehind, .instanceMethod yX5_aliveBehind, .selects RX5 yX5_aliveBehind yX5_aliveBehind, .initialized RX5, .methodLink RX9 100 yX9_answer, .instanceMethod yX9_answer, .selects RX9 yX9_answer yX9_answer] : List Cond) ++ (wsX90 ++ (wsX20 ++ (mwX0_patternAt2 ++ (mwX0_docAt ++ (mwX9_refuse ++ (mwX5_aliveBehind ++ (mwX9_answer))))))))
theorem fin_X9_alive_X2 : ∀ w ∈ wsX20, w ∈ mwX9_alive := fun w h => List.mem_cons_of_mem _ (List.mem_append_right _ (List.mem_append_right _ (List.mem_append_left _ h)))
theorem fin_X9_alive_X9 : ∀ w ∈ wsX90, w ∈ mwX9_alive := fun w h => List.mem_cons_of_mem _ (List.mem_append_right _ (List.mem_append_left _ h))
set_option maxRecDepth 100000 in
theorem gd_mwX5_aliveBehind : mwX5_aliveBehind.all goodWord = true := by decide +kernel
set_option maxRecDepth 20000 in
theorem mg_X9_alive_X0_patternAt_140 : GoodIn mwX9_alive (wsV RX9 140 RX0 yX0_patternAt mwX0_patternAt2) := gi_app (A := [.methodLink RX9 140 yX0_patternAt, .instanceMethod yX0_patternAt, .selects RX0 yX0_patternAt yX0_patternAt, .initialized RX0]) (goodIn_r _ [2, 3, 4, 5] (by decide +kernel) (by decide +kernel)) (gi_sub gd_mwX0_patternAt2 (fun w h => List.mem_cons_of_mem _ (List.mem_append_right _ (List.mem_append_right _ (List.mem_append_right _ (List.mem_append_left _ h))))))
set_option maxRecDepth 20000 in
theorem mg_X9_alive_X0_docAt_123 : GoodIn mwX9_alive (wsV RX9 123 RX0 yX0_docAt mwX0_docAt) := gi_app (A := [.methodLink RX9 123 yX0_docAt, .instanceMethod yX0_docAt, .selects RX0 yX0_docAt yX0_docAt, .initialized RX0]) (goodIn_r _ [6, 7, 8, 5] (by decide +kernel) (by decide +kernel)) (gi_sub gd_mwX0_docAt (fun w h => List.mem_cons_of_mem _ (List.mem_append_right _ (List.mem_append_right _ (List.mem_append_right _ (List.mem_append_right _ (List.mem_append_left _ h)))))))
set_option maxRecDepth 20000 in
theorem mg_X9_alive_X9_refuse_80 : GoodIn mwX9_alive (wsV RX9 80 RX9 yX9_refuse mwX9_refuse) := gi_app (A := [.methodLink RX9 80 yX9_refuse, .instanceMethod yX9_refuse, .selects RX9 yX9_refuse yX9_refuse, .initialized RX9]) (goodIn_r _ [9, 10, 11, 12] (by decide +kernel) (by decide +kernel)) (gi_sub gd_mwX9_refuse (fun w h => List.mem_cons_of_mem _ (List.mem_append_right _ (List.mem_append_right _ (List.mem_append_right _ (List.mem_append_right _ (List.mem_append_right _ (List.mem_append_left _ h))))))))
set_option maxRecDepth 20000 in
theorem mg_X9_alive_X5_aliveBehind_232 : GoodIn mwX9_alive (wsV RX9 232 RX5 yX5_aliveBehind mwX5_aliveBehind) := gi_app (A := [.methodLink RX9 232 yX5_aliveBehind, .instanceMethod yX5_aliveBehind, .selects RX5 yX5_aliveBehind yX5_aliveBehind, .initialized RX5]) (goodIn_r _ [14, 15, 16, 17] (by decide +kernel) (by decide +kernel)) (gi_sub gd_mwX5_aliveBehind (fun w h => List.mem_cons_of_mem _ (List.mem_append_right _ (List.mem_append_right _ (List.mem_append_right _ (List.mem_append_right _ (List.mem_append_right _ (List.mem_append_right _ (List.mem_append_left _ h)))))))))
set_option maxRecDepth 20000 in
theorem mg_X9_alive_X9_answer_100 : GoodIn mwX9_alive (wsV RX9 100 RX9 yX9_answer mwX9_answer) := gi_app (A := [.methodLink RX9 100 yX9_answer, .instanceMethod yX9_answer, .selects RX9 yX9_answer yX9_answer, .initialized RX9]) (goodIn_r _ [18, 19, 20, 12] (by decide +kernel) (by decide +kernel)) (gi_sub gd_mwX9_answer (fun w h => List.mem_cons_of_mem _ (List.mem_append_right _ (List.mem_append_right _ (List.mem_append_right _ (List.mem_append_right _ (List.mem_append_right _ (List.mem_append_right _ (List.mem_append_right _ (h))))))))))
set_option maxHeartbeats 4000000 in
set_option maxRecDepth 100000 in
/-- gate: alive -/
theorem s_g_alive (l : Launch) (dC : Nat → ClassId) (dI : Nat → Nat → Nat) (W9 : va_W) (T9 : List (ClassId × FieldType)) (B9 : Nat → Prop) (gt tp bk mb mu rd cm wk pp so ty : Nat) (st9 td fk fpl un mk : Int32) (sz : Nat) (i1 i2 i3 : Int32) (hB9 : gB W9 T9 B9) (hbk : B9 bk) : Met l yX9_alive mwX9_alive ({ frames := 2, cells := 0, slots := 0, locals := 120 }) (va_Pc [.ref gt, .int i1, .int i2, .int i3] (fun U => U.heap.size = sz ∧ va_P (dC, dI) vwCl ([(gt, .inr (9, [.int st9, .ref tp, .int td, .int fk, .int fpl, .ref bk, .int un, .ref mb, .ref mu, .int mk, .ref rd, .ref cm, .ref wk, .ref pp, .ref so, .ref ty]))]) U.heap ∧ va_K (dC, dI) vwCl ([]) U ∧ va_D (fun _ => True) ([(gt, .inr (9, [.int st9, .ref tp, .int td, .int fk, .int fpl, .ref bk, .int un, .ref mb, .ref mu, .int mk, .ref rd, .ref cm, .ref wk, .ref pp, .ref so, .ref ty]))]) ∧ va_P (dC, dI) vwCl W9 U.heap ∧ va_K (dC, dI) vwCl T9 U ∧ (∀ q ∈ W9, ¬ va_A ([(gt, .inr (9, [.int st9, .ref tp, .int td, .int fk, .int fpl, .ref bk, .int un, .ref mb, .ref mu, .int mk, .ref rd, .ref cm, .ref wk, .ref pp, .ref so, .ref ty]))]) sz q.1))) (va_Qi (fun (_ : Int32) (_ : Unit) => True) (fun _ t => ∃ (y0 : Int32), va_P (dC, dI) vwCl [(gt, .inr (9, [.int y0, .ref tp, .int td, .int fk, .int fpl, .ref bk, .int un, .ref mb, .ref mu, .int mk, .ref rd, .ref cm, .ref wk, .ref pp, .ref so, .ref ty]))] t.heap ∧ va_K (dC, dI) vwCl [] t ∧ va_D (va_A ([(gt, .inr (9, [.int st9, .ref tp, .int td, .int fk, .int fpl, .ref bk, .int un, .ref mb, .ref mu, .int mk, .ref rd, .ref cm, .ref wk, .ref pp, .ref so, .ref ty]))]) sz) [(gt, .inr (9, [.int y0, .ref tp, .int td, .int fk, .int fpl, .ref bk, .int un, .ref mb, .ref mu, .int mk, .ref rd, .ref cm, .ref wk, .ref pp, .ref so, .ref ty]))]) (va_A ([(gt, .inr (9, [.int st9, .ref tp, .int td, .int fk, .int fpl, .ref bk, .int un, .ref mb, .ref mu, .int mk, .ref rd, .ref cm, .ref wk, .ref pp, .ref so, .ref ty]))]) sz)) 0 0 (va_A ([(gt, .inr (9, [.int st9, .ref tp, .int td, .int fk, .int fpl, .ref bk, .int un, .ref mb, .ref mu, .int mk, .ref rd, .ref cm, .ref wk, .ref pp, .ref so, .ref ty]))]) sz) := by
  refine Met.ofW (cc := cX9_alive) (maxL := 6) (ret := (some .int)) (by decide +kernel) rfl ?_
  intro p e s m args below meth c s₁ B hml hv
  obtain ⟨rfl, hsz, hP, hK, hD0, hQ0, hKQ, hQA⟩ := hv
  have hx := B.exec
  have hb := B.bytes
  have hr := B.returns
  have hts := atoms_spec (ws := mwX9_alive) B.pre
  have hown : s.vm.findClass RX9 = some m.cls := findClass_of_methodNamed B.named
  have hlocks := B.notSynchronized
  subst hsz
  have hD := hD0.self (sz := s.heap.size)
  generalize hAe : va_A ([(gt, .inr (9, [.int st9, .ref tp, .int td, .int fk, .int fpl, .ref bk, .int un, .ref mb, .ref mu, .int mk, .ref rd, .ref cm, .ref wk, .ref pp, .ref so, .ref ty]))]) s.heap.size = A at hD hQA ⊢
  have hA : ∀ q : Nat, s.heap.size ≤ q → A q := fun q h => by rw [← hAe]; exact Or.inr h
  have hP : va_P (dC, dI) vwCl [(gt, .inr (9, [.int st9, .ref tp, .int td, .int fk, .int fpl, .ref bk, .int un, .ref mb, .ref mu, .int mk, .ref rd, .ref cm, .ref wk, .ref pp, .ref so, .ref ty]))] s.heap := hP
  have hD : va_D A [(gt, .inr (9, [.int st9, .ref tp, .int td, .int fk, .int fpl, .ref bk, .int un, .ref mb, .ref mu, .int mk, .ref rd, .ref cm, .ref wk, .ref pp, .ref so, .ref ty]))] := hD
  have hK : va_K (dC, dI) vwCl [] s := hK
  generalize hH : s.heap = H at hP ⊢
  have hS : va_S A s.heap H [] := by rw [← hH]; exact va_S.rf
  have hQ := q_at hQ0 hQA hS
  have hl := lv_entry ([.ref gt, .int i1, .int i2, .int i3]) (n := 6) (Nat.le_of_ble_eq_true rfl)
  rw [lg_entry_eq]
  generalize (lg_sl ([.ref gt, .int i1, .int i2, .int i3]) ++ List.replicate (6 - (lg_sl ([.ref gt, .int i1, .int i2, .int i3])).length) Slot.unset).toArray = ls at hl ⊢
  have hl : lv_has ls 6 [(0, .ref gt), (1, .int i1), (2, .int i2), (3, .int i3)] := hl
  have rg_i1 := i_rng i1
  have rg_i2 := i_rng i2
  have rg_i3 := i_rng i3
  obtain ⟨ear, hB3, hear⟩ := hB9 bk hbk
  have hB0 := hB3.poB
  obtain ⟨ds, ps, nd, np, fd, fp, cD, cP, m1, m2, m3, m4, m5, hnd, hnp, hds, hps⟩ := id hB3
  obtain ⟨k_1, hk_1⟩ := List.getElem?_of_mem m1
  obtain ⟨k_2, hk_2⟩ := List.getElem?_of_mem m2
  obtain ⟨j_3, hj_3⟩ := List.getElem?_of_mem m3
  obtain ⟨k_4, hk_4⟩ := List.getElem?_of_mem m4
  obtain ⟨j_5, hj_5⟩ := List.getElem?_of_mem m5
  have r_un := i_rng un
  have r_mk := i_rng mk
  have r_td := i_rng td
  refine lv_iload_n hx hb dX9_alive_0 rfl (lv_at hl 3 rfl) ?_
  refine lv_if_ge (tgt := 10) hx hb dX9_alive_1 (by decide) (fun k_6 => ?_) (fun k_6 => ?_)
  · have tk_6 := c_ge (a := i3.toInt) (b := 0) rfl (by decide) k_6
    refine lv_aload_n hx hb dX9_alive_10 rfl (lv_at hl 0 rfl) ?_
    refine va_get (D := (dC, dI)) (ci := 9) (v := .ref bk) (C := RX9) (T := TX9) (N := 16) hx hb hts fin_X9_alive_X9 hown hK hP 0 rfl rfl 5 (by decide) (hts (.fieldLink RX9 29 "PatternGate" "book" "LPatternGate$Book;") (List.mem_of_getElem? (i := 1) (by decide +kernel))) (fun _ h9 => h9) rfl dX9_alive_11 ?_
    refine lv_iload_n hx hb dX9_alive_14 rfl (lv_at hl 1 rfl) ?_
    have hPc := hQ
    have hKc := hKQ
    refine va_csq (W.runV (As := [.int i1]) (rest := []) ⟨hx, hb, hml, hown, hts⟩ (s_patternAt2 l dC dI W9 T9 bk ear i1 hB3) (cwV 1 hts mg_X9_alive_X0_patternAt_140 rfl rfl rfl (by decide +kernel) ⟨Nat.le_of_ble_eq_true rfl, Nat.le_of_ble_eq_true rfl⟩) ⟨fun a U g mk q => by obtain ⟨q0, qP, qK⟩ := q; exact ⟨q0, qP, va_K.moved (u := U) (U := U.calling g mk a) (Vm.Alike.refl U.vm) qK⟩, va_recv hKc hPc (ci := 0) (q0 := k_1) rfl hk_1, fun U hU hW => ⟨rfl, by rw [hU]; exact hPc, va_K.moved hW.alike hKc⟩⟩ rfl rfl hl.1 rfl (lv_room (Nat.le_of_ble_eq_true rfl)) dX9_alive_15 ⟨Nat.le_of_ble_eq_true rfl, Nat.le_of_ble_eq_true rfl⟩) (fun r_8 hw => ?_)
    rcases hw with rfl | ⟨d_9, rfl, hd_9⟩
    · refine W.eq (g2 := F0 m 18 ls [.null]) rfl ?_
      refine lv_astoreN (lv' := [(4, .null), (0, .ref gt), (1, .int i1), (2, .int i2), (3, .int i3)]) hx hb dX9_alive_18 hl (by decide) rfl (fun ls hl => ?_)
      refine lv_aload_n hx hb dX9_alive_20 rfl (lv_at hl 1 rfl) ?_
      refine va_get (D := (dC, dI)) (ci := 9) (v := .ref bk) (C := RX9) (T := TX9) (N := 16) hx hb hts fin_X9_alive_X9 hown hK hP 0 rfl rfl 5 (by decide) (hts (.fieldLink RX9 29 "PatternGate" "book" "LPatternGate$Book;") (List.mem_of_getElem? (i := 1) (by decide +kernel))) (fun _ h9 => h9) rfl dX9_alive_21 ?_
      refine lv_iload_n hx hb dX9_alive_24 rfl (lv_at hl 3 rfl) ?_
      have hPc := hQ
      have hKc := hKQ
      refine va_csq (W.runV (As := [.int i2]) (rest := []) ⟨hx, hb, hml, hown, hts⟩ (s_docAt l dC dI W9 T9 bk i2 hB0) (cwV 1 hts mg_X9_alive_X0_docAt_123 rfl rfl rfl (by decide +kernel) ⟨Nat.le_of_ble_eq_true rfl, Nat.le_of_ble_eq_true rfl⟩) ⟨fun a U g mk q => by obtain ⟨q0, qP, qK⟩ := q; exact ⟨q0, qP, va_K.moved (u := U) (U := U.calling g mk a) (Vm.Alike.refl U.vm) qK⟩, va_recv hKc hPc (ci := 0) (q0 := k_1) rfl hk_1, fun U hU hW => ⟨rfl, by rw [hU]; exact hPc, va_K.moved hW.alike hKc⟩⟩ rfl rfl hl.1 rfl (lv_room (Nat.le_of_ble_eq_true rfl)) dX9_alive_25 ⟨Nat.le_of_ble_eq_true rfl, Nat.le_of_ble_eq_true rfl⟩) (fun r_11 hw => ?_)
      rcases hw with rfl | ⟨d_12, rfl, hd_12⟩
      · refine W.eq (g2 := F0 m 28 ls [.null]) rfl ?_
        refine lv_astoreN (lv' := [(5, .null), (4, .null), (0, .ref gt), (1, .int i1), (2, .int i2), (3, .int i3)]) hx hb dX9_alive_28 hl (by decide) rfl (fun ls hl => ?_)
        refine lv_aloadN hx hb dX9_alive_30 (lv_at hl 1 rfl) ?_
        refine lv_ifnullN (tgt := 40) hx hb dX9_alive_32 (by decide) ?_
        refine lv_aload_n hx hb dX9_alive_40 rfl (lv_at hl 2 rfl) ?_
        refine lv_iconst (v := 2) hx hb dX9_alive_41 (by decide) ?_
        have hPc := hP.sub (ws' := [(gt, .inr (9, [.int st9, .ref tp, .int td, .int fk, .int fpl, .ref bk, .int un, .ref mb, .ref mu, .int mk, .ref rd, .ref cm, .ref wk, .ref pp, .ref so, .ref ty]))]) [0] rfl
        have hKc := hK.sub (tys' := []) [] rfl
        have hDc := hD.sub (ws' := [(gt, .inr (9, [.int st9, .ref tp, .int td, .int fk, .int fpl, .ref bk, .int un, .ref mb, .ref mu, .int mk, .ref rd, .ref cm, .ref wk, .ref pp, .ref so, .ref ty]))]) [0] (by decide) rfl
        have hFc := va_free (wc := [(gt, .inr (9, [.int st9, .ref tp, .int td, .int fk, .int fpl, .ref bk, .int un, .ref mb, .ref mu, .int mk, .ref rd, .ref cm, .ref wk, .ref pp, .ref so, .ref ty]))]) hD hS hA [0] rfl
        refine va_calli (va_runV (As := [.int 2]) (rest := []) ⟨hx, hb, hml, hown, hts⟩ (s_refuse l dC dI gt tp bk mb mu rd cm wk pp so ty st9 td fk fpl un mk H.size 2) (cwV 1 hts mg_X9_alive_X9_refuse_80 rfl rfl rfl (by decide +kernel) ⟨Nat.le_of_ble_eq_true rfl, Nat.le_of_ble_eq_true rfl⟩) ⟨fun a U g mk q => by obtain ⟨q0, q1, qP, qK, qD⟩ := q; exact ⟨q0, q1, qP, va_K.moved (u := U) (U := U.calling g mk a) (Vm.Alike.refl U.vm) qK, qD⟩, va_recv hKc hPc (ci := 9) (q0 := 0) rfl rfl, fun U hU hW => ⟨rfl, by rw [hU], by rw [hU]; exact hPc, va_K.moved hW.alike hKc, hDc.weaken (fun _ _ _ _ => trivial)⟩⟩ rfl rfl hl.1 rfl (lv_room (Nat.le_of_ble_eq_true rfl)) dX9_alive_42 ⟨Nat.le_of_ble_eq_true rfl, Nat.le_of_ble_eq_true rfl⟩) hS (fun q _ h => hFc q h) hFc (fun r_14 u t H1 locs ht hvm hw hB hz1 hk1 hS => ?_)
        obtain ⟨hP1, hK1, hD1⟩ := hB
        rw [ht] at hP1
        have hr_14 := hw
        obtain ⟨hP, hD⟩ := va_join (wr := []) (w1 := [(gt, .inr (9, [.int 2, .ref tp, .int td, .int fk, .int fpl, .ref bk, .int un, .ref mb, .ref mu, .int mk, .ref rd, .ref cm, .ref wk, .ref pp, .ref so, .ref ty]))]) hP hD [0] [] rfl rfl (by decide) (by decide) hk1 hFc hP1 hD1
        generalize H1 = H at hP hS ⊢
        have hP : va_P (dC, dI) vwCl [(gt, .inr (9, [.int 2, .ref tp, .int td, .int fk, .int fpl, .ref bk, .int un, .ref mb, .ref mu, .int mk, .ref rd, .ref cm, .ref wk, .ref pp, .ref so, .ref ty]))] H := hP
        have hD : va_D A [(gt, .inr (9, [.int 2, .ref tp, .int td, .int fk, .int fpl, .ref bk, .int un, .ref mb, .ref mu, .int mk, .ref rd, .ref cm, .ref wk, .ref pp, .ref so, .ref ty]))] := hD
        have hQ := q_at hQ0 hQA hS
        have hP9 := hP.sub (ws' := [(gt, .inr (9, [.int 2, .ref tp, .int td, .int fk, .int fpl, .ref bk, .int un, .ref mb, .ref mu, .int mk, .ref rd, .ref cm, .ref wk, .ref pp, .ref so, .ref ty]))]) [0] rfl
        have hD9 := hD.sub (ws' := [(gt, .inr (9, [.int 2, .ref tp, .int td, .int fk, .int fpl, .ref bk, .int un, .ref mb, .ref mu, .int mk, .ref rd, .ref cm, .ref wk, .ref pp, .ref so, .ref ty]))]) [0] (by decide) rfl
        have hK9 := hK.sub (tys' := []) [] rfl
        exact W.iret hx hb hr (fun t ht hW => ⟨⟨_, (), rfl, trivial, 2, by rw [ht]; exact hP9, va_K.moved hW.alike hK9, hD9⟩, hS.F ht⟩) hS.2.2 dX9_alive_45
      · refine W.eq (g2 := F0 m 28 ls [.ref d_12]) rfl ?_
        have hd_12D := hd_12
        obtain ⟨la_15, ta_16, m_17, n_18, fl_19, ft_20, cI_21, cJ_22, m_23, ⟨m_24, m_25⟩, ⟨m_26, m_27⟩, m_28, m_29⟩ := hd_12
        obtain ⟨k_30, hk_30⟩ := List.getElem?_of_mem m_23
        obtain ⟨k_31, hk_31⟩ := List.getElem?_of_mem m_24
        obtain ⟨j_32, hj_32⟩ := List.getElem?_of_mem m_25
        obtain ⟨k_33, hk_33⟩ := List.getElem?_of_mem m_26
        obtain ⟨j_34, hj_34⟩ := List.getElem?_of_mem m_27
        refine lv_astore (lv' := [(5, .ref d_12), (4, .null), (0, .ref gt), (1, .int i1), (2, .int i2), (3, .int i3)]) hx hb dX9_alive_28 hl (by decide) rfl (fun ls hl => ?_)
        refine lv_aloadN hx hb dX9_alive_30 (lv_at hl 1 rfl) ?_
        refine lv_ifnullN (tgt := 40) hx hb dX9_alive_32 (by decide) ?_
        refine lv_aload_n hx hb dX9_alive_40 rfl (lv_at hl 2 rfl) ?_
        refine lv_iconst (v := 2) hx hb dX9_alive_41 (by decide) ?_
        have hPc := hP.sub (ws' := [(gt, .inr (9, [.int st9, .ref tp, .int td, .int fk, .int fpl, .ref bk, .int un, .ref mb, .ref mu, .int mk, .ref rd, .ref cm, .ref wk, .ref pp, .ref so, .ref ty]))]) [0] rfl
        have hKc := hK.sub (tys' := []) [] rfl
        have hDc := hD.sub (ws' := [(gt, .inr (9, [.int st9, .ref tp, .int td, .int fk, .int fpl, .ref bk, .int un, .ref mb, .ref mu, .int mk, .ref rd, .ref cm, .ref wk, .ref pp, .ref so, .ref ty]))]) [0] (by decide) rfl
        have hFc := va_free (wc := [(gt, .inr (9, [.int st9, .ref tp, .int td, .int fk, .int fpl, .ref bk, .int un, .ref mb, .ref mu, .int mk, .ref rd, .ref cm, .ref wk, .ref pp, .ref so, .ref ty]))]) hD hS hA [0] rfl
        refine va_calli (va_runV (As := [.int 2]) (rest := []) ⟨hx, hb, hml, hown, hts⟩ (s_refuse l dC dI gt tp bk mb mu rd cm wk pp so ty st9 td fk fpl un mk H.size 2) (cwV 1 hts mg_X9_alive_X9_refuse_80 rfl rfl rfl (by decide +kernel) ⟨Nat.le_of_ble_eq_true rfl, Nat.le_of_ble_eq_true rfl⟩) ⟨fun a U g mk q => by obtain ⟨q0, q1, qP, qK, qD⟩ := q; exact ⟨q0, q1, qP, va_K.moved (u := U) (U := U.calling g mk a) (Vm.Alike.refl U.vm) qK, qD⟩, va_recv hKc hPc (ci := 9) (q0 := 0) rfl rfl, fun U hU hW => ⟨rfl, by rw [hU], by rw [hU]; exact hPc, va_K.moved hW.alike hKc, hDc.weaken (fun _ _ _ _ => trivial)⟩⟩ rfl rfl hl.1 rfl (lv_room (Nat.le_of_ble_eq_true rfl)) dX9_alive_42 ⟨Nat.le_of_ble_eq_true rfl, Nat.le_of_ble_eq_true rfl⟩) hS (fun q _ h => hFc q h) hFc (fun r_36 u t H1 locs ht hvm hw hB hz1 hk1 hS => ?_)
        obtain ⟨hP1, hK1, hD1⟩ := hB
        rw [ht] at hP1
        have hr_36 := hw
        obtain ⟨hP, hD⟩ := va_join (wr := []) (w1 := [(gt, .inr (9, [.int 2, .ref tp, .int td, .int fk, .int fpl, .ref bk, .int un, .ref mb, .ref mu, .int mk, .ref rd, .ref cm, .ref wk, .ref pp, .ref so, .ref ty]))]) hP hD [0] [] rfl rfl (by decide) (by decide) hk1 hFc hP1 hD1
        generalize H1 = H at hP hS ⊢
        have hP : va_P (dC, dI) vwCl [(gt, .inr (9, [.int 2, .ref tp, .int td, .int fk, .int fpl, .ref bk, .int un, .ref mb, .ref mu, .int mk, .ref rd, .ref cm, .ref wk, .ref pp, .ref so, .ref ty]))] H := hP
        have hD : va_D A [(gt, .inr (9, [.int 2, .ref tp, .int td, .int fk, .int fpl, .ref bk, .int un, .ref mb, .ref mu, .int mk, .ref rd, .ref cm, .ref wk, .ref pp, .ref so, .ref ty]))] := hD
        have hQ := q_at hQ0 hQA hS
        have hP9 := hP.sub (ws' := [(gt, .inr (9, [.int 2, .ref tp, .int td, .int fk, .int fpl, .ref bk, .int un, .ref mb, .ref mu, .int mk, .ref rd, .ref cm, .ref wk, .ref pp, .ref so, .ref ty]))]) [0] rfl
        have hD9 := hD.sub (ws' := [(gt, .inr (9, [.int 2, .ref tp, .int td, .int fk, .int fpl, .ref bk, .int un, .ref mb, .ref mu, .int mk, .ref rd, .ref cm, .ref wk, .ref pp, .ref so, .ref ty]))]) [0] (by decide) rfl
        have hK9 := hK.sub (tys' := []) [] rfl
        exact W.iret hx hb hr (fun t ht hW => ⟨⟨_, (), rfl, trivial, 2, by rw [ht]; exact hP9, va_K.moved hW.alike hK9, hD9⟩, hS.F ht⟩) hS.2.2 dX9_alive_45
    · refine W.eq (g2 := F0 m 18 ls [.ref d_9]) rfl ?_
      have hd_9P := hd_9.poP
      have hd_9Q := hd_9
      obtain ⟨q_37, a_38, a_39, a_40, a_41, a_42, a_43, n_44, n_45, n_46, n_47, n_48, n_49, n_50, f_51, f_52, f_53, f_54, f_55, f_56, f_57, c_58, c_59, c_60, c_61, c_62, c_63, c_64, m_65, ⟨m_66, m_67⟩, ⟨m_68, m_69⟩, ⟨m_70, m_71⟩, ⟨m_72, m_73⟩, ⟨m_74, m_75⟩, ⟨m_76, m_77⟩, ⟨m_78, m_79, h_90⟩, h_80, h_81, h_82, h_83, h_84, h_85, h_86, h_87, h_88, h_89⟩ := hd_9
      obtain ⟨k_91, hk_91⟩ := List.getElem?_of_mem m_65
      obtain ⟨k_92, hk_92⟩ := List.getElem?_of_mem m_66
      obtain ⟨j_93, hj_93⟩ := List.getElem?_of_mem m_67
      obtain ⟨k_94, hk_94⟩ := List.getElem?_of_mem m_68
      obtain ⟨j_95, hj_95⟩ := List.getElem?_of_mem m_69
      obtain ⟨k_96, hk_96⟩ := List.getElem?_of_mem m_70
      obtain ⟨j_97, hj_97⟩ := List.getElem?_of_mem m_71
      obtain ⟨k_98, hk_98⟩ := List.getElem?_of_mem m_72
      obtain ⟨j_99, hj_99⟩ := List.getElem?_of_mem m_73
      obtain ⟨k_100, hk_100⟩ := List.getElem?_of_mem m_74
      obtain ⟨j_101, hj_101⟩ := List.getElem?_of_mem m_75
      obtain ⟨k_102, hk_102⟩ := List.getElem?_of_mem m_76
      obtain ⟨j_103, hj_103⟩ := List.getElem?_of_mem m_77
      obtain ⟨k_104, hk_104⟩ := List.getElem?_of_mem m_78
      obtain ⟨j_105, hj_105⟩ := List.getElem?_of_mem m_79
      refine lv_astore (lv' := [(4, .ref d_9), (0, .ref gt), (1, .int i1), (2, .int i2), (3, .int i3)]) hx hb dX9_alive_18 hl (by decide) rfl (fun ls hl => ?_)
      refine lv_aload_n hx hb dX9_alive_20 rfl (lv_at hl 1 rfl) ?_
      refine va_get (D := (dC, dI)) (ci := 9) (v := .ref bk) (C := RX9) (T := TX9) (N := 16) hx hb hts fin_X9_alive_X9 hown hK hP 0 rfl rfl 5 (by decide) (hts (.fieldLink RX9 29 "PatternGate" "book" "LPatternGate$Book;") (List.mem_of_getElem? (i := 1) (by decide +kernel))) (fun _ h9 => h9) rfl dX9_alive_21 ?_
      refine lv_iload_n hx hb dX9_alive_24 rfl (lv_at hl 3 rfl) ?_
      have hPc := hQ
      have hKc := hKQ
      refine va_csq (W.runV (As := [.int i2]) (rest := []) ⟨hx, hb, hml, hown, hts⟩ (s_docAt l dC dI W9 T9 bk i2 hB0) (cwV 1 hts mg_X9_alive_X0_docAt_123 rfl rfl rfl (by decide +kernel) ⟨Nat.le_of_ble_eq_true rfl, Nat.le_of_ble_eq_true rfl⟩) ⟨fun a U g mk q => by obtain ⟨q0, qP, qK⟩ := q; exact ⟨q0, qP, va_K.moved (u := U) (U := U.calling g mk a) (Vm.Alike.refl U.vm) qK⟩, va_recv hKc hPc (ci := 0) (q0 := k_1) rfl hk_1, fun U hU hW => ⟨rfl, by rw [hU]; exact hPc, va_K.moved hW.alike hKc⟩⟩ rfl rfl hl.1 rfl (lv_room (Nat.le_of_ble_eq_true rfl)) dX9_alive_25 ⟨Nat.le_of_ble_eq_true rfl, Nat.le_of_ble_eq_true rfl⟩) (fun r_107 hw => ?_)
      rcases hw with rfl | ⟨d_108, rfl, hd_108⟩
      · refine W.eq (g2 := F0 m 28 ls [.null]) rfl ?_
        refine lv_astoreN (lv' := [(5, .null), (4, .ref d_9), (0, .ref gt), (1, .int i1), (2, .int i2), (3, .int i3)]) hx hb dX9_alive_28 hl (by decide) rfl (fun ls hl => ?_)
        refine lv_aload hx hb dX9_alive_30 (lv_at hl 1 rfl) ?_
        refine lv_ifnull hx hb dX9_alive_32 ?_
        refine lv_aloadN hx hb dX9_alive_35 (lv_at hl 0 rfl) ?_
        refine lv_ifnonnullN hx hb dX9_alive_37 ?_
        refine lv_aload_n hx hb dX9_alive_40 rfl (lv_at hl 2 rfl) ?_
        refine lv_iconst (v := 2) hx hb dX9_alive_41 (by decide) ?_
        have hPc := hP.sub (ws' := [(gt, .inr (9, [.int st9, .ref tp, .int td, .int fk, .int fpl, .ref bk, .int un, .ref mb, .ref mu, .int mk, .ref rd, .ref cm, .ref wk, .ref pp, .ref so, .ref ty]))]) [0] rfl
        have hKc := hK.sub (tys' := []) [] rfl
        have hDc := hD.sub (ws' := [(gt, .inr (9, [.int st9, .ref tp, .int td, .int fk, .int fpl, .ref bk, .int un, .ref mb, .ref mu, .int mk, .ref rd, .ref cm, .ref wk, .ref pp, .ref so, .ref ty]))]) [0] (by decide) rfl
        have hFc := va_free (wc := [(gt, .inr (9, [.int st9, .ref tp, .int td, .int fk, .int fpl, .ref bk, .int un, .ref mb, .ref mu, .int mk, .ref rd, .ref cm, .ref wk, .ref pp, .ref so, .ref ty]))]) hD hS hA [0] rfl
        refine va_calli (va_runV (As := [.int 2]) (rest := []) ⟨hx, hb, hml, hown, hts⟩ (s_refuse l dC dI gt tp bk mb mu rd cm wk pp so ty st9 td fk fpl un mk H.size 2) (cwV 1 hts mg_X9_alive_X9_refuse_80 rfl rfl rfl (by decide +kernel) ⟨Nat.le_of_ble_eq_true rfl, Nat.le_of_ble_eq_true rfl⟩) ⟨fun a U g mk q => by obtain ⟨q0, q1, qP, qK, qD⟩ := q; exact ⟨q0, q1, qP, va_K.moved (u := U) (U := U.calling g mk a) (Vm.Alike.refl U.vm) qK, qD⟩, va_recv hKc hPc (ci := 9) (q0 := 0) rfl rfl, fun U hU hW => ⟨rfl, by rw [hU], by rw [hU]; exact hPc, va_K.moved hW.alike hKc, hDc.weaken (fun _ _ _ _ => trivial)⟩⟩ rfl rfl hl.1 rfl (lv_room (Nat.le_of_ble_eq_true rfl)) dX9_alive_42 ⟨Nat.le_of_ble_eq_true rfl, Nat.le_of_ble_eq_true rfl⟩) hS (fun q _ h => hFc q h) hFc (fun r_110 u t H1 locs ht hvm hw hB hz1 hk1 hS => ?_)
        obtain ⟨hP1, hK1, hD1⟩ := hB
        rw [ht] at hP1
        have hr_110 := hw
        obtain ⟨hP, hD⟩ := va_join (wr := []) (w1 := [(gt, .inr (9, [.int 2, .ref tp, .int td, .int fk, .int fpl, .ref bk, .int un, .ref mb, .ref mu, .int mk, .ref rd, .ref cm, .ref wk, .ref pp, .ref so, .ref ty]))]) hP hD [0] [] rfl rfl (by decide) (by decide) hk1 hFc hP1 hD1
        generalize H1 = H at hP hS ⊢
        have hP : va_P (dC, dI) vwCl [(gt, .inr (9, [.int 2, .ref tp, .int td, .int fk, .int fpl, .ref bk, .int un, .ref mb, .ref mu, .int mk, .ref rd, .ref cm, .ref wk, .ref pp, .ref so, .ref ty]))] H := hP
        have hD : va_D A [(gt, .inr (9, [.int 2, .ref tp, .int td, .int fk, .int fpl, .ref bk, .int un, .ref mb, .ref mu, .int mk, .ref rd, .ref cm, .ref wk, .ref pp, .ref so, .ref ty]))] := hD
        have hQ := q_at hQ0 hQA hS
        have hP9 := hP.sub (ws' := [(gt, .inr (9, [.int 2, .ref tp, .int td, .int fk, .int fpl, .ref bk, .int un, .ref mb, .ref mu, .int mk, .ref rd, .ref cm, .ref wk, .ref pp, .ref so, .ref ty]))]) [0] rfl
        have hD9 := hD.sub (ws' := [(gt, .inr (9, [.int 2, .ref tp, .int td, .int fk, .int fpl, .ref bk, .int un, .ref mb, .ref mu, .int mk, .ref rd, .ref cm, .ref wk, .ref pp, .ref so, .ref ty]))]) [0] (by decide) rfl
        have hK9 := hK.sub (tys' := []) [] rfl
        exact W.iret hx hb hr (fun t ht hW => ⟨⟨_, (), rfl, trivial, 2, by rw [ht]; exact hP9, va_K.moved hW.alike hK9, hD9⟩, hS.F ht⟩) hS.2.2 dX9_alive_45
      · refine W.eq (g2 := F0 m 28 ls [.ref d_108]) rfl ?_
        have hd_108D := hd_108
        obtain ⟨la_111, ta_112, m_113, n_114, fl_115, ft_116, cI_117, cJ_118, m_119, ⟨m_120, m_121⟩, ⟨m_122, m_123⟩, m_124, m_125⟩ := hd_108
        obtain ⟨k_126, hk_126⟩ := List.getElem?_of_mem m_119
        obtain ⟨k_127, hk_127⟩ := List.getElem?_of_mem m_120
        obtain ⟨j_128, hj_128⟩ := List.getElem?_of_mem m_121
        obtain ⟨k_129, hk_129⟩ := List.getElem?_of_mem m_122
        obtain ⟨j_130, hj_130⟩ := List.getElem?_of_mem m_123
        refine lv_astore (lv' := [(5, .ref d_108), (4, .ref d_9), (0, .ref gt), (1, .int i1), (2, .int i2), (3, .int i3)]) hx hb dX9_alive_28 hl (by decide) rfl (fun ls hl => ?_)
        refine lv_aload hx hb dX9_alive_30 (lv_at hl 1 rfl) ?_
        refine lv_ifnull hx hb dX9_alive_32 ?_
        refine lv_aload hx hb dX9_alive_35 (lv_at hl 0 rfl) ?_
        refine lv_ifnonnull (tgt := 46) hx hb dX9_alive_37 (by decide) ?_
        refine lv_iload_n hx hb dX9_alive_46 rfl (lv_at hl 5 rfl) ?_
        refine lv_aload hx hb dX9_alive_47 (lv_at hl 0 rfl) ?_
        refine va_get (D := (dC, dI)) (ci := 2) (v := .ref la_111) (C := RX2) (T := TX2) (N := 2) hx hb hts fin_X9_alive_X2 hown hKQ hQ k_126 hk_126 rfl 0 (by decide) (hts (.fieldLink RX9 127 "PatternGate$Doc" "letters" "[I") (List.mem_of_getElem? (i := 13) (by decide +kernel))) (fun _ h9 => h9) rfl dX9_alive_49 ?_
        refine va_alen hx hb hKQ hQ k_127 j_128 hk_127 hj_128 rfl dX9_alive_52 ?_
        refine lv_topi (fun y_131 ey_131 => ?_)
        have ty_131 : y_131.toInt = (m_113 : Int) := i_len ey_131 (by omega)
        refine lv_icmp_lt (tgt := 62) hx hb dX9_alive_53 (by decide) (fun k_132 => ?_) (fun k_132 => ?_)
        · have tk_132 := c_lt (a := i3.toInt) (b := y_131.toInt) rfl rfl k_132
          refine lv_aload_n hx hb dX9_alive_62 rfl (lv_at hl 2 rfl) ?_
          refine lv_aload hx hb dX9_alive_63 (lv_at hl 1 rfl) ?_
          refine lv_aload hx hb dX9_alive_65 (lv_at hl 0 rfl) ?_
          refine lv_iload_n hx hb dX9_alive_67 rfl (lv_at hl 5 rfl) ?_
          have hPc : va_P (dC, dI) vwCl [(d_9, .inr (5, pF q_37 a_38 a_39 a_40 a_41 a_42 a_43)), (q_37 1, .inl (c_59, n_45, .inl f_52)), (q_37 2, .inl (c_60, n_46, .inl f_53)), (d_108, .inr (2, [.ref la_111, .ref ta_112])), (la_111, .inl (cI_117, m_113, .inl fl_115))] H := p_sub hQ (List.forall_mem_cons.mpr ⟨m_65, List.forall_mem_cons.mpr ⟨m_68, List.forall_mem_cons.mpr ⟨m_70, List.forall_mem_cons.mpr ⟨m_119, List.forall_mem_cons.mpr ⟨m_120, fun _ h => absurd h List.not_mem_nil⟩⟩⟩⟩⟩)
          have hKc : va_K (dC, dI) vwCl [(c_59, .int), (c_60, .int), (cI_117, .int)] s := k_sub hKQ (List.forall_mem_cons.mpr ⟨m_69, List.forall_mem_cons.mpr ⟨m_71, List.forall_mem_cons.mpr ⟨m_121, fun _ h => absurd h List.not_mem_nil⟩⟩⟩)
          refine vp_callSi (W.runV (As := [.ref d_108, .int i3]) (rest := [.ref gt]) ⟨hx, hb, hml, hown, hts⟩ (s_aliveBehind l dC dI d_9 q_37 a_38 a_39 a_40 a_41 a_42 a_43 n_45 f_52 c_59 n_46 f_53 c_60 d_108 la_111 ta_112 m_113 fl_115 cI_117 i3 (by omega) (by omega) (by omega)) (cwV 2 hts mg_X9_alive_X5_aliveBehind_232 rfl rfl rfl (by decide +kernel) ⟨Nat.le_of_ble_eq_true rfl, Nat.le_of_ble_eq_true rfl⟩) ⟨fun a U g mk q => by obtain ⟨q0, qP, qK⟩ := q; exact ⟨q0, qP, va_K.moved (u := U) (U := U.calling g mk a) (Vm.Alike.refl U.vm) qK⟩, va_recv hKc hPc (ci := 5) (q0 := 0) rfl rfl, fun U hU hW => ⟨rfl, by rw [hU]; exact hPc, va_K.moved hW.alike hKc⟩⟩ rfl rfl hl.1 rfl (lv_room (Nat.le_of_ble_eq_true rfl)) dX9_alive_68 ⟨Nat.le_of_ble_eq_true rfl, Nat.le_of_ble_eq_true rfl⟩) (fun r_134 hw => ?_)
          have hr_134 := hw
          have hPc := hP.sub (ws' := [(gt, .inr (9, [.int st9, .ref tp, .int td, .int fk, .int fpl, .ref bk, .int un, .ref mb, .ref mu, .int mk, .ref rd, .ref cm, .ref wk, .ref pp, .ref so, .ref ty]))]) [0] rfl
          have hKc := hK.sub (tys' := []) [] rfl
          have hDc := hD.sub (ws' := [(gt, .inr (9, [.int st9, .ref tp, .int td, .int fk, .int fpl, .ref bk, .int un, .ref mb, .ref mu, .int mk, .ref rd, .ref cm, .ref wk, .ref pp, .ref so, .ref ty]))]) [0] (by decide) rfl
          have hFc := va_free (wc := [(gt, .inr (9, [.int st9, .ref tp, .int td, .int fk, .int fpl, .ref bk, .int un, .ref mb, .ref mu, .int mk, .ref rd, .ref cm, .ref wk, .ref pp, .ref so, .ref ty]))]) hD hS hA [0] rfl
          refine va_calli (va_runV (As := [.int r_134]) (rest := []) ⟨hx, hb, hml, hown, hts⟩ (s_answer l dC dI gt tp bk mb mu rd cm wk pp so ty st9 td fk fpl un mk H.size r_134) (cwV 1 hts mg_X9_alive_X9_answer_100 rfl rfl rfl (by decide +kernel) ⟨Nat.le_of_ble_eq_true rfl, Nat.le_of_ble_eq_true rfl⟩) ⟨fun a U g mk q => by obtain ⟨q0, q1, qP, qK, qD⟩ := q; exact ⟨q0, q1, qP, va_K.moved (u := U) (U := U.calling g mk a) (Vm.Alike.refl U.vm) qK, qD⟩, va_recv hKc hPc (ci := 9) (q0 := 0) rfl rfl, fun U hU hW => ⟨rfl, by rw [hU], by rw [hU]; exact hPc, va_K.moved hW.alike hKc, hDc.weaken (fun _ _ _ _ => trivial)⟩⟩ rfl rfl hl.1 rfl (lv_room (Nat.le_of_ble_eq_true rfl)) dX9_alive_71 ⟨Nat.le_of_ble_eq_true rfl, Nat.le_of_ble_eq_true rfl⟩) hS (fun q _ h => hFc q h) hFc (fun r_136 u t H1 locs ht hvm hw hB hz1 hk1 hS => ?_)
          obtain ⟨hP1, hK1, hD1⟩ := hB
          rw [ht] at hP1
          have hr_136 := hw
          obtain ⟨hP, hD⟩ := va_join (wr := []) (w1 := [(gt, .inr (9, [.int 0, .ref tp, .int td, .int fk, .int fpl, .ref bk, .int un, .ref mb, .ref mu, .int mk, .ref rd, .ref cm, .ref wk, .ref pp, .ref so, .ref ty]))]) hP hD [0] [] rfl rfl (by decide) (by decide) hk1 hFc hP1 hD1
          generalize H1 = H at hP hS ⊢
          have hP : va_P (dC, dI) vwCl [(gt, .inr (9, [.int 0, .ref tp, .int td, .int fk, .int fpl, .ref bk, .int un, .ref mb, .ref mu, .int mk, .ref rd, .ref cm, .ref wk, .ref pp, .ref so, .ref ty]))] H := hP
          have hD : va_D A [(gt, .inr (9, [.int 0, .ref tp, .int td, .int fk, .int fpl, .ref bk, .int un, .ref mb, .ref mu, .int mk, .ref rd, .ref cm, .ref wk, .ref pp, .ref so, .ref ty]))] := hD
          have hQ := q_at hQ0 hQA hS
          have hP9 := hP.sub (ws' := [(gt, .inr (9, [.int 0, .ref tp, .int td, .int fk, .int fpl, .ref bk, .int un, .ref mb, .ref mu, .int mk, .ref rd, .ref cm, .ref wk, .ref pp, .ref so, .ref ty]))]) [0] rfl
          have hD9 := hD.sub (ws' := [(gt, .inr (9, [.int 0, .ref tp, .int td, .int fk, .int fpl, .ref bk, .int un, .ref mb, .ref mu, .int mk, .ref rd, .ref cm, .ref wk, .ref pp, .ref so, .ref ty]))]) [0] (by decide) rfl
          have hK9 := hK.sub (tys' := []) [] rfl
          exact W.iret hx hb hr (fun t ht hW => ⟨⟨_, (), rfl, trivial, 0, by rw [ht]; exact hP9, va_K.moved hW.alike hK9, hD9⟩, hS.F ht⟩) hS.2.2 dX9_alive_74
        · have tk_132 := c_nlt (a := i3.toInt) (b := y_131.toInt) rfl rfl k_132
          refine lv_aload_n hx hb dX9_alive_56 rfl (lv_at hl 2 rfl) ?_
          refine lv_iconst (v := 5) hx hb dX9_alive_57 (by decide) ?_
          have hPc := hP.sub (ws' := [(gt, .inr (9, [.int st9, .ref tp, .int td, .int fk, .int fpl, .ref bk, .int un, .ref mb, .ref mu, .int mk, .ref rd, .ref cm, .ref wk, .ref pp, .ref so, .ref ty]))]) [0] rfl
          have hKc := hK.sub (tys' := []) [] rfl
          have hDc := hD.sub (ws' := [(gt, .inr (9, [.int st9, .ref tp, .int td, .int fk, .int fpl, .ref bk, .int un, .ref mb, .ref mu, .int mk, .ref rd, .ref cm, .ref wk, .ref pp, .ref so, .ref ty]))]) [0] (by decide) rfl
          have hFc := va_free (wc := [(gt, .inr (9, [.int st9, .ref tp, .int td, .int fk, .int fpl, .ref bk, .int un, .ref mb, .ref mu, .int mk, .ref rd, .ref cm, .ref wk, .ref pp, .ref so, .ref ty]))]) hD hS hA [0] rfl
          refine va_calli (va_runV (As := [.int 5]) (rest := []) ⟨hx, hb, hml, hown, hts⟩ (s_refuse l dC dI gt tp bk mb mu rd cm wk pp so ty st9 td fk fpl un mk H.size 5) (cwV 1 hts mg_X9_alive_X9_refuse_80 rfl rfl rfl (by decide +kernel) ⟨Nat.le_of_ble_eq_true rfl, Nat.le_of_ble_eq_true rfl⟩) ⟨fun a U g mk q => by obtain ⟨q0, q1, qP, qK, qD⟩ := q; exact ⟨q0, q1, qP, va_K.moved (u := U) (U := U.calling g mk a) (Vm.Alike.refl U.vm) qK, qD⟩, va_recv hKc hPc (ci := 9) (q0 := 0) rfl rfl, fun U hU hW => ⟨rfl, by rw [hU], by rw [hU]; exact hPc, va_K.moved hW.alike hKc, hDc.weaken (fun _ _ _ _ => trivial)⟩⟩ rfl rfl hl.1 rfl (lv_room (Nat.le_of_ble_eq_true rfl)) dX9_alive_58 ⟨Nat.le_of_ble_eq_true rfl, Nat.le_of_ble_eq_true rfl⟩) hS (fun q _ h => hFc q h) hFc (fun r_138 u t H1 locs ht hvm hw hB hz1 hk1 hS => ?_)
          obtain ⟨hP1, hK1, hD1⟩ := hB
          rw [ht] at hP1
          have hr_138 := hw
          obtain ⟨hP, hD⟩ := va_join (wr := []) (w1 := [(gt, .inr (9, [.int 5, .ref tp, .int td, .int fk, .int fpl, .ref bk, .int un, .ref mb, .ref mu, .int mk, .ref rd, .ref cm, .ref wk, .ref pp, .ref so, .ref ty]))]) hP hD [0] [] rfl rfl (by decide) (by decide) hk1 hFc hP1 hD1
          generalize H1 = H at hP hS ⊢
          have hP : va_P (dC, dI) vwCl [(gt, .inr (9, [.int 5, .ref tp, .int td, .int fk, .int fpl, .ref bk, .int un, .ref mb, .ref mu, .int mk, .ref rd, .ref cm, .ref wk, .ref pp, .ref so, .ref ty]))] H := hP
          have hD : va_D A [(gt, .inr (9, [.int 5, .ref tp, .int td, .int fk, .int fpl, .ref bk, .int un, .ref mb, .ref mu, .int mk, .ref rd, .ref cm, .ref wk, .ref pp, .ref so, .ref ty]))] := hD
          have hQ := q_at hQ0 hQA hS
          have hP9 := hP.sub (ws' := [(gt, .inr (9, [.int 5, .ref tp, .int td, .int fk, .int fpl, .ref bk, .int un, .ref mb, .ref mu, .int mk, .ref rd, .ref cm, .ref wk, .ref pp, .ref so, .ref ty]))]) [0] rfl
          have hD9 := hD.sub (ws' := [(gt, .inr (9, [.int 5, .ref tp, .int td, .int fk, .int fpl, .ref bk, .int un, .ref mb, .ref mu, .int mk, .ref rd, .ref cm, .ref wk, .ref pp, .ref so, .ref ty]))]) [0] (by decide) rfl
          have hK9 := hK.sub (tys' := []) [] rfl
          exact W.iret hx hb hr (fun t ht hW => ⟨⟨_, (), rfl, trivial, 5, by rw [ht]; exact hP9, va_K.moved hW.alike hK9, hD9⟩, hS.F ht⟩) hS.2.2 dX9_alive_61
  · have tk_6 := c_nge (a := i3.toInt) (b := 0) rfl (by decide) k_6
    refine lv_aload_n hx hb dX9_alive_4 rfl (lv_at hl 0 rfl) ?_
    refine lv_iconst (v := 1) hx hb dX9_alive_5 (by decide) ?_
    have hPc := hP.sub (ws' := [(gt, .inr (9, [.int st9, .ref tp, .int td, .int fk, .int fpl, .ref bk, .int un, .ref mb, .ref mu, .int mk, .ref rd, .ref cm, .ref wk, .ref pp, .ref so, .ref ty]))]) [0] rfl
    have hKc := hK.sub (tys' := []) [] rfl
    have hDc := hD.sub (ws' := [(gt, .inr (9, [.int st9, .ref tp, .int td, .int fk, .int fpl, .ref bk, .int un, .ref mb, .ref mu, .int mk, .ref rd, .ref cm, .ref wk, .ref pp, .ref so, .ref ty]))]) [0] (by decide) rfl
    have hFc := va_free (wc := [(gt, .inr (9, [.int st9, .ref tp, .int td, .int fk, .int fpl, .ref bk, .int un, .ref mb, .ref mu, .int mk, .ref rd, .ref cm, .ref wk, .ref pp, .ref so, .ref ty]))]) hD hS hA [0] rfl
    refine va_calli (va_runV (As := [.int 1]) (rest := []) ⟨hx, hb, hml, hown, hts⟩ (s_refuse l dC dI gt tp bk mb mu rd cm wk pp so ty st9 td fk fpl un mk H.size 1) (cwV 1 hts mg_X9_alive_X9_refuse_80 rfl rfl rfl (by decide +kernel) ⟨Nat.le_of_ble_eq_true rfl, Nat.le_of_ble_eq_true rfl⟩) ⟨fun a U g mk q => by obtain ⟨q0, q1, qP, qK, qD⟩ := q; exact ⟨q0, q1, qP, va_K.moved (u := U) (U := U.calling g mk a) (Vm.Alike.refl U.vm) qK, qD⟩, va_recv hKc hPc (ci := 9) (q0 := 0) rfl rfl, fun U hU hW => ⟨rfl, by rw [hU], by rw [hU]; exact hPc, va_K.moved hW.alike hKc, hDc.weaken (fun _ _ _ _ => trivial)⟩⟩ rfl rfl hl.1 rfl (lv_room (Nat.le_of_ble_eq_true rfl)) dX9_alive_6 ⟨Nat.le_of_ble_eq_true rfl, Nat.le_of_ble_eq_true rfl⟩) hS (fun q _ h => hFc q h) hFc (fun r_140 u t H1 locs ht hvm hw hB hz1 hk1 hS => ?_)
    obtain ⟨hP1, hK1, hD1⟩ := hB
    rw [ht] at hP1
    have hr_140 := hw
    obtain ⟨hP, hD⟩ := va_join (wr := []) (w1 := [(gt, .inr (9, [.int 1, .ref tp, .int td, .int fk, .int fpl, .ref bk, .int un, .ref mb, .ref mu, .int mk, .ref rd, .ref cm, .ref wk, .ref pp, .ref so, .ref ty]))]) hP hD [0] [] rfl rfl (by decide) (by decide) hk1 hFc hP1 hD1
    generalize H1 = H at hP hS ⊢
    have hP : va_P (dC, dI) vwCl [(gt, .inr (9, [.int 1, .ref tp, .int td, .int fk, .int fpl, .ref bk, .int un, .ref mb, .ref mu, .int mk, .ref rd, .ref cm, .ref wk, .ref pp, .ref so, .ref ty]))] H := hP
    have hD : va_D A [(gt, .inr (9, [.int 1, .ref tp, .int td, .int fk, .int fpl, .ref bk, .int un, .ref mb, .ref mu, .int mk, .ref rd, .ref cm, .ref wk, .ref pp, .ref so, .ref ty]))] := hD
    have hQ := q_at hQ0 hQA hS
    have hP9 := hP.sub (ws' := [(gt, .inr (9, [.int 1, .ref tp, .int td, .int fk, .int fpl, .ref bk, .int un, .ref mb, .ref mu, .int mk, .ref rd, .ref cm, .ref wk, .ref pp, .ref so, .ref ty]))]) [0] rfl
    have hD9 := hD.sub (ws' := [(gt, .inr (9, [.int 1, .ref tp, .int td, .int fk, .int fpl, .ref bk, .int un, .ref mb, .ref mu, .int mk, .ref rd, .ref cm, .ref wk, .ref pp, .ref so, .ref ty]))]) [0] (by decide) rfl
    have hK9 := hK.sub (tys' := []) [] rfl
    exact W.iret hx hb hr (fun t ht hW => ⟨⟨_, (), rfl, trivial, 1, by rw [ht]; exact hP9, va_K.moved hW.alike hK9, hD9⟩, hS.F ht⟩) hS.2.2 dX9_alive_9
theorem dX9_rarest_0 : decode cX9_rarest 0 = .ok (.aload_n 0, 1) := by decide +kernel
theorem dX9_rarest_1 : decode cX9_rarest 1 = .ok (.getfield 29, 3) := by decide +kernel
theorem dX9_rarest_4 : decode cX9_rarest 4 = .ok (.iload_n 1, 1) := by decide +kernel
theorem dX9_rarest_5 : decode cX9_rarest 5 = .ok (.invokevirtual 140, 3) := by decide +kernel
theorem dX9_rarest_8 : decode cX9_rarest 8 = .ok (.astore_n 2, 1) := by decide +kernel
theorem dX9_rarest_9 : decode cX9_rarest 9 = .ok (.aload_n 2, 1) := by decide +kernel
theorem dX9_rarest_10 : decode cX9_rarest 10 = .ok (.ifnonnull 9, 3) := by decide +kernel
theorem dX9_rarest_13 : decode cX9_rarest 13 = .ok (.aload_n 0, 1) := by decide +kernel
theorem dX9_rarest_14 : decode cX9_rarest 14 = .ok (.iconst 2, 1) := by decide +kernel
theorem dX9_rarest_15 : decode cX9_rarest 15 = .ok (.invokevirtual 80, 3) := by decide +kernel
theorem dX9_rarest_18 : decode cX9_rarest 18 = .ok (.ireturn, 1) := by decide +kernel
theorem dX9_rarest_19 : decode cX9_rarest 19 = .ok (.iconst (-1), 1) := by decide +kernel
theorem dX9_rarest_20 : decode cX9_rarest 20 = .ok (.istore_n 3, 1) := by decide +kernel
theorem dX9_rarest_21 : decode cX9_rarest 21 = .ok (.bipush 11, 2) := by decide +kernel
theorem dX9_rarest_23 : decode cX9_rarest 23 = .ok (.istore 4, 2) := by decide +kernel
theorem dX9_rarest_25 : decode cX9_rarest 25 = .ok (.iconst 0, 1) := by decide +kernel
theorem dX9_rarest_26 : decode cX9_rarest 26 = .ok (.istore 5, 2) := by decide +kernel
theorem dX9_rarest_28 : decode cX9_rarest 28 = .ok (.iload 5, 2) := by decide +kernel
theorem dX9_rarest_30 : decode cX9_rarest 30 = .ok (.aload_n 2, 1) := by decide +kernel
theorem dX9_rarest_31 : decode cX9_rarest 31 = .ok (.getfield 167, 3) := by decide +kernel
theorem dX9_rarest_34 : decode cX9_rarest 34 = .ok (.arraylength, 1) := by decide +kernel
theorem dX9_rarest_35 : decode cX9_rarest 35 = .ok (.if_icmp .ge 47, 3) := by decide +kernel
theorem dX9_rarest_38 : decode cX9_rarest 38 = .ok (.aload_n 0, 1) := by decide +kernel
theorem dX9_rarest_39 : decode cX9_rarest 39 = .ok (.getfield 29, 3) := by decide +kernel
theorem dX9_rarest_42 : decode cX9_rarest 42 = .ok (.aload_n 2, 1) := by decide +kernel
theorem dX9_rarest_43 : decode cX9_rarest 43 = .ok (.getfield 167, 3) := by decide +kernel
theorem dX9_rarest_46 : decode cX9_rarest 46 = .ok (.iload 5, 2) := by decide +kernel
theorem dX9_rarest_48 : decode cX9_rarest 48 = .ok (.iaload, 1) := by decide +kernel
theorem dX9_rarest_49 : decode cX9_rarest 49 = .ok (.invokevirtual 194, 3) := by decide +kernel
theorem dX9_rarest_52 : decode cX9_rarest 52 = .ok (.invokestatic 197, 3) := by decide +kernel
theorem dX9_rarest_55 : decode cX9_rarest 55 = .ok (.istore 6, 2) := by decide +kernel
theorem dX9_rarest_57 : decode cX9_rarest 57 = .ok (.iload 6, 2) := by decide +kernel
theorem dX9_rarest_59 : decode cX9_rarest 59 = .ok (.iload 4, 2) := by decide +kernel
theorem dX9_rarest_61 : decode cX9_rarest 61 = .ok (.if_icmp .ge 15, 3) := by decide +kernel
theorem dX9_rarest_64 : decode cX9_rarest 64 = .ok (.iload 6, 2) := by decide +kernel
theorem dX9_rarest_66 : decode cX9_rarest 66 = .ok (.istore 4, 2) := by decide +kernel
theorem dX9_rarest_68 : decode cX9_rarest 68 = .ok (.aload_n 2, 1) := by decide +kernel
theorem dX9_rarest_69 : decode cX9_rarest 69 = .ok (.getfield 167, 3) := by decide +kernel
theorem dX9_rarest_72 : decode cX9_rarest 72 = .ok (.iload 5, 2) := by decide +kernel
theorem dX9_rarest_74 : decode cX9_rarest 74 = .ok (.iaload, 1) := by decide +kernel
theorem dX9_rarest_75 : decode cX9_rarest 75 = .ok (.istore_n 3, 1) := by decide +kernel
theorem dX9_rarest_76 : decode cX9_rarest 76 = .ok (.iinc 5 1, 3) := by decide +kernel
theorem dX9_rarest_79 : decode cX9_rarest 79 = .ok (.goto (-51), 3) := by decide +kernel
theorem dX9_rarest_82 : decode cX9_rarest 82 = .ok (.iload_n 3, 1) := by decide +kernel
theorem dX9_rarest_83 : decode cX9_rarest 83 = .ok (.iconst (-1), 1) := by decide +kernel
theorem dX9_rarest_84 : decode cX9_rarest 84 = .ok (.if_icmp .ne 11, 3) := by decide +kernel
theorem dX9_rarest_87 : decode cX9_rarest 87 = .ok (.aload_n 0, 1) := by decide +kernel
theorem dX9_rarest_88 : decode cX9_rarest 88 = .ok (.iconst 5, 1) := by decide +kernel
theorem dX9_rarest_89 : decode cX9_rarest 89 = .ok (.invokevirtual 80, 3) := by decide +kernel
theorem dX9_rarest_92 : decode cX9_rarest 92 = .ok (.goto 8, 3) := by decide +kernel
theorem dX9_rarest_95 : decode cX9_rarest 95 = .ok (.aload_n 0, 1) := by decide +kernel
theorem dX9_rarest_96 : decode cX9_rarest 96 = .ok (.iload_n 3, 1) := by decide +kernel
theorem dX9_rarest_97 : decode cX9_rarest 97 = .ok (.invokevirtual 100, 3) := by decide +kernel
theorem dX9_rarest_100 : decode cX9_rarest 100 = .ok (.ireturn, 1) := by decide +kernel
def mwX9_rarest : List Cond := .code yX9_rarest cX9_rarest 7 (some .int) :: (([.fieldLink RX9 29 "PatternGate" "book" "LPatternGate$Book;", .methodLink RX9 140 yX0_patternAt, .instanceMethod yX0_patternAt, .selects RX0 yX0_patternAt yX0_patternAt, .initialized RX0, .methodLink RX9 80 yX9_refuse, .instanceMethod yX9_refuse, .selects RX9 yX9_refuse yX9_refuse, .initialized RX9, .fieldLink RX9 167 "PatternGate$Pattern" "unlike" "[I", .methodLink RX9 100 yX9_answer, .instanceMethod yX9_answer, .selects RX9 yX9_answer yX9_answer, .methodLink RX9 194 yX0_listBits, .instanceMethod yX0_listBits, .selects RX0 yX0_listBits yX0_listBits, .methodLink RX9 197 yJ6_bitCount_0f7a4, .static yJ6_bitCount_0f7a4, .initialized RJ6] : List Cond) ++ (wsX90 ++ (wsX50 ++ (mwX0_patternAt2 ++ (mwX9_refuse ++ (mwX9_answer ++ (mwX0_listBits ++ (mwJ6_bitCount_0f7a4))))))))
theorem fin_X9_rarest_X5 : ∀ w ∈ wsX50, w ∈ mwX9_rarest := fun w h => List.mem_cons_of_mem _ (List.mem_append_right _ (List.mem_append_right _ (List.mem_append_left _ h)))
theorem fin_X9_rarest_X9 : ∀ w ∈ wsX90, w ∈ mwX9_rarest := fun w h => List.mem_cons_of_mem _ (List.mem_append_right _ (List.mem_append_left _ h))
set_option maxRecDepth 20000 in
theorem mg_X9_rarest_X0_patternAt_140 : GoodIn mwX9_rarest (wsV RX9 140 RX0 yX0_patternAt mwX0_patternAt2) := gi_app (A := [.methodLink RX9 140 yX0_patternAt, .instanceMethod yX0_patternAt, .selects RX0 yX0_patternAt yX0_patternAt, .initialized RX0]) (goodIn_r _ [2, 3, 4, 5] (by decide +kernel) (by decide +kernel)) (gi_sub gd_mwX0_patternAt2 (fun w h => List.mem_cons_of_mem _ (List.mem_append_right _ (List.mem_append_right _ (List.mem_append_right _ (List.mem_append_left _ h))))))
set_option maxRecDepth 20000 in
theorem mg_X9_rarest_X9_refuse_80 : GoodIn mwX9_rarest (wsV RX9 80 RX9 yX9_refuse mwX9_refuse) := gi_app (A := [.methodLink RX9 80 yX9_refuse, .instanceMethod yX9_refuse, .selects RX9 yX9_refuse yX9_refuse, .initialized RX9]) (goodIn_r _ [6, 7, 8, 9] (by decide +kernel) (by decide +kernel)) (gi_sub gd_mwX9_refuse (fun w h => List.mem_cons_of_mem _ (List.mem_append_right _ (List.mem_append_right _ (List.mem_append_right _ (List.mem_append_right _ (List.mem_append_left _ h)))))))
set_option maxRecDepth 20000 in
theorem mg_X9_rarest_X9_answer_100 : GoodIn mwX9_rarest (wsV RX9 100 RX9 yX9_answer mwX9_answer) := gi_app (A := [.methodLink RX9 100 yX9_answer, .instanceMethod yX9_answer, .selects RX9 yX9_answer yX9_answer, .initialized RX9]) (goodIn_r _ [11, 12, 13, 9] (by decide +kernel) (by decide +kernel)) (gi_sub gd_mwX9_answer (fun w h => List.mem_cons_of_mem _ (List.mem_append_right _ (List.mem_append_right _ (List.mem_append_right _ (List.mem_append_right _ (List.mem_append_right _ (List.mem_append_left _ h))))))))
set_option maxRecDepth 20000 in
theorem mg_X9_rarest_X0_listBits_194 : GoodIn mwX9_rarest (wsV RX9 194 RX0 yX0_listBits mwX0_listBits) := gi_app (A := [.methodLink RX9 194 yX0_listBits, .instanceMethod yX0_listBits, .selects RX0 yX0_listBits yX0_listBits, .initialized RX0]) (goodIn_r _ [14, 15, 16, 5] (by decide +kernel) (by decide +kernel)) (gi_sub gd_mwX0_listBits (fun w h => List.mem_cons_of_mem _ (List.mem_append_right _ (List.mem_append_right _ (List.mem_append_right _ (List.mem_append_right _ (List.mem_append_right _ (List.mem_append_right _ (List.mem_append_left _ h)))))))))
set_option maxRecDepth 20000 in
theorem mg_X9_rarest_J6_bitCount_0f7a4_197 : GoodIn mwX9_rarest (va_wsS RX9 197 yJ6_bitCount_0f7a4 mwJ6_bitCount_0f7a4) := gi_app (A := [.methodLink RX9 197 yJ6_bitCount_0f7a4, .static yJ6_bitCount_0f7a4, .initialized RJ6]) (goodIn_r _ [17, 18, 19] (by decide +kernel) (by decide +kernel)) (gi_sub gd_mwJ6_bitCount_0f7a4 (fun w h => List.mem_cons_of_mem _ (List.mem_append_right _ (List.mem_append_right _ (List.mem_append_right _ (List.mem_append_right _ (List.mem_append_right _ (List.mem_append_right _ (List.mem_append_right _ (h))))))))))
set_option maxHeartbeats 4000000 in
set_option maxRecDepth 100000 in
/-- gate: rarest -/
theorem s_g_rarest (l : Launch) (dC : Nat → ClassId) (dI : Nat → Nat → Nat) (W9 : va_W) (T9 : List (ClassId × FieldType)) (B9 : Nat → Prop) (gt tp bk mb mu rd cm wk pp so ty : Nat) (st9 td fk fpl un mk : Int32) (sz : Nat) (i1 : Int32) (hB9 : gB W9 T9 B9) (hbk : B9 bk) : Met l yX9_rarest mwX9_rarest ({ frames := 2, cells := 0, slots := 0, locals := 120 }) (va_Pc [.ref gt, .int i1] (fun U => U.heap.size = sz ∧ va_P (dC, dI) vwCl ([(gt, .inr (9, [.int st9, .ref tp, .int td, .int fk, .int fpl, .ref bk, .int un, .ref mb, .ref mu, .int mk, .ref rd, .ref cm, .ref wk, .ref pp, .ref so, .ref ty]))]) U.heap ∧ va_K (dC, dI) vwCl ([]) U ∧ va_D (fun _ => True) ([(gt, .inr (9, [.int st9, .ref tp, .int td, .int fk, .int fpl, .ref bk, .int un, .ref mb, .ref mu, .int mk, .ref rd, .ref cm, .ref wk, .ref pp, .ref so, .ref ty]))]) ∧ va_P (dC, dI) vwCl W9 U.heap ∧ va_K (dC, dI) vwCl T9 U ∧ (∀ q ∈ W9, ¬ va_A ([(gt, .inr (9, [.int st9, .ref tp, .int td, .int fk, .int fpl, .ref bk, .int un, .ref mb, .ref mu, .int mk, .ref rd, .ref cm, .ref wk, .ref pp, .ref so, .ref ty]))]) sz q.1))) (va_Qi (fun (_ : Int32) (_ : Unit) => True) (fun _ t => ∃ (y0 : Int32), va_P (dC, dI) vwCl [(gt, .inr (9, [.int y0, .ref tp, .int td, .int fk, .int fpl, .ref bk, .int un, .ref mb, .ref mu, .int mk, .ref rd, .ref cm, .ref wk, .ref pp, .ref so, .ref ty]))] t.heap ∧ va_K (dC, dI) vwCl [] t ∧ va_D (va_A ([(gt, .inr (9, [.int st9, .ref tp, .int td, .int fk, .int fpl, .ref bk, .int un, .ref mb, .ref mu, .int mk, .ref rd, .ref cm, .ref wk, .ref pp, .ref so, .ref ty]))]) sz) [(gt, .inr (9, [.int y0, .ref tp, .int td, .int fk, .int fpl, .ref bk, .int un, .ref mb, .ref mu, .int mk, .ref rd, .ref cm, .ref wk, .ref pp, .ref so, .ref ty]))]) (va_A ([(gt, .inr (9, [.int st9, .ref tp, .int td, .int fk, .int fpl, .ref bk, .int un, .ref mb, .ref mu, .int mk, .ref rd, .ref cm, .ref wk, .ref pp, .ref so, .ref ty]))]) sz)) 0 0 (va_A ([(gt, .inr (9, [.int st9, .ref tp, .int td, .int fk, .int fpl, .ref bk, .int un, .ref mb, .ref mu, .int mk, .ref rd, .ref cm, .ref wk, .ref pp, .ref so, .ref ty]))]) sz) := by
  refine Met.ofW (cc := cX9_rarest) (maxL := 7) (ret := (some .int)) (by decide +kernel) rfl ?_
  intro p e s m args below meth c s₁ B hml hv
  obtain ⟨rfl, hsz, hP, hK, hD0, hQ0, hKQ, hQA⟩ := hv
  have hx := B.exec
  have hb := B.bytes
  have hr := B.returns
  have hts := atoms_spec (ws := mwX9_rarest) B.pre
  have hown : s.vm.findClass RX9 = some m.cls := findClass_of_methodNamed B.named
  have hlocks := B.notSynchronized
  subst hsz
  have hD := hD0.self (sz := s.heap.size)
  generalize hAe : va_A ([(gt, .inr (9, [.int st9, .ref tp, .int td, .int fk, .int fpl, .ref bk, .int un, .ref mb, .ref mu, .int mk, .ref rd, .ref cm, .ref wk, .ref pp, .ref so, .ref ty]))]) s.heap.size = A at hD hQA ⊢
  have hA : ∀ q : Nat, s.heap.size ≤ q → A q := fun q h => by rw [← hAe]; exact Or.inr h
  have hP : va_P (dC, dI) vwCl [(gt, .inr (9, [.int st9, .ref tp, .int td, .int fk, .int fpl, .ref bk, .int un, .ref mb, .ref mu, .int mk, .ref rd, .ref cm, .ref wk, .ref pp, .ref so, .ref ty]))] s.heap := hP
  have hD : va_D A [(gt, .inr (9, [.int st9, .ref tp, .int td, .int fk, .int fpl, .ref bk, .int un, .ref mb, .ref mu, .int mk, .ref rd, .ref cm, .ref wk, .ref pp, .ref so, .ref ty]))] := hD
  have hK : va_K (dC, dI) vwCl [] s := hK
  generalize hH : s.heap = H at hP ⊢
  have hS : va_S A s.heap H [] := by rw [← hH]; exact va_S.rf
  have hQ := q_at hQ0 hQA hS
  have hl := lv_entry ([.ref gt, .int i1]) (n := 7) (Nat.le_of_ble_eq_true rfl)
  rw [lg_entry_eq]
  generalize (lg_sl ([.ref gt, .int i1]) ++ List.replicate (7 - (lg_sl ([.ref gt, .int i1])).length) Slot.unset).toArray = ls at hl ⊢
  have hl : lv_has ls 7 [(0, .ref gt), (1, .int i1)] := hl
  have rg_i1 := i_rng i1
  obtain ⟨ear, hB3, hear⟩ := hB9 bk hbk
  have hB0 := hB3.poB
  obtain ⟨ds, ps, nd, np, fd, fp, cD, cP, m1, m2, m3, m4, m5, hnd, hnp, hds, hps⟩ := id hB3
  obtain ⟨k_1, hk_1⟩ := List.getElem?_of_mem m1
  obtain ⟨k_2, hk_2⟩ := List.getElem?_of_mem m2
  obtain ⟨j_3, hj_3⟩ := List.getElem?_of_mem m3
  obtain ⟨k_4, hk_4⟩ := List.getElem?_of_mem m4
  obtain ⟨j_5, hj_5⟩ := List.getElem?_of_mem m5
  have r_un := i_rng un
  have r_mk := i_rng mk
  have r_td := i_rng td
  refine lv_aload_n hx hb dX9_rarest_0 rfl (lv_at hl 0 rfl) ?_
  refine va_get (D := (dC, dI)) (ci := 9) (v := .ref bk) (C := RX9) (T := TX9) (N := 16) hx hb hts fin_X9_rarest_X9 hown hK hP 0 rfl rfl 5 (by decide) (hts (.fieldLink RX9 29 "PatternGate" "book" "LPatternGate$Book;") (List.mem_of_getElem? (i := 1) (by decide +kernel))) (fun _ h9 => h9) rfl dX9_rarest_1 ?_
  refine lv_iload_n hx hb dX9_rarest_4 rfl (lv_at hl 1 rfl) ?_
  have hPc := hQ
  have hKc := hKQ
  refine va_csq (W.runV (As := [.int i1]) (rest := []) ⟨hx, hb, hml, hown, hts⟩ (s_patternAt2 l dC dI W9 T9 bk ear i1 hB3) (cwV 1 hts mg_X9_rarest_X0_patternAt_140 rfl rfl rfl (by decide +kernel) ⟨Nat.le_of_ble_eq_true rfl, Nat.le_of_ble_eq_true rfl⟩) ⟨fun a U g mk q => by obtain ⟨q0, qP, qK⟩ := q; exact ⟨q0, qP, va_K.moved (u := U) (U := U.calling g mk a) (Vm.Alike.refl U.vm) qK⟩, va_recv hKc hPc (ci := 0) (q0 := k_1) rfl hk_1, fun U hU hW => ⟨rfl, by rw [hU]; exact hPc, va_K.moved hW.alike hKc⟩⟩ rfl rfl hl.1 rfl (lv_room (Nat.le_of_ble_eq_true rfl)) dX9_rarest_5 ⟨Nat.le_of_ble_eq_true rfl, Nat.le_of_ble_eq_true rfl⟩) (fun r_7 hw => ?_)
  rcases hw with rfl | ⟨d_8, rfl, hd_8⟩
  · refine W.eq (g2 := F0 m 8 ls [.null]) rfl ?_
    refine lv_astore_nN (lv' := [(2, .null), (0, .ref gt), (1, .int i1)]) hx hb dX9_rarest_8 rfl hl (by decide) rfl (fun ls hl => ?_)
    refine lv_aload_nN hx hb dX9_rarest_9 rfl (lv_at hl 0 rfl) ?_
    refine lv_ifnonnullN hx hb dX9_rarest_10 ?_
    refine lv_aload_n hx hb dX9_rarest_13 rfl (lv_at hl 1 rfl) ?_
    refine lv_iconst (v := 2) hx hb dX9_rarest_14 (by decide) ?_
    have hPc := hP.sub (ws' := [(gt, .inr (9, [.int st9, .ref tp, .int td, .int fk, .int fpl, .ref bk, .int un, .ref mb, .ref mu, .int mk, .ref rd, .ref cm, .ref wk, .ref pp, .ref so, .ref ty]))]) [0] rfl
    have hKc := hK.sub (tys' := []) [] rfl
    have hDc := hD.sub (ws' := [(gt, .inr (9, [.int st9, .ref tp, .int td, .int fk, .int fpl, .ref bk, .int un, .ref mb, .ref mu, .int mk, .ref rd, .ref cm, .ref wk, .ref pp, .ref so, .ref ty]))]) [0] (by decide) rfl
    have hFc := va_free (wc := [(gt, .inr (9, [.int st9, .ref tp, .int td, .int fk, .int fpl, .ref bk, .int un, .ref mb, .ref mu, .int mk, .ref rd, .ref cm, .ref wk, .ref pp, .ref so, .ref ty]))]) hD hS hA [0] rfl
    refine va_calli (va_runV (As := [.int 2]) (rest := []) ⟨hx, hb, hml, hown, hts⟩ (s_refuse l dC dI gt tp bk mb mu rd cm wk pp so ty st9 td fk fpl un mk H.size 2) (cwV 1 hts mg_X9_rarest_X9_refuse_80 rfl rfl rfl (by decide +kernel) ⟨Nat.le_of_ble_eq_true rfl, Nat.le_of_ble_eq_true rfl⟩) ⟨fun a U g mk q => by obtain ⟨q0, q1, qP, qK, qD⟩ := q; exact ⟨q0, q1, qP, va_K.moved (u := U) (U := U.calling g mk a) (Vm.Alike.refl U.vm) qK, qD⟩, va_recv hKc hPc (ci := 9) (q0 := 0) rfl rfl, fun U hU hW => ⟨rfl, by rw [hU], by rw [hU]; exact hPc, va_K.moved hW.alike hKc, hDc.weaken (fun _ _ _ _ => trivial)⟩⟩ rfl rfl hl.1 rfl (lv_room (Nat.le_of_ble_eq_true rfl)) dX9_rarest_15 ⟨Nat.le_of_ble_eq_true rfl, Nat.le_of_ble_eq_true rfl⟩) hS (fun q _ h => hFc q h) hFc (fun r_10 u t H1 locs ht hvm hw hB hz1 hk1 hS => ?_)
    obtain ⟨hP1, hK1, hD1⟩ := hB
    rw [ht] at hP1
    have hr_10 := hw
    obtain ⟨hP, hD⟩ := va_join (wr := []) (w1 := [(gt, .inr (9, [.int 2, .ref tp, .int td, .int fk, .int fpl, .ref bk, .int un, .ref mb, .ref mu, .int mk, .ref rd, .ref cm, .ref wk, .ref pp, .ref so, .ref ty]))]) hP hD [0] [] rfl rfl (by decide) (by decide) hk1 hFc hP1 hD1
    generalize H1 = H at hP hS ⊢
    have hP : va_P (dC, dI) vwCl [(gt, .inr (9, [.int 2, .ref tp, .int td, .int fk, .int fpl, .ref bk, .int un, .ref mb, .ref mu, .int mk, .ref rd, .ref cm, .ref wk, .ref pp, .ref so, .ref ty]))] H := hP
    have hD : va_D A [(gt, .inr (9, [.int 2, .ref tp, .int td, .int fk, .int fpl, .ref bk, .int un, .ref mb, .ref mu, .int mk, .ref rd, .ref cm, .ref wk, .ref pp, .ref so, .ref ty]))] := hD
    have hQ := q_at hQ0 hQA hS
    have hP9 := hP.sub (ws' := [(gt, .inr (9, [.int 2, .ref tp, .int td, .int fk, .int fpl, .ref bk, .int un, .ref mb, .ref mu, .int mk, .ref rd, .ref cm, .ref wk, .ref pp, .ref so, .ref ty]))]) [0] rfl
    have hD9 := hD.sub (ws' := [(gt, .inr (9, [.int 2, .ref tp, .int td, .int fk, .int fpl, .ref bk, .int un, .ref mb, .ref mu, .int mk, .ref rd, .ref cm, .ref wk, .ref pp, .ref so, .ref ty]))]) [0] (by decide) rfl
    have hK9 := hK.sub (tys' := []) [] rfl
    exact W.iret hx hb hr (fun t ht hW => ⟨⟨_, (), rfl, trivial, 2, by rw [ht]; exact hP9, va_K.moved hW.alike hK9, hD9⟩, hS.F ht⟩) hS.2.2 dX9_rarest_18
  · refine W.eq (g2 := F0 m 8 ls [.ref d_8]) rfl ?_
    have hd_8P := hd_8.poP
    have hd_8Q := hd_8
    obtain ⟨q_11, a_12, a_13, a_14, a_15, a_16, a_17, n_18, n_19, n_20, n_21, n_22, n_23, n_24, f_25, f_26, f_27, f_28, f_29, f_30, f_31, c_32, c_33, c_34, c_35, c_36, c_37, c_38, m_39, ⟨m_40, m_41⟩, ⟨m_42, m_43⟩, ⟨m_44, m_45⟩, ⟨m_46, m_47⟩, ⟨m_48, m_49⟩, ⟨m_50, m_51⟩, ⟨m_52, m_53, h_64⟩, h_54, h_55, h_56, h_57, h_58, h_59, h_60, h_61, h_62, h_63⟩ := hd_8
    obtain ⟨k_65, hk_65⟩ := List.getElem?_of_mem m_39
    obtain ⟨k_66, hk_66⟩ := List.getElem?_of_mem m_40
    obtain ⟨j_67, hj_67⟩ := List.getElem?_of_mem m_41
    obtain ⟨k_68, hk_68⟩ := List.getElem?_of_mem m_42
    obtain ⟨j_69, hj_69⟩ := List.getElem?_of_mem m_43
    obtain ⟨k_70, hk_70⟩ := List.getElem?_of_mem m_44
    obtain ⟨j_71, hj_71⟩ := List.getElem?_of_mem m_45
    obtain ⟨k_72, hk_72⟩ := List.getElem?_of_mem m_46
    obtain ⟨j_73, hj_73⟩ := List.getElem?_of_mem m_47
    obtain ⟨k_74, hk_74⟩ := List.getElem?_of_mem m_48
    obtain ⟨j_75, hj_75⟩ := List.getElem?_of_mem m_49
    obtain ⟨k_76, hk_76⟩ := List.getElem?_of_mem m_50
    obtain ⟨j_77, hj_77⟩ := List.getElem?_of_mem m_51
    obtain ⟨k_78, hk_78⟩ := List.getElem?_of_mem m_52
    obtain ⟨j_79, hj_79⟩ := List.getElem?_of_mem m_53
    refine lv_astore_n (lv' := [(2, .ref d_8), (0, .ref gt), (1, .int i1)]) hx hb dX9_rarest_8 rfl hl (by decide) rfl (fun ls hl => ?_)
    refine lv_aload_n hx hb dX9_rarest_9 rfl (lv_at hl 0 rfl) ?_
    refine lv_ifnonnull (tgt := 19) hx hb dX9_rarest_10 (by decide) ?_
    refine lv_iconst (v := (-1)) hx hb dX9_rarest_19 (by decide) ?_
    refine lv_istore_n (lv' := [(3, .int (-1)), (2, .ref d_8), (0, .ref gt), (1, .int i1)]) hx hb dX9_rarest_20 rfl hl (by decide) rfl (fun ls hl => ?_)
    refine lv_bipush (v := 11) hx hb dX9_rarest_21 (by decide) ?_
    refine lv_istore (lv' := [(4, .int 11), (3, .int (-1)), (2, .ref d_8), (0, .ref gt), (1, .int i1)]) hx hb dX9_rarest_23 hl (by decide) rfl (fun ls hl => ?_)
    refine lv_iconst (v := 0) hx hb dX9_rarest_25 (by decide) ?_
    refine lv_istore (lv' := [(5, .int 0), (4, .int 11), (3, .int (-1)), (2, .ref d_8), (0, .ref gt), (1, .int i1)]) hx hb dX9_rarest_26 hl (by decide) rfl (fun ls hl => ?_)
    have loop28 : ∀ (lm28 : Nat) (ra sh ii : Int32), (0 ≤ ii.toInt) → (((n_23 : Int) - ii.toInt).toNat) < lm28 → ∀ (H : Heap) (locs : List Loc) (ls : Array Slot), va_P (dC, dI) vwCl [(gt, .inr (9, [.int st9, .ref tp, .int td, .int fk, .int fpl, .ref bk, .int un, .ref mb, .ref mu, .int mk, .ref rd, .ref cm, .ref wk, .ref pp, .ref so, .ref ty]))] H → va_D A [(gt, .inr (9, [.int st9, .ref tp, .int td, .int fk, .int fpl, .ref bk, .int un, .ref mb, .ref mu, .int mk, .ref rd, .ref cm, .ref wk, .ref pp, .ref so, .ref ty]))] → va_S A s.heap H locs → lv_has ls 7 [(5, .int ii), (4, .int sh), (3, .int ra), (2, .ref d_8), (0, .ref gt), (1, .int i1)] → W p l e (headSpec mwX9_rarest ({ frames := 2, cells := 0, slots := 0, locals := 120 })).room s m ([.ref gt, .int i1]).toArray below meth c H locs 0 0 (MQ below (va_Qi (fun (_ : Int32) (_ : Unit) => True) (fun _ t => ∃ (y0 : Int32), va_P (dC, dI) vwCl [(gt, .inr (9, [.int y0, .ref tp, .int td, .int fk, .int fpl, .ref bk, .int un, .ref mb, .ref mu, .int mk, .ref rd, .ref cm, .ref wk, .ref pp, .ref so, .ref ty]))] t.heap ∧ va_K (dC, dI) vwCl [] t ∧ va_D A [(gt, .inr (9, [.int y0, .ref tp, .int td, .int fk, .int fpl, .ref bk, .int un, .ref mb, .ref mu, .int mk, .ref rd, .ref cm, .ref wk, .ref pp, .ref so, .ref ty]))]) A) ([.ref gt, .int i1]).toArray s 0 0 A) (F0 m 28 ls []) := by
      intro lm28
      induction lm28 with
      | zero => intro ra sh ii v28_0 hm28; exact absurd hm28 (Nat.not_lt_zero _)
      | succ lm28 ih28 =>
        intro ra sh ii v28_0 hm28 H locs ls hP hD hS hl
        have hQ := q_at hQ0 hQA hS
        have rg_ra := i_rng ra
        have rg_sh := i_rng sh
        have rg_ii := i_rng ii
        refine lv_iload hx hb dX9_rarest_28 (lv_at hl 0 rfl) ?_
        refine lv_aload_n hx hb dX9_rarest_30 rfl (lv_at hl 3 rfl) ?_
        refine va_get (D := (dC, dI)) (ci := 5) (v := .ref (q_11 6)) (C := RX5) (T := TX5) (N := 13) hx hb hts fin_X9_rarest_X5 hown hKQ hQ k_65 hk_65 rfl 12 (by decide) (hts (.fieldLink RX9 167 "PatternGate$Pattern" "unlike" "[I") (List.mem_of_getElem? (i := 10) (by decide +kernel))) (fun _ h9 => h9) rfl dX9_rarest_31 ?_
        refine va_alen hx hb hKQ hQ k_76 j_77 hk_76 hj_77 rfl dX9_rarest_34 ?_
        refine lv_topi (fun y_80 ey_80 => ?_)
        have ty_80 : y_80.toInt = (n_23 : Int) := i_len ey_80 (by omega)
        refine lv_icmp_ge (tgt := 82) hx hb dX9_rarest_35 (by decide) (fun k_81 => ?_) (fun k_81 => ?_)
        · have tk_81 := c_ge (a := ii.toInt) (b := y_80.toInt) rfl rfl k_81
          refine lv_iload_n hx hb dX9_rarest_82 rfl (lv_at hl 2 rfl) ?_
          refine lv_iconst (v := (-1)) hx hb dX9_rarest_83 (by decide) ?_
          refine lv_icmp_ne (tgt := 95) hx hb dX9_rarest_84 (by decide) (fun k_82 => ?_) (fun k_82 => ?_)
          · have tk_82 := c_ne (a := ra.toInt) (b := (-1)) rfl (by decide) k_82
            refine lv_aload_n hx hb dX9_rarest_95 rfl (lv_at hl 4 rfl) ?_
            refine lv_iload_n hx hb dX9_rarest_96 rfl (lv_at hl 2 rfl) ?_
            have hPc := hP.sub (ws' := [(gt, .inr (9, [.int st9, .ref tp, .int td, .int fk, .int fpl, .ref bk, .int un, .ref mb, .ref mu, .int mk, .ref rd, .ref cm, .ref wk, .ref pp, .ref so, .ref ty]))]) [0] rfl
            have hKc := hK.sub (tys' := []) [] rfl
            have hDc := hD.sub (ws' := [(gt, .inr (9, [.int st9, .ref tp, .int td, .int fk, .int fpl, .ref bk, .int un, .ref mb, .ref mu, .int mk, .ref rd, .ref cm, .ref wk, .ref pp, .ref so, .ref ty]))]) [0] (by decide) rfl
            have hFc := va_free (wc := [(gt, .inr (9, [.int st9, .ref tp, .int td, .int fk, .int fpl, .ref bk, .int un, .ref mb, .ref mu, .int mk, .ref rd, .ref cm, .ref wk, .ref pp, .ref so, .ref ty]))]) hD hS hA [0] rfl
            refine va_calli (va_runV (As := [.int ra]) (rest := []) ⟨hx, hb, hml, hown, hts⟩ (s_answer l dC dI gt tp bk mb mu rd cm wk pp so ty st9 td fk fpl un mk H.size ra) (cwV 1 hts mg_X9_rarest_X9_answer_100 rfl rfl rfl (by decide +kernel) ⟨Nat.le_of_ble_eq_true rfl, Nat.le_of_ble_eq_true rfl⟩) ⟨fun a U g mk q => by obtain ⟨q0, q1, qP, qK, qD⟩ := q; exact ⟨q0, q1, qP, va_K.moved (u := U) (U := U.calling g mk a) (Vm.Alike.refl U.vm) qK, qD⟩, va_recv hKc hPc (ci := 9) (q0 := 0) rfl rfl, fun U hU hW => ⟨rfl, by rw [hU], by rw [hU]; exact hPc, va_K.moved hW.alike hKc, hDc.weaken (fun _ _ _ _ => trivial)⟩⟩ rfl rfl hl.1 rfl (lv_room (Nat.le_of_ble_eq_true rfl)) dX9_rarest_97 ⟨Nat.le_of_ble_eq_true rfl, Nat.le_of_ble_eq_true rfl⟩) hS (fun q _ h => hFc q h) hFc (fun r_84 u t H1 locs ht hvm hw hB hz1 hk1 hS => ?_)
            obtain ⟨hP1, hK1, hD1⟩ := hB
            rw [ht] at hP1
            have hr_84 := hw
            obtain ⟨hP, hD⟩ := va_join (wr := []) (w1 := [(gt, .inr (9, [.int 0, .ref tp, .int td, .int fk, .int fpl, .ref bk, .int un, .ref mb, .ref mu, .int mk, .ref rd, .ref cm, .ref wk, .ref pp, .ref so, .ref ty]))]) hP hD [0] [] rfl rfl (by decide) (by decide) hk1 hFc hP1 hD1
            generalize H1 = H at hP hS ⊢
            have hP : va_P (dC, dI) vwCl [(gt, .inr (9, [.int 0, .ref tp, .int td, .int fk, .int fpl, .ref bk, .int un, .ref mb, .ref mu, .int mk, .ref rd, .ref cm, .ref wk, .ref pp, .ref so, .ref ty]))] H := hP
            have hD : va_D A [(gt, .inr (9, [.int 0, .ref tp, .int td, .int fk, .int fpl, .ref bk, .int un, .ref mb, .ref mu, .int mk, .ref rd, .ref cm, .ref wk, .ref pp, .ref so, .ref ty]))] := hD
            have hQ := q_at hQ0 hQA hS
            have hP9 := hP.sub (ws' := [(gt, .inr (9, [.int 0, .ref tp, .int td, .int fk, .int fpl, .ref bk, .int un, .ref mb, .ref mu, .int mk, .ref rd, .ref cm, .ref wk, .ref pp, .ref so, .ref ty]))]) [0] rfl
            have hD9 := hD.sub (ws' := [(gt, .inr (9, [.int 0, .ref tp, .int td, .int fk, .int fpl, .ref bk, .int un, .ref mb, .ref mu, .int mk, .ref rd, .ref cm, .ref wk, .ref pp, .ref so, .ref ty]))]) [0] (by decide) rfl
            have hK9 := hK.sub (tys' := []) [] rfl
            exact W.iret hx hb hr (fun t ht hW => ⟨⟨_, (), rfl, trivial, 0, by rw [ht]; exact hP9, va_K.moved hW.alike hK9, hD9⟩, hS.F ht⟩) hS.2.2 dX9_rarest_100
          · have tk_82 := c_eq (a := ra.toInt) (b := (-1)) rfl (by decide) k_82
            refine lv_aload_n hx hb dX9_rarest_87 rfl (lv_at hl 4 rfl) ?_
            refine lv_iconst (v := 5) hx hb dX9_rarest_88 (by decide) ?_
            have hPc := hP.sub (ws' := [(gt, .inr (9, [.int st9, .ref tp, .int td, .int fk, .int fpl, .ref bk, .int un, .ref mb, .ref mu, .int mk, .ref rd, .ref cm, .ref wk, .ref pp, .ref so, .ref ty]))]) [0] rfl
            have hKc := hK.sub (tys' := []) [] rfl
            have hDc := hD.sub (ws' := [(gt, .inr (9, [.int st9, .ref tp, .int td, .int fk, .int fpl, .ref bk, .int un, .ref mb, .ref mu, .int mk, .ref rd, .ref cm, .ref wk, .ref pp, .ref so, .ref ty]))]) [0] (by decide) rfl
            have hFc := va_free (wc := [(gt, .inr (9, [.int st9, .ref tp, .int td, .int fk, .int fpl, .ref bk, .int un, .ref mb, .ref mu, .int mk, .ref rd, .ref cm, .ref wk, .ref pp, .ref so, .ref ty]))]) hD hS hA [0] rfl
            refine va_calli (va_runV (As := [.int 5]) (rest := []) ⟨hx, hb, hml, hown, hts⟩ (s_refuse l dC dI gt tp bk mb mu rd cm wk pp so ty st9 td fk fpl un mk H.size 5) (cwV 1 hts mg_X9_rarest_X9_refuse_80 rfl rfl rfl (by decide +kernel) ⟨Nat.le_of_ble_eq_true rfl, Nat.le_of_ble_eq_true rfl⟩) ⟨fun a U g mk q => by obtain ⟨q0, q1, qP, qK, qD⟩ := q; exact ⟨q0, q1, qP, va_K.moved (u := U) (U := U.calling g mk a) (Vm.Alike.refl U.vm) qK, qD⟩, va_recv hKc hPc (ci := 9) (q0 := 0) rfl rfl, fun U hU hW => ⟨rfl, by rw [hU], by rw [hU]; exact hPc, va_K.moved hW.alike hKc, hDc.weaken (fun _ _ _ _ => trivial)⟩⟩ rfl rfl hl.1 rfl (lv_room (Nat.le_of_ble_eq_true rfl)) dX9_rarest_89 ⟨Nat.le_of_ble_eq_true rfl, Nat.le_of_ble_eq_true rfl⟩) hS (fun q _ h => hFc q h) hFc (fun r_86 u t H1 locs ht hvm hw hB hz1 hk1 hS => ?_)
            obtain ⟨hP1, hK1, hD1⟩ := hB
            rw [ht] at hP1
            have hr_86 := hw
            obtain ⟨hP, hD⟩ := va_join (wr := []) (w1 := [(gt, .inr (9, [.int 5, .ref tp, .int td, .int fk, .int fpl, .ref bk, .int un, .ref mb, .ref mu, .int mk, .ref rd, .ref cm, .ref wk, .ref pp, .ref so, .ref ty]))]) hP hD [0] [] rfl rfl (by decide) (by decide) hk1 hFc hP1 hD1
            generalize H1 = H at hP hS ⊢
            have hP : va_P (dC, dI) vwCl [(gt, .inr (9, [.int 5, .ref tp, .int td, .int fk, .int fpl, .ref bk, .int un, .ref mb, .ref mu, .int mk, .ref rd, .ref cm, .ref wk, .ref pp, .ref so, .ref ty]))] H := hP
            have hD : va_D A [(gt, .inr (9, [.int 5, .ref tp, .int td, .int fk, .int fpl, .ref bk, .int un, .ref mb, .ref mu, .int mk, .ref rd, .ref cm, .ref wk, .ref pp, .ref so, .ref ty]))] := hD
            have hQ := q_at hQ0 hQA hS
            refine lv_goto (tgt := 100) hx hb dX9_rarest_92 (by decide) ?_
            have hP9 := hP.sub (ws' := [(gt, .inr (9, [.int 5, .ref tp, .int td, .int fk, .int fpl, .ref bk, .int un, .ref mb, .ref mu, .int mk, .ref rd, .ref cm, .ref wk, .ref pp, .ref so, .ref ty]))]) [0] rfl
            have hD9 := hD.sub (ws' := [(gt, .inr (9, [.int 5, .ref tp, .int td, .int fk, .int fpl, .ref bk, .int un, .ref mb, .ref mu, .int mk, .ref rd, .ref cm, .ref wk, .ref pp, .ref so, .ref ty]))]) [0] (by decide) rfl
            have hK9 := hK.sub (tys' := []) [] rfl
            exact W.iret hx hb hr (fun t ht hW => ⟨⟨_, (), rfl, trivial, 5, by rw [ht]; exact hP9, va_K.moved hW.alike hK9, hD9⟩, hS.F ht⟩) hS.2.2 dX9_rarest_100
        · have tk_81 := c_nge (a := ii.toInt) (b := y_80.toInt) rfl rfl k_81
          refine lv_aload_n hx hb dX9_rarest_38 rfl (lv_at hl 4 rfl) ?_
          refine va_get (D := (dC, dI)) (ci := 9) (v := .ref bk) (C := RX9) (T := TX9) (N := 16) hx hb hts fin_X9_rarest_X9 hown hK hP 0 rfl rfl 5 (by decide) (hts (.fieldLink RX9 29 "PatternGate" "book" "LPatternGate$Book;") (List.mem_of_getElem? (i := 1) (by decide +kernel))) (fun _ h9 => h9) rfl dX9_rarest_39 ?_
          refine lv_aload_n hx hb dX9_rarest_42 rfl (lv_at hl 3 rfl) ?_
          refine va_get (D := (dC, dI)) (ci := 5) (v := .ref (q_11 6)) (C := RX5) (T := TX5) (N := 13) hx hb hts fin_X9_rarest_X5 hown hKQ hQ k_65 hk_65 rfl 12 (by decide) (hts (.fieldLink RX9 167 "PatternGate$Pattern" "unlike" "[I") (List.mem_of_getElem? (i := 10) (by decide +kernel))) (fun _ h9 => h9) rfl dX9_rarest_43 ?_
          refine lv_iload hx hb dX9_rarest_46 (lv_at hl 0 rfl) ?_
          refine va_iald hx hb hKQ hQ k_76 j_77 hk_76 hj_77 (i := ii) (vp_of (a := ii.toInt) rfl (by omega) (by omega)) dX9_rarest_48 ?_
          refine lv_topi (fun y_87 ey_87 => ?_)
          have rg_y_87 := i_rng y_87
          have hPc := hQ
          have hKc := hKQ
          refine vp_callSi (W.runV (As := [.int y_87]) (rest := []) ⟨hx, hb, hml, hown, hts⟩ (s_listBits l dC dI W9 T9 bk y_87 hB0) (cwV 1 hts mg_X9_rarest_X0_listBits_194 rfl rfl rfl (by decide +kernel) ⟨Nat.le_of_ble_eq_true rfl, Nat.le_of_ble_eq_true rfl⟩) ⟨fun a U g mk q => by obtain ⟨q0, qP, qK⟩ := q; exact ⟨q0, qP, va_K.moved (u := U) (U := U.calling g mk a) (Vm.Alike.refl U.vm) qK⟩, va_recv hKc hPc (ci := 0) (q0 := k_1) rfl hk_1, fun U hU hW => ⟨rfl, by rw [hU]; exact hPc, va_K.moved hW.alike hKc⟩⟩ rfl rfl hl.1 rfl (lv_room (Nat.le_of_ble_eq_true rfl)) dX9_rarest_49 ⟨Nat.le_of_ble_eq_true rfl, Nat.le_of_ble_eq_true rfl⟩) (fun r_89 hw => ?_)
          refine vp_callSi (W.runS (As := [.int r_89]) (rest := []) ⟨hx, hb, hml, hown, hts⟩ (s_bitCount l dC dI r_89) (va_cwS 1 hts mg_X9_rarest_J6_bitCount_0f7a4_197 rfl rfl rfl (by decide +kernel) ⟨Nat.le_of_ble_eq_true rfl, Nat.le_of_ble_eq_true rfl⟩) ⟨fun a U g mk q => ⟨q.1, trivial⟩, fun U hU hW => ⟨rfl, trivial⟩⟩ rfl rfl hl.1 rfl (lv_room (Nat.le_of_ble_eq_true rfl)) dX9_rarest_52 ⟨Nat.le_of_ble_eq_true rfl, Nat.le_of_ble_eq_true rfl⟩) (fun r_91 hw => ?_)
          refine lv_istore (lv' := [(6, .int r_91), (5, .int ii), (4, .int sh), (3, .int ra), (2, .ref d_8), (0, .ref gt), (1, .int i1)]) hx hb dX9_rarest_55 hl (by decide) rfl (fun ls hl => ?_)
          refine lv_iload hx hb dX9_rarest_57 (lv_at hl 0 rfl) ?_
          refine lv_iload hx hb dX9_rarest_59 (lv_at hl 2 rfl) ?_
          refine lv_icmp_ge (tgt := 76) hx hb dX9_rarest_61 (by decide) (fun k_92 => ?_) (fun k_92 => ?_)
          · have tk_92 := c_ge (a := r_91.toInt) (b := sh.toInt) rfl rfl k_92
            obtain ⟨y_93, ey_93⟩ : ∃ y : Int32, y = ii + 1 := ⟨_, rfl⟩
            first | have ty_93 := i_add (a := ii.toInt) (b := 1) rfl (by decide) ey_93 (by omega) (by omega) | skip
            refine lv_iinc (v := y_93) (lv' := [(5, .int y_93), (6, .int r_91), (4, .int sh), (3, .int ra), (2, .ref d_8), (0, .ref gt), (1, .int i1)]) hx hb dX9_rarest_76 hl (k := 1) rfl (by rw [ey_93]; rfl) (by decide) rfl (fun ls hl => ?_)
            refine lv_goto (tgt := 28) hx hb dX9_rarest_79 (by decide) ?_
            exact ih28 ra sh y_93 (by first | omega | assumption | decide) (by omega) _ _ ls hP hD hS (lv_sub hl [0, 2, 3, 4, 5, 6] rfl)
          · have tk_92 := c_nge (a := r_91.toInt) (b := sh.toInt) rfl rfl k_92
            refine lv_iload hx hb dX9_rarest_64 (lv_at hl 0 rfl) ?_
            refine lv_istore (lv' := [(4, .int r_91), (6, .int r_91), (5, .int ii), (3, .int ra), (2, .ref d_8), (0, .ref gt), (1, .int i1)]) hx hb dX9_rarest_66 hl (by decide) rfl (fun ls hl => ?_)
            refine lv_aload_n hx hb dX9_rarest_68 rfl (lv_at hl 4 rfl) ?_
            refine va_get (D := (dC, dI)) (ci := 5) (v := .ref (q_11 6)) (C := RX5) (T := TX5) (N := 13) hx hb hts fin_X9_rarest_X5 hown hKQ hQ k_65 hk_65 rfl 12 (by decide) (hts (.fieldLink RX9 167 "PatternGate$Pattern" "unlike" "[I") (List.mem_of_getElem? (i := 10) (by decide +kernel))) (fun _ h9 => h9) rfl dX9_rarest_69 ?_
            refine lv_iload hx hb dX9_rarest_72 (lv_at hl 2 rfl) ?_
            refine va_iald hx hb hKQ hQ k_76 j_77 hk_76 hj_77 (i := ii) (vp_of (a := ii.toInt) rfl (by omega) (by omega)) dX9_rarest_74 ?_
            refine lv_topi (fun y_94 ey_94 => ?_)
            have rg_y_94 := i_rng y_94
            refine lv_istore_n (lv' := [(3, .int y_94), (4, .int r_91), (6, .int r_91), (5, .int ii), (2, .ref d_8), (0, .ref gt), (1, .int i1)]) hx hb dX9_rarest_75 rfl hl (by decide) rfl (fun ls hl => ?_)
            obtain ⟨y_95, ey_95⟩ : ∃ y : Int32, y = ii + 1 := ⟨_, rfl⟩
            first | have ty_95 := i_add (a := ii.toInt) (b := 1) rfl (by decide) ey_95 (by omega) (by omega) | skip
            refine lv_iinc (v := y_95) (lv' := [(5, .int y_95), (3, .int y_94), (4, .int r_91), (6, .int r_91), (2, .ref d_8), (0, .ref gt), (1, .int i1)]) hx hb dX9_rarest_76 hl (k := 3) rfl (by rw [ey_95]; rfl) (by decide) rfl (fun ls hl => ?_)
            refine lv_goto (tgt := 28) hx hb dX9_rarest_79 (by decide) ?_
            exact ih28 y_94 r_91 y_95 (by first | omega | assumption | decide) (by omega) _ _ ls hP hD hS (lv_sub hl [0, 2, 1, 4, 5, 6] rfl)
    have lit_95 : ((-1) : Int32).toInt = (-1) := by decide
    have lit_96 : (11 : Int32).toInt = 11 := by decide
    have lit_97 : (0 : Int32).toInt = 0 := by decide
    exact loop28 _ (-1) 11 0 (by first | omega | assumption | decide) (Nat.lt_succ_self _) _ _ ls hP hD hS (lv_sub hl [0, 1, 2, 3, 4, 5] rfl)
theorem dX9_within_0 : decode cX9_within 0 = .ok (.aload_n 0, 1) := by decide +kernel
theorem dX9_within_1 : decode cX9_within 1 = .ok (.getfield 29, 3) := by decide +kernel
theorem dX9_within_4 : decode cX9_within 4 = .ok (.iload_n 1, 1) := by decide +kernel
theorem dX9_within_5 : decode cX9_within 5 = .ok (.invokevirtual 140, 3) := by decide +kernel
theorem dX9_within_8 : decode cX9_within 8 = .ok (.astore_n 3, 1) := by decide +kernel
theorem dX9_within_9 : decode cX9_within 9 = .ok (.aload_n 0, 1) := by decide +kernel
theorem dX9_within_10 : decode cX9_within 10 = .ok (.getfield 29, 3) := by decide +kernel
theorem dX9_within_13 : decode cX9_within 13 = .ok (.iload_n 2, 1) := by decide +kernel
theorem dX9_within_14 : decode cX9_within 14 = .ok (.invokevirtual 140, 3) := by decide +kernel
theorem dX9_within_17 : decode cX9_within 17 = .ok (.astore 4, 2) := by decide +kernel
theorem dX9_within_19 : decode cX9_within 19 = .ok (.aload_n 3, 1) := by decide +kernel
theorem dX9_within_20 : decode cX9_within 20 = .ok (.ifnull 8, 3) := by decide +kernel
theorem dX9_within_23 : decode cX9_within 23 = .ok (.aload 4, 2) := by decide +kernel
theorem dX9_within_25 : decode cX9_within 25 = .ok (.ifnonnull 9, 3) := by decide +kernel
theorem dX9_within_28 : decode cX9_within 28 = .ok (.aload_n 0, 1) := by decide +kernel
theorem dX9_within_29 : decode cX9_within 29 = .ok (.iconst 2, 1) := by decide +kernel
theorem dX9_within_30 : decode cX9_within 30 = .ok (.invokevirtual 80, 3) := by decide +kernel
theorem dX9_within_33 : decode cX9_within 33 = .ok (.ireturn, 1) := by decide +kernel
theorem dX9_within_34 : decode cX9_within 34 = .ok (.iconst 0, 1) := by decide +kernel
theorem dX9_within_35 : decode cX9_within 35 = .ok (.istore 5, 2) := by decide +kernel
theorem dX9_within_37 : decode cX9_within 37 = .ok (.iload 5, 2) := by decide +kernel
theorem dX9_within_39 : decode cX9_within 39 = .ok (.aload_n 3, 1) := by decide +kernel
theorem dX9_within_40 : decode cX9_within 40 = .ok (.invokevirtual 150, 3) := by decide +kernel
theorem dX9_within_43 : decode cX9_within 43 = .ok (.if_icmp .ge 26, 3) := by decide +kernel
theorem dX9_within_46 : decode cX9_within 46 = .ok (.aload 4, 2) := by decide +kernel
theorem dX9_within_48 : decode cX9_within 48 = .ok (.aload_n 3, 1) := by decide +kernel
theorem dX9_within_49 : decode cX9_within 49 = .ok (.iload 5, 2) := by decide +kernel
theorem dX9_within_51 : decode cX9_within 51 = .ok (.invokevirtual 235, 3) := by decide +kernel
theorem dX9_within_54 : decode cX9_within 54 = .ok (.ifCond .ne 9, 3) := by decide +kernel
theorem dX9_within_57 : decode cX9_within 57 = .ok (.aload_n 0, 1) := by decide +kernel
theorem dX9_within_58 : decode cX9_within 58 = .ok (.iconst 0, 1) := by decide +kernel
theorem dX9_within_59 : decode cX9_within 59 = .ok (.invokevirtual 100, 3) := by decide +kernel
theorem dX9_within_62 : decode cX9_within 62 = .ok (.ireturn, 1) := by decide +kernel
theorem dX9_within_63 : decode cX9_within 63 = .ok (.iinc 5 1, 3) := by decide +kernel
theorem dX9_within_66 : decode cX9_within 66 = .ok (.goto (-29), 3) := by decide +kernel
theorem dX9_within_69 : decode cX9_within 69 = .ok (.aload_n 0, 1) := by decide +kernel
theorem dX9_within_70 : decode cX9_within 70 = .ok (.iconst 1, 1) := by decide +kernel
theorem dX9_within_71 : decode cX9_within 71 = .ok (.invokevirtual 100, 3) := by decide +kernel
theorem dX9_within_74 : decode cX9_within 74 = .ok (.ireturn, 1) := by decide +kernel
def mwX9_within : List Cond := .code yX9_within cX9_within 6 (some .int) :: (([.fieldLink RX9 29 "PatternGate" "book" "LPatternGate$Book;", .methodLink RX9 140 yX0_patternAt, .instanceMethod yX0_patternAt, .selects RX0 yX0_patternAt yX0_patternAt, .initialized RX0, .methodLink RX9 80 yX9_refuse, .instanceMethod yX9_refuse, .selects RX9 yX9_refuse yX9_refuse, .initialized RX9, .methodLink RX9 150 yX5_choices, .instanceMethod yX5_choices, .selects RX5 yX5_choices yX5_choices, .initialized RX5, .methodLink RX9 100 yX9_answer, .instanceMethod yX9_answer, .selects RX9 yX9_answer yX9_answer, .methodLink RX9 235 yX5_hasChoiceWithin, .instanceMethod yX5_hasChoiceWithin, .selects RX5 yX5_hasChoiceWithin yX5_hasChoiceWithin] : List Cond) ++ (wsX90 ++ (mwX0_patternAt2 ++ (mwX9_refuse ++ (mwX5_choices ++ (mwX9_answer ++ (mwX5_hasChoiceWithin)))))))
theorem fin_X9_within_X9 : ∀ w ∈ wsX90, w ∈ mwX9_within := fun w h => List.mem_cons_of_mem _ (List.mem_append_right _ (List.mem_append_left _ h))
set_option maxRecDepth 100000 in
theorem gd_mwX5_hasChoiceWithin : mwX5_hasChoiceWithin.all goodWord = true := by decide +kernel
set_option maxRecDepth 20000 in
theorem mg_X9_within_X0_patternAt_140 : GoodIn mwX9_within (wsV RX9 140 RX0 yX0_patternAt mwX0_patternAt2) := gi_app (A := [.methodLink RX9 140 yX0_patternAt, .instanceMethod yX0_patternAt, .selects RX0 yX0_patternAt yX0_patternAt, .initialized RX0]) (goodIn_r _ [2, 3, 4, 5] (by decide +kernel) (by decide +kernel)) (gi_sub gd_mwX0_patternAt2 (fun w h => List.mem_cons_of_mem _ (List.mem_append_right _ (List.mem_append_right _ (List.mem_append_left _ h)))))
set_option maxRecDepth 20000 in
theorem mg_X9_within_X9_refuse_80 : GoodIn mwX9_within (wsV RX9 80 RX9 yX9_refuse mwX9_refuse) := gi_app (A := [.methodLink RX9 80 yX9_refuse, .instanceMethod yX9_refuse, .selects RX9 yX9_refuse yX9_refuse, .initialized RX9]) (goodIn_r _ [6, 7, 8, 9] (by decide +kernel) (by decide +kernel)) (gi_sub gd_mwX9_refuse (fun w h => List.mem_cons_of_mem _ (List.mem_append_right _ (List.mem_append_right _ (List.mem_append_right _ (List.mem_append_left _ h))))))
set_option maxRecDepth 20000 in
theorem mg_X9_within_X5_choices_150 : GoodIn mwX9_within (wsV RX9 150 RX5 yX5_choices mwX5_choices) := gi_app (A := [.methodLink RX9 150 yX5_choices, .instanceMethod yX5_choices, .selects RX5 yX5_choices yX5_choices, .initialized RX5]) (goodIn_r _ [10, 11, 12, 13] (by decide +kernel) (by decide +kernel)) (gi_sub gd_mwX5_choices (fun w h => List.mem_cons_of_mem _ (List.mem_append_right _ (List.mem_append_right _ (List.mem_append_right _ (List.mem_append_right _ (List.mem_append_left _ h)))))))
set_option maxRecDepth 20000 in
theorem mg_X9_within_X9_answer_100 : GoodIn mwX9_within (wsV RX9 100 RX9 yX9_answer mwX9_answer) := gi_app (A := [.methodLink RX9 100 yX9_answer, .instanceMethod yX9_answer, .selects RX9 yX9_answer yX9_answer, .initialized RX9]) (goodIn_r _ [14, 15, 16, 9] (by decide +kernel) (by decide +kernel)) (gi_sub gd_mwX9_answer (fun w h => List.mem_cons_of_mem _ (List.mem_append_right _ (List.mem_append_right _ (List.mem_append_right _ (List.mem_append_right _ (List.mem_append_right _ (List.mem_append_left _ h))))))))
set_option maxRecDepth 20000 in
theorem mg_X9_within_X5_hasChoiceWithin_235 : GoodIn mwX9_within (wsV RX9 235 RX5 yX5_hasChoiceWithin mwX5_hasChoiceWithin) := gi_app (A := [.methodLink RX9 235 yX5_hasChoiceWithin, .instanceMethod yX5_hasChoiceWithin, .selects RX5 yX5_hasChoiceWithin yX5_hasChoiceWithin, .initialized RX5]) (goodIn_r _ [17, 18, 19, 13] (by decide +kernel) (by decide +kernel)) (gi_sub gd_mwX5_hasChoiceWithin (fun w h => List.mem_cons_of_mem _ (List.mem_append_right _ (List.mem_append_right _ (List.mem_append_right _ (List.mem_append_right _ (List.mem_append_right _ (List.mem_append_right _ (h)))))))))
set_option maxHeartbeats 4000000 in
set_option maxRecDepth 100000 in
/-- gate: within -/
theorem s_g_within (l : Launch) (dC : Nat → ClassId) (dI : Nat → Nat → Nat) (W9 : va_W) (T9 : List (ClassId × FieldType)) (B9 : Nat → Prop) (gt tp bk mb mu rd cm wk pp so ty : Nat) (st9 td fk fpl un mk : Int32) (sz : Nat) (i1 i2 : Int32) (hB9 : gB W9 T9 B9) (hbk : B9 bk) : Met l yX9_within mwX9_within ({ frames := 2, cells := 0, slots := 0, locals := 120 }) (va_Pc [.ref gt, .int i1, .int i2] (fun U => U.heap.size = sz ∧ va_P (dC, dI) vwCl ([(gt, .inr (9, [.int st9, .ref tp, .int td, .int fk, .int fpl, .ref bk, .int un, .ref mb, .ref mu, .int mk, .ref rd, .ref cm, .ref wk, .ref pp, .ref so, .ref ty]))]) U.heap ∧ va_K (dC, dI) vwCl ([]) U ∧ va_D (fun _ => True) ([(gt, .inr (9, [.int st9, .ref tp, .int td, .int fk, .int fpl, .ref bk, .int un, .ref mb, .ref mu, .int mk, .ref rd, .ref cm, .ref wk, .ref pp, .ref so, .ref ty]))]) ∧ va_P (dC, dI) vwCl W9 U.heap ∧ va_K (dC, dI) vwCl T9 U ∧ (∀ q ∈ W9, ¬ va_A ([(gt, .inr (9, [.int st9, .ref tp, .int td, .int fk, .int fpl, .ref bk, .int un, .ref mb, .ref mu, .int mk, .ref rd, .ref cm, .ref wk, .ref pp, .ref so, .ref ty]))]) sz q.1))) (va_Qi (fun (_ : Int32) (_ : Unit) => True) (fun _ t => ∃ (y0 : Int32), va_P (dC, dI) vwCl [(gt, .inr (9, [.int y0, .ref tp, .int td, .int fk, .int fpl, .ref bk, .int un, .ref mb, .ref mu, .int mk, .ref rd, .ref cm, .ref wk, .ref pp, .ref so, .ref ty]))] t.heap ∧ va_K (dC, dI) vwCl [] t ∧ va_D (va_A ([(gt, .inr (9, [.int st9, .ref tp, .int td, .int fk, .int fpl, .ref bk, .int un, .ref mb, .ref mu, .int mk, .ref rd, .ref cm, .ref wk, .ref pp, .ref so, .ref ty]))]) sz) [(gt, .inr (9, [.int y0, .ref tp, .int td, .int fk, .int fpl, .ref bk, .int un, .ref mb, .ref mu, .int mk, .ref rd, .ref cm, .ref wk, .ref pp, .ref so, .ref ty]))]) (va_A ([(gt, .inr (9, [.int st9, .ref tp, .int td, .int fk, .int fpl, .ref bk, .int un, .ref mb, .ref mu, .int mk, .ref rd, .ref cm, .ref wk, .ref pp, .ref so, .ref ty]))]) sz)) 0 0 (va_A ([(gt, .inr (9, [.int st9, .ref tp, .int td, .int fk, .int fpl, .ref bk, .int un, .ref mb, .ref mu, .int mk, .ref rd, .ref cm, .ref wk, .ref pp, .ref so, .ref ty]))]) sz) := by
  refine Met.ofW (cc := cX9_within) (maxL := 6) (ret := (some .int)) (by decide +kernel) rfl ?_
  intro p e s m args below meth c s₁ B hml hv
  obtain ⟨rfl, hsz, hP, hK, hD0, hQ0, hKQ, hQA⟩ := hv
  have hx := B.exec
  have hb := B.bytes
  have hr := B.returns
  have hts := atoms_spec (ws := mwX9_within) B.pre
  have hown : s.vm.findClass RX9 = some m.cls := findClass_of_methodNamed B.named
  have hlocks := B.notSynchronized
  subst hsz
  have hD := hD0.self (sz := s.heap.size)
  generalize hAe : va_A ([(gt, .inr (9, [.int st9, .ref tp, .int td, .int fk, .int fpl, .ref bk, .int un, .ref mb, .ref mu, .int mk, .ref rd, .ref cm, .ref wk, .ref pp, .ref so, .ref ty]))]) s.heap.size = A at hD hQA ⊢
  have hA : ∀ q : Nat, s.heap.size ≤ q → A q := fun q h => by rw [← hAe]; exact Or.inr h
  have hP : va_P (dC, dI) vwCl [(gt, .inr (9, [.int st9, .ref tp, .int td, .int fk, .int fpl, .ref bk, .int un, .ref mb, .ref mu, .int mk, .ref rd, .ref cm, .ref wk, .ref pp, .ref so, .ref ty]))] s.heap := hP
  have hD : va_D A [(gt, .inr (9, [.int st9, .ref tp, .int td, .int fk, .int fpl, .ref bk, .int un, .ref mb, .ref mu, .int mk, .ref rd, .ref cm, .ref wk, .ref pp, .ref so, .ref ty]))] := hD
  have hK : va_K (dC, dI) vwCl [] s := hK
  generalize hH : s.heap = H at hP ⊢
  have hS : va_S A s.heap H [] := by rw [← hH]; exact va_S.rf
  have hQ := q_at hQ0 hQA hS
  have hl := lv_entry ([.ref gt, .int i1, .int i2]) (n := 6) (Nat.le_of_ble_eq_true rfl)
  rw [lg_entry_eq]
  generalize (lg_sl ([.ref gt, .int i1, .int i2]) ++ List.replicate (6 - (lg_sl ([.ref gt, .int i1, .int i2])).length) Slot.unset).toArray = ls at hl ⊢
  have hl : lv_has ls 6 [(0, .ref gt), (1, .int i1), (2, .int i2)] := hl
  have rg_i1 := i_rng i1
  have rg_i2 := i_rng i2
  obtain ⟨ear, hB3, hear⟩ := hB9 bk hbk
  have hB0 := hB3.poB
  obtain ⟨ds, ps, nd, np, fd, fp, cD, cP, m1, m2, m3, m4, m5, hnd, hnp, hds, hps⟩ := id hB3
  obtain ⟨k_1, hk_1⟩ := List.getElem?_of_mem m1
  obtain ⟨k_2, hk_2⟩ := List.getElem?_of_mem m2
  obtain ⟨j_3, hj_3⟩ := List.getElem?_of_mem m3
  obtain ⟨k_4, hk_4⟩ := List.getElem?_of_mem m4
  obtain ⟨j_5, hj_5⟩ := List.getElem?_of_mem m5
  have r_un := i_rng un
  have r_mk := i_rng mk
  have r_td := i_rng td
  refine lv_aload_n hx hb dX9_within_0 rfl (lv_at hl 0 rfl) ?_
  refine va_get (D := (dC, dI)) (ci := 9) (v := .ref bk) (C := RX9) (T := TX9) (N := 16) hx hb hts fin_X9_within_X9 hown hK hP 0 rfl rfl 5 (by decide) (hts (.fieldLink RX9 29 "PatternGate" "book" "LPatternGate$Book;") (List.mem_of_getElem? (i := 1) (by decide +kernel))) (fun _ h9 => h9) rfl dX9_within_1 ?_
  refine lv_iload_n hx hb dX9_within_4 rfl (lv_at hl 1 rfl) ?_
  have hPc := hQ
  have hKc := hKQ
  refine va_csq (W.runV (As := [.int i1]) (rest := []) ⟨hx, hb, hml, hown, hts⟩ (s_patternAt2 l dC dI W9 T9 bk ear i1 hB3) (cwV 1 hts mg_X9_within_X0_patternAt_140 rfl rfl rfl (by decide +kernel) ⟨Nat.le_of_ble_eq_true rfl, Nat.le_of_ble_eq_true rfl⟩) ⟨fun a U g mk q => by obtain ⟨q0, qP, qK⟩ := q; exact ⟨q0, qP, va_K.moved (u := U) (U := U.calling g mk a) (Vm.Alike.refl U.vm) qK⟩, va_recv hKc hPc (ci := 0) (q0 := k_1) rfl hk_1, fun U hU hW => ⟨rfl, by rw [hU]; exact hPc, va_K.moved hW.alike hKc⟩⟩ rfl rfl hl.1 rfl (lv_room (Nat.le_of_ble_eq_true rfl)) dX9_within_5 ⟨Nat.le_of_ble_eq_true rfl, Nat.le_of_ble_eq_true rfl⟩) (fun r_7 hw => ?_)
  rcases hw with rfl | ⟨d_8, rfl, hd_8⟩
  · refine W.eq (g2 := F0 m 8 ls [.null]) rfl ?_
    refine lv_astore_nN (lv' := [(3, .null), (0, .ref gt), (1, .int i1), (2, .int i2)]) hx hb dX9_within_8 rfl hl (by decide) rfl (fun ls hl => ?_)
    refine lv_aload_n hx hb dX9_within_9 rfl (lv_at hl 1 rfl) ?_
    refine va_get (D := (dC, dI)) (ci := 9) (v := .ref bk) (C := RX9) (T := TX9) (N := 16) hx hb hts fin_X9_within_X9 hown hK hP 0 rfl rfl 5 (by decide) (hts (.fieldLink RX9 29 "PatternGate" "book" "LPatternGate$Book;") (List.mem_of_getElem? (i := 1) (by decide +kernel))) (fun _ h9 => h9) rfl dX9_within_10 ?_
    refine lv_iload_n hx hb dX9_within_13 rfl (lv_at hl 3 rfl) ?_
    have hPc := hQ
    have hKc := hKQ
    refine va_csq (W.runV (As := [.int i2]) (rest := []) ⟨hx, hb, hml, hown, hts⟩ (s_patternAt2 l dC dI W9 T9 bk ear i2 hB3) (cwV 1 hts mg_X9_within_X0_patternAt_140 rfl rfl rfl (by decide +kernel) ⟨Nat.le_of_ble_eq_true rfl, Nat.le_of_ble_eq_true rfl⟩) ⟨fun a U g mk q => by obtain ⟨q0, qP, qK⟩ := q; exact ⟨q0, qP, va_K.moved (u := U) (U := U.calling g mk a) (Vm.Alike.refl U.vm) qK⟩, va_recv hKc hPc (ci := 0) (q0 := k_1) rfl hk_1, fun U hU hW => ⟨rfl, by rw [hU]; exact hPc, va_K.moved hW.alike hKc⟩⟩ rfl rfl hl.1 rfl (lv_room (Nat.le_of_ble_eq_true rfl)) dX9_within_14 ⟨Nat.le_of_ble_eq_true rfl, Nat.le_of_ble_eq_true rfl⟩) (fun r_10 hw => ?_)
    rcases hw with rfl | ⟨d_11, rfl, hd_11⟩
    · refine W.eq (g2 := F0 m 17 ls [.null]) rfl ?_
      refine lv_astoreN (lv' := [(4, .null), (3, .null), (0, .ref gt), (1, .int i1), (2, .int i2)]) hx hb dX9_within_17 hl (by decide) rfl (fun ls hl => ?_)
      refine lv_aload_nN hx hb dX9_within_19 rfl (lv_at hl 1 rfl) ?_
      refine lv_ifnullN (tgt := 28) hx hb dX9_within_20 (by decide) ?_
      refine lv_aload_n hx hb dX9_within_28 rfl (lv_at hl 2 rfl) ?_
      refine lv_iconst (v := 2) hx hb dX9_within_29 (by decide) ?_
      have hPc := hP.sub (ws' := [(gt, .inr (9, [.int st9, .ref tp, .int td, .int fk, .int fpl, .ref bk, .int un, .ref mb, .ref mu, .int mk, .ref rd, .ref cm, .ref wk, .ref pp, .ref so, .ref ty]))]) [0] rfl
      have hKc := hK.sub (tys' := []) [] rfl
      have hDc := hD.sub (ws' := [(gt, .inr (9, [.int st9, .ref tp, .int td, .int fk, .int fpl, .ref bk, .int un, .ref mb, .ref mu, .int mk, .ref rd, .ref cm, .ref wk, .ref pp, .ref so, .ref ty]))]) [0] (by decide) rfl
      have hFc := va_free (wc := [(gt, .inr (9, [.int st9, .ref tp, .int td, .int fk, .int fpl, .ref bk, .int un, .ref mb, .ref mu, .int mk, .ref rd, .ref cm, .ref wk, .ref pp, .ref so, .ref ty]))]) hD hS hA [0] rfl
      refine va_calli (va_runV (As := [.int 2]) (rest := []) ⟨hx, hb, hml, hown, hts⟩ (s_refuse l dC dI gt tp bk mb mu rd cm wk pp so ty st9 td fk fpl un mk H.size 2) (cwV 1 hts mg_X9_within_X9_refuse_80 rfl rfl rfl (by decide +kernel) ⟨Nat.le_of_ble_eq_true rfl, Nat.le_of_ble_eq_true rfl⟩) ⟨fun a U g mk q => by obtain ⟨q0, q1, qP, qK, qD⟩ := q; exact ⟨q0, q1, qP, va_K.moved (u := U) (U := U.calling g mk a) (Vm.Alike.refl U.vm) qK, qD⟩, va_recv hKc hPc (ci := 9) (q0 := 0) rfl rfl, fun U hU hW => ⟨rfl, by rw [hU], by rw [hU]; exact hPc, va_K.moved hW.alike hKc, hDc.weaken (fun _ _ _ _ => trivial)⟩⟩ rfl rfl hl.1 rfl (lv_room (Nat.le_of_ble_eq_true rfl)) dX9_within_30 ⟨Nat.le_of_ble_eq_true rfl, Nat.le_of_ble_eq_true rfl⟩) hS (fun q _ h => hFc q h) hFc (fun r_13 u t H1 locs ht hvm hw hB hz1 hk1 hS => ?_)
      obtain ⟨hP1, hK1, hD1⟩ := hB
      rw [ht] at hP1
      have hr_13 := hw
      obtain ⟨hP, hD⟩ := va_join (wr := []) (w1 := [(gt, .inr (9, [.int 2, .ref tp, .int td, .int fk, .int fpl, .ref bk, .int un, .ref mb, .ref mu, .int mk, .ref rd, .ref cm, .ref wk, .ref pp, .ref so, .ref ty]))]) hP hD [0] [] rfl rfl (by decide) (by decide) hk1 hFc hP1 hD1
      generalize H1 = H at hP hS ⊢
      have hP : va_P (dC, dI) vwCl [(gt, .inr (9, [.int 2, .ref tp, .int td, .int fk, .int fpl, .ref bk, .int un, .ref mb, .ref mu, .int mk, .ref rd, .ref cm, .ref wk, .ref pp, .ref so, .ref ty]))] H := hP
      have hD : va_D A [(gt, .inr (9, [.int 2, .ref tp, .int td, .int fk, .int fpl, .ref bk, .int un, .ref mb, .ref mu, .int mk, .ref rd, .ref cm, .ref wk, .ref pp, .ref so, .ref ty]))] := hD
      have hQ := q_at hQ0 hQA hS
      have hP9 := hP.sub (ws' := [(gt, .inr (9, [.int 2, .ref tp, .int td, .int fk, .int fpl, .ref bk, .int un, .ref mb, .ref mu, .int mk, .ref rd, .ref cm, .ref wk, .ref pp, .ref so, .ref ty]))]) [0] rfl
      have hD9 := hD.sub (ws' := [(gt, .inr (9, [.int 2, .ref tp, .int td, .int fk, .int fpl, .ref bk, .int un, .ref mb, .ref mu, .int mk, .ref rd, .ref cm, .ref wk, .ref pp, .ref so, .ref ty]))]) [0] (by decide) rfl
      have hK9 := hK.sub (tys' := []) [] rfl
      exact W.iret hx hb hr (fun t ht hW => ⟨⟨_, (), rfl, trivial, 2, by rw [ht]; exact hP9, va_K.moved hW.alike hK9, hD9⟩, hS.F ht⟩) hS.2.2 dX9_within_33
    · refine W.eq (g2 := F0 m 17 ls [.ref d_11]) rfl ?_
      have hd_11P := hd_11.poP
      have hd_11Q := hd_11
      obtain ⟨q_14, a_15, a_16, a_17, a_18, a_19, a_20, n_21, n_22, n_23, n_24, n_25, n_26, n_27, f_28, f_29, f_30, f_31, f_32, f_33, f_34, c_35, c_36, c_37, c_38, c_39, c_40, c_41, m_42, ⟨m_43, m_44⟩, ⟨m_45, m_46⟩, ⟨m_47, m_48⟩, ⟨m_49, m_50⟩, ⟨m_51, m_52⟩, ⟨m_53, m_54⟩, ⟨m_55, m_56, h_67⟩, h_57, h_58, h_59, h_60, h_61, h_62, h_63, h_64, h_65, h_66⟩ := hd_11
      obtain ⟨k_68, hk_68⟩ := List.getElem?_of_mem m_42
      obtain ⟨k_69, hk_69⟩ := List.getElem?_of_mem m_43
      obtain ⟨j_70, hj_70⟩ := List.getElem?_of_mem m_44
      obtain ⟨k_71, hk_71⟩ := List.getElem?_of_mem m_45
      obtain ⟨j_72, hj_72⟩ := List.getElem?_of_mem m_46
      obtain ⟨k_73, hk_73⟩ := List.getElem?_of_mem m_47
      obtain ⟨j_74, hj_74⟩ := List.getElem?_of_mem m_48
      obtain ⟨k_75, hk_75⟩ := List.getElem?_of_mem m_49
      obtain ⟨j_76, hj_76⟩ := List.getElem?_of_mem m_50
      obtain ⟨k_77, hk_77⟩ := List.getElem?_of_mem m_51
      obtain ⟨j_78, hj_78⟩ := List.getElem?_of_mem m_52
      obtain ⟨k_79, hk_79⟩ := List.getElem?_of_mem m_53
      obtain ⟨j_80, hj_80⟩ := List.getElem?_of_mem m_54
      obtain ⟨k_81, hk_81⟩ := List.getElem?_of_mem m_55
      obtain ⟨j_82, hj_82⟩ := List.getElem?_of_mem m_56
      refine lv_astore (lv' := [(4, .ref d_11), (3, .null), (0, .ref gt), (1, .int i1), (2, .int i2)]) hx hb dX9_within_17 hl (by decide) rfl (fun ls hl => ?_)
      refine lv_aload_nN hx hb dX9_within_19 rfl (lv_at hl 1 rfl) ?_
      refine lv_ifnullN (tgt := 28) hx hb dX9_within_20 (by decide) ?_
      refine lv_aload_n hx hb dX9_within_28 rfl (lv_at hl 2 rfl) ?_
      refine lv_iconst (v := 2) hx hb dX9_within_29 (by decide) ?_
      have hPc := hP.sub (ws' := [(gt, .inr (9, [.int st9, .ref tp, .int td, .int fk, .int fpl, .ref bk, .int un, .ref mb, .ref mu, .int mk, .ref rd, .ref cm, .ref wk, .ref pp, .ref so, .ref ty]))]) [0] rfl
      have hKc := hK.sub (tys' := []) [] rfl
      have hDc := hD.sub (ws' := [(gt, .inr (9, [.int st9, .ref tp, .int td, .int fk, .int fpl, .ref bk, .int un, .ref mb, .ref mu, .int mk, .ref rd, .ref cm, .ref wk, .ref pp, .ref so, .ref ty]))]) [0] (by decide) rfl
      have hFc := va_free (wc := [(gt, .inr (9, [.int st9, .ref tp, .int td, .int fk, .int fpl, .ref bk, .int un, .ref mb, .ref mu, .int mk, .ref rd, .ref cm, .ref wk, .ref pp, .ref so, .ref ty]))]) hD hS hA [0] rfl
      refine va_calli (va_runV (As := [.int 2]) (rest := []) ⟨hx, hb, hml, hown, hts⟩ (s_refuse l dC dI gt tp bk mb mu rd cm wk pp so ty st9 td fk fpl un mk H.size 2) (cwV 1 hts mg_X9_within_X9_refuse_80 rfl rfl rfl (by decide +kernel) ⟨Nat.le_of_ble_eq_true rfl, Nat.le_of_ble_eq_true rfl⟩) ⟨fun a U g mk q => by obtain ⟨q0, q1, qP, qK, qD⟩ := q; exact ⟨q0, q1, qP, va_K.moved (u := U) (U := U.calling g mk a) (Vm.Alike.refl U.vm) qK, qD⟩, va_recv hKc hPc (ci := 9) (q0 := 0) rfl rfl, fun U hU hW => ⟨rfl, by rw [hU], by rw [hU]; exact hPc, va_K.moved hW.alike hKc, hDc.weaken (fun _ _ _ _ => trivial)⟩⟩ rfl rfl hl.1 rfl (lv_room (Nat.le_of_ble_eq_true rfl)) dX9_within_30 ⟨Nat.le_of_ble_eq_true rfl, Nat.le_of_ble_eq_true rfl⟩) hS (fun q _ h => hFc q h) hFc (fun r_84 u t H1 locs ht hvm hw hB hz1 hk1 hS => ?_)
      obtain ⟨hP1, hK1, hD1⟩ := hB
      rw [ht] at hP1
      have hr_84 := hw
      obtain ⟨hP, hD⟩ := va_join (wr := []) (w1 := [(gt, .inr (9, [.int 2, .ref tp, .int td, .int fk, .int fpl, .ref bk, .int un, .ref mb, .ref mu, .int mk, .ref rd, .ref cm, .ref wk, .ref pp, .ref so, .ref ty]))]) hP hD [0] [] rfl rfl (by decide) (by decide) hk1 hFc hP1 hD1
      generalize H1 = H at hP hS ⊢
      have hP : va_P (dC, dI) vwCl [(gt, .inr (9, [.int 2, .ref tp, .int td, .int fk, .int fpl, .ref bk, .int un, .ref mb, .ref mu, .int mk, .ref rd, .ref cm, .ref wk, .ref pp, .ref so, .ref ty]))] H := hP
      have hD : va_D A [(gt, .inr (9, [.int 2, .ref tp, .int td, .int fk, .int fpl, .ref bk, .int un, .ref mb, .ref mu, .int mk, .ref rd, .ref cm, .ref wk, .ref pp, .ref so, .ref ty]))] := hD
      have hQ := q_at hQ0 hQA hS
      have hP9 := hP.sub (ws' := [(gt, .inr (9, [.int 2, .ref tp, .int td, .int fk, .int fpl, .ref bk, .int un, .ref mb, .ref mu, .int mk, .ref rd, .ref cm, .ref wk, .ref pp, .ref so, .ref ty]))]) [0] rfl
      have hD9 := hD.sub (ws' := [(gt, .inr (9, [.int 2, .ref tp, .int td, .int fk, .int fpl, .ref bk, .int un, .ref mb, .ref mu, .int mk, .ref rd, .ref cm, .ref wk, .ref pp, .ref so, .ref ty]))]) [0] (by decide) rfl
      have hK9 := hK.sub (tys' := []) [] rfl
      exact W.iret hx hb hr (fun t ht hW => ⟨⟨_, (), rfl, trivial, 2, by rw [ht]; exact hP9, va_K.moved hW.alike hK9, hD9⟩, hS.F ht⟩) hS.2.2 dX9_within_33
  · refine W.eq (g2 := F0 m 8 ls [.ref d_8]) rfl ?_
    have hd_8P := hd_8.poP
    have hd_8Q := hd_8
    obtain ⟨q_85, a_86, a_87, a_88, a_89, a_90, a_91, n_92, n_93, n_94, n_95, n_96, n_97, n_98, f_99, f_100, f_101, f_102, f_103, f_104, f_105, c_106, c_107, c_108, c_109, c_110, c_111, c_112, m_113, ⟨m_114, m_115⟩, ⟨m_116, m_117⟩, ⟨m_118, m_119⟩, ⟨m_120, m_121⟩, ⟨m_122, m_123⟩, ⟨m_124, m_125⟩, ⟨m_126, m_127, h_138⟩, h_128, h_129, h_130, h_131, h_132, h_133, h_134, h_135, h_136, h_137⟩ := hd_8
    obtain ⟨k_139, hk_139⟩ := List.getElem?_of_mem m_113
    obtain ⟨k_140, hk_140⟩ := List.getElem?_of_mem m_114
    obtain ⟨j_141, hj_141⟩ := List.getElem?_of_mem m_115
    obtain ⟨k_142, hk_142⟩ := List.getElem?_of_mem m_116
    obtain ⟨j_143, hj_143⟩ := List.getElem?_of_mem m_117
    obtain ⟨k_144, hk_144⟩ := List.getElem?_of_mem m_118
    obtain ⟨j_145, hj_145⟩ := List.getElem?_of_mem m_119
    obtain ⟨k_146, hk_146⟩ := List.getElem?_of_mem m_120
    obtain ⟨j_147, hj_147⟩ := List.getElem?_of_mem m_121
    obtain ⟨k_148, hk_148⟩ := List.getElem?_of_mem m_122
    obtain ⟨j_149, hj_149⟩ := List.getElem?_of_mem m_123
    obtain ⟨k_150, hk_150⟩ := List.getElem?_of_mem m_124
    obtain ⟨j_151, hj_151⟩ := List.getElem?_of_mem m_125
    obtain ⟨k_152, hk_152⟩ := List.getElem?_of_mem m_126
    obtain ⟨j_153, hj_153⟩ := List.getElem?_of_mem m_127
    refine lv_astore_n (lv' := [(3, .ref d_8), (0, .ref gt), (1, .int i1), (2, .int i2)]) hx hb dX9_within_8 rfl hl (by decide) rfl (fun ls hl => ?_)
    refine lv_aload_n hx hb dX9_within_9 rfl (lv_at hl 1 rfl) ?_
    refine va_get (D := (dC, dI)) (ci := 9) (v := .ref bk) (C := RX9) (T := TX9) (N := 16) hx hb hts fin_X9_within_X9 hown hK hP 0 rfl rfl 5 (by decide) (hts (.fieldLink RX9 29 "PatternGate" "book" "LPatternGate$Book;") (List.mem_of_getElem? (i := 1) (by decide +kernel))) (fun _ h9 => h9) rfl dX9_within_10 ?_
    refine lv_iload_n hx hb dX9_within_13 rfl (lv_at hl 3 rfl) ?_
    have hPc := hQ
    have hKc := hKQ
    refine va_csq (W.runV (As := [.int i2]) (rest := []) ⟨hx, hb, hml, hown, hts⟩ (s_patternAt2 l dC dI W9 T9 bk ear i2 hB3) (cwV 1 hts mg_X9_within_X0_patternAt_140 rfl rfl rfl (by decide +kernel) ⟨Nat.le_of_ble_eq_true rfl, Nat.le_of_ble_eq_true rfl⟩) ⟨fun a U g mk q => by obtain ⟨q0, qP, qK⟩ := q; exact ⟨q0, qP, va_K.moved (u := U) (U := U.calling g mk a) (Vm.Alike.refl U.vm) qK⟩, va_recv hKc hPc (ci := 0) (q0 := k_1) rfl hk_1, fun U hU hW => ⟨rfl, by rw [hU]; exact hPc, va_K.moved hW.alike hKc⟩⟩ rfl rfl hl.1 rfl (lv_room (Nat.le_of_ble_eq_true rfl)) dX9_within_14 ⟨Nat.le_of_ble_eq_true rfl, Nat.le_of_ble_eq_true rfl⟩) (fun r_155 hw => ?_)
    rcases hw with rfl | ⟨d_156, rfl, hd_156⟩
    · refine W.eq (g2 := F0 m 17 ls [.null]) rfl ?_
      refine lv_astoreN (lv' := [(4, .null), (3, .ref d_8), (0, .ref gt), (1, .int i1), (2, .int i2)]) hx hb dX9_within_17 hl (by decide) rfl (fun ls hl => ?_)
      refine lv_aload_n hx hb dX9_within_19 rfl (lv_at hl 1 rfl) ?_
      refine lv_ifnull hx hb dX9_within_20 ?_
      refine lv_aloadN hx hb dX9_within_23 (lv_at hl 0 rfl) ?_
      refine lv_ifnonnullN hx hb dX9_within_25 ?_
      refine lv_aload_n hx hb dX9_within_28 rfl (lv_at hl 2 rfl) ?_
      refine lv_iconst (v := 2) hx hb dX9_within_29 (by decide) ?_
      have hPc := hP.sub (ws' := [(gt, .inr (9, [.int st9, .ref tp, .int td, .int fk, .int fpl, .ref bk, .int un, .ref mb, .ref mu, .int mk, .ref rd, .ref cm, .ref wk, .ref pp, .ref so, .ref ty]))]) [0] rfl
      have hKc := hK.sub (tys' := []) [] rfl
      have hDc := hD.sub (ws' := [(gt, .inr (9, [.int st9, .ref tp, .int td, .int fk, .int fpl, .ref bk, .int un, .ref mb, .ref mu, .int mk, .ref rd, .ref cm, .ref wk, .ref pp, .ref so, .ref ty]))]) [0] (by decide) rfl
      have hFc := va_free (wc := [(gt, .inr (9, [.int st9, .ref tp, .int td, .int fk, .int fpl, .ref bk, .int un, .ref mb, .ref mu, .int mk, .ref rd, .ref cm, .ref wk, .ref pp, .ref so, .ref ty]))]) hD hS hA [0] rfl
      refine va_calli (va_runV (As := [.int 2]) (rest := []) ⟨hx, hb, hml, hown, hts⟩ (s_refuse l dC dI gt tp bk mb mu rd cm wk pp so ty st9 td fk fpl un mk H.size 2) (cwV 1 hts mg_X9_within_X9_refuse_80 rfl rfl rfl (by decide +kernel) ⟨Nat.le_of_ble_eq_true rfl, Nat.le_of_ble_eq_true rfl⟩) ⟨fun a U g mk q => by obtain ⟨q0, q1, qP, qK, qD⟩ := q; exact ⟨q0, q1, qP, va_K.moved (u := U) (U := U.calling g mk a) (Vm.Alike.refl U.vm) qK, qD⟩, va_recv hKc hPc (ci := 9) (q0 := 0) rfl rfl, fun U hU hW => ⟨rfl, by rw [hU], by rw [hU]; exact hPc, va_K.moved hW.alike hKc, hDc.weaken (fun _ _ _ _ => trivial)⟩⟩ rfl rfl hl.1 rfl (lv_room (Nat.le_of_ble_eq_true rfl)) dX9_within_30 ⟨Nat.le_of_ble_eq_true rfl, Nat.le_of_ble_eq_true rfl⟩) hS (fun q _ h => hFc q h) hFc (fun r_158 u t H1 locs ht hvm hw hB hz1 hk1 hS => ?_)
      obtain ⟨hP1, hK1, hD1⟩ := hB
      rw [ht] at hP1
      have hr_158 := hw
      obtain ⟨hP, hD⟩ := va_join (wr := []) (w1 := [(gt, .inr (9, [.int 2, .ref tp, .int td, .int fk, .int fpl, .ref bk, .int un, .ref mb, .ref mu, .int mk, .ref rd, .ref cm, .ref wk, .ref pp, .ref so, .ref ty]))]) hP hD [0] [] rfl rfl (by decide) (by decide) hk1 hFc hP1 hD1
      generalize H1 = H at hP hS ⊢
      have hP : va_P (dC, dI) vwCl [(gt, .inr (9, [.int 2, .ref tp, .int td, .int fk, .int fpl, .ref bk, .int un, .ref mb, .ref mu, .int mk, .ref rd, .ref cm, .ref wk, .ref pp, .ref so, .ref ty]))] H := hP
      have hD : va_D A [(gt, .inr (9, [.int 2, .ref tp, .int td, .int fk, .int fpl, .ref bk, .int un, .ref mb, .ref mu, .int mk, .ref rd, .ref cm, .ref wk, .ref pp, .ref so, .ref ty]))] := hD
      have hQ := q_at hQ0 hQA hS
      have hP9 := hP.sub (ws' := [(gt, .inr (9, [.int 2, .ref tp, .int td, .int fk, .int fpl, .ref bk, .int un, .ref mb, .ref mu, .int mk, .ref rd, .ref cm, .ref wk, .ref pp, .ref so, .ref ty]))]) [0] rfl
      have hD9 := hD.sub (ws' := [(gt, .inr (9, [.int 2, .ref tp, .int td, .int fk, .int fpl, .ref bk, .int un, .ref mb, .ref mu, .int mk, .ref rd, .ref cm, .ref wk, .ref pp, .ref so, .ref ty]))]) [0] (by decide) rfl
      have hK9 := hK.sub (tys' := []) [] rfl
      exact W.iret hx hb hr (fun t ht hW => ⟨⟨_, (), rfl, trivial, 2, by rw [ht]; exact hP9, va_K.moved hW.alike hK9, hD9⟩, hS.F ht⟩) hS.2.2 dX9_within_33
    · refine W.eq (g2 := F0 m 17 ls [.ref d_156]) rfl ?_
      have hd_156P := hd_156.poP
      have hd_156Q := hd_156
      obtain ⟨q_159, a_160, a_161, a_162, a_163, a_164, a_165, n_166, n_167, n_168, n_169, n_170, n_171, n_172, f_173, f_174, f_175, f_176, f_177, f_178, f_179, c_180, c_181, c_182, c_183, c_184, c_185, c_186, m_187, ⟨m_188, m_189⟩, ⟨m_190, m_191⟩, ⟨m_192, m_193⟩, ⟨m_194, m_195⟩, ⟨m_196, m_197⟩, ⟨m_198, m_199⟩, ⟨m_200, m_201, h_212⟩, h_202, h_203, h_204, h_205, h_206, h_207, h_208, h_209, h_210, h_211⟩ := hd_156
      obtain ⟨k_213, hk_213⟩ := List.getElem?_of_mem m_187
      obtain ⟨k_214, hk_214⟩ := List.getElem?_of_mem m_188
      obtain ⟨j_215, hj_215⟩ := List.getElem?_of_mem m_189
      obtain ⟨k_216, hk_216⟩ := List.getElem?_of_mem m_190
      obtain ⟨j_217, hj_217⟩ := List.getElem?_of_mem m_191
      obtain ⟨k_218, hk_218⟩ := List.getElem?_of_mem m_192
      obtain ⟨j_219, hj_219⟩ := List.getElem?_of_mem m_193
      obtain ⟨k_220, hk_220⟩ := List.getElem?_of_mem m_194
      obtain ⟨j_221, hj_221⟩ := List.getElem?_of_mem m_195
      obtain ⟨k_222, hk_222⟩ := List.getElem?_of_mem m_196
      obtain ⟨j_223, hj_223⟩ := List.getElem?_of_mem m_197
      obtain ⟨k_224, hk_224⟩ := List.getElem?_of_mem m_198
      obtain ⟨j_225, hj_225⟩ := List.getElem?_of_mem m_199
      obtain ⟨k_226, hk_226⟩ := List.getElem?_of_mem m_200
      obtain ⟨j_227, hj_227⟩ := List.getElem?_of_mem m_201
      refine lv_astore (lv' := [(4, .ref d_156), (3, .ref d_8), (0, .ref gt), (1, .int i1), (2, .int i2)]) hx hb dX9_within_17 hl (by decide) rfl (fun ls hl => ?_)
      refine lv_aload_n hx hb dX9_within_19 rfl (lv_at hl 1 rfl) ?_
      refine lv_ifnull hx hb dX9_within_20 ?_
      refine lv_aload hx hb dX9_within_23 (lv_at hl 0 rfl) ?_
      refine lv_ifnonnull (tgt := 34) hx hb dX9_within_25 (by decide) ?_
      refine lv_iconst (v := 0) hx hb dX9_within_34 (by decide) ?_
      refine lv_istore (lv' := [(5, .int 0), (4, .ref d_156), (3, .ref d_8), (0, .ref gt), (1, .int i1), (2, .int i2)]) hx hb dX9_within_35 hl (by decide) rfl (fun ls hl => ?_)
      have loop37 : ∀ (lm37 : Nat) (ii : Int32), (0 ≤ ii.toInt) → ((1000 - ii.toInt).toNat) < lm37 → ∀ (H : Heap) (locs : List Loc) (ls : Array Slot), va_P (dC, dI) vwCl [(gt, .inr (9, [.int st9, .ref tp, .int td, .int fk, .int fpl, .ref bk, .int un, .ref mb, .ref mu, .int mk, .ref rd, .ref cm, .ref wk, .ref pp, .ref so, .ref ty]))] H → va_D A [(gt, .inr (9, [.int st9, .ref tp, .int td, .int fk, .int fpl, .ref bk, .int un, .ref mb, .ref mu, .int mk, .ref rd, .ref cm, .ref wk, .ref pp, .ref so, .ref ty]))] → va_S A s.heap H locs → lv_has ls 6 [(5, .int ii), (4, .ref d_156), (3, .ref d_8), (0, .ref gt), (1, .int i1), (2, .int i2)] → W p l e (headSpec mwX9_within ({ frames := 2, cells := 0, slots := 0, locals := 120 })).room s m ([.ref gt, .int i1, .int i2]).toArray below meth c H locs 0 0 (MQ below (va_Qi (fun (_ : Int32) (_ : Unit) => True) (fun _ t => ∃ (y0 : Int32), va_P (dC, dI) vwCl [(gt, .inr (9, [.int y0, .ref tp, .int td, .int fk, .int fpl, .ref bk, .int un, .ref mb, .ref mu, .int mk, .ref rd, .ref cm, .ref wk, .ref pp, .ref so, .ref ty]))] t.heap ∧ va_K (dC, dI) vwCl [] t ∧ va_D A [(gt, .inr (9, [.int y0, .ref tp, .int td, .int fk, .int fpl, .ref bk, .int un, .ref mb, .ref mu, .int mk, .ref rd, .ref cm, .ref wk, .ref pp, .ref so, .ref ty]))]) A) ([.ref gt, .int i1, .int i2]).toArray s 0 0 A) (F0 m 37 ls []) := by
        intro lm37
        induction lm37 with
        | zero => intro ii v37_0 hm37; exact absurd hm37 (Nat.not_lt_zero _)
        | succ lm37 ih37 =>
          intro ii v37_0 hm37 H locs ls hP hD hS hl
          have hQ := q_at hQ0 hQA hS
          have rg_ii := i_rng ii
          refine lv_iload hx hb dX9_within_37 (lv_at hl 0 rfl) ?_
          refine lv_aload_n hx hb dX9_within_39 rfl (lv_at hl 2 rfl) ?_
          have hPc : va_P (dC, dI) vwCl [(d_8, .inr (5, pF q_85 a_86 a_87 a_88 a_89 a_90 a_91)), (q_85 5, .inl (c_110, n_96, .inl f_103))] H := p_sub hQ (List.forall_mem_cons.mpr ⟨m_113, List.forall_mem_cons.mpr ⟨m_122, fun _ h => absurd h List.not_mem_nil⟩⟩)
          have hKc : va_K (dC, dI) vwCl [(c_110, .int)] s := k_sub hKQ (List.forall_mem_cons.mpr ⟨m_123, fun _ h => absurd h List.not_mem_nil⟩)
          refine vp_callSi (W.runV (As := []) (rest := [.int ii]) ⟨hx, hb, hml, hown, hts⟩ (s_choices l dC dI d_8 q_85 a_86 a_87 a_88 a_89 a_90 a_91 n_96 f_103 c_110 (by omega)) (cwV 0 hts mg_X9_within_X5_choices_150 rfl rfl rfl (by decide +kernel) ⟨Nat.le_of_ble_eq_true rfl, Nat.le_of_ble_eq_true rfl⟩) ⟨fun a U g mk q => by obtain ⟨q0, qP, qK⟩ := q; exact ⟨q0, qP, va_K.moved (u := U) (U := U.calling g mk a) (Vm.Alike.refl U.vm) qK⟩, va_recv hKc hPc (ci := 5) (q0 := 0) rfl rfl, fun U hU hW => ⟨rfl, by rw [hU]; exact hPc, va_K.moved hW.alike hKc⟩⟩ rfl rfl hl.1 rfl (lv_room (Nat.le_of_ble_eq_true rfl)) dX9_within_40 ⟨Nat.le_of_ble_eq_true rfl, Nat.le_of_ble_eq_true rfl⟩) (fun r_229 hw => ?_)
          have hr_229 := hw
          refine lv_icmp_ge (tgt := 69) hx hb dX9_within_43 (by decide) (fun k_230 => ?_) (fun k_230 => ?_)
          · have tk_230 := c_ge (a := ii.toInt) (b := r_229.toInt) rfl rfl k_230
            refine lv_aload_n hx hb dX9_within_69 rfl (lv_at hl 3 rfl) ?_
            refine lv_iconst (v := 1) hx hb dX9_within_70 (by decide) ?_
            have hPc := hP.sub (ws' := [(gt, .inr (9, [.int st9, .ref tp, .int td, .int fk, .int fpl, .ref bk, .int un, .ref mb, .ref mu, .int mk, .ref rd, .ref cm, .ref wk, .ref pp, .ref so, .ref ty]))]) [0] rfl
            have hKc := hK.sub (tys' := []) [] rfl
            have hDc := hD.sub (ws' := [(gt, .inr (9, [.int st9, .ref tp, .int td, .int fk, .int fpl, .ref bk, .int un, .ref mb, .ref mu, .int mk, .ref rd, .ref cm, .ref wk, .ref pp, .ref so, .ref ty]))]) [0] (by decide) rfl
            have hFc := va_free (wc := [(gt, .inr (9, [.int st9, .ref tp, .int td, .int fk, .int fpl, .ref bk, .int un, .ref mb, .ref mu, .int mk, .ref rd, .ref cm, .ref wk, .ref pp, .ref so, .ref ty]))]) hD hS hA [0] rfl
            refine va_calli (va_runV (As := [.int 1]) (rest := []) ⟨hx, hb, hml, hown, hts⟩ (s_answer l dC dI gt tp bk mb mu rd cm wk pp so ty st9 td fk fpl un mk H.size 1) (cwV 1 hts mg_X9_within_X9_answer_100 rfl rfl rfl (by decide +kernel) ⟨Nat.le_of_ble_eq_true rfl, Nat.le_of_ble_eq_true rfl⟩) ⟨fun a U g mk q => by obtain ⟨q0, q1, qP, qK, qD⟩ := q; exact ⟨q0, q1, qP, va_K.moved (u := U) (U := U.calling g mk a) (Vm.Alike.refl U.vm) qK, qD⟩, va_recv hKc hPc (ci := 9) (q0 := 0) rfl rfl, fun U hU hW => ⟨rfl, by rw [hU], by rw [hU]; exact hPc, va_K.moved hW.alike hKc, hDc.weaken (fun _ _ _ _ => trivial)⟩⟩ rfl rfl hl.1 rfl (lv_room (Nat.le_of_ble_eq_true rfl)) dX9_within_71 ⟨Nat.le_of_ble_eq_true rfl, Nat.le_of_ble_eq_true rfl⟩) hS (fun q _ h => hFc q h) hFc (fun r_232 u t H1 locs ht hvm hw hB hz1 hk1 hS => ?_)
            obtain ⟨hP1, hK1, hD1⟩ := hB
            rw [ht] at hP1
            have hr_232 := hw
            obtain ⟨hP, hD⟩ := va_join (wr := []) (w1 := [(gt, .inr (9, [.int 0, .ref tp, .int td, .int fk, .int fpl, .ref bk, .int un, .ref mb, .ref mu, .int mk, .ref rd, .ref cm, .ref wk, .ref pp, .ref so, .ref ty]))]) hP hD [0] [] rfl rfl (by decide) (by decide) hk1 hFc hP1 hD1
            generalize H1 = H at hP hS ⊢
            have hP : va_P (dC, dI) vwCl [(gt, .inr (9, [.int 0, .ref tp, .int td, .int fk, .int fpl, .ref bk, .int un, .ref mb, .ref mu, .int mk, .ref rd, .ref cm, .ref wk, .ref pp, .ref so, .ref ty]))] H := hP
            have hD : va_D A [(gt, .inr (9, [.int 0, .ref tp, .int td, .int fk, .int fpl, .ref bk, .int un, .ref mb, .ref mu, .int mk, .ref rd, .ref cm, .ref wk, .ref pp, .ref so, .ref ty]))] := hD
            have hQ := q_at hQ0 hQA hS
            have hP9 := hP.sub (ws' := [(gt, .inr (9, [.int 0, .ref tp, .int td, .int fk, .int fpl, .ref bk, .int un, .ref mb, .ref mu, .int mk, .ref rd, .ref cm, .ref wk, .ref pp, .ref so, .ref ty]))]) [0] rfl
            have hD9 := hD.sub (ws' := [(gt, .inr (9, [.int 0, .ref tp, .int td, .int fk, .int fpl, .ref bk, .int un, .ref mb, .ref mu, .int mk, .ref rd, .ref cm, .ref wk, .ref pp, .ref so, .ref ty]))]) [0] (by decide) rfl
            have hK9 := hK.sub (tys' := []) [] rfl
            exact W.iret hx hb hr (fun t ht hW => ⟨⟨_, (), rfl, trivial, 0, by rw [ht]; exact hP9, va_K.moved hW.alike hK9, hD9⟩, hS.F ht⟩) hS.2.2 dX9_within_74
          · have tk_230 := c_nge (a := ii.toInt) (b := r_229.toInt) rfl rfl k_230
            refine lv_aload hx hb dX9_within_46 (lv_at hl 1 rfl) ?_
            refine lv_aload_n hx hb dX9_within_48 rfl (lv_at hl 2 rfl) ?_
            refine lv_iload hx hb dX9_within_49 (lv_at hl 0 rfl) ?_
            have hPc := hQ
            have hKc := hKQ
            refine vp_callSi (W.runV (As := [.ref d_8, .int ii]) (rest := []) ⟨hx, hb, hml, hown, hts⟩ (s_hasChoiceWithin l dC dI W9 T9 d_156 d_8 ii hd_156P hd_8P) (cwV 2 hts mg_X9_within_X5_hasChoiceWithin_235 rfl rfl rfl (by decide +kernel) ⟨Nat.le_of_ble_eq_true rfl, Nat.le_of_ble_eq_true rfl⟩) ⟨fun a U g mk q => by obtain ⟨q0, qP, qK⟩ := q; exact ⟨q0, qP, va_K.moved (u := U) (U := U.calling g mk a) (Vm.Alike.refl U.vm) qK⟩, va_recv hKc hPc (ci := 5) (q0 := k_213) rfl hk_213, fun U hU hW => ⟨rfl, by rw [hU]; exact hPc, va_K.moved hW.alike hKc⟩⟩ rfl rfl hl.1 rfl (lv_room (Nat.le_of_ble_eq_true rfl)) dX9_within_51 ⟨Nat.le_of_ble_eq_true rfl, Nat.le_of_ble_eq_true rfl⟩) (fun r_234 hw => ?_)
            refine lv_if_ne (tgt := 63) hx hb dX9_within_54 (by decide) (fun k_235 => ?_) (fun k_235 => ?_)
            · have tk_235 := c_ne (a := r_234.toInt) (b := 0) rfl (by decide) k_235
              obtain ⟨y_236, ey_236⟩ : ∃ y : Int32, y = ii + 1 := ⟨_, rfl⟩
              first | have ty_236 := i_add (a := ii.toInt) (b := 1) rfl (by decide) ey_236 (by omega) (by omega) | skip
              refine lv_iinc (v := y_236) (lv' := [(5, .int y_236), (4, .ref d_156), (3, .ref d_8), (0, .ref gt), (1, .int i1), (2, .int i2)]) hx hb dX9_within_63 hl (k := 0) rfl (by rw [ey_236]; rfl) (by decide) rfl (fun ls hl => ?_)
              refine lv_goto (tgt := 37) hx hb dX9_within_66 (by decide) ?_
              exact ih37 y_236 (by first | omega | assumption | decide) (by omega) _ _ ls hP hD hS (lv_sub hl [0, 1, 2, 3, 4, 5] rfl)
            · have tk_235 := c_eq (a := r_234.toInt) (b := 0) rfl (by decide) k_235
              refine lv_aload_n hx hb dX9_within_57 rfl (lv_at hl 3 rfl) ?_
              refine lv_iconst (v := 0) hx hb dX9_within_58 (by decide) ?_
              have hPc := hP.sub (ws' := [(gt, .inr (9, [.int st9, .ref tp, .int td, .int fk, .int fpl, .ref bk, .int un, .ref mb, .ref mu, .int mk, .ref rd, .ref cm, .ref wk, .ref pp, .ref so, .ref ty]))]) [0] rfl
              have hKc := hK.sub (tys' := []) [] rfl
              have hDc := hD.sub (ws' := [(gt, .inr (9, [.int st9, .ref tp, .int td, .int fk, .int fpl, .ref bk, .int un, .ref mb, .ref mu, .int mk, .ref rd, .ref cm, .ref wk, .ref pp, .ref so, .ref ty]))]) [0] (by decide) rfl
              have hFc := va_free (wc := [(gt, .inr (9, [.int st9, .ref tp, .int td, .int fk, .int fpl, .ref bk, .int un, .ref mb, .ref mu, .int mk, .ref rd, .ref cm, .ref wk, .ref pp, .ref so, .ref ty]))]) hD hS hA [0] rfl
              refine va_calli (va_runV (As := [.int 0]) (rest := []) ⟨hx, hb, hml, hown, hts⟩ (s_answer l dC dI gt tp bk mb mu rd cm wk pp so ty st9 td fk fpl un mk H.size 0) (cwV 1 hts mg_X9_within_X9_answer_100 rfl rfl rfl (by decide +kernel) ⟨Nat.le_of_ble_eq_true rfl, Nat.le_of_ble_eq_true rfl⟩) ⟨fun a U g mk q => by obtain ⟨q0, q1, qP, qK, qD⟩ := q; exact ⟨q0, q1, qP, va_K.moved (u := U) (U := U.calling g mk a) (Vm.Alike.refl U.vm) qK, qD⟩, va_recv hKc hPc (ci := 9) (q0 := 0) rfl rfl, fun U hU hW => ⟨rfl, by rw [hU], by rw [hU]; exact hPc, va_K.moved hW.alike hKc, hDc.weaken (fun _ _ _ _ => trivial)⟩⟩ rfl rfl hl.1 rfl (lv_room (Nat.le_of_ble_eq_true rfl)) dX9_within_59 ⟨Nat.le_of_ble_eq_true rfl, Nat.le_of_ble_eq_true rfl⟩) hS (fun q _ h => hFc q h) hFc (fun r_238 u t H1 locs ht hvm hw hB hz1 hk1 hS => ?_)
              obtain ⟨hP1, hK1, hD1⟩ := hB
              rw [ht] at hP1
              have hr_238 := hw
              obtain ⟨hP, hD⟩ := va_join (wr := []) (w1 := [(gt, .inr (9, [.int 0, .ref tp, .int td, .int fk, .int fpl, .ref bk, .int un, .ref mb, .ref mu, .int mk, .ref rd, .ref cm, .ref wk, .ref pp, .ref so, .ref ty]))]) hP hD [0] [] rfl rfl (by decide) (by decide) hk1 hFc hP1 hD1
              generalize H1 = H at hP hS ⊢
              have hP : va_P (dC, dI) vwCl [(gt, .inr (9, [.int 0, .ref tp, .int td, .int fk, .int fpl, .ref bk, .int un, .ref mb, .ref mu, .int mk, .ref rd, .ref cm, .ref wk, .ref pp, .ref so, .ref ty]))] H := hP
              have hD : va_D A [(gt, .inr (9, [.int 0, .ref tp, .int td, .int fk, .int fpl, .ref bk, .int un, .ref mb, .ref mu, .int mk, .ref rd, .ref cm, .ref wk, .ref pp, .ref so, .ref ty]))] := hD
              have hQ := q_at hQ0 hQA hS
              have hP9 := hP.sub (ws' := [(gt, .inr (9, [.int 0, .ref tp, .int td, .int fk, .int fpl, .ref bk, .int un, .ref mb, .ref mu, .int mk, .ref rd, .ref cm, .ref wk, .ref pp, .ref so, .ref ty]))]) [0] rfl
              have hD9 := hD.sub (ws' := [(gt, .inr (9, [.int 0, .ref tp, .int td, .int fk, .int fpl, .ref bk, .int un, .ref mb, .ref mu, .int mk, .ref rd, .ref cm, .ref wk, .ref pp, .ref so, .ref ty]))]) [0] (by decide) rfl
              have hK9 := hK.sub (tys' := []) [] rfl
              exact W.iret hx hb hr (fun t ht hW => ⟨⟨_, (), rfl, trivial, 0, by rw [ht]; exact hP9, va_K.moved hW.alike hK9, hD9⟩, hS.F ht⟩) hS.2.2 dX9_within_62
      have lit_238 : (0 : Int32).toInt = 0 := by decide
      exact loop37 _ 0 (by first | omega | assumption | decide) (Nat.lt_succ_self _) _ _ ls hP hD hS (lv_sub hl [0, 1, 2, 3, 4, 5] rfl)

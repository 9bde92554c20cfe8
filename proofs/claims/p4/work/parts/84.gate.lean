theorem dX9_would_0 : decode cX9_would 0 = .ok (.iload_n 3, 1) := by decide +kernel
theorem dX9_would_1 : decode cX9_would 1 = .ok (.invokestatic 239, 3) := by decide +kernel
theorem dX9_would_4 : decode cX9_would 4 = .ok (.ifCond .eq 7, 3) := by decide +kernel
theorem dX9_would_7 : decode cX9_would 7 = .ok (.iload_n 2, 1) := by decide +kernel
theorem dX9_would_8 : decode cX9_would 8 = .ok (.ifCond .ge 9, 3) := by decide +kernel
theorem dX9_would_11 : decode cX9_would 11 = .ok (.aload_n 0, 1) := by decide +kernel
theorem dX9_would_12 : decode cX9_would 12 = .ok (.iconst 1, 1) := by decide +kernel
theorem dX9_would_13 : decode cX9_would 13 = .ok (.invokevirtual 80, 3) := by decide +kernel
theorem dX9_would_16 : decode cX9_would 16 = .ok (.ireturn, 1) := by decide +kernel
theorem dX9_would_17 : decode cX9_would 17 = .ok (.aload_n 0, 1) := by decide +kernel
theorem dX9_would_18 : decode cX9_would 18 = .ok (.getfield 29, 3) := by decide +kernel
theorem dX9_would_21 : decode cX9_would 21 = .ok (.iload_n 1, 1) := by decide +kernel
theorem dX9_would_22 : decode cX9_would 22 = .ok (.invokevirtual 123, 3) := by decide +kernel
theorem dX9_would_25 : decode cX9_would 25 = .ok (.astore 4, 2) := by decide +kernel
theorem dX9_would_27 : decode cX9_would 27 = .ok (.aload 4, 2) := by decide +kernel
theorem dX9_would_29 : decode cX9_would 29 = .ok (.ifnonnull 9, 3) := by decide +kernel
theorem dX9_would_32 : decode cX9_would 32 = .ok (.aload_n 0, 1) := by decide +kernel
theorem dX9_would_33 : decode cX9_would 33 = .ok (.iconst 2, 1) := by decide +kernel
theorem dX9_would_34 : decode cX9_would 34 = .ok (.invokevirtual 80, 3) := by decide +kernel
theorem dX9_would_37 : decode cX9_would 37 = .ok (.ireturn, 1) := by decide +kernel
theorem dX9_would_38 : decode cX9_would 38 = .ok (.aload 4, 2) := by decide +kernel
theorem dX9_would_40 : decode cX9_would 40 = .ok (.getfield 127, 3) := by decide +kernel
theorem dX9_would_43 : decode cX9_would 43 = .ok (.arraylength, 1) := by decide +kernel
theorem dX9_would_44 : decode cX9_would 44 = .ok (.istore 5, 2) := by decide +kernel
theorem dX9_would_46 : decode cX9_would 46 = .ok (.iload_n 2, 1) := by decide +kernel
theorem dX9_would_47 : decode cX9_would 47 = .ok (.iload 5, 2) := by decide +kernel
theorem dX9_would_49 : decode cX9_would 49 = .ok (.if_icmp .ge 13, 3) := by decide +kernel
theorem dX9_would_52 : decode cX9_would 52 = .ok (.iload 5, 2) := by decide +kernel
theorem dX9_would_54 : decode cX9_would 54 = .ok (.aload_n 0, 1) := by decide +kernel
theorem dX9_would_55 : decode cX9_would 55 = .ok (.getfield 61, 3) := by decide +kernel
theorem dX9_would_58 : decode cX9_would 58 = .ok (.arraylength, 1) := by decide +kernel
theorem dX9_would_59 : decode cX9_would 59 = .ok (.if_icmp .le 9, 3) := by decide +kernel
theorem dX9_would_62 : decode cX9_would 62 = .ok (.aload_n 0, 1) := by decide +kernel
theorem dX9_would_63 : decode cX9_would 63 = .ok (.iconst 5, 1) := by decide +kernel
theorem dX9_would_64 : decode cX9_would 64 = .ok (.invokevirtual 80, 3) := by decide +kernel
theorem dX9_would_67 : decode cX9_would 67 = .ok (.ireturn, 1) := by decide +kernel
theorem dX9_would_68 : decode cX9_would 68 = .ok (.aload 4, 2) := by decide +kernel
theorem dX9_would_70 : decode cX9_would 70 = .ok (.getfield 127, 3) := by decide +kernel
theorem dX9_would_73 : decode cX9_would 73 = .ok (.iconst 0, 1) := by decide +kernel
theorem dX9_would_74 : decode cX9_would 74 = .ok (.aload_n 0, 1) := by decide +kernel
theorem dX9_would_75 : decode cX9_would 75 = .ok (.getfield 61, 3) := by decide +kernel
theorem dX9_would_78 : decode cX9_would 78 = .ok (.iconst 0, 1) := by decide +kernel
theorem dX9_would_79 : decode cX9_would 79 = .ok (.iload 5, 2) := by decide +kernel
theorem dX9_would_81 : decode cX9_would 81 = .ok (.invokestatic 255, 3) := by decide +kernel
theorem dX9_would_84 : decode cX9_would 84 = .ok (.aload_n 0, 1) := by decide +kernel
theorem dX9_would_85 : decode cX9_would 85 = .ok (.getfield 61, 3) := by decide +kernel
theorem dX9_would_88 : decode cX9_would 88 = .ok (.iload_n 2, 1) := by decide +kernel
theorem dX9_would_89 : decode cX9_would 89 = .ok (.iload_n 3, 1) := by decide +kernel
theorem dX9_would_90 : decode cX9_would 90 = .ok (.iastore, 1) := by decide +kernel
theorem dX9_would_91 : decode cX9_would 91 = .ok (.aload_n 0, 1) := by decide +kernel
theorem dX9_would_92 : decode cX9_would 92 = .ok (.aload_n 0, 1) := by decide +kernel
theorem dX9_would_93 : decode cX9_would 93 = .ok (.getfield 61, 3) := by decide +kernel
theorem dX9_would_96 : decode cX9_would 96 = .ok (.iload 5, 2) := by decide +kernel
theorem dX9_would_98 : decode cX9_would 98 = .ok (.aload_n 0, 1) := by decide +kernel
theorem dX9_would_99 : decode cX9_would 99 = .ok (.getfield 64, 3) := by decide +kernel
theorem dX9_would_102 : decode cX9_would 102 = .ok (.invokestatic 281, 3) := by decide +kernel
theorem dX9_would_105 : decode cX9_would 105 = .ok (.aload 4, 2) := by decide +kernel
theorem dX9_would_107 : decode cX9_would 107 = .ok (.getfield 130, 3) := by decide +kernel
theorem dX9_would_110 : decode cX9_would 110 = .ok (.arraylength, 1) := by decide +kernel
theorem dX9_would_111 : decode cX9_would 111 = .ok (.isub, 1) := by decide +kernel
theorem dX9_would_112 : decode cX9_would 112 = .ok (.invokevirtual 100, 3) := by decide +kernel
theorem dX9_would_115 : decode cX9_would 115 = .ok (.ireturn, 1) := by decide +kernel
def mwX9_would : List Cond := .code yX9_would cX9_would 6 (some .int) :: (([.methodLink RX9 239 yX9_isLetter, .static yX9_isLetter, .initialized RX9, .methodLink RX9 80 yX9_refuse, .instanceMethod yX9_refuse, .selects RX9 yX9_refuse yX9_refuse, .fieldLink RX9 29 "PatternGate" "book" "LPatternGate$Book;", .methodLink RX9 123 yX0_docAt, .instanceMethod yX0_docAt, .selects RX0 yX0_docAt yX0_docAt, .initialized RX0, .fieldLink RX9 127 "PatternGate$Doc" "letters" "[I", .fieldLink RX9 61 "PatternGate" "paper" "[I", .methodLink RX9 255 arraycopyName, .native arraycopyName, .static arraycopyName, .initialized "java/lang/System", .fieldLink RX9 64 "PatternGate" "sorted" "[I", .methodLink RX9 281 yX2_sortTriples, .static yX2_sortTriples, .initialized RX2, .fieldLink RX9 130 "PatternGate$Doc" "triples" "[I", .methodLink RX9 100 yX9_answer, .instanceMethod yX9_answer, .selects RX9 yX9_answer yX9_answer] : List Cond) ++ (wsX90 ++ (wsX20 ++ (mwX9_isLetter ++ (mwX9_refuse ++ (mwX0_docAt ++ (mwX2_sortTriples ++ (mwX9_answer))))))))
theorem fin_X9_would_X2 : ∀ w ∈ wsX20, w ∈ mwX9_would := fun w h => List.mem_cons_of_mem _ (List.mem_append_right _ (List.mem_append_right _ (List.mem_append_left _ h)))
theorem fin_X9_would_X9 : ∀ w ∈ wsX90, w ∈ mwX9_would := fun w h => List.mem_cons_of_mem _ (List.mem_append_right _ (List.mem_append_left _ h))
set_option maxRecDepth 100000 in
theorem gd_mwX9_isLetter : mwX9_isLetter.all goodWord = true := by decide +kernel
set_option maxRecDepth 20000 in
theorem mg_X9_would_X9_isLetter_239 : GoodIn mwX9_would (va_wsS RX9 239 yX9_isLetter mwX9_isLetter) := gi_app (A := [.methodLink RX9 239 yX9_isLetter, .static yX9_isLetter, .initialized RX9]) (goodIn_r _ [1, 2, 3] (by decide +kernel) (by decide +kernel)) (gi_sub gd_mwX9_isLetter (fun w h => List.mem_cons_of_mem _ (List.mem_append_right _ (List.mem_append_right _ (List.mem_append_right _ (List.mem_append_left _ h))))))
set_option maxRecDepth 20000 in
theorem mg_X9_would_X9_refuse_80 : GoodIn mwX9_would (wsV RX9 80 RX9 yX9_refuse mwX9_refuse) := gi_app (A := [.methodLink RX9 80 yX9_refuse, .instanceMethod yX9_refuse, .selects RX9 yX9_refuse yX9_refuse, .initialized RX9]) (goodIn_r _ [4, 5, 6, 3] (by decide +kernel) (by decide +kernel)) (gi_sub gd_mwX9_refuse (fun w h => List.mem_cons_of_mem _ (List.mem_append_right _ (List.mem_append_right _ (List.mem_append_right _ (List.mem_append_right _ (List.mem_append_left _ h)))))))
set_option maxRecDepth 20000 in
theorem mg_X9_would_X0_docAt_123 : GoodIn mwX9_would (wsV RX9 123 RX0 yX0_docAt mwX0_docAt) := gi_app (A := [.methodLink RX9 123 yX0_docAt, .instanceMethod yX0_docAt, .selects RX0 yX0_docAt yX0_docAt, .initialized RX0]) (goodIn_r _ [8, 9, 10, 11] (by decide +kernel) (by decide +kernel)) (gi_sub gd_mwX0_docAt (fun w h => List.mem_cons_of_mem _ (List.mem_append_right _ (List.mem_append_right _ (List.mem_append_right _ (List.mem_append_right _ (List.mem_append_right _ (List.mem_append_left _ h))))))))
set_option maxRecDepth 20000 in
theorem mg_X9_would_X2_sortTriples_281 : GoodIn mwX9_would (va_wsS RX9 281 yX2_sortTriples mwX2_sortTriples) := gi_app (A := [.methodLink RX9 281 yX2_sortTriples, .static yX2_sortTriples, .initialized RX2]) (goodIn_r _ [19, 20, 21] (by decide +kernel) (by decide +kernel)) (gi_sub gd_mwX2_sortTriples (fun w h => List.mem_cons_of_mem _ (List.mem_append_right _ (List.mem_append_right _ (List.mem_append_right _ (List.mem_append_right _ (List.mem_append_right _ (List.mem_append_right _ (List.mem_append_left _ h)))))))))
set_option maxRecDepth 20000 in
theorem mg_X9_would_X9_answer_100 : GoodIn mwX9_would (wsV RX9 100 RX9 yX9_answer mwX9_answer) := gi_app (A := [.methodLink RX9 100 yX9_answer, .instanceMethod yX9_answer, .selects RX9 yX9_answer yX9_answer, .initialized RX9]) (goodIn_r _ [23, 24, 25, 3] (by decide +kernel) (by decide +kernel)) (gi_sub gd_mwX9_answer (fun w h => List.mem_cons_of_mem _ (List.mem_append_right _ (List.mem_append_right _ (List.mem_append_right _ (List.mem_append_right _ (List.mem_append_right _ (List.mem_append_right _ (List.mem_append_right _ (h))))))))))
set_option maxHeartbeats 4000000 in
set_option maxRecDepth 100000 in
/-- gate: would -/
theorem s_g_would (l : Launch) (dC : Nat → ClassId) (dI : Nat → Nat → Nat) (W9 : va_W) (T9 : List (ClassId × FieldType)) (B9 : Nat → Prop) (gt tp bk mb mu rd cm wk pp so ty : Nat) (st9 td fk fpl un mk : Int32) (cpp cso : ClassId) (fpp fso : Nat → Int32) (sz : Nat) (i1 i2 i3 : Int32) (hB9 : gB W9 T9 B9) (hbk : B9 bk) : Met l yX9_would mwX9_would ({ frames := 4, cells := 0, slots := 0, locals := 240 }) (va_Pc [.ref gt, .int i1, .int i2, .int i3] (fun U => U.heap.size = sz ∧ va_P (dC, dI) vwCl ([(gt, .inr (9, [.int st9, .ref tp, .int td, .int fk, .int fpl, .ref bk, .int un, .ref mb, .ref mu, .int mk, .ref rd, .ref cm, .ref wk, .ref pp, .ref so, .ref ty])), (pp, .inl (cpp, 60, .inl fpp)), (so, .inl (cso, 60, .inl fso))]) U.heap ∧ va_K (dC, dI) vwCl ([(cpp, .int), (cso, .int)]) U ∧ va_D (fun _ => True) ([(gt, .inr (9, [.int st9, .ref tp, .int td, .int fk, .int fpl, .ref bk, .int un, .ref mb, .ref mu, .int mk, .ref rd, .ref cm, .ref wk, .ref pp, .ref so, .ref ty])), (pp, .inl (cpp, 60, .inl fpp)), (so, .inl (cso, 60, .inl fso))]) ∧ va_P (dC, dI) vwCl W9 U.heap ∧ va_K (dC, dI) vwCl T9 U ∧ (∀ q ∈ W9, ¬ va_A ([(gt, .inr (9, [.int st9, .ref tp, .int td, .int fk, .int fpl, .ref bk, .int un, .ref mb, .ref mu, .int mk, .ref rd, .ref cm, .ref wk, .ref pp, .ref so, .ref ty])), (pp, .inl (cpp, 60, .inl fpp)), (so, .inl (cso, 60, .inl fso))]) sz q.1))) (va_Qi (fun (_ : Int32) (_ : Unit) => True) (fun _ t => ∃ (y0 : Int32) (f8 f9 : Nat → Int32), va_P (dC, dI) vwCl [(gt, .inr (9, [.int y0, .ref tp, .int td, .int fk, .int fpl, .ref bk, .int un, .ref mb, .ref mu, .int mk, .ref rd, .ref cm, .ref wk, .ref pp, .ref so, .ref ty])), (pp, .inl (cpp, 60, .inl f8)), (so, .inl (cso, 60, .inl f9))] t.heap ∧ va_K (dC, dI) vwCl [(cpp, .int), (cso, .int)] t ∧ va_D (va_A ([(gt, .inr (9, [.int st9, .ref tp, .int td, .int fk, .int fpl, .ref bk, .int un, .ref mb, .ref mu, .int mk, .ref rd, .ref cm, .ref wk, .ref pp, .ref so, .ref ty])), (pp, .inl (cpp, 60, .inl fpp)), (so, .inl (cso, 60, .inl fso))]) sz) [(gt, .inr (9, [.int y0, .ref tp, .int td, .int fk, .int fpl, .ref bk, .int un, .ref mb, .ref mu, .int mk, .ref rd, .ref cm, .ref wk, .ref pp, .ref so, .ref ty])), (pp, .inl (cpp, 60, .inl f8)), (so, .inl (cso, 60, .inl f9))]) (va_A ([(gt, .inr (9, [.int st9, .ref tp, .int td, .int fk, .int fpl, .ref bk, .int un, .ref mb, .ref mu, .int mk, .ref rd, .ref cm, .ref wk, .ref pp, .ref so, .ref ty])), (pp, .inl (cpp, 60, .inl fpp)), (so, .inl (cso, 60, .inl fso))]) sz)) 0 0 (va_A ([(gt, .inr (9, [.int st9, .ref tp, .int td, .int fk, .int fpl, .ref bk, .int un, .ref mb, .ref mu, .int mk, .ref rd, .ref cm, .ref wk, .ref pp, .ref so, .ref ty])), (pp, .inl (cpp, 60, .inl fpp)), (so, .inl (cso, 60, .inl fso))]) sz) := by
  refine Met.ofW (cc := cX9_would) (maxL := 6) (ret := (some .int)) (by decide +kernel) rfl ?_
  intro p e s m args below meth c s₁ B hml hv
  obtain ⟨rfl, hsz, hP, hK, hD0, hQ0, hKQ, hQA⟩ := hv
  have hx := B.exec
  have hb := B.bytes
  have hr := B.returns
  have hts := atoms_spec (ws := mwX9_would) B.pre
  have hown : s.vm.findClass RX9 = some m.cls := findClass_of_methodNamed B.named
  have hlocks := B.notSynchronized
  subst hsz
  have hD := hD0.self (sz := s.heap.size)
  generalize hAe : va_A ([(gt, .inr (9, [.int st9, .ref tp, .int td, .int fk, .int fpl, .ref bk, .int un, .ref mb, .ref mu, .int mk, .ref rd, .ref cm, .ref wk, .ref pp, .ref so, .ref ty])), (pp, .inl (cpp, 60, .inl fpp)), (so, .inl (cso, 60, .inl fso))]) s.heap.size = A at hD hQA ⊢
  have hA : ∀ q : Nat, s.heap.size ≤ q → A q := fun q h => by rw [← hAe]; exact Or.inr h
  have hP : va_P (dC, dI) vwCl [(gt, .inr (9, [.int st9, .ref tp, .int td, .int fk, .int fpl, .ref bk, .int un, .ref mb, .ref mu, .int mk, .ref rd, .ref cm, .ref wk, .ref pp, .ref so, .ref ty])), (pp, .inl (cpp, 60, .inl fpp)), (so, .inl (cso, 60, .inl fso))] s.heap := hP
  have hD : va_D A [(gt, .inr (9, [.int st9, .ref tp, .int td, .int fk, .int fpl, .ref bk, .int un, .ref mb, .ref mu, .int mk, .ref rd, .ref cm, .ref wk, .ref pp, .ref so, .ref ty])), (pp, .inl (cpp, 60, .inl fpp)), (so, .inl (cso, 60, .inl fso))] := hD
  have hK : va_K (dC, dI) vwCl [(cpp, .int), (cso, .int)] s := hK
  generalize hH : s.heap = H at hP ⊢
  have hS : va_S A s.heap H [] := by rw [← hH]; exact va_S.rf
  have hQ := q_at hQ0 hQA hS
  have hl := lv_entry ([.ref gt, .int i1, .int i2, .int i3]) (n := 6) (Nat.le_of_ble_eq_true rfl)
  rw [lg_entry_eq]
  generalize (lg_sl ([.ref gt, .int i1, .int i2, .int i3]) ++ List.replicate (6 - (lg_sl ([.ref gt, .int i1, .int i2, .int i3])).length) Slot.unset).toArray = ls at hl ⊢
  have hl : lv_has ls 6 [(0, .ref gt), (1, .int i1), (2, .int i2), (3, .int i3)] := hl
  have rg_i1 := i_rng i1
  have rg_i2 := i_rng i2
  have rg_i3 := i_rng i3
  obtain ⟨ear, hB3, hear⟩ := hB9 bk hbk
  have hB0 := hB3.poB
  obtain ⟨ds, ps, nd, np, fd, fp, cD, cP, m1, m2, m3, m4, m5, hnd, hnp, hds, hps⟩ := id hB3
  obtain ⟨k_1, hk_1⟩ := List.getElem?_of_mem m1
  obtain ⟨k_2, hk_2⟩ := List.getElem?_of_mem m2
  obtain ⟨j_3, hj_3⟩ := List.getElem?_of_mem m3
  obtain ⟨k_4, hk_4⟩ := List.getElem?_of_mem m4
  obtain ⟨j_5, hj_5⟩ := List.getElem?_of_mem m5
  have r_un := i_rng un
  have r_mk := i_rng mk
  have r_td := i_rng td
  refine lv_iload_n hx hb dX9_would_0 rfl (lv_at hl 3 rfl) ?_
  refine vp_callSi (W.runS (As := [.int i3]) (rest := []) ⟨hx, hb, hml, hown, hts⟩ (s_isLetter l dC dI i3) (va_cwS 1 hts mg_X9_would_X9_isLetter_239 rfl rfl rfl (by decide +kernel) ⟨Nat.le_of_ble_eq_true rfl, Nat.le_of_ble_eq_true rfl⟩) ⟨fun a U g mk q => ⟨q.1, trivial⟩, fun U hU hW => ⟨rfl, trivial⟩⟩ rfl rfl hl.1 rfl (lv_room (Nat.le_of_ble_eq_true rfl)) dX9_would_1 ⟨Nat.le_of_ble_eq_true rfl, Nat.le_of_ble_eq_true rfl⟩) (fun r_7 hw => ?_)
  refine lv_if_eq (tgt := 11) hx hb dX9_would_4 (by decide) (fun k_8 => ?_) (fun k_8 => ?_)
  · have tk_8 := c_eq (a := r_7.toInt) (b := 0) rfl (by decide) k_8
    refine lv_aload_n hx hb dX9_would_11 rfl (lv_at hl 0 rfl) ?_
    refine lv_iconst (v := 1) hx hb dX9_would_12 (by decide) ?_
    have hPc := hP.sub (ws' := [(gt, .inr (9, [.int st9, .ref tp, .int td, .int fk, .int fpl, .ref bk, .int un, .ref mb, .ref mu, .int mk, .ref rd, .ref cm, .ref wk, .ref pp, .ref so, .ref ty]))]) [0] rfl
    have hKc := hK.sub (tys' := []) [] rfl
    have hDc := hD.sub (ws' := [(gt, .inr (9, [.int st9, .ref tp, .int td, .int fk, .int fpl, .ref bk, .int un, .ref mb, .ref mu, .int mk, .ref rd, .ref cm, .ref wk, .ref pp, .ref so, .ref ty]))]) [0] (by decide) rfl
    have hFc := va_free (wc := [(gt, .inr (9, [.int st9, .ref tp, .int td, .int fk, .int fpl, .ref bk, .int un, .ref mb, .ref mu, .int mk, .ref rd, .ref cm, .ref wk, .ref pp, .ref so, .ref ty]))]) hD hS hA [0] rfl
    refine va_calli (va_runV (As := [.int 1]) (rest := []) ⟨hx, hb, hml, hown, hts⟩ (s_refuse l dC dI gt tp bk mb mu rd cm wk pp so ty st9 td fk fpl un mk H.size 1) (cwV 1 hts mg_X9_would_X9_refuse_80 rfl rfl rfl (by decide +kernel) ⟨Nat.le_of_ble_eq_true rfl, Nat.le_of_ble_eq_true rfl⟩) ⟨fun a U g mk q => by obtain ⟨q0, q1, qP, qK, qD⟩ := q; exact ⟨q0, q1, qP, va_K.moved (u := U) (U := U.calling g mk a) (Vm.Alike.refl U.vm) qK, qD⟩, va_recv hKc hPc (ci := 9) (q0 := 0) rfl rfl, fun U hU hW => ⟨rfl, by rw [hU], by rw [hU]; exact hPc, va_K.moved hW.alike hKc, hDc.weaken (fun _ _ _ _ => trivial)⟩⟩ rfl rfl hl.1 rfl (lv_room (Nat.le_of_ble_eq_true rfl)) dX9_would_13 ⟨Nat.le_of_ble_eq_true rfl, Nat.le_of_ble_eq_true rfl⟩) hS (fun q _ h => hFc q h) hFc (fun r_10 u t H1 locs ht hvm hw hB hz1 hk1 hS => ?_)
    obtain ⟨hP1, hK1, hD1⟩ := hB
    rw [ht] at hP1
    have hr_10 := hw
    obtain ⟨hP, hD⟩ := va_join (wr := [(pp, .inl (cpp, 60, .inl fpp)), (so, .inl (cso, 60, .inl fso))]) (w1 := [(gt, .inr (9, [.int 1, .ref tp, .int td, .int fk, .int fpl, .ref bk, .int un, .ref mb, .ref mu, .int mk, .ref rd, .ref cm, .ref wk, .ref pp, .ref so, .ref ty]))]) hP hD [0] [1, 2] rfl rfl (by decide) (by decide) hk1 hFc hP1 hD1
    generalize H1 = H at hP hS ⊢
    have hP : va_P (dC, dI) vwCl [(pp, .inl (cpp, 60, .inl fpp)), (so, .inl (cso, 60, .inl fso)), (gt, .inr (9, [.int 1, .ref tp, .int td, .int fk, .int fpl, .ref bk, .int un, .ref mb, .ref mu, .int mk, .ref rd, .ref cm, .ref wk, .ref pp, .ref so, .ref ty]))] H := hP
    have hD : va_D A [(pp, .inl (cpp, 60, .inl fpp)), (so, .inl (cso, 60, .inl fso)), (gt, .inr (9, [.int 1, .ref tp, .int td, .int fk, .int fpl, .ref bk, .int un, .ref mb, .ref mu, .int mk, .ref rd, .ref cm, .ref wk, .ref pp, .ref so, .ref ty]))] := hD
    have hQ := q_at hQ0 hQA hS
    have hP9 := hP.sub (ws' := [(gt, .inr (9, [.int 1, .ref tp, .int td, .int fk, .int fpl, .ref bk, .int un, .ref mb, .ref mu, .int mk, .ref rd, .ref cm, .ref wk, .ref pp, .ref so, .ref ty])), (pp, .inl (cpp, 60, .inl fpp)), (so, .inl (cso, 60, .inl fso))]) [2, 0, 1] rfl
    have hD9 := hD.sub (ws' := [(gt, .inr (9, [.int 1, .ref tp, .int td, .int fk, .int fpl, .ref bk, .int un, .ref mb, .ref mu, .int mk, .ref rd, .ref cm, .ref wk, .ref pp, .ref so, .ref ty])), (pp, .inl (cpp, 60, .inl fpp)), (so, .inl (cso, 60, .inl fso))]) [2, 0, 1] (by decide) rfl
    have hK9 := hK.sub (tys' := [(cpp, .int), (cso, .int)]) [0, 1] rfl
    exact W.iret hx hb hr (fun t ht hW => ⟨⟨_, (), rfl, trivial, 1, fpp, fso, by rw [ht]; exact hP9, va_K.moved hW.alike hK9, hD9⟩, hS.F ht⟩) hS.2.2 dX9_would_16
  · have tk_8 := c_ne (a := r_7.toInt) (b := 0) rfl (by decide) k_8
    refine lv_iload_n hx hb dX9_would_7 rfl (lv_at hl 2 rfl) ?_
    refine lv_if_ge (tgt := 17) hx hb dX9_would_8 (by decide) (fun k_11 => ?_) (fun k_11 => ?_)
    · have tk_11 := c_ge (a := i2.toInt) (b := 0) rfl (by decide) k_11
      refine lv_aload_n hx hb dX9_would_17 rfl (lv_at hl 0 rfl) ?_
      refine va_get (D := (dC, dI)) (ci := 9) (v := .ref bk) (C := RX9) (T := TX9) (N := 16) hx hb hts fin_X9_would_X9 hown hK hP 0 rfl rfl 5 (by decide) (hts (.fieldLink RX9 29 "PatternGate" "book" "LPatternGate$Book;") (List.mem_of_getElem? (i := 7) (by decide +kernel))) (fun _ h9 => h9) rfl dX9_would_18 ?_
      refine lv_iload_n hx hb dX9_would_21 rfl (lv_at hl 1 rfl) ?_
      have hPc := hQ
      have hKc := hKQ
      refine va_csq (W.runV (As := [.int i1]) (rest := []) ⟨hx, hb, hml, hown, hts⟩ (s_docAt l dC dI W9 T9 bk i1 hB0) (cwV 1 hts mg_X9_would_X0_docAt_123 rfl rfl rfl (by decide +kernel) ⟨Nat.le_of_ble_eq_true rfl, Nat.le_of_ble_eq_true rfl⟩) ⟨fun a U g mk q => by obtain ⟨q0, qP, qK⟩ := q; exact ⟨q0, qP, va_K.moved (u := U) (U := U.calling g mk a) (Vm.Alike.refl U.vm) qK⟩, va_recv hKc hPc (ci := 0) (q0 := k_1) rfl hk_1, fun U hU hW => ⟨rfl, by rw [hU]; exact hPc, va_K.moved hW.alike hKc⟩⟩ rfl rfl hl.1 rfl (lv_room (Nat.le_of_ble_eq_true rfl)) dX9_would_22 ⟨Nat.le_of_ble_eq_true rfl, Nat.le_of_ble_eq_true rfl⟩) (fun r_13 hw => ?_)
      rcases hw with rfl | ⟨d_14, rfl, hd_14⟩
      · refine W.eq (g2 := F0 m 25 ls [.null]) rfl ?_
        refine lv_astoreN (lv' := [(4, .null), (0, .ref gt), (1, .int i1), (2, .int i2), (3, .int i3)]) hx hb dX9_would_25 hl (by decide) rfl (fun ls hl => ?_)
        refine lv_aloadN hx hb dX9_would_27 (lv_at hl 0 rfl) ?_
        refine lv_ifnonnullN hx hb dX9_would_29 ?_
        refine lv_aload_n hx hb dX9_would_32 rfl (lv_at hl 1 rfl) ?_
        refine lv_iconst (v := 2) hx hb dX9_would_33 (by decide) ?_
        have hPc := hP.sub (ws' := [(gt, .inr (9, [.int st9, .ref tp, .int td, .int fk, .int fpl, .ref bk, .int un, .ref mb, .ref mu, .int mk, .ref rd, .ref cm, .ref wk, .ref pp, .ref so, .ref ty]))]) [0] rfl
        have hKc := hK.sub (tys' := []) [] rfl
        have hDc := hD.sub (ws' := [(gt, .inr (9, [.int st9, .ref tp, .int td, .int fk, .int fpl, .ref bk, .int un, .ref mb, .ref mu, .int mk, .ref rd, .ref cm, .ref wk, .ref pp, .ref so, .ref ty]))]) [0] (by decide) rfl
        have hFc := va_free (wc := [(gt, .inr (9, [.int st9, .ref tp, .int td, .int fk, .int fpl, .ref bk, .int un, .ref mb, .ref mu, .int mk, .ref rd, .ref cm, .ref wk, .ref pp, .ref so, .ref ty]))]) hD hS hA [0] rfl
        refine va_calli (va_runV (As := [.int 2]) (rest := []) ⟨hx, hb, hml, hown, hts⟩ (s_refuse l dC dI gt tp bk mb mu rd cm wk pp so ty st9 td fk fpl un mk H.size 2) (cwV 1 hts mg_X9_would_X9_refuse_80 rfl rfl rfl (by decide +kernel) ⟨Nat.le_of_ble_eq_true rfl, Nat.le_of_ble_eq_true rfl⟩) ⟨fun a U g mk q => by obtain ⟨q0, q1, qP, qK, qD⟩ := q; exact ⟨q0, q1, qP, va_K.moved (u := U) (U := U.calling g mk a) (Vm.Alike.refl U.vm) qK, qD⟩, va_recv hKc hPc (ci := 9) (q0 := 0) rfl rfl, fun U hU hW => ⟨rfl, by rw [hU], by rw [hU]; exact hPc, va_K.moved hW.alike hKc, hDc.weaken (fun _ _ _ _ => trivial)⟩⟩ rfl rfl hl.1 rfl (lv_room (Nat.le_of_ble_eq_true rfl)) dX9_would_34 ⟨Nat.le_of_ble_eq_true rfl, Nat.le_of_ble_eq_true rfl⟩) hS (fun q _ h => hFc q h) hFc (fun r_16 u t H1 locs ht hvm hw hB hz1 hk1 hS => ?_)
        obtain ⟨hP1, hK1, hD1⟩ := hB
        rw [ht] at hP1
        have hr_16 := hw
        obtain ⟨hP, hD⟩ := va_join (wr := [(pp, .inl (cpp, 60, .inl fpp)), (so, .inl (cso, 60, .inl fso))]) (w1 := [(gt, .inr (9, [.int 2, .ref tp, .int td, .int fk, .int fpl, .ref bk, .int un, .ref mb, .ref mu, .int mk, .ref rd, .ref cm, .ref wk, .ref pp, .ref so, .ref ty]))]) hP hD [0] [1, 2] rfl rfl (by decide) (by decide) hk1 hFc hP1 hD1
        generalize H1 = H at hP hS ⊢
        have hP : va_P (dC, dI) vwCl [(pp, .inl (cpp, 60, .inl fpp)), (so, .inl (cso, 60, .inl fso)), (gt, .inr (9, [.int 2, .ref tp, .int td, .int fk, .int fpl, .ref bk, .int un, .ref mb, .ref mu, .int mk, .ref rd, .ref cm, .ref wk, .ref pp, .ref so, .ref ty]))] H := hP
        have hD : va_D A [(pp, .inl (cpp, 60, .inl fpp)), (so, .inl (cso, 60, .inl fso)), (gt, .inr (9, [.int 2, .ref tp, .int td, .int fk, .int fpl, .ref bk, .int un, .ref mb, .ref mu, .int mk, .ref rd, .ref cm, .ref wk, .ref pp, .ref so, .ref ty]))] := hD
        have hQ := q_at hQ0 hQA hS
        have hP9 := hP.sub (ws' := [(gt, .inr (9, [.int 2, .ref tp, .int td, .int fk, .int fpl, .ref bk, .int un, .ref mb, .ref mu, .int mk, .ref rd, .ref cm, .ref wk, .ref pp, .ref so, .ref ty])), (pp, .inl (cpp, 60, .inl fpp)), (so, .inl (cso, 60, .inl fso))]) [2, 0, 1] rfl
        have hD9 := hD.sub (ws' := [(gt, .inr (9, [.int 2, .ref tp, .int td, .int fk, .int fpl, .ref bk, .int un, .ref mb, .ref mu, .int mk, .ref rd, .ref cm, .ref wk, .ref pp, .ref so, .ref ty])), (pp, .inl (cpp, 60, .inl fpp)), (so, .inl (cso, 60, .inl fso))]) [2, 0, 1] (by decide) rfl
        have hK9 := hK.sub (tys' := [(cpp, .int), (cso, .int)]) [0, 1] rfl
        exact W.iret hx hb hr (fun t ht hW => ⟨⟨_, (), rfl, trivial, 2, fpp, fso, by rw [ht]; exact hP9, va_K.moved hW.alike hK9, hD9⟩, hS.F ht⟩) hS.2.2 dX9_would_37
      · refine W.eq (g2 := F0 m 25 ls [.ref d_14]) rfl ?_
        have hd_14D := hd_14
        obtain ⟨la_17, ta_18, m_19, n_20, fl_21, ft_22, cI_23, cJ_24, m_25, ⟨m_26, m_27⟩, ⟨m_28, m_29⟩, m_30, m_31⟩ := hd_14
        obtain ⟨k_32, hk_32⟩ := List.getElem?_of_mem m_25
        obtain ⟨k_33, hk_33⟩ := List.getElem?_of_mem m_26
        obtain ⟨j_34, hj_34⟩ := List.getElem?_of_mem m_27
        obtain ⟨k_35, hk_35⟩ := List.getElem?_of_mem m_28
        obtain ⟨j_36, hj_36⟩ := List.getElem?_of_mem m_29
        refine lv_astore (lv' := [(4, .ref d_14), (0, .ref gt), (1, .int i1), (2, .int i2), (3, .int i3)]) hx hb dX9_would_25 hl (by decide) rfl (fun ls hl => ?_)
        refine lv_aload hx hb dX9_would_27 (lv_at hl 0 rfl) ?_
        refine lv_ifnonnull (tgt := 38) hx hb dX9_would_29 (by decide) ?_
        refine lv_aload hx hb dX9_would_38 (lv_at hl 0 rfl) ?_
        refine va_get (D := (dC, dI)) (ci := 2) (v := .ref la_17) (C := RX2) (T := TX2) (N := 2) hx hb hts fin_X9_would_X2 hown hKQ hQ k_32 hk_32 rfl 0 (by decide) (hts (.fieldLink RX9 127 "PatternGate$Doc" "letters" "[I") (List.mem_of_getElem? (i := 12) (by decide +kernel))) (fun _ h9 => h9) rfl dX9_would_40 ?_
        refine va_alen hx hb hKQ hQ k_33 j_34 hk_33 hj_34 rfl dX9_would_43 ?_
        refine lv_topi (fun y_37 ey_37 => ?_)
        have ty_37 : y_37.toInt = (m_19 : Int) := i_len ey_37 (by omega)
        refine lv_istore (lv' := [(5, .int y_37), (4, .ref d_14), (0, .ref gt), (1, .int i1), (2, .int i2), (3, .int i3)]) hx hb dX9_would_44 hl (by decide) rfl (fun ls hl => ?_)
        refine lv_iload_n hx hb dX9_would_46 rfl (lv_at hl 4 rfl) ?_
        refine lv_iload hx hb dX9_would_47 (lv_at hl 0 rfl) ?_
        refine lv_icmp_ge (tgt := 62) hx hb dX9_would_49 (by decide) (fun k_38 => ?_) (fun k_38 => ?_)
        · have tk_38 := c_ge (a := i2.toInt) (b := y_37.toInt) rfl rfl k_38
          refine lv_aload_n hx hb dX9_would_62 rfl (lv_at hl 2 rfl) ?_
          refine lv_iconst (v := 5) hx hb dX9_would_63 (by decide) ?_
          have hPc := hP.sub (ws' := [(gt, .inr (9, [.int st9, .ref tp, .int td, .int fk, .int fpl, .ref bk, .int un, .ref mb, .ref mu, .int mk, .ref rd, .ref cm, .ref wk, .ref pp, .ref so, .ref ty]))]) [0] rfl
          have hKc := hK.sub (tys' := []) [] rfl
          have hDc := hD.sub (ws' := [(gt, .inr (9, [.int st9, .ref tp, .int td, .int fk, .int fpl, .ref bk, .int un, .ref mb, .ref mu, .int mk, .ref rd, .ref cm, .ref wk, .ref pp, .ref so, .ref ty]))]) [0] (by decide) rfl
          have hFc := va_free (wc := [(gt, .inr (9, [.int st9, .ref tp, .int td, .int fk, .int fpl, .ref bk, .int un, .ref mb, .ref mu, .int mk, .ref rd, .ref cm, .ref wk, .ref pp, .ref so, .ref ty]))]) hD hS hA [0] rfl
          refine va_calli (va_runV (As := [.int 5]) (rest := []) ⟨hx, hb, hml, hown, hts⟩ (s_refuse l dC dI gt tp bk mb mu rd cm wk pp so ty st9 td fk fpl un mk H.size 5) (cwV 1 hts mg_X9_would_X9_refuse_80 rfl rfl rfl (by decide +kernel) ⟨Nat.le_of_ble_eq_true rfl, Nat.le_of_ble_eq_true rfl⟩) ⟨fun a U g mk q => by obtain ⟨q0, q1, qP, qK, qD⟩ := q; exact ⟨q0, q1, qP, va_K.moved (u := U) (U := U.calling g mk a) (Vm.Alike.refl U.vm) qK, qD⟩, va_recv hKc hPc (ci := 9) (q0 := 0) rfl rfl, fun U hU hW => ⟨rfl, by rw [hU], by rw [hU]; exact hPc, va_K.moved hW.alike hKc, hDc.weaken (fun _ _ _ _ => trivial)⟩⟩ rfl rfl hl.1 rfl (lv_room (Nat.le_of_ble_eq_true rfl)) dX9_would_64 ⟨Nat.le_of_ble_eq_true rfl, Nat.le_of_ble_eq_true rfl⟩) hS (fun q _ h => hFc q h) hFc (fun r_40 u t H1 locs ht hvm hw hB hz1 hk1 hS => ?_)
          obtain ⟨hP1, hK1, hD1⟩ := hB
          rw [ht] at hP1
          have hr_40 := hw
          obtain ⟨hP, hD⟩ := va_join (wr := [(pp, .inl (cpp, 60, .inl fpp)), (so, .inl (cso, 60, .inl fso))]) (w1 := [(gt, .inr (9, [.int 5, .ref tp, .int td, .int fk, .int fpl, .ref bk, .int un, .ref mb, .ref mu, .int mk, .ref rd, .ref cm, .ref wk, .ref pp, .ref so, .ref ty]))]) hP hD [0] [1, 2] rfl rfl (by decide) (by decide) hk1 hFc hP1 hD1
          generalize H1 = H at hP hS ⊢
          have hP : va_P (dC, dI) vwCl [(pp, .inl (cpp, 60, .inl fpp)), (so, .inl (cso, 60, .inl fso)), (gt, .inr (9, [.int 5, .ref tp, .int td, .int fk, .int fpl, .ref bk, .int un, .ref mb, .ref mu, .int mk, .ref rd, .ref cm, .ref wk, .ref pp, .ref so, .ref ty]))] H := hP
          have hD : va_D A [(pp, .inl (cpp, 60, .inl fpp)), (so, .inl (cso, 60, .inl fso)), (gt, .inr (9, [.int 5, .ref tp, .int td, .int fk, .int fpl, .ref bk, .int un, .ref mb, .ref mu, .int mk, .ref rd, .ref cm, .ref wk, .ref pp, .ref so, .ref ty]))] := hD
          have hQ := q_at hQ0 hQA hS
          have hP9 := hP.sub (ws' := [(gt, .inr (9, [.int 5, .ref tp, .int td, .int fk, .int fpl, .ref bk, .int un, .ref mb, .ref mu, .int mk, .ref rd, .ref cm, .ref wk, .ref pp, .ref so, .ref ty])), (pp, .inl (cpp, 60, .inl fpp)), (so, .inl (cso, 60, .inl fso))]) [2, 0, 1] rfl
          have hD9 := hD.sub (ws' := [(gt, .inr (9, [.int 5, .ref tp, .int td, .int fk, .int fpl, .ref bk, .int un, .ref mb, .ref mu, .int mk, .ref rd, .ref cm, .ref wk, .ref pp, .ref so, .ref ty])), (pp, .inl (cpp, 60, .inl fpp)), (so, .inl (cso, 60, .inl fso))]) [2, 0, 1] (by decide) rfl
          have hK9 := hK.sub (tys' := [(cpp, .int), (cso, .int)]) [0, 1] rfl
          exact W.iret hx hb hr (fun t ht hW => ⟨⟨_, (), rfl, trivial, 5, fpp, fso, by rw [ht]; exact hP9, va_K.moved hW.alike hK9, hD9⟩, hS.F ht⟩) hS.2.2 dX9_would_67
        · have tk_38 := c_nge (a := i2.toInt) (b := y_37.toInt) rfl rfl k_38
          refine lv_iload hx hb dX9_would_52 (lv_at hl 0 rfl) ?_
          refine lv_aload_n hx hb dX9_would_54 rfl (lv_at hl 2 rfl) ?_
          refine va_get (D := (dC, dI)) (ci := 9) (v := .ref pp) (C := RX9) (T := TX9) (N := 16) hx hb hts fin_X9_would_X9 hown hK hP 0 rfl rfl 13 (by decide) (hts (.fieldLink RX9 61 "PatternGate" "paper" "[I") (List.mem_of_getElem? (i := 13) (by decide +kernel))) (fun _ h9 => h9) rfl dX9_would_55 ?_
          refine va_alen (v := 60) hx hb hK hP 1 0 rfl rfl rfl dX9_would_58 ?_
          refine lv_icmp_le (tgt := 68) hx hb dX9_would_59 (by decide) (fun k_41 => ?_) (fun k_41 => ?_)
          · have tk_41 := c_le (a := y_37.toInt) (b := 60) rfl (by decide) k_41
            refine lv_aload hx hb dX9_would_68 (lv_at hl 1 rfl) ?_
            refine va_get (D := (dC, dI)) (ci := 2) (v := .ref la_17) (C := RX2) (T := TX2) (N := 2) hx hb hts fin_X9_would_X2 hown hKQ hQ k_32 hk_32 rfl 0 (by decide) (hts (.fieldLink RX9 127 "PatternGate$Doc" "letters" "[I") (List.mem_of_getElem? (i := 12) (by decide +kernel))) (fun _ h9 => h9) rfl dX9_would_70 ?_
            refine lv_iconst (v := 0) hx hb dX9_would_73 (by decide) ?_
            refine lv_aload_n hx hb dX9_would_74 rfl (lv_at hl 2 rfl) ?_
            refine va_get (D := (dC, dI)) (ci := 9) (v := .ref pp) (C := RX9) (T := TX9) (N := 16) hx hb hts fin_X9_would_X9 hown hK hP 0 rfl rfl 13 (by decide) (hts (.fieldLink RX9 61 "PatternGate" "paper" "[I") (List.mem_of_getElem? (i := 13) (by decide +kernel))) (fun _ h9 => h9) rfl dX9_would_75 ?_
            refine lv_iconst (v := 0) hx hb dX9_would_78 (by decide) ?_
            refine lv_iload hx hb dX9_would_79 (lv_at hl 0 rfl) ?_
            refine q_copyi hx hb (hml.trans hl.1.symm) hown (hts (.methodLink RX9 255 arraycopyName) (List.mem_of_getElem? (i := 14) (by decide +kernel))) (hts (.native arraycopyName) (List.mem_of_getElem? (i := 15) (by decide +kernel))) (hts (.static arraycopyName) (List.mem_of_getElem? (i := 16) (by decide +kernel))) (hts (.initialized "java/lang/System") (List.mem_of_getElem? (i := 17) (by decide +kernel))) hQ hKQ hK hP hD hS k_33 1 j_34 0 hk_33 rfl hj_34 rfl rfl (i_nn (a := 0) (by decide) (by omega)) (i_nn (a := 0) (by decide) (by omega)) (i_nn (a := y_37.toInt) rfl (by omega)) (cp_le (a := 0) (b := y_37.toInt) (by decide) rfl (by omega) (by omega) (by omega)) (cp_le (a := 0) (b := y_37.toInt) (by decide) rfl (by omega) (by omega) (by omega)) (fun _ _ => rfl) (Nat.le_of_ble_eq_true rfl) (by decide +kernel) dX9_would_81 (fun H locs hP hD hS => ?_)
            generalize hf_f_42 : va_cpy _ _ _ _ _ = f_42 at hP hD
            have hP : va_P (dC, dI) vwCl [(gt, .inr (9, [.int st9, .ref tp, .int td, .int fk, .int fpl, .ref bk, .int un, .ref mb, .ref mu, .int mk, .ref rd, .ref cm, .ref wk, .ref pp, .ref so, .ref ty])), (pp, .inl (cpp, 60, .inl f_42)), (so, .inl (cso, 60, .inl fso))] H := hP
            have hD : va_D A [(gt, .inr (9, [.int st9, .ref tp, .int td, .int fk, .int fpl, .ref bk, .int un, .ref mb, .ref mu, .int mk, .ref rd, .ref cm, .ref wk, .ref pp, .ref so, .ref ty])), (pp, .inl (cpp, 60, .inl f_42)), (so, .inl (cso, 60, .inl fso))] := hD
            have hQ := q_at hQ0 hQA hS
            refine lv_aload_n hx hb dX9_would_84 rfl (lv_at hl 2 rfl) ?_
            refine va_get (D := (dC, dI)) (ci := 9) (v := .ref pp) (C := RX9) (T := TX9) (N := 16) hx hb hts fin_X9_would_X9 hown hK hP 0 rfl rfl 13 (by decide) (hts (.fieldLink RX9 61 "PatternGate" "paper" "[I") (List.mem_of_getElem? (i := 13) (by decide +kernel))) (fun _ h9 => h9) rfl dX9_would_85 ?_
            refine lv_iload_n hx hb dX9_would_88 rfl (lv_at hl 4 rfl) ?_
            refine lv_iload_n hx hb dX9_would_89 rfl (lv_at hl 5 rfl) ?_
            refine va_iast hx hb hK hP hD hS 1 0 rfl rfl (i := i2) (vp_of (a := i2.toInt) rfl (by omega) (by omega)) dX9_would_90 (fun H locs hP hD hS => ?_)
            generalize hf_f_43 : upd f_42 _ _ = f_43 at hP hD
            have hP : va_P (dC, dI) vwCl [(gt, .inr (9, [.int st9, .ref tp, .int td, .int fk, .int fpl, .ref bk, .int un, .ref mb, .ref mu, .int mk, .ref rd, .ref cm, .ref wk, .ref pp, .ref so, .ref ty])), (pp, .inl (cpp, 60, .inl f_43)), (so, .inl (cso, 60, .inl fso))] H := hP
            have hD : va_D A [(gt, .inr (9, [.int st9, .ref tp, .int td, .int fk, .int fpl, .ref bk, .int un, .ref mb, .ref mu, .int mk, .ref rd, .ref cm, .ref wk, .ref pp, .ref so, .ref ty])), (pp, .inl (cpp, 60, .inl f_43)), (so, .inl (cso, 60, .inl fso))] := hD
            have hQ := q_at hQ0 hQA hS
            refine lv_aload_n hx hb dX9_would_91 rfl (lv_at hl 2 rfl) ?_
            refine lv_aload_n hx hb dX9_would_92 rfl (lv_at hl 2 rfl) ?_
            refine va_get (D := (dC, dI)) (ci := 9) (v := .ref pp) (C := RX9) (T := TX9) (N := 16) hx hb hts fin_X9_would_X9 hown hK hP 0 rfl rfl 13 (by decide) (hts (.fieldLink RX9 61 "PatternGate" "paper" "[I") (List.mem_of_getElem? (i := 13) (by decide +kernel))) (fun _ h9 => h9) rfl dX9_would_93 ?_
            refine lv_iload hx hb dX9_would_96 (lv_at hl 0 rfl) ?_
            refine lv_aload_n hx hb dX9_would_98 rfl (lv_at hl 2 rfl) ?_
            refine va_get (D := (dC, dI)) (ci := 9) (v := .ref so) (C := RX9) (T := TX9) (N := 16) hx hb hts fin_X9_would_X9 hown hK hP 0 rfl rfl 14 (by decide) (hts (.fieldLink RX9 64 "PatternGate" "sorted" "[I") (List.mem_of_getElem? (i := 18) (by decide +kernel))) (fun _ h9 => h9) rfl dX9_would_99 ?_
            have hPc := hP.sub (ws' := [(so, .inl (cso, 60, .inl fso)), (pp, .inl (cpp, 60, .inl f_43))]) [2, 1] rfl
            have hKc := hK.sub (tys' := [(cso, .int), (cpp, .int)]) [1, 0] rfl
            have hDc := hD.sub (ws' := [(so, .inl (cso, 60, .inl fso)), (pp, .inl (cpp, 60, .inl f_43))]) [2, 1] (by decide) rfl
            have hFc := va_free (wc := [(so, .inl (cso, 60, .inl fso)), (pp, .inl (cpp, 60, .inl f_43))]) hD hS hA [2, 1] rfl
            refine va_calli (va_runS (As := [.ref pp, .int y_37, .ref so]) (rest := [.ref gt]) ⟨hx, hb, hml, hown, hts⟩ (s_sortTriples l dC dI so pp 60 60 cpp cso fso f_43 H.size y_37 (by omega) (by omega)) (va_cwS 3 hts mg_X9_would_X2_sortTriples_281 rfl rfl rfl (by decide +kernel) ⟨Nat.le_of_ble_eq_true rfl, Nat.le_of_ble_eq_true rfl⟩) ⟨fun a U g mk q => by obtain ⟨q0, q1, qP, qK, qD⟩ := q; exact ⟨q0, q1, qP, va_K.moved (u := U) (U := U.calling g mk a) (Vm.Alike.refl U.vm) qK, qD⟩, fun U hU hW => ⟨rfl, by rw [hU], by rw [hU]; exact hPc, va_K.moved hW.alike hKc, hDc.weaken (fun _ _ _ _ => trivial)⟩⟩ rfl rfl hl.1 rfl (lv_room (Nat.le_of_ble_eq_true rfl)) dX9_would_102 ⟨Nat.le_of_ble_eq_true rfl, Nat.le_of_ble_eq_true rfl⟩) hS (fun q _ h => hFc q h) hFc (fun r_45 u t H1 locs ht hvm hw hB hz1 hk1 hS => ?_)
            obtain ⟨f_46, hP1, hK1, hD1⟩ := hB
            rw [ht] at hP1
            have hr_45 := hw
            obtain ⟨hP, hD⟩ := va_join (wr := [(gt, .inr (9, [.int st9, .ref tp, .int td, .int fk, .int fpl, .ref bk, .int un, .ref mb, .ref mu, .int mk, .ref rd, .ref cm, .ref wk, .ref pp, .ref so, .ref ty]))]) (w1 := [(so, .inl (cso, 60, .inl f_46)), (pp, .inl (cpp, 60, .inl f_43))]) hP hD [2, 1] [0] rfl rfl (by decide) (by decide) hk1 hFc hP1 hD1
            generalize H1 = H at hP hS ⊢
            have hP : va_P (dC, dI) vwCl [(gt, .inr (9, [.int st9, .ref tp, .int td, .int fk, .int fpl, .ref bk, .int un, .ref mb, .ref mu, .int mk, .ref rd, .ref cm, .ref wk, .ref pp, .ref so, .ref ty])), (so, .inl (cso, 60, .inl f_46)), (pp, .inl (cpp, 60, .inl f_43))] H := hP
            have hD : va_D A [(gt, .inr (9, [.int st9, .ref tp, .int td, .int fk, .int fpl, .ref bk, .int un, .ref mb, .ref mu, .int mk, .ref rd, .ref cm, .ref wk, .ref pp, .ref so, .ref ty])), (so, .inl (cso, 60, .inl f_46)), (pp, .inl (cpp, 60, .inl f_43))] := hD
            have hQ := q_at hQ0 hQA hS
            refine lv_aload hx hb dX9_would_105 (lv_at hl 1 rfl) ?_
            refine va_get (D := (dC, dI)) (ci := 2) (v := .ref ta_18) (C := RX2) (T := TX2) (N := 2) hx hb hts fin_X9_would_X2 hown hKQ hQ k_32 hk_32 rfl 1 (by decide) (hts (.fieldLink RX9 130 "PatternGate$Doc" "triples" "[I") (List.mem_of_getElem? (i := 22) (by decide +kernel))) (fun _ h9 => h9) rfl dX9_would_107 ?_
            refine va_alen hx hb hKQ hQ k_35 j_36 hk_35 hj_36 rfl dX9_would_110 ?_
            refine lv_topi (fun y_47 ey_47 => ?_)
            have ty_47 : y_47.toInt = (n_20 : Int) := i_len ey_47 (by omega)
            refine lv_isub hx hb dX9_would_111 ?_
            refine lv_topi (fun y_48 ey_48 => ?_)
            first | have ty_48 := i_sub (a := r_45.toInt) (b := y_47.toInt) rfl rfl ey_48 (by omega) (by omega) | skip
            have hPc := hP.sub (ws' := [(gt, .inr (9, [.int st9, .ref tp, .int td, .int fk, .int fpl, .ref bk, .int un, .ref mb, .ref mu, .int mk, .ref rd, .ref cm, .ref wk, .ref pp, .ref so, .ref ty]))]) [0] rfl
            have hKc := hK.sub (tys' := []) [] rfl
            have hDc := hD.sub (ws' := [(gt, .inr (9, [.int st9, .ref tp, .int td, .int fk, .int fpl, .ref bk, .int un, .ref mb, .ref mu, .int mk, .ref rd, .ref cm, .ref wk, .ref pp, .ref so, .ref ty]))]) [0] (by decide) rfl
            have hFc := va_free (wc := [(gt, .inr (9, [.int st9, .ref tp, .int td, .int fk, .int fpl, .ref bk, .int un, .ref mb, .ref mu, .int mk, .ref rd, .ref cm, .ref wk, .ref pp, .ref so, .ref ty]))]) hD hS hA [0] rfl
            refine va_calli (va_runV (As := [.int y_48]) (rest := []) ⟨hx, hb, hml, hown, hts⟩ (s_answer l dC dI gt tp bk mb mu rd cm wk pp so ty st9 td fk fpl un mk H.size y_48) (cwV 1 hts mg_X9_would_X9_answer_100 rfl rfl rfl (by decide +kernel) ⟨Nat.le_of_ble_eq_true rfl, Nat.le_of_ble_eq_true rfl⟩) ⟨fun a U g mk q => by obtain ⟨q0, q1, qP, qK, qD⟩ := q; exact ⟨q0, q1, qP, va_K.moved (u := U) (U := U.calling g mk a) (Vm.Alike.refl U.vm) qK, qD⟩, va_recv hKc hPc (ci := 9) (q0 := 0) rfl rfl, fun U hU hW => ⟨rfl, by rw [hU], by rw [hU]; exact hPc, va_K.moved hW.alike hKc, hDc.weaken (fun _ _ _ _ => trivial)⟩⟩ rfl rfl hl.1 rfl (lv_room (Nat.le_of_ble_eq_true rfl)) dX9_would_112 ⟨Nat.le_of_ble_eq_true rfl, Nat.le_of_ble_eq_true rfl⟩) hS (fun q _ h => hFc q h) hFc (fun r_50 u t H1 locs ht hvm hw hB hz1 hk1 hS => ?_)
            obtain ⟨hP1, hK1, hD1⟩ := hB
            rw [ht] at hP1
            have hr_50 := hw
            obtain ⟨hP, hD⟩ := va_join (wr := [(so, .inl (cso, 60, .inl f_46)), (pp, .inl (cpp, 60, .inl f_43))]) (w1 := [(gt, .inr (9, [.int 0, .ref tp, .int td, .int fk, .int fpl, .ref bk, .int un, .ref mb, .ref mu, .int mk, .ref rd, .ref cm, .ref wk, .ref pp, .ref so, .ref ty]))]) hP hD [0] [1, 2] rfl rfl (by decide) (by decide) hk1 hFc hP1 hD1
            generalize H1 = H at hP hS ⊢
            have hP : va_P (dC, dI) vwCl [(so, .inl (cso, 60, .inl f_46)), (pp, .inl (cpp, 60, .inl f_43)), (gt, .inr (9, [.int 0, .ref tp, .int td, .int fk, .int fpl, .ref bk, .int un, .ref mb, .ref mu, .int mk, .ref rd, .ref cm, .ref wk, .ref pp, .ref so, .ref ty]))] H := hP
            have hD : va_D A [(so, .inl (cso, 60, .inl f_46)), (pp, .inl (cpp, 60, .inl f_43)), (gt, .inr (9, [.int 0, .ref tp, .int td, .int fk, .int fpl, .ref bk, .int un, .ref mb, .ref mu, .int mk, .ref rd, .ref cm, .ref wk, .ref pp, .ref so, .ref ty]))] := hD
            have hQ := q_at hQ0 hQA hS
            have hP9 := hP.sub (ws' := [(gt, .inr (9, [.int 0, .ref tp, .int td, .int fk, .int fpl, .ref bk, .int un, .ref mb, .ref mu, .int mk, .ref rd, .ref cm, .ref wk, .ref pp, .ref so, .ref ty])), (pp, .inl (cpp, 60, .inl f_43)), (so, .inl (cso, 60, .inl f_46))]) [2, 1, 0] rfl
            have hD9 := hD.sub (ws' := [(gt, .inr (9, [.int 0, .ref tp, .int td, .int fk, .int fpl, .ref bk, .int un, .ref mb, .ref mu, .int mk, .ref rd, .ref cm, .ref wk, .ref pp, .ref so, .ref ty])), (pp, .inl (cpp, 60, .inl f_43)), (so, .inl (cso, 60, .inl f_46))]) [2, 1, 0] (by decide) rfl
            have hK9 := hK.sub (tys' := [(cpp, .int), (cso, .int)]) [0, 1] rfl
            exact W.iret hx hb hr (fun t ht hW => ⟨⟨_, (), rfl, trivial, 0, f_43, f_46, by rw [ht]; exact hP9, va_K.moved hW.alike hK9, hD9⟩, hS.F ht⟩) hS.2.2 dX9_would_115
          · have tk_41 := c_nle (a := y_37.toInt) (b := 60) rfl (by decide) k_41
            refine lv_aload_n hx hb dX9_would_62 rfl (lv_at hl 2 rfl) ?_
            refine lv_iconst (v := 5) hx hb dX9_would_63 (by decide) ?_
            have hPc := hP.sub (ws' := [(gt, .inr (9, [.int st9, .ref tp, .int td, .int fk, .int fpl, .ref bk, .int un, .ref mb, .ref mu, .int mk, .ref rd, .ref cm, .ref wk, .ref pp, .ref so, .ref ty]))]) [0] rfl
            have hKc := hK.sub (tys' := []) [] rfl
            have hDc := hD.sub (ws' := [(gt, .inr (9, [.int st9, .ref tp, .int td, .int fk, .int fpl, .ref bk, .int un, .ref mb, .ref mu, .int mk, .ref rd, .ref cm, .ref wk, .ref pp, .ref so, .ref ty]))]) [0] (by decide) rfl
            have hFc := va_free (wc := [(gt, .inr (9, [.int st9, .ref tp, .int td, .int fk, .int fpl, .ref bk, .int un, .ref mb, .ref mu, .int mk, .ref rd, .ref cm, .ref wk, .ref pp, .ref so, .ref ty]))]) hD hS hA [0] rfl
            refine va_calli (va_runV (As := [.int 5]) (rest := []) ⟨hx, hb, hml, hown, hts⟩ (s_refuse l dC dI gt tp bk mb mu rd cm wk pp so ty st9 td fk fpl un mk H.size 5) (cwV 1 hts mg_X9_would_X9_refuse_80 rfl rfl rfl (by decide +kernel) ⟨Nat.le_of_ble_eq_true rfl, Nat.le_of_ble_eq_true rfl⟩) ⟨fun a U g mk q => by obtain ⟨q0, q1, qP, qK, qD⟩ := q; exact ⟨q0, q1, qP, va_K.moved (u := U) (U := U.calling g mk a) (Vm.Alike.refl U.vm) qK, qD⟩, va_recv hKc hPc (ci := 9) (q0 := 0) rfl rfl, fun U hU hW => ⟨rfl, by rw [hU], by rw [hU]; exact hPc, va_K.moved hW.alike hKc, hDc.weaken (fun _ _ _ _ => trivial)⟩⟩ rfl rfl hl.1 rfl (lv_room (Nat.le_of_ble_eq_true rfl)) dX9_would_64 ⟨Nat.le_of_ble_eq_true rfl, Nat.le_of_ble_eq_true rfl⟩) hS (fun q _ h => hFc q h) hFc (fun r_52 u t H1 locs ht hvm hw hB hz1 hk1 hS => ?_)
            obtain ⟨hP1, hK1, hD1⟩ := hB
            rw [ht] at hP1
            have hr_52 := hw
            obtain ⟨hP, hD⟩ := va_join (wr := [(pp, .inl (cpp, 60, .inl fpp)), (so, .inl (cso, 60, .inl fso))]) (w1 := [(gt, .inr (9, [.int 5, .ref tp, .int td, .int fk, .int fpl, .ref bk, .int un, .ref mb, .ref mu, .int mk, .ref rd, .ref cm, .ref wk, .ref pp, .ref so, .ref ty]))]) hP hD [0] [1, 2] rfl rfl (by decide) (by decide) hk1 hFc hP1 hD1
            generalize H1 = H at hP hS ⊢
            have hP : va_P (dC, dI) vwCl [(pp, .inl (cpp, 60, .inl fpp)), (so, .inl (cso, 60, .inl fso)), (gt, .inr (9, [.int 5, .ref tp, .int td, .int fk, .int fpl, .ref bk, .int un, .ref mb, .ref mu, .int mk, .ref rd, .ref cm, .ref wk, .ref pp, .ref so, .ref ty]))] H := hP
            have hD : va_D A [(pp, .inl (cpp, 60, .inl fpp)), (so, .inl (cso, 60, .inl fso)), (gt, .inr (9, [.int 5, .ref tp, .int td, .int fk, .int fpl, .ref bk, .int un, .ref mb, .ref mu, .int mk, .ref rd, .ref cm, .ref wk, .ref pp, .ref so, .ref ty]))] := hD
            have hQ := q_at hQ0 hQA hS
            have hP9 := hP.sub (ws' := [(gt, .inr (9, [.int 5, .ref tp, .int td, .int fk, .int fpl, .ref bk, .int un, .ref mb, .ref mu, .int mk, .ref rd, .ref cm, .ref wk, .ref pp, .ref so, .ref ty])), (pp, .inl (cpp, 60, .inl fpp)), (so, .inl (cso, 60, .inl fso))]) [2, 0, 1] rfl
            have hD9 := hD.sub (ws' := [(gt, .inr (9, [.int 5, .ref tp, .int td, .int fk, .int fpl, .ref bk, .int un, .ref mb, .ref mu, .int mk, .ref rd, .ref cm, .ref wk, .ref pp, .ref so, .ref ty])), (pp, .inl (cpp, 60, .inl fpp)), (so, .inl (cso, 60, .inl fso))]) [2, 0, 1] (by decide) rfl
            have hK9 := hK.sub (tys' := [(cpp, .int), (cso, .int)]) [0, 1] rfl
            exact W.iret hx hb hr (fun t ht hW => ⟨⟨_, (), rfl, trivial, 5, fpp, fso, by rw [ht]; exact hP9, va_K.moved hW.alike hK9, hD9⟩, hS.F ht⟩) hS.2.2 dX9_would_67
    · have tk_11 := c_nge (a := i2.toInt) (b := 0) rfl (by decide) k_11
      refine lv_aload_n hx hb dX9_would_11 rfl (lv_at hl 0 rfl) ?_
      refine lv_iconst (v := 1) hx hb dX9_would_12 (by decide) ?_
      have hPc := hP.sub (ws' := [(gt, .inr (9, [.int st9, .ref tp, .int td, .int fk, .int fpl, .ref bk, .int un, .ref mb, .ref mu, .int mk, .ref rd, .ref cm, .ref wk, .ref pp, .ref so, .ref ty]))]) [0] rfl
      have hKc := hK.sub (tys' := []) [] rfl
      have hDc := hD.sub (ws' := [(gt, .inr (9, [.int st9, .ref tp, .int td, .int fk, .int fpl, .ref bk, .int un, .ref mb, .ref mu, .int mk, .ref rd, .ref cm, .ref wk, .ref pp, .ref so, .ref ty]))]) [0] (by decide) rfl
      have hFc := va_free (wc := [(gt, .inr (9, [.int st9, .ref tp, .int td, .int fk, .int fpl, .ref bk, .int un, .ref mb, .ref mu, .int mk, .ref rd, .ref cm, .ref wk, .ref pp, .ref so, .ref ty]))]) hD hS hA [0] rfl
      refine va_calli (va_runV (As := [.int 1]) (rest := []) ⟨hx, hb, hml, hown, hts⟩ (s_refuse l dC dI gt tp bk mb mu rd cm wk pp so ty st9 td fk fpl un mk H.size 1) (cwV 1 hts mg_X9_would_X9_refuse_80 rfl rfl rfl (by decide +kernel) ⟨Nat.le_of_ble_eq_true rfl, Nat.le_of_ble_eq_true rfl⟩) ⟨fun a U g mk q => by obtain ⟨q0, q1, qP, qK, qD⟩ := q; exact ⟨q0, q1, qP, va_K.moved (u := U) (U := U.calling g mk a) (Vm.Alike.refl U.vm) qK, qD⟩, va_recv hKc hPc (ci := 9) (q0 := 0) rfl rfl, fun U hU hW => ⟨rfl, by rw [hU], by rw [hU]; exact hPc, va_K.moved hW.alike hKc, hDc.weaken (fun _ _ _ _ => trivial)⟩⟩ rfl rfl hl.1 rfl (lv_room (Nat.le_of_ble_eq_true rfl)) dX9_would_13 ⟨Nat.le_of_ble_eq_true rfl, Nat.le_of_ble_eq_true rfl⟩) hS (fun q _ h => hFc q h) hFc (fun r_54 u t H1 locs ht hvm hw hB hz1 hk1 hS => ?_)
      obtain ⟨hP1, hK1, hD1⟩ := hB
      rw [ht] at hP1
      have hr_54 := hw
      obtain ⟨hP, hD⟩ := va_join (wr := [(pp, .inl (cpp, 60, .inl fpp)), (so, .inl (cso, 60, .inl fso))]) (w1 := [(gt, .inr (9, [.int 1, .ref tp, .int td, .int fk, .int fpl, .ref bk, .int un, .ref mb, .ref mu, .int mk, .ref rd, .ref cm, .ref wk, .ref pp, .ref so, .ref ty]))]) hP hD [0] [1, 2] rfl rfl (by decide) (by decide) hk1 hFc hP1 hD1
      generalize H1 = H at hP hS ⊢
      have hP : va_P (dC, dI) vwCl [(pp, .inl (cpp, 60, .inl fpp)), (so, .inl (cso, 60, .inl fso)), (gt, .inr (9, [.int 1, .ref tp, .int td, .int fk, .int fpl, .ref bk, .int un, .ref mb, .ref mu, .int mk, .ref rd, .ref cm, .ref wk, .ref pp, .ref so, .ref ty]))] H := hP
      have hD : va_D A [(pp, .inl (cpp, 60, .inl fpp)), (so, .inl (cso, 60, .inl fso)), (gt, .inr (9, [.int 1, .ref tp, .int td, .int fk, .int fpl, .ref bk, .int un, .ref mb, .ref mu, .int mk, .ref rd, .ref cm, .ref wk, .ref pp, .ref so, .ref ty]))] := hD
      have hQ := q_at hQ0 hQA hS
      have hP9 := hP.sub (ws' := [(gt, .inr (9, [.int 1, .ref tp, .int td, .int fk, .int fpl, .ref bk, .int un, .ref mb, .ref mu, .int mk, .ref rd, .ref cm, .ref wk, .ref pp, .ref so, .ref ty])), (pp, .inl (cpp, 60, .inl fpp)), (so, .inl (cso, 60, .inl fso))]) [2, 0, 1] rfl
      have hD9 := hD.sub (ws' := [(gt, .inr (9, [.int 1, .ref tp, .int td, .int fk, .int fpl, .ref bk, .int un, .ref mb, .ref mu, .int mk, .ref rd, .ref cm, .ref wk, .ref pp, .ref so, .ref ty])), (pp, .inl (cpp, 60, .inl fpp)), (so, .inl (cso, 60, .inl fso))]) [2, 0, 1] (by decide) rfl
      have hK9 := hK.sub (tys' := [(cpp, .int), (cso, .int)]) [0, 1] rfl
      exact W.iret hx hb hr (fun t ht hW => ⟨⟨_, (), rfl, trivial, 1, fpp, fso, by rw [ht]; exact hP9, va_K.moved hW.alike hK9, hD9⟩, hS.F ht⟩) hS.2.2 dX9_would_16
theorem dX9_best_0 : decode cX9_best 0 = .ok (.iload_n 2, 1) := by decide +kernel
theorem dX9_best_1 : decode cX9_best 1 = .ok (.ifCond .ge 9, 3) := by decide +kernel
theorem dX9_best_4 : decode cX9_best 4 = .ok (.aload_n 0, 1) := by decide +kernel
theorem dX9_best_5 : decode cX9_best 5 = .ok (.iconst 1, 1) := by decide +kernel
theorem dX9_best_6 : decode cX9_best 6 = .ok (.invokevirtual 80, 3) := by decide +kernel
theorem dX9_best_9 : decode cX9_best 9 = .ok (.ireturn, 1) := by decide +kernel
theorem dX9_best_10 : decode cX9_best 10 = .ok (.aload_n 0, 1) := by decide +kernel
theorem dX9_best_11 : decode cX9_best 11 = .ok (.getfield 29, 3) := by decide +kernel
theorem dX9_best_14 : decode cX9_best 14 = .ok (.iload_n 1, 1) := by decide +kernel
theorem dX9_best_15 : decode cX9_best 15 = .ok (.invokevirtual 123, 3) := by decide +kernel
theorem dX9_best_18 : decode cX9_best 18 = .ok (.astore_n 3, 1) := by decide +kernel
theorem dX9_best_19 : decode cX9_best 19 = .ok (.aload_n 3, 1) := by decide +kernel
theorem dX9_best_20 : decode cX9_best 20 = .ok (.ifnonnull 9, 3) := by decide +kernel
theorem dX9_best_23 : decode cX9_best 23 = .ok (.aload_n 0, 1) := by decide +kernel
theorem dX9_best_24 : decode cX9_best 24 = .ok (.iconst 2, 1) := by decide +kernel
theorem dX9_best_25 : decode cX9_best 25 = .ok (.invokevirtual 80, 3) := by decide +kernel
theorem dX9_best_28 : decode cX9_best 28 = .ok (.ireturn, 1) := by decide +kernel
theorem dX9_best_29 : decode cX9_best 29 = .ok (.iload_n 2, 1) := by decide +kernel
theorem dX9_best_30 : decode cX9_best 30 = .ok (.aload_n 3, 1) := by decide +kernel
theorem dX9_best_31 : decode cX9_best 31 = .ok (.getfield 127, 3) := by decide +kernel
theorem dX9_best_34 : decode cX9_best 34 = .ok (.arraylength, 1) := by decide +kernel
theorem dX9_best_35 : decode cX9_best 35 = .ok (.if_icmp .lt 9, 3) := by decide +kernel
theorem dX9_best_38 : decode cX9_best 38 = .ok (.aload_n 0, 1) := by decide +kernel
theorem dX9_best_39 : decode cX9_best 39 = .ok (.iconst 5, 1) := by decide +kernel
theorem dX9_best_40 : decode cX9_best 40 = .ok (.invokevirtual 80, 3) := by decide +kernel
theorem dX9_best_43 : decode cX9_best 43 = .ok (.ireturn, 1) := by decide +kernel
theorem dX9_best_44 : decode cX9_best 44 = .ok (.aload_n 0, 1) := by decide +kernel
theorem dX9_best_45 : decode cX9_best 45 = .ok (.getfield 67, 3) := by decide +kernel
theorem dX9_best_48 : decode cX9_best 48 = .ok (.iconst 0, 1) := by decide +kernel
theorem dX9_best_49 : decode cX9_best 49 = .ok (.invokestatic 285, 3) := by decide +kernel
theorem dX9_best_52 : decode cX9_best 52 = .ok (.iconst 0, 1) := by decide +kernel
theorem dX9_best_53 : decode cX9_best 53 = .ok (.istore 4, 2) := by decide +kernel
theorem dX9_best_55 : decode cX9_best 55 = .ok (.iload 4, 2) := by decide +kernel
theorem dX9_best_57 : decode cX9_best 57 = .ok (.aload_n 0, 1) := by decide +kernel
theorem dX9_best_58 : decode cX9_best 58 = .ok (.getfield 29, 3) := by decide +kernel
theorem dX9_best_61 : decode cX9_best 61 = .ok (.getfield 103, 3) := by decide +kernel
theorem dX9_best_64 : decode cX9_best 64 = .ok (.arraylength, 1) := by decide +kernel
theorem dX9_best_65 : decode cX9_best 65 = .ok (.if_icmp .ge 36, 3) := by decide +kernel
theorem dX9_best_68 : decode cX9_best 68 = .ok (.aload_n 0, 1) := by decide +kernel
theorem dX9_best_69 : decode cX9_best 69 = .ok (.getfield 29, 3) := by decide +kernel
theorem dX9_best_72 : decode cX9_best 72 = .ok (.iload 4, 2) := by decide +kernel
theorem dX9_best_74 : decode cX9_best 74 = .ok (.invokevirtual 140, 3) := by decide +kernel
theorem dX9_best_77 : decode cX9_best 77 = .ok (.astore 5, 2) := by decide +kernel
theorem dX9_best_79 : decode cX9_best 79 = .ok (.aload 5, 2) := by decide +kernel
theorem dX9_best_81 : decode cX9_best 81 = .ok (.ifnull 14, 3) := by decide +kernel
theorem dX9_best_84 : decode cX9_best 84 = .ok (.aload 5, 2) := by decide +kernel
theorem dX9_best_86 : decode cX9_best 86 = .ok (.aload_n 3, 1) := by decide +kernel
theorem dX9_best_87 : decode cX9_best 87 = .ok (.iload_n 2, 1) := by decide +kernel
theorem dX9_best_88 : decode cX9_best 88 = .ok (.aload_n 0, 1) := by decide +kernel
theorem dX9_best_89 : decode cX9_best 89 = .ok (.getfield 67, 3) := by decide +kernel
theorem dX9_best_92 : decode cX9_best 92 = .ok (.invokevirtual 289, 3) := by decide +kernel
theorem dX9_best_95 : decode cX9_best 95 = .ok (.iinc 4 1, 3) := by decide +kernel
theorem dX9_best_98 : decode cX9_best 98 = .ok (.goto (-43), 3) := by decide +kernel
theorem dX9_best_101 : decode cX9_best 101 = .ok (.iconst 0, 1) := by decide +kernel
theorem dX9_best_102 : decode cX9_best 102 = .ok (.istore 4, 2) := by decide +kernel
theorem dX9_best_104 : decode cX9_best 104 = .ok (.iconst 1, 1) := by decide +kernel
theorem dX9_best_105 : decode cX9_best 105 = .ok (.istore 5, 2) := by decide +kernel
theorem dX9_best_107 : decode cX9_best 107 = .ok (.iload 5, 2) := by decide +kernel
theorem dX9_best_109 : decode cX9_best 109 = .ok (.bipush 26, 2) := by decide +kernel
theorem dX9_best_111 : decode cX9_best 111 = .ok (.if_icmp .ge 30, 3) := by decide +kernel
theorem dX9_best_114 : decode cX9_best 114 = .ok (.aload_n 0, 1) := by decide +kernel
theorem dX9_best_115 : decode cX9_best 115 = .ok (.getfield 67, 3) := by decide +kernel
theorem dX9_best_118 : decode cX9_best 118 = .ok (.iload 5, 2) := by decide +kernel
theorem dX9_best_120 : decode cX9_best 120 = .ok (.iaload, 1) := by decide +kernel
theorem dX9_best_121 : decode cX9_best 121 = .ok (.aload_n 0, 1) := by decide +kernel
theorem dX9_best_122 : decode cX9_best 122 = .ok (.getfield 67, 3) := by decide +kernel
theorem dX9_best_125 : decode cX9_best 125 = .ok (.iload 4, 2) := by decide +kernel
theorem dX9_best_127 : decode cX9_best 127 = .ok (.iaload, 1) := by decide +kernel
theorem dX9_best_128 : decode cX9_best 128 = .ok (.if_icmp .le 7, 3) := by decide +kernel
theorem dX9_best_131 : decode cX9_best 131 = .ok (.iload 5, 2) := by decide +kernel
theorem dX9_best_133 : decode cX9_best 133 = .ok (.istore 4, 2) := by decide +kernel
theorem dX9_best_135 : decode cX9_best 135 = .ok (.iinc 5 1, 3) := by decide +kernel
theorem dX9_best_138 : decode cX9_best 138 = .ok (.goto (-31), 3) := by decide +kernel
theorem dX9_best_141 : decode cX9_best 141 = .ok (.aload_n 0, 1) := by decide +kernel
theorem dX9_best_142 : decode cX9_best 142 = .ok (.iload 4, 2) := by decide +kernel
theorem dX9_best_144 : decode cX9_best 144 = .ok (.invokevirtual 100, 3) := by decide +kernel
theorem dX9_best_147 : decode cX9_best 147 = .ok (.ireturn, 1) := by decide +kernel
def mwX9_best : List Cond := .code yX9_best cX9_best 6 (some .int) :: (([.fieldLink RX9 29 "PatternGate" "book" "LPatternGate$Book;", .methodLink RX9 123 yX0_docAt, .instanceMethod yX0_docAt, .selects RX0 yX0_docAt yX0_docAt, .initialized RX0, .methodLink RX9 80 yX9_refuse, .instanceMethod yX9_refuse, .selects RX9 yX9_refuse yX9_refuse, .initialized RX9, .fieldLink RX9 127 "PatternGate$Doc" "letters" "[I", .fieldLink RX9 67 "PatternGate" "tally" "[I", .methodLink RX9 285 yJ7_fill_53178, .static yJ7_fill_53178, .initialized RJ7, .fieldLink RX9 103 "PatternGate$Book" "patterns" "[LPatternGate$Pattern;", .methodLink RX9 100 yX9_answer, .instanceMethod yX9_answer, .selects RX9 yX9_answer yX9_answer, .methodLink RX9 140 yX0_patternAt, .instanceMethod yX0_patternAt, .selects RX0 yX0_patternAt yX0_patternAt, .methodLink RX9 289 yX5_tallyLetters, .instanceMethod yX5_tallyLetters, .selects RX5 yX5_tallyLetters yX5_tallyLetters, .initialized RX5] : List Cond) ++ (wsX90 ++ (wsX20 ++ (wsX00 ++ (mwX0_docAt ++ (mwX9_refuse ++ (mwJ7_fill_53178 ++ (mwX9_answer ++ (mwX0_patternAt2 ++ (mwX5_tallyLetters))))))))))
theorem fin_X9_best_X0 : ∀ w ∈ wsX00, w ∈ mwX9_best := fun w h => List.mem_cons_of_mem _ (List.mem_append_right _ (List.mem_append_right _ (List.mem_append_right _ (List.mem_append_left _ h))))
theorem fin_X9_best_X2 : ∀ w ∈ wsX20, w ∈ mwX9_best := fun w h => List.mem_cons_of_mem _ (List.mem_append_right _ (List.mem_append_right _ (List.mem_append_left _ h)))
theorem fin_X9_best_X9 : ∀ w ∈ wsX90, w ∈ mwX9_best := fun w h => List.mem_cons_of_mem _ (List.mem_append_right _ (List.mem_append_left _ h))
set_option maxRecDepth 100000 in
theorem gd_mwJ7_fill_53178 : mwJ7_fill_53178.all goodWord = true := by decide +kernel
set_option maxRecDepth 100000 in
theorem gd_mwX5_tallyLetters : mwX5_tallyLetters.all goodWord = true := by decide +kernel
set_option maxRecDepth 20000 in
theorem mg_X9_best_X0_docAt_123 : GoodIn mwX9_best (wsV RX9 123 RX0 yX0_docAt mwX0_docAt) := gi_app (A := [.methodLink RX9 123 yX0_docAt, .instanceMethod yX0_docAt, .selects RX0 yX0_docAt yX0_docAt, .initialized RX0]) (goodIn_r _ [2, 3, 4, 5] (by decide +kernel) (by decide +kernel)) (gi_sub gd_mwX0_docAt (fun w h => List.mem_cons_of_mem _ (List.mem_append_right _ (List.mem_append_right _ (List.mem_append_right _ (List.mem_append_right _ (List.mem_append_left _ h)))))))
set_option maxRecDepth 20000 in
theorem mg_X9_best_X9_refuse_80 : GoodIn mwX9_best (wsV RX9 80 RX9 yX9_refuse mwX9_refuse) := gi_app (A := [.methodLink RX9 80 yX9_refuse, .instanceMethod yX9_refuse, .selects RX9 yX9_refuse yX9_refuse, .initialized RX9]) (goodIn_r _ [6, 7, 8, 9] (by decide +kernel) (by decide +kernel)) (gi_sub gd_mwX9_refuse (fun w h => List.mem_cons_of_mem _ (List.mem_append_right _ (List.mem_append_right _ (List.mem_append_right _ (List.mem_append_right _ (List.mem_append_right _ (List.mem_append_left _ h))))))))
set_option maxRecDepth 20000 in
theorem mg_X9_best_J7_fill_53178_285 : GoodIn mwX9_best (va_wsS RX9 285 yJ7_fill_53178 mwJ7_fill_53178) := gi_app (A := [.methodLink RX9 285 yJ7_fill_53178, .static yJ7_fill_53178, .initialized RJ7]) (goodIn_r _ [12, 13, 14] (by decide +kernel) (by decide +kernel)) (gi_sub gd_mwJ7_fill_53178 (fun w h => List.mem_cons_of_mem _ (List.mem_append_right _ (List.mem_append_right _ (List.mem_append_right _ (List.mem_append_right _ (List.mem_append_right _ (List.mem_append_right _ (List.mem_append_left _ h)))))))))
set_option maxRecDepth 20000 in
theorem mg_X9_best_X9_answer_100 : GoodIn mwX9_best (wsV RX9 100 RX9 yX9_answer mwX9_answer) := gi_app (A := [.methodLink RX9 100 yX9_answer, .instanceMethod yX9_answer, .selects RX9 yX9_answer yX9_answer, .initialized RX9]) (goodIn_r _ [16, 17, 18, 9] (by decide +kernel) (by decide +kernel)) (gi_sub gd_mwX9_answer (fun w h => List.mem_cons_of_mem _ (List.mem_append_right _ (List.mem_append_right _ (List.mem_append_right _ (List.mem_append_right _ (List.mem_append_right _ (List.mem_append_right _ (List.mem_append_right _ (List.mem_append_left _ h))))))))))
set_option maxRecDepth 20000 in
theorem mg_X9_best_X0_patternAt_140 : GoodIn mwX9_best (wsV RX9 140 RX0 yX0_patternAt mwX0_patternAt2) := gi_app (A := [.methodLink RX9 140 yX0_patternAt, .instanceMethod yX0_patternAt, .selects RX0 yX0_patternAt yX0_patternAt, .initialized RX0]) (goodIn_r _ [19, 20, 21, 5] (by decide +kernel) (by decide +kernel)) (gi_sub gd_mwX0_patternAt2 (fun w h => List.mem_cons_of_mem _ (List.mem_append_right _ (List.mem_append_right _ (List.mem_append_right _ (List.mem_append_right _ (List.mem_append_right _ (List.mem_append_right _ (List.mem_append_right _ (List.mem_append_right _ (List.mem_append_left _ h)))))))))))
set_option maxRecDepth 20000 in
theorem mg_X9_best_X5_tallyLetters_289 : GoodIn mwX9_best (wsV RX9 289 RX5 yX5_tallyLetters mwX5_tallyLetters) := gi_app (A := [.methodLink RX9 289 yX5_tallyLetters, .instanceMethod yX5_tallyLetters, .selects RX5 yX5_tallyLetters yX5_tallyLetters, .initialized RX5]) (goodIn_r _ [22, 23, 24, 25] (by decide +kernel) (by decide +kernel)) (gi_sub gd_mwX5_tallyLetters (fun w h => List.mem_cons_of_mem _ (List.mem_append_right _ (List.mem_append_right _ (List.mem_append_right _ (List.mem_append_right _ (List.mem_append_right _ (List.mem_append_right _ (List.mem_append_right _ (List.mem_append_right _ (List.mem_append_right _ (h))))))))))))
set_option maxHeartbeats 4000000 in
set_option maxRecDepth 100000 in
/-- gate: best -/
theorem s_g_best (l : Launch) (dC : Nat → ClassId) (dI : Nat → Nat → Nat) (W9 : va_W) (T9 : List (ClassId × FieldType)) (B9 : Nat → Prop) (gt tp bk mb mu rd cm wk pp so ty : Nat) (st9 td fk fpl un mk : Int32) (cty : ClassId) (fty : Nat → Int32) (sz : Nat) (i1 i2 : Int32) (hB9 : gB W9 T9 B9) (hbk : B9 bk) : Met l yX9_best mwX9_best ({ frames := 3, cells := 0, slots := 0, locals := 180 }) (va_Pc [.ref gt, .int i1, .int i2] (fun U => U.heap.size = sz ∧ va_P (dC, dI) vwCl ([(gt, .inr (9, [.int st9, .ref tp, .int td, .int fk, .int fpl, .ref bk, .int un, .ref mb, .ref mu, .int mk, .ref rd, .ref cm, .ref wk, .ref pp, .ref so, .ref ty])), (ty, .inl (cty, 26, .inl fty))]) U.heap ∧ va_K (dC, dI) vwCl ([(cty, .int)]) U ∧ va_D (fun _ => True) ([(gt, .inr (9, [.int st9, .ref tp, .int td, .int fk, .int fpl, .ref bk, .int un, .ref mb, .ref mu, .int mk, .ref rd, .ref cm, .ref wk, .ref pp, .ref so, .ref ty])), (ty, .inl (cty, 26, .inl fty))]) ∧ va_P (dC, dI) vwCl W9 U.heap ∧ va_K (dC, dI) vwCl T9 U ∧ (∀ q ∈ W9, ¬ va_A ([(gt, .inr (9, [.int st9, .ref tp, .int td, .int fk, .int fpl, .ref bk, .int un, .ref mb, .ref mu, .int mk, .ref rd, .ref cm, .ref wk, .ref pp, .ref so, .ref ty])), (ty, .inl (cty, 26, .inl fty))]) sz q.1))) (va_Qi (fun (_ : Int32) (_ : Unit) => True) (fun _ t => ∃ (y0 : Int32) (f9 : Nat → Int32), va_P (dC, dI) vwCl [(gt, .inr (9, [.int y0, .ref tp, .int td, .int fk, .int fpl, .ref bk, .int un, .ref mb, .ref mu, .int mk, .ref rd, .ref cm, .ref wk, .ref pp, .ref so, .ref ty])), (ty, .inl (cty, 26, .inl f9))] t.heap ∧ va_K (dC, dI) vwCl [(cty, .int)] t ∧ va_D (va_A ([(gt, .inr (9, [.int st9, .ref tp, .int td, .int fk, .int fpl, .ref bk, .int un, .ref mb, .ref mu, .int mk, .ref rd, .ref cm, .ref wk, .ref pp, .ref so, .ref ty])), (ty, .inl (cty, 26, .inl fty))]) sz) [(gt, .inr (9, [.int y0, .ref tp, .int td, .int fk, .int fpl, .ref bk, .int un, .ref mb, .ref mu, .int mk, .ref rd, .ref cm, .ref wk, .ref pp, .ref so, .ref ty])), (ty, .inl (cty, 26, .inl f9))]) (va_A ([(gt, .inr (9, [.int st9, .ref tp, .int td, .int fk, .int fpl, .ref bk, .int un, .ref mb, .ref mu, .int mk, .ref rd, .ref cm, .ref wk, .ref pp, .ref so, .ref ty])), (ty, .inl (cty, 26, .inl fty))]) sz)) 0 0 (va_A ([(gt, .inr (9, [.int st9, .ref tp, .int td, .int fk, .int fpl, .ref bk, .int un, .ref mb, .ref mu, .int mk, .ref rd, .ref cm, .ref wk, .ref pp, .ref so, .ref ty])), (ty, .inl (cty, 26, .inl fty))]) sz) := by
  refine Met.ofW (cc := cX9_best) (maxL := 6) (ret := (some .int)) (by decide +kernel) rfl ?_
  intro p e s m args below meth c s₁ B hml hv
  obtain ⟨rfl, hsz, hP, hK, hD0, hQ0, hKQ, hQA⟩ := hv
  have hx := B.exec
  have hb := B.bytes
  have hr := B.returns
  have hts := atoms_spec (ws := mwX9_best) B.pre
  have hown : s.vm.findClass RX9 = some m.cls := findClass_of_methodNamed B.named
  have hlocks := B.notSynchronized
  subst hsz
  have hD := hD0.self (sz := s.heap.size)
  generalize hAe : va_A ([(gt, .inr (9, [.int st9, .ref tp, .int td, .int fk, .int fpl, .ref bk, .int un, .ref mb, .ref mu, .int mk, .ref rd, .ref cm, .ref wk, .ref pp, .ref so, .ref ty])), (ty, .inl (cty, 26, .inl fty))]) s.heap.size = A at hD hQA ⊢
  have hA : ∀ q : Nat, s.heap.size ≤ q → A q := fun q h => by rw [← hAe]; exact Or.inr h
  have hP : va_P (dC, dI) vwCl [(gt, .inr (9, [.int st9, .ref tp, .int td, .int fk, .int fpl, .ref bk, .int un, .ref mb, .ref mu, .int mk, .ref rd, .ref cm, .ref wk, .ref pp, .ref so, .ref ty])), (ty, .inl (cty, 26, .inl fty))] s.heap := hP
  have hD : va_D A [(gt, .inr (9, [.int st9, .ref tp, .int td, .int fk, .int fpl, .ref bk, .int un, .ref mb, .ref mu, .int mk, .ref rd, .ref cm, .ref wk, .ref pp, .ref so, .ref ty])), (ty, .inl (cty, 26, .inl fty))] := hD
  have hK : va_K (dC, dI) vwCl [(cty, .int)] s := hK
  generalize hH : s.heap = H at hP ⊢
  have hS : va_S A s.heap H [] := by rw [← hH]; exact va_S.rf
  have hQ := q_at hQ0 hQA hS
  have hl := lv_entry ([.ref gt, .int i1, .int i2]) (n := 6) (Nat.le_of_ble_eq_true rfl)
  rw [lg_entry_eq]
  generalize (lg_sl ([.ref gt, .int i1, .int i2]) ++ List.replicate (6 - (lg_sl ([.ref gt, .int i1, .int i2])).length) Slot.unset).toArray = ls at hl ⊢
  have hl : lv_has ls 6 [(0, .ref gt), (1, .int i1), (2, .int i2)] := hl
  have rg_i1 := i_rng i1
  have rg_i2 := i_rng i2
  obtain ⟨ear, hB3, hear⟩ := hB9 bk hbk
  have hB0 := hB3.poB
  obtain ⟨ds, ps, nd, np, fd, fp, cD, cP, m1, m2, m3, m4, m5, hnd, hnp, hds, hps⟩ := id hB3
  obtain ⟨k_1, hk_1⟩ := List.getElem?_of_mem m1
  obtain ⟨k_2, hk_2⟩ := List.getElem?_of_mem m2
  obtain ⟨j_3, hj_3⟩ := List.getElem?_of_mem m3
  obtain ⟨k_4, hk_4⟩ := List.getElem?_of_mem m4
  obtain ⟨j_5, hj_5⟩ := List.getElem?_of_mem m5
  have r_un := i_rng un
  have r_mk := i_rng mk
  have r_td := i_rng td
  refine lv_iload_n hx hb dX9_best_0 rfl (lv_at hl 2 rfl) ?_
  refine lv_if_ge (tgt := 10) hx hb dX9_best_1 (by decide) (fun k_6 => ?_) (fun k_6 => ?_)
  · have tk_6 := c_ge (a := i2.toInt) (b := 0) rfl (by decide) k_6
    refine lv_aload_n hx hb dX9_best_10 rfl (lv_at hl 0 rfl) ?_
    refine va_get (D := (dC, dI)) (ci := 9) (v := .ref bk) (C := RX9) (T := TX9) (N := 16) hx hb hts fin_X9_best_X9 hown hK hP 0 rfl rfl 5 (by decide) (hts (.fieldLink RX9 29 "PatternGate" "book" "LPatternGate$Book;") (List.mem_of_getElem? (i := 1) (by decide +kernel))) (fun _ h9 => h9) rfl dX9_best_11 ?_
    refine lv_iload_n hx hb dX9_best_14 rfl (lv_at hl 1 rfl) ?_
    have hPc := hQ
    have hKc := hKQ
    refine va_csq (W.runV (As := [.int i1]) (rest := []) ⟨hx, hb, hml, hown, hts⟩ (s_docAt l dC dI W9 T9 bk i1 hB0) (cwV 1 hts mg_X9_best_X0_docAt_123 rfl rfl rfl (by decide +kernel) ⟨Nat.le_of_ble_eq_true rfl, Nat.le_of_ble_eq_true rfl⟩) ⟨fun a U g mk q => by obtain ⟨q0, qP, qK⟩ := q; exact ⟨q0, qP, va_K.moved (u := U) (U := U.calling g mk a) (Vm.Alike.refl U.vm) qK⟩, va_recv hKc hPc (ci := 0) (q0 := k_1) rfl hk_1, fun U hU hW => ⟨rfl, by rw [hU]; exact hPc, va_K.moved hW.alike hKc⟩⟩ rfl rfl hl.1 rfl (lv_room (Nat.le_of_ble_eq_true rfl)) dX9_best_15 ⟨Nat.le_of_ble_eq_true rfl, Nat.le_of_ble_eq_true rfl⟩) (fun r_8 hw => ?_)
    rcases hw with rfl | ⟨d_9, rfl, hd_9⟩
    · refine W.eq (g2 := F0 m 18 ls [.null]) rfl ?_
      refine lv_astore_nN (lv' := [(3, .null), (0, .ref gt), (1, .int i1), (2, .int i2)]) hx hb dX9_best_18 rfl hl (by decide) rfl (fun ls hl => ?_)
      refine lv_aload_nN hx hb dX9_best_19 rfl (lv_at hl 0 rfl) ?_
      refine lv_ifnonnullN hx hb dX9_best_20 ?_
      refine lv_aload_n hx hb dX9_best_23 rfl (lv_at hl 1 rfl) ?_
      refine lv_iconst (v := 2) hx hb dX9_best_24 (by decide) ?_
      have hPc := hP.sub (ws' := [(gt, .inr (9, [.int st9, .ref tp, .int td, .int fk, .int fpl, .ref bk, .int un, .ref mb, .ref mu, .int mk, .ref rd, .ref cm, .ref wk, .ref pp, .ref so, .ref ty]))]) [0] rfl
      have hKc := hK.sub (tys' := []) [] rfl
      have hDc := hD.sub (ws' := [(gt, .inr (9, [.int st9, .ref tp, .int td, .int fk, .int fpl, .ref bk, .int un, .ref mb, .ref mu, .int mk, .ref rd, .ref cm, .ref wk, .ref pp, .ref so, .ref ty]))]) [0] (by decide) rfl
      have hFc := va_free (wc := [(gt, .inr (9, [.int st9, .ref tp, .int td, .int fk, .int fpl, .ref bk, .int un, .ref mb, .ref mu, .int mk, .ref rd, .ref cm, .ref wk, .ref pp, .ref so, .ref ty]))]) hD hS hA [0] rfl
      refine va_calli (va_runV (As := [.int 2]) (rest := []) ⟨hx, hb, hml, hown, hts⟩ (s_refuse l dC dI gt tp bk mb mu rd cm wk pp so ty st9 td fk fpl un mk H.size 2) (cwV 1 hts mg_X9_best_X9_refuse_80 rfl rfl rfl (by decide +kernel) ⟨Nat.le_of_ble_eq_true rfl, Nat.le_of_ble_eq_true rfl⟩) ⟨fun a U g mk q => by obtain ⟨q0, q1, qP, qK, qD⟩ := q; exact ⟨q0, q1, qP, va_K.moved (u := U) (U := U.calling g mk a) (Vm.Alike.refl U.vm) qK, qD⟩, va_recv hKc hPc (ci := 9) (q0 := 0) rfl rfl, fun U hU hW => ⟨rfl, by rw [hU], by rw [hU]; exact hPc, va_K.moved hW.alike hKc, hDc.weaken (fun _ _ _ _ => trivial)⟩⟩ rfl rfl hl.1 rfl (lv_room (Nat.le_of_ble_eq_true rfl)) dX9_best_25 ⟨Nat.le_of_ble_eq_true rfl, Nat.le_of_ble_eq_true rfl⟩) hS (fun q _ h => hFc q h) hFc (fun r_11 u t H1 locs ht hvm hw hB hz1 hk1 hS => ?_)
      obtain ⟨hP1, hK1, hD1⟩ := hB
      rw [ht] at hP1
      have hr_11 := hw
      obtain ⟨hP, hD⟩ := va_join (wr := [(ty, .inl (cty, 26, .inl fty))]) (w1 := [(gt, .inr (9, [.int 2, .ref tp, .int td, .int fk, .int fpl, .ref bk, .int un, .ref mb, .ref mu, .int mk, .ref rd, .ref cm, .ref wk, .ref pp, .ref so, .ref ty]))]) hP hD [0] [1] rfl rfl (by decide) (by decide) hk1 hFc hP1 hD1
      generalize H1 = H at hP hS ⊢
      have hP : va_P (dC, dI) vwCl [(ty, .inl (cty, 26, .inl fty)), (gt, .inr (9, [.int 2, .ref tp, .int td, .int fk, .int fpl, .ref bk, .int un, .ref mb, .ref mu, .int mk, .ref rd, .ref cm, .ref wk, .ref pp, .ref so, .ref ty]))] H := hP
      have hD : va_D A [(ty, .inl (cty, 26, .inl fty)), (gt, .inr (9, [.int 2, .ref tp, .int td, .int fk, .int fpl, .ref bk, .int un, .ref mb, .ref mu, .int mk, .ref rd, .ref cm, .ref wk, .ref pp, .ref so, .ref ty]))] := hD
      have hQ := q_at hQ0 hQA hS
      have hP9 := hP.sub (ws' := [(gt, .inr (9, [.int 2, .ref tp, .int td, .int fk, .int fpl, .ref bk, .int un, .ref mb, .ref mu, .int mk, .ref rd, .ref cm, .ref wk, .ref pp, .ref so, .ref ty])), (ty, .inl (cty, 26, .inl fty))]) [1, 0] rfl
      have hD9 := hD.sub (ws' := [(gt, .inr (9, [.int 2, .ref tp, .int td, .int fk, .int fpl, .ref bk, .int un, .ref mb, .ref mu, .int mk, .ref rd, .ref cm, .ref wk, .ref pp, .ref so, .ref ty])), (ty, .inl (cty, 26, .inl fty))]) [1, 0] (by decide) rfl
      have hK9 := hK.sub (tys' := [(cty, .int)]) [0] rfl
      exact W.iret hx hb hr (fun t ht hW => ⟨⟨_, (), rfl, trivial, 2, fty, by rw [ht]; exact hP9, va_K.moved hW.alike hK9, hD9⟩, hS.F ht⟩) hS.2.2 dX9_best_28
    · refine W.eq (g2 := F0 m 18 ls [.ref d_9]) rfl ?_
      have hd_9D := hd_9
      obtain ⟨la_12, ta_13, m_14, n_15, fl_16, ft_17, cI_18, cJ_19, m_20, ⟨m_21, m_22⟩, ⟨m_23, m_24⟩, m_25, m_26⟩ := hd_9
      obtain ⟨k_27, hk_27⟩ := List.getElem?_of_mem m_20
      obtain ⟨k_28, hk_28⟩ := List.getElem?_of_mem m_21
      obtain ⟨j_29, hj_29⟩ := List.getElem?_of_mem m_22
      obtain ⟨k_30, hk_30⟩ := List.getElem?_of_mem m_23
      obtain ⟨j_31, hj_31⟩ := List.getElem?_of_mem m_24
      refine lv_astore_n (lv' := [(3, .ref d_9), (0, .ref gt), (1, .int i1), (2, .int i2)]) hx hb dX9_best_18 rfl hl (by decide) rfl (fun ls hl => ?_)
      refine lv_aload_n hx hb dX9_best_19 rfl (lv_at hl 0 rfl) ?_
      refine lv_ifnonnull (tgt := 29) hx hb dX9_best_20 (by decide) ?_
      refine lv_iload_n hx hb dX9_best_29 rfl (lv_at hl 3 rfl) ?_
      refine lv_aload_n hx hb dX9_best_30 rfl (lv_at hl 0 rfl) ?_
      refine va_get (D := (dC, dI)) (ci := 2) (v := .ref la_12) (C := RX2) (T := TX2) (N := 2) hx hb hts fin_X9_best_X2 hown hKQ hQ k_27 hk_27 rfl 0 (by decide) (hts (.fieldLink RX9 127 "PatternGate$Doc" "letters" "[I") (List.mem_of_getElem? (i := 10) (by decide +kernel))) (fun _ h9 => h9) rfl dX9_best_31 ?_
      refine va_alen hx hb hKQ hQ k_28 j_29 hk_28 hj_29 rfl dX9_best_34 ?_
      refine lv_topi (fun y_32 ey_32 => ?_)
      have ty_32 : y_32.toInt = (m_14 : Int) := i_len ey_32 (by omega)
      refine lv_icmp_lt (tgt := 44) hx hb dX9_best_35 (by decide) (fun k_33 => ?_) (fun k_33 => ?_)
      · have tk_33 := c_lt (a := i2.toInt) (b := y_32.toInt) rfl rfl k_33
        refine lv_aload_n hx hb dX9_best_44 rfl (lv_at hl 1 rfl) ?_
        refine va_get (D := (dC, dI)) (ci := 9) (v := .ref ty) (C := RX9) (T := TX9) (N := 16) hx hb hts fin_X9_best_X9 hown hK hP 0 rfl rfl 15 (by decide) (hts (.fieldLink RX9 67 "PatternGate" "tally" "[I") (List.mem_of_getElem? (i := 11) (by decide +kernel))) (fun _ h9 => h9) rfl dX9_best_45 ?_
        refine lv_iconst (v := 0) hx hb dX9_best_48 (by decide) ?_
        have hPc := hP.sub (ws' := [(ty, .inl (cty, 26, .inl fty))]) [1] rfl
        have hKc := hK.sub (tys' := [(cty, .int)]) [0] rfl
        have hDc := hD.sub (ws' := [(ty, .inl (cty, 26, .inl fty))]) [1] (by decide) rfl
        have hFc := va_free (wc := [(ty, .inl (cty, 26, .inl fty))]) hD hS hA [1] rfl
        refine va_callv (va_runS (As := [.ref ty, .int 0]) (rest := []) ⟨hx, hb, hml, hown, hts⟩ (s_fill l dC dI ty 26 cty fty H.size 0 (by first | omega | decide | (have l0 := Int32.toInt_zero; omega))) (va_cwS 2 hts mg_X9_best_J7_fill_53178_285 rfl rfl rfl (by decide +kernel) ⟨Nat.le_of_ble_eq_true rfl, Nat.le_of_ble_eq_true rfl⟩) ⟨fun a U g mk q => by obtain ⟨q0, q1, qP, qK, qD⟩ := q; exact ⟨q0, q1, qP, va_K.moved (u := U) (U := U.calling g mk a) (Vm.Alike.refl U.vm) qK, qD⟩, fun U hU hW => ⟨rfl, by rw [hU], by rw [hU]; exact hPc, va_K.moved hW.alike hKc, hDc.weaken (fun _ _ _ _ => trivial)⟩⟩ rfl rfl hl.1 rfl (lv_room (Nat.le_of_ble_eq_true rfl)) dX9_best_49 ⟨Nat.le_of_ble_eq_true rfl, Nat.le_of_ble_eq_true rfl⟩) hS (fun q _ h => hFc q h) hFc (fun u t H1 locs ht hvm hw hB hz1 hk1 hS => ?_)
        obtain ⟨f_36, hP1, hK1, hD1⟩ := hB
        rw [ht] at hP1
        obtain ⟨hP, hD⟩ := va_join (wr := [(gt, .inr (9, [.int st9, .ref tp, .int td, .int fk, .int fpl, .ref bk, .int un, .ref mb, .ref mu, .int mk, .ref rd, .ref cm, .ref wk, .ref pp, .ref so, .ref ty]))]) (w1 := [(ty, .inl (cty, 26, .inl f_36))]) hP hD [1] [0] rfl rfl (by decide) (by decide) hk1 hFc hP1 hD1
        generalize H1 = H at hP hS ⊢
        have hP : va_P (dC, dI) vwCl [(gt, .inr (9, [.int st9, .ref tp, .int td, .int fk, .int fpl, .ref bk, .int un, .ref mb, .ref mu, .int mk, .ref rd, .ref cm, .ref wk, .ref pp, .ref so, .ref ty])), (ty, .inl (cty, 26, .inl f_36))] H := hP
        have hD : va_D A [(gt, .inr (9, [.int st9, .ref tp, .int td, .int fk, .int fpl, .ref bk, .int un, .ref mb, .ref mu, .int mk, .ref rd, .ref cm, .ref wk, .ref pp, .ref so, .ref ty])), (ty, .inl (cty, 26, .inl f_36))] := hD
        have hQ := q_at hQ0 hQA hS
        refine lv_iconst (v := 0) hx hb dX9_best_52 (by decide) ?_
        refine lv_istore (lv' := [(4, .int 0), (3, .ref d_9), (0, .ref gt), (1, .int i1), (2, .int i2)]) hx hb dX9_best_53 hl (by decide) rfl (fun ls hl => ?_)
        have loop55 : ∀ (lm55 : Nat) (ii : Int32) (ga : Nat → Int32), (0 ≤ ii.toInt) → (((np : Int) - ii.toInt).toNat) < lm55 → ∀ (H : Heap) (locs : List Loc) (ls : Array Slot), va_P (dC, dI) vwCl [(gt, .inr (9, [.int st9, .ref tp, .int td, .int fk, .int fpl, .ref bk, .int un, .ref mb, .ref mu, .int mk, .ref rd, .ref cm, .ref wk, .ref pp, .ref so, .ref ty])), (ty, .inl (cty, 26, .inl ga))] H → va_D A [(gt, .inr (9, [.int st9, .ref tp, .int td, .int fk, .int fpl, .ref bk, .int un, .ref mb, .ref mu, .int mk, .ref rd, .ref cm, .ref wk, .ref pp, .ref so, .ref ty])), (ty, .inl (cty, 26, .inl ga))] → va_S A s.heap H locs → lv_has ls 6 [(4, .int ii), (3, .ref d_9), (0, .ref gt), (1, .int i1), (2, .int i2)] → W p l e (headSpec mwX9_best ({ frames := 3, cells := 0, slots := 0, locals := 180 })).room s m ([.ref gt, .int i1, .int i2]).toArray below meth c H locs 0 0 (MQ below (va_Qi (fun (_ : Int32) (_ : Unit) => True) (fun _ t => ∃ (y0 : Int32) (f9 : Nat → Int32), va_P (dC, dI) vwCl [(gt, .inr (9, [.int y0, .ref tp, .int td, .int fk, .int fpl, .ref bk, .int un, .ref mb, .ref mu, .int mk, .ref rd, .ref cm, .ref wk, .ref pp, .ref so, .ref ty])), (ty, .inl (cty, 26, .inl f9))] t.heap ∧ va_K (dC, dI) vwCl [(cty, .int)] t ∧ va_D A [(gt, .inr (9, [.int y0, .ref tp, .int td, .int fk, .int fpl, .ref bk, .int un, .ref mb, .ref mu, .int mk, .ref rd, .ref cm, .ref wk, .ref pp, .ref so, .ref ty])), (ty, .inl (cty, 26, .inl f9))]) A) ([.ref gt, .int i1, .int i2]).toArray s 0 0 A) (F0 m 55 ls []) := by
          intro lm55
          induction lm55 with
          | zero => intro ii ga v55_0 hm55; exact absurd hm55 (Nat.not_lt_zero _)
          | succ lm55 ih55 =>
            intro ii ga v55_0 hm55 H locs ls hP hD hS hl
            have hQ := q_at hQ0 hQA hS
            have rg_ii := i_rng ii
            refine lv_iload hx hb dX9_best_55 (lv_at hl 0 rfl) ?_
            refine lv_aload_n hx hb dX9_best_57 rfl (lv_at hl 2 rfl) ?_
            refine va_get (D := (dC, dI)) (ci := 9) (v := .ref bk) (C := RX9) (T := TX9) (N := 16) hx hb hts fin_X9_best_X9 hown hK hP 0 rfl rfl 5 (by decide) (hts (.fieldLink RX9 29 "PatternGate" "book" "LPatternGate$Book;") (List.mem_of_getElem? (i := 1) (by decide +kernel))) (fun _ h9 => h9) rfl dX9_best_58 ?_
            refine va_get (D := (dC, dI)) (ci := 0) (v := .ref ps) (C := RX0) (T := TX0) (N := 3) hx hb hts fin_X9_best_X0 hown hKQ hQ k_1 hk_1 rfl 1 (by decide) (hts (.fieldLink RX9 103 "PatternGate$Book" "patterns" "[LPatternGate$Pattern;") (List.mem_of_getElem? (i := 15) (by decide +kernel))) (fun _ h9 => h9) rfl dX9_best_61 ?_
            refine va_alen hx hb hKQ hQ k_4 j_5 hk_4 hj_5 rfl dX9_best_64 ?_
            refine lv_topi (fun y_37 ey_37 => ?_)
            have ty_37 : y_37.toInt = (np : Int) := i_len ey_37 (by omega)
            refine lv_icmp_ge (tgt := 101) hx hb dX9_best_65 (by decide) (fun k_38 => ?_) (fun k_38 => ?_)
            · have tk_38 := c_ge (a := ii.toInt) (b := y_37.toInt) rfl rfl k_38
              refine lv_iconst (v := 0) hx hb dX9_best_101 (by decide) ?_
              refine lv_istore (lv' := [(4, .int 0), (3, .ref d_9), (0, .ref gt), (1, .int i1), (2, .int i2)]) hx hb dX9_best_102 hl (by decide) rfl (fun ls hl => ?_)
              refine lv_iconst (v := 1) hx hb dX9_best_104 (by decide) ?_
              refine lv_istore (lv' := [(5, .int 1), (4, .int 0), (3, .ref d_9), (0, .ref gt), (1, .int i1), (2, .int i2)]) hx hb dX9_best_105 hl (by decide) rfl (fun ls hl => ?_)
              have loop107 : ∀ (lm107 : Nat) (bt kk : Int32), (0 ≤ bt.toInt ∧ bt.toInt < 26) → (1 ≤ kk.toInt) → ((26 - kk.toInt).toNat) < lm107 → ∀ (H : Heap) (locs : List Loc) (ls : Array Slot), va_P (dC, dI) vwCl [(gt, .inr (9, [.int st9, .ref tp, .int td, .int fk, .int fpl, .ref bk, .int un, .ref mb, .ref mu, .int mk, .ref rd, .ref cm, .ref wk, .ref pp, .ref so, .ref ty])), (ty, .inl (cty, 26, .inl ga))] H → va_D A [(gt, .inr (9, [.int st9, .ref tp, .int td, .int fk, .int fpl, .ref bk, .int un, .ref mb, .ref mu, .int mk, .ref rd, .ref cm, .ref wk, .ref pp, .ref so, .ref ty])), (ty, .inl (cty, 26, .inl ga))] → va_S A s.heap H locs → lv_has ls 6 [(5, .int kk), (4, .int bt), (3, .ref d_9), (0, .ref gt), (1, .int i1), (2, .int i2)] → W p l e (headSpec mwX9_best ({ frames := 3, cells := 0, slots := 0, locals := 180 })).room s m ([.ref gt, .int i1, .int i2]).toArray below meth c H locs 0 0 (MQ below (va_Qi (fun (_ : Int32) (_ : Unit) => True) (fun _ t => ∃ (y0 : Int32) (f9 : Nat → Int32), va_P (dC, dI) vwCl [(gt, .inr (9, [.int y0, .ref tp, .int td, .int fk, .int fpl, .ref bk, .int un, .ref mb, .ref mu, .int mk, .ref rd, .ref cm, .ref wk, .ref pp, .ref so, .ref ty])), (ty, .inl (cty, 26, .inl f9))] t.heap ∧ va_K (dC, dI) vwCl [(cty, .int)] t ∧ va_D A [(gt, .inr (9, [.int y0, .ref tp, .int td, .int fk, .int fpl, .ref bk, .int un, .ref mb, .ref mu, .int mk, .ref rd, .ref cm, .ref wk, .ref pp, .ref so, .ref ty])), (ty, .inl (cty, 26, .inl f9))]) A) ([.ref gt, .int i1, .int i2]).toArray s 0 0 A) (F0 m 107 ls []) := by
                intro lm107
                induction lm107 with
                | zero => intro bt kk v107_0 v107_1 hm107; exact absurd hm107 (Nat.not_lt_zero _)
                | succ lm107 ih107 =>
                  intro bt kk v107_0 v107_1 hm107 H locs ls hP hD hS hl
                  have hQ := q_at hQ0 hQA hS
                  have rg_bt := i_rng bt
                  have rg_kk := i_rng kk
                  refine lv_iload hx hb dX9_best_107 (lv_at hl 0 rfl) ?_
                  refine lv_bipush (v := 26) hx hb dX9_best_109 (by decide) ?_
                  refine lv_icmp_ge (tgt := 141) hx hb dX9_best_111 (by decide) (fun k_39 => ?_) (fun k_39 => ?_)
                  · have tk_39 := c_ge (a := kk.toInt) (b := 26) rfl (by decide) k_39
                    refine lv_aload_n hx hb dX9_best_141 rfl (lv_at hl 3 rfl) ?_
                    refine lv_iload hx hb dX9_best_142 (lv_at hl 1 rfl) ?_
                    have hPc := hP.sub (ws' := [(gt, .inr (9, [.int st9, .ref tp, .int td, .int fk, .int fpl, .ref bk, .int un, .ref mb, .ref mu, .int mk, .ref rd, .ref cm, .ref wk, .ref pp, .ref so, .ref ty]))]) [0] rfl
                    have hKc := hK.sub (tys' := []) [] rfl
                    have hDc := hD.sub (ws' := [(gt, .inr (9, [.int st9, .ref tp, .int td, .int fk, .int fpl, .ref bk, .int un, .ref mb, .ref mu, .int mk, .ref rd, .ref cm, .ref wk, .ref pp, .ref so, .ref ty]))]) [0] (by decide) rfl
                    have hFc := va_free (wc := [(gt, .inr (9, [.int st9, .ref tp, .int td, .int fk, .int fpl, .ref bk, .int un, .ref mb, .ref mu, .int mk, .ref rd, .ref cm, .ref wk, .ref pp, .ref so, .ref ty]))]) hD hS hA [0] rfl
                    refine va_calli (va_runV (As := [.int bt]) (rest := []) ⟨hx, hb, hml, hown, hts⟩ (s_answer l dC dI gt tp bk mb mu rd cm wk pp so ty st9 td fk fpl un mk H.size bt) (cwV 1 hts mg_X9_best_X9_answer_100 rfl rfl rfl (by decide +kernel) ⟨Nat.le_of_ble_eq_true rfl, Nat.le_of_ble_eq_true rfl⟩) ⟨fun a U g mk q => by obtain ⟨q0, q1, qP, qK, qD⟩ := q; exact ⟨q0, q1, qP, va_K.moved (u := U) (U := U.calling g mk a) (Vm.Alike.refl U.vm) qK, qD⟩, va_recv hKc hPc (ci := 9) (q0 := 0) rfl rfl, fun U hU hW => ⟨rfl, by rw [hU], by rw [hU]; exact hPc, va_K.moved hW.alike hKc, hDc.weaken (fun _ _ _ _ => trivial)⟩⟩ rfl rfl hl.1 rfl (lv_room (Nat.le_of_ble_eq_true rfl)) dX9_best_144 ⟨Nat.le_of_ble_eq_true rfl, Nat.le_of_ble_eq_true rfl⟩) hS (fun q _ h => hFc q h) hFc (fun r_41 u t H1 locs ht hvm hw hB hz1 hk1 hS => ?_)
                    obtain ⟨hP1, hK1, hD1⟩ := hB
                    rw [ht] at hP1
                    have hr_41 := hw
                    obtain ⟨hP, hD⟩ := va_join (wr := [(ty, .inl (cty, 26, .inl ga))]) (w1 := [(gt, .inr (9, [.int 0, .ref tp, .int td, .int fk, .int fpl, .ref bk, .int un, .ref mb, .ref mu, .int mk, .ref rd, .ref cm, .ref wk, .ref pp, .ref so, .ref ty]))]) hP hD [0] [1] rfl rfl (by decide) (by decide) hk1 hFc hP1 hD1
                    generalize H1 = H at hP hS ⊢
                    have hP : va_P (dC, dI) vwCl [(ty, .inl (cty, 26, .inl ga)), (gt, .inr (9, [.int 0, .ref tp, .int td, .int fk, .int fpl, .ref bk, .int un, .ref mb, .ref mu, .int mk, .ref rd, .ref cm, .ref wk, .ref pp, .ref so, .ref ty]))] H := hP
                    have hD : va_D A [(ty, .inl (cty, 26, .inl ga)), (gt, .inr (9, [.int 0, .ref tp, .int td, .int fk, .int fpl, .ref bk, .int un, .ref mb, .ref mu, .int mk, .ref rd, .ref cm, .ref wk, .ref pp, .ref so, .ref ty]))] := hD
                    have hQ := q_at hQ0 hQA hS
                    have hP9 := hP.sub (ws' := [(gt, .inr (9, [.int 0, .ref tp, .int td, .int fk, .int fpl, .ref bk, .int un, .ref mb, .ref mu, .int mk, .ref rd, .ref cm, .ref wk, .ref pp, .ref so, .ref ty])), (ty, .inl (cty, 26, .inl ga))]) [1, 0] rfl
                    have hD9 := hD.sub (ws' := [(gt, .inr (9, [.int 0, .ref tp, .int td, .int fk, .int fpl, .ref bk, .int un, .ref mb, .ref mu, .int mk, .ref rd, .ref cm, .ref wk, .ref pp, .ref so, .ref ty])), (ty, .inl (cty, 26, .inl ga))]) [1, 0] (by decide) rfl
                    have hK9 := hK.sub (tys' := [(cty, .int)]) [0] rfl
                    exact W.iret hx hb hr (fun t ht hW => ⟨⟨_, (), rfl, trivial, 0, ga, by rw [ht]; exact hP9, va_K.moved hW.alike hK9, hD9⟩, hS.F ht⟩) hS.2.2 dX9_best_147
                  · have tk_39 := c_nge (a := kk.toInt) (b := 26) rfl (by decide) k_39
                    refine lv_aload_n hx hb dX9_best_114 rfl (lv_at hl 3 rfl) ?_
                    refine va_get (D := (dC, dI)) (ci := 9) (v := .ref ty) (C := RX9) (T := TX9) (N := 16) hx hb hts fin_X9_best_X9 hown hK hP 0 rfl rfl 15 (by decide) (hts (.fieldLink RX9 67 "PatternGate" "tally" "[I") (List.mem_of_getElem? (i := 11) (by decide +kernel))) (fun _ h9 => h9) rfl dX9_best_115 ?_
                    refine lv_iload hx hb dX9_best_118 (lv_at hl 0 rfl) ?_
                    refine va_iald hx hb hK hP 1 0 rfl rfl (i := kk) (vp_of (a := kk.toInt) rfl (by omega) (by omega)) dX9_best_120 ?_
                    refine lv_topi (fun y_42 ey_42 => ?_)
                    have rg_y_42 := i_rng y_42
                    refine lv_aload_n hx hb dX9_best_121 rfl (lv_at hl 3 rfl) ?_
                    refine va_get (D := (dC, dI)) (ci := 9) (v := .ref ty) (C := RX9) (T := TX9) (N := 16) hx hb hts fin_X9_best_X9 hown hK hP 0 rfl rfl 15 (by decide) (hts (.fieldLink RX9 67 "PatternGate" "tally" "[I") (List.mem_of_getElem? (i := 11) (by decide +kernel))) (fun _ h9 => h9) rfl dX9_best_122 ?_
                    refine lv_iload hx hb dX9_best_125 (lv_at hl 1 rfl) ?_
                    refine va_iald hx hb hK hP 1 0 rfl rfl (i := bt) (vp_of (a := bt.toInt) rfl (by omega) (by omega)) dX9_best_127 ?_
                    refine lv_topi (fun y_43 ey_43 => ?_)
                    have rg_y_43 := i_rng y_43
                    refine lv_icmp_le (tgt := 135) hx hb dX9_best_128 (by decide) (fun k_44 => ?_) (fun k_44 => ?_)
                    · have tk_44 := c_le (a := y_42.toInt) (b := y_43.toInt) rfl rfl k_44
                      obtain ⟨y_45, ey_45⟩ : ∃ y : Int32, y = kk + 1 := ⟨_, rfl⟩
                      first | have ty_45 := i_add (a := kk.toInt) (b := 1) rfl (by decide) ey_45 (by omega) (by omega) | skip
                      refine lv_iinc (v := y_45) (lv' := [(5, .int y_45), (4, .int bt), (3, .ref d_9), (0, .ref gt), (1, .int i1), (2, .int i2)]) hx hb dX9_best_135 hl (k := 0) rfl (by rw [ey_45]; rfl) (by decide) rfl (fun ls hl => ?_)
                      refine lv_goto (tgt := 107) hx hb dX9_best_138 (by decide) ?_
                      exact ih107 bt y_45 (by first | omega | assumption | decide) (by first | omega | assumption | decide) (by omega) _ _ ls hP hD hS (lv_sub hl [0, 1, 2, 3, 4, 5] rfl)
                    · have tk_44 := c_nle (a := y_42.toInt) (b := y_43.toInt) rfl rfl k_44
                      refine lv_iload hx hb dX9_best_131 (lv_at hl 0 rfl) ?_
                      refine lv_istore (lv' := [(4, .int kk), (5, .int kk), (3, .ref d_9), (0, .ref gt), (1, .int i1), (2, .int i2)]) hx hb dX9_best_133 hl (by decide) rfl (fun ls hl => ?_)
                      obtain ⟨y_46, ey_46⟩ : ∃ y : Int32, y = kk + 1 := ⟨_, rfl⟩
                      first | have ty_46 := i_add (a := kk.toInt) (b := 1) rfl (by decide) ey_46 (by omega) (by omega) | skip
                      refine lv_iinc (v := y_46) (lv' := [(5, .int y_46), (4, .int kk), (3, .ref d_9), (0, .ref gt), (1, .int i1), (2, .int i2)]) hx hb dX9_best_135 hl (k := 1) rfl (by rw [ey_46]; rfl) (by decide) rfl (fun ls hl => ?_)
                      refine lv_goto (tgt := 107) hx hb dX9_best_138 (by decide) ?_
                      exact ih107 kk y_46 (by first | omega | assumption | decide) (by first | omega | assumption | decide) (by omega) _ _ ls hP hD hS (lv_sub hl [0, 1, 2, 3, 4, 5] rfl)
              have lit_46 : (0 : Int32).toInt = 0 := by decide
              have lit_47 : (1 : Int32).toInt = 1 := by decide
              exact loop107 _ 0 1 (by first | omega | assumption | decide) (by first | omega | assumption | decide) (Nat.lt_succ_self _) _ _ ls hP hD hS (lv_sub hl [0, 1, 2, 3, 4, 5] rfl)
            · have tk_38 := c_nge (a := ii.toInt) (b := y_37.toInt) rfl rfl k_38
              refine lv_aload_n hx hb dX9_best_68 rfl (lv_at hl 2 rfl) ?_
              refine va_get (D := (dC, dI)) (ci := 9) (v := .ref bk) (C := RX9) (T := TX9) (N := 16) hx hb hts fin_X9_best_X9 hown hK hP 0 rfl rfl 5 (by decide) (hts (.fieldLink RX9 29 "PatternGate" "book" "LPatternGate$Book;") (List.mem_of_getElem? (i := 1) (by decide +kernel))) (fun _ h9 => h9) rfl dX9_best_69 ?_
              refine lv_iload hx hb dX9_best_72 (lv_at hl 0 rfl) ?_
              have hPc := hQ
              have hKc := hKQ
              refine va_csq (W.runV (As := [.int ii]) (rest := []) ⟨hx, hb, hml, hown, hts⟩ (s_patternAt2 l dC dI W9 T9 bk ear ii hB3) (cwV 1 hts mg_X9_best_X0_patternAt_140 rfl rfl rfl (by decide +kernel) ⟨Nat.le_of_ble_eq_true rfl, Nat.le_of_ble_eq_true rfl⟩) ⟨fun a U g mk q => by obtain ⟨q0, qP, qK⟩ := q; exact ⟨q0, qP, va_K.moved (u := U) (U := U.calling g mk a) (Vm.Alike.refl U.vm) qK⟩, va_recv hKc hPc (ci := 0) (q0 := k_1) rfl hk_1, fun U hU hW => ⟨rfl, by rw [hU]; exact hPc, va_K.moved hW.alike hKc⟩⟩ rfl rfl hl.1 rfl (lv_room (Nat.le_of_ble_eq_true rfl)) dX9_best_74 ⟨Nat.le_of_ble_eq_true rfl, Nat.le_of_ble_eq_true rfl⟩) (fun r_50 hw => ?_)
              rcases hw with rfl | ⟨d_51, rfl, hd_51⟩
              · refine W.eq (g2 := F0 m 77 ls [.null]) rfl ?_
                refine lv_astoreN (lv' := [(5, .null), (4, .int ii), (3, .ref d_9), (0, .ref gt), (1, .int i1), (2, .int i2)]) hx hb dX9_best_77 hl (by decide) rfl (fun ls hl => ?_)
                refine lv_aloadN hx hb dX9_best_79 (lv_at hl 0 rfl) ?_
                refine lv_ifnullN (tgt := 95) hx hb dX9_best_81 (by decide) ?_
                obtain ⟨y_52, ey_52⟩ : ∃ y : Int32, y = ii + 1 := ⟨_, rfl⟩
                first | have ty_52 := i_add (a := ii.toInt) (b := 1) rfl (by decide) ey_52 (by omega) (by omega) | skip
                refine lv_iinc (v := y_52) (lv' := [(4, .int y_52), (5, .null), (3, .ref d_9), (0, .ref gt), (1, .int i1), (2, .int i2)]) hx hb dX9_best_95 hl (k := 1) rfl (by rw [ey_52]; rfl) (by decide) rfl (fun ls hl => ?_)
                refine lv_goto (tgt := 55) hx hb dX9_best_98 (by decide) ?_
                exact ih55 y_52 ga (by first | omega | assumption | decide) (by omega) _ _ ls hP hD hS (lv_sub hl [0, 2, 3, 4, 5] rfl)
              · refine W.eq (g2 := F0 m 77 ls [.ref d_51]) rfl ?_
                have hd_51P := hd_51.poP
                have hd_51Q := hd_51
                obtain ⟨q_53, a_54, a_55, a_56, a_57, a_58, a_59, n_60, n_61, n_62, n_63, n_64, n_65, n_66, f_67, f_68, f_69, f_70, f_71, f_72, f_73, c_74, c_75, c_76, c_77, c_78, c_79, c_80, m_81, ⟨m_82, m_83⟩, ⟨m_84, m_85⟩, ⟨m_86, m_87⟩, ⟨m_88, m_89⟩, ⟨m_90, m_91⟩, ⟨m_92, m_93⟩, ⟨m_94, m_95, h_106⟩, h_96, h_97, h_98, h_99, h_100, h_101, h_102, h_103, h_104, h_105⟩ := hd_51
                obtain ⟨k_107, hk_107⟩ := List.getElem?_of_mem m_81
                obtain ⟨k_108, hk_108⟩ := List.getElem?_of_mem m_82
                obtain ⟨j_109, hj_109⟩ := List.getElem?_of_mem m_83
                obtain ⟨k_110, hk_110⟩ := List.getElem?_of_mem m_84
                obtain ⟨j_111, hj_111⟩ := List.getElem?_of_mem m_85
                obtain ⟨k_112, hk_112⟩ := List.getElem?_of_mem m_86
                obtain ⟨j_113, hj_113⟩ := List.getElem?_of_mem m_87
                obtain ⟨k_114, hk_114⟩ := List.getElem?_of_mem m_88
                obtain ⟨j_115, hj_115⟩ := List.getElem?_of_mem m_89
                obtain ⟨k_116, hk_116⟩ := List.getElem?_of_mem m_90
                obtain ⟨j_117, hj_117⟩ := List.getElem?_of_mem m_91
                obtain ⟨k_118, hk_118⟩ := List.getElem?_of_mem m_92
                obtain ⟨j_119, hj_119⟩ := List.getElem?_of_mem m_93
                obtain ⟨k_120, hk_120⟩ := List.getElem?_of_mem m_94
                obtain ⟨j_121, hj_121⟩ := List.getElem?_of_mem m_95
                refine lv_astore (lv' := [(5, .ref d_51), (4, .int ii), (3, .ref d_9), (0, .ref gt), (1, .int i1), (2, .int i2)]) hx hb dX9_best_77 hl (by decide) rfl (fun ls hl => ?_)
                refine lv_aload hx hb dX9_best_79 (lv_at hl 0 rfl) ?_
                refine lv_ifnull hx hb dX9_best_81 ?_
                refine lv_aload hx hb dX9_best_84 (lv_at hl 0 rfl) ?_
                refine lv_aload_n hx hb dX9_best_86 rfl (lv_at hl 2 rfl) ?_
                refine lv_iload_n hx hb dX9_best_87 rfl (lv_at hl 5 rfl) ?_
                refine lv_aload_n hx hb dX9_best_88 rfl (lv_at hl 3 rfl) ?_
                refine va_get (D := (dC, dI)) (ci := 9) (v := .ref ty) (C := RX9) (T := TX9) (N := 16) hx hb hts fin_X9_best_X9 hown hK hP 0 rfl rfl 15 (by decide) (hts (.fieldLink RX9 67 "PatternGate" "tally" "[I") (List.mem_of_getElem? (i := 11) (by decide +kernel))) (fun _ h9 => h9) rfl dX9_best_89 ?_
                have hPc := hP.sub (ws' := [(ty, .inl (cty, 26, .inl ga))]) [1] rfl
                have hKc := hK.sub (tys' := [(cty, .int)]) [0] rfl
                have hDc := hD.sub (ws' := [(ty, .inl (cty, 26, .inl ga))]) [1] (by decide) rfl
                have hFc := va_free (wc := [(ty, .inl (cty, 26, .inl ga))]) hD hS hA [1] rfl
                refine va_callv (va_runV (As := [.ref d_9, .int i2, .ref ty]) (rest := []) ⟨hx, hb, hml, hown, hts⟩ (s_tallyLetters l dC dI W9 T9 d_51 d_9 ty cty ga H.size i2 hd_51P hd_9D (by omega)) (cwV 3 hts mg_X9_best_X5_tallyLetters_289 rfl rfl rfl (by decide +kernel) ⟨Nat.le_of_ble_eq_true rfl, Nat.le_of_ble_eq_true rfl⟩) ⟨fun a U g mk q => by obtain ⟨q0, q1, qP, qK, qD, qE0, qE1, qE2⟩ := q; exact ⟨q0, q1, qP, va_K.moved (u := U) (U := U.calling g mk a) (Vm.Alike.refl U.vm) qK, qD, qE0, va_K.moved (u := U) (U := U.calling g mk a) (Vm.Alike.refl U.vm) qE1, qE2⟩, va_recv hKQ hQ (ci := 5) (q0 := k_107) rfl hk_107, fun U hU hW => ⟨rfl, by rw [hU], by rw [hU]; exact hPc, va_K.moved hW.alike hKc, hDc.weaken (fun _ _ _ _ => trivial), (by rw [hU]; exact hQ), va_K.moved hW.alike hKQ, (fun q hq => qA_sub (hQA q hq) hFc)⟩⟩ rfl rfl hl.1 rfl (lv_room (Nat.le_of_ble_eq_true rfl)) dX9_best_92 ⟨Nat.le_of_ble_eq_true rfl, Nat.le_of_ble_eq_true rfl⟩) hS (fun q _ h => hFc q h) hFc (fun u t H1 locs ht hvm hw hB hz1 hk1 hS => ?_)
                obtain ⟨f_124, hP1, hK1, hD1⟩ := hB
                rw [ht] at hP1
                obtain ⟨hP, hD⟩ := va_join (wr := [(gt, .inr (9, [.int st9, .ref tp, .int td, .int fk, .int fpl, .ref bk, .int un, .ref mb, .ref mu, .int mk, .ref rd, .ref cm, .ref wk, .ref pp, .ref so, .ref ty]))]) (w1 := [(ty, .inl (cty, 26, .inl f_124))]) hP hD [1] [0] rfl rfl (by decide) (by decide) hk1 hFc hP1 hD1
                generalize H1 = H at hP hS ⊢
                have hP : va_P (dC, dI) vwCl [(gt, .inr (9, [.int st9, .ref tp, .int td, .int fk, .int fpl, .ref bk, .int un, .ref mb, .ref mu, .int mk, .ref rd, .ref cm, .ref wk, .ref pp, .ref so, .ref ty])), (ty, .inl (cty, 26, .inl f_124))] H := hP
                have hD : va_D A [(gt, .inr (9, [.int st9, .ref tp, .int td, .int fk, .int fpl, .ref bk, .int un, .ref mb, .ref mu, .int mk, .ref rd, .ref cm, .ref wk, .ref pp, .ref so, .ref ty])), (ty, .inl (cty, 26, .inl f_124))] := hD
                have hQ := q_at hQ0 hQA hS
                obtain ⟨y_125, ey_125⟩ : ∃ y : Int32, y = ii + 1 := ⟨_, rfl⟩
                first | have ty_125 := i_add (a := ii.toInt) (b := 1) rfl (by decide) ey_125 (by omega) (by omega) | skip
                refine lv_iinc (v := y_125) (lv' := [(4, .int y_125), (5, .ref d_51), (3, .ref d_9), (0, .ref gt), (1, .int i1), (2, .int i2)]) hx hb dX9_best_95 hl (k := 1) rfl (by rw [ey_125]; rfl) (by decide) rfl (fun ls hl => ?_)
                refine lv_goto (tgt := 55) hx hb dX9_best_98 (by decide) ?_
                exact ih55 y_125 f_124 (by first | omega | assumption | decide) (by omega) _ _ ls hP hD hS (lv_sub hl [0, 2, 3, 4, 5] rfl)
        have lit_125 : (0 : Int32).toInt = 0 := by decide
        exact loop55 _ 0 f_36 (by first | omega | assumption | decide) (Nat.lt_succ_self _) _ _ ls hP hD hS (lv_sub hl [0, 1, 2, 3, 4] rfl)
      · have tk_33 := c_nlt (a := i2.toInt) (b := y_32.toInt) rfl rfl k_33
        refine lv_aload_n hx hb dX9_best_38 rfl (lv_at hl 1 rfl) ?_
        refine lv_iconst (v := 5) hx hb dX9_best_39 (by decide) ?_
        have hPc := hP.sub (ws' := [(gt, .inr (9, [.int st9, .ref tp, .int td, .int fk, .int fpl, .ref bk, .int un, .ref mb, .ref mu, .int mk, .ref rd, .ref cm, .ref wk, .ref pp, .ref so, .ref ty]))]) [0] rfl
        have hKc := hK.sub (tys' := []) [] rfl
        have hDc := hD.sub (ws' := [(gt, .inr (9, [.int st9, .ref tp, .int td, .int fk, .int fpl, .ref bk, .int un, .ref mb, .ref mu, .int mk, .ref rd, .ref cm, .ref wk, .ref pp, .ref so, .ref ty]))]) [0] (by decide) rfl
        have hFc := va_free (wc := [(gt, .inr (9, [.int st9, .ref tp, .int td, .int fk, .int fpl, .ref bk, .int un, .ref mb, .ref mu, .int mk, .ref rd, .ref cm, .ref wk, .ref pp, .ref so, .ref ty]))]) hD hS hA [0] rfl
        refine va_calli (va_runV (As := [.int 5]) (rest := []) ⟨hx, hb, hml, hown, hts⟩ (s_refuse l dC dI gt tp bk mb mu rd cm wk pp so ty st9 td fk fpl un mk H.size 5) (cwV 1 hts mg_X9_best_X9_refuse_80 rfl rfl rfl (by decide +kernel) ⟨Nat.le_of_ble_eq_true rfl, Nat.le_of_ble_eq_true rfl⟩) ⟨fun a U g mk q => by obtain ⟨q0, q1, qP, qK, qD⟩ := q; exact ⟨q0, q1, qP, va_K.moved (u := U) (U := U.calling g mk a) (Vm.Alike.refl U.vm) qK, qD⟩, va_recv hKc hPc (ci := 9) (q0 := 0) rfl rfl, fun U hU hW => ⟨rfl, by rw [hU], by rw [hU]; exact hPc, va_K.moved hW.alike hKc, hDc.weaken (fun _ _ _ _ => trivial)⟩⟩ rfl rfl hl.1 rfl (lv_room (Nat.le_of_ble_eq_true rfl)) dX9_best_40 ⟨Nat.le_of_ble_eq_true rfl, Nat.le_of_ble_eq_true rfl⟩) hS (fun q _ h => hFc q h) hFc (fun r_128 u t H1 locs ht hvm hw hB hz1 hk1 hS => ?_)
        obtain ⟨hP1, hK1, hD1⟩ := hB
        rw [ht] at hP1
        have hr_128 := hw
        obtain ⟨hP, hD⟩ := va_join (wr := [(ty, .inl (cty, 26, .inl fty))]) (w1 := [(gt, .inr (9, [.int 5, .ref tp, .int td, .int fk, .int fpl, .ref bk, .int un, .ref mb, .ref mu, .int mk, .ref rd, .ref cm, .ref wk, .ref pp, .ref so, .ref ty]))]) hP hD [0] [1] rfl rfl (by decide) (by decide) hk1 hFc hP1 hD1
        generalize H1 = H at hP hS ⊢
        have hP : va_P (dC, dI) vwCl [(ty, .inl (cty, 26, .inl fty)), (gt, .inr (9, [.int 5, .ref tp, .int td, .int fk, .int fpl, .ref bk, .int un, .ref mb, .ref mu, .int mk, .ref rd, .ref cm, .ref wk, .ref pp, .ref so, .ref ty]))] H := hP
        have hD : va_D A [(ty, .inl (cty, 26, .inl fty)), (gt, .inr (9, [.int 5, .ref tp, .int td, .int fk, .int fpl, .ref bk, .int un, .ref mb, .ref mu, .int mk, .ref rd, .ref cm, .ref wk, .ref pp, .ref so, .ref ty]))] := hD
        have hQ := q_at hQ0 hQA hS
        have hP9 := hP.sub (ws' := [(gt, .inr (9, [.int 5, .ref tp, .int td, .int fk, .int fpl, .ref bk, .int un, .ref mb, .ref mu, .int mk, .ref rd, .ref cm, .ref wk, .ref pp, .ref so, .ref ty])), (ty, .inl (cty, 26, .inl fty))]) [1, 0] rfl
        have hD9 := hD.sub (ws' := [(gt, .inr (9, [.int 5, .ref tp, .int td, .int fk, .int fpl, .ref bk, .int un, .ref mb, .ref mu, .int mk, .ref rd, .ref cm, .ref wk, .ref pp, .ref so, .ref ty])), (ty, .inl (cty, 26, .inl fty))]) [1, 0] (by decide) rfl
        have hK9 := hK.sub (tys' := [(cty, .int)]) [0] rfl
        exact W.iret hx hb hr (fun t ht hW => ⟨⟨_, (), rfl, trivial, 5, fty, by rw [ht]; exact hP9, va_K.moved hW.alike hK9, hD9⟩, hS.F ht⟩) hS.2.2 dX9_best_43
  · have tk_6 := c_nge (a := i2.toInt) (b := 0) rfl (by decide) k_6
    refine lv_aload_n hx hb dX9_best_4 rfl (lv_at hl 0 rfl) ?_
    refine lv_iconst (v := 1) hx hb dX9_best_5 (by decide) ?_
    have hPc := hP.sub (ws' := [(gt, .inr (9, [.int st9, .ref tp, .int td, .int fk, .int fpl, .ref bk, .int un, .ref mb, .ref mu, .int mk, .ref rd, .ref cm, .ref wk, .ref pp, .ref so, .ref ty]))]) [0] rfl
    have hKc := hK.sub (tys' := []) [] rfl
    have hDc := hD.sub (ws' := [(gt, .inr (9, [.int st9, .ref tp, .int td, .int fk, .int fpl, .ref bk, .int un, .ref mb, .ref mu, .int mk, .ref rd, .ref cm, .ref wk, .ref pp, .ref so, .ref ty]))]) [0] (by decide) rfl
    have hFc := va_free (wc := [(gt, .inr (9, [.int st9, .ref tp, .int td, .int fk, .int fpl, .ref bk, .int un, .ref mb, .ref mu, .int mk, .ref rd, .ref cm, .ref wk, .ref pp, .ref so, .ref ty]))]) hD hS hA [0] rfl
    refine va_calli (va_runV (As := [.int 1]) (rest := []) ⟨hx, hb, hml, hown, hts⟩ (s_refuse l dC dI gt tp bk mb mu rd cm wk pp so ty st9 td fk fpl un mk H.size 1) (cwV 1 hts mg_X9_best_X9_refuse_80 rfl rfl rfl (by decide +kernel) ⟨Nat.le_of_ble_eq_true rfl, Nat.le_of_ble_eq_true rfl⟩) ⟨fun a U g mk q => by obtain ⟨q0, q1, qP, qK, qD⟩ := q; exact ⟨q0, q1, qP, va_K.moved (u := U) (U := U.calling g mk a) (Vm.Alike.refl U.vm) qK, qD⟩, va_recv hKc hPc (ci := 9) (q0 := 0) rfl rfl, fun U hU hW => ⟨rfl, by rw [hU], by rw [hU]; exact hPc, va_K.moved hW.alike hKc, hDc.weaken (fun _ _ _ _ => trivial)⟩⟩ rfl rfl hl.1 rfl (lv_room (Nat.le_of_ble_eq_true rfl)) dX9_best_6 ⟨Nat.le_of_ble_eq_true rfl, Nat.le_of_ble_eq_true rfl⟩) hS (fun q _ h => hFc q h) hFc (fun r_130 u t H1 locs ht hvm hw hB hz1 hk1 hS => ?_)
    obtain ⟨hP1, hK1, hD1⟩ := hB
    rw [ht] at hP1
    have hr_130 := hw
    obtain ⟨hP, hD⟩ := va_join (wr := [(ty, .inl (cty, 26, .inl fty))]) (w1 := [(gt, .inr (9, [.int 1, .ref tp, .int td, .int fk, .int fpl, .ref bk, .int un, .ref mb, .ref mu, .int mk, .ref rd, .ref cm, .ref wk, .ref pp, .ref so, .ref ty]))]) hP hD [0] [1] rfl rfl (by decide) (by decide) hk1 hFc hP1 hD1
    generalize H1 = H at hP hS ⊢
    have hP : va_P (dC, dI) vwCl [(ty, .inl (cty, 26, .inl fty)), (gt, .inr (9, [.int 1, .ref tp, .int td, .int fk, .int fpl, .ref bk, .int un, .ref mb, .ref mu, .int mk, .ref rd, .ref cm, .ref wk, .ref pp, .ref so, .ref ty]))] H := hP
    have hD : va_D A [(ty, .inl (cty, 26, .inl fty)), (gt, .inr (9, [.int 1, .ref tp, .int td, .int fk, .int fpl, .ref bk, .int un, .ref mb, .ref mu, .int mk, .ref rd, .ref cm, .ref wk, .ref pp, .ref so, .ref ty]))] := hD
    have hQ := q_at hQ0 hQA hS
    have hP9 := hP.sub (ws' := [(gt, .inr (9, [.int 1, .ref tp, .int td, .int fk, .int fpl, .ref bk, .int un, .ref mb, .ref mu, .int mk, .ref rd, .ref cm, .ref wk, .ref pp, .ref so, .ref ty])), (ty, .inl (cty, 26, .inl fty))]) [1, 0] rfl
    have hD9 := hD.sub (ws' := [(gt, .inr (9, [.int 1, .ref tp, .int td, .int fk, .int fpl, .ref bk, .int un, .ref mb, .ref mu, .int mk, .ref rd, .ref cm, .ref wk, .ref pp, .ref so, .ref ty])), (ty, .inl (cty, 26, .inl fty))]) [1, 0] (by decide) rfl
    have hK9 := hK.sub (tys' := [(cty, .int)]) [0] rfl
    exact W.iret hx hb hr (fun t ht hW => ⟨⟨_, (), rfl, trivial, 1, fty, by rw [ht]; exact hP9, va_K.moved hW.alike hK9, hD9⟩, hS.F ht⟩) hS.2.2 dX9_best_9

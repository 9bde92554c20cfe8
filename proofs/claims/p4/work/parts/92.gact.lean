theorem dX9_copy_0 : decode cX9_copy 0 = .ok (.iload_n 2, 1) := by decide +kernel
theorem dX9_copy_1 : decode cX9_copy 1 = .ok (.ifCond .lt 8, 3) := by decide +kernel
theorem dX9_copy_4 : decode cX9_copy 4 = .ok (.iload_n 3, 1) := by decide +kernel
theorem dX9_copy_5 : decode cX9_copy 5 = .ok (.iconst 1, 1) := by decide +kernel
theorem dX9_copy_6 : decode cX9_copy 6 = .ok (.if_icmp .ge 9, 3) := by decide +kernel
theorem dX9_copy_9 : decode cX9_copy 9 = .ok (.aload_n 0, 1) := by decide +kernel
theorem dX9_copy_10 : decode cX9_copy 10 = .ok (.iconst 1, 1) := by decide +kernel
theorem dX9_copy_11 : decode cX9_copy 11 = .ok (.invokevirtual 80, 3) := by decide +kernel
theorem dX9_copy_14 : decode cX9_copy 14 = .ok (.ireturn, 1) := by decide +kernel
theorem dX9_copy_15 : decode cX9_copy 15 = .ok (.aload_n 0, 1) := by decide +kernel
theorem dX9_copy_16 : decode cX9_copy 16 = .ok (.getfield 29, 3) := by decide +kernel
theorem dX9_copy_19 : decode cX9_copy 19 = .ok (.iload_n 1, 1) := by decide +kernel
theorem dX9_copy_20 : decode cX9_copy 20 = .ok (.invokevirtual 123, 3) := by decide +kernel
theorem dX9_copy_23 : decode cX9_copy 23 = .ok (.astore 4, 2) := by decide +kernel
theorem dX9_copy_25 : decode cX9_copy 25 = .ok (.aload 4, 2) := by decide +kernel
theorem dX9_copy_27 : decode cX9_copy 27 = .ok (.ifnonnull 9, 3) := by decide +kernel
theorem dX9_copy_30 : decode cX9_copy 30 = .ok (.aload_n 0, 1) := by decide +kernel
theorem dX9_copy_31 : decode cX9_copy 31 = .ok (.iconst 2, 1) := by decide +kernel
theorem dX9_copy_32 : decode cX9_copy 32 = .ok (.invokevirtual 80, 3) := by decide +kernel
theorem dX9_copy_35 : decode cX9_copy 35 = .ok (.ireturn, 1) := by decide +kernel
theorem dX9_copy_36 : decode cX9_copy 36 = .ok (.aload_n 0, 1) := by decide +kernel
theorem dX9_copy_37 : decode cX9_copy 37 = .ok (.getfield 29, 3) := by decide +kernel
theorem dX9_copy_40 : decode cX9_copy 40 = .ok (.getfield 96, 3) := by decide +kernel
theorem dX9_copy_43 : decode cX9_copy 43 = .ok (.arraylength, 1) := by decide +kernel
theorem dX9_copy_44 : decode cX9_copy 44 = .ok (.bipush 10, 2) := by decide +kernel
theorem dX9_copy_46 : decode cX9_copy 46 = .ok (.if_icmp .lt 9, 3) := by decide +kernel
theorem dX9_copy_49 : decode cX9_copy 49 = .ok (.aload_n 0, 1) := by decide +kernel
theorem dX9_copy_50 : decode cX9_copy 50 = .ok (.iconst 3, 1) := by decide +kernel
theorem dX9_copy_51 : decode cX9_copy 51 = .ok (.invokevirtual 80, 3) := by decide +kernel
theorem dX9_copy_54 : decode cX9_copy 54 = .ok (.ireturn, 1) := by decide +kernel
theorem dX9_copy_55 : decode cX9_copy 55 = .ok (.aload 4, 2) := by decide +kernel
theorem dX9_copy_57 : decode cX9_copy 57 = .ok (.getfield 127, 3) := by decide +kernel
theorem dX9_copy_60 : decode cX9_copy 60 = .ok (.arraylength, 1) := by decide +kernel
theorem dX9_copy_61 : decode cX9_copy 61 = .ok (.istore 5, 2) := by decide +kernel
theorem dX9_copy_63 : decode cX9_copy 63 = .ok (.iload_n 2, 1) := by decide +kernel
theorem dX9_copy_64 : decode cX9_copy 64 = .ok (.iload 5, 2) := by decide +kernel
theorem dX9_copy_66 : decode cX9_copy 66 = .ok (.if_icmp .ge 11, 3) := by decide +kernel
theorem dX9_copy_69 : decode cX9_copy 69 = .ok (.iload_n 3, 1) := by decide +kernel
theorem dX9_copy_70 : decode cX9_copy 70 = .ok (.iload 5, 2) := by decide +kernel
theorem dX9_copy_72 : decode cX9_copy 72 = .ok (.iload_n 2, 1) := by decide +kernel
theorem dX9_copy_73 : decode cX9_copy 73 = .ok (.isub, 1) := by decide +kernel
theorem dX9_copy_74 : decode cX9_copy 74 = .ok (.if_icmp .le 9, 3) := by decide +kernel
theorem dX9_copy_77 : decode cX9_copy 77 = .ok (.aload_n 0, 1) := by decide +kernel
theorem dX9_copy_78 : decode cX9_copy 78 = .ok (.iconst 5, 1) := by decide +kernel
theorem dX9_copy_79 : decode cX9_copy 79 = .ok (.invokevirtual 80, 3) := by decide +kernel
theorem dX9_copy_82 : decode cX9_copy 82 = .ok (.ireturn, 1) := by decide +kernel
theorem dX9_copy_83 : decode cX9_copy 83 = .ok (.aload 4, 2) := by decide +kernel
theorem dX9_copy_85 : decode cX9_copy 85 = .ok (.getfield 127, 3) := by decide +kernel
theorem dX9_copy_88 : decode cX9_copy 88 = .ok (.iload_n 2, 1) := by decide +kernel
theorem dX9_copy_89 : decode cX9_copy 89 = .ok (.iload_n 2, 1) := by decide +kernel
theorem dX9_copy_90 : decode cX9_copy 90 = .ok (.iload_n 3, 1) := by decide +kernel
theorem dX9_copy_91 : decode cX9_copy 91 = .ok (.iadd, 1) := by decide +kernel
theorem dX9_copy_92 : decode cX9_copy 92 = .ok (.invokestatic 261, 3) := by decide +kernel
theorem dX9_copy_95 : decode cX9_copy 95 = .ok (.astore 6, 2) := by decide +kernel
theorem dX9_copy_97 : decode cX9_copy 97 = .ok (.aload_n 0, 1) := by decide +kernel
theorem dX9_copy_98 : decode cX9_copy 98 = .ok (.aload_n 0, 1) := by decide +kernel
theorem dX9_copy_99 : decode cX9_copy 99 = .ok (.getfield 29, 3) := by decide +kernel
theorem dX9_copy_102 : decode cX9_copy 102 = .ok (.aload 6, 2) := by decide +kernel
theorem dX9_copy_104 : decode cX9_copy 104 = .ok (.aload_n 0, 1) := by decide +kernel
theorem dX9_copy_105 : decode cX9_copy 105 = .ok (.getfield 64, 3) := by decide +kernel
theorem dX9_copy_108 : decode cX9_copy 108 = .ok (.invokestatic 247, 3) := by decide +kernel
theorem dX9_copy_111 : decode cX9_copy 111 = .ok (.invokevirtual 267, 3) := by decide +kernel
theorem dX9_copy_114 : decode cX9_copy 114 = .ok (.invokevirtual 92, 3) := by decide +kernel
theorem dX9_copy_117 : decode cX9_copy 117 = .ok (.aload_n 0, 1) := by decide +kernel
theorem dX9_copy_118 : decode cX9_copy 118 = .ok (.aload_n 0, 1) := by decide +kernel
theorem dX9_copy_119 : decode cX9_copy 119 = .ok (.getfield 29, 3) := by decide +kernel
theorem dX9_copy_122 : decode cX9_copy 122 = .ok (.getfield 96, 3) := by decide +kernel
theorem dX9_copy_125 : decode cX9_copy 125 = .ok (.arraylength, 1) := by decide +kernel
theorem dX9_copy_126 : decode cX9_copy 126 = .ok (.iconst 1, 1) := by decide +kernel
theorem dX9_copy_127 : decode cX9_copy 127 = .ok (.isub, 1) := by decide +kernel
theorem dX9_copy_128 : decode cX9_copy 128 = .ok (.invokevirtual 100, 3) := by decide +kernel
theorem dX9_copy_131 : decode cX9_copy 131 = .ok (.ireturn, 1) := by decide +kernel
def mwX9_copy : List Cond := .code yX9_copy cX9_copy 7 (some .int) :: (([.methodLink RX9 80 yX9_refuse, .instanceMethod yX9_refuse, .selects RX9 yX9_refuse yX9_refuse, .initialized RX9, .fieldLink RX9 29 "PatternGate" "book" "LPatternGate$Book;", .methodLink RX9 123 yX0_docAt, .instanceMethod yX0_docAt, .selects RX0 yX0_docAt yX0_docAt, .initialized RX0, .fieldLink RX9 96 "PatternGate$Book" "docs" "[LPatternGate$Doc;", .fieldLink RX9 127 "PatternGate$Doc" "letters" "[I", .methodLink RX9 261 yJ7_copyOfRange_feecc, .static yJ7_copyOfRange_feecc, .initialized RJ7, .fieldLink RX9 64 "PatternGate" "sorted" "[I", .methodLink RX9 247 yX2_made, .static yX2_made, .initialized RX2, .methodLink RX9 267 yX0_withOneMore, .instanceMethod yX0_withOneMore, .selects RX0 yX0_withOneMore yX0_withOneMore, .methodLink RX9 92 yX9_act, .instanceMethod yX9_act, .selects RX9 yX9_act yX9_act, .methodLink RX9 100 yX9_answer, .instanceMethod yX9_answer, .selects RX9 yX9_answer yX9_answer] : List Cond) ++ (wsX90 ++ (wsX00 ++ (wsX20 ++ (mwX9_refuse ++ (mwX0_docAt ++ (mwJ7_copyOfRange_feecc ++ (mwX2_made ++ (mwX0_withOneMore ++ (mwX9_act ++ (mwX9_answer)))))))))))
theorem fin_X9_copy_X0 : ∀ w ∈ wsX00, w ∈ mwX9_copy := fun w h => List.mem_cons_of_mem _ (List.mem_append_right _ (List.mem_append_right _ (List.mem_append_left _ h)))
theorem fin_X9_copy_X2 : ∀ w ∈ wsX20, w ∈ mwX9_copy := fun w h => List.mem_cons_of_mem _ (List.mem_append_right _ (List.mem_append_right _ (List.mem_append_right _ (List.mem_append_left _ h))))
theorem fin_X9_copy_X9 : ∀ w ∈ wsX90, w ∈ mwX9_copy := fun w h => List.mem_cons_of_mem _ (List.mem_append_right _ (List.mem_append_left _ h))
set_option maxRecDepth 100000 in
theorem gd_mwJ7_copyOfRange_feecc : mwJ7_copyOfRange_feecc.all goodWord = true := by decide +kernel
set_option maxRecDepth 100000 in
theorem gd_mwX0_withOneMore : mwX0_withOneMore.all goodWord = true := by decide +kernel
set_option maxRecDepth 20000 in
theorem mg_X9_copy_X9_refuse_80 : GoodIn mwX9_copy (wsV RX9 80 RX9 yX9_refuse mwX9_refuse) := gi_app (A := [.methodLink RX9 80 yX9_refuse, .instanceMethod yX9_refuse, .selects RX9 yX9_refuse yX9_refuse, .initialized RX9]) (goodIn_r _ [1, 2, 3, 4] (by decide +kernel) (by decide +kernel)) (gi_sub gd_mwX9_refuse (fun w h => List.mem_cons_of_mem _ (List.mem_append_right _ (List.mem_append_right _ (List.mem_append_right _ (List.mem_append_right _ (List.mem_append_left _ h)))))))
set_option maxRecDepth 20000 in
theorem mg_X9_copy_X0_docAt_123 : GoodIn mwX9_copy (wsV RX9 123 RX0 yX0_docAt mwX0_docAt) := gi_app (A := [.methodLink RX9 123 yX0_docAt, .instanceMethod yX0_docAt, .selects RX0 yX0_docAt yX0_docAt, .initialized RX0]) (goodIn_r _ [6, 7, 8, 9] (by decide +kernel) (by decide +kernel)) (gi_sub gd_mwX0_docAt (fun w h => List.mem_cons_of_mem _ (List.mem_append_right _ (List.mem_append_right _ (List.mem_append_right _ (List.mem_append_right _ (List.mem_append_right _ (List.mem_append_left _ h))))))))
set_option maxRecDepth 20000 in
theorem mg_X9_copy_J7_copyOfRange_feecc_261 : GoodIn mwX9_copy (va_wsS RX9 261 yJ7_copyOfRange_feecc mwJ7_copyOfRange_feecc) := gi_app (A := [.methodLink RX9 261 yJ7_copyOfRange_feecc, .static yJ7_copyOfRange_feecc, .initialized RJ7]) (goodIn_r _ [12, 13, 14] (by decide +kernel) (by decide +kernel)) (gi_sub gd_mwJ7_copyOfRange_feecc (fun w h => List.mem_cons_of_mem _ (List.mem_append_right _ (List.mem_append_right _ (List.mem_append_right _ (List.mem_append_right _ (List.mem_append_right _ (List.mem_append_right _ (List.mem_append_left _ h)))))))))
set_option maxRecDepth 20000 in
theorem mg_X9_copy_X2_made_247 : GoodIn mwX9_copy (va_wsS RX9 247 yX2_made mwX2_made) := gi_app (A := [.methodLink RX9 247 yX2_made, .static yX2_made, .initialized RX2]) (goodIn_r _ [16, 17, 18] (by decide +kernel) (by decide +kernel)) (gi_sub gd_mwX2_made (fun w h => List.mem_cons_of_mem _ (List.mem_append_right _ (List.mem_append_right _ (List.mem_append_right _ (List.mem_append_right _ (List.mem_append_right _ (List.mem_append_right _ (List.mem_append_right _ (List.mem_append_left _ h))))))))))
set_option maxRecDepth 20000 in
theorem mg_X9_copy_X0_withOneMore_267 : GoodIn mwX9_copy (wsV RX9 267 RX0 yX0_withOneMore mwX0_withOneMore) := gi_app (A := [.methodLink RX9 267 yX0_withOneMore, .instanceMethod yX0_withOneMore, .selects RX0 yX0_withOneMore yX0_withOneMore, .initialized RX0]) (goodIn_r _ [19, 20, 21, 9] (by decide +kernel) (by decide +kernel)) (gi_sub gd_mwX0_withOneMore (fun w h => List.mem_cons_of_mem _ (List.mem_append_right _ (List.mem_append_right _ (List.mem_append_right _ (List.mem_append_right _ (List.mem_append_right _ (List.mem_append_right _ (List.mem_append_right _ (List.mem_append_right _ (List.mem_append_left _ h)))))))))))
set_option maxRecDepth 20000 in
theorem mg_X9_copy_X9_act_92 : GoodIn mwX9_copy (wsV RX9 92 RX9 yX9_act mwX9_act) := gi_app (A := [.methodLink RX9 92 yX9_act, .instanceMethod yX9_act, .selects RX9 yX9_act yX9_act, .initialized RX9]) (goodIn_r _ [22, 23, 24, 4] (by decide +kernel) (by decide +kernel)) (gi_sub gd_mwX9_act (fun w h => List.mem_cons_of_mem _ (List.mem_append_right _ (List.mem_append_right _ (List.mem_append_right _ (List.mem_append_right _ (List.mem_append_right _ (List.mem_append_right _ (List.mem_append_right _ (List.mem_append_right _ (List.mem_append_right _ (List.mem_append_left _ h))))))))))))
set_option maxRecDepth 20000 in
theorem mg_X9_copy_X9_answer_100 : GoodIn mwX9_copy (wsV RX9 100 RX9 yX9_answer mwX9_answer) := gi_app (A := [.methodLink RX9 100 yX9_answer, .instanceMethod yX9_answer, .selects RX9 yX9_answer yX9_answer, .initialized RX9]) (goodIn_r _ [25, 26, 27, 4] (by decide +kernel) (by decide +kernel)) (gi_sub gd_mwX9_answer (fun w h => List.mem_cons_of_mem _ (List.mem_append_right _ (List.mem_append_right _ (List.mem_append_right _ (List.mem_append_right _ (List.mem_append_right _ (List.mem_append_right _ (List.mem_append_right _ (List.mem_append_right _ (List.mem_append_right _ (List.mem_append_right _ (h)))))))))))))
set_option maxHeartbeats 4000000 in
set_option maxRecDepth 100000 in
/-- gate: copy -/
theorem s_g_copy (l : Launch) (dC : Nat → ClassId) (dI : Nat → Nat → Nat) (W9 : va_W) (T9 : List (ClassId × FieldType)) (B9 : Nat → Prop) (gt tp bk mb mu rd cm wk pp so ty : Nat) (st9 td fk fpl un mk : Int32) (cso : ClassId) (fso : Nat → Int32) (sz : Nat) (i1 i2 i3 : Int32) (hB9 : gB W9 T9 B9) (hbk : B9 bk) : Met l yX9_copy mwX9_copy ({ frames := 5, cells := 5, slots := 135, locals := 300 }) (va_Pc [.ref gt, .int i1, .int i2, .int i3] (fun U => U.heap.size = sz ∧ va_P (dC, dI) vwCl ([(gt, .inr (9, [.int st9, .ref tp, .int td, .int fk, .int fpl, .ref bk, .int un, .ref mb, .ref mu, .int mk, .ref rd, .ref cm, .ref wk, .ref pp, .ref so, .ref ty])), (so, .inl (cso, 60, .inl fso))]) U.heap ∧ va_K (dC, dI) vwCl ([(cso, .int)]) U ∧ va_D (fun _ => True) ([(gt, .inr (9, [.int st9, .ref tp, .int td, .int fk, .int fpl, .ref bk, .int un, .ref mb, .ref mu, .int mk, .ref rd, .ref cm, .ref wk, .ref pp, .ref so, .ref ty])), (so, .inl (cso, 60, .inl fso))]) ∧ va_Nw (.castable "[I" "java/lang/Cloneable") U ∧ va_AO "PatternGate$Doc" U ∧ va_P (dC, dI) vwCl W9 U.heap ∧ va_K (dC, dI) vwCl T9 U ∧ (∀ q ∈ W9, ¬ va_A ([(gt, .inr (9, [.int st9, .ref tp, .int td, .int fk, .int fpl, .ref bk, .int un, .ref mb, .ref mu, .int mk, .ref rd, .ref cm, .ref wk, .ref pp, .ref so, .ref ty])), (so, .inl (cso, 60, .inl fso))]) sz q.1))) (va_Qi (fun (_ : Int32) (_ : Unit) => True) (fun _ t => ∃ (y0 : Int32) (b9 : Nat) (y6 : Int32) (f9 : Nat → Int32) (W2 : va_W) (T2 : List (ClassId × FieldType)) (B2 : Nat → Prop), gN W9 W2 T9 T2 B9 B2 sz ∧ B2 b9 ∧ va_P (dC, dI) vwCl W2 t.heap ∧ va_K (dC, dI) vwCl T2 t ∧ va_P (dC, dI) vwCl [(gt, .inr (9, [.int y0, .ref tp, .int td, .int fk, .int fpl, .ref b9, .int y6, .ref mb, .ref mu, .int mk, .ref rd, .ref cm, .ref wk, .ref pp, .ref so, .ref ty])), (so, .inl (cso, 60, .inl f9))] t.heap ∧ va_K (dC, dI) vwCl [(cso, .int)] t ∧ va_D (va_A ([(gt, .inr (9, [.int st9, .ref tp, .int td, .int fk, .int fpl, .ref bk, .int un, .ref mb, .ref mu, .int mk, .ref rd, .ref cm, .ref wk, .ref pp, .ref so, .ref ty])), (so, .inl (cso, 60, .inl fso))]) sz) [(gt, .inr (9, [.int y0, .ref tp, .int td, .int fk, .int fpl, .ref b9, .int y6, .ref mb, .ref mu, .int mk, .ref rd, .ref cm, .ref wk, .ref pp, .ref so, .ref ty])), (so, .inl (cso, 60, .inl f9))]) (va_A ([(gt, .inr (9, [.int st9, .ref tp, .int td, .int fk, .int fpl, .ref bk, .int un, .ref mb, .ref mu, .int mk, .ref rd, .ref cm, .ref wk, .ref pp, .ref so, .ref ty])), (so, .inl (cso, 60, .inl fso))]) sz)) 5 135 (va_A ([(gt, .inr (9, [.int st9, .ref tp, .int td, .int fk, .int fpl, .ref bk, .int un, .ref mb, .ref mu, .int mk, .ref rd, .ref cm, .ref wk, .ref pp, .ref so, .ref ty])), (so, .inl (cso, 60, .inl fso))]) sz) := by
  refine Met.ofW (cc := cX9_copy) (maxL := 7) (ret := (some .int)) (by decide +kernel) rfl ?_
  intro p e s m args below meth c s₁ B hml hv
  obtain ⟨rfl, hsz, hP, hK, hD0, hcl, hAO2, hQ0, hKQ, hQA⟩ := hv
  have hx := B.exec
  have hb := B.bytes
  have hr := B.returns
  have hts := atoms_spec (ws := mwX9_copy) B.pre
  have hown : s.vm.findClass RX9 = some m.cls := findClass_of_methodNamed B.named
  have hlocks := B.notSynchronized
  subst hsz
  have hD := hD0.self (sz := s.heap.size)
  generalize hAe : va_A ([(gt, .inr (9, [.int st9, .ref tp, .int td, .int fk, .int fpl, .ref bk, .int un, .ref mb, .ref mu, .int mk, .ref rd, .ref cm, .ref wk, .ref pp, .ref so, .ref ty])), (so, .inl (cso, 60, .inl fso))]) s.heap.size = A at hD hQA ⊢
  have hA : ∀ q : Nat, s.heap.size ≤ q → A q := fun q h => by rw [← hAe]; exact Or.inr h
  obtain ⟨sz9, hz9⟩ : ∃ n : Nat, n = s.heap.size := ⟨_, rfl⟩
  rw [← hz9]
  have hP : va_P (dC, dI) vwCl [(gt, .inr (9, [.int st9, .ref tp, .int td, .int fk, .int fpl, .ref bk, .int un, .ref mb, .ref mu, .int mk, .ref rd, .ref cm, .ref wk, .ref pp, .ref so, .ref ty])), (so, .inl (cso, 60, .inl fso))] s.heap := hP
  have hD : va_D A [(gt, .inr (9, [.int st9, .ref tp, .int td, .int fk, .int fpl, .ref bk, .int un, .ref mb, .ref mu, .int mk, .ref rd, .ref cm, .ref wk, .ref pp, .ref so, .ref ty])), (so, .inl (cso, 60, .inl fso))] := hD
  have hK : va_K (dC, dI) vwCl [(cso, .int)] s := hK
  generalize hH : s.heap = H at hP ⊢
  have hS : va_S A s.heap H [] := by rw [← hH]; exact va_S.rf
  have hQ := q_at hQ0 hQA hS
  have hl := lv_entry ([.ref gt, .int i1, .int i2, .int i3]) (n := 7) (Nat.le_of_ble_eq_true rfl)
  rw [lg_entry_eq]
  generalize (lg_sl ([.ref gt, .int i1, .int i2, .int i3]) ++ List.replicate (7 - (lg_sl ([.ref gt, .int i1, .int i2, .int i3])).length) Slot.unset).toArray = ls at hl ⊢
  have hl : lv_has ls 7 [(0, .ref gt), (1, .int i1), (2, .int i2), (3, .int i3)] := hl
  have rg_i1 := i_rng i1
  have rg_i2 := i_rng i2
  have rg_i3 := i_rng i3
  obtain ⟨ear, hB3, hear⟩ := hB9 bk hbk
  have hB0 := hB3.poB
  obtain ⟨ds, ps, nd, np, fd, fp, cD, cP, m1, m2, m3, m4, m5, hnd, hnp, hds, hps⟩ := id hB3
  obtain ⟨k_1, hk_1⟩ := List.getElem?_of_mem m1
  obtain ⟨k_2, hk_2⟩ := List.getElem?_of_mem m2
  obtain ⟨j_3, hj_3⟩ := List.getElem?_of_mem m3
  obtain ⟨k_4, hk_4⟩ := List.getElem?_of_mem m4
  obtain ⟨j_5, hj_5⟩ := List.getElem?_of_mem m5
  have r_un := i_rng un
  have r_mk := i_rng mk
  have r_td := i_rng td
  refine lv_iload_n hx hb dX9_copy_0 rfl (lv_at hl 2 rfl) ?_
  refine lv_if_lt (tgt := 9) hx hb dX9_copy_1 (by decide) (fun k_6 => ?_) (fun k_6 => ?_)
  · have tk_6 := c_lt (a := i2.toInt) (b := 0) rfl (by decide) k_6
    refine lv_aload_n hx hb dX9_copy_9 rfl (lv_at hl 0 rfl) ?_
    refine lv_iconst (v := 1) hx hb dX9_copy_10 (by decide) ?_
    have hPc := hP.sub (ws' := [(gt, .inr (9, [.int st9, .ref tp, .int td, .int fk, .int fpl, .ref bk, .int un, .ref mb, .ref mu, .int mk, .ref rd, .ref cm, .ref wk, .ref pp, .ref so, .ref ty]))]) [0] rfl
    have hKc := hK.sub (tys' := []) [] rfl
    have hDc := hD.sub (ws' := [(gt, .inr (9, [.int st9, .ref tp, .int td, .int fk, .int fpl, .ref bk, .int un, .ref mb, .ref mu, .int mk, .ref rd, .ref cm, .ref wk, .ref pp, .ref so, .ref ty]))]) [0] (by decide) rfl
    have hFc := va_free (wc := [(gt, .inr (9, [.int st9, .ref tp, .int td, .int fk, .int fpl, .ref bk, .int un, .ref mb, .ref mu, .int mk, .ref rd, .ref cm, .ref wk, .ref pp, .ref so, .ref ty]))]) hD hS hA [0] rfl
    refine va_calli (va_runV (As := [.int 1]) (rest := []) ⟨hx, hb, hml, hown, hts⟩ (s_refuse l dC dI gt tp bk mb mu rd cm wk pp so ty st9 td fk fpl un mk H.size 1) (cwV 1 hts mg_X9_copy_X9_refuse_80 rfl rfl rfl (by decide +kernel) ⟨Nat.le_of_ble_eq_true rfl, Nat.le_of_ble_eq_true rfl⟩) ⟨fun a U g mk q => by obtain ⟨q0, q1, qP, qK, qD⟩ := q; exact ⟨q0, q1, qP, va_K.moved (u := U) (U := U.calling g mk a) (Vm.Alike.refl U.vm) qK, qD⟩, va_recv hKc hPc (ci := 9) (q0 := 0) rfl rfl, fun U hU hW => ⟨rfl, by rw [hU], by rw [hU]; exact hPc, va_K.moved hW.alike hKc, hDc.weaken (fun _ _ _ _ => trivial)⟩⟩ rfl rfl hl.1 rfl (lv_room (Nat.le_of_ble_eq_true rfl)) dX9_copy_11 ⟨Nat.le_of_ble_eq_true rfl, Nat.le_of_ble_eq_true rfl⟩) hS (fun q _ h => hFc q h) hFc (fun r_8 u t H1 locs ht hvm hw hB hz1 hk1 hS => ?_)
    obtain ⟨hP1, hK1, hD1⟩ := hB
    rw [ht] at hP1
    have hr_8 := hw
    obtain ⟨hP, hD⟩ := va_join (wr := [(so, .inl (cso, 60, .inl fso))]) (w1 := [(gt, .inr (9, [.int 1, .ref tp, .int td, .int fk, .int fpl, .ref bk, .int un, .ref mb, .ref mu, .int mk, .ref rd, .ref cm, .ref wk, .ref pp, .ref so, .ref ty]))]) hP hD [0] [1] rfl rfl (by decide) (by decide) hk1 hFc hP1 hD1
    generalize H1 = H at hP hS ⊢
    have hP : va_P (dC, dI) vwCl [(so, .inl (cso, 60, .inl fso)), (gt, .inr (9, [.int 1, .ref tp, .int td, .int fk, .int fpl, .ref bk, .int un, .ref mb, .ref mu, .int mk, .ref rd, .ref cm, .ref wk, .ref pp, .ref so, .ref ty]))] H := hP
    have hD : va_D A [(so, .inl (cso, 60, .inl fso)), (gt, .inr (9, [.int 1, .ref tp, .int td, .int fk, .int fpl, .ref bk, .int un, .ref mb, .ref mu, .int mk, .ref rd, .ref cm, .ref wk, .ref pp, .ref so, .ref ty]))] := hD
    have hQ := q_at hQ0 hQA hS
    have hP9 := hP.sub (ws' := [(gt, .inr (9, [.int 1, .ref tp, .int td, .int fk, .int fpl, .ref bk, .int un, .ref mb, .ref mu, .int mk, .ref rd, .ref cm, .ref wk, .ref pp, .ref so, .ref ty])), (so, .inl (cso, 60, .inl fso))]) [1, 0] rfl
    have hD9 := hD.sub (ws' := [(gt, .inr (9, [.int 1, .ref tp, .int td, .int fk, .int fpl, .ref bk, .int un, .ref mb, .ref mu, .int mk, .ref rd, .ref cm, .ref wk, .ref pp, .ref so, .ref ty])), (so, .inl (cso, 60, .inl fso))]) [1, 0] (by decide) rfl
    have hK9 := hK.sub (tys' := [(cso, .int)]) [0] rfl
    refine W.widen (k := 5) (n := 135) (by omega) (by omega) ?_
    exact W.iret hx hb hr (fun t ht hW => ⟨⟨_, (), rfl, trivial, 1, bk, un, fso, W9, T9, B9, gN.same hB9, hbk, by rw [ht]; exact hQ, va_K.moved hW.alike hKQ, by rw [ht]; exact hP9, va_K.moved hW.alike hK9, hD9⟩, hS.F ht⟩) hS.2.2 dX9_copy_14
  · have tk_6 := c_nlt (a := i2.toInt) (b := 0) rfl (by decide) k_6
    refine lv_iload_n hx hb dX9_copy_4 rfl (lv_at hl 3 rfl) ?_
    refine lv_iconst (v := 1) hx hb dX9_copy_5 (by decide) ?_
    refine lv_icmp_ge (tgt := 15) hx hb dX9_copy_6 (by decide) (fun k_9 => ?_) (fun k_9 => ?_)
    · have tk_9 := c_ge (a := i3.toInt) (b := 1) rfl (by decide) k_9
      refine lv_aload_n hx hb dX9_copy_15 rfl (lv_at hl 0 rfl) ?_
      refine va_get (D := (dC, dI)) (ci := 9) (v := .ref bk) (C := RX9) (T := TX9) (N := 16) hx hb hts fin_X9_copy_X9 hown hK hP 0 rfl rfl 5 (by decide) (hts (.fieldLink RX9 29 "PatternGate" "book" "LPatternGate$Book;") (List.mem_of_getElem? (i := 5) (by decide +kernel))) (fun _ h9 => h9) rfl dX9_copy_16 ?_
      refine lv_iload_n hx hb dX9_copy_19 rfl (lv_at hl 1 rfl) ?_
      have hPc := hQ
      have hKc := hKQ
      refine va_csq (W.runV (As := [.int i1]) (rest := []) ⟨hx, hb, hml, hown, hts⟩ (s_docAt l dC dI W9 T9 bk i1 hB0) (cwV 1 hts mg_X9_copy_X0_docAt_123 rfl rfl rfl (by decide +kernel) ⟨Nat.le_of_ble_eq_true rfl, Nat.le_of_ble_eq_true rfl⟩) ⟨fun a U g mk q => by obtain ⟨q0, qP, qK⟩ := q; exact ⟨q0, qP, va_K.moved (u := U) (U := U.calling g mk a) (Vm.Alike.refl U.vm) qK⟩, va_recv hKc hPc (ci := 0) (q0 := k_1) rfl hk_1, fun U hU hW => ⟨rfl, by rw [hU]; exact hPc, va_K.moved hW.alike hKc⟩⟩ rfl rfl hl.1 rfl (lv_room (Nat.le_of_ble_eq_true rfl)) dX9_copy_20 ⟨Nat.le_of_ble_eq_true rfl, Nat.le_of_ble_eq_true rfl⟩) (fun r_11 hw => ?_)
      rcases hw with rfl | ⟨d_12, rfl, hd_12⟩
      · refine W.eq (g2 := F0 m 23 ls [.null]) rfl ?_
        refine lv_astoreN (lv' := [(4, .null), (0, .ref gt), (1, .int i1), (2, .int i2), (3, .int i3)]) hx hb dX9_copy_23 hl (by decide) rfl (fun ls hl => ?_)
        refine lv_aloadN hx hb dX9_copy_25 (lv_at hl 0 rfl) ?_
        refine lv_ifnonnullN hx hb dX9_copy_27 ?_
        refine lv_aload_n hx hb dX9_copy_30 rfl (lv_at hl 1 rfl) ?_
        refine lv_iconst (v := 2) hx hb dX9_copy_31 (by decide) ?_
        have hPc := hP.sub (ws' := [(gt, .inr (9, [.int st9, .ref tp, .int td, .int fk, .int fpl, .ref bk, .int un, .ref mb, .ref mu, .int mk, .ref rd, .ref cm, .ref wk, .ref pp, .ref so, .ref ty]))]) [0] rfl
        have hKc := hK.sub (tys' := []) [] rfl
        have hDc := hD.sub (ws' := [(gt, .inr (9, [.int st9, .ref tp, .int td, .int fk, .int fpl, .ref bk, .int un, .ref mb, .ref mu, .int mk, .ref rd, .ref cm, .ref wk, .ref pp, .ref so, .ref ty]))]) [0] (by decide) rfl
        have hFc := va_free (wc := [(gt, .inr (9, [.int st9, .ref tp, .int td, .int fk, .int fpl, .ref bk, .int un, .ref mb, .ref mu, .int mk, .ref rd, .ref cm, .ref wk, .ref pp, .ref so, .ref ty]))]) hD hS hA [0] rfl
        refine va_calli (va_runV (As := [.int 2]) (rest := []) ⟨hx, hb, hml, hown, hts⟩ (s_refuse l dC dI gt tp bk mb mu rd cm wk pp so ty st9 td fk fpl un mk H.size 2) (cwV 1 hts mg_X9_copy_X9_refuse_80 rfl rfl rfl (by decide +kernel) ⟨Nat.le_of_ble_eq_true rfl, Nat.le_of_ble_eq_true rfl⟩) ⟨fun a U g mk q => by obtain ⟨q0, q1, qP, qK, qD⟩ := q; exact ⟨q0, q1, qP, va_K.moved (u := U) (U := U.calling g mk a) (Vm.Alike.refl U.vm) qK, qD⟩, va_recv hKc hPc (ci := 9) (q0 := 0) rfl rfl, fun U hU hW => ⟨rfl, by rw [hU], by rw [hU]; exact hPc, va_K.moved hW.alike hKc, hDc.weaken (fun _ _ _ _ => trivial)⟩⟩ rfl rfl hl.1 rfl (lv_room (Nat.le_of_ble_eq_true rfl)) dX9_copy_32 ⟨Nat.le_of_ble_eq_true rfl, Nat.le_of_ble_eq_true rfl⟩) hS (fun q _ h => hFc q h) hFc (fun r_14 u t H1 locs ht hvm hw hB hz1 hk1 hS => ?_)
        obtain ⟨hP1, hK1, hD1⟩ := hB
        rw [ht] at hP1
        have hr_14 := hw
        obtain ⟨hP, hD⟩ := va_join (wr := [(so, .inl (cso, 60, .inl fso))]) (w1 := [(gt, .inr (9, [.int 2, .ref tp, .int td, .int fk, .int fpl, .ref bk, .int un, .ref mb, .ref mu, .int mk, .ref rd, .ref cm, .ref wk, .ref pp, .ref so, .ref ty]))]) hP hD [0] [1] rfl rfl (by decide) (by decide) hk1 hFc hP1 hD1
        generalize H1 = H at hP hS ⊢
        have hP : va_P (dC, dI) vwCl [(so, .inl (cso, 60, .inl fso)), (gt, .inr (9, [.int 2, .ref tp, .int td, .int fk, .int fpl, .ref bk, .int un, .ref mb, .ref mu, .int mk, .ref rd, .ref cm, .ref wk, .ref pp, .ref so, .ref ty]))] H := hP
        have hD : va_D A [(so, .inl (cso, 60, .inl fso)), (gt, .inr (9, [.int 2, .ref tp, .int td, .int fk, .int fpl, .ref bk, .int un, .ref mb, .ref mu, .int mk, .ref rd, .ref cm, .ref wk, .ref pp, .ref so, .ref ty]))] := hD
        have hQ := q_at hQ0 hQA hS
        have hP9 := hP.sub (ws' := [(gt, .inr (9, [.int 2, .ref tp, .int td, .int fk, .int fpl, .ref bk, .int un, .ref mb, .ref mu, .int mk, .ref rd, .ref cm, .ref wk, .ref pp, .ref so, .ref ty])), (so, .inl (cso, 60, .inl fso))]) [1, 0] rfl
        have hD9 := hD.sub (ws' := [(gt, .inr (9, [.int 2, .ref tp, .int td, .int fk, .int fpl, .ref bk, .int un, .ref mb, .ref mu, .int mk, .ref rd, .ref cm, .ref wk, .ref pp, .ref so, .ref ty])), (so, .inl (cso, 60, .inl fso))]) [1, 0] (by decide) rfl
        have hK9 := hK.sub (tys' := [(cso, .int)]) [0] rfl
        refine W.widen (k := 5) (n := 135) (by omega) (by omega) ?_
        exact W.iret hx hb hr (fun t ht hW => ⟨⟨_, (), rfl, trivial, 2, bk, un, fso, W9, T9, B9, gN.same hB9, hbk, by rw [ht]; exact hQ, va_K.moved hW.alike hKQ, by rw [ht]; exact hP9, va_K.moved hW.alike hK9, hD9⟩, hS.F ht⟩) hS.2.2 dX9_copy_35
      · refine W.eq (g2 := F0 m 23 ls [.ref d_12]) rfl ?_
        have hd_12D := hd_12
        obtain ⟨la_15, ta_16, m_17, n_18, fl_19, ft_20, cI_21, cJ_22, m_23, ⟨m_24, m_25⟩, ⟨m_26, m_27⟩, m_28, m_29⟩ := hd_12
        obtain ⟨k_30, hk_30⟩ := List.getElem?_of_mem m_23
        obtain ⟨k_31, hk_31⟩ := List.getElem?_of_mem m_24
        obtain ⟨j_32, hj_32⟩ := List.getElem?_of_mem m_25
        obtain ⟨k_33, hk_33⟩ := List.getElem?_of_mem m_26
        obtain ⟨j_34, hj_34⟩ := List.getElem?_of_mem m_27
        refine lv_astore (lv' := [(4, .ref d_12), (0, .ref gt), (1, .int i1), (2, .int i2), (3, .int i3)]) hx hb dX9_copy_23 hl (by decide) rfl (fun ls hl => ?_)
        refine lv_aload hx hb dX9_copy_25 (lv_at hl 0 rfl) ?_
        refine lv_ifnonnull (tgt := 36) hx hb dX9_copy_27 (by decide) ?_
        refine lv_aload_n hx hb dX9_copy_36 rfl (lv_at hl 1 rfl) ?_
        refine va_get (D := (dC, dI)) (ci := 9) (v := .ref bk) (C := RX9) (T := TX9) (N := 16) hx hb hts fin_X9_copy_X9 hown hK hP 0 rfl rfl 5 (by decide) (hts (.fieldLink RX9 29 "PatternGate" "book" "LPatternGate$Book;") (List.mem_of_getElem? (i := 5) (by decide +kernel))) (fun _ h9 => h9) rfl dX9_copy_37 ?_
        refine va_get (D := (dC, dI)) (ci := 0) (v := .ref ds) (C := RX0) (T := TX0) (N := 3) hx hb hts fin_X9_copy_X0 hown hKQ hQ k_1 hk_1 rfl 0 (by decide) (hts (.fieldLink RX9 96 "PatternGate$Book" "docs" "[LPatternGate$Doc;") (List.mem_of_getElem? (i := 10) (by decide +kernel))) (fun _ h9 => h9) rfl dX9_copy_40 ?_
        refine va_alen hx hb hKQ hQ k_2 j_3 hk_2 hj_3 rfl dX9_copy_43 ?_
        refine lv_topi (fun y_35 ey_35 => ?_)
        have ty_35 : y_35.toInt = (nd : Int) := i_len ey_35 (by omega)
        refine lv_bipush (v := 10) hx hb dX9_copy_44 (by decide) ?_
        refine lv_icmp_lt (tgt := 55) hx hb dX9_copy_46 (by decide) (fun k_36 => ?_) (fun k_36 => ?_)
        · have tk_36 := c_lt (a := y_35.toInt) (b := 10) rfl (by decide) k_36
          refine lv_aload hx hb dX9_copy_55 (lv_at hl 0 rfl) ?_
          refine va_get (D := (dC, dI)) (ci := 2) (v := .ref la_15) (C := RX2) (T := TX2) (N := 2) hx hb hts fin_X9_copy_X2 hown hKQ hQ k_30 hk_30 rfl 0 (by decide) (hts (.fieldLink RX9 127 "PatternGate$Doc" "letters" "[I") (List.mem_of_getElem? (i := 11) (by decide +kernel))) (fun _ h9 => h9) rfl dX9_copy_57 ?_
          refine va_alen hx hb hKQ hQ k_31 j_32 hk_31 hj_32 rfl dX9_copy_60 ?_
          refine lv_topi (fun y_37 ey_37 => ?_)
          have ty_37 : y_37.toInt = (m_17 : Int) := i_len ey_37 (by omega)
          refine lv_istore (lv' := [(5, .int y_37), (4, .ref d_12), (0, .ref gt), (1, .int i1), (2, .int i2), (3, .int i3)]) hx hb dX9_copy_61 hl (by decide) rfl (fun ls hl => ?_)
          refine lv_iload_n hx hb dX9_copy_63 rfl (lv_at hl 4 rfl) ?_
          refine lv_iload hx hb dX9_copy_64 (lv_at hl 0 rfl) ?_
          refine lv_icmp_ge (tgt := 77) hx hb dX9_copy_66 (by decide) (fun k_38 => ?_) (fun k_38 => ?_)
          · have tk_38 := c_ge (a := i2.toInt) (b := y_37.toInt) rfl rfl k_38
            refine lv_aload_n hx hb dX9_copy_77 rfl (lv_at hl 2 rfl) ?_
            refine lv_iconst (v := 5) hx hb dX9_copy_78 (by decide) ?_
            have hPc := hP.sub (ws' := [(gt, .inr (9, [.int st9, .ref tp, .int td, .int fk, .int fpl, .ref bk, .int un, .ref mb, .ref mu, .int mk, .ref rd, .ref cm, .ref wk, .ref pp, .ref so, .ref ty]))]) [0] rfl
            have hKc := hK.sub (tys' := []) [] rfl
            have hDc := hD.sub (ws' := [(gt, .inr (9, [.int st9, .ref tp, .int td, .int fk, .int fpl, .ref bk, .int un, .ref mb, .ref mu, .int mk, .ref rd, .ref cm, .ref wk, .ref pp, .ref so, .ref ty]))]) [0] (by decide) rfl
            have hFc := va_free (wc := [(gt, .inr (9, [.int st9, .ref tp, .int td, .int fk, .int fpl, .ref bk, .int un, .ref mb, .ref mu, .int mk, .ref rd, .ref cm, .ref wk, .ref pp, .ref so, .ref ty]))]) hD hS hA [0] rfl
            refine va_calli (va_runV (As := [.int 5]) (rest := []) ⟨hx, hb, hml, hown, hts⟩ (s_refuse l dC dI gt tp bk mb mu rd cm wk pp so ty st9 td fk fpl un mk H.size 5) (cwV 1 hts mg_X9_copy_X9_refuse_80 rfl rfl rfl (by decide +kernel) ⟨Nat.le_of_ble_eq_true rfl, Nat.le_of_ble_eq_true rfl⟩) ⟨fun a U g mk q => by obtain ⟨q0, q1, qP, qK, qD⟩ := q; exact ⟨q0, q1, qP, va_K.moved (u := U) (U := U.calling g mk a) (Vm.Alike.refl U.vm) qK, qD⟩, va_recv hKc hPc (ci := 9) (q0 := 0) rfl rfl, fun U hU hW => ⟨rfl, by rw [hU], by rw [hU]; exact hPc, va_K.moved hW.alike hKc, hDc.weaken (fun _ _ _ _ => trivial)⟩⟩ rfl rfl hl.1 rfl (lv_room (Nat.le_of_ble_eq_true rfl)) dX9_copy_79 ⟨Nat.le_of_ble_eq_true rfl, Nat.le_of_ble_eq_true rfl⟩) hS (fun q _ h => hFc q h) hFc (fun r_40 u t H1 locs ht hvm hw hB hz1 hk1 hS => ?_)
            obtain ⟨hP1, hK1, hD1⟩ := hB
            rw [ht] at hP1
            have hr_40 := hw
            obtain ⟨hP, hD⟩ := va_join (wr := [(so, .inl (cso, 60, .inl fso))]) (w1 := [(gt, .inr (9, [.int 5, .ref tp, .int td, .int fk, .int fpl, .ref bk, .int un, .ref mb, .ref mu, .int mk, .ref rd, .ref cm, .ref wk, .ref pp, .ref so, .ref ty]))]) hP hD [0] [1] rfl rfl (by decide) (by decide) hk1 hFc hP1 hD1
            generalize H1 = H at hP hS ⊢
            have hP : va_P (dC, dI) vwCl [(so, .inl (cso, 60, .inl fso)), (gt, .inr (9, [.int 5, .ref tp, .int td, .int fk, .int fpl, .ref bk, .int un, .ref mb, .ref mu, .int mk, .ref rd, .ref cm, .ref wk, .ref pp, .ref so, .ref ty]))] H := hP
            have hD : va_D A [(so, .inl (cso, 60, .inl fso)), (gt, .inr (9, [.int 5, .ref tp, .int td, .int fk, .int fpl, .ref bk, .int un, .ref mb, .ref mu, .int mk, .ref rd, .ref cm, .ref wk, .ref pp, .ref so, .ref ty]))] := hD
            have hQ := q_at hQ0 hQA hS
            have hP9 := hP.sub (ws' := [(gt, .inr (9, [.int 5, .ref tp, .int td, .int fk, .int fpl, .ref bk, .int un, .ref mb, .ref mu, .int mk, .ref rd, .ref cm, .ref wk, .ref pp, .ref so, .ref ty])), (so, .inl (cso, 60, .inl fso))]) [1, 0] rfl
            have hD9 := hD.sub (ws' := [(gt, .inr (9, [.int 5, .ref tp, .int td, .int fk, .int fpl, .ref bk, .int un, .ref mb, .ref mu, .int mk, .ref rd, .ref cm, .ref wk, .ref pp, .ref so, .ref ty])), (so, .inl (cso, 60, .inl fso))]) [1, 0] (by decide) rfl
            have hK9 := hK.sub (tys' := [(cso, .int)]) [0] rfl
            refine W.widen (k := 5) (n := 135) (by omega) (by omega) ?_
            exact W.iret hx hb hr (fun t ht hW => ⟨⟨_, (), rfl, trivial, 5, bk, un, fso, W9, T9, B9, gN.same hB9, hbk, by rw [ht]; exact hQ, va_K.moved hW.alike hKQ, by rw [ht]; exact hP9, va_K.moved hW.alike hK9, hD9⟩, hS.F ht⟩) hS.2.2 dX9_copy_82
          · have tk_38 := c_nge (a := i2.toInt) (b := y_37.toInt) rfl rfl k_38
            refine lv_iload_n hx hb dX9_copy_69 rfl (lv_at hl 5 rfl) ?_
            refine lv_iload hx hb dX9_copy_70 (lv_at hl 0 rfl) ?_
            refine lv_iload_n hx hb dX9_copy_72 rfl (lv_at hl 4 rfl) ?_
            refine lv_isub hx hb dX9_copy_73 ?_
            refine lv_topi (fun y_41 ey_41 => ?_)
            first | have ty_41 := i_sub (a := y_37.toInt) (b := i2.toInt) rfl rfl ey_41 (by omega) (by omega) | skip
            refine lv_icmp_le (tgt := 83) hx hb dX9_copy_74 (by decide) (fun k_42 => ?_) (fun k_42 => ?_)
            · have tk_42 := c_le (a := i3.toInt) (b := y_41.toInt) rfl rfl k_42
              refine lv_aload hx hb dX9_copy_83 (lv_at hl 1 rfl) ?_
              refine va_get (D := (dC, dI)) (ci := 2) (v := .ref la_15) (C := RX2) (T := TX2) (N := 2) hx hb hts fin_X9_copy_X2 hown hKQ hQ k_30 hk_30 rfl 0 (by decide) (hts (.fieldLink RX9 127 "PatternGate$Doc" "letters" "[I") (List.mem_of_getElem? (i := 11) (by decide +kernel))) (fun _ h9 => h9) rfl dX9_copy_85 ?_
              refine lv_iload_n hx hb dX9_copy_88 rfl (lv_at hl 4 rfl) ?_
              refine lv_iload_n hx hb dX9_copy_89 rfl (lv_at hl 4 rfl) ?_
              refine lv_iload_n hx hb dX9_copy_90 rfl (lv_at hl 5 rfl) ?_
              refine lv_iadd hx hb dX9_copy_91 ?_
              refine lv_topi (fun y_43 ey_43 => ?_)
              first | have ty_43 := i_add (a := i2.toInt) (b := i3.toInt) rfl rfl ey_43 (by omega) (by omega) | skip
              have hPc := hP.sub (ws' := []) [] rfl
              have hKc := hK.sub (tys' := []) [] rfl
              have hDc := hD.sub (ws' := []) [] (by decide) rfl
              have hFc := va_free (wc := []) hD hS hA [] rfl
              refine va_callr (va_runS (As := [.ref la_15, .int i2, .int y_43]) (rest := []) ⟨hx, hb, hml, hown, hts⟩ (s_copyOfRange l dC dI W9 T9 la_15 m_17 cI_21 fl_19 60 H.size i2 y_43 m_24 m_25 (by omega) (by omega) (by omega)) (va_cwS 3 hts mg_X9_copy_J7_copyOfRange_feecc_261 rfl rfl rfl (by decide +kernel) ⟨Nat.le_of_ble_eq_true rfl, Nat.le_of_ble_eq_true rfl⟩) ⟨fun a U g mk q => by obtain ⟨q0, q1, qP, qK, qD, qE0, qE1, qE2, qE3⟩ := q; exact ⟨q0, q1, qP, va_K.moved (u := U) (U := U.calling g mk a) (Vm.Alike.refl U.vm) qK, qD, va_Nw.same rfl (u := U) rfl qE0, qE1, va_K.moved (u := U) (U := U.calling g mk a) (Vm.Alike.refl U.vm) qE2, qE3⟩, fun U hU hW => ⟨rfl, by rw [hU], by rw [hU]; exact hPc, va_K.moved hW.alike hKc, hDc.weaken (fun _ _ _ _ => trivial), nw_moved hW.alike hcl, (by rw [hU]; exact hQ), va_K.moved hW.alike hKQ, w_poolW hQ⟩⟩ rfl rfl hl.1 rfl (lv_room (Nat.le_of_ble_eq_true rfl)) dX9_copy_92 ⟨Nat.le_of_ble_eq_true rfl, Nat.le_of_ble_eq_true rfl⟩) hS (fun q _ h => hFc q h) hFc (fun u r_45 t H1 locs ht hvm hw hB hz1 hk1 hS => ?_)
              obtain ⟨n_46, f_47, c_48, tn_46, hP1, hK1, hD1⟩ := hB
              rw [ht] at hP1
              have hK := hK.app (va_K.moved hvm.symm hK1)
              have hK : va_K (dC, dI) vwCl [(cso, .int), (c_48, .int)] s := hK
              obtain ⟨hP, hD⟩ := va_join (wr := [(gt, .inr (9, [.int st9, .ref tp, .int td, .int fk, .int fpl, .ref bk, .int un, .ref mb, .ref mu, .int mk, .ref rd, .ref cm, .ref wk, .ref pp, .ref so, .ref ty])), (so, .inl (cso, 60, .inl fso))]) (w1 := [(r_45, .inl (c_48, n_46, .inl f_47))]) hP hD [] [0, 1] rfl rfl (by decide) (by decide) hk1 hFc hP1 hD1
              generalize H1 = H at hP hS ⊢
              have hP : va_P (dC, dI) vwCl [(gt, .inr (9, [.int st9, .ref tp, .int td, .int fk, .int fpl, .ref bk, .int un, .ref mb, .ref mu, .int mk, .ref rd, .ref cm, .ref wk, .ref pp, .ref so, .ref ty])), (so, .inl (cso, 60, .inl fso)), (r_45, .inl (c_48, n_46, .inl f_47))] H := hP
              have hD : va_D A [(gt, .inr (9, [.int st9, .ref tp, .int td, .int fk, .int fpl, .ref bk, .int un, .ref mb, .ref mu, .int mk, .ref rd, .ref cm, .ref wk, .ref pp, .ref so, .ref ty])), (so, .inl (cso, 60, .inl fso)), (r_45, .inl (c_48, n_46, .inl f_47))] := hD
              have hQ := q_at hQ0 hQA hS
              refine lv_astore (lv' := [(6, .ref r_45), (5, .int y_37), (4, .ref d_12), (0, .ref gt), (1, .int i1), (2, .int i2), (3, .int i3)]) hx hb dX9_copy_95 hl (by decide) rfl (fun ls hl => ?_)
              refine lv_aload_n hx hb dX9_copy_97 rfl (lv_at hl 3 rfl) ?_
              refine lv_aload_n hx hb dX9_copy_98 rfl (lv_at hl 3 rfl) ?_
              refine va_get (D := (dC, dI)) (ci := 9) (v := .ref bk) (C := RX9) (T := TX9) (N := 16) hx hb hts fin_X9_copy_X9 hown hK hP 0 rfl rfl 5 (by decide) (hts (.fieldLink RX9 29 "PatternGate" "book" "LPatternGate$Book;") (List.mem_of_getElem? (i := 5) (by decide +kernel))) (fun _ h9 => h9) rfl dX9_copy_99 ?_
              refine lv_aload hx hb dX9_copy_102 (lv_at hl 0 rfl) ?_
              refine lv_aload_n hx hb dX9_copy_104 rfl (lv_at hl 3 rfl) ?_
              refine va_get (D := (dC, dI)) (ci := 9) (v := .ref so) (C := RX9) (T := TX9) (N := 16) hx hb hts fin_X9_copy_X9 hown hK hP 0 rfl rfl 14 (by decide) (hts (.fieldLink RX9 64 "PatternGate" "sorted" "[I") (List.mem_of_getElem? (i := 15) (by decide +kernel))) (fun _ h9 => h9) rfl dX9_copy_105 ?_
              have hPc := hP.sub (ws' := [(r_45, .inl (c_48, n_46, .inl f_47)), (so, .inl (cso, 60, .inl fso))]) [2, 1] rfl
              have hKc := hK.sub (tys' := [(c_48, .int), (cso, .int)]) [1, 0] rfl
              have hDc := hD.sub (ws' := [(r_45, .inl (c_48, n_46, .inl f_47)), (so, .inl (cso, 60, .inl fso))]) [2, 1] (by decide) rfl
              have hFc := va_free (wc := [(r_45, .inl (c_48, n_46, .inl f_47)), (so, .inl (cso, 60, .inl fso))]) hD hS hA [2, 1] rfl
              refine va_callr (va_runS (As := [.ref r_45, .ref so]) (rest := [.ref bk, .ref gt]) ⟨hx, hb, hml, hown, hts⟩ (s_made l dC dI r_45 so n_46 60 c_48 cso f_47 fso H.size (by omega) (by omega)) (va_cwS 2 hts mg_X9_copy_X2_made_247 rfl rfl rfl (by decide +kernel) ⟨Nat.le_of_ble_eq_true rfl, Nat.le_of_ble_eq_true rfl⟩) ⟨fun a U g mk q => by obtain ⟨q0, q1, qP, qK, qD, qE0⟩ := q; exact ⟨q0, q1, qP, va_K.moved (u := U) (U := U.calling g mk a) (Vm.Alike.refl U.vm) qK, qD, va_Nw.same rfl (u := U) rfl qE0⟩, fun U hU hW => ⟨rfl, by rw [hU], by rw [hU]; exact hPc, va_K.moved hW.alike hKc, hDc.weaken (fun _ _ _ _ => trivial), nw_moved hW.alike hcl⟩⟩ rfl rfl hl.1 rfl (lv_room (Nat.le_of_ble_eq_true rfl)) dX9_copy_108 ⟨Nat.le_of_ble_eq_true rfl, Nat.le_of_ble_eq_true rfl⟩) hS (fun q _ h => hFc q h) hFc (fun u r_50 t H1 locs ht hvm hw hB hz1 hk1 hS => ?_)
              obtain ⟨q_51, n_52, f_53, f_54, c_55, tn_52, hP1, hK1, hD1⟩ := hB
              rw [ht] at hP1
              have hK := hK.app ((va_K.moved hvm.symm hK1).sub (tys' := [(c_55, .int)]) [2] rfl)
              have hK : va_K (dC, dI) vwCl [(cso, .int), (c_48, .int), (c_55, .int)] s := hK
              obtain ⟨hP, hD⟩ := va_join (wr := [(gt, .inr (9, [.int st9, .ref tp, .int td, .int fk, .int fpl, .ref bk, .int un, .ref mb, .ref mu, .int mk, .ref rd, .ref cm, .ref wk, .ref pp, .ref so, .ref ty]))]) (w1 := [(r_45, .inl (c_48, n_46, .inl f_47)), (so, .inl (cso, 60, .inl f_53)), (q_51, .inl (c_55, n_52, .inl f_54)), (r_50, .inr (2, [.ref r_45, .ref q_51]))]) hP hD [2, 1] [0] rfl rfl (by decide) (by decide) hk1 hFc hP1 hD1
              generalize H1 = H at hP hS ⊢
              have hP : va_P (dC, dI) vwCl [(gt, .inr (9, [.int st9, .ref tp, .int td, .int fk, .int fpl, .ref bk, .int un, .ref mb, .ref mu, .int mk, .ref rd, .ref cm, .ref wk, .ref pp, .ref so, .ref ty])), (r_45, .inl (c_48, n_46, .inl f_47)), (so, .inl (cso, 60, .inl f_53)), (q_51, .inl (c_55, n_52, .inl f_54)), (r_50, .inr (2, [.ref r_45, .ref q_51]))] H := hP
              have hD : va_D A [(gt, .inr (9, [.int st9, .ref tp, .int td, .int fk, .int fpl, .ref bk, .int un, .ref mb, .ref mu, .int mk, .ref rd, .ref cm, .ref wk, .ref pp, .ref so, .ref ty])), (r_45, .inl (c_48, n_46, .inl f_47)), (so, .inl (cso, 60, .inl f_53)), (q_51, .inl (c_55, n_52, .inl f_54)), (r_50, .inr (2, [.ref r_45, .ref q_51]))] := hD
              have hQ := q_at hQ0 hQA hS
              have hPc := hP.sub (ws' := [(r_50, .inr (2, [.ref r_45, .ref q_51]))]) [4] rfl
              have hKc := hK.sub (tys' := []) [] rfl
              have hDc := hD.sub (ws' := [(r_50, .inr (2, [.ref r_45, .ref q_51]))]) [4] (by decide) rfl
              have hFc := va_free (wc := [(r_50, .inr (2, [.ref r_45, .ref q_51]))]) hD hS hA [4] rfl
              refine va_callr (va_runV (As := [.ref r_50]) (rest := [.ref gt]) ⟨hx, hb, hml, hown, hts⟩ (s_withOneMore l dC dI W9 T9 bk ear ds ps nd np fd fp cD cP r_50 r_45 q_51 H.size m1 m2 m3 m4 m5 hnp hds hps (by omega)) (cwV 1 hts mg_X9_copy_X0_withOneMore_267 rfl rfl rfl (by decide +kernel) ⟨Nat.le_of_ble_eq_true rfl, Nat.le_of_ble_eq_true rfl⟩) ⟨fun a U g mk q => by obtain ⟨q0, q1, qP, qK, qD, qE0, qE1, qE2, qE3⟩ := q; exact ⟨q0, q1, qP, va_K.moved (u := U) (U := U.calling g mk a) (Vm.Alike.refl U.vm) qK, qD, va_AO.moved (u := U) (U := U.calling g mk a) (Vm.Alike.refl U.vm) qE0, qE1, va_K.moved (u := U) (U := U.calling g mk a) (Vm.Alike.refl U.vm) qE2, qE3⟩, va_recv hKQ hQ (ci := 0) (q0 := k_1) rfl hk_1, fun U hU hW => ⟨rfl, by rw [hU], by rw [hU]; exact hPc, va_K.moved hW.alike hKc, hDc.weaken (fun _ _ _ _ => trivial), va_AO.moved hW.alike hAO2, (by rw [hU]; exact hQ), va_K.moved hW.alike hKQ, (fun q hq => qA_sub (hQA q hq) hFc)⟩⟩ rfl rfl hl.1 rfl (lv_room (Nat.le_of_ble_eq_true rfl)) dX9_copy_111 ⟨Nat.le_of_ble_eq_true rfl, Nat.le_of_ble_eq_true rfl⟩) hS (fun q _ h => hFc q h) hFc (fun u r_57 t H1 locs ht hvm hw hB hz1 hk1 hS => ?_)
              obtain ⟨q_58, n_59, q_60, f_61, c_62, h_63, h_64, hP1, hK1, hD1⟩ := hB
              rw [ht] at hP1
              have hK := hK.app (va_K.moved hvm.symm hK1)
              have hK : va_K (dC, dI) vwCl [(cso, .int), (c_48, .int), (c_55, .int), (c_62, .object "PatternGate$Doc")] s := hK
              obtain ⟨hP, hD⟩ := va_join (wr := [(gt, .inr (9, [.int st9, .ref tp, .int td, .int fk, .int fpl, .ref bk, .int un, .ref mb, .ref mu, .int mk, .ref rd, .ref cm, .ref wk, .ref pp, .ref so, .ref ty])), (r_45, .inl (c_48, n_46, .inl f_47)), (so, .inl (cso, 60, .inl f_53)), (q_51, .inl (c_55, n_52, .inl f_54))]) (w1 := [(r_50, .inr (2, [.ref r_45, .ref q_51])), (q_58, .inl (c_62, n_59, .inr (.inr (.inr (.inr f_61))))), (r_57, .inr (0, [.ref q_58, .ref q_60, .ref bk]))]) hP hD [4] [0, 1, 2, 3] rfl rfl (by decide) (by decide) hk1 hFc hP1 hD1
              generalize H1 = H at hP hS ⊢
              have hP : va_P (dC, dI) vwCl [(gt, .inr (9, [.int st9, .ref tp, .int td, .int fk, .int fpl, .ref bk, .int un, .ref mb, .ref mu, .int mk, .ref rd, .ref cm, .ref wk, .ref pp, .ref so, .ref ty])), (r_45, .inl (c_48, n_46, .inl f_47)), (so, .inl (cso, 60, .inl f_53)), (q_51, .inl (c_55, n_52, .inl f_54)), (r_50, .inr (2, [.ref r_45, .ref q_51])), (q_58, .inl (c_62, n_59, .inr (.inr (.inr (.inr f_61))))), (r_57, .inr (0, [.ref q_58, .ref q_60, .ref bk]))] H := hP
              have hD : va_D A [(gt, .inr (9, [.int st9, .ref tp, .int td, .int fk, .int fpl, .ref bk, .int un, .ref mb, .ref mu, .int mk, .ref rd, .ref cm, .ref wk, .ref pp, .ref so, .ref ty])), (r_45, .inl (c_48, n_46, .inl f_47)), (so, .inl (cso, 60, .inl f_53)), (q_51, .inl (c_55, n_52, .inl f_54)), (r_50, .inr (2, [.ref r_45, .ref q_51])), (q_58, .inl (c_62, n_59, .inr (.inr (.inr (.inr f_61))))), (r_57, .inr (0, [.ref q_58, .ref q_60, .ref bk]))] := hD
              have hQ := q_at hQ0 hQA hS
              have hPc := hP.sub (ws' := [(gt, .inr (9, [.int st9, .ref tp, .int td, .int fk, .int fpl, .ref bk, .int un, .ref mb, .ref mu, .int mk, .ref rd, .ref cm, .ref wk, .ref pp, .ref so, .ref ty]))]) [0] rfl
              have hKc := hK.sub (tys' := []) [] rfl
              have hDc := hD.sub (ws' := [(gt, .inr (9, [.int st9, .ref tp, .int td, .int fk, .int fpl, .ref bk, .int un, .ref mb, .ref mu, .int mk, .ref rd, .ref cm, .ref wk, .ref pp, .ref so, .ref ty]))]) [0] (by decide) rfl
              have hFc := va_free (wc := [(gt, .inr (9, [.int st9, .ref tp, .int td, .int fk, .int fpl, .ref bk, .int un, .ref mb, .ref mu, .int mk, .ref rd, .ref cm, .ref wk, .ref pp, .ref so, .ref ty]))]) hD hS hA [0] rfl
              refine va_callv (va_runV (As := [.ref r_57]) (rest := []) ⟨hx, hb, hml, hown, hts⟩ (s_g_act l dC dI gt tp bk mb mu rd cm wk pp so ty st9 td fk fpl un mk r_57 H.size) (cwV 1 hts mg_X9_copy_X9_act_92 rfl rfl rfl (by decide +kernel) ⟨Nat.le_of_ble_eq_true rfl, Nat.le_of_ble_eq_true rfl⟩) ⟨fun a U g mk q => by obtain ⟨q0, q1, qP, qK, qD⟩ := q; exact ⟨q0, q1, qP, va_K.moved (u := U) (U := U.calling g mk a) (Vm.Alike.refl U.vm) qK, qD⟩, va_recv hKc hPc (ci := 9) (q0 := 0) rfl rfl, fun U hU hW => ⟨rfl, by rw [hU], by rw [hU]; exact hPc, va_K.moved hW.alike hKc, hDc.weaken (fun _ _ _ _ => trivial)⟩⟩ rfl rfl hl.1 rfl (lv_room (Nat.le_of_ble_eq_true rfl)) dX9_copy_114 ⟨Nat.le_of_ble_eq_true rfl, Nat.le_of_ble_eq_true rfl⟩) hS (fun q _ h => hFc q h) hFc (fun u t H1 locs ht hvm hw hB hz1 hk1 hS => ?_)
              obtain ⟨y_67, hP1, hK1, hD1⟩ := hB
              rw [ht] at hP1
              obtain ⟨hP, hD⟩ := va_join (wr := [(r_45, .inl (c_48, n_46, .inl f_47)), (so, .inl (cso, 60, .inl f_53)), (q_51, .inl (c_55, n_52, .inl f_54)), (r_50, .inr (2, [.ref r_45, .ref q_51])), (q_58, .inl (c_62, n_59, .inr (.inr (.inr (.inr f_61))))), (r_57, .inr (0, [.ref q_58, .ref q_60, .ref bk]))]) (w1 := [(gt, .inr (9, [.int st9, .ref tp, .int td, .int fk, .int fpl, .ref r_57, .int y_67, .ref mb, .ref mu, .int mk, .ref rd, .ref cm, .ref wk, .ref pp, .ref so, .ref ty]))]) hP hD [0] [1, 2, 3, 4, 5, 6] rfl rfl (by decide) (by decide) hk1 hFc hP1 hD1
              generalize H1 = H at hP hS ⊢
              have hP : va_P (dC, dI) vwCl [(r_45, .inl (c_48, n_46, .inl f_47)), (so, .inl (cso, 60, .inl f_53)), (q_51, .inl (c_55, n_52, .inl f_54)), (r_50, .inr (2, [.ref r_45, .ref q_51])), (q_58, .inl (c_62, n_59, .inr (.inr (.inr (.inr f_61))))), (r_57, .inr (0, [.ref q_58, .ref q_60, .ref bk])), (gt, .inr (9, [.int st9, .ref tp, .int td, .int fk, .int fpl, .ref r_57, .int y_67, .ref mb, .ref mu, .int mk, .ref rd, .ref cm, .ref wk, .ref pp, .ref so, .ref ty]))] H := hP
              have hD : va_D A [(r_45, .inl (c_48, n_46, .inl f_47)), (so, .inl (cso, 60, .inl f_53)), (q_51, .inl (c_55, n_52, .inl f_54)), (r_50, .inr (2, [.ref r_45, .ref q_51])), (q_58, .inl (c_62, n_59, .inr (.inr (.inr (.inr f_61))))), (r_57, .inr (0, [.ref q_58, .ref q_60, .ref bk])), (gt, .inr (9, [.int st9, .ref tp, .int td, .int fk, .int fpl, .ref r_57, .int y_67, .ref mb, .ref mu, .int mk, .ref rd, .ref cm, .ref wk, .ref pp, .ref so, .ref ty]))] := hD
              have hQ := q_at hQ0 hQA hS
              refine lv_aload_n hx hb dX9_copy_117 rfl (lv_at hl 3 rfl) ?_
              refine lv_aload_n hx hb dX9_copy_118 rfl (lv_at hl 3 rfl) ?_
              refine va_get (D := (dC, dI)) (ci := 9) (v := .ref r_57) (C := RX9) (T := TX9) (N := 16) hx hb hts fin_X9_copy_X9 hown hK hP 6 rfl rfl 5 (by decide) (hts (.fieldLink RX9 29 "PatternGate" "book" "LPatternGate$Book;") (List.mem_of_getElem? (i := 5) (by decide +kernel))) (fun _ h9 => h9) rfl dX9_copy_119 ?_
              refine va_get (D := (dC, dI)) (ci := 0) (v := .ref q_58) (C := RX0) (T := TX0) (N := 3) hx hb hts fin_X9_copy_X0 hown hK hP 5 rfl rfl 0 (by decide) (hts (.fieldLink RX9 96 "PatternGate$Book" "docs" "[LPatternGate$Doc;") (List.mem_of_getElem? (i := 10) (by decide +kernel))) (fun _ h9 => h9) rfl dX9_copy_122 ?_
              refine va_alen hx hb hK hP 4 3 rfl rfl rfl dX9_copy_125 ?_
              refine lv_topi (fun y_68 ey_68 => ?_)
              have ty_68 : y_68.toInt = (n_59 : Int) := i_len ey_68 (by omega)
              refine lv_iconst (v := 1) hx hb dX9_copy_126 (by decide) ?_
              refine lv_isub hx hb dX9_copy_127 ?_
              refine lv_topi (fun y_69 ey_69 => ?_)
              first | have ty_69 := i_sub (a := y_68.toInt) (b := 1) rfl (by decide) ey_69 (by omega) (by omega) | skip
              have hPc := hP.sub (ws' := [(gt, .inr (9, [.int st9, .ref tp, .int td, .int fk, .int fpl, .ref r_57, .int y_67, .ref mb, .ref mu, .int mk, .ref rd, .ref cm, .ref wk, .ref pp, .ref so, .ref ty]))]) [6] rfl
              have hKc := hK.sub (tys' := []) [] rfl
              have hDc := hD.sub (ws' := [(gt, .inr (9, [.int st9, .ref tp, .int td, .int fk, .int fpl, .ref r_57, .int y_67, .ref mb, .ref mu, .int mk, .ref rd, .ref cm, .ref wk, .ref pp, .ref so, .ref ty]))]) [6] (by decide) rfl
              have hFc := va_free (wc := [(gt, .inr (9, [.int st9, .ref tp, .int td, .int fk, .int fpl, .ref r_57, .int y_67, .ref mb, .ref mu, .int mk, .ref rd, .ref cm, .ref wk, .ref pp, .ref so, .ref ty]))]) hD hS hA [6] rfl
              refine va_calli (va_runV (As := [.int y_69]) (rest := []) ⟨hx, hb, hml, hown, hts⟩ (s_answer l dC dI gt tp r_57 mb mu rd cm wk pp so ty st9 td fk fpl y_67 mk H.size y_69) (cwV 1 hts mg_X9_copy_X9_answer_100 rfl rfl rfl (by decide +kernel) ⟨Nat.le_of_ble_eq_true rfl, Nat.le_of_ble_eq_true rfl⟩) ⟨fun a U g mk q => by obtain ⟨q0, q1, qP, qK, qD⟩ := q; exact ⟨q0, q1, qP, va_K.moved (u := U) (U := U.calling g mk a) (Vm.Alike.refl U.vm) qK, qD⟩, va_recv hKc hPc (ci := 9) (q0 := 0) rfl rfl, fun U hU hW => ⟨rfl, by rw [hU], by rw [hU]; exact hPc, va_K.moved hW.alike hKc, hDc.weaken (fun _ _ _ _ => trivial)⟩⟩ rfl rfl hl.1 rfl (lv_room (Nat.le_of_ble_eq_true rfl)) dX9_copy_128 ⟨Nat.le_of_ble_eq_true rfl, Nat.le_of_ble_eq_true rfl⟩) hS (fun q _ h => hFc q h) hFc (fun r_71 u t H1 locs ht hvm hw hB hz1 hk1 hS => ?_)
              obtain ⟨hP1, hK1, hD1⟩ := hB
              rw [ht] at hP1
              have hr_71 := hw
              obtain ⟨hP, hD⟩ := va_join (wr := [(r_45, .inl (c_48, n_46, .inl f_47)), (so, .inl (cso, 60, .inl f_53)), (q_51, .inl (c_55, n_52, .inl f_54)), (r_50, .inr (2, [.ref r_45, .ref q_51])), (q_58, .inl (c_62, n_59, .inr (.inr (.inr (.inr f_61))))), (r_57, .inr (0, [.ref q_58, .ref q_60, .ref bk]))]) (w1 := [(gt, .inr (9, [.int 0, .ref tp, .int td, .int fk, .int fpl, .ref r_57, .int y_67, .ref mb, .ref mu, .int mk, .ref rd, .ref cm, .ref wk, .ref pp, .ref so, .ref ty]))]) hP hD [6] [0, 1, 2, 3, 4, 5] rfl rfl (by decide) (by decide) hk1 hFc hP1 hD1
              generalize H1 = H at hP hS ⊢
              have hP : va_P (dC, dI) vwCl [(r_45, .inl (c_48, n_46, .inl f_47)), (so, .inl (cso, 60, .inl f_53)), (q_51, .inl (c_55, n_52, .inl f_54)), (r_50, .inr (2, [.ref r_45, .ref q_51])), (q_58, .inl (c_62, n_59, .inr (.inr (.inr (.inr f_61))))), (r_57, .inr (0, [.ref q_58, .ref q_60, .ref bk])), (gt, .inr (9, [.int 0, .ref tp, .int td, .int fk, .int fpl, .ref r_57, .int y_67, .ref mb, .ref mu, .int mk, .ref rd, .ref cm, .ref wk, .ref pp, .ref so, .ref ty]))] H := hP
              have hD : va_D A [(r_45, .inl (c_48, n_46, .inl f_47)), (so, .inl (cso, 60, .inl f_53)), (q_51, .inl (c_55, n_52, .inl f_54)), (r_50, .inr (2, [.ref r_45, .ref q_51])), (q_58, .inl (c_62, n_59, .inr (.inr (.inr (.inr f_61))))), (r_57, .inr (0, [.ref q_58, .ref q_60, .ref bk])), (gt, .inr (9, [.int 0, .ref tp, .int td, .int fk, .int fpl, .ref r_57, .int y_67, .ref mb, .ref mu, .int mk, .ref rd, .ref cm, .ref wk, .ref pp, .ref so, .ref ty]))] := hD
              have hQ := q_at hQ0 hQA hS
              have hP9 := hP.sub (ws' := [(gt, .inr (9, [.int 0, .ref tp, .int td, .int fk, .int fpl, .ref r_57, .int y_67, .ref mb, .ref mu, .int mk, .ref rd, .ref cm, .ref wk, .ref pp, .ref so, .ref ty])), (so, .inl (cso, 60, .inl f_53))]) [6, 1] rfl
              have hD9 := hD.sub (ws' := [(gt, .inr (9, [.int 0, .ref tp, .int td, .int fk, .int fpl, .ref r_57, .int y_67, .ref mb, .ref mu, .int mk, .ref rd, .ref cm, .ref wk, .ref pp, .ref so, .ref ty])), (so, .inl (cso, 60, .inl f_53))]) [6, 1] (by decide) rfl
              have hK9 := hK.sub (tys' := [(cso, .int)]) [0] rfl
              refine W.widen (k := 5) (n := 135) (by omega) (by omega) ?_
              have hPn := hP.sub (ws' := [(r_45, .inl (c_48, n_46, .inl f_47)), (q_51, .inl (c_55, n_52, .inl f_54)), (r_50, .inr (2, [.ref r_45, .ref q_51])), (q_58, .inl (c_62, n_59, .inr (.inr (.inr (.inr f_61))))), (r_57, .inr (0, [.ref q_58, .ref q_60, .ref bk]))]) [0, 2, 3, 4, 5] rfl
              have hDz := hD.sub (ws' := [(gt, .inr (9, [.int 0, .ref tp, .int td, .int fk, .int fpl, .ref r_57, .int y_67, .ref mb, .ref mu, .int mk, .ref rd, .ref cm, .ref wk, .ref pp, .ref so, .ref ty])), (so, .inl (cso, 60, .inl f_53)), (r_45, .inl (c_48, n_46, .inl f_47)), (q_51, .inl (c_55, n_52, .inl f_54)), (r_50, .inr (2, [.ref r_45, .ref q_51])), (q_58, .inl (c_62, n_59, .inr (.inr (.inr (.inr f_61))))), (r_57, .inr (0, [.ref q_58, .ref q_60, .ref bk]))]) [6, 1, 0, 2, 3, 4, 5] (by decide) rfl
              rw [← hAe] at hDz
              have hge := nw_ge (W1 := [(gt, .inr (9, [.int 0, .ref tp, .int td, .int fk, .int fpl, .ref r_57, .int y_67, .ref mb, .ref mu, .int mk, .ref rd, .ref cm, .ref wk, .ref pp, .ref so, .ref ty])), (so, .inl (cso, 60, .inl f_53))]) (X := [(r_45, .inl (c_48, n_46, .inl f_47)), (q_51, .inl (c_55, n_52, .inl f_54)), (r_50, .inr (2, [.ref r_45, .ref q_51])), (q_58, .inl (c_62, n_59, .inr (.inr (.inr (.inr f_61))))), (r_57, .inr (0, [.ref q_58, .ref q_60, .ref bk]))]) hDz rfl
              rw [← hz9] at hge
              have hKn := hK.sub (tys' := [(c_48, .int), (c_55, .int), (c_62, .object "PatternGate$Doc")]) [1, 2, 3] rfl
              have hnb : poB3 (W9 ++ [(r_45, .inl (c_48, n_46, .inl f_47)), (q_51, .inl (c_55, n_52, .inl f_54)), (r_50, .inr (2, [.ref r_45, .ref q_51])), (q_58, .inl (c_62, n_59, .inr (.inr (.inr (.inr f_61))))), (r_57, .inr (0, [.ref q_58, .ref q_60, .ref bk]))]) (T9 ++ [(c_48, .int), (c_55, .int), (c_62, .object "PatternGate$Doc")]) r_57 (some bk) := h_63 _ _ (fun _ h => List.mem_append_left _ h) (fun _ h => List.mem_append_left _ h) (List.mem_append_right _ (List.mem_of_getElem? (i := 3) rfl)) (List.mem_append_right _ (List.mem_of_getElem? (i := 2) rfl)) (List.mem_append_right _ (List.mem_of_getElem? (i := 4) rfl)) (fun x hx => by subst hx; exact ⟨r_45, q_51, n_46, n_52, f_47, f_54, c_48, c_55, (List.mem_append_right _ (List.mem_of_getElem? (i := 2) rfl)), ⟨(List.mem_append_right _ (List.mem_of_getElem? (i := 0) rfl)), (List.mem_append_right _ (List.mem_of_getElem? (i := 0) rfl))⟩, ⟨(List.mem_append_right _ (List.mem_of_getElem? (i := 1) rfl)), (List.mem_append_right _ (List.mem_of_getElem? (i := 1) rfl))⟩, by omega, by omega⟩)
              exact W.iret hx hb hr (fun t ht hW => ⟨⟨_, (), rfl, trivial, 0, r_57, y_67, f_53, _, _, _, gN.act hB9 hbk hnb hge, Or.inr rfl, by rw [ht]; exact hQ.app hPn, (va_K.moved hW.alike hKQ).app (va_K.moved hW.alike hKn), by rw [ht]; exact hP9, va_K.moved hW.alike hK9, hD9⟩, hS.F ht⟩) hS.2.2 dX9_copy_131
            · have tk_42 := c_nle (a := i3.toInt) (b := y_41.toInt) rfl rfl k_42
              refine lv_aload_n hx hb dX9_copy_77 rfl (lv_at hl 2 rfl) ?_
              refine lv_iconst (v := 5) hx hb dX9_copy_78 (by decide) ?_
              have hPc := hP.sub (ws' := [(gt, .inr (9, [.int st9, .ref tp, .int td, .int fk, .int fpl, .ref bk, .int un, .ref mb, .ref mu, .int mk, .ref rd, .ref cm, .ref wk, .ref pp, .ref so, .ref ty]))]) [0] rfl
              have hKc := hK.sub (tys' := []) [] rfl
              have hDc := hD.sub (ws' := [(gt, .inr (9, [.int st9, .ref tp, .int td, .int fk, .int fpl, .ref bk, .int un, .ref mb, .ref mu, .int mk, .ref rd, .ref cm, .ref wk, .ref pp, .ref so, .ref ty]))]) [0] (by decide) rfl
              have hFc := va_free (wc := [(gt, .inr (9, [.int st9, .ref tp, .int td, .int fk, .int fpl, .ref bk, .int un, .ref mb, .ref mu, .int mk, .ref rd, .ref cm, .ref wk, .ref pp, .ref so, .ref ty]))]) hD hS hA [0] rfl
              refine va_calli (va_runV (As := [.int 5]) (rest := []) ⟨hx, hb, hml, hown, hts⟩ (s_refuse l dC dI gt tp bk mb mu rd cm wk pp so ty st9 td fk fpl un mk H.size 5) (cwV 1 hts mg_X9_copy_X9_refuse_80 rfl rfl rfl (by decide +kernel) ⟨Nat.le_of_ble_eq_true rfl, Nat.le_of_ble_eq_true rfl⟩) ⟨fun a U g mk q => by obtain ⟨q0, q1, qP, qK, qD⟩ := q; exact ⟨q0, q1, qP, va_K.moved (u := U) (U := U.calling g mk a) (Vm.Alike.refl U.vm) qK, qD⟩, va_recv hKc hPc (ci := 9) (q0 := 0) rfl rfl, fun U hU hW => ⟨rfl, by rw [hU], by rw [hU]; exact hPc, va_K.moved hW.alike hKc, hDc.weaken (fun _ _ _ _ => trivial)⟩⟩ rfl rfl hl.1 rfl (lv_room (Nat.le_of_ble_eq_true rfl)) dX9_copy_79 ⟨Nat.le_of_ble_eq_true rfl, Nat.le_of_ble_eq_true rfl⟩) hS (fun q _ h => hFc q h) hFc (fun r_73 u t H1 locs ht hvm hw hB hz1 hk1 hS => ?_)
              obtain ⟨hP1, hK1, hD1⟩ := hB
              rw [ht] at hP1
              have hr_73 := hw
              obtain ⟨hP, hD⟩ := va_join (wr := [(so, .inl (cso, 60, .inl fso))]) (w1 := [(gt, .inr (9, [.int 5, .ref tp, .int td, .int fk, .int fpl, .ref bk, .int un, .ref mb, .ref mu, .int mk, .ref rd, .ref cm, .ref wk, .ref pp, .ref so, .ref ty]))]) hP hD [0] [1] rfl rfl (by decide) (by decide) hk1 hFc hP1 hD1
              generalize H1 = H at hP hS ⊢
              have hP : va_P (dC, dI) vwCl [(so, .inl (cso, 60, .inl fso)), (gt, .inr (9, [.int 5, .ref tp, .int td, .int fk, .int fpl, .ref bk, .int un, .ref mb, .ref mu, .int mk, .ref rd, .ref cm, .ref wk, .ref pp, .ref so, .ref ty]))] H := hP
              have hD : va_D A [(so, .inl (cso, 60, .inl fso)), (gt, .inr (9, [.int 5, .ref tp, .int td, .int fk, .int fpl, .ref bk, .int un, .ref mb, .ref mu, .int mk, .ref rd, .ref cm, .ref wk, .ref pp, .ref so, .ref ty]))] := hD
              have hQ := q_at hQ0 hQA hS
              have hP9 := hP.sub (ws' := [(gt, .inr (9, [.int 5, .ref tp, .int td, .int fk, .int fpl, .ref bk, .int un, .ref mb, .ref mu, .int mk, .ref rd, .ref cm, .ref wk, .ref pp, .ref so, .ref ty])), (so, .inl (cso, 60, .inl fso))]) [1, 0] rfl
              have hD9 := hD.sub (ws' := [(gt, .inr (9, [.int 5, .ref tp, .int td, .int fk, .int fpl, .ref bk, .int un, .ref mb, .ref mu, .int mk, .ref rd, .ref cm, .ref wk, .ref pp, .ref so, .ref ty])), (so, .inl (cso, 60, .inl fso))]) [1, 0] (by decide) rfl
              have hK9 := hK.sub (tys' := [(cso, .int)]) [0] rfl
              refine W.widen (k := 5) (n := 135) (by omega) (by omega) ?_
              exact W.iret hx hb hr (fun t ht hW => ⟨⟨_, (), rfl, trivial, 5, bk, un, fso, W9, T9, B9, gN.same hB9, hbk, by rw [ht]; exact hQ, va_K.moved hW.alike hKQ, by rw [ht]; exact hP9, va_K.moved hW.alike hK9, hD9⟩, hS.F ht⟩) hS.2.2 dX9_copy_82
        · have tk_36 := c_nlt (a := y_35.toInt) (b := 10) rfl (by decide) k_36
          refine lv_aload_n hx hb dX9_copy_49 rfl (lv_at hl 1 rfl) ?_
          refine lv_iconst (v := 3) hx hb dX9_copy_50 (by decide) ?_
          have hPc := hP.sub (ws' := [(gt, .inr (9, [.int st9, .ref tp, .int td, .int fk, .int fpl, .ref bk, .int un, .ref mb, .ref mu, .int mk, .ref rd, .ref cm, .ref wk, .ref pp, .ref so, .ref ty]))]) [0] rfl
          have hKc := hK.sub (tys' := []) [] rfl
          have hDc := hD.sub (ws' := [(gt, .inr (9, [.int st9, .ref tp, .int td, .int fk, .int fpl, .ref bk, .int un, .ref mb, .ref mu, .int mk, .ref rd, .ref cm, .ref wk, .ref pp, .ref so, .ref ty]))]) [0] (by decide) rfl
          have hFc := va_free (wc := [(gt, .inr (9, [.int st9, .ref tp, .int td, .int fk, .int fpl, .ref bk, .int un, .ref mb, .ref mu, .int mk, .ref rd, .ref cm, .ref wk, .ref pp, .ref so, .ref ty]))]) hD hS hA [0] rfl
          refine va_calli (va_runV (As := [.int 3]) (rest := []) ⟨hx, hb, hml, hown, hts⟩ (s_refuse l dC dI gt tp bk mb mu rd cm wk pp so ty st9 td fk fpl un mk H.size 3) (cwV 1 hts mg_X9_copy_X9_refuse_80 rfl rfl rfl (by decide +kernel) ⟨Nat.le_of_ble_eq_true rfl, Nat.le_of_ble_eq_true rfl⟩) ⟨fun a U g mk q => by obtain ⟨q0, q1, qP, qK, qD⟩ := q; exact ⟨q0, q1, qP, va_K.moved (u := U) (U := U.calling g mk a) (Vm.Alike.refl U.vm) qK, qD⟩, va_recv hKc hPc (ci := 9) (q0 := 0) rfl rfl, fun U hU hW => ⟨rfl, by rw [hU], by rw [hU]; exact hPc, va_K.moved hW.alike hKc, hDc.weaken (fun _ _ _ _ => trivial)⟩⟩ rfl rfl hl.1 rfl (lv_room (Nat.le_of_ble_eq_true rfl)) dX9_copy_51 ⟨Nat.le_of_ble_eq_true rfl, Nat.le_of_ble_eq_true rfl⟩) hS (fun q _ h => hFc q h) hFc (fun r_75 u t H1 locs ht hvm hw hB hz1 hk1 hS => ?_)
          obtain ⟨hP1, hK1, hD1⟩ := hB
          rw [ht] at hP1
          have hr_75 := hw
          obtain ⟨hP, hD⟩ := va_join (wr := [(so, .inl (cso, 60, .inl fso))]) (w1 := [(gt, .inr (9, [.int 3, .ref tp, .int td, .int fk, .int fpl, .ref bk, .int un, .ref mb, .ref mu, .int mk, .ref rd, .ref cm, .ref wk, .ref pp, .ref so, .ref ty]))]) hP hD [0] [1] rfl rfl (by decide) (by decide) hk1 hFc hP1 hD1
          generalize H1 = H at hP hS ⊢
          have hP : va_P (dC, dI) vwCl [(so, .inl (cso, 60, .inl fso)), (gt, .inr (9, [.int 3, .ref tp, .int td, .int fk, .int fpl, .ref bk, .int un, .ref mb, .ref mu, .int mk, .ref rd, .ref cm, .ref wk, .ref pp, .ref so, .ref ty]))] H := hP
          have hD : va_D A [(so, .inl (cso, 60, .inl fso)), (gt, .inr (9, [.int 3, .ref tp, .int td, .int fk, .int fpl, .ref bk, .int un, .ref mb, .ref mu, .int mk, .ref rd, .ref cm, .ref wk, .ref pp, .ref so, .ref ty]))] := hD
          have hQ := q_at hQ0 hQA hS
          have hP9 := hP.sub (ws' := [(gt, .inr (9, [.int 3, .ref tp, .int td, .int fk, .int fpl, .ref bk, .int un, .ref mb, .ref mu, .int mk, .ref rd, .ref cm, .ref wk, .ref pp, .ref so, .ref ty])), (so, .inl (cso, 60, .inl fso))]) [1, 0] rfl
          have hD9 := hD.sub (ws' := [(gt, .inr (9, [.int 3, .ref tp, .int td, .int fk, .int fpl, .ref bk, .int un, .ref mb, .ref mu, .int mk, .ref rd, .ref cm, .ref wk, .ref pp, .ref so, .ref ty])), (so, .inl (cso, 60, .inl fso))]) [1, 0] (by decide) rfl
          have hK9 := hK.sub (tys' := [(cso, .int)]) [0] rfl
          refine W.widen (k := 5) (n := 135) (by omega) (by omega) ?_
          exact W.iret hx hb hr (fun t ht hW => ⟨⟨_, (), rfl, trivial, 3, bk, un, fso, W9, T9, B9, gN.same hB9, hbk, by rw [ht]; exact hQ, va_K.moved hW.alike hKQ, by rw [ht]; exact hP9, va_K.moved hW.alike hK9, hD9⟩, hS.F ht⟩) hS.2.2 dX9_copy_54
    · have tk_9 := c_nge (a := i3.toInt) (b := 1) rfl (by decide) k_9
      refine lv_aload_n hx hb dX9_copy_9 rfl (lv_at hl 0 rfl) ?_
      refine lv_iconst (v := 1) hx hb dX9_copy_10 (by decide) ?_
      have hPc := hP.sub (ws' := [(gt, .inr (9, [.int st9, .ref tp, .int td, .int fk, .int fpl, .ref bk, .int un, .ref mb, .ref mu, .int mk, .ref rd, .ref cm, .ref wk, .ref pp, .ref so, .ref ty]))]) [0] rfl
      have hKc := hK.sub (tys' := []) [] rfl
      have hDc := hD.sub (ws' := [(gt, .inr (9, [.int st9, .ref tp, .int td, .int fk, .int fpl, .ref bk, .int un, .ref mb, .ref mu, .int mk, .ref rd, .ref cm, .ref wk, .ref pp, .ref so, .ref ty]))]) [0] (by decide) rfl
      have hFc := va_free (wc := [(gt, .inr (9, [.int st9, .ref tp, .int td, .int fk, .int fpl, .ref bk, .int un, .ref mb, .ref mu, .int mk, .ref rd, .ref cm, .ref wk, .ref pp, .ref so, .ref ty]))]) hD hS hA [0] rfl
      refine va_calli (va_runV (As := [.int 1]) (rest := []) ⟨hx, hb, hml, hown, hts⟩ (s_refuse l dC dI gt tp bk mb mu rd cm wk pp so ty st9 td fk fpl un mk H.size 1) (cwV 1 hts mg_X9_copy_X9_refuse_80 rfl rfl rfl (by decide +kernel) ⟨Nat.le_of_ble_eq_true rfl, Nat.le_of_ble_eq_true rfl⟩) ⟨fun a U g mk q => by obtain ⟨q0, q1, qP, qK, qD⟩ := q; exact ⟨q0, q1, qP, va_K.moved (u := U) (U := U.calling g mk a) (Vm.Alike.refl U.vm) qK, qD⟩, va_recv hKc hPc (ci := 9) (q0 := 0) rfl rfl, fun U hU hW => ⟨rfl, by rw [hU], by rw [hU]; exact hPc, va_K.moved hW.alike hKc, hDc.weaken (fun _ _ _ _ => trivial)⟩⟩ rfl rfl hl.1 rfl (lv_room (Nat.le_of_ble_eq_true rfl)) dX9_copy_11 ⟨Nat.le_of_ble_eq_true rfl, Nat.le_of_ble_eq_true rfl⟩) hS (fun q _ h => hFc q h) hFc (fun r_77 u t H1 locs ht hvm hw hB hz1 hk1 hS => ?_)
      obtain ⟨hP1, hK1, hD1⟩ := hB
      rw [ht] at hP1
      have hr_77 := hw
      obtain ⟨hP, hD⟩ := va_join (wr := [(so, .inl (cso, 60, .inl fso))]) (w1 := [(gt, .inr (9, [.int 1, .ref tp, .int td, .int fk, .int fpl, .ref bk, .int un, .ref mb, .ref mu, .int mk, .ref rd, .ref cm, .ref wk, .ref pp, .ref so, .ref ty]))]) hP hD [0] [1] rfl rfl (by decide) (by decide) hk1 hFc hP1 hD1
      generalize H1 = H at hP hS ⊢
      have hP : va_P (dC, dI) vwCl [(so, .inl (cso, 60, .inl fso)), (gt, .inr (9, [.int 1, .ref tp, .int td, .int fk, .int fpl, .ref bk, .int un, .ref mb, .ref mu, .int mk, .ref rd, .ref cm, .ref wk, .ref pp, .ref so, .ref ty]))] H := hP
      have hD : va_D A [(so, .inl (cso, 60, .inl fso)), (gt, .inr (9, [.int 1, .ref tp, .int td, .int fk, .int fpl, .ref bk, .int un, .ref mb, .ref mu, .int mk, .ref rd, .ref cm, .ref wk, .ref pp, .ref so, .ref ty]))] := hD
      have hQ := q_at hQ0 hQA hS
      have hP9 := hP.sub (ws' := [(gt, .inr (9, [.int 1, .ref tp, .int td, .int fk, .int fpl, .ref bk, .int un, .ref mb, .ref mu, .int mk, .ref rd, .ref cm, .ref wk, .ref pp, .ref so, .ref ty])), (so, .inl (cso, 60, .inl fso))]) [1, 0] rfl
      have hD9 := hD.sub (ws' := [(gt, .inr (9, [.int 1, .ref tp, .int td, .int fk, .int fpl, .ref bk, .int un, .ref mb, .ref mu, .int mk, .ref rd, .ref cm, .ref wk, .ref pp, .ref so, .ref ty])), (so, .inl (cso, 60, .inl fso))]) [1, 0] (by decide) rfl
      have hK9 := hK.sub (tys' := [(cso, .int)]) [0] rfl
      refine W.widen (k := 5) (n := 135) (by omega) (by omega) ?_
      exact W.iret hx hb hr (fun t ht hW => ⟨⟨_, (), rfl, trivial, 1, bk, un, fso, W9, T9, B9, gN.same hB9, hbk, by rw [ht]; exact hQ, va_K.moved hW.alike hKQ, by rw [ht]; exact hP9, va_K.moved hW.alike hK9, hD9⟩, hS.F ht⟩) hS.2.2 dX9_copy_14
theorem dX9_drop_0 : decode cX9_drop 0 = .ok (.aload_n 0, 1) := by decide +kernel
theorem dX9_drop_1 : decode cX9_drop 1 = .ok (.getfield 29, 3) := by decide +kernel
theorem dX9_drop_4 : decode cX9_drop 4 = .ok (.iload_n 1, 1) := by decide +kernel
theorem dX9_drop_5 : decode cX9_drop 5 = .ok (.invokevirtual 123, 3) := by decide +kernel
theorem dX9_drop_8 : decode cX9_drop 8 = .ok (.ifnonnull 9, 3) := by decide +kernel
theorem dX9_drop_11 : decode cX9_drop 11 = .ok (.aload_n 0, 1) := by decide +kernel
theorem dX9_drop_12 : decode cX9_drop 12 = .ok (.iconst 2, 1) := by decide +kernel
theorem dX9_drop_13 : decode cX9_drop 13 = .ok (.invokevirtual 80, 3) := by decide +kernel
theorem dX9_drop_16 : decode cX9_drop 16 = .ok (.ireturn, 1) := by decide +kernel
theorem dX9_drop_17 : decode cX9_drop 17 = .ok (.aload_n 0, 1) := by decide +kernel
theorem dX9_drop_18 : decode cX9_drop 18 = .ok (.aload_n 0, 1) := by decide +kernel
theorem dX9_drop_19 : decode cX9_drop 19 = .ok (.getfield 29, 3) := by decide +kernel
theorem dX9_drop_22 : decode cX9_drop 22 = .ok (.iload_n 1, 1) := by decide +kernel
theorem dX9_drop_23 : decode cX9_drop 23 = .ok (.invokevirtual 271, 3) := by decide +kernel
theorem dX9_drop_26 : decode cX9_drop 26 = .ok (.invokevirtual 92, 3) := by decide +kernel
theorem dX9_drop_29 : decode cX9_drop 29 = .ok (.aload_n 0, 1) := by decide +kernel
theorem dX9_drop_30 : decode cX9_drop 30 = .ok (.aload_n 0, 1) := by decide +kernel
theorem dX9_drop_31 : decode cX9_drop 31 = .ok (.getfield 29, 3) := by decide +kernel
theorem dX9_drop_34 : decode cX9_drop 34 = .ok (.getfield 96, 3) := by decide +kernel
theorem dX9_drop_37 : decode cX9_drop 37 = .ok (.arraylength, 1) := by decide +kernel
theorem dX9_drop_38 : decode cX9_drop 38 = .ok (.invokevirtual 100, 3) := by decide +kernel
theorem dX9_drop_41 : decode cX9_drop 41 = .ok (.ireturn, 1) := by decide +kernel
def mwX9_drop : List Cond := .code yX9_drop cX9_drop 2 (some .int) :: (([.fieldLink RX9 29 "PatternGate" "book" "LPatternGate$Book;", .methodLink RX9 123 yX0_docAt, .instanceMethod yX0_docAt, .selects RX0 yX0_docAt yX0_docAt, .initialized RX0, .methodLink RX9 80 yX9_refuse, .instanceMethod yX9_refuse, .selects RX9 yX9_refuse yX9_refuse, .initialized RX9, .methodLink RX9 271 yX0_withoutDoc, .instanceMethod yX0_withoutDoc, .selects RX0 yX0_withoutDoc yX0_withoutDoc, .methodLink RX9 92 yX9_act, .instanceMethod yX9_act, .selects RX9 yX9_act yX9_act, .fieldLink RX9 96 "PatternGate$Book" "docs" "[LPatternGate$Doc;", .methodLink RX9 100 yX9_answer, .instanceMethod yX9_answer, .selects RX9 yX9_answer yX9_answer] : List Cond) ++ (wsX90 ++ (wsX00 ++ (mwX0_docAt ++ (mwX9_refuse ++ (mwX0_withoutDoc ++ (mwX9_act ++ (mwX9_answer))))))))
theorem fin_X9_drop_X0 : ∀ w ∈ wsX00, w ∈ mwX9_drop := fun w h => List.mem_cons_of_mem _ (List.mem_append_right _ (List.mem_append_right _ (List.mem_append_left _ h)))
theorem fin_X9_drop_X9 : ∀ w ∈ wsX90, w ∈ mwX9_drop := fun w h => List.mem_cons_of_mem _ (List.mem_append_right _ (List.mem_append_left _ h))
set_option maxRecDepth 100000 in
theorem gd_mwX0_withoutDoc : mwX0_withoutDoc.all goodWord = true := by decide +kernel
set_option maxRecDepth 20000 in
theorem mg_X9_drop_X0_docAt_123 : GoodIn mwX9_drop (wsV RX9 123 RX0 yX0_docAt mwX0_docAt) := gi_app (A := [.methodLink RX9 123 yX0_docAt, .instanceMethod yX0_docAt, .selects RX0 yX0_docAt yX0_docAt, .initialized RX0]) (goodIn_r _ [2, 3, 4, 5] (by decide +kernel) (by decide +kernel)) (gi_sub gd_mwX0_docAt (fun w h => List.mem_cons_of_mem _ (List.mem_append_right _ (List.mem_append_right _ (List.mem_append_right _ (List.mem_append_left _ h))))))
set_option maxRecDepth 20000 in
theorem mg_X9_drop_X9_refuse_80 : GoodIn mwX9_drop (wsV RX9 80 RX9 yX9_refuse mwX9_refuse) := gi_app (A := [.methodLink RX9 80 yX9_refuse, .instanceMethod yX9_refuse, .selects RX9 yX9_refuse yX9_refuse, .initialized RX9]) (goodIn_r _ [6, 7, 8, 9] (by decide +kernel) (by decide +kernel)) (gi_sub gd_mwX9_refuse (fun w h => List.mem_cons_of_mem _ (List.mem_append_right _ (List.mem_append_right _ (List.mem_append_right _ (List.mem_append_right _ (List.mem_append_left _ h)))))))
set_option maxRecDepth 20000 in
theorem mg_X9_drop_X0_withoutDoc_271 : GoodIn mwX9_drop (wsV RX9 271 RX0 yX0_withoutDoc mwX0_withoutDoc) := gi_app (A := [.methodLink RX9 271 yX0_withoutDoc, .instanceMethod yX0_withoutDoc, .selects RX0 yX0_withoutDoc yX0_withoutDoc, .initialized RX0]) (goodIn_r _ [10, 11, 12, 5] (by decide +kernel) (by decide +kernel)) (gi_sub gd_mwX0_withoutDoc (fun w h => List.mem_cons_of_mem _ (List.mem_append_right _ (List.mem_append_right _ (List.mem_append_right _ (List.mem_append_right _ (List.mem_append_right _ (List.mem_append_left _ h))))))))
set_option maxRecDepth 20000 in
theorem mg_X9_drop_X9_act_92 : GoodIn mwX9_drop (wsV RX9 92 RX9 yX9_act mwX9_act) := gi_app (A := [.methodLink RX9 92 yX9_act, .instanceMethod yX9_act, .selects RX9 yX9_act yX9_act, .initialized RX9]) (goodIn_r _ [13, 14, 15, 9] (by decide +kernel) (by decide +kernel)) (gi_sub gd_mwX9_act (fun w h => List.mem_cons_of_mem _ (List.mem_append_right _ (List.mem_append_right _ (List.mem_append_right _ (List.mem_append_right _ (List.mem_append_right _ (List.mem_append_right _ (List.mem_append_left _ h)))))))))
set_option maxRecDepth 20000 in
theorem mg_X9_drop_X9_answer_100 : GoodIn mwX9_drop (wsV RX9 100 RX9 yX9_answer mwX9_answer) := gi_app (A := [.methodLink RX9 100 yX9_answer, .instanceMethod yX9_answer, .selects RX9 yX9_answer yX9_answer, .initialized RX9]) (goodIn_r _ [17, 18, 19, 9] (by decide +kernel) (by decide +kernel)) (gi_sub gd_mwX9_answer (fun w h => List.mem_cons_of_mem _ (List.mem_append_right _ (List.mem_append_right _ (List.mem_append_right _ (List.mem_append_right _ (List.mem_append_right _ (List.mem_append_right _ (List.mem_append_right _ (h))))))))))
set_option maxHeartbeats 4000000 in
set_option maxRecDepth 100000 in
/-- gate: drop -/
theorem s_g_drop (l : Launch) (dC : Nat → ClassId) (dI : Nat → Nat → Nat) (W9 : va_W) (T9 : List (ClassId × FieldType)) (B9 : Nat → Prop) (gt tp bk mb mu rd cm wk pp so ty : Nat) (st9 td fk fpl un mk : Int32) (sz : Nat) (i1 : Int32) (hB9 : gB W9 T9 B9) (hbk : B9 bk) : Met l yX9_drop mwX9_drop ({ frames := 3, cells := 2, slots := 13, locals := 180 }) (va_Pc [.ref gt, .int i1] (fun U => U.heap.size = sz ∧ va_P (dC, dI) vwCl ([(gt, .inr (9, [.int st9, .ref tp, .int td, .int fk, .int fpl, .ref bk, .int un, .ref mb, .ref mu, .int mk, .ref rd, .ref cm, .ref wk, .ref pp, .ref so, .ref ty]))]) U.heap ∧ va_K (dC, dI) vwCl ([]) U ∧ va_D (fun _ => True) ([(gt, .inr (9, [.int st9, .ref tp, .int td, .int fk, .int fpl, .ref bk, .int un, .ref mb, .ref mu, .int mk, .ref rd, .ref cm, .ref wk, .ref pp, .ref so, .ref ty]))]) ∧ va_AO "PatternGate$Doc" U ∧ va_P (dC, dI) vwCl W9 U.heap ∧ va_K (dC, dI) vwCl T9 U ∧ (∀ q ∈ W9, ¬ va_A ([(gt, .inr (9, [.int st9, .ref tp, .int td, .int fk, .int fpl, .ref bk, .int un, .ref mb, .ref mu, .int mk, .ref rd, .ref cm, .ref wk, .ref pp, .ref so, .ref ty]))]) sz q.1))) (va_Qi (fun (_ : Int32) (_ : Unit) => True) (fun _ t => ∃ (y0 : Int32) (b9 : Nat) (y6 : Int32) (W2 : va_W) (T2 : List (ClassId × FieldType)) (B2 : Nat → Prop), gN W9 W2 T9 T2 B9 B2 sz ∧ B2 b9 ∧ va_P (dC, dI) vwCl W2 t.heap ∧ va_K (dC, dI) vwCl T2 t ∧ va_P (dC, dI) vwCl [(gt, .inr (9, [.int y0, .ref tp, .int td, .int fk, .int fpl, .ref b9, .int y6, .ref mb, .ref mu, .int mk, .ref rd, .ref cm, .ref wk, .ref pp, .ref so, .ref ty]))] t.heap ∧ va_K (dC, dI) vwCl [] t ∧ va_D (va_A ([(gt, .inr (9, [.int st9, .ref tp, .int td, .int fk, .int fpl, .ref bk, .int un, .ref mb, .ref mu, .int mk, .ref rd, .ref cm, .ref wk, .ref pp, .ref so, .ref ty]))]) sz) [(gt, .inr (9, [.int y0, .ref tp, .int td, .int fk, .int fpl, .ref b9, .int y6, .ref mb, .ref mu, .int mk, .ref rd, .ref cm, .ref wk, .ref pp, .ref so, .ref ty]))]) (va_A ([(gt, .inr (9, [.int st9, .ref tp, .int td, .int fk, .int fpl, .ref bk, .int un, .ref mb, .ref mu, .int mk, .ref rd, .ref cm, .ref wk, .ref pp, .ref so, .ref ty]))]) sz)) 2 13 (va_A ([(gt, .inr (9, [.int st9, .ref tp, .int td, .int fk, .int fpl, .ref bk, .int un, .ref mb, .ref mu, .int mk, .ref rd, .ref cm, .ref wk, .ref pp, .ref so, .ref ty]))]) sz) := by
  refine Met.ofW (cc := cX9_drop) (maxL := 2) (ret := (some .int)) (by decide +kernel) rfl ?_
  intro p e s m args below meth c s₁ B hml hv
  obtain ⟨rfl, hsz, hP, hK, hD0, hAO2, hQ0, hKQ, hQA⟩ := hv
  have hx := B.exec
  have hb := B.bytes
  have hr := B.returns
  have hts := atoms_spec (ws := mwX9_drop) B.pre
  have hown : s.vm.findClass RX9 = some m.cls := findClass_of_methodNamed B.named
  have hlocks := B.notSynchronized
  subst hsz
  have hD := hD0.self (sz := s.heap.size)
  generalize hAe : va_A ([(gt, .inr (9, [.int st9, .ref tp, .int td, .int fk, .int fpl, .ref bk, .int un, .ref mb, .ref mu, .int mk, .ref rd, .ref cm, .ref wk, .ref pp, .ref so, .ref ty]))]) s.heap.size = A at hD hQA ⊢
  have hA : ∀ q : Nat, s.heap.size ≤ q → A q := fun q h => by rw [← hAe]; exact Or.inr h
  obtain ⟨sz9, hz9⟩ : ∃ n : Nat, n = s.heap.size := ⟨_, rfl⟩
  rw [← hz9]
  have hP : va_P (dC, dI) vwCl [(gt, .inr (9, [.int st9, .ref tp, .int td, .int fk, .int fpl, .ref bk, .int un, .ref mb, .ref mu, .int mk, .ref rd, .ref cm, .ref wk, .ref pp, .ref so, .ref ty]))] s.heap := hP
  have hD : va_D A [(gt, .inr (9, [.int st9, .ref tp, .int td, .int fk, .int fpl, .ref bk, .int un, .ref mb, .ref mu, .int mk, .ref rd, .ref cm, .ref wk, .ref pp, .ref so, .ref ty]))] := hD
  have hK : va_K (dC, dI) vwCl [] s := hK
  generalize hH : s.heap = H at hP ⊢
  have hS : va_S A s.heap H [] := by rw [← hH]; exact va_S.rf
  have hQ := q_at hQ0 hQA hS
  have hl := lv_entry ([.ref gt, .int i1]) (n := 2) (Nat.le_of_ble_eq_true rfl)
  rw [lg_entry_eq]
  generalize (lg_sl ([.ref gt, .int i1]) ++ List.replicate (2 - (lg_sl ([.ref gt, .int i1])).length) Slot.unset).toArray = ls at hl ⊢
  have hl : lv_has ls 2 [(0, .ref gt), (1, .int i1)] := hl
  have rg_i1 := i_rng i1
  obtain ⟨ear, hB3, hear⟩ := hB9 bk hbk
  have hB0 := hB3.poB
  obtain ⟨ds, ps, nd, np, fd, fp, cD, cP, m1, m2, m3, m4, m5, hnd, hnp, hds, hps⟩ := id hB3
  obtain ⟨k_1, hk_1⟩ := List.getElem?_of_mem m1
  obtain ⟨k_2, hk_2⟩ := List.getElem?_of_mem m2
  obtain ⟨j_3, hj_3⟩ := List.getElem?_of_mem m3
  obtain ⟨k_4, hk_4⟩ := List.getElem?_of_mem m4
  obtain ⟨j_5, hj_5⟩ := List.getElem?_of_mem m5
  have r_un := i_rng un
  have r_mk := i_rng mk
  have r_td := i_rng td
  refine lv_aload_n hx hb dX9_drop_0 rfl (lv_at hl 0 rfl) ?_
  refine va_get (D := (dC, dI)) (ci := 9) (v := .ref bk) (C := RX9) (T := TX9) (N := 16) hx hb hts fin_X9_drop_X9 hown hK hP 0 rfl rfl 5 (by decide) (hts (.fieldLink RX9 29 "PatternGate" "book" "LPatternGate$Book;") (List.mem_of_getElem? (i := 1) (by decide +kernel))) (fun _ h9 => h9) rfl dX9_drop_1 ?_
  refine lv_iload_n hx hb dX9_drop_4 rfl (lv_at hl 1 rfl) ?_
  have hPc := hQ
  have hKc := hKQ
  refine va_csq (W.runV (As := [.int i1]) (rest := []) ⟨hx, hb, hml, hown, hts⟩ (s_docAt l dC dI W9 T9 bk i1 hB0) (cwV 1 hts mg_X9_drop_X0_docAt_123 rfl rfl rfl (by decide +kernel) ⟨Nat.le_of_ble_eq_true rfl, Nat.le_of_ble_eq_true rfl⟩) ⟨fun a U g mk q => by obtain ⟨q0, qP, qK⟩ := q; exact ⟨q0, qP, va_K.moved (u := U) (U := U.calling g mk a) (Vm.Alike.refl U.vm) qK⟩, va_recv hKc hPc (ci := 0) (q0 := k_1) rfl hk_1, fun U hU hW => ⟨rfl, by rw [hU]; exact hPc, va_K.moved hW.alike hKc⟩⟩ rfl rfl hl.1 rfl (lv_room (Nat.le_of_ble_eq_true rfl)) dX9_drop_5 ⟨Nat.le_of_ble_eq_true rfl, Nat.le_of_ble_eq_true rfl⟩) (fun r_7 hw => ?_)
  rcases hw with rfl | ⟨d_8, rfl, hd_8⟩
  · refine W.eq (g2 := F0 m 8 ls [.null]) rfl ?_
    refine lv_ifnonnullN hx hb dX9_drop_8 ?_
    refine lv_aload_n hx hb dX9_drop_11 rfl (lv_at hl 0 rfl) ?_
    refine lv_iconst (v := 2) hx hb dX9_drop_12 (by decide) ?_
    have hPc := hP.sub (ws' := [(gt, .inr (9, [.int st9, .ref tp, .int td, .int fk, .int fpl, .ref bk, .int un, .ref mb, .ref mu, .int mk, .ref rd, .ref cm, .ref wk, .ref pp, .ref so, .ref ty]))]) [0] rfl
    have hKc := hK.sub (tys' := []) [] rfl
    have hDc := hD.sub (ws' := [(gt, .inr (9, [.int st9, .ref tp, .int td, .int fk, .int fpl, .ref bk, .int un, .ref mb, .ref mu, .int mk, .ref rd, .ref cm, .ref wk, .ref pp, .ref so, .ref ty]))]) [0] (by decide) rfl
    have hFc := va_free (wc := [(gt, .inr (9, [.int st9, .ref tp, .int td, .int fk, .int fpl, .ref bk, .int un, .ref mb, .ref mu, .int mk, .ref rd, .ref cm, .ref wk, .ref pp, .ref so, .ref ty]))]) hD hS hA [0] rfl
    refine va_calli (va_runV (As := [.int 2]) (rest := []) ⟨hx, hb, hml, hown, hts⟩ (s_refuse l dC dI gt tp bk mb mu rd cm wk pp so ty st9 td fk fpl un mk H.size 2) (cwV 1 hts mg_X9_drop_X9_refuse_80 rfl rfl rfl (by decide +kernel) ⟨Nat.le_of_ble_eq_true rfl, Nat.le_of_ble_eq_true rfl⟩) ⟨fun a U g mk q => by obtain ⟨q0, q1, qP, qK, qD⟩ := q; exact ⟨q0, q1, qP, va_K.moved (u := U) (U := U.calling g mk a) (Vm.Alike.refl U.vm) qK, qD⟩, va_recv hKc hPc (ci := 9) (q0 := 0) rfl rfl, fun U hU hW => ⟨rfl, by rw [hU], by rw [hU]; exact hPc, va_K.moved hW.alike hKc, hDc.weaken (fun _ _ _ _ => trivial)⟩⟩ rfl rfl hl.1 rfl (lv_room (Nat.le_of_ble_eq_true rfl)) dX9_drop_13 ⟨Nat.le_of_ble_eq_true rfl, Nat.le_of_ble_eq_true rfl⟩) hS (fun q _ h => hFc q h) hFc (fun r_10 u t H1 locs ht hvm hw hB hz1 hk1 hS => ?_)
    obtain ⟨hP1, hK1, hD1⟩ := hB
    rw [ht] at hP1
    have hr_10 := hw
    obtain ⟨hP, hD⟩ := va_join (wr := []) (w1 := [(gt, .inr (9, [.int 2, .ref tp, .int td, .int fk, .int fpl, .ref bk, .int un, .ref mb, .ref mu, .int mk, .ref rd, .ref cm, .ref wk, .ref pp, .ref so, .ref ty]))]) hP hD [0] [] rfl rfl (by decide) (by decide) hk1 hFc hP1 hD1
    generalize H1 = H at hP hS ⊢
    have hP : va_P (dC, dI) vwCl [(gt, .inr (9, [.int 2, .ref tp, .int td, .int fk, .int fpl, .ref bk, .int un, .ref mb, .ref mu, .int mk, .ref rd, .ref cm, .ref wk, .ref pp, .ref so, .ref ty]))] H := hP
    have hD : va_D A [(gt, .inr (9, [.int 2, .ref tp, .int td, .int fk, .int fpl, .ref bk, .int un, .ref mb, .ref mu, .int mk, .ref rd, .ref cm, .ref wk, .ref pp, .ref so, .ref ty]))] := hD
    have hQ := q_at hQ0 hQA hS
    have hP9 := hP.sub (ws' := [(gt, .inr (9, [.int 2, .ref tp, .int td, .int fk, .int fpl, .ref bk, .int un, .ref mb, .ref mu, .int mk, .ref rd, .ref cm, .ref wk, .ref pp, .ref so, .ref ty]))]) [0] rfl
    have hD9 := hD.sub (ws' := [(gt, .inr (9, [.int 2, .ref tp, .int td, .int fk, .int fpl, .ref bk, .int un, .ref mb, .ref mu, .int mk, .ref rd, .ref cm, .ref wk, .ref pp, .ref so, .ref ty]))]) [0] (by decide) rfl
    have hK9 := hK.sub (tys' := []) [] rfl
    refine W.widen (k := 2) (n := 13) (by omega) (by omega) ?_
    exact W.iret hx hb hr (fun t ht hW => ⟨⟨_, (), rfl, trivial, 2, bk, un, W9, T9, B9, gN.same hB9, hbk, by rw [ht]; exact hQ, va_K.moved hW.alike hKQ, by rw [ht]; exact hP9, va_K.moved hW.alike hK9, hD9⟩, hS.F ht⟩) hS.2.2 dX9_drop_16
  · refine W.eq (g2 := F0 m 8 ls [.ref d_8]) rfl ?_
    have hd_8D := hd_8
    obtain ⟨la_11, ta_12, m_13, n_14, fl_15, ft_16, cI_17, cJ_18, m_19, ⟨m_20, m_21⟩, ⟨m_22, m_23⟩, m_24, m_25⟩ := hd_8
    obtain ⟨k_26, hk_26⟩ := List.getElem?_of_mem m_19
    obtain ⟨k_27, hk_27⟩ := List.getElem?_of_mem m_20
    obtain ⟨j_28, hj_28⟩ := List.getElem?_of_mem m_21
    obtain ⟨k_29, hk_29⟩ := List.getElem?_of_mem m_22
    obtain ⟨j_30, hj_30⟩ := List.getElem?_of_mem m_23
    refine lv_ifnonnull (tgt := 17) hx hb dX9_drop_8 (by decide) ?_
    refine lv_aload_n hx hb dX9_drop_17 rfl (lv_at hl 0 rfl) ?_
    refine lv_aload_n hx hb dX9_drop_18 rfl (lv_at hl 0 rfl) ?_
    refine va_get (D := (dC, dI)) (ci := 9) (v := .ref bk) (C := RX9) (T := TX9) (N := 16) hx hb hts fin_X9_drop_X9 hown hK hP 0 rfl rfl 5 (by decide) (hts (.fieldLink RX9 29 "PatternGate" "book" "LPatternGate$Book;") (List.mem_of_getElem? (i := 1) (by decide +kernel))) (fun _ h9 => h9) rfl dX9_drop_19 ?_
    refine lv_iload_n hx hb dX9_drop_22 rfl (lv_at hl 1 rfl) ?_
    have hPc := hP.sub (ws' := []) [] rfl
    have hKc := hK.sub (tys' := []) [] rfl
    have hDc := hD.sub (ws' := []) [] (by decide) rfl
    have hFc := va_free (wc := []) hD hS hA [] rfl
    refine va_callr (va_runV (As := [.int i1]) (rest := [.ref gt]) ⟨hx, hb, hml, hown, hts⟩ (s_withoutDoc l dC dI W9 T9 bk ear H.size i1 hB3) (cwV 1 hts mg_X9_drop_X0_withoutDoc_271 rfl rfl rfl (by decide +kernel) ⟨Nat.le_of_ble_eq_true rfl, Nat.le_of_ble_eq_true rfl⟩) ⟨fun a U g mk q => by obtain ⟨q0, q1, qP, qK, qD, qE0, qE1, qE2, qE3⟩ := q; exact ⟨q0, q1, qP, va_K.moved (u := U) (U := U.calling g mk a) (Vm.Alike.refl U.vm) qK, qD, va_AO.moved (u := U) (U := U.calling g mk a) (Vm.Alike.refl U.vm) qE0, qE1, va_K.moved (u := U) (U := U.calling g mk a) (Vm.Alike.refl U.vm) qE2, qE3⟩, va_recv hKQ hQ (ci := 0) (q0 := k_1) rfl hk_1, fun U hU hW => ⟨rfl, by rw [hU], by rw [hU]; exact hPc, va_K.moved hW.alike hKc, hDc.weaken (fun _ _ _ _ => trivial), va_AO.moved hW.alike hAO2, (by rw [hU]; exact hQ), va_K.moved hW.alike hKQ, (fun q hq => qA_sub (hQA q hq) hFc)⟩⟩ rfl rfl hl.1 rfl (lv_room (Nat.le_of_ble_eq_true rfl)) dX9_drop_23 ⟨Nat.le_of_ble_eq_true rfl, Nat.le_of_ble_eq_true rfl⟩) hS (fun q _ h => hFc q h) hFc (fun u r_32 t H1 locs ht hvm hw hB hz1 hk1 hS => ?_)
    rcases hB with ⟨hab, hK1⟩ | hB
    · have hab := hab.symm
      subst hab
      obtain ⟨hP, hD⟩ := va_join (wr := [(gt, .inr (9, [.int st9, .ref tp, .int td, .int fk, .int fpl, .ref bk, .int un, .ref mb, .ref mu, .int mk, .ref rd, .ref cm, .ref wk, .ref pp, .ref so, .ref ty]))]) (w1 := []) hP hD [] [0] rfl rfl (by decide) (by decide) hk1 hFc (fun k q h => by simp at h) ⟨fun i j p q h => by simp at h, fun k q h => by simp at h⟩
      generalize H1 = H at hP hS ⊢
      have hP : va_P (dC, dI) vwCl [(gt, .inr (9, [.int st9, .ref tp, .int td, .int fk, .int fpl, .ref bk, .int un, .ref mb, .ref mu, .int mk, .ref rd, .ref cm, .ref wk, .ref pp, .ref so, .ref ty]))] H := hP
      have hD : va_D A [(gt, .inr (9, [.int st9, .ref tp, .int td, .int fk, .int fpl, .ref bk, .int un, .ref mb, .ref mu, .int mk, .ref rd, .ref cm, .ref wk, .ref pp, .ref so, .ref ty]))] := hD
      have hQ := q_at hQ0 hQA hS
      refine W.eq (g2 := F0 m 26 ls [.ref bk, .ref gt]) rfl ?_
      have hPc := hP.sub (ws' := [(gt, .inr (9, [.int st9, .ref tp, .int td, .int fk, .int fpl, .ref bk, .int un, .ref mb, .ref mu, .int mk, .ref rd, .ref cm, .ref wk, .ref pp, .ref so, .ref ty]))]) [0] rfl
      have hKc := hK.sub (tys' := []) [] rfl
      have hDc := hD.sub (ws' := [(gt, .inr (9, [.int st9, .ref tp, .int td, .int fk, .int fpl, .ref bk, .int un, .ref mb, .ref mu, .int mk, .ref rd, .ref cm, .ref wk, .ref pp, .ref so, .ref ty]))]) [0] (by decide) rfl
      have hFc := va_free (wc := [(gt, .inr (9, [.int st9, .ref tp, .int td, .int fk, .int fpl, .ref bk, .int un, .ref mb, .ref mu, .int mk, .ref rd, .ref cm, .ref wk, .ref pp, .ref so, .ref ty]))]) hD hS hA [0] rfl
      refine va_callv (va_runV (As := [.ref bk]) (rest := []) ⟨hx, hb, hml, hown, hts⟩ (s_g_act l dC dI gt tp bk mb mu rd cm wk pp so ty st9 td fk fpl un mk bk H.size) (cwV 1 hts mg_X9_drop_X9_act_92 rfl rfl rfl (by decide +kernel) ⟨Nat.le_of_ble_eq_true rfl, Nat.le_of_ble_eq_true rfl⟩) ⟨fun a U g mk q => by obtain ⟨q0, q1, qP, qK, qD⟩ := q; exact ⟨q0, q1, qP, va_K.moved (u := U) (U := U.calling g mk a) (Vm.Alike.refl U.vm) qK, qD⟩, va_recv hKc hPc (ci := 9) (q0 := 0) rfl rfl, fun U hU hW => ⟨rfl, by rw [hU], by rw [hU]; exact hPc, va_K.moved hW.alike hKc, hDc.weaken (fun _ _ _ _ => trivial)⟩⟩ rfl rfl hl.1 rfl (lv_room (Nat.le_of_ble_eq_true rfl)) dX9_drop_26 ⟨Nat.le_of_ble_eq_true rfl, Nat.le_of_ble_eq_true rfl⟩) hS (fun q _ h => hFc q h) hFc (fun u t H1 locs ht hvm hw hB hz1 hk1 hS => ?_)
      obtain ⟨y_35, hP1, hK1, hD1⟩ := hB
      rw [ht] at hP1
      obtain ⟨hP, hD⟩ := va_join (wr := []) (w1 := [(gt, .inr (9, [.int st9, .ref tp, .int td, .int fk, .int fpl, .ref bk, .int y_35, .ref mb, .ref mu, .int mk, .ref rd, .ref cm, .ref wk, .ref pp, .ref so, .ref ty]))]) hP hD [0] [] rfl rfl (by decide) (by decide) hk1 hFc hP1 hD1
      generalize H1 = H at hP hS ⊢
      have hP : va_P (dC, dI) vwCl [(gt, .inr (9, [.int st9, .ref tp, .int td, .int fk, .int fpl, .ref bk, .int y_35, .ref mb, .ref mu, .int mk, .ref rd, .ref cm, .ref wk, .ref pp, .ref so, .ref ty]))] H := hP
      have hD : va_D A [(gt, .inr (9, [.int st9, .ref tp, .int td, .int fk, .int fpl, .ref bk, .int y_35, .ref mb, .ref mu, .int mk, .ref rd, .ref cm, .ref wk, .ref pp, .ref so, .ref ty]))] := hD
      have hQ := q_at hQ0 hQA hS
      refine lv_aload_n hx hb dX9_drop_29 rfl (lv_at hl 0 rfl) ?_
      refine lv_aload_n hx hb dX9_drop_30 rfl (lv_at hl 0 rfl) ?_
      refine va_get (D := (dC, dI)) (ci := 9) (v := .ref bk) (C := RX9) (T := TX9) (N := 16) hx hb hts fin_X9_drop_X9 hown hK hP 0 rfl rfl 5 (by decide) (hts (.fieldLink RX9 29 "PatternGate" "book" "LPatternGate$Book;") (List.mem_of_getElem? (i := 1) (by decide +kernel))) (fun _ h9 => h9) rfl dX9_drop_31 ?_
      refine va_get (D := (dC, dI)) (ci := 0) (v := .ref ds) (C := RX0) (T := TX0) (N := 3) hx hb hts fin_X9_drop_X0 hown hKQ hQ k_1 hk_1 rfl 0 (by decide) (hts (.fieldLink RX9 96 "PatternGate$Book" "docs" "[LPatternGate$Doc;") (List.mem_of_getElem? (i := 16) (by decide +kernel))) (fun _ h9 => h9) rfl dX9_drop_34 ?_
      refine va_alen hx hb hKQ hQ k_2 j_3 hk_2 hj_3 rfl dX9_drop_37 ?_
      refine lv_topi (fun y_36 ey_36 => ?_)
      have ty_36 : y_36.toInt = (nd : Int) := i_len ey_36 (by omega)
      have hPc := hP.sub (ws' := [(gt, .inr (9, [.int st9, .ref tp, .int td, .int fk, .int fpl, .ref bk, .int y_35, .ref mb, .ref mu, .int mk, .ref rd, .ref cm, .ref wk, .ref pp, .ref so, .ref ty]))]) [0] rfl
      have hKc := hK.sub (tys' := []) [] rfl
      have hDc := hD.sub (ws' := [(gt, .inr (9, [.int st9, .ref tp, .int td, .int fk, .int fpl, .ref bk, .int y_35, .ref mb, .ref mu, .int mk, .ref rd, .ref cm, .ref wk, .ref pp, .ref so, .ref ty]))]) [0] (by decide) rfl
      have hFc := va_free (wc := [(gt, .inr (9, [.int st9, .ref tp, .int td, .int fk, .int fpl, .ref bk, .int y_35, .ref mb, .ref mu, .int mk, .ref rd, .ref cm, .ref wk, .ref pp, .ref so, .ref ty]))]) hD hS hA [0] rfl
      refine va_calli (va_runV (As := [.int y_36]) (rest := []) ⟨hx, hb, hml, hown, hts⟩ (s_answer l dC dI gt tp bk mb mu rd cm wk pp so ty st9 td fk fpl y_35 mk H.size y_36) (cwV 1 hts mg_X9_drop_X9_answer_100 rfl rfl rfl (by decide +kernel) ⟨Nat.le_of_ble_eq_true rfl, Nat.le_of_ble_eq_true rfl⟩) ⟨fun a U g mk q => by obtain ⟨q0, q1, qP, qK, qD⟩ := q; exact ⟨q0, q1, qP, va_K.moved (u := U) (U := U.calling g mk a) (Vm.Alike.refl U.vm) qK, qD⟩, va_recv hKc hPc (ci := 9) (q0 := 0) rfl rfl, fun U hU hW => ⟨rfl, by rw [hU], by rw [hU]; exact hPc, va_K.moved hW.alike hKc, hDc.weaken (fun _ _ _ _ => trivial)⟩⟩ rfl rfl hl.1 rfl (lv_room (Nat.le_of_ble_eq_true rfl)) dX9_drop_38 ⟨Nat.le_of_ble_eq_true rfl, Nat.le_of_ble_eq_true rfl⟩) hS (fun q _ h => hFc q h) hFc (fun r_38 u t H1 locs ht hvm hw hB hz1 hk1 hS => ?_)
      obtain ⟨hP1, hK1, hD1⟩ := hB
      rw [ht] at hP1
      have hr_38 := hw
      obtain ⟨hP, hD⟩ := va_join (wr := []) (w1 := [(gt, .inr (9, [.int 0, .ref tp, .int td, .int fk, .int fpl, .ref bk, .int y_35, .ref mb, .ref mu, .int mk, .ref rd, .ref cm, .ref wk, .ref pp, .ref so, .ref ty]))]) hP hD [0] [] rfl rfl (by decide) (by decide) hk1 hFc hP1 hD1
      generalize H1 = H at hP hS ⊢
      have hP : va_P (dC, dI) vwCl [(gt, .inr (9, [.int 0, .ref tp, .int td, .int fk, .int fpl, .ref bk, .int y_35, .ref mb, .ref mu, .int mk, .ref rd, .ref cm, .ref wk, .ref pp, .ref so, .ref ty]))] H := hP
      have hD : va_D A [(gt, .inr (9, [.int 0, .ref tp, .int td, .int fk, .int fpl, .ref bk, .int y_35, .ref mb, .ref mu, .int mk, .ref rd, .ref cm, .ref wk, .ref pp, .ref so, .ref ty]))] := hD
      have hQ := q_at hQ0 hQA hS
      have hP9 := hP.sub (ws' := [(gt, .inr (9, [.int 0, .ref tp, .int td, .int fk, .int fpl, .ref bk, .int y_35, .ref mb, .ref mu, .int mk, .ref rd, .ref cm, .ref wk, .ref pp, .ref so, .ref ty]))]) [0] rfl
      have hD9 := hD.sub (ws' := [(gt, .inr (9, [.int 0, .ref tp, .int td, .int fk, .int fpl, .ref bk, .int y_35, .ref mb, .ref mu, .int mk, .ref rd, .ref cm, .ref wk, .ref pp, .ref so, .ref ty]))]) [0] (by decide) rfl
      have hK9 := hK.sub (tys' := []) [] rfl
      refine W.widen (k := 2) (n := 13) (by omega) (by omega) ?_
      exact W.iret hx hb hr (fun t ht hW => ⟨⟨_, (), rfl, trivial, 0, bk, y_35, W9, T9, B9, gN.same hB9, hbk, by rw [ht]; exact hQ, va_K.moved hW.alike hKQ, by rw [ht]; exact hP9, va_K.moved hW.alike hK9, hD9⟩, hS.F ht⟩) hS.2.2 dX9_drop_41
    · obtain ⟨q_39, n_40, q_41, f_42, c_43, h_44, h_45, hP1, hK1, hD1⟩ := hB
      rw [ht] at hP1
      have hK := hK.app (va_K.moved hvm.symm hK1)
      have hK : va_K (dC, dI) vwCl [(c_43, .object "PatternGate$Doc")] s := hK
      obtain ⟨hP, hD⟩ := va_join (wr := [(gt, .inr (9, [.int st9, .ref tp, .int td, .int fk, .int fpl, .ref bk, .int un, .ref mb, .ref mu, .int mk, .ref rd, .ref cm, .ref wk, .ref pp, .ref so, .ref ty]))]) (w1 := [(q_39, .inl (c_43, n_40, .inr (.inr (.inr (.inr f_42))))), (r_32, .inr (0, [.ref q_39, .ref q_41, .ref bk]))]) hP hD [] [0] rfl rfl (by decide) (by decide) hk1 hFc hP1 hD1
      generalize H1 = H at hP hS ⊢
      have hP : va_P (dC, dI) vwCl [(gt, .inr (9, [.int st9, .ref tp, .int td, .int fk, .int fpl, .ref bk, .int un, .ref mb, .ref mu, .int mk, .ref rd, .ref cm, .ref wk, .ref pp, .ref so, .ref ty])), (q_39, .inl (c_43, n_40, .inr (.inr (.inr (.inr f_42))))), (r_32, .inr (0, [.ref q_39, .ref q_41, .ref bk]))] H := hP
      have hD : va_D A [(gt, .inr (9, [.int st9, .ref tp, .int td, .int fk, .int fpl, .ref bk, .int un, .ref mb, .ref mu, .int mk, .ref rd, .ref cm, .ref wk, .ref pp, .ref so, .ref ty])), (q_39, .inl (c_43, n_40, .inr (.inr (.inr (.inr f_42))))), (r_32, .inr (0, [.ref q_39, .ref q_41, .ref bk]))] := hD
      have hQ := q_at hQ0 hQA hS
      have hPc := hP.sub (ws' := [(gt, .inr (9, [.int st9, .ref tp, .int td, .int fk, .int fpl, .ref bk, .int un, .ref mb, .ref mu, .int mk, .ref rd, .ref cm, .ref wk, .ref pp, .ref so, .ref ty]))]) [0] rfl
      have hKc := hK.sub (tys' := []) [] rfl
      have hDc := hD.sub (ws' := [(gt, .inr (9, [.int st9, .ref tp, .int td, .int fk, .int fpl, .ref bk, .int un, .ref mb, .ref mu, .int mk, .ref rd, .ref cm, .ref wk, .ref pp, .ref so, .ref ty]))]) [0] (by decide) rfl
      have hFc := va_free (wc := [(gt, .inr (9, [.int st9, .ref tp, .int td, .int fk, .int fpl, .ref bk, .int un, .ref mb, .ref mu, .int mk, .ref rd, .ref cm, .ref wk, .ref pp, .ref so, .ref ty]))]) hD hS hA [0] rfl
      refine va_callv (va_runV (As := [.ref r_32]) (rest := []) ⟨hx, hb, hml, hown, hts⟩ (s_g_act l dC dI gt tp bk mb mu rd cm wk pp so ty st9 td fk fpl un mk r_32 H.size) (cwV 1 hts mg_X9_drop_X9_act_92 rfl rfl rfl (by decide +kernel) ⟨Nat.le_of_ble_eq_true rfl, Nat.le_of_ble_eq_true rfl⟩) ⟨fun a U g mk q => by obtain ⟨q0, q1, qP, qK, qD⟩ := q; exact ⟨q0, q1, qP, va_K.moved (u := U) (U := U.calling g mk a) (Vm.Alike.refl U.vm) qK, qD⟩, va_recv hKc hPc (ci := 9) (q0 := 0) rfl rfl, fun U hU hW => ⟨rfl, by rw [hU], by rw [hU]; exact hPc, va_K.moved hW.alike hKc, hDc.weaken (fun _ _ _ _ => trivial)⟩⟩ rfl rfl hl.1 rfl (lv_room (Nat.le_of_ble_eq_true rfl)) dX9_drop_26 ⟨Nat.le_of_ble_eq_true rfl, Nat.le_of_ble_eq_true rfl⟩) hS (fun q _ h => hFc q h) hFc (fun u t H1 locs ht hvm hw hB hz1 hk1 hS => ?_)
      obtain ⟨y_48, hP1, hK1, hD1⟩ := hB
      rw [ht] at hP1
      obtain ⟨hP, hD⟩ := va_join (wr := [(q_39, .inl (c_43, n_40, .inr (.inr (.inr (.inr f_42))))), (r_32, .inr (0, [.ref q_39, .ref q_41, .ref bk]))]) (w1 := [(gt, .inr (9, [.int st9, .ref tp, .int td, .int fk, .int fpl, .ref r_32, .int y_48, .ref mb, .ref mu, .int mk, .ref rd, .ref cm, .ref wk, .ref pp, .ref so, .ref ty]))]) hP hD [0] [1, 2] rfl rfl (by decide) (by decide) hk1 hFc hP1 hD1
      generalize H1 = H at hP hS ⊢
      have hP : va_P (dC, dI) vwCl [(q_39, .inl (c_43, n_40, .inr (.inr (.inr (.inr f_42))))), (r_32, .inr (0, [.ref q_39, .ref q_41, .ref bk])), (gt, .inr (9, [.int st9, .ref tp, .int td, .int fk, .int fpl, .ref r_32, .int y_48, .ref mb, .ref mu, .int mk, .ref rd, .ref cm, .ref wk, .ref pp, .ref so, .ref ty]))] H := hP
      have hD : va_D A [(q_39, .inl (c_43, n_40, .inr (.inr (.inr (.inr f_42))))), (r_32, .inr (0, [.ref q_39, .ref q_41, .ref bk])), (gt, .inr (9, [.int st9, .ref tp, .int td, .int fk, .int fpl, .ref r_32, .int y_48, .ref mb, .ref mu, .int mk, .ref rd, .ref cm, .ref wk, .ref pp, .ref so, .ref ty]))] := hD
      have hQ := q_at hQ0 hQA hS
      refine lv_aload_n hx hb dX9_drop_29 rfl (lv_at hl 0 rfl) ?_
      refine lv_aload_n hx hb dX9_drop_30 rfl (lv_at hl 0 rfl) ?_
      refine va_get (D := (dC, dI)) (ci := 9) (v := .ref r_32) (C := RX9) (T := TX9) (N := 16) hx hb hts fin_X9_drop_X9 hown hK hP 2 rfl rfl 5 (by decide) (hts (.fieldLink RX9 29 "PatternGate" "book" "LPatternGate$Book;") (List.mem_of_getElem? (i := 1) (by decide +kernel))) (fun _ h9 => h9) rfl dX9_drop_31 ?_
      refine va_get (D := (dC, dI)) (ci := 0) (v := .ref q_39) (C := RX0) (T := TX0) (N := 3) hx hb hts fin_X9_drop_X0 hown hK hP 1 rfl rfl 0 (by decide) (hts (.fieldLink RX9 96 "PatternGate$Book" "docs" "[LPatternGate$Doc;") (List.mem_of_getElem? (i := 16) (by decide +kernel))) (fun _ h9 => h9) rfl dX9_drop_34 ?_
      refine va_alen hx hb hK hP 0 0 rfl rfl rfl dX9_drop_37 ?_
      refine lv_topi (fun y_49 ey_49 => ?_)
      have ty_49 : y_49.toInt = (n_40 : Int) := i_len ey_49 (by omega)
      have hPc := hP.sub (ws' := [(gt, .inr (9, [.int st9, .ref tp, .int td, .int fk, .int fpl, .ref r_32, .int y_48, .ref mb, .ref mu, .int mk, .ref rd, .ref cm, .ref wk, .ref pp, .ref so, .ref ty]))]) [2] rfl
      have hKc := hK.sub (tys' := []) [] rfl
      have hDc := hD.sub (ws' := [(gt, .inr (9, [.int st9, .ref tp, .int td, .int fk, .int fpl, .ref r_32, .int y_48, .ref mb, .ref mu, .int mk, .ref rd, .ref cm, .ref wk, .ref pp, .ref so, .ref ty]))]) [2] (by decide) rfl
      have hFc := va_free (wc := [(gt, .inr (9, [.int st9, .ref tp, .int td, .int fk, .int fpl, .ref r_32, .int y_48, .ref mb, .ref mu, .int mk, .ref rd, .ref cm, .ref wk, .ref pp, .ref so, .ref ty]))]) hD hS hA [2] rfl
      refine va_calli (va_runV (As := [.int y_49]) (rest := []) ⟨hx, hb, hml, hown, hts⟩ (s_answer l dC dI gt tp r_32 mb mu rd cm wk pp so ty st9 td fk fpl y_48 mk H.size y_49) (cwV 1 hts mg_X9_drop_X9_answer_100 rfl rfl rfl (by decide +kernel) ⟨Nat.le_of_ble_eq_true rfl, Nat.le_of_ble_eq_true rfl⟩) ⟨fun a U g mk q => by obtain ⟨q0, q1, qP, qK, qD⟩ := q; exact ⟨q0, q1, qP, va_K.moved (u := U) (U := U.calling g mk a) (Vm.Alike.refl U.vm) qK, qD⟩, va_recv hKc hPc (ci := 9) (q0 := 0) rfl rfl, fun U hU hW => ⟨rfl, by rw [hU], by rw [hU]; exact hPc, va_K.moved hW.alike hKc, hDc.weaken (fun _ _ _ _ => trivial)⟩⟩ rfl rfl hl.1 rfl (lv_room (Nat.le_of_ble_eq_true rfl)) dX9_drop_38 ⟨Nat.le_of_ble_eq_true rfl, Nat.le_of_ble_eq_true rfl⟩) hS (fun q _ h => hFc q h) hFc (fun r_51 u t H1 locs ht hvm hw hB hz1 hk1 hS => ?_)
      obtain ⟨hP1, hK1, hD1⟩ := hB
      rw [ht] at hP1
      have hr_51 := hw
      obtain ⟨hP, hD⟩ := va_join (wr := [(q_39, .inl (c_43, n_40, .inr (.inr (.inr (.inr f_42))))), (r_32, .inr (0, [.ref q_39, .ref q_41, .ref bk]))]) (w1 := [(gt, .inr (9, [.int 0, .ref tp, .int td, .int fk, .int fpl, .ref r_32, .int y_48, .ref mb, .ref mu, .int mk, .ref rd, .ref cm, .ref wk, .ref pp, .ref so, .ref ty]))]) hP hD [2] [0, 1] rfl rfl (by decide) (by decide) hk1 hFc hP1 hD1
      generalize H1 = H at hP hS ⊢
      have hP : va_P (dC, dI) vwCl [(q_39, .inl (c_43, n_40, .inr (.inr (.inr (.inr f_42))))), (r_32, .inr (0, [.ref q_39, .ref q_41, .ref bk])), (gt, .inr (9, [.int 0, .ref tp, .int td, .int fk, .int fpl, .ref r_32, .int y_48, .ref mb, .ref mu, .int mk, .ref rd, .ref cm, .ref wk, .ref pp, .ref so, .ref ty]))] H := hP
      have hD : va_D A [(q_39, .inl (c_43, n_40, .inr (.inr (.inr (.inr f_42))))), (r_32, .inr (0, [.ref q_39, .ref q_41, .ref bk])), (gt, .inr (9, [.int 0, .ref tp, .int td, .int fk, .int fpl, .ref r_32, .int y_48, .ref mb, .ref mu, .int mk, .ref rd, .ref cm, .ref wk, .ref pp, .ref so, .ref ty]))] := hD
      have hQ := q_at hQ0 hQA hS
      have hP9 := hP.sub (ws' := [(gt, .inr (9, [.int 0, .ref tp, .int td, .int fk, .int fpl, .ref r_32, .int y_48, .ref mb, .ref mu, .int mk, .ref rd, .ref cm, .ref wk, .ref pp, .ref so, .ref ty]))]) [2] rfl
      have hD9 := hD.sub (ws' := [(gt, .inr (9, [.int 0, .ref tp, .int td, .int fk, .int fpl, .ref r_32, .int y_48, .ref mb, .ref mu, .int mk, .ref rd, .ref cm, .ref wk, .ref pp, .ref so, .ref ty]))]) [2] (by decide) rfl
      have hK9 := hK.sub (tys' := []) [] rfl
      refine W.widen (k := 2) (n := 13) (by omega) (by omega) ?_
      have hPn := hP.sub (ws' := [(q_39, .inl (c_43, n_40, .inr (.inr (.inr (.inr f_42))))), (r_32, .inr (0, [.ref q_39, .ref q_41, .ref bk]))]) [0, 1] rfl
      have hDz := hD.sub (ws' := [(gt, .inr (9, [.int 0, .ref tp, .int td, .int fk, .int fpl, .ref r_32, .int y_48, .ref mb, .ref mu, .int mk, .ref rd, .ref cm, .ref wk, .ref pp, .ref so, .ref ty])), (q_39, .inl (c_43, n_40, .inr (.inr (.inr (.inr f_42))))), (r_32, .inr (0, [.ref q_39, .ref q_41, .ref bk]))]) [2, 0, 1] (by decide) rfl
      rw [← hAe] at hDz
      have hge := nw_ge (W1 := [(gt, .inr (9, [.int 0, .ref tp, .int td, .int fk, .int fpl, .ref r_32, .int y_48, .ref mb, .ref mu, .int mk, .ref rd, .ref cm, .ref wk, .ref pp, .ref so, .ref ty]))]) (X := [(q_39, .inl (c_43, n_40, .inr (.inr (.inr (.inr f_42))))), (r_32, .inr (0, [.ref q_39, .ref q_41, .ref bk]))]) hDz rfl
      rw [← hz9] at hge
      have hKn := hK.sub (tys' := [(c_43, .object "PatternGate$Doc")]) [0] rfl
      have hnb : poB3 (W9 ++ [(q_39, .inl (c_43, n_40, .inr (.inr (.inr (.inr f_42))))), (r_32, .inr (0, [.ref q_39, .ref q_41, .ref bk]))]) (T9 ++ [(c_43, .object "PatternGate$Doc")]) r_32 (some bk) := h_44 _ _ (fun _ h => List.mem_append_left _ h) (fun _ h => List.mem_append_left _ h) (List.mem_append_right _ (List.mem_of_getElem? (i := 0) rfl)) (List.mem_append_right _ (List.mem_of_getElem? (i := 0) rfl)) (List.mem_append_right _ (List.mem_of_getElem? (i := 1) rfl)) (fun x hx => hx.elim)
      exact W.iret hx hb hr (fun t ht hW => ⟨⟨_, (), rfl, trivial, 0, r_32, y_48, _, _, _, gN.act hB9 hbk hnb hge, Or.inr rfl, by rw [ht]; exact hQ.app hPn, (va_K.moved hW.alike hKQ).app (va_K.moved hW.alike hKn), by rw [ht]; exact hP9, va_K.moved hW.alike hK9, hD9⟩, hS.F ht⟩) hS.2.2 dX9_drop_41
theorem dX9_forget_0 : decode cX9_forget 0 = .ok (.aload_n 0, 1) := by decide +kernel
theorem dX9_forget_1 : decode cX9_forget 1 = .ok (.getfield 29, 3) := by decide +kernel
theorem dX9_forget_4 : decode cX9_forget 4 = .ok (.iload_n 1, 1) := by decide +kernel
theorem dX9_forget_5 : decode cX9_forget 5 = .ok (.invokevirtual 140, 3) := by decide +kernel
theorem dX9_forget_8 : decode cX9_forget 8 = .ok (.ifnonnull 9, 3) := by decide +kernel
theorem dX9_forget_11 : decode cX9_forget 11 = .ok (.aload_n 0, 1) := by decide +kernel
theorem dX9_forget_12 : decode cX9_forget 12 = .ok (.iconst 2, 1) := by decide +kernel
theorem dX9_forget_13 : decode cX9_forget 13 = .ok (.invokevirtual 80, 3) := by decide +kernel
theorem dX9_forget_16 : decode cX9_forget 16 = .ok (.ireturn, 1) := by decide +kernel
theorem dX9_forget_17 : decode cX9_forget 17 = .ok (.aload_n 0, 1) := by decide +kernel
theorem dX9_forget_18 : decode cX9_forget 18 = .ok (.aload_n 0, 1) := by decide +kernel
theorem dX9_forget_19 : decode cX9_forget 19 = .ok (.getfield 29, 3) := by decide +kernel
theorem dX9_forget_22 : decode cX9_forget 22 = .ok (.iload_n 1, 1) := by decide +kernel
theorem dX9_forget_23 : decode cX9_forget 23 = .ok (.invokevirtual 275, 3) := by decide +kernel
theorem dX9_forget_26 : decode cX9_forget 26 = .ok (.invokevirtual 92, 3) := by decide +kernel
theorem dX9_forget_29 : decode cX9_forget 29 = .ok (.aload_n 0, 1) := by decide +kernel
theorem dX9_forget_30 : decode cX9_forget 30 = .ok (.aload_n 0, 1) := by decide +kernel
theorem dX9_forget_31 : decode cX9_forget 31 = .ok (.getfield 29, 3) := by decide +kernel
theorem dX9_forget_34 : decode cX9_forget 34 = .ok (.getfield 103, 3) := by decide +kernel
theorem dX9_forget_37 : decode cX9_forget 37 = .ok (.arraylength, 1) := by decide +kernel
theorem dX9_forget_38 : decode cX9_forget 38 = .ok (.invokevirtual 100, 3) := by decide +kernel
theorem dX9_forget_41 : decode cX9_forget 41 = .ok (.ireturn, 1) := by decide +kernel
def mwX9_forget : List Cond := .code yX9_forget cX9_forget 2 (some .int) :: (([.fieldLink RX9 29 "PatternGate" "book" "LPatternGate$Book;", .methodLink RX9 140 yX0_patternAt, .instanceMethod yX0_patternAt, .selects RX0 yX0_patternAt yX0_patternAt, .initialized RX0, .methodLink RX9 80 yX9_refuse, .instanceMethod yX9_refuse, .selects RX9 yX9_refuse yX9_refuse, .initialized RX9, .methodLink RX9 275 yX0_withoutPattern, .instanceMethod yX0_withoutPattern, .selects RX0 yX0_withoutPattern yX0_withoutPattern, .methodLink RX9 92 yX9_act, .instanceMethod yX9_act, .selects RX9 yX9_act yX9_act, .fieldLink RX9 103 "PatternGate$Book" "patterns" "[LPatternGate$Pattern;", .methodLink RX9 100 yX9_answer, .instanceMethod yX9_answer, .selects RX9 yX9_answer yX9_answer] : List Cond) ++ (wsX90 ++ (wsX00 ++ (mwX0_patternAt2 ++ (mwX9_refuse ++ (mwX0_withoutPattern ++ (mwX9_act ++ (mwX9_answer))))))))
theorem fin_X9_forget_X0 : ∀ w ∈ wsX00, w ∈ mwX9_forget := fun w h => List.mem_cons_of_mem _ (List.mem_append_right _ (List.mem_append_right _ (List.mem_append_left _ h)))
theorem fin_X9_forget_X9 : ∀ w ∈ wsX90, w ∈ mwX9_forget := fun w h => List.mem_cons_of_mem _ (List.mem_append_right _ (List.mem_append_left _ h))
set_option maxRecDepth 100000 in
theorem gd_mwX0_withoutPattern : mwX0_withoutPattern.all goodWord = true := by decide +kernel
set_option maxRecDepth 20000 in
theorem mg_X9_forget_X0_patternAt_140 : GoodIn mwX9_forget (wsV RX9 140 RX0 yX0_patternAt mwX0_patternAt2) := gi_app (A := [.methodLink RX9 140 yX0_patternAt, .instanceMethod yX0_patternAt, .selects RX0 yX0_patternAt yX0_patternAt, .initialized RX0]) (goodIn_r _ [2, 3, 4, 5] (by decide +kernel) (by decide +kernel)) (gi_sub gd_mwX0_patternAt2 (fun w h => List.mem_cons_of_mem _ (List.mem_append_right _ (List.mem_append_right _ (List.mem_append_right _ (List.mem_append_left _ h))))))
set_option maxRecDepth 20000 in
theorem mg_X9_forget_X9_refuse_80 : GoodIn mwX9_forget (wsV RX9 80 RX9 yX9_refuse mwX9_refuse) := gi_app (A := [.methodLink RX9 80 yX9_refuse, .instanceMethod yX9_refuse, .selects RX9 yX9_refuse yX9_refuse, .initialized RX9]) (goodIn_r _ [6, 7, 8, 9] (by decide +kernel) (by decide +kernel)) (gi_sub gd_mwX9_refuse (fun w h => List.mem_cons_of_mem _ (List.mem_append_right _ (List.mem_append_right _ (List.mem_append_right _ (List.mem_append_right _ (List.mem_append_left _ h)))))))
set_option maxRecDepth 20000 in
theorem mg_X9_forget_X0_withoutPattern_275 : GoodIn mwX9_forget (wsV RX9 275 RX0 yX0_withoutPattern mwX0_withoutPattern) := gi_app (A := [.methodLink RX9 275 yX0_withoutPattern, .instanceMethod yX0_withoutPattern, .selects RX0 yX0_withoutPattern yX0_withoutPattern, .initialized RX0]) (goodIn_r _ [10, 11, 12, 5] (by decide +kernel) (by decide +kernel)) (gi_sub gd_mwX0_withoutPattern (fun w h => List.mem_cons_of_mem _ (List.mem_append_right _ (List.mem_append_right _ (List.mem_append_right _ (List.mem_append_right _ (List.mem_append_right _ (List.mem_append_left _ h))))))))
set_option maxRecDepth 20000 in
theorem mg_X9_forget_X9_act_92 : GoodIn mwX9_forget (wsV RX9 92 RX9 yX9_act mwX9_act) := gi_app (A := [.methodLink RX9 92 yX9_act, .instanceMethod yX9_act, .selects RX9 yX9_act yX9_act, .initialized RX9]) (goodIn_r _ [13, 14, 15, 9] (by decide +kernel) (by decide +kernel)) (gi_sub gd_mwX9_act (fun w h => List.mem_cons_of_mem _ (List.mem_append_right _ (List.mem_append_right _ (List.mem_append_right _ (List.mem_append_right _ (List.mem_append_right _ (List.mem_append_right _ (List.mem_append_left _ h)))))))))
set_option maxRecDepth 20000 in
theorem mg_X9_forget_X9_answer_100 : GoodIn mwX9_forget (wsV RX9 100 RX9 yX9_answer mwX9_answer) := gi_app (A := [.methodLink RX9 100 yX9_answer, .instanceMethod yX9_answer, .selects RX9 yX9_answer yX9_answer, .initialized RX9]) (goodIn_r _ [17, 18, 19, 9] (by decide +kernel) (by decide +kernel)) (gi_sub gd_mwX9_answer (fun w h => List.mem_cons_of_mem _ (List.mem_append_right _ (List.mem_append_right _ (List.mem_append_right _ (List.mem_append_right _ (List.mem_append_right _ (List.mem_append_right _ (List.mem_append_right _ (h))))))))))
set_option maxHeartbeats 4000000 in
set_option maxRecDepth 100000 in
/-- gate: forget -/
theorem s_g_forget (l : Launch) (dC : Nat → ClassId) (dI : Nat → Nat → Nat) (W9 : va_W) (T9 : List (ClassId × FieldType)) (B9 : Nat → Prop) (gt tp bk mb mu rd cm wk pp so ty : Nat) (st9 td fk fpl un mk : Int32) (sz : Nat) (i1 : Int32) (hB9 : gB W9 T9 B9) (hbk : B9 bk) : Met l yX9_forget mwX9_forget ({ frames := 3, cells := 2, slots := 13, locals := 180 }) (va_Pc [.ref gt, .int i1] (fun U => U.heap.size = sz ∧ va_P (dC, dI) vwCl ([(gt, .inr (9, [.int st9, .ref tp, .int td, .int fk, .int fpl, .ref bk, .int un, .ref mb, .ref mu, .int mk, .ref rd, .ref cm, .ref wk, .ref pp, .ref so, .ref ty]))]) U.heap ∧ va_K (dC, dI) vwCl ([]) U ∧ va_D (fun _ => True) ([(gt, .inr (9, [.int st9, .ref tp, .int td, .int fk, .int fpl, .ref bk, .int un, .ref mb, .ref mu, .int mk, .ref rd, .ref cm, .ref wk, .ref pp, .ref so, .ref ty]))]) ∧ va_AO "PatternGate$Pattern" U ∧ va_P (dC, dI) vwCl W9 U.heap ∧ va_K (dC, dI) vwCl T9 U ∧ (∀ q ∈ W9, ¬ va_A ([(gt, .inr (9, [.int st9, .ref tp, .int td, .int fk, .int fpl, .ref bk, .int un, .ref mb, .ref mu, .int mk, .ref rd, .ref cm, .ref wk, .ref pp, .ref so, .ref ty]))]) sz q.1))) (va_Qi (fun (_ : Int32) (_ : Unit) => True) (fun _ t => ∃ (y0 : Int32) (b9 : Nat) (y6 : Int32) (W2 : va_W) (T2 : List (ClassId × FieldType)) (B2 : Nat → Prop), gN W9 W2 T9 T2 B9 B2 sz ∧ B2 b9 ∧ va_P (dC, dI) vwCl W2 t.heap ∧ va_K (dC, dI) vwCl T2 t ∧ va_P (dC, dI) vwCl [(gt, .inr (9, [.int y0, .ref tp, .int td, .int fk, .int fpl, .ref b9, .int y6, .ref mb, .ref mu, .int mk, .ref rd, .ref cm, .ref wk, .ref pp, .ref so, .ref ty]))] t.heap ∧ va_K (dC, dI) vwCl [] t ∧ va_D (va_A ([(gt, .inr (9, [.int st9, .ref tp, .int td, .int fk, .int fpl, .ref bk, .int un, .ref mb, .ref mu, .int mk, .ref rd, .ref cm, .ref wk, .ref pp, .ref so, .ref ty]))]) sz) [(gt, .inr (9, [.int y0, .ref tp, .int td, .int fk, .int fpl, .ref b9, .int y6, .ref mb, .ref mu, .int mk, .ref rd, .ref cm, .ref wk, .ref pp, .ref so, .ref ty]))]) (va_A ([(gt, .inr (9, [.int st9, .ref tp, .int td, .int fk, .int fpl, .ref bk, .int un, .ref mb, .ref mu, .int mk, .ref rd, .ref cm, .ref wk, .ref pp, .ref so, .ref ty]))]) sz)) 2 13 (va_A ([(gt, .inr (9, [.int st9, .ref tp, .int td, .int fk, .int fpl, .ref bk, .int un, .ref mb, .ref mu, .int mk, .ref rd, .ref cm, .ref wk, .ref pp, .ref so, .ref ty]))]) sz) := by
  refine Met.ofW (cc := cX9_forget) (maxL := 2) (ret := (some .int)) (by decide +kernel) rfl ?_
  intro p e s m args below meth c s₁ B hml hv
  obtain ⟨rfl, hsz, hP, hK, hD0, hAO5, hQ0, hKQ, hQA⟩ := hv
  have hx := B.exec
  have hb := B.bytes
  have hr := B.returns
  have hts := atoms_spec (ws := mwX9_forget) B.pre
  have hown : s.vm.findClass RX9 = some m.cls := findClass_of_methodNamed B.named
  have hlocks := B.notSynchronized
  subst hsz
  have hD := hD0.self (sz := s.heap.size)
  generalize hAe : va_A ([(gt, .inr (9, [.int st9, .ref tp, .int td, .int fk, .int fpl, .ref bk, .int un, .ref mb, .ref mu, .int mk, .ref rd, .ref cm, .ref wk, .ref pp, .ref so, .ref ty]))]) s.heap.size = A at hD hQA ⊢
  have hA : ∀ q : Nat, s.heap.size ≤ q → A q := fun q h => by rw [← hAe]; exact Or.inr h
  obtain ⟨sz9, hz9⟩ : ∃ n : Nat, n = s.heap.size := ⟨_, rfl⟩
  rw [← hz9]
  have hP : va_P (dC, dI) vwCl [(gt, .inr (9, [.int st9, .ref tp, .int td, .int fk, .int fpl, .ref bk, .int un, .ref mb, .ref mu, .int mk, .ref rd, .ref cm, .ref wk, .ref pp, .ref so, .ref ty]))] s.heap := hP
  have hD : va_D A [(gt, .inr (9, [.int st9, .ref tp, .int td, .int fk, .int fpl, .ref bk, .int un, .ref mb, .ref mu, .int mk, .ref rd, .ref cm, .ref wk, .ref pp, .ref so, .ref ty]))] := hD
  have hK : va_K (dC, dI) vwCl [] s := hK
  generalize hH : s.heap = H at hP ⊢
  have hS : va_S A s.heap H [] := by rw [← hH]; exact va_S.rf
  have hQ := q_at hQ0 hQA hS
  have hl := lv_entry ([.ref gt, .int i1]) (n := 2) (Nat.le_of_ble_eq_true rfl)
  rw [lg_entry_eq]
  generalize (lg_sl ([.ref gt, .int i1]) ++ List.replicate (2 - (lg_sl ([.ref gt, .int i1])).length) Slot.unset).toArray = ls at hl ⊢
  have hl : lv_has ls 2 [(0, .ref gt), (1, .int i1)] := hl
  have rg_i1 := i_rng i1
  obtain ⟨ear, hB3, hear⟩ := hB9 bk hbk
  have hB0 := hB3.poB
  obtain ⟨ds, ps, nd, np, fd, fp, cD, cP, m1, m2, m3, m4, m5, hnd, hnp, hds, hps⟩ := id hB3
  obtain ⟨k_1, hk_1⟩ := List.getElem?_of_mem m1
  obtain ⟨k_2, hk_2⟩ := List.getElem?_of_mem m2
  obtain ⟨j_3, hj_3⟩ := List.getElem?_of_mem m3
  obtain ⟨k_4, hk_4⟩ := List.getElem?_of_mem m4
  obtain ⟨j_5, hj_5⟩ := List.getElem?_of_mem m5
  have r_un := i_rng un
  have r_mk := i_rng mk
  have r_td := i_rng td
  refine lv_aload_n hx hb dX9_forget_0 rfl (lv_at hl 0 rfl) ?_
  refine va_get (D := (dC, dI)) (ci := 9) (v := .ref bk) (C := RX9) (T := TX9) (N := 16) hx hb hts fin_X9_forget_X9 hown hK hP 0 rfl rfl 5 (by decide) (hts (.fieldLink RX9 29 "PatternGate" "book" "LPatternGate$Book;") (List.mem_of_getElem? (i := 1) (by decide +kernel))) (fun _ h9 => h9) rfl dX9_forget_1 ?_
  refine lv_iload_n hx hb dX9_forget_4 rfl (lv_at hl 1 rfl) ?_
  have hPc := hQ
  have hKc := hKQ
  refine va_csq (W.runV (As := [.int i1]) (rest := []) ⟨hx, hb, hml, hown, hts⟩ (s_patternAt2 l dC dI W9 T9 bk ear i1 hB3) (cwV 1 hts mg_X9_forget_X0_patternAt_140 rfl rfl rfl (by decide +kernel) ⟨Nat.le_of_ble_eq_true rfl, Nat.le_of_ble_eq_true rfl⟩) ⟨fun a U g mk q => by obtain ⟨q0, qP, qK⟩ := q; exact ⟨q0, qP, va_K.moved (u := U) (U := U.calling g mk a) (Vm.Alike.refl U.vm) qK⟩, va_recv hKc hPc (ci := 0) (q0 := k_1) rfl hk_1, fun U hU hW => ⟨rfl, by rw [hU]; exact hPc, va_K.moved hW.alike hKc⟩⟩ rfl rfl hl.1 rfl (lv_room (Nat.le_of_ble_eq_true rfl)) dX9_forget_5 ⟨Nat.le_of_ble_eq_true rfl, Nat.le_of_ble_eq_true rfl⟩) (fun r_7 hw => ?_)
  rcases hw with rfl | ⟨d_8, rfl, hd_8⟩
  · refine W.eq (g2 := F0 m 8 ls [.null]) rfl ?_
    refine lv_ifnonnullN hx hb dX9_forget_8 ?_
    refine lv_aload_n hx hb dX9_forget_11 rfl (lv_at hl 0 rfl) ?_
    refine lv_iconst (v := 2) hx hb dX9_forget_12 (by decide) ?_
    have hPc := hP.sub (ws' := [(gt, .inr (9, [.int st9, .ref tp, .int td, .int fk, .int fpl, .ref bk, .int un, .ref mb, .ref mu, .int mk, .ref rd, .ref cm, .ref wk, .ref pp, .ref so, .ref ty]))]) [0] rfl
    have hKc := hK.sub (tys' := []) [] rfl
    have hDc := hD.sub (ws' := [(gt, .inr (9, [.int st9, .ref tp, .int td, .int fk, .int fpl, .ref bk, .int un, .ref mb, .ref mu, .int mk, .ref rd, .ref cm, .ref wk, .ref pp, .ref so, .ref ty]))]) [0] (by decide) rfl
    have hFc := va_free (wc := [(gt, .inr (9, [.int st9, .ref tp, .int td, .int fk, .int fpl, .ref bk, .int un, .ref mb, .ref mu, .int mk, .ref rd, .ref cm, .ref wk, .ref pp, .ref so, .ref ty]))]) hD hS hA [0] rfl
    refine va_calli (va_runV (As := [.int 2]) (rest := []) ⟨hx, hb, hml, hown, hts⟩ (s_refuse l dC dI gt tp bk mb mu rd cm wk pp so ty st9 td fk fpl un mk H.size 2) (cwV 1 hts mg_X9_forget_X9_refuse_80 rfl rfl rfl (by decide +kernel) ⟨Nat.le_of_ble_eq_true rfl, Nat.le_of_ble_eq_true rfl⟩) ⟨fun a U g mk q => by obtain ⟨q0, q1, qP, qK, qD⟩ := q; exact ⟨q0, q1, qP, va_K.moved (u := U) (U := U.calling g mk a) (Vm.Alike.refl U.vm) qK, qD⟩, va_recv hKc hPc (ci := 9) (q0 := 0) rfl rfl, fun U hU hW => ⟨rfl, by rw [hU], by rw [hU]; exact hPc, va_K.moved hW.alike hKc, hDc.weaken (fun _ _ _ _ => trivial)⟩⟩ rfl rfl hl.1 rfl (lv_room (Nat.le_of_ble_eq_true rfl)) dX9_forget_13 ⟨Nat.le_of_ble_eq_true rfl, Nat.le_of_ble_eq_true rfl⟩) hS (fun q _ h => hFc q h) hFc (fun r_10 u t H1 locs ht hvm hw hB hz1 hk1 hS => ?_)
    obtain ⟨hP1, hK1, hD1⟩ := hB
    rw [ht] at hP1
    have hr_10 := hw
    obtain ⟨hP, hD⟩ := va_join (wr := []) (w1 := [(gt, .inr (9, [.int 2, .ref tp, .int td, .int fk, .int fpl, .ref bk, .int un, .ref mb, .ref mu, .int mk, .ref rd, .ref cm, .ref wk, .ref pp, .ref so, .ref ty]))]) hP hD [0] [] rfl rfl (by decide) (by decide) hk1 hFc hP1 hD1
    generalize H1 = H at hP hS ⊢
    have hP : va_P (dC, dI) vwCl [(gt, .inr (9, [.int 2, .ref tp, .int td, .int fk, .int fpl, .ref bk, .int un, .ref mb, .ref mu, .int mk, .ref rd, .ref cm, .ref wk, .ref pp, .ref so, .ref ty]))] H := hP
    have hD : va_D A [(gt, .inr (9, [.int 2, .ref tp, .int td, .int fk, .int fpl, .ref bk, .int un, .ref mb, .ref mu, .int mk, .ref rd, .ref cm, .ref wk, .ref pp, .ref so, .ref ty]))] := hD
    have hQ := q_at hQ0 hQA hS
    have hP9 := hP.sub (ws' := [(gt, .inr (9, [.int 2, .ref tp, .int td, .int fk, .int fpl, .ref bk, .int un, .ref mb, .ref mu, .int mk, .ref rd, .ref cm, .ref wk, .ref pp, .ref so, .ref ty]))]) [0] rfl
    have hD9 := hD.sub (ws' := [(gt, .inr (9, [.int 2, .ref tp, .int td, .int fk, .int fpl, .ref bk, .int un, .ref mb, .ref mu, .int mk, .ref rd, .ref cm, .ref wk, .ref pp, .ref so, .ref ty]))]) [0] (by decide) rfl
    have hK9 := hK.sub (tys' := []) [] rfl
    refine W.widen (k := 2) (n := 13) (by omega) (by omega) ?_
    exact W.iret hx hb hr (fun t ht hW => ⟨⟨_, (), rfl, trivial, 2, bk, un, W9, T9, B9, gN.same hB9, hbk, by rw [ht]; exact hQ, va_K.moved hW.alike hKQ, by rw [ht]; exact hP9, va_K.moved hW.alike hK9, hD9⟩, hS.F ht⟩) hS.2.2 dX9_forget_16
  · refine W.eq (g2 := F0 m 8 ls [.ref d_8]) rfl ?_
    have hd_8P := hd_8.poP
    have hd_8Q := hd_8
    obtain ⟨q_11, a_12, a_13, a_14, a_15, a_16, a_17, n_18, n_19, n_20, n_21, n_22, n_23, n_24, f_25, f_26, f_27, f_28, f_29, f_30, f_31, c_32, c_33, c_34, c_35, c_36, c_37, c_38, m_39, ⟨m_40, m_41⟩, ⟨m_42, m_43⟩, ⟨m_44, m_45⟩, ⟨m_46, m_47⟩, ⟨m_48, m_49⟩, ⟨m_50, m_51⟩, ⟨m_52, m_53, h_64⟩, h_54, h_55, h_56, h_57, h_58, h_59, h_60, h_61, h_62, h_63⟩ := hd_8
    obtain ⟨k_65, hk_65⟩ := List.getElem?_of_mem m_39
    obtain ⟨k_66, hk_66⟩ := List.getElem?_of_mem m_40
    obtain ⟨j_67, hj_67⟩ := List.getElem?_of_mem m_41
    obtain ⟨k_68, hk_68⟩ := List.getElem?_of_mem m_42
    obtain ⟨j_69, hj_69⟩ := List.getElem?_of_mem m_43
    obtain ⟨k_70, hk_70⟩ := List.getElem?_of_mem m_44
    obtain ⟨j_71, hj_71⟩ := List.getElem?_of_mem m_45
    obtain ⟨k_72, hk_72⟩ := List.getElem?_of_mem m_46
    obtain ⟨j_73, hj_73⟩ := List.getElem?_of_mem m_47
    obtain ⟨k_74, hk_74⟩ := List.getElem?_of_mem m_48
    obtain ⟨j_75, hj_75⟩ := List.getElem?_of_mem m_49
    obtain ⟨k_76, hk_76⟩ := List.getElem?_of_mem m_50
    obtain ⟨j_77, hj_77⟩ := List.getElem?_of_mem m_51
    obtain ⟨k_78, hk_78⟩ := List.getElem?_of_mem m_52
    obtain ⟨j_79, hj_79⟩ := List.getElem?_of_mem m_53
    refine lv_ifnonnull (tgt := 17) hx hb dX9_forget_8 (by decide) ?_
    refine lv_aload_n hx hb dX9_forget_17 rfl (lv_at hl 0 rfl) ?_
    refine lv_aload_n hx hb dX9_forget_18 rfl (lv_at hl 0 rfl) ?_
    refine va_get (D := (dC, dI)) (ci := 9) (v := .ref bk) (C := RX9) (T := TX9) (N := 16) hx hb hts fin_X9_forget_X9 hown hK hP 0 rfl rfl 5 (by decide) (hts (.fieldLink RX9 29 "PatternGate" "book" "LPatternGate$Book;") (List.mem_of_getElem? (i := 1) (by decide +kernel))) (fun _ h9 => h9) rfl dX9_forget_19 ?_
    refine lv_iload_n hx hb dX9_forget_22 rfl (lv_at hl 1 rfl) ?_
    have hPc := hP.sub (ws' := []) [] rfl
    have hKc := hK.sub (tys' := []) [] rfl
    have hDc := hD.sub (ws' := []) [] (by decide) rfl
    have hFc := va_free (wc := []) hD hS hA [] rfl
    refine va_callr (va_runV (As := [.int i1]) (rest := [.ref gt]) ⟨hx, hb, hml, hown, hts⟩ (s_withoutPattern l dC dI W9 T9 bk ear H.size i1 hB3) (cwV 1 hts mg_X9_forget_X0_withoutPattern_275 rfl rfl rfl (by decide +kernel) ⟨Nat.le_of_ble_eq_true rfl, Nat.le_of_ble_eq_true rfl⟩) ⟨fun a U g mk q => by obtain ⟨q0, q1, qP, qK, qD, qE0, qE1, qE2, qE3⟩ := q; exact ⟨q0, q1, qP, va_K.moved (u := U) (U := U.calling g mk a) (Vm.Alike.refl U.vm) qK, qD, va_AO.moved (u := U) (U := U.calling g mk a) (Vm.Alike.refl U.vm) qE0, qE1, va_K.moved (u := U) (U := U.calling g mk a) (Vm.Alike.refl U.vm) qE2, qE3⟩, va_recv hKQ hQ (ci := 0) (q0 := k_1) rfl hk_1, fun U hU hW => ⟨rfl, by rw [hU], by rw [hU]; exact hPc, va_K.moved hW.alike hKc, hDc.weaken (fun _ _ _ _ => trivial), va_AO.moved hW.alike hAO5, (by rw [hU]; exact hQ), va_K.moved hW.alike hKQ, (fun q hq => qA_sub (hQA q hq) hFc)⟩⟩ rfl rfl hl.1 rfl (lv_room (Nat.le_of_ble_eq_true rfl)) dX9_forget_23 ⟨Nat.le_of_ble_eq_true rfl, Nat.le_of_ble_eq_true rfl⟩) hS (fun q _ h => hFc q h) hFc (fun u r_81 t H1 locs ht hvm hw hB hz1 hk1 hS => ?_)
    rcases hB with ⟨hab, hK1⟩ | hB
    · have hab := hab.symm
      subst hab
      obtain ⟨hP, hD⟩ := va_join (wr := [(gt, .inr (9, [.int st9, .ref tp, .int td, .int fk, .int fpl, .ref bk, .int un, .ref mb, .ref mu, .int mk, .ref rd, .ref cm, .ref wk, .ref pp, .ref so, .ref ty]))]) (w1 := []) hP hD [] [0] rfl rfl (by decide) (by decide) hk1 hFc (fun k q h => by simp at h) ⟨fun i j p q h => by simp at h, fun k q h => by simp at h⟩
      generalize H1 = H at hP hS ⊢
      have hP : va_P (dC, dI) vwCl [(gt, .inr (9, [.int st9, .ref tp, .int td, .int fk, .int fpl, .ref bk, .int un, .ref mb, .ref mu, .int mk, .ref rd, .ref cm, .ref wk, .ref pp, .ref so, .ref ty]))] H := hP
      have hD : va_D A [(gt, .inr (9, [.int st9, .ref tp, .int td, .int fk, .int fpl, .ref bk, .int un, .ref mb, .ref mu, .int mk, .ref rd, .ref cm, .ref wk, .ref pp, .ref so, .ref ty]))] := hD
      have hQ := q_at hQ0 hQA hS
      refine W.eq (g2 := F0 m 26 ls [.ref bk, .ref gt]) rfl ?_
      have hPc := hP.sub (ws' := [(gt, .inr (9, [.int st9, .ref tp, .int td, .int fk, .int fpl, .ref bk, .int un, .ref mb, .ref mu, .int mk, .ref rd, .ref cm, .ref wk, .ref pp, .ref so, .ref ty]))]) [0] rfl
      have hKc := hK.sub (tys' := []) [] rfl
      have hDc := hD.sub (ws' := [(gt, .inr (9, [.int st9, .ref tp, .int td, .int fk, .int fpl, .ref bk, .int un, .ref mb, .ref mu, .int mk, .ref rd, .ref cm, .ref wk, .ref pp, .ref so, .ref ty]))]) [0] (by decide) rfl
      have hFc := va_free (wc := [(gt, .inr (9, [.int st9, .ref tp, .int td, .int fk, .int fpl, .ref bk, .int un, .ref mb, .ref mu, .int mk, .ref rd, .ref cm, .ref wk, .ref pp, .ref so, .ref ty]))]) hD hS hA [0] rfl
      refine va_callv (va_runV (As := [.ref bk]) (rest := []) ⟨hx, hb, hml, hown, hts⟩ (s_g_act l dC dI gt tp bk mb mu rd cm wk pp so ty st9 td fk fpl un mk bk H.size) (cwV 1 hts mg_X9_forget_X9_act_92 rfl rfl rfl (by decide +kernel) ⟨Nat.le_of_ble_eq_true rfl, Nat.le_of_ble_eq_true rfl⟩) ⟨fun a U g mk q => by obtain ⟨q0, q1, qP, qK, qD⟩ := q; exact ⟨q0, q1, qP, va_K.moved (u := U) (U := U.calling g mk a) (Vm.Alike.refl U.vm) qK, qD⟩, va_recv hKc hPc (ci := 9) (q0 := 0) rfl rfl, fun U hU hW => ⟨rfl, by rw [hU], by rw [hU]; exact hPc, va_K.moved hW.alike hKc, hDc.weaken (fun _ _ _ _ => trivial)⟩⟩ rfl rfl hl.1 rfl (lv_room (Nat.le_of_ble_eq_true rfl)) dX9_forget_26 ⟨Nat.le_of_ble_eq_true rfl, Nat.le_of_ble_eq_true rfl⟩) hS (fun q _ h => hFc q h) hFc (fun u t H1 locs ht hvm hw hB hz1 hk1 hS => ?_)
      obtain ⟨y_84, hP1, hK1, hD1⟩ := hB
      rw [ht] at hP1
      obtain ⟨hP, hD⟩ := va_join (wr := []) (w1 := [(gt, .inr (9, [.int st9, .ref tp, .int td, .int fk, .int fpl, .ref bk, .int y_84, .ref mb, .ref mu, .int mk, .ref rd, .ref cm, .ref wk, .ref pp, .ref so, .ref ty]))]) hP hD [0] [] rfl rfl (by decide) (by decide) hk1 hFc hP1 hD1
      generalize H1 = H at hP hS ⊢
      have hP : va_P (dC, dI) vwCl [(gt, .inr (9, [.int st9, .ref tp, .int td, .int fk, .int fpl, .ref bk, .int y_84, .ref mb, .ref mu, .int mk, .ref rd, .ref cm, .ref wk, .ref pp, .ref so, .ref ty]))] H := hP
      have hD : va_D A [(gt, .inr (9, [.int st9, .ref tp, .int td, .int fk, .int fpl, .ref bk, .int y_84, .ref mb, .ref mu, .int mk, .ref rd, .ref cm, .ref wk, .ref pp, .ref so, .ref ty]))] := hD
      have hQ := q_at hQ0 hQA hS
      refine lv_aload_n hx hb dX9_forget_29 rfl (lv_at hl 0 rfl) ?_
      refine lv_aload_n hx hb dX9_forget_30 rfl (lv_at hl 0 rfl) ?_
      refine va_get (D := (dC, dI)) (ci := 9) (v := .ref bk) (C := RX9) (T := TX9) (N := 16) hx hb hts fin_X9_forget_X9 hown hK hP 0 rfl rfl 5 (by decide) (hts (.fieldLink RX9 29 "PatternGate" "book" "LPatternGate$Book;") (List.mem_of_getElem? (i := 1) (by decide +kernel))) (fun _ h9 => h9) rfl dX9_forget_31 ?_
      refine va_get (D := (dC, dI)) (ci := 0) (v := .ref ps) (C := RX0) (T := TX0) (N := 3) hx hb hts fin_X9_forget_X0 hown hKQ hQ k_1 hk_1 rfl 1 (by decide) (hts (.fieldLink RX9 103 "PatternGate$Book" "patterns" "[LPatternGate$Pattern;") (List.mem_of_getElem? (i := 16) (by decide +kernel))) (fun _ h9 => h9) rfl dX9_forget_34 ?_
      refine va_alen hx hb hKQ hQ k_4 j_5 hk_4 hj_5 rfl dX9_forget_37 ?_
      refine lv_topi (fun y_85 ey_85 => ?_)
      have ty_85 : y_85.toInt = (np : Int) := i_len ey_85 (by omega)
      have hPc := hP.sub (ws' := [(gt, .inr (9, [.int st9, .ref tp, .int td, .int fk, .int fpl, .ref bk, .int y_84, .ref mb, .ref mu, .int mk, .ref rd, .ref cm, .ref wk, .ref pp, .ref so, .ref ty]))]) [0] rfl
      have hKc := hK.sub (tys' := []) [] rfl
      have hDc := hD.sub (ws' := [(gt, .inr (9, [.int st9, .ref tp, .int td, .int fk, .int fpl, .ref bk, .int y_84, .ref mb, .ref mu, .int mk, .ref rd, .ref cm, .ref wk, .ref pp, .ref so, .ref ty]))]) [0] (by decide) rfl
      have hFc := va_free (wc := [(gt, .inr (9, [.int st9, .ref tp, .int td, .int fk, .int fpl, .ref bk, .int y_84, .ref mb, .ref mu, .int mk, .ref rd, .ref cm, .ref wk, .ref pp, .ref so, .ref ty]))]) hD hS hA [0] rfl
      refine va_calli (va_runV (As := [.int y_85]) (rest := []) ⟨hx, hb, hml, hown, hts⟩ (s_answer l dC dI gt tp bk mb mu rd cm wk pp so ty st9 td fk fpl y_84 mk H.size y_85) (cwV 1 hts mg_X9_forget_X9_answer_100 rfl rfl rfl (by decide +kernel) ⟨Nat.le_of_ble_eq_true rfl, Nat.le_of_ble_eq_true rfl⟩) ⟨fun a U g mk q => by obtain ⟨q0, q1, qP, qK, qD⟩ := q; exact ⟨q0, q1, qP, va_K.moved (u := U) (U := U.calling g mk a) (Vm.Alike.refl U.vm) qK, qD⟩, va_recv hKc hPc (ci := 9) (q0 := 0) rfl rfl, fun U hU hW => ⟨rfl, by rw [hU], by rw [hU]; exact hPc, va_K.moved hW.alike hKc, hDc.weaken (fun _ _ _ _ => trivial)⟩⟩ rfl rfl hl.1 rfl (lv_room (Nat.le_of_ble_eq_true rfl)) dX9_forget_38 ⟨Nat.le_of_ble_eq_true rfl, Nat.le_of_ble_eq_true rfl⟩) hS (fun q _ h => hFc q h) hFc (fun r_87 u t H1 locs ht hvm hw hB hz1 hk1 hS => ?_)
      obtain ⟨hP1, hK1, hD1⟩ := hB
      rw [ht] at hP1
      have hr_87 := hw
      obtain ⟨hP, hD⟩ := va_join (wr := []) (w1 := [(gt, .inr (9, [.int 0, .ref tp, .int td, .int fk, .int fpl, .ref bk, .int y_84, .ref mb, .ref mu, .int mk, .ref rd, .ref cm, .ref wk, .ref pp, .ref so, .ref ty]))]) hP hD [0] [] rfl rfl (by decide) (by decide) hk1 hFc hP1 hD1
      generalize H1 = H at hP hS ⊢
      have hP : va_P (dC, dI) vwCl [(gt, .inr (9, [.int 0, .ref tp, .int td, .int fk, .int fpl, .ref bk, .int y_84, .ref mb, .ref mu, .int mk, .ref rd, .ref cm, .ref wk, .ref pp, .ref so, .ref ty]))] H := hP
      have hD : va_D A [(gt, .inr (9, [.int 0, .ref tp, .int td, .int fk, .int fpl, .ref bk, .int y_84, .ref mb, .ref mu, .int mk, .ref rd, .ref cm, .ref wk, .ref pp, .ref so, .ref ty]))] := hD
      have hQ := q_at hQ0 hQA hS
      have hP9 := hP.sub (ws' := [(gt, .inr (9, [.int 0, .ref tp, .int td, .int fk, .int fpl, .ref bk, .int y_84, .ref mb, .ref mu, .int mk, .ref rd, .ref cm, .ref wk, .ref pp, .ref so, .ref ty]))]) [0] rfl
      have hD9 := hD.sub (ws' := [(gt, .inr (9, [.int 0, .ref tp, .int td, .int fk, .int fpl, .ref bk, .int y_84, .ref mb, .ref mu, .int mk, .ref rd, .ref cm, .ref wk, .ref pp, .ref so, .ref ty]))]) [0] (by decide) rfl
      have hK9 := hK.sub (tys' := []) [] rfl
      refine W.widen (k := 2) (n := 13) (by omega) (by omega) ?_
      exact W.iret hx hb hr (fun t ht hW => ⟨⟨_, (), rfl, trivial, 0, bk, y_84, W9, T9, B9, gN.same hB9, hbk, by rw [ht]; exact hQ, va_K.moved hW.alike hKQ, by rw [ht]; exact hP9, va_K.moved hW.alike hK9, hD9⟩, hS.F ht⟩) hS.2.2 dX9_forget_41
    · obtain ⟨q_88, n_89, q_90, f_91, c_92, h_93, h_94, hP1, hK1, hD1⟩ := hB
      rw [ht] at hP1
      have hK := hK.app (va_K.moved hvm.symm hK1)
      have hK : va_K (dC, dI) vwCl [(c_92, .object "PatternGate$Pattern")] s := hK
      obtain ⟨hP, hD⟩ := va_join (wr := [(gt, .inr (9, [.int st9, .ref tp, .int td, .int fk, .int fpl, .ref bk, .int un, .ref mb, .ref mu, .int mk, .ref rd, .ref cm, .ref wk, .ref pp, .ref so, .ref ty]))]) (w1 := [(q_88, .inl (c_92, n_89, .inr (.inr (.inr (.inr f_91))))), (r_81, .inr (0, [.ref q_90, .ref q_88, .ref bk]))]) hP hD [] [0] rfl rfl (by decide) (by decide) hk1 hFc hP1 hD1
      generalize H1 = H at hP hS ⊢
      have hP : va_P (dC, dI) vwCl [(gt, .inr (9, [.int st9, .ref tp, .int td, .int fk, .int fpl, .ref bk, .int un, .ref mb, .ref mu, .int mk, .ref rd, .ref cm, .ref wk, .ref pp, .ref so, .ref ty])), (q_88, .inl (c_92, n_89, .inr (.inr (.inr (.inr f_91))))), (r_81, .inr (0, [.ref q_90, .ref q_88, .ref bk]))] H := hP
      have hD : va_D A [(gt, .inr (9, [.int st9, .ref tp, .int td, .int fk, .int fpl, .ref bk, .int un, .ref mb, .ref mu, .int mk, .ref rd, .ref cm, .ref wk, .ref pp, .ref so, .ref ty])), (q_88, .inl (c_92, n_89, .inr (.inr (.inr (.inr f_91))))), (r_81, .inr (0, [.ref q_90, .ref q_88, .ref bk]))] := hD
      have hQ := q_at hQ0 hQA hS
      have hPc := hP.sub (ws' := [(gt, .inr (9, [.int st9, .ref tp, .int td, .int fk, .int fpl, .ref bk, .int un, .ref mb, .ref mu, .int mk, .ref rd, .ref cm, .ref wk, .ref pp, .ref so, .ref ty]))]) [0] rfl
      have hKc := hK.sub (tys' := []) [] rfl
      have hDc := hD.sub (ws' := [(gt, .inr (9, [.int st9, .ref tp, .int td, .int fk, .int fpl, .ref bk, .int un, .ref mb, .ref mu, .int mk, .ref rd, .ref cm, .ref wk, .ref pp, .ref so, .ref ty]))]) [0] (by decide) rfl
      have hFc := va_free (wc := [(gt, .inr (9, [.int st9, .ref tp, .int td, .int fk, .int fpl, .ref bk, .int un, .ref mb, .ref mu, .int mk, .ref rd, .ref cm, .ref wk, .ref pp, .ref so, .ref ty]))]) hD hS hA [0] rfl
      refine va_callv (va_runV (As := [.ref r_81]) (rest := []) ⟨hx, hb, hml, hown, hts⟩ (s_g_act l dC dI gt tp bk mb mu rd cm wk pp so ty st9 td fk fpl un mk r_81 H.size) (cwV 1 hts mg_X9_forget_X9_act_92 rfl rfl rfl (by decide +kernel) ⟨Nat.le_of_ble_eq_true rfl, Nat.le_of_ble_eq_true rfl⟩) ⟨fun a U g mk q => by obtain ⟨q0, q1, qP, qK, qD⟩ := q; exact ⟨q0, q1, qP, va_K.moved (u := U) (U := U.calling g mk a) (Vm.Alike.refl U.vm) qK, qD⟩, va_recv hKc hPc (ci := 9) (q0 := 0) rfl rfl, fun U hU hW => ⟨rfl, by rw [hU], by rw [hU]; exact hPc, va_K.moved hW.alike hKc, hDc.weaken (fun _ _ _ _ => trivial)⟩⟩ rfl rfl hl.1 rfl (lv_room (Nat.le_of_ble_eq_true rfl)) dX9_forget_26 ⟨Nat.le_of_ble_eq_true rfl, Nat.le_of_ble_eq_true rfl⟩) hS (fun q _ h => hFc q h) hFc (fun u t H1 locs ht hvm hw hB hz1 hk1 hS => ?_)
      obtain ⟨y_97, hP1, hK1, hD1⟩ := hB
      rw [ht] at hP1
      obtain ⟨hP, hD⟩ := va_join (wr := [(q_88, .inl (c_92, n_89, .inr (.inr (.inr (.inr f_91))))), (r_81, .inr (0, [.ref q_90, .ref q_88, .ref bk]))]) (w1 := [(gt, .inr (9, [.int st9, .ref tp, .int td, .int fk, .int fpl, .ref r_81, .int y_97, .ref mb, .ref mu, .int mk, .ref rd, .ref cm, .ref wk, .ref pp, .ref so, .ref ty]))]) hP hD [0] [1, 2] rfl rfl (by decide) (by decide) hk1 hFc hP1 hD1
      generalize H1 = H at hP hS ⊢
      have hP : va_P (dC, dI) vwCl [(q_88, .inl (c_92, n_89, .inr (.inr (.inr (.inr f_91))))), (r_81, .inr (0, [.ref q_90, .ref q_88, .ref bk])), (gt, .inr (9, [.int st9, .ref tp, .int td, .int fk, .int fpl, .ref r_81, .int y_97, .ref mb, .ref mu, .int mk, .ref rd, .ref cm, .ref wk, .ref pp, .ref so, .ref ty]))] H := hP
      have hD : va_D A [(q_88, .inl (c_92, n_89, .inr (.inr (.inr (.inr f_91))))), (r_81, .inr (0, [.ref q_90, .ref q_88, .ref bk])), (gt, .inr (9, [.int st9, .ref tp, .int td, .int fk, .int fpl, .ref r_81, .int y_97, .ref mb, .ref mu, .int mk, .ref rd, .ref cm, .ref wk, .ref pp, .ref so, .ref ty]))] := hD
      have hQ := q_at hQ0 hQA hS
      refine lv_aload_n hx hb dX9_forget_29 rfl (lv_at hl 0 rfl) ?_
      refine lv_aload_n hx hb dX9_forget_30 rfl (lv_at hl 0 rfl) ?_
      refine va_get (D := (dC, dI)) (ci := 9) (v := .ref r_81) (C := RX9) (T := TX9) (N := 16) hx hb hts fin_X9_forget_X9 hown hK hP 2 rfl rfl 5 (by decide) (hts (.fieldLink RX9 29 "PatternGate" "book" "LPatternGate$Book;") (List.mem_of_getElem? (i := 1) (by decide +kernel))) (fun _ h9 => h9) rfl dX9_forget_31 ?_
      refine va_get (D := (dC, dI)) (ci := 0) (v := .ref q_88) (C := RX0) (T := TX0) (N := 3) hx hb hts fin_X9_forget_X0 hown hK hP 1 rfl rfl 1 (by decide) (hts (.fieldLink RX9 103 "PatternGate$Book" "patterns" "[LPatternGate$Pattern;") (List.mem_of_getElem? (i := 16) (by decide +kernel))) (fun _ h9 => h9) rfl dX9_forget_34 ?_
      refine va_alen hx hb hK hP 0 0 rfl rfl rfl dX9_forget_37 ?_
      refine lv_topi (fun y_98 ey_98 => ?_)
      have ty_98 : y_98.toInt = (n_89 : Int) := i_len ey_98 (by omega)
      have hPc := hP.sub (ws' := [(gt, .inr (9, [.int st9, .ref tp, .int td, .int fk, .int fpl, .ref r_81, .int y_97, .ref mb, .ref mu, .int mk, .ref rd, .ref cm, .ref wk, .ref pp, .ref so, .ref ty]))]) [2] rfl
      have hKc := hK.sub (tys' := []) [] rfl
      have hDc := hD.sub (ws' := [(gt, .inr (9, [.int st9, .ref tp, .int td, .int fk, .int fpl, .ref r_81, .int y_97, .ref mb, .ref mu, .int mk, .ref rd, .ref cm, .ref wk, .ref pp, .ref so, .ref ty]))]) [2] (by decide) rfl
      have hFc := va_free (wc := [(gt, .inr (9, [.int st9, .ref tp, .int td, .int fk, .int fpl, .ref r_81, .int y_97, .ref mb, .ref mu, .int mk, .ref rd, .ref cm, .ref wk, .ref pp, .ref so, .ref ty]))]) hD hS hA [2] rfl
      refine va_calli (va_runV (As := [.int y_98]) (rest := []) ⟨hx, hb, hml, hown, hts⟩ (s_answer l dC dI gt tp r_81 mb mu rd cm wk pp so ty st9 td fk fpl y_97 mk H.size y_98) (cwV 1 hts mg_X9_forget_X9_answer_100 rfl rfl rfl (by decide +kernel) ⟨Nat.le_of_ble_eq_true rfl, Nat.le_of_ble_eq_true rfl⟩) ⟨fun a U g mk q => by obtain ⟨q0, q1, qP, qK, qD⟩ := q; exact ⟨q0, q1, qP, va_K.moved (u := U) (U := U.calling g mk a) (Vm.Alike.refl U.vm) qK, qD⟩, va_recv hKc hPc (ci := 9) (q0 := 0) rfl rfl, fun U hU hW => ⟨rfl, by rw [hU], by rw [hU]; exact hPc, va_K.moved hW.alike hKc, hDc.weaken (fun _ _ _ _ => trivial)⟩⟩ rfl rfl hl.1 rfl (lv_room (Nat.le_of_ble_eq_true rfl)) dX9_forget_38 ⟨Nat.le_of_ble_eq_true rfl, Nat.le_of_ble_eq_true rfl⟩) hS (fun q _ h => hFc q h) hFc (fun r_100 u t H1 locs ht hvm hw hB hz1 hk1 hS => ?_)
      obtain ⟨hP1, hK1, hD1⟩ := hB
      rw [ht] at hP1
      have hr_100 := hw
      obtain ⟨hP, hD⟩ := va_join (wr := [(q_88, .inl (c_92, n_89, .inr (.inr (.inr (.inr f_91))))), (r_81, .inr (0, [.ref q_90, .ref q_88, .ref bk]))]) (w1 := [(gt, .inr (9, [.int 0, .ref tp, .int td, .int fk, .int fpl, .ref r_81, .int y_97, .ref mb, .ref mu, .int mk, .ref rd, .ref cm, .ref wk, .ref pp, .ref so, .ref ty]))]) hP hD [2] [0, 1] rfl rfl (by decide) (by decide) hk1 hFc hP1 hD1
      generalize H1 = H at hP hS ⊢
      have hP : va_P (dC, dI) vwCl [(q_88, .inl (c_92, n_89, .inr (.inr (.inr (.inr f_91))))), (r_81, .inr (0, [.ref q_90, .ref q_88, .ref bk])), (gt, .inr (9, [.int 0, .ref tp, .int td, .int fk, .int fpl, .ref r_81, .int y_97, .ref mb, .ref mu, .int mk, .ref rd, .ref cm, .ref wk, .ref pp, .ref so, .ref ty]))] H := hP
      have hD : va_D A [(q_88, .inl (c_92, n_89, .inr (.inr (.inr (.inr f_91))))), (r_81, .inr (0, [.ref q_90, .ref q_88, .ref bk])), (gt, .inr (9, [.int 0, .ref tp, .int td, .int fk, .int fpl, .ref r_81, .int y_97, .ref mb, .ref mu, .int mk, .ref rd, .ref cm, .ref wk, .ref pp, .ref so, .ref ty]))] := hD
      have hQ := q_at hQ0 hQA hS
      have hP9 := hP.sub (ws' := [(gt, .inr (9, [.int 0, .ref tp, .int td, .int fk, .int fpl, .ref r_81, .int y_97, .ref mb, .ref mu, .int mk, .ref rd, .ref cm, .ref wk, .ref pp, .ref so, .ref ty]))]) [2] rfl
      have hD9 := hD.sub (ws' := [(gt, .inr (9, [.int 0, .ref tp, .int td, .int fk, .int fpl, .ref r_81, .int y_97, .ref mb, .ref mu, .int mk, .ref rd, .ref cm, .ref wk, .ref pp, .ref so, .ref ty]))]) [2] (by decide) rfl
      have hK9 := hK.sub (tys' := []) [] rfl
      refine W.widen (k := 2) (n := 13) (by omega) (by omega) ?_
      have hPn := hP.sub (ws' := [(q_88, .inl (c_92, n_89, .inr (.inr (.inr (.inr f_91))))), (r_81, .inr (0, [.ref q_90, .ref q_88, .ref bk]))]) [0, 1] rfl
      have hDz := hD.sub (ws' := [(gt, .inr (9, [.int 0, .ref tp, .int td, .int fk, .int fpl, .ref r_81, .int y_97, .ref mb, .ref mu, .int mk, .ref rd, .ref cm, .ref wk, .ref pp, .ref so, .ref ty])), (q_88, .inl (c_92, n_89, .inr (.inr (.inr (.inr f_91))))), (r_81, .inr (0, [.ref q_90, .ref q_88, .ref bk]))]) [2, 0, 1] (by decide) rfl
      rw [← hAe] at hDz
      have hge := nw_ge (W1 := [(gt, .inr (9, [.int 0, .ref tp, .int td, .int fk, .int fpl, .ref r_81, .int y_97, .ref mb, .ref mu, .int mk, .ref rd, .ref cm, .ref wk, .ref pp, .ref so, .ref ty]))]) (X := [(q_88, .inl (c_92, n_89, .inr (.inr (.inr (.inr f_91))))), (r_81, .inr (0, [.ref q_90, .ref q_88, .ref bk]))]) hDz rfl
      rw [← hz9] at hge
      have hKn := hK.sub (tys' := [(c_92, .object "PatternGate$Pattern")]) [0] rfl
      have hnb : poB3 (W9 ++ [(q_88, .inl (c_92, n_89, .inr (.inr (.inr (.inr f_91))))), (r_81, .inr (0, [.ref q_90, .ref q_88, .ref bk]))]) (T9 ++ [(c_92, .object "PatternGate$Pattern")]) r_81 (some bk) := h_93 _ _ (fun _ h => List.mem_append_left _ h) (fun _ h => List.mem_append_left _ h) (List.mem_append_right _ (List.mem_of_getElem? (i := 0) rfl)) (List.mem_append_right _ (List.mem_of_getElem? (i := 0) rfl)) (List.mem_append_right _ (List.mem_of_getElem? (i := 1) rfl))
      exact W.iret hx hb hr (fun t ht hW => ⟨⟨_, (), rfl, trivial, 0, r_81, y_97, _, _, _, gN.act hB9 hbk hnb hge, Or.inr rfl, by rw [ht]; exact hQ.app hPn, (va_K.moved hW.alike hKQ).app (va_K.moved hW.alike hKn), by rw [ht]; exact hP9, va_K.moved hW.alike hK9, hD9⟩, hS.F ht⟩) hS.2.2 dX9_forget_41

theorem dX6_read_0 : decode cX6_read 0 = .ok (.aload_n 0, 1) := by decide +kernel
theorem dX6_read_1 : decode cX6_read 1 = .ok (.iconst 0, 1) := by decide +kernel
theorem dX6_read_2 : decode cX6_read 2 = .ok (.putfield 22, 3) := by decide +kernel
theorem dX6_read_5 : decode cX6_read 5 = .ok (.aload_n 0, 1) := by decide +kernel
theorem dX6_read_6 : decode cX6_read 6 = .ok (.iconst (-1), 1) := by decide +kernel
theorem dX6_read_7 : decode cX6_read 7 = .ok (.putfield 26, 3) := by decide +kernel
theorem dX6_read_10 : decode cX6_read 10 = .ok (.aload_n 0, 1) := by decide +kernel
theorem dX6_read_11 : decode cX6_read 11 = .ok (.iconst 0, 1) := by decide +kernel
theorem dX6_read_12 : decode cX6_read 12 = .ok (.putfield 29, 3) := by decide +kernel
theorem dX6_read_15 : decode cX6_read 15 = .ok (.aload_n 0, 1) := by decide +kernel
theorem dX6_read_16 : decode cX6_read 16 = .ok (.iconst 0, 1) := by decide +kernel
theorem dX6_read_17 : decode cX6_read 17 = .ok (.putfield 32, 3) := by decide +kernel
theorem dX6_read_20 : decode cX6_read 20 = .ok (.aload_n 0, 1) := by decide +kernel
theorem dX6_read_21 : decode cX6_read 21 = .ok (.iconst 0, 1) := by decide +kernel
theorem dX6_read_22 : decode cX6_read 22 = .ok (.putfield 35, 3) := by decide +kernel
theorem dX6_read_25 : decode cX6_read 25 = .ok (.aload_n 0, 1) := by decide +kernel
theorem dX6_read_26 : decode cX6_read 26 = .ok (.iload_n 3, 1) := by decide +kernel
theorem dX6_read_27 : decode cX6_read 27 = .ok (.putfield 38, 3) := by decide +kernel
theorem dX6_read_30 : decode cX6_read 30 = .ok (.aload_n 0, 1) := by decide +kernel
theorem dX6_read_31 : decode cX6_read 31 = .ok (.iload 4, 2) := by decide +kernel
theorem dX6_read_33 : decode cX6_read 33 = .ok (.putfield 41, 3) := by decide +kernel
theorem dX6_read_36 : decode cX6_read 36 = .ok (.aload_n 0, 1) := by decide +kernel
theorem dX6_read_37 : decode cX6_read 37 = .ok (.iconst 0, 1) := by decide +kernel
theorem dX6_read_38 : decode cX6_read 38 = .ok (.putfield 44, 3) := by decide +kernel
theorem dX6_read_41 : decode cX6_read 41 = .ok (.iload_n 2, 1) := by decide +kernel
theorem dX6_read_42 : decode cX6_read 42 = .ok (.aload_n 1, 1) := by decide +kernel
theorem dX6_read_43 : decode cX6_read 43 = .ok (.arraylength, 1) := by decide +kernel
theorem dX6_read_44 : decode cX6_read 44 = .ok (.invokestatic 47, 3) := by decide +kernel
theorem dX6_read_47 : decode cX6_read 47 = .ok (.istore 5, 2) := by decide +kernel
theorem dX6_read_49 : decode cX6_read 49 = .ok (.iconst 0, 1) := by decide +kernel
theorem dX6_read_50 : decode cX6_read 50 = .ok (.istore 6, 2) := by decide +kernel
theorem dX6_read_52 : decode cX6_read 52 = .ok (.iload 6, 2) := by decide +kernel
theorem dX6_read_54 : decode cX6_read 54 = .ok (.iload 5, 2) := by decide +kernel
theorem dX6_read_56 : decode cX6_read 56 = .ok (.if_icmp .ge 112, 3) := by decide +kernel
theorem dX6_read_59 : decode cX6_read 59 = .ok (.aload_n 0, 1) := by decide +kernel
theorem dX6_read_60 : decode cX6_read 60 = .ok (.getfield 22, 3) := by decide +kernel
theorem dX6_read_63 : decode cX6_read 63 = .ok (.ifCond .ne 105, 3) := by decide +kernel
theorem dX6_read_66 : decode cX6_read 66 = .ok (.aload_n 1, 1) := by decide +kernel
theorem dX6_read_67 : decode cX6_read 67 = .ok (.iload 6, 2) := by decide +kernel
theorem dX6_read_69 : decode cX6_read 69 = .ok (.iaload, 1) := by decide +kernel
theorem dX6_read_70 : decode cX6_read 70 = .ok (.istore 7, 2) := by decide +kernel
theorem dX6_read_72 : decode cX6_read 72 = .ok (.iload 7, 2) := by decide +kernel
theorem dX6_read_74 : decode cX6_read 74 = .ok (.invokestatic 53, 3) := by decide +kernel
theorem dX6_read_77 : decode cX6_read 77 = .ok (.ifCond .eq 22, 3) := by decide +kernel
theorem dX6_read_80 : decode cX6_read 80 = .ok (.iload 6, 2) := by decide +kernel
theorem dX6_read_82 : decode cX6_read 82 = .ok (.aload_n 0, 1) := by decide +kernel
theorem dX6_read_83 : decode cX6_read 83 = .ok (.aload_n 1, 1) := by decide +kernel
theorem dX6_read_84 : decode cX6_read 84 = .ok (.iload 6, 2) := by decide +kernel
theorem dX6_read_86 : decode cX6_read 86 = .ok (.iload 5, 2) := by decide +kernel
theorem dX6_read_88 : decode cX6_read 88 = .ok (.invokevirtual 57, 3) := by decide +kernel
theorem dX6_read_91 : decode cX6_read 91 = .ok (.invokestatic 61, 3) := by decide +kernel
theorem dX6_read_94 : decode cX6_read 94 = .ok (.istore 6, 2) := by decide +kernel
theorem dX6_read_96 : decode cX6_read 96 = .ok (.goto 66, 3) := by decide +kernel
theorem dX6_read_99 : decode cX6_read 99 = .ok (.iload 7, 2) := by decide +kernel
theorem dX6_read_101 : decode cX6_read 101 = .ok (.bipush 34, 2) := by decide +kernel
theorem dX6_read_103 : decode cX6_read 103 = .ok (.if_icmp .ne 22, 3) := by decide +kernel
theorem dX6_read_106 : decode cX6_read 106 = .ok (.iload 6, 2) := by decide +kernel
theorem dX6_read_108 : decode cX6_read 108 = .ok (.aload_n 0, 1) := by decide +kernel
theorem dX6_read_109 : decode cX6_read 109 = .ok (.aload_n 1, 1) := by decide +kernel
theorem dX6_read_110 : decode cX6_read 110 = .ok (.iload 6, 2) := by decide +kernel
theorem dX6_read_112 : decode cX6_read 112 = .ok (.iload 5, 2) := by decide +kernel
theorem dX6_read_114 : decode cX6_read 114 = .ok (.invokevirtual 64, 3) := by decide +kernel
theorem dX6_read_117 : decode cX6_read 117 = .ok (.invokestatic 61, 3) := by decide +kernel
theorem dX6_read_120 : decode cX6_read 120 = .ok (.istore 6, 2) := by decide +kernel
theorem dX6_read_122 : decode cX6_read 122 = .ok (.goto 40, 3) := by decide +kernel
theorem dX6_read_125 : decode cX6_read 125 = .ok (.iload 7, 2) := by decide +kernel
theorem dX6_read_127 : decode cX6_read 127 = .ok (.bipush 59, 2) := by decide +kernel
theorem dX6_read_129 : decode cX6_read 129 = .ok (.if_icmp .ne 12, 3) := by decide +kernel
theorem dX6_read_132 : decode cX6_read 132 = .ok (.aload_n 0, 1) := by decide +kernel
theorem dX6_read_133 : decode cX6_read 133 = .ok (.iload 6, 2) := by decide +kernel
theorem dX6_read_135 : decode cX6_read 135 = .ok (.invokevirtual 67, 3) := by decide +kernel
theorem dX6_read_138 : decode cX6_read 138 = .ok (.goto 24, 3) := by decide +kernel
theorem dX6_read_141 : decode cX6_read 141 = .ok (.iload 7, 2) := by decide +kernel
theorem dX6_read_143 : decode cX6_read 143 = .ok (.bipush 32, 2) := by decide +kernel
theorem dX6_read_145 : decode cX6_read 145 = .ok (.if_icmp .eq 17, 3) := by decide +kernel
theorem dX6_read_148 : decode cX6_read 148 = .ok (.iload 7, 2) := by decide +kernel
theorem dX6_read_150 : decode cX6_read 150 = .ok (.bipush 10, 2) := by decide +kernel
theorem dX6_read_152 : decode cX6_read 152 = .ok (.if_icmp .eq 10, 3) := by decide +kernel
theorem dX6_read_155 : decode cX6_read 155 = .ok (.aload_n 0, 1) := by decide +kernel
theorem dX6_read_156 : decode cX6_read 156 = .ok (.iconst 1, 1) := by decide +kernel
theorem dX6_read_157 : decode cX6_read 157 = .ok (.iload 6, 2) := by decide +kernel
theorem dX6_read_159 : decode cX6_read 159 = .ok (.invokevirtual 71, 3) := by decide +kernel
theorem dX6_read_162 : decode cX6_read 162 = .ok (.iinc 6 1, 3) := by decide +kernel
theorem dX6_read_165 : decode cX6_read 165 = .ok (.goto (-113), 3) := by decide +kernel
theorem dX6_read_168 : decode cX6_read 168 = .ok (.aload_n 0, 1) := by decide +kernel
theorem dX6_read_169 : decode cX6_read 169 = .ok (.getfield 22, 3) := by decide +kernel
theorem dX6_read_172 : decode cX6_read 172 = .ok (.ifCond .ne 17, 3) := by decide +kernel
theorem dX6_read_175 : decode cX6_read 175 = .ok (.aload_n 0, 1) := by decide +kernel
theorem dX6_read_176 : decode cX6_read 176 = .ok (.getfield 44, 3) := by decide +kernel
theorem dX6_read_179 : decode cX6_read 179 = .ok (.ifCond .eq 10, 3) := by decide +kernel
theorem dX6_read_182 : decode cX6_read 182 = .ok (.aload_n 0, 1) := by decide +kernel
theorem dX6_read_183 : decode cX6_read 183 = .ok (.iconst 2, 1) := by decide +kernel
theorem dX6_read_184 : decode cX6_read 184 = .ok (.iload 5, 2) := by decide +kernel
theorem dX6_read_186 : decode cX6_read 186 = .ok (.invokevirtual 71, 3) := by decide +kernel
theorem dX6_read_189 : decode cX6_read 189 = .ok (.aload_n 0, 1) := by decide +kernel
theorem dX6_read_190 : decode cX6_read 190 = .ok (.getfield 22, 3) := by decide +kernel
theorem dX6_read_193 : decode cX6_read 193 = .ok (.ifCond .ne 7, 3) := by decide +kernel
theorem dX6_read_196 : decode cX6_read 196 = .ok (.iconst 1, 1) := by decide +kernel
theorem dX6_read_197 : decode cX6_read 197 = .ok (.goto 4, 3) := by decide +kernel
theorem dX6_read_200 : decode cX6_read 200 = .ok (.iconst 0, 1) := by decide +kernel
theorem dX6_read_201 : decode cX6_read 201 = .ok (.ireturn, 1) := by decide +kernel
def mwX6_read : List Cond := .code yX6_read cX6_read 8 (some .boolean) :: (([.fieldLink RX6 22 "PatternGate$Reader" "faultKind" "I", .fieldLink RX6 26 "PatternGate$Reader" "faultPlace" "I", .fieldLink RX6 29 "PatternGate$Reader" "lines" "I", .fieldLink RX6 32 "PatternGate$Reader" "newDocs" "I", .fieldLink RX6 35 "PatternGate$Reader" "newPatterns" "I", .fieldLink RX6 38 "PatternGate$Reader" "docsAhead" "I", .fieldLink RX6 41 "PatternGate$Reader" "patternsAhead" "I", .fieldLink RX6 44 "PatternGate$Reader" "wanted" "I", .methodLink RX6 47 Lib.Math.min.name, .static Lib.Math.min.name, .initialized "java/lang/Math", .code Lib.Math.min.name Lib.Math.min.code 2 (some .int), .methodLink RX6 71 yX6_fail, .instanceMethod yX6_fail, .selects RX6 yX6_fail yX6_fail, .initialized RX6, .initialized RX9, .static yX9_isSmall, .methodLink RX6 67 yX6_readSemicolon, .instanceMethod yX6_readSemicolon, .selects RX6 yX6_readSemicolon yX6_readSemicolon, .methodLink RX6 64 yX6_readQuote, .instanceMethod yX6_readQuote, .selects RX6 yX6_readQuote yX6_readQuote, .methodLink RX6 61 Lib.Math.max.name, .static Lib.Math.max.name, .code Lib.Math.max.name Lib.Math.max.code 2 (some .int), .methodLink RX6 57 yX6_readWord, .instanceMethod yX6_readWord, .selects RX6 yX6_readWord yX6_readWord] : List Cond) ++ (wsX60 ++ (mwX6_fail ++ (mwX9_isSmallw ++ (mwX6_readSemicolon ++ (mwX6_readQuote ++ (mwX6_readWord)))))))
theorem fin_X6_read_X6 : ∀ w ∈ wsX60, w ∈ mwX6_read := fun w h => List.mem_cons_of_mem _ (List.mem_append_right _ (List.mem_append_left _ h))
set_option maxRecDepth 100000 in
theorem gd_mwX6_readSemicolon : mwX6_readSemicolon.all goodWord = true := by decide +kernel
set_option maxRecDepth 100000 in
theorem gd_mwX6_readQuote : mwX6_readQuote.all goodWord = true := by decide +kernel
set_option maxRecDepth 100000 in
theorem gd_mwX6_readWord : mwX6_readWord.all goodWord = true := by decide +kernel
set_option maxRecDepth 20000 in
theorem mg_X6_read_X6_fail_71 : GoodIn mwX6_read (wsV RX6 71 RX6 yX6_fail mwX6_fail) := gi_app (A := [.methodLink RX6 71 yX6_fail, .instanceMethod yX6_fail, .selects RX6 yX6_fail yX6_fail, .initialized RX6]) (goodIn_r _ [13, 14, 15, 16] (by decide +kernel) (by decide +kernel)) (gi_sub gd_mwX6_fail (fun w h => List.mem_cons_of_mem _ (List.mem_append_right _ (List.mem_append_right _ (List.mem_append_left _ h)))))
set_option maxRecDepth 20000 in
theorem mg_X6_read_X9_isSmall_53 : GoodIn mwX6_read mwX9_isSmallw := gi_sub gd_mwX9_isSmallw (fun w h => List.mem_cons_of_mem _ (List.mem_append_right _ (List.mem_append_right _ (List.mem_append_right _ (List.mem_append_left _ h)))))
set_option maxRecDepth 20000 in
theorem mg_X6_read_X6_readSemicolon_67 : GoodIn mwX6_read (wsV RX6 67 RX6 yX6_readSemicolon mwX6_readSemicolon) := gi_app (A := [.methodLink RX6 67 yX6_readSemicolon, .instanceMethod yX6_readSemicolon, .selects RX6 yX6_readSemicolon yX6_readSemicolon, .initialized RX6]) (goodIn_r _ [19, 20, 21, 16] (by decide +kernel) (by decide +kernel)) (gi_sub gd_mwX6_readSemicolon (fun w h => List.mem_cons_of_mem _ (List.mem_append_right _ (List.mem_append_right _ (List.mem_append_right _ (List.mem_append_right _ (List.mem_append_left _ h)))))))
set_option maxRecDepth 20000 in
theorem mg_X6_read_X6_readQuote_64 : GoodIn mwX6_read (wsV RX6 64 RX6 yX6_readQuote mwX6_readQuote) := gi_app (A := [.methodLink RX6 64 yX6_readQuote, .instanceMethod yX6_readQuote, .selects RX6 yX6_readQuote yX6_readQuote, .initialized RX6]) (goodIn_r _ [22, 23, 24, 16] (by decide +kernel) (by decide +kernel)) (gi_sub gd_mwX6_readQuote (fun w h => List.mem_cons_of_mem _ (List.mem_append_right _ (List.mem_append_right _ (List.mem_append_right _ (List.mem_append_right _ (List.mem_append_right _ (List.mem_append_left _ h))))))))
set_option maxRecDepth 20000 in
theorem mg_X6_read_X6_readWord_57 : GoodIn mwX6_read (wsV RX6 57 RX6 yX6_readWord mwX6_readWord) := gi_app (A := [.methodLink RX6 57 yX6_readWord, .instanceMethod yX6_readWord, .selects RX6 yX6_readWord yX6_readWord, .initialized RX6]) (goodIn_r _ [28, 29, 30, 16] (by decide +kernel) (by decide +kernel)) (gi_sub gd_mwX6_readWord (fun w h => List.mem_cons_of_mem _ (List.mem_append_right _ (List.mem_append_right _ (List.mem_append_right _ (List.mem_append_right _ (List.mem_append_right _ (List.mem_append_right _ (h)))))))))
set_option maxHeartbeats 4000000 in
set_option maxRecDepth 100000 in
/-- Reader.read -/
theorem s_read (l : Launch) (dC : Nat → ClassId) (dI : Nat → Nat → Nat) (rd : Nat) (r : Nat → Nat) (a0 a1 a2 a3 a4 a5 a6 a7 : Int32) (ba kb : Nat) (cb cb0 cb1 cb2 : ClassId) (fb fb0 fb1 fb2 : Nat → Int32) (sz : Nat) (i2 i3 i4 : Int32) (hkb : kb ≤ 900) (h2 : 0 ≤ i2.toInt) (h3 : 0 ≤ i3.toInt ∧ i3.toInt ≤ 10) (h4 : 0 ≤ i4.toInt ∧ i4.toInt ≤ 8) : Met l yX6_read mwX6_read ({ frames := 6, cells := 0, slots := 0, locals := 360 }) (va_Pc [.ref rd, .ref ba, .int i2, .int i3, .int i4] (fun U => U.heap.size = sz ∧ va_P (dC, dI) vwCl ([(rd, .inr (6, rF r a0 a1 a2 a3 a4 a5 a6 a7)), (ba, .inl (cb, kb, .inl fb)), (r 0, .inl (cb0, 18, .inl fb0)), (r 1, .inl (cb1, 18, .inl fb1)), (r 2, .inl (cb2, 18, .inl fb2))]) U.heap ∧ va_K (dC, dI) vwCl ([(cb, .int), (cb0, .int), (cb1, .int), (cb2, .boolean)]) U ∧ va_D (fun _ => True) ([(rd, .inr (6, rF r a0 a1 a2 a3 a4 a5 a6 a7)), (ba, .inl (cb, kb, .inl fb)), (r 0, .inl (cb0, 18, .inl fb0)), (r 1, .inl (cb1, 18, .inl fb1)), (r 2, .inl (cb2, 18, .inl fb2))]) ∧ va_Nw (.methodLinkNest RX6 53 yX9_isSmall "PatternGate") U ∧ sR (va_A ([(rd, .inr (6, rF r a0 a1 a2 a3 a4 a5 a6 a7)), (ba, .inl (cb, kb, .inl fb)), (r 0, .inl (cb0, 18, .inl fb0)), (r 1, .inl (cb1, 18, .inl fb1)), (r 2, .inl (cb2, 18, .inl fb2))]) sz) U U.heap)) (va_Qi (fun (o9 : Int32) (u : Int32) => o9 = u ∧ (u = 0 ∨ u = 1)) (fun u t => ∃ (y0 y1 y2 y3 y4 y7 : Int32) (f0 f1 f2 : Nat → Int32), (u = 0 ∨ rJ f0 f1 f2 901 y2 y3 y4 i3 i4 y7) ∧ va_P (dC, dI) vwCl [(rd, .inr (6, rF r y0 y1 y2 y3 y4 i3 i4 y7)), (ba, .inl (cb, kb, .inl fb)), (r 0, .inl (cb0, 18, .inl f0)), (r 1, .inl (cb1, 18, .inl f1)), (r 2, .inl (cb2, 18, .inl f2))] t.heap ∧ va_K (dC, dI) vwCl [(cb, .int), (cb0, .int), (cb1, .int), (cb2, .boolean)] t ∧ va_D (va_A ([(rd, .inr (6, rF r a0 a1 a2 a3 a4 a5 a6 a7)), (ba, .inl (cb, kb, .inl fb)), (r 0, .inl (cb0, 18, .inl fb0)), (r 1, .inl (cb1, 18, .inl fb1)), (r 2, .inl (cb2, 18, .inl fb2))]) sz) [(rd, .inr (6, rF r y0 y1 y2 y3 y4 i3 i4 y7)), (ba, .inl (cb, kb, .inl fb)), (r 0, .inl (cb0, 18, .inl f0)), (r 1, .inl (cb1, 18, .inl f1)), (r 2, .inl (cb2, 18, .inl f2))]) (va_A ([(rd, .inr (6, rF r a0 a1 a2 a3 a4 a5 a6 a7)), (ba, .inl (cb, kb, .inl fb)), (r 0, .inl (cb0, 18, .inl fb0)), (r 1, .inl (cb1, 18, .inl fb1)), (r 2, .inl (cb2, 18, .inl fb2))]) sz)) 0 0 (va_A ([(rd, .inr (6, rF r a0 a1 a2 a3 a4 a5 a6 a7)), (ba, .inl (cb, kb, .inl fb)), (r 0, .inl (cb0, 18, .inl fb0)), (r 1, .inl (cb1, 18, .inl fb1)), (r 2, .inl (cb2, 18, .inl fb2))]) sz) := by
  refine Met.ofW (cc := cX6_read) (maxL := 8) (ret := (some .boolean)) (by decide +kernel) rfl ?_
  intro p e s m args below meth c s₁ B hml hv
  obtain ⟨rfl, hsz, hP, hK, hD0, hN53, hSR⟩ := hv
  have hx := B.exec
  have hb := B.bytes
  have hr := B.returns
  have hts := atoms_spec (ws := mwX6_read) B.pre
  have hown : s.vm.findClass RX6 = some m.cls := findClass_of_methodNamed B.named
  have hlocks := B.notSynchronized
  subst hsz
  have hD := hD0.self (sz := s.heap.size)
  generalize hAe : va_A ([(rd, .inr (6, rF r a0 a1 a2 a3 a4 a5 a6 a7)), (ba, .inl (cb, kb, .inl fb)), (r 0, .inl (cb0, 18, .inl fb0)), (r 1, .inl (cb1, 18, .inl fb1)), (r 2, .inl (cb2, 18, .inl fb2))]) s.heap.size = A at hD hSR ⊢
  have hA : ∀ q : Nat, s.heap.size ≤ q → A q := fun q h => by rw [← hAe]; exact Or.inr h
  have hP : va_P (dC, dI) vwCl [(rd, .inr (6, rF r a0 a1 a2 a3 a4 a5 a6 a7)), (ba, .inl (cb, kb, .inl fb)), (r 0, .inl (cb0, 18, .inl fb0)), (r 1, .inl (cb1, 18, .inl fb1)), (r 2, .inl (cb2, 18, .inl fb2))] s.heap := hP
  have hD : va_D A [(rd, .inr (6, rF r a0 a1 a2 a3 a4 a5 a6 a7)), (ba, .inl (cb, kb, .inl fb)), (r 0, .inl (cb0, 18, .inl fb0)), (r 1, .inl (cb1, 18, .inl fb1)), (r 2, .inl (cb2, 18, .inl fb2))] := hD
  have hK : va_K (dC, dI) vwCl [(cb, .int), (cb0, .int), (cb1, .int), (cb2, .boolean)] s := hK
  generalize hH : s.heap = H at hP ⊢
  have hS : va_S A s.heap H [] := by rw [← hH]; exact va_S.rf
  have hl := lv_entry ([.ref rd, .ref ba, .int i2, .int i3, .int i4]) (n := 8) (Nat.le_of_ble_eq_true rfl)
  rw [lg_entry_eq]
  generalize (lg_sl ([.ref rd, .ref ba, .int i2, .int i3, .int i4]) ++ List.replicate (8 - (lg_sl ([.ref rd, .ref ba, .int i2, .int i3, .int i4])).length) Slot.unset).toArray = ls at hl ⊢
  have hl : lv_has ls 8 [(0, .ref rd), (1, .ref ba), (2, .int i2), (3, .int i3), (4, .int i4)] := hl
  have rg_i2 := i_rng i2
  have rg_i3 := i_rng i3
  have rg_i4 := i_rng i4
  have rkb : (kb : Int) ≤ 900 := by omega
  refine lv_aload_n hx hb dX6_read_0 rfl (lv_at hl 0 rfl) ?_
  refine lv_iconst (v := 0) hx hb dX6_read_1 (by decide) ?_
  refine va_put (D := (dC, dI)) (ci := 6) (v := .int 0) (ty := .int) (C := RX6) (T := TX6) (N := 11) hx hb hts fin_X6_read_X6 tyX6 tyX6_ok nmX6 hown hK hP hD hS 0 rfl rfl 0 (by decide) (hts (.fieldLink RX6 22 "PatternGate$Reader" "faultKind" "I") (List.mem_of_getElem? (i := 1) (by decide +kernel))) (fun _ h9 => h9) rfl (by decide +kernel) rfl rfl (Nat.le_of_ble_eq_true rfl) dX6_read_2 (fun H locs hP hD hS => ?_)
  have hP : va_P (dC, dI) vwCl [(rd, .inr (6, rF r 0 a1 a2 a3 a4 a5 a6 a7)), (ba, .inl (cb, kb, .inl fb)), (r 0, .inl (cb0, 18, .inl fb0)), (r 1, .inl (cb1, 18, .inl fb1)), (r 2, .inl (cb2, 18, .inl fb2))] H := hP
  have hD : va_D A [(rd, .inr (6, rF r 0 a1 a2 a3 a4 a5 a6 a7)), (ba, .inl (cb, kb, .inl fb)), (r 0, .inl (cb0, 18, .inl fb0)), (r 1, .inl (cb1, 18, .inl fb1)), (r 2, .inl (cb2, 18, .inl fb2))] := hD
  refine lv_aload_n hx hb dX6_read_5 rfl (lv_at hl 0 rfl) ?_
  refine lv_iconst (v := (-1)) hx hb dX6_read_6 (by decide) ?_
  refine va_put (D := (dC, dI)) (ci := 6) (v := .int (-1)) (ty := .int) (C := RX6) (T := TX6) (N := 11) hx hb hts fin_X6_read_X6 tyX6 tyX6_ok nmX6 hown hK hP hD hS 0 rfl rfl 1 (by decide) (hts (.fieldLink RX6 26 "PatternGate$Reader" "faultPlace" "I") (List.mem_of_getElem? (i := 2) (by decide +kernel))) (fun _ h9 => h9) rfl (by decide +kernel) rfl rfl (Nat.le_of_ble_eq_true rfl) dX6_read_7 (fun H locs hP hD hS => ?_)
  have hP : va_P (dC, dI) vwCl [(rd, .inr (6, rF r 0 (-1) a2 a3 a4 a5 a6 a7)), (ba, .inl (cb, kb, .inl fb)), (r 0, .inl (cb0, 18, .inl fb0)), (r 1, .inl (cb1, 18, .inl fb1)), (r 2, .inl (cb2, 18, .inl fb2))] H := hP
  have hD : va_D A [(rd, .inr (6, rF r 0 (-1) a2 a3 a4 a5 a6 a7)), (ba, .inl (cb, kb, .inl fb)), (r 0, .inl (cb0, 18, .inl fb0)), (r 1, .inl (cb1, 18, .inl fb1)), (r 2, .inl (cb2, 18, .inl fb2))] := hD
  refine lv_aload_n hx hb dX6_read_10 rfl (lv_at hl 0 rfl) ?_
  refine lv_iconst (v := 0) hx hb dX6_read_11 (by decide) ?_
  refine va_put (D := (dC, dI)) (ci := 6) (v := .int 0) (ty := .int) (C := RX6) (T := TX6) (N := 11) hx hb hts fin_X6_read_X6 tyX6 tyX6_ok nmX6 hown hK hP hD hS 0 rfl rfl 2 (by decide) (hts (.fieldLink RX6 29 "PatternGate$Reader" "lines" "I") (List.mem_of_getElem? (i := 3) (by decide +kernel))) (fun _ h9 => h9) rfl (by decide +kernel) rfl rfl (Nat.le_of_ble_eq_true rfl) dX6_read_12 (fun H locs hP hD hS => ?_)
  have hP : va_P (dC, dI) vwCl [(rd, .inr (6, rF r 0 (-1) 0 a3 a4 a5 a6 a7)), (ba, .inl (cb, kb, .inl fb)), (r 0, .inl (cb0, 18, .inl fb0)), (r 1, .inl (cb1, 18, .inl fb1)), (r 2, .inl (cb2, 18, .inl fb2))] H := hP
  have hD : va_D A [(rd, .inr (6, rF r 0 (-1) 0 a3 a4 a5 a6 a7)), (ba, .inl (cb, kb, .inl fb)), (r 0, .inl (cb0, 18, .inl fb0)), (r 1, .inl (cb1, 18, .inl fb1)), (r 2, .inl (cb2, 18, .inl fb2))] := hD
  refine lv_aload_n hx hb dX6_read_15 rfl (lv_at hl 0 rfl) ?_
  refine lv_iconst (v := 0) hx hb dX6_read_16 (by decide) ?_
  refine va_put (D := (dC, dI)) (ci := 6) (v := .int 0) (ty := .int) (C := RX6) (T := TX6) (N := 11) hx hb hts fin_X6_read_X6 tyX6 tyX6_ok nmX6 hown hK hP hD hS 0 rfl rfl 3 (by decide) (hts (.fieldLink RX6 32 "PatternGate$Reader" "newDocs" "I") (List.mem_of_getElem? (i := 4) (by decide +kernel))) (fun _ h9 => h9) rfl (by decide +kernel) rfl rfl (Nat.le_of_ble_eq_true rfl) dX6_read_17 (fun H locs hP hD hS => ?_)
  have hP : va_P (dC, dI) vwCl [(rd, .inr (6, rF r 0 (-1) 0 0 a4 a5 a6 a7)), (ba, .inl (cb, kb, .inl fb)), (r 0, .inl (cb0, 18, .inl fb0)), (r 1, .inl (cb1, 18, .inl fb1)), (r 2, .inl (cb2, 18, .inl fb2))] H := hP
  have hD : va_D A [(rd, .inr (6, rF r 0 (-1) 0 0 a4 a5 a6 a7)), (ba, .inl (cb, kb, .inl fb)), (r 0, .inl (cb0, 18, .inl fb0)), (r 1, .inl (cb1, 18, .inl fb1)), (r 2, .inl (cb2, 18, .inl fb2))] := hD
  refine lv_aload_n hx hb dX6_read_20 rfl (lv_at hl 0 rfl) ?_
  refine lv_iconst (v := 0) hx hb dX6_read_21 (by decide) ?_
  refine va_put (D := (dC, dI)) (ci := 6) (v := .int 0) (ty := .int) (C := RX6) (T := TX6) (N := 11) hx hb hts fin_X6_read_X6 tyX6 tyX6_ok nmX6 hown hK hP hD hS 0 rfl rfl 4 (by decide) (hts (.fieldLink RX6 35 "PatternGate$Reader" "newPatterns" "I") (List.mem_of_getElem? (i := 5) (by decide +kernel))) (fun _ h9 => h9) rfl (by decide +kernel) rfl rfl (Nat.le_of_ble_eq_true rfl) dX6_read_22 (fun H locs hP hD hS => ?_)
  have hP : va_P (dC, dI) vwCl [(rd, .inr (6, rF r 0 (-1) 0 0 0 a5 a6 a7)), (ba, .inl (cb, kb, .inl fb)), (r 0, .inl (cb0, 18, .inl fb0)), (r 1, .inl (cb1, 18, .inl fb1)), (r 2, .inl (cb2, 18, .inl fb2))] H := hP
  have hD : va_D A [(rd, .inr (6, rF r 0 (-1) 0 0 0 a5 a6 a7)), (ba, .inl (cb, kb, .inl fb)), (r 0, .inl (cb0, 18, .inl fb0)), (r 1, .inl (cb1, 18, .inl fb1)), (r 2, .inl (cb2, 18, .inl fb2))] := hD
  refine lv_aload_n hx hb dX6_read_25 rfl (lv_at hl 0 rfl) ?_
  refine lv_iload_n hx hb dX6_read_26 rfl (lv_at hl 3 rfl) ?_
  refine va_put (D := (dC, dI)) (ci := 6) (v := .int i3) (ty := .int) (C := RX6) (T := TX6) (N := 11) hx hb hts fin_X6_read_X6 tyX6 tyX6_ok nmX6 hown hK hP hD hS 0 rfl rfl 8 (by decide) (hts (.fieldLink RX6 38 "PatternGate$Reader" "docsAhead" "I") (List.mem_of_getElem? (i := 6) (by decide +kernel))) (fun _ h9 => h9) rfl (by decide +kernel) rfl rfl (Nat.le_of_ble_eq_true rfl) dX6_read_27 (fun H locs hP hD hS => ?_)
  have hP : va_P (dC, dI) vwCl [(rd, .inr (6, rF r 0 (-1) 0 0 0 i3 a6 a7)), (ba, .inl (cb, kb, .inl fb)), (r 0, .inl (cb0, 18, .inl fb0)), (r 1, .inl (cb1, 18, .inl fb1)), (r 2, .inl (cb2, 18, .inl fb2))] H := hP
  have hD : va_D A [(rd, .inr (6, rF r 0 (-1) 0 0 0 i3 a6 a7)), (ba, .inl (cb, kb, .inl fb)), (r 0, .inl (cb0, 18, .inl fb0)), (r 1, .inl (cb1, 18, .inl fb1)), (r 2, .inl (cb2, 18, .inl fb2))] := hD
  refine lv_aload_n hx hb dX6_read_30 rfl (lv_at hl 0 rfl) ?_
  refine lv_iload hx hb dX6_read_31 (lv_at hl 4 rfl) ?_
  refine va_put (D := (dC, dI)) (ci := 6) (v := .int i4) (ty := .int) (C := RX6) (T := TX6) (N := 11) hx hb hts fin_X6_read_X6 tyX6 tyX6_ok nmX6 hown hK hP hD hS 0 rfl rfl 9 (by decide) (hts (.fieldLink RX6 41 "PatternGate$Reader" "patternsAhead" "I") (List.mem_of_getElem? (i := 7) (by decide +kernel))) (fun _ h9 => h9) rfl (by decide +kernel) rfl rfl (Nat.le_of_ble_eq_true rfl) dX6_read_33 (fun H locs hP hD hS => ?_)
  have hP : va_P (dC, dI) vwCl [(rd, .inr (6, rF r 0 (-1) 0 0 0 i3 i4 a7)), (ba, .inl (cb, kb, .inl fb)), (r 0, .inl (cb0, 18, .inl fb0)), (r 1, .inl (cb1, 18, .inl fb1)), (r 2, .inl (cb2, 18, .inl fb2))] H := hP
  have hD : va_D A [(rd, .inr (6, rF r 0 (-1) 0 0 0 i3 i4 a7)), (ba, .inl (cb, kb, .inl fb)), (r 0, .inl (cb0, 18, .inl fb0)), (r 1, .inl (cb1, 18, .inl fb1)), (r 2, .inl (cb2, 18, .inl fb2))] := hD
  refine lv_aload_n hx hb dX6_read_36 rfl (lv_at hl 0 rfl) ?_
  refine lv_iconst (v := 0) hx hb dX6_read_37 (by decide) ?_
  refine va_put (D := (dC, dI)) (ci := 6) (v := .int 0) (ty := .int) (C := RX6) (T := TX6) (N := 11) hx hb hts fin_X6_read_X6 tyX6 tyX6_ok nmX6 hown hK hP hD hS 0 rfl rfl 10 (by decide) (hts (.fieldLink RX6 44 "PatternGate$Reader" "wanted" "I") (List.mem_of_getElem? (i := 8) (by decide +kernel))) (fun _ h9 => h9) rfl (by decide +kernel) rfl rfl (Nat.le_of_ble_eq_true rfl) dX6_read_38 (fun H locs hP hD hS => ?_)
  have hP : va_P (dC, dI) vwCl [(rd, .inr (6, rF r 0 (-1) 0 0 0 i3 i4 0)), (ba, .inl (cb, kb, .inl fb)), (r 0, .inl (cb0, 18, .inl fb0)), (r 1, .inl (cb1, 18, .inl fb1)), (r 2, .inl (cb2, 18, .inl fb2))] H := hP
  have hD : va_D A [(rd, .inr (6, rF r 0 (-1) 0 0 0 i3 i4 0)), (ba, .inl (cb, kb, .inl fb)), (r 0, .inl (cb0, 18, .inl fb0)), (r 1, .inl (cb1, 18, .inl fb1)), (r 2, .inl (cb2, 18, .inl fb2))] := hD
  refine lv_iload_n hx hb dX6_read_41 rfl (lv_at hl 2 rfl) ?_
  refine lv_aload_n hx hb dX6_read_42 rfl (lv_at hl 1 rfl) ?_
  refine va_alen hx hb hK hP 1 0 rfl rfl rfl dX6_read_43 ?_
  refine lv_topi (fun y_1 ey_1 => ?_)
  have ty_1 : y_1.toInt = (kb : Int) := i_len ey_1 (by omega)
  refine va_mmin hx hb (hml.trans hl.1.symm) hown (hts (.methodLink RX6 47 Lib.Math.min.name) (List.mem_of_getElem? (i := 9) (by decide +kernel))) (hts (.static Lib.Math.min.name) (List.mem_of_getElem? (i := 10) (by decide +kernel))) (hts (.initialized "java/lang/Math") (List.mem_of_getElem? (i := 11) (by decide +kernel))) (hts (.code Lib.Math.min.name Lib.Math.min.code 2 (some .int)) (List.mem_of_getElem? (i := 12) (by decide +kernel))) (Nat.le_of_ble_eq_true rfl) (Nat.le_of_ble_eq_true rfl) (Nat.le_of_ble_eq_true rfl) (Nat.le_of_ble_eq_true rfl) dX6_read_44 ?_
  refine lv_topi (fun y_2 ey_2 => ?_)
  have ty_2 := i_min (a := i2.toInt) (b := y_1.toInt) rfl rfl ey_2
  refine lv_istore (lv' := [(5, .int y_2), (0, .ref rd), (1, .ref ba), (2, .int i2), (3, .int i3), (4, .int i4)]) hx hb dX6_read_47 hl (by decide) rfl (fun ls hl => ?_)
  refine lv_iconst (v := 0) hx hb dX6_read_49 (by decide) ?_
  refine lv_istore (lv' := [(6, .int 0), (5, .int y_2), (0, .ref rd), (1, .ref ba), (2, .int i2), (3, .int i3), (4, .int i4)]) hx hb dX6_read_50 hl (by decide) rfl (fun ls hl => ?_)
  have loop52 : ∀ (lm52 : Nat) (ax fa fv fl fd fq fw : Int32) (gb : Nat → Int32) (ge : Nat → Int32) (gi : Nat → Int32), (0 ≤ ax.toInt ∧ ax.toInt ≤ 901) → (fa.toInt ≠ 0 ∨ rJ gb ge gi ax.toInt fl fd fq i3 i4 fw) → ((y_2.toInt - ax.toInt).toNat) < lm52 → ∀ (H : Heap) (locs : List Loc) (ls : Array Slot), va_P (dC, dI) vwCl [(rd, .inr (6, rF r fa fv fl fd fq i3 i4 fw)), (ba, .inl (cb, kb, .inl fb)), (r 0, .inl (cb0, 18, .inl gb)), (r 1, .inl (cb1, 18, .inl ge)), (r 2, .inl (cb2, 18, .inl gi))] H → va_D A [(rd, .inr (6, rF r fa fv fl fd fq i3 i4 fw)), (ba, .inl (cb, kb, .inl fb)), (r 0, .inl (cb0, 18, .inl gb)), (r 1, .inl (cb1, 18, .inl ge)), (r 2, .inl (cb2, 18, .inl gi))] → va_S A s.heap H locs → lv_has ls 8 [(6, .int ax), (5, .int y_2), (0, .ref rd), (1, .ref ba), (2, .int i2), (3, .int i3), (4, .int i4)] → W p l e (headSpec mwX6_read ({ frames := 6, cells := 0, slots := 0, locals := 360 })).room s m ([.ref rd, .ref ba, .int i2, .int i3, .int i4]).toArray below meth c H locs 0 0 (MQ below (va_Qi (fun (o9 : Int32) (u : Int32) => o9 = u ∧ (u = 0 ∨ u = 1)) (fun u t => ∃ (y0 y1 y2 y3 y4 y7 : Int32) (f0 f1 f2 : Nat → Int32), (u = 0 ∨ rJ f0 f1 f2 901 y2 y3 y4 i3 i4 y7) ∧ va_P (dC, dI) vwCl [(rd, .inr (6, rF r y0 y1 y2 y3 y4 i3 i4 y7)), (ba, .inl (cb, kb, .inl fb)), (r 0, .inl (cb0, 18, .inl f0)), (r 1, .inl (cb1, 18, .inl f1)), (r 2, .inl (cb2, 18, .inl f2))] t.heap ∧ va_K (dC, dI) vwCl [(cb, .int), (cb0, .int), (cb1, .int), (cb2, .boolean)] t ∧ va_D A [(rd, .inr (6, rF r y0 y1 y2 y3 y4 i3 i4 y7)), (ba, .inl (cb, kb, .inl fb)), (r 0, .inl (cb0, 18, .inl f0)), (r 1, .inl (cb1, 18, .inl f1)), (r 2, .inl (cb2, 18, .inl f2))]) A) ([.ref rd, .ref ba, .int i2, .int i3, .int i4]).toArray s 0 0 A) (F0 m 52 ls []) := by
    intro lm52
    induction lm52 with
    | zero => intro ax fa fv fl fd fq fw gb ge gi v52_0 v52_1 hm52; exact absurd hm52 (Nat.not_lt_zero _)
    | succ lm52 ih52 =>
      intro ax fa fv fl fd fq fw gb ge gi v52_0 v52_1 hm52 H locs ls hP hD hS hl
      have rg_ax := i_rng ax
      have rg_fa := i_rng fa
      have rg_fv := i_rng fv
      have rg_fl := i_rng fl
      have rg_fd := i_rng fd
      have rg_fq := i_rng fq
      have rg_fw := i_rng fw
      refine lv_iload hx hb dX6_read_52 (lv_at hl 0 rfl) ?_
      refine lv_iload hx hb dX6_read_54 (lv_at hl 1 rfl) ?_
      refine lv_icmp_ge (tgt := 168) hx hb dX6_read_56 (by decide) (fun k_3 => ?_) (fun k_3 => ?_)
      · have tk_3 := c_ge (a := ax.toInt) (b := y_2.toInt) rfl rfl k_3
        refine lv_aload_n hx hb dX6_read_168 rfl (lv_at hl 2 rfl) ?_
        refine va_get (D := (dC, dI)) (ci := 6) (v := .int fa) (C := RX6) (T := TX6) (N := 11) hx hb hts fin_X6_read_X6 hown hK hP 0 rfl rfl 0 (by decide) (hts (.fieldLink RX6 22 "PatternGate$Reader" "faultKind" "I") (List.mem_of_getElem? (i := 1) (by decide +kernel))) (fun _ h9 => h9) rfl dX6_read_169 ?_
        refine lv_if_ne (tgt := 189) hx hb dX6_read_172 (by decide) (fun k_4 => ?_) (fun k_4 => ?_)
        · have tk_4 := c_ne (a := fa.toInt) (b := 0) rfl (by decide) k_4
          refine lv_aload_n hx hb dX6_read_189 rfl (lv_at hl 2 rfl) ?_
          refine va_get (D := (dC, dI)) (ci := 6) (v := .int fa) (C := RX6) (T := TX6) (N := 11) hx hb hts fin_X6_read_X6 hown hK hP 0 rfl rfl 0 (by decide) (hts (.fieldLink RX6 22 "PatternGate$Reader" "faultKind" "I") (List.mem_of_getElem? (i := 1) (by decide +kernel))) (fun _ h9 => h9) rfl dX6_read_190 ?_
          refine lv_if_ne (tgt := 200) hx hb dX6_read_193 (by decide) (fun k_5 => ?_) (fun k_5 => ?_)
          · have tk_5 := c_ne (a := fa.toInt) (b := 0) rfl (by decide) k_5
            refine lv_iconst (v := 0) hx hb dX6_read_200 (by decide) ?_
            have hP9 := hP.sub (ws' := [(rd, .inr (6, rF r fa fv fl fd fq i3 i4 fw)), (ba, .inl (cb, kb, .inl fb)), (r 0, .inl (cb0, 18, .inl gb)), (r 1, .inl (cb1, 18, .inl ge)), (r 2, .inl (cb2, 18, .inl gi))]) [0, 1, 2, 3, 4] rfl
            have hD9 := hD.sub (ws' := [(rd, .inr (6, rF r fa fv fl fd fq i3 i4 fw)), (ba, .inl (cb, kb, .inl fb)), (r 0, .inl (cb0, 18, .inl gb)), (r 1, .inl (cb1, 18, .inl ge)), (r 2, .inl (cb2, 18, .inl gi))]) [0, 1, 2, 3, 4] (by decide) rfl
            have hK9 := hK.sub (tys' := [(cb, .int), (cb0, .int), (cb1, .int), (cb2, .boolean)]) [0, 1, 2, 3] rfl
            exact W.zret hx hb hr rfl (fun t ht hW => ⟨⟨_, 0, rfl, ⟨rfl, by decide⟩, fa, fv, fl, fd, fq, fw, gb, ge, gi, (Or.inl rfl), by rw [ht]; exact hP9, va_K.moved hW.alike hK9, hD9⟩, hS.F ht⟩) hS.2.2 dX6_read_201
          · have tk_5 := c_eq (a := fa.toInt) (b := 0) rfl (by decide) k_5
            refine lv_iconst (v := 1) hx hb dX6_read_196 (by decide) ?_
            refine lv_goto (tgt := 201) hx hb dX6_read_197 (by decide) ?_
            have hP9 := hP.sub (ws' := [(rd, .inr (6, rF r fa fv fl fd fq i3 i4 fw)), (ba, .inl (cb, kb, .inl fb)), (r 0, .inl (cb0, 18, .inl gb)), (r 1, .inl (cb1, 18, .inl ge)), (r 2, .inl (cb2, 18, .inl gi))]) [0, 1, 2, 3, 4] rfl
            have hD9 := hD.sub (ws' := [(rd, .inr (6, rF r fa fv fl fd fq i3 i4 fw)), (ba, .inl (cb, kb, .inl fb)), (r 0, .inl (cb0, 18, .inl gb)), (r 1, .inl (cb1, 18, .inl ge)), (r 2, .inl (cb2, 18, .inl gi))]) [0, 1, 2, 3, 4] (by decide) rfl
            have hK9 := hK.sub (tys' := [(cb, .int), (cb0, .int), (cb1, .int), (cb2, .boolean)]) [0, 1, 2, 3] rfl
            exact W.zret hx hb hr rfl (fun t ht hW => ⟨⟨_, 1, rfl, ⟨rfl, by decide⟩, fa, fv, fl, fd, fq, fw, gb, ge, gi, (Or.inr ((v52_1.resolve_left (by omega)).mono (by omega))), by rw [ht]; exact hP9, va_K.moved hW.alike hK9, hD9⟩, hS.F ht⟩) hS.2.2 dX6_read_201
        · have tk_4 := c_eq (a := fa.toInt) (b := 0) rfl (by decide) k_4
          refine lv_aload_n hx hb dX6_read_175 rfl (lv_at hl 2 rfl) ?_
          refine va_get (D := (dC, dI)) (ci := 6) (v := .int fw) (C := RX6) (T := TX6) (N := 11) hx hb hts fin_X6_read_X6 hown hK hP 0 rfl rfl 10 (by decide) (hts (.fieldLink RX6 44 "PatternGate$Reader" "wanted" "I") (List.mem_of_getElem? (i := 8) (by decide +kernel))) (fun _ h9 => h9) rfl dX6_read_176 ?_
          refine lv_if_eq (tgt := 189) hx hb dX6_read_179 (by decide) (fun k_6 => ?_) (fun k_6 => ?_)
          · have tk_6 := c_eq (a := fw.toInt) (b := 0) rfl (by decide) k_6
            refine lv_aload_n hx hb dX6_read_189 rfl (lv_at hl 2 rfl) ?_
            refine va_get (D := (dC, dI)) (ci := 6) (v := .int fa) (C := RX6) (T := TX6) (N := 11) hx hb hts fin_X6_read_X6 hown hK hP 0 rfl rfl 0 (by decide) (hts (.fieldLink RX6 22 "PatternGate$Reader" "faultKind" "I") (List.mem_of_getElem? (i := 1) (by decide +kernel))) (fun _ h9 => h9) rfl dX6_read_190 ?_
            refine lv_if_ne (tgt := 200) hx hb dX6_read_193 (by decide) (fun k_7 => ?_) (fun k_7 => ?_)
            · have tk_7 := c_ne (a := fa.toInt) (b := 0) rfl (by decide) k_7
              refine lv_iconst (v := 0) hx hb dX6_read_200 (by decide) ?_
              have hP9 := hP.sub (ws' := [(rd, .inr (6, rF r fa fv fl fd fq i3 i4 fw)), (ba, .inl (cb, kb, .inl fb)), (r 0, .inl (cb0, 18, .inl gb)), (r 1, .inl (cb1, 18, .inl ge)), (r 2, .inl (cb2, 18, .inl gi))]) [0, 1, 2, 3, 4] rfl
              have hD9 := hD.sub (ws' := [(rd, .inr (6, rF r fa fv fl fd fq i3 i4 fw)), (ba, .inl (cb, kb, .inl fb)), (r 0, .inl (cb0, 18, .inl gb)), (r 1, .inl (cb1, 18, .inl ge)), (r 2, .inl (cb2, 18, .inl gi))]) [0, 1, 2, 3, 4] (by decide) rfl
              have hK9 := hK.sub (tys' := [(cb, .int), (cb0, .int), (cb1, .int), (cb2, .boolean)]) [0, 1, 2, 3] rfl
              exact W.zret hx hb hr rfl (fun t ht hW => ⟨⟨_, 0, rfl, ⟨rfl, by decide⟩, fa, fv, fl, fd, fq, fw, gb, ge, gi, (Or.inl rfl), by rw [ht]; exact hP9, va_K.moved hW.alike hK9, hD9⟩, hS.F ht⟩) hS.2.2 dX6_read_201
            · have tk_7 := c_eq (a := fa.toInt) (b := 0) rfl (by decide) k_7
              refine lv_iconst (v := 1) hx hb dX6_read_196 (by decide) ?_
              refine lv_goto (tgt := 201) hx hb dX6_read_197 (by decide) ?_
              have hP9 := hP.sub (ws' := [(rd, .inr (6, rF r fa fv fl fd fq i3 i4 fw)), (ba, .inl (cb, kb, .inl fb)), (r 0, .inl (cb0, 18, .inl gb)), (r 1, .inl (cb1, 18, .inl ge)), (r 2, .inl (cb2, 18, .inl gi))]) [0, 1, 2, 3, 4] rfl
              have hD9 := hD.sub (ws' := [(rd, .inr (6, rF r fa fv fl fd fq i3 i4 fw)), (ba, .inl (cb, kb, .inl fb)), (r 0, .inl (cb0, 18, .inl gb)), (r 1, .inl (cb1, 18, .inl ge)), (r 2, .inl (cb2, 18, .inl gi))]) [0, 1, 2, 3, 4] (by decide) rfl
              have hK9 := hK.sub (tys' := [(cb, .int), (cb0, .int), (cb1, .int), (cb2, .boolean)]) [0, 1, 2, 3] rfl
              exact W.zret hx hb hr rfl (fun t ht hW => ⟨⟨_, 1, rfl, ⟨rfl, by decide⟩, fa, fv, fl, fd, fq, fw, gb, ge, gi, (Or.inr ((v52_1.resolve_left (by omega)).mono (by omega))), by rw [ht]; exact hP9, va_K.moved hW.alike hK9, hD9⟩, hS.F ht⟩) hS.2.2 dX6_read_201
          · have tk_6 := c_ne (a := fw.toInt) (b := 0) rfl (by decide) k_6
            refine lv_aload_n hx hb dX6_read_182 rfl (lv_at hl 2 rfl) ?_
            refine lv_iconst (v := 2) hx hb dX6_read_183 (by decide) ?_
            refine lv_iload hx hb dX6_read_184 (lv_at hl 1 rfl) ?_
            have hPc := hP.sub (ws' := [(rd, .inr (6, rF r fa fv fl fd fq i3 i4 fw))]) [0] rfl
            have hKc := hK.sub (tys' := []) [] rfl
            have hDc := hD.sub (ws' := [(rd, .inr (6, rF r fa fv fl fd fq i3 i4 fw))]) [0] (by decide) rfl
            have hFc := va_free (wc := [(rd, .inr (6, rF r fa fv fl fd fq i3 i4 fw))]) hD hS hA [0] rfl
            refine va_callv (va_runV (As := [.int 2, .int y_2]) (rest := []) ⟨hx, hb, hml, hown, hts⟩ (s_fail l dC dI rd r fa fv fl fd fq i3 i4 fw H.size 2 y_2) (cwV 2 hts mg_X6_read_X6_fail_71 rfl rfl rfl (by decide +kernel) ⟨Nat.le_of_ble_eq_true rfl, Nat.le_of_ble_eq_true rfl⟩) ⟨fun a U g mk q => by obtain ⟨q0, q1, qP, qK, qD⟩ := q; exact ⟨q0, q1, qP, va_K.moved (u := U) (U := U.calling g mk a) (Vm.Alike.refl U.vm) qK, qD⟩, va_recv hKc hPc (ci := 6) (q0 := 0) rfl rfl, fun U hU hW => ⟨rfl, by rw [hU], by rw [hU]; exact hPc, va_K.moved hW.alike hKc, hDc.weaken (fun _ _ _ _ => trivial)⟩⟩ rfl rfl hl.1 rfl (lv_room (Nat.le_of_ble_eq_true rfl)) dX6_read_186 ⟨Nat.le_of_ble_eq_true rfl, Nat.le_of_ble_eq_true rfl⟩) hS (fun q _ h => hFc q h) hFc (fun u t H1 locs ht hvm hw hB hz1 hk1 hS => ?_)
            obtain ⟨hP1, hK1, hD1⟩ := hB
            rw [ht] at hP1
            obtain ⟨hP, hD⟩ := va_join (wr := [(ba, .inl (cb, kb, .inl fb)), (r 0, .inl (cb0, 18, .inl gb)), (r 1, .inl (cb1, 18, .inl ge)), (r 2, .inl (cb2, 18, .inl gi))]) (w1 := [(rd, .inr (6, rF r 2 y_2 fl fd fq i3 i4 fw))]) hP hD [0] [1, 2, 3, 4] rfl rfl (by decide) (by decide) hk1 hFc hP1 hD1
            generalize H1 = H at hP hS ⊢
            have hP : va_P (dC, dI) vwCl [(ba, .inl (cb, kb, .inl fb)), (r 0, .inl (cb0, 18, .inl gb)), (r 1, .inl (cb1, 18, .inl ge)), (r 2, .inl (cb2, 18, .inl gi)), (rd, .inr (6, rF r 2 y_2 fl fd fq i3 i4 fw))] H := hP
            have hD : va_D A [(ba, .inl (cb, kb, .inl fb)), (r 0, .inl (cb0, 18, .inl gb)), (r 1, .inl (cb1, 18, .inl ge)), (r 2, .inl (cb2, 18, .inl gi)), (rd, .inr (6, rF r 2 y_2 fl fd fq i3 i4 fw))] := hD
            refine lv_aload_n hx hb dX6_read_189 rfl (lv_at hl 2 rfl) ?_
            refine va_get (D := (dC, dI)) (ci := 6) (v := .int 2) (C := RX6) (T := TX6) (N := 11) hx hb hts fin_X6_read_X6 hown hK hP 4 rfl rfl 0 (by decide) (hts (.fieldLink RX6 22 "PatternGate$Reader" "faultKind" "I") (List.mem_of_getElem? (i := 1) (by decide +kernel))) (fun _ h9 => h9) rfl dX6_read_190 ?_
            refine lv_if_ne (tgt := 200) hx hb dX6_read_193 (by decide) (fun k_10 => ?_) (fun k_10 => absurd k_10 (by decide))
            have tk_10 := c_ne (a := 2) (b := 0) (by decide) (by decide) k_10
            refine lv_iconst (v := 0) hx hb dX6_read_200 (by decide) ?_
            have hP9 := hP.sub (ws' := [(rd, .inr (6, rF r 2 y_2 fl fd fq i3 i4 fw)), (ba, .inl (cb, kb, .inl fb)), (r 0, .inl (cb0, 18, .inl gb)), (r 1, .inl (cb1, 18, .inl ge)), (r 2, .inl (cb2, 18, .inl gi))]) [4, 0, 1, 2, 3] rfl
            have hD9 := hD.sub (ws' := [(rd, .inr (6, rF r 2 y_2 fl fd fq i3 i4 fw)), (ba, .inl (cb, kb, .inl fb)), (r 0, .inl (cb0, 18, .inl gb)), (r 1, .inl (cb1, 18, .inl ge)), (r 2, .inl (cb2, 18, .inl gi))]) [4, 0, 1, 2, 3] (by decide) rfl
            have hK9 := hK.sub (tys' := [(cb, .int), (cb0, .int), (cb1, .int), (cb2, .boolean)]) [0, 1, 2, 3] rfl
            exact W.zret hx hb hr rfl (fun t ht hW => ⟨⟨_, 0, rfl, ⟨rfl, by decide⟩, 2, y_2, fl, fd, fq, fw, gb, ge, gi, (Or.inl rfl), by rw [ht]; exact hP9, va_K.moved hW.alike hK9, hD9⟩, hS.F ht⟩) hS.2.2 dX6_read_201
      · have tk_3 := c_nge (a := ax.toInt) (b := y_2.toInt) rfl rfl k_3
        refine lv_aload_n hx hb dX6_read_59 rfl (lv_at hl 2 rfl) ?_
        refine va_get (D := (dC, dI)) (ci := 6) (v := .int fa) (C := RX6) (T := TX6) (N := 11) hx hb hts fin_X6_read_X6 hown hK hP 0 rfl rfl 0 (by decide) (hts (.fieldLink RX6 22 "PatternGate$Reader" "faultKind" "I") (List.mem_of_getElem? (i := 1) (by decide +kernel))) (fun _ h9 => h9) rfl dX6_read_60 ?_
        refine lv_if_ne (tgt := 168) hx hb dX6_read_63 (by decide) (fun k_11 => ?_) (fun k_11 => ?_)
        · have tk_11 := c_ne (a := fa.toInt) (b := 0) rfl (by decide) k_11
          refine lv_aload_n hx hb dX6_read_168 rfl (lv_at hl 2 rfl) ?_
          refine va_get (D := (dC, dI)) (ci := 6) (v := .int fa) (C := RX6) (T := TX6) (N := 11) hx hb hts fin_X6_read_X6 hown hK hP 0 rfl rfl 0 (by decide) (hts (.fieldLink RX6 22 "PatternGate$Reader" "faultKind" "I") (List.mem_of_getElem? (i := 1) (by decide +kernel))) (fun _ h9 => h9) rfl dX6_read_169 ?_
          refine lv_if_ne (tgt := 189) hx hb dX6_read_172 (by decide) (fun k_12 => ?_) (fun k_12 => ?_)
          · have tk_12 := c_ne (a := fa.toInt) (b := 0) rfl (by decide) k_12
            refine lv_aload_n hx hb dX6_read_189 rfl (lv_at hl 2 rfl) ?_
            refine va_get (D := (dC, dI)) (ci := 6) (v := .int fa) (C := RX6) (T := TX6) (N := 11) hx hb hts fin_X6_read_X6 hown hK hP 0 rfl rfl 0 (by decide) (hts (.fieldLink RX6 22 "PatternGate$Reader" "faultKind" "I") (List.mem_of_getElem? (i := 1) (by decide +kernel))) (fun _ h9 => h9) rfl dX6_read_190 ?_
            refine lv_if_ne (tgt := 200) hx hb dX6_read_193 (by decide) (fun k_13 => ?_) (fun k_13 => ?_)
            · have tk_13 := c_ne (a := fa.toInt) (b := 0) rfl (by decide) k_13
              refine lv_iconst (v := 0) hx hb dX6_read_200 (by decide) ?_
              have hP9 := hP.sub (ws' := [(rd, .inr (6, rF r fa fv fl fd fq i3 i4 fw)), (ba, .inl (cb, kb, .inl fb)), (r 0, .inl (cb0, 18, .inl gb)), (r 1, .inl (cb1, 18, .inl ge)), (r 2, .inl (cb2, 18, .inl gi))]) [0, 1, 2, 3, 4] rfl
              have hD9 := hD.sub (ws' := [(rd, .inr (6, rF r fa fv fl fd fq i3 i4 fw)), (ba, .inl (cb, kb, .inl fb)), (r 0, .inl (cb0, 18, .inl gb)), (r 1, .inl (cb1, 18, .inl ge)), (r 2, .inl (cb2, 18, .inl gi))]) [0, 1, 2, 3, 4] (by decide) rfl
              have hK9 := hK.sub (tys' := [(cb, .int), (cb0, .int), (cb1, .int), (cb2, .boolean)]) [0, 1, 2, 3] rfl
              exact W.zret hx hb hr rfl (fun t ht hW => ⟨⟨_, 0, rfl, ⟨rfl, by decide⟩, fa, fv, fl, fd, fq, fw, gb, ge, gi, (Or.inl rfl), by rw [ht]; exact hP9, va_K.moved hW.alike hK9, hD9⟩, hS.F ht⟩) hS.2.2 dX6_read_201
            · have tk_13 := c_eq (a := fa.toInt) (b := 0) rfl (by decide) k_13
              refine lv_iconst (v := 1) hx hb dX6_read_196 (by decide) ?_
              refine lv_goto (tgt := 201) hx hb dX6_read_197 (by decide) ?_
              have hP9 := hP.sub (ws' := [(rd, .inr (6, rF r fa fv fl fd fq i3 i4 fw)), (ba, .inl (cb, kb, .inl fb)), (r 0, .inl (cb0, 18, .inl gb)), (r 1, .inl (cb1, 18, .inl ge)), (r 2, .inl (cb2, 18, .inl gi))]) [0, 1, 2, 3, 4] rfl
              have hD9 := hD.sub (ws' := [(rd, .inr (6, rF r fa fv fl fd fq i3 i4 fw)), (ba, .inl (cb, kb, .inl fb)), (r 0, .inl (cb0, 18, .inl gb)), (r 1, .inl (cb1, 18, .inl ge)), (r 2, .inl (cb2, 18, .inl gi))]) [0, 1, 2, 3, 4] (by decide) rfl
              have hK9 := hK.sub (tys' := [(cb, .int), (cb0, .int), (cb1, .int), (cb2, .boolean)]) [0, 1, 2, 3] rfl
              exact W.zret hx hb hr rfl (fun t ht hW => ⟨⟨_, 1, rfl, ⟨rfl, by decide⟩, fa, fv, fl, fd, fq, fw, gb, ge, gi, (Or.inr ((v52_1.resolve_left (by omega)).mono (by omega))), by rw [ht]; exact hP9, va_K.moved hW.alike hK9, hD9⟩, hS.F ht⟩) hS.2.2 dX6_read_201
          · have tk_12 := c_eq (a := fa.toInt) (b := 0) rfl (by decide) k_12
            refine lv_aload_n hx hb dX6_read_175 rfl (lv_at hl 2 rfl) ?_
            refine va_get (D := (dC, dI)) (ci := 6) (v := .int fw) (C := RX6) (T := TX6) (N := 11) hx hb hts fin_X6_read_X6 hown hK hP 0 rfl rfl 10 (by decide) (hts (.fieldLink RX6 44 "PatternGate$Reader" "wanted" "I") (List.mem_of_getElem? (i := 8) (by decide +kernel))) (fun _ h9 => h9) rfl dX6_read_176 ?_
            refine lv_if_eq (tgt := 189) hx hb dX6_read_179 (by decide) (fun k_14 => ?_) (fun k_14 => ?_)
            · have tk_14 := c_eq (a := fw.toInt) (b := 0) rfl (by decide) k_14
              refine lv_aload_n hx hb dX6_read_189 rfl (lv_at hl 2 rfl) ?_
              refine va_get (D := (dC, dI)) (ci := 6) (v := .int fa) (C := RX6) (T := TX6) (N := 11) hx hb hts fin_X6_read_X6 hown hK hP 0 rfl rfl 0 (by decide) (hts (.fieldLink RX6 22 "PatternGate$Reader" "faultKind" "I") (List.mem_of_getElem? (i := 1) (by decide +kernel))) (fun _ h9 => h9) rfl dX6_read_190 ?_
              refine lv_if_ne (tgt := 200) hx hb dX6_read_193 (by decide) (fun k_15 => ?_) (fun k_15 => ?_)
              · have tk_15 := c_ne (a := fa.toInt) (b := 0) rfl (by decide) k_15
                refine lv_iconst (v := 0) hx hb dX6_read_200 (by decide) ?_
                have hP9 := hP.sub (ws' := [(rd, .inr (6, rF r fa fv fl fd fq i3 i4 fw)), (ba, .inl (cb, kb, .inl fb)), (r 0, .inl (cb0, 18, .inl gb)), (r 1, .inl (cb1, 18, .inl ge)), (r 2, .inl (cb2, 18, .inl gi))]) [0, 1, 2, 3, 4] rfl
                have hD9 := hD.sub (ws' := [(rd, .inr (6, rF r fa fv fl fd fq i3 i4 fw)), (ba, .inl (cb, kb, .inl fb)), (r 0, .inl (cb0, 18, .inl gb)), (r 1, .inl (cb1, 18, .inl ge)), (r 2, .inl (cb2, 18, .inl gi))]) [0, 1, 2, 3, 4] (by decide) rfl
                have hK9 := hK.sub (tys' := [(cb, .int), (cb0, .int), (cb1, .int), (cb2, .boolean)]) [0, 1, 2, 3] rfl
                exact W.zret hx hb hr rfl (fun t ht hW => ⟨⟨_, 0, rfl, ⟨rfl, by decide⟩, fa, fv, fl, fd, fq, fw, gb, ge, gi, (Or.inl rfl), by rw [ht]; exact hP9, va_K.moved hW.alike hK9, hD9⟩, hS.F ht⟩) hS.2.2 dX6_read_201
              · have tk_15 := c_eq (a := fa.toInt) (b := 0) rfl (by decide) k_15
                refine lv_iconst (v := 1) hx hb dX6_read_196 (by decide) ?_
                refine lv_goto (tgt := 201) hx hb dX6_read_197 (by decide) ?_
                have hP9 := hP.sub (ws' := [(rd, .inr (6, rF r fa fv fl fd fq i3 i4 fw)), (ba, .inl (cb, kb, .inl fb)), (r 0, .inl (cb0, 18, .inl gb)), (r 1, .inl (cb1, 18, .inl ge)), (r 2, .inl (cb2, 18, .inl gi))]) [0, 1, 2, 3, 4] rfl
                have hD9 := hD.sub (ws' := [(rd, .inr (6, rF r fa fv fl fd fq i3 i4 fw)), (ba, .inl (cb, kb, .inl fb)), (r 0, .inl (cb0, 18, .inl gb)), (r 1, .inl (cb1, 18, .inl ge)), (r 2, .inl (cb2, 18, .inl gi))]) [0, 1, 2, 3, 4] (by decide) rfl
                have hK9 := hK.sub (tys' := [(cb, .int), (cb0, .int), (cb1, .int), (cb2, .boolean)]) [0, 1, 2, 3] rfl
                exact W.zret hx hb hr rfl (fun t ht hW => ⟨⟨_, 1, rfl, ⟨rfl, by decide⟩, fa, fv, fl, fd, fq, fw, gb, ge, gi, (Or.inr ((v52_1.resolve_left (by omega)).mono (by omega))), by rw [ht]; exact hP9, va_K.moved hW.alike hK9, hD9⟩, hS.F ht⟩) hS.2.2 dX6_read_201
            · have tk_14 := c_ne (a := fw.toInt) (b := 0) rfl (by decide) k_14
              refine lv_aload_n hx hb dX6_read_182 rfl (lv_at hl 2 rfl) ?_
              refine lv_iconst (v := 2) hx hb dX6_read_183 (by decide) ?_
              refine lv_iload hx hb dX6_read_184 (lv_at hl 1 rfl) ?_
              have hPc := hP.sub (ws' := [(rd, .inr (6, rF r fa fv fl fd fq i3 i4 fw))]) [0] rfl
              have hKc := hK.sub (tys' := []) [] rfl
              have hDc := hD.sub (ws' := [(rd, .inr (6, rF r fa fv fl fd fq i3 i4 fw))]) [0] (by decide) rfl
              have hFc := va_free (wc := [(rd, .inr (6, rF r fa fv fl fd fq i3 i4 fw))]) hD hS hA [0] rfl
              refine va_callv (va_runV (As := [.int 2, .int y_2]) (rest := []) ⟨hx, hb, hml, hown, hts⟩ (s_fail l dC dI rd r fa fv fl fd fq i3 i4 fw H.size 2 y_2) (cwV 2 hts mg_X6_read_X6_fail_71 rfl rfl rfl (by decide +kernel) ⟨Nat.le_of_ble_eq_true rfl, Nat.le_of_ble_eq_true rfl⟩) ⟨fun a U g mk q => by obtain ⟨q0, q1, qP, qK, qD⟩ := q; exact ⟨q0, q1, qP, va_K.moved (u := U) (U := U.calling g mk a) (Vm.Alike.refl U.vm) qK, qD⟩, va_recv hKc hPc (ci := 6) (q0 := 0) rfl rfl, fun U hU hW => ⟨rfl, by rw [hU], by rw [hU]; exact hPc, va_K.moved hW.alike hKc, hDc.weaken (fun _ _ _ _ => trivial)⟩⟩ rfl rfl hl.1 rfl (lv_room (Nat.le_of_ble_eq_true rfl)) dX6_read_186 ⟨Nat.le_of_ble_eq_true rfl, Nat.le_of_ble_eq_true rfl⟩) hS (fun q _ h => hFc q h) hFc (fun u t H1 locs ht hvm hw hB hz1 hk1 hS => ?_)
              obtain ⟨hP1, hK1, hD1⟩ := hB
              rw [ht] at hP1
              obtain ⟨hP, hD⟩ := va_join (wr := [(ba, .inl (cb, kb, .inl fb)), (r 0, .inl (cb0, 18, .inl gb)), (r 1, .inl (cb1, 18, .inl ge)), (r 2, .inl (cb2, 18, .inl gi))]) (w1 := [(rd, .inr (6, rF r 2 y_2 fl fd fq i3 i4 fw))]) hP hD [0] [1, 2, 3, 4] rfl rfl (by decide) (by decide) hk1 hFc hP1 hD1
              generalize H1 = H at hP hS ⊢
              have hP : va_P (dC, dI) vwCl [(ba, .inl (cb, kb, .inl fb)), (r 0, .inl (cb0, 18, .inl gb)), (r 1, .inl (cb1, 18, .inl ge)), (r 2, .inl (cb2, 18, .inl gi)), (rd, .inr (6, rF r 2 y_2 fl fd fq i3 i4 fw))] H := hP
              have hD : va_D A [(ba, .inl (cb, kb, .inl fb)), (r 0, .inl (cb0, 18, .inl gb)), (r 1, .inl (cb1, 18, .inl ge)), (r 2, .inl (cb2, 18, .inl gi)), (rd, .inr (6, rF r 2 y_2 fl fd fq i3 i4 fw))] := hD
              refine lv_aload_n hx hb dX6_read_189 rfl (lv_at hl 2 rfl) ?_
              refine va_get (D := (dC, dI)) (ci := 6) (v := .int 2) (C := RX6) (T := TX6) (N := 11) hx hb hts fin_X6_read_X6 hown hK hP 4 rfl rfl 0 (by decide) (hts (.fieldLink RX6 22 "PatternGate$Reader" "faultKind" "I") (List.mem_of_getElem? (i := 1) (by decide +kernel))) (fun _ h9 => h9) rfl dX6_read_190 ?_
              refine lv_if_ne (tgt := 200) hx hb dX6_read_193 (by decide) (fun k_18 => ?_) (fun k_18 => absurd k_18 (by decide))
              have tk_18 := c_ne (a := 2) (b := 0) (by decide) (by decide) k_18
              refine lv_iconst (v := 0) hx hb dX6_read_200 (by decide) ?_
              have hP9 := hP.sub (ws' := [(rd, .inr (6, rF r 2 y_2 fl fd fq i3 i4 fw)), (ba, .inl (cb, kb, .inl fb)), (r 0, .inl (cb0, 18, .inl gb)), (r 1, .inl (cb1, 18, .inl ge)), (r 2, .inl (cb2, 18, .inl gi))]) [4, 0, 1, 2, 3] rfl
              have hD9 := hD.sub (ws' := [(rd, .inr (6, rF r 2 y_2 fl fd fq i3 i4 fw)), (ba, .inl (cb, kb, .inl fb)), (r 0, .inl (cb0, 18, .inl gb)), (r 1, .inl (cb1, 18, .inl ge)), (r 2, .inl (cb2, 18, .inl gi))]) [4, 0, 1, 2, 3] (by decide) rfl
              have hK9 := hK.sub (tys' := [(cb, .int), (cb0, .int), (cb1, .int), (cb2, .boolean)]) [0, 1, 2, 3] rfl
              exact W.zret hx hb hr rfl (fun t ht hW => ⟨⟨_, 0, rfl, ⟨rfl, by decide⟩, 2, y_2, fl, fd, fq, fw, gb, ge, gi, (Or.inl rfl), by rw [ht]; exact hP9, va_K.moved hW.alike hK9, hD9⟩, hS.F ht⟩) hS.2.2 dX6_read_201
        · have tk_11 := c_eq (a := fa.toInt) (b := 0) rfl (by decide) k_11
          have hJ := v52_1.resolve_left (by omega)
          obtain ⟨-, j2, j3, j4, j5, j6, j7, j8, j9, j10⟩ := id hJ
          refine lv_aload_n hx hb dX6_read_66 rfl (lv_at hl 3 rfl) ?_
          refine lv_iload hx hb dX6_read_67 (lv_at hl 0 rfl) ?_
          refine va_iald hx hb hK hP 1 0 rfl rfl (i := ax) (vp_of (a := ax.toInt) rfl (by omega) (by omega)) dX6_read_69 ?_
          refine lv_topi (fun y_19 ey_19 => ?_)
          have rg_y_19 := i_rng y_19
          refine lv_istore (lv' := [(7, .int y_19), (6, .int ax), (5, .int y_2), (0, .ref rd), (1, .ref ba), (2, .int i2), (3, .int i3), (4, .int i4)]) hx hb dX6_read_70 hl (by decide) rfl (fun ls hl => ?_)
          refine lv_iload hx hb dX6_read_72 (lv_at hl 0 rfl) ?_
          have hPc := hP.sub (ws' := []) [] rfl
          have hKc := hK.sub (tys' := []) [] rfl
          have hDc := hD.sub (ws' := []) [] (by decide) rfl
          have hFc := va_free (wc := []) hD hS hA [] rfl
          refine va_calli (va_runSN (As := [.int y_19]) (rest := []) ⟨hx, hb, hml, hown, hts⟩ (s_isSmallW l dC dI H.size y_19) ⟨va_cnB 1 hts mg_X6_read_X9_isSmall_53 rfl rfl rfl hN53 (hts (.initialized RX9) (List.mem_of_getElem? (i := 17) (by decide +kernel))) (by decide +kernel) ⟨Nat.le_of_ble_eq_true rfl, Nat.le_of_ble_eq_true rfl⟩, (hts (.static yX9_isSmall) (List.mem_of_getElem? (i := 18) (by decide +kernel))), trivial⟩ ⟨fun a U g mk q => by obtain ⟨q0, q1, qP, qK, qD⟩ := q; exact ⟨q0, q1, qP, va_K.moved (u := U) (U := U.calling g mk a) (Vm.Alike.refl U.vm) qK, qD⟩, fun U hU hW => ⟨rfl, by rw [hU], by rw [hU]; exact hPc, va_K.moved hW.alike hKc, hDc.weaken (fun _ _ _ _ => trivial)⟩⟩ rfl rfl hl.1 rfl (lv_room (Nat.le_of_ble_eq_true rfl)) dX6_read_74 ⟨Nat.le_of_ble_eq_true rfl, Nat.le_of_ble_eq_true rfl⟩) hS (fun q _ h => hFc q h) hFc (fun r_21 u t H1 locs ht hvm hw hB hz1 hk1 hS => ?_)
          have hr_21 := hw
          obtain ⟨hP, hD⟩ := va_join (wr := [(rd, .inr (6, rF r fa fv fl fd fq i3 i4 fw)), (ba, .inl (cb, kb, .inl fb)), (r 0, .inl (cb0, 18, .inl gb)), (r 1, .inl (cb1, 18, .inl ge)), (r 2, .inl (cb2, 18, .inl gi))]) (w1 := []) hP hD [] [0, 1, 2, 3, 4] rfl rfl (by decide) (by decide) hk1 hFc (fun k q h => by simp at h) ⟨fun i j p q h => by simp at h, fun k q h => by simp at h⟩
          generalize H1 = H at hP hS ⊢
          have hP : va_P (dC, dI) vwCl [(rd, .inr (6, rF r fa fv fl fd fq i3 i4 fw)), (ba, .inl (cb, kb, .inl fb)), (r 0, .inl (cb0, 18, .inl gb)), (r 1, .inl (cb1, 18, .inl ge)), (r 2, .inl (cb2, 18, .inl gi))] H := hP
          have hD : va_D A [(rd, .inr (6, rF r fa fv fl fd fq i3 i4 fw)), (ba, .inl (cb, kb, .inl fb)), (r 0, .inl (cb0, 18, .inl gb)), (r 1, .inl (cb1, 18, .inl ge)), (r 2, .inl (cb2, 18, .inl gi))] := hD
          refine lv_if_eq (tgt := 99) hx hb dX6_read_77 (by decide) (fun k_22 => ?_) (fun k_22 => ?_)
          · have tk_22 := c_eq (a := r_21.toInt) (b := 0) rfl (by decide) k_22
            refine lv_iload hx hb dX6_read_99 (lv_at hl 0 rfl) ?_
            refine lv_bipush (v := 34) hx hb dX6_read_101 (by decide) ?_
            refine lv_icmp_ne (tgt := 125) hx hb dX6_read_103 (by decide) (fun k_23 => ?_) (fun k_23 => ?_)
            · have tk_23 := c_ne (a := y_19.toInt) (b := 34) rfl (by decide) k_23
              refine lv_iload hx hb dX6_read_125 (lv_at hl 0 rfl) ?_
              refine lv_bipush (v := 59) hx hb dX6_read_127 (by decide) ?_
              refine lv_icmp_ne (tgt := 141) hx hb dX6_read_129 (by decide) (fun k_24 => ?_) (fun k_24 => ?_)
              · have tk_24 := c_ne (a := y_19.toInt) (b := 59) rfl (by decide) k_24
                refine lv_iload hx hb dX6_read_141 (lv_at hl 0 rfl) ?_
                refine lv_bipush (v := 32) hx hb dX6_read_143 (by decide) ?_
                refine lv_icmp_eq (tgt := 162) hx hb dX6_read_145 (by decide) (fun k_25 => ?_) (fun k_25 => ?_)
                · have tk_25 := c_eq (a := y_19.toInt) (b := 32) rfl (by decide) k_25
                  obtain ⟨y_26, ey_26⟩ : ∃ y : Int32, y = ax + 1 := ⟨_, rfl⟩
                  first | have ty_26 := i_add (a := ax.toInt) (b := 1) rfl (by decide) ey_26 (by omega) (by omega) | skip
                  refine lv_iinc (v := y_26) (lv' := [(6, .int y_26), (7, .int y_19), (5, .int y_2), (0, .ref rd), (1, .ref ba), (2, .int i2), (3, .int i3), (4, .int i4)]) hx hb dX6_read_162 hl (k := 1) rfl (by rw [ey_26]; rfl) (by decide) rfl (fun ls hl => ?_)
                  refine lv_goto (tgt := 52) hx hb dX6_read_165 (by decide) ?_
                  exact ih52 y_26 fa fv fl fd fq fw gb ge gi (by first | omega | assumption | decide) (Or.inr (hJ.mono (by omega))) (by omega) _ _ ls hP hD hS (lv_sub hl [0, 2, 3, 4, 5, 6, 7] rfl)
                · have tk_25 := c_ne (a := y_19.toInt) (b := 32) rfl (by decide) k_25
                  refine lv_iload hx hb dX6_read_148 (lv_at hl 0 rfl) ?_
                  refine lv_bipush (v := 10) hx hb dX6_read_150 (by decide) ?_
                  refine lv_icmp_eq (tgt := 162) hx hb dX6_read_152 (by decide) (fun k_27 => ?_) (fun k_27 => ?_)
                  · have tk_27 := c_eq (a := y_19.toInt) (b := 10) rfl (by decide) k_27
                    obtain ⟨y_28, ey_28⟩ : ∃ y : Int32, y = ax + 1 := ⟨_, rfl⟩
                    first | have ty_28 := i_add (a := ax.toInt) (b := 1) rfl (by decide) ey_28 (by omega) (by omega) | skip
                    refine lv_iinc (v := y_28) (lv' := [(6, .int y_28), (7, .int y_19), (5, .int y_2), (0, .ref rd), (1, .ref ba), (2, .int i2), (3, .int i3), (4, .int i4)]) hx hb dX6_read_162 hl (k := 1) rfl (by rw [ey_28]; rfl) (by decide) rfl (fun ls hl => ?_)
                    refine lv_goto (tgt := 52) hx hb dX6_read_165 (by decide) ?_
                    exact ih52 y_28 fa fv fl fd fq fw gb ge gi (by first | omega | assumption | decide) (Or.inr (hJ.mono (by omega))) (by omega) _ _ ls hP hD hS (lv_sub hl [0, 2, 3, 4, 5, 6, 7] rfl)
                  · have tk_27 := c_ne (a := y_19.toInt) (b := 10) rfl (by decide) k_27
                    refine lv_aload_n hx hb dX6_read_155 rfl (lv_at hl 3 rfl) ?_
                    refine lv_iconst (v := 1) hx hb dX6_read_156 (by decide) ?_
                    refine lv_iload hx hb dX6_read_157 (lv_at hl 1 rfl) ?_
                    have hPc := hP.sub (ws' := [(rd, .inr (6, rF r fa fv fl fd fq i3 i4 fw))]) [0] rfl
                    have hKc := hK.sub (tys' := []) [] rfl
                    have hDc := hD.sub (ws' := [(rd, .inr (6, rF r fa fv fl fd fq i3 i4 fw))]) [0] (by decide) rfl
                    have hFc := va_free (wc := [(rd, .inr (6, rF r fa fv fl fd fq i3 i4 fw))]) hD hS hA [0] rfl
                    refine va_callv (va_runV (As := [.int 1, .int ax]) (rest := []) ⟨hx, hb, hml, hown, hts⟩ (s_fail l dC dI rd r fa fv fl fd fq i3 i4 fw H.size 1 ax) (cwV 2 hts mg_X6_read_X6_fail_71 rfl rfl rfl (by decide +kernel) ⟨Nat.le_of_ble_eq_true rfl, Nat.le_of_ble_eq_true rfl⟩) ⟨fun a U g mk q => by obtain ⟨q0, q1, qP, qK, qD⟩ := q; exact ⟨q0, q1, qP, va_K.moved (u := U) (U := U.calling g mk a) (Vm.Alike.refl U.vm) qK, qD⟩, va_recv hKc hPc (ci := 6) (q0 := 0) rfl rfl, fun U hU hW => ⟨rfl, by rw [hU], by rw [hU]; exact hPc, va_K.moved hW.alike hKc, hDc.weaken (fun _ _ _ _ => trivial)⟩⟩ rfl rfl hl.1 rfl (lv_room (Nat.le_of_ble_eq_true rfl)) dX6_read_159 ⟨Nat.le_of_ble_eq_true rfl, Nat.le_of_ble_eq_true rfl⟩) hS (fun q _ h => hFc q h) hFc (fun u t H1 locs ht hvm hw hB hz1 hk1 hS => ?_)
                    obtain ⟨hP1, hK1, hD1⟩ := hB
                    rw [ht] at hP1
                    obtain ⟨hP, hD⟩ := va_join (wr := [(ba, .inl (cb, kb, .inl fb)), (r 0, .inl (cb0, 18, .inl gb)), (r 1, .inl (cb1, 18, .inl ge)), (r 2, .inl (cb2, 18, .inl gi))]) (w1 := [(rd, .inr (6, rF r 1 ax fl fd fq i3 i4 fw))]) hP hD [0] [1, 2, 3, 4] rfl rfl (by decide) (by decide) hk1 hFc hP1 hD1
                    generalize H1 = H at hP hS ⊢
                    have hP : va_P (dC, dI) vwCl [(ba, .inl (cb, kb, .inl fb)), (r 0, .inl (cb0, 18, .inl gb)), (r 1, .inl (cb1, 18, .inl ge)), (r 2, .inl (cb2, 18, .inl gi)), (rd, .inr (6, rF r 1 ax fl fd fq i3 i4 fw))] H := hP
                    have hD : va_D A [(ba, .inl (cb, kb, .inl fb)), (r 0, .inl (cb0, 18, .inl gb)), (r 1, .inl (cb1, 18, .inl ge)), (r 2, .inl (cb2, 18, .inl gi)), (rd, .inr (6, rF r 1 ax fl fd fq i3 i4 fw))] := hD
                    obtain ⟨y_31, ey_31⟩ : ∃ y : Int32, y = ax + 1 := ⟨_, rfl⟩
                    first | have ty_31 := i_add (a := ax.toInt) (b := 1) rfl (by decide) ey_31 (by omega) (by omega) | skip
                    refine lv_iinc (v := y_31) (lv' := [(6, .int y_31), (7, .int y_19), (5, .int y_2), (0, .ref rd), (1, .ref ba), (2, .int i2), (3, .int i3), (4, .int i4)]) hx hb dX6_read_162 hl (k := 1) rfl (by rw [ey_31]; rfl) (by decide) rfl (fun ls hl => ?_)
                    refine lv_goto (tgt := 52) hx hb dX6_read_165 (by decide) ?_
                    have lit_31 : (1 : Int32).toInt = 1 := by decide
                    exact ih52 y_31 1 ax fl fd fq fw gb ge gi (by first | omega | assumption | decide) (Or.inl (by decide)) (by omega) _ _ ls (hP.sub [4, 0, 1, 2, 3] rfl) (hD.sub [4, 0, 1, 2, 3] (by decide) rfl) hS (lv_sub hl [0, 2, 3, 4, 5, 6, 7] rfl)
              · have tk_24 := c_eq (a := y_19.toInt) (b := 59) rfl (by decide) k_24
                refine lv_aload_n hx hb dX6_read_132 rfl (lv_at hl 3 rfl) ?_
                refine lv_iload hx hb dX6_read_133 (lv_at hl 1 rfl) ?_
                have hPc := hP.sub (ws' := [(rd, .inr (6, rF r fa fv fl fd fq i3 i4 fw))]) [0] rfl
                have hKc := hK.sub (tys' := []) [] rfl
                have hDc := hD.sub (ws' := [(rd, .inr (6, rF r fa fv fl fd fq i3 i4 fw))]) [0] (by decide) rfl
                have hFc := va_free (wc := [(rd, .inr (6, rF r fa fv fl fd fq i3 i4 fw))]) hD hS hA [0] rfl
                refine va_callv (va_runV (As := [.int ax]) (rest := []) ⟨hx, hb, hml, hown, hts⟩ (s_readSemicolon l dC dI rd r fa fv fl fd fq i3 i4 fw H.size ax) (cwV 1 hts mg_X6_read_X6_readSemicolon_67 rfl rfl rfl (by decide +kernel) ⟨Nat.le_of_ble_eq_true rfl, Nat.le_of_ble_eq_true rfl⟩) ⟨fun a U g mk q => by obtain ⟨q0, q1, qP, qK, qD⟩ := q; exact ⟨q0, q1, qP, va_K.moved (u := U) (U := U.calling g mk a) (Vm.Alike.refl U.vm) qK, qD⟩, va_recv hKc hPc (ci := 6) (q0 := 0) rfl rfl, fun U hU hW => ⟨rfl, by rw [hU], by rw [hU]; exact hPc, va_K.moved hW.alike hKc, hDc.weaken (fun _ _ _ _ => trivial)⟩⟩ rfl rfl hl.1 rfl (lv_room (Nat.le_of_ble_eq_true rfl)) dX6_read_135 ⟨Nat.le_of_ble_eq_true rfl, Nat.le_of_ble_eq_true rfl⟩) hS (fun q _ h => hFc q h) hFc (fun u t H1 locs ht hvm hw hB hz1 hk1 hS => ?_)
                obtain ⟨y_35, y_36, hP1, hK1, hD1⟩ := hB
                rw [ht] at hP1
                obtain ⟨hP, hD⟩ := va_join (wr := [(ba, .inl (cb, kb, .inl fb)), (r 0, .inl (cb0, 18, .inl gb)), (r 1, .inl (cb1, 18, .inl ge)), (r 2, .inl (cb2, 18, .inl gi))]) (w1 := [(rd, .inr (6, rF r y_35 y_36 fl fd fq i3 i4 0))]) hP hD [0] [1, 2, 3, 4] rfl rfl (by decide) (by decide) hk1 hFc hP1 hD1
                generalize H1 = H at hP hS ⊢
                have hP : va_P (dC, dI) vwCl [(ba, .inl (cb, kb, .inl fb)), (r 0, .inl (cb0, 18, .inl gb)), (r 1, .inl (cb1, 18, .inl ge)), (r 2, .inl (cb2, 18, .inl gi)), (rd, .inr (6, rF r y_35 y_36 fl fd fq i3 i4 0))] H := hP
                have hD : va_D A [(ba, .inl (cb, kb, .inl fb)), (r 0, .inl (cb0, 18, .inl gb)), (r 1, .inl (cb1, 18, .inl ge)), (r 2, .inl (cb2, 18, .inl gi)), (rd, .inr (6, rF r y_35 y_36 fl fd fq i3 i4 0))] := hD
                refine lv_goto (tgt := 162) hx hb dX6_read_138 (by decide) ?_
                obtain ⟨y_37, ey_37⟩ : ∃ y : Int32, y = ax + 1 := ⟨_, rfl⟩
                first | have ty_37 := i_add (a := ax.toInt) (b := 1) rfl (by decide) ey_37 (by omega) (by omega) | skip
                refine lv_iinc (v := y_37) (lv' := [(6, .int y_37), (7, .int y_19), (5, .int y_2), (0, .ref rd), (1, .ref ba), (2, .int i2), (3, .int i3), (4, .int i4)]) hx hb dX6_read_162 hl (k := 1) rfl (by rw [ey_37]; rfl) (by decide) rfl (fun ls hl => ?_)
                refine lv_goto (tgt := 52) hx hb dX6_read_165 (by decide) ?_
                have lit_37 : (0 : Int32).toInt = 0 := by decide
                exact ih52 y_37 y_35 y_36 fl fd fq 0 gb ge gi (by first | omega | assumption | decide) (Or.inr (hJ.semi.mono (by omega))) (by omega) _ _ ls (hP.sub [4, 0, 1, 2, 3] rfl) (hD.sub [4, 0, 1, 2, 3] (by decide) rfl) hS (lv_sub hl [0, 2, 3, 4, 5, 6, 7] rfl)
            · have tk_23 := c_eq (a := y_19.toInt) (b := 34) rfl (by decide) k_23
              refine lv_iload hx hb dX6_read_106 (lv_at hl 1 rfl) ?_
              refine lv_aload_n hx hb dX6_read_108 rfl (lv_at hl 3 rfl) ?_
              refine lv_aload_n hx hb dX6_read_109 rfl (lv_at hl 4 rfl) ?_
              refine lv_iload hx hb dX6_read_110 (lv_at hl 1 rfl) ?_
              refine lv_iload hx hb dX6_read_112 (lv_at hl 2 rfl) ?_
              have hPc := hP.sub (ws' := [(rd, .inr (6, rF r fa fv fl fd fq i3 i4 fw)), (ba, .inl (cb, kb, .inl fb)), (r 0, .inl (cb0, 18, .inl gb)), (r 1, .inl (cb1, 18, .inl ge)), (r 2, .inl (cb2, 18, .inl gi))]) [0, 1, 2, 3, 4] rfl
              have hKc := hK.sub (tys' := [(cb, .int), (cb0, .int), (cb1, .int), (cb2, .boolean)]) [0, 1, 2, 3] rfl
              have hDc := hD.sub (ws' := [(rd, .inr (6, rF r fa fv fl fd fq i3 i4 fw)), (ba, .inl (cb, kb, .inl fb)), (r 0, .inl (cb0, 18, .inl gb)), (r 1, .inl (cb1, 18, .inl ge)), (r 2, .inl (cb2, 18, .inl gi))]) [0, 1, 2, 3, 4] (by decide) rfl
              have hFc := va_free (wc := [(rd, .inr (6, rF r fa fv fl fd fq i3 i4 fw)), (ba, .inl (cb, kb, .inl fb)), (r 0, .inl (cb0, 18, .inl gb)), (r 1, .inl (cb1, 18, .inl ge)), (r 2, .inl (cb2, 18, .inl gi))]) hD hS hA [0, 1, 2, 3, 4] rfl
              refine va_calli (va_runV (As := [.ref ba, .int ax, .int y_2]) (rest := [.int ax]) ⟨hx, hb, hml, hown, hts⟩ (s_readQuote l dC dI rd r fa fv fl fd fq i3 i4 fw ba kb cb cb0 cb1 cb2 fb gb ge gi H.size ax y_2 (by omega) (by omega) (by omega) hJ) (cwV 3 hts mg_X6_read_X6_readQuote_64 rfl rfl rfl (by decide +kernel) ⟨Nat.le_of_ble_eq_true rfl, Nat.le_of_ble_eq_true rfl⟩) ⟨fun a U g mk q => by obtain ⟨q0, q1, qP, qK, qD, qE0⟩ := q; exact ⟨q0, q1, qP, va_K.moved (u := U) (U := U.calling g mk a) (Vm.Alike.refl U.vm) qK, qD, va_Nw.same rfl (rfl : U.vm = (U.calling g mk a).vm) qE0⟩, va_recv hKc hPc (ci := 6) (q0 := 0) rfl rfl, fun U hU hW => ⟨rfl, by rw [hU], by rw [hU]; exact hPc, va_K.moved hW.alike hKc, hDc.weaken (fun _ _ _ _ => trivial), va_Nw.warmM hW hN53⟩⟩ rfl rfl hl.1 rfl (lv_room (Nat.le_of_ble_eq_true rfl)) dX6_read_114 ⟨Nat.le_of_ble_eq_true rfl, Nat.le_of_ble_eq_true rfl⟩) hS (fun q _ h => hFc q h) hFc (fun r_40 u t H1 locs ht hvm hw hB hz1 hk1 hS => ?_)
              obtain ⟨hu9, hr_40⟩ := hw
              obtain ⟨y_41, y_42, y_43, y_44, y_45, y_46, f_47, f_48, f_49, hJ9, hP1, hK1, hD1⟩ := hB
              rw [← hu9] at hJ9
              rw [ht] at hP1
              have rg_y_41 := i_rng y_41
              have rg_y_42 := i_rng y_42
              have rg_y_43 := i_rng y_43
              have rg_y_44 := i_rng y_44
              have rg_y_45 := i_rng y_45
              have rg_y_46 := i_rng y_46
              have rg_r_40 := i_rng r_40
              obtain ⟨hP, hD⟩ := va_join (wr := []) (w1 := [(rd, .inr (6, rF r y_41 y_42 y_43 y_44 y_45 i3 i4 y_46)), (ba, .inl (cb, kb, .inl fb)), (r 0, .inl (cb0, 18, .inl f_47)), (r 1, .inl (cb1, 18, .inl f_48)), (r 2, .inl (cb2, 18, .inl f_49))]) hP hD [0, 1, 2, 3, 4] [] rfl rfl (by decide) (by decide) hk1 hFc hP1 hD1
              generalize H1 = H at hP hS ⊢
              have hP : va_P (dC, dI) vwCl [(rd, .inr (6, rF r y_41 y_42 y_43 y_44 y_45 i3 i4 y_46)), (ba, .inl (cb, kb, .inl fb)), (r 0, .inl (cb0, 18, .inl f_47)), (r 1, .inl (cb1, 18, .inl f_48)), (r 2, .inl (cb2, 18, .inl f_49))] H := hP
              have hD : va_D A [(rd, .inr (6, rF r y_41 y_42 y_43 y_44 y_45 i3 i4 y_46)), (ba, .inl (cb, kb, .inl fb)), (r 0, .inl (cb0, 18, .inl f_47)), (r 1, .inl (cb1, 18, .inl f_48)), (r 2, .inl (cb2, 18, .inl f_49))] := hD
              refine va_mmax hx hb (hml.trans hl.1.symm) hown (hts (.methodLink RX6 61 Lib.Math.max.name) (List.mem_of_getElem? (i := 25) (by decide +kernel))) (hts (.static Lib.Math.max.name) (List.mem_of_getElem? (i := 26) (by decide +kernel))) (hts (.initialized "java/lang/Math") (List.mem_of_getElem? (i := 11) (by decide +kernel))) (hts (.code Lib.Math.max.name Lib.Math.max.code 2 (some .int)) (List.mem_of_getElem? (i := 27) (by decide +kernel))) (Nat.le_of_ble_eq_true rfl) (Nat.le_of_ble_eq_true rfl) (Nat.le_of_ble_eq_true rfl) (Nat.le_of_ble_eq_true rfl) dX6_read_117 ?_
              refine lv_topi (fun y_50 ey_50 => ?_)
              have ty_50 := i_max (a := ax.toInt) (b := r_40.toInt) rfl rfl ey_50
              refine lv_istore (lv' := [(6, .int y_50), (7, .int y_19), (5, .int y_2), (0, .ref rd), (1, .ref ba), (2, .int i2), (3, .int i3), (4, .int i4)]) hx hb dX6_read_120 hl (by decide) rfl (fun ls hl => ?_)
              refine lv_goto (tgt := 162) hx hb dX6_read_122 (by decide) ?_
              obtain ⟨y_51, ey_51⟩ : ∃ y : Int32, y = y_50 + 1 := ⟨_, rfl⟩
              first | have ty_51 := i_add (a := y_50.toInt) (b := 1) rfl (by decide) ey_51 (by omega) (by omega) | skip
              refine lv_iinc (v := y_51) (lv' := [(6, .int y_51), (7, .int y_19), (5, .int y_2), (0, .ref rd), (1, .ref ba), (2, .int i2), (3, .int i3), (4, .int i4)]) hx hb dX6_read_162 hl (k := 0) rfl (by rw [ey_51]; rfl) (by decide) rfl (fun ls hl => ?_)
              refine lv_goto (tgt := 52) hx hb dX6_read_165 (by decide) ?_
              exact ih52 y_51 y_41 y_42 y_43 y_44 y_45 y_46 f_47 f_48 f_49 (by first | omega | assumption | decide) (hJ9.imp_right (fun h => h.mono (by omega))) (by omega) _ _ ls hP hD hS (lv_sub hl [0, 2, 3, 4, 5, 6, 7] rfl)
          · have tk_22 := c_ne (a := r_21.toInt) (b := 0) rfl (by decide) k_22
            refine lv_iload hx hb dX6_read_80 (lv_at hl 1 rfl) ?_
            refine lv_aload_n hx hb dX6_read_82 rfl (lv_at hl 3 rfl) ?_
            refine lv_aload_n hx hb dX6_read_83 rfl (lv_at hl 4 rfl) ?_
            refine lv_iload hx hb dX6_read_84 (lv_at hl 1 rfl) ?_
            refine lv_iload hx hb dX6_read_86 (lv_at hl 2 rfl) ?_
            have hPc := hP.sub (ws' := [(rd, .inr (6, rF r fa fv fl fd fq i3 i4 fw)), (ba, .inl (cb, kb, .inl fb))]) [0, 1] rfl
            have hKc := hK.sub (tys' := [(cb, .int)]) [0] rfl
            have hDc := hD.sub (ws' := [(rd, .inr (6, rF r fa fv fl fd fq i3 i4 fw)), (ba, .inl (cb, kb, .inl fb))]) [0, 1] (by decide) rfl
            have hFc := va_free (wc := [(rd, .inr (6, rF r fa fv fl fd fq i3 i4 fw)), (ba, .inl (cb, kb, .inl fb))]) hD hS hA [0, 1] rfl
            refine va_calli (va_runV (As := [.ref ba, .int ax, .int y_2]) (rest := [.int ax]) ⟨hx, hb, hml, hown, hts⟩ (s_readWord l dC dI rd r fa fv fl fd fq i3 i4 fw ba kb cb fb H.size ax y_2 (by omega) (by omega) (by omega) (by omega) (by omega) (by omega)) (cwV 3 hts mg_X6_read_X6_readWord_57 rfl rfl rfl (by decide +kernel) ⟨Nat.le_of_ble_eq_true rfl, Nat.le_of_ble_eq_true rfl⟩) ⟨fun a U g mk q => by obtain ⟨q0, q1, qP, qK, qD, qE0, qE1⟩ := q; exact ⟨q0, q1, qP, va_K.moved (u := U) (U := U.calling g mk a) (Vm.Alike.refl U.vm) qK, qD, va_Nw.same rfl (rfl : U.vm = (U.calling g mk a).vm) qE0, sR.call qE1⟩, va_recv hKc hPc (ci := 6) (q0 := 0) rfl rfl, fun U hU hW => ⟨rfl, by rw [hU], by rw [hU]; exact hPc, va_K.moved hW.alike hKc, hDc.weaken (fun _ _ _ _ => trivial), va_Nw.warmM hW hN53, sR.to hSR hS hFc hW hU⟩⟩ rfl rfl hl.1 rfl (lv_room (Nat.le_of_ble_eq_true rfl)) dX6_read_88 ⟨Nat.le_of_ble_eq_true rfl, Nat.le_of_ble_eq_true rfl⟩) hS (fun q _ h => hFc q h) hFc (fun r_53 u t H1 locs ht hvm hw hB hz1 hk1 hS => ?_)
            obtain ⟨y_54, y_55, y_56, hy_56, hP1, hK1, hD1⟩ := hB
            rw [ht] at hP1
            have hr_53 := hw
            obtain ⟨hP, hD⟩ := va_join (wr := [(r 0, .inl (cb0, 18, .inl gb)), (r 1, .inl (cb1, 18, .inl ge)), (r 2, .inl (cb2, 18, .inl gi))]) (w1 := [(rd, .inr (6, rF r y_54 y_55 fl fd fq i3 i4 y_56)), (ba, .inl (cb, kb, .inl fb))]) hP hD [0, 1] [2, 3, 4] rfl rfl (by decide) (by decide) hk1 hFc hP1 hD1
            generalize H1 = H at hP hS ⊢
            have hP : va_P (dC, dI) vwCl [(r 0, .inl (cb0, 18, .inl gb)), (r 1, .inl (cb1, 18, .inl ge)), (r 2, .inl (cb2, 18, .inl gi)), (rd, .inr (6, rF r y_54 y_55 fl fd fq i3 i4 y_56)), (ba, .inl (cb, kb, .inl fb))] H := hP
            have hD : va_D A [(r 0, .inl (cb0, 18, .inl gb)), (r 1, .inl (cb1, 18, .inl ge)), (r 2, .inl (cb2, 18, .inl gi)), (rd, .inr (6, rF r y_54 y_55 fl fd fq i3 i4 y_56)), (ba, .inl (cb, kb, .inl fb))] := hD
            refine va_mmax hx hb (hml.trans hl.1.symm) hown (hts (.methodLink RX6 61 Lib.Math.max.name) (List.mem_of_getElem? (i := 25) (by decide +kernel))) (hts (.static Lib.Math.max.name) (List.mem_of_getElem? (i := 26) (by decide +kernel))) (hts (.initialized "java/lang/Math") (List.mem_of_getElem? (i := 11) (by decide +kernel))) (hts (.code Lib.Math.max.name Lib.Math.max.code 2 (some .int)) (List.mem_of_getElem? (i := 27) (by decide +kernel))) (Nat.le_of_ble_eq_true rfl) (Nat.le_of_ble_eq_true rfl) (Nat.le_of_ble_eq_true rfl) (Nat.le_of_ble_eq_true rfl) dX6_read_91 ?_
            refine lv_topi (fun y_57 ey_57 => ?_)
            have ty_57 := i_max (a := ax.toInt) (b := r_53.toInt) rfl rfl ey_57
            refine lv_istore (lv' := [(6, .int y_57), (7, .int y_19), (5, .int y_2), (0, .ref rd), (1, .ref ba), (2, .int i2), (3, .int i3), (4, .int i4)]) hx hb dX6_read_94 hl (by decide) rfl (fun ls hl => ?_)
            refine lv_goto (tgt := 162) hx hb dX6_read_96 (by decide) ?_
            obtain ⟨y_58, ey_58⟩ : ∃ y : Int32, y = y_57 + 1 := ⟨_, rfl⟩
            first | have ty_58 := i_add (a := y_57.toInt) (b := 1) rfl (by decide) ey_58 (by omega) (by omega) | skip
            refine lv_iinc (v := y_58) (lv' := [(6, .int y_58), (7, .int y_19), (5, .int y_2), (0, .ref rd), (1, .ref ba), (2, .int i2), (3, .int i3), (4, .int i4)]) hx hb dX6_read_162 hl (k := 0) rfl (by rw [ey_58]; rfl) (by decide) rfl (fun ls hl => ?_)
            refine lv_goto (tgt := 52) hx hb dX6_read_165 (by decide) ?_
            exact ih52 y_58 y_54 y_55 fl fd fq y_56 gb ge gi (by first | omega | assumption | decide) ((hJ.word hy_56).imp_right (fun h => h.mono (by omega))) (by omega) _ _ ls (hP.sub [3, 4, 0, 1, 2] rfl) (hD.sub [3, 4, 0, 1, 2] (by decide) rfl) hS (lv_sub hl [0, 2, 3, 4, 5, 6, 7] rfl)
  have lit_58 : (0 : Int32).toInt = 0 := by decide
  have lit_59 : (0 : Int32).toInt = 0 := by decide
  have lit_60 : ((-1) : Int32).toInt = (-1) := by decide
  have lit_61 : (0 : Int32).toInt = 0 := by decide
  have lit_62 : (0 : Int32).toInt = 0 := by decide
  have lit_63 : (0 : Int32).toInt = 0 := by decide
  have lit_64 : (0 : Int32).toInt = 0 := by decide
  exact loop52 _ 0 0 (-1) 0 0 0 0 fb0 fb1 fb2 (by first | omega | assumption | decide) (Or.inr (rJ.zero h3 h4)) (Nat.lt_succ_self _) _ _ ls hP hD hS (lv_sub hl [0, 1, 2, 3, 4, 5, 6] rfl)

theorem dX6_endOfPattern_0 : decode cX6_endOfPattern 0 = .ok (.iconst 0, 1) := by decide +kernel
theorem dX6_endOfPattern_1 : decode cX6_endOfPattern 1 = .ok (.istore 4, 2) := by decide +kernel
theorem dX6_endOfPattern_3 : decode cX6_endOfPattern 3 = .ok (.iconst 0, 1) := by decide +kernel
theorem dX6_endOfPattern_4 : decode cX6_endOfPattern 4 = .ok (.istore 5, 2) := by decide +kernel
theorem dX6_endOfPattern_6 : decode cX6_endOfPattern 6 = .ok (.iconst 0, 1) := by decide +kernel
theorem dX6_endOfPattern_7 : decode cX6_endOfPattern 7 = .ok (.istore 6, 2) := by decide +kernel
theorem dX6_endOfPattern_9 : decode cX6_endOfPattern 9 = .ok (.iload_n 2, 1) := by decide +kernel
theorem dX6_endOfPattern_10 : decode cX6_endOfPattern 10 = .ok (.istore 7, 2) := by decide +kernel
theorem dX6_endOfPattern_12 : decode cX6_endOfPattern 12 = .ok (.iload 7, 2) := by decide +kernel
theorem dX6_endOfPattern_14 : decode cX6_endOfPattern 14 = .ok (.iload_n 3, 1) := by decide +kernel
theorem dX6_endOfPattern_15 : decode cX6_endOfPattern 15 = .ok (.if_icmp .ge 221, 3) := by decide +kernel
theorem dX6_endOfPattern_18 : decode cX6_endOfPattern 18 = .ok (.aload_n 1, 1) := by decide +kernel
theorem dX6_endOfPattern_19 : decode cX6_endOfPattern 19 = .ok (.iload 7, 2) := by decide +kernel
theorem dX6_endOfPattern_21 : decode cX6_endOfPattern 21 = .ok (.iaload, 1) := by decide +kernel
theorem dX6_endOfPattern_22 : decode cX6_endOfPattern 22 = .ok (.istore 8, 2) := by decide +kernel
theorem dX6_endOfPattern_24 : decode cX6_endOfPattern 24 = .ok (.iload 8, 2) := by decide +kernel
theorem dX6_endOfPattern_26 : decode cX6_endOfPattern 26 = .ok (.invokestatic 53, 3) := by decide +kernel
theorem dX6_endOfPattern_29 : decode cX6_endOfPattern 29 = .ok (.ifCond .ne 17, 3) := by decide +kernel
theorem dX6_endOfPattern_32 : decode cX6_endOfPattern 32 = .ok (.iload 8, 2) := by decide +kernel
theorem dX6_endOfPattern_34 : decode cX6_endOfPattern 34 = .ok (.bipush 46, 2) := by decide +kernel
theorem dX6_endOfPattern_36 : decode cX6_endOfPattern 36 = .ok (.if_icmp .eq 10, 3) := by decide +kernel
theorem dX6_endOfPattern_39 : decode cX6_endOfPattern 39 = .ok (.iload 8, 2) := by decide +kernel
theorem dX6_endOfPattern_41 : decode cX6_endOfPattern 41 = .ok (.bipush 91, 2) := by decide +kernel
theorem dX6_endOfPattern_43 : decode cX6_endOfPattern 43 = .ok (.if_icmp .ne 57, 3) := by decide +kernel
theorem dX6_endOfPattern_46 : decode cX6_endOfPattern 46 = .ok (.iload 4, 2) := by decide +kernel
theorem dX6_endOfPattern_48 : decode cX6_endOfPattern 48 = .ok (.bipush 24, 2) := by decide +kernel
theorem dX6_endOfPattern_50 : decode cX6_endOfPattern 50 = .ok (.if_icmp .lt 10, 3) := by decide +kernel
theorem dX6_endOfPattern_53 : decode cX6_endOfPattern 53 = .ok (.aload_n 0, 1) := by decide +kernel
theorem dX6_endOfPattern_54 : decode cX6_endOfPattern 54 = .ok (.iconst 4, 1) := by decide +kernel
theorem dX6_endOfPattern_55 : decode cX6_endOfPattern 55 = .ok (.iload 7, 2) := by decide +kernel
theorem dX6_endOfPattern_57 : decode cX6_endOfPattern 57 = .ok (.invokevirtual 71, 3) := by decide +kernel
theorem dX6_endOfPattern_60 : decode cX6_endOfPattern 60 = .ok (.iinc 4 1, 3) := by decide +kernel
theorem dX6_endOfPattern_63 : decode cX6_endOfPattern 63 = .ok (.iconst 1, 1) := by decide +kernel
theorem dX6_endOfPattern_64 : decode cX6_endOfPattern 64 = .ok (.istore 6, 2) := by decide +kernel
theorem dX6_endOfPattern_66 : decode cX6_endOfPattern 66 = .ok (.iload 8, 2) := by decide +kernel
theorem dX6_endOfPattern_68 : decode cX6_endOfPattern 68 = .ok (.bipush 91, 2) := by decide +kernel
theorem dX6_endOfPattern_70 : decode cX6_endOfPattern 70 = .ok (.if_icmp .ne 150, 3) := by decide +kernel
theorem dX6_endOfPattern_73 : decode cX6_endOfPattern 73 = .ok (.aload_n 0, 1) := by decide +kernel
theorem dX6_endOfPattern_74 : decode cX6_endOfPattern 74 = .ok (.getfield 22, 3) := by decide +kernel
theorem dX6_endOfPattern_77 : decode cX6_endOfPattern 77 = .ok (.ifCond .ne 143, 3) := by decide +kernel
theorem dX6_endOfPattern_80 : decode cX6_endOfPattern 80 = .ok (.iload 7, 2) := by decide +kernel
theorem dX6_endOfPattern_82 : decode cX6_endOfPattern 82 = .ok (.aload_n 0, 1) := by decide +kernel
theorem dX6_endOfPattern_83 : decode cX6_endOfPattern 83 = .ok (.aload_n 1, 1) := by decide +kernel
theorem dX6_endOfPattern_84 : decode cX6_endOfPattern 84 = .ok (.iload 7, 2) := by decide +kernel
theorem dX6_endOfPattern_86 : decode cX6_endOfPattern 86 = .ok (.iconst 1, 1) := by decide +kernel
theorem dX6_endOfPattern_87 : decode cX6_endOfPattern 87 = .ok (.iadd, 1) := by decide +kernel
theorem dX6_endOfPattern_88 : decode cX6_endOfPattern 88 = .ok (.iload_n 3, 1) := by decide +kernel
theorem dX6_endOfPattern_89 : decode cX6_endOfPattern 89 = .ok (.invokevirtual 99, 3) := by decide +kernel
theorem dX6_endOfPattern_92 : decode cX6_endOfPattern 92 = .ok (.invokestatic 61, 3) := by decide +kernel
theorem dX6_endOfPattern_95 : decode cX6_endOfPattern 95 = .ok (.istore 7, 2) := by decide +kernel
theorem dX6_endOfPattern_97 : decode cX6_endOfPattern 97 = .ok (.goto 123, 3) := by decide +kernel
theorem dX6_endOfPattern_100 : decode cX6_endOfPattern 100 = .ok (.iload 8, 2) := by decide +kernel
theorem dX6_endOfPattern_102 : decode cX6_endOfPattern 102 = .ok (.bipush 40, 2) := by decide +kernel
theorem dX6_endOfPattern_104 : decode cX6_endOfPattern 104 = .ok (.if_icmp .ne 25, 3) := by decide +kernel
theorem dX6_endOfPattern_107 : decode cX6_endOfPattern 107 = .ok (.iload 5, 2) := by decide +kernel
theorem dX6_endOfPattern_109 : decode cX6_endOfPattern 109 = .ok (.iconst 5, 1) := by decide +kernel
theorem dX6_endOfPattern_110 : decode cX6_endOfPattern 110 = .ok (.if_icmp .lt 10, 3) := by decide +kernel
theorem dX6_endOfPattern_113 : decode cX6_endOfPattern 113 = .ok (.aload_n 0, 1) := by decide +kernel
theorem dX6_endOfPattern_114 : decode cX6_endOfPattern 114 = .ok (.iconst 4, 1) := by decide +kernel
theorem dX6_endOfPattern_115 : decode cX6_endOfPattern 115 = .ok (.iload 7, 2) := by decide +kernel
theorem dX6_endOfPattern_117 : decode cX6_endOfPattern 117 = .ok (.invokevirtual 71, 3) := by decide +kernel
theorem dX6_endOfPattern_120 : decode cX6_endOfPattern 120 = .ok (.iinc 5 1, 3) := by decide +kernel
theorem dX6_endOfPattern_123 : decode cX6_endOfPattern 123 = .ok (.iconst 0, 1) := by decide +kernel
theorem dX6_endOfPattern_124 : decode cX6_endOfPattern 124 = .ok (.istore 6, 2) := by decide +kernel
theorem dX6_endOfPattern_126 : decode cX6_endOfPattern 126 = .ok (.goto 94, 3) := by decide +kernel
theorem dX6_endOfPattern_129 : decode cX6_endOfPattern 129 = .ok (.iload 8, 2) := by decide +kernel
theorem dX6_endOfPattern_131 : decode cX6_endOfPattern 131 = .ok (.bipush 34, 2) := by decide +kernel
theorem dX6_endOfPattern_133 : decode cX6_endOfPattern 133 = .ok (.if_icmp .ne 16, 3) := by decide +kernel
theorem dX6_endOfPattern_136 : decode cX6_endOfPattern 136 = .ok (.iload 5, 2) := by decide +kernel
theorem dX6_endOfPattern_138 : decode cX6_endOfPattern 138 = .ok (.ifCond .ne 11, 3) := by decide +kernel
theorem dX6_endOfPattern_141 : decode cX6_endOfPattern 141 = .ok (.iload 6, 2) := by decide +kernel
theorem dX6_endOfPattern_143 : decode cX6_endOfPattern 143 = .ok (.ifCond .eq 6, 3) := by decide +kernel
theorem dX6_endOfPattern_146 : decode cX6_endOfPattern 146 = .ok (.iload 7, 2) := by decide +kernel
theorem dX6_endOfPattern_148 : decode cX6_endOfPattern 148 = .ok (.ireturn, 1) := by decide +kernel
theorem dX6_endOfPattern_149 : decode cX6_endOfPattern 149 = .ok (.iload 8, 2) := by decide +kernel
theorem dX6_endOfPattern_151 : decode cX6_endOfPattern 151 = .ok (.bipush 124, 2) := by decide +kernel
theorem dX6_endOfPattern_153 : decode cX6_endOfPattern 153 = .ok (.if_icmp .ne 14, 3) := by decide +kernel
theorem dX6_endOfPattern_156 : decode cX6_endOfPattern 156 = .ok (.iload 6, 2) := by decide +kernel
theorem dX6_endOfPattern_158 : decode cX6_endOfPattern 158 = .ok (.ifCond .eq 9, 3) := by decide +kernel
theorem dX6_endOfPattern_161 : decode cX6_endOfPattern 161 = .ok (.iconst 0, 1) := by decide +kernel
theorem dX6_endOfPattern_162 : decode cX6_endOfPattern 162 = .ok (.istore 6, 2) := by decide +kernel
theorem dX6_endOfPattern_164 : decode cX6_endOfPattern 164 = .ok (.goto 56, 3) := by decide +kernel
theorem dX6_endOfPattern_167 : decode cX6_endOfPattern 167 = .ok (.iload 8, 2) := by decide +kernel
theorem dX6_endOfPattern_169 : decode cX6_endOfPattern 169 = .ok (.bipush 41, 2) := by decide +kernel
theorem dX6_endOfPattern_171 : decode cX6_endOfPattern 171 = .ok (.if_icmp .ne 22, 3) := by decide +kernel
theorem dX6_endOfPattern_174 : decode cX6_endOfPattern 174 = .ok (.iload 5, 2) := by decide +kernel
theorem dX6_endOfPattern_176 : decode cX6_endOfPattern 176 = .ok (.ifCond .le 17, 3) := by decide +kernel
theorem dX6_endOfPattern_179 : decode cX6_endOfPattern 179 = .ok (.iload 6, 2) := by decide +kernel
theorem dX6_endOfPattern_181 : decode cX6_endOfPattern 181 = .ok (.ifCond .eq 12, 3) := by decide +kernel
theorem dX6_endOfPattern_184 : decode cX6_endOfPattern 184 = .ok (.iinc 5 (-1), 3) := by decide +kernel
theorem dX6_endOfPattern_187 : decode cX6_endOfPattern 187 = .ok (.iconst 1, 1) := by decide +kernel
theorem dX6_endOfPattern_188 : decode cX6_endOfPattern 188 = .ok (.istore 6, 2) := by decide +kernel
theorem dX6_endOfPattern_190 : decode cX6_endOfPattern 190 = .ok (.goto 30, 3) := by decide +kernel
theorem dX6_endOfPattern_193 : decode cX6_endOfPattern 193 = .ok (.iload 8, 2) := by decide +kernel
theorem dX6_endOfPattern_195 : decode cX6_endOfPattern 195 = .ok (.invokestatic 102, 3) := by decide +kernel
theorem dX6_endOfPattern_198 : decode cX6_endOfPattern 198 = .ok (.ifCond .eq 15, 3) := by decide +kernel
theorem dX6_endOfPattern_201 : decode cX6_endOfPattern 201 = .ok (.iload 6, 2) := by decide +kernel
theorem dX6_endOfPattern_203 : decode cX6_endOfPattern 203 = .ok (.iconst 1, 1) := by decide +kernel
theorem dX6_endOfPattern_204 : decode cX6_endOfPattern 204 = .ok (.if_icmp .ne 9, 3) := by decide +kernel
theorem dX6_endOfPattern_207 : decode cX6_endOfPattern 207 = .ok (.iconst 2, 1) := by decide +kernel
theorem dX6_endOfPattern_208 : decode cX6_endOfPattern 208 = .ok (.istore 6, 2) := by decide +kernel
theorem dX6_endOfPattern_210 : decode cX6_endOfPattern 210 = .ok (.goto 10, 3) := by decide +kernel
theorem dX6_endOfPattern_213 : decode cX6_endOfPattern 213 = .ok (.aload_n 0, 1) := by decide +kernel
theorem dX6_endOfPattern_214 : decode cX6_endOfPattern 214 = .ok (.iconst 1, 1) := by decide +kernel
theorem dX6_endOfPattern_215 : decode cX6_endOfPattern 215 = .ok (.iload 7, 2) := by decide +kernel
theorem dX6_endOfPattern_217 : decode cX6_endOfPattern 217 = .ok (.invokevirtual 71, 3) := by decide +kernel
theorem dX6_endOfPattern_220 : decode cX6_endOfPattern 220 = .ok (.aload_n 0, 1) := by decide +kernel
theorem dX6_endOfPattern_221 : decode cX6_endOfPattern 221 = .ok (.getfield 22, 3) := by decide +kernel
theorem dX6_endOfPattern_224 : decode cX6_endOfPattern 224 = .ok (.ifCond .eq 6, 3) := by decide +kernel
theorem dX6_endOfPattern_227 : decode cX6_endOfPattern 227 = .ok (.iload 7, 2) := by decide +kernel
theorem dX6_endOfPattern_229 : decode cX6_endOfPattern 229 = .ok (.ireturn, 1) := by decide +kernel
theorem dX6_endOfPattern_230 : decode cX6_endOfPattern 230 = .ok (.iinc 7 1, 3) := by decide +kernel
theorem dX6_endOfPattern_233 : decode cX6_endOfPattern 233 = .ok (.goto (-221), 3) := by decide +kernel
theorem dX6_endOfPattern_236 : decode cX6_endOfPattern 236 = .ok (.aload_n 0, 1) := by decide +kernel
theorem dX6_endOfPattern_237 : decode cX6_endOfPattern 237 = .ok (.iconst 1, 1) := by decide +kernel
theorem dX6_endOfPattern_238 : decode cX6_endOfPattern 238 = .ok (.iload_n 3, 1) := by decide +kernel
theorem dX6_endOfPattern_239 : decode cX6_endOfPattern 239 = .ok (.invokevirtual 71, 3) := by decide +kernel
theorem dX6_endOfPattern_242 : decode cX6_endOfPattern 242 = .ok (.iload_n 3, 1) := by decide +kernel
theorem dX6_endOfPattern_243 : decode cX6_endOfPattern 243 = .ok (.ireturn, 1) := by decide +kernel
def mwX6_endOfPattern : List Cond := .code yX6_endOfPattern cX6_endOfPattern 9 (some .int) :: ([.code yX6_fail cX6_fail 3 none, .fieldLink RX6 22 "PatternGate$Reader" "faultKind" "I", .fieldLink RX6 26 "PatternGate$Reader" "faultPlace" "I", .methodLink RX6 71 yX6_fail, .instanceMethod yX6_fail, .selects RX6 yX6_fail yX6_fail, .initialized RX6, .code yX9_isSmall cX9_isSmall 1 (some .boolean), .initialized RX9, .static yX9_isSmall, .code yX6_endOfSet cX6_endOfSet 7 (some .int), .methodLink RX6 99 yX6_endOfSet, .instanceMethod yX6_endOfSet, .selects RX6 yX6_endOfSet yX6_endOfSet, .methodLink RX6 61 Lib.Math.max.name, .static Lib.Math.max.name, .initialized "java/lang/Math", .code Lib.Math.max.name Lib.Math.max.code 2 (some .int), .code yX6_isSign cX6_isSign 1 (some .boolean), .methodLink RX6 102 yX6_isSign, .static yX6_isSign] ++ wsX60)
theorem fin_X6_endOfPattern_X6 : ∀ w ∈ wsX60, w ∈ mwX6_endOfPattern := fun w h => List.mem_cons_of_mem _ (List.mem_append_right _ h)
set_option maxRecDepth 20000 in
theorem mg_X6_endOfPattern_X6_fail_71 : GoodIn mwX6_endOfPattern (wsV RX6 71 RX6 yX6_fail mwX6_fail) := goodIn_r _ [4, 5, 6, 7, 1, 2, 3, 22, 23, 24, 25, 26, 27, 28, 29, 30, 31, 32] (by decide +kernel) (by decide +kernel)
set_option maxRecDepth 20000 in
theorem mg_X6_endOfPattern_X9_isSmall_53 : GoodIn mwX6_endOfPattern mwX9_isSmallw := goodIn_r _ [8] (by decide +kernel) (by decide +kernel)
set_option maxRecDepth 20000 in
theorem mg_X6_endOfPattern_X6_endOfSet_99 : GoodIn mwX6_endOfPattern (wsV RX6 99 RX6 yX6_endOfSet mwX6_endOfSet) := goodIn_r _ [12, 13, 14, 7, 11, 1, 2, 3, 4, 5, 6, 7, 8, 9, 10, 22, 23, 24, 25, 26, 27, 28, 29, 30, 31, 32] (by decide +kernel) (by decide +kernel)
set_option maxRecDepth 20000 in
theorem mg_X6_endOfPattern_X6_isSign_102 : GoodIn mwX6_endOfPattern (va_wsS RX6 102 yX6_isSign mwX6_isSign) := goodIn_r _ [20, 21, 7, 19] (by decide +kernel) (by decide +kernel)
set_option maxHeartbeats 4000000 in
set_option maxRecDepth 100000 in
/-- Reader.endOfPattern -/
theorem s_endOfPattern (l : Launch) (dC : Nat → ClassId) (dI : Nat → Nat → Nat) (rd : Nat) (r : Nat → Nat) (a0 a1 a2 a3 a4 a5 a6 a7 : Int32) (ta nb : Nat) (cT : ClassId) (ft : Nat → Int32) (sz : Nat) (i8 i9 : Int32) (hn : nb ≤ 1000) (h1 : 0 ≤ i8.toInt) (h2 : i9.toInt ≤ nb) (h3 : i8.toInt ≤ i9.toInt) : Met l yX6_endOfPattern mwX6_endOfPattern ({ frames := 2, cells := 0, slots := 0, locals := 120 }) (va_Pc [.ref rd, .ref ta, .int i8, .int i9] (fun U => U.heap.size = sz ∧ va_P (dC, dI) vwCl ([(rd, .inr (6, rF r a0 a1 a2 a3 a4 a5 a6 a7)), (ta, .inl (cT, nb, .inl ft))]) U.heap ∧ va_K (dC, dI) vwCl ([(cT, .int)]) U ∧ va_D (fun _ => True) ([(rd, .inr (6, rF r a0 a1 a2 a3 a4 a5 a6 a7)), (ta, .inl (cT, nb, .inl ft))]) ∧ va_Nw (.methodLinkNest RX6 53 yX9_isSmall "PatternGate") U)) (va_Qi (fun (o9 : Int32) (_ : Unit) => i8.toInt ≤ o9.toInt ∧ (o9.toInt ≤ i9.toInt ∨ o9.toInt ≤ i8.toInt)) (fun _ t => ∃ y0 y1 : Int32, va_P (dC, dI) vwCl [(rd, .inr (6, rF r y0 y1 a2 a3 a4 a5 a6 a7)), (ta, .inl (cT, nb, .inl ft))] t.heap ∧ va_K (dC, dI) vwCl [(cT, .int)] t ∧ va_D (va_A ([(rd, .inr (6, rF r a0 a1 a2 a3 a4 a5 a6 a7)), (ta, .inl (cT, nb, .inl ft))]) sz) [(rd, .inr (6, rF r y0 y1 a2 a3 a4 a5 a6 a7)), (ta, .inl (cT, nb, .inl ft))]) (va_A ([(rd, .inr (6, rF r a0 a1 a2 a3 a4 a5 a6 a7)), (ta, .inl (cT, nb, .inl ft))]) sz)) 0 0 (va_A ([(rd, .inr (6, rF r a0 a1 a2 a3 a4 a5 a6 a7)), (ta, .inl (cT, nb, .inl ft))]) sz) := by
  refine Met.ofW (cc := cX6_endOfPattern) (maxL := 9) (ret := (some .int)) (by decide +kernel) rfl ?_
  intro p e s m args below meth c s₁ B hml hv
  obtain ⟨rfl, hsz, hP, hK, hD0, hN53⟩ := hv
  have hx := B.exec
  have hb := B.bytes
  have hr := B.returns
  have hts := atoms_spec (ws := mwX6_endOfPattern) B.pre
  have hown : s.vm.findClass RX6 = some m.cls := findClass_of_methodNamed B.named
  have hlocks := B.notSynchronized
  subst hsz
  have hD := hD0.self (sz := s.heap.size)
  generalize hAe : va_A ([(rd, .inr (6, rF r a0 a1 a2 a3 a4 a5 a6 a7)), (ta, .inl (cT, nb, .inl ft))]) s.heap.size = A at hD ⊢
  have hA : ∀ q : Nat, s.heap.size ≤ q → A q := fun q h => by rw [← hAe]; exact Or.inr h
  have hP : va_P (dC, dI) vwCl [(rd, .inr (6, rF r a0 a1 a2 a3 a4 a5 a6 a7)), (ta, .inl (cT, nb, .inl ft))] s.heap := hP
  have hD : va_D A [(rd, .inr (6, rF r a0 a1 a2 a3 a4 a5 a6 a7)), (ta, .inl (cT, nb, .inl ft))] := hD
  have hK : va_K (dC, dI) vwCl [(cT, .int)] s := hK
  generalize hH : s.heap = H at hP ⊢
  have hS : va_S A s.heap H [] := by rw [← hH]; exact va_S.rf
  have hl := lv_entry ([.ref rd, .ref ta, .int i8, .int i9]) (n := 9) (Nat.le_of_ble_eq_true rfl)
  rw [lg_entry_eq]
  generalize (lg_sl ([.ref rd, .ref ta, .int i8, .int i9]) ++ List.replicate (9 - (lg_sl ([.ref rd, .ref ta, .int i8, .int i9])).length) Slot.unset).toArray = ls at hl ⊢
  have hl : lv_has ls 9 [(0, .ref rd), (1, .ref ta), (2, .int i8), (3, .int i9)] := hl
  have rg_i8 := i_rng i8
  have rg_i9 := i_rng i9
  refine lv_iconst (v := 0) hx hb dX6_endOfPattern_0 (by decide) ?_
  refine lv_istore (lv' := [(4, .int 0), (0, .ref rd), (1, .ref ta), (2, .int i8), (3, .int i9)]) hx hb dX6_endOfPattern_1 hl (by decide) rfl (fun ls hl => ?_)
  refine lv_iconst (v := 0) hx hb dX6_endOfPattern_3 (by decide) ?_
  refine lv_istore (lv' := [(5, .int 0), (4, .int 0), (0, .ref rd), (1, .ref ta), (2, .int i8), (3, .int i9)]) hx hb dX6_endOfPattern_4 hl (by decide) rfl (fun ls hl => ?_)
  refine lv_iconst (v := 0) hx hb dX6_endOfPattern_6 (by decide) ?_
  refine lv_istore (lv' := [(6, .int 0), (5, .int 0), (4, .int 0), (0, .ref rd), (1, .ref ta), (2, .int i8), (3, .int i9)]) hx hb dX6_endOfPattern_7 hl (by decide) rfl (fun ls hl => ?_)
  refine lv_iload_n hx hb dX6_endOfPattern_9 rfl (lv_at hl 5 rfl) ?_
  refine lv_istore (lv' := [(7, .int i8), (6, .int 0), (5, .int 0), (4, .int 0), (0, .ref rd), (1, .ref ta), (2, .int i8), (3, .int i9)]) hx hb dX6_endOfPattern_10 hl (by decide) rfl (fun ls hl => ?_)
  have loop12 : ∀ (lm12 : Nat) (sp op sd ax fa fb : Int32), (i8.toInt ≤ ax.toInt) → (ax.toInt ≤ 2000) → ((i9.toInt - ax.toInt).toNat) < lm12 → ∀ (H : Heap) (locs : List Loc) (ls : Array Slot), va_P (dC, dI) vwCl [(rd, .inr (6, rF r fa fb a2 a3 a4 a5 a6 a7)), (ta, .inl (cT, nb, .inl ft))] H → va_D A [(rd, .inr (6, rF r fa fb a2 a3 a4 a5 a6 a7)), (ta, .inl (cT, nb, .inl ft))] → va_S A s.heap H locs → lv_has ls 9 [(7, .int ax), (6, .int sd), (5, .int op), (4, .int sp), (0, .ref rd), (1, .ref ta), (2, .int i8), (3, .int i9)] → W p l e (headSpec mwX6_endOfPattern ({ frames := 2, cells := 0, slots := 0, locals := 120 })).room s m ([.ref rd, .ref ta, .int i8, .int i9]).toArray below meth c H locs 0 0 (MQ below (va_Qi (fun (o9 : Int32) (_ : Unit) => i8.toInt ≤ o9.toInt ∧ (o9.toInt ≤ i9.toInt ∨ o9.toInt ≤ i8.toInt)) (fun _ t => ∃ y0 y1 : Int32, va_P (dC, dI) vwCl [(rd, .inr (6, rF r y0 y1 a2 a3 a4 a5 a6 a7)), (ta, .inl (cT, nb, .inl ft))] t.heap ∧ va_K (dC, dI) vwCl [(cT, .int)] t ∧ va_D A [(rd, .inr (6, rF r y0 y1 a2 a3 a4 a5 a6 a7)), (ta, .inl (cT, nb, .inl ft))]) A) ([.ref rd, .ref ta, .int i8, .int i9]).toArray s 0 0 A) (F0 m 12 ls []) := by
    intro lm12
    induction lm12 with
    | zero => intro sp op sd ax fa fb v12_0 v12_1 hm12; exact absurd hm12 (Nat.not_lt_zero _)
    | succ lm12 ih12 =>
      intro sp op sd ax fa fb v12_0 v12_1 hm12 H locs ls hP hD hS hl
      have rg_sp := i_rng sp
      have rg_op := i_rng op
      have rg_sd := i_rng sd
      have rg_ax := i_rng ax
      have rg_fa := i_rng fa
      have rg_fb := i_rng fb
      refine lv_iload hx hb dX6_endOfPattern_12 (lv_at hl 0 rfl) ?_
      refine lv_iload_n hx hb dX6_endOfPattern_14 rfl (lv_at hl 7 rfl) ?_
      refine lv_icmp_ge (tgt := 236) hx hb dX6_endOfPattern_15 (by decide) (fun k_1 => ?_) (fun k_1 => ?_)
      · have tk_1 := c_ge (a := ax.toInt) (b := i9.toInt) rfl rfl k_1
        refine lv_aload_n hx hb dX6_endOfPattern_236 rfl (lv_at hl 4 rfl) ?_
        refine lv_iconst (v := 1) hx hb dX6_endOfPattern_237 (by decide) ?_
        refine lv_iload_n hx hb dX6_endOfPattern_238 rfl (lv_at hl 7 rfl) ?_
        have hPc := hP.sub (ws' := [(rd, .inr (6, rF r fa fb a2 a3 a4 a5 a6 a7))]) [0] rfl
        have hKc := hK.sub (tys' := []) [] rfl
        have hDc := hD.sub (ws' := [(rd, .inr (6, rF r fa fb a2 a3 a4 a5 a6 a7))]) [0] (by decide) rfl
        have hFc := va_free (wc := [(rd, .inr (6, rF r fa fb a2 a3 a4 a5 a6 a7))]) hD hS hA [0] rfl
        refine va_callv (va_runV (As := [.int 1, .int i9]) (rest := []) ⟨hx, hb, hml, hown, hts⟩ (s_fail l dC dI rd r fa fb a2 a3 a4 a5 a6 a7 H.size 1 i9) (cwV 2 hts mg_X6_endOfPattern_X6_fail_71 rfl rfl rfl (by decide +kernel) ⟨Nat.le_of_ble_eq_true rfl, Nat.le_of_ble_eq_true rfl⟩) ⟨fun a U g mk q => by obtain ⟨q0, q1, qP, qK, qD⟩ := q; exact ⟨q0, q1, qP, va_K.moved (u := U) (U := U.calling g mk a) (Vm.Alike.refl U.vm) qK, qD⟩, va_recv hKc hPc (ci := 6) (q0 := 0) rfl rfl, fun U hU hW => ⟨rfl, by rw [hU], by rw [hU]; exact hPc, va_K.moved hW.alike hKc, hDc.weaken (fun _ _ _ _ => trivial)⟩⟩ rfl rfl hl.1 rfl (lv_room (Nat.le_of_ble_eq_true rfl)) dX6_endOfPattern_239 ⟨Nat.le_of_ble_eq_true rfl, Nat.le_of_ble_eq_true rfl⟩) hS (fun q _ h => hFc q h) hFc (fun u t H1 locs ht hvm hw hB hz1 hk1 hS => ?_)
        obtain ⟨hP1, hK1, hD1⟩ := hB
        rw [ht] at hP1
        obtain ⟨hP, hD⟩ := va_join (wr := [(ta, .inl (cT, nb, .inl ft))]) (w1 := [(rd, .inr (6, rF r 1 i9 a2 a3 a4 a5 a6 a7))]) hP hD [0] [1] rfl rfl (by decide) (by decide) hk1 hFc hP1 hD1
        generalize H1 = H at hP hS ⊢
        have hP : va_P (dC, dI) vwCl [(ta, .inl (cT, nb, .inl ft)), (rd, .inr (6, rF r 1 i9 a2 a3 a4 a5 a6 a7))] H := hP
        have hD : va_D A [(ta, .inl (cT, nb, .inl ft)), (rd, .inr (6, rF r 1 i9 a2 a3 a4 a5 a6 a7))] := hD
        refine lv_iload_n hx hb dX6_endOfPattern_242 rfl (lv_at hl 7 rfl) ?_
        have hP9 := hP.sub (ws' := [(rd, .inr (6, rF r 1 i9 a2 a3 a4 a5 a6 a7)), (ta, .inl (cT, nb, .inl ft))]) [1, 0] rfl
        have hD9 := hD.sub (ws' := [(rd, .inr (6, rF r 1 i9 a2 a3 a4 a5 a6 a7)), (ta, .inl (cT, nb, .inl ft))]) [1, 0] (by decide) rfl
        have hK9 := hK.sub (tys' := [(cT, .int)]) [0] rfl
        exact W.iret hx hb hr (fun t ht hW => ⟨⟨_, (), rfl, by omega, 1, i9, by rw [ht]; exact hP9, va_K.moved hW.alike hK9, hD9⟩, hS.F ht⟩) hS.2.2 dX6_endOfPattern_243
      · have tk_1 := c_nge (a := ax.toInt) (b := i9.toInt) rfl rfl k_1
        refine lv_aload_n hx hb dX6_endOfPattern_18 rfl (lv_at hl 5 rfl) ?_
        refine lv_iload hx hb dX6_endOfPattern_19 (lv_at hl 0 rfl) ?_
        refine va_iald hx hb hK hP 1 0 rfl rfl (i := ax) (vp_of (a := ax.toInt) rfl (by omega) (by omega)) dX6_endOfPattern_21 ?_
        refine lv_topi (fun y_4 ey_4 => ?_)
        have rg_y_4 := i_rng y_4
        refine lv_istore (lv' := [(8, .int y_4), (7, .int ax), (6, .int sd), (5, .int op), (4, .int sp), (0, .ref rd), (1, .ref ta), (2, .int i8), (3, .int i9)]) hx hb dX6_endOfPattern_22 hl (by decide) rfl (fun ls hl => ?_)
        refine lv_iload hx hb dX6_endOfPattern_24 (lv_at hl 0 rfl) ?_
        have hPc := hP.sub (ws' := []) [] rfl
        have hKc := hK.sub (tys' := []) [] rfl
        have hDc := hD.sub (ws' := []) [] (by decide) rfl
        have hFc := va_free (wc := []) hD hS hA [] rfl
        refine va_calli (va_runSN (As := [.int y_4]) (rest := []) ⟨hx, hb, hml, hown, hts⟩ (s_isSmallW l dC dI H.size y_4) ⟨va_cnB 1 hts mg_X6_endOfPattern_X9_isSmall_53 rfl rfl rfl hN53 (hts (.initialized RX9) (List.mem_of_getElem? (i := 9) (by decide +kernel))) (by decide +kernel) ⟨Nat.le_of_ble_eq_true rfl, Nat.le_of_ble_eq_true rfl⟩, (hts (.static yX9_isSmall) (List.mem_of_getElem? (i := 10) (by decide +kernel))), trivial⟩ ⟨fun a U g mk q => by obtain ⟨q0, q1, qP, qK, qD⟩ := q; exact ⟨q0, q1, qP, va_K.moved (u := U) (U := U.calling g mk a) (Vm.Alike.refl U.vm) qK, qD⟩, fun U hU hW => ⟨rfl, by rw [hU], by rw [hU]; exact hPc, va_K.moved hW.alike hKc, hDc.weaken (fun _ _ _ _ => trivial)⟩⟩ rfl rfl hl.1 rfl (lv_room (Nat.le_of_ble_eq_true rfl)) dX6_endOfPattern_26 ⟨Nat.le_of_ble_eq_true rfl, Nat.le_of_ble_eq_true rfl⟩) hS (fun q _ h => hFc q h) hFc (fun r_6 u t H1 locs ht hvm hw hB hz1 hk1 hS => ?_)
        have hr_6 := hw
        obtain ⟨hP, hD⟩ := va_join (wr := [(rd, .inr (6, rF r fa fb a2 a3 a4 a5 a6 a7)), (ta, .inl (cT, nb, .inl ft))]) (w1 := []) hP hD [] [0, 1] rfl rfl (by decide) (by decide) hk1 hFc (fun k q h => by simp at h) ⟨fun i j p q h => by simp at h, fun k q h => by simp at h⟩
        generalize H1 = H at hP hS ⊢
        have hP : va_P (dC, dI) vwCl [(rd, .inr (6, rF r fa fb a2 a3 a4 a5 a6 a7)), (ta, .inl (cT, nb, .inl ft))] H := hP
        have hD : va_D A [(rd, .inr (6, rF r fa fb a2 a3 a4 a5 a6 a7)), (ta, .inl (cT, nb, .inl ft))] := hD
        refine lv_if_ne (tgt := 46) hx hb dX6_endOfPattern_29 (by decide) (fun k_7 => ?_) (fun k_7 => ?_)
        · have tk_7 := c_ne (a := r_6.toInt) (b := 0) rfl (by decide) k_7
          refine lv_iload hx hb dX6_endOfPattern_46 (lv_at hl 4 rfl) ?_
          refine lv_bipush (v := 24) hx hb dX6_endOfPattern_48 (by decide) ?_
          refine lv_icmp_lt (tgt := 60) hx hb dX6_endOfPattern_50 (by decide) (fun k_8 => ?_) (fun k_8 => ?_)
          · have tk_8 := c_lt (a := sp.toInt) (b := 24) rfl (by decide) k_8
            obtain ⟨y_9, ey_9⟩ : ∃ y : Int32, y = sp + 1 := ⟨_, rfl⟩
            first | have ty_9 := i_add (a := sp.toInt) (b := 1) rfl (by decide) ey_9 (by omega) (by omega) | skip
            refine lv_iinc (v := y_9) (lv' := [(4, .int y_9), (8, .int y_4), (7, .int ax), (6, .int sd), (5, .int op), (0, .ref rd), (1, .ref ta), (2, .int i8), (3, .int i9)]) hx hb dX6_endOfPattern_60 hl (k := 4) rfl (by rw [ey_9]; rfl) (by decide) rfl (fun ls hl => ?_)
            refine lv_iconst (v := 1) hx hb dX6_endOfPattern_63 (by decide) ?_
            refine lv_istore (lv' := [(6, .int 1), (4, .int y_9), (8, .int y_4), (7, .int ax), (5, .int op), (0, .ref rd), (1, .ref ta), (2, .int i8), (3, .int i9)]) hx hb dX6_endOfPattern_64 hl (by decide) rfl (fun ls hl => ?_)
            refine lv_iload hx hb dX6_endOfPattern_66 (lv_at hl 2 rfl) ?_
            refine lv_bipush (v := 91) hx hb dX6_endOfPattern_68 (by decide) ?_
            refine lv_icmp_ne (tgt := 220) hx hb dX6_endOfPattern_70 (by decide) (fun k_10 => ?_) (fun k_10 => ?_)
            · have tk_10 := c_ne (a := y_4.toInt) (b := 91) rfl (by decide) k_10
              refine lv_aload_n hx hb dX6_endOfPattern_220 rfl (lv_at hl 5 rfl) ?_
              refine va_get (D := (dC, dI)) (ci := 6) (v := .int fa) (C := RX6) (T := TX6) (N := 11) hx hb hts fin_X6_endOfPattern_X6 hown hK hP 0 rfl rfl 0 (by decide) (hts (.fieldLink RX6 22 "PatternGate$Reader" "faultKind" "I") (List.mem_of_getElem? (i := 2) (by decide +kernel))) (fun _ h9 => h9) rfl dX6_endOfPattern_221 ?_
              refine lv_if_eq (tgt := 230) hx hb dX6_endOfPattern_224 (by decide) (fun k_11 => ?_) (fun k_11 => ?_)
              · have tk_11 := c_eq (a := fa.toInt) (b := 0) rfl (by decide) k_11
                obtain ⟨y_12, ey_12⟩ : ∃ y : Int32, y = ax + 1 := ⟨_, rfl⟩
                first | have ty_12 := i_add (a := ax.toInt) (b := 1) rfl (by decide) ey_12 (by omega) (by omega) | skip
                refine lv_iinc (v := y_12) (lv' := [(7, .int y_12), (6, .int 1), (4, .int y_9), (8, .int y_4), (5, .int op), (0, .ref rd), (1, .ref ta), (2, .int i8), (3, .int i9)]) hx hb dX6_endOfPattern_230 hl (k := 3) rfl (by rw [ey_12]; rfl) (by decide) rfl (fun ls hl => ?_)
                refine lv_goto (tgt := 12) hx hb dX6_endOfPattern_233 (by decide) ?_
                have lit_12 : (1 : Int32).toInt = 1 := by decide
                exact ih12 y_9 op 1 y_12 fa fb (by first | omega | decide | assumption) (by first | omega | decide | assumption) (by omega) _ _ ls hP hD hS (lv_sub hl [0, 1, 4, 2, 5, 6, 7, 8] rfl)
              · have tk_11 := c_ne (a := fa.toInt) (b := 0) rfl (by decide) k_11
                refine lv_iload hx hb dX6_endOfPattern_227 (lv_at hl 3 rfl) ?_
                have hP9 := hP.sub (ws' := [(rd, .inr (6, rF r fa fb a2 a3 a4 a5 a6 a7)), (ta, .inl (cT, nb, .inl ft))]) [0, 1] rfl
                have hD9 := hD.sub (ws' := [(rd, .inr (6, rF r fa fb a2 a3 a4 a5 a6 a7)), (ta, .inl (cT, nb, .inl ft))]) [0, 1] (by decide) rfl
                have hK9 := hK.sub (tys' := [(cT, .int)]) [0] rfl
                exact W.iret hx hb hr (fun t ht hW => ⟨⟨_, (), rfl, by omega, fa, fb, by rw [ht]; exact hP9, va_K.moved hW.alike hK9, hD9⟩, hS.F ht⟩) hS.2.2 dX6_endOfPattern_229
            · have tk_10 := c_eq (a := y_4.toInt) (b := 91) rfl (by decide) k_10
              refine lv_aload_n hx hb dX6_endOfPattern_73 rfl (lv_at hl 5 rfl) ?_
              refine va_get (D := (dC, dI)) (ci := 6) (v := .int fa) (C := RX6) (T := TX6) (N := 11) hx hb hts fin_X6_endOfPattern_X6 hown hK hP 0 rfl rfl 0 (by decide) (hts (.fieldLink RX6 22 "PatternGate$Reader" "faultKind" "I") (List.mem_of_getElem? (i := 2) (by decide +kernel))) (fun _ h9 => h9) rfl dX6_endOfPattern_74 ?_
              refine lv_if_ne (tgt := 220) hx hb dX6_endOfPattern_77 (by decide) (fun k_14 => ?_) (fun k_14 => ?_)
              · have tk_14 := c_ne (a := fa.toInt) (b := 0) rfl (by decide) k_14
                refine lv_aload_n hx hb dX6_endOfPattern_220 rfl (lv_at hl 5 rfl) ?_
                refine va_get (D := (dC, dI)) (ci := 6) (v := .int fa) (C := RX6) (T := TX6) (N := 11) hx hb hts fin_X6_endOfPattern_X6 hown hK hP 0 rfl rfl 0 (by decide) (hts (.fieldLink RX6 22 "PatternGate$Reader" "faultKind" "I") (List.mem_of_getElem? (i := 2) (by decide +kernel))) (fun _ h9 => h9) rfl dX6_endOfPattern_221 ?_
                refine lv_if_eq (tgt := 230) hx hb dX6_endOfPattern_224 (by decide) (fun k_15 => ?_) (fun k_15 => ?_)
                · have tk_15 := c_eq (a := fa.toInt) (b := 0) rfl (by decide) k_15
                  obtain ⟨y_16, ey_16⟩ : ∃ y : Int32, y = ax + 1 := ⟨_, rfl⟩
                  first | have ty_16 := i_add (a := ax.toInt) (b := 1) rfl (by decide) ey_16 (by omega) (by omega) | skip
                  refine lv_iinc (v := y_16) (lv' := [(7, .int y_16), (6, .int 1), (4, .int y_9), (8, .int y_4), (5, .int op), (0, .ref rd), (1, .ref ta), (2, .int i8), (3, .int i9)]) hx hb dX6_endOfPattern_230 hl (k := 3) rfl (by rw [ey_16]; rfl) (by decide) rfl (fun ls hl => ?_)
                  refine lv_goto (tgt := 12) hx hb dX6_endOfPattern_233 (by decide) ?_
                  have lit_16 : (1 : Int32).toInt = 1 := by decide
                  exact ih12 y_9 op 1 y_16 fa fb (by first | omega | decide | assumption) (by first | omega | decide | assumption) (by omega) _ _ ls hP hD hS (lv_sub hl [0, 1, 4, 2, 5, 6, 7, 8] rfl)
                · have tk_15 := c_ne (a := fa.toInt) (b := 0) rfl (by decide) k_15
                  refine lv_iload hx hb dX6_endOfPattern_227 (lv_at hl 3 rfl) ?_
                  have hP9 := hP.sub (ws' := [(rd, .inr (6, rF r fa fb a2 a3 a4 a5 a6 a7)), (ta, .inl (cT, nb, .inl ft))]) [0, 1] rfl
                  have hD9 := hD.sub (ws' := [(rd, .inr (6, rF r fa fb a2 a3 a4 a5 a6 a7)), (ta, .inl (cT, nb, .inl ft))]) [0, 1] (by decide) rfl
                  have hK9 := hK.sub (tys' := [(cT, .int)]) [0] rfl
                  exact W.iret hx hb hr (fun t ht hW => ⟨⟨_, (), rfl, by omega, fa, fb, by rw [ht]; exact hP9, va_K.moved hW.alike hK9, hD9⟩, hS.F ht⟩) hS.2.2 dX6_endOfPattern_229
              · have tk_14 := c_eq (a := fa.toInt) (b := 0) rfl (by decide) k_14
                refine lv_iload hx hb dX6_endOfPattern_80 (lv_at hl 3 rfl) ?_
                refine lv_aload_n hx hb dX6_endOfPattern_82 rfl (lv_at hl 5 rfl) ?_
                refine lv_aload_n hx hb dX6_endOfPattern_83 rfl (lv_at hl 6 rfl) ?_
                refine lv_iload hx hb dX6_endOfPattern_84 (lv_at hl 3 rfl) ?_
                refine lv_iconst (v := 1) hx hb dX6_endOfPattern_86 (by decide) ?_
                refine lv_iadd hx hb dX6_endOfPattern_87 ?_
                refine lv_topi (fun y_18 ey_18 => ?_)
                first | have ty_18 := i_add (a := ax.toInt) (b := 1) rfl (by decide) ey_18 (by omega) (by omega) | skip
                refine lv_iload_n hx hb dX6_endOfPattern_88 rfl (lv_at hl 8 rfl) ?_
                have hPc := hP.sub (ws' := [(rd, .inr (6, rF r fa fb a2 a3 a4 a5 a6 a7)), (ta, .inl (cT, nb, .inl ft))]) [0, 1] rfl
                have hKc := hK.sub (tys' := [(cT, .int)]) [0] rfl
                have hDc := hD.sub (ws' := [(rd, .inr (6, rF r fa fb a2 a3 a4 a5 a6 a7)), (ta, .inl (cT, nb, .inl ft))]) [0, 1] (by decide) rfl
                have hFc := va_free (wc := [(rd, .inr (6, rF r fa fb a2 a3 a4 a5 a6 a7)), (ta, .inl (cT, nb, .inl ft))]) hD hS hA [0, 1] rfl
                refine va_calli (va_runV (As := [.ref ta, .int y_18, .int i9]) (rest := [.int ax]) ⟨hx, hb, hml, hown, hts⟩ (s_endOfSet l dC dI rd r fa fb a2 a3 a4 a5 a6 a7 ta nb cT ft H.size y_18 i9 (by first | omega | decide | (have l0 := Int32.toInt_zero; omega)) (by first | omega | decide | (have l0 := Int32.toInt_zero; omega)) (by first | omega | decide | (have l0 := Int32.toInt_zero; omega)) (by first | omega | decide | (have l0 := Int32.toInt_zero; omega))) (cwV 3 hts mg_X6_endOfPattern_X6_endOfSet_99 rfl rfl rfl (by decide +kernel) ⟨Nat.le_of_ble_eq_true rfl, Nat.le_of_ble_eq_true rfl⟩) ⟨fun a U g mk q => by obtain ⟨q0, q1, qP, qK, qD, qE0⟩ := q; exact ⟨q0, q1, qP, va_K.moved (u := U) (U := U.calling g mk a) (Vm.Alike.refl U.vm) qK, qD, va_Nw.same rfl (rfl : U.vm = (U.calling g mk a).vm) qE0⟩, va_recv hKc hPc (ci := 6) (q0 := 0) rfl rfl, fun U hU hW => ⟨rfl, by rw [hU], by rw [hU]; exact hPc, va_K.moved hW.alike hKc, hDc.weaken (fun _ _ _ _ => trivial), va_Nw.warmM hW hN53⟩⟩ rfl rfl hl.1 rfl (lv_room (Nat.le_of_ble_eq_true rfl)) dX6_endOfPattern_89 ⟨Nat.le_of_ble_eq_true rfl, Nat.le_of_ble_eq_true rfl⟩) hS (fun q _ h => hFc q h) hFc (fun r_20 u t H1 locs ht hvm hw hB hz1 hk1 hS => ?_)
                obtain ⟨y_21, y_22, hP1, hK1, hD1⟩ := hB
                rw [ht] at hP1
                have hr_20 := hw
                have rg_r_20 := i_rng r_20
                obtain ⟨hP, hD⟩ := va_join (wr := []) (w1 := [(rd, .inr (6, rF r y_21 y_22 a2 a3 a4 a5 a6 a7)), (ta, .inl (cT, nb, .inl ft))]) hP hD [0, 1] [] rfl rfl (by decide) (by decide) hk1 hFc hP1 hD1
                generalize H1 = H at hP hS ⊢
                have hP : va_P (dC, dI) vwCl [(rd, .inr (6, rF r y_21 y_22 a2 a3 a4 a5 a6 a7)), (ta, .inl (cT, nb, .inl ft))] H := hP
                have hD : va_D A [(rd, .inr (6, rF r y_21 y_22 a2 a3 a4 a5 a6 a7)), (ta, .inl (cT, nb, .inl ft))] := hD
                refine va_mmax hx hb (hml.trans hl.1.symm) hown (hts (.methodLink RX6 61 Lib.Math.max.name) (List.mem_of_getElem? (i := 15) (by decide +kernel))) (hts (.static Lib.Math.max.name) (List.mem_of_getElem? (i := 16) (by decide +kernel))) (hts (.initialized "java/lang/Math") (List.mem_of_getElem? (i := 17) (by decide +kernel))) (hts (.code Lib.Math.max.name Lib.Math.max.code 2 (some .int)) (List.mem_of_getElem? (i := 18) (by decide +kernel))) (Nat.le_of_ble_eq_true rfl) (Nat.le_of_ble_eq_true rfl) (Nat.le_of_ble_eq_true rfl) (Nat.le_of_ble_eq_true rfl) dX6_endOfPattern_92 ?_
                refine lv_topi (fun y_23 ey_23 => ?_)
                have ty_23 := i_max (a := ax.toInt) (b := r_20.toInt) rfl rfl ey_23
                refine lv_istore (lv' := [(7, .int y_23), (6, .int 1), (4, .int y_9), (8, .int y_4), (5, .int op), (0, .ref rd), (1, .ref ta), (2, .int i8), (3, .int i9)]) hx hb dX6_endOfPattern_95 hl (by decide) rfl (fun ls hl => ?_)
                refine lv_goto (tgt := 220) hx hb dX6_endOfPattern_97 (by decide) ?_
                refine lv_aload_n hx hb dX6_endOfPattern_220 rfl (lv_at hl 5 rfl) ?_
                refine va_get (D := (dC, dI)) (ci := 6) (v := .int y_21) (C := RX6) (T := TX6) (N := 11) hx hb hts fin_X6_endOfPattern_X6 hown hK hP 0 rfl rfl 0 (by decide) (hts (.fieldLink RX6 22 "PatternGate$Reader" "faultKind" "I") (List.mem_of_getElem? (i := 2) (by decide +kernel))) (fun _ h9 => h9) rfl dX6_endOfPattern_221 ?_
                refine lv_if_eq (tgt := 230) hx hb dX6_endOfPattern_224 (by decide) (fun k_24 => ?_) (fun k_24 => ?_)
                · have tk_24 := c_eq (a := y_21.toInt) (b := 0) rfl (by decide) k_24
                  obtain ⟨y_25, ey_25⟩ : ∃ y : Int32, y = y_23 + 1 := ⟨_, rfl⟩
                  first | have ty_25 := i_add (a := y_23.toInt) (b := 1) rfl (by decide) ey_25 (by omega) (by omega) | skip
                  refine lv_iinc (v := y_25) (lv' := [(7, .int y_25), (6, .int 1), (4, .int y_9), (8, .int y_4), (5, .int op), (0, .ref rd), (1, .ref ta), (2, .int i8), (3, .int i9)]) hx hb dX6_endOfPattern_230 hl (k := 0) rfl (by rw [ey_25]; rfl) (by decide) rfl (fun ls hl => ?_)
                  refine lv_goto (tgt := 12) hx hb dX6_endOfPattern_233 (by decide) ?_
                  have lit_25 : (1 : Int32).toInt = 1 := by decide
                  exact ih12 y_9 op 1 y_25 y_21 y_22 (by first | omega | decide | assumption) (by first | omega | decide | assumption) (by omega) _ _ ls hP hD hS (lv_sub hl [0, 1, 4, 2, 5, 6, 7, 8] rfl)
                · have tk_24 := c_ne (a := y_21.toInt) (b := 0) rfl (by decide) k_24
                  refine lv_iload hx hb dX6_endOfPattern_227 (lv_at hl 0 rfl) ?_
                  have hP9 := hP.sub (ws' := [(rd, .inr (6, rF r y_21 y_22 a2 a3 a4 a5 a6 a7)), (ta, .inl (cT, nb, .inl ft))]) [0, 1] rfl
                  have hD9 := hD.sub (ws' := [(rd, .inr (6, rF r y_21 y_22 a2 a3 a4 a5 a6 a7)), (ta, .inl (cT, nb, .inl ft))]) [0, 1] (by decide) rfl
                  have hK9 := hK.sub (tys' := [(cT, .int)]) [0] rfl
                  exact W.iret hx hb hr (fun t ht hW => ⟨⟨_, (), rfl, by omega, y_21, y_22, by rw [ht]; exact hP9, va_K.moved hW.alike hK9, hD9⟩, hS.F ht⟩) hS.2.2 dX6_endOfPattern_229
          · have tk_8 := c_nlt (a := sp.toInt) (b := 24) rfl (by decide) k_8
            refine lv_aload_n hx hb dX6_endOfPattern_53 rfl (lv_at hl 5 rfl) ?_
            refine lv_iconst (v := 4) hx hb dX6_endOfPattern_54 (by decide) ?_
            refine lv_iload hx hb dX6_endOfPattern_55 (lv_at hl 1 rfl) ?_
            have hPc := hP.sub (ws' := [(rd, .inr (6, rF r fa fb a2 a3 a4 a5 a6 a7))]) [0] rfl
            have hKc := hK.sub (tys' := []) [] rfl
            have hDc := hD.sub (ws' := [(rd, .inr (6, rF r fa fb a2 a3 a4 a5 a6 a7))]) [0] (by decide) rfl
            have hFc := va_free (wc := [(rd, .inr (6, rF r fa fb a2 a3 a4 a5 a6 a7))]) hD hS hA [0] rfl
            refine va_callv (va_runV (As := [.int 4, .int ax]) (rest := []) ⟨hx, hb, hml, hown, hts⟩ (s_fail l dC dI rd r fa fb a2 a3 a4 a5 a6 a7 H.size 4 ax) (cwV 2 hts mg_X6_endOfPattern_X6_fail_71 rfl rfl rfl (by decide +kernel) ⟨Nat.le_of_ble_eq_true rfl, Nat.le_of_ble_eq_true rfl⟩) ⟨fun a U g mk q => by obtain ⟨q0, q1, qP, qK, qD⟩ := q; exact ⟨q0, q1, qP, va_K.moved (u := U) (U := U.calling g mk a) (Vm.Alike.refl U.vm) qK, qD⟩, va_recv hKc hPc (ci := 6) (q0 := 0) rfl rfl, fun U hU hW => ⟨rfl, by rw [hU], by rw [hU]; exact hPc, va_K.moved hW.alike hKc, hDc.weaken (fun _ _ _ _ => trivial)⟩⟩ rfl rfl hl.1 rfl (lv_room (Nat.le_of_ble_eq_true rfl)) dX6_endOfPattern_57 ⟨Nat.le_of_ble_eq_true rfl, Nat.le_of_ble_eq_true rfl⟩) hS (fun q _ h => hFc q h) hFc (fun u t H1 locs ht hvm hw hB hz1 hk1 hS => ?_)
            obtain ⟨hP1, hK1, hD1⟩ := hB
            rw [ht] at hP1
            obtain ⟨hP, hD⟩ := va_join (wr := [(ta, .inl (cT, nb, .inl ft))]) (w1 := [(rd, .inr (6, rF r 4 ax a2 a3 a4 a5 a6 a7))]) hP hD [0] [1] rfl rfl (by decide) (by decide) hk1 hFc hP1 hD1
            generalize H1 = H at hP hS ⊢
            have hP : va_P (dC, dI) vwCl [(ta, .inl (cT, nb, .inl ft)), (rd, .inr (6, rF r 4 ax a2 a3 a4 a5 a6 a7))] H := hP
            have hD : va_D A [(ta, .inl (cT, nb, .inl ft)), (rd, .inr (6, rF r 4 ax a2 a3 a4 a5 a6 a7))] := hD
            obtain ⟨y_29, ey_29⟩ : ∃ y : Int32, y = sp + 1 := ⟨_, rfl⟩
            first | have ty_29 := i_add (a := sp.toInt) (b := 1) rfl (by decide) ey_29 (by omega) (by omega) | skip
            refine lv_iinc (v := y_29) (lv' := [(4, .int y_29), (8, .int y_4), (7, .int ax), (6, .int sd), (5, .int op), (0, .ref rd), (1, .ref ta), (2, .int i8), (3, .int i9)]) hx hb dX6_endOfPattern_60 hl (k := 4) rfl (by rw [ey_29]; rfl) (by decide) rfl (fun ls hl => ?_)
            refine lv_iconst (v := 1) hx hb dX6_endOfPattern_63 (by decide) ?_
            refine lv_istore (lv' := [(6, .int 1), (4, .int y_29), (8, .int y_4), (7, .int ax), (5, .int op), (0, .ref rd), (1, .ref ta), (2, .int i8), (3, .int i9)]) hx hb dX6_endOfPattern_64 hl (by decide) rfl (fun ls hl => ?_)
            refine lv_iload hx hb dX6_endOfPattern_66 (lv_at hl 2 rfl) ?_
            refine lv_bipush (v := 91) hx hb dX6_endOfPattern_68 (by decide) ?_
            refine lv_icmp_ne (tgt := 220) hx hb dX6_endOfPattern_70 (by decide) (fun k_30 => ?_) (fun k_30 => ?_)
            · have tk_30 := c_ne (a := y_4.toInt) (b := 91) rfl (by decide) k_30
              refine lv_aload_n hx hb dX6_endOfPattern_220 rfl (lv_at hl 5 rfl) ?_
              refine va_get (D := (dC, dI)) (ci := 6) (v := .int 4) (C := RX6) (T := TX6) (N := 11) hx hb hts fin_X6_endOfPattern_X6 hown hK hP 1 rfl rfl 0 (by decide) (hts (.fieldLink RX6 22 "PatternGate$Reader" "faultKind" "I") (List.mem_of_getElem? (i := 2) (by decide +kernel))) (fun _ h9 => h9) rfl dX6_endOfPattern_221 ?_
              refine lv_if_eq (tgt := 230) hx hb dX6_endOfPattern_224 (by decide) (fun k_31 => absurd k_31 (by decide)) (fun k_31 => ?_)
              have tk_31 := c_ne (a := 4) (b := 0) (by decide) (by decide) k_31
              refine lv_iload hx hb dX6_endOfPattern_227 (lv_at hl 3 rfl) ?_
              have hP9 := hP.sub (ws' := [(rd, .inr (6, rF r 4 ax a2 a3 a4 a5 a6 a7)), (ta, .inl (cT, nb, .inl ft))]) [1, 0] rfl
              have hD9 := hD.sub (ws' := [(rd, .inr (6, rF r 4 ax a2 a3 a4 a5 a6 a7)), (ta, .inl (cT, nb, .inl ft))]) [1, 0] (by decide) rfl
              have hK9 := hK.sub (tys' := [(cT, .int)]) [0] rfl
              exact W.iret hx hb hr (fun t ht hW => ⟨⟨_, (), rfl, by omega, 4, ax, by rw [ht]; exact hP9, va_K.moved hW.alike hK9, hD9⟩, hS.F ht⟩) hS.2.2 dX6_endOfPattern_229
            · have tk_30 := c_eq (a := y_4.toInt) (b := 91) rfl (by decide) k_30
              refine lv_aload_n hx hb dX6_endOfPattern_73 rfl (lv_at hl 5 rfl) ?_
              refine va_get (D := (dC, dI)) (ci := 6) (v := .int 4) (C := RX6) (T := TX6) (N := 11) hx hb hts fin_X6_endOfPattern_X6 hown hK hP 1 rfl rfl 0 (by decide) (hts (.fieldLink RX6 22 "PatternGate$Reader" "faultKind" "I") (List.mem_of_getElem? (i := 2) (by decide +kernel))) (fun _ h9 => h9) rfl dX6_endOfPattern_74 ?_
              refine lv_if_ne (tgt := 220) hx hb dX6_endOfPattern_77 (by decide) (fun k_32 => ?_) (fun k_32 => absurd k_32 (by decide))
              have tk_32 := c_ne (a := 4) (b := 0) (by decide) (by decide) k_32
              refine lv_aload_n hx hb dX6_endOfPattern_220 rfl (lv_at hl 5 rfl) ?_
              refine va_get (D := (dC, dI)) (ci := 6) (v := .int 4) (C := RX6) (T := TX6) (N := 11) hx hb hts fin_X6_endOfPattern_X6 hown hK hP 1 rfl rfl 0 (by decide) (hts (.fieldLink RX6 22 "PatternGate$Reader" "faultKind" "I") (List.mem_of_getElem? (i := 2) (by decide +kernel))) (fun _ h9 => h9) rfl dX6_endOfPattern_221 ?_
              refine lv_if_eq (tgt := 230) hx hb dX6_endOfPattern_224 (by decide) (fun k_33 => absurd k_33 (by decide)) (fun k_33 => ?_)
              have tk_33 := c_ne (a := 4) (b := 0) (by decide) (by decide) k_33
              refine lv_iload hx hb dX6_endOfPattern_227 (lv_at hl 3 rfl) ?_
              have hP9 := hP.sub (ws' := [(rd, .inr (6, rF r 4 ax a2 a3 a4 a5 a6 a7)), (ta, .inl (cT, nb, .inl ft))]) [1, 0] rfl
              have hD9 := hD.sub (ws' := [(rd, .inr (6, rF r 4 ax a2 a3 a4 a5 a6 a7)), (ta, .inl (cT, nb, .inl ft))]) [1, 0] (by decide) rfl
              have hK9 := hK.sub (tys' := [(cT, .int)]) [0] rfl
              exact W.iret hx hb hr (fun t ht hW => ⟨⟨_, (), rfl, by omega, 4, ax, by rw [ht]; exact hP9, va_K.moved hW.alike hK9, hD9⟩, hS.F ht⟩) hS.2.2 dX6_endOfPattern_229
        · have tk_7 := c_eq (a := r_6.toInt) (b := 0) rfl (by decide) k_7
          refine lv_iload hx hb dX6_endOfPattern_32 (lv_at hl 0 rfl) ?_
          refine lv_bipush (v := 46) hx hb dX6_endOfPattern_34 (by decide) ?_
          refine lv_icmp_eq (tgt := 46) hx hb dX6_endOfPattern_36 (by decide) (fun k_34 => ?_) (fun k_34 => ?_)
          · have tk_34 := c_eq (a := y_4.toInt) (b := 46) rfl (by decide) k_34
            refine lv_iload hx hb dX6_endOfPattern_46 (lv_at hl 4 rfl) ?_
            refine lv_bipush (v := 24) hx hb dX6_endOfPattern_48 (by decide) ?_
            refine lv_icmp_lt (tgt := 60) hx hb dX6_endOfPattern_50 (by decide) (fun k_35 => ?_) (fun k_35 => ?_)
            · have tk_35 := c_lt (a := sp.toInt) (b := 24) rfl (by decide) k_35
              obtain ⟨y_36, ey_36⟩ : ∃ y : Int32, y = sp + 1 := ⟨_, rfl⟩
              first | have ty_36 := i_add (a := sp.toInt) (b := 1) rfl (by decide) ey_36 (by omega) (by omega) | skip
              refine lv_iinc (v := y_36) (lv' := [(4, .int y_36), (8, .int y_4), (7, .int ax), (6, .int sd), (5, .int op), (0, .ref rd), (1, .ref ta), (2, .int i8), (3, .int i9)]) hx hb dX6_endOfPattern_60 hl (k := 4) rfl (by rw [ey_36]; rfl) (by decide) rfl (fun ls hl => ?_)
              refine lv_iconst (v := 1) hx hb dX6_endOfPattern_63 (by decide) ?_
              refine lv_istore (lv' := [(6, .int 1), (4, .int y_36), (8, .int y_4), (7, .int ax), (5, .int op), (0, .ref rd), (1, .ref ta), (2, .int i8), (3, .int i9)]) hx hb dX6_endOfPattern_64 hl (by decide) rfl (fun ls hl => ?_)
              refine lv_iload hx hb dX6_endOfPattern_66 (lv_at hl 2 rfl) ?_
              refine lv_bipush (v := 91) hx hb dX6_endOfPattern_68 (by decide) ?_
              refine lv_icmp_ne (tgt := 220) hx hb dX6_endOfPattern_70 (by decide) (fun k_37 => ?_) (fun k_37 => ?_)
              · have tk_37 := c_ne (a := y_4.toInt) (b := 91) rfl (by decide) k_37
                refine lv_aload_n hx hb dX6_endOfPattern_220 rfl (lv_at hl 5 rfl) ?_
                refine va_get (D := (dC, dI)) (ci := 6) (v := .int fa) (C := RX6) (T := TX6) (N := 11) hx hb hts fin_X6_endOfPattern_X6 hown hK hP 0 rfl rfl 0 (by decide) (hts (.fieldLink RX6 22 "PatternGate$Reader" "faultKind" "I") (List.mem_of_getElem? (i := 2) (by decide +kernel))) (fun _ h9 => h9) rfl dX6_endOfPattern_221 ?_
                refine lv_if_eq (tgt := 230) hx hb dX6_endOfPattern_224 (by decide) (fun k_38 => ?_) (fun k_38 => ?_)
                · have tk_38 := c_eq (a := fa.toInt) (b := 0) rfl (by decide) k_38
                  obtain ⟨y_39, ey_39⟩ : ∃ y : Int32, y = ax + 1 := ⟨_, rfl⟩
                  first | have ty_39 := i_add (a := ax.toInt) (b := 1) rfl (by decide) ey_39 (by omega) (by omega) | skip
                  refine lv_iinc (v := y_39) (lv' := [(7, .int y_39), (6, .int 1), (4, .int y_36), (8, .int y_4), (5, .int op), (0, .ref rd), (1, .ref ta), (2, .int i8), (3, .int i9)]) hx hb dX6_endOfPattern_230 hl (k := 3) rfl (by rw [ey_39]; rfl) (by decide) rfl (fun ls hl => ?_)
                  refine lv_goto (tgt := 12) hx hb dX6_endOfPattern_233 (by decide) ?_
                  have lit_39 : (1 : Int32).toInt = 1 := by decide
                  exact ih12 y_36 op 1 y_39 fa fb (by first | omega | decide | assumption) (by first | omega | decide | assumption) (by omega) _ _ ls hP hD hS (lv_sub hl [0, 1, 4, 2, 5, 6, 7, 8] rfl)
                · have tk_38 := c_ne (a := fa.toInt) (b := 0) rfl (by decide) k_38
                  refine lv_iload hx hb dX6_endOfPattern_227 (lv_at hl 3 rfl) ?_
                  have hP9 := hP.sub (ws' := [(rd, .inr (6, rF r fa fb a2 a3 a4 a5 a6 a7)), (ta, .inl (cT, nb, .inl ft))]) [0, 1] rfl
                  have hD9 := hD.sub (ws' := [(rd, .inr (6, rF r fa fb a2 a3 a4 a5 a6 a7)), (ta, .inl (cT, nb, .inl ft))]) [0, 1] (by decide) rfl
                  have hK9 := hK.sub (tys' := [(cT, .int)]) [0] rfl
                  exact W.iret hx hb hr (fun t ht hW => ⟨⟨_, (), rfl, by omega, fa, fb, by rw [ht]; exact hP9, va_K.moved hW.alike hK9, hD9⟩, hS.F ht⟩) hS.2.2 dX6_endOfPattern_229
              · have tk_37 := c_eq (a := y_4.toInt) (b := 91) rfl (by decide) k_37
                refine lv_aload_n hx hb dX6_endOfPattern_73 rfl (lv_at hl 5 rfl) ?_
                refine va_get (D := (dC, dI)) (ci := 6) (v := .int fa) (C := RX6) (T := TX6) (N := 11) hx hb hts fin_X6_endOfPattern_X6 hown hK hP 0 rfl rfl 0 (by decide) (hts (.fieldLink RX6 22 "PatternGate$Reader" "faultKind" "I") (List.mem_of_getElem? (i := 2) (by decide +kernel))) (fun _ h9 => h9) rfl dX6_endOfPattern_74 ?_
                refine lv_if_ne (tgt := 220) hx hb dX6_endOfPattern_77 (by decide) (fun k_41 => ?_) (fun k_41 => ?_)
                · have tk_41 := c_ne (a := fa.toInt) (b := 0) rfl (by decide) k_41
                  refine lv_aload_n hx hb dX6_endOfPattern_220 rfl (lv_at hl 5 rfl) ?_
                  refine va_get (D := (dC, dI)) (ci := 6) (v := .int fa) (C := RX6) (T := TX6) (N := 11) hx hb hts fin_X6_endOfPattern_X6 hown hK hP 0 rfl rfl 0 (by decide) (hts (.fieldLink RX6 22 "PatternGate$Reader" "faultKind" "I") (List.mem_of_getElem? (i := 2) (by decide +kernel))) (fun _ h9 => h9) rfl dX6_endOfPattern_221 ?_
                  refine lv_if_eq (tgt := 230) hx hb dX6_endOfPattern_224 (by decide) (fun k_42 => ?_) (fun k_42 => ?_)
                  · have tk_42 := c_eq (a := fa.toInt) (b := 0) rfl (by decide) k_42
                    obtain ⟨y_43, ey_43⟩ : ∃ y : Int32, y = ax + 1 := ⟨_, rfl⟩
                    first | have ty_43 := i_add (a := ax.toInt) (b := 1) rfl (by decide) ey_43 (by omega) (by omega) | skip
                    refine lv_iinc (v := y_43) (lv' := [(7, .int y_43), (6, .int 1), (4, .int y_36), (8, .int y_4), (5, .int op), (0, .ref rd), (1, .ref ta), (2, .int i8), (3, .int i9)]) hx hb dX6_endOfPattern_230 hl (k := 3) rfl (by rw [ey_43]; rfl) (by decide) rfl (fun ls hl => ?_)
                    refine lv_goto (tgt := 12) hx hb dX6_endOfPattern_233 (by decide) ?_
                    have lit_43 : (1 : Int32).toInt = 1 := by decide
                    exact ih12 y_36 op 1 y_43 fa fb (by first | omega | decide | assumption) (by first | omega | decide | assumption) (by omega) _ _ ls hP hD hS (lv_sub hl [0, 1, 4, 2, 5, 6, 7, 8] rfl)
                  · have tk_42 := c_ne (a := fa.toInt) (b := 0) rfl (by decide) k_42
                    refine lv_iload hx hb dX6_endOfPattern_227 (lv_at hl 3 rfl) ?_
                    have hP9 := hP.sub (ws' := [(rd, .inr (6, rF r fa fb a2 a3 a4 a5 a6 a7)), (ta, .inl (cT, nb, .inl ft))]) [0, 1] rfl
                    have hD9 := hD.sub (ws' := [(rd, .inr (6, rF r fa fb a2 a3 a4 a5 a6 a7)), (ta, .inl (cT, nb, .inl ft))]) [0, 1] (by decide) rfl
                    have hK9 := hK.sub (tys' := [(cT, .int)]) [0] rfl
                    exact W.iret hx hb hr (fun t ht hW => ⟨⟨_, (), rfl, by omega, fa, fb, by rw [ht]; exact hP9, va_K.moved hW.alike hK9, hD9⟩, hS.F ht⟩) hS.2.2 dX6_endOfPattern_229
                · have tk_41 := c_eq (a := fa.toInt) (b := 0) rfl (by decide) k_41
                  refine lv_iload hx hb dX6_endOfPattern_80 (lv_at hl 3 rfl) ?_
                  refine lv_aload_n hx hb dX6_endOfPattern_82 rfl (lv_at hl 5 rfl) ?_
                  refine lv_aload_n hx hb dX6_endOfPattern_83 rfl (lv_at hl 6 rfl) ?_
                  refine lv_iload hx hb dX6_endOfPattern_84 (lv_at hl 3 rfl) ?_
                  refine lv_iconst (v := 1) hx hb dX6_endOfPattern_86 (by decide) ?_
                  refine lv_iadd hx hb dX6_endOfPattern_87 ?_
                  refine lv_topi (fun y_45 ey_45 => ?_)
                  first | have ty_45 := i_add (a := ax.toInt) (b := 1) rfl (by decide) ey_45 (by omega) (by omega) | skip
                  refine lv_iload_n hx hb dX6_endOfPattern_88 rfl (lv_at hl 8 rfl) ?_
                  have hPc := hP.sub (ws' := [(rd, .inr (6, rF r fa fb a2 a3 a4 a5 a6 a7)), (ta, .inl (cT, nb, .inl ft))]) [0, 1] rfl
                  have hKc := hK.sub (tys' := [(cT, .int)]) [0] rfl
                  have hDc := hD.sub (ws' := [(rd, .inr (6, rF r fa fb a2 a3 a4 a5 a6 a7)), (ta, .inl (cT, nb, .inl ft))]) [0, 1] (by decide) rfl
                  have hFc := va_free (wc := [(rd, .inr (6, rF r fa fb a2 a3 a4 a5 a6 a7)), (ta, .inl (cT, nb, .inl ft))]) hD hS hA [0, 1] rfl
                  refine va_calli (va_runV (As := [.ref ta, .int y_45, .int i9]) (rest := [.int ax]) ⟨hx, hb, hml, hown, hts⟩ (s_endOfSet l dC dI rd r fa fb a2 a3 a4 a5 a6 a7 ta nb cT ft H.size y_45 i9 (by first | omega | decide | (have l0 := Int32.toInt_zero; omega)) (by first | omega | decide | (have l0 := Int32.toInt_zero; omega)) (by first | omega | decide | (have l0 := Int32.toInt_zero; omega)) (by first | omega | decide | (have l0 := Int32.toInt_zero; omega))) (cwV 3 hts mg_X6_endOfPattern_X6_endOfSet_99 rfl rfl rfl (by decide +kernel) ⟨Nat.le_of_ble_eq_true rfl, Nat.le_of_ble_eq_true rfl⟩) ⟨fun a U g mk q => by obtain ⟨q0, q1, qP, qK, qD, qE0⟩ := q; exact ⟨q0, q1, qP, va_K.moved (u := U) (U := U.calling g mk a) (Vm.Alike.refl U.vm) qK, qD, va_Nw.same rfl (rfl : U.vm = (U.calling g mk a).vm) qE0⟩, va_recv hKc hPc (ci := 6) (q0 := 0) rfl rfl, fun U hU hW => ⟨rfl, by rw [hU], by rw [hU]; exact hPc, va_K.moved hW.alike hKc, hDc.weaken (fun _ _ _ _ => trivial), va_Nw.warmM hW hN53⟩⟩ rfl rfl hl.1 rfl (lv_room (Nat.le_of_ble_eq_true rfl)) dX6_endOfPattern_89 ⟨Nat.le_of_ble_eq_true rfl, Nat.le_of_ble_eq_true rfl⟩) hS (fun q _ h => hFc q h) hFc (fun r_47 u t H1 locs ht hvm hw hB hz1 hk1 hS => ?_)
                  obtain ⟨y_48, y_49, hP1, hK1, hD1⟩ := hB
                  rw [ht] at hP1
                  have hr_47 := hw
                  have rg_r_47 := i_rng r_47
                  obtain ⟨hP, hD⟩ := va_join (wr := []) (w1 := [(rd, .inr (6, rF r y_48 y_49 a2 a3 a4 a5 a6 a7)), (ta, .inl (cT, nb, .inl ft))]) hP hD [0, 1] [] rfl rfl (by decide) (by decide) hk1 hFc hP1 hD1
                  generalize H1 = H at hP hS ⊢
                  have hP : va_P (dC, dI) vwCl [(rd, .inr (6, rF r y_48 y_49 a2 a3 a4 a5 a6 a7)), (ta, .inl (cT, nb, .inl ft))] H := hP
                  have hD : va_D A [(rd, .inr (6, rF r y_48 y_49 a2 a3 a4 a5 a6 a7)), (ta, .inl (cT, nb, .inl ft))] := hD
                  refine va_mmax hx hb (hml.trans hl.1.symm) hown (hts (.methodLink RX6 61 Lib.Math.max.name) (List.mem_of_getElem? (i := 15) (by decide +kernel))) (hts (.static Lib.Math.max.name) (List.mem_of_getElem? (i := 16) (by decide +kernel))) (hts (.initialized "java/lang/Math") (List.mem_of_getElem? (i := 17) (by decide +kernel))) (hts (.code Lib.Math.max.name Lib.Math.max.code 2 (some .int)) (List.mem_of_getElem? (i := 18) (by decide +kernel))) (Nat.le_of_ble_eq_true rfl) (Nat.le_of_ble_eq_true rfl) (Nat.le_of_ble_eq_true rfl) (Nat.le_of_ble_eq_true rfl) dX6_endOfPattern_92 ?_
                  refine lv_topi (fun y_50 ey_50 => ?_)
                  have ty_50 := i_max (a := ax.toInt) (b := r_47.toInt) rfl rfl ey_50
                  refine lv_istore (lv' := [(7, .int y_50), (6, .int 1), (4, .int y_36), (8, .int y_4), (5, .int op), (0, .ref rd), (1, .ref ta), (2, .int i8), (3, .int i9)]) hx hb dX6_endOfPattern_95 hl (by decide) rfl (fun ls hl => ?_)
                  refine lv_goto (tgt := 220) hx hb dX6_endOfPattern_97 (by decide) ?_
                  refine lv_aload_n hx hb dX6_endOfPattern_220 rfl (lv_at hl 5 rfl) ?_
                  refine va_get (D := (dC, dI)) (ci := 6) (v := .int y_48) (C := RX6) (T := TX6) (N := 11) hx hb hts fin_X6_endOfPattern_X6 hown hK hP 0 rfl rfl 0 (by decide) (hts (.fieldLink RX6 22 "PatternGate$Reader" "faultKind" "I") (List.mem_of_getElem? (i := 2) (by decide +kernel))) (fun _ h9 => h9) rfl dX6_endOfPattern_221 ?_
                  refine lv_if_eq (tgt := 230) hx hb dX6_endOfPattern_224 (by decide) (fun k_51 => ?_) (fun k_51 => ?_)
                  · have tk_51 := c_eq (a := y_48.toInt) (b := 0) rfl (by decide) k_51
                    obtain ⟨y_52, ey_52⟩ : ∃ y : Int32, y = y_50 + 1 := ⟨_, rfl⟩
                    first | have ty_52 := i_add (a := y_50.toInt) (b := 1) rfl (by decide) ey_52 (by omega) (by omega) | skip
                    refine lv_iinc (v := y_52) (lv' := [(7, .int y_52), (6, .int 1), (4, .int y_36), (8, .int y_4), (5, .int op), (0, .ref rd), (1, .ref ta), (2, .int i8), (3, .int i9)]) hx hb dX6_endOfPattern_230 hl (k := 0) rfl (by rw [ey_52]; rfl) (by decide) rfl (fun ls hl => ?_)
                    refine lv_goto (tgt := 12) hx hb dX6_endOfPattern_233 (by decide) ?_
                    have lit_52 : (1 : Int32).toInt = 1 := by decide
                    exact ih12 y_36 op 1 y_52 y_48 y_49 (by first | omega | decide | assumption) (by first | omega | decide | assumption) (by omega) _ _ ls hP hD hS (lv_sub hl [0, 1, 4, 2, 5, 6, 7, 8] rfl)
                  · have tk_51 := c_ne (a := y_48.toInt) (b := 0) rfl (by decide) k_51
                    refine lv_iload hx hb dX6_endOfPattern_227 (lv_at hl 0 rfl) ?_
                    have hP9 := hP.sub (ws' := [(rd, .inr (6, rF r y_48 y_49 a2 a3 a4 a5 a6 a7)), (ta, .inl (cT, nb, .inl ft))]) [0, 1] rfl
                    have hD9 := hD.sub (ws' := [(rd, .inr (6, rF r y_48 y_49 a2 a3 a4 a5 a6 a7)), (ta, .inl (cT, nb, .inl ft))]) [0, 1] (by decide) rfl
                    have hK9 := hK.sub (tys' := [(cT, .int)]) [0] rfl
                    exact W.iret hx hb hr (fun t ht hW => ⟨⟨_, (), rfl, by omega, y_48, y_49, by rw [ht]; exact hP9, va_K.moved hW.alike hK9, hD9⟩, hS.F ht⟩) hS.2.2 dX6_endOfPattern_229
            · have tk_35 := c_nlt (a := sp.toInt) (b := 24) rfl (by decide) k_35
              refine lv_aload_n hx hb dX6_endOfPattern_53 rfl (lv_at hl 5 rfl) ?_
              refine lv_iconst (v := 4) hx hb dX6_endOfPattern_54 (by decide) ?_
              refine lv_iload hx hb dX6_endOfPattern_55 (lv_at hl 1 rfl) ?_
              have hPc := hP.sub (ws' := [(rd, .inr (6, rF r fa fb a2 a3 a4 a5 a6 a7))]) [0] rfl
              have hKc := hK.sub (tys' := []) [] rfl
              have hDc := hD.sub (ws' := [(rd, .inr (6, rF r fa fb a2 a3 a4 a5 a6 a7))]) [0] (by decide) rfl
              have hFc := va_free (wc := [(rd, .inr (6, rF r fa fb a2 a3 a4 a5 a6 a7))]) hD hS hA [0] rfl
              refine va_callv (va_runV (As := [.int 4, .int ax]) (rest := []) ⟨hx, hb, hml, hown, hts⟩ (s_fail l dC dI rd r fa fb a2 a3 a4 a5 a6 a7 H.size 4 ax) (cwV 2 hts mg_X6_endOfPattern_X6_fail_71 rfl rfl rfl (by decide +kernel) ⟨Nat.le_of_ble_eq_true rfl, Nat.le_of_ble_eq_true rfl⟩) ⟨fun a U g mk q => by obtain ⟨q0, q1, qP, qK, qD⟩ := q; exact ⟨q0, q1, qP, va_K.moved (u := U) (U := U.calling g mk a) (Vm.Alike.refl U.vm) qK, qD⟩, va_recv hKc hPc (ci := 6) (q0 := 0) rfl rfl, fun U hU hW => ⟨rfl, by rw [hU], by rw [hU]; exact hPc, va_K.moved hW.alike hKc, hDc.weaken (fun _ _ _ _ => trivial)⟩⟩ rfl rfl hl.1 rfl (lv_room (Nat.le_of_ble_eq_true rfl)) dX6_endOfPattern_57 ⟨Nat.le_of_ble_eq_true rfl, Nat.le_of_ble_eq_true rfl⟩) hS (fun q _ h => hFc q h) hFc (fun u t H1 locs ht hvm hw hB hz1 hk1 hS => ?_)
              obtain ⟨hP1, hK1, hD1⟩ := hB
              rw [ht] at hP1
              obtain ⟨hP, hD⟩ := va_join (wr := [(ta, .inl (cT, nb, .inl ft))]) (w1 := [(rd, .inr (6, rF r 4 ax a2 a3 a4 a5 a6 a7))]) hP hD [0] [1] rfl rfl (by decide) (by decide) hk1 hFc hP1 hD1
              generalize H1 = H at hP hS ⊢
              have hP : va_P (dC, dI) vwCl [(ta, .inl (cT, nb, .inl ft)), (rd, .inr (6, rF r 4 ax a2 a3 a4 a5 a6 a7))] H := hP
              have hD : va_D A [(ta, .inl (cT, nb, .inl ft)), (rd, .inr (6, rF r 4 ax a2 a3 a4 a5 a6 a7))] := hD
              obtain ⟨y_56, ey_56⟩ : ∃ y : Int32, y = sp + 1 := ⟨_, rfl⟩
              first | have ty_56 := i_add (a := sp.toInt) (b := 1) rfl (by decide) ey_56 (by omega) (by omega) | skip
              refine lv_iinc (v := y_56) (lv' := [(4, .int y_56), (8, .int y_4), (7, .int ax), (6, .int sd), (5, .int op), (0, .ref rd), (1, .ref ta), (2, .int i8), (3, .int i9)]) hx hb dX6_endOfPattern_60 hl (k := 4) rfl (by rw [ey_56]; rfl) (by decide) rfl (fun ls hl => ?_)
              refine lv_iconst (v := 1) hx hb dX6_endOfPattern_63 (by decide) ?_
              refine lv_istore (lv' := [(6, .int 1), (4, .int y_56), (8, .int y_4), (7, .int ax), (5, .int op), (0, .ref rd), (1, .ref ta), (2, .int i8), (3, .int i9)]) hx hb dX6_endOfPattern_64 hl (by decide) rfl (fun ls hl => ?_)
              refine lv_iload hx hb dX6_endOfPattern_66 (lv_at hl 2 rfl) ?_
              refine lv_bipush (v := 91) hx hb dX6_endOfPattern_68 (by decide) ?_
              refine lv_icmp_ne (tgt := 220) hx hb dX6_endOfPattern_70 (by decide) (fun k_57 => ?_) (fun k_57 => ?_)
              · have tk_57 := c_ne (a := y_4.toInt) (b := 91) rfl (by decide) k_57
                refine lv_aload_n hx hb dX6_endOfPattern_220 rfl (lv_at hl 5 rfl) ?_
                refine va_get (D := (dC, dI)) (ci := 6) (v := .int 4) (C := RX6) (T := TX6) (N := 11) hx hb hts fin_X6_endOfPattern_X6 hown hK hP 1 rfl rfl 0 (by decide) (hts (.fieldLink RX6 22 "PatternGate$Reader" "faultKind" "I") (List.mem_of_getElem? (i := 2) (by decide +kernel))) (fun _ h9 => h9) rfl dX6_endOfPattern_221 ?_
                refine lv_if_eq (tgt := 230) hx hb dX6_endOfPattern_224 (by decide) (fun k_58 => absurd k_58 (by decide)) (fun k_58 => ?_)
                have tk_58 := c_ne (a := 4) (b := 0) (by decide) (by decide) k_58
                refine lv_iload hx hb dX6_endOfPattern_227 (lv_at hl 3 rfl) ?_
                have hP9 := hP.sub (ws' := [(rd, .inr (6, rF r 4 ax a2 a3 a4 a5 a6 a7)), (ta, .inl (cT, nb, .inl ft))]) [1, 0] rfl
                have hD9 := hD.sub (ws' := [(rd, .inr (6, rF r 4 ax a2 a3 a4 a5 a6 a7)), (ta, .inl (cT, nb, .inl ft))]) [1, 0] (by decide) rfl
                have hK9 := hK.sub (tys' := [(cT, .int)]) [0] rfl
                exact W.iret hx hb hr (fun t ht hW => ⟨⟨_, (), rfl, by omega, 4, ax, by rw [ht]; exact hP9, va_K.moved hW.alike hK9, hD9⟩, hS.F ht⟩) hS.2.2 dX6_endOfPattern_229
              · have tk_57 := c_eq (a := y_4.toInt) (b := 91) rfl (by decide) k_57
                refine lv_aload_n hx hb dX6_endOfPattern_73 rfl (lv_at hl 5 rfl) ?_
                refine va_get (D := (dC, dI)) (ci := 6) (v := .int 4) (C := RX6) (T := TX6) (N := 11) hx hb hts fin_X6_endOfPattern_X6 hown hK hP 1 rfl rfl 0 (by decide) (hts (.fieldLink RX6 22 "PatternGate$Reader" "faultKind" "I") (List.mem_of_getElem? (i := 2) (by decide +kernel))) (fun _ h9 => h9) rfl dX6_endOfPattern_74 ?_
                refine lv_if_ne (tgt := 220) hx hb dX6_endOfPattern_77 (by decide) (fun k_59 => ?_) (fun k_59 => absurd k_59 (by decide))
                have tk_59 := c_ne (a := 4) (b := 0) (by decide) (by decide) k_59
                refine lv_aload_n hx hb dX6_endOfPattern_220 rfl (lv_at hl 5 rfl) ?_
                refine va_get (D := (dC, dI)) (ci := 6) (v := .int 4) (C := RX6) (T := TX6) (N := 11) hx hb hts fin_X6_endOfPattern_X6 hown hK hP 1 rfl rfl 0 (by decide) (hts (.fieldLink RX6 22 "PatternGate$Reader" "faultKind" "I") (List.mem_of_getElem? (i := 2) (by decide +kernel))) (fun _ h9 => h9) rfl dX6_endOfPattern_221 ?_
                refine lv_if_eq (tgt := 230) hx hb dX6_endOfPattern_224 (by decide) (fun k_60 => absurd k_60 (by decide)) (fun k_60 => ?_)
                have tk_60 := c_ne (a := 4) (b := 0) (by decide) (by decide) k_60
                refine lv_iload hx hb dX6_endOfPattern_227 (lv_at hl 3 rfl) ?_
                have hP9 := hP.sub (ws' := [(rd, .inr (6, rF r 4 ax a2 a3 a4 a5 a6 a7)), (ta, .inl (cT, nb, .inl ft))]) [1, 0] rfl
                have hD9 := hD.sub (ws' := [(rd, .inr (6, rF r 4 ax a2 a3 a4 a5 a6 a7)), (ta, .inl (cT, nb, .inl ft))]) [1, 0] (by decide) rfl
                have hK9 := hK.sub (tys' := [(cT, .int)]) [0] rfl
                exact W.iret hx hb hr (fun t ht hW => ⟨⟨_, (), rfl, by omega, 4, ax, by rw [ht]; exact hP9, va_K.moved hW.alike hK9, hD9⟩, hS.F ht⟩) hS.2.2 dX6_endOfPattern_229
          · have tk_34 := c_ne (a := y_4.toInt) (b := 46) rfl (by decide) k_34
            refine lv_iload hx hb dX6_endOfPattern_39 (lv_at hl 0 rfl) ?_
            refine lv_bipush (v := 91) hx hb dX6_endOfPattern_41 (by decide) ?_
            refine lv_icmp_ne (tgt := 100) hx hb dX6_endOfPattern_43 (by decide) (fun k_61 => ?_) (fun k_61 => ?_)
            · have tk_61 := c_ne (a := y_4.toInt) (b := 91) rfl (by decide) k_61
              refine lv_iload hx hb dX6_endOfPattern_100 (lv_at hl 0 rfl) ?_
              refine lv_bipush (v := 40) hx hb dX6_endOfPattern_102 (by decide) ?_
              refine lv_icmp_ne (tgt := 129) hx hb dX6_endOfPattern_104 (by decide) (fun k_62 => ?_) (fun k_62 => ?_)
              · have tk_62 := c_ne (a := y_4.toInt) (b := 40) rfl (by decide) k_62
                refine lv_iload hx hb dX6_endOfPattern_129 (lv_at hl 0 rfl) ?_
                refine lv_bipush (v := 34) hx hb dX6_endOfPattern_131 (by decide) ?_
                refine lv_icmp_ne (tgt := 149) hx hb dX6_endOfPattern_133 (by decide) (fun k_63 => ?_) (fun k_63 => ?_)
                · have tk_63 := c_ne (a := y_4.toInt) (b := 34) rfl (by decide) k_63
                  refine lv_iload hx hb dX6_endOfPattern_149 (lv_at hl 0 rfl) ?_
                  refine lv_bipush (v := 124) hx hb dX6_endOfPattern_151 (by decide) ?_
                  refine lv_icmp_ne (tgt := 167) hx hb dX6_endOfPattern_153 (by decide) (fun k_64 => ?_) (fun k_64 => ?_)
                  · have tk_64 := c_ne (a := y_4.toInt) (b := 124) rfl (by decide) k_64
                    refine lv_iload hx hb dX6_endOfPattern_167 (lv_at hl 0 rfl) ?_
                    refine lv_bipush (v := 41) hx hb dX6_endOfPattern_169 (by decide) ?_
                    refine lv_icmp_ne (tgt := 193) hx hb dX6_endOfPattern_171 (by decide) (fun k_65 => ?_) (fun k_65 => ?_)
                    · have tk_65 := c_ne (a := y_4.toInt) (b := 41) rfl (by decide) k_65
                      refine lv_iload hx hb dX6_endOfPattern_193 (lv_at hl 0 rfl) ?_
                      refine vp_callSi (W.runS (As := [.int y_4]) (rest := []) ⟨hx, hb, hml, hown, hts⟩ (s_isSign l dC dI y_4) (va_cwS 1 hts mg_X6_endOfPattern_X6_isSign_102 rfl rfl rfl (by decide +kernel) ⟨Nat.le_of_ble_eq_true rfl, Nat.le_of_ble_eq_true rfl⟩) ⟨fun a U g mk q => ⟨q.1, trivial⟩, fun U hU hW => ⟨rfl, trivial⟩⟩ rfl rfl hl.1 rfl (lv_room (Nat.le_of_ble_eq_true rfl)) dX6_endOfPattern_195 ⟨Nat.le_of_ble_eq_true rfl, Nat.le_of_ble_eq_true rfl⟩) (fun r_67 hw => ?_)
                      refine lv_if_eq (tgt := 213) hx hb dX6_endOfPattern_198 (by decide) (fun k_68 => ?_) (fun k_68 => ?_)
                      · have tk_68 := c_eq (a := r_67.toInt) (b := 0) rfl (by decide) k_68
                        refine lv_aload_n hx hb dX6_endOfPattern_213 rfl (lv_at hl 5 rfl) ?_
                        refine lv_iconst (v := 1) hx hb dX6_endOfPattern_214 (by decide) ?_
                        refine lv_iload hx hb dX6_endOfPattern_215 (lv_at hl 1 rfl) ?_
                        have hPc := hP.sub (ws' := [(rd, .inr (6, rF r fa fb a2 a3 a4 a5 a6 a7))]) [0] rfl
                        have hKc := hK.sub (tys' := []) [] rfl
                        have hDc := hD.sub (ws' := [(rd, .inr (6, rF r fa fb a2 a3 a4 a5 a6 a7))]) [0] (by decide) rfl
                        have hFc := va_free (wc := [(rd, .inr (6, rF r fa fb a2 a3 a4 a5 a6 a7))]) hD hS hA [0] rfl
                        refine va_callv (va_runV (As := [.int 1, .int ax]) (rest := []) ⟨hx, hb, hml, hown, hts⟩ (s_fail l dC dI rd r fa fb a2 a3 a4 a5 a6 a7 H.size 1 ax) (cwV 2 hts mg_X6_endOfPattern_X6_fail_71 rfl rfl rfl (by decide +kernel) ⟨Nat.le_of_ble_eq_true rfl, Nat.le_of_ble_eq_true rfl⟩) ⟨fun a U g mk q => by obtain ⟨q0, q1, qP, qK, qD⟩ := q; exact ⟨q0, q1, qP, va_K.moved (u := U) (U := U.calling g mk a) (Vm.Alike.refl U.vm) qK, qD⟩, va_recv hKc hPc (ci := 6) (q0 := 0) rfl rfl, fun U hU hW => ⟨rfl, by rw [hU], by rw [hU]; exact hPc, va_K.moved hW.alike hKc, hDc.weaken (fun _ _ _ _ => trivial)⟩⟩ rfl rfl hl.1 rfl (lv_room (Nat.le_of_ble_eq_true rfl)) dX6_endOfPattern_217 ⟨Nat.le_of_ble_eq_true rfl, Nat.le_of_ble_eq_true rfl⟩) hS (fun q _ h => hFc q h) hFc (fun u t H1 locs ht hvm hw hB hz1 hk1 hS => ?_)
                        obtain ⟨hP1, hK1, hD1⟩ := hB
                        rw [ht] at hP1
                        obtain ⟨hP, hD⟩ := va_join (wr := [(ta, .inl (cT, nb, .inl ft))]) (w1 := [(rd, .inr (6, rF r 1 ax a2 a3 a4 a5 a6 a7))]) hP hD [0] [1] rfl rfl (by decide) (by decide) hk1 hFc hP1 hD1
                        generalize H1 = H at hP hS ⊢
                        have hP : va_P (dC, dI) vwCl [(ta, .inl (cT, nb, .inl ft)), (rd, .inr (6, rF r 1 ax a2 a3 a4 a5 a6 a7))] H := hP
                        have hD : va_D A [(ta, .inl (cT, nb, .inl ft)), (rd, .inr (6, rF r 1 ax a2 a3 a4 a5 a6 a7))] := hD
                        refine lv_aload_n hx hb dX6_endOfPattern_220 rfl (lv_at hl 5 rfl) ?_
                        refine va_get (D := (dC, dI)) (ci := 6) (v := .int 1) (C := RX6) (T := TX6) (N := 11) hx hb hts fin_X6_endOfPattern_X6 hown hK hP 1 rfl rfl 0 (by decide) (hts (.fieldLink RX6 22 "PatternGate$Reader" "faultKind" "I") (List.mem_of_getElem? (i := 2) (by decide +kernel))) (fun _ h9 => h9) rfl dX6_endOfPattern_221 ?_
                        refine lv_if_eq (tgt := 230) hx hb dX6_endOfPattern_224 (by decide) (fun k_71 => absurd k_71 (by decide)) (fun k_71 => ?_)
                        have tk_71 := c_ne (a := 1) (b := 0) (by decide) (by decide) k_71
                        refine lv_iload hx hb dX6_endOfPattern_227 (lv_at hl 1 rfl) ?_
                        have hP9 := hP.sub (ws' := [(rd, .inr (6, rF r 1 ax a2 a3 a4 a5 a6 a7)), (ta, .inl (cT, nb, .inl ft))]) [1, 0] rfl
                        have hD9 := hD.sub (ws' := [(rd, .inr (6, rF r 1 ax a2 a3 a4 a5 a6 a7)), (ta, .inl (cT, nb, .inl ft))]) [1, 0] (by decide) rfl
                        have hK9 := hK.sub (tys' := [(cT, .int)]) [0] rfl
                        exact W.iret hx hb hr (fun t ht hW => ⟨⟨_, (), rfl, by omega, 1, ax, by rw [ht]; exact hP9, va_K.moved hW.alike hK9, hD9⟩, hS.F ht⟩) hS.2.2 dX6_endOfPattern_229
                      · have tk_68 := c_ne (a := r_67.toInt) (b := 0) rfl (by decide) k_68
                        refine lv_iload hx hb dX6_endOfPattern_201 (lv_at hl 2 rfl) ?_
                        refine lv_iconst (v := 1) hx hb dX6_endOfPattern_203 (by decide) ?_
                        refine lv_icmp_ne (tgt := 213) hx hb dX6_endOfPattern_204 (by decide) (fun k_72 => ?_) (fun k_72 => ?_)
                        · have tk_72 := c_ne (a := sd.toInt) (b := 1) rfl (by decide) k_72
                          refine lv_aload_n hx hb dX6_endOfPattern_213 rfl (lv_at hl 5 rfl) ?_
                          refine lv_iconst (v := 1) hx hb dX6_endOfPattern_214 (by decide) ?_
                          refine lv_iload hx hb dX6_endOfPattern_215 (lv_at hl 1 rfl) ?_
                          have hPc := hP.sub (ws' := [(rd, .inr (6, rF r fa fb a2 a3 a4 a5 a6 a7))]) [0] rfl
                          have hKc := hK.sub (tys' := []) [] rfl
                          have hDc := hD.sub (ws' := [(rd, .inr (6, rF r fa fb a2 a3 a4 a5 a6 a7))]) [0] (by decide) rfl
                          have hFc := va_free (wc := [(rd, .inr (6, rF r fa fb a2 a3 a4 a5 a6 a7))]) hD hS hA [0] rfl
                          refine va_callv (va_runV (As := [.int 1, .int ax]) (rest := []) ⟨hx, hb, hml, hown, hts⟩ (s_fail l dC dI rd r fa fb a2 a3 a4 a5 a6 a7 H.size 1 ax) (cwV 2 hts mg_X6_endOfPattern_X6_fail_71 rfl rfl rfl (by decide +kernel) ⟨Nat.le_of_ble_eq_true rfl, Nat.le_of_ble_eq_true rfl⟩) ⟨fun a U g mk q => by obtain ⟨q0, q1, qP, qK, qD⟩ := q; exact ⟨q0, q1, qP, va_K.moved (u := U) (U := U.calling g mk a) (Vm.Alike.refl U.vm) qK, qD⟩, va_recv hKc hPc (ci := 6) (q0 := 0) rfl rfl, fun U hU hW => ⟨rfl, by rw [hU], by rw [hU]; exact hPc, va_K.moved hW.alike hKc, hDc.weaken (fun _ _ _ _ => trivial)⟩⟩ rfl rfl hl.1 rfl (lv_room (Nat.le_of_ble_eq_true rfl)) dX6_endOfPattern_217 ⟨Nat.le_of_ble_eq_true rfl, Nat.le_of_ble_eq_true rfl⟩) hS (fun q _ h => hFc q h) hFc (fun u t H1 locs ht hvm hw hB hz1 hk1 hS => ?_)
                          obtain ⟨hP1, hK1, hD1⟩ := hB
                          rw [ht] at hP1
                          obtain ⟨hP, hD⟩ := va_join (wr := [(ta, .inl (cT, nb, .inl ft))]) (w1 := [(rd, .inr (6, rF r 1 ax a2 a3 a4 a5 a6 a7))]) hP hD [0] [1] rfl rfl (by decide) (by decide) hk1 hFc hP1 hD1
                          generalize H1 = H at hP hS ⊢
                          have hP : va_P (dC, dI) vwCl [(ta, .inl (cT, nb, .inl ft)), (rd, .inr (6, rF r 1 ax a2 a3 a4 a5 a6 a7))] H := hP
                          have hD : va_D A [(ta, .inl (cT, nb, .inl ft)), (rd, .inr (6, rF r 1 ax a2 a3 a4 a5 a6 a7))] := hD
                          refine lv_aload_n hx hb dX6_endOfPattern_220 rfl (lv_at hl 5 rfl) ?_
                          refine va_get (D := (dC, dI)) (ci := 6) (v := .int 1) (C := RX6) (T := TX6) (N := 11) hx hb hts fin_X6_endOfPattern_X6 hown hK hP 1 rfl rfl 0 (by decide) (hts (.fieldLink RX6 22 "PatternGate$Reader" "faultKind" "I") (List.mem_of_getElem? (i := 2) (by decide +kernel))) (fun _ h9 => h9) rfl dX6_endOfPattern_221 ?_
                          refine lv_if_eq (tgt := 230) hx hb dX6_endOfPattern_224 (by decide) (fun k_75 => absurd k_75 (by decide)) (fun k_75 => ?_)
                          have tk_75 := c_ne (a := 1) (b := 0) (by decide) (by decide) k_75
                          refine lv_iload hx hb dX6_endOfPattern_227 (lv_at hl 1 rfl) ?_
                          have hP9 := hP.sub (ws' := [(rd, .inr (6, rF r 1 ax a2 a3 a4 a5 a6 a7)), (ta, .inl (cT, nb, .inl ft))]) [1, 0] rfl
                          have hD9 := hD.sub (ws' := [(rd, .inr (6, rF r 1 ax a2 a3 a4 a5 a6 a7)), (ta, .inl (cT, nb, .inl ft))]) [1, 0] (by decide) rfl
                          have hK9 := hK.sub (tys' := [(cT, .int)]) [0] rfl
                          exact W.iret hx hb hr (fun t ht hW => ⟨⟨_, (), rfl, by omega, 1, ax, by rw [ht]; exact hP9, va_K.moved hW.alike hK9, hD9⟩, hS.F ht⟩) hS.2.2 dX6_endOfPattern_229
                        · have tk_72 := c_eq (a := sd.toInt) (b := 1) rfl (by decide) k_72
                          refine lv_iconst (v := 2) hx hb dX6_endOfPattern_207 (by decide) ?_
                          refine lv_istore (lv' := [(6, .int 2), (8, .int y_4), (7, .int ax), (5, .int op), (4, .int sp), (0, .ref rd), (1, .ref ta), (2, .int i8), (3, .int i9)]) hx hb dX6_endOfPattern_208 hl (by decide) rfl (fun ls hl => ?_)
                          refine lv_goto (tgt := 220) hx hb dX6_endOfPattern_210 (by decide) ?_
                          refine lv_aload_n hx hb dX6_endOfPattern_220 rfl (lv_at hl 5 rfl) ?_
                          refine va_get (D := (dC, dI)) (ci := 6) (v := .int fa) (C := RX6) (T := TX6) (N := 11) hx hb hts fin_X6_endOfPattern_X6 hown hK hP 0 rfl rfl 0 (by decide) (hts (.fieldLink RX6 22 "PatternGate$Reader" "faultKind" "I") (List.mem_of_getElem? (i := 2) (by decide +kernel))) (fun _ h9 => h9) rfl dX6_endOfPattern_221 ?_
                          refine lv_if_eq (tgt := 230) hx hb dX6_endOfPattern_224 (by decide) (fun k_76 => ?_) (fun k_76 => ?_)
                          · have tk_76 := c_eq (a := fa.toInt) (b := 0) rfl (by decide) k_76
                            obtain ⟨y_77, ey_77⟩ : ∃ y : Int32, y = ax + 1 := ⟨_, rfl⟩
                            first | have ty_77 := i_add (a := ax.toInt) (b := 1) rfl (by decide) ey_77 (by omega) (by omega) | skip
                            refine lv_iinc (v := y_77) (lv' := [(7, .int y_77), (6, .int 2), (8, .int y_4), (5, .int op), (4, .int sp), (0, .ref rd), (1, .ref ta), (2, .int i8), (3, .int i9)]) hx hb dX6_endOfPattern_230 hl (k := 2) rfl (by rw [ey_77]; rfl) (by decide) rfl (fun ls hl => ?_)
                            refine lv_goto (tgt := 12) hx hb dX6_endOfPattern_233 (by decide) ?_
                            have lit_77 : (2 : Int32).toInt = 2 := by decide
                            exact ih12 sp op 2 y_77 fa fb (by first | omega | decide | assumption) (by first | omega | decide | assumption) (by omega) _ _ ls hP hD hS (lv_sub hl [0, 1, 3, 4, 5, 6, 7, 8] rfl)
                          · have tk_76 := c_ne (a := fa.toInt) (b := 0) rfl (by decide) k_76
                            refine lv_iload hx hb dX6_endOfPattern_227 (lv_at hl 2 rfl) ?_
                            have hP9 := hP.sub (ws' := [(rd, .inr (6, rF r fa fb a2 a3 a4 a5 a6 a7)), (ta, .inl (cT, nb, .inl ft))]) [0, 1] rfl
                            have hD9 := hD.sub (ws' := [(rd, .inr (6, rF r fa fb a2 a3 a4 a5 a6 a7)), (ta, .inl (cT, nb, .inl ft))]) [0, 1] (by decide) rfl
                            have hK9 := hK.sub (tys' := [(cT, .int)]) [0] rfl
                            exact W.iret hx hb hr (fun t ht hW => ⟨⟨_, (), rfl, by omega, fa, fb, by rw [ht]; exact hP9, va_K.moved hW.alike hK9, hD9⟩, hS.F ht⟩) hS.2.2 dX6_endOfPattern_229
                    · have tk_65 := c_eq (a := y_4.toInt) (b := 41) rfl (by decide) k_65
                      refine lv_iload hx hb dX6_endOfPattern_174 (lv_at hl 3 rfl) ?_
                      refine lv_if_le (tgt := 193) hx hb dX6_endOfPattern_176 (by decide) (fun k_79 => ?_) (fun k_79 => ?_)
                      · have tk_79 := c_le (a := op.toInt) (b := 0) rfl (by decide) k_79
                        refine lv_iload hx hb dX6_endOfPattern_193 (lv_at hl 0 rfl) ?_
                        refine vp_callSi (W.runS (As := [.int y_4]) (rest := []) ⟨hx, hb, hml, hown, hts⟩ (s_isSign l dC dI y_4) (va_cwS 1 hts mg_X6_endOfPattern_X6_isSign_102 rfl rfl rfl (by decide +kernel) ⟨Nat.le_of_ble_eq_true rfl, Nat.le_of_ble_eq_true rfl⟩) ⟨fun a U g mk q => ⟨q.1, trivial⟩, fun U hU hW => ⟨rfl, trivial⟩⟩ rfl rfl hl.1 rfl (lv_room (Nat.le_of_ble_eq_true rfl)) dX6_endOfPattern_195 ⟨Nat.le_of_ble_eq_true rfl, Nat.le_of_ble_eq_true rfl⟩) (fun r_81 hw => ?_)
                        refine lv_if_eq (tgt := 213) hx hb dX6_endOfPattern_198 (by decide) (fun k_82 => ?_) (fun k_82 => ?_)
                        · have tk_82 := c_eq (a := r_81.toInt) (b := 0) rfl (by decide) k_82
                          refine lv_aload_n hx hb dX6_endOfPattern_213 rfl (lv_at hl 5 rfl) ?_
                          refine lv_iconst (v := 1) hx hb dX6_endOfPattern_214 (by decide) ?_
                          refine lv_iload hx hb dX6_endOfPattern_215 (lv_at hl 1 rfl) ?_
                          have hPc := hP.sub (ws' := [(rd, .inr (6, rF r fa fb a2 a3 a4 a5 a6 a7))]) [0] rfl
                          have hKc := hK.sub (tys' := []) [] rfl
                          have hDc := hD.sub (ws' := [(rd, .inr (6, rF r fa fb a2 a3 a4 a5 a6 a7))]) [0] (by decide) rfl
                          have hFc := va_free (wc := [(rd, .inr (6, rF r fa fb a2 a3 a4 a5 a6 a7))]) hD hS hA [0] rfl
                          refine va_callv (va_runV (As := [.int 1, .int ax]) (rest := []) ⟨hx, hb, hml, hown, hts⟩ (s_fail l dC dI rd r fa fb a2 a3 a4 a5 a6 a7 H.size 1 ax) (cwV 2 hts mg_X6_endOfPattern_X6_fail_71 rfl rfl rfl (by decide +kernel) ⟨Nat.le_of_ble_eq_true rfl, Nat.le_of_ble_eq_true rfl⟩) ⟨fun a U g mk q => by obtain ⟨q0, q1, qP, qK, qD⟩ := q; exact ⟨q0, q1, qP, va_K.moved (u := U) (U := U.calling g mk a) (Vm.Alike.refl U.vm) qK, qD⟩, va_recv hKc hPc (ci := 6) (q0 := 0) rfl rfl, fun U hU hW => ⟨rfl, by rw [hU], by rw [hU]; exact hPc, va_K.moved hW.alike hKc, hDc.weaken (fun _ _ _ _ => trivial)⟩⟩ rfl rfl hl.1 rfl (lv_room (Nat.le_of_ble_eq_true rfl)) dX6_endOfPattern_217 ⟨Nat.le_of_ble_eq_true rfl, Nat.le_of_ble_eq_true rfl⟩) hS (fun q _ h => hFc q h) hFc (fun u t H1 locs ht hvm hw hB hz1 hk1 hS => ?_)
                          obtain ⟨hP1, hK1, hD1⟩ := hB
                          rw [ht] at hP1
                          obtain ⟨hP, hD⟩ := va_join (wr := [(ta, .inl (cT, nb, .inl ft))]) (w1 := [(rd, .inr (6, rF r 1 ax a2 a3 a4 a5 a6 a7))]) hP hD [0] [1] rfl rfl (by decide) (by decide) hk1 hFc hP1 hD1
                          generalize H1 = H at hP hS ⊢
                          have hP : va_P (dC, dI) vwCl [(ta, .inl (cT, nb, .inl ft)), (rd, .inr (6, rF r 1 ax a2 a3 a4 a5 a6 a7))] H := hP
                          have hD : va_D A [(ta, .inl (cT, nb, .inl ft)), (rd, .inr (6, rF r 1 ax a2 a3 a4 a5 a6 a7))] := hD
                          refine lv_aload_n hx hb dX6_endOfPattern_220 rfl (lv_at hl 5 rfl) ?_
                          refine va_get (D := (dC, dI)) (ci := 6) (v := .int 1) (C := RX6) (T := TX6) (N := 11) hx hb hts fin_X6_endOfPattern_X6 hown hK hP 1 rfl rfl 0 (by decide) (hts (.fieldLink RX6 22 "PatternGate$Reader" "faultKind" "I") (List.mem_of_getElem? (i := 2) (by decide +kernel))) (fun _ h9 => h9) rfl dX6_endOfPattern_221 ?_
                          refine lv_if_eq (tgt := 230) hx hb dX6_endOfPattern_224 (by decide) (fun k_85 => absurd k_85 (by decide)) (fun k_85 => ?_)
                          have tk_85 := c_ne (a := 1) (b := 0) (by decide) (by decide) k_85
                          refine lv_iload hx hb dX6_endOfPattern_227 (lv_at hl 1 rfl) ?_
                          have hP9 := hP.sub (ws' := [(rd, .inr (6, rF r 1 ax a2 a3 a4 a5 a6 a7)), (ta, .inl (cT, nb, .inl ft))]) [1, 0] rfl
                          have hD9 := hD.sub (ws' := [(rd, .inr (6, rF r 1 ax a2 a3 a4 a5 a6 a7)), (ta, .inl (cT, nb, .inl ft))]) [1, 0] (by decide) rfl
                          have hK9 := hK.sub (tys' := [(cT, .int)]) [0] rfl
                          exact W.iret hx hb hr (fun t ht hW => ⟨⟨_, (), rfl, by omega, 1, ax, by rw [ht]; exact hP9, va_K.moved hW.alike hK9, hD9⟩, hS.F ht⟩) hS.2.2 dX6_endOfPattern_229
                        · have tk_82 := c_ne (a := r_81.toInt) (b := 0) rfl (by decide) k_82
                          refine lv_iload hx hb dX6_endOfPattern_201 (lv_at hl 2 rfl) ?_
                          refine lv_iconst (v := 1) hx hb dX6_endOfPattern_203 (by decide) ?_
                          refine lv_icmp_ne (tgt := 213) hx hb dX6_endOfPattern_204 (by decide) (fun k_86 => ?_) (fun k_86 => ?_)
                          · have tk_86 := c_ne (a := sd.toInt) (b := 1) rfl (by decide) k_86
                            refine lv_aload_n hx hb dX6_endOfPattern_213 rfl (lv_at hl 5 rfl) ?_
                            refine lv_iconst (v := 1) hx hb dX6_endOfPattern_214 (by decide) ?_
                            refine lv_iload hx hb dX6_endOfPattern_215 (lv_at hl 1 rfl) ?_
                            have hPc := hP.sub (ws' := [(rd, .inr (6, rF r fa fb a2 a3 a4 a5 a6 a7))]) [0] rfl
                            have hKc := hK.sub (tys' := []) [] rfl
                            have hDc := hD.sub (ws' := [(rd, .inr (6, rF r fa fb a2 a3 a4 a5 a6 a7))]) [0] (by decide) rfl
                            have hFc := va_free (wc := [(rd, .inr (6, rF r fa fb a2 a3 a4 a5 a6 a7))]) hD hS hA [0] rfl
                            refine va_callv (va_runV (As := [.int 1, .int ax]) (rest := []) ⟨hx, hb, hml, hown, hts⟩ (s_fail l dC dI rd r fa fb a2 a3 a4 a5 a6 a7 H.size 1 ax) (cwV 2 hts mg_X6_endOfPattern_X6_fail_71 rfl rfl rfl (by decide +kernel) ⟨Nat.le_of_ble_eq_true rfl, Nat.le_of_ble_eq_true rfl⟩) ⟨fun a U g mk q => by obtain ⟨q0, q1, qP, qK, qD⟩ := q; exact ⟨q0, q1, qP, va_K.moved (u := U) (U := U.calling g mk a) (Vm.Alike.refl U.vm) qK, qD⟩, va_recv hKc hPc (ci := 6) (q0 := 0) rfl rfl, fun U hU hW => ⟨rfl, by rw [hU], by rw [hU]; exact hPc, va_K.moved hW.alike hKc, hDc.weaken (fun _ _ _ _ => trivial)⟩⟩ rfl rfl hl.1 rfl (lv_room (Nat.le_of_ble_eq_true rfl)) dX6_endOfPattern_217 ⟨Nat.le_of_ble_eq_true rfl, Nat.le_of_ble_eq_true rfl⟩) hS (fun q _ h => hFc q h) hFc (fun u t H1 locs ht hvm hw hB hz1 hk1 hS => ?_)
                            obtain ⟨hP1, hK1, hD1⟩ := hB
                            rw [ht] at hP1
                            obtain ⟨hP, hD⟩ := va_join (wr := [(ta, .inl (cT, nb, .inl ft))]) (w1 := [(rd, .inr (6, rF r 1 ax a2 a3 a4 a5 a6 a7))]) hP hD [0] [1] rfl rfl (by decide) (by decide) hk1 hFc hP1 hD1
                            generalize H1 = H at hP hS ⊢
                            have hP : va_P (dC, dI) vwCl [(ta, .inl (cT, nb, .inl ft)), (rd, .inr (6, rF r 1 ax a2 a3 a4 a5 a6 a7))] H := hP
                            have hD : va_D A [(ta, .inl (cT, nb, .inl ft)), (rd, .inr (6, rF r 1 ax a2 a3 a4 a5 a6 a7))] := hD
                            refine lv_aload_n hx hb dX6_endOfPattern_220 rfl (lv_at hl 5 rfl) ?_
                            refine va_get (D := (dC, dI)) (ci := 6) (v := .int 1) (C := RX6) (T := TX6) (N := 11) hx hb hts fin_X6_endOfPattern_X6 hown hK hP 1 rfl rfl 0 (by decide) (hts (.fieldLink RX6 22 "PatternGate$Reader" "faultKind" "I") (List.mem_of_getElem? (i := 2) (by decide +kernel))) (fun _ h9 => h9) rfl dX6_endOfPattern_221 ?_
                            refine lv_if_eq (tgt := 230) hx hb dX6_endOfPattern_224 (by decide) (fun k_89 => absurd k_89 (by decide)) (fun k_89 => ?_)
                            have tk_89 := c_ne (a := 1) (b := 0) (by decide) (by decide) k_89
                            refine lv_iload hx hb dX6_endOfPattern_227 (lv_at hl 1 rfl) ?_
                            have hP9 := hP.sub (ws' := [(rd, .inr (6, rF r 1 ax a2 a3 a4 a5 a6 a7)), (ta, .inl (cT, nb, .inl ft))]) [1, 0] rfl
                            have hD9 := hD.sub (ws' := [(rd, .inr (6, rF r 1 ax a2 a3 a4 a5 a6 a7)), (ta, .inl (cT, nb, .inl ft))]) [1, 0] (by decide) rfl
                            have hK9 := hK.sub (tys' := [(cT, .int)]) [0] rfl
                            exact W.iret hx hb hr (fun t ht hW => ⟨⟨_, (), rfl, by omega, 1, ax, by rw [ht]; exact hP9, va_K.moved hW.alike hK9, hD9⟩, hS.F ht⟩) hS.2.2 dX6_endOfPattern_229
                          · have tk_86 := c_eq (a := sd.toInt) (b := 1) rfl (by decide) k_86
                            refine lv_iconst (v := 2) hx hb dX6_endOfPattern_207 (by decide) ?_
                            refine lv_istore (lv' := [(6, .int 2), (8, .int y_4), (7, .int ax), (5, .int op), (4, .int sp), (0, .ref rd), (1, .ref ta), (2, .int i8), (3, .int i9)]) hx hb dX6_endOfPattern_208 hl (by decide) rfl (fun ls hl => ?_)
                            refine lv_goto (tgt := 220) hx hb dX6_endOfPattern_210 (by decide) ?_
                            refine lv_aload_n hx hb dX6_endOfPattern_220 rfl (lv_at hl 5 rfl) ?_
                            refine va_get (D := (dC, dI)) (ci := 6) (v := .int fa) (C := RX6) (T := TX6) (N := 11) hx hb hts fin_X6_endOfPattern_X6 hown hK hP 0 rfl rfl 0 (by decide) (hts (.fieldLink RX6 22 "PatternGate$Reader" "faultKind" "I") (List.mem_of_getElem? (i := 2) (by decide +kernel))) (fun _ h9 => h9) rfl dX6_endOfPattern_221 ?_
                            refine lv_if_eq (tgt := 230) hx hb dX6_endOfPattern_224 (by decide) (fun k_90 => ?_) (fun k_90 => ?_)
                            · have tk_90 := c_eq (a := fa.toInt) (b := 0) rfl (by decide) k_90
                              obtain ⟨y_91, ey_91⟩ : ∃ y : Int32, y = ax + 1 := ⟨_, rfl⟩
                              first | have ty_91 := i_add (a := ax.toInt) (b := 1) rfl (by decide) ey_91 (by omega) (by omega) | skip
                              refine lv_iinc (v := y_91) (lv' := [(7, .int y_91), (6, .int 2), (8, .int y_4), (5, .int op), (4, .int sp), (0, .ref rd), (1, .ref ta), (2, .int i8), (3, .int i9)]) hx hb dX6_endOfPattern_230 hl (k := 2) rfl (by rw [ey_91]; rfl) (by decide) rfl (fun ls hl => ?_)
                              refine lv_goto (tgt := 12) hx hb dX6_endOfPattern_233 (by decide) ?_
                              have lit_91 : (2 : Int32).toInt = 2 := by decide
                              exact ih12 sp op 2 y_91 fa fb (by first | omega | decide | assumption) (by first | omega | decide | assumption) (by omega) _ _ ls hP hD hS (lv_sub hl [0, 1, 3, 4, 5, 6, 7, 8] rfl)
                            · have tk_90 := c_ne (a := fa.toInt) (b := 0) rfl (by decide) k_90
                              refine lv_iload hx hb dX6_endOfPattern_227 (lv_at hl 2 rfl) ?_
                              have hP9 := hP.sub (ws' := [(rd, .inr (6, rF r fa fb a2 a3 a4 a5 a6 a7)), (ta, .inl (cT, nb, .inl ft))]) [0, 1] rfl
                              have hD9 := hD.sub (ws' := [(rd, .inr (6, rF r fa fb a2 a3 a4 a5 a6 a7)), (ta, .inl (cT, nb, .inl ft))]) [0, 1] (by decide) rfl
                              have hK9 := hK.sub (tys' := [(cT, .int)]) [0] rfl
                              exact W.iret hx hb hr (fun t ht hW => ⟨⟨_, (), rfl, by omega, fa, fb, by rw [ht]; exact hP9, va_K.moved hW.alike hK9, hD9⟩, hS.F ht⟩) hS.2.2 dX6_endOfPattern_229
                      · have tk_79 := c_nle (a := op.toInt) (b := 0) rfl (by decide) k_79
                        refine lv_iload hx hb dX6_endOfPattern_179 (lv_at hl 2 rfl) ?_
                        refine lv_if_eq (tgt := 193) hx hb dX6_endOfPattern_181 (by decide) (fun k_93 => ?_) (fun k_93 => ?_)
                        · have tk_93 := c_eq (a := sd.toInt) (b := 0) rfl (by decide) k_93
                          refine lv_iload hx hb dX6_endOfPattern_193 (lv_at hl 0 rfl) ?_
                          refine vp_callSi (W.runS (As := [.int y_4]) (rest := []) ⟨hx, hb, hml, hown, hts⟩ (s_isSign l dC dI y_4) (va_cwS 1 hts mg_X6_endOfPattern_X6_isSign_102 rfl rfl rfl (by decide +kernel) ⟨Nat.le_of_ble_eq_true rfl, Nat.le_of_ble_eq_true rfl⟩) ⟨fun a U g mk q => ⟨q.1, trivial⟩, fun U hU hW => ⟨rfl, trivial⟩⟩ rfl rfl hl.1 rfl (lv_room (Nat.le_of_ble_eq_true rfl)) dX6_endOfPattern_195 ⟨Nat.le_of_ble_eq_true rfl, Nat.le_of_ble_eq_true rfl⟩) (fun r_95 hw => ?_)
                          refine lv_if_eq (tgt := 213) hx hb dX6_endOfPattern_198 (by decide) (fun k_96 => ?_) (fun k_96 => ?_)
                          · have tk_96 := c_eq (a := r_95.toInt) (b := 0) rfl (by decide) k_96
                            refine lv_aload_n hx hb dX6_endOfPattern_213 rfl (lv_at hl 5 rfl) ?_
                            refine lv_iconst (v := 1) hx hb dX6_endOfPattern_214 (by decide) ?_
                            refine lv_iload hx hb dX6_endOfPattern_215 (lv_at hl 1 rfl) ?_
                            have hPc := hP.sub (ws' := [(rd, .inr (6, rF r fa fb a2 a3 a4 a5 a6 a7))]) [0] rfl
                            have hKc := hK.sub (tys' := []) [] rfl
                            have hDc := hD.sub (ws' := [(rd, .inr (6, rF r fa fb a2 a3 a4 a5 a6 a7))]) [0] (by decide) rfl
                            have hFc := va_free (wc := [(rd, .inr (6, rF r fa fb a2 a3 a4 a5 a6 a7))]) hD hS hA [0] rfl
                            refine va_callv (va_runV (As := [.int 1, .int ax]) (rest := []) ⟨hx, hb, hml, hown, hts⟩ (s_fail l dC dI rd r fa fb a2 a3 a4 a5 a6 a7 H.size 1 ax) (cwV 2 hts mg_X6_endOfPattern_X6_fail_71 rfl rfl rfl (by decide +kernel) ⟨Nat.le_of_ble_eq_true rfl, Nat.le_of_ble_eq_true rfl⟩) ⟨fun a U g mk q => by obtain ⟨q0, q1, qP, qK, qD⟩ := q; exact ⟨q0, q1, qP, va_K.moved (u := U) (U := U.calling g mk a) (Vm.Alike.refl U.vm) qK, qD⟩, va_recv hKc hPc (ci := 6) (q0 := 0) rfl rfl, fun U hU hW => ⟨rfl, by rw [hU], by rw [hU]; exact hPc, va_K.moved hW.alike hKc, hDc.weaken (fun _ _ _ _ => trivial)⟩⟩ rfl rfl hl.1 rfl (lv_room (Nat.le_of_ble_eq_true rfl)) dX6_endOfPattern_217 ⟨Nat.le_of_ble_eq_true rfl, Nat.le_of_ble_eq_true rfl⟩) hS (fun q _ h => hFc q h) hFc (fun u t H1 locs ht hvm hw hB hz1 hk1 hS => ?_)
                            obtain ⟨hP1, hK1, hD1⟩ := hB
                            rw [ht] at hP1
                            obtain ⟨hP, hD⟩ := va_join (wr := [(ta, .inl (cT, nb, .inl ft))]) (w1 := [(rd, .inr (6, rF r 1 ax a2 a3 a4 a5 a6 a7))]) hP hD [0] [1] rfl rfl (by decide) (by decide) hk1 hFc hP1 hD1
                            generalize H1 = H at hP hS ⊢
                            have hP : va_P (dC, dI) vwCl [(ta, .inl (cT, nb, .inl ft)), (rd, .inr (6, rF r 1 ax a2 a3 a4 a5 a6 a7))] H := hP
                            have hD : va_D A [(ta, .inl (cT, nb, .inl ft)), (rd, .inr (6, rF r 1 ax a2 a3 a4 a5 a6 a7))] := hD
                            refine lv_aload_n hx hb dX6_endOfPattern_220 rfl (lv_at hl 5 rfl) ?_
                            refine va_get (D := (dC, dI)) (ci := 6) (v := .int 1) (C := RX6) (T := TX6) (N := 11) hx hb hts fin_X6_endOfPattern_X6 hown hK hP 1 rfl rfl 0 (by decide) (hts (.fieldLink RX6 22 "PatternGate$Reader" "faultKind" "I") (List.mem_of_getElem? (i := 2) (by decide +kernel))) (fun _ h9 => h9) rfl dX6_endOfPattern_221 ?_
                            refine lv_if_eq (tgt := 230) hx hb dX6_endOfPattern_224 (by decide) (fun k_99 => absurd k_99 (by decide)) (fun k_99 => ?_)
                            have tk_99 := c_ne (a := 1) (b := 0) (by decide) (by decide) k_99
                            refine lv_iload hx hb dX6_endOfPattern_227 (lv_at hl 1 rfl) ?_
                            have hP9 := hP.sub (ws' := [(rd, .inr (6, rF r 1 ax a2 a3 a4 a5 a6 a7)), (ta, .inl (cT, nb, .inl ft))]) [1, 0] rfl
                            have hD9 := hD.sub (ws' := [(rd, .inr (6, rF r 1 ax a2 a3 a4 a5 a6 a7)), (ta, .inl (cT, nb, .inl ft))]) [1, 0] (by decide) rfl
                            have hK9 := hK.sub (tys' := [(cT, .int)]) [0] rfl
                            exact W.iret hx hb hr (fun t ht hW => ⟨⟨_, (), rfl, by omega, 1, ax, by rw [ht]; exact hP9, va_K.moved hW.alike hK9, hD9⟩, hS.F ht⟩) hS.2.2 dX6_endOfPattern_229
                          · have tk_96 := c_ne (a := r_95.toInt) (b := 0) rfl (by decide) k_96
                            refine lv_iload hx hb dX6_endOfPattern_201 (lv_at hl 2 rfl) ?_
                            refine lv_iconst (v := 1) hx hb dX6_endOfPattern_203 (by decide) ?_
                            refine lv_icmp_ne (tgt := 213) hx hb dX6_endOfPattern_204 (by decide) (fun k_100 => ?_) (fun k_100 => ?_)
                            · have tk_100 := c_ne (a := sd.toInt) (b := 1) rfl (by decide) k_100
                              refine lv_aload_n hx hb dX6_endOfPattern_213 rfl (lv_at hl 5 rfl) ?_
                              refine lv_iconst (v := 1) hx hb dX6_endOfPattern_214 (by decide) ?_
                              refine lv_iload hx hb dX6_endOfPattern_215 (lv_at hl 1 rfl) ?_
                              have hPc := hP.sub (ws' := [(rd, .inr (6, rF r fa fb a2 a3 a4 a5 a6 a7))]) [0] rfl
                              have hKc := hK.sub (tys' := []) [] rfl
                              have hDc := hD.sub (ws' := [(rd, .inr (6, rF r fa fb a2 a3 a4 a5 a6 a7))]) [0] (by decide) rfl
                              have hFc := va_free (wc := [(rd, .inr (6, rF r fa fb a2 a3 a4 a5 a6 a7))]) hD hS hA [0] rfl
                              refine va_callv (va_runV (As := [.int 1, .int ax]) (rest := []) ⟨hx, hb, hml, hown, hts⟩ (s_fail l dC dI rd r fa fb a2 a3 a4 a5 a6 a7 H.size 1 ax) (cwV 2 hts mg_X6_endOfPattern_X6_fail_71 rfl rfl rfl (by decide +kernel) ⟨Nat.le_of_ble_eq_true rfl, Nat.le_of_ble_eq_true rfl⟩) ⟨fun a U g mk q => by obtain ⟨q0, q1, qP, qK, qD⟩ := q; exact ⟨q0, q1, qP, va_K.moved (u := U) (U := U.calling g mk a) (Vm.Alike.refl U.vm) qK, qD⟩, va_recv hKc hPc (ci := 6) (q0 := 0) rfl rfl, fun U hU hW => ⟨rfl, by rw [hU], by rw [hU]; exact hPc, va_K.moved hW.alike hKc, hDc.weaken (fun _ _ _ _ => trivial)⟩⟩ rfl rfl hl.1 rfl (lv_room (Nat.le_of_ble_eq_true rfl)) dX6_endOfPattern_217 ⟨Nat.le_of_ble_eq_true rfl, Nat.le_of_ble_eq_true rfl⟩) hS (fun q _ h => hFc q h) hFc (fun u t H1 locs ht hvm hw hB hz1 hk1 hS => ?_)
                              obtain ⟨hP1, hK1, hD1⟩ := hB
                              rw [ht] at hP1
                              obtain ⟨hP, hD⟩ := va_join (wr := [(ta, .inl (cT, nb, .inl ft))]) (w1 := [(rd, .inr (6, rF r 1 ax a2 a3 a4 a5 a6 a7))]) hP hD [0] [1] rfl rfl (by decide) (by decide) hk1 hFc hP1 hD1
                              generalize H1 = H at hP hS ⊢
                              have hP : va_P (dC, dI) vwCl [(ta, .inl (cT, nb, .inl ft)), (rd, .inr (6, rF r 1 ax a2 a3 a4 a5 a6 a7))] H := hP
                              have hD : va_D A [(ta, .inl (cT, nb, .inl ft)), (rd, .inr (6, rF r 1 ax a2 a3 a4 a5 a6 a7))] := hD
                              refine lv_aload_n hx hb dX6_endOfPattern_220 rfl (lv_at hl 5 rfl) ?_
                              refine va_get (D := (dC, dI)) (ci := 6) (v := .int 1) (C := RX6) (T := TX6) (N := 11) hx hb hts fin_X6_endOfPattern_X6 hown hK hP 1 rfl rfl 0 (by decide) (hts (.fieldLink RX6 22 "PatternGate$Reader" "faultKind" "I") (List.mem_of_getElem? (i := 2) (by decide +kernel))) (fun _ h9 => h9) rfl dX6_endOfPattern_221 ?_
                              refine lv_if_eq (tgt := 230) hx hb dX6_endOfPattern_224 (by decide) (fun k_103 => absurd k_103 (by decide)) (fun k_103 => ?_)
                              have tk_103 := c_ne (a := 1) (b := 0) (by decide) (by decide) k_103
                              refine lv_iload hx hb dX6_endOfPattern_227 (lv_at hl 1 rfl) ?_
                              have hP9 := hP.sub (ws' := [(rd, .inr (6, rF r 1 ax a2 a3 a4 a5 a6 a7)), (ta, .inl (cT, nb, .inl ft))]) [1, 0] rfl
                              have hD9 := hD.sub (ws' := [(rd, .inr (6, rF r 1 ax a2 a3 a4 a5 a6 a7)), (ta, .inl (cT, nb, .inl ft))]) [1, 0] (by decide) rfl
                              have hK9 := hK.sub (tys' := [(cT, .int)]) [0] rfl
                              exact W.iret hx hb hr (fun t ht hW => ⟨⟨_, (), rfl, by omega, 1, ax, by rw [ht]; exact hP9, va_K.moved hW.alike hK9, hD9⟩, hS.F ht⟩) hS.2.2 dX6_endOfPattern_229
                            · have tk_100 := c_eq (a := sd.toInt) (b := 1) rfl (by decide) k_100
                              refine lv_iconst (v := 2) hx hb dX6_endOfPattern_207 (by decide) ?_
                              refine lv_istore (lv' := [(6, .int 2), (8, .int y_4), (7, .int ax), (5, .int op), (4, .int sp), (0, .ref rd), (1, .ref ta), (2, .int i8), (3, .int i9)]) hx hb dX6_endOfPattern_208 hl (by decide) rfl (fun ls hl => ?_)
                              refine lv_goto (tgt := 220) hx hb dX6_endOfPattern_210 (by decide) ?_
                              refine lv_aload_n hx hb dX6_endOfPattern_220 rfl (lv_at hl 5 rfl) ?_
                              refine va_get (D := (dC, dI)) (ci := 6) (v := .int fa) (C := RX6) (T := TX6) (N := 11) hx hb hts fin_X6_endOfPattern_X6 hown hK hP 0 rfl rfl 0 (by decide) (hts (.fieldLink RX6 22 "PatternGate$Reader" "faultKind" "I") (List.mem_of_getElem? (i := 2) (by decide +kernel))) (fun _ h9 => h9) rfl dX6_endOfPattern_221 ?_
                              refine lv_if_eq (tgt := 230) hx hb dX6_endOfPattern_224 (by decide) (fun k_104 => ?_) (fun k_104 => ?_)
                              · have tk_104 := c_eq (a := fa.toInt) (b := 0) rfl (by decide) k_104
                                obtain ⟨y_105, ey_105⟩ : ∃ y : Int32, y = ax + 1 := ⟨_, rfl⟩
                                first | have ty_105 := i_add (a := ax.toInt) (b := 1) rfl (by decide) ey_105 (by omega) (by omega) | skip
                                refine lv_iinc (v := y_105) (lv' := [(7, .int y_105), (6, .int 2), (8, .int y_4), (5, .int op), (4, .int sp), (0, .ref rd), (1, .ref ta), (2, .int i8), (3, .int i9)]) hx hb dX6_endOfPattern_230 hl (k := 2) rfl (by rw [ey_105]; rfl) (by decide) rfl (fun ls hl => ?_)
                                refine lv_goto (tgt := 12) hx hb dX6_endOfPattern_233 (by decide) ?_
                                have lit_105 : (2 : Int32).toInt = 2 := by decide
                                exact ih12 sp op 2 y_105 fa fb (by first | omega | decide | assumption) (by first | omega | decide | assumption) (by omega) _ _ ls hP hD hS (lv_sub hl [0, 1, 3, 4, 5, 6, 7, 8] rfl)
                              · have tk_104 := c_ne (a := fa.toInt) (b := 0) rfl (by decide) k_104
                                refine lv_iload hx hb dX6_endOfPattern_227 (lv_at hl 2 rfl) ?_
                                have hP9 := hP.sub (ws' := [(rd, .inr (6, rF r fa fb a2 a3 a4 a5 a6 a7)), (ta, .inl (cT, nb, .inl ft))]) [0, 1] rfl
                                have hD9 := hD.sub (ws' := [(rd, .inr (6, rF r fa fb a2 a3 a4 a5 a6 a7)), (ta, .inl (cT, nb, .inl ft))]) [0, 1] (by decide) rfl
                                have hK9 := hK.sub (tys' := [(cT, .int)]) [0] rfl
                                exact W.iret hx hb hr (fun t ht hW => ⟨⟨_, (), rfl, by omega, fa, fb, by rw [ht]; exact hP9, va_K.moved hW.alike hK9, hD9⟩, hS.F ht⟩) hS.2.2 dX6_endOfPattern_229
                        · have tk_93 := c_ne (a := sd.toInt) (b := 0) rfl (by decide) k_93
                          obtain ⟨y_107, ey_107⟩ : ∃ y : Int32, y = op + (-1) := ⟨_, rfl⟩
                          first | have ty_107 := i_add (a := op.toInt) (b := (-1)) rfl (by decide) ey_107 (by omega) (by omega) | skip
                          refine lv_iinc (v := y_107) (lv' := [(5, .int y_107), (8, .int y_4), (7, .int ax), (6, .int sd), (4, .int sp), (0, .ref rd), (1, .ref ta), (2, .int i8), (3, .int i9)]) hx hb dX6_endOfPattern_184 hl (k := 3) rfl (by rw [ey_107]; rfl) (by decide) rfl (fun ls hl => ?_)
                          refine lv_iconst (v := 1) hx hb dX6_endOfPattern_187 (by decide) ?_
                          refine lv_istore (lv' := [(6, .int 1), (5, .int y_107), (8, .int y_4), (7, .int ax), (4, .int sp), (0, .ref rd), (1, .ref ta), (2, .int i8), (3, .int i9)]) hx hb dX6_endOfPattern_188 hl (by decide) rfl (fun ls hl => ?_)
                          refine lv_goto (tgt := 220) hx hb dX6_endOfPattern_190 (by decide) ?_
                          refine lv_aload_n hx hb dX6_endOfPattern_220 rfl (lv_at hl 5 rfl) ?_
                          refine va_get (D := (dC, dI)) (ci := 6) (v := .int fa) (C := RX6) (T := TX6) (N := 11) hx hb hts fin_X6_endOfPattern_X6 hown hK hP 0 rfl rfl 0 (by decide) (hts (.fieldLink RX6 22 "PatternGate$Reader" "faultKind" "I") (List.mem_of_getElem? (i := 2) (by decide +kernel))) (fun _ h9 => h9) rfl dX6_endOfPattern_221 ?_
                          refine lv_if_eq (tgt := 230) hx hb dX6_endOfPattern_224 (by decide) (fun k_108 => ?_) (fun k_108 => ?_)
                          · have tk_108 := c_eq (a := fa.toInt) (b := 0) rfl (by decide) k_108
                            obtain ⟨y_109, ey_109⟩ : ∃ y : Int32, y = ax + 1 := ⟨_, rfl⟩
                            first | have ty_109 := i_add (a := ax.toInt) (b := 1) rfl (by decide) ey_109 (by omega) (by omega) | skip
                            refine lv_iinc (v := y_109) (lv' := [(7, .int y_109), (6, .int 1), (5, .int y_107), (8, .int y_4), (4, .int sp), (0, .ref rd), (1, .ref ta), (2, .int i8), (3, .int i9)]) hx hb dX6_endOfPattern_230 hl (k := 3) rfl (by rw [ey_109]; rfl) (by decide) rfl (fun ls hl => ?_)
                            refine lv_goto (tgt := 12) hx hb dX6_endOfPattern_233 (by decide) ?_
                            have lit_109 : (1 : Int32).toInt = 1 := by decide
                            exact ih12 sp y_107 1 y_109 fa fb (by first | omega | decide | assumption) (by first | omega | decide | assumption) (by omega) _ _ ls hP hD hS (lv_sub hl [0, 1, 2, 4, 5, 6, 7, 8] rfl)
                          · have tk_108 := c_ne (a := fa.toInt) (b := 0) rfl (by decide) k_108
                            refine lv_iload hx hb dX6_endOfPattern_227 (lv_at hl 3 rfl) ?_
                            have hP9 := hP.sub (ws' := [(rd, .inr (6, rF r fa fb a2 a3 a4 a5 a6 a7)), (ta, .inl (cT, nb, .inl ft))]) [0, 1] rfl
                            have hD9 := hD.sub (ws' := [(rd, .inr (6, rF r fa fb a2 a3 a4 a5 a6 a7)), (ta, .inl (cT, nb, .inl ft))]) [0, 1] (by decide) rfl
                            have hK9 := hK.sub (tys' := [(cT, .int)]) [0] rfl
                            exact W.iret hx hb hr (fun t ht hW => ⟨⟨_, (), rfl, by omega, fa, fb, by rw [ht]; exact hP9, va_K.moved hW.alike hK9, hD9⟩, hS.F ht⟩) hS.2.2 dX6_endOfPattern_229
                  · have tk_64 := c_eq (a := y_4.toInt) (b := 124) rfl (by decide) k_64
                    refine lv_iload hx hb dX6_endOfPattern_156 (lv_at hl 2 rfl) ?_
                    refine lv_if_eq (tgt := 167) hx hb dX6_endOfPattern_158 (by decide) (fun k_111 => ?_) (fun k_111 => ?_)
                    · have tk_111 := c_eq (a := sd.toInt) (b := 0) rfl (by decide) k_111
                      refine lv_iload hx hb dX6_endOfPattern_167 (lv_at hl 0 rfl) ?_
                      refine lv_bipush (v := 41) hx hb dX6_endOfPattern_169 (by decide) ?_
                      refine lv_icmp_ne (tgt := 193) hx hb dX6_endOfPattern_171 (by decide) (fun k_112 => ?_) (fun k_112 => ?_)
                      · have tk_112 := c_ne (a := y_4.toInt) (b := 41) rfl (by decide) k_112
                        refine lv_iload hx hb dX6_endOfPattern_193 (lv_at hl 0 rfl) ?_
                        refine vp_callSi (W.runS (As := [.int y_4]) (rest := []) ⟨hx, hb, hml, hown, hts⟩ (s_isSign l dC dI y_4) (va_cwS 1 hts mg_X6_endOfPattern_X6_isSign_102 rfl rfl rfl (by decide +kernel) ⟨Nat.le_of_ble_eq_true rfl, Nat.le_of_ble_eq_true rfl⟩) ⟨fun a U g mk q => ⟨q.1, trivial⟩, fun U hU hW => ⟨rfl, trivial⟩⟩ rfl rfl hl.1 rfl (lv_room (Nat.le_of_ble_eq_true rfl)) dX6_endOfPattern_195 ⟨Nat.le_of_ble_eq_true rfl, Nat.le_of_ble_eq_true rfl⟩) (fun r_114 hw => ?_)
                        refine lv_if_eq (tgt := 213) hx hb dX6_endOfPattern_198 (by decide) (fun k_115 => ?_) (fun k_115 => ?_)
                        · have tk_115 := c_eq (a := r_114.toInt) (b := 0) rfl (by decide) k_115
                          refine lv_aload_n hx hb dX6_endOfPattern_213 rfl (lv_at hl 5 rfl) ?_
                          refine lv_iconst (v := 1) hx hb dX6_endOfPattern_214 (by decide) ?_
                          refine lv_iload hx hb dX6_endOfPattern_215 (lv_at hl 1 rfl) ?_
                          have hPc := hP.sub (ws' := [(rd, .inr (6, rF r fa fb a2 a3 a4 a5 a6 a7))]) [0] rfl
                          have hKc := hK.sub (tys' := []) [] rfl
                          have hDc := hD.sub (ws' := [(rd, .inr (6, rF r fa fb a2 a3 a4 a5 a6 a7))]) [0] (by decide) rfl
                          have hFc := va_free (wc := [(rd, .inr (6, rF r fa fb a2 a3 a4 a5 a6 a7))]) hD hS hA [0] rfl
                          refine va_callv (va_runV (As := [.int 1, .int ax]) (rest := []) ⟨hx, hb, hml, hown, hts⟩ (s_fail l dC dI rd r fa fb a2 a3 a4 a5 a6 a7 H.size 1 ax) (cwV 2 hts mg_X6_endOfPattern_X6_fail_71 rfl rfl rfl (by decide +kernel) ⟨Nat.le_of_ble_eq_true rfl, Nat.le_of_ble_eq_true rfl⟩) ⟨fun a U g mk q => by obtain ⟨q0, q1, qP, qK, qD⟩ := q; exact ⟨q0, q1, qP, va_K.moved (u := U) (U := U.calling g mk a) (Vm.Alike.refl U.vm) qK, qD⟩, va_recv hKc hPc (ci := 6) (q0 := 0) rfl rfl, fun U hU hW => ⟨rfl, by rw [hU], by rw [hU]; exact hPc, va_K.moved hW.alike hKc, hDc.weaken (fun _ _ _ _ => trivial)⟩⟩ rfl rfl hl.1 rfl (lv_room (Nat.le_of_ble_eq_true rfl)) dX6_endOfPattern_217 ⟨Nat.le_of_ble_eq_true rfl, Nat.le_of_ble_eq_true rfl⟩) hS (fun q _ h => hFc q h) hFc (fun u t H1 locs ht hvm hw hB hz1 hk1 hS => ?_)
                          obtain ⟨hP1, hK1, hD1⟩ := hB
                          rw [ht] at hP1
                          obtain ⟨hP, hD⟩ := va_join (wr := [(ta, .inl (cT, nb, .inl ft))]) (w1 := [(rd, .inr (6, rF r 1 ax a2 a3 a4 a5 a6 a7))]) hP hD [0] [1] rfl rfl (by decide) (by decide) hk1 hFc hP1 hD1
                          generalize H1 = H at hP hS ⊢
                          have hP : va_P (dC, dI) vwCl [(ta, .inl (cT, nb, .inl ft)), (rd, .inr (6, rF r 1 ax a2 a3 a4 a5 a6 a7))] H := hP
                          have hD : va_D A [(ta, .inl (cT, nb, .inl ft)), (rd, .inr (6, rF r 1 ax a2 a3 a4 a5 a6 a7))] := hD
                          refine lv_aload_n hx hb dX6_endOfPattern_220 rfl (lv_at hl 5 rfl) ?_
                          refine va_get (D := (dC, dI)) (ci := 6) (v := .int 1) (C := RX6) (T := TX6) (N := 11) hx hb hts fin_X6_endOfPattern_X6 hown hK hP 1 rfl rfl 0 (by decide) (hts (.fieldLink RX6 22 "PatternGate$Reader" "faultKind" "I") (List.mem_of_getElem? (i := 2) (by decide +kernel))) (fun _ h9 => h9) rfl dX6_endOfPattern_221 ?_
                          refine lv_if_eq (tgt := 230) hx hb dX6_endOfPattern_224 (by decide) (fun k_118 => absurd k_118 (by decide)) (fun k_118 => ?_)
                          have tk_118 := c_ne (a := 1) (b := 0) (by decide) (by decide) k_118
                          refine lv_iload hx hb dX6_endOfPattern_227 (lv_at hl 1 rfl) ?_
                          have hP9 := hP.sub (ws' := [(rd, .inr (6, rF r 1 ax a2 a3 a4 a5 a6 a7)), (ta, .inl (cT, nb, .inl ft))]) [1, 0] rfl
                          have hD9 := hD.sub (ws' := [(rd, .inr (6, rF r 1 ax a2 a3 a4 a5 a6 a7)), (ta, .inl (cT, nb, .inl ft))]) [1, 0] (by decide) rfl
                          have hK9 := hK.sub (tys' := [(cT, .int)]) [0] rfl
                          exact W.iret hx hb hr (fun t ht hW => ⟨⟨_, (), rfl, by omega, 1, ax, by rw [ht]; exact hP9, va_K.moved hW.alike hK9, hD9⟩, hS.F ht⟩) hS.2.2 dX6_endOfPattern_229
                        · have tk_115 := c_ne (a := r_114.toInt) (b := 0) rfl (by decide) k_115
                          refine lv_iload hx hb dX6_endOfPattern_201 (lv_at hl 2 rfl) ?_
                          refine lv_iconst (v := 1) hx hb dX6_endOfPattern_203 (by decide) ?_
                          refine lv_icmp_ne (tgt := 213) hx hb dX6_endOfPattern_204 (by decide) (fun k_119 => ?_) (fun k_119 => ?_)
                          · have tk_119 := c_ne (a := sd.toInt) (b := 1) rfl (by decide) k_119
                            refine lv_aload_n hx hb dX6_endOfPattern_213 rfl (lv_at hl 5 rfl) ?_
                            refine lv_iconst (v := 1) hx hb dX6_endOfPattern_214 (by decide) ?_
                            refine lv_iload hx hb dX6_endOfPattern_215 (lv_at hl 1 rfl) ?_
                            have hPc := hP.sub (ws' := [(rd, .inr (6, rF r fa fb a2 a3 a4 a5 a6 a7))]) [0] rfl
                            have hKc := hK.sub (tys' := []) [] rfl
                            have hDc := hD.sub (ws' := [(rd, .inr (6, rF r fa fb a2 a3 a4 a5 a6 a7))]) [0] (by decide) rfl
                            have hFc := va_free (wc := [(rd, .inr (6, rF r fa fb a2 a3 a4 a5 a6 a7))]) hD hS hA [0] rfl
                            refine va_callv (va_runV (As := [.int 1, .int ax]) (rest := []) ⟨hx, hb, hml, hown, hts⟩ (s_fail l dC dI rd r fa fb a2 a3 a4 a5 a6 a7 H.size 1 ax) (cwV 2 hts mg_X6_endOfPattern_X6_fail_71 rfl rfl rfl (by decide +kernel) ⟨Nat.le_of_ble_eq_true rfl, Nat.le_of_ble_eq_true rfl⟩) ⟨fun a U g mk q => by obtain ⟨q0, q1, qP, qK, qD⟩ := q; exact ⟨q0, q1, qP, va_K.moved (u := U) (U := U.calling g mk a) (Vm.Alike.refl U.vm) qK, qD⟩, va_recv hKc hPc (ci := 6) (q0 := 0) rfl rfl, fun U hU hW => ⟨rfl, by rw [hU], by rw [hU]; exact hPc, va_K.moved hW.alike hKc, hDc.weaken (fun _ _ _ _ => trivial)⟩⟩ rfl rfl hl.1 rfl (lv_room (Nat.le_of_ble_eq_true rfl)) dX6_endOfPattern_217 ⟨Nat.le_of_ble_eq_true rfl, Nat.le_of_ble_eq_true rfl⟩) hS (fun q _ h => hFc q h) hFc (fun u t H1 locs ht hvm hw hB hz1 hk1 hS => ?_)
                            obtain ⟨hP1, hK1, hD1⟩ := hB
                            rw [ht] at hP1
                            obtain ⟨hP, hD⟩ := va_join (wr := [(ta, .inl (cT, nb, .inl ft))]) (w1 := [(rd, .inr (6, rF r 1 ax a2 a3 a4 a5 a6 a7))]) hP hD [0] [1] rfl rfl (by decide) (by decide) hk1 hFc hP1 hD1
                            generalize H1 = H at hP hS ⊢
                            have hP : va_P (dC, dI) vwCl [(ta, .inl (cT, nb, .inl ft)), (rd, .inr (6, rF r 1 ax a2 a3 a4 a5 a6 a7))] H := hP
                            have hD : va_D A [(ta, .inl (cT, nb, .inl ft)), (rd, .inr (6, rF r 1 ax a2 a3 a4 a5 a6 a7))] := hD
                            refine lv_aload_n hx hb dX6_endOfPattern_220 rfl (lv_at hl 5 rfl) ?_
                            refine va_get (D := (dC, dI)) (ci := 6) (v := .int 1) (C := RX6) (T := TX6) (N := 11) hx hb hts fin_X6_endOfPattern_X6 hown hK hP 1 rfl rfl 0 (by decide) (hts (.fieldLink RX6 22 "PatternGate$Reader" "faultKind" "I") (List.mem_of_getElem? (i := 2) (by decide +kernel))) (fun _ h9 => h9) rfl dX6_endOfPattern_221 ?_
                            refine lv_if_eq (tgt := 230) hx hb dX6_endOfPattern_224 (by decide) (fun k_122 => absurd k_122 (by decide)) (fun k_122 => ?_)
                            have tk_122 := c_ne (a := 1) (b := 0) (by decide) (by decide) k_122
                            refine lv_iload hx hb dX6_endOfPattern_227 (lv_at hl 1 rfl) ?_
                            have hP9 := hP.sub (ws' := [(rd, .inr (6, rF r 1 ax a2 a3 a4 a5 a6 a7)), (ta, .inl (cT, nb, .inl ft))]) [1, 0] rfl
                            have hD9 := hD.sub (ws' := [(rd, .inr (6, rF r 1 ax a2 a3 a4 a5 a6 a7)), (ta, .inl (cT, nb, .inl ft))]) [1, 0] (by decide) rfl
                            have hK9 := hK.sub (tys' := [(cT, .int)]) [0] rfl
                            exact W.iret hx hb hr (fun t ht hW => ⟨⟨_, (), rfl, by omega, 1, ax, by rw [ht]; exact hP9, va_K.moved hW.alike hK9, hD9⟩, hS.F ht⟩) hS.2.2 dX6_endOfPattern_229
                          · have tk_119 := c_eq (a := sd.toInt) (b := 1) rfl (by decide) k_119
                            refine lv_iconst (v := 2) hx hb dX6_endOfPattern_207 (by decide) ?_
                            refine lv_istore (lv' := [(6, .int 2), (8, .int y_4), (7, .int ax), (5, .int op), (4, .int sp), (0, .ref rd), (1, .ref ta), (2, .int i8), (3, .int i9)]) hx hb dX6_endOfPattern_208 hl (by decide) rfl (fun ls hl => ?_)
                            refine lv_goto (tgt := 220) hx hb dX6_endOfPattern_210 (by decide) ?_
                            refine lv_aload_n hx hb dX6_endOfPattern_220 rfl (lv_at hl 5 rfl) ?_
                            refine va_get (D := (dC, dI)) (ci := 6) (v := .int fa) (C := RX6) (T := TX6) (N := 11) hx hb hts fin_X6_endOfPattern_X6 hown hK hP 0 rfl rfl 0 (by decide) (hts (.fieldLink RX6 22 "PatternGate$Reader" "faultKind" "I") (List.mem_of_getElem? (i := 2) (by decide +kernel))) (fun _ h9 => h9) rfl dX6_endOfPattern_221 ?_
                            refine lv_if_eq (tgt := 230) hx hb dX6_endOfPattern_224 (by decide) (fun k_123 => ?_) (fun k_123 => ?_)
                            · have tk_123 := c_eq (a := fa.toInt) (b := 0) rfl (by decide) k_123
                              obtain ⟨y_124, ey_124⟩ : ∃ y : Int32, y = ax + 1 := ⟨_, rfl⟩
                              first | have ty_124 := i_add (a := ax.toInt) (b := 1) rfl (by decide) ey_124 (by omega) (by omega) | skip
                              refine lv_iinc (v := y_124) (lv' := [(7, .int y_124), (6, .int 2), (8, .int y_4), (5, .int op), (4, .int sp), (0, .ref rd), (1, .ref ta), (2, .int i8), (3, .int i9)]) hx hb dX6_endOfPattern_230 hl (k := 2) rfl (by rw [ey_124]; rfl) (by decide) rfl (fun ls hl => ?_)
                              refine lv_goto (tgt := 12) hx hb dX6_endOfPattern_233 (by decide) ?_
                              have lit_124 : (2 : Int32).toInt = 2 := by decide
                              exact ih12 sp op 2 y_124 fa fb (by first | omega | decide | assumption) (by first | omega | decide | assumption) (by omega) _ _ ls hP hD hS (lv_sub hl [0, 1, 3, 4, 5, 6, 7, 8] rfl)
                            · have tk_123 := c_ne (a := fa.toInt) (b := 0) rfl (by decide) k_123
                              refine lv_iload hx hb dX6_endOfPattern_227 (lv_at hl 2 rfl) ?_
                              have hP9 := hP.sub (ws' := [(rd, .inr (6, rF r fa fb a2 a3 a4 a5 a6 a7)), (ta, .inl (cT, nb, .inl ft))]) [0, 1] rfl
                              have hD9 := hD.sub (ws' := [(rd, .inr (6, rF r fa fb a2 a3 a4 a5 a6 a7)), (ta, .inl (cT, nb, .inl ft))]) [0, 1] (by decide) rfl
                              have hK9 := hK.sub (tys' := [(cT, .int)]) [0] rfl
                              exact W.iret hx hb hr (fun t ht hW => ⟨⟨_, (), rfl, by omega, fa, fb, by rw [ht]; exact hP9, va_K.moved hW.alike hK9, hD9⟩, hS.F ht⟩) hS.2.2 dX6_endOfPattern_229
                      · have tk_112 := c_eq (a := y_4.toInt) (b := 41) rfl (by decide) k_112
                        refine lv_iload hx hb dX6_endOfPattern_174 (lv_at hl 3 rfl) ?_
                        refine lv_if_le (tgt := 193) hx hb dX6_endOfPattern_176 (by decide) (fun k_126 => ?_) (fun k_126 => ?_)
                        · have tk_126 := c_le (a := op.toInt) (b := 0) rfl (by decide) k_126
                          refine lv_iload hx hb dX6_endOfPattern_193 (lv_at hl 0 rfl) ?_
                          refine vp_callSi (W.runS (As := [.int y_4]) (rest := []) ⟨hx, hb, hml, hown, hts⟩ (s_isSign l dC dI y_4) (va_cwS 1 hts mg_X6_endOfPattern_X6_isSign_102 rfl rfl rfl (by decide +kernel) ⟨Nat.le_of_ble_eq_true rfl, Nat.le_of_ble_eq_true rfl⟩) ⟨fun a U g mk q => ⟨q.1, trivial⟩, fun U hU hW => ⟨rfl, trivial⟩⟩ rfl rfl hl.1 rfl (lv_room (Nat.le_of_ble_eq_true rfl)) dX6_endOfPattern_195 ⟨Nat.le_of_ble_eq_true rfl, Nat.le_of_ble_eq_true rfl⟩) (fun r_128 hw => ?_)
                          refine lv_if_eq (tgt := 213) hx hb dX6_endOfPattern_198 (by decide) (fun k_129 => ?_) (fun k_129 => ?_)
                          · have tk_129 := c_eq (a := r_128.toInt) (b := 0) rfl (by decide) k_129
                            refine lv_aload_n hx hb dX6_endOfPattern_213 rfl (lv_at hl 5 rfl) ?_
                            refine lv_iconst (v := 1) hx hb dX6_endOfPattern_214 (by decide) ?_
                            refine lv_iload hx hb dX6_endOfPattern_215 (lv_at hl 1 rfl) ?_
                            have hPc := hP.sub (ws' := [(rd, .inr (6, rF r fa fb a2 a3 a4 a5 a6 a7))]) [0] rfl
                            have hKc := hK.sub (tys' := []) [] rfl
                            have hDc := hD.sub (ws' := [(rd, .inr (6, rF r fa fb a2 a3 a4 a5 a6 a7))]) [0] (by decide) rfl
                            have hFc := va_free (wc := [(rd, .inr (6, rF r fa fb a2 a3 a4 a5 a6 a7))]) hD hS hA [0] rfl
                            refine va_callv (va_runV (As := [.int 1, .int ax]) (rest := []) ⟨hx, hb, hml, hown, hts⟩ (s_fail l dC dI rd r fa fb a2 a3 a4 a5 a6 a7 H.size 1 ax) (cwV 2 hts mg_X6_endOfPattern_X6_fail_71 rfl rfl rfl (by decide +kernel) ⟨Nat.le_of_ble_eq_true rfl, Nat.le_of_ble_eq_true rfl⟩) ⟨fun a U g mk q => by obtain ⟨q0, q1, qP, qK, qD⟩ := q; exact ⟨q0, q1, qP, va_K.moved (u := U) (U := U.calling g mk a) (Vm.Alike.refl U.vm) qK, qD⟩, va_recv hKc hPc (ci := 6) (q0 := 0) rfl rfl, fun U hU hW => ⟨rfl, by rw [hU], by rw [hU]; exact hPc, va_K.moved hW.alike hKc, hDc.weaken (fun _ _ _ _ => trivial)⟩⟩ rfl rfl hl.1 rfl (lv_room (Nat.le_of_ble_eq_true rfl)) dX6_endOfPattern_217 ⟨Nat.le_of_ble_eq_true rfl, Nat.le_of_ble_eq_true rfl⟩) hS (fun q _ h => hFc q h) hFc (fun u t H1 locs ht hvm hw hB hz1 hk1 hS => ?_)
                            obtain ⟨hP1, hK1, hD1⟩ := hB
                            rw [ht] at hP1
                            obtain ⟨hP, hD⟩ := va_join (wr := [(ta, .inl (cT, nb, .inl ft))]) (w1 := [(rd, .inr (6, rF r 1 ax a2 a3 a4 a5 a6 a7))]) hP hD [0] [1] rfl rfl (by decide) (by decide) hk1 hFc hP1 hD1
                            generalize H1 = H at hP hS ⊢
                            have hP : va_P (dC, dI) vwCl [(ta, .inl (cT, nb, .inl ft)), (rd, .inr (6, rF r 1 ax a2 a3 a4 a5 a6 a7))] H := hP
                            have hD : va_D A [(ta, .inl (cT, nb, .inl ft)), (rd, .inr (6, rF r 1 ax a2 a3 a4 a5 a6 a7))] := hD
                            refine lv_aload_n hx hb dX6_endOfPattern_220 rfl (lv_at hl 5 rfl) ?_
                            refine va_get (D := (dC, dI)) (ci := 6) (v := .int 1) (C := RX6) (T := TX6) (N := 11) hx hb hts fin_X6_endOfPattern_X6 hown hK hP 1 rfl rfl 0 (by decide) (hts (.fieldLink RX6 22 "PatternGate$Reader" "faultKind" "I") (List.mem_of_getElem? (i := 2) (by decide +kernel))) (fun _ h9 => h9) rfl dX6_endOfPattern_221 ?_
                            refine lv_if_eq (tgt := 230) hx hb dX6_endOfPattern_224 (by decide) (fun k_132 => absurd k_132 (by decide)) (fun k_132 => ?_)
                            have tk_132 := c_ne (a := 1) (b := 0) (by decide) (by decide) k_132
                            refine lv_iload hx hb dX6_endOfPattern_227 (lv_at hl 1 rfl) ?_
                            have hP9 := hP.sub (ws' := [(rd, .inr (6, rF r 1 ax a2 a3 a4 a5 a6 a7)), (ta, .inl (cT, nb, .inl ft))]) [1, 0] rfl
                            have hD9 := hD.sub (ws' := [(rd, .inr (6, rF r 1 ax a2 a3 a4 a5 a6 a7)), (ta, .inl (cT, nb, .inl ft))]) [1, 0] (by decide) rfl
                            have hK9 := hK.sub (tys' := [(cT, .int)]) [0] rfl
                            exact W.iret hx hb hr (fun t ht hW => ⟨⟨_, (), rfl, by omega, 1, ax, by rw [ht]; exact hP9, va_K.moved hW.alike hK9, hD9⟩, hS.F ht⟩) hS.2.2 dX6_endOfPattern_229
                          · have tk_129 := c_ne (a := r_128.toInt) (b := 0) rfl (by decide) k_129
                            refine lv_iload hx hb dX6_endOfPattern_201 (lv_at hl 2 rfl) ?_
                            refine lv_iconst (v := 1) hx hb dX6_endOfPattern_203 (by decide) ?_
                            refine lv_icmp_ne (tgt := 213) hx hb dX6_endOfPattern_204 (by decide) (fun k_133 => ?_) (fun k_133 => ?_)
                            · have tk_133 := c_ne (a := sd.toInt) (b := 1) rfl (by decide) k_133
                              refine lv_aload_n hx hb dX6_endOfPattern_213 rfl (lv_at hl 5 rfl) ?_
                              refine lv_iconst (v := 1) hx hb dX6_endOfPattern_214 (by decide) ?_
                              refine lv_iload hx hb dX6_endOfPattern_215 (lv_at hl 1 rfl) ?_
                              have hPc := hP.sub (ws' := [(rd, .inr (6, rF r fa fb a2 a3 a4 a5 a6 a7))]) [0] rfl
                              have hKc := hK.sub (tys' := []) [] rfl
                              have hDc := hD.sub (ws' := [(rd, .inr (6, rF r fa fb a2 a3 a4 a5 a6 a7))]) [0] (by decide) rfl
                              have hFc := va_free (wc := [(rd, .inr (6, rF r fa fb a2 a3 a4 a5 a6 a7))]) hD hS hA [0] rfl
                              refine va_callv (va_runV (As := [.int 1, .int ax]) (rest := []) ⟨hx, hb, hml, hown, hts⟩ (s_fail l dC dI rd r fa fb a2 a3 a4 a5 a6 a7 H.size 1 ax) (cwV 2 hts mg_X6_endOfPattern_X6_fail_71 rfl rfl rfl (by decide +kernel) ⟨Nat.le_of_ble_eq_true rfl, Nat.le_of_ble_eq_true rfl⟩) ⟨fun a U g mk q => by obtain ⟨q0, q1, qP, qK, qD⟩ := q; exact ⟨q0, q1, qP, va_K.moved (u := U) (U := U.calling g mk a) (Vm.Alike.refl U.vm) qK, qD⟩, va_recv hKc hPc (ci := 6) (q0 := 0) rfl rfl, fun U hU hW => ⟨rfl, by rw [hU], by rw [hU]; exact hPc, va_K.moved hW.alike hKc, hDc.weaken (fun _ _ _ _ => trivial)⟩⟩ rfl rfl hl.1 rfl (lv_room (Nat.le_of_ble_eq_true rfl)) dX6_endOfPattern_217 ⟨Nat.le_of_ble_eq_true rfl, Nat.le_of_ble_eq_true rfl⟩) hS (fun q _ h => hFc q h) hFc (fun u t H1 locs ht hvm hw hB hz1 hk1 hS => ?_)
                              obtain ⟨hP1, hK1, hD1⟩ := hB
                              rw [ht] at hP1
                              obtain ⟨hP, hD⟩ := va_join (wr := [(ta, .inl (cT, nb, .inl ft))]) (w1 := [(rd, .inr (6, rF r 1 ax a2 a3 a4 a5 a6 a7))]) hP hD [0] [1] rfl rfl (by decide) (by decide) hk1 hFc hP1 hD1
                              generalize H1 = H at hP hS ⊢
                              have hP : va_P (dC, dI) vwCl [(ta, .inl (cT, nb, .inl ft)), (rd, .inr (6, rF r 1 ax a2 a3 a4 a5 a6 a7))] H := hP
                              have hD : va_D A [(ta, .inl (cT, nb, .inl ft)), (rd, .inr (6, rF r 1 ax a2 a3 a4 a5 a6 a7))] := hD
                              refine lv_aload_n hx hb dX6_endOfPattern_220 rfl (lv_at hl 5 rfl) ?_
                              refine va_get (D := (dC, dI)) (ci := 6) (v := .int 1) (C := RX6) (T := TX6) (N := 11) hx hb hts fin_X6_endOfPattern_X6 hown hK hP 1 rfl rfl 0 (by decide) (hts (.fieldLink RX6 22 "PatternGate$Reader" "faultKind" "I") (List.mem_of_getElem? (i := 2) (by decide +kernel))) (fun _ h9 => h9) rfl dX6_endOfPattern_221 ?_
                              refine lv_if_eq (tgt := 230) hx hb dX6_endOfPattern_224 (by decide) (fun k_136 => absurd k_136 (by decide)) (fun k_136 => ?_)
                              have tk_136 := c_ne (a := 1) (b := 0) (by decide) (by decide) k_136
                              refine lv_iload hx hb dX6_endOfPattern_227 (lv_at hl 1 rfl) ?_
                              have hP9 := hP.sub (ws' := [(rd, .inr (6, rF r 1 ax a2 a3 a4 a5 a6 a7)), (ta, .inl (cT, nb, .inl ft))]) [1, 0] rfl
                              have hD9 := hD.sub (ws' := [(rd, .inr (6, rF r 1 ax a2 a3 a4 a5 a6 a7)), (ta, .inl (cT, nb, .inl ft))]) [1, 0] (by decide) rfl
                              have hK9 := hK.sub (tys' := [(cT, .int)]) [0] rfl
                              exact W.iret hx hb hr (fun t ht hW => ⟨⟨_, (), rfl, by omega, 1, ax, by rw [ht]; exact hP9, va_K.moved hW.alike hK9, hD9⟩, hS.F ht⟩) hS.2.2 dX6_endOfPattern_229
                            · have tk_133 := c_eq (a := sd.toInt) (b := 1) rfl (by decide) k_133
                              refine lv_iconst (v := 2) hx hb dX6_endOfPattern_207 (by decide) ?_
                              refine lv_istore (lv' := [(6, .int 2), (8, .int y_4), (7, .int ax), (5, .int op), (4, .int sp), (0, .ref rd), (1, .ref ta), (2, .int i8), (3, .int i9)]) hx hb dX6_endOfPattern_208 hl (by decide) rfl (fun ls hl => ?_)
                              refine lv_goto (tgt := 220) hx hb dX6_endOfPattern_210 (by decide) ?_
                              refine lv_aload_n hx hb dX6_endOfPattern_220 rfl (lv_at hl 5 rfl) ?_
                              refine va_get (D := (dC, dI)) (ci := 6) (v := .int fa) (C := RX6) (T := TX6) (N := 11) hx hb hts fin_X6_endOfPattern_X6 hown hK hP 0 rfl rfl 0 (by decide) (hts (.fieldLink RX6 22 "PatternGate$Reader" "faultKind" "I") (List.mem_of_getElem? (i := 2) (by decide +kernel))) (fun _ h9 => h9) rfl dX6_endOfPattern_221 ?_
                              refine lv_if_eq (tgt := 230) hx hb dX6_endOfPattern_224 (by decide) (fun k_137 => ?_) (fun k_137 => ?_)
                              · have tk_137 := c_eq (a := fa.toInt) (b := 0) rfl (by decide) k_137
                                obtain ⟨y_138, ey_138⟩ : ∃ y : Int32, y = ax + 1 := ⟨_, rfl⟩
                                first | have ty_138 := i_add (a := ax.toInt) (b := 1) rfl (by decide) ey_138 (by omega) (by omega) | skip
                                refine lv_iinc (v := y_138) (lv' := [(7, .int y_138), (6, .int 2), (8, .int y_4), (5, .int op), (4, .int sp), (0, .ref rd), (1, .ref ta), (2, .int i8), (3, .int i9)]) hx hb dX6_endOfPattern_230 hl (k := 2) rfl (by rw [ey_138]; rfl) (by decide) rfl (fun ls hl => ?_)
                                refine lv_goto (tgt := 12) hx hb dX6_endOfPattern_233 (by decide) ?_
                                have lit_138 : (2 : Int32).toInt = 2 := by decide
                                exact ih12 sp op 2 y_138 fa fb (by first | omega | decide | assumption) (by first | omega | decide | assumption) (by omega) _ _ ls hP hD hS (lv_sub hl [0, 1, 3, 4, 5, 6, 7, 8] rfl)
                              · have tk_137 := c_ne (a := fa.toInt) (b := 0) rfl (by decide) k_137
                                refine lv_iload hx hb dX6_endOfPattern_227 (lv_at hl 2 rfl) ?_
                                have hP9 := hP.sub (ws' := [(rd, .inr (6, rF r fa fb a2 a3 a4 a5 a6 a7)), (ta, .inl (cT, nb, .inl ft))]) [0, 1] rfl
                                have hD9 := hD.sub (ws' := [(rd, .inr (6, rF r fa fb a2 a3 a4 a5 a6 a7)), (ta, .inl (cT, nb, .inl ft))]) [0, 1] (by decide) rfl
                                have hK9 := hK.sub (tys' := [(cT, .int)]) [0] rfl
                                exact W.iret hx hb hr (fun t ht hW => ⟨⟨_, (), rfl, by omega, fa, fb, by rw [ht]; exact hP9, va_K.moved hW.alike hK9, hD9⟩, hS.F ht⟩) hS.2.2 dX6_endOfPattern_229
                        · have tk_126 := c_nle (a := op.toInt) (b := 0) rfl (by decide) k_126
                          refine lv_iload hx hb dX6_endOfPattern_179 (lv_at hl 2 rfl) ?_
                          refine lv_if_eq (tgt := 193) hx hb dX6_endOfPattern_181 (by decide) (fun k_140 => ?_) (fun k_140 => ?_)
                          · have tk_140 := c_eq (a := sd.toInt) (b := 0) rfl (by decide) k_140
                            refine lv_iload hx hb dX6_endOfPattern_193 (lv_at hl 0 rfl) ?_
                            refine vp_callSi (W.runS (As := [.int y_4]) (rest := []) ⟨hx, hb, hml, hown, hts⟩ (s_isSign l dC dI y_4) (va_cwS 1 hts mg_X6_endOfPattern_X6_isSign_102 rfl rfl rfl (by decide +kernel) ⟨Nat.le_of_ble_eq_true rfl, Nat.le_of_ble_eq_true rfl⟩) ⟨fun a U g mk q => ⟨q.1, trivial⟩, fun U hU hW => ⟨rfl, trivial⟩⟩ rfl rfl hl.1 rfl (lv_room (Nat.le_of_ble_eq_true rfl)) dX6_endOfPattern_195 ⟨Nat.le_of_ble_eq_true rfl, Nat.le_of_ble_eq_true rfl⟩) (fun r_142 hw => ?_)
                            refine lv_if_eq (tgt := 213) hx hb dX6_endOfPattern_198 (by decide) (fun k_143 => ?_) (fun k_143 => ?_)
                            · have tk_143 := c_eq (a := r_142.toInt) (b := 0) rfl (by decide) k_143
                              refine lv_aload_n hx hb dX6_endOfPattern_213 rfl (lv_at hl 5 rfl) ?_
                              refine lv_iconst (v := 1) hx hb dX6_endOfPattern_214 (by decide) ?_
                              refine lv_iload hx hb dX6_endOfPattern_215 (lv_at hl 1 rfl) ?_
                              have hPc := hP.sub (ws' := [(rd, .inr (6, rF r fa fb a2 a3 a4 a5 a6 a7))]) [0] rfl
                              have hKc := hK.sub (tys' := []) [] rfl
                              have hDc := hD.sub (ws' := [(rd, .inr (6, rF r fa fb a2 a3 a4 a5 a6 a7))]) [0] (by decide) rfl
                              have hFc := va_free (wc := [(rd, .inr (6, rF r fa fb a2 a3 a4 a5 a6 a7))]) hD hS hA [0] rfl
                              refine va_callv (va_runV (As := [.int 1, .int ax]) (rest := []) ⟨hx, hb, hml, hown, hts⟩ (s_fail l dC dI rd r fa fb a2 a3 a4 a5 a6 a7 H.size 1 ax) (cwV 2 hts mg_X6_endOfPattern_X6_fail_71 rfl rfl rfl (by decide +kernel) ⟨Nat.le_of_ble_eq_true rfl, Nat.le_of_ble_eq_true rfl⟩) ⟨fun a U g mk q => by obtain ⟨q0, q1, qP, qK, qD⟩ := q; exact ⟨q0, q1, qP, va_K.moved (u := U) (U := U.calling g mk a) (Vm.Alike.refl U.vm) qK, qD⟩, va_recv hKc hPc (ci := 6) (q0 := 0) rfl rfl, fun U hU hW => ⟨rfl, by rw [hU], by rw [hU]; exact hPc, va_K.moved hW.alike hKc, hDc.weaken (fun _ _ _ _ => trivial)⟩⟩ rfl rfl hl.1 rfl (lv_room (Nat.le_of_ble_eq_true rfl)) dX6_endOfPattern_217 ⟨Nat.le_of_ble_eq_true rfl, Nat.le_of_ble_eq_true rfl⟩) hS (fun q _ h => hFc q h) hFc (fun u t H1 locs ht hvm hw hB hz1 hk1 hS => ?_)
                              obtain ⟨hP1, hK1, hD1⟩ := hB
                              rw [ht] at hP1
                              obtain ⟨hP, hD⟩ := va_join (wr := [(ta, .inl (cT, nb, .inl ft))]) (w1 := [(rd, .inr (6, rF r 1 ax a2 a3 a4 a5 a6 a7))]) hP hD [0] [1] rfl rfl (by decide) (by decide) hk1 hFc hP1 hD1
                              generalize H1 = H at hP hS ⊢
                              have hP : va_P (dC, dI) vwCl [(ta, .inl (cT, nb, .inl ft)), (rd, .inr (6, rF r 1 ax a2 a3 a4 a5 a6 a7))] H := hP
                              have hD : va_D A [(ta, .inl (cT, nb, .inl ft)), (rd, .inr (6, rF r 1 ax a2 a3 a4 a5 a6 a7))] := hD
                              refine lv_aload_n hx hb dX6_endOfPattern_220 rfl (lv_at hl 5 rfl) ?_
                              refine va_get (D := (dC, dI)) (ci := 6) (v := .int 1) (C := RX6) (T := TX6) (N := 11) hx hb hts fin_X6_endOfPattern_X6 hown hK hP 1 rfl rfl 0 (by decide) (hts (.fieldLink RX6 22 "PatternGate$Reader" "faultKind" "I") (List.mem_of_getElem? (i := 2) (by decide +kernel))) (fun _ h9 => h9) rfl dX6_endOfPattern_221 ?_
                              refine lv_if_eq (tgt := 230) hx hb dX6_endOfPattern_224 (by decide) (fun k_146 => absurd k_146 (by decide)) (fun k_146 => ?_)
                              have tk_146 := c_ne (a := 1) (b := 0) (by decide) (by decide) k_146
                              refine lv_iload hx hb dX6_endOfPattern_227 (lv_at hl 1 rfl) ?_
                              have hP9 := hP.sub (ws' := [(rd, .inr (6, rF r 1 ax a2 a3 a4 a5 a6 a7)), (ta, .inl (cT, nb, .inl ft))]) [1, 0] rfl
                              have hD9 := hD.sub (ws' := [(rd, .inr (6, rF r 1 ax a2 a3 a4 a5 a6 a7)), (ta, .inl (cT, nb, .inl ft))]) [1, 0] (by decide) rfl
                              have hK9 := hK.sub (tys' := [(cT, .int)]) [0] rfl
                              exact W.iret hx hb hr (fun t ht hW => ⟨⟨_, (), rfl, by omega, 1, ax, by rw [ht]; exact hP9, va_K.moved hW.alike hK9, hD9⟩, hS.F ht⟩) hS.2.2 dX6_endOfPattern_229
                            · have tk_143 := c_ne (a := r_142.toInt) (b := 0) rfl (by decide) k_143
                              refine lv_iload hx hb dX6_endOfPattern_201 (lv_at hl 2 rfl) ?_
                              refine lv_iconst (v := 1) hx hb dX6_endOfPattern_203 (by decide) ?_
                              refine lv_icmp_ne (tgt := 213) hx hb dX6_endOfPattern_204 (by decide) (fun k_147 => ?_) (fun k_147 => ?_)
                              · have tk_147 := c_ne (a := sd.toInt) (b := 1) rfl (by decide) k_147
                                refine lv_aload_n hx hb dX6_endOfPattern_213 rfl (lv_at hl 5 rfl) ?_
                                refine lv_iconst (v := 1) hx hb dX6_endOfPattern_214 (by decide) ?_
                                refine lv_iload hx hb dX6_endOfPattern_215 (lv_at hl 1 rfl) ?_
                                have hPc := hP.sub (ws' := [(rd, .inr (6, rF r fa fb a2 a3 a4 a5 a6 a7))]) [0] rfl
                                have hKc := hK.sub (tys' := []) [] rfl
                                have hDc := hD.sub (ws' := [(rd, .inr (6, rF r fa fb a2 a3 a4 a5 a6 a7))]) [0] (by decide) rfl
                                have hFc := va_free (wc := [(rd, .inr (6, rF r fa fb a2 a3 a4 a5 a6 a7))]) hD hS hA [0] rfl
                                refine va_callv (va_runV (As := [.int 1, .int ax]) (rest := []) ⟨hx, hb, hml, hown, hts⟩ (s_fail l dC dI rd r fa fb a2 a3 a4 a5 a6 a7 H.size 1 ax) (cwV 2 hts mg_X6_endOfPattern_X6_fail_71 rfl rfl rfl (by decide +kernel) ⟨Nat.le_of_ble_eq_true rfl, Nat.le_of_ble_eq_true rfl⟩) ⟨fun a U g mk q => by obtain ⟨q0, q1, qP, qK, qD⟩ := q; exact ⟨q0, q1, qP, va_K.moved (u := U) (U := U.calling g mk a) (Vm.Alike.refl U.vm) qK, qD⟩, va_recv hKc hPc (ci := 6) (q0 := 0) rfl rfl, fun U hU hW => ⟨rfl, by rw [hU], by rw [hU]; exact hPc, va_K.moved hW.alike hKc, hDc.weaken (fun _ _ _ _ => trivial)⟩⟩ rfl rfl hl.1 rfl (lv_room (Nat.le_of_ble_eq_true rfl)) dX6_endOfPattern_217 ⟨Nat.le_of_ble_eq_true rfl, Nat.le_of_ble_eq_true rfl⟩) hS (fun q _ h => hFc q h) hFc (fun u t H1 locs ht hvm hw hB hz1 hk1 hS => ?_)
                                obtain ⟨hP1, hK1, hD1⟩ := hB
                                rw [ht] at hP1
                                obtain ⟨hP, hD⟩ := va_join (wr := [(ta, .inl (cT, nb, .inl ft))]) (w1 := [(rd, .inr (6, rF r 1 ax a2 a3 a4 a5 a6 a7))]) hP hD [0] [1] rfl rfl (by decide) (by decide) hk1 hFc hP1 hD1
                                generalize H1 = H at hP hS ⊢
                                have hP : va_P (dC, dI) vwCl [(ta, .inl (cT, nb, .inl ft)), (rd, .inr (6, rF r 1 ax a2 a3 a4 a5 a6 a7))] H := hP
                                have hD : va_D A [(ta, .inl (cT, nb, .inl ft)), (rd, .inr (6, rF r 1 ax a2 a3 a4 a5 a6 a7))] := hD
                                refine lv_aload_n hx hb dX6_endOfPattern_220 rfl (lv_at hl 5 rfl) ?_
                                refine va_get (D := (dC, dI)) (ci := 6) (v := .int 1) (C := RX6) (T := TX6) (N := 11) hx hb hts fin_X6_endOfPattern_X6 hown hK hP 1 rfl rfl 0 (by decide) (hts (.fieldLink RX6 22 "PatternGate$Reader" "faultKind" "I") (List.mem_of_getElem? (i := 2) (by decide +kernel))) (fun _ h9 => h9) rfl dX6_endOfPattern_221 ?_
                                refine lv_if_eq (tgt := 230) hx hb dX6_endOfPattern_224 (by decide) (fun k_150 => absurd k_150 (by decide)) (fun k_150 => ?_)
                                have tk_150 := c_ne (a := 1) (b := 0) (by decide) (by decide) k_150
                                refine lv_iload hx hb dX6_endOfPattern_227 (lv_at hl 1 rfl) ?_
                                have hP9 := hP.sub (ws' := [(rd, .inr (6, rF r 1 ax a2 a3 a4 a5 a6 a7)), (ta, .inl (cT, nb, .inl ft))]) [1, 0] rfl
                                have hD9 := hD.sub (ws' := [(rd, .inr (6, rF r 1 ax a2 a3 a4 a5 a6 a7)), (ta, .inl (cT, nb, .inl ft))]) [1, 0] (by decide) rfl
                                have hK9 := hK.sub (tys' := [(cT, .int)]) [0] rfl
                                exact W.iret hx hb hr (fun t ht hW => ⟨⟨_, (), rfl, by omega, 1, ax, by rw [ht]; exact hP9, va_K.moved hW.alike hK9, hD9⟩, hS.F ht⟩) hS.2.2 dX6_endOfPattern_229
                              · have tk_147 := c_eq (a := sd.toInt) (b := 1) rfl (by decide) k_147
                                refine lv_iconst (v := 2) hx hb dX6_endOfPattern_207 (by decide) ?_
                                refine lv_istore (lv' := [(6, .int 2), (8, .int y_4), (7, .int ax), (5, .int op), (4, .int sp), (0, .ref rd), (1, .ref ta), (2, .int i8), (3, .int i9)]) hx hb dX6_endOfPattern_208 hl (by decide) rfl (fun ls hl => ?_)
                                refine lv_goto (tgt := 220) hx hb dX6_endOfPattern_210 (by decide) ?_
                                refine lv_aload_n hx hb dX6_endOfPattern_220 rfl (lv_at hl 5 rfl) ?_
                                refine va_get (D := (dC, dI)) (ci := 6) (v := .int fa) (C := RX6) (T := TX6) (N := 11) hx hb hts fin_X6_endOfPattern_X6 hown hK hP 0 rfl rfl 0 (by decide) (hts (.fieldLink RX6 22 "PatternGate$Reader" "faultKind" "I") (List.mem_of_getElem? (i := 2) (by decide +kernel))) (fun _ h9 => h9) rfl dX6_endOfPattern_221 ?_
                                refine lv_if_eq (tgt := 230) hx hb dX6_endOfPattern_224 (by decide) (fun k_151 => ?_) (fun k_151 => ?_)
                                · have tk_151 := c_eq (a := fa.toInt) (b := 0) rfl (by decide) k_151
                                  obtain ⟨y_152, ey_152⟩ : ∃ y : Int32, y = ax + 1 := ⟨_, rfl⟩
                                  first | have ty_152 := i_add (a := ax.toInt) (b := 1) rfl (by decide) ey_152 (by omega) (by omega) | skip
                                  refine lv_iinc (v := y_152) (lv' := [(7, .int y_152), (6, .int 2), (8, .int y_4), (5, .int op), (4, .int sp), (0, .ref rd), (1, .ref ta), (2, .int i8), (3, .int i9)]) hx hb dX6_endOfPattern_230 hl (k := 2) rfl (by rw [ey_152]; rfl) (by decide) rfl (fun ls hl => ?_)
                                  refine lv_goto (tgt := 12) hx hb dX6_endOfPattern_233 (by decide) ?_
                                  have lit_152 : (2 : Int32).toInt = 2 := by decide
                                  exact ih12 sp op 2 y_152 fa fb (by first | omega | decide | assumption) (by first | omega | decide | assumption) (by omega) _ _ ls hP hD hS (lv_sub hl [0, 1, 3, 4, 5, 6, 7, 8] rfl)
                                · have tk_151 := c_ne (a := fa.toInt) (b := 0) rfl (by decide) k_151
                                  refine lv_iload hx hb dX6_endOfPattern_227 (lv_at hl 2 rfl) ?_
                                  have hP9 := hP.sub (ws' := [(rd, .inr (6, rF r fa fb a2 a3 a4 a5 a6 a7)), (ta, .inl (cT, nb, .inl ft))]) [0, 1] rfl
                                  have hD9 := hD.sub (ws' := [(rd, .inr (6, rF r fa fb a2 a3 a4 a5 a6 a7)), (ta, .inl (cT, nb, .inl ft))]) [0, 1] (by decide) rfl
                                  have hK9 := hK.sub (tys' := [(cT, .int)]) [0] rfl
                                  exact W.iret hx hb hr (fun t ht hW => ⟨⟨_, (), rfl, by omega, fa, fb, by rw [ht]; exact hP9, va_K.moved hW.alike hK9, hD9⟩, hS.F ht⟩) hS.2.2 dX6_endOfPattern_229
                          · have tk_140 := c_ne (a := sd.toInt) (b := 0) rfl (by decide) k_140
                            obtain ⟨y_154, ey_154⟩ : ∃ y : Int32, y = op + (-1) := ⟨_, rfl⟩
                            first | have ty_154 := i_add (a := op.toInt) (b := (-1)) rfl (by decide) ey_154 (by omega) (by omega) | skip
                            refine lv_iinc (v := y_154) (lv' := [(5, .int y_154), (8, .int y_4), (7, .int ax), (6, .int sd), (4, .int sp), (0, .ref rd), (1, .ref ta), (2, .int i8), (3, .int i9)]) hx hb dX6_endOfPattern_184 hl (k := 3) rfl (by rw [ey_154]; rfl) (by decide) rfl (fun ls hl => ?_)
                            refine lv_iconst (v := 1) hx hb dX6_endOfPattern_187 (by decide) ?_
                            refine lv_istore (lv' := [(6, .int 1), (5, .int y_154), (8, .int y_4), (7, .int ax), (4, .int sp), (0, .ref rd), (1, .ref ta), (2, .int i8), (3, .int i9)]) hx hb dX6_endOfPattern_188 hl (by decide) rfl (fun ls hl => ?_)
                            refine lv_goto (tgt := 220) hx hb dX6_endOfPattern_190 (by decide) ?_
                            refine lv_aload_n hx hb dX6_endOfPattern_220 rfl (lv_at hl 5 rfl) ?_
                            refine va_get (D := (dC, dI)) (ci := 6) (v := .int fa) (C := RX6) (T := TX6) (N := 11) hx hb hts fin_X6_endOfPattern_X6 hown hK hP 0 rfl rfl 0 (by decide) (hts (.fieldLink RX6 22 "PatternGate$Reader" "faultKind" "I") (List.mem_of_getElem? (i := 2) (by decide +kernel))) (fun _ h9 => h9) rfl dX6_endOfPattern_221 ?_
                            refine lv_if_eq (tgt := 230) hx hb dX6_endOfPattern_224 (by decide) (fun k_155 => ?_) (fun k_155 => ?_)
                            · have tk_155 := c_eq (a := fa.toInt) (b := 0) rfl (by decide) k_155
                              obtain ⟨y_156, ey_156⟩ : ∃ y : Int32, y = ax + 1 := ⟨_, rfl⟩
                              first | have ty_156 := i_add (a := ax.toInt) (b := 1) rfl (by decide) ey_156 (by omega) (by omega) | skip
                              refine lv_iinc (v := y_156) (lv' := [(7, .int y_156), (6, .int 1), (5, .int y_154), (8, .int y_4), (4, .int sp), (0, .ref rd), (1, .ref ta), (2, .int i8), (3, .int i9)]) hx hb dX6_endOfPattern_230 hl (k := 3) rfl (by rw [ey_156]; rfl) (by decide) rfl (fun ls hl => ?_)
                              refine lv_goto (tgt := 12) hx hb dX6_endOfPattern_233 (by decide) ?_
                              have lit_156 : (1 : Int32).toInt = 1 := by decide
                              exact ih12 sp y_154 1 y_156 fa fb (by first | omega | decide | assumption) (by first | omega | decide | assumption) (by omega) _ _ ls hP hD hS (lv_sub hl [0, 1, 2, 4, 5, 6, 7, 8] rfl)
                            · have tk_155 := c_ne (a := fa.toInt) (b := 0) rfl (by decide) k_155
                              refine lv_iload hx hb dX6_endOfPattern_227 (lv_at hl 3 rfl) ?_
                              have hP9 := hP.sub (ws' := [(rd, .inr (6, rF r fa fb a2 a3 a4 a5 a6 a7)), (ta, .inl (cT, nb, .inl ft))]) [0, 1] rfl
                              have hD9 := hD.sub (ws' := [(rd, .inr (6, rF r fa fb a2 a3 a4 a5 a6 a7)), (ta, .inl (cT, nb, .inl ft))]) [0, 1] (by decide) rfl
                              have hK9 := hK.sub (tys' := [(cT, .int)]) [0] rfl
                              exact W.iret hx hb hr (fun t ht hW => ⟨⟨_, (), rfl, by omega, fa, fb, by rw [ht]; exact hP9, va_K.moved hW.alike hK9, hD9⟩, hS.F ht⟩) hS.2.2 dX6_endOfPattern_229
                    · have tk_111 := c_ne (a := sd.toInt) (b := 0) rfl (by decide) k_111
                      refine lv_iconst (v := 0) hx hb dX6_endOfPattern_161 (by decide) ?_
                      refine lv_istore (lv' := [(6, .int 0), (8, .int y_4), (7, .int ax), (5, .int op), (4, .int sp), (0, .ref rd), (1, .ref ta), (2, .int i8), (3, .int i9)]) hx hb dX6_endOfPattern_162 hl (by decide) rfl (fun ls hl => ?_)
                      refine lv_goto (tgt := 220) hx hb dX6_endOfPattern_164 (by decide) ?_
                      refine lv_aload_n hx hb dX6_endOfPattern_220 rfl (lv_at hl 5 rfl) ?_
                      refine va_get (D := (dC, dI)) (ci := 6) (v := .int fa) (C := RX6) (T := TX6) (N := 11) hx hb hts fin_X6_endOfPattern_X6 hown hK hP 0 rfl rfl 0 (by decide) (hts (.fieldLink RX6 22 "PatternGate$Reader" "faultKind" "I") (List.mem_of_getElem? (i := 2) (by decide +kernel))) (fun _ h9 => h9) rfl dX6_endOfPattern_221 ?_
                      refine lv_if_eq (tgt := 230) hx hb dX6_endOfPattern_224 (by decide) (fun k_158 => ?_) (fun k_158 => ?_)
                      · have tk_158 := c_eq (a := fa.toInt) (b := 0) rfl (by decide) k_158
                        obtain ⟨y_159, ey_159⟩ : ∃ y : Int32, y = ax + 1 := ⟨_, rfl⟩
                        first | have ty_159 := i_add (a := ax.toInt) (b := 1) rfl (by decide) ey_159 (by omega) (by omega) | skip
                        refine lv_iinc (v := y_159) (lv' := [(7, .int y_159), (6, .int 0), (8, .int y_4), (5, .int op), (4, .int sp), (0, .ref rd), (1, .ref ta), (2, .int i8), (3, .int i9)]) hx hb dX6_endOfPattern_230 hl (k := 2) rfl (by rw [ey_159]; rfl) (by decide) rfl (fun ls hl => ?_)
                        refine lv_goto (tgt := 12) hx hb dX6_endOfPattern_233 (by decide) ?_
                        have lit_159 : (0 : Int32).toInt = 0 := by decide
                        exact ih12 sp op 0 y_159 fa fb (by first | omega | decide | assumption) (by first | omega | decide | assumption) (by omega) _ _ ls hP hD hS (lv_sub hl [0, 1, 3, 4, 5, 6, 7, 8] rfl)
                      · have tk_158 := c_ne (a := fa.toInt) (b := 0) rfl (by decide) k_158
                        refine lv_iload hx hb dX6_endOfPattern_227 (lv_at hl 2 rfl) ?_
                        have hP9 := hP.sub (ws' := [(rd, .inr (6, rF r fa fb a2 a3 a4 a5 a6 a7)), (ta, .inl (cT, nb, .inl ft))]) [0, 1] rfl
                        have hD9 := hD.sub (ws' := [(rd, .inr (6, rF r fa fb a2 a3 a4 a5 a6 a7)), (ta, .inl (cT, nb, .inl ft))]) [0, 1] (by decide) rfl
                        have hK9 := hK.sub (tys' := [(cT, .int)]) [0] rfl
                        exact W.iret hx hb hr (fun t ht hW => ⟨⟨_, (), rfl, by omega, fa, fb, by rw [ht]; exact hP9, va_K.moved hW.alike hK9, hD9⟩, hS.F ht⟩) hS.2.2 dX6_endOfPattern_229
                · have tk_63 := c_eq (a := y_4.toInt) (b := 34) rfl (by decide) k_63
                  refine lv_iload hx hb dX6_endOfPattern_136 (lv_at hl 3 rfl) ?_
                  refine lv_if_ne (tgt := 149) hx hb dX6_endOfPattern_138 (by decide) (fun k_161 => ?_) (fun k_161 => ?_)
                  · have tk_161 := c_ne (a := op.toInt) (b := 0) rfl (by decide) k_161
                    refine lv_iload hx hb dX6_endOfPattern_149 (lv_at hl 0 rfl) ?_
                    refine lv_bipush (v := 124) hx hb dX6_endOfPattern_151 (by decide) ?_
                    refine lv_icmp_ne (tgt := 167) hx hb dX6_endOfPattern_153 (by decide) (fun k_162 => ?_) (fun k_162 => ?_)
                    · have tk_162 := c_ne (a := y_4.toInt) (b := 124) rfl (by decide) k_162
                      refine lv_iload hx hb dX6_endOfPattern_167 (lv_at hl 0 rfl) ?_
                      refine lv_bipush (v := 41) hx hb dX6_endOfPattern_169 (by decide) ?_
                      refine lv_icmp_ne (tgt := 193) hx hb dX6_endOfPattern_171 (by decide) (fun k_163 => ?_) (fun k_163 => ?_)
                      · have tk_163 := c_ne (a := y_4.toInt) (b := 41) rfl (by decide) k_163
                        refine lv_iload hx hb dX6_endOfPattern_193 (lv_at hl 0 rfl) ?_
                        refine vp_callSi (W.runS (As := [.int y_4]) (rest := []) ⟨hx, hb, hml, hown, hts⟩ (s_isSign l dC dI y_4) (va_cwS 1 hts mg_X6_endOfPattern_X6_isSign_102 rfl rfl rfl (by decide +kernel) ⟨Nat.le_of_ble_eq_true rfl, Nat.le_of_ble_eq_true rfl⟩) ⟨fun a U g mk q => ⟨q.1, trivial⟩, fun U hU hW => ⟨rfl, trivial⟩⟩ rfl rfl hl.1 rfl (lv_room (Nat.le_of_ble_eq_true rfl)) dX6_endOfPattern_195 ⟨Nat.le_of_ble_eq_true rfl, Nat.le_of_ble_eq_true rfl⟩) (fun r_165 hw => ?_)
                        refine lv_if_eq (tgt := 213) hx hb dX6_endOfPattern_198 (by decide) (fun k_166 => ?_) (fun k_166 => ?_)
                        · have tk_166 := c_eq (a := r_165.toInt) (b := 0) rfl (by decide) k_166
                          refine lv_aload_n hx hb dX6_endOfPattern_213 rfl (lv_at hl 5 rfl) ?_
                          refine lv_iconst (v := 1) hx hb dX6_endOfPattern_214 (by decide) ?_
                          refine lv_iload hx hb dX6_endOfPattern_215 (lv_at hl 1 rfl) ?_
                          have hPc := hP.sub (ws' := [(rd, .inr (6, rF r fa fb a2 a3 a4 a5 a6 a7))]) [0] rfl
                          have hKc := hK.sub (tys' := []) [] rfl
                          have hDc := hD.sub (ws' := [(rd, .inr (6, rF r fa fb a2 a3 a4 a5 a6 a7))]) [0] (by decide) rfl
                          have hFc := va_free (wc := [(rd, .inr (6, rF r fa fb a2 a3 a4 a5 a6 a7))]) hD hS hA [0] rfl
                          refine va_callv (va_runV (As := [.int 1, .int ax]) (rest := []) ⟨hx, hb, hml, hown, hts⟩ (s_fail l dC dI rd r fa fb a2 a3 a4 a5 a6 a7 H.size 1 ax) (cwV 2 hts mg_X6_endOfPattern_X6_fail_71 rfl rfl rfl (by decide +kernel) ⟨Nat.le_of_ble_eq_true rfl, Nat.le_of_ble_eq_true rfl⟩) ⟨fun a U g mk q => by obtain ⟨q0, q1, qP, qK, qD⟩ := q; exact ⟨q0, q1, qP, va_K.moved (u := U) (U := U.calling g mk a) (Vm.Alike.refl U.vm) qK, qD⟩, va_recv hKc hPc (ci := 6) (q0 := 0) rfl rfl, fun U hU hW => ⟨rfl, by rw [hU], by rw [hU]; exact hPc, va_K.moved hW.alike hKc, hDc.weaken (fun _ _ _ _ => trivial)⟩⟩ rfl rfl hl.1 rfl (lv_room (Nat.le_of_ble_eq_true rfl)) dX6_endOfPattern_217 ⟨Nat.le_of_ble_eq_true rfl, Nat.le_of_ble_eq_true rfl⟩) hS (fun q _ h => hFc q h) hFc (fun u t H1 locs ht hvm hw hB hz1 hk1 hS => ?_)
                          obtain ⟨hP1, hK1, hD1⟩ := hB
                          rw [ht] at hP1
                          obtain ⟨hP, hD⟩ := va_join (wr := [(ta, .inl (cT, nb, .inl ft))]) (w1 := [(rd, .inr (6, rF r 1 ax a2 a3 a4 a5 a6 a7))]) hP hD [0] [1] rfl rfl (by decide) (by decide) hk1 hFc hP1 hD1
                          generalize H1 = H at hP hS ⊢
                          have hP : va_P (dC, dI) vwCl [(ta, .inl (cT, nb, .inl ft)), (rd, .inr (6, rF r 1 ax a2 a3 a4 a5 a6 a7))] H := hP
                          have hD : va_D A [(ta, .inl (cT, nb, .inl ft)), (rd, .inr (6, rF r 1 ax a2 a3 a4 a5 a6 a7))] := hD
                          refine lv_aload_n hx hb dX6_endOfPattern_220 rfl (lv_at hl 5 rfl) ?_
                          refine va_get (D := (dC, dI)) (ci := 6) (v := .int 1) (C := RX6) (T := TX6) (N := 11) hx hb hts fin_X6_endOfPattern_X6 hown hK hP 1 rfl rfl 0 (by decide) (hts (.fieldLink RX6 22 "PatternGate$Reader" "faultKind" "I") (List.mem_of_getElem? (i := 2) (by decide +kernel))) (fun _ h9 => h9) rfl dX6_endOfPattern_221 ?_
                          refine lv_if_eq (tgt := 230) hx hb dX6_endOfPattern_224 (by decide) (fun k_169 => absurd k_169 (by decide)) (fun k_169 => ?_)
                          have tk_169 := c_ne (a := 1) (b := 0) (by decide) (by decide) k_169
                          refine lv_iload hx hb dX6_endOfPattern_227 (lv_at hl 1 rfl) ?_
                          have hP9 := hP.sub (ws' := [(rd, .inr (6, rF r 1 ax a2 a3 a4 a5 a6 a7)), (ta, .inl (cT, nb, .inl ft))]) [1, 0] rfl
                          have hD9 := hD.sub (ws' := [(rd, .inr (6, rF r 1 ax a2 a3 a4 a5 a6 a7)), (ta, .inl (cT, nb, .inl ft))]) [1, 0] (by decide) rfl
                          have hK9 := hK.sub (tys' := [(cT, .int)]) [0] rfl
                          exact W.iret hx hb hr (fun t ht hW => ⟨⟨_, (), rfl, by omega, 1, ax, by rw [ht]; exact hP9, va_K.moved hW.alike hK9, hD9⟩, hS.F ht⟩) hS.2.2 dX6_endOfPattern_229
                        · have tk_166 := c_ne (a := r_165.toInt) (b := 0) rfl (by decide) k_166
                          refine lv_iload hx hb dX6_endOfPattern_201 (lv_at hl 2 rfl) ?_
                          refine lv_iconst (v := 1) hx hb dX6_endOfPattern_203 (by decide) ?_
                          refine lv_icmp_ne (tgt := 213) hx hb dX6_endOfPattern_204 (by decide) (fun k_170 => ?_) (fun k_170 => ?_)
                          · have tk_170 := c_ne (a := sd.toInt) (b := 1) rfl (by decide) k_170
                            refine lv_aload_n hx hb dX6_endOfPattern_213 rfl (lv_at hl 5 rfl) ?_
                            refine lv_iconst (v := 1) hx hb dX6_endOfPattern_214 (by decide) ?_
                            refine lv_iload hx hb dX6_endOfPattern_215 (lv_at hl 1 rfl) ?_
                            have hPc := hP.sub (ws' := [(rd, .inr (6, rF r fa fb a2 a3 a4 a5 a6 a7))]) [0] rfl
                            have hKc := hK.sub (tys' := []) [] rfl
                            have hDc := hD.sub (ws' := [(rd, .inr (6, rF r fa fb a2 a3 a4 a5 a6 a7))]) [0] (by decide) rfl
                            have hFc := va_free (wc := [(rd, .inr (6, rF r fa fb a2 a3 a4 a5 a6 a7))]) hD hS hA [0] rfl
                            refine va_callv (va_runV (As := [.int 1, .int ax]) (rest := []) ⟨hx, hb, hml, hown, hts⟩ (s_fail l dC dI rd r fa fb a2 a3 a4 a5 a6 a7 H.size 1 ax) (cwV 2 hts mg_X6_endOfPattern_X6_fail_71 rfl rfl rfl (by decide +kernel) ⟨Nat.le_of_ble_eq_true rfl, Nat.le_of_ble_eq_true rfl⟩) ⟨fun a U g mk q => by obtain ⟨q0, q1, qP, qK, qD⟩ := q; exact ⟨q0, q1, qP, va_K.moved (u := U) (U := U.calling g mk a) (Vm.Alike.refl U.vm) qK, qD⟩, va_recv hKc hPc (ci := 6) (q0 := 0) rfl rfl, fun U hU hW => ⟨rfl, by rw [hU], by rw [hU]; exact hPc, va_K.moved hW.alike hKc, hDc.weaken (fun _ _ _ _ => trivial)⟩⟩ rfl rfl hl.1 rfl (lv_room (Nat.le_of_ble_eq_true rfl)) dX6_endOfPattern_217 ⟨Nat.le_of_ble_eq_true rfl, Nat.le_of_ble_eq_true rfl⟩) hS (fun q _ h => hFc q h) hFc (fun u t H1 locs ht hvm hw hB hz1 hk1 hS => ?_)
                            obtain ⟨hP1, hK1, hD1⟩ := hB
                            rw [ht] at hP1
                            obtain ⟨hP, hD⟩ := va_join (wr := [(ta, .inl (cT, nb, .inl ft))]) (w1 := [(rd, .inr (6, rF r 1 ax a2 a3 a4 a5 a6 a7))]) hP hD [0] [1] rfl rfl (by decide) (by decide) hk1 hFc hP1 hD1
                            generalize H1 = H at hP hS ⊢
                            have hP : va_P (dC, dI) vwCl [(ta, .inl (cT, nb, .inl ft)), (rd, .inr (6, rF r 1 ax a2 a3 a4 a5 a6 a7))] H := hP
                            have hD : va_D A [(ta, .inl (cT, nb, .inl ft)), (rd, .inr (6, rF r 1 ax a2 a3 a4 a5 a6 a7))] := hD
                            refine lv_aload_n hx hb dX6_endOfPattern_220 rfl (lv_at hl 5 rfl) ?_
                            refine va_get (D := (dC, dI)) (ci := 6) (v := .int 1) (C := RX6) (T := TX6) (N := 11) hx hb hts fin_X6_endOfPattern_X6 hown hK hP 1 rfl rfl 0 (by decide) (hts (.fieldLink RX6 22 "PatternGate$Reader" "faultKind" "I") (List.mem_of_getElem? (i := 2) (by decide +kernel))) (fun _ h9 => h9) rfl dX6_endOfPattern_221 ?_
                            refine lv_if_eq (tgt := 230) hx hb dX6_endOfPattern_224 (by decide) (fun k_173 => absurd k_173 (by decide)) (fun k_173 => ?_)
                            have tk_173 := c_ne (a := 1) (b := 0) (by decide) (by decide) k_173
                            refine lv_iload hx hb dX6_endOfPattern_227 (lv_at hl 1 rfl) ?_
                            have hP9 := hP.sub (ws' := [(rd, .inr (6, rF r 1 ax a2 a3 a4 a5 a6 a7)), (ta, .inl (cT, nb, .inl ft))]) [1, 0] rfl
                            have hD9 := hD.sub (ws' := [(rd, .inr (6, rF r 1 ax a2 a3 a4 a5 a6 a7)), (ta, .inl (cT, nb, .inl ft))]) [1, 0] (by decide) rfl
                            have hK9 := hK.sub (tys' := [(cT, .int)]) [0] rfl
                            exact W.iret hx hb hr (fun t ht hW => ⟨⟨_, (), rfl, by omega, 1, ax, by rw [ht]; exact hP9, va_K.moved hW.alike hK9, hD9⟩, hS.F ht⟩) hS.2.2 dX6_endOfPattern_229
                          · have tk_170 := c_eq (a := sd.toInt) (b := 1) rfl (by decide) k_170
                            refine lv_iconst (v := 2) hx hb dX6_endOfPattern_207 (by decide) ?_
                            refine lv_istore (lv' := [(6, .int 2), (8, .int y_4), (7, .int ax), (5, .int op), (4, .int sp), (0, .ref rd), (1, .ref ta), (2, .int i8), (3, .int i9)]) hx hb dX6_endOfPattern_208 hl (by decide) rfl (fun ls hl => ?_)
                            refine lv_goto (tgt := 220) hx hb dX6_endOfPattern_210 (by decide) ?_
                            refine lv_aload_n hx hb dX6_endOfPattern_220 rfl (lv_at hl 5 rfl) ?_
                            refine va_get (D := (dC, dI)) (ci := 6) (v := .int fa) (C := RX6) (T := TX6) (N := 11) hx hb hts fin_X6_endOfPattern_X6 hown hK hP 0 rfl rfl 0 (by decide) (hts (.fieldLink RX6 22 "PatternGate$Reader" "faultKind" "I") (List.mem_of_getElem? (i := 2) (by decide +kernel))) (fun _ h9 => h9) rfl dX6_endOfPattern_221 ?_
                            refine lv_if_eq (tgt := 230) hx hb dX6_endOfPattern_224 (by decide) (fun k_174 => ?_) (fun k_174 => ?_)
                            · have tk_174 := c_eq (a := fa.toInt) (b := 0) rfl (by decide) k_174
                              obtain ⟨y_175, ey_175⟩ : ∃ y : Int32, y = ax + 1 := ⟨_, rfl⟩
                              first | have ty_175 := i_add (a := ax.toInt) (b := 1) rfl (by decide) ey_175 (by omega) (by omega) | skip
                              refine lv_iinc (v := y_175) (lv' := [(7, .int y_175), (6, .int 2), (8, .int y_4), (5, .int op), (4, .int sp), (0, .ref rd), (1, .ref ta), (2, .int i8), (3, .int i9)]) hx hb dX6_endOfPattern_230 hl (k := 2) rfl (by rw [ey_175]; rfl) (by decide) rfl (fun ls hl => ?_)
                              refine lv_goto (tgt := 12) hx hb dX6_endOfPattern_233 (by decide) ?_
                              have lit_175 : (2 : Int32).toInt = 2 := by decide
                              exact ih12 sp op 2 y_175 fa fb (by first | omega | decide | assumption) (by first | omega | decide | assumption) (by omega) _ _ ls hP hD hS (lv_sub hl [0, 1, 3, 4, 5, 6, 7, 8] rfl)
                            · have tk_174 := c_ne (a := fa.toInt) (b := 0) rfl (by decide) k_174
                              refine lv_iload hx hb dX6_endOfPattern_227 (lv_at hl 2 rfl) ?_
                              have hP9 := hP.sub (ws' := [(rd, .inr (6, rF r fa fb a2 a3 a4 a5 a6 a7)), (ta, .inl (cT, nb, .inl ft))]) [0, 1] rfl
                              have hD9 := hD.sub (ws' := [(rd, .inr (6, rF r fa fb a2 a3 a4 a5 a6 a7)), (ta, .inl (cT, nb, .inl ft))]) [0, 1] (by decide) rfl
                              have hK9 := hK.sub (tys' := [(cT, .int)]) [0] rfl
                              exact W.iret hx hb hr (fun t ht hW => ⟨⟨_, (), rfl, by omega, fa, fb, by rw [ht]; exact hP9, va_K.moved hW.alike hK9, hD9⟩, hS.F ht⟩) hS.2.2 dX6_endOfPattern_229
                      · have tk_163 := c_eq (a := y_4.toInt) (b := 41) rfl (by decide) k_163
                        refine lv_iload hx hb dX6_endOfPattern_174 (lv_at hl 3 rfl) ?_
                        refine lv_if_le (tgt := 193) hx hb dX6_endOfPattern_176 (by decide) (fun k_177 => ?_) (fun k_177 => ?_)
                        · have tk_177 := c_le (a := op.toInt) (b := 0) rfl (by decide) k_177
                          refine lv_iload hx hb dX6_endOfPattern_193 (lv_at hl 0 rfl) ?_
                          refine vp_callSi (W.runS (As := [.int y_4]) (rest := []) ⟨hx, hb, hml, hown, hts⟩ (s_isSign l dC dI y_4) (va_cwS 1 hts mg_X6_endOfPattern_X6_isSign_102 rfl rfl rfl (by decide +kernel) ⟨Nat.le_of_ble_eq_true rfl, Nat.le_of_ble_eq_true rfl⟩) ⟨fun a U g mk q => ⟨q.1, trivial⟩, fun U hU hW => ⟨rfl, trivial⟩⟩ rfl rfl hl.1 rfl (lv_room (Nat.le_of_ble_eq_true rfl)) dX6_endOfPattern_195 ⟨Nat.le_of_ble_eq_true rfl, Nat.le_of_ble_eq_true rfl⟩) (fun r_179 hw => ?_)
                          refine lv_if_eq (tgt := 213) hx hb dX6_endOfPattern_198 (by decide) (fun k_180 => ?_) (fun k_180 => ?_)
                          · have tk_180 := c_eq (a := r_179.toInt) (b := 0) rfl (by decide) k_180
                            refine lv_aload_n hx hb dX6_endOfPattern_213 rfl (lv_at hl 5 rfl) ?_
                            refine lv_iconst (v := 1) hx hb dX6_endOfPattern_214 (by decide) ?_
                            refine lv_iload hx hb dX6_endOfPattern_215 (lv_at hl 1 rfl) ?_
                            have hPc := hP.sub (ws' := [(rd, .inr (6, rF r fa fb a2 a3 a4 a5 a6 a7))]) [0] rfl
                            have hKc := hK.sub (tys' := []) [] rfl
                            have hDc := hD.sub (ws' := [(rd, .inr (6, rF r fa fb a2 a3 a4 a5 a6 a7))]) [0] (by decide) rfl
                            have hFc := va_free (wc := [(rd, .inr (6, rF r fa fb a2 a3 a4 a5 a6 a7))]) hD hS hA [0] rfl
                            refine va_callv (va_runV (As := [.int 1, .int ax]) (rest := []) ⟨hx, hb, hml, hown, hts⟩ (s_fail l dC dI rd r fa fb a2 a3 a4 a5 a6 a7 H.size 1 ax) (cwV 2 hts mg_X6_endOfPattern_X6_fail_71 rfl rfl rfl (by decide +kernel) ⟨Nat.le_of_ble_eq_true rfl, Nat.le_of_ble_eq_true rfl⟩) ⟨fun a U g mk q => by obtain ⟨q0, q1, qP, qK, qD⟩ := q; exact ⟨q0, q1, qP, va_K.moved (u := U) (U := U.calling g mk a) (Vm.Alike.refl U.vm) qK, qD⟩, va_recv hKc hPc (ci := 6) (q0 := 0) rfl rfl, fun U hU hW => ⟨rfl, by rw [hU], by rw [hU]; exact hPc, va_K.moved hW.alike hKc, hDc.weaken (fun _ _ _ _ => trivial)⟩⟩ rfl rfl hl.1 rfl (lv_room (Nat.le_of_ble_eq_true rfl)) dX6_endOfPattern_217 ⟨Nat.le_of_ble_eq_true rfl, Nat.le_of_ble_eq_true rfl⟩) hS (fun q _ h => hFc q h) hFc (fun u t H1 locs ht hvm hw hB hz1 hk1 hS => ?_)
                            obtain ⟨hP1, hK1, hD1⟩ := hB
                            rw [ht] at hP1
                            obtain ⟨hP, hD⟩ := va_join (wr := [(ta, .inl (cT, nb, .inl ft))]) (w1 := [(rd, .inr (6, rF r 1 ax a2 a3 a4 a5 a6 a7))]) hP hD [0] [1] rfl rfl (by decide) (by decide) hk1 hFc hP1 hD1
                            generalize H1 = H at hP hS ⊢
                            have hP : va_P (dC, dI) vwCl [(ta, .inl (cT, nb, .inl ft)), (rd, .inr (6, rF r 1 ax a2 a3 a4 a5 a6 a7))] H := hP
                            have hD : va_D A [(ta, .inl (cT, nb, .inl ft)), (rd, .inr (6, rF r 1 ax a2 a3 a4 a5 a6 a7))] := hD
                            refine lv_aload_n hx hb dX6_endOfPattern_220 rfl (lv_at hl 5 rfl) ?_
                            refine va_get (D := (dC, dI)) (ci := 6) (v := .int 1) (C := RX6) (T := TX6) (N := 11) hx hb hts fin_X6_endOfPattern_X6 hown hK hP 1 rfl rfl 0 (by decide) (hts (.fieldLink RX6 22 "PatternGate$Reader" "faultKind" "I") (List.mem_of_getElem? (i := 2) (by decide +kernel))) (fun _ h9 => h9) rfl dX6_endOfPattern_221 ?_
                            refine lv_if_eq (tgt := 230) hx hb dX6_endOfPattern_224 (by decide) (fun k_183 => absurd k_183 (by decide)) (fun k_183 => ?_)
                            have tk_183 := c_ne (a := 1) (b := 0) (by decide) (by decide) k_183
                            refine lv_iload hx hb dX6_endOfPattern_227 (lv_at hl 1 rfl) ?_
                            have hP9 := hP.sub (ws' := [(rd, .inr (6, rF r 1 ax a2 a3 a4 a5 a6 a7)), (ta, .inl (cT, nb, .inl ft))]) [1, 0] rfl
                            have hD9 := hD.sub (ws' := [(rd, .inr (6, rF r 1 ax a2 a3 a4 a5 a6 a7)), (ta, .inl (cT, nb, .inl ft))]) [1, 0] (by decide) rfl
                            have hK9 := hK.sub (tys' := [(cT, .int)]) [0] rfl
                            exact W.iret hx hb hr (fun t ht hW => ⟨⟨_, (), rfl, by omega, 1, ax, by rw [ht]; exact hP9, va_K.moved hW.alike hK9, hD9⟩, hS.F ht⟩) hS.2.2 dX6_endOfPattern_229
                          · have tk_180 := c_ne (a := r_179.toInt) (b := 0) rfl (by decide) k_180
                            refine lv_iload hx hb dX6_endOfPattern_201 (lv_at hl 2 rfl) ?_
                            refine lv_iconst (v := 1) hx hb dX6_endOfPattern_203 (by decide) ?_
                            refine lv_icmp_ne (tgt := 213) hx hb dX6_endOfPattern_204 (by decide) (fun k_184 => ?_) (fun k_184 => ?_)
                            · have tk_184 := c_ne (a := sd.toInt) (b := 1) rfl (by decide) k_184
                              refine lv_aload_n hx hb dX6_endOfPattern_213 rfl (lv_at hl 5 rfl) ?_
                              refine lv_iconst (v := 1) hx hb dX6_endOfPattern_214 (by decide) ?_
                              refine lv_iload hx hb dX6_endOfPattern_215 (lv_at hl 1 rfl) ?_
                              have hPc := hP.sub (ws' := [(rd, .inr (6, rF r fa fb a2 a3 a4 a5 a6 a7))]) [0] rfl
                              have hKc := hK.sub (tys' := []) [] rfl
                              have hDc := hD.sub (ws' := [(rd, .inr (6, rF r fa fb a2 a3 a4 a5 a6 a7))]) [0] (by decide) rfl
                              have hFc := va_free (wc := [(rd, .inr (6, rF r fa fb a2 a3 a4 a5 a6 a7))]) hD hS hA [0] rfl
                              refine va_callv (va_runV (As := [.int 1, .int ax]) (rest := []) ⟨hx, hb, hml, hown, hts⟩ (s_fail l dC dI rd r fa fb a2 a3 a4 a5 a6 a7 H.size 1 ax) (cwV 2 hts mg_X6_endOfPattern_X6_fail_71 rfl rfl rfl (by decide +kernel) ⟨Nat.le_of_ble_eq_true rfl, Nat.le_of_ble_eq_true rfl⟩) ⟨fun a U g mk q => by obtain ⟨q0, q1, qP, qK, qD⟩ := q; exact ⟨q0, q1, qP, va_K.moved (u := U) (U := U.calling g mk a) (Vm.Alike.refl U.vm) qK, qD⟩, va_recv hKc hPc (ci := 6) (q0 := 0) rfl rfl, fun U hU hW => ⟨rfl, by rw [hU], by rw [hU]; exact hPc, va_K.moved hW.alike hKc, hDc.weaken (fun _ _ _ _ => trivial)⟩⟩ rfl rfl hl.1 rfl (lv_room (Nat.le_of_ble_eq_true rfl)) dX6_endOfPattern_217 ⟨Nat.le_of_ble_eq_true rfl, Nat.le_of_ble_eq_true rfl⟩) hS (fun q _ h => hFc q h) hFc (fun u t H1 locs ht hvm hw hB hz1 hk1 hS => ?_)
                              obtain ⟨hP1, hK1, hD1⟩ := hB
                              rw [ht] at hP1
                              obtain ⟨hP, hD⟩ := va_join (wr := [(ta, .inl (cT, nb, .inl ft))]) (w1 := [(rd, .inr (6, rF r 1 ax a2 a3 a4 a5 a6 a7))]) hP hD [0] [1] rfl rfl (by decide) (by decide) hk1 hFc hP1 hD1
                              generalize H1 = H at hP hS ⊢
                              have hP : va_P (dC, dI) vwCl [(ta, .inl (cT, nb, .inl ft)), (rd, .inr (6, rF r 1 ax a2 a3 a4 a5 a6 a7))] H := hP
                              have hD : va_D A [(ta, .inl (cT, nb, .inl ft)), (rd, .inr (6, rF r 1 ax a2 a3 a4 a5 a6 a7))] := hD
                              refine lv_aload_n hx hb dX6_endOfPattern_220 rfl (lv_at hl 5 rfl) ?_
                              refine va_get (D := (dC, dI)) (ci := 6) (v := .int 1) (C := RX6) (T := TX6) (N := 11) hx hb hts fin_X6_endOfPattern_X6 hown hK hP 1 rfl rfl 0 (by decide) (hts (.fieldLink RX6 22 "PatternGate$Reader" "faultKind" "I") (List.mem_of_getElem? (i := 2) (by decide +kernel))) (fun _ h9 => h9) rfl dX6_endOfPattern_221 ?_
                              refine lv_if_eq (tgt := 230) hx hb dX6_endOfPattern_224 (by decide) (fun k_187 => absurd k_187 (by decide)) (fun k_187 => ?_)
                              have tk_187 := c_ne (a := 1) (b := 0) (by decide) (by decide) k_187
                              refine lv_iload hx hb dX6_endOfPattern_227 (lv_at hl 1 rfl) ?_
                              have hP9 := hP.sub (ws' := [(rd, .inr (6, rF r 1 ax a2 a3 a4 a5 a6 a7)), (ta, .inl (cT, nb, .inl ft))]) [1, 0] rfl
                              have hD9 := hD.sub (ws' := [(rd, .inr (6, rF r 1 ax a2 a3 a4 a5 a6 a7)), (ta, .inl (cT, nb, .inl ft))]) [1, 0] (by decide) rfl
                              have hK9 := hK.sub (tys' := [(cT, .int)]) [0] rfl
                              exact W.iret hx hb hr (fun t ht hW => ⟨⟨_, (), rfl, by omega, 1, ax, by rw [ht]; exact hP9, va_K.moved hW.alike hK9, hD9⟩, hS.F ht⟩) hS.2.2 dX6_endOfPattern_229
                            · have tk_184 := c_eq (a := sd.toInt) (b := 1) rfl (by decide) k_184
                              refine lv_iconst (v := 2) hx hb dX6_endOfPattern_207 (by decide) ?_
                              refine lv_istore (lv' := [(6, .int 2), (8, .int y_4), (7, .int ax), (5, .int op), (4, .int sp), (0, .ref rd), (1, .ref ta), (2, .int i8), (3, .int i9)]) hx hb dX6_endOfPattern_208 hl (by decide) rfl (fun ls hl => ?_)
                              refine lv_goto (tgt := 220) hx hb dX6_endOfPattern_210 (by decide) ?_
                              refine lv_aload_n hx hb dX6_endOfPattern_220 rfl (lv_at hl 5 rfl) ?_
                              refine va_get (D := (dC, dI)) (ci := 6) (v := .int fa) (C := RX6) (T := TX6) (N := 11) hx hb hts fin_X6_endOfPattern_X6 hown hK hP 0 rfl rfl 0 (by decide) (hts (.fieldLink RX6 22 "PatternGate$Reader" "faultKind" "I") (List.mem_of_getElem? (i := 2) (by decide +kernel))) (fun _ h9 => h9) rfl dX6_endOfPattern_221 ?_
                              refine lv_if_eq (tgt := 230) hx hb dX6_endOfPattern_224 (by decide) (fun k_188 => ?_) (fun k_188 => ?_)
                              · have tk_188 := c_eq (a := fa.toInt) (b := 0) rfl (by decide) k_188
                                obtain ⟨y_189, ey_189⟩ : ∃ y : Int32, y = ax + 1 := ⟨_, rfl⟩
                                first | have ty_189 := i_add (a := ax.toInt) (b := 1) rfl (by decide) ey_189 (by omega) (by omega) | skip
                                refine lv_iinc (v := y_189) (lv' := [(7, .int y_189), (6, .int 2), (8, .int y_4), (5, .int op), (4, .int sp), (0, .ref rd), (1, .ref ta), (2, .int i8), (3, .int i9)]) hx hb dX6_endOfPattern_230 hl (k := 2) rfl (by rw [ey_189]; rfl) (by decide) rfl (fun ls hl => ?_)
                                refine lv_goto (tgt := 12) hx hb dX6_endOfPattern_233 (by decide) ?_
                                have lit_189 : (2 : Int32).toInt = 2 := by decide
                                exact ih12 sp op 2 y_189 fa fb (by first | omega | decide | assumption) (by first | omega | decide | assumption) (by omega) _ _ ls hP hD hS (lv_sub hl [0, 1, 3, 4, 5, 6, 7, 8] rfl)
                              · have tk_188 := c_ne (a := fa.toInt) (b := 0) rfl (by decide) k_188
                                refine lv_iload hx hb dX6_endOfPattern_227 (lv_at hl 2 rfl) ?_
                                have hP9 := hP.sub (ws' := [(rd, .inr (6, rF r fa fb a2 a3 a4 a5 a6 a7)), (ta, .inl (cT, nb, .inl ft))]) [0, 1] rfl
                                have hD9 := hD.sub (ws' := [(rd, .inr (6, rF r fa fb a2 a3 a4 a5 a6 a7)), (ta, .inl (cT, nb, .inl ft))]) [0, 1] (by decide) rfl
                                have hK9 := hK.sub (tys' := [(cT, .int)]) [0] rfl
                                exact W.iret hx hb hr (fun t ht hW => ⟨⟨_, (), rfl, by omega, fa, fb, by rw [ht]; exact hP9, va_K.moved hW.alike hK9, hD9⟩, hS.F ht⟩) hS.2.2 dX6_endOfPattern_229
                        · have tk_177 := c_nle (a := op.toInt) (b := 0) rfl (by decide) k_177
                          refine lv_iload hx hb dX6_endOfPattern_179 (lv_at hl 2 rfl) ?_
                          refine lv_if_eq (tgt := 193) hx hb dX6_endOfPattern_181 (by decide) (fun k_191 => ?_) (fun k_191 => ?_)
                          · have tk_191 := c_eq (a := sd.toInt) (b := 0) rfl (by decide) k_191
                            refine lv_iload hx hb dX6_endOfPattern_193 (lv_at hl 0 rfl) ?_
                            refine vp_callSi (W.runS (As := [.int y_4]) (rest := []) ⟨hx, hb, hml, hown, hts⟩ (s_isSign l dC dI y_4) (va_cwS 1 hts mg_X6_endOfPattern_X6_isSign_102 rfl rfl rfl (by decide +kernel) ⟨Nat.le_of_ble_eq_true rfl, Nat.le_of_ble_eq_true rfl⟩) ⟨fun a U g mk q => ⟨q.1, trivial⟩, fun U hU hW => ⟨rfl, trivial⟩⟩ rfl rfl hl.1 rfl (lv_room (Nat.le_of_ble_eq_true rfl)) dX6_endOfPattern_195 ⟨Nat.le_of_ble_eq_true rfl, Nat.le_of_ble_eq_true rfl⟩) (fun r_193 hw => ?_)
                            refine lv_if_eq (tgt := 213) hx hb dX6_endOfPattern_198 (by decide) (fun k_194 => ?_) (fun k_194 => ?_)
                            · have tk_194 := c_eq (a := r_193.toInt) (b := 0) rfl (by decide) k_194
                              refine lv_aload_n hx hb dX6_endOfPattern_213 rfl (lv_at hl 5 rfl) ?_
                              refine lv_iconst (v := 1) hx hb dX6_endOfPattern_214 (by decide) ?_
                              refine lv_iload hx hb dX6_endOfPattern_215 (lv_at hl 1 rfl) ?_
                              have hPc := hP.sub (ws' := [(rd, .inr (6, rF r fa fb a2 a3 a4 a5 a6 a7))]) [0] rfl
                              have hKc := hK.sub (tys' := []) [] rfl
                              have hDc := hD.sub (ws' := [(rd, .inr (6, rF r fa fb a2 a3 a4 a5 a6 a7))]) [0] (by decide) rfl
                              have hFc := va_free (wc := [(rd, .inr (6, rF r fa fb a2 a3 a4 a5 a6 a7))]) hD hS hA [0] rfl
                              refine va_callv (va_runV (As := [.int 1, .int ax]) (rest := []) ⟨hx, hb, hml, hown, hts⟩ (s_fail l dC dI rd r fa fb a2 a3 a4 a5 a6 a7 H.size 1 ax) (cwV 2 hts mg_X6_endOfPattern_X6_fail_71 rfl rfl rfl (by decide +kernel) ⟨Nat.le_of_ble_eq_true rfl, Nat.le_of_ble_eq_true rfl⟩) ⟨fun a U g mk q => by obtain ⟨q0, q1, qP, qK, qD⟩ := q; exact ⟨q0, q1, qP, va_K.moved (u := U) (U := U.calling g mk a) (Vm.Alike.refl U.vm) qK, qD⟩, va_recv hKc hPc (ci := 6) (q0 := 0) rfl rfl, fun U hU hW => ⟨rfl, by rw [hU], by rw [hU]; exact hPc, va_K.moved hW.alike hKc, hDc.weaken (fun _ _ _ _ => trivial)⟩⟩ rfl rfl hl.1 rfl (lv_room (Nat.le_of_ble_eq_true rfl)) dX6_endOfPattern_217 ⟨Nat.le_of_ble_eq_true rfl, Nat.le_of_ble_eq_true rfl⟩) hS (fun q _ h => hFc q h) hFc (fun u t H1 locs ht hvm hw hB hz1 hk1 hS => ?_)
                              obtain ⟨hP1, hK1, hD1⟩ := hB
                              rw [ht] at hP1
                              obtain ⟨hP, hD⟩ := va_join (wr := [(ta, .inl (cT, nb, .inl ft))]) (w1 := [(rd, .inr (6, rF r 1 ax a2 a3 a4 a5 a6 a7))]) hP hD [0] [1] rfl rfl (by decide) (by decide) hk1 hFc hP1 hD1
                              generalize H1 = H at hP hS ⊢
                              have hP : va_P (dC, dI) vwCl [(ta, .inl (cT, nb, .inl ft)), (rd, .inr (6, rF r 1 ax a2 a3 a4 a5 a6 a7))] H := hP
                              have hD : va_D A [(ta, .inl (cT, nb, .inl ft)), (rd, .inr (6, rF r 1 ax a2 a3 a4 a5 a6 a7))] := hD
                              refine lv_aload_n hx hb dX6_endOfPattern_220 rfl (lv_at hl 5 rfl) ?_
                              refine va_get (D := (dC, dI)) (ci := 6) (v := .int 1) (C := RX6) (T := TX6) (N := 11) hx hb hts fin_X6_endOfPattern_X6 hown hK hP 1 rfl rfl 0 (by decide) (hts (.fieldLink RX6 22 "PatternGate$Reader" "faultKind" "I") (List.mem_of_getElem? (i := 2) (by decide +kernel))) (fun _ h9 => h9) rfl dX6_endOfPattern_221 ?_
                              refine lv_if_eq (tgt := 230) hx hb dX6_endOfPattern_224 (by decide) (fun k_197 => absurd k_197 (by decide)) (fun k_197 => ?_)
                              have tk_197 := c_ne (a := 1) (b := 0) (by decide) (by decide) k_197
                              refine lv_iload hx hb dX6_endOfPattern_227 (lv_at hl 1 rfl) ?_
                              have hP9 := hP.sub (ws' := [(rd, .inr (6, rF r 1 ax a2 a3 a4 a5 a6 a7)), (ta, .inl (cT, nb, .inl ft))]) [1, 0] rfl
                              have hD9 := hD.sub (ws' := [(rd, .inr (6, rF r 1 ax a2 a3 a4 a5 a6 a7)), (ta, .inl (cT, nb, .inl ft))]) [1, 0] (by decide) rfl
                              have hK9 := hK.sub (tys' := [(cT, .int)]) [0] rfl
                              exact W.iret hx hb hr (fun t ht hW => ⟨⟨_, (), rfl, by omega, 1, ax, by rw [ht]; exact hP9, va_K.moved hW.alike hK9, hD9⟩, hS.F ht⟩) hS.2.2 dX6_endOfPattern_229
                            · have tk_194 := c_ne (a := r_193.toInt) (b := 0) rfl (by decide) k_194
                              refine lv_iload hx hb dX6_endOfPattern_201 (lv_at hl 2 rfl) ?_
                              refine lv_iconst (v := 1) hx hb dX6_endOfPattern_203 (by decide) ?_
                              refine lv_icmp_ne (tgt := 213) hx hb dX6_endOfPattern_204 (by decide) (fun k_198 => ?_) (fun k_198 => ?_)
                              · have tk_198 := c_ne (a := sd.toInt) (b := 1) rfl (by decide) k_198
                                refine lv_aload_n hx hb dX6_endOfPattern_213 rfl (lv_at hl 5 rfl) ?_
                                refine lv_iconst (v := 1) hx hb dX6_endOfPattern_214 (by decide) ?_
                                refine lv_iload hx hb dX6_endOfPattern_215 (lv_at hl 1 rfl) ?_
                                have hPc := hP.sub (ws' := [(rd, .inr (6, rF r fa fb a2 a3 a4 a5 a6 a7))]) [0] rfl
                                have hKc := hK.sub (tys' := []) [] rfl
                                have hDc := hD.sub (ws' := [(rd, .inr (6, rF r fa fb a2 a3 a4 a5 a6 a7))]) [0] (by decide) rfl
                                have hFc := va_free (wc := [(rd, .inr (6, rF r fa fb a2 a3 a4 a5 a6 a7))]) hD hS hA [0] rfl
                                refine va_callv (va_runV (As := [.int 1, .int ax]) (rest := []) ⟨hx, hb, hml, hown, hts⟩ (s_fail l dC dI rd r fa fb a2 a3 a4 a5 a6 a7 H.size 1 ax) (cwV 2 hts mg_X6_endOfPattern_X6_fail_71 rfl rfl rfl (by decide +kernel) ⟨Nat.le_of_ble_eq_true rfl, Nat.le_of_ble_eq_true rfl⟩) ⟨fun a U g mk q => by obtain ⟨q0, q1, qP, qK, qD⟩ := q; exact ⟨q0, q1, qP, va_K.moved (u := U) (U := U.calling g mk a) (Vm.Alike.refl U.vm) qK, qD⟩, va_recv hKc hPc (ci := 6) (q0 := 0) rfl rfl, fun U hU hW => ⟨rfl, by rw [hU], by rw [hU]; exact hPc, va_K.moved hW.alike hKc, hDc.weaken (fun _ _ _ _ => trivial)⟩⟩ rfl rfl hl.1 rfl (lv_room (Nat.le_of_ble_eq_true rfl)) dX6_endOfPattern_217 ⟨Nat.le_of_ble_eq_true rfl, Nat.le_of_ble_eq_true rfl⟩) hS (fun q _ h => hFc q h) hFc (fun u t H1 locs ht hvm hw hB hz1 hk1 hS => ?_)
                                obtain ⟨hP1, hK1, hD1⟩ := hB
                                rw [ht] at hP1
                                obtain ⟨hP, hD⟩ := va_join (wr := [(ta, .inl (cT, nb, .inl ft))]) (w1 := [(rd, .inr (6, rF r 1 ax a2 a3 a4 a5 a6 a7))]) hP hD [0] [1] rfl rfl (by decide) (by decide) hk1 hFc hP1 hD1
                                generalize H1 = H at hP hS ⊢
                                have hP : va_P (dC, dI) vwCl [(ta, .inl (cT, nb, .inl ft)), (rd, .inr (6, rF r 1 ax a2 a3 a4 a5 a6 a7))] H := hP
                                have hD : va_D A [(ta, .inl (cT, nb, .inl ft)), (rd, .inr (6, rF r 1 ax a2 a3 a4 a5 a6 a7))] := hD
                                refine lv_aload_n hx hb dX6_endOfPattern_220 rfl (lv_at hl 5 rfl) ?_
                                refine va_get (D := (dC, dI)) (ci := 6) (v := .int 1) (C := RX6) (T := TX6) (N := 11) hx hb hts fin_X6_endOfPattern_X6 hown hK hP 1 rfl rfl 0 (by decide) (hts (.fieldLink RX6 22 "PatternGate$Reader" "faultKind" "I") (List.mem_of_getElem? (i := 2) (by decide +kernel))) (fun _ h9 => h9) rfl dX6_endOfPattern_221 ?_
                                refine lv_if_eq (tgt := 230) hx hb dX6_endOfPattern_224 (by decide) (fun k_201 => absurd k_201 (by decide)) (fun k_201 => ?_)
                                have tk_201 := c_ne (a := 1) (b := 0) (by decide) (by decide) k_201
                                refine lv_iload hx hb dX6_endOfPattern_227 (lv_at hl 1 rfl) ?_
                                have hP9 := hP.sub (ws' := [(rd, .inr (6, rF r 1 ax a2 a3 a4 a5 a6 a7)), (ta, .inl (cT, nb, .inl ft))]) [1, 0] rfl
                                have hD9 := hD.sub (ws' := [(rd, .inr (6, rF r 1 ax a2 a3 a4 a5 a6 a7)), (ta, .inl (cT, nb, .inl ft))]) [1, 0] (by decide) rfl
                                have hK9 := hK.sub (tys' := [(cT, .int)]) [0] rfl
                                exact W.iret hx hb hr (fun t ht hW => ⟨⟨_, (), rfl, by omega, 1, ax, by rw [ht]; exact hP9, va_K.moved hW.alike hK9, hD9⟩, hS.F ht⟩) hS.2.2 dX6_endOfPattern_229
                              · have tk_198 := c_eq (a := sd.toInt) (b := 1) rfl (by decide) k_198
                                refine lv_iconst (v := 2) hx hb dX6_endOfPattern_207 (by decide) ?_
                                refine lv_istore (lv' := [(6, .int 2), (8, .int y_4), (7, .int ax), (5, .int op), (4, .int sp), (0, .ref rd), (1, .ref ta), (2, .int i8), (3, .int i9)]) hx hb dX6_endOfPattern_208 hl (by decide) rfl (fun ls hl => ?_)
                                refine lv_goto (tgt := 220) hx hb dX6_endOfPattern_210 (by decide) ?_
                                refine lv_aload_n hx hb dX6_endOfPattern_220 rfl (lv_at hl 5 rfl) ?_
                                refine va_get (D := (dC, dI)) (ci := 6) (v := .int fa) (C := RX6) (T := TX6) (N := 11) hx hb hts fin_X6_endOfPattern_X6 hown hK hP 0 rfl rfl 0 (by decide) (hts (.fieldLink RX6 22 "PatternGate$Reader" "faultKind" "I") (List.mem_of_getElem? (i := 2) (by decide +kernel))) (fun _ h9 => h9) rfl dX6_endOfPattern_221 ?_
                                refine lv_if_eq (tgt := 230) hx hb dX6_endOfPattern_224 (by decide) (fun k_202 => ?_) (fun k_202 => ?_)
                                · have tk_202 := c_eq (a := fa.toInt) (b := 0) rfl (by decide) k_202
                                  obtain ⟨y_203, ey_203⟩ : ∃ y : Int32, y = ax + 1 := ⟨_, rfl⟩
                                  first | have ty_203 := i_add (a := ax.toInt) (b := 1) rfl (by decide) ey_203 (by omega) (by omega) | skip
                                  refine lv_iinc (v := y_203) (lv' := [(7, .int y_203), (6, .int 2), (8, .int y_4), (5, .int op), (4, .int sp), (0, .ref rd), (1, .ref ta), (2, .int i8), (3, .int i9)]) hx hb dX6_endOfPattern_230 hl (k := 2) rfl (by rw [ey_203]; rfl) (by decide) rfl (fun ls hl => ?_)
                                  refine lv_goto (tgt := 12) hx hb dX6_endOfPattern_233 (by decide) ?_
                                  have lit_203 : (2 : Int32).toInt = 2 := by decide
                                  exact ih12 sp op 2 y_203 fa fb (by first | omega | decide | assumption) (by first | omega | decide | assumption) (by omega) _ _ ls hP hD hS (lv_sub hl [0, 1, 3, 4, 5, 6, 7, 8] rfl)
                                · have tk_202 := c_ne (a := fa.toInt) (b := 0) rfl (by decide) k_202
                                  refine lv_iload hx hb dX6_endOfPattern_227 (lv_at hl 2 rfl) ?_
                                  have hP9 := hP.sub (ws' := [(rd, .inr (6, rF r fa fb a2 a3 a4 a5 a6 a7)), (ta, .inl (cT, nb, .inl ft))]) [0, 1] rfl
                                  have hD9 := hD.sub (ws' := [(rd, .inr (6, rF r fa fb a2 a3 a4 a5 a6 a7)), (ta, .inl (cT, nb, .inl ft))]) [0, 1] (by decide) rfl
                                  have hK9 := hK.sub (tys' := [(cT, .int)]) [0] rfl
                                  exact W.iret hx hb hr (fun t ht hW => ⟨⟨_, (), rfl, by omega, fa, fb, by rw [ht]; exact hP9, va_K.moved hW.alike hK9, hD9⟩, hS.F ht⟩) hS.2.2 dX6_endOfPattern_229
                          · have tk_191 := c_ne (a := sd.toInt) (b := 0) rfl (by decide) k_191
                            obtain ⟨y_205, ey_205⟩ : ∃ y : Int32, y = op + (-1) := ⟨_, rfl⟩
                            first | have ty_205 := i_add (a := op.toInt) (b := (-1)) rfl (by decide) ey_205 (by omega) (by omega) | skip
                            refine lv_iinc (v := y_205) (lv' := [(5, .int y_205), (8, .int y_4), (7, .int ax), (6, .int sd), (4, .int sp), (0, .ref rd), (1, .ref ta), (2, .int i8), (3, .int i9)]) hx hb dX6_endOfPattern_184 hl (k := 3) rfl (by rw [ey_205]; rfl) (by decide) rfl (fun ls hl => ?_)
                            refine lv_iconst (v := 1) hx hb dX6_endOfPattern_187 (by decide) ?_
                            refine lv_istore (lv' := [(6, .int 1), (5, .int y_205), (8, .int y_4), (7, .int ax), (4, .int sp), (0, .ref rd), (1, .ref ta), (2, .int i8), (3, .int i9)]) hx hb dX6_endOfPattern_188 hl (by decide) rfl (fun ls hl => ?_)
                            refine lv_goto (tgt := 220) hx hb dX6_endOfPattern_190 (by decide) ?_
                            refine lv_aload_n hx hb dX6_endOfPattern_220 rfl (lv_at hl 5 rfl) ?_
                            refine va_get (D := (dC, dI)) (ci := 6) (v := .int fa) (C := RX6) (T := TX6) (N := 11) hx hb hts fin_X6_endOfPattern_X6 hown hK hP 0 rfl rfl 0 (by decide) (hts (.fieldLink RX6 22 "PatternGate$Reader" "faultKind" "I") (List.mem_of_getElem? (i := 2) (by decide +kernel))) (fun _ h9 => h9) rfl dX6_endOfPattern_221 ?_
                            refine lv_if_eq (tgt := 230) hx hb dX6_endOfPattern_224 (by decide) (fun k_206 => ?_) (fun k_206 => ?_)
                            · have tk_206 := c_eq (a := fa.toInt) (b := 0) rfl (by decide) k_206
                              obtain ⟨y_207, ey_207⟩ : ∃ y : Int32, y = ax + 1 := ⟨_, rfl⟩
                              first | have ty_207 := i_add (a := ax.toInt) (b := 1) rfl (by decide) ey_207 (by omega) (by omega) | skip
                              refine lv_iinc (v := y_207) (lv' := [(7, .int y_207), (6, .int 1), (5, .int y_205), (8, .int y_4), (4, .int sp), (0, .ref rd), (1, .ref ta), (2, .int i8), (3, .int i9)]) hx hb dX6_endOfPattern_230 hl (k := 3) rfl (by rw [ey_207]; rfl) (by decide) rfl (fun ls hl => ?_)
                              refine lv_goto (tgt := 12) hx hb dX6_endOfPattern_233 (by decide) ?_
                              have lit_207 : (1 : Int32).toInt = 1 := by decide
                              exact ih12 sp y_205 1 y_207 fa fb (by first | omega | decide | assumption) (by first | omega | decide | assumption) (by omega) _ _ ls hP hD hS (lv_sub hl [0, 1, 2, 4, 5, 6, 7, 8] rfl)
                            · have tk_206 := c_ne (a := fa.toInt) (b := 0) rfl (by decide) k_206
                              refine lv_iload hx hb dX6_endOfPattern_227 (lv_at hl 3 rfl) ?_
                              have hP9 := hP.sub (ws' := [(rd, .inr (6, rF r fa fb a2 a3 a4 a5 a6 a7)), (ta, .inl (cT, nb, .inl ft))]) [0, 1] rfl
                              have hD9 := hD.sub (ws' := [(rd, .inr (6, rF r fa fb a2 a3 a4 a5 a6 a7)), (ta, .inl (cT, nb, .inl ft))]) [0, 1] (by decide) rfl
                              have hK9 := hK.sub (tys' := [(cT, .int)]) [0] rfl
                              exact W.iret hx hb hr (fun t ht hW => ⟨⟨_, (), rfl, by omega, fa, fb, by rw [ht]; exact hP9, va_K.moved hW.alike hK9, hD9⟩, hS.F ht⟩) hS.2.2 dX6_endOfPattern_229
                    · have tk_162 := c_eq (a := y_4.toInt) (b := 124) rfl (by decide) k_162
                      refine lv_iload hx hb dX6_endOfPattern_156 (lv_at hl 2 rfl) ?_
                      refine lv_if_eq (tgt := 167) hx hb dX6_endOfPattern_158 (by decide) (fun k_209 => ?_) (fun k_209 => ?_)
                      · have tk_209 := c_eq (a := sd.toInt) (b := 0) rfl (by decide) k_209
                        refine lv_iload hx hb dX6_endOfPattern_167 (lv_at hl 0 rfl) ?_
                        refine lv_bipush (v := 41) hx hb dX6_endOfPattern_169 (by decide) ?_
                        refine lv_icmp_ne (tgt := 193) hx hb dX6_endOfPattern_171 (by decide) (fun k_210 => ?_) (fun k_210 => ?_)
                        · have tk_210 := c_ne (a := y_4.toInt) (b := 41) rfl (by decide) k_210
                          refine lv_iload hx hb dX6_endOfPattern_193 (lv_at hl 0 rfl) ?_
                          refine vp_callSi (W.runS (As := [.int y_4]) (rest := []) ⟨hx, hb, hml, hown, hts⟩ (s_isSign l dC dI y_4) (va_cwS 1 hts mg_X6_endOfPattern_X6_isSign_102 rfl rfl rfl (by decide +kernel) ⟨Nat.le_of_ble_eq_true rfl, Nat.le_of_ble_eq_true rfl⟩) ⟨fun a U g mk q => ⟨q.1, trivial⟩, fun U hU hW => ⟨rfl, trivial⟩⟩ rfl rfl hl.1 rfl (lv_room (Nat.le_of_ble_eq_true rfl)) dX6_endOfPattern_195 ⟨Nat.le_of_ble_eq_true rfl, Nat.le_of_ble_eq_true rfl⟩) (fun r_212 hw => ?_)
                          refine lv_if_eq (tgt := 213) hx hb dX6_endOfPattern_198 (by decide) (fun k_213 => ?_) (fun k_213 => ?_)
                          · have tk_213 := c_eq (a := r_212.toInt) (b := 0) rfl (by decide) k_213
                            refine lv_aload_n hx hb dX6_endOfPattern_213 rfl (lv_at hl 5 rfl) ?_
                            refine lv_iconst (v := 1) hx hb dX6_endOfPattern_214 (by decide) ?_
                            refine lv_iload hx hb dX6_endOfPattern_215 (lv_at hl 1 rfl) ?_
                            have hPc := hP.sub (ws' := [(rd, .inr (6, rF r fa fb a2 a3 a4 a5 a6 a7))]) [0] rfl
                            have hKc := hK.sub (tys' := []) [] rfl
                            have hDc := hD.sub (ws' := [(rd, .inr (6, rF r fa fb a2 a3 a4 a5 a6 a7))]) [0] (by decide) rfl
                            have hFc := va_free (wc := [(rd, .inr (6, rF r fa fb a2 a3 a4 a5 a6 a7))]) hD hS hA [0] rfl
                            refine va_callv (va_runV (As := [.int 1, .int ax]) (rest := []) ⟨hx, hb, hml, hown, hts⟩ (s_fail l dC dI rd r fa fb a2 a3 a4 a5 a6 a7 H.size 1 ax) (cwV 2 hts mg_X6_endOfPattern_X6_fail_71 rfl rfl rfl (by decide +kernel) ⟨Nat.le_of_ble_eq_true rfl, Nat.le_of_ble_eq_true rfl⟩) ⟨fun a U g mk q => by obtain ⟨q0, q1, qP, qK, qD⟩ := q; exact ⟨q0, q1, qP, va_K.moved (u := U) (U := U.calling g mk a) (Vm.Alike.refl U.vm) qK, qD⟩, va_recv hKc hPc (ci := 6) (q0 := 0) rfl rfl, fun U hU hW => ⟨rfl, by rw [hU], by rw [hU]; exact hPc, va_K.moved hW.alike hKc, hDc.weaken (fun _ _ _ _ => trivial)⟩⟩ rfl rfl hl.1 rfl (lv_room (Nat.le_of_ble_eq_true rfl)) dX6_endOfPattern_217 ⟨Nat.le_of_ble_eq_true rfl, Nat.le_of_ble_eq_true rfl⟩) hS (fun q _ h => hFc q h) hFc (fun u t H1 locs ht hvm hw hB hz1 hk1 hS => ?_)
                            obtain ⟨hP1, hK1, hD1⟩ := hB
                            rw [ht] at hP1
                            obtain ⟨hP, hD⟩ := va_join (wr := [(ta, .inl (cT, nb, .inl ft))]) (w1 := [(rd, .inr (6, rF r 1 ax a2 a3 a4 a5 a6 a7))]) hP hD [0] [1] rfl rfl (by decide) (by decide) hk1 hFc hP1 hD1
                            generalize H1 = H at hP hS ⊢
                            have hP : va_P (dC, dI) vwCl [(ta, .inl (cT, nb, .inl ft)), (rd, .inr (6, rF r 1 ax a2 a3 a4 a5 a6 a7))] H := hP
                            have hD : va_D A [(ta, .inl (cT, nb, .inl ft)), (rd, .inr (6, rF r 1 ax a2 a3 a4 a5 a6 a7))] := hD
                            refine lv_aload_n hx hb dX6_endOfPattern_220 rfl (lv_at hl 5 rfl) ?_
                            refine va_get (D := (dC, dI)) (ci := 6) (v := .int 1) (C := RX6) (T := TX6) (N := 11) hx hb hts fin_X6_endOfPattern_X6 hown hK hP 1 rfl rfl 0 (by decide) (hts (.fieldLink RX6 22 "PatternGate$Reader" "faultKind" "I") (List.mem_of_getElem? (i := 2) (by decide +kernel))) (fun _ h9 => h9) rfl dX6_endOfPattern_221 ?_
                            refine lv_if_eq (tgt := 230) hx hb dX6_endOfPattern_224 (by decide) (fun k_216 => absurd k_216 (by decide)) (fun k_216 => ?_)
                            have tk_216 := c_ne (a := 1) (b := 0) (by decide) (by decide) k_216
                            refine lv_iload hx hb dX6_endOfPattern_227 (lv_at hl 1 rfl) ?_
                            have hP9 := hP.sub (ws' := [(rd, .inr (6, rF r 1 ax a2 a3 a4 a5 a6 a7)), (ta, .inl (cT, nb, .inl ft))]) [1, 0] rfl
                            have hD9 := hD.sub (ws' := [(rd, .inr (6, rF r 1 ax a2 a3 a4 a5 a6 a7)), (ta, .inl (cT, nb, .inl ft))]) [1, 0] (by decide) rfl
                            have hK9 := hK.sub (tys' := [(cT, .int)]) [0] rfl
                            exact W.iret hx hb hr (fun t ht hW => ⟨⟨_, (), rfl, by omega, 1, ax, by rw [ht]; exact hP9, va_K.moved hW.alike hK9, hD9⟩, hS.F ht⟩) hS.2.2 dX6_endOfPattern_229
                          · have tk_213 := c_ne (a := r_212.toInt) (b := 0) rfl (by decide) k_213
                            refine lv_iload hx hb dX6_endOfPattern_201 (lv_at hl 2 rfl) ?_
                            refine lv_iconst (v := 1) hx hb dX6_endOfPattern_203 (by decide) ?_
                            refine lv_icmp_ne (tgt := 213) hx hb dX6_endOfPattern_204 (by decide) (fun k_217 => ?_) (fun k_217 => ?_)
                            · have tk_217 := c_ne (a := sd.toInt) (b := 1) rfl (by decide) k_217
                              refine lv_aload_n hx hb dX6_endOfPattern_213 rfl (lv_at hl 5 rfl) ?_
                              refine lv_iconst (v := 1) hx hb dX6_endOfPattern_214 (by decide) ?_
                              refine lv_iload hx hb dX6_endOfPattern_215 (lv_at hl 1 rfl) ?_
                              have hPc := hP.sub (ws' := [(rd, .inr (6, rF r fa fb a2 a3 a4 a5 a6 a7))]) [0] rfl
                              have hKc := hK.sub (tys' := []) [] rfl
                              have hDc := hD.sub (ws' := [(rd, .inr (6, rF r fa fb a2 a3 a4 a5 a6 a7))]) [0] (by decide) rfl
                              have hFc := va_free (wc := [(rd, .inr (6, rF r fa fb a2 a3 a4 a5 a6 a7))]) hD hS hA [0] rfl
                              refine va_callv (va_runV (As := [.int 1, .int ax]) (rest := []) ⟨hx, hb, hml, hown, hts⟩ (s_fail l dC dI rd r fa fb a2 a3 a4 a5 a6 a7 H.size 1 ax) (cwV 2 hts mg_X6_endOfPattern_X6_fail_71 rfl rfl rfl (by decide +kernel) ⟨Nat.le_of_ble_eq_true rfl, Nat.le_of_ble_eq_true rfl⟩) ⟨fun a U g mk q => by obtain ⟨q0, q1, qP, qK, qD⟩ := q; exact ⟨q0, q1, qP, va_K.moved (u := U) (U := U.calling g mk a) (Vm.Alike.refl U.vm) qK, qD⟩, va_recv hKc hPc (ci := 6) (q0 := 0) rfl rfl, fun U hU hW => ⟨rfl, by rw [hU], by rw [hU]; exact hPc, va_K.moved hW.alike hKc, hDc.weaken (fun _ _ _ _ => trivial)⟩⟩ rfl rfl hl.1 rfl (lv_room (Nat.le_of_ble_eq_true rfl)) dX6_endOfPattern_217 ⟨Nat.le_of_ble_eq_true rfl, Nat.le_of_ble_eq_true rfl⟩) hS (fun q _ h => hFc q h) hFc (fun u t H1 locs ht hvm hw hB hz1 hk1 hS => ?_)
                              obtain ⟨hP1, hK1, hD1⟩ := hB
                              rw [ht] at hP1
                              obtain ⟨hP, hD⟩ := va_join (wr := [(ta, .inl (cT, nb, .inl ft))]) (w1 := [(rd, .inr (6, rF r 1 ax a2 a3 a4 a5 a6 a7))]) hP hD [0] [1] rfl rfl (by decide) (by decide) hk1 hFc hP1 hD1
                              generalize H1 = H at hP hS ⊢
                              have hP : va_P (dC, dI) vwCl [(ta, .inl (cT, nb, .inl ft)), (rd, .inr (6, rF r 1 ax a2 a3 a4 a5 a6 a7))] H := hP
                              have hD : va_D A [(ta, .inl (cT, nb, .inl ft)), (rd, .inr (6, rF r 1 ax a2 a3 a4 a5 a6 a7))] := hD
                              refine lv_aload_n hx hb dX6_endOfPattern_220 rfl (lv_at hl 5 rfl) ?_
                              refine va_get (D := (dC, dI)) (ci := 6) (v := .int 1) (C := RX6) (T := TX6) (N := 11) hx hb hts fin_X6_endOfPattern_X6 hown hK hP 1 rfl rfl 0 (by decide) (hts (.fieldLink RX6 22 "PatternGate$Reader" "faultKind" "I") (List.mem_of_getElem? (i := 2) (by decide +kernel))) (fun _ h9 => h9) rfl dX6_endOfPattern_221 ?_
                              refine lv_if_eq (tgt := 230) hx hb dX6_endOfPattern_224 (by decide) (fun k_220 => absurd k_220 (by decide)) (fun k_220 => ?_)
                              have tk_220 := c_ne (a := 1) (b := 0) (by decide) (by decide) k_220
                              refine lv_iload hx hb dX6_endOfPattern_227 (lv_at hl 1 rfl) ?_
                              have hP9 := hP.sub (ws' := [(rd, .inr (6, rF r 1 ax a2 a3 a4 a5 a6 a7)), (ta, .inl (cT, nb, .inl ft))]) [1, 0] rfl
                              have hD9 := hD.sub (ws' := [(rd, .inr (6, rF r 1 ax a2 a3 a4 a5 a6 a7)), (ta, .inl (cT, nb, .inl ft))]) [1, 0] (by decide) rfl
                              have hK9 := hK.sub (tys' := [(cT, .int)]) [0] rfl
                              exact W.iret hx hb hr (fun t ht hW => ⟨⟨_, (), rfl, by omega, 1, ax, by rw [ht]; exact hP9, va_K.moved hW.alike hK9, hD9⟩, hS.F ht⟩) hS.2.2 dX6_endOfPattern_229
                            · have tk_217 := c_eq (a := sd.toInt) (b := 1) rfl (by decide) k_217
                              refine lv_iconst (v := 2) hx hb dX6_endOfPattern_207 (by decide) ?_
                              refine lv_istore (lv' := [(6, .int 2), (8, .int y_4), (7, .int ax), (5, .int op), (4, .int sp), (0, .ref rd), (1, .ref ta), (2, .int i8), (3, .int i9)]) hx hb dX6_endOfPattern_208 hl (by decide) rfl (fun ls hl => ?_)
                              refine lv_goto (tgt := 220) hx hb dX6_endOfPattern_210 (by decide) ?_
                              refine lv_aload_n hx hb dX6_endOfPattern_220 rfl (lv_at hl 5 rfl) ?_
                              refine va_get (D := (dC, dI)) (ci := 6) (v := .int fa) (C := RX6) (T := TX6) (N := 11) hx hb hts fin_X6_endOfPattern_X6 hown hK hP 0 rfl rfl 0 (by decide) (hts (.fieldLink RX6 22 "PatternGate$Reader" "faultKind" "I") (List.mem_of_getElem? (i := 2) (by decide +kernel))) (fun _ h9 => h9) rfl dX6_endOfPattern_221 ?_
                              refine lv_if_eq (tgt := 230) hx hb dX6_endOfPattern_224 (by decide) (fun k_221 => ?_) (fun k_221 => ?_)
                              · have tk_221 := c_eq (a := fa.toInt) (b := 0) rfl (by decide) k_221
                                obtain ⟨y_222, ey_222⟩ : ∃ y : Int32, y = ax + 1 := ⟨_, rfl⟩
                                first | have ty_222 := i_add (a := ax.toInt) (b := 1) rfl (by decide) ey_222 (by omega) (by omega) | skip
                                refine lv_iinc (v := y_222) (lv' := [(7, .int y_222), (6, .int 2), (8, .int y_4), (5, .int op), (4, .int sp), (0, .ref rd), (1, .ref ta), (2, .int i8), (3, .int i9)]) hx hb dX6_endOfPattern_230 hl (k := 2) rfl (by rw [ey_222]; rfl) (by decide) rfl (fun ls hl => ?_)
                                refine lv_goto (tgt := 12) hx hb dX6_endOfPattern_233 (by decide) ?_
                                have lit_222 : (2 : Int32).toInt = 2 := by decide
                                exact ih12 sp op 2 y_222 fa fb (by first | omega | decide | assumption) (by first | omega | decide | assumption) (by omega) _ _ ls hP hD hS (lv_sub hl [0, 1, 3, 4, 5, 6, 7, 8] rfl)
                              · have tk_221 := c_ne (a := fa.toInt) (b := 0) rfl (by decide) k_221
                                refine lv_iload hx hb dX6_endOfPattern_227 (lv_at hl 2 rfl) ?_
                                have hP9 := hP.sub (ws' := [(rd, .inr (6, rF r fa fb a2 a3 a4 a5 a6 a7)), (ta, .inl (cT, nb, .inl ft))]) [0, 1] rfl
                                have hD9 := hD.sub (ws' := [(rd, .inr (6, rF r fa fb a2 a3 a4 a5 a6 a7)), (ta, .inl (cT, nb, .inl ft))]) [0, 1] (by decide) rfl
                                have hK9 := hK.sub (tys' := [(cT, .int)]) [0] rfl
                                exact W.iret hx hb hr (fun t ht hW => ⟨⟨_, (), rfl, by omega, fa, fb, by rw [ht]; exact hP9, va_K.moved hW.alike hK9, hD9⟩, hS.F ht⟩) hS.2.2 dX6_endOfPattern_229
                        · have tk_210 := c_eq (a := y_4.toInt) (b := 41) rfl (by decide) k_210
                          refine lv_iload hx hb dX6_endOfPattern_174 (lv_at hl 3 rfl) ?_
                          refine lv_if_le (tgt := 193) hx hb dX6_endOfPattern_176 (by decide) (fun k_224 => ?_) (fun k_224 => ?_)
                          · have tk_224 := c_le (a := op.toInt) (b := 0) rfl (by decide) k_224
                            refine lv_iload hx hb dX6_endOfPattern_193 (lv_at hl 0 rfl) ?_
                            refine vp_callSi (W.runS (As := [.int y_4]) (rest := []) ⟨hx, hb, hml, hown, hts⟩ (s_isSign l dC dI y_4) (va_cwS 1 hts mg_X6_endOfPattern_X6_isSign_102 rfl rfl rfl (by decide +kernel) ⟨Nat.le_of_ble_eq_true rfl, Nat.le_of_ble_eq_true rfl⟩) ⟨fun a U g mk q => ⟨q.1, trivial⟩, fun U hU hW => ⟨rfl, trivial⟩⟩ rfl rfl hl.1 rfl (lv_room (Nat.le_of_ble_eq_true rfl)) dX6_endOfPattern_195 ⟨Nat.le_of_ble_eq_true rfl, Nat.le_of_ble_eq_true rfl⟩) (fun r_226 hw => ?_)
                            refine lv_if_eq (tgt := 213) hx hb dX6_endOfPattern_198 (by decide) (fun k_227 => ?_) (fun k_227 => ?_)
                            · have tk_227 := c_eq (a := r_226.toInt) (b := 0) rfl (by decide) k_227
                              refine lv_aload_n hx hb dX6_endOfPattern_213 rfl (lv_at hl 5 rfl) ?_
                              refine lv_iconst (v := 1) hx hb dX6_endOfPattern_214 (by decide) ?_
                              refine lv_iload hx hb dX6_endOfPattern_215 (lv_at hl 1 rfl) ?_
                              have hPc := hP.sub (ws' := [(rd, .inr (6, rF r fa fb a2 a3 a4 a5 a6 a7))]) [0] rfl
                              have hKc := hK.sub (tys' := []) [] rfl
                              have hDc := hD.sub (ws' := [(rd, .inr (6, rF r fa fb a2 a3 a4 a5 a6 a7))]) [0] (by decide) rfl
                              have hFc := va_free (wc := [(rd, .inr (6, rF r fa fb a2 a3 a4 a5 a6 a7))]) hD hS hA [0] rfl
                              refine va_callv (va_runV (As := [.int 1, .int ax]) (rest := []) ⟨hx, hb, hml, hown, hts⟩ (s_fail l dC dI rd r fa fb a2 a3 a4 a5 a6 a7 H.size 1 ax) (cwV 2 hts mg_X6_endOfPattern_X6_fail_71 rfl rfl rfl (by decide +kernel) ⟨Nat.le_of_ble_eq_true rfl, Nat.le_of_ble_eq_true rfl⟩) ⟨fun a U g mk q => by obtain ⟨q0, q1, qP, qK, qD⟩ := q; exact ⟨q0, q1, qP, va_K.moved (u := U) (U := U.calling g mk a) (Vm.Alike.refl U.vm) qK, qD⟩, va_recv hKc hPc (ci := 6) (q0 := 0) rfl rfl, fun U hU hW => ⟨rfl, by rw [hU], by rw [hU]; exact hPc, va_K.moved hW.alike hKc, hDc.weaken (fun _ _ _ _ => trivial)⟩⟩ rfl rfl hl.1 rfl (lv_room (Nat.le_of_ble_eq_true rfl)) dX6_endOfPattern_217 ⟨Nat.le_of_ble_eq_true rfl, Nat.le_of_ble_eq_true rfl⟩) hS (fun q _ h => hFc q h) hFc (fun u t H1 locs ht hvm hw hB hz1 hk1 hS => ?_)
                              obtain ⟨hP1, hK1, hD1⟩ := hB
                              rw [ht] at hP1
                              obtain ⟨hP, hD⟩ := va_join (wr := [(ta, .inl (cT, nb, .inl ft))]) (w1 := [(rd, .inr (6, rF r 1 ax a2 a3 a4 a5 a6 a7))]) hP hD [0] [1] rfl rfl (by decide) (by decide) hk1 hFc hP1 hD1
                              generalize H1 = H at hP hS ⊢
                              have hP : va_P (dC, dI) vwCl [(ta, .inl (cT, nb, .inl ft)), (rd, .inr (6, rF r 1 ax a2 a3 a4 a5 a6 a7))] H := hP
                              have hD : va_D A [(ta, .inl (cT, nb, .inl ft)), (rd, .inr (6, rF r 1 ax a2 a3 a4 a5 a6 a7))] := hD
                              refine lv_aload_n hx hb dX6_endOfPattern_220 rfl (lv_at hl 5 rfl) ?_
                              refine va_get (D := (dC, dI)) (ci := 6) (v := .int 1) (C := RX6) (T := TX6) (N := 11) hx hb hts fin_X6_endOfPattern_X6 hown hK hP 1 rfl rfl 0 (by decide) (hts (.fieldLink RX6 22 "PatternGate$Reader" "faultKind" "I") (List.mem_of_getElem? (i := 2) (by decide +kernel))) (fun _ h9 => h9) rfl dX6_endOfPattern_221 ?_
                              refine lv_if_eq (tgt := 230) hx hb dX6_endOfPattern_224 (by decide) (fun k_230 => absurd k_230 (by decide)) (fun k_230 => ?_)
                              have tk_230 := c_ne (a := 1) (b := 0) (by decide) (by decide) k_230
                              refine lv_iload hx hb dX6_endOfPattern_227 (lv_at hl 1 rfl) ?_
                              have hP9 := hP.sub (ws' := [(rd, .inr (6, rF r 1 ax a2 a3 a4 a5 a6 a7)), (ta, .inl (cT, nb, .inl ft))]) [1, 0] rfl
                              have hD9 := hD.sub (ws' := [(rd, .inr (6, rF r 1 ax a2 a3 a4 a5 a6 a7)), (ta, .inl (cT, nb, .inl ft))]) [1, 0] (by decide) rfl
                              have hK9 := hK.sub (tys' := [(cT, .int)]) [0] rfl
                              exact W.iret hx hb hr (fun t ht hW => ⟨⟨_, (), rfl, by omega, 1, ax, by rw [ht]; exact hP9, va_K.moved hW.alike hK9, hD9⟩, hS.F ht⟩) hS.2.2 dX6_endOfPattern_229
                            · have tk_227 := c_ne (a := r_226.toInt) (b := 0) rfl (by decide) k_227
                              refine lv_iload hx hb dX6_endOfPattern_201 (lv_at hl 2 rfl) ?_
                              refine lv_iconst (v := 1) hx hb dX6_endOfPattern_203 (by decide) ?_
                              refine lv_icmp_ne (tgt := 213) hx hb dX6_endOfPattern_204 (by decide) (fun k_231 => ?_) (fun k_231 => ?_)
                              · have tk_231 := c_ne (a := sd.toInt) (b := 1) rfl (by decide) k_231
                                refine lv_aload_n hx hb dX6_endOfPattern_213 rfl (lv_at hl 5 rfl) ?_
                                refine lv_iconst (v := 1) hx hb dX6_endOfPattern_214 (by decide) ?_
                                refine lv_iload hx hb dX6_endOfPattern_215 (lv_at hl 1 rfl) ?_
                                have hPc := hP.sub (ws' := [(rd, .inr (6, rF r fa fb a2 a3 a4 a5 a6 a7))]) [0] rfl
                                have hKc := hK.sub (tys' := []) [] rfl
                                have hDc := hD.sub (ws' := [(rd, .inr (6, rF r fa fb a2 a3 a4 a5 a6 a7))]) [0] (by decide) rfl
                                have hFc := va_free (wc := [(rd, .inr (6, rF r fa fb a2 a3 a4 a5 a6 a7))]) hD hS hA [0] rfl
                                refine va_callv (va_runV (As := [.int 1, .int ax]) (rest := []) ⟨hx, hb, hml, hown, hts⟩ (s_fail l dC dI rd r fa fb a2 a3 a4 a5 a6 a7 H.size 1 ax) (cwV 2 hts mg_X6_endOfPattern_X6_fail_71 rfl rfl rfl (by decide +kernel) ⟨Nat.le_of_ble_eq_true rfl, Nat.le_of_ble_eq_true rfl⟩) ⟨fun a U g mk q => by obtain ⟨q0, q1, qP, qK, qD⟩ := q; exact ⟨q0, q1, qP, va_K.moved (u := U) (U := U.calling g mk a) (Vm.Alike.refl U.vm) qK, qD⟩, va_recv hKc hPc (ci := 6) (q0 := 0) rfl rfl, fun U hU hW => ⟨rfl, by rw [hU], by rw [hU]; exact hPc, va_K.moved hW.alike hKc, hDc.weaken (fun _ _ _ _ => trivial)⟩⟩ rfl rfl hl.1 rfl (lv_room (Nat.le_of_ble_eq_true rfl)) dX6_endOfPattern_217 ⟨Nat.le_of_ble_eq_true rfl, Nat.le_of_ble_eq_true rfl⟩) hS (fun q _ h => hFc q h) hFc (fun u t H1 locs ht hvm hw hB hz1 hk1 hS => ?_)
                                obtain ⟨hP1, hK1, hD1⟩ := hB
                                rw [ht] at hP1
                                obtain ⟨hP, hD⟩ := va_join (wr := [(ta, .inl (cT, nb, .inl ft))]) (w1 := [(rd, .inr (6, rF r 1 ax a2 a3 a4 a5 a6 a7))]) hP hD [0] [1] rfl rfl (by decide) (by decide) hk1 hFc hP1 hD1
                                generalize H1 = H at hP hS ⊢
                                have hP : va_P (dC, dI) vwCl [(ta, .inl (cT, nb, .inl ft)), (rd, .inr (6, rF r 1 ax a2 a3 a4 a5 a6 a7))] H := hP
                                have hD : va_D A [(ta, .inl (cT, nb, .inl ft)), (rd, .inr (6, rF r 1 ax a2 a3 a4 a5 a6 a7))] := hD
                                refine lv_aload_n hx hb dX6_endOfPattern_220 rfl (lv_at hl 5 rfl) ?_
                                refine va_get (D := (dC, dI)) (ci := 6) (v := .int 1) (C := RX6) (T := TX6) (N := 11) hx hb hts fin_X6_endOfPattern_X6 hown hK hP 1 rfl rfl 0 (by decide) (hts (.fieldLink RX6 22 "PatternGate$Reader" "faultKind" "I") (List.mem_of_getElem? (i := 2) (by decide +kernel))) (fun _ h9 => h9) rfl dX6_endOfPattern_221 ?_
                                refine lv_if_eq (tgt := 230) hx hb dX6_endOfPattern_224 (by decide) (fun k_234 => absurd k_234 (by decide)) (fun k_234 => ?_)
                                have tk_234 := c_ne (a := 1) (b := 0) (by decide) (by decide) k_234
                                refine lv_iload hx hb dX6_endOfPattern_227 (lv_at hl 1 rfl) ?_
                                have hP9 := hP.sub (ws' := [(rd, .inr (6, rF r 1 ax a2 a3 a4 a5 a6 a7)), (ta, .inl (cT, nb, .inl ft))]) [1, 0] rfl
                                have hD9 := hD.sub (ws' := [(rd, .inr (6, rF r 1 ax a2 a3 a4 a5 a6 a7)), (ta, .inl (cT, nb, .inl ft))]) [1, 0] (by decide) rfl
                                have hK9 := hK.sub (tys' := [(cT, .int)]) [0] rfl
                                exact W.iret hx hb hr (fun t ht hW => ⟨⟨_, (), rfl, by omega, 1, ax, by rw [ht]; exact hP9, va_K.moved hW.alike hK9, hD9⟩, hS.F ht⟩) hS.2.2 dX6_endOfPattern_229
                              · have tk_231 := c_eq (a := sd.toInt) (b := 1) rfl (by decide) k_231
                                refine lv_iconst (v := 2) hx hb dX6_endOfPattern_207 (by decide) ?_
                                refine lv_istore (lv' := [(6, .int 2), (8, .int y_4), (7, .int ax), (5, .int op), (4, .int sp), (0, .ref rd), (1, .ref ta), (2, .int i8), (3, .int i9)]) hx hb dX6_endOfPattern_208 hl (by decide) rfl (fun ls hl => ?_)
                                refine lv_goto (tgt := 220) hx hb dX6_endOfPattern_210 (by decide) ?_
                                refine lv_aload_n hx hb dX6_endOfPattern_220 rfl (lv_at hl 5 rfl) ?_
                                refine va_get (D := (dC, dI)) (ci := 6) (v := .int fa) (C := RX6) (T := TX6) (N := 11) hx hb hts fin_X6_endOfPattern_X6 hown hK hP 0 rfl rfl 0 (by decide) (hts (.fieldLink RX6 22 "PatternGate$Reader" "faultKind" "I") (List.mem_of_getElem? (i := 2) (by decide +kernel))) (fun _ h9 => h9) rfl dX6_endOfPattern_221 ?_
                                refine lv_if_eq (tgt := 230) hx hb dX6_endOfPattern_224 (by decide) (fun k_235 => ?_) (fun k_235 => ?_)
                                · have tk_235 := c_eq (a := fa.toInt) (b := 0) rfl (by decide) k_235
                                  obtain ⟨y_236, ey_236⟩ : ∃ y : Int32, y = ax + 1 := ⟨_, rfl⟩
                                  first | have ty_236 := i_add (a := ax.toInt) (b := 1) rfl (by decide) ey_236 (by omega) (by omega) | skip
                                  refine lv_iinc (v := y_236) (lv' := [(7, .int y_236), (6, .int 2), (8, .int y_4), (5, .int op), (4, .int sp), (0, .ref rd), (1, .ref ta), (2, .int i8), (3, .int i9)]) hx hb dX6_endOfPattern_230 hl (k := 2) rfl (by rw [ey_236]; rfl) (by decide) rfl (fun ls hl => ?_)
                                  refine lv_goto (tgt := 12) hx hb dX6_endOfPattern_233 (by decide) ?_
                                  have lit_236 : (2 : Int32).toInt = 2 := by decide
                                  exact ih12 sp op 2 y_236 fa fb (by first | omega | decide | assumption) (by first | omega | decide | assumption) (by omega) _ _ ls hP hD hS (lv_sub hl [0, 1, 3, 4, 5, 6, 7, 8] rfl)
                                · have tk_235 := c_ne (a := fa.toInt) (b := 0) rfl (by decide) k_235
                                  refine lv_iload hx hb dX6_endOfPattern_227 (lv_at hl 2 rfl) ?_
                                  have hP9 := hP.sub (ws' := [(rd, .inr (6, rF r fa fb a2 a3 a4 a5 a6 a7)), (ta, .inl (cT, nb, .inl ft))]) [0, 1] rfl
                                  have hD9 := hD.sub (ws' := [(rd, .inr (6, rF r fa fb a2 a3 a4 a5 a6 a7)), (ta, .inl (cT, nb, .inl ft))]) [0, 1] (by decide) rfl
                                  have hK9 := hK.sub (tys' := [(cT, .int)]) [0] rfl
                                  exact W.iret hx hb hr (fun t ht hW => ⟨⟨_, (), rfl, by omega, fa, fb, by rw [ht]; exact hP9, va_K.moved hW.alike hK9, hD9⟩, hS.F ht⟩) hS.2.2 dX6_endOfPattern_229
                          · have tk_224 := c_nle (a := op.toInt) (b := 0) rfl (by decide) k_224
                            refine lv_iload hx hb dX6_endOfPattern_179 (lv_at hl 2 rfl) ?_
                            refine lv_if_eq (tgt := 193) hx hb dX6_endOfPattern_181 (by decide) (fun k_238 => ?_) (fun k_238 => ?_)
                            · have tk_238 := c_eq (a := sd.toInt) (b := 0) rfl (by decide) k_238
                              refine lv_iload hx hb dX6_endOfPattern_193 (lv_at hl 0 rfl) ?_
                              refine vp_callSi (W.runS (As := [.int y_4]) (rest := []) ⟨hx, hb, hml, hown, hts⟩ (s_isSign l dC dI y_4) (va_cwS 1 hts mg_X6_endOfPattern_X6_isSign_102 rfl rfl rfl (by decide +kernel) ⟨Nat.le_of_ble_eq_true rfl, Nat.le_of_ble_eq_true rfl⟩) ⟨fun a U g mk q => ⟨q.1, trivial⟩, fun U hU hW => ⟨rfl, trivial⟩⟩ rfl rfl hl.1 rfl (lv_room (Nat.le_of_ble_eq_true rfl)) dX6_endOfPattern_195 ⟨Nat.le_of_ble_eq_true rfl, Nat.le_of_ble_eq_true rfl⟩) (fun r_240 hw => ?_)
                              refine lv_if_eq (tgt := 213) hx hb dX6_endOfPattern_198 (by decide) (fun k_241 => ?_) (fun k_241 => ?_)
                              · have tk_241 := c_eq (a := r_240.toInt) (b := 0) rfl (by decide) k_241
                                refine lv_aload_n hx hb dX6_endOfPattern_213 rfl (lv_at hl 5 rfl) ?_
                                refine lv_iconst (v := 1) hx hb dX6_endOfPattern_214 (by decide) ?_
                                refine lv_iload hx hb dX6_endOfPattern_215 (lv_at hl 1 rfl) ?_
                                have hPc := hP.sub (ws' := [(rd, .inr (6, rF r fa fb a2 a3 a4 a5 a6 a7))]) [0] rfl
                                have hKc := hK.sub (tys' := []) [] rfl
                                have hDc := hD.sub (ws' := [(rd, .inr (6, rF r fa fb a2 a3 a4 a5 a6 a7))]) [0] (by decide) rfl
                                have hFc := va_free (wc := [(rd, .inr (6, rF r fa fb a2 a3 a4 a5 a6 a7))]) hD hS hA [0] rfl
                                refine va_callv (va_runV (As := [.int 1, .int ax]) (rest := []) ⟨hx, hb, hml, hown, hts⟩ (s_fail l dC dI rd r fa fb a2 a3 a4 a5 a6 a7 H.size 1 ax) (cwV 2 hts mg_X6_endOfPattern_X6_fail_71 rfl rfl rfl (by decide +kernel) ⟨Nat.le_of_ble_eq_true rfl, Nat.le_of_ble_eq_true rfl⟩) ⟨fun a U g mk q => by obtain ⟨q0, q1, qP, qK, qD⟩ := q; exact ⟨q0, q1, qP, va_K.moved (u := U) (U := U.calling g mk a) (Vm.Alike.refl U.vm) qK, qD⟩, va_recv hKc hPc (ci := 6) (q0 := 0) rfl rfl, fun U hU hW => ⟨rfl, by rw [hU], by rw [hU]; exact hPc, va_K.moved hW.alike hKc, hDc.weaken (fun _ _ _ _ => trivial)⟩⟩ rfl rfl hl.1 rfl (lv_room (Nat.le_of_ble_eq_true rfl)) dX6_endOfPattern_217 ⟨Nat.le_of_ble_eq_true rfl, Nat.le_of_ble_eq_true rfl⟩) hS (fun q _ h => hFc q h) hFc (fun u t H1 locs ht hvm hw hB hz1 hk1 hS => ?_)
                                obtain ⟨hP1, hK1, hD1⟩ := hB
                                rw [ht] at hP1
                                obtain ⟨hP, hD⟩ := va_join (wr := [(ta, .inl (cT, nb, .inl ft))]) (w1 := [(rd, .inr (6, rF r 1 ax a2 a3 a4 a5 a6 a7))]) hP hD [0] [1] rfl rfl (by decide) (by decide) hk1 hFc hP1 hD1
                                generalize H1 = H at hP hS ⊢
                                have hP : va_P (dC, dI) vwCl [(ta, .inl (cT, nb, .inl ft)), (rd, .inr (6, rF r 1 ax a2 a3 a4 a5 a6 a7))] H := hP
                                have hD : va_D A [(ta, .inl (cT, nb, .inl ft)), (rd, .inr (6, rF r 1 ax a2 a3 a4 a5 a6 a7))] := hD
                                refine lv_aload_n hx hb dX6_endOfPattern_220 rfl (lv_at hl 5 rfl) ?_
                                refine va_get (D := (dC, dI)) (ci := 6) (v := .int 1) (C := RX6) (T := TX6) (N := 11) hx hb hts fin_X6_endOfPattern_X6 hown hK hP 1 rfl rfl 0 (by decide) (hts (.fieldLink RX6 22 "PatternGate$Reader" "faultKind" "I") (List.mem_of_getElem? (i := 2) (by decide +kernel))) (fun _ h9 => h9) rfl dX6_endOfPattern_221 ?_
                                refine lv_if_eq (tgt := 230) hx hb dX6_endOfPattern_224 (by decide) (fun k_244 => absurd k_244 (by decide)) (fun k_244 => ?_)
                                have tk_244 := c_ne (a := 1) (b := 0) (by decide) (by decide) k_244
                                refine lv_iload hx hb dX6_endOfPattern_227 (lv_at hl 1 rfl) ?_
                                have hP9 := hP.sub (ws' := [(rd, .inr (6, rF r 1 ax a2 a3 a4 a5 a6 a7)), (ta, .inl (cT, nb, .inl ft))]) [1, 0] rfl
                                have hD9 := hD.sub (ws' := [(rd, .inr (6, rF r 1 ax a2 a3 a4 a5 a6 a7)), (ta, .inl (cT, nb, .inl ft))]) [1, 0] (by decide) rfl
                                have hK9 := hK.sub (tys' := [(cT, .int)]) [0] rfl
                                exact W.iret hx hb hr (fun t ht hW => ⟨⟨_, (), rfl, by omega, 1, ax, by rw [ht]; exact hP9, va_K.moved hW.alike hK9, hD9⟩, hS.F ht⟩) hS.2.2 dX6_endOfPattern_229
                              · have tk_241 := c_ne (a := r_240.toInt) (b := 0) rfl (by decide) k_241
                                refine lv_iload hx hb dX6_endOfPattern_201 (lv_at hl 2 rfl) ?_
                                refine lv_iconst (v := 1) hx hb dX6_endOfPattern_203 (by decide) ?_
                                refine lv_icmp_ne (tgt := 213) hx hb dX6_endOfPattern_204 (by decide) (fun k_245 => ?_) (fun k_245 => ?_)
                                · have tk_245 := c_ne (a := sd.toInt) (b := 1) rfl (by decide) k_245
                                  refine lv_aload_n hx hb dX6_endOfPattern_213 rfl (lv_at hl 5 rfl) ?_
                                  refine lv_iconst (v := 1) hx hb dX6_endOfPattern_214 (by decide) ?_
                                  refine lv_iload hx hb dX6_endOfPattern_215 (lv_at hl 1 rfl) ?_
                                  have hPc := hP.sub (ws' := [(rd, .inr (6, rF r fa fb a2 a3 a4 a5 a6 a7))]) [0] rfl
                                  have hKc := hK.sub (tys' := []) [] rfl
                                  have hDc := hD.sub (ws' := [(rd, .inr (6, rF r fa fb a2 a3 a4 a5 a6 a7))]) [0] (by decide) rfl
                                  have hFc := va_free (wc := [(rd, .inr (6, rF r fa fb a2 a3 a4 a5 a6 a7))]) hD hS hA [0] rfl
                                  refine va_callv (va_runV (As := [.int 1, .int ax]) (rest := []) ⟨hx, hb, hml, hown, hts⟩ (s_fail l dC dI rd r fa fb a2 a3 a4 a5 a6 a7 H.size 1 ax) (cwV 2 hts mg_X6_endOfPattern_X6_fail_71 rfl rfl rfl (by decide +kernel) ⟨Nat.le_of_ble_eq_true rfl, Nat.le_of_ble_eq_true rfl⟩) ⟨fun a U g mk q => by obtain ⟨q0, q1, qP, qK, qD⟩ := q; exact ⟨q0, q1, qP, va_K.moved (u := U) (U := U.calling g mk a) (Vm.Alike.refl U.vm) qK, qD⟩, va_recv hKc hPc (ci := 6) (q0 := 0) rfl rfl, fun U hU hW => ⟨rfl, by rw [hU], by rw [hU]; exact hPc, va_K.moved hW.alike hKc, hDc.weaken (fun _ _ _ _ => trivial)⟩⟩ rfl rfl hl.1 rfl (lv_room (Nat.le_of_ble_eq_true rfl)) dX6_endOfPattern_217 ⟨Nat.le_of_ble_eq_true rfl, Nat.le_of_ble_eq_true rfl⟩) hS (fun q _ h => hFc q h) hFc (fun u t H1 locs ht hvm hw hB hz1 hk1 hS => ?_)
                                  obtain ⟨hP1, hK1, hD1⟩ := hB
                                  rw [ht] at hP1
                                  obtain ⟨hP, hD⟩ := va_join (wr := [(ta, .inl (cT, nb, .inl ft))]) (w1 := [(rd, .inr (6, rF r 1 ax a2 a3 a4 a5 a6 a7))]) hP hD [0] [1] rfl rfl (by decide) (by decide) hk1 hFc hP1 hD1
                                  generalize H1 = H at hP hS ⊢
                                  have hP : va_P (dC, dI) vwCl [(ta, .inl (cT, nb, .inl ft)), (rd, .inr (6, rF r 1 ax a2 a3 a4 a5 a6 a7))] H := hP
                                  have hD : va_D A [(ta, .inl (cT, nb, .inl ft)), (rd, .inr (6, rF r 1 ax a2 a3 a4 a5 a6 a7))] := hD
                                  refine lv_aload_n hx hb dX6_endOfPattern_220 rfl (lv_at hl 5 rfl) ?_
                                  refine va_get (D := (dC, dI)) (ci := 6) (v := .int 1) (C := RX6) (T := TX6) (N := 11) hx hb hts fin_X6_endOfPattern_X6 hown hK hP 1 rfl rfl 0 (by decide) (hts (.fieldLink RX6 22 "PatternGate$Reader" "faultKind" "I") (List.mem_of_getElem? (i := 2) (by decide +kernel))) (fun _ h9 => h9) rfl dX6_endOfPattern_221 ?_
                                  refine lv_if_eq (tgt := 230) hx hb dX6_endOfPattern_224 (by decide) (fun k_248 => absurd k_248 (by decide)) (fun k_248 => ?_)
                                  have tk_248 := c_ne (a := 1) (b := 0) (by decide) (by decide) k_248
                                  refine lv_iload hx hb dX6_endOfPattern_227 (lv_at hl 1 rfl) ?_
                                  have hP9 := hP.sub (ws' := [(rd, .inr (6, rF r 1 ax a2 a3 a4 a5 a6 a7)), (ta, .inl (cT, nb, .inl ft))]) [1, 0] rfl
                                  have hD9 := hD.sub (ws' := [(rd, .inr (6, rF r 1 ax a2 a3 a4 a5 a6 a7)), (ta, .inl (cT, nb, .inl ft))]) [1, 0] (by decide) rfl
                                  have hK9 := hK.sub (tys' := [(cT, .int)]) [0] rfl
                                  exact W.iret hx hb hr (fun t ht hW => ⟨⟨_, (), rfl, by omega, 1, ax, by rw [ht]; exact hP9, va_K.moved hW.alike hK9, hD9⟩, hS.F ht⟩) hS.2.2 dX6_endOfPattern_229
                                · have tk_245 := c_eq (a := sd.toInt) (b := 1) rfl (by decide) k_245
                                  refine lv_iconst (v := 2) hx hb dX6_endOfPattern_207 (by decide) ?_
                                  refine lv_istore (lv' := [(6, .int 2), (8, .int y_4), (7, .int ax), (5, .int op), (4, .int sp), (0, .ref rd), (1, .ref ta), (2, .int i8), (3, .int i9)]) hx hb dX6_endOfPattern_208 hl (by decide) rfl (fun ls hl => ?_)
                                  refine lv_goto (tgt := 220) hx hb dX6_endOfPattern_210 (by decide) ?_
                                  refine lv_aload_n hx hb dX6_endOfPattern_220 rfl (lv_at hl 5 rfl) ?_
                                  refine va_get (D := (dC, dI)) (ci := 6) (v := .int fa) (C := RX6) (T := TX6) (N := 11) hx hb hts fin_X6_endOfPattern_X6 hown hK hP 0 rfl rfl 0 (by decide) (hts (.fieldLink RX6 22 "PatternGate$Reader" "faultKind" "I") (List.mem_of_getElem? (i := 2) (by decide +kernel))) (fun _ h9 => h9) rfl dX6_endOfPattern_221 ?_
                                  refine lv_if_eq (tgt := 230) hx hb dX6_endOfPattern_224 (by decide) (fun k_249 => ?_) (fun k_249 => ?_)
                                  · have tk_249 := c_eq (a := fa.toInt) (b := 0) rfl (by decide) k_249
                                    obtain ⟨y_250, ey_250⟩ : ∃ y : Int32, y = ax + 1 := ⟨_, rfl⟩
                                    first | have ty_250 := i_add (a := ax.toInt) (b := 1) rfl (by decide) ey_250 (by omega) (by omega) | skip
                                    refine lv_iinc (v := y_250) (lv' := [(7, .int y_250), (6, .int 2), (8, .int y_4), (5, .int op), (4, .int sp), (0, .ref rd), (1, .ref ta), (2, .int i8), (3, .int i9)]) hx hb dX6_endOfPattern_230 hl (k := 2) rfl (by rw [ey_250]; rfl) (by decide) rfl (fun ls hl => ?_)
                                    refine lv_goto (tgt := 12) hx hb dX6_endOfPattern_233 (by decide) ?_
                                    have lit_250 : (2 : Int32).toInt = 2 := by decide
                                    exact ih12 sp op 2 y_250 fa fb (by first | omega | decide | assumption) (by first | omega | decide | assumption) (by omega) _ _ ls hP hD hS (lv_sub hl [0, 1, 3, 4, 5, 6, 7, 8] rfl)
                                  · have tk_249 := c_ne (a := fa.toInt) (b := 0) rfl (by decide) k_249
                                    refine lv_iload hx hb dX6_endOfPattern_227 (lv_at hl 2 rfl) ?_
                                    have hP9 := hP.sub (ws' := [(rd, .inr (6, rF r fa fb a2 a3 a4 a5 a6 a7)), (ta, .inl (cT, nb, .inl ft))]) [0, 1] rfl
                                    have hD9 := hD.sub (ws' := [(rd, .inr (6, rF r fa fb a2 a3 a4 a5 a6 a7)), (ta, .inl (cT, nb, .inl ft))]) [0, 1] (by decide) rfl
                                    have hK9 := hK.sub (tys' := [(cT, .int)]) [0] rfl
                                    exact W.iret hx hb hr (fun t ht hW => ⟨⟨_, (), rfl, by omega, fa, fb, by rw [ht]; exact hP9, va_K.moved hW.alike hK9, hD9⟩, hS.F ht⟩) hS.2.2 dX6_endOfPattern_229
                            · have tk_238 := c_ne (a := sd.toInt) (b := 0) rfl (by decide) k_238
                              obtain ⟨y_252, ey_252⟩ : ∃ y : Int32, y = op + (-1) := ⟨_, rfl⟩
                              first | have ty_252 := i_add (a := op.toInt) (b := (-1)) rfl (by decide) ey_252 (by omega) (by omega) | skip
                              refine lv_iinc (v := y_252) (lv' := [(5, .int y_252), (8, .int y_4), (7, .int ax), (6, .int sd), (4, .int sp), (0, .ref rd), (1, .ref ta), (2, .int i8), (3, .int i9)]) hx hb dX6_endOfPattern_184 hl (k := 3) rfl (by rw [ey_252]; rfl) (by decide) rfl (fun ls hl => ?_)
                              refine lv_iconst (v := 1) hx hb dX6_endOfPattern_187 (by decide) ?_
                              refine lv_istore (lv' := [(6, .int 1), (5, .int y_252), (8, .int y_4), (7, .int ax), (4, .int sp), (0, .ref rd), (1, .ref ta), (2, .int i8), (3, .int i9)]) hx hb dX6_endOfPattern_188 hl (by decide) rfl (fun ls hl => ?_)
                              refine lv_goto (tgt := 220) hx hb dX6_endOfPattern_190 (by decide) ?_
                              refine lv_aload_n hx hb dX6_endOfPattern_220 rfl (lv_at hl 5 rfl) ?_
                              refine va_get (D := (dC, dI)) (ci := 6) (v := .int fa) (C := RX6) (T := TX6) (N := 11) hx hb hts fin_X6_endOfPattern_X6 hown hK hP 0 rfl rfl 0 (by decide) (hts (.fieldLink RX6 22 "PatternGate$Reader" "faultKind" "I") (List.mem_of_getElem? (i := 2) (by decide +kernel))) (fun _ h9 => h9) rfl dX6_endOfPattern_221 ?_
                              refine lv_if_eq (tgt := 230) hx hb dX6_endOfPattern_224 (by decide) (fun k_253 => ?_) (fun k_253 => ?_)
                              · have tk_253 := c_eq (a := fa.toInt) (b := 0) rfl (by decide) k_253
                                obtain ⟨y_254, ey_254⟩ : ∃ y : Int32, y = ax + 1 := ⟨_, rfl⟩
                                first | have ty_254 := i_add (a := ax.toInt) (b := 1) rfl (by decide) ey_254 (by omega) (by omega) | skip
                                refine lv_iinc (v := y_254) (lv' := [(7, .int y_254), (6, .int 1), (5, .int y_252), (8, .int y_4), (4, .int sp), (0, .ref rd), (1, .ref ta), (2, .int i8), (3, .int i9)]) hx hb dX6_endOfPattern_230 hl (k := 3) rfl (by rw [ey_254]; rfl) (by decide) rfl (fun ls hl => ?_)
                                refine lv_goto (tgt := 12) hx hb dX6_endOfPattern_233 (by decide) ?_
                                have lit_254 : (1 : Int32).toInt = 1 := by decide
                                exact ih12 sp y_252 1 y_254 fa fb (by first | omega | decide | assumption) (by first | omega | decide | assumption) (by omega) _ _ ls hP hD hS (lv_sub hl [0, 1, 2, 4, 5, 6, 7, 8] rfl)
                              · have tk_253 := c_ne (a := fa.toInt) (b := 0) rfl (by decide) k_253
                                refine lv_iload hx hb dX6_endOfPattern_227 (lv_at hl 3 rfl) ?_
                                have hP9 := hP.sub (ws' := [(rd, .inr (6, rF r fa fb a2 a3 a4 a5 a6 a7)), (ta, .inl (cT, nb, .inl ft))]) [0, 1] rfl
                                have hD9 := hD.sub (ws' := [(rd, .inr (6, rF r fa fb a2 a3 a4 a5 a6 a7)), (ta, .inl (cT, nb, .inl ft))]) [0, 1] (by decide) rfl
                                have hK9 := hK.sub (tys' := [(cT, .int)]) [0] rfl
                                exact W.iret hx hb hr (fun t ht hW => ⟨⟨_, (), rfl, by omega, fa, fb, by rw [ht]; exact hP9, va_K.moved hW.alike hK9, hD9⟩, hS.F ht⟩) hS.2.2 dX6_endOfPattern_229
                      · have tk_209 := c_ne (a := sd.toInt) (b := 0) rfl (by decide) k_209
                        refine lv_iconst (v := 0) hx hb dX6_endOfPattern_161 (by decide) ?_
                        refine lv_istore (lv' := [(6, .int 0), (8, .int y_4), (7, .int ax), (5, .int op), (4, .int sp), (0, .ref rd), (1, .ref ta), (2, .int i8), (3, .int i9)]) hx hb dX6_endOfPattern_162 hl (by decide) rfl (fun ls hl => ?_)
                        refine lv_goto (tgt := 220) hx hb dX6_endOfPattern_164 (by decide) ?_
                        refine lv_aload_n hx hb dX6_endOfPattern_220 rfl (lv_at hl 5 rfl) ?_
                        refine va_get (D := (dC, dI)) (ci := 6) (v := .int fa) (C := RX6) (T := TX6) (N := 11) hx hb hts fin_X6_endOfPattern_X6 hown hK hP 0 rfl rfl 0 (by decide) (hts (.fieldLink RX6 22 "PatternGate$Reader" "faultKind" "I") (List.mem_of_getElem? (i := 2) (by decide +kernel))) (fun _ h9 => h9) rfl dX6_endOfPattern_221 ?_
                        refine lv_if_eq (tgt := 230) hx hb dX6_endOfPattern_224 (by decide) (fun k_256 => ?_) (fun k_256 => ?_)
                        · have tk_256 := c_eq (a := fa.toInt) (b := 0) rfl (by decide) k_256
                          obtain ⟨y_257, ey_257⟩ : ∃ y : Int32, y = ax + 1 := ⟨_, rfl⟩
                          first | have ty_257 := i_add (a := ax.toInt) (b := 1) rfl (by decide) ey_257 (by omega) (by omega) | skip
                          refine lv_iinc (v := y_257) (lv' := [(7, .int y_257), (6, .int 0), (8, .int y_4), (5, .int op), (4, .int sp), (0, .ref rd), (1, .ref ta), (2, .int i8), (3, .int i9)]) hx hb dX6_endOfPattern_230 hl (k := 2) rfl (by rw [ey_257]; rfl) (by decide) rfl (fun ls hl => ?_)
                          refine lv_goto (tgt := 12) hx hb dX6_endOfPattern_233 (by decide) ?_
                          have lit_257 : (0 : Int32).toInt = 0 := by decide
                          exact ih12 sp op 0 y_257 fa fb (by first | omega | decide | assumption) (by first | omega | decide | assumption) (by omega) _ _ ls hP hD hS (lv_sub hl [0, 1, 3, 4, 5, 6, 7, 8] rfl)
                        · have tk_256 := c_ne (a := fa.toInt) (b := 0) rfl (by decide) k_256
                          refine lv_iload hx hb dX6_endOfPattern_227 (lv_at hl 2 rfl) ?_
                          have hP9 := hP.sub (ws' := [(rd, .inr (6, rF r fa fb a2 a3 a4 a5 a6 a7)), (ta, .inl (cT, nb, .inl ft))]) [0, 1] rfl
                          have hD9 := hD.sub (ws' := [(rd, .inr (6, rF r fa fb a2 a3 a4 a5 a6 a7)), (ta, .inl (cT, nb, .inl ft))]) [0, 1] (by decide) rfl
                          have hK9 := hK.sub (tys' := [(cT, .int)]) [0] rfl
                          exact W.iret hx hb hr (fun t ht hW => ⟨⟨_, (), rfl, by omega, fa, fb, by rw [ht]; exact hP9, va_K.moved hW.alike hK9, hD9⟩, hS.F ht⟩) hS.2.2 dX6_endOfPattern_229
                  · have tk_161 := c_eq (a := op.toInt) (b := 0) rfl (by decide) k_161
                    refine lv_iload hx hb dX6_endOfPattern_141 (lv_at hl 2 rfl) ?_
                    refine lv_if_eq (tgt := 149) hx hb dX6_endOfPattern_143 (by decide) (fun k_259 => ?_) (fun k_259 => ?_)
                    · have tk_259 := c_eq (a := sd.toInt) (b := 0) rfl (by decide) k_259
                      refine lv_iload hx hb dX6_endOfPattern_149 (lv_at hl 0 rfl) ?_
                      refine lv_bipush (v := 124) hx hb dX6_endOfPattern_151 (by decide) ?_
                      refine lv_icmp_ne (tgt := 167) hx hb dX6_endOfPattern_153 (by decide) (fun k_260 => ?_) (fun k_260 => ?_)
                      · have tk_260 := c_ne (a := y_4.toInt) (b := 124) rfl (by decide) k_260
                        refine lv_iload hx hb dX6_endOfPattern_167 (lv_at hl 0 rfl) ?_
                        refine lv_bipush (v := 41) hx hb dX6_endOfPattern_169 (by decide) ?_
                        refine lv_icmp_ne (tgt := 193) hx hb dX6_endOfPattern_171 (by decide) (fun k_261 => ?_) (fun k_261 => ?_)
                        · have tk_261 := c_ne (a := y_4.toInt) (b := 41) rfl (by decide) k_261
                          refine lv_iload hx hb dX6_endOfPattern_193 (lv_at hl 0 rfl) ?_
                          refine vp_callSi (W.runS (As := [.int y_4]) (rest := []) ⟨hx, hb, hml, hown, hts⟩ (s_isSign l dC dI y_4) (va_cwS 1 hts mg_X6_endOfPattern_X6_isSign_102 rfl rfl rfl (by decide +kernel) ⟨Nat.le_of_ble_eq_true rfl, Nat.le_of_ble_eq_true rfl⟩) ⟨fun a U g mk q => ⟨q.1, trivial⟩, fun U hU hW => ⟨rfl, trivial⟩⟩ rfl rfl hl.1 rfl (lv_room (Nat.le_of_ble_eq_true rfl)) dX6_endOfPattern_195 ⟨Nat.le_of_ble_eq_true rfl, Nat.le_of_ble_eq_true rfl⟩) (fun r_263 hw => ?_)
                          refine lv_if_eq (tgt := 213) hx hb dX6_endOfPattern_198 (by decide) (fun k_264 => ?_) (fun k_264 => ?_)
                          · have tk_264 := c_eq (a := r_263.toInt) (b := 0) rfl (by decide) k_264
                            refine lv_aload_n hx hb dX6_endOfPattern_213 rfl (lv_at hl 5 rfl) ?_
                            refine lv_iconst (v := 1) hx hb dX6_endOfPattern_214 (by decide) ?_
                            refine lv_iload hx hb dX6_endOfPattern_215 (lv_at hl 1 rfl) ?_
                            have hPc := hP.sub (ws' := [(rd, .inr (6, rF r fa fb a2 a3 a4 a5 a6 a7))]) [0] rfl
                            have hKc := hK.sub (tys' := []) [] rfl
                            have hDc := hD.sub (ws' := [(rd, .inr (6, rF r fa fb a2 a3 a4 a5 a6 a7))]) [0] (by decide) rfl
                            have hFc := va_free (wc := [(rd, .inr (6, rF r fa fb a2 a3 a4 a5 a6 a7))]) hD hS hA [0] rfl
                            refine va_callv (va_runV (As := [.int 1, .int ax]) (rest := []) ⟨hx, hb, hml, hown, hts⟩ (s_fail l dC dI rd r fa fb a2 a3 a4 a5 a6 a7 H.size 1 ax) (cwV 2 hts mg_X6_endOfPattern_X6_fail_71 rfl rfl rfl (by decide +kernel) ⟨Nat.le_of_ble_eq_true rfl, Nat.le_of_ble_eq_true rfl⟩) ⟨fun a U g mk q => by obtain ⟨q0, q1, qP, qK, qD⟩ := q; exact ⟨q0, q1, qP, va_K.moved (u := U) (U := U.calling g mk a) (Vm.Alike.refl U.vm) qK, qD⟩, va_recv hKc hPc (ci := 6) (q0 := 0) rfl rfl, fun U hU hW => ⟨rfl, by rw [hU], by rw [hU]; exact hPc, va_K.moved hW.alike hKc, hDc.weaken (fun _ _ _ _ => trivial)⟩⟩ rfl rfl hl.1 rfl (lv_room (Nat.le_of_ble_eq_true rfl)) dX6_endOfPattern_217 ⟨Nat.le_of_ble_eq_true rfl, Nat.le_of_ble_eq_true rfl⟩) hS (fun q _ h => hFc q h) hFc (fun u t H1 locs ht hvm hw hB hz1 hk1 hS => ?_)
                            obtain ⟨hP1, hK1, hD1⟩ := hB
                            rw [ht] at hP1
                            obtain ⟨hP, hD⟩ := va_join (wr := [(ta, .inl (cT, nb, .inl ft))]) (w1 := [(rd, .inr (6, rF r 1 ax a2 a3 a4 a5 a6 a7))]) hP hD [0] [1] rfl rfl (by decide) (by decide) hk1 hFc hP1 hD1
                            generalize H1 = H at hP hS ⊢
                            have hP : va_P (dC, dI) vwCl [(ta, .inl (cT, nb, .inl ft)), (rd, .inr (6, rF r 1 ax a2 a3 a4 a5 a6 a7))] H := hP
                            have hD : va_D A [(ta, .inl (cT, nb, .inl ft)), (rd, .inr (6, rF r 1 ax a2 a3 a4 a5 a6 a7))] := hD
                            refine lv_aload_n hx hb dX6_endOfPattern_220 rfl (lv_at hl 5 rfl) ?_
                            refine va_get (D := (dC, dI)) (ci := 6) (v := .int 1) (C := RX6) (T := TX6) (N := 11) hx hb hts fin_X6_endOfPattern_X6 hown hK hP 1 rfl rfl 0 (by decide) (hts (.fieldLink RX6 22 "PatternGate$Reader" "faultKind" "I") (List.mem_of_getElem? (i := 2) (by decide +kernel))) (fun _ h9 => h9) rfl dX6_endOfPattern_221 ?_
                            refine lv_if_eq (tgt := 230) hx hb dX6_endOfPattern_224 (by decide) (fun k_267 => absurd k_267 (by decide)) (fun k_267 => ?_)
                            have tk_267 := c_ne (a := 1) (b := 0) (by decide) (by decide) k_267
                            refine lv_iload hx hb dX6_endOfPattern_227 (lv_at hl 1 rfl) ?_
                            have hP9 := hP.sub (ws' := [(rd, .inr (6, rF r 1 ax a2 a3 a4 a5 a6 a7)), (ta, .inl (cT, nb, .inl ft))]) [1, 0] rfl
                            have hD9 := hD.sub (ws' := [(rd, .inr (6, rF r 1 ax a2 a3 a4 a5 a6 a7)), (ta, .inl (cT, nb, .inl ft))]) [1, 0] (by decide) rfl
                            have hK9 := hK.sub (tys' := [(cT, .int)]) [0] rfl
                            exact W.iret hx hb hr (fun t ht hW => ⟨⟨_, (), rfl, by omega, 1, ax, by rw [ht]; exact hP9, va_K.moved hW.alike hK9, hD9⟩, hS.F ht⟩) hS.2.2 dX6_endOfPattern_229
                          · have tk_264 := c_ne (a := r_263.toInt) (b := 0) rfl (by decide) k_264
                            refine lv_iload hx hb dX6_endOfPattern_201 (lv_at hl 2 rfl) ?_
                            refine lv_iconst (v := 1) hx hb dX6_endOfPattern_203 (by decide) ?_
                            refine lv_icmp_ne (tgt := 213) hx hb dX6_endOfPattern_204 (by decide) (fun k_268 => ?_) (fun k_268 => ?_)
                            · have tk_268 := c_ne (a := sd.toInt) (b := 1) rfl (by decide) k_268
                              refine lv_aload_n hx hb dX6_endOfPattern_213 rfl (lv_at hl 5 rfl) ?_
                              refine lv_iconst (v := 1) hx hb dX6_endOfPattern_214 (by decide) ?_
                              refine lv_iload hx hb dX6_endOfPattern_215 (lv_at hl 1 rfl) ?_
                              have hPc := hP.sub (ws' := [(rd, .inr (6, rF r fa fb a2 a3 a4 a5 a6 a7))]) [0] rfl
                              have hKc := hK.sub (tys' := []) [] rfl
                              have hDc := hD.sub (ws' := [(rd, .inr (6, rF r fa fb a2 a3 a4 a5 a6 a7))]) [0] (by decide) rfl
                              have hFc := va_free (wc := [(rd, .inr (6, rF r fa fb a2 a3 a4 a5 a6 a7))]) hD hS hA [0] rfl
                              refine va_callv (va_runV (As := [.int 1, .int ax]) (rest := []) ⟨hx, hb, hml, hown, hts⟩ (s_fail l dC dI rd r fa fb a2 a3 a4 a5 a6 a7 H.size 1 ax) (cwV 2 hts mg_X6_endOfPattern_X6_fail_71 rfl rfl rfl (by decide +kernel) ⟨Nat.le_of_ble_eq_true rfl, Nat.le_of_ble_eq_true rfl⟩) ⟨fun a U g mk q => by obtain ⟨q0, q1, qP, qK, qD⟩ := q; exact ⟨q0, q1, qP, va_K.moved (u := U) (U := U.calling g mk a) (Vm.Alike.refl U.vm) qK, qD⟩, va_recv hKc hPc (ci := 6) (q0 := 0) rfl rfl, fun U hU hW => ⟨rfl, by rw [hU], by rw [hU]; exact hPc, va_K.moved hW.alike hKc, hDc.weaken (fun _ _ _ _ => trivial)⟩⟩ rfl rfl hl.1 rfl (lv_room (Nat.le_of_ble_eq_true rfl)) dX6_endOfPattern_217 ⟨Nat.le_of_ble_eq_true rfl, Nat.le_of_ble_eq_true rfl⟩) hS (fun q _ h => hFc q h) hFc (fun u t H1 locs ht hvm hw hB hz1 hk1 hS => ?_)
                              obtain ⟨hP1, hK1, hD1⟩ := hB
                              rw [ht] at hP1
                              obtain ⟨hP, hD⟩ := va_join (wr := [(ta, .inl (cT, nb, .inl ft))]) (w1 := [(rd, .inr (6, rF r 1 ax a2 a3 a4 a5 a6 a7))]) hP hD [0] [1] rfl rfl (by decide) (by decide) hk1 hFc hP1 hD1
                              generalize H1 = H at hP hS ⊢
                              have hP : va_P (dC, dI) vwCl [(ta, .inl (cT, nb, .inl ft)), (rd, .inr (6, rF r 1 ax a2 a3 a4 a5 a6 a7))] H := hP
                              have hD : va_D A [(ta, .inl (cT, nb, .inl ft)), (rd, .inr (6, rF r 1 ax a2 a3 a4 a5 a6 a7))] := hD
                              refine lv_aload_n hx hb dX6_endOfPattern_220 rfl (lv_at hl 5 rfl) ?_
                              refine va_get (D := (dC, dI)) (ci := 6) (v := .int 1) (C := RX6) (T := TX6) (N := 11) hx hb hts fin_X6_endOfPattern_X6 hown hK hP 1 rfl rfl 0 (by decide) (hts (.fieldLink RX6 22 "PatternGate$Reader" "faultKind" "I") (List.mem_of_getElem? (i := 2) (by decide +kernel))) (fun _ h9 => h9) rfl dX6_endOfPattern_221 ?_
                              refine lv_if_eq (tgt := 230) hx hb dX6_endOfPattern_224 (by decide) (fun k_271 => absurd k_271 (by decide)) (fun k_271 => ?_)
                              have tk_271 := c_ne (a := 1) (b := 0) (by decide) (by decide) k_271
                              refine lv_iload hx hb dX6_endOfPattern_227 (lv_at hl 1 rfl) ?_
                              have hP9 := hP.sub (ws' := [(rd, .inr (6, rF r 1 ax a2 a3 a4 a5 a6 a7)), (ta, .inl (cT, nb, .inl ft))]) [1, 0] rfl
                              have hD9 := hD.sub (ws' := [(rd, .inr (6, rF r 1 ax a2 a3 a4 a5 a6 a7)), (ta, .inl (cT, nb, .inl ft))]) [1, 0] (by decide) rfl
                              have hK9 := hK.sub (tys' := [(cT, .int)]) [0] rfl
                              exact W.iret hx hb hr (fun t ht hW => ⟨⟨_, (), rfl, by omega, 1, ax, by rw [ht]; exact hP9, va_K.moved hW.alike hK9, hD9⟩, hS.F ht⟩) hS.2.2 dX6_endOfPattern_229
                            · have tk_268 := c_eq (a := sd.toInt) (b := 1) rfl (by decide) k_268
                              refine lv_iconst (v := 2) hx hb dX6_endOfPattern_207 (by decide) ?_
                              refine lv_istore (lv' := [(6, .int 2), (8, .int y_4), (7, .int ax), (5, .int op), (4, .int sp), (0, .ref rd), (1, .ref ta), (2, .int i8), (3, .int i9)]) hx hb dX6_endOfPattern_208 hl (by decide) rfl (fun ls hl => ?_)
                              refine lv_goto (tgt := 220) hx hb dX6_endOfPattern_210 (by decide) ?_
                              refine lv_aload_n hx hb dX6_endOfPattern_220 rfl (lv_at hl 5 rfl) ?_
                              refine va_get (D := (dC, dI)) (ci := 6) (v := .int fa) (C := RX6) (T := TX6) (N := 11) hx hb hts fin_X6_endOfPattern_X6 hown hK hP 0 rfl rfl 0 (by decide) (hts (.fieldLink RX6 22 "PatternGate$Reader" "faultKind" "I") (List.mem_of_getElem? (i := 2) (by decide +kernel))) (fun _ h9 => h9) rfl dX6_endOfPattern_221 ?_
                              refine lv_if_eq (tgt := 230) hx hb dX6_endOfPattern_224 (by decide) (fun k_272 => ?_) (fun k_272 => ?_)
                              · have tk_272 := c_eq (a := fa.toInt) (b := 0) rfl (by decide) k_272
                                obtain ⟨y_273, ey_273⟩ : ∃ y : Int32, y = ax + 1 := ⟨_, rfl⟩
                                first | have ty_273 := i_add (a := ax.toInt) (b := 1) rfl (by decide) ey_273 (by omega) (by omega) | skip
                                refine lv_iinc (v := y_273) (lv' := [(7, .int y_273), (6, .int 2), (8, .int y_4), (5, .int op), (4, .int sp), (0, .ref rd), (1, .ref ta), (2, .int i8), (3, .int i9)]) hx hb dX6_endOfPattern_230 hl (k := 2) rfl (by rw [ey_273]; rfl) (by decide) rfl (fun ls hl => ?_)
                                refine lv_goto (tgt := 12) hx hb dX6_endOfPattern_233 (by decide) ?_
                                have lit_273 : (2 : Int32).toInt = 2 := by decide
                                exact ih12 sp op 2 y_273 fa fb (by first | omega | decide | assumption) (by first | omega | decide | assumption) (by omega) _ _ ls hP hD hS (lv_sub hl [0, 1, 3, 4, 5, 6, 7, 8] rfl)
                              · have tk_272 := c_ne (a := fa.toInt) (b := 0) rfl (by decide) k_272
                                refine lv_iload hx hb dX6_endOfPattern_227 (lv_at hl 2 rfl) ?_
                                have hP9 := hP.sub (ws' := [(rd, .inr (6, rF r fa fb a2 a3 a4 a5 a6 a7)), (ta, .inl (cT, nb, .inl ft))]) [0, 1] rfl
                                have hD9 := hD.sub (ws' := [(rd, .inr (6, rF r fa fb a2 a3 a4 a5 a6 a7)), (ta, .inl (cT, nb, .inl ft))]) [0, 1] (by decide) rfl
                                have hK9 := hK.sub (tys' := [(cT, .int)]) [0] rfl
                                exact W.iret hx hb hr (fun t ht hW => ⟨⟨_, (), rfl, by omega, fa, fb, by rw [ht]; exact hP9, va_K.moved hW.alike hK9, hD9⟩, hS.F ht⟩) hS.2.2 dX6_endOfPattern_229
                        · have tk_261 := c_eq (a := y_4.toInt) (b := 41) rfl (by decide) k_261
                          refine lv_iload hx hb dX6_endOfPattern_174 (lv_at hl 3 rfl) ?_
                          refine lv_if_le (tgt := 193) hx hb dX6_endOfPattern_176 (by decide) (fun k_275 => ?_) (fun k_275 => ?_)
                          · have tk_275 := c_le (a := op.toInt) (b := 0) rfl (by decide) k_275
                            refine lv_iload hx hb dX6_endOfPattern_193 (lv_at hl 0 rfl) ?_
                            refine vp_callSi (W.runS (As := [.int y_4]) (rest := []) ⟨hx, hb, hml, hown, hts⟩ (s_isSign l dC dI y_4) (va_cwS 1 hts mg_X6_endOfPattern_X6_isSign_102 rfl rfl rfl (by decide +kernel) ⟨Nat.le_of_ble_eq_true rfl, Nat.le_of_ble_eq_true rfl⟩) ⟨fun a U g mk q => ⟨q.1, trivial⟩, fun U hU hW => ⟨rfl, trivial⟩⟩ rfl rfl hl.1 rfl (lv_room (Nat.le_of_ble_eq_true rfl)) dX6_endOfPattern_195 ⟨Nat.le_of_ble_eq_true rfl, Nat.le_of_ble_eq_true rfl⟩) (fun r_277 hw => ?_)
                            refine lv_if_eq (tgt := 213) hx hb dX6_endOfPattern_198 (by decide) (fun k_278 => ?_) (fun k_278 => ?_)
                            · have tk_278 := c_eq (a := r_277.toInt) (b := 0) rfl (by decide) k_278
                              refine lv_aload_n hx hb dX6_endOfPattern_213 rfl (lv_at hl 5 rfl) ?_
                              refine lv_iconst (v := 1) hx hb dX6_endOfPattern_214 (by decide) ?_
                              refine lv_iload hx hb dX6_endOfPattern_215 (lv_at hl 1 rfl) ?_
                              have hPc := hP.sub (ws' := [(rd, .inr (6, rF r fa fb a2 a3 a4 a5 a6 a7))]) [0] rfl
                              have hKc := hK.sub (tys' := []) [] rfl
                              have hDc := hD.sub (ws' := [(rd, .inr (6, rF r fa fb a2 a3 a4 a5 a6 a7))]) [0] (by decide) rfl
                              have hFc := va_free (wc := [(rd, .inr (6, rF r fa fb a2 a3 a4 a5 a6 a7))]) hD hS hA [0] rfl
                              refine va_callv (va_runV (As := [.int 1, .int ax]) (rest := []) ⟨hx, hb, hml, hown, hts⟩ (s_fail l dC dI rd r fa fb a2 a3 a4 a5 a6 a7 H.size 1 ax) (cwV 2 hts mg_X6_endOfPattern_X6_fail_71 rfl rfl rfl (by decide +kernel) ⟨Nat.le_of_ble_eq_true rfl, Nat.le_of_ble_eq_true rfl⟩) ⟨fun a U g mk q => by obtain ⟨q0, q1, qP, qK, qD⟩ := q; exact ⟨q0, q1, qP, va_K.moved (u := U) (U := U.calling g mk a) (Vm.Alike.refl U.vm) qK, qD⟩, va_recv hKc hPc (ci := 6) (q0 := 0) rfl rfl, fun U hU hW => ⟨rfl, by rw [hU], by rw [hU]; exact hPc, va_K.moved hW.alike hKc, hDc.weaken (fun _ _ _ _ => trivial)⟩⟩ rfl rfl hl.1 rfl (lv_room (Nat.le_of_ble_eq_true rfl)) dX6_endOfPattern_217 ⟨Nat.le_of_ble_eq_true rfl, Nat.le_of_ble_eq_true rfl⟩) hS (fun q _ h => hFc q h) hFc (fun u t H1 locs ht hvm hw hB hz1 hk1 hS => ?_)
                              obtain ⟨hP1, hK1, hD1⟩ := hB
                              rw [ht] at hP1
                              obtain ⟨hP, hD⟩ := va_join (wr := [(ta, .inl (cT, nb, .inl ft))]) (w1 := [(rd, .inr (6, rF r 1 ax a2 a3 a4 a5 a6 a7))]) hP hD [0] [1] rfl rfl (by decide) (by decide) hk1 hFc hP1 hD1
                              generalize H1 = H at hP hS ⊢
                              have hP : va_P (dC, dI) vwCl [(ta, .inl (cT, nb, .inl ft)), (rd, .inr (6, rF r 1 ax a2 a3 a4 a5 a6 a7))] H := hP
                              have hD : va_D A [(ta, .inl (cT, nb, .inl ft)), (rd, .inr (6, rF r 1 ax a2 a3 a4 a5 a6 a7))] := hD
                              refine lv_aload_n hx hb dX6_endOfPattern_220 rfl (lv_at hl 5 rfl) ?_
                              refine va_get (D := (dC, dI)) (ci := 6) (v := .int 1) (C := RX6) (T := TX6) (N := 11) hx hb hts fin_X6_endOfPattern_X6 hown hK hP 1 rfl rfl 0 (by decide) (hts (.fieldLink RX6 22 "PatternGate$Reader" "faultKind" "I") (List.mem_of_getElem? (i := 2) (by decide +kernel))) (fun _ h9 => h9) rfl dX6_endOfPattern_221 ?_
                              refine lv_if_eq (tgt := 230) hx hb dX6_endOfPattern_224 (by decide) (fun k_281 => absurd k_281 (by decide)) (fun k_281 => ?_)
                              have tk_281 := c_ne (a := 1) (b := 0) (by decide) (by decide) k_281
                              refine lv_iload hx hb dX6_endOfPattern_227 (lv_at hl 1 rfl) ?_
                              have hP9 := hP.sub (ws' := [(rd, .inr (6, rF r 1 ax a2 a3 a4 a5 a6 a7)), (ta, .inl (cT, nb, .inl ft))]) [1, 0] rfl
                              have hD9 := hD.sub (ws' := [(rd, .inr (6, rF r 1 ax a2 a3 a4 a5 a6 a7)), (ta, .inl (cT, nb, .inl ft))]) [1, 0] (by decide) rfl
                              have hK9 := hK.sub (tys' := [(cT, .int)]) [0] rfl
                              exact W.iret hx hb hr (fun t ht hW => ⟨⟨_, (), rfl, by omega, 1, ax, by rw [ht]; exact hP9, va_K.moved hW.alike hK9, hD9⟩, hS.F ht⟩) hS.2.2 dX6_endOfPattern_229
                            · have tk_278 := c_ne (a := r_277.toInt) (b := 0) rfl (by decide) k_278
                              refine lv_iload hx hb dX6_endOfPattern_201 (lv_at hl 2 rfl) ?_
                              refine lv_iconst (v := 1) hx hb dX6_endOfPattern_203 (by decide) ?_
                              refine lv_icmp_ne (tgt := 213) hx hb dX6_endOfPattern_204 (by decide) (fun k_282 => ?_) (fun k_282 => ?_)
                              · have tk_282 := c_ne (a := sd.toInt) (b := 1) rfl (by decide) k_282
                                refine lv_aload_n hx hb dX6_endOfPattern_213 rfl (lv_at hl 5 rfl) ?_
                                refine lv_iconst (v := 1) hx hb dX6_endOfPattern_214 (by decide) ?_
                                refine lv_iload hx hb dX6_endOfPattern_215 (lv_at hl 1 rfl) ?_
                                have hPc := hP.sub (ws' := [(rd, .inr (6, rF r fa fb a2 a3 a4 a5 a6 a7))]) [0] rfl
                                have hKc := hK.sub (tys' := []) [] rfl
                                have hDc := hD.sub (ws' := [(rd, .inr (6, rF r fa fb a2 a3 a4 a5 a6 a7))]) [0] (by decide) rfl
                                have hFc := va_free (wc := [(rd, .inr (6, rF r fa fb a2 a3 a4 a5 a6 a7))]) hD hS hA [0] rfl
                                refine va_callv (va_runV (As := [.int 1, .int ax]) (rest := []) ⟨hx, hb, hml, hown, hts⟩ (s_fail l dC dI rd r fa fb a2 a3 a4 a5 a6 a7 H.size 1 ax) (cwV 2 hts mg_X6_endOfPattern_X6_fail_71 rfl rfl rfl (by decide +kernel) ⟨Nat.le_of_ble_eq_true rfl, Nat.le_of_ble_eq_true rfl⟩) ⟨fun a U g mk q => by obtain ⟨q0, q1, qP, qK, qD⟩ := q; exact ⟨q0, q1, qP, va_K.moved (u := U) (U := U.calling g mk a) (Vm.Alike.refl U.vm) qK, qD⟩, va_recv hKc hPc (ci := 6) (q0 := 0) rfl rfl, fun U hU hW => ⟨rfl, by rw [hU], by rw [hU]; exact hPc, va_K.moved hW.alike hKc, hDc.weaken (fun _ _ _ _ => trivial)⟩⟩ rfl rfl hl.1 rfl (lv_room (Nat.le_of_ble_eq_true rfl)) dX6_endOfPattern_217 ⟨Nat.le_of_ble_eq_true rfl, Nat.le_of_ble_eq_true rfl⟩) hS (fun q _ h => hFc q h) hFc (fun u t H1 locs ht hvm hw hB hz1 hk1 hS => ?_)
                                obtain ⟨hP1, hK1, hD1⟩ := hB
                                rw [ht] at hP1
                                obtain ⟨hP, hD⟩ := va_join (wr := [(ta, .inl (cT, nb, .inl ft))]) (w1 := [(rd, .inr (6, rF r 1 ax a2 a3 a4 a5 a6 a7))]) hP hD [0] [1] rfl rfl (by decide) (by decide) hk1 hFc hP1 hD1
                                generalize H1 = H at hP hS ⊢
                                have hP : va_P (dC, dI) vwCl [(ta, .inl (cT, nb, .inl ft)), (rd, .inr (6, rF r 1 ax a2 a3 a4 a5 a6 a7))] H := hP
                                have hD : va_D A [(ta, .inl (cT, nb, .inl ft)), (rd, .inr (6, rF r 1 ax a2 a3 a4 a5 a6 a7))] := hD
                                refine lv_aload_n hx hb dX6_endOfPattern_220 rfl (lv_at hl 5 rfl) ?_
                                refine va_get (D := (dC, dI)) (ci := 6) (v := .int 1) (C := RX6) (T := TX6) (N := 11) hx hb hts fin_X6_endOfPattern_X6 hown hK hP 1 rfl rfl 0 (by decide) (hts (.fieldLink RX6 22 "PatternGate$Reader" "faultKind" "I") (List.mem_of_getElem? (i := 2) (by decide +kernel))) (fun _ h9 => h9) rfl dX6_endOfPattern_221 ?_
                                refine lv_if_eq (tgt := 230) hx hb dX6_endOfPattern_224 (by decide) (fun k_285 => absurd k_285 (by decide)) (fun k_285 => ?_)
                                have tk_285 := c_ne (a := 1) (b := 0) (by decide) (by decide) k_285
                                refine lv_iload hx hb dX6_endOfPattern_227 (lv_at hl 1 rfl) ?_
                                have hP9 := hP.sub (ws' := [(rd, .inr (6, rF r 1 ax a2 a3 a4 a5 a6 a7)), (ta, .inl (cT, nb, .inl ft))]) [1, 0] rfl
                                have hD9 := hD.sub (ws' := [(rd, .inr (6, rF r 1 ax a2 a3 a4 a5 a6 a7)), (ta, .inl (cT, nb, .inl ft))]) [1, 0] (by decide) rfl
                                have hK9 := hK.sub (tys' := [(cT, .int)]) [0] rfl
                                exact W.iret hx hb hr (fun t ht hW => ⟨⟨_, (), rfl, by omega, 1, ax, by rw [ht]; exact hP9, va_K.moved hW.alike hK9, hD9⟩, hS.F ht⟩) hS.2.2 dX6_endOfPattern_229
                              · have tk_282 := c_eq (a := sd.toInt) (b := 1) rfl (by decide) k_282
                                refine lv_iconst (v := 2) hx hb dX6_endOfPattern_207 (by decide) ?_
                                refine lv_istore (lv' := [(6, .int 2), (8, .int y_4), (7, .int ax), (5, .int op), (4, .int sp), (0, .ref rd), (1, .ref ta), (2, .int i8), (3, .int i9)]) hx hb dX6_endOfPattern_208 hl (by decide) rfl (fun ls hl => ?_)
                                refine lv_goto (tgt := 220) hx hb dX6_endOfPattern_210 (by decide) ?_
                                refine lv_aload_n hx hb dX6_endOfPattern_220 rfl (lv_at hl 5 rfl) ?_
                                refine va_get (D := (dC, dI)) (ci := 6) (v := .int fa) (C := RX6) (T := TX6) (N := 11) hx hb hts fin_X6_endOfPattern_X6 hown hK hP 0 rfl rfl 0 (by decide) (hts (.fieldLink RX6 22 "PatternGate$Reader" "faultKind" "I") (List.mem_of_getElem? (i := 2) (by decide +kernel))) (fun _ h9 => h9) rfl dX6_endOfPattern_221 ?_
                                refine lv_if_eq (tgt := 230) hx hb dX6_endOfPattern_224 (by decide) (fun k_286 => ?_) (fun k_286 => ?_)
                                · have tk_286 := c_eq (a := fa.toInt) (b := 0) rfl (by decide) k_286
                                  obtain ⟨y_287, ey_287⟩ : ∃ y : Int32, y = ax + 1 := ⟨_, rfl⟩
                                  first | have ty_287 := i_add (a := ax.toInt) (b := 1) rfl (by decide) ey_287 (by omega) (by omega) | skip
                                  refine lv_iinc (v := y_287) (lv' := [(7, .int y_287), (6, .int 2), (8, .int y_4), (5, .int op), (4, .int sp), (0, .ref rd), (1, .ref ta), (2, .int i8), (3, .int i9)]) hx hb dX6_endOfPattern_230 hl (k := 2) rfl (by rw [ey_287]; rfl) (by decide) rfl (fun ls hl => ?_)
                                  refine lv_goto (tgt := 12) hx hb dX6_endOfPattern_233 (by decide) ?_
                                  have lit_287 : (2 : Int32).toInt = 2 := by decide
                                  exact ih12 sp op 2 y_287 fa fb (by first | omega | decide | assumption) (by first | omega | decide | assumption) (by omega) _ _ ls hP hD hS (lv_sub hl [0, 1, 3, 4, 5, 6, 7, 8] rfl)
                                · have tk_286 := c_ne (a := fa.toInt) (b := 0) rfl (by decide) k_286
                                  refine lv_iload hx hb dX6_endOfPattern_227 (lv_at hl 2 rfl) ?_
                                  have hP9 := hP.sub (ws' := [(rd, .inr (6, rF r fa fb a2 a3 a4 a5 a6 a7)), (ta, .inl (cT, nb, .inl ft))]) [0, 1] rfl
                                  have hD9 := hD.sub (ws' := [(rd, .inr (6, rF r fa fb a2 a3 a4 a5 a6 a7)), (ta, .inl (cT, nb, .inl ft))]) [0, 1] (by decide) rfl
                                  have hK9 := hK.sub (tys' := [(cT, .int)]) [0] rfl
                                  exact W.iret hx hb hr (fun t ht hW => ⟨⟨_, (), rfl, by omega, fa, fb, by rw [ht]; exact hP9, va_K.moved hW.alike hK9, hD9⟩, hS.F ht⟩) hS.2.2 dX6_endOfPattern_229
                          · have tk_275 := c_nle (a := op.toInt) (b := 0) rfl (by decide) k_275
                            refine lv_iload hx hb dX6_endOfPattern_179 (lv_at hl 2 rfl) ?_
                            refine lv_if_eq (tgt := 193) hx hb dX6_endOfPattern_181 (by decide) (fun k_289 => ?_) (fun k_289 => ?_)
                            · have tk_289 := c_eq (a := sd.toInt) (b := 0) rfl (by decide) k_289
                              refine lv_iload hx hb dX6_endOfPattern_193 (lv_at hl 0 rfl) ?_
                              refine vp_callSi (W.runS (As := [.int y_4]) (rest := []) ⟨hx, hb, hml, hown, hts⟩ (s_isSign l dC dI y_4) (va_cwS 1 hts mg_X6_endOfPattern_X6_isSign_102 rfl rfl rfl (by decide +kernel) ⟨Nat.le_of_ble_eq_true rfl, Nat.le_of_ble_eq_true rfl⟩) ⟨fun a U g mk q => ⟨q.1, trivial⟩, fun U hU hW => ⟨rfl, trivial⟩⟩ rfl rfl hl.1 rfl (lv_room (Nat.le_of_ble_eq_true rfl)) dX6_endOfPattern_195 ⟨Nat.le_of_ble_eq_true rfl, Nat.le_of_ble_eq_true rfl⟩) (fun r_291 hw => ?_)
                              refine lv_if_eq (tgt := 213) hx hb dX6_endOfPattern_198 (by decide) (fun k_292 => ?_) (fun k_292 => ?_)
                              · have tk_292 := c_eq (a := r_291.toInt) (b := 0) rfl (by decide) k_292
                                refine lv_aload_n hx hb dX6_endOfPattern_213 rfl (lv_at hl 5 rfl) ?_
                                refine lv_iconst (v := 1) hx hb dX6_endOfPattern_214 (by decide) ?_
                                refine lv_iload hx hb dX6_endOfPattern_215 (lv_at hl 1 rfl) ?_
                                have hPc := hP.sub (ws' := [(rd, .inr (6, rF r fa fb a2 a3 a4 a5 a6 a7))]) [0] rfl
                                have hKc := hK.sub (tys' := []) [] rfl
                                have hDc := hD.sub (ws' := [(rd, .inr (6, rF r fa fb a2 a3 a4 a5 a6 a7))]) [0] (by decide) rfl
                                have hFc := va_free (wc := [(rd, .inr (6, rF r fa fb a2 a3 a4 a5 a6 a7))]) hD hS hA [0] rfl
                                refine va_callv (va_runV (As := [.int 1, .int ax]) (rest := []) ⟨hx, hb, hml, hown, hts⟩ (s_fail l dC dI rd r fa fb a2 a3 a4 a5 a6 a7 H.size 1 ax) (cwV 2 hts mg_X6_endOfPattern_X6_fail_71 rfl rfl rfl (by decide +kernel) ⟨Nat.le_of_ble_eq_true rfl, Nat.le_of_ble_eq_true rfl⟩) ⟨fun a U g mk q => by obtain ⟨q0, q1, qP, qK, qD⟩ := q; exact ⟨q0, q1, qP, va_K.moved (u := U) (U := U.calling g mk a) (Vm.Alike.refl U.vm) qK, qD⟩, va_recv hKc hPc (ci := 6) (q0 := 0) rfl rfl, fun U hU hW => ⟨rfl, by rw [hU], by rw [hU]; exact hPc, va_K.moved hW.alike hKc, hDc.weaken (fun _ _ _ _ => trivial)⟩⟩ rfl rfl hl.1 rfl (lv_room (Nat.le_of_ble_eq_true rfl)) dX6_endOfPattern_217 ⟨Nat.le_of_ble_eq_true rfl, Nat.le_of_ble_eq_true rfl⟩) hS (fun q _ h => hFc q h) hFc (fun u t H1 locs ht hvm hw hB hz1 hk1 hS => ?_)
                                obtain ⟨hP1, hK1, hD1⟩ := hB
                                rw [ht] at hP1
                                obtain ⟨hP, hD⟩ := va_join (wr := [(ta, .inl (cT, nb, .inl ft))]) (w1 := [(rd, .inr (6, rF r 1 ax a2 a3 a4 a5 a6 a7))]) hP hD [0] [1] rfl rfl (by decide) (by decide) hk1 hFc hP1 hD1
                                generalize H1 = H at hP hS ⊢
                                have hP : va_P (dC, dI) vwCl [(ta, .inl (cT, nb, .inl ft)), (rd, .inr (6, rF r 1 ax a2 a3 a4 a5 a6 a7))] H := hP
                                have hD : va_D A [(ta, .inl (cT, nb, .inl ft)), (rd, .inr (6, rF r 1 ax a2 a3 a4 a5 a6 a7))] := hD
                                refine lv_aload_n hx hb dX6_endOfPattern_220 rfl (lv_at hl 5 rfl) ?_
                                refine va_get (D := (dC, dI)) (ci := 6) (v := .int 1) (C := RX6) (T := TX6) (N := 11) hx hb hts fin_X6_endOfPattern_X6 hown hK hP 1 rfl rfl 0 (by decide) (hts (.fieldLink RX6 22 "PatternGate$Reader" "faultKind" "I") (List.mem_of_getElem? (i := 2) (by decide +kernel))) (fun _ h9 => h9) rfl dX6_endOfPattern_221 ?_
                                refine lv_if_eq (tgt := 230) hx hb dX6_endOfPattern_224 (by decide) (fun k_295 => absurd k_295 (by decide)) (fun k_295 => ?_)
                                have tk_295 := c_ne (a := 1) (b := 0) (by decide) (by decide) k_295
                                refine lv_iload hx hb dX6_endOfPattern_227 (lv_at hl 1 rfl) ?_
                                have hP9 := hP.sub (ws' := [(rd, .inr (6, rF r 1 ax a2 a3 a4 a5 a6 a7)), (ta, .inl (cT, nb, .inl ft))]) [1, 0] rfl
                                have hD9 := hD.sub (ws' := [(rd, .inr (6, rF r 1 ax a2 a3 a4 a5 a6 a7)), (ta, .inl (cT, nb, .inl ft))]) [1, 0] (by decide) rfl
                                have hK9 := hK.sub (tys' := [(cT, .int)]) [0] rfl
                                exact W.iret hx hb hr (fun t ht hW => ⟨⟨_, (), rfl, by omega, 1, ax, by rw [ht]; exact hP9, va_K.moved hW.alike hK9, hD9⟩, hS.F ht⟩) hS.2.2 dX6_endOfPattern_229
                              · have tk_292 := c_ne (a := r_291.toInt) (b := 0) rfl (by decide) k_292
                                refine lv_iload hx hb dX6_endOfPattern_201 (lv_at hl 2 rfl) ?_
                                refine lv_iconst (v := 1) hx hb dX6_endOfPattern_203 (by decide) ?_
                                refine lv_icmp_ne (tgt := 213) hx hb dX6_endOfPattern_204 (by decide) (fun k_296 => ?_) (fun k_296 => ?_)
                                · have tk_296 := c_ne (a := sd.toInt) (b := 1) rfl (by decide) k_296
                                  refine lv_aload_n hx hb dX6_endOfPattern_213 rfl (lv_at hl 5 rfl) ?_
                                  refine lv_iconst (v := 1) hx hb dX6_endOfPattern_214 (by decide) ?_
                                  refine lv_iload hx hb dX6_endOfPattern_215 (lv_at hl 1 rfl) ?_
                                  have hPc := hP.sub (ws' := [(rd, .inr (6, rF r fa fb a2 a3 a4 a5 a6 a7))]) [0] rfl
                                  have hKc := hK.sub (tys' := []) [] rfl
                                  have hDc := hD.sub (ws' := [(rd, .inr (6, rF r fa fb a2 a3 a4 a5 a6 a7))]) [0] (by decide) rfl
                                  have hFc := va_free (wc := [(rd, .inr (6, rF r fa fb a2 a3 a4 a5 a6 a7))]) hD hS hA [0] rfl
                                  refine va_callv (va_runV (As := [.int 1, .int ax]) (rest := []) ⟨hx, hb, hml, hown, hts⟩ (s_fail l dC dI rd r fa fb a2 a3 a4 a5 a6 a7 H.size 1 ax) (cwV 2 hts mg_X6_endOfPattern_X6_fail_71 rfl rfl rfl (by decide +kernel) ⟨Nat.le_of_ble_eq_true rfl, Nat.le_of_ble_eq_true rfl⟩) ⟨fun a U g mk q => by obtain ⟨q0, q1, qP, qK, qD⟩ := q; exact ⟨q0, q1, qP, va_K.moved (u := U) (U := U.calling g mk a) (Vm.Alike.refl U.vm) qK, qD⟩, va_recv hKc hPc (ci := 6) (q0 := 0) rfl rfl, fun U hU hW => ⟨rfl, by rw [hU], by rw [hU]; exact hPc, va_K.moved hW.alike hKc, hDc.weaken (fun _ _ _ _ => trivial)⟩⟩ rfl rfl hl.1 rfl (lv_room (Nat.le_of_ble_eq_true rfl)) dX6_endOfPattern_217 ⟨Nat.le_of_ble_eq_true rfl, Nat.le_of_ble_eq_true rfl⟩) hS (fun q _ h => hFc q h) hFc (fun u t H1 locs ht hvm hw hB hz1 hk1 hS => ?_)
                                  obtain ⟨hP1, hK1, hD1⟩ := hB
                                  rw [ht] at hP1
                                  obtain ⟨hP, hD⟩ := va_join (wr := [(ta, .inl (cT, nb, .inl ft))]) (w1 := [(rd, .inr (6, rF r 1 ax a2 a3 a4 a5 a6 a7))]) hP hD [0] [1] rfl rfl (by decide) (by decide) hk1 hFc hP1 hD1
                                  generalize H1 = H at hP hS ⊢
                                  have hP : va_P (dC, dI) vwCl [(ta, .inl (cT, nb, .inl ft)), (rd, .inr (6, rF r 1 ax a2 a3 a4 a5 a6 a7))] H := hP
                                  have hD : va_D A [(ta, .inl (cT, nb, .inl ft)), (rd, .inr (6, rF r 1 ax a2 a3 a4 a5 a6 a7))] := hD
                                  refine lv_aload_n hx hb dX6_endOfPattern_220 rfl (lv_at hl 5 rfl) ?_
                                  refine va_get (D := (dC, dI)) (ci := 6) (v := .int 1) (C := RX6) (T := TX6) (N := 11) hx hb hts fin_X6_endOfPattern_X6 hown hK hP 1 rfl rfl 0 (by decide) (hts (.fieldLink RX6 22 "PatternGate$Reader" "faultKind" "I") (List.mem_of_getElem? (i := 2) (by decide +kernel))) (fun _ h9 => h9) rfl dX6_endOfPattern_221 ?_
                                  refine lv_if_eq (tgt := 230) hx hb dX6_endOfPattern_224 (by decide) (fun k_299 => absurd k_299 (by decide)) (fun k_299 => ?_)
                                  have tk_299 := c_ne (a := 1) (b := 0) (by decide) (by decide) k_299
                                  refine lv_iload hx hb dX6_endOfPattern_227 (lv_at hl 1 rfl) ?_
                                  have hP9 := hP.sub (ws' := [(rd, .inr (6, rF r 1 ax a2 a3 a4 a5 a6 a7)), (ta, .inl (cT, nb, .inl ft))]) [1, 0] rfl
                                  have hD9 := hD.sub (ws' := [(rd, .inr (6, rF r 1 ax a2 a3 a4 a5 a6 a7)), (ta, .inl (cT, nb, .inl ft))]) [1, 0] (by decide) rfl
                                  have hK9 := hK.sub (tys' := [(cT, .int)]) [0] rfl
                                  exact W.iret hx hb hr (fun t ht hW => ⟨⟨_, (), rfl, by omega, 1, ax, by rw [ht]; exact hP9, va_K.moved hW.alike hK9, hD9⟩, hS.F ht⟩) hS.2.2 dX6_endOfPattern_229
                                · have tk_296 := c_eq (a := sd.toInt) (b := 1) rfl (by decide) k_296
                                  refine lv_iconst (v := 2) hx hb dX6_endOfPattern_207 (by decide) ?_
                                  refine lv_istore (lv' := [(6, .int 2), (8, .int y_4), (7, .int ax), (5, .int op), (4, .int sp), (0, .ref rd), (1, .ref ta), (2, .int i8), (3, .int i9)]) hx hb dX6_endOfPattern_208 hl (by decide) rfl (fun ls hl => ?_)
                                  refine lv_goto (tgt := 220) hx hb dX6_endOfPattern_210 (by decide) ?_
                                  refine lv_aload_n hx hb dX6_endOfPattern_220 rfl (lv_at hl 5 rfl) ?_
                                  refine va_get (D := (dC, dI)) (ci := 6) (v := .int fa) (C := RX6) (T := TX6) (N := 11) hx hb hts fin_X6_endOfPattern_X6 hown hK hP 0 rfl rfl 0 (by decide) (hts (.fieldLink RX6 22 "PatternGate$Reader" "faultKind" "I") (List.mem_of_getElem? (i := 2) (by decide +kernel))) (fun _ h9 => h9) rfl dX6_endOfPattern_221 ?_
                                  refine lv_if_eq (tgt := 230) hx hb dX6_endOfPattern_224 (by decide) (fun k_300 => ?_) (fun k_300 => ?_)
                                  · have tk_300 := c_eq (a := fa.toInt) (b := 0) rfl (by decide) k_300
                                    obtain ⟨y_301, ey_301⟩ : ∃ y : Int32, y = ax + 1 := ⟨_, rfl⟩
                                    first | have ty_301 := i_add (a := ax.toInt) (b := 1) rfl (by decide) ey_301 (by omega) (by omega) | skip
                                    refine lv_iinc (v := y_301) (lv' := [(7, .int y_301), (6, .int 2), (8, .int y_4), (5, .int op), (4, .int sp), (0, .ref rd), (1, .ref ta), (2, .int i8), (3, .int i9)]) hx hb dX6_endOfPattern_230 hl (k := 2) rfl (by rw [ey_301]; rfl) (by decide) rfl (fun ls hl => ?_)
                                    refine lv_goto (tgt := 12) hx hb dX6_endOfPattern_233 (by decide) ?_
                                    have lit_301 : (2 : Int32).toInt = 2 := by decide
                                    exact ih12 sp op 2 y_301 fa fb (by first | omega | decide | assumption) (by first | omega | decide | assumption) (by omega) _ _ ls hP hD hS (lv_sub hl [0, 1, 3, 4, 5, 6, 7, 8] rfl)
                                  · have tk_300 := c_ne (a := fa.toInt) (b := 0) rfl (by decide) k_300
                                    refine lv_iload hx hb dX6_endOfPattern_227 (lv_at hl 2 rfl) ?_
                                    have hP9 := hP.sub (ws' := [(rd, .inr (6, rF r fa fb a2 a3 a4 a5 a6 a7)), (ta, .inl (cT, nb, .inl ft))]) [0, 1] rfl
                                    have hD9 := hD.sub (ws' := [(rd, .inr (6, rF r fa fb a2 a3 a4 a5 a6 a7)), (ta, .inl (cT, nb, .inl ft))]) [0, 1] (by decide) rfl
                                    have hK9 := hK.sub (tys' := [(cT, .int)]) [0] rfl
                                    exact W.iret hx hb hr (fun t ht hW => ⟨⟨_, (), rfl, by omega, fa, fb, by rw [ht]; exact hP9, va_K.moved hW.alike hK9, hD9⟩, hS.F ht⟩) hS.2.2 dX6_endOfPattern_229
                            · have tk_289 := c_ne (a := sd.toInt) (b := 0) rfl (by decide) k_289
                              obtain ⟨y_303, ey_303⟩ : ∃ y : Int32, y = op + (-1) := ⟨_, rfl⟩
                              first | have ty_303 := i_add (a := op.toInt) (b := (-1)) rfl (by decide) ey_303 (by omega) (by omega) | skip
                              refine lv_iinc (v := y_303) (lv' := [(5, .int y_303), (8, .int y_4), (7, .int ax), (6, .int sd), (4, .int sp), (0, .ref rd), (1, .ref ta), (2, .int i8), (3, .int i9)]) hx hb dX6_endOfPattern_184 hl (k := 3) rfl (by rw [ey_303]; rfl) (by decide) rfl (fun ls hl => ?_)
                              refine lv_iconst (v := 1) hx hb dX6_endOfPattern_187 (by decide) ?_
                              refine lv_istore (lv' := [(6, .int 1), (5, .int y_303), (8, .int y_4), (7, .int ax), (4, .int sp), (0, .ref rd), (1, .ref ta), (2, .int i8), (3, .int i9)]) hx hb dX6_endOfPattern_188 hl (by decide) rfl (fun ls hl => ?_)
                              refine lv_goto (tgt := 220) hx hb dX6_endOfPattern_190 (by decide) ?_
                              refine lv_aload_n hx hb dX6_endOfPattern_220 rfl (lv_at hl 5 rfl) ?_
                              refine va_get (D := (dC, dI)) (ci := 6) (v := .int fa) (C := RX6) (T := TX6) (N := 11) hx hb hts fin_X6_endOfPattern_X6 hown hK hP 0 rfl rfl 0 (by decide) (hts (.fieldLink RX6 22 "PatternGate$Reader" "faultKind" "I") (List.mem_of_getElem? (i := 2) (by decide +kernel))) (fun _ h9 => h9) rfl dX6_endOfPattern_221 ?_
                              refine lv_if_eq (tgt := 230) hx hb dX6_endOfPattern_224 (by decide) (fun k_304 => ?_) (fun k_304 => ?_)
                              · have tk_304 := c_eq (a := fa.toInt) (b := 0) rfl (by decide) k_304
                                obtain ⟨y_305, ey_305⟩ : ∃ y : Int32, y = ax + 1 := ⟨_, rfl⟩
                                first | have ty_305 := i_add (a := ax.toInt) (b := 1) rfl (by decide) ey_305 (by omega) (by omega) | skip
                                refine lv_iinc (v := y_305) (lv' := [(7, .int y_305), (6, .int 1), (5, .int y_303), (8, .int y_4), (4, .int sp), (0, .ref rd), (1, .ref ta), (2, .int i8), (3, .int i9)]) hx hb dX6_endOfPattern_230 hl (k := 3) rfl (by rw [ey_305]; rfl) (by decide) rfl (fun ls hl => ?_)
                                refine lv_goto (tgt := 12) hx hb dX6_endOfPattern_233 (by decide) ?_
                                have lit_305 : (1 : Int32).toInt = 1 := by decide
                                exact ih12 sp y_303 1 y_305 fa fb (by first | omega | decide | assumption) (by first | omega | decide | assumption) (by omega) _ _ ls hP hD hS (lv_sub hl [0, 1, 2, 4, 5, 6, 7, 8] rfl)
                              · have tk_304 := c_ne (a := fa.toInt) (b := 0) rfl (by decide) k_304
                                refine lv_iload hx hb dX6_endOfPattern_227 (lv_at hl 3 rfl) ?_
                                have hP9 := hP.sub (ws' := [(rd, .inr (6, rF r fa fb a2 a3 a4 a5 a6 a7)), (ta, .inl (cT, nb, .inl ft))]) [0, 1] rfl
                                have hD9 := hD.sub (ws' := [(rd, .inr (6, rF r fa fb a2 a3 a4 a5 a6 a7)), (ta, .inl (cT, nb, .inl ft))]) [0, 1] (by decide) rfl
                                have hK9 := hK.sub (tys' := [(cT, .int)]) [0] rfl
                                exact W.iret hx hb hr (fun t ht hW => ⟨⟨_, (), rfl, by omega, fa, fb, by rw [ht]; exact hP9, va_K.moved hW.alike hK9, hD9⟩, hS.F ht⟩) hS.2.2 dX6_endOfPattern_229
                      · have tk_260 := c_eq (a := y_4.toInt) (b := 124) rfl (by decide) k_260
                        refine lv_iload hx hb dX6_endOfPattern_156 (lv_at hl 2 rfl) ?_
                        refine lv_if_eq (tgt := 167) hx hb dX6_endOfPattern_158 (by decide) (fun k_307 => ?_) (fun k_307 => ?_)
                        · have tk_307 := c_eq (a := sd.toInt) (b := 0) rfl (by decide) k_307
                          refine lv_iload hx hb dX6_endOfPattern_167 (lv_at hl 0 rfl) ?_
                          refine lv_bipush (v := 41) hx hb dX6_endOfPattern_169 (by decide) ?_
                          refine lv_icmp_ne (tgt := 193) hx hb dX6_endOfPattern_171 (by decide) (fun k_308 => ?_) (fun k_308 => ?_)
                          · have tk_308 := c_ne (a := y_4.toInt) (b := 41) rfl (by decide) k_308
                            refine lv_iload hx hb dX6_endOfPattern_193 (lv_at hl 0 rfl) ?_
                            refine vp_callSi (W.runS (As := [.int y_4]) (rest := []) ⟨hx, hb, hml, hown, hts⟩ (s_isSign l dC dI y_4) (va_cwS 1 hts mg_X6_endOfPattern_X6_isSign_102 rfl rfl rfl (by decide +kernel) ⟨Nat.le_of_ble_eq_true rfl, Nat.le_of_ble_eq_true rfl⟩) ⟨fun a U g mk q => ⟨q.1, trivial⟩, fun U hU hW => ⟨rfl, trivial⟩⟩ rfl rfl hl.1 rfl (lv_room (Nat.le_of_ble_eq_true rfl)) dX6_endOfPattern_195 ⟨Nat.le_of_ble_eq_true rfl, Nat.le_of_ble_eq_true rfl⟩) (fun r_310 hw => ?_)
                            refine lv_if_eq (tgt := 213) hx hb dX6_endOfPattern_198 (by decide) (fun k_311 => ?_) (fun k_311 => ?_)
                            · have tk_311 := c_eq (a := r_310.toInt) (b := 0) rfl (by decide) k_311
                              refine lv_aload_n hx hb dX6_endOfPattern_213 rfl (lv_at hl 5 rfl) ?_
                              refine lv_iconst (v := 1) hx hb dX6_endOfPattern_214 (by decide) ?_
                              refine lv_iload hx hb dX6_endOfPattern_215 (lv_at hl 1 rfl) ?_
                              have hPc := hP.sub (ws' := [(rd, .inr (6, rF r fa fb a2 a3 a4 a5 a6 a7))]) [0] rfl
                              have hKc := hK.sub (tys' := []) [] rfl
                              have hDc := hD.sub (ws' := [(rd, .inr (6, rF r fa fb a2 a3 a4 a5 a6 a7))]) [0] (by decide) rfl
                              have hFc := va_free (wc := [(rd, .inr (6, rF r fa fb a2 a3 a4 a5 a6 a7))]) hD hS hA [0] rfl
                              refine va_callv (va_runV (As := [.int 1, .int ax]) (rest := []) ⟨hx, hb, hml, hown, hts⟩ (s_fail l dC dI rd r fa fb a2 a3 a4 a5 a6 a7 H.size 1 ax) (cwV 2 hts mg_X6_endOfPattern_X6_fail_71 rfl rfl rfl (by decide +kernel) ⟨Nat.le_of_ble_eq_true rfl, Nat.le_of_ble_eq_true rfl⟩) ⟨fun a U g mk q => by obtain ⟨q0, q1, qP, qK, qD⟩ := q; exact ⟨q0, q1, qP, va_K.moved (u := U) (U := U.calling g mk a) (Vm.Alike.refl U.vm) qK, qD⟩, va_recv hKc hPc (ci := 6) (q0 := 0) rfl rfl, fun U hU hW => ⟨rfl, by rw [hU], by rw [hU]; exact hPc, va_K.moved hW.alike hKc, hDc.weaken (fun _ _ _ _ => trivial)⟩⟩ rfl rfl hl.1 rfl (lv_room (Nat.le_of_ble_eq_true rfl)) dX6_endOfPattern_217 ⟨Nat.le_of_ble_eq_true rfl, Nat.le_of_ble_eq_true rfl⟩) hS (fun q _ h => hFc q h) hFc (fun u t H1 locs ht hvm hw hB hz1 hk1 hS => ?_)
                              obtain ⟨hP1, hK1, hD1⟩ := hB
                              rw [ht] at hP1
                              obtain ⟨hP, hD⟩ := va_join (wr := [(ta, .inl (cT, nb, .inl ft))]) (w1 := [(rd, .inr (6, rF r 1 ax a2 a3 a4 a5 a6 a7))]) hP hD [0] [1] rfl rfl (by decide) (by decide) hk1 hFc hP1 hD1
                              generalize H1 = H at hP hS ⊢
                              have hP : va_P (dC, dI) vwCl [(ta, .inl (cT, nb, .inl ft)), (rd, .inr (6, rF r 1 ax a2 a3 a4 a5 a6 a7))] H := hP
                              have hD : va_D A [(ta, .inl (cT, nb, .inl ft)), (rd, .inr (6, rF r 1 ax a2 a3 a4 a5 a6 a7))] := hD
                              refine lv_aload_n hx hb dX6_endOfPattern_220 rfl (lv_at hl 5 rfl) ?_
                              refine va_get (D := (dC, dI)) (ci := 6) (v := .int 1) (C := RX6) (T := TX6) (N := 11) hx hb hts fin_X6_endOfPattern_X6 hown hK hP 1 rfl rfl 0 (by decide) (hts (.fieldLink RX6 22 "PatternGate$Reader" "faultKind" "I") (List.mem_of_getElem? (i := 2) (by decide +kernel))) (fun _ h9 => h9) rfl dX6_endOfPattern_221 ?_
                              refine lv_if_eq (tgt := 230) hx hb dX6_endOfPattern_224 (by decide) (fun k_314 => absurd k_314 (by decide)) (fun k_314 => ?_)
                              have tk_314 := c_ne (a := 1) (b := 0) (by decide) (by decide) k_314
                              refine lv_iload hx hb dX6_endOfPattern_227 (lv_at hl 1 rfl) ?_
                              have hP9 := hP.sub (ws' := [(rd, .inr (6, rF r 1 ax a2 a3 a4 a5 a6 a7)), (ta, .inl (cT, nb, .inl ft))]) [1, 0] rfl
                              have hD9 := hD.sub (ws' := [(rd, .inr (6, rF r 1 ax a2 a3 a4 a5 a6 a7)), (ta, .inl (cT, nb, .inl ft))]) [1, 0] (by decide) rfl
                              have hK9 := hK.sub (tys' := [(cT, .int)]) [0] rfl
                              exact W.iret hx hb hr (fun t ht hW => ⟨⟨_, (), rfl, by omega, 1, ax, by rw [ht]; exact hP9, va_K.moved hW.alike hK9, hD9⟩, hS.F ht⟩) hS.2.2 dX6_endOfPattern_229
                            · have tk_311 := c_ne (a := r_310.toInt) (b := 0) rfl (by decide) k_311
                              refine lv_iload hx hb dX6_endOfPattern_201 (lv_at hl 2 rfl) ?_
                              refine lv_iconst (v := 1) hx hb dX6_endOfPattern_203 (by decide) ?_
                              refine lv_icmp_ne (tgt := 213) hx hb dX6_endOfPattern_204 (by decide) (fun k_315 => ?_) (fun k_315 => ?_)
                              · have tk_315 := c_ne (a := sd.toInt) (b := 1) rfl (by decide) k_315
                                refine lv_aload_n hx hb dX6_endOfPattern_213 rfl (lv_at hl 5 rfl) ?_
                                refine lv_iconst (v := 1) hx hb dX6_endOfPattern_214 (by decide) ?_
                                refine lv_iload hx hb dX6_endOfPattern_215 (lv_at hl 1 rfl) ?_
                                have hPc := hP.sub (ws' := [(rd, .inr (6, rF r fa fb a2 a3 a4 a5 a6 a7))]) [0] rfl
                                have hKc := hK.sub (tys' := []) [] rfl
                                have hDc := hD.sub (ws' := [(rd, .inr (6, rF r fa fb a2 a3 a4 a5 a6 a7))]) [0] (by decide) rfl
                                have hFc := va_free (wc := [(rd, .inr (6, rF r fa fb a2 a3 a4 a5 a6 a7))]) hD hS hA [0] rfl
                                refine va_callv (va_runV (As := [.int 1, .int ax]) (rest := []) ⟨hx, hb, hml, hown, hts⟩ (s_fail l dC dI rd r fa fb a2 a3 a4 a5 a6 a7 H.size 1 ax) (cwV 2 hts mg_X6_endOfPattern_X6_fail_71 rfl rfl rfl (by decide +kernel) ⟨Nat.le_of_ble_eq_true rfl, Nat.le_of_ble_eq_true rfl⟩) ⟨fun a U g mk q => by obtain ⟨q0, q1, qP, qK, qD⟩ := q; exact ⟨q0, q1, qP, va_K.moved (u := U) (U := U.calling g mk a) (Vm.Alike.refl U.vm) qK, qD⟩, va_recv hKc hPc (ci := 6) (q0 := 0) rfl rfl, fun U hU hW => ⟨rfl, by rw [hU], by rw [hU]; exact hPc, va_K.moved hW.alike hKc, hDc.weaken (fun _ _ _ _ => trivial)⟩⟩ rfl rfl hl.1 rfl (lv_room (Nat.le_of_ble_eq_true rfl)) dX6_endOfPattern_217 ⟨Nat.le_of_ble_eq_true rfl, Nat.le_of_ble_eq_true rfl⟩) hS (fun q _ h => hFc q h) hFc (fun u t H1 locs ht hvm hw hB hz1 hk1 hS => ?_)
                                obtain ⟨hP1, hK1, hD1⟩ := hB
                                rw [ht] at hP1
                                obtain ⟨hP, hD⟩ := va_join (wr := [(ta, .inl (cT, nb, .inl ft))]) (w1 := [(rd, .inr (6, rF r 1 ax a2 a3 a4 a5 a6 a7))]) hP hD [0] [1] rfl rfl (by decide) (by decide) hk1 hFc hP1 hD1
                                generalize H1 = H at hP hS ⊢
                                have hP : va_P (dC, dI) vwCl [(ta, .inl (cT, nb, .inl ft)), (rd, .inr (6, rF r 1 ax a2 a3 a4 a5 a6 a7))] H := hP
                                have hD : va_D A [(ta, .inl (cT, nb, .inl ft)), (rd, .inr (6, rF r 1 ax a2 a3 a4 a5 a6 a7))] := hD
                                refine lv_aload_n hx hb dX6_endOfPattern_220 rfl (lv_at hl 5 rfl) ?_
                                refine va_get (D := (dC, dI)) (ci := 6) (v := .int 1) (C := RX6) (T := TX6) (N := 11) hx hb hts fin_X6_endOfPattern_X6 hown hK hP 1 rfl rfl 0 (by decide) (hts (.fieldLink RX6 22 "PatternGate$Reader" "faultKind" "I") (List.mem_of_getElem? (i := 2) (by decide +kernel))) (fun _ h9 => h9) rfl dX6_endOfPattern_221 ?_
                                refine lv_if_eq (tgt := 230) hx hb dX6_endOfPattern_224 (by decide) (fun k_318 => absurd k_318 (by decide)) (fun k_318 => ?_)
                                have tk_318 := c_ne (a := 1) (b := 0) (by decide) (by decide) k_318
                                refine lv_iload hx hb dX6_endOfPattern_227 (lv_at hl 1 rfl) ?_
                                have hP9 := hP.sub (ws' := [(rd, .inr (6, rF r 1 ax a2 a3 a4 a5 a6 a7)), (ta, .inl (cT, nb, .inl ft))]) [1, 0] rfl
                                have hD9 := hD.sub (ws' := [(rd, .inr (6, rF r 1 ax a2 a3 a4 a5 a6 a7)), (ta, .inl (cT, nb, .inl ft))]) [1, 0] (by decide) rfl
                                have hK9 := hK.sub (tys' := [(cT, .int)]) [0] rfl
                                exact W.iret hx hb hr (fun t ht hW => ⟨⟨_, (), rfl, by omega, 1, ax, by rw [ht]; exact hP9, va_K.moved hW.alike hK9, hD9⟩, hS.F ht⟩) hS.2.2 dX6_endOfPattern_229
                              · have tk_315 := c_eq (a := sd.toInt) (b := 1) rfl (by decide) k_315
                                refine lv_iconst (v := 2) hx hb dX6_endOfPattern_207 (by decide) ?_
                                refine lv_istore (lv' := [(6, .int 2), (8, .int y_4), (7, .int ax), (5, .int op), (4, .int sp), (0, .ref rd), (1, .ref ta), (2, .int i8), (3, .int i9)]) hx hb dX6_endOfPattern_208 hl (by decide) rfl (fun ls hl => ?_)
                                refine lv_goto (tgt := 220) hx hb dX6_endOfPattern_210 (by decide) ?_
                                refine lv_aload_n hx hb dX6_endOfPattern_220 rfl (lv_at hl 5 rfl) ?_
                                refine va_get (D := (dC, dI)) (ci := 6) (v := .int fa) (C := RX6) (T := TX6) (N := 11) hx hb hts fin_X6_endOfPattern_X6 hown hK hP 0 rfl rfl 0 (by decide) (hts (.fieldLink RX6 22 "PatternGate$Reader" "faultKind" "I") (List.mem_of_getElem? (i := 2) (by decide +kernel))) (fun _ h9 => h9) rfl dX6_endOfPattern_221 ?_
                                refine lv_if_eq (tgt := 230) hx hb dX6_endOfPattern_224 (by decide) (fun k_319 => ?_) (fun k_319 => ?_)
                                · have tk_319 := c_eq (a := fa.toInt) (b := 0) rfl (by decide) k_319
                                  obtain ⟨y_320, ey_320⟩ : ∃ y : Int32, y = ax + 1 := ⟨_, rfl⟩
                                  first | have ty_320 := i_add (a := ax.toInt) (b := 1) rfl (by decide) ey_320 (by omega) (by omega) | skip
                                  refine lv_iinc (v := y_320) (lv' := [(7, .int y_320), (6, .int 2), (8, .int y_4), (5, .int op), (4, .int sp), (0, .ref rd), (1, .ref ta), (2, .int i8), (3, .int i9)]) hx hb dX6_endOfPattern_230 hl (k := 2) rfl (by rw [ey_320]; rfl) (by decide) rfl (fun ls hl => ?_)
                                  refine lv_goto (tgt := 12) hx hb dX6_endOfPattern_233 (by decide) ?_
                                  have lit_320 : (2 : Int32).toInt = 2 := by decide
                                  exact ih12 sp op 2 y_320 fa fb (by first | omega | decide | assumption) (by first | omega | decide | assumption) (by omega) _ _ ls hP hD hS (lv_sub hl [0, 1, 3, 4, 5, 6, 7, 8] rfl)
                                · have tk_319 := c_ne (a := fa.toInt) (b := 0) rfl (by decide) k_319
                                  refine lv_iload hx hb dX6_endOfPattern_227 (lv_at hl 2 rfl) ?_
                                  have hP9 := hP.sub (ws' := [(rd, .inr (6, rF r fa fb a2 a3 a4 a5 a6 a7)), (ta, .inl (cT, nb, .inl ft))]) [0, 1] rfl
                                  have hD9 := hD.sub (ws' := [(rd, .inr (6, rF r fa fb a2 a3 a4 a5 a6 a7)), (ta, .inl (cT, nb, .inl ft))]) [0, 1] (by decide) rfl
                                  have hK9 := hK.sub (tys' := [(cT, .int)]) [0] rfl
                                  exact W.iret hx hb hr (fun t ht hW => ⟨⟨_, (), rfl, by omega, fa, fb, by rw [ht]; exact hP9, va_K.moved hW.alike hK9, hD9⟩, hS.F ht⟩) hS.2.2 dX6_endOfPattern_229
                          · have tk_308 := c_eq (a := y_4.toInt) (b := 41) rfl (by decide) k_308
                            refine lv_iload hx hb dX6_endOfPattern_174 (lv_at hl 3 rfl) ?_
                            refine lv_if_le (tgt := 193) hx hb dX6_endOfPattern_176 (by decide) (fun k_322 => ?_) (fun k_322 => ?_)
                            · have tk_322 := c_le (a := op.toInt) (b := 0) rfl (by decide) k_322
                              refine lv_iload hx hb dX6_endOfPattern_193 (lv_at hl 0 rfl) ?_
                              refine vp_callSi (W.runS (As := [.int y_4]) (rest := []) ⟨hx, hb, hml, hown, hts⟩ (s_isSign l dC dI y_4) (va_cwS 1 hts mg_X6_endOfPattern_X6_isSign_102 rfl rfl rfl (by decide +kernel) ⟨Nat.le_of_ble_eq_true rfl, Nat.le_of_ble_eq_true rfl⟩) ⟨fun a U g mk q => ⟨q.1, trivial⟩, fun U hU hW => ⟨rfl, trivial⟩⟩ rfl rfl hl.1 rfl (lv_room (Nat.le_of_ble_eq_true rfl)) dX6_endOfPattern_195 ⟨Nat.le_of_ble_eq_true rfl, Nat.le_of_ble_eq_true rfl⟩) (fun r_324 hw => ?_)
                              refine lv_if_eq (tgt := 213) hx hb dX6_endOfPattern_198 (by decide) (fun k_325 => ?_) (fun k_325 => ?_)
                              · have tk_325 := c_eq (a := r_324.toInt) (b := 0) rfl (by decide) k_325
                                refine lv_aload_n hx hb dX6_endOfPattern_213 rfl (lv_at hl 5 rfl) ?_
                                refine lv_iconst (v := 1) hx hb dX6_endOfPattern_214 (by decide) ?_
                                refine lv_iload hx hb dX6_endOfPattern_215 (lv_at hl 1 rfl) ?_
                                have hPc := hP.sub (ws' := [(rd, .inr (6, rF r fa fb a2 a3 a4 a5 a6 a7))]) [0] rfl
                                have hKc := hK.sub (tys' := []) [] rfl
                                have hDc := hD.sub (ws' := [(rd, .inr (6, rF r fa fb a2 a3 a4 a5 a6 a7))]) [0] (by decide) rfl
                                have hFc := va_free (wc := [(rd, .inr (6, rF r fa fb a2 a3 a4 a5 a6 a7))]) hD hS hA [0] rfl
                                refine va_callv (va_runV (As := [.int 1, .int ax]) (rest := []) ⟨hx, hb, hml, hown, hts⟩ (s_fail l dC dI rd r fa fb a2 a3 a4 a5 a6 a7 H.size 1 ax) (cwV 2 hts mg_X6_endOfPattern_X6_fail_71 rfl rfl rfl (by decide +kernel) ⟨Nat.le_of_ble_eq_true rfl, Nat.le_of_ble_eq_true rfl⟩) ⟨fun a U g mk q => by obtain ⟨q0, q1, qP, qK, qD⟩ := q; exact ⟨q0, q1, qP, va_K.moved (u := U) (U := U.calling g mk a) (Vm.Alike.refl U.vm) qK, qD⟩, va_recv hKc hPc (ci := 6) (q0 := 0) rfl rfl, fun U hU hW => ⟨rfl, by rw [hU], by rw [hU]; exact hPc, va_K.moved hW.alike hKc, hDc.weaken (fun _ _ _ _ => trivial)⟩⟩ rfl rfl hl.1 rfl (lv_room (Nat.le_of_ble_eq_true rfl)) dX6_endOfPattern_217 ⟨Nat.le_of_ble_eq_true rfl, Nat.le_of_ble_eq_true rfl⟩) hS (fun q _ h => hFc q h) hFc (fun u t H1 locs ht hvm hw hB hz1 hk1 hS => ?_)
                                obtain ⟨hP1, hK1, hD1⟩ := hB
                                rw [ht] at hP1
                                obtain ⟨hP, hD⟩ := va_join (wr := [(ta, .inl (cT, nb, .inl ft))]) (w1 := [(rd, .inr (6, rF r 1 ax a2 a3 a4 a5 a6 a7))]) hP hD [0] [1] rfl rfl (by decide) (by decide) hk1 hFc hP1 hD1
                                generalize H1 = H at hP hS ⊢
                                have hP : va_P (dC, dI) vwCl [(ta, .inl (cT, nb, .inl ft)), (rd, .inr (6, rF r 1 ax a2 a3 a4 a5 a6 a7))] H := hP
                                have hD : va_D A [(ta, .inl (cT, nb, .inl ft)), (rd, .inr (6, rF r 1 ax a2 a3 a4 a5 a6 a7))] := hD
                                refine lv_aload_n hx hb dX6_endOfPattern_220 rfl (lv_at hl 5 rfl) ?_
                                refine va_get (D := (dC, dI)) (ci := 6) (v := .int 1) (C := RX6) (T := TX6) (N := 11) hx hb hts fin_X6_endOfPattern_X6 hown hK hP 1 rfl rfl 0 (by decide) (hts (.fieldLink RX6 22 "PatternGate$Reader" "faultKind" "I") (List.mem_of_getElem? (i := 2) (by decide +kernel))) (fun _ h9 => h9) rfl dX6_endOfPattern_221 ?_
                                refine lv_if_eq (tgt := 230) hx hb dX6_endOfPattern_224 (by decide) (fun k_328 => absurd k_328 (by decide)) (fun k_328 => ?_)
                                have tk_328 := c_ne (a := 1) (b := 0) (by decide) (by decide) k_328
                                refine lv_iload hx hb dX6_endOfPattern_227 (lv_at hl 1 rfl) ?_
                                have hP9 := hP.sub (ws' := [(rd, .inr (6, rF r 1 ax a2 a3 a4 a5 a6 a7)), (ta, .inl (cT, nb, .inl ft))]) [1, 0] rfl
                                have hD9 := hD.sub (ws' := [(rd, .inr (6, rF r 1 ax a2 a3 a4 a5 a6 a7)), (ta, .inl (cT, nb, .inl ft))]) [1, 0] (by decide) rfl
                                have hK9 := hK.sub (tys' := [(cT, .int)]) [0] rfl
                                exact W.iret hx hb hr (fun t ht hW => ⟨⟨_, (), rfl, by omega, 1, ax, by rw [ht]; exact hP9, va_K.moved hW.alike hK9, hD9⟩, hS.F ht⟩) hS.2.2 dX6_endOfPattern_229
                              · have tk_325 := c_ne (a := r_324.toInt) (b := 0) rfl (by decide) k_325
                                refine lv_iload hx hb dX6_endOfPattern_201 (lv_at hl 2 rfl) ?_
                                refine lv_iconst (v := 1) hx hb dX6_endOfPattern_203 (by decide) ?_
                                refine lv_icmp_ne (tgt := 213) hx hb dX6_endOfPattern_204 (by decide) (fun k_329 => ?_) (fun k_329 => ?_)
                                · have tk_329 := c_ne (a := sd.toInt) (b := 1) rfl (by decide) k_329
                                  refine lv_aload_n hx hb dX6_endOfPattern_213 rfl (lv_at hl 5 rfl) ?_
                                  refine lv_iconst (v := 1) hx hb dX6_endOfPattern_214 (by decide) ?_
                                  refine lv_iload hx hb dX6_endOfPattern_215 (lv_at hl 1 rfl) ?_
                                  have hPc := hP.sub (ws' := [(rd, .inr (6, rF r fa fb a2 a3 a4 a5 a6 a7))]) [0] rfl
                                  have hKc := hK.sub (tys' := []) [] rfl
                                  have hDc := hD.sub (ws' := [(rd, .inr (6, rF r fa fb a2 a3 a4 a5 a6 a7))]) [0] (by decide) rfl
                                  have hFc := va_free (wc := [(rd, .inr (6, rF r fa fb a2 a3 a4 a5 a6 a7))]) hD hS hA [0] rfl
                                  refine va_callv (va_runV (As := [.int 1, .int ax]) (rest := []) ⟨hx, hb, hml, hown, hts⟩ (s_fail l dC dI rd r fa fb a2 a3 a4 a5 a6 a7 H.size 1 ax) (cwV 2 hts mg_X6_endOfPattern_X6_fail_71 rfl rfl rfl (by decide +kernel) ⟨Nat.le_of_ble_eq_true rfl, Nat.le_of_ble_eq_true rfl⟩) ⟨fun a U g mk q => by obtain ⟨q0, q1, qP, qK, qD⟩ := q; exact ⟨q0, q1, qP, va_K.moved (u := U) (U := U.calling g mk a) (Vm.Alike.refl U.vm) qK, qD⟩, va_recv hKc hPc (ci := 6) (q0 := 0) rfl rfl, fun U hU hW => ⟨rfl, by rw [hU], by rw [hU]; exact hPc, va_K.moved hW.alike hKc, hDc.weaken (fun _ _ _ _ => trivial)⟩⟩ rfl rfl hl.1 rfl (lv_room (Nat.le_of_ble_eq_true rfl)) dX6_endOfPattern_217 ⟨Nat.le_of_ble_eq_true rfl, Nat.le_of_ble_eq_true rfl⟩) hS (fun q _ h => hFc q h) hFc (fun u t H1 locs ht hvm hw hB hz1 hk1 hS => ?_)
                                  obtain ⟨hP1, hK1, hD1⟩ := hB
                                  rw [ht] at hP1
                                  obtain ⟨hP, hD⟩ := va_join (wr := [(ta, .inl (cT, nb, .inl ft))]) (w1 := [(rd, .inr (6, rF r 1 ax a2 a3 a4 a5 a6 a7))]) hP hD [0] [1] rfl rfl (by decide) (by decide) hk1 hFc hP1 hD1
                                  generalize H1 = H at hP hS ⊢
                                  have hP : va_P (dC, dI) vwCl [(ta, .inl (cT, nb, .inl ft)), (rd, .inr (6, rF r 1 ax a2 a3 a4 a5 a6 a7))] H := hP
                                  have hD : va_D A [(ta, .inl (cT, nb, .inl ft)), (rd, .inr (6, rF r 1 ax a2 a3 a4 a5 a6 a7))] := hD
                                  refine lv_aload_n hx hb dX6_endOfPattern_220 rfl (lv_at hl 5 rfl) ?_
                                  refine va_get (D := (dC, dI)) (ci := 6) (v := .int 1) (C := RX6) (T := TX6) (N := 11) hx hb hts fin_X6_endOfPattern_X6 hown hK hP 1 rfl rfl 0 (by decide) (hts (.fieldLink RX6 22 "PatternGate$Reader" "faultKind" "I") (List.mem_of_getElem? (i := 2) (by decide +kernel))) (fun _ h9 => h9) rfl dX6_endOfPattern_221 ?_
                                  refine lv_if_eq (tgt := 230) hx hb dX6_endOfPattern_224 (by decide) (fun k_332 => absurd k_332 (by decide)) (fun k_332 => ?_)
                                  have tk_332 := c_ne (a := 1) (b := 0) (by decide) (by decide) k_332
                                  refine lv_iload hx hb dX6_endOfPattern_227 (lv_at hl 1 rfl) ?_
                                  have hP9 := hP.sub (ws' := [(rd, .inr (6, rF r 1 ax a2 a3 a4 a5 a6 a7)), (ta, .inl (cT, nb, .inl ft))]) [1, 0] rfl
                                  have hD9 := hD.sub (ws' := [(rd, .inr (6, rF r 1 ax a2 a3 a4 a5 a6 a7)), (ta, .inl (cT, nb, .inl ft))]) [1, 0] (by decide) rfl
                                  have hK9 := hK.sub (tys' := [(cT, .int)]) [0] rfl
                                  exact W.iret hx hb hr (fun t ht hW => ⟨⟨_, (), rfl, by omega, 1, ax, by rw [ht]; exact hP9, va_K.moved hW.alike hK9, hD9⟩, hS.F ht⟩) hS.2.2 dX6_endOfPattern_229
                                · have tk_329 := c_eq (a := sd.toInt) (b := 1) rfl (by decide) k_329
                                  refine lv_iconst (v := 2) hx hb dX6_endOfPattern_207 (by decide) ?_
                                  refine lv_istore (lv' := [(6, .int 2), (8, .int y_4), (7, .int ax), (5, .int op), (4, .int sp), (0, .ref rd), (1, .ref ta), (2, .int i8), (3, .int i9)]) hx hb dX6_endOfPattern_208 hl (by decide) rfl (fun ls hl => ?_)
                                  refine lv_goto (tgt := 220) hx hb dX6_endOfPattern_210 (by decide) ?_
                                  refine lv_aload_n hx hb dX6_endOfPattern_220 rfl (lv_at hl 5 rfl) ?_
                                  refine va_get (D := (dC, dI)) (ci := 6) (v := .int fa) (C := RX6) (T := TX6) (N := 11) hx hb hts fin_X6_endOfPattern_X6 hown hK hP 0 rfl rfl 0 (by decide) (hts (.fieldLink RX6 22 "PatternGate$Reader" "faultKind" "I") (List.mem_of_getElem? (i := 2) (by decide +kernel))) (fun _ h9 => h9) rfl dX6_endOfPattern_221 ?_
                                  refine lv_if_eq (tgt := 230) hx hb dX6_endOfPattern_224 (by decide) (fun k_333 => ?_) (fun k_333 => ?_)
                                  · have tk_333 := c_eq (a := fa.toInt) (b := 0) rfl (by decide) k_333
                                    obtain ⟨y_334, ey_334⟩ : ∃ y : Int32, y = ax + 1 := ⟨_, rfl⟩
                                    first | have ty_334 := i_add (a := ax.toInt) (b := 1) rfl (by decide) ey_334 (by omega) (by omega) | skip
                                    refine lv_iinc (v := y_334) (lv' := [(7, .int y_334), (6, .int 2), (8, .int y_4), (5, .int op), (4, .int sp), (0, .ref rd), (1, .ref ta), (2, .int i8), (3, .int i9)]) hx hb dX6_endOfPattern_230 hl (k := 2) rfl (by rw [ey_334]; rfl) (by decide) rfl (fun ls hl => ?_)
                                    refine lv_goto (tgt := 12) hx hb dX6_endOfPattern_233 (by decide) ?_
                                    have lit_334 : (2 : Int32).toInt = 2 := by decide
                                    exact ih12 sp op 2 y_334 fa fb (by first | omega | decide | assumption) (by first | omega | decide | assumption) (by omega) _ _ ls hP hD hS (lv_sub hl [0, 1, 3, 4, 5, 6, 7, 8] rfl)
                                  · have tk_333 := c_ne (a := fa.toInt) (b := 0) rfl (by decide) k_333
                                    refine lv_iload hx hb dX6_endOfPattern_227 (lv_at hl 2 rfl) ?_
                                    have hP9 := hP.sub (ws' := [(rd, .inr (6, rF r fa fb a2 a3 a4 a5 a6 a7)), (ta, .inl (cT, nb, .inl ft))]) [0, 1] rfl
                                    have hD9 := hD.sub (ws' := [(rd, .inr (6, rF r fa fb a2 a3 a4 a5 a6 a7)), (ta, .inl (cT, nb, .inl ft))]) [0, 1] (by decide) rfl
                                    have hK9 := hK.sub (tys' := [(cT, .int)]) [0] rfl
                                    exact W.iret hx hb hr (fun t ht hW => ⟨⟨_, (), rfl, by omega, fa, fb, by rw [ht]; exact hP9, va_K.moved hW.alike hK9, hD9⟩, hS.F ht⟩) hS.2.2 dX6_endOfPattern_229
                            · have tk_322 := c_nle (a := op.toInt) (b := 0) rfl (by decide) k_322
                              refine lv_iload hx hb dX6_endOfPattern_179 (lv_at hl 2 rfl) ?_
                              refine lv_if_eq (tgt := 193) hx hb dX6_endOfPattern_181 (by decide) (fun k_336 => ?_) (fun k_336 => ?_)
                              · have tk_336 := c_eq (a := sd.toInt) (b := 0) rfl (by decide) k_336
                                refine lv_iload hx hb dX6_endOfPattern_193 (lv_at hl 0 rfl) ?_
                                refine vp_callSi (W.runS (As := [.int y_4]) (rest := []) ⟨hx, hb, hml, hown, hts⟩ (s_isSign l dC dI y_4) (va_cwS 1 hts mg_X6_endOfPattern_X6_isSign_102 rfl rfl rfl (by decide +kernel) ⟨Nat.le_of_ble_eq_true rfl, Nat.le_of_ble_eq_true rfl⟩) ⟨fun a U g mk q => ⟨q.1, trivial⟩, fun U hU hW => ⟨rfl, trivial⟩⟩ rfl rfl hl.1 rfl (lv_room (Nat.le_of_ble_eq_true rfl)) dX6_endOfPattern_195 ⟨Nat.le_of_ble_eq_true rfl, Nat.le_of_ble_eq_true rfl⟩) (fun r_338 hw => ?_)
                                refine lv_if_eq (tgt := 213) hx hb dX6_endOfPattern_198 (by decide) (fun k_339 => ?_) (fun k_339 => ?_)
                                · have tk_339 := c_eq (a := r_338.toInt) (b := 0) rfl (by decide) k_339
                                  refine lv_aload_n hx hb dX6_endOfPattern_213 rfl (lv_at hl 5 rfl) ?_
                                  refine lv_iconst (v := 1) hx hb dX6_endOfPattern_214 (by decide) ?_
                                  refine lv_iload hx hb dX6_endOfPattern_215 (lv_at hl 1 rfl) ?_
                                  have hPc := hP.sub (ws' := [(rd, .inr (6, rF r fa fb a2 a3 a4 a5 a6 a7))]) [0] rfl
                                  have hKc := hK.sub (tys' := []) [] rfl
                                  have hDc := hD.sub (ws' := [(rd, .inr (6, rF r fa fb a2 a3 a4 a5 a6 a7))]) [0] (by decide) rfl
                                  have hFc := va_free (wc := [(rd, .inr (6, rF r fa fb a2 a3 a4 a5 a6 a7))]) hD hS hA [0] rfl
                                  refine va_callv (va_runV (As := [.int 1, .int ax]) (rest := []) ⟨hx, hb, hml, hown, hts⟩ (s_fail l dC dI rd r fa fb a2 a3 a4 a5 a6 a7 H.size 1 ax) (cwV 2 hts mg_X6_endOfPattern_X6_fail_71 rfl rfl rfl (by decide +kernel) ⟨Nat.le_of_ble_eq_true rfl, Nat.le_of_ble_eq_true rfl⟩) ⟨fun a U g mk q => by obtain ⟨q0, q1, qP, qK, qD⟩ := q; exact ⟨q0, q1, qP, va_K.moved (u := U) (U := U.calling g mk a) (Vm.Alike.refl U.vm) qK, qD⟩, va_recv hKc hPc (ci := 6) (q0 := 0) rfl rfl, fun U hU hW => ⟨rfl, by rw [hU], by rw [hU]; exact hPc, va_K.moved hW.alike hKc, hDc.weaken (fun _ _ _ _ => trivial)⟩⟩ rfl rfl hl.1 rfl (lv_room (Nat.le_of_ble_eq_true rfl)) dX6_endOfPattern_217 ⟨Nat.le_of_ble_eq_true rfl, Nat.le_of_ble_eq_true rfl⟩) hS (fun q _ h => hFc q h) hFc (fun u t H1 locs ht hvm hw hB hz1 hk1 hS => ?_)
                                  obtain ⟨hP1, hK1, hD1⟩ := hB
                                  rw [ht] at hP1
                                  obtain ⟨hP, hD⟩ := va_join (wr := [(ta, .inl (cT, nb, .inl ft))]) (w1 := [(rd, .inr (6, rF r 1 ax a2 a3 a4 a5 a6 a7))]) hP hD [0] [1] rfl rfl (by decide) (by decide) hk1 hFc hP1 hD1
                                  generalize H1 = H at hP hS ⊢
                                  have hP : va_P (dC, dI) vwCl [(ta, .inl (cT, nb, .inl ft)), (rd, .inr (6, rF r 1 ax a2 a3 a4 a5 a6 a7))] H := hP
                                  have hD : va_D A [(ta, .inl (cT, nb, .inl ft)), (rd, .inr (6, rF r 1 ax a2 a3 a4 a5 a6 a7))] := hD
                                  refine lv_aload_n hx hb dX6_endOfPattern_220 rfl (lv_at hl 5 rfl) ?_
                                  refine va_get (D := (dC, dI)) (ci := 6) (v := .int 1) (C := RX6) (T := TX6) (N := 11) hx hb hts fin_X6_endOfPattern_X6 hown hK hP 1 rfl rfl 0 (by decide) (hts (.fieldLink RX6 22 "PatternGate$Reader" "faultKind" "I") (List.mem_of_getElem? (i := 2) (by decide +kernel))) (fun _ h9 => h9) rfl dX6_endOfPattern_221 ?_
                                  refine lv_if_eq (tgt := 230) hx hb dX6_endOfPattern_224 (by decide) (fun k_342 => absurd k_342 (by decide)) (fun k_342 => ?_)
                                  have tk_342 := c_ne (a := 1) (b := 0) (by decide) (by decide) k_342
                                  refine lv_iload hx hb dX6_endOfPattern_227 (lv_at hl 1 rfl) ?_
                                  have hP9 := hP.sub (ws' := [(rd, .inr (6, rF r 1 ax a2 a3 a4 a5 a6 a7)), (ta, .inl (cT, nb, .inl ft))]) [1, 0] rfl
                                  have hD9 := hD.sub (ws' := [(rd, .inr (6, rF r 1 ax a2 a3 a4 a5 a6 a7)), (ta, .inl (cT, nb, .inl ft))]) [1, 0] (by decide) rfl
                                  have hK9 := hK.sub (tys' := [(cT, .int)]) [0] rfl
                                  exact W.iret hx hb hr (fun t ht hW => ⟨⟨_, (), rfl, by omega, 1, ax, by rw [ht]; exact hP9, va_K.moved hW.alike hK9, hD9⟩, hS.F ht⟩) hS.2.2 dX6_endOfPattern_229
                                · have tk_339 := c_ne (a := r_338.toInt) (b := 0) rfl (by decide) k_339
                                  refine lv_iload hx hb dX6_endOfPattern_201 (lv_at hl 2 rfl) ?_
                                  refine lv_iconst (v := 1) hx hb dX6_endOfPattern_203 (by decide) ?_
                                  refine lv_icmp_ne (tgt := 213) hx hb dX6_endOfPattern_204 (by decide) (fun k_343 => ?_) (fun k_343 => ?_)
                                  · have tk_343 := c_ne (a := sd.toInt) (b := 1) rfl (by decide) k_343
                                    refine lv_aload_n hx hb dX6_endOfPattern_213 rfl (lv_at hl 5 rfl) ?_
                                    refine lv_iconst (v := 1) hx hb dX6_endOfPattern_214 (by decide) ?_
                                    refine lv_iload hx hb dX6_endOfPattern_215 (lv_at hl 1 rfl) ?_
                                    have hPc := hP.sub (ws' := [(rd, .inr (6, rF r fa fb a2 a3 a4 a5 a6 a7))]) [0] rfl
                                    have hKc := hK.sub (tys' := []) [] rfl
                                    have hDc := hD.sub (ws' := [(rd, .inr (6, rF r fa fb a2 a3 a4 a5 a6 a7))]) [0] (by decide) rfl
                                    have hFc := va_free (wc := [(rd, .inr (6, rF r fa fb a2 a3 a4 a5 a6 a7))]) hD hS hA [0] rfl
                                    refine va_callv (va_runV (As := [.int 1, .int ax]) (rest := []) ⟨hx, hb, hml, hown, hts⟩ (s_fail l dC dI rd r fa fb a2 a3 a4 a5 a6 a7 H.size 1 ax) (cwV 2 hts mg_X6_endOfPattern_X6_fail_71 rfl rfl rfl (by decide +kernel) ⟨Nat.le_of_ble_eq_true rfl, Nat.le_of_ble_eq_true rfl⟩) ⟨fun a U g mk q => by obtain ⟨q0, q1, qP, qK, qD⟩ := q; exact ⟨q0, q1, qP, va_K.moved (u := U) (U := U.calling g mk a) (Vm.Alike.refl U.vm) qK, qD⟩, va_recv hKc hPc (ci := 6) (q0 := 0) rfl rfl, fun U hU hW => ⟨rfl, by rw [hU], by rw [hU]; exact hPc, va_K.moved hW.alike hKc, hDc.weaken (fun _ _ _ _ => trivial)⟩⟩ rfl rfl hl.1 rfl (lv_room (Nat.le_of_ble_eq_true rfl)) dX6_endOfPattern_217 ⟨Nat.le_of_ble_eq_true rfl, Nat.le_of_ble_eq_true rfl⟩) hS (fun q _ h => hFc q h) hFc (fun u t H1 locs ht hvm hw hB hz1 hk1 hS => ?_)
                                    obtain ⟨hP1, hK1, hD1⟩ := hB
                                    rw [ht] at hP1
                                    obtain ⟨hP, hD⟩ := va_join (wr := [(ta, .inl (cT, nb, .inl ft))]) (w1 := [(rd, .inr (6, rF r 1 ax a2 a3 a4 a5 a6 a7))]) hP hD [0] [1] rfl rfl (by decide) (by decide) hk1 hFc hP1 hD1
                                    generalize H1 = H at hP hS ⊢
                                    have hP : va_P (dC, dI) vwCl [(ta, .inl (cT, nb, .inl ft)), (rd, .inr (6, rF r 1 ax a2 a3 a4 a5 a6 a7))] H := hP
                                    have hD : va_D A [(ta, .inl (cT, nb, .inl ft)), (rd, .inr (6, rF r 1 ax a2 a3 a4 a5 a6 a7))] := hD
                                    refine lv_aload_n hx hb dX6_endOfPattern_220 rfl (lv_at hl 5 rfl) ?_
                                    refine va_get (D := (dC, dI)) (ci := 6) (v := .int 1) (C := RX6) (T := TX6) (N := 11) hx hb hts fin_X6_endOfPattern_X6 hown hK hP 1 rfl rfl 0 (by decide) (hts (.fieldLink RX6 22 "PatternGate$Reader" "faultKind" "I") (List.mem_of_getElem? (i := 2) (by decide +kernel))) (fun _ h9 => h9) rfl dX6_endOfPattern_221 ?_
                                    refine lv_if_eq (tgt := 230) hx hb dX6_endOfPattern_224 (by decide) (fun k_346 => absurd k_346 (by decide)) (fun k_346 => ?_)
                                    have tk_346 := c_ne (a := 1) (b := 0) (by decide) (by decide) k_346
                                    refine lv_iload hx hb dX6_endOfPattern_227 (lv_at hl 1 rfl) ?_
                                    have hP9 := hP.sub (ws' := [(rd, .inr (6, rF r 1 ax a2 a3 a4 a5 a6 a7)), (ta, .inl (cT, nb, .inl ft))]) [1, 0] rfl
                                    have hD9 := hD.sub (ws' := [(rd, .inr (6, rF r 1 ax a2 a3 a4 a5 a6 a7)), (ta, .inl (cT, nb, .inl ft))]) [1, 0] (by decide) rfl
                                    have hK9 := hK.sub (tys' := [(cT, .int)]) [0] rfl
                                    exact W.iret hx hb hr (fun t ht hW => ⟨⟨_, (), rfl, by omega, 1, ax, by rw [ht]; exact hP9, va_K.moved hW.alike hK9, hD9⟩, hS.F ht⟩) hS.2.2 dX6_endOfPattern_229
                                  · have tk_343 := c_eq (a := sd.toInt) (b := 1) rfl (by decide) k_343
                                    refine lv_iconst (v := 2) hx hb dX6_endOfPattern_207 (by decide) ?_
                                    refine lv_istore (lv' := [(6, .int 2), (8, .int y_4), (7, .int ax), (5, .int op), (4, .int sp), (0, .ref rd), (1, .ref ta), (2, .int i8), (3, .int i9)]) hx hb dX6_endOfPattern_208 hl (by decide) rfl (fun ls hl => ?_)
                                    refine lv_goto (tgt := 220) hx hb dX6_endOfPattern_210 (by decide) ?_
                                    refine lv_aload_n hx hb dX6_endOfPattern_220 rfl (lv_at hl 5 rfl) ?_
                                    refine va_get (D := (dC, dI)) (ci := 6) (v := .int fa) (C := RX6) (T := TX6) (N := 11) hx hb hts fin_X6_endOfPattern_X6 hown hK hP 0 rfl rfl 0 (by decide) (hts (.fieldLink RX6 22 "PatternGate$Reader" "faultKind" "I") (List.mem_of_getElem? (i := 2) (by decide +kernel))) (fun _ h9 => h9) rfl dX6_endOfPattern_221 ?_
                                    refine lv_if_eq (tgt := 230) hx hb dX6_endOfPattern_224 (by decide) (fun k_347 => ?_) (fun k_347 => ?_)
                                    · have tk_347 := c_eq (a := fa.toInt) (b := 0) rfl (by decide) k_347
                                      obtain ⟨y_348, ey_348⟩ : ∃ y : Int32, y = ax + 1 := ⟨_, rfl⟩
                                      first | have ty_348 := i_add (a := ax.toInt) (b := 1) rfl (by decide) ey_348 (by omega) (by omega) | skip
                                      refine lv_iinc (v := y_348) (lv' := [(7, .int y_348), (6, .int 2), (8, .int y_4), (5, .int op), (4, .int sp), (0, .ref rd), (1, .ref ta), (2, .int i8), (3, .int i9)]) hx hb dX6_endOfPattern_230 hl (k := 2) rfl (by rw [ey_348]; rfl) (by decide) rfl (fun ls hl => ?_)
                                      refine lv_goto (tgt := 12) hx hb dX6_endOfPattern_233 (by decide) ?_
                                      have lit_348 : (2 : Int32).toInt = 2 := by decide
                                      exact ih12 sp op 2 y_348 fa fb (by first | omega | decide | assumption) (by first | omega | decide | assumption) (by omega) _ _ ls hP hD hS (lv_sub hl [0, 1, 3, 4, 5, 6, 7, 8] rfl)
                                    · have tk_347 := c_ne (a := fa.toInt) (b := 0) rfl (by decide) k_347
                                      refine lv_iload hx hb dX6_endOfPattern_227 (lv_at hl 2 rfl) ?_
                                      have hP9 := hP.sub (ws' := [(rd, .inr (6, rF r fa fb a2 a3 a4 a5 a6 a7)), (ta, .inl (cT, nb, .inl ft))]) [0, 1] rfl
                                      have hD9 := hD.sub (ws' := [(rd, .inr (6, rF r fa fb a2 a3 a4 a5 a6 a7)), (ta, .inl (cT, nb, .inl ft))]) [0, 1] (by decide) rfl
                                      have hK9 := hK.sub (tys' := [(cT, .int)]) [0] rfl
                                      exact W.iret hx hb hr (fun t ht hW => ⟨⟨_, (), rfl, by omega, fa, fb, by rw [ht]; exact hP9, va_K.moved hW.alike hK9, hD9⟩, hS.F ht⟩) hS.2.2 dX6_endOfPattern_229
                              · have tk_336 := c_ne (a := sd.toInt) (b := 0) rfl (by decide) k_336
                                obtain ⟨y_350, ey_350⟩ : ∃ y : Int32, y = op + (-1) := ⟨_, rfl⟩
                                first | have ty_350 := i_add (a := op.toInt) (b := (-1)) rfl (by decide) ey_350 (by omega) (by omega) | skip
                                refine lv_iinc (v := y_350) (lv' := [(5, .int y_350), (8, .int y_4), (7, .int ax), (6, .int sd), (4, .int sp), (0, .ref rd), (1, .ref ta), (2, .int i8), (3, .int i9)]) hx hb dX6_endOfPattern_184 hl (k := 3) rfl (by rw [ey_350]; rfl) (by decide) rfl (fun ls hl => ?_)
                                refine lv_iconst (v := 1) hx hb dX6_endOfPattern_187 (by decide) ?_
                                refine lv_istore (lv' := [(6, .int 1), (5, .int y_350), (8, .int y_4), (7, .int ax), (4, .int sp), (0, .ref rd), (1, .ref ta), (2, .int i8), (3, .int i9)]) hx hb dX6_endOfPattern_188 hl (by decide) rfl (fun ls hl => ?_)
                                refine lv_goto (tgt := 220) hx hb dX6_endOfPattern_190 (by decide) ?_
                                refine lv_aload_n hx hb dX6_endOfPattern_220 rfl (lv_at hl 5 rfl) ?_
                                refine va_get (D := (dC, dI)) (ci := 6) (v := .int fa) (C := RX6) (T := TX6) (N := 11) hx hb hts fin_X6_endOfPattern_X6 hown hK hP 0 rfl rfl 0 (by decide) (hts (.fieldLink RX6 22 "PatternGate$Reader" "faultKind" "I") (List.mem_of_getElem? (i := 2) (by decide +kernel))) (fun _ h9 => h9) rfl dX6_endOfPattern_221 ?_
                                refine lv_if_eq (tgt := 230) hx hb dX6_endOfPattern_224 (by decide) (fun k_351 => ?_) (fun k_351 => ?_)
                                · have tk_351 := c_eq (a := fa.toInt) (b := 0) rfl (by decide) k_351
                                  obtain ⟨y_352, ey_352⟩ : ∃ y : Int32, y = ax + 1 := ⟨_, rfl⟩
                                  first | have ty_352 := i_add (a := ax.toInt) (b := 1) rfl (by decide) ey_352 (by omega) (by omega) | skip
                                  refine lv_iinc (v := y_352) (lv' := [(7, .int y_352), (6, .int 1), (5, .int y_350), (8, .int y_4), (4, .int sp), (0, .ref rd), (1, .ref ta), (2, .int i8), (3, .int i9)]) hx hb dX6_endOfPattern_230 hl (k := 3) rfl (by rw [ey_352]; rfl) (by decide) rfl (fun ls hl => ?_)
                                  refine lv_goto (tgt := 12) hx hb dX6_endOfPattern_233 (by decide) ?_
                                  have lit_352 : (1 : Int32).toInt = 1 := by decide
                                  exact ih12 sp y_350 1 y_352 fa fb (by first | omega | decide | assumption) (by first | omega | decide | assumption) (by omega) _ _ ls hP hD hS (lv_sub hl [0, 1, 2, 4, 5, 6, 7, 8] rfl)
                                · have tk_351 := c_ne (a := fa.toInt) (b := 0) rfl (by decide) k_351
                                  refine lv_iload hx hb dX6_endOfPattern_227 (lv_at hl 3 rfl) ?_
                                  have hP9 := hP.sub (ws' := [(rd, .inr (6, rF r fa fb a2 a3 a4 a5 a6 a7)), (ta, .inl (cT, nb, .inl ft))]) [0, 1] rfl
                                  have hD9 := hD.sub (ws' := [(rd, .inr (6, rF r fa fb a2 a3 a4 a5 a6 a7)), (ta, .inl (cT, nb, .inl ft))]) [0, 1] (by decide) rfl
                                  have hK9 := hK.sub (tys' := [(cT, .int)]) [0] rfl
                                  exact W.iret hx hb hr (fun t ht hW => ⟨⟨_, (), rfl, by omega, fa, fb, by rw [ht]; exact hP9, va_K.moved hW.alike hK9, hD9⟩, hS.F ht⟩) hS.2.2 dX6_endOfPattern_229
                        · have tk_307 := c_ne (a := sd.toInt) (b := 0) rfl (by decide) k_307
                          refine lv_iconst (v := 0) hx hb dX6_endOfPattern_161 (by decide) ?_
                          refine lv_istore (lv' := [(6, .int 0), (8, .int y_4), (7, .int ax), (5, .int op), (4, .int sp), (0, .ref rd), (1, .ref ta), (2, .int i8), (3, .int i9)]) hx hb dX6_endOfPattern_162 hl (by decide) rfl (fun ls hl => ?_)
                          refine lv_goto (tgt := 220) hx hb dX6_endOfPattern_164 (by decide) ?_
                          refine lv_aload_n hx hb dX6_endOfPattern_220 rfl (lv_at hl 5 rfl) ?_
                          refine va_get (D := (dC, dI)) (ci := 6) (v := .int fa) (C := RX6) (T := TX6) (N := 11) hx hb hts fin_X6_endOfPattern_X6 hown hK hP 0 rfl rfl 0 (by decide) (hts (.fieldLink RX6 22 "PatternGate$Reader" "faultKind" "I") (List.mem_of_getElem? (i := 2) (by decide +kernel))) (fun _ h9 => h9) rfl dX6_endOfPattern_221 ?_
                          refine lv_if_eq (tgt := 230) hx hb dX6_endOfPattern_224 (by decide) (fun k_354 => ?_) (fun k_354 => ?_)
                          · have tk_354 := c_eq (a := fa.toInt) (b := 0) rfl (by decide) k_354
                            obtain ⟨y_355, ey_355⟩ : ∃ y : Int32, y = ax + 1 := ⟨_, rfl⟩
                            first | have ty_355 := i_add (a := ax.toInt) (b := 1) rfl (by decide) ey_355 (by omega) (by omega) | skip
                            refine lv_iinc (v := y_355) (lv' := [(7, .int y_355), (6, .int 0), (8, .int y_4), (5, .int op), (4, .int sp), (0, .ref rd), (1, .ref ta), (2, .int i8), (3, .int i9)]) hx hb dX6_endOfPattern_230 hl (k := 2) rfl (by rw [ey_355]; rfl) (by decide) rfl (fun ls hl => ?_)
                            refine lv_goto (tgt := 12) hx hb dX6_endOfPattern_233 (by decide) ?_
                            have lit_355 : (0 : Int32).toInt = 0 := by decide
                            exact ih12 sp op 0 y_355 fa fb (by first | omega | decide | assumption) (by first | omega | decide | assumption) (by omega) _ _ ls hP hD hS (lv_sub hl [0, 1, 3, 4, 5, 6, 7, 8] rfl)
                          · have tk_354 := c_ne (a := fa.toInt) (b := 0) rfl (by decide) k_354
                            refine lv_iload hx hb dX6_endOfPattern_227 (lv_at hl 2 rfl) ?_
                            have hP9 := hP.sub (ws' := [(rd, .inr (6, rF r fa fb a2 a3 a4 a5 a6 a7)), (ta, .inl (cT, nb, .inl ft))]) [0, 1] rfl
                            have hD9 := hD.sub (ws' := [(rd, .inr (6, rF r fa fb a2 a3 a4 a5 a6 a7)), (ta, .inl (cT, nb, .inl ft))]) [0, 1] (by decide) rfl
                            have hK9 := hK.sub (tys' := [(cT, .int)]) [0] rfl
                            exact W.iret hx hb hr (fun t ht hW => ⟨⟨_, (), rfl, by omega, fa, fb, by rw [ht]; exact hP9, va_K.moved hW.alike hK9, hD9⟩, hS.F ht⟩) hS.2.2 dX6_endOfPattern_229
                    · have tk_259 := c_ne (a := sd.toInt) (b := 0) rfl (by decide) k_259
                      refine lv_iload hx hb dX6_endOfPattern_146 (lv_at hl 1 rfl) ?_
                      have hP9 := hP.sub (ws' := [(rd, .inr (6, rF r fa fb a2 a3 a4 a5 a6 a7)), (ta, .inl (cT, nb, .inl ft))]) [0, 1] rfl
                      have hD9 := hD.sub (ws' := [(rd, .inr (6, rF r fa fb a2 a3 a4 a5 a6 a7)), (ta, .inl (cT, nb, .inl ft))]) [0, 1] (by decide) rfl
                      have hK9 := hK.sub (tys' := [(cT, .int)]) [0] rfl
                      exact W.iret hx hb hr (fun t ht hW => ⟨⟨_, (), rfl, by omega, fa, fb, by rw [ht]; exact hP9, va_K.moved hW.alike hK9, hD9⟩, hS.F ht⟩) hS.2.2 dX6_endOfPattern_148
              · have tk_62 := c_eq (a := y_4.toInt) (b := 40) rfl (by decide) k_62
                refine lv_iload hx hb dX6_endOfPattern_107 (lv_at hl 3 rfl) ?_
                refine lv_iconst (v := 5) hx hb dX6_endOfPattern_109 (by decide) ?_
                refine lv_icmp_lt (tgt := 120) hx hb dX6_endOfPattern_110 (by decide) (fun k_357 => ?_) (fun k_357 => ?_)
                · have tk_357 := c_lt (a := op.toInt) (b := 5) rfl (by decide) k_357
                  obtain ⟨y_358, ey_358⟩ : ∃ y : Int32, y = op + 1 := ⟨_, rfl⟩
                  first | have ty_358 := i_add (a := op.toInt) (b := 1) rfl (by decide) ey_358 (by omega) (by omega) | skip
                  refine lv_iinc (v := y_358) (lv' := [(5, .int y_358), (8, .int y_4), (7, .int ax), (6, .int sd), (4, .int sp), (0, .ref rd), (1, .ref ta), (2, .int i8), (3, .int i9)]) hx hb dX6_endOfPattern_120 hl (k := 3) rfl (by rw [ey_358]; rfl) (by decide) rfl (fun ls hl => ?_)
                  refine lv_iconst (v := 0) hx hb dX6_endOfPattern_123 (by decide) ?_
                  refine lv_istore (lv' := [(6, .int 0), (5, .int y_358), (8, .int y_4), (7, .int ax), (4, .int sp), (0, .ref rd), (1, .ref ta), (2, .int i8), (3, .int i9)]) hx hb dX6_endOfPattern_124 hl (by decide) rfl (fun ls hl => ?_)
                  refine lv_goto (tgt := 220) hx hb dX6_endOfPattern_126 (by decide) ?_
                  refine lv_aload_n hx hb dX6_endOfPattern_220 rfl (lv_at hl 5 rfl) ?_
                  refine va_get (D := (dC, dI)) (ci := 6) (v := .int fa) (C := RX6) (T := TX6) (N := 11) hx hb hts fin_X6_endOfPattern_X6 hown hK hP 0 rfl rfl 0 (by decide) (hts (.fieldLink RX6 22 "PatternGate$Reader" "faultKind" "I") (List.mem_of_getElem? (i := 2) (by decide +kernel))) (fun _ h9 => h9) rfl dX6_endOfPattern_221 ?_
                  refine lv_if_eq (tgt := 230) hx hb dX6_endOfPattern_224 (by decide) (fun k_359 => ?_) (fun k_359 => ?_)
                  · have tk_359 := c_eq (a := fa.toInt) (b := 0) rfl (by decide) k_359
                    obtain ⟨y_360, ey_360⟩ : ∃ y : Int32, y = ax + 1 := ⟨_, rfl⟩
                    first | have ty_360 := i_add (a := ax.toInt) (b := 1) rfl (by decide) ey_360 (by omega) (by omega) | skip
                    refine lv_iinc (v := y_360) (lv' := [(7, .int y_360), (6, .int 0), (5, .int y_358), (8, .int y_4), (4, .int sp), (0, .ref rd), (1, .ref ta), (2, .int i8), (3, .int i9)]) hx hb dX6_endOfPattern_230 hl (k := 3) rfl (by rw [ey_360]; rfl) (by decide) rfl (fun ls hl => ?_)
                    refine lv_goto (tgt := 12) hx hb dX6_endOfPattern_233 (by decide) ?_
                    have lit_360 : (0 : Int32).toInt = 0 := by decide
                    exact ih12 sp y_358 0 y_360 fa fb (by first | omega | decide | assumption) (by first | omega | decide | assumption) (by omega) _ _ ls hP hD hS (lv_sub hl [0, 1, 2, 4, 5, 6, 7, 8] rfl)
                  · have tk_359 := c_ne (a := fa.toInt) (b := 0) rfl (by decide) k_359
                    refine lv_iload hx hb dX6_endOfPattern_227 (lv_at hl 3 rfl) ?_
                    have hP9 := hP.sub (ws' := [(rd, .inr (6, rF r fa fb a2 a3 a4 a5 a6 a7)), (ta, .inl (cT, nb, .inl ft))]) [0, 1] rfl
                    have hD9 := hD.sub (ws' := [(rd, .inr (6, rF r fa fb a2 a3 a4 a5 a6 a7)), (ta, .inl (cT, nb, .inl ft))]) [0, 1] (by decide) rfl
                    have hK9 := hK.sub (tys' := [(cT, .int)]) [0] rfl
                    exact W.iret hx hb hr (fun t ht hW => ⟨⟨_, (), rfl, by omega, fa, fb, by rw [ht]; exact hP9, va_K.moved hW.alike hK9, hD9⟩, hS.F ht⟩) hS.2.2 dX6_endOfPattern_229
                · have tk_357 := c_nlt (a := op.toInt) (b := 5) rfl (by decide) k_357
                  refine lv_aload_n hx hb dX6_endOfPattern_113 rfl (lv_at hl 5 rfl) ?_
                  refine lv_iconst (v := 4) hx hb dX6_endOfPattern_114 (by decide) ?_
                  refine lv_iload hx hb dX6_endOfPattern_115 (lv_at hl 1 rfl) ?_
                  have hPc := hP.sub (ws' := [(rd, .inr (6, rF r fa fb a2 a3 a4 a5 a6 a7))]) [0] rfl
                  have hKc := hK.sub (tys' := []) [] rfl
                  have hDc := hD.sub (ws' := [(rd, .inr (6, rF r fa fb a2 a3 a4 a5 a6 a7))]) [0] (by decide) rfl
                  have hFc := va_free (wc := [(rd, .inr (6, rF r fa fb a2 a3 a4 a5 a6 a7))]) hD hS hA [0] rfl
                  refine va_callv (va_runV (As := [.int 4, .int ax]) (rest := []) ⟨hx, hb, hml, hown, hts⟩ (s_fail l dC dI rd r fa fb a2 a3 a4 a5 a6 a7 H.size 4 ax) (cwV 2 hts mg_X6_endOfPattern_X6_fail_71 rfl rfl rfl (by decide +kernel) ⟨Nat.le_of_ble_eq_true rfl, Nat.le_of_ble_eq_true rfl⟩) ⟨fun a U g mk q => by obtain ⟨q0, q1, qP, qK, qD⟩ := q; exact ⟨q0, q1, qP, va_K.moved (u := U) (U := U.calling g mk a) (Vm.Alike.refl U.vm) qK, qD⟩, va_recv hKc hPc (ci := 6) (q0 := 0) rfl rfl, fun U hU hW => ⟨rfl, by rw [hU], by rw [hU]; exact hPc, va_K.moved hW.alike hKc, hDc.weaken (fun _ _ _ _ => trivial)⟩⟩ rfl rfl hl.1 rfl (lv_room (Nat.le_of_ble_eq_true rfl)) dX6_endOfPattern_117 ⟨Nat.le_of_ble_eq_true rfl, Nat.le_of_ble_eq_true rfl⟩) hS (fun q _ h => hFc q h) hFc (fun u t H1 locs ht hvm hw hB hz1 hk1 hS => ?_)
                  obtain ⟨hP1, hK1, hD1⟩ := hB
                  rw [ht] at hP1
                  obtain ⟨hP, hD⟩ := va_join (wr := [(ta, .inl (cT, nb, .inl ft))]) (w1 := [(rd, .inr (6, rF r 4 ax a2 a3 a4 a5 a6 a7))]) hP hD [0] [1] rfl rfl (by decide) (by decide) hk1 hFc hP1 hD1
                  generalize H1 = H at hP hS ⊢
                  have hP : va_P (dC, dI) vwCl [(ta, .inl (cT, nb, .inl ft)), (rd, .inr (6, rF r 4 ax a2 a3 a4 a5 a6 a7))] H := hP
                  have hD : va_D A [(ta, .inl (cT, nb, .inl ft)), (rd, .inr (6, rF r 4 ax a2 a3 a4 a5 a6 a7))] := hD
                  obtain ⟨y_364, ey_364⟩ : ∃ y : Int32, y = op + 1 := ⟨_, rfl⟩
                  first | have ty_364 := i_add (a := op.toInt) (b := 1) rfl (by decide) ey_364 (by omega) (by omega) | skip
                  refine lv_iinc (v := y_364) (lv' := [(5, .int y_364), (8, .int y_4), (7, .int ax), (6, .int sd), (4, .int sp), (0, .ref rd), (1, .ref ta), (2, .int i8), (3, .int i9)]) hx hb dX6_endOfPattern_120 hl (k := 3) rfl (by rw [ey_364]; rfl) (by decide) rfl (fun ls hl => ?_)
                  refine lv_iconst (v := 0) hx hb dX6_endOfPattern_123 (by decide) ?_
                  refine lv_istore (lv' := [(6, .int 0), (5, .int y_364), (8, .int y_4), (7, .int ax), (4, .int sp), (0, .ref rd), (1, .ref ta), (2, .int i8), (3, .int i9)]) hx hb dX6_endOfPattern_124 hl (by decide) rfl (fun ls hl => ?_)
                  refine lv_goto (tgt := 220) hx hb dX6_endOfPattern_126 (by decide) ?_
                  refine lv_aload_n hx hb dX6_endOfPattern_220 rfl (lv_at hl 5 rfl) ?_
                  refine va_get (D := (dC, dI)) (ci := 6) (v := .int 4) (C := RX6) (T := TX6) (N := 11) hx hb hts fin_X6_endOfPattern_X6 hown hK hP 1 rfl rfl 0 (by decide) (hts (.fieldLink RX6 22 "PatternGate$Reader" "faultKind" "I") (List.mem_of_getElem? (i := 2) (by decide +kernel))) (fun _ h9 => h9) rfl dX6_endOfPattern_221 ?_
                  refine lv_if_eq (tgt := 230) hx hb dX6_endOfPattern_224 (by decide) (fun k_365 => absurd k_365 (by decide)) (fun k_365 => ?_)
                  have tk_365 := c_ne (a := 4) (b := 0) (by decide) (by decide) k_365
                  refine lv_iload hx hb dX6_endOfPattern_227 (lv_at hl 3 rfl) ?_
                  have hP9 := hP.sub (ws' := [(rd, .inr (6, rF r 4 ax a2 a3 a4 a5 a6 a7)), (ta, .inl (cT, nb, .inl ft))]) [1, 0] rfl
                  have hD9 := hD.sub (ws' := [(rd, .inr (6, rF r 4 ax a2 a3 a4 a5 a6 a7)), (ta, .inl (cT, nb, .inl ft))]) [1, 0] (by decide) rfl
                  have hK9 := hK.sub (tys' := [(cT, .int)]) [0] rfl
                  exact W.iret hx hb hr (fun t ht hW => ⟨⟨_, (), rfl, by omega, 4, ax, by rw [ht]; exact hP9, va_K.moved hW.alike hK9, hD9⟩, hS.F ht⟩) hS.2.2 dX6_endOfPattern_229
            · have tk_61 := c_eq (a := y_4.toInt) (b := 91) rfl (by decide) k_61
              refine lv_iload hx hb dX6_endOfPattern_46 (lv_at hl 4 rfl) ?_
              refine lv_bipush (v := 24) hx hb dX6_endOfPattern_48 (by decide) ?_
              refine lv_icmp_lt (tgt := 60) hx hb dX6_endOfPattern_50 (by decide) (fun k_366 => ?_) (fun k_366 => ?_)
              · have tk_366 := c_lt (a := sp.toInt) (b := 24) rfl (by decide) k_366
                obtain ⟨y_367, ey_367⟩ : ∃ y : Int32, y = sp + 1 := ⟨_, rfl⟩
                first | have ty_367 := i_add (a := sp.toInt) (b := 1) rfl (by decide) ey_367 (by omega) (by omega) | skip
                refine lv_iinc (v := y_367) (lv' := [(4, .int y_367), (8, .int y_4), (7, .int ax), (6, .int sd), (5, .int op), (0, .ref rd), (1, .ref ta), (2, .int i8), (3, .int i9)]) hx hb dX6_endOfPattern_60 hl (k := 4) rfl (by rw [ey_367]; rfl) (by decide) rfl (fun ls hl => ?_)
                refine lv_iconst (v := 1) hx hb dX6_endOfPattern_63 (by decide) ?_
                refine lv_istore (lv' := [(6, .int 1), (4, .int y_367), (8, .int y_4), (7, .int ax), (5, .int op), (0, .ref rd), (1, .ref ta), (2, .int i8), (3, .int i9)]) hx hb dX6_endOfPattern_64 hl (by decide) rfl (fun ls hl => ?_)
                refine lv_iload hx hb dX6_endOfPattern_66 (lv_at hl 2 rfl) ?_
                refine lv_bipush (v := 91) hx hb dX6_endOfPattern_68 (by decide) ?_
                refine lv_icmp_ne (tgt := 220) hx hb dX6_endOfPattern_70 (by decide) (fun k_368 => ?_) (fun k_368 => ?_)
                · have tk_368 := c_ne (a := y_4.toInt) (b := 91) rfl (by decide) k_368
                  refine lv_aload_n hx hb dX6_endOfPattern_220 rfl (lv_at hl 5 rfl) ?_
                  refine va_get (D := (dC, dI)) (ci := 6) (v := .int fa) (C := RX6) (T := TX6) (N := 11) hx hb hts fin_X6_endOfPattern_X6 hown hK hP 0 rfl rfl 0 (by decide) (hts (.fieldLink RX6 22 "PatternGate$Reader" "faultKind" "I") (List.mem_of_getElem? (i := 2) (by decide +kernel))) (fun _ h9 => h9) rfl dX6_endOfPattern_221 ?_
                  refine lv_if_eq (tgt := 230) hx hb dX6_endOfPattern_224 (by decide) (fun k_369 => ?_) (fun k_369 => ?_)
                  · have tk_369 := c_eq (a := fa.toInt) (b := 0) rfl (by decide) k_369
                    obtain ⟨y_370, ey_370⟩ : ∃ y : Int32, y = ax + 1 := ⟨_, rfl⟩
                    first | have ty_370 := i_add (a := ax.toInt) (b := 1) rfl (by decide) ey_370 (by omega) (by omega) | skip
                    refine lv_iinc (v := y_370) (lv' := [(7, .int y_370), (6, .int 1), (4, .int y_367), (8, .int y_4), (5, .int op), (0, .ref rd), (1, .ref ta), (2, .int i8), (3, .int i9)]) hx hb dX6_endOfPattern_230 hl (k := 3) rfl (by rw [ey_370]; rfl) (by decide) rfl (fun ls hl => ?_)
                    refine lv_goto (tgt := 12) hx hb dX6_endOfPattern_233 (by decide) ?_
                    have lit_370 : (1 : Int32).toInt = 1 := by decide
                    exact ih12 y_367 op 1 y_370 fa fb (by first | omega | decide | assumption) (by first | omega | decide | assumption) (by omega) _ _ ls hP hD hS (lv_sub hl [0, 1, 4, 2, 5, 6, 7, 8] rfl)
                  · have tk_369 := c_ne (a := fa.toInt) (b := 0) rfl (by decide) k_369
                    refine lv_iload hx hb dX6_endOfPattern_227 (lv_at hl 3 rfl) ?_
                    have hP9 := hP.sub (ws' := [(rd, .inr (6, rF r fa fb a2 a3 a4 a5 a6 a7)), (ta, .inl (cT, nb, .inl ft))]) [0, 1] rfl
                    have hD9 := hD.sub (ws' := [(rd, .inr (6, rF r fa fb a2 a3 a4 a5 a6 a7)), (ta, .inl (cT, nb, .inl ft))]) [0, 1] (by decide) rfl
                    have hK9 := hK.sub (tys' := [(cT, .int)]) [0] rfl
                    exact W.iret hx hb hr (fun t ht hW => ⟨⟨_, (), rfl, by omega, fa, fb, by rw [ht]; exact hP9, va_K.moved hW.alike hK9, hD9⟩, hS.F ht⟩) hS.2.2 dX6_endOfPattern_229
                · have tk_368 := c_eq (a := y_4.toInt) (b := 91) rfl (by decide) k_368
                  refine lv_aload_n hx hb dX6_endOfPattern_73 rfl (lv_at hl 5 rfl) ?_
                  refine va_get (D := (dC, dI)) (ci := 6) (v := .int fa) (C := RX6) (T := TX6) (N := 11) hx hb hts fin_X6_endOfPattern_X6 hown hK hP 0 rfl rfl 0 (by decide) (hts (.fieldLink RX6 22 "PatternGate$Reader" "faultKind" "I") (List.mem_of_getElem? (i := 2) (by decide +kernel))) (fun _ h9 => h9) rfl dX6_endOfPattern_74 ?_
                  refine lv_if_ne (tgt := 220) hx hb dX6_endOfPattern_77 (by decide) (fun k_372 => ?_) (fun k_372 => ?_)
                  · have tk_372 := c_ne (a := fa.toInt) (b := 0) rfl (by decide) k_372
                    refine lv_aload_n hx hb dX6_endOfPattern_220 rfl (lv_at hl 5 rfl) ?_
                    refine va_get (D := (dC, dI)) (ci := 6) (v := .int fa) (C := RX6) (T := TX6) (N := 11) hx hb hts fin_X6_endOfPattern_X6 hown hK hP 0 rfl rfl 0 (by decide) (hts (.fieldLink RX6 22 "PatternGate$Reader" "faultKind" "I") (List.mem_of_getElem? (i := 2) (by decide +kernel))) (fun _ h9 => h9) rfl dX6_endOfPattern_221 ?_
                    refine lv_if_eq (tgt := 230) hx hb dX6_endOfPattern_224 (by decide) (fun k_373 => ?_) (fun k_373 => ?_)
                    · have tk_373 := c_eq (a := fa.toInt) (b := 0) rfl (by decide) k_373
                      obtain ⟨y_374, ey_374⟩ : ∃ y : Int32, y = ax + 1 := ⟨_, rfl⟩
                      first | have ty_374 := i_add (a := ax.toInt) (b := 1) rfl (by decide) ey_374 (by omega) (by omega) | skip
                      refine lv_iinc (v := y_374) (lv' := [(7, .int y_374), (6, .int 1), (4, .int y_367), (8, .int y_4), (5, .int op), (0, .ref rd), (1, .ref ta), (2, .int i8), (3, .int i9)]) hx hb dX6_endOfPattern_230 hl (k := 3) rfl (by rw [ey_374]; rfl) (by decide) rfl (fun ls hl => ?_)
                      refine lv_goto (tgt := 12) hx hb dX6_endOfPattern_233 (by decide) ?_
                      have lit_374 : (1 : Int32).toInt = 1 := by decide
                      exact ih12 y_367 op 1 y_374 fa fb (by first | omega | decide | assumption) (by first | omega | decide | assumption) (by omega) _ _ ls hP hD hS (lv_sub hl [0, 1, 4, 2, 5, 6, 7, 8] rfl)
                    · have tk_373 := c_ne (a := fa.toInt) (b := 0) rfl (by decide) k_373
                      refine lv_iload hx hb dX6_endOfPattern_227 (lv_at hl 3 rfl) ?_
                      have hP9 := hP.sub (ws' := [(rd, .inr (6, rF r fa fb a2 a3 a4 a5 a6 a7)), (ta, .inl (cT, nb, .inl ft))]) [0, 1] rfl
                      have hD9 := hD.sub (ws' := [(rd, .inr (6, rF r fa fb a2 a3 a4 a5 a6 a7)), (ta, .inl (cT, nb, .inl ft))]) [0, 1] (by decide) rfl
                      have hK9 := hK.sub (tys' := [(cT, .int)]) [0] rfl
                      exact W.iret hx hb hr (fun t ht hW => ⟨⟨_, (), rfl, by omega, fa, fb, by rw [ht]; exact hP9, va_K.moved hW.alike hK9, hD9⟩, hS.F ht⟩) hS.2.2 dX6_endOfPattern_229
                  · have tk_372 := c_eq (a := fa.toInt) (b := 0) rfl (by decide) k_372
                    refine lv_iload hx hb dX6_endOfPattern_80 (lv_at hl 3 rfl) ?_
                    refine lv_aload_n hx hb dX6_endOfPattern_82 rfl (lv_at hl 5 rfl) ?_
                    refine lv_aload_n hx hb dX6_endOfPattern_83 rfl (lv_at hl 6 rfl) ?_
                    refine lv_iload hx hb dX6_endOfPattern_84 (lv_at hl 3 rfl) ?_
                    refine lv_iconst (v := 1) hx hb dX6_endOfPattern_86 (by decide) ?_
                    refine lv_iadd hx hb dX6_endOfPattern_87 ?_
                    refine lv_topi (fun y_376 ey_376 => ?_)
                    first | have ty_376 := i_add (a := ax.toInt) (b := 1) rfl (by decide) ey_376 (by omega) (by omega) | skip
                    refine lv_iload_n hx hb dX6_endOfPattern_88 rfl (lv_at hl 8 rfl) ?_
                    have hPc := hP.sub (ws' := [(rd, .inr (6, rF r fa fb a2 a3 a4 a5 a6 a7)), (ta, .inl (cT, nb, .inl ft))]) [0, 1] rfl
                    have hKc := hK.sub (tys' := [(cT, .int)]) [0] rfl
                    have hDc := hD.sub (ws' := [(rd, .inr (6, rF r fa fb a2 a3 a4 a5 a6 a7)), (ta, .inl (cT, nb, .inl ft))]) [0, 1] (by decide) rfl
                    have hFc := va_free (wc := [(rd, .inr (6, rF r fa fb a2 a3 a4 a5 a6 a7)), (ta, .inl (cT, nb, .inl ft))]) hD hS hA [0, 1] rfl
                    refine va_calli (va_runV (As := [.ref ta, .int y_376, .int i9]) (rest := [.int ax]) ⟨hx, hb, hml, hown, hts⟩ (s_endOfSet l dC dI rd r fa fb a2 a3 a4 a5 a6 a7 ta nb cT ft H.size y_376 i9 (by first | omega | decide | (have l0 := Int32.toInt_zero; omega)) (by first | omega | decide | (have l0 := Int32.toInt_zero; omega)) (by first | omega | decide | (have l0 := Int32.toInt_zero; omega)) (by first | omega | decide | (have l0 := Int32.toInt_zero; omega))) (cwV 3 hts mg_X6_endOfPattern_X6_endOfSet_99 rfl rfl rfl (by decide +kernel) ⟨Nat.le_of_ble_eq_true rfl, Nat.le_of_ble_eq_true rfl⟩) ⟨fun a U g mk q => by obtain ⟨q0, q1, qP, qK, qD, qE0⟩ := q; exact ⟨q0, q1, qP, va_K.moved (u := U) (U := U.calling g mk a) (Vm.Alike.refl U.vm) qK, qD, va_Nw.same rfl (rfl : U.vm = (U.calling g mk a).vm) qE0⟩, va_recv hKc hPc (ci := 6) (q0 := 0) rfl rfl, fun U hU hW => ⟨rfl, by rw [hU], by rw [hU]; exact hPc, va_K.moved hW.alike hKc, hDc.weaken (fun _ _ _ _ => trivial), va_Nw.warmM hW hN53⟩⟩ rfl rfl hl.1 rfl (lv_room (Nat.le_of_ble_eq_true rfl)) dX6_endOfPattern_89 ⟨Nat.le_of_ble_eq_true rfl, Nat.le_of_ble_eq_true rfl⟩) hS (fun q _ h => hFc q h) hFc (fun r_378 u t H1 locs ht hvm hw hB hz1 hk1 hS => ?_)
                    obtain ⟨y_379, y_380, hP1, hK1, hD1⟩ := hB
                    rw [ht] at hP1
                    have hr_378 := hw
                    have rg_r_378 := i_rng r_378
                    obtain ⟨hP, hD⟩ := va_join (wr := []) (w1 := [(rd, .inr (6, rF r y_379 y_380 a2 a3 a4 a5 a6 a7)), (ta, .inl (cT, nb, .inl ft))]) hP hD [0, 1] [] rfl rfl (by decide) (by decide) hk1 hFc hP1 hD1
                    generalize H1 = H at hP hS ⊢
                    have hP : va_P (dC, dI) vwCl [(rd, .inr (6, rF r y_379 y_380 a2 a3 a4 a5 a6 a7)), (ta, .inl (cT, nb, .inl ft))] H := hP
                    have hD : va_D A [(rd, .inr (6, rF r y_379 y_380 a2 a3 a4 a5 a6 a7)), (ta, .inl (cT, nb, .inl ft))] := hD
                    refine va_mmax hx hb (hml.trans hl.1.symm) hown (hts (.methodLink RX6 61 Lib.Math.max.name) (List.mem_of_getElem? (i := 15) (by decide +kernel))) (hts (.static Lib.Math.max.name) (List.mem_of_getElem? (i := 16) (by decide +kernel))) (hts (.initialized "java/lang/Math") (List.mem_of_getElem? (i := 17) (by decide +kernel))) (hts (.code Lib.Math.max.name Lib.Math.max.code 2 (some .int)) (List.mem_of_getElem? (i := 18) (by decide +kernel))) (Nat.le_of_ble_eq_true rfl) (Nat.le_of_ble_eq_true rfl) (Nat.le_of_ble_eq_true rfl) (Nat.le_of_ble_eq_true rfl) dX6_endOfPattern_92 ?_
                    refine lv_topi (fun y_381 ey_381 => ?_)
                    have ty_381 := i_max (a := ax.toInt) (b := r_378.toInt) rfl rfl ey_381
                    refine lv_istore (lv' := [(7, .int y_381), (6, .int 1), (4, .int y_367), (8, .int y_4), (5, .int op), (0, .ref rd), (1, .ref ta), (2, .int i8), (3, .int i9)]) hx hb dX6_endOfPattern_95 hl (by decide) rfl (fun ls hl => ?_)
                    refine lv_goto (tgt := 220) hx hb dX6_endOfPattern_97 (by decide) ?_
                    refine lv_aload_n hx hb dX6_endOfPattern_220 rfl (lv_at hl 5 rfl) ?_
                    refine va_get (D := (dC, dI)) (ci := 6) (v := .int y_379) (C := RX6) (T := TX6) (N := 11) hx hb hts fin_X6_endOfPattern_X6 hown hK hP 0 rfl rfl 0 (by decide) (hts (.fieldLink RX6 22 "PatternGate$Reader" "faultKind" "I") (List.mem_of_getElem? (i := 2) (by decide +kernel))) (fun _ h9 => h9) rfl dX6_endOfPattern_221 ?_
                    refine lv_if_eq (tgt := 230) hx hb dX6_endOfPattern_224 (by decide) (fun k_382 => ?_) (fun k_382 => ?_)
                    · have tk_382 := c_eq (a := y_379.toInt) (b := 0) rfl (by decide) k_382
                      obtain ⟨y_383, ey_383⟩ : ∃ y : Int32, y = y_381 + 1 := ⟨_, rfl⟩
                      first | have ty_383 := i_add (a := y_381.toInt) (b := 1) rfl (by decide) ey_383 (by omega) (by omega) | skip
                      refine lv_iinc (v := y_383) (lv' := [(7, .int y_383), (6, .int 1), (4, .int y_367), (8, .int y_4), (5, .int op), (0, .ref rd), (1, .ref ta), (2, .int i8), (3, .int i9)]) hx hb dX6_endOfPattern_230 hl (k := 0) rfl (by rw [ey_383]; rfl) (by decide) rfl (fun ls hl => ?_)
                      refine lv_goto (tgt := 12) hx hb dX6_endOfPattern_233 (by decide) ?_
                      have lit_383 : (1 : Int32).toInt = 1 := by decide
                      exact ih12 y_367 op 1 y_383 y_379 y_380 (by first | omega | decide | assumption) (by first | omega | decide | assumption) (by omega) _ _ ls hP hD hS (lv_sub hl [0, 1, 4, 2, 5, 6, 7, 8] rfl)
                    · have tk_382 := c_ne (a := y_379.toInt) (b := 0) rfl (by decide) k_382
                      refine lv_iload hx hb dX6_endOfPattern_227 (lv_at hl 0 rfl) ?_
                      have hP9 := hP.sub (ws' := [(rd, .inr (6, rF r y_379 y_380 a2 a3 a4 a5 a6 a7)), (ta, .inl (cT, nb, .inl ft))]) [0, 1] rfl
                      have hD9 := hD.sub (ws' := [(rd, .inr (6, rF r y_379 y_380 a2 a3 a4 a5 a6 a7)), (ta, .inl (cT, nb, .inl ft))]) [0, 1] (by decide) rfl
                      have hK9 := hK.sub (tys' := [(cT, .int)]) [0] rfl
                      exact W.iret hx hb hr (fun t ht hW => ⟨⟨_, (), rfl, by omega, y_379, y_380, by rw [ht]; exact hP9, va_K.moved hW.alike hK9, hD9⟩, hS.F ht⟩) hS.2.2 dX6_endOfPattern_229
              · have tk_366 := c_nlt (a := sp.toInt) (b := 24) rfl (by decide) k_366
                refine lv_aload_n hx hb dX6_endOfPattern_53 rfl (lv_at hl 5 rfl) ?_
                refine lv_iconst (v := 4) hx hb dX6_endOfPattern_54 (by decide) ?_
                refine lv_iload hx hb dX6_endOfPattern_55 (lv_at hl 1 rfl) ?_
                have hPc := hP.sub (ws' := [(rd, .inr (6, rF r fa fb a2 a3 a4 a5 a6 a7))]) [0] rfl
                have hKc := hK.sub (tys' := []) [] rfl
                have hDc := hD.sub (ws' := [(rd, .inr (6, rF r fa fb a2 a3 a4 a5 a6 a7))]) [0] (by decide) rfl
                have hFc := va_free (wc := [(rd, .inr (6, rF r fa fb a2 a3 a4 a5 a6 a7))]) hD hS hA [0] rfl
                refine va_callv (va_runV (As := [.int 4, .int ax]) (rest := []) ⟨hx, hb, hml, hown, hts⟩ (s_fail l dC dI rd r fa fb a2 a3 a4 a5 a6 a7 H.size 4 ax) (cwV 2 hts mg_X6_endOfPattern_X6_fail_71 rfl rfl rfl (by decide +kernel) ⟨Nat.le_of_ble_eq_true rfl, Nat.le_of_ble_eq_true rfl⟩) ⟨fun a U g mk q => by obtain ⟨q0, q1, qP, qK, qD⟩ := q; exact ⟨q0, q1, qP, va_K.moved (u := U) (U := U.calling g mk a) (Vm.Alike.refl U.vm) qK, qD⟩, va_recv hKc hPc (ci := 6) (q0 := 0) rfl rfl, fun U hU hW => ⟨rfl, by rw [hU], by rw [hU]; exact hPc, va_K.moved hW.alike hKc, hDc.weaken (fun _ _ _ _ => trivial)⟩⟩ rfl rfl hl.1 rfl (lv_room (Nat.le_of_ble_eq_true rfl)) dX6_endOfPattern_57 ⟨Nat.le_of_ble_eq_true rfl, Nat.le_of_ble_eq_true rfl⟩) hS (fun q _ h => hFc q h) hFc (fun u t H1 locs ht hvm hw hB hz1 hk1 hS => ?_)
                obtain ⟨hP1, hK1, hD1⟩ := hB
                rw [ht] at hP1
                obtain ⟨hP, hD⟩ := va_join (wr := [(ta, .inl (cT, nb, .inl ft))]) (w1 := [(rd, .inr (6, rF r 4 ax a2 a3 a4 a5 a6 a7))]) hP hD [0] [1] rfl rfl (by decide) (by decide) hk1 hFc hP1 hD1
                generalize H1 = H at hP hS ⊢
                have hP : va_P (dC, dI) vwCl [(ta, .inl (cT, nb, .inl ft)), (rd, .inr (6, rF r 4 ax a2 a3 a4 a5 a6 a7))] H := hP
                have hD : va_D A [(ta, .inl (cT, nb, .inl ft)), (rd, .inr (6, rF r 4 ax a2 a3 a4 a5 a6 a7))] := hD
                obtain ⟨y_387, ey_387⟩ : ∃ y : Int32, y = sp + 1 := ⟨_, rfl⟩
                first | have ty_387 := i_add (a := sp.toInt) (b := 1) rfl (by decide) ey_387 (by omega) (by omega) | skip
                refine lv_iinc (v := y_387) (lv' := [(4, .int y_387), (8, .int y_4), (7, .int ax), (6, .int sd), (5, .int op), (0, .ref rd), (1, .ref ta), (2, .int i8), (3, .int i9)]) hx hb dX6_endOfPattern_60 hl (k := 4) rfl (by rw [ey_387]; rfl) (by decide) rfl (fun ls hl => ?_)
                refine lv_iconst (v := 1) hx hb dX6_endOfPattern_63 (by decide) ?_
                refine lv_istore (lv' := [(6, .int 1), (4, .int y_387), (8, .int y_4), (7, .int ax), (5, .int op), (0, .ref rd), (1, .ref ta), (2, .int i8), (3, .int i9)]) hx hb dX6_endOfPattern_64 hl (by decide) rfl (fun ls hl => ?_)
                refine lv_iload hx hb dX6_endOfPattern_66 (lv_at hl 2 rfl) ?_
                refine lv_bipush (v := 91) hx hb dX6_endOfPattern_68 (by decide) ?_
                refine lv_icmp_ne (tgt := 220) hx hb dX6_endOfPattern_70 (by decide) (fun k_388 => ?_) (fun k_388 => ?_)
                · have tk_388 := c_ne (a := y_4.toInt) (b := 91) rfl (by decide) k_388
                  refine lv_aload_n hx hb dX6_endOfPattern_220 rfl (lv_at hl 5 rfl) ?_
                  refine va_get (D := (dC, dI)) (ci := 6) (v := .int 4) (C := RX6) (T := TX6) (N := 11) hx hb hts fin_X6_endOfPattern_X6 hown hK hP 1 rfl rfl 0 (by decide) (hts (.fieldLink RX6 22 "PatternGate$Reader" "faultKind" "I") (List.mem_of_getElem? (i := 2) (by decide +kernel))) (fun _ h9 => h9) rfl dX6_endOfPattern_221 ?_
                  refine lv_if_eq (tgt := 230) hx hb dX6_endOfPattern_224 (by decide) (fun k_389 => absurd k_389 (by decide)) (fun k_389 => ?_)
                  have tk_389 := c_ne (a := 4) (b := 0) (by decide) (by decide) k_389
                  refine lv_iload hx hb dX6_endOfPattern_227 (lv_at hl 3 rfl) ?_
                  have hP9 := hP.sub (ws' := [(rd, .inr (6, rF r 4 ax a2 a3 a4 a5 a6 a7)), (ta, .inl (cT, nb, .inl ft))]) [1, 0] rfl
                  have hD9 := hD.sub (ws' := [(rd, .inr (6, rF r 4 ax a2 a3 a4 a5 a6 a7)), (ta, .inl (cT, nb, .inl ft))]) [1, 0] (by decide) rfl
                  have hK9 := hK.sub (tys' := [(cT, .int)]) [0] rfl
                  exact W.iret hx hb hr (fun t ht hW => ⟨⟨_, (), rfl, by omega, 4, ax, by rw [ht]; exact hP9, va_K.moved hW.alike hK9, hD9⟩, hS.F ht⟩) hS.2.2 dX6_endOfPattern_229
                · have tk_388 := c_eq (a := y_4.toInt) (b := 91) rfl (by decide) k_388
                  refine lv_aload_n hx hb dX6_endOfPattern_73 rfl (lv_at hl 5 rfl) ?_
                  refine va_get (D := (dC, dI)) (ci := 6) (v := .int 4) (C := RX6) (T := TX6) (N := 11) hx hb hts fin_X6_endOfPattern_X6 hown hK hP 1 rfl rfl 0 (by decide) (hts (.fieldLink RX6 22 "PatternGate$Reader" "faultKind" "I") (List.mem_of_getElem? (i := 2) (by decide +kernel))) (fun _ h9 => h9) rfl dX6_endOfPattern_74 ?_
                  refine lv_if_ne (tgt := 220) hx hb dX6_endOfPattern_77 (by decide) (fun k_390 => ?_) (fun k_390 => absurd k_390 (by decide))
                  have tk_390 := c_ne (a := 4) (b := 0) (by decide) (by decide) k_390
                  refine lv_aload_n hx hb dX6_endOfPattern_220 rfl (lv_at hl 5 rfl) ?_
                  refine va_get (D := (dC, dI)) (ci := 6) (v := .int 4) (C := RX6) (T := TX6) (N := 11) hx hb hts fin_X6_endOfPattern_X6 hown hK hP 1 rfl rfl 0 (by decide) (hts (.fieldLink RX6 22 "PatternGate$Reader" "faultKind" "I") (List.mem_of_getElem? (i := 2) (by decide +kernel))) (fun _ h9 => h9) rfl dX6_endOfPattern_221 ?_
                  refine lv_if_eq (tgt := 230) hx hb dX6_endOfPattern_224 (by decide) (fun k_391 => absurd k_391 (by decide)) (fun k_391 => ?_)
                  have tk_391 := c_ne (a := 4) (b := 0) (by decide) (by decide) k_391
                  refine lv_iload hx hb dX6_endOfPattern_227 (lv_at hl 3 rfl) ?_
                  have hP9 := hP.sub (ws' := [(rd, .inr (6, rF r 4 ax a2 a3 a4 a5 a6 a7)), (ta, .inl (cT, nb, .inl ft))]) [1, 0] rfl
                  have hD9 := hD.sub (ws' := [(rd, .inr (6, rF r 4 ax a2 a3 a4 a5 a6 a7)), (ta, .inl (cT, nb, .inl ft))]) [1, 0] (by decide) rfl
                  have hK9 := hK.sub (tys' := [(cT, .int)]) [0] rfl
                  exact W.iret hx hb hr (fun t ht hW => ⟨⟨_, (), rfl, by omega, 4, ax, by rw [ht]; exact hP9, va_K.moved hW.alike hK9, hD9⟩, hS.F ht⟩) hS.2.2 dX6_endOfPattern_229
  have lit_391 : (0 : Int32).toInt = 0 := by decide
  have lit_392 : (0 : Int32).toInt = 0 := by decide
  have lit_393 : (0 : Int32).toInt = 0 := by decide
  exact loop12 _ 0 0 0 i8 a0 a1 (by first | omega | decide | assumption) (by first | omega | decide | assumption) (Nat.lt_succ_self _) _ _ ls hP hD hS (lv_sub hl [0, 1, 2, 3, 4, 5, 6, 7] rfl)
theorem dX6_readSemicolon_0 : decode cX6_readSemicolon 0 = .ok (.aload_n 0, 1) := by decide +kernel
theorem dX6_readSemicolon_1 : decode cX6_readSemicolon 1 = .ok (.getfield 44, 3) := by decide +kernel
theorem dX6_readSemicolon_4 : decode cX6_readSemicolon 4 = .ok (.iconst 3, 1) := by decide +kernel
theorem dX6_readSemicolon_5 : decode cX6_readSemicolon 5 = .ok (.if_icmp .eq 9, 3) := by decide +kernel
theorem dX6_readSemicolon_8 : decode cX6_readSemicolon 8 = .ok (.aload_n 0, 1) := by decide +kernel
theorem dX6_readSemicolon_9 : decode cX6_readSemicolon 9 = .ok (.iconst 2, 1) := by decide +kernel
theorem dX6_readSemicolon_10 : decode cX6_readSemicolon 10 = .ok (.iload_n 1, 1) := by decide +kernel
theorem dX6_readSemicolon_11 : decode cX6_readSemicolon 11 = .ok (.invokevirtual 71, 3) := by decide +kernel
theorem dX6_readSemicolon_14 : decode cX6_readSemicolon 14 = .ok (.aload_n 0, 1) := by decide +kernel
theorem dX6_readSemicolon_15 : decode cX6_readSemicolon 15 = .ok (.iconst 0, 1) := by decide +kernel
theorem dX6_readSemicolon_16 : decode cX6_readSemicolon 16 = .ok (.putfield 44, 3) := by decide +kernel
theorem dX6_readSemicolon_19 : decode cX6_readSemicolon 19 = .ok (.return_, 1) := by decide +kernel
def mwX6_readSemicolon : List Cond := .code yX6_readSemicolon cX6_readSemicolon 2 none :: ([.fieldLink RX6 44 "PatternGate$Reader" "wanted" "I", .code yX6_fail cX6_fail 3 none, .fieldLink RX6 22 "PatternGate$Reader" "faultKind" "I", .fieldLink RX6 26 "PatternGate$Reader" "faultPlace" "I", .methodLink RX6 71 yX6_fail, .instanceMethod yX6_fail, .selects RX6 yX6_fail yX6_fail, .initialized RX6] ++ wsX60)
theorem fin_X6_readSemicolon_X6 : ∀ w ∈ wsX60, w ∈ mwX6_readSemicolon := fun w h => List.mem_cons_of_mem _ (List.mem_append_right _ h)
set_option maxRecDepth 20000 in
theorem mg_X6_readSemicolon_X6_fail_71 : GoodIn mwX6_readSemicolon (wsV RX6 71 RX6 yX6_fail mwX6_fail) := goodIn_r _ [5, 6, 7, 8, 2, 3, 4, 9, 10, 11, 12, 13, 14, 15, 16, 17, 18, 19] (by decide +kernel) (by decide +kernel)
set_option maxHeartbeats 4000000 in
set_option maxRecDepth 100000 in
/-- Reader.readSemicolon -/
theorem s_readSemicolon (l : Launch) (dC : Nat → ClassId) (dI : Nat → Nat → Nat) (rd : Nat) (r : Nat → Nat) (a0 a1 a2 a3 a4 a5 a6 a7 : Int32) (sz : Nat) (i9 : Int32) : Met l yX6_readSemicolon mwX6_readSemicolon ({ frames := 1, cells := 0, slots := 0, locals := 60 }) (va_Pc [.ref rd, .int i9] (fun U => U.heap.size = sz ∧ va_P (dC, dI) vwCl ([(rd, .inr (6, rF r a0 a1 a2 a3 a4 a5 a6 a7))]) U.heap ∧ va_K (dC, dI) vwCl ([]) U ∧ va_D (fun _ => True) ([(rd, .inr (6, rF r a0 a1 a2 a3 a4 a5 a6 a7))]))) (va_Qv (fun (_ : Unit) => True) (fun _ t => ∃ y0 y1 : Int32, va_P (dC, dI) vwCl [(rd, .inr (6, rF r y0 y1 a2 a3 a4 a5 a6 0))] t.heap ∧ va_K (dC, dI) vwCl [] t ∧ va_D (va_A ([(rd, .inr (6, rF r a0 a1 a2 a3 a4 a5 a6 a7))]) sz) [(rd, .inr (6, rF r y0 y1 a2 a3 a4 a5 a6 0))]) (va_A ([(rd, .inr (6, rF r a0 a1 a2 a3 a4 a5 a6 a7))]) sz)) 0 0 (va_A ([(rd, .inr (6, rF r a0 a1 a2 a3 a4 a5 a6 a7))]) sz) := by
  refine Met.ofW (cc := cX6_readSemicolon) (maxL := 2) (ret := none) (by decide +kernel) rfl ?_
  intro p e s m args below meth c s₁ B hml hv
  obtain ⟨rfl, hsz, hP, hK, hD0⟩ := hv
  have hx := B.exec
  have hb := B.bytes
  have hr := B.returns
  have hts := atoms_spec (ws := mwX6_readSemicolon) B.pre
  have hown : s.vm.findClass RX6 = some m.cls := findClass_of_methodNamed B.named
  have hlocks := B.notSynchronized
  subst hsz
  have hD := hD0.self (sz := s.heap.size)
  generalize hAe : va_A ([(rd, .inr (6, rF r a0 a1 a2 a3 a4 a5 a6 a7))]) s.heap.size = A at hD ⊢
  have hA : ∀ q : Nat, s.heap.size ≤ q → A q := fun q h => by rw [← hAe]; exact Or.inr h
  have hP : va_P (dC, dI) vwCl [(rd, .inr (6, rF r a0 a1 a2 a3 a4 a5 a6 a7))] s.heap := hP
  have hD : va_D A [(rd, .inr (6, rF r a0 a1 a2 a3 a4 a5 a6 a7))] := hD
  have hK : va_K (dC, dI) vwCl [] s := hK
  generalize hH : s.heap = H at hP ⊢
  have hS : va_S A s.heap H [] := by rw [← hH]; exact va_S.rf
  have hl := lv_entry ([.ref rd, .int i9]) (n := 2) (Nat.le_of_ble_eq_true rfl)
  rw [lg_entry_eq]
  generalize (lg_sl ([.ref rd, .int i9]) ++ List.replicate (2 - (lg_sl ([.ref rd, .int i9])).length) Slot.unset).toArray = ls at hl ⊢
  have hl : lv_has ls 2 [(0, .ref rd), (1, .int i9)] := hl
  have rg_i9 := i_rng i9
  refine lv_aload_n hx hb dX6_readSemicolon_0 rfl (lv_at hl 0 rfl) ?_
  refine va_get (D := (dC, dI)) (ci := 6) (v := .int a7) (C := RX6) (T := TX6) (N := 11) hx hb hts fin_X6_readSemicolon_X6 hown hK hP 0 rfl rfl 10 (by decide) (hts (.fieldLink RX6 44 "PatternGate$Reader" "wanted" "I") (List.mem_of_getElem? (i := 1) (by decide +kernel))) (fun _ h9 => h9) rfl dX6_readSemicolon_1 ?_
  refine lv_iconst (v := 3) hx hb dX6_readSemicolon_4 (by decide) ?_
  refine lv_icmp_eq (tgt := 14) hx hb dX6_readSemicolon_5 (by decide) (fun k_1 => ?_) (fun k_1 => ?_)
  · have tk_1 := c_eq (a := a7.toInt) (b := 3) rfl (by decide) k_1
    refine lv_aload_n hx hb dX6_readSemicolon_14 rfl (lv_at hl 0 rfl) ?_
    refine lv_iconst (v := 0) hx hb dX6_readSemicolon_15 (by decide) ?_
    refine va_put (D := (dC, dI)) (ci := 6) (v := .int 0) (ty := .int) (C := RX6) (T := TX6) (N := 11) hx hb hts fin_X6_readSemicolon_X6 tyX6 tyX6_ok nmX6 hown hK hP hD hS 0 rfl rfl 10 (by decide) (hts (.fieldLink RX6 44 "PatternGate$Reader" "wanted" "I") (List.mem_of_getElem? (i := 1) (by decide +kernel))) (fun _ h9 => h9) rfl (by decide +kernel) rfl rfl (Nat.le_of_ble_eq_true rfl) dX6_readSemicolon_16 (fun H locs hP hD hS => ?_)
    have hP : va_P (dC, dI) vwCl [(rd, .inr (6, rF r a0 a1 a2 a3 a4 a5 a6 0))] H := hP
    have hD : va_D A [(rd, .inr (6, rF r a0 a1 a2 a3 a4 a5 a6 0))] := hD
    have hP9 := hP.sub (ws' := [(rd, .inr (6, rF r a0 a1 a2 a3 a4 a5 a6 0))]) [0] rfl
    have hD9 := hD.sub (ws' := [(rd, .inr (6, rF r a0 a1 a2 a3 a4 a5 a6 0))]) [0] (by decide) rfl
    have hK9 := hK.sub (tys' := []) [] rfl
    exact W.vret hx hb hr (fun t ht hW => ⟨⟨(), rfl, trivial, a0, a1, by rw [ht]; exact hP9, va_K.moved hW.alike hK9, hD9⟩, hS.F ht⟩) hS.2.2 dX6_readSemicolon_19
  · have tk_1 := c_ne (a := a7.toInt) (b := 3) rfl (by decide) k_1
    refine lv_aload_n hx hb dX6_readSemicolon_8 rfl (lv_at hl 0 rfl) ?_
    refine lv_iconst (v := 2) hx hb dX6_readSemicolon_9 (by decide) ?_
    refine lv_iload_n hx hb dX6_readSemicolon_10 rfl (lv_at hl 1 rfl) ?_
    have hPc := hP.sub (ws' := [(rd, .inr (6, rF r a0 a1 a2 a3 a4 a5 a6 a7))]) [0] rfl
    have hKc := hK.sub (tys' := []) [] rfl
    have hDc := hD.sub (ws' := [(rd, .inr (6, rF r a0 a1 a2 a3 a4 a5 a6 a7))]) [0] (by decide) rfl
    have hFc := va_free (wc := [(rd, .inr (6, rF r a0 a1 a2 a3 a4 a5 a6 a7))]) hD hS hA [0] rfl
    refine va_callv (va_runV (As := [.int 2, .int i9]) (rest := []) ⟨hx, hb, hml, hown, hts⟩ (s_fail l dC dI rd r a0 a1 a2 a3 a4 a5 a6 a7 H.size 2 i9) (cwV 2 hts mg_X6_readSemicolon_X6_fail_71 rfl rfl rfl (by decide +kernel) ⟨Nat.le_of_ble_eq_true rfl, Nat.le_of_ble_eq_true rfl⟩) ⟨fun a U g mk q => by obtain ⟨q0, q1, qP, qK, qD⟩ := q; exact ⟨q0, q1, qP, va_K.moved (u := U) (U := U.calling g mk a) (Vm.Alike.refl U.vm) qK, qD⟩, va_recv hKc hPc (ci := 6) (q0 := 0) rfl rfl, fun U hU hW => ⟨rfl, by rw [hU], by rw [hU]; exact hPc, va_K.moved hW.alike hKc, hDc.weaken (fun _ _ _ _ => trivial)⟩⟩ rfl rfl hl.1 rfl (lv_room (Nat.le_of_ble_eq_true rfl)) dX6_readSemicolon_11 ⟨Nat.le_of_ble_eq_true rfl, Nat.le_of_ble_eq_true rfl⟩) hS (fun q _ h => hFc q h) hFc (fun u t H1 locs ht hvm hw hB hz1 hk1 hS => ?_)
    obtain ⟨hP1, hK1, hD1⟩ := hB
    rw [ht] at hP1
    obtain ⟨hP, hD⟩ := va_join (wr := []) (w1 := [(rd, .inr (6, rF r 2 i9 a2 a3 a4 a5 a6 a7))]) hP hD [0] [] rfl rfl (by decide) (by decide) hk1 hFc hP1 hD1
    generalize H1 = H at hP hS ⊢
    have hP : va_P (dC, dI) vwCl [(rd, .inr (6, rF r 2 i9 a2 a3 a4 a5 a6 a7))] H := hP
    have hD : va_D A [(rd, .inr (6, rF r 2 i9 a2 a3 a4 a5 a6 a7))] := hD
    refine lv_aload_n hx hb dX6_readSemicolon_14 rfl (lv_at hl 0 rfl) ?_
    refine lv_iconst (v := 0) hx hb dX6_readSemicolon_15 (by decide) ?_
    refine va_put (D := (dC, dI)) (ci := 6) (v := .int 0) (ty := .int) (C := RX6) (T := TX6) (N := 11) hx hb hts fin_X6_readSemicolon_X6 tyX6 tyX6_ok nmX6 hown hK hP hD hS 0 rfl rfl 10 (by decide) (hts (.fieldLink RX6 44 "PatternGate$Reader" "wanted" "I") (List.mem_of_getElem? (i := 1) (by decide +kernel))) (fun _ h9 => h9) rfl (by decide +kernel) rfl rfl (Nat.le_of_ble_eq_true rfl) dX6_readSemicolon_16 (fun H locs hP hD hS => ?_)
    have hP : va_P (dC, dI) vwCl [(rd, .inr (6, rF r 2 i9 a2 a3 a4 a5 a6 0))] H := hP
    have hD : va_D A [(rd, .inr (6, rF r 2 i9 a2 a3 a4 a5 a6 0))] := hD
    have hP9 := hP.sub (ws' := [(rd, .inr (6, rF r 2 i9 a2 a3 a4 a5 a6 0))]) [0] rfl
    have hD9 := hD.sub (ws' := [(rd, .inr (6, rF r 2 i9 a2 a3 a4 a5 a6 0))]) [0] (by decide) rfl
    have hK9 := hK.sub (tys' := []) [] rfl
    exact W.vret hx hb hr (fun t ht hW => ⟨⟨(), rfl, trivial, 2, i9, by rw [ht]; exact hP9, va_K.moved hW.alike hK9, hD9⟩, hS.F ht⟩) hS.2.2 dX6_readSemicolon_19

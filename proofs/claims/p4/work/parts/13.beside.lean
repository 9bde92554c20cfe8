theorem dX5_tallyLetters_0 : decode cX5_tallyLetters 0 = .ok (.aload_n 0, 1) := by decide +kernel
theorem dX5_tallyLetters_1 : decode cX5_tallyLetters 1 = .ok (.getfield 26, 3) := by decide +kernel
theorem dX5_tallyLetters_4 : decode cX5_tallyLetters 4 = .ok (.istore 4, 2) := by decide +kernel
theorem dX5_tallyLetters_6 : decode cX5_tallyLetters 6 = .ok (.aload_n 0, 1) := by decide +kernel
theorem dX5_tallyLetters_7 : decode cX5_tallyLetters 7 = .ok (.getfield 38, 3) := by decide +kernel
theorem dX5_tallyLetters_10 : decode cX5_tallyLetters 10 = .ok (.istore 5, 2) := by decide +kernel
theorem dX5_tallyLetters_12 : decode cX5_tallyLetters 12 = .ok (.aload_n 1, 1) := by decide +kernel
theorem dX5_tallyLetters_13 : decode cX5_tallyLetters 13 = .ok (.getfield 100, 3) := by decide +kernel
theorem dX5_tallyLetters_16 : decode cX5_tallyLetters 16 = .ok (.arraylength, 1) := by decide +kernel
theorem dX5_tallyLetters_17 : decode cX5_tallyLetters 17 = .ok (.iconst 1, 1) := by decide +kernel
theorem dX5_tallyLetters_18 : decode cX5_tallyLetters 18 = .ok (.isub, 1) := by decide +kernel
theorem dX5_tallyLetters_19 : decode cX5_tallyLetters 19 = .ok (.istore 6, 2) := by decide +kernel
theorem dX5_tallyLetters_21 : decode cX5_tallyLetters 21 = .ok (.iload 6, 2) := by decide +kernel
theorem dX5_tallyLetters_23 : decode cX5_tallyLetters 23 = .ok (.iload_n 2, 1) := by decide +kernel
theorem dX5_tallyLetters_24 : decode cX5_tallyLetters 24 = .ok (.if_icmp .le 58, 3) := by decide +kernel
theorem dX5_tallyLetters_27 : decode cX5_tallyLetters 27 = .ok (.aload_n 0, 1) := by decide +kernel
theorem dX5_tallyLetters_28 : decode cX5_tallyLetters 28 = .ok (.aload_n 1, 1) := by decide +kernel
theorem dX5_tallyLetters_29 : decode cX5_tallyLetters 29 = .ok (.getfield 100, 3) := by decide +kernel
theorem dX5_tallyLetters_32 : decode cX5_tallyLetters 32 = .ok (.iload 6, 2) := by decide +kernel
theorem dX5_tallyLetters_34 : decode cX5_tallyLetters 34 = .ok (.iaload, 1) := by decide +kernel
theorem dX5_tallyLetters_35 : decode cX5_tallyLetters 35 = .ok (.invokevirtual 109, 3) := by decide +kernel
theorem dX5_tallyLetters_38 : decode cX5_tallyLetters 38 = .ok (.iload 5, 2) := by decide +kernel
theorem dX5_tallyLetters_40 : decode cX5_tallyLetters 40 = .ok (.iand, 1) := by decide +kernel
theorem dX5_tallyLetters_41 : decode cX5_tallyLetters 41 = .ok (.istore 7, 2) := by decide +kernel
theorem dX5_tallyLetters_43 : decode cX5_tallyLetters 43 = .ok (.iload 4, 2) := by decide +kernel
theorem dX5_tallyLetters_45 : decode cX5_tallyLetters 45 = .ok (.aload_n 0, 1) := by decide +kernel
theorem dX5_tallyLetters_46 : decode cX5_tallyLetters 46 = .ok (.getfield 34, 3) := by decide +kernel
theorem dX5_tallyLetters_49 : decode cX5_tallyLetters 49 = .ok (.iload 7, 2) := by decide +kernel
theorem dX5_tallyLetters_51 : decode cX5_tallyLetters 51 = .ok (.iand, 1) := by decide +kernel
theorem dX5_tallyLetters_52 : decode cX5_tallyLetters 52 = .ok (.ifCond .eq 7, 3) := by decide +kernel
theorem dX5_tallyLetters_55 : decode cX5_tallyLetters 55 = .ok (.iconst 1, 1) := by decide +kernel
theorem dX5_tallyLetters_56 : decode cX5_tallyLetters 56 = .ok (.goto 4, 3) := by decide +kernel
theorem dX5_tallyLetters_59 : decode cX5_tallyLetters 59 = .ok (.iconst 0, 1) := by decide +kernel
theorem dX5_tallyLetters_60 : decode cX5_tallyLetters 60 = .ok (.ior, 1) := by decide +kernel
theorem dX5_tallyLetters_61 : decode cX5_tallyLetters 61 = .ok (.istore 4, 2) := by decide +kernel
theorem dX5_tallyLetters_63 : decode cX5_tallyLetters 63 = .ok (.aload_n 0, 1) := by decide +kernel
theorem dX5_tallyLetters_64 : decode cX5_tallyLetters 64 = .ok (.getfield 38, 3) := by decide +kernel
theorem dX5_tallyLetters_67 : decode cX5_tallyLetters 67 = .ok (.aload_n 0, 1) := by decide +kernel
theorem dX5_tallyLetters_68 : decode cX5_tallyLetters 68 = .ok (.iload 7, 2) := by decide +kernel
theorem dX5_tallyLetters_70 : decode cX5_tallyLetters 70 = .ok (.invokevirtual 122, 3) := by decide +kernel
theorem dX5_tallyLetters_73 : decode cX5_tallyLetters 73 = .ok (.ior, 1) := by decide +kernel
theorem dX5_tallyLetters_74 : decode cX5_tallyLetters 74 = .ok (.istore 5, 2) := by decide +kernel
theorem dX5_tallyLetters_76 : decode cX5_tallyLetters 76 = .ok (.iinc 6 (-1), 3) := by decide +kernel
theorem dX5_tallyLetters_79 : decode cX5_tallyLetters 79 = .ok (.goto (-58), 3) := by decide +kernel
theorem dX5_tallyLetters_82 : decode cX5_tallyLetters 82 = .ok (.iconst 0, 1) := by decide +kernel
theorem dX5_tallyLetters_83 : decode cX5_tallyLetters 83 = .ok (.istore 6, 2) := by decide +kernel
theorem dX5_tallyLetters_85 : decode cX5_tallyLetters 85 = .ok (.iconst 0, 1) := by decide +kernel
theorem dX5_tallyLetters_86 : decode cX5_tallyLetters 86 = .ok (.istore 7, 2) := by decide +kernel
theorem dX5_tallyLetters_88 : decode cX5_tallyLetters 88 = .ok (.iload 7, 2) := by decide +kernel
theorem dX5_tallyLetters_90 : decode cX5_tallyLetters 90 = .ok (.iload_n 2, 1) := by decide +kernel
theorem dX5_tallyLetters_91 : decode cX5_tallyLetters 91 = .ok (.if_icmp .ge 64, 3) := by decide +kernel
theorem dX5_tallyLetters_94 : decode cX5_tallyLetters 94 = .ok (.iload 7, 2) := by decide +kernel
theorem dX5_tallyLetters_96 : decode cX5_tallyLetters 96 = .ok (.aload_n 1, 1) := by decide +kernel
theorem dX5_tallyLetters_97 : decode cX5_tallyLetters 97 = .ok (.getfield 100, 3) := by decide +kernel
theorem dX5_tallyLetters_100 : decode cX5_tallyLetters 100 = .ok (.arraylength, 1) := by decide +kernel
theorem dX5_tallyLetters_101 : decode cX5_tallyLetters 101 = .ok (.if_icmp .ge 54, 3) := by decide +kernel
theorem dX5_tallyLetters_104 : decode cX5_tallyLetters 104 = .ok (.aload_n 0, 1) := by decide +kernel
theorem dX5_tallyLetters_105 : decode cX5_tallyLetters 105 = .ok (.getfield 34, 3) := by decide +kernel
theorem dX5_tallyLetters_108 : decode cX5_tallyLetters 108 = .ok (.aload_n 0, 1) := by decide +kernel
theorem dX5_tallyLetters_109 : decode cX5_tallyLetters 109 = .ok (.iload 6, 2) := by decide +kernel
theorem dX5_tallyLetters_111 : decode cX5_tallyLetters 111 = .ok (.invokevirtual 105, 3) := by decide +kernel
theorem dX5_tallyLetters_114 : decode cX5_tallyLetters 114 = .ok (.ior, 1) := by decide +kernel
theorem dX5_tallyLetters_115 : decode cX5_tallyLetters 115 = .ok (.aload_n 0, 1) := by decide +kernel
theorem dX5_tallyLetters_116 : decode cX5_tallyLetters 116 = .ok (.aload_n 1, 1) := by decide +kernel
theorem dX5_tallyLetters_117 : decode cX5_tallyLetters 117 = .ok (.getfield 100, 3) := by decide +kernel
theorem dX5_tallyLetters_120 : decode cX5_tallyLetters 120 = .ok (.iload 7, 2) := by decide +kernel
theorem dX5_tallyLetters_122 : decode cX5_tallyLetters 122 = .ok (.iaload, 1) := by decide +kernel
theorem dX5_tallyLetters_123 : decode cX5_tallyLetters 123 = .ok (.invokevirtual 109, 3) := by decide +kernel
theorem dX5_tallyLetters_126 : decode cX5_tallyLetters 126 = .ok (.iand, 1) := by decide +kernel
theorem dX5_tallyLetters_127 : decode cX5_tallyLetters 127 = .ok (.istore 6, 2) := by decide +kernel
theorem dX5_tallyLetters_129 : decode cX5_tallyLetters 129 = .ok (.iload 4, 2) := by decide +kernel
theorem dX5_tallyLetters_131 : decode cX5_tallyLetters 131 = .ok (.iload 6, 2) := by decide +kernel
theorem dX5_tallyLetters_133 : decode cX5_tallyLetters 133 = .ok (.aload_n 0, 1) := by decide +kernel
theorem dX5_tallyLetters_134 : decode cX5_tallyLetters 134 = .ok (.getfield 38, 3) := by decide +kernel
theorem dX5_tallyLetters_137 : decode cX5_tallyLetters 137 = .ok (.iand, 1) := by decide +kernel
theorem dX5_tallyLetters_138 : decode cX5_tallyLetters 138 = .ok (.ifCond .eq 7, 3) := by decide +kernel
theorem dX5_tallyLetters_141 : decode cX5_tallyLetters 141 = .ok (.iconst 1, 1) := by decide +kernel
theorem dX5_tallyLetters_142 : decode cX5_tallyLetters 142 = .ok (.goto 4, 3) := by decide +kernel
theorem dX5_tallyLetters_145 : decode cX5_tallyLetters 145 = .ok (.iconst 0, 1) := by decide +kernel
theorem dX5_tallyLetters_146 : decode cX5_tallyLetters 146 = .ok (.ior, 1) := by decide +kernel
theorem dX5_tallyLetters_147 : decode cX5_tallyLetters 147 = .ok (.istore 4, 2) := by decide +kernel
theorem dX5_tallyLetters_149 : decode cX5_tallyLetters 149 = .ok (.iinc 7 1, 3) := by decide +kernel
theorem dX5_tallyLetters_152 : decode cX5_tallyLetters 152 = .ok (.goto (-64), 3) := by decide +kernel
theorem dX5_tallyLetters_155 : decode cX5_tallyLetters 155 = .ok (.aload_n 0, 1) := by decide +kernel
theorem dX5_tallyLetters_156 : decode cX5_tallyLetters 156 = .ok (.getfield 34, 3) := by decide +kernel
theorem dX5_tallyLetters_159 : decode cX5_tallyLetters 159 = .ok (.aload_n 0, 1) := by decide +kernel
theorem dX5_tallyLetters_160 : decode cX5_tallyLetters 160 = .ok (.iload 6, 2) := by decide +kernel
theorem dX5_tallyLetters_162 : decode cX5_tallyLetters 162 = .ok (.invokevirtual 105, 3) := by decide +kernel
theorem dX5_tallyLetters_165 : decode cX5_tallyLetters 165 = .ok (.ior, 1) := by decide +kernel
theorem dX5_tallyLetters_166 : decode cX5_tallyLetters 166 = .ok (.istore 7, 2) := by decide +kernel
theorem dX5_tallyLetters_168 : decode cX5_tallyLetters 168 = .ok (.iconst 0, 1) := by decide +kernel
theorem dX5_tallyLetters_169 : decode cX5_tallyLetters 169 = .ok (.istore 8, 2) := by decide +kernel
theorem dX5_tallyLetters_171 : decode cX5_tallyLetters 171 = .ok (.iload 8, 2) := by decide +kernel
theorem dX5_tallyLetters_173 : decode cX5_tallyLetters 173 = .ok (.aload_n 3, 1) := by decide +kernel
theorem dX5_tallyLetters_174 : decode cX5_tallyLetters 174 = .ok (.arraylength, 1) := by decide +kernel
theorem dX5_tallyLetters_175 : decode cX5_tallyLetters 175 = .ok (.if_icmp .ge 37, 3) := by decide +kernel
theorem dX5_tallyLetters_178 : decode cX5_tallyLetters 178 = .ok (.iload 4, 2) := by decide +kernel
theorem dX5_tallyLetters_180 : decode cX5_tallyLetters 180 = .ok (.ifCond .ne 18, 3) := by decide +kernel
theorem dX5_tallyLetters_183 : decode cX5_tallyLetters 183 = .ok (.iload 7, 2) := by decide +kernel
theorem dX5_tallyLetters_185 : decode cX5_tallyLetters 185 = .ok (.aload_n 0, 1) := by decide +kernel
theorem dX5_tallyLetters_186 : decode cX5_tallyLetters 186 = .ok (.iload 8, 2) := by decide +kernel
theorem dX5_tallyLetters_188 : decode cX5_tallyLetters 188 = .ok (.invokevirtual 109, 3) := by decide +kernel
theorem dX5_tallyLetters_191 : decode cX5_tallyLetters 191 = .ok (.iand, 1) := by decide +kernel
theorem dX5_tallyLetters_192 : decode cX5_tallyLetters 192 = .ok (.iload 5, 2) := by decide +kernel
theorem dX5_tallyLetters_194 : decode cX5_tallyLetters 194 = .ok (.iand, 1) := by decide +kernel
theorem dX5_tallyLetters_195 : decode cX5_tallyLetters 195 = .ok (.ifCond .eq 11, 3) := by decide +kernel
theorem dX5_tallyLetters_198 : decode cX5_tallyLetters 198 = .ok (.aload_n 3, 1) := by decide +kernel
theorem dX5_tallyLetters_199 : decode cX5_tallyLetters 199 = .ok (.iload 8, 2) := by decide +kernel
theorem dX5_tallyLetters_201 : decode cX5_tallyLetters 201 = .ok (.dup2, 1) := by decide +kernel
theorem dX5_tallyLetters_202 : decode cX5_tallyLetters 202 = .ok (.iaload, 1) := by decide +kernel
theorem dX5_tallyLetters_203 : decode cX5_tallyLetters 203 = .ok (.iconst 1, 1) := by decide +kernel
theorem dX5_tallyLetters_204 : decode cX5_tallyLetters 204 = .ok (.iadd, 1) := by decide +kernel
theorem dX5_tallyLetters_205 : decode cX5_tallyLetters 205 = .ok (.iastore, 1) := by decide +kernel
theorem dX5_tallyLetters_206 : decode cX5_tallyLetters 206 = .ok (.iinc 8 1, 3) := by decide +kernel
theorem dX5_tallyLetters_209 : decode cX5_tallyLetters 209 = .ok (.goto (-38), 3) := by decide +kernel
theorem dX5_tallyLetters_212 : decode cX5_tallyLetters 212 = .ok (.return_, 1) := by decide +kernel
def mwX5_tallyLetters : List Cond := .code yX5_tallyLetters cX5_tallyLetters 9 none :: ([.fieldLink RX5 26 "PatternGate$Pattern" "canBeEmpty" "Z", .fieldLink RX5 38 "PatternGate$Pattern" "last" "I", .fieldLink RX5 100 "PatternGate$Doc" "letters" "[I", .fieldLink RX5 34 "PatternGate$Pattern" "first" "I", .code yX5_followersOf cX5_followersOf 4 (some .int), .fieldLink RX5 39 "PatternGate$Pattern" "follow" "[I", .methodLink RX5 105 yX5_followersOf, .instanceMethod yX5_followersOf, .selects RX5 yX5_followersOf yX5_followersOf, .initialized RX5, .code yX5_takersOf cX5_takersOf 2 (some .int), .fieldLink RX5 42 "PatternGate$Pattern" "takers" "[I", .methodLink RX5 109 yX5_takersOf, .instanceMethod yX5_takersOf, .selects RX5 yX5_takersOf yX5_takersOf, .code yX5_leadersTo cX5_leadersTo 4 (some .int), .methodLink RX5 122 yX5_leadersTo, .instanceMethod yX5_leadersTo, .selects RX5 yX5_leadersTo yX5_leadersTo] ++ wsX50 ++ wsX20)
theorem fin_X5_tallyLetters_X2 : ∀ w ∈ wsX20, w ∈ mwX5_tallyLetters := fun w h => List.mem_cons_of_mem _ (List.mem_append_right _ h)
theorem fin_X5_tallyLetters_X5 : ∀ w ∈ wsX50, w ∈ mwX5_tallyLetters := fun w h => List.mem_cons_of_mem _ (List.mem_append_left _ (List.mem_append_right _ h))
set_option maxRecDepth 20000 in
theorem mg_X5_tallyLetters_X5_followersOf_105 : GoodIn mwX5_tallyLetters (wsV RX5 105 RX5 yX5_followersOf mwX5_followersOf) := goodIn_r _ [7, 8, 9, 10, 5, 6, 20, 21, 22, 23, 24, 25, 26, 27, 28, 29, 30, 31, 32] (by decide +kernel) (by decide +kernel)
set_option maxRecDepth 20000 in
theorem mg_X5_tallyLetters_X5_takersOf_109 : GoodIn mwX5_tallyLetters (wsV RX5 109 RX5 yX5_takersOf mwX5_takersOf) := goodIn_r _ [13, 14, 15, 10, 11, 12, 20, 21, 22, 23, 24, 25, 26, 27, 28, 29, 30, 31, 32] (by decide +kernel) (by decide +kernel)
set_option maxRecDepth 20000 in
theorem mg_X5_tallyLetters_X5_leadersTo_122 : GoodIn mwX5_tallyLetters (wsV RX5 122 RX5 yX5_leadersTo mwX5_leadersTo) := goodIn_r _ [17, 18, 19, 10, 16, 6, 20, 21, 22, 23, 24, 25, 26, 27, 28, 29, 30, 31, 32] (by decide +kernel) (by decide +kernel)
set_option maxHeartbeats 4000000 in
set_option maxRecDepth 100000 in
/-- Pattern.tallyLetters -/
theorem s_tallyLetters (l : Launch) (dC : Nat → ClassId) (dI : Nat → Nat → Nat) (W9 : va_W) (T9 : List (ClassId × FieldType)) (pt d ta9 : Nat) (cY : ClassId) (f : Nat → Int32) (sz : Nat) (i9 : Int32) (hPt : poP W9 T9 pt) (hDc : poD W9 T9 d) (h0 : 0 ≤ i9.toInt) : Met l yX5_tallyLetters mwX5_tallyLetters ({ frames := 1, cells := 0, slots := 0, locals := 60 }) (va_Pc [.ref pt, .ref d, .int i9, .ref ta9] (fun U => U.heap.size = sz ∧ va_P (dC, dI) vwCl ([(ta9, .inl (cY, 26, .inl f))]) U.heap ∧ va_K (dC, dI) vwCl ([(cY, .int)]) U ∧ va_D (fun _ => True) ([(ta9, .inl (cY, 26, .inl f))]) ∧ va_P (dC, dI) vwCl W9 U.heap ∧ va_K (dC, dI) vwCl T9 U ∧ (∀ q ∈ W9, ¬ va_A ([(ta9, .inl (cY, 26, .inl f))]) sz q.1))) (va_Qv (fun (_ : Unit) => True) (fun _ t => ∃ f9 : Nat → Int32, va_P (dC, dI) vwCl [(ta9, .inl (cY, 26, .inl f9))] t.heap ∧ va_K (dC, dI) vwCl [(cY, .int)] t ∧ va_D (va_A ([(ta9, .inl (cY, 26, .inl f))]) sz) [(ta9, .inl (cY, 26, .inl f9))]) (va_A ([(ta9, .inl (cY, 26, .inl f))]) sz)) 0 0 (va_A ([(ta9, .inl (cY, 26, .inl f))]) sz) := by
  refine Met.ofW (cc := cX5_tallyLetters) (maxL := 9) (ret := none) (by decide +kernel) rfl ?_
  intro p e s m args below meth c s₁ B hml hv
  obtain ⟨rfl, hsz, hP, hK, hD0, hQ0, hKQ, hQA⟩ := hv
  have hx := B.exec
  have hb := B.bytes
  have hr := B.returns
  have hts := atoms_spec (ws := mwX5_tallyLetters) B.pre
  have hown : s.vm.findClass RX5 = some m.cls := findClass_of_methodNamed B.named
  have hlocks := B.notSynchronized
  subst hsz
  have hD := hD0.self (sz := s.heap.size)
  generalize hAe : va_A ([(ta9, .inl (cY, 26, .inl f))]) s.heap.size = A at hD hQA ⊢
  have hA : ∀ q : Nat, s.heap.size ≤ q → A q := fun q h => by rw [← hAe]; exact Or.inr h
  have hP : va_P (dC, dI) vwCl [(ta9, .inl (cY, 26, .inl f))] s.heap := hP
  have hD : va_D A [(ta9, .inl (cY, 26, .inl f))] := hD
  have hK : va_K (dC, dI) vwCl [(cY, .int)] s := hK
  generalize hH : s.heap = H at hP ⊢
  have hS : va_S A s.heap H [] := by rw [← hH]; exact va_S.rf
  have hQ := q_at hQ0 hQA hS
  have hl := lv_entry ([.ref pt, .ref d, .int i9, .ref ta9]) (n := 9) (Nat.le_of_ble_eq_true rfl)
  rw [lg_entry_eq]
  generalize (lg_sl ([.ref pt, .ref d, .int i9, .ref ta9]) ++ List.replicate (9 - (lg_sl ([.ref pt, .ref d, .int i9, .ref ta9])).length) Slot.unset).toArray = ls at hl ⊢
  have hl : lv_has ls 9 [(0, .ref pt), (1, .ref d), (2, .int i9), (3, .ref ta9)] := hl
  have rg_i9 := i_rng i9
  obtain ⟨q_1, a_2, a_3, a_4, a_5, a_6, a_7, n_8, n_9, n_10, n_11, n_12, n_13, f_14, f_15, f_16, f_17, f_18, f_19, c_20, c_21, c_22, c_23, c_24, c_25, m_26, ⟨m_27, m_28⟩, ⟨m_29, m_30⟩, ⟨m_31, m_32⟩, ⟨m_33, m_34⟩, ⟨m_35, m_36⟩, ⟨m_37, m_38⟩, h_39, h_40, h_41, h_42, h_43, h_44, h_45, h_46, h_47, h_48⟩ := hPt
  obtain ⟨k_49, hk_49⟩ := List.getElem?_of_mem m_26
  obtain ⟨k_50, hk_50⟩ := List.getElem?_of_mem m_29
  obtain ⟨j_51, hj_51⟩ := List.getElem?_of_mem m_30
  obtain ⟨k_52, hk_52⟩ := List.getElem?_of_mem m_31
  obtain ⟨j_53, hj_53⟩ := List.getElem?_of_mem m_32
  obtain ⟨la_54, ta_55, m_56, n_57, fl_58, ft_59, cI_60, cJ_61, m_62, ⟨m_63, m_64⟩, ⟨m_65, m_66⟩, m_67, m_68⟩ := hDc
  obtain ⟨k_69, hk_69⟩ := List.getElem?_of_mem m_62
  obtain ⟨k_70, hk_70⟩ := List.getElem?_of_mem m_63
  obtain ⟨j_71, hj_71⟩ := List.getElem?_of_mem m_64
  obtain ⟨k_72, hk_72⟩ := List.getElem?_of_mem m_65
  obtain ⟨j_73, hj_73⟩ := List.getElem?_of_mem m_66
  refine lv_aload_n hx hb dX5_tallyLetters_0 rfl (lv_at hl 0 rfl) ?_
  refine va_get (D := (dC, dI)) (ci := 5) (v := .int a_3) (C := RX5) (T := TX5) (N := 13) hx hb hts fin_X5_tallyLetters_X5 hown hKQ hQ k_49 hk_49 rfl 2 (by decide) (hts (.fieldLink RX5 26 "PatternGate$Pattern" "canBeEmpty" "Z") (List.mem_of_getElem? (i := 1) (by decide +kernel))) (fun _ h9 => h9) rfl dX5_tallyLetters_1 ?_
  refine lv_istore (lv' := [(4, .int a_3), (0, .ref pt), (1, .ref d), (2, .int i9), (3, .ref ta9)]) hx hb dX5_tallyLetters_4 hl (by decide) rfl (fun ls hl => ?_)
  refine lv_aload_n hx hb dX5_tallyLetters_6 rfl (lv_at hl 1 rfl) ?_
  refine va_get (D := (dC, dI)) (ci := 5) (v := .int a_6) (C := RX5) (T := TX5) (N := 13) hx hb hts fin_X5_tallyLetters_X5 hown hKQ hQ k_49 hk_49 rfl 5 (by decide) (hts (.fieldLink RX5 38 "PatternGate$Pattern" "last" "I") (List.mem_of_getElem? (i := 2) (by decide +kernel))) (fun _ h9 => h9) rfl dX5_tallyLetters_7 ?_
  refine lv_istore (lv' := [(5, .int a_6), (4, .int a_3), (0, .ref pt), (1, .ref d), (2, .int i9), (3, .ref ta9)]) hx hb dX5_tallyLetters_10 hl (by decide) rfl (fun ls hl => ?_)
  refine lv_aload_n hx hb dX5_tallyLetters_12 rfl (lv_at hl 3 rfl) ?_
  refine va_get (D := (dC, dI)) (ci := 2) (v := .ref la_54) (C := RX2) (T := TX2) (N := 2) hx hb hts fin_X5_tallyLetters_X2 hown hKQ hQ k_69 hk_69 rfl 0 (by decide) (hts (.fieldLink RX5 100 "PatternGate$Doc" "letters" "[I") (List.mem_of_getElem? (i := 3) (by decide +kernel))) (fun _ h9 => h9) rfl dX5_tallyLetters_13 ?_
  refine va_alen hx hb hKQ hQ k_70 j_71 hk_70 hj_71 rfl dX5_tallyLetters_16 ?_
  refine lv_topi (fun y_74 ey_74 => ?_)
  have ty_74 : y_74.toInt = (m_56 : Int) := i_len ey_74 (by omega)
  refine lv_iconst (v := 1) hx hb dX5_tallyLetters_17 (by decide) ?_
  refine lv_isub hx hb dX5_tallyLetters_18 ?_
  refine lv_topi (fun y_75 ey_75 => ?_)
  first | have ty_75 := i_sub (a := y_74.toInt) (b := 1) rfl (by decide) ey_75 (by omega) (by omega) | skip
  refine lv_istore (lv' := [(6, .int y_75), (5, .int a_6), (4, .int a_3), (0, .ref pt), (1, .ref d), (2, .int i9), (3, .ref ta9)]) hx hb dX5_tallyLetters_19 hl (by decide) rfl (fun ls hl => ?_)
  have loop21 : ∀ (n_21 : Nat) (aw cl ii : Int32), (ii.toInt ≤ (m_56 : Int) - 1) → ((ii.toInt - i9.toInt).toNat) < n_21 → ∀ (H : Heap) (locs : List Loc) (ls : Array Slot), va_P (dC, dI) vwCl [(ta9, .inl (cY, 26, .inl f))] H → va_D A [(ta9, .inl (cY, 26, .inl f))] → va_S A s.heap H locs → lv_has ls 9 [(6, .int ii), (5, .int cl), (4, .int aw), (0, .ref pt), (1, .ref d), (2, .int i9), (3, .ref ta9)] → W p l e (headSpec mwX5_tallyLetters ({ frames := 1, cells := 0, slots := 0, locals := 60 })).room s m ([.ref pt, .ref d, .int i9, .ref ta9]).toArray below meth c H locs 0 0 (MQ below (va_Qv (fun (_ : Unit) => True) (fun _ t => ∃ f9 : Nat → Int32, va_P (dC, dI) vwCl [(ta9, .inl (cY, 26, .inl f9))] t.heap ∧ va_K (dC, dI) vwCl [(cY, .int)] t ∧ va_D A [(ta9, .inl (cY, 26, .inl f9))]) A) ([.ref pt, .ref d, .int i9, .ref ta9]).toArray s 0 0 A) (F0 m 21 ls []) := by
    intro n_21
    induction n_21 with
    | zero => intro aw cl ii v21_0 hm21; exact absurd hm21 (Nat.not_lt_zero _)
    | succ n_21 ih21 =>
      intro aw cl ii v21_0 hm21 H locs ls hP hD hS hl
      have hQ := q_at hQ0 hQA hS
      have rg_aw := i_rng aw
      have rg_cl := i_rng cl
      have rg_ii := i_rng ii
      refine lv_iload hx hb dX5_tallyLetters_21 (lv_at hl 0 rfl) ?_
      refine lv_iload_n hx hb dX5_tallyLetters_23 rfl (lv_at hl 5 rfl) ?_
      refine lv_icmp_le (tgt := 82) hx hb dX5_tallyLetters_24 (by decide) (fun k_76 => ?_) (fun k_76 => ?_)
      · have tk_76 := c_le (a := ii.toInt) (b := i9.toInt) rfl rfl k_76
        refine lv_iconst (v := 0) hx hb dX5_tallyLetters_82 (by decide) ?_
        refine lv_istore (lv' := [(6, .int 0), (5, .int cl), (4, .int aw), (0, .ref pt), (1, .ref d), (2, .int i9), (3, .ref ta9)]) hx hb dX5_tallyLetters_83 hl (by decide) rfl (fun ls hl => ?_)
        refine lv_iconst (v := 0) hx hb dX5_tallyLetters_85 (by decide) ?_
        refine lv_istore (lv' := [(7, .int 0), (6, .int 0), (5, .int cl), (4, .int aw), (0, .ref pt), (1, .ref d), (2, .int i9), (3, .ref ta9)]) hx hb dX5_tallyLetters_86 hl (by decide) rfl (fun ls hl => ?_)
        have loop88 : ∀ (n_88 : Nat) (aw2 sp jj : Int32), (0 ≤ jj.toInt) → (((m_56 : Int) - jj.toInt).toNat) < n_88 → ∀ (H : Heap) (locs : List Loc) (ls : Array Slot), va_P (dC, dI) vwCl [(ta9, .inl (cY, 26, .inl f))] H → va_D A [(ta9, .inl (cY, 26, .inl f))] → va_S A s.heap H locs → lv_has ls 9 [(7, .int jj), (6, .int sp), (5, .int cl), (4, .int aw2), (0, .ref pt), (1, .ref d), (2, .int i9), (3, .ref ta9)] → W p l e (headSpec mwX5_tallyLetters ({ frames := 1, cells := 0, slots := 0, locals := 60 })).room s m ([.ref pt, .ref d, .int i9, .ref ta9]).toArray below meth c H locs 0 0 (MQ below (va_Qv (fun (_ : Unit) => True) (fun _ t => ∃ f9 : Nat → Int32, va_P (dC, dI) vwCl [(ta9, .inl (cY, 26, .inl f9))] t.heap ∧ va_K (dC, dI) vwCl [(cY, .int)] t ∧ va_D A [(ta9, .inl (cY, 26, .inl f9))]) A) ([.ref pt, .ref d, .int i9, .ref ta9]).toArray s 0 0 A) (F0 m 88 ls []) := by
          intro n_88
          induction n_88 with
          | zero => intro aw2 sp jj v88_0 hm88; exact absurd hm88 (Nat.not_lt_zero _)
          | succ n_88 ih88 =>
            intro aw2 sp jj v88_0 hm88 H locs ls hP hD hS hl
            have hQ := q_at hQ0 hQA hS
            have rg_aw2 := i_rng aw2
            have rg_sp := i_rng sp
            have rg_jj := i_rng jj
            refine lv_iload hx hb dX5_tallyLetters_88 (lv_at hl 0 rfl) ?_
            refine lv_iload_n hx hb dX5_tallyLetters_90 rfl (lv_at hl 6 rfl) ?_
            refine lv_icmp_ge (tgt := 155) hx hb dX5_tallyLetters_91 (by decide) (fun k_77 => ?_) (fun k_77 => ?_)
            · have tk_77 := c_ge (a := jj.toInt) (b := i9.toInt) rfl rfl k_77
              refine lv_aload_n hx hb dX5_tallyLetters_155 rfl (lv_at hl 4 rfl) ?_
              refine va_get (D := (dC, dI)) (ci := 5) (v := .int a_5) (C := RX5) (T := TX5) (N := 13) hx hb hts fin_X5_tallyLetters_X5 hown hKQ hQ k_49 hk_49 rfl 4 (by decide) (hts (.fieldLink RX5 34 "PatternGate$Pattern" "first" "I") (List.mem_of_getElem? (i := 4) (by decide +kernel))) (fun _ h9 => h9) rfl dX5_tallyLetters_156 ?_
              refine lv_aload_n hx hb dX5_tallyLetters_159 rfl (lv_at hl 4 rfl) ?_
              refine lv_iload hx hb dX5_tallyLetters_160 (lv_at hl 1 rfl) ?_
              have hPc : va_P (dC, dI) vwCl [(pt, .inr (5, pF q_1 a_2 a_3 a_4 a_5 a_6 a_7)), (q_1 1, .inl (c_21, n_9, .inl f_15))] H := p_sub hQ (List.forall_mem_cons.mpr ⟨m_26, List.forall_mem_cons.mpr ⟨m_29, fun _ h => absurd h List.not_mem_nil⟩⟩)
              have hKc : va_K (dC, dI) vwCl [(c_21, .int)] s := k_sub hKQ (List.forall_mem_cons.mpr ⟨m_30, fun _ h => absurd h List.not_mem_nil⟩)
              refine vp_callSi (W.runV (As := [.int sp]) (rest := [.int a_5]) ⟨hx, hb, hml, hown, hts⟩ (s_followersOf l dC dI pt q_1 a_2 a_3 a_4 a_5 a_6 a_7 n_9 f_15 c_21 sp (by omega)) (cwV 1 hts mg_X5_tallyLetters_X5_followersOf_105 rfl rfl rfl (by decide +kernel) ⟨Nat.le_of_ble_eq_true rfl, Nat.le_of_ble_eq_true rfl⟩) ⟨fun a U g mk q => by obtain ⟨q0, qP, qK⟩ := q; exact ⟨q0, qP, va_K.moved (u := U) (U := U.calling g mk a) (Vm.Alike.refl U.vm) qK⟩, va_recv hKc hPc (ci := 5) (q0 := 0) rfl rfl, fun U hU hW => ⟨rfl, by rw [hU]; exact hPc, va_K.moved hW.alike hKc⟩⟩ rfl rfl hl.1 rfl (lv_room (Nat.le_of_ble_eq_true rfl)) dX5_tallyLetters_162 ⟨Nat.le_of_ble_eq_true rfl, Nat.le_of_ble_eq_true rfl⟩) (fun r_79 hw => ?_)
              refine lv_ior hx hb dX5_tallyLetters_165 ?_
              refine lv_topi (fun y_80 ey_80 => ?_)
              have rg_y_80 := i_rng y_80
              first | have oy_80 : y_80 = 0 ∨ y_80 = 1 := b_ior (by first | assumption | decide) (by first | assumption | decide) ey_80 | skip
              refine lv_istore (lv' := [(7, .int y_80), (6, .int sp), (5, .int cl), (4, .int aw2), (0, .ref pt), (1, .ref d), (2, .int i9), (3, .ref ta9)]) hx hb dX5_tallyLetters_166 hl (by decide) rfl (fun ls hl => ?_)
              refine lv_iconst (v := 0) hx hb dX5_tallyLetters_168 (by decide) ?_
              refine lv_istore (lv' := [(8, .int 0), (7, .int y_80), (6, .int sp), (5, .int cl), (4, .int aw2), (0, .ref pt), (1, .ref d), (2, .int i9), (3, .ref ta9)]) hx hb dX5_tallyLetters_169 hl (by decide) rfl (fun ls hl => ?_)
              have loop171 : ∀ (n_171 : Nat) (kk : Int32) (ga : Nat → Int32), (0 ≤ kk.toInt) → ((26 - kk.toInt).toNat) < n_171 → ∀ (H : Heap) (locs : List Loc) (ls : Array Slot), va_P (dC, dI) vwCl [(ta9, .inl (cY, 26, .inl ga))] H → va_D A [(ta9, .inl (cY, 26, .inl ga))] → va_S A s.heap H locs → lv_has ls 9 [(8, .int kk), (7, .int y_80), (6, .int sp), (5, .int cl), (4, .int aw2), (0, .ref pt), (1, .ref d), (2, .int i9), (3, .ref ta9)] → W p l e (headSpec mwX5_tallyLetters ({ frames := 1, cells := 0, slots := 0, locals := 60 })).room s m ([.ref pt, .ref d, .int i9, .ref ta9]).toArray below meth c H locs 0 0 (MQ below (va_Qv (fun (_ : Unit) => True) (fun _ t => ∃ f9 : Nat → Int32, va_P (dC, dI) vwCl [(ta9, .inl (cY, 26, .inl f9))] t.heap ∧ va_K (dC, dI) vwCl [(cY, .int)] t ∧ va_D A [(ta9, .inl (cY, 26, .inl f9))]) A) ([.ref pt, .ref d, .int i9, .ref ta9]).toArray s 0 0 A) (F0 m 171 ls []) := by
                intro n_171
                induction n_171 with
                | zero => intro kk ga v171_0 hm171; exact absurd hm171 (Nat.not_lt_zero _)
                | succ n_171 ih171 =>
                  intro kk ga v171_0 hm171 H locs ls hP hD hS hl
                  have hQ := q_at hQ0 hQA hS
                  have rg_kk := i_rng kk
                  refine lv_iload hx hb dX5_tallyLetters_171 (lv_at hl 0 rfl) ?_
                  refine lv_aload_n hx hb dX5_tallyLetters_173 rfl (lv_at hl 8 rfl) ?_
                  refine va_alen (v := 26) hx hb hK hP 0 0 rfl rfl rfl dX5_tallyLetters_174 ?_
                  refine lv_icmp_ge (tgt := 212) hx hb dX5_tallyLetters_175 (by decide) (fun k_81 => ?_) (fun k_81 => ?_)
                  · have tk_81 := c_ge (a := kk.toInt) (b := 26) rfl (by decide) k_81
                    have hP9 := hP.sub (ws' := [(ta9, .inl (cY, 26, .inl ga))]) [0] rfl
                    have hD9 := hD.sub (ws' := [(ta9, .inl (cY, 26, .inl ga))]) [0] (by decide) rfl
                    have hK9 := hK.sub (tys' := [(cY, .int)]) [0] rfl
                    exact W.vret hx hb hr (fun t ht hW => ⟨⟨(), rfl, trivial, ga, by rw [ht]; exact hP9, va_K.moved hW.alike hK9, hD9⟩, hS.F ht⟩) hS.2.2 dX5_tallyLetters_212
                  · have tk_81 := c_nge (a := kk.toInt) (b := 26) rfl (by decide) k_81
                    refine lv_iload hx hb dX5_tallyLetters_178 (lv_at hl 4 rfl) ?_
                    refine lv_if_ne (tgt := 198) hx hb dX5_tallyLetters_180 (by decide) (fun k_82 => ?_) (fun k_82 => ?_)
                    · have tk_82 := c_ne (a := aw2.toInt) (b := 0) rfl (by decide) k_82
                      refine lv_aload_n hx hb dX5_tallyLetters_198 rfl (lv_at hl 8 rfl) ?_
                      refine lv_iload hx hb dX5_tallyLetters_199 (lv_at hl 0 rfl) ?_
                      refine lv_dup2_11 hx hb dX5_tallyLetters_201 rfl rfl ?_
                      refine va_iald hx hb hK hP 0 0 rfl rfl (i := kk) (vp_of (a := kk.toInt) rfl (by omega) (by omega)) dX5_tallyLetters_202 ?_
                      refine lv_topi (fun y_83 ey_83 => ?_)
                      have rg_y_83 := i_rng y_83
                      refine lv_iconst (v := 1) hx hb dX5_tallyLetters_203 (by decide) ?_
                      refine lv_iadd hx hb dX5_tallyLetters_204 ?_
                      refine lv_topi (fun y_84 ey_84 => ?_)
                      first | have ty_84 := i_add (a := y_83.toInt) (b := 1) rfl (by decide) ey_84 (by omega) (by omega) | skip
                      refine va_iast hx hb hK hP hD hS 0 0 rfl rfl (i := kk) (vp_of (a := kk.toInt) rfl (by omega) (by omega)) dX5_tallyLetters_205 (fun H locs hP hD hS => ?_)
                      generalize hf_f_85 : upd ga _ _ = f_85 at hP hD
                      have hP : va_P (dC, dI) vwCl [(ta9, .inl (cY, 26, .inl f_85))] H := hP
                      have hD : va_D A [(ta9, .inl (cY, 26, .inl f_85))] := hD
                      have hQ := q_at hQ0 hQA hS
                      obtain ⟨y_86, ey_86⟩ : ∃ y : Int32, y = kk + 1 := ⟨_, rfl⟩
                      first | have ty_86 := i_add (a := kk.toInt) (b := 1) rfl (by decide) ey_86 (by omega) (by omega) | skip
                      refine lv_iinc (v := y_86) (lv' := [(8, .int y_86), (7, .int y_80), (6, .int sp), (5, .int cl), (4, .int aw2), (0, .ref pt), (1, .ref d), (2, .int i9), (3, .ref ta9)]) hx hb dX5_tallyLetters_206 hl (k := 0) rfl (by rw [ey_86]; rfl) (by decide) rfl (fun ls hl => ?_)
                      refine lv_goto (tgt := 171) hx hb dX5_tallyLetters_209 (by decide) ?_
                      exact ih171 y_86 f_85 (by first | omega | decide | assumption) (by omega) _ _ ls hP hD hS (lv_sub hl [0, 1, 2, 3, 4, 5, 6, 7, 8] rfl)
                    · have tk_82 := c_eq (a := aw2.toInt) (b := 0) rfl (by decide) k_82
                      refine lv_iload hx hb dX5_tallyLetters_183 (lv_at hl 1 rfl) ?_
                      refine lv_aload_n hx hb dX5_tallyLetters_185 rfl (lv_at hl 5 rfl) ?_
                      refine lv_iload hx hb dX5_tallyLetters_186 (lv_at hl 0 rfl) ?_
                      have hPc : va_P (dC, dI) vwCl [(pt, .inr (5, pF q_1 a_2 a_3 a_4 a_5 a_6 a_7)), (q_1 2, .inl (c_22, n_10, .inl f_16))] H := p_sub hQ (List.forall_mem_cons.mpr ⟨m_26, List.forall_mem_cons.mpr ⟨m_31, fun _ h => absurd h List.not_mem_nil⟩⟩)
                      have hKc : va_K (dC, dI) vwCl [(c_22, .int)] s := k_sub hKQ (List.forall_mem_cons.mpr ⟨m_32, fun _ h => absurd h List.not_mem_nil⟩)
                      refine vp_callSi (W.runV (As := [.int kk]) (rest := [.int y_80]) ⟨hx, hb, hml, hown, hts⟩ (s_takersOf l dC dI pt q_1 a_2 a_3 a_4 a_5 a_6 a_7 n_10 f_16 c_22 kk (by omega)) (cwV 1 hts mg_X5_tallyLetters_X5_takersOf_109 rfl rfl rfl (by decide +kernel) ⟨Nat.le_of_ble_eq_true rfl, Nat.le_of_ble_eq_true rfl⟩) ⟨fun a U g mk q => by obtain ⟨q0, qP, qK⟩ := q; exact ⟨q0, qP, va_K.moved (u := U) (U := U.calling g mk a) (Vm.Alike.refl U.vm) qK⟩, va_recv hKc hPc (ci := 5) (q0 := 0) rfl rfl, fun U hU hW => ⟨rfl, by rw [hU]; exact hPc, va_K.moved hW.alike hKc⟩⟩ rfl rfl hl.1 rfl (lv_room (Nat.le_of_ble_eq_true rfl)) dX5_tallyLetters_188 ⟨Nat.le_of_ble_eq_true rfl, Nat.le_of_ble_eq_true rfl⟩) (fun r_88 hw => ?_)
                      refine lv_iand hx hb dX5_tallyLetters_191 ?_
                      refine lv_topi (fun y_89 ey_89 => ?_)
                      have rg_y_89 := i_rng y_89
                      first | have oy_89 : y_89 = 0 ∨ y_89 = 1 := b_iand (by first | assumption | decide) (by first | assumption | decide) ey_89 | skip
                      refine lv_iload hx hb dX5_tallyLetters_192 (lv_at hl 3 rfl) ?_
                      refine lv_iand hx hb dX5_tallyLetters_194 ?_
                      refine lv_topi (fun y_90 ey_90 => ?_)
                      have rg_y_90 := i_rng y_90
                      first | have oy_90 : y_90 = 0 ∨ y_90 = 1 := b_iand (by first | assumption | decide) (by first | assumption | decide) ey_90 | skip
                      refine lv_if_eq (tgt := 206) hx hb dX5_tallyLetters_195 (by decide) (fun k_91 => ?_) (fun k_91 => ?_)
                      · have tk_91 := c_eq (a := y_90.toInt) (b := 0) rfl (by decide) k_91
                        obtain ⟨y_92, ey_92⟩ : ∃ y : Int32, y = kk + 1 := ⟨_, rfl⟩
                        first | have ty_92 := i_add (a := kk.toInt) (b := 1) rfl (by decide) ey_92 (by omega) (by omega) | skip
                        refine lv_iinc (v := y_92) (lv' := [(8, .int y_92), (7, .int y_80), (6, .int sp), (5, .int cl), (4, .int aw2), (0, .ref pt), (1, .ref d), (2, .int i9), (3, .ref ta9)]) hx hb dX5_tallyLetters_206 hl (k := 0) rfl (by rw [ey_92]; rfl) (by decide) rfl (fun ls hl => ?_)
                        refine lv_goto (tgt := 171) hx hb dX5_tallyLetters_209 (by decide) ?_
                        exact ih171 y_92 ga (by first | omega | decide | assumption) (by omega) _ _ ls hP hD hS (lv_sub hl [0, 1, 2, 3, 4, 5, 6, 7, 8] rfl)
                      · have tk_91 := c_ne (a := y_90.toInt) (b := 0) rfl (by decide) k_91
                        refine lv_aload_n hx hb dX5_tallyLetters_198 rfl (lv_at hl 8 rfl) ?_
                        refine lv_iload hx hb dX5_tallyLetters_199 (lv_at hl 0 rfl) ?_
                        refine lv_dup2_11 hx hb dX5_tallyLetters_201 rfl rfl ?_
                        refine va_iald hx hb hK hP 0 0 rfl rfl (i := kk) (vp_of (a := kk.toInt) rfl (by omega) (by omega)) dX5_tallyLetters_202 ?_
                        refine lv_topi (fun y_93 ey_93 => ?_)
                        have rg_y_93 := i_rng y_93
                        refine lv_iconst (v := 1) hx hb dX5_tallyLetters_203 (by decide) ?_
                        refine lv_iadd hx hb dX5_tallyLetters_204 ?_
                        refine lv_topi (fun y_94 ey_94 => ?_)
                        first | have ty_94 := i_add (a := y_93.toInt) (b := 1) rfl (by decide) ey_94 (by omega) (by omega) | skip
                        refine va_iast hx hb hK hP hD hS 0 0 rfl rfl (i := kk) (vp_of (a := kk.toInt) rfl (by omega) (by omega)) dX5_tallyLetters_205 (fun H locs hP hD hS => ?_)
                        generalize hf_f_95 : upd ga _ _ = f_95 at hP hD
                        have hP : va_P (dC, dI) vwCl [(ta9, .inl (cY, 26, .inl f_95))] H := hP
                        have hD : va_D A [(ta9, .inl (cY, 26, .inl f_95))] := hD
                        have hQ := q_at hQ0 hQA hS
                        obtain ⟨y_96, ey_96⟩ : ∃ y : Int32, y = kk + 1 := ⟨_, rfl⟩
                        first | have ty_96 := i_add (a := kk.toInt) (b := 1) rfl (by decide) ey_96 (by omega) (by omega) | skip
                        refine lv_iinc (v := y_96) (lv' := [(8, .int y_96), (7, .int y_80), (6, .int sp), (5, .int cl), (4, .int aw2), (0, .ref pt), (1, .ref d), (2, .int i9), (3, .ref ta9)]) hx hb dX5_tallyLetters_206 hl (k := 0) rfl (by rw [ey_96]; rfl) (by decide) rfl (fun ls hl => ?_)
                        refine lv_goto (tgt := 171) hx hb dX5_tallyLetters_209 (by decide) ?_
                        exact ih171 y_96 f_95 (by first | omega | decide | assumption) (by omega) _ _ ls hP hD hS (lv_sub hl [0, 1, 2, 3, 4, 5, 6, 7, 8] rfl)
              have lit_96 : (0 : Int32).toInt = 0 := by decide
              exact loop171 _ 0 f (by first | omega | decide | assumption) (Nat.lt_succ_self _) _ _ ls hP hD hS (lv_sub hl [0, 1, 2, 3, 4, 5, 6, 7, 8] rfl)
            · have tk_77 := c_nge (a := jj.toInt) (b := i9.toInt) rfl rfl k_77
              refine lv_iload hx hb dX5_tallyLetters_94 (lv_at hl 0 rfl) ?_
              refine lv_aload_n hx hb dX5_tallyLetters_96 rfl (lv_at hl 5 rfl) ?_
              refine va_get (D := (dC, dI)) (ci := 2) (v := .ref la_54) (C := RX2) (T := TX2) (N := 2) hx hb hts fin_X5_tallyLetters_X2 hown hKQ hQ k_69 hk_69 rfl 0 (by decide) (hts (.fieldLink RX5 100 "PatternGate$Doc" "letters" "[I") (List.mem_of_getElem? (i := 3) (by decide +kernel))) (fun _ h9 => h9) rfl dX5_tallyLetters_97 ?_
              refine va_alen hx hb hKQ hQ k_70 j_71 hk_70 hj_71 rfl dX5_tallyLetters_100 ?_
              refine lv_topi (fun y_98 ey_98 => ?_)
              have ty_98 : y_98.toInt = (m_56 : Int) := i_len ey_98 (by omega)
              refine lv_icmp_ge (tgt := 155) hx hb dX5_tallyLetters_101 (by decide) (fun k_99 => ?_) (fun k_99 => ?_)
              · have tk_99 := c_ge (a := jj.toInt) (b := y_98.toInt) rfl rfl k_99
                refine lv_aload_n hx hb dX5_tallyLetters_155 rfl (lv_at hl 4 rfl) ?_
                refine va_get (D := (dC, dI)) (ci := 5) (v := .int a_5) (C := RX5) (T := TX5) (N := 13) hx hb hts fin_X5_tallyLetters_X5 hown hKQ hQ k_49 hk_49 rfl 4 (by decide) (hts (.fieldLink RX5 34 "PatternGate$Pattern" "first" "I") (List.mem_of_getElem? (i := 4) (by decide +kernel))) (fun _ h9 => h9) rfl dX5_tallyLetters_156 ?_
                refine lv_aload_n hx hb dX5_tallyLetters_159 rfl (lv_at hl 4 rfl) ?_
                refine lv_iload hx hb dX5_tallyLetters_160 (lv_at hl 1 rfl) ?_
                have hPc : va_P (dC, dI) vwCl [(pt, .inr (5, pF q_1 a_2 a_3 a_4 a_5 a_6 a_7)), (q_1 1, .inl (c_21, n_9, .inl f_15))] H := p_sub hQ (List.forall_mem_cons.mpr ⟨m_26, List.forall_mem_cons.mpr ⟨m_29, fun _ h => absurd h List.not_mem_nil⟩⟩)
                have hKc : va_K (dC, dI) vwCl [(c_21, .int)] s := k_sub hKQ (List.forall_mem_cons.mpr ⟨m_30, fun _ h => absurd h List.not_mem_nil⟩)
                refine vp_callSi (W.runV (As := [.int sp]) (rest := [.int a_5]) ⟨hx, hb, hml, hown, hts⟩ (s_followersOf l dC dI pt q_1 a_2 a_3 a_4 a_5 a_6 a_7 n_9 f_15 c_21 sp (by omega)) (cwV 1 hts mg_X5_tallyLetters_X5_followersOf_105 rfl rfl rfl (by decide +kernel) ⟨Nat.le_of_ble_eq_true rfl, Nat.le_of_ble_eq_true rfl⟩) ⟨fun a U g mk q => by obtain ⟨q0, qP, qK⟩ := q; exact ⟨q0, qP, va_K.moved (u := U) (U := U.calling g mk a) (Vm.Alike.refl U.vm) qK⟩, va_recv hKc hPc (ci := 5) (q0 := 0) rfl rfl, fun U hU hW => ⟨rfl, by rw [hU]; exact hPc, va_K.moved hW.alike hKc⟩⟩ rfl rfl hl.1 rfl (lv_room (Nat.le_of_ble_eq_true rfl)) dX5_tallyLetters_162 ⟨Nat.le_of_ble_eq_true rfl, Nat.le_of_ble_eq_true rfl⟩) (fun r_101 hw => ?_)
                refine lv_ior hx hb dX5_tallyLetters_165 ?_
                refine lv_topi (fun y_102 ey_102 => ?_)
                have rg_y_102 := i_rng y_102
                first | have oy_102 : y_102 = 0 ∨ y_102 = 1 := b_ior (by first | assumption | decide) (by first | assumption | decide) ey_102 | skip
                refine lv_istore (lv' := [(7, .int y_102), (6, .int sp), (5, .int cl), (4, .int aw2), (0, .ref pt), (1, .ref d), (2, .int i9), (3, .ref ta9)]) hx hb dX5_tallyLetters_166 hl (by decide) rfl (fun ls hl => ?_)
                refine lv_iconst (v := 0) hx hb dX5_tallyLetters_168 (by decide) ?_
                refine lv_istore (lv' := [(8, .int 0), (7, .int y_102), (6, .int sp), (5, .int cl), (4, .int aw2), (0, .ref pt), (1, .ref d), (2, .int i9), (3, .ref ta9)]) hx hb dX5_tallyLetters_169 hl (by decide) rfl (fun ls hl => ?_)
                have loop171 : ∀ (n_171 : Nat) (kk : Int32) (ga : Nat → Int32), (0 ≤ kk.toInt) → ((26 - kk.toInt).toNat) < n_171 → ∀ (H : Heap) (locs : List Loc) (ls : Array Slot), va_P (dC, dI) vwCl [(ta9, .inl (cY, 26, .inl ga))] H → va_D A [(ta9, .inl (cY, 26, .inl ga))] → va_S A s.heap H locs → lv_has ls 9 [(8, .int kk), (7, .int y_102), (6, .int sp), (5, .int cl), (4, .int aw2), (0, .ref pt), (1, .ref d), (2, .int i9), (3, .ref ta9)] → W p l e (headSpec mwX5_tallyLetters ({ frames := 1, cells := 0, slots := 0, locals := 60 })).room s m ([.ref pt, .ref d, .int i9, .ref ta9]).toArray below meth c H locs 0 0 (MQ below (va_Qv (fun (_ : Unit) => True) (fun _ t => ∃ f9 : Nat → Int32, va_P (dC, dI) vwCl [(ta9, .inl (cY, 26, .inl f9))] t.heap ∧ va_K (dC, dI) vwCl [(cY, .int)] t ∧ va_D A [(ta9, .inl (cY, 26, .inl f9))]) A) ([.ref pt, .ref d, .int i9, .ref ta9]).toArray s 0 0 A) (F0 m 171 ls []) := by
                  intro n_171
                  induction n_171 with
                  | zero => intro kk ga v171_0 hm171; exact absurd hm171 (Nat.not_lt_zero _)
                  | succ n_171 ih171 =>
                    intro kk ga v171_0 hm171 H locs ls hP hD hS hl
                    have hQ := q_at hQ0 hQA hS
                    have rg_kk := i_rng kk
                    refine lv_iload hx hb dX5_tallyLetters_171 (lv_at hl 0 rfl) ?_
                    refine lv_aload_n hx hb dX5_tallyLetters_173 rfl (lv_at hl 8 rfl) ?_
                    refine va_alen (v := 26) hx hb hK hP 0 0 rfl rfl rfl dX5_tallyLetters_174 ?_
                    refine lv_icmp_ge (tgt := 212) hx hb dX5_tallyLetters_175 (by decide) (fun k_103 => ?_) (fun k_103 => ?_)
                    · have tk_103 := c_ge (a := kk.toInt) (b := 26) rfl (by decide) k_103
                      have hP9 := hP.sub (ws' := [(ta9, .inl (cY, 26, .inl ga))]) [0] rfl
                      have hD9 := hD.sub (ws' := [(ta9, .inl (cY, 26, .inl ga))]) [0] (by decide) rfl
                      have hK9 := hK.sub (tys' := [(cY, .int)]) [0] rfl
                      exact W.vret hx hb hr (fun t ht hW => ⟨⟨(), rfl, trivial, ga, by rw [ht]; exact hP9, va_K.moved hW.alike hK9, hD9⟩, hS.F ht⟩) hS.2.2 dX5_tallyLetters_212
                    · have tk_103 := c_nge (a := kk.toInt) (b := 26) rfl (by decide) k_103
                      refine lv_iload hx hb dX5_tallyLetters_178 (lv_at hl 4 rfl) ?_
                      refine lv_if_ne (tgt := 198) hx hb dX5_tallyLetters_180 (by decide) (fun k_104 => ?_) (fun k_104 => ?_)
                      · have tk_104 := c_ne (a := aw2.toInt) (b := 0) rfl (by decide) k_104
                        refine lv_aload_n hx hb dX5_tallyLetters_198 rfl (lv_at hl 8 rfl) ?_
                        refine lv_iload hx hb dX5_tallyLetters_199 (lv_at hl 0 rfl) ?_
                        refine lv_dup2_11 hx hb dX5_tallyLetters_201 rfl rfl ?_
                        refine va_iald hx hb hK hP 0 0 rfl rfl (i := kk) (vp_of (a := kk.toInt) rfl (by omega) (by omega)) dX5_tallyLetters_202 ?_
                        refine lv_topi (fun y_105 ey_105 => ?_)
                        have rg_y_105 := i_rng y_105
                        refine lv_iconst (v := 1) hx hb dX5_tallyLetters_203 (by decide) ?_
                        refine lv_iadd hx hb dX5_tallyLetters_204 ?_
                        refine lv_topi (fun y_106 ey_106 => ?_)
                        first | have ty_106 := i_add (a := y_105.toInt) (b := 1) rfl (by decide) ey_106 (by omega) (by omega) | skip
                        refine va_iast hx hb hK hP hD hS 0 0 rfl rfl (i := kk) (vp_of (a := kk.toInt) rfl (by omega) (by omega)) dX5_tallyLetters_205 (fun H locs hP hD hS => ?_)
                        generalize hf_f_107 : upd ga _ _ = f_107 at hP hD
                        have hP : va_P (dC, dI) vwCl [(ta9, .inl (cY, 26, .inl f_107))] H := hP
                        have hD : va_D A [(ta9, .inl (cY, 26, .inl f_107))] := hD
                        have hQ := q_at hQ0 hQA hS
                        obtain ⟨y_108, ey_108⟩ : ∃ y : Int32, y = kk + 1 := ⟨_, rfl⟩
                        first | have ty_108 := i_add (a := kk.toInt) (b := 1) rfl (by decide) ey_108 (by omega) (by omega) | skip
                        refine lv_iinc (v := y_108) (lv' := [(8, .int y_108), (7, .int y_102), (6, .int sp), (5, .int cl), (4, .int aw2), (0, .ref pt), (1, .ref d), (2, .int i9), (3, .ref ta9)]) hx hb dX5_tallyLetters_206 hl (k := 0) rfl (by rw [ey_108]; rfl) (by decide) rfl (fun ls hl => ?_)
                        refine lv_goto (tgt := 171) hx hb dX5_tallyLetters_209 (by decide) ?_
                        exact ih171 y_108 f_107 (by first | omega | decide | assumption) (by omega) _ _ ls hP hD hS (lv_sub hl [0, 1, 2, 3, 4, 5, 6, 7, 8] rfl)
                      · have tk_104 := c_eq (a := aw2.toInt) (b := 0) rfl (by decide) k_104
                        refine lv_iload hx hb dX5_tallyLetters_183 (lv_at hl 1 rfl) ?_
                        refine lv_aload_n hx hb dX5_tallyLetters_185 rfl (lv_at hl 5 rfl) ?_
                        refine lv_iload hx hb dX5_tallyLetters_186 (lv_at hl 0 rfl) ?_
                        have hPc : va_P (dC, dI) vwCl [(pt, .inr (5, pF q_1 a_2 a_3 a_4 a_5 a_6 a_7)), (q_1 2, .inl (c_22, n_10, .inl f_16))] H := p_sub hQ (List.forall_mem_cons.mpr ⟨m_26, List.forall_mem_cons.mpr ⟨m_31, fun _ h => absurd h List.not_mem_nil⟩⟩)
                        have hKc : va_K (dC, dI) vwCl [(c_22, .int)] s := k_sub hKQ (List.forall_mem_cons.mpr ⟨m_32, fun _ h => absurd h List.not_mem_nil⟩)
                        refine vp_callSi (W.runV (As := [.int kk]) (rest := [.int y_102]) ⟨hx, hb, hml, hown, hts⟩ (s_takersOf l dC dI pt q_1 a_2 a_3 a_4 a_5 a_6 a_7 n_10 f_16 c_22 kk (by omega)) (cwV 1 hts mg_X5_tallyLetters_X5_takersOf_109 rfl rfl rfl (by decide +kernel) ⟨Nat.le_of_ble_eq_true rfl, Nat.le_of_ble_eq_true rfl⟩) ⟨fun a U g mk q => by obtain ⟨q0, qP, qK⟩ := q; exact ⟨q0, qP, va_K.moved (u := U) (U := U.calling g mk a) (Vm.Alike.refl U.vm) qK⟩, va_recv hKc hPc (ci := 5) (q0 := 0) rfl rfl, fun U hU hW => ⟨rfl, by rw [hU]; exact hPc, va_K.moved hW.alike hKc⟩⟩ rfl rfl hl.1 rfl (lv_room (Nat.le_of_ble_eq_true rfl)) dX5_tallyLetters_188 ⟨Nat.le_of_ble_eq_true rfl, Nat.le_of_ble_eq_true rfl⟩) (fun r_110 hw => ?_)
                        refine lv_iand hx hb dX5_tallyLetters_191 ?_
                        refine lv_topi (fun y_111 ey_111 => ?_)
                        have rg_y_111 := i_rng y_111
                        first | have oy_111 : y_111 = 0 ∨ y_111 = 1 := b_iand (by first | assumption | decide) (by first | assumption | decide) ey_111 | skip
                        refine lv_iload hx hb dX5_tallyLetters_192 (lv_at hl 3 rfl) ?_
                        refine lv_iand hx hb dX5_tallyLetters_194 ?_
                        refine lv_topi (fun y_112 ey_112 => ?_)
                        have rg_y_112 := i_rng y_112
                        first | have oy_112 : y_112 = 0 ∨ y_112 = 1 := b_iand (by first | assumption | decide) (by first | assumption | decide) ey_112 | skip
                        refine lv_if_eq (tgt := 206) hx hb dX5_tallyLetters_195 (by decide) (fun k_113 => ?_) (fun k_113 => ?_)
                        · have tk_113 := c_eq (a := y_112.toInt) (b := 0) rfl (by decide) k_113
                          obtain ⟨y_114, ey_114⟩ : ∃ y : Int32, y = kk + 1 := ⟨_, rfl⟩
                          first | have ty_114 := i_add (a := kk.toInt) (b := 1) rfl (by decide) ey_114 (by omega) (by omega) | skip
                          refine lv_iinc (v := y_114) (lv' := [(8, .int y_114), (7, .int y_102), (6, .int sp), (5, .int cl), (4, .int aw2), (0, .ref pt), (1, .ref d), (2, .int i9), (3, .ref ta9)]) hx hb dX5_tallyLetters_206 hl (k := 0) rfl (by rw [ey_114]; rfl) (by decide) rfl (fun ls hl => ?_)
                          refine lv_goto (tgt := 171) hx hb dX5_tallyLetters_209 (by decide) ?_
                          exact ih171 y_114 ga (by first | omega | decide | assumption) (by omega) _ _ ls hP hD hS (lv_sub hl [0, 1, 2, 3, 4, 5, 6, 7, 8] rfl)
                        · have tk_113 := c_ne (a := y_112.toInt) (b := 0) rfl (by decide) k_113
                          refine lv_aload_n hx hb dX5_tallyLetters_198 rfl (lv_at hl 8 rfl) ?_
                          refine lv_iload hx hb dX5_tallyLetters_199 (lv_at hl 0 rfl) ?_
                          refine lv_dup2_11 hx hb dX5_tallyLetters_201 rfl rfl ?_
                          refine va_iald hx hb hK hP 0 0 rfl rfl (i := kk) (vp_of (a := kk.toInt) rfl (by omega) (by omega)) dX5_tallyLetters_202 ?_
                          refine lv_topi (fun y_115 ey_115 => ?_)
                          have rg_y_115 := i_rng y_115
                          refine lv_iconst (v := 1) hx hb dX5_tallyLetters_203 (by decide) ?_
                          refine lv_iadd hx hb dX5_tallyLetters_204 ?_
                          refine lv_topi (fun y_116 ey_116 => ?_)
                          first | have ty_116 := i_add (a := y_115.toInt) (b := 1) rfl (by decide) ey_116 (by omega) (by omega) | skip
                          refine va_iast hx hb hK hP hD hS 0 0 rfl rfl (i := kk) (vp_of (a := kk.toInt) rfl (by omega) (by omega)) dX5_tallyLetters_205 (fun H locs hP hD hS => ?_)
                          generalize hf_f_117 : upd ga _ _ = f_117 at hP hD
                          have hP : va_P (dC, dI) vwCl [(ta9, .inl (cY, 26, .inl f_117))] H := hP
                          have hD : va_D A [(ta9, .inl (cY, 26, .inl f_117))] := hD
                          have hQ := q_at hQ0 hQA hS
                          obtain ⟨y_118, ey_118⟩ : ∃ y : Int32, y = kk + 1 := ⟨_, rfl⟩
                          first | have ty_118 := i_add (a := kk.toInt) (b := 1) rfl (by decide) ey_118 (by omega) (by omega) | skip
                          refine lv_iinc (v := y_118) (lv' := [(8, .int y_118), (7, .int y_102), (6, .int sp), (5, .int cl), (4, .int aw2), (0, .ref pt), (1, .ref d), (2, .int i9), (3, .ref ta9)]) hx hb dX5_tallyLetters_206 hl (k := 0) rfl (by rw [ey_118]; rfl) (by decide) rfl (fun ls hl => ?_)
                          refine lv_goto (tgt := 171) hx hb dX5_tallyLetters_209 (by decide) ?_
                          exact ih171 y_118 f_117 (by first | omega | decide | assumption) (by omega) _ _ ls hP hD hS (lv_sub hl [0, 1, 2, 3, 4, 5, 6, 7, 8] rfl)
                have lit_118 : (0 : Int32).toInt = 0 := by decide
                exact loop171 _ 0 f (by first | omega | decide | assumption) (Nat.lt_succ_self _) _ _ ls hP hD hS (lv_sub hl [0, 1, 2, 3, 4, 5, 6, 7, 8] rfl)
              · have tk_99 := c_nge (a := jj.toInt) (b := y_98.toInt) rfl rfl k_99
                refine lv_aload_n hx hb dX5_tallyLetters_104 rfl (lv_at hl 4 rfl) ?_
                refine va_get (D := (dC, dI)) (ci := 5) (v := .int a_5) (C := RX5) (T := TX5) (N := 13) hx hb hts fin_X5_tallyLetters_X5 hown hKQ hQ k_49 hk_49 rfl 4 (by decide) (hts (.fieldLink RX5 34 "PatternGate$Pattern" "first" "I") (List.mem_of_getElem? (i := 4) (by decide +kernel))) (fun _ h9 => h9) rfl dX5_tallyLetters_105 ?_
                refine lv_aload_n hx hb dX5_tallyLetters_108 rfl (lv_at hl 4 rfl) ?_
                refine lv_iload hx hb dX5_tallyLetters_109 (lv_at hl 1 rfl) ?_
                have hPc : va_P (dC, dI) vwCl [(pt, .inr (5, pF q_1 a_2 a_3 a_4 a_5 a_6 a_7)), (q_1 1, .inl (c_21, n_9, .inl f_15))] H := p_sub hQ (List.forall_mem_cons.mpr ⟨m_26, List.forall_mem_cons.mpr ⟨m_29, fun _ h => absurd h List.not_mem_nil⟩⟩)
                have hKc : va_K (dC, dI) vwCl [(c_21, .int)] s := k_sub hKQ (List.forall_mem_cons.mpr ⟨m_30, fun _ h => absurd h List.not_mem_nil⟩)
                refine vp_callSi (W.runV (As := [.int sp]) (rest := [.int a_5]) ⟨hx, hb, hml, hown, hts⟩ (s_followersOf l dC dI pt q_1 a_2 a_3 a_4 a_5 a_6 a_7 n_9 f_15 c_21 sp (by omega)) (cwV 1 hts mg_X5_tallyLetters_X5_followersOf_105 rfl rfl rfl (by decide +kernel) ⟨Nat.le_of_ble_eq_true rfl, Nat.le_of_ble_eq_true rfl⟩) ⟨fun a U g mk q => by obtain ⟨q0, qP, qK⟩ := q; exact ⟨q0, qP, va_K.moved (u := U) (U := U.calling g mk a) (Vm.Alike.refl U.vm) qK⟩, va_recv hKc hPc (ci := 5) (q0 := 0) rfl rfl, fun U hU hW => ⟨rfl, by rw [hU]; exact hPc, va_K.moved hW.alike hKc⟩⟩ rfl rfl hl.1 rfl (lv_room (Nat.le_of_ble_eq_true rfl)) dX5_tallyLetters_111 ⟨Nat.le_of_ble_eq_true rfl, Nat.le_of_ble_eq_true rfl⟩) (fun r_121 hw => ?_)
                refine lv_ior hx hb dX5_tallyLetters_114 ?_
                refine lv_topi (fun y_122 ey_122 => ?_)
                have rg_y_122 := i_rng y_122
                first | have oy_122 : y_122 = 0 ∨ y_122 = 1 := b_ior (by first | assumption | decide) (by first | assumption | decide) ey_122 | skip
                refine lv_aload_n hx hb dX5_tallyLetters_115 rfl (lv_at hl 4 rfl) ?_
                refine lv_aload_n hx hb dX5_tallyLetters_116 rfl (lv_at hl 5 rfl) ?_
                refine va_get (D := (dC, dI)) (ci := 2) (v := .ref la_54) (C := RX2) (T := TX2) (N := 2) hx hb hts fin_X5_tallyLetters_X2 hown hKQ hQ k_69 hk_69 rfl 0 (by decide) (hts (.fieldLink RX5 100 "PatternGate$Doc" "letters" "[I") (List.mem_of_getElem? (i := 3) (by decide +kernel))) (fun _ h9 => h9) rfl dX5_tallyLetters_117 ?_
                refine lv_iload hx hb dX5_tallyLetters_120 (lv_at hl 0 rfl) ?_
                refine va_iald hx hb hKQ hQ k_70 j_71 hk_70 hj_71 (i := jj) (vp_of (a := jj.toInt) rfl (by omega) (by omega)) dX5_tallyLetters_122 ?_
                refine lv_topi (fun y_123 ey_123 => ?_)
                have rg_y_123 := i_rng y_123
                have hPc : va_P (dC, dI) vwCl [(pt, .inr (5, pF q_1 a_2 a_3 a_4 a_5 a_6 a_7)), (q_1 2, .inl (c_22, n_10, .inl f_16))] H := p_sub hQ (List.forall_mem_cons.mpr ⟨m_26, List.forall_mem_cons.mpr ⟨m_31, fun _ h => absurd h List.not_mem_nil⟩⟩)
                have hKc : va_K (dC, dI) vwCl [(c_22, .int)] s := k_sub hKQ (List.forall_mem_cons.mpr ⟨m_32, fun _ h => absurd h List.not_mem_nil⟩)
                refine vp_callSi (W.runV (As := [.int y_123]) (rest := [.int y_122]) ⟨hx, hb, hml, hown, hts⟩ (s_takersOf l dC dI pt q_1 a_2 a_3 a_4 a_5 a_6 a_7 n_10 f_16 c_22 y_123 (by omega)) (cwV 1 hts mg_X5_tallyLetters_X5_takersOf_109 rfl rfl rfl (by decide +kernel) ⟨Nat.le_of_ble_eq_true rfl, Nat.le_of_ble_eq_true rfl⟩) ⟨fun a U g mk q => by obtain ⟨q0, qP, qK⟩ := q; exact ⟨q0, qP, va_K.moved (u := U) (U := U.calling g mk a) (Vm.Alike.refl U.vm) qK⟩, va_recv hKc hPc (ci := 5) (q0 := 0) rfl rfl, fun U hU hW => ⟨rfl, by rw [hU]; exact hPc, va_K.moved hW.alike hKc⟩⟩ rfl rfl hl.1 rfl (lv_room (Nat.le_of_ble_eq_true rfl)) dX5_tallyLetters_123 ⟨Nat.le_of_ble_eq_true rfl, Nat.le_of_ble_eq_true rfl⟩) (fun r_125 hw => ?_)
                refine lv_iand hx hb dX5_tallyLetters_126 ?_
                refine lv_topi (fun y_126 ey_126 => ?_)
                have rg_y_126 := i_rng y_126
                first | have oy_126 : y_126 = 0 ∨ y_126 = 1 := b_iand (by first | assumption | decide) (by first | assumption | decide) ey_126 | skip
                refine lv_istore (lv' := [(6, .int y_126), (7, .int jj), (5, .int cl), (4, .int aw2), (0, .ref pt), (1, .ref d), (2, .int i9), (3, .ref ta9)]) hx hb dX5_tallyLetters_127 hl (by decide) rfl (fun ls hl => ?_)
                refine lv_iload hx hb dX5_tallyLetters_129 (lv_at hl 3 rfl) ?_
                refine lv_iload hx hb dX5_tallyLetters_131 (lv_at hl 0 rfl) ?_
                refine lv_aload_n hx hb dX5_tallyLetters_133 rfl (lv_at hl 4 rfl) ?_
                refine va_get (D := (dC, dI)) (ci := 5) (v := .int a_6) (C := RX5) (T := TX5) (N := 13) hx hb hts fin_X5_tallyLetters_X5 hown hKQ hQ k_49 hk_49 rfl 5 (by decide) (hts (.fieldLink RX5 38 "PatternGate$Pattern" "last" "I") (List.mem_of_getElem? (i := 2) (by decide +kernel))) (fun _ h9 => h9) rfl dX5_tallyLetters_134 ?_
                refine lv_iand hx hb dX5_tallyLetters_137 ?_
                refine lv_topi (fun y_127 ey_127 => ?_)
                have rg_y_127 := i_rng y_127
                first | have oy_127 : y_127 = 0 ∨ y_127 = 1 := b_iand (by first | assumption | decide) (by first | assumption | decide) ey_127 | skip
                refine lv_if_eq (tgt := 145) hx hb dX5_tallyLetters_138 (by decide) (fun k_128 => ?_) (fun k_128 => ?_)
                · have tk_128 := c_eq (a := y_127.toInt) (b := 0) rfl (by decide) k_128
                  refine lv_iconst (v := 0) hx hb dX5_tallyLetters_145 (by decide) ?_
                  refine lv_ior hx hb dX5_tallyLetters_146 ?_
                  refine lv_topi (fun y_129 ey_129 => ?_)
                  have rg_y_129 := i_rng y_129
                  first | have oy_129 : y_129 = 0 ∨ y_129 = 1 := b_ior (by first | assumption | decide) (by first | assumption | decide) ey_129 | skip
                  refine lv_istore (lv' := [(4, .int y_129), (6, .int y_126), (7, .int jj), (5, .int cl), (0, .ref pt), (1, .ref d), (2, .int i9), (3, .ref ta9)]) hx hb dX5_tallyLetters_147 hl (by decide) rfl (fun ls hl => ?_)
                  obtain ⟨y_130, ey_130⟩ : ∃ y : Int32, y = jj + 1 := ⟨_, rfl⟩
                  first | have ty_130 := i_add (a := jj.toInt) (b := 1) rfl (by decide) ey_130 (by omega) (by omega) | skip
                  refine lv_iinc (v := y_130) (lv' := [(7, .int y_130), (4, .int y_129), (6, .int y_126), (5, .int cl), (0, .ref pt), (1, .ref d), (2, .int i9), (3, .ref ta9)]) hx hb dX5_tallyLetters_149 hl (k := 2) rfl (by rw [ey_130]; rfl) (by decide) rfl (fun ls hl => ?_)
                  refine lv_goto (tgt := 88) hx hb dX5_tallyLetters_152 (by decide) ?_
                  exact ih88 y_129 y_126 y_130 (by first | omega | decide | assumption) (by omega) _ _ ls hP hD hS (lv_sub hl [0, 2, 3, 1, 4, 5, 6, 7] rfl)
                · have tk_128 := c_ne (a := y_127.toInt) (b := 0) rfl (by decide) k_128
                  refine lv_iconst (v := 1) hx hb dX5_tallyLetters_141 (by decide) ?_
                  refine lv_goto (tgt := 146) hx hb dX5_tallyLetters_142 (by decide) ?_
                  refine lv_ior hx hb dX5_tallyLetters_146 ?_
                  refine lv_topi (fun y_131 ey_131 => ?_)
                  have rg_y_131 := i_rng y_131
                  first | have oy_131 : y_131 = 0 ∨ y_131 = 1 := b_ior (by first | assumption | decide) (by first | assumption | decide) ey_131 | skip
                  refine lv_istore (lv' := [(4, .int y_131), (6, .int y_126), (7, .int jj), (5, .int cl), (0, .ref pt), (1, .ref d), (2, .int i9), (3, .ref ta9)]) hx hb dX5_tallyLetters_147 hl (by decide) rfl (fun ls hl => ?_)
                  obtain ⟨y_132, ey_132⟩ : ∃ y : Int32, y = jj + 1 := ⟨_, rfl⟩
                  first | have ty_132 := i_add (a := jj.toInt) (b := 1) rfl (by decide) ey_132 (by omega) (by omega) | skip
                  refine lv_iinc (v := y_132) (lv' := [(7, .int y_132), (4, .int y_131), (6, .int y_126), (5, .int cl), (0, .ref pt), (1, .ref d), (2, .int i9), (3, .ref ta9)]) hx hb dX5_tallyLetters_149 hl (k := 2) rfl (by rw [ey_132]; rfl) (by decide) rfl (fun ls hl => ?_)
                  refine lv_goto (tgt := 88) hx hb dX5_tallyLetters_152 (by decide) ?_
                  exact ih88 y_131 y_126 y_132 (by first | omega | decide | assumption) (by omega) _ _ ls hP hD hS (lv_sub hl [0, 2, 3, 1, 4, 5, 6, 7] rfl)
        have lit_132 : (0 : Int32).toInt = 0 := by decide
        have lit_133 : (0 : Int32).toInt = 0 := by decide
        exact loop88 _ aw 0 0 (by first | omega | decide | assumption) (Nat.lt_succ_self _) _ _ ls hP hD hS (lv_sub hl [0, 1, 2, 3, 4, 5, 6, 7] rfl)
      · have tk_76 := c_nle (a := ii.toInt) (b := i9.toInt) rfl rfl k_76
        refine lv_aload_n hx hb dX5_tallyLetters_27 rfl (lv_at hl 3 rfl) ?_
        refine lv_aload_n hx hb dX5_tallyLetters_28 rfl (lv_at hl 4 rfl) ?_
        refine va_get (D := (dC, dI)) (ci := 2) (v := .ref la_54) (C := RX2) (T := TX2) (N := 2) hx hb hts fin_X5_tallyLetters_X2 hown hKQ hQ k_69 hk_69 rfl 0 (by decide) (hts (.fieldLink RX5 100 "PatternGate$Doc" "letters" "[I") (List.mem_of_getElem? (i := 3) (by decide +kernel))) (fun _ h9 => h9) rfl dX5_tallyLetters_29 ?_
        refine lv_iload hx hb dX5_tallyLetters_32 (lv_at hl 0 rfl) ?_
        refine va_iald hx hb hKQ hQ k_70 j_71 hk_70 hj_71 (i := ii) (vp_of (a := ii.toInt) rfl (by omega) (by omega)) dX5_tallyLetters_34 ?_
        refine lv_topi (fun y_135 ey_135 => ?_)
        have rg_y_135 := i_rng y_135
        have hPc : va_P (dC, dI) vwCl [(pt, .inr (5, pF q_1 a_2 a_3 a_4 a_5 a_6 a_7)), (q_1 2, .inl (c_22, n_10, .inl f_16))] H := p_sub hQ (List.forall_mem_cons.mpr ⟨m_26, List.forall_mem_cons.mpr ⟨m_31, fun _ h => absurd h List.not_mem_nil⟩⟩)
        have hKc : va_K (dC, dI) vwCl [(c_22, .int)] s := k_sub hKQ (List.forall_mem_cons.mpr ⟨m_32, fun _ h => absurd h List.not_mem_nil⟩)
        refine vp_callSi (W.runV (As := [.int y_135]) (rest := []) ⟨hx, hb, hml, hown, hts⟩ (s_takersOf l dC dI pt q_1 a_2 a_3 a_4 a_5 a_6 a_7 n_10 f_16 c_22 y_135 (by omega)) (cwV 1 hts mg_X5_tallyLetters_X5_takersOf_109 rfl rfl rfl (by decide +kernel) ⟨Nat.le_of_ble_eq_true rfl, Nat.le_of_ble_eq_true rfl⟩) ⟨fun a U g mk q => by obtain ⟨q0, qP, qK⟩ := q; exact ⟨q0, qP, va_K.moved (u := U) (U := U.calling g mk a) (Vm.Alike.refl U.vm) qK⟩, va_recv hKc hPc (ci := 5) (q0 := 0) rfl rfl, fun U hU hW => ⟨rfl, by rw [hU]; exact hPc, va_K.moved hW.alike hKc⟩⟩ rfl rfl hl.1 rfl (lv_room (Nat.le_of_ble_eq_true rfl)) dX5_tallyLetters_35 ⟨Nat.le_of_ble_eq_true rfl, Nat.le_of_ble_eq_true rfl⟩) (fun r_137 hw => ?_)
        refine lv_iload hx hb dX5_tallyLetters_38 (lv_at hl 1 rfl) ?_
        refine lv_iand hx hb dX5_tallyLetters_40 ?_
        refine lv_topi (fun y_138 ey_138 => ?_)
        have rg_y_138 := i_rng y_138
        first | have oy_138 : y_138 = 0 ∨ y_138 = 1 := b_iand (by first | assumption | decide) (by first | assumption | decide) ey_138 | skip
        refine lv_istore (lv' := [(7, .int y_138), (6, .int ii), (5, .int cl), (4, .int aw), (0, .ref pt), (1, .ref d), (2, .int i9), (3, .ref ta9)]) hx hb dX5_tallyLetters_41 hl (by decide) rfl (fun ls hl => ?_)
        refine lv_iload hx hb dX5_tallyLetters_43 (lv_at hl 3 rfl) ?_
        refine lv_aload_n hx hb dX5_tallyLetters_45 rfl (lv_at hl 4 rfl) ?_
        refine va_get (D := (dC, dI)) (ci := 5) (v := .int a_5) (C := RX5) (T := TX5) (N := 13) hx hb hts fin_X5_tallyLetters_X5 hown hKQ hQ k_49 hk_49 rfl 4 (by decide) (hts (.fieldLink RX5 34 "PatternGate$Pattern" "first" "I") (List.mem_of_getElem? (i := 4) (by decide +kernel))) (fun _ h9 => h9) rfl dX5_tallyLetters_46 ?_
        refine lv_iload hx hb dX5_tallyLetters_49 (lv_at hl 0 rfl) ?_
        refine lv_iand hx hb dX5_tallyLetters_51 ?_
        refine lv_topi (fun y_139 ey_139 => ?_)
        have rg_y_139 := i_rng y_139
        first | have oy_139 : y_139 = 0 ∨ y_139 = 1 := b_iand (by first | assumption | decide) (by first | assumption | decide) ey_139 | skip
        refine lv_if_eq (tgt := 59) hx hb dX5_tallyLetters_52 (by decide) (fun k_140 => ?_) (fun k_140 => ?_)
        · have tk_140 := c_eq (a := y_139.toInt) (b := 0) rfl (by decide) k_140
          refine lv_iconst (v := 0) hx hb dX5_tallyLetters_59 (by decide) ?_
          refine lv_ior hx hb dX5_tallyLetters_60 ?_
          refine lv_topi (fun y_141 ey_141 => ?_)
          have rg_y_141 := i_rng y_141
          first | have oy_141 : y_141 = 0 ∨ y_141 = 1 := b_ior (by first | assumption | decide) (by first | assumption | decide) ey_141 | skip
          refine lv_istore (lv' := [(4, .int y_141), (7, .int y_138), (6, .int ii), (5, .int cl), (0, .ref pt), (1, .ref d), (2, .int i9), (3, .ref ta9)]) hx hb dX5_tallyLetters_61 hl (by decide) rfl (fun ls hl => ?_)
          refine lv_aload_n hx hb dX5_tallyLetters_63 rfl (lv_at hl 4 rfl) ?_
          refine va_get (D := (dC, dI)) (ci := 5) (v := .int a_6) (C := RX5) (T := TX5) (N := 13) hx hb hts fin_X5_tallyLetters_X5 hown hKQ hQ k_49 hk_49 rfl 5 (by decide) (hts (.fieldLink RX5 38 "PatternGate$Pattern" "last" "I") (List.mem_of_getElem? (i := 2) (by decide +kernel))) (fun _ h9 => h9) rfl dX5_tallyLetters_64 ?_
          refine lv_aload_n hx hb dX5_tallyLetters_67 rfl (lv_at hl 4 rfl) ?_
          refine lv_iload hx hb dX5_tallyLetters_68 (lv_at hl 1 rfl) ?_
          have hPc : va_P (dC, dI) vwCl [(pt, .inr (5, pF q_1 a_2 a_3 a_4 a_5 a_6 a_7)), (q_1 1, .inl (c_21, n_9, .inl f_15))] H := p_sub hQ (List.forall_mem_cons.mpr ⟨m_26, List.forall_mem_cons.mpr ⟨m_29, fun _ h => absurd h List.not_mem_nil⟩⟩)
          have hKc : va_K (dC, dI) vwCl [(c_21, .int)] s := k_sub hKQ (List.forall_mem_cons.mpr ⟨m_30, fun _ h => absurd h List.not_mem_nil⟩)
          refine vp_callSi (W.runV (As := [.int y_138]) (rest := [.int a_6]) ⟨hx, hb, hml, hown, hts⟩ (s_leadersTo l dC dI pt q_1 a_2 a_3 a_4 a_5 a_6 a_7 n_9 f_15 c_21 y_138 (by omega)) (cwV 1 hts mg_X5_tallyLetters_X5_leadersTo_122 rfl rfl rfl (by decide +kernel) ⟨Nat.le_of_ble_eq_true rfl, Nat.le_of_ble_eq_true rfl⟩) ⟨fun a U g mk q => by obtain ⟨q0, qP, qK⟩ := q; exact ⟨q0, qP, va_K.moved (u := U) (U := U.calling g mk a) (Vm.Alike.refl U.vm) qK⟩, va_recv hKc hPc (ci := 5) (q0 := 0) rfl rfl, fun U hU hW => ⟨rfl, by rw [hU]; exact hPc, va_K.moved hW.alike hKc⟩⟩ rfl rfl hl.1 rfl (lv_room (Nat.le_of_ble_eq_true rfl)) dX5_tallyLetters_70 ⟨Nat.le_of_ble_eq_true rfl, Nat.le_of_ble_eq_true rfl⟩) (fun r_143 hw => ?_)
          refine lv_ior hx hb dX5_tallyLetters_73 ?_
          refine lv_topi (fun y_144 ey_144 => ?_)
          have rg_y_144 := i_rng y_144
          first | have oy_144 : y_144 = 0 ∨ y_144 = 1 := b_ior (by first | assumption | decide) (by first | assumption | decide) ey_144 | skip
          refine lv_istore (lv' := [(5, .int y_144), (4, .int y_141), (7, .int y_138), (6, .int ii), (0, .ref pt), (1, .ref d), (2, .int i9), (3, .ref ta9)]) hx hb dX5_tallyLetters_74 hl (by decide) rfl (fun ls hl => ?_)
          obtain ⟨y_145, ey_145⟩ : ∃ y : Int32, y = ii + (-1) := ⟨_, rfl⟩
          first | have ty_145 := i_add (a := ii.toInt) (b := (-1)) rfl (by decide) ey_145 (by omega) (by omega) | skip
          refine lv_iinc (v := y_145) (lv' := [(6, .int y_145), (5, .int y_144), (4, .int y_141), (7, .int y_138), (0, .ref pt), (1, .ref d), (2, .int i9), (3, .ref ta9)]) hx hb dX5_tallyLetters_76 hl (k := 3) rfl (by rw [ey_145]; rfl) (by decide) rfl (fun ls hl => ?_)
          refine lv_goto (tgt := 21) hx hb dX5_tallyLetters_79 (by decide) ?_
          exact ih21 y_141 y_144 y_145 (by first | omega | decide | assumption) (by omega) _ _ ls hP hD hS (lv_sub hl [0, 1, 2, 4, 5, 6, 7] rfl)
        · have tk_140 := c_ne (a := y_139.toInt) (b := 0) rfl (by decide) k_140
          refine lv_iconst (v := 1) hx hb dX5_tallyLetters_55 (by decide) ?_
          refine lv_goto (tgt := 60) hx hb dX5_tallyLetters_56 (by decide) ?_
          refine lv_ior hx hb dX5_tallyLetters_60 ?_
          refine lv_topi (fun y_146 ey_146 => ?_)
          have rg_y_146 := i_rng y_146
          first | have oy_146 : y_146 = 0 ∨ y_146 = 1 := b_ior (by first | assumption | decide) (by first | assumption | decide) ey_146 | skip
          refine lv_istore (lv' := [(4, .int y_146), (7, .int y_138), (6, .int ii), (5, .int cl), (0, .ref pt), (1, .ref d), (2, .int i9), (3, .ref ta9)]) hx hb dX5_tallyLetters_61 hl (by decide) rfl (fun ls hl => ?_)
          refine lv_aload_n hx hb dX5_tallyLetters_63 rfl (lv_at hl 4 rfl) ?_
          refine va_get (D := (dC, dI)) (ci := 5) (v := .int a_6) (C := RX5) (T := TX5) (N := 13) hx hb hts fin_X5_tallyLetters_X5 hown hKQ hQ k_49 hk_49 rfl 5 (by decide) (hts (.fieldLink RX5 38 "PatternGate$Pattern" "last" "I") (List.mem_of_getElem? (i := 2) (by decide +kernel))) (fun _ h9 => h9) rfl dX5_tallyLetters_64 ?_
          refine lv_aload_n hx hb dX5_tallyLetters_67 rfl (lv_at hl 4 rfl) ?_
          refine lv_iload hx hb dX5_tallyLetters_68 (lv_at hl 1 rfl) ?_
          have hPc : va_P (dC, dI) vwCl [(pt, .inr (5, pF q_1 a_2 a_3 a_4 a_5 a_6 a_7)), (q_1 1, .inl (c_21, n_9, .inl f_15))] H := p_sub hQ (List.forall_mem_cons.mpr ⟨m_26, List.forall_mem_cons.mpr ⟨m_29, fun _ h => absurd h List.not_mem_nil⟩⟩)
          have hKc : va_K (dC, dI) vwCl [(c_21, .int)] s := k_sub hKQ (List.forall_mem_cons.mpr ⟨m_30, fun _ h => absurd h List.not_mem_nil⟩)
          refine vp_callSi (W.runV (As := [.int y_138]) (rest := [.int a_6]) ⟨hx, hb, hml, hown, hts⟩ (s_leadersTo l dC dI pt q_1 a_2 a_3 a_4 a_5 a_6 a_7 n_9 f_15 c_21 y_138 (by omega)) (cwV 1 hts mg_X5_tallyLetters_X5_leadersTo_122 rfl rfl rfl (by decide +kernel) ⟨Nat.le_of_ble_eq_true rfl, Nat.le_of_ble_eq_true rfl⟩) ⟨fun a U g mk q => by obtain ⟨q0, qP, qK⟩ := q; exact ⟨q0, qP, va_K.moved (u := U) (U := U.calling g mk a) (Vm.Alike.refl U.vm) qK⟩, va_recv hKc hPc (ci := 5) (q0 := 0) rfl rfl, fun U hU hW => ⟨rfl, by rw [hU]; exact hPc, va_K.moved hW.alike hKc⟩⟩ rfl rfl hl.1 rfl (lv_room (Nat.le_of_ble_eq_true rfl)) dX5_tallyLetters_70 ⟨Nat.le_of_ble_eq_true rfl, Nat.le_of_ble_eq_true rfl⟩) (fun r_148 hw => ?_)
          refine lv_ior hx hb dX5_tallyLetters_73 ?_
          refine lv_topi (fun y_149 ey_149 => ?_)
          have rg_y_149 := i_rng y_149
          first | have oy_149 : y_149 = 0 ∨ y_149 = 1 := b_ior (by first | assumption | decide) (by first | assumption | decide) ey_149 | skip
          refine lv_istore (lv' := [(5, .int y_149), (4, .int y_146), (7, .int y_138), (6, .int ii), (0, .ref pt), (1, .ref d), (2, .int i9), (3, .ref ta9)]) hx hb dX5_tallyLetters_74 hl (by decide) rfl (fun ls hl => ?_)
          obtain ⟨y_150, ey_150⟩ : ∃ y : Int32, y = ii + (-1) := ⟨_, rfl⟩
          first | have ty_150 := i_add (a := ii.toInt) (b := (-1)) rfl (by decide) ey_150 (by omega) (by omega) | skip
          refine lv_iinc (v := y_150) (lv' := [(6, .int y_150), (5, .int y_149), (4, .int y_146), (7, .int y_138), (0, .ref pt), (1, .ref d), (2, .int i9), (3, .ref ta9)]) hx hb dX5_tallyLetters_76 hl (k := 3) rfl (by rw [ey_150]; rfl) (by decide) rfl (fun ls hl => ?_)
          refine lv_goto (tgt := 21) hx hb dX5_tallyLetters_79 (by decide) ?_
          exact ih21 y_146 y_149 y_150 (by first | omega | decide | assumption) (by omega) _ _ ls hP hD hS (lv_sub hl [0, 1, 2, 4, 5, 6, 7] rfl)
  exact loop21 _ a_3 a_6 y_75 (by first | omega | decide | assumption) (Nat.lt_succ_self _) _ _ ls hP hD hS (lv_sub hl [0, 1, 2, 3, 4, 5, 6] rfl)
theorem dX0_allTriples_0 : decode cX0_allTriples 0 = .ok (.iconst 0, 1) := by decide +kernel
theorem dX0_allTriples_1 : decode cX0_allTriples 1 = .ok (.istore_n 1, 1) := by decide +kernel
theorem dX0_allTriples_2 : decode cX0_allTriples 2 = .ok (.iconst 0, 1) := by decide +kernel
theorem dX0_allTriples_3 : decode cX0_allTriples 3 = .ok (.istore_n 2, 1) := by decide +kernel
theorem dX0_allTriples_4 : decode cX0_allTriples 4 = .ok (.iload_n 2, 1) := by decide +kernel
theorem dX0_allTriples_5 : decode cX0_allTriples 5 = .ok (.aload_n 0, 1) := by decide +kernel
theorem dX0_allTriples_6 : decode cX0_allTriples 6 = .ok (.getfield 7, 3) := by decide +kernel
theorem dX0_allTriples_9 : decode cX0_allTriples 9 = .ok (.arraylength, 1) := by decide +kernel
theorem dX0_allTriples_10 : decode cX0_allTriples 10 = .ok (.if_icmp .ge 74, 3) := by decide +kernel
theorem dX0_allTriples_13 : decode cX0_allTriples 13 = .ok (.aload_n 0, 1) := by decide +kernel
theorem dX0_allTriples_14 : decode cX0_allTriples 14 = .ok (.getfield 7, 3) := by decide +kernel
theorem dX0_allTriples_17 : decode cX0_allTriples 17 = .ok (.iload_n 2, 1) := by decide +kernel
theorem dX0_allTriples_18 : decode cX0_allTriples 18 = .ok (.aaload, 1) := by decide +kernel
theorem dX0_allTriples_19 : decode cX0_allTriples 19 = .ok (.ifnonnull 7, 3) := by decide +kernel
theorem dX0_allTriples_26 : decode cX0_allTriples 26 = .ok (.aload_n 0, 1) := by decide +kernel
theorem dX0_allTriples_27 : decode cX0_allTriples 27 = .ok (.getfield 7, 3) := by decide +kernel
theorem dX0_allTriples_30 : decode cX0_allTriples 30 = .ok (.iload_n 2, 1) := by decide +kernel
theorem dX0_allTriples_31 : decode cX0_allTriples 31 = .ok (.aaload, 1) := by decide +kernel
theorem dX0_allTriples_32 : decode cX0_allTriples 32 = .ok (.getfield 31, 3) := by decide +kernel
theorem dX0_allTriples_35 : decode cX0_allTriples 35 = .ok (.arraylength, 1) := by decide +kernel
theorem dX0_allTriples_36 : decode cX0_allTriples 36 = .ok (.istore_n 3, 1) := by decide +kernel
theorem dX0_allTriples_37 : decode cX0_allTriples 37 = .ok (.iconst 0, 1) := by decide +kernel
theorem dX0_allTriples_38 : decode cX0_allTriples 38 = .ok (.istore 4, 2) := by decide +kernel
theorem dX0_allTriples_40 : decode cX0_allTriples 40 = .ok (.iload 4, 2) := by decide +kernel
theorem dX0_allTriples_42 : decode cX0_allTriples 42 = .ok (.iload_n 3, 1) := by decide +kernel
theorem dX0_allTriples_43 : decode cX0_allTriples 43 = .ok (.if_icmp .ge 35, 3) := by decide +kernel
theorem dX0_allTriples_46 : decode cX0_allTriples 46 = .ok (.aload_n 0, 1) := by decide +kernel
theorem dX0_allTriples_47 : decode cX0_allTriples 47 = .ok (.aload_n 0, 1) := by decide +kernel
theorem dX0_allTriples_48 : decode cX0_allTriples 48 = .ok (.getfield 7, 3) := by decide +kernel
theorem dX0_allTriples_51 : decode cX0_allTriples 51 = .ok (.iload_n 2, 1) := by decide +kernel
theorem dX0_allTriples_52 : decode cX0_allTriples 52 = .ok (.aaload, 1) := by decide +kernel
theorem dX0_allTriples_53 : decode cX0_allTriples 53 = .ok (.getfield 31, 3) := by decide +kernel
theorem dX0_allTriples_56 : decode cX0_allTriples 56 = .ok (.iload 4, 2) := by decide +kernel
theorem dX0_allTriples_58 : decode cX0_allTriples 58 = .ok (.iaload, 1) := by decide +kernel
theorem dX0_allTriples_59 : decode cX0_allTriples 59 = .ok (.invokevirtual 34, 3) := by decide +kernel
theorem dX0_allTriples_62 : decode cX0_allTriples 62 = .ok (.invokestatic 38, 3) := by decide +kernel
theorem dX0_allTriples_65 : decode cX0_allTriples 65 = .ok (.iload_n 2, 1) := by decide +kernel
theorem dX0_allTriples_66 : decode cX0_allTriples 66 = .ok (.if_icmp .ne 6, 3) := by decide +kernel
theorem dX0_allTriples_69 : decode cX0_allTriples 69 = .ok (.iinc 1 1, 3) := by decide +kernel
theorem dX0_allTriples_72 : decode cX0_allTriples 72 = .ok (.iinc 4 1, 3) := by decide +kernel
theorem dX0_allTriples_75 : decode cX0_allTriples 75 = .ok (.goto (-35), 3) := by decide +kernel
theorem dX0_allTriples_78 : decode cX0_allTriples 78 = .ok (.iinc 2 1, 3) := by decide +kernel
theorem dX0_allTriples_81 : decode cX0_allTriples 81 = .ok (.goto (-77), 3) := by decide +kernel
theorem dX0_allTriples_84 : decode cX0_allTriples 84 = .ok (.iload_n 1, 1) := by decide +kernel
theorem dX0_allTriples_85 : decode cX0_allTriples 85 = .ok (.ireturn, 1) := by decide +kernel
def mwX0_allTriples : List Cond := .code yX0_allTriples cX0_allTriples 5 (some .int) :: ([.fieldLink RX0 7 "PatternGate$Book" "docs" "[LPatternGate$Doc;", .fieldLink RX0 31 "PatternGate$Doc" "triples" "[I", .code yX0_listBits cX0_listBits 4 (some .int), .code yX2_has cX2_has 5 (some .boolean), .fieldLink RX2 15 "PatternGate$Doc" "triples" "[I", .methodLink RX0 21 yX2_has, .instanceMethod yX2_has, .selects RX2 yX2_has yX2_has, .initialized RX2, .methodLink RX0 34 yX0_listBits, .instanceMethod yX0_listBits, .selects RX0 yX0_listBits yX0_listBits, .initialized RX0, .code yJ6_numberOfTrailingZeros_0f7a4 cJ6_numberOfTrailingZeros_0f7a4 2 (some .int), .constant RJ6 264 (65536), .methodLink RX0 38 yJ6_numberOfTrailingZeros_0f7a4, .static yJ6_numberOfTrailingZeros_0f7a4, .initialized RJ6] ++ wsX00 ++ wsX20)
theorem fin_X0_allTriples_X0 : ∀ w ∈ wsX00, w ∈ mwX0_allTriples := fun w h => List.mem_cons_of_mem _ (List.mem_append_left _ (List.mem_append_right _ h))
theorem fin_X0_allTriples_X2 : ∀ w ∈ wsX20, w ∈ mwX0_allTriples := fun w h => List.mem_cons_of_mem _ (List.mem_append_right _ h)
set_option maxRecDepth 20000 in
theorem mg_X0_allTriples_X0_listBits_34 : GoodIn mwX0_allTriples (wsV RX0 34 RX0 yX0_listBits mwX0_listBits) := goodIn_r _ [10, 11, 12, 13, 3, 1, 4, 5, 6, 7, 8, 9, 19, 20, 21, 22, 23] (by decide +kernel) (by decide +kernel)
set_option maxRecDepth 20000 in
theorem mg_X0_allTriples_J6_numberOfTrailingZeros_0f7a4_38 : GoodIn mwX0_allTriples (va_wsS RX0 38 yJ6_numberOfTrailingZeros_0f7a4 mwJ6_numberOfTrailingZeros_0f7a4) := goodIn_r _ [16, 17, 18, 14, 15] (by decide +kernel) (by decide +kernel)
set_option maxHeartbeats 4000000 in
set_option maxRecDepth 100000 in
/-- Book.allTriples -/
theorem s_allTriples (l : Launch) (dC : Nat → ClassId) (dI : Nat → Nat → Nat) (W9 : va_W) (T9 : List (ClassId × FieldType)) (b : Nat) (hB : poB W9 T9 b) : Met l yX0_allTriples mwX0_allTriples ({ frames := 2, cells := 0, slots := 0, locals := 120 }) (va_Pc [.ref b] (fun U => va_P (dC, dI) vwCl W9 U.heap ∧ va_K (dC, dI) vwCl T9 U)) (vp_Si (fun o => True)) 0 0 (fun _ => False) := by
  refine Met.ofW (cc := cX0_allTriples) (maxL := 5) (ret := (some .int)) (by decide +kernel) rfl ?_
  intro p e s m args below meth c s₁ B hml hv
  obtain ⟨rfl, hQ, hKQ⟩ := hv
  have hx := B.exec
  have hb := B.bytes
  have hr := B.returns
  have hts := atoms_spec (ws := mwX0_allTriples) B.pre
  have hown : s.vm.findClass RX0 = some m.cls := findClass_of_methodNamed B.named
  have hlocks := B.notSynchronized
  generalize hH : s.heap = H at hQ ⊢
  have hl := lv_entry ([.ref b]) (n := 5) (Nat.le_of_ble_eq_true rfl)
  rw [lg_entry_eq]
  generalize (lg_sl ([.ref b]) ++ List.replicate (5 - (lg_sl ([.ref b])).length) Slot.unset).toArray = ls at hl ⊢
  have hl : lv_has ls 5 [(0, .ref b)] := hl
  have hB0 := hB
  obtain ⟨ds, ps, nd, np, ear, fd, fp, cD, cP, m1, m2, m3, m4, m5, hnd, hnp, hds, hps⟩ := hB
  obtain ⟨k_1, hk_1⟩ := List.getElem?_of_mem m1
  obtain ⟨k_2, hk_2⟩ := List.getElem?_of_mem m2
  obtain ⟨j_3, hj_3⟩ := List.getElem?_of_mem m3
  obtain ⟨k_4, hk_4⟩ := List.getElem?_of_mem m4
  obtain ⟨j_5, hj_5⟩ := List.getElem?_of_mem m5
  refine lv_iconst (v := 0) hx hb dX0_allTriples_0 (by decide) ?_
  refine lv_istore_n (lv' := [(1, .int 0), (0, .ref b)]) hx hb dX0_allTriples_1 rfl hl (by decide) rfl (fun ls hl => ?_)
  refine lv_iconst (v := 0) hx hb dX0_allTriples_2 (by decide) ?_
  refine lv_istore_n (lv' := [(2, .int 0), (1, .int 0), (0, .ref b)]) hx hb dX0_allTriples_3 rfl hl (by decide) rfl (fun ls hl => ?_)
  have loop4 : ∀ (n4 : Nat) (tr ii : Int32), (0 ≤ ii.toInt) → (((nd : Int) - ii.toInt).toNat) < n4 → ∀ (ls : Array Slot), lv_has ls 5 [(2, .int ii), (1, .int tr), (0, .ref b)] → W p l e (headSpec mwX0_allTriples ({ frames := 2, cells := 0, slots := 0, locals := 120 })).room s m ([.ref b]).toArray below meth c H [] 0 0 (MQ below (vp_Si (fun o => True)) ([.ref b]).toArray s 0 0 (fun _ => False)) (F0 m 4 ls []) := by
    intro n4
    induction n4 with
    | zero => intro tr ii v4_0 hm4; exact absurd hm4 (Nat.not_lt_zero _)
    | succ n4 ih4 =>
      intro tr ii v4_0 hm4 ls hl
      have rg_tr := i_rng tr
      have rg_ii := i_rng ii
      refine lv_iload_n hx hb dX0_allTriples_4 rfl (lv_at hl 0 rfl) ?_
      refine lv_aload_n hx hb dX0_allTriples_5 rfl (lv_at hl 2 rfl) ?_
      refine va_get (D := (dC, dI)) (ci := 0) (v := .ref ds) (C := RX0) (T := TX0) (N := 3) hx hb hts fin_X0_allTriples_X0 hown hKQ hQ k_1 hk_1 rfl 0 (by decide) (hts (.fieldLink RX0 7 "PatternGate$Book" "docs" "[LPatternGate$Doc;") (List.mem_of_getElem? (i := 1) (by decide +kernel))) (fun _ h9 => h9) rfl dX0_allTriples_6 ?_
      refine va_alen hx hb hKQ hQ k_2 j_3 hk_2 hj_3 rfl dX0_allTriples_9 ?_
      refine lv_topi (fun y_6 ey_6 => ?_)
      have ty_6 : y_6.toInt = (nd : Int) := i_len ey_6 (by omega)
      refine lv_icmp_ge (tgt := 84) hx hb dX0_allTriples_10 (by decide) (fun k_7 => ?_) (fun k_7 => ?_)
      · have tk_7 := c_ge (a := ii.toInt) (b := y_6.toInt) rfl rfl k_7
        refine lv_iload_n hx hb dX0_allTriples_84 rfl (lv_at hl 1 rfl) ?_
        exact W.iret hx hb hr (fun t ht hW => ⟨_, rfl, trivial, ht.trans hH.symm⟩) t_nil dX0_allTriples_85
      · have tk_7 := c_nge (a := ii.toInt) (b := y_6.toInt) rfl rfl k_7
        refine lv_aload_n hx hb dX0_allTriples_13 rfl (lv_at hl 2 rfl) ?_
        refine va_get (D := (dC, dI)) (ci := 0) (v := .ref ds) (C := RX0) (T := TX0) (N := 3) hx hb hts fin_X0_allTriples_X0 hown hKQ hQ k_1 hk_1 rfl 0 (by decide) (hts (.fieldLink RX0 7 "PatternGate$Book" "docs" "[LPatternGate$Doc;") (List.mem_of_getElem? (i := 1) (by decide +kernel))) (fun _ h9 => h9) rfl dX0_allTriples_14 ?_
        refine lv_iload_n hx hb dX0_allTriples_17 rfl (lv_at hl 0 rfl) ?_
        refine va_aldq hx hb hKQ hQ k_2 j_3 hk_2 hj_3 (i := ii) (vp_of (a := ii.toInt) rfl (by omega) (by omega)) dX0_allTriples_18 ?_
        obtain ⟨d_8, ed_8, hd_8⟩ := hds _ (vp_nat (i := ii) (a := ii.toInt) (n := nd) rfl (by omega) (by omega))
        rw [ed_8]
        refine W.eq (g2 := F0 m 19 ls [.ref d_8]) rfl ?_
        obtain ⟨la_9, ta_10, m_11, n_12, fl_13, ft_14, cI_15, cJ_16, m_17, ⟨m_18, m_19⟩, ⟨m_20, m_21⟩, m_22, m_23⟩ := hd_8
        obtain ⟨k_24, hk_24⟩ := List.getElem?_of_mem m_17
        obtain ⟨k_25, hk_25⟩ := List.getElem?_of_mem m_18
        obtain ⟨j_26, hj_26⟩ := List.getElem?_of_mem m_19
        obtain ⟨k_27, hk_27⟩ := List.getElem?_of_mem m_20
        obtain ⟨j_28, hj_28⟩ := List.getElem?_of_mem m_21
        refine lv_ifnonnull (tgt := 26) hx hb dX0_allTriples_19 (by decide) ?_
        refine lv_aload_n hx hb dX0_allTriples_26 rfl (lv_at hl 2 rfl) ?_
        refine va_get (D := (dC, dI)) (ci := 0) (v := .ref ds) (C := RX0) (T := TX0) (N := 3) hx hb hts fin_X0_allTriples_X0 hown hKQ hQ k_1 hk_1 rfl 0 (by decide) (hts (.fieldLink RX0 7 "PatternGate$Book" "docs" "[LPatternGate$Doc;") (List.mem_of_getElem? (i := 1) (by decide +kernel))) (fun _ h9 => h9) rfl dX0_allTriples_27 ?_
        refine lv_iload_n hx hb dX0_allTriples_30 rfl (lv_at hl 0 rfl) ?_
        refine va_aldq hx hb hKQ hQ k_2 j_3 hk_2 hj_3 (i := ii) (vp_of (a := ii.toInt) rfl (by omega) (by omega)) dX0_allTriples_31 ?_
        rw [ed_8]
        refine W.eq (g2 := F0 m 32 ls [.ref d_8]) rfl ?_
        refine va_get (D := (dC, dI)) (ci := 2) (v := .ref ta_10) (C := RX2) (T := TX2) (N := 2) hx hb hts fin_X0_allTriples_X2 hown hKQ hQ k_24 hk_24 rfl 1 (by decide) (hts (.fieldLink RX0 31 "PatternGate$Doc" "triples" "[I") (List.mem_of_getElem? (i := 2) (by decide +kernel))) (fun _ h9 => h9) rfl dX0_allTriples_32 ?_
        refine va_alen hx hb hKQ hQ k_27 j_28 hk_27 hj_28 rfl dX0_allTriples_35 ?_
        refine lv_topi (fun y_29 ey_29 => ?_)
        have ty_29 : y_29.toInt = (n_12 : Int) := i_len ey_29 (by omega)
        refine lv_istore_n (lv' := [(3, .int y_29), (2, .int ii), (1, .int tr), (0, .ref b)]) hx hb dX0_allTriples_36 rfl hl (by decide) rfl (fun ls hl => ?_)
        refine lv_iconst (v := 0) hx hb dX0_allTriples_37 (by decide) ?_
        refine lv_istore (lv' := [(4, .int 0), (3, .int y_29), (2, .int ii), (1, .int tr), (0, .ref b)]) hx hb dX0_allTriples_38 hl (by decide) rfl (fun ls hl => ?_)
        have loop40 : ∀ (n40 : Nat) (tq kk : Int32), (0 ≤ kk.toInt) → ((1000 - kk.toInt).toNat) < n40 → ∀ (ls : Array Slot), lv_has ls 5 [(4, .int kk), (3, .int y_29), (2, .int ii), (1, .int tq), (0, .ref b)] → W p l e (headSpec mwX0_allTriples ({ frames := 2, cells := 0, slots := 0, locals := 120 })).room s m ([.ref b]).toArray below meth c H [] 0 0 (MQ below (vp_Si (fun o => True)) ([.ref b]).toArray s 0 0 (fun _ => False)) (F0 m 40 ls []) := by
          intro n40
          induction n40 with
          | zero => intro tq kk v40_0 hm40; exact absurd hm40 (Nat.not_lt_zero _)
          | succ n40 ih40 =>
            intro tq kk v40_0 hm40 ls hl
            have rg_tq := i_rng tq
            have rg_kk := i_rng kk
            refine lv_iload hx hb dX0_allTriples_40 (lv_at hl 0 rfl) ?_
            refine lv_iload_n hx hb dX0_allTriples_42 rfl (lv_at hl 1 rfl) ?_
            refine lv_icmp_ge (tgt := 78) hx hb dX0_allTriples_43 (by decide) (fun k_30 => ?_) (fun k_30 => ?_)
            · have tk_30 := c_ge (a := kk.toInt) (b := y_29.toInt) rfl rfl k_30
              obtain ⟨y_31, ey_31⟩ : ∃ y : Int32, y = ii + 1 := ⟨_, rfl⟩
              first | have ty_31 := i_add (a := ii.toInt) (b := 1) rfl (by decide) ey_31 (by omega) (by omega) | skip
              refine lv_iinc (v := y_31) (lv' := [(2, .int y_31), (4, .int kk), (3, .int y_29), (1, .int tq), (0, .ref b)]) hx hb dX0_allTriples_78 hl (k := 2) rfl (by rw [ey_31]; rfl) (by decide) rfl (fun ls hl => ?_)
              refine lv_goto (tgt := 4) hx hb dX0_allTriples_81 (by decide) ?_
              exact ih4 tq y_31 (by first | omega | decide | assumption) (by omega) ls (lv_sub hl [0, 3, 4] rfl)
            · have tk_30 := c_nge (a := kk.toInt) (b := y_29.toInt) rfl rfl k_30
              refine lv_aload_n hx hb dX0_allTriples_46 rfl (lv_at hl 4 rfl) ?_
              refine lv_aload_n hx hb dX0_allTriples_47 rfl (lv_at hl 4 rfl) ?_
              refine va_get (D := (dC, dI)) (ci := 0) (v := .ref ds) (C := RX0) (T := TX0) (N := 3) hx hb hts fin_X0_allTriples_X0 hown hKQ hQ k_1 hk_1 rfl 0 (by decide) (hts (.fieldLink RX0 7 "PatternGate$Book" "docs" "[LPatternGate$Doc;") (List.mem_of_getElem? (i := 1) (by decide +kernel))) (fun _ h9 => h9) rfl dX0_allTriples_48 ?_
              refine lv_iload_n hx hb dX0_allTriples_51 rfl (lv_at hl 2 rfl) ?_
              refine va_aldq hx hb hKQ hQ k_2 j_3 hk_2 hj_3 (i := ii) (vp_of (a := ii.toInt) rfl (by omega) (by omega)) dX0_allTriples_52 ?_
              rw [ed_8]
              refine W.eq (g2 := F0 m 53 ls [.ref d_8, .ref b]) rfl ?_
              refine va_get (D := (dC, dI)) (ci := 2) (v := .ref ta_10) (C := RX2) (T := TX2) (N := 2) hx hb hts fin_X0_allTriples_X2 hown hKQ hQ k_24 hk_24 rfl 1 (by decide) (hts (.fieldLink RX0 31 "PatternGate$Doc" "triples" "[I") (List.mem_of_getElem? (i := 2) (by decide +kernel))) (fun _ h9 => h9) rfl dX0_allTriples_53 ?_
              refine lv_iload hx hb dX0_allTriples_56 (lv_at hl 0 rfl) ?_
              refine va_iald hx hb hKQ hQ k_27 j_28 hk_27 hj_28 (i := kk) (vp_of (a := kk.toInt) rfl (by omega) (by omega)) dX0_allTriples_58 ?_
              refine lv_topi (fun y_32 ey_32 => ?_)
              have rg_y_32 := i_rng y_32
              have hPc := hQ
              have hKc := hKQ
              refine vp_callSi (W.runV (As := [.int y_32]) (rest := []) ⟨hx, hb, hml, hown, hts⟩ (s_listBits l dC dI W9 T9 b y_32 hB0) (cwV 1 hts mg_X0_allTriples_X0_listBits_34 rfl rfl rfl (by decide +kernel) ⟨Nat.le_of_ble_eq_true rfl, Nat.le_of_ble_eq_true rfl⟩) ⟨fun a U g mk q => by obtain ⟨q0, qP, qK⟩ := q; exact ⟨q0, qP, va_K.moved (u := U) (U := U.calling g mk a) (Vm.Alike.refl U.vm) qK⟩, va_recv hKc hPc (ci := 0) (q0 := k_1) rfl hk_1, fun U hU hW => ⟨rfl, by rw [hU]; exact hPc, va_K.moved hW.alike hKc⟩⟩ rfl rfl hl.1 rfl (lv_room (Nat.le_of_ble_eq_true rfl)) dX0_allTriples_59 ⟨Nat.le_of_ble_eq_true rfl, Nat.le_of_ble_eq_true rfl⟩) (fun r_34 hw => ?_)
              refine vp_callSi (W.runS (As := [.int r_34]) (rest := []) ⟨hx, hb, hml, hown, hts⟩ (s_ntz l dC dI r_34) (va_cwS 1 hts mg_X0_allTriples_J6_numberOfTrailingZeros_0f7a4_38 rfl rfl rfl (by decide +kernel) ⟨Nat.le_of_ble_eq_true rfl, Nat.le_of_ble_eq_true rfl⟩) ⟨fun a U g mk q => ⟨q.1, trivial⟩, fun U hU hW => ⟨rfl, trivial⟩⟩ rfl rfl hl.1 rfl (lv_room (Nat.le_of_ble_eq_true rfl)) dX0_allTriples_62 ⟨Nat.le_of_ble_eq_true rfl, Nat.le_of_ble_eq_true rfl⟩) (fun r_36 hw => ?_)
              have hr_36 := hw
              refine lv_iload_n hx hb dX0_allTriples_65 rfl (lv_at hl 2 rfl) ?_
              refine lv_icmp_ne (tgt := 72) hx hb dX0_allTriples_66 (by decide) (fun k_37 => ?_) (fun k_37 => ?_)
              · have tk_37 := c_ne (a := r_36.toInt) (b := ii.toInt) rfl rfl k_37
                obtain ⟨y_38, ey_38⟩ : ∃ y : Int32, y = kk + 1 := ⟨_, rfl⟩
                first | have ty_38 := i_add (a := kk.toInt) (b := 1) rfl (by decide) ey_38 (by omega) (by omega) | skip
                refine lv_iinc (v := y_38) (lv' := [(4, .int y_38), (3, .int y_29), (2, .int ii), (1, .int tq), (0, .ref b)]) hx hb dX0_allTriples_72 hl (k := 0) rfl (by rw [ey_38]; rfl) (by decide) rfl (fun ls hl => ?_)
                refine lv_goto (tgt := 40) hx hb dX0_allTriples_75 (by decide) ?_
                exact ih40 tq y_38 (by first | omega | decide | assumption) (by omega) ls (lv_sub hl [0, 1, 2, 3, 4] rfl)
              · have tk_37 := c_eq (a := r_36.toInt) (b := ii.toInt) rfl rfl k_37
                obtain ⟨y_39, ey_39⟩ : ∃ y : Int32, y = tq + 1 := ⟨_, rfl⟩
                first | have ty_39 := i_add (a := tq.toInt) (b := 1) rfl (by decide) ey_39 (by omega) (by omega) | skip
                refine lv_iinc (v := y_39) (lv' := [(1, .int y_39), (4, .int kk), (3, .int y_29), (2, .int ii), (0, .ref b)]) hx hb dX0_allTriples_69 hl (k := 3) rfl (by rw [ey_39]; rfl) (by decide) rfl (fun ls hl => ?_)
                obtain ⟨y_40, ey_40⟩ : ∃ y : Int32, y = kk + 1 := ⟨_, rfl⟩
                first | have ty_40 := i_add (a := kk.toInt) (b := 1) rfl (by decide) ey_40 (by omega) (by omega) | skip
                refine lv_iinc (v := y_40) (lv' := [(4, .int y_40), (1, .int y_39), (3, .int y_29), (2, .int ii), (0, .ref b)]) hx hb dX0_allTriples_72 hl (k := 1) rfl (by rw [ey_40]; rfl) (by decide) rfl (fun ls hl => ?_)
                refine lv_goto (tgt := 40) hx hb dX0_allTriples_75 (by decide) ?_
                exact ih40 y_39 y_40 (by first | omega | decide | assumption) (by omega) ls (lv_sub hl [0, 2, 3, 1, 4] rfl)
        have lit_40 : (0 : Int32).toInt = 0 := by decide
        exact loop40 _ tr 0 (by first | omega | decide | assumption) (Nat.lt_succ_self _) ls (lv_sub hl [0, 1, 2, 3, 4] rfl)
  have lit_41 : (0 : Int32).toInt = 0 := by decide
  have lit_42 : (0 : Int32).toInt = 0 := by decide
  exact loop4 _ 0 0 (by first | omega | decide | assumption) (Nat.lt_succ_self _) ls (lv_sub hl [0, 1, 2] rfl)

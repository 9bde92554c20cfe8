/-- the Reader while it has found no FAULT -/
def rJ (gb ge gi : Nat → Int32) (hi : Int) (a2 a3 a4 a5 a6 a7 : Int32) : Prop := (∃ h9 : Int, h9 ≤ hi ∧ h9 ≤ 900 ∧ rI gb ge gi a2.toInt.toNat h9 a3.toInt a4.toInt) ∧ a2.toInt = a3.toInt + a4.toInt ∧ 0 ≤ a3.toInt ∧ 0 ≤ a4.toInt ∧ 0 ≤ a5.toInt ∧ 0 ≤ a6.toInt ∧ a5.toInt + a3.toInt ≤ 10 ∧ a6.toInt + a4.toInt ≤ 8 ∧ (a7.toInt = 1 → a5.toInt + a3.toInt < 10) ∧ (a7.toInt = 2 → a6.toInt + a4.toInt < 8)
theorem rJ.mono {gb ge gi : Nat → Int32} {hi h2 : Int} {a2 a3 a4 a5 a6 a7 : Int32} (h : rJ gb ge gi hi a2 a3 a4 a5 a6 a7) (hh : hi ≤ h2) : rJ gb ge gi h2 a2 a3 a4 a5 a6 a7 := by
  obtain ⟨⟨h9, b1, b2, b3⟩, h⟩ := h
  exact ⟨⟨h9, Int.le_trans b1 hh, b2, b3⟩, h⟩
theorem rJ.zero {gb ge gi : Nat → Int32} {a5 a6 : Int32} (h5 : 0 ≤ a5.toInt ∧ a5.toInt ≤ 10) (h6 : 0 ≤ a6.toInt ∧ a6.toInt ≤ 8) : rJ gb ge gi (0 : Int32).toInt 0 0 0 a5 a6 0 := by
  have z : (0 : Int32).toInt = 0 := by decide
  unfold rJ
  rw [z]
  refine ⟨⟨0, Int.le_refl _, by omega, ?_⟩, by omega, by omega, by omega, by omega, by omega, by omega, by omega, by omega, by omega⟩
  exact ⟨Int.le_refl _, rfl, rfl⟩
theorem rJ.semi {gb ge gi : Nat → Int32} {hi : Int} {a2 a3 a4 a5 a6 a7 : Int32} (h : rJ gb ge gi hi a2 a3 a4 a5 a6 a7) : rJ gb ge gi hi a2 a3 a4 a5 a6 0 := by
  have z : (0 : Int32).toInt = 0 := by decide
  obtain ⟨h1, h2, h3, h4, h5, h6, h7, h8, -, -⟩ := h
  exact ⟨h1, h2, h3, h4, h5, h6, h7, h8, by omega, by omega⟩
theorem rJ.word {gb ge gi : Nat → Int32} {hi : Int} {a0 a2 a3 a4 a5 a6 a7 y0 y7 : Int32} (h : rJ gb ge gi hi a2 a3 a4 a5 a6 a7) (hw : (y7 = a7 ∧ (y0 = 2 ∨ y0 = 3)) ∨ (y0 = a0 ∧ ((y7 = 1 ∧ a5.toInt + a3.toInt < 10) ∨ (y7 = 2 ∧ a6.toInt + a4.toInt < 8)))) : y0.toInt ≠ 0 ∨ rJ gb ge gi hi a2 a3 a4 a5 a6 y7 := by
  obtain ⟨h1, h2, h3, h4, h5, h6, h7, h8, h9, h10⟩ := h
  rcases hw with ⟨-, rfl | rfl⟩ | ⟨-, ⟨rfl, hq⟩ | ⟨rfl, hq⟩⟩
  · exact Or.inl (by decide)
  · exact Or.inl (by decide)
  · have z : (1 : Int32).toInt = 1 := by decide
    exact Or.inr ⟨h1, h2, h3, h4, h5, h6, h7, h8, by omega, by omega⟩
  · have z : (2 : Int32).toInt = 2 := by decide
    exact Or.inr ⟨h1, h2, h3, h4, h5, h6, h7, h8, by omega, by omega⟩
theorem rJ.line {fb fe fi gb ge gi : Nat → Int32} {hi h2 : Int} {a2 a3 a4 a5 a6 a7 y2 y3 y4 y7 b e i : Int32} (h : rJ fb fe fi hi a2 a3 a4 a5 a6 a7) (e1 : upd fb a2.toNatClampNeg b = gb) (e2 : upd fe a2.toNatClampNeg e = ge) (e3 : upd fi a2.toNatClampNeg i = gi) (hb : hi ≤ b.toInt) (he : b.toInt ≤ e.toInt) (h5 : e.toInt ≤ h2) (h6 : e.toInt ≤ 900) (ey : y2.toInt = a2.toInt + 1) (e7 : y7.toInt = 3) (hc : (a7.toInt = 1 ∧ i = 0 ∧ e.toInt - b.toInt ≤ 60 ∧ y3.toInt = a3.toInt + 1 ∧ y4.toInt = a4.toInt) ∨ (a7.toInt = 2 ∧ i = 1 ∧ y3.toInt = a3.toInt ∧ y4.toInt = a4.toInt + 1)) : rJ gb ge gi h2 y2 y3 y4 a5 a6 y7 := by
  obtain ⟨⟨h9, b1, b2, b3⟩, j2, j3, j4, j5, j6, j7, j8, j9, j10⟩ := h
  have hn : a2.toNatClampNeg = a2.toInt.toNat := rfl
  have hl := b3.line (gb := gb) (ge := ge) (gi := gi) (h2 := e.toInt) (b := b) (e := e) (i := i) (fun k => by rw [← e1, ← hn]; rfl) (fun k => by rw [← e2, ← hn]; rfl) (fun k => by rw [← e3, ← hn]; rfl) (by omega) he (Int.le_refl _)
  have hm : y2.toInt.toNat = a2.toInt.toNat + 1 := by omega
  rcases hc with ⟨c1, c2, c3, c4, c5⟩ | ⟨c1, c2, c3, c4⟩
  · have q := hl.1 c2 c3
    exact ⟨⟨e.toInt, h5, h6, by rw [hm, c4, c5]; exact q⟩, by omega, by omega, by omega, by omega, by omega, by omega, by omega, by omega, by omega⟩
  · have q := hl.2 c2
    exact ⟨⟨e.toInt, h5, h6, by rw [hm, c3, c4]; exact q⟩, by omega, by omega, by omega, by omega, by omega, by omega, by omega, by omega, by omega⟩
theorem dX6_readQuote_0 : decode cX6_readQuote 0 = .ok (.aload_n 0, 1) := by decide +kernel
theorem dX6_readQuote_1 : decode cX6_readQuote 1 = .ok (.getfield 44, 3) := by decide +kernel
theorem dX6_readQuote_4 : decode cX6_readQuote 4 = .ok (.iconst 1, 1) := by decide +kernel
theorem dX6_readQuote_5 : decode cX6_readQuote 5 = .ok (.if_icmp .eq 19, 3) := by decide +kernel
theorem dX6_readQuote_8 : decode cX6_readQuote 8 = .ok (.aload_n 0, 1) := by decide +kernel
theorem dX6_readQuote_9 : decode cX6_readQuote 9 = .ok (.getfield 44, 3) := by decide +kernel
theorem dX6_readQuote_12 : decode cX6_readQuote 12 = .ok (.iconst 2, 1) := by decide +kernel
theorem dX6_readQuote_13 : decode cX6_readQuote 13 = .ok (.if_icmp .eq 11, 3) := by decide +kernel
theorem dX6_readQuote_16 : decode cX6_readQuote 16 = .ok (.aload_n 0, 1) := by decide +kernel
theorem dX6_readQuote_17 : decode cX6_readQuote 17 = .ok (.iconst 2, 1) := by decide +kernel
theorem dX6_readQuote_18 : decode cX6_readQuote 18 = .ok (.iload_n 2, 1) := by decide +kernel
theorem dX6_readQuote_19 : decode cX6_readQuote 19 = .ok (.invokevirtual 71, 3) := by decide +kernel
theorem dX6_readQuote_22 : decode cX6_readQuote 22 = .ok (.iload_n 2, 1) := by decide +kernel
theorem dX6_readQuote_23 : decode cX6_readQuote 23 = .ok (.ireturn, 1) := by decide +kernel
theorem dX6_readQuote_24 : decode cX6_readQuote 24 = .ok (.aload_n 0, 1) := by decide +kernel
theorem dX6_readQuote_25 : decode cX6_readQuote 25 = .ok (.getfield 44, 3) := by decide +kernel
theorem dX6_readQuote_28 : decode cX6_readQuote 28 = .ok (.iconst 1, 1) := by decide +kernel
theorem dX6_readQuote_29 : decode cX6_readQuote 29 = .ok (.if_icmp .ne 7, 3) := by decide +kernel
theorem dX6_readQuote_32 : decode cX6_readQuote 32 = .ok (.iconst 1, 1) := by decide +kernel
theorem dX6_readQuote_33 : decode cX6_readQuote 33 = .ok (.goto 4, 3) := by decide +kernel
theorem dX6_readQuote_36 : decode cX6_readQuote 36 = .ok (.iconst 0, 1) := by decide +kernel
theorem dX6_readQuote_37 : decode cX6_readQuote 37 = .ok (.istore 4, 2) := by decide +kernel
theorem dX6_readQuote_39 : decode cX6_readQuote 39 = .ok (.iload 4, 2) := by decide +kernel
theorem dX6_readQuote_41 : decode cX6_readQuote 41 = .ok (.ifCond .eq 15, 3) := by decide +kernel
theorem dX6_readQuote_44 : decode cX6_readQuote 44 = .ok (.aload_n 0, 1) := by decide +kernel
theorem dX6_readQuote_45 : decode cX6_readQuote 45 = .ok (.aload_n 1, 1) := by decide +kernel
theorem dX6_readQuote_46 : decode cX6_readQuote 46 = .ok (.iload_n 2, 1) := by decide +kernel
theorem dX6_readQuote_47 : decode cX6_readQuote 47 = .ok (.iconst 1, 1) := by decide +kernel
theorem dX6_readQuote_48 : decode cX6_readQuote 48 = .ok (.iadd, 1) := by decide +kernel
theorem dX6_readQuote_49 : decode cX6_readQuote 49 = .ok (.iload_n 3, 1) := by decide +kernel
theorem dX6_readQuote_50 : decode cX6_readQuote 50 = .ok (.invokevirtual 93, 3) := by decide +kernel
theorem dX6_readQuote_53 : decode cX6_readQuote 53 = .ok (.goto 12, 3) := by decide +kernel
theorem dX6_readQuote_56 : decode cX6_readQuote 56 = .ok (.aload_n 0, 1) := by decide +kernel
theorem dX6_readQuote_57 : decode cX6_readQuote 57 = .ok (.aload_n 1, 1) := by decide +kernel
theorem dX6_readQuote_58 : decode cX6_readQuote 58 = .ok (.iload_n 2, 1) := by decide +kernel
theorem dX6_readQuote_59 : decode cX6_readQuote 59 = .ok (.iconst 1, 1) := by decide +kernel
theorem dX6_readQuote_60 : decode cX6_readQuote 60 = .ok (.iadd, 1) := by decide +kernel
theorem dX6_readQuote_61 : decode cX6_readQuote 61 = .ok (.iload_n 3, 1) := by decide +kernel
theorem dX6_readQuote_62 : decode cX6_readQuote 62 = .ok (.invokevirtual 96, 3) := by decide +kernel
theorem dX6_readQuote_65 : decode cX6_readQuote 65 = .ok (.istore 5, 2) := by decide +kernel
theorem dX6_readQuote_67 : decode cX6_readQuote 67 = .ok (.aload_n 0, 1) := by decide +kernel
theorem dX6_readQuote_68 : decode cX6_readQuote 68 = .ok (.getfield 22, 3) := by decide +kernel
theorem dX6_readQuote_71 : decode cX6_readQuote 71 = .ok (.ifCond .ne 107, 3) := by decide +kernel
theorem dX6_readQuote_74 : decode cX6_readQuote 74 = .ok (.aload_n 0, 1) := by decide +kernel
theorem dX6_readQuote_75 : decode cX6_readQuote 75 = .ok (.getfield 29, 3) := by decide +kernel
theorem dX6_readQuote_78 : decode cX6_readQuote 78 = .ok (.bipush 18, 2) := by decide +kernel
theorem dX6_readQuote_80 : decode cX6_readQuote 80 = .ok (.if_icmp .ge 98, 3) := by decide +kernel
theorem dX6_readQuote_83 : decode cX6_readQuote 83 = .ok (.aload_n 0, 1) := by decide +kernel
theorem dX6_readQuote_84 : decode cX6_readQuote 84 = .ok (.getfield 11, 3) := by decide +kernel
theorem dX6_readQuote_87 : decode cX6_readQuote 87 = .ok (.aload_n 0, 1) := by decide +kernel
theorem dX6_readQuote_88 : decode cX6_readQuote 88 = .ok (.getfield 29, 3) := by decide +kernel
theorem dX6_readQuote_91 : decode cX6_readQuote 91 = .ok (.iload_n 2, 1) := by decide +kernel
theorem dX6_readQuote_92 : decode cX6_readQuote 92 = .ok (.iconst 1, 1) := by decide +kernel
theorem dX6_readQuote_93 : decode cX6_readQuote 93 = .ok (.iadd, 1) := by decide +kernel
theorem dX6_readQuote_94 : decode cX6_readQuote 94 = .ok (.iastore, 1) := by decide +kernel
theorem dX6_readQuote_95 : decode cX6_readQuote 95 = .ok (.aload_n 0, 1) := by decide +kernel
theorem dX6_readQuote_96 : decode cX6_readQuote 96 = .ok (.getfield 15, 3) := by decide +kernel
theorem dX6_readQuote_99 : decode cX6_readQuote 99 = .ok (.aload_n 0, 1) := by decide +kernel
theorem dX6_readQuote_100 : decode cX6_readQuote 100 = .ok (.getfield 29, 3) := by decide +kernel
theorem dX6_readQuote_103 : decode cX6_readQuote 103 = .ok (.iload 5, 2) := by decide +kernel
theorem dX6_readQuote_105 : decode cX6_readQuote 105 = .ok (.iastore, 1) := by decide +kernel
theorem dX6_readQuote_106 : decode cX6_readQuote 106 = .ok (.aload_n 0, 1) := by decide +kernel
theorem dX6_readQuote_107 : decode cX6_readQuote 107 = .ok (.getfield 18, 3) := by decide +kernel
theorem dX6_readQuote_110 : decode cX6_readQuote 110 = .ok (.aload_n 0, 1) := by decide +kernel
theorem dX6_readQuote_111 : decode cX6_readQuote 111 = .ok (.getfield 29, 3) := by decide +kernel
theorem dX6_readQuote_114 : decode cX6_readQuote 114 = .ok (.iload 4, 2) := by decide +kernel
theorem dX6_readQuote_116 : decode cX6_readQuote 116 = .ok (.ifCond .ne 7, 3) := by decide +kernel
theorem dX6_readQuote_119 : decode cX6_readQuote 119 = .ok (.iconst 1, 1) := by decide +kernel
theorem dX6_readQuote_120 : decode cX6_readQuote 120 = .ok (.goto 4, 3) := by decide +kernel
theorem dX6_readQuote_123 : decode cX6_readQuote 123 = .ok (.iconst 0, 1) := by decide +kernel
theorem dX6_readQuote_124 : decode cX6_readQuote 124 = .ok (.bastore, 1) := by decide +kernel
theorem dX6_readQuote_125 : decode cX6_readQuote 125 = .ok (.aload_n 0, 1) := by decide +kernel
theorem dX6_readQuote_126 : decode cX6_readQuote 126 = .ok (.dup, 1) := by decide +kernel
theorem dX6_readQuote_127 : decode cX6_readQuote 127 = .ok (.getfield 29, 3) := by decide +kernel
theorem dX6_readQuote_130 : decode cX6_readQuote 130 = .ok (.iconst 1, 1) := by decide +kernel
theorem dX6_readQuote_131 : decode cX6_readQuote 131 = .ok (.iadd, 1) := by decide +kernel
theorem dX6_readQuote_132 : decode cX6_readQuote 132 = .ok (.putfield 29, 3) := by decide +kernel
theorem dX6_readQuote_135 : decode cX6_readQuote 135 = .ok (.aload_n 0, 1) := by decide +kernel
theorem dX6_readQuote_136 : decode cX6_readQuote 136 = .ok (.dup, 1) := by decide +kernel
theorem dX6_readQuote_137 : decode cX6_readQuote 137 = .ok (.getfield 32, 3) := by decide +kernel
theorem dX6_readQuote_140 : decode cX6_readQuote 140 = .ok (.iload 4, 2) := by decide +kernel
theorem dX6_readQuote_142 : decode cX6_readQuote 142 = .ok (.ifCond .eq 7, 3) := by decide +kernel
theorem dX6_readQuote_145 : decode cX6_readQuote 145 = .ok (.iconst 1, 1) := by decide +kernel
theorem dX6_readQuote_146 : decode cX6_readQuote 146 = .ok (.goto 4, 3) := by decide +kernel
theorem dX6_readQuote_149 : decode cX6_readQuote 149 = .ok (.iconst 0, 1) := by decide +kernel
theorem dX6_readQuote_150 : decode cX6_readQuote 150 = .ok (.iadd, 1) := by decide +kernel
theorem dX6_readQuote_151 : decode cX6_readQuote 151 = .ok (.putfield 32, 3) := by decide +kernel
theorem dX6_readQuote_154 : decode cX6_readQuote 154 = .ok (.aload_n 0, 1) := by decide +kernel
theorem dX6_readQuote_155 : decode cX6_readQuote 155 = .ok (.dup, 1) := by decide +kernel
theorem dX6_readQuote_156 : decode cX6_readQuote 156 = .ok (.getfield 35, 3) := by decide +kernel
theorem dX6_readQuote_159 : decode cX6_readQuote 159 = .ok (.iload 4, 2) := by decide +kernel
theorem dX6_readQuote_161 : decode cX6_readQuote 161 = .ok (.ifCond .eq 7, 3) := by decide +kernel
theorem dX6_readQuote_164 : decode cX6_readQuote 164 = .ok (.iconst 0, 1) := by decide +kernel
theorem dX6_readQuote_165 : decode cX6_readQuote 165 = .ok (.goto 4, 3) := by decide +kernel
theorem dX6_readQuote_168 : decode cX6_readQuote 168 = .ok (.iconst 1, 1) := by decide +kernel
theorem dX6_readQuote_169 : decode cX6_readQuote 169 = .ok (.iadd, 1) := by decide +kernel
theorem dX6_readQuote_170 : decode cX6_readQuote 170 = .ok (.putfield 35, 3) := by decide +kernel
theorem dX6_readQuote_173 : decode cX6_readQuote 173 = .ok (.aload_n 0, 1) := by decide +kernel
theorem dX6_readQuote_174 : decode cX6_readQuote 174 = .ok (.iconst 3, 1) := by decide +kernel
theorem dX6_readQuote_175 : decode cX6_readQuote 175 = .ok (.putfield 44, 3) := by decide +kernel
theorem dX6_readQuote_178 : decode cX6_readQuote 178 = .ok (.iload 5, 2) := by decide +kernel
theorem dX6_readQuote_180 : decode cX6_readQuote 180 = .ok (.ireturn, 1) := by decide +kernel
def mwX6_readQuote : List Cond := .code yX6_readQuote cX6_readQuote 6 (some .int) :: (([.fieldLink RX6 44 "PatternGate$Reader" "wanted" "I", .methodLink RX6 96 yX6_endOfPattern, .instanceMethod yX6_endOfPattern, .selects RX6 yX6_endOfPattern yX6_endOfPattern, .initialized RX6, .fieldLink RX6 22 "PatternGate$Reader" "faultKind" "I", .fieldLink RX6 29 "PatternGate$Reader" "lines" "I", .fieldLink RX6 11 "PatternGate$Reader" "begins" "[I", .fieldLink RX6 15 "PatternGate$Reader" "ends" "[I", .fieldLink RX6 18 "PatternGate$Reader" "isPattern" "[Z", .fieldLink RX6 32 "PatternGate$Reader" "newDocs" "I", .fieldLink RX6 35 "PatternGate$Reader" "newPatterns" "I", .methodLink RX6 93 yX6_endOfDoc, .instanceMethod yX6_endOfDoc, .selects RX6 yX6_endOfDoc yX6_endOfDoc, .methodLink RX6 71 yX6_fail, .instanceMethod yX6_fail, .selects RX6 yX6_fail yX6_fail] : List Cond) ++ (wsX60 ++ (mwX6_endOfPattern ++ (mwX6_endOfDoc2 ++ (mwX6_fail)))))
theorem fin_X6_readQuote_X6 : ∀ w ∈ wsX60, w ∈ mwX6_readQuote := fun w h => List.mem_cons_of_mem _ (List.mem_append_right _ (List.mem_append_left _ h))
set_option maxRecDepth 100000 in
theorem gd_mwX6_endOfPattern : mwX6_endOfPattern.all goodWord = true := by decide +kernel
set_option maxRecDepth 100000 in
theorem gd_mwX6_endOfDoc2 : mwX6_endOfDoc2.all goodWord = true := by decide +kernel
set_option maxRecDepth 20000 in
theorem mg_X6_readQuote_X6_endOfPattern_96 : GoodIn mwX6_readQuote (wsV RX6 96 RX6 yX6_endOfPattern mwX6_endOfPattern) := gi_app (A := [.methodLink RX6 96 yX6_endOfPattern, .instanceMethod yX6_endOfPattern, .selects RX6 yX6_endOfPattern yX6_endOfPattern, .initialized RX6]) (goodIn_r _ [2, 3, 4, 5] (by decide +kernel) (by decide +kernel)) (gi_sub gd_mwX6_endOfPattern (fun w h => List.mem_cons_of_mem _ (List.mem_append_right _ (List.mem_append_right _ (List.mem_append_left _ h)))))
set_option maxRecDepth 20000 in
theorem mg_X6_readQuote_X6_endOfDoc_93 : GoodIn mwX6_readQuote (wsV RX6 93 RX6 yX6_endOfDoc mwX6_endOfDoc2) := gi_app (A := [.methodLink RX6 93 yX6_endOfDoc, .instanceMethod yX6_endOfDoc, .selects RX6 yX6_endOfDoc yX6_endOfDoc, .initialized RX6]) (goodIn_r _ [13, 14, 15, 5] (by decide +kernel) (by decide +kernel)) (gi_sub gd_mwX6_endOfDoc2 (fun w h => List.mem_cons_of_mem _ (List.mem_append_right _ (List.mem_append_right _ (List.mem_append_right _ (List.mem_append_left _ h))))))
set_option maxRecDepth 20000 in
theorem mg_X6_readQuote_X6_fail_71 : GoodIn mwX6_readQuote (wsV RX6 71 RX6 yX6_fail mwX6_fail) := gi_app (A := [.methodLink RX6 71 yX6_fail, .instanceMethod yX6_fail, .selects RX6 yX6_fail yX6_fail, .initialized RX6]) (goodIn_r _ [16, 17, 18, 5] (by decide +kernel) (by decide +kernel)) (gi_sub gd_mwX6_fail (fun w h => List.mem_cons_of_mem _ (List.mem_append_right _ (List.mem_append_right _ (List.mem_append_right _ (List.mem_append_right _ (h)))))))
set_option maxHeartbeats 4000000 in
set_option maxRecDepth 100000 in
/-- Reader.readQuote -/
theorem s_readQuote (l : Launch) (dC : Nat → ClassId) (dI : Nat → Nat → Nat) (rd : Nat) (r : Nat → Nat) (a0 a1 a2 a3 a4 a5 a6 a7 : Int32) (ba kb : Nat) (cb cb0 cb1 cb2 : ClassId) (fb fb0 fb1 fb2 : Nat → Int32) (sz : Nat) (i1 i2 : Int32) (hkb : kb ≤ 900) (h1 : 0 ≤ i1.toInt ∧ i1.toInt < i2.toInt ∧ i2.toInt ≤ kb) (h0 : a0.toInt = 0) (hJ : rJ fb0 fb1 fb2 i1.toInt a2 a3 a4 a5 a6 a7) : Met l yX6_readQuote mwX6_readQuote ({ frames := 3, cells := 0, slots := 0, locals := 180 }) (va_Pc [.ref rd, .ref ba, .int i1, .int i2] (fun U => U.heap.size = sz ∧ va_P (dC, dI) vwCl ([(rd, .inr (6, rF r a0 a1 a2 a3 a4 a5 a6 a7)), (ba, .inl (cb, kb, .inl fb)), (r 0, .inl (cb0, 18, .inl fb0)), (r 1, .inl (cb1, 18, .inl fb1)), (r 2, .inl (cb2, 18, .inl fb2))]) U.heap ∧ va_K (dC, dI) vwCl ([(cb, .int), (cb0, .int), (cb1, .int), (cb2, .boolean)]) U ∧ va_D (fun _ => True) ([(rd, .inr (6, rF r a0 a1 a2 a3 a4 a5 a6 a7)), (ba, .inl (cb, kb, .inl fb)), (r 0, .inl (cb0, 18, .inl fb0)), (r 1, .inl (cb1, 18, .inl fb1)), (r 2, .inl (cb2, 18, .inl fb2))]) ∧ va_Nw (.methodLinkNest RX6 53 yX9_isSmall "PatternGate") U)) (va_Qi (fun (o9 : Int32) (u : Int32) => o9 = u ∧ i1.toInt ≤ o9.toInt ∧ o9.toInt ≤ i2.toInt) (fun u t => ∃ (y0 y1 y2 y3 y4 y7 : Int32) (f0 f1 f2 : Nat → Int32), (y0.toInt ≠ 0 ∨ rJ f0 f1 f2 u.toInt y2 y3 y4 a5 a6 y7) ∧ va_P (dC, dI) vwCl [(rd, .inr (6, rF r y0 y1 y2 y3 y4 a5 a6 y7)), (ba, .inl (cb, kb, .inl fb)), (r 0, .inl (cb0, 18, .inl f0)), (r 1, .inl (cb1, 18, .inl f1)), (r 2, .inl (cb2, 18, .inl f2))] t.heap ∧ va_K (dC, dI) vwCl [(cb, .int), (cb0, .int), (cb1, .int), (cb2, .boolean)] t ∧ va_D (va_A ([(rd, .inr (6, rF r a0 a1 a2 a3 a4 a5 a6 a7)), (ba, .inl (cb, kb, .inl fb)), (r 0, .inl (cb0, 18, .inl fb0)), (r 1, .inl (cb1, 18, .inl fb1)), (r 2, .inl (cb2, 18, .inl fb2))]) sz) [(rd, .inr (6, rF r y0 y1 y2 y3 y4 a5 a6 y7)), (ba, .inl (cb, kb, .inl fb)), (r 0, .inl (cb0, 18, .inl f0)), (r 1, .inl (cb1, 18, .inl f1)), (r 2, .inl (cb2, 18, .inl f2))]) (va_A ([(rd, .inr (6, rF r a0 a1 a2 a3 a4 a5 a6 a7)), (ba, .inl (cb, kb, .inl fb)), (r 0, .inl (cb0, 18, .inl fb0)), (r 1, .inl (cb1, 18, .inl fb1)), (r 2, .inl (cb2, 18, .inl fb2))]) sz)) 0 0 (va_A ([(rd, .inr (6, rF r a0 a1 a2 a3 a4 a5 a6 a7)), (ba, .inl (cb, kb, .inl fb)), (r 0, .inl (cb0, 18, .inl fb0)), (r 1, .inl (cb1, 18, .inl fb1)), (r 2, .inl (cb2, 18, .inl fb2))]) sz) := by
  refine Met.ofW (cc := cX6_readQuote) (maxL := 6) (ret := (some .int)) (by decide +kernel) rfl ?_
  intro p e s m args below meth c s₁ B hml hv
  obtain ⟨rfl, hsz, hP, hK, hD0, hN53⟩ := hv
  have hx := B.exec
  have hb := B.bytes
  have hr := B.returns
  have hts := atoms_spec (ws := mwX6_readQuote) B.pre
  have hown : s.vm.findClass RX6 = some m.cls := findClass_of_methodNamed B.named
  have hlocks := B.notSynchronized
  subst hsz
  have hD := hD0.self (sz := s.heap.size)
  generalize hAe : va_A ([(rd, .inr (6, rF r a0 a1 a2 a3 a4 a5 a6 a7)), (ba, .inl (cb, kb, .inl fb)), (r 0, .inl (cb0, 18, .inl fb0)), (r 1, .inl (cb1, 18, .inl fb1)), (r 2, .inl (cb2, 18, .inl fb2))]) s.heap.size = A at hD ⊢
  have hA : ∀ q : Nat, s.heap.size ≤ q → A q := fun q h => by rw [← hAe]; exact Or.inr h
  have hP : va_P (dC, dI) vwCl [(rd, .inr (6, rF r a0 a1 a2 a3 a4 a5 a6 a7)), (ba, .inl (cb, kb, .inl fb)), (r 0, .inl (cb0, 18, .inl fb0)), (r 1, .inl (cb1, 18, .inl fb1)), (r 2, .inl (cb2, 18, .inl fb2))] s.heap := hP
  have hD : va_D A [(rd, .inr (6, rF r a0 a1 a2 a3 a4 a5 a6 a7)), (ba, .inl (cb, kb, .inl fb)), (r 0, .inl (cb0, 18, .inl fb0)), (r 1, .inl (cb1, 18, .inl fb1)), (r 2, .inl (cb2, 18, .inl fb2))] := hD
  have hK : va_K (dC, dI) vwCl [(cb, .int), (cb0, .int), (cb1, .int), (cb2, .boolean)] s := hK
  generalize hH : s.heap = H at hP ⊢
  have hS : va_S A s.heap H [] := by rw [← hH]; exact va_S.rf
  have hl := lv_entry ([.ref rd, .ref ba, .int i1, .int i2]) (n := 6) (Nat.le_of_ble_eq_true rfl)
  rw [lg_entry_eq]
  generalize (lg_sl ([.ref rd, .ref ba, .int i1, .int i2]) ++ List.replicate (6 - (lg_sl ([.ref rd, .ref ba, .int i1, .int i2])).length) Slot.unset).toArray = ls at hl ⊢
  have hl : lv_has ls 6 [(0, .ref rd), (1, .ref ba), (2, .int i1), (3, .int i2)] := hl
  have rg_i1 := i_rng i1
  have rg_i2 := i_rng i2
  obtain ⟨-, j2, j3, j4, j5, j6, j7, j8, j9, j10⟩ := id hJ
  have ra2 := i_rng a2
  have ra3 := i_rng a3
  have ra4 := i_rng a4
  have ra5 := i_rng a5
  have ra6 := i_rng a6
  have ra7 := i_rng a7
  refine lv_aload_n hx hb dX6_readQuote_0 rfl (lv_at hl 0 rfl) ?_
  refine va_get (D := (dC, dI)) (ci := 6) (v := .int a7) (C := RX6) (T := TX6) (N := 11) hx hb hts fin_X6_readQuote_X6 hown hK hP 0 rfl rfl 10 (by decide) (hts (.fieldLink RX6 44 "PatternGate$Reader" "wanted" "I") (List.mem_of_getElem? (i := 1) (by decide +kernel))) (fun _ h9 => h9) rfl dX6_readQuote_1 ?_
  refine lv_iconst (v := 1) hx hb dX6_readQuote_4 (by decide) ?_
  refine lv_icmp_eq (tgt := 24) hx hb dX6_readQuote_5 (by decide) (fun k_1 => ?_) (fun k_1 => ?_)
  · have tk_1 := c_eq (a := a7.toInt) (b := 1) rfl (by decide) k_1
    refine lv_aload_n hx hb dX6_readQuote_24 rfl (lv_at hl 0 rfl) ?_
    refine va_get (D := (dC, dI)) (ci := 6) (v := .int a7) (C := RX6) (T := TX6) (N := 11) hx hb hts fin_X6_readQuote_X6 hown hK hP 0 rfl rfl 10 (by decide) (hts (.fieldLink RX6 44 "PatternGate$Reader" "wanted" "I") (List.mem_of_getElem? (i := 1) (by decide +kernel))) (fun _ h9 => h9) rfl dX6_readQuote_25 ?_
    refine lv_iconst (v := 1) hx hb dX6_readQuote_28 (by decide) ?_
    refine lv_icmp_ne (tgt := 36) hx hb dX6_readQuote_29 (by decide) (fun k_2 => ?_) (fun k_2 => ?_)
    · have tk_2 := c_ne (a := a7.toInt) (b := 1) rfl (by decide) k_2
      refine lv_iconst (v := 0) hx hb dX6_readQuote_36 (by decide) ?_
      refine lv_istore (lv' := [(4, .int 0), (0, .ref rd), (1, .ref ba), (2, .int i1), (3, .int i2)]) hx hb dX6_readQuote_37 hl (by decide) rfl (fun ls hl => ?_)
      refine lv_iload hx hb dX6_readQuote_39 (lv_at hl 0 rfl) ?_
      refine lv_if_eq (tgt := 56) hx hb dX6_readQuote_41 (by decide) (fun k_3 => ?_) (fun k_3 => absurd (by decide) k_3)
      have tk_3 := c_eq (a := 0) (b := 0) (by decide) (by decide) k_3
      refine lv_aload_n hx hb dX6_readQuote_56 rfl (lv_at hl 1 rfl) ?_
      refine lv_aload_n hx hb dX6_readQuote_57 rfl (lv_at hl 2 rfl) ?_
      refine lv_iload_n hx hb dX6_readQuote_58 rfl (lv_at hl 3 rfl) ?_
      refine lv_iconst (v := 1) hx hb dX6_readQuote_59 (by decide) ?_
      refine lv_iadd hx hb dX6_readQuote_60 ?_
      refine lv_topi (fun y_4 ey_4 => ?_)
      first | have ty_4 := i_add (a := i1.toInt) (b := 1) rfl (by decide) ey_4 (by omega) (by omega) | skip
      refine lv_iload_n hx hb dX6_readQuote_61 rfl (lv_at hl 4 rfl) ?_
      have hPc := hP.sub (ws' := [(rd, .inr (6, rF r a0 a1 a2 a3 a4 a5 a6 a7)), (ba, .inl (cb, kb, .inl fb))]) [0, 1] rfl
      have hKc := hK.sub (tys' := [(cb, .int)]) [0] rfl
      have hDc := hD.sub (ws' := [(rd, .inr (6, rF r a0 a1 a2 a3 a4 a5 a6 a7)), (ba, .inl (cb, kb, .inl fb))]) [0, 1] (by decide) rfl
      have hFc := va_free (wc := [(rd, .inr (6, rF r a0 a1 a2 a3 a4 a5 a6 a7)), (ba, .inl (cb, kb, .inl fb))]) hD hS hA [0, 1] rfl
      refine va_calli (va_runV (As := [.ref ba, .int y_4, .int i2]) (rest := []) ⟨hx, hb, hml, hown, hts⟩ (s_endOfPattern l dC dI rd r a0 a1 a2 a3 a4 a5 a6 a7 ba kb cb fb H.size y_4 i2 (by first | omega | decide | (have l0 := Int32.toInt_zero; omega)) (by first | omega | decide | (have l0 := Int32.toInt_zero; omega)) (by first | omega | decide | (have l0 := Int32.toInt_zero; omega)) (by first | omega | decide | (have l0 := Int32.toInt_zero; omega))) (cwV 3 hts mg_X6_readQuote_X6_endOfPattern_96 rfl rfl rfl (by decide +kernel) ⟨Nat.le_of_ble_eq_true rfl, Nat.le_of_ble_eq_true rfl⟩) ⟨fun a U g mk q => by obtain ⟨q0, q1, qP, qK, qD, qE0⟩ := q; exact ⟨q0, q1, qP, va_K.moved (u := U) (U := U.calling g mk a) (Vm.Alike.refl U.vm) qK, qD, va_Nw.same rfl (rfl : U.vm = (U.calling g mk a).vm) qE0⟩, va_recv hKc hPc (ci := 6) (q0 := 0) rfl rfl, fun U hU hW => ⟨rfl, by rw [hU], by rw [hU]; exact hPc, va_K.moved hW.alike hKc, hDc.weaken (fun _ _ _ _ => trivial), va_Nw.warmM hW hN53⟩⟩ rfl rfl hl.1 rfl (lv_room (Nat.le_of_ble_eq_true rfl)) dX6_readQuote_62 ⟨Nat.le_of_ble_eq_true rfl, Nat.le_of_ble_eq_true rfl⟩) hS (fun q _ h => hFc q h) hFc (fun r_6 u t H1 locs ht hvm hw hB hz1 hk1 hS => ?_)
      obtain ⟨y_7, y_8, hP1, hK1, hD1⟩ := hB
      rw [ht] at hP1
      have hr_6 := hw
      have rg_r_6 := i_rng r_6
      obtain ⟨hP, hD⟩ := va_join (wr := [(r 0, .inl (cb0, 18, .inl fb0)), (r 1, .inl (cb1, 18, .inl fb1)), (r 2, .inl (cb2, 18, .inl fb2))]) (w1 := [(rd, .inr (6, rF r y_7 y_8 a2 a3 a4 a5 a6 a7)), (ba, .inl (cb, kb, .inl fb))]) hP hD [0, 1] [2, 3, 4] rfl rfl (by decide) (by decide) hk1 hFc hP1 hD1
      generalize H1 = H at hP hS ⊢
      have hP : va_P (dC, dI) vwCl [(r 0, .inl (cb0, 18, .inl fb0)), (r 1, .inl (cb1, 18, .inl fb1)), (r 2, .inl (cb2, 18, .inl fb2)), (rd, .inr (6, rF r y_7 y_8 a2 a3 a4 a5 a6 a7)), (ba, .inl (cb, kb, .inl fb))] H := hP
      have hD : va_D A [(r 0, .inl (cb0, 18, .inl fb0)), (r 1, .inl (cb1, 18, .inl fb1)), (r 2, .inl (cb2, 18, .inl fb2)), (rd, .inr (6, rF r y_7 y_8 a2 a3 a4 a5 a6 a7)), (ba, .inl (cb, kb, .inl fb))] := hD
      refine lv_istore (lv' := [(5, .int r_6), (4, .int 0), (0, .ref rd), (1, .ref ba), (2, .int i1), (3, .int i2)]) hx hb dX6_readQuote_65 hl (by decide) rfl (fun ls hl => ?_)
      refine lv_aload_n hx hb dX6_readQuote_67 rfl (lv_at hl 2 rfl) ?_
      refine va_get (D := (dC, dI)) (ci := 6) (v := .int y_7) (C := RX6) (T := TX6) (N := 11) hx hb hts fin_X6_readQuote_X6 hown hK hP 3 rfl rfl 0 (by decide) (hts (.fieldLink RX6 22 "PatternGate$Reader" "faultKind" "I") (List.mem_of_getElem? (i := 6) (by decide +kernel))) (fun _ h9 => h9) rfl dX6_readQuote_68 ?_
      refine lv_if_ne (tgt := 178) hx hb dX6_readQuote_71 (by decide) (fun k_9 => ?_) (fun k_9 => ?_)
      · have tk_9 := c_ne (a := y_7.toInt) (b := 0) rfl (by decide) k_9
        refine lv_iload hx hb dX6_readQuote_178 (lv_at hl 0 rfl) ?_
        have hP9 := hP.sub (ws' := [(rd, .inr (6, rF r y_7 y_8 a2 a3 a4 a5 a6 a7)), (ba, .inl (cb, kb, .inl fb)), (r 0, .inl (cb0, 18, .inl fb0)), (r 1, .inl (cb1, 18, .inl fb1)), (r 2, .inl (cb2, 18, .inl fb2))]) [3, 4, 0, 1, 2] rfl
        have hD9 := hD.sub (ws' := [(rd, .inr (6, rF r y_7 y_8 a2 a3 a4 a5 a6 a7)), (ba, .inl (cb, kb, .inl fb)), (r 0, .inl (cb0, 18, .inl fb0)), (r 1, .inl (cb1, 18, .inl fb1)), (r 2, .inl (cb2, 18, .inl fb2))]) [3, 4, 0, 1, 2] (by decide) rfl
        have hK9 := hK.sub (tys' := [(cb, .int), (cb0, .int), (cb1, .int), (cb2, .boolean)]) [0, 1, 2, 3] rfl
        exact W.iret hx hb hr (fun t ht hW => ⟨⟨_, r_6, rfl, ⟨rfl, by omega⟩, y_7, y_8, a2, a3, a4, a7, fb0, fb1, fb2, (by first | exact Or.inl (by omega) | (exfalso; omega)), by rw [ht]; exact hP9, va_K.moved hW.alike hK9, hD9⟩, hS.F ht⟩) hS.2.2 dX6_readQuote_180
      · have tk_9 := c_eq (a := y_7.toInt) (b := 0) rfl (by decide) k_9
        refine lv_aload_n hx hb dX6_readQuote_74 rfl (lv_at hl 2 rfl) ?_
        refine va_get (D := (dC, dI)) (ci := 6) (v := .int a2) (C := RX6) (T := TX6) (N := 11) hx hb hts fin_X6_readQuote_X6 hown hK hP 3 rfl rfl 2 (by decide) (hts (.fieldLink RX6 29 "PatternGate$Reader" "lines" "I") (List.mem_of_getElem? (i := 7) (by decide +kernel))) (fun _ h9 => h9) rfl dX6_readQuote_75 ?_
        refine lv_bipush (v := 18) hx hb dX6_readQuote_78 (by decide) ?_
        refine lv_icmp_ge (tgt := 178) hx hb dX6_readQuote_80 (by decide) (fun k_10 => ?_) (fun k_10 => ?_)
        · have tk_10 := c_ge (a := a2.toInt) (b := 18) rfl (by decide) k_10
          refine lv_iload hx hb dX6_readQuote_178 (lv_at hl 0 rfl) ?_
          have hP9 := hP.sub (ws' := [(rd, .inr (6, rF r y_7 y_8 a2 a3 a4 a5 a6 a7)), (ba, .inl (cb, kb, .inl fb)), (r 0, .inl (cb0, 18, .inl fb0)), (r 1, .inl (cb1, 18, .inl fb1)), (r 2, .inl (cb2, 18, .inl fb2))]) [3, 4, 0, 1, 2] rfl
          have hD9 := hD.sub (ws' := [(rd, .inr (6, rF r y_7 y_8 a2 a3 a4 a5 a6 a7)), (ba, .inl (cb, kb, .inl fb)), (r 0, .inl (cb0, 18, .inl fb0)), (r 1, .inl (cb1, 18, .inl fb1)), (r 2, .inl (cb2, 18, .inl fb2))]) [3, 4, 0, 1, 2] (by decide) rfl
          have hK9 := hK.sub (tys' := [(cb, .int), (cb0, .int), (cb1, .int), (cb2, .boolean)]) [0, 1, 2, 3] rfl
          exact W.iret hx hb hr (fun t ht hW => ⟨⟨_, r_6, rfl, ⟨rfl, by omega⟩, y_7, y_8, a2, a3, a4, a7, fb0, fb1, fb2, (by first | exact Or.inl (by omega) | (exfalso; omega)), by rw [ht]; exact hP9, va_K.moved hW.alike hK9, hD9⟩, hS.F ht⟩) hS.2.2 dX6_readQuote_180
        · have tk_10 := c_nge (a := a2.toInt) (b := 18) rfl (by decide) k_10
          refine lv_aload_n hx hb dX6_readQuote_83 rfl (lv_at hl 2 rfl) ?_
          refine va_get (D := (dC, dI)) (ci := 6) (v := .ref (r 0)) (C := RX6) (T := TX6) (N := 11) hx hb hts fin_X6_readQuote_X6 hown hK hP 3 rfl rfl 5 (by decide) (hts (.fieldLink RX6 11 "PatternGate$Reader" "begins" "[I") (List.mem_of_getElem? (i := 8) (by decide +kernel))) (fun _ h9 => h9) rfl dX6_readQuote_84 ?_
          refine lv_aload_n hx hb dX6_readQuote_87 rfl (lv_at hl 2 rfl) ?_
          refine va_get (D := (dC, dI)) (ci := 6) (v := .int a2) (C := RX6) (T := TX6) (N := 11) hx hb hts fin_X6_readQuote_X6 hown hK hP 3 rfl rfl 2 (by decide) (hts (.fieldLink RX6 29 "PatternGate$Reader" "lines" "I") (List.mem_of_getElem? (i := 7) (by decide +kernel))) (fun _ h9 => h9) rfl dX6_readQuote_88 ?_
          refine lv_iload_n hx hb dX6_readQuote_91 rfl (lv_at hl 4 rfl) ?_
          refine lv_iconst (v := 1) hx hb dX6_readQuote_92 (by decide) ?_
          refine lv_iadd hx hb dX6_readQuote_93 ?_
          refine lv_topi (fun y_11 ey_11 => ?_)
          first | have ty_11 := i_add (a := i1.toInt) (b := 1) rfl (by decide) ey_11 (by omega) (by omega) | skip
          refine va_iast hx hb hK hP hD hS 0 1 rfl rfl (i := a2) (vp_of (a := a2.toInt) rfl (by omega) (by omega)) dX6_readQuote_94 (fun H locs hP hD hS => ?_)
          generalize hf_f_12 : upd fb0 _ _ = f_12 at hP hD
          have hP : va_P (dC, dI) vwCl [(r 0, .inl (cb0, 18, .inl f_12)), (r 1, .inl (cb1, 18, .inl fb1)), (r 2, .inl (cb2, 18, .inl fb2)), (rd, .inr (6, rF r y_7 y_8 a2 a3 a4 a5 a6 a7)), (ba, .inl (cb, kb, .inl fb))] H := hP
          have hD : va_D A [(r 0, .inl (cb0, 18, .inl f_12)), (r 1, .inl (cb1, 18, .inl fb1)), (r 2, .inl (cb2, 18, .inl fb2)), (rd, .inr (6, rF r y_7 y_8 a2 a3 a4 a5 a6 a7)), (ba, .inl (cb, kb, .inl fb))] := hD
          refine lv_aload_n hx hb dX6_readQuote_95 rfl (lv_at hl 2 rfl) ?_
          refine va_get (D := (dC, dI)) (ci := 6) (v := .ref (r 1)) (C := RX6) (T := TX6) (N := 11) hx hb hts fin_X6_readQuote_X6 hown hK hP 3 rfl rfl 6 (by decide) (hts (.fieldLink RX6 15 "PatternGate$Reader" "ends" "[I") (List.mem_of_getElem? (i := 9) (by decide +kernel))) (fun _ h9 => h9) rfl dX6_readQuote_96 ?_
          refine lv_aload_n hx hb dX6_readQuote_99 rfl (lv_at hl 2 rfl) ?_
          refine va_get (D := (dC, dI)) (ci := 6) (v := .int a2) (C := RX6) (T := TX6) (N := 11) hx hb hts fin_X6_readQuote_X6 hown hK hP 3 rfl rfl 2 (by decide) (hts (.fieldLink RX6 29 "PatternGate$Reader" "lines" "I") (List.mem_of_getElem? (i := 7) (by decide +kernel))) (fun _ h9 => h9) rfl dX6_readQuote_100 ?_
          refine lv_iload hx hb dX6_readQuote_103 (lv_at hl 0 rfl) ?_
          refine va_iast hx hb hK hP hD hS 1 2 rfl rfl (i := a2) (vp_of (a := a2.toInt) rfl (by omega) (by omega)) dX6_readQuote_105 (fun H locs hP hD hS => ?_)
          generalize hf_f_13 : upd fb1 _ _ = f_13 at hP hD
          have hP : va_P (dC, dI) vwCl [(r 0, .inl (cb0, 18, .inl f_12)), (r 1, .inl (cb1, 18, .inl f_13)), (r 2, .inl (cb2, 18, .inl fb2)), (rd, .inr (6, rF r y_7 y_8 a2 a3 a4 a5 a6 a7)), (ba, .inl (cb, kb, .inl fb))] H := hP
          have hD : va_D A [(r 0, .inl (cb0, 18, .inl f_12)), (r 1, .inl (cb1, 18, .inl f_13)), (r 2, .inl (cb2, 18, .inl fb2)), (rd, .inr (6, rF r y_7 y_8 a2 a3 a4 a5 a6 a7)), (ba, .inl (cb, kb, .inl fb))] := hD
          refine lv_aload_n hx hb dX6_readQuote_106 rfl (lv_at hl 2 rfl) ?_
          refine va_get (D := (dC, dI)) (ci := 6) (v := .ref (r 2)) (C := RX6) (T := TX6) (N := 11) hx hb hts fin_X6_readQuote_X6 hown hK hP 3 rfl rfl 7 (by decide) (hts (.fieldLink RX6 18 "PatternGate$Reader" "isPattern" "[Z") (List.mem_of_getElem? (i := 10) (by decide +kernel))) (fun _ h9 => h9) rfl dX6_readQuote_107 ?_
          refine lv_aload_n hx hb dX6_readQuote_110 rfl (lv_at hl 2 rfl) ?_
          refine va_get (D := (dC, dI)) (ci := 6) (v := .int a2) (C := RX6) (T := TX6) (N := 11) hx hb hts fin_X6_readQuote_X6 hown hK hP 3 rfl rfl 2 (by decide) (hts (.fieldLink RX6 29 "PatternGate$Reader" "lines" "I") (List.mem_of_getElem? (i := 7) (by decide +kernel))) (fun _ h9 => h9) rfl dX6_readQuote_111 ?_
          refine lv_iload hx hb dX6_readQuote_114 (lv_at hl 1 rfl) ?_
          refine lv_if_ne (tgt := 123) hx hb dX6_readQuote_116 (by decide) (fun k_14 => absurd (by decide) k_14) (fun k_14 => ?_)
          have tk_14 := c_eq (a := 0) (b := 0) (by decide) (by decide) k_14
          refine lv_iconst (v := 1) hx hb dX6_readQuote_119 (by decide) ?_
          refine lv_goto (tgt := 124) hx hb dX6_readQuote_120 (by decide) ?_
          refine va_zast hx hb hK hP hD hS 2 3 rfl rfl (i := a2) (vp_of (a := a2.toInt) rfl (by omega) (by omega)) dX6_readQuote_124 (fun H locs hP hD hS => ?_)
          generalize hf_f_15 : upd fb2 _ _ = f_15 at hP hD
          have hP : va_P (dC, dI) vwCl [(r 0, .inl (cb0, 18, .inl f_12)), (r 1, .inl (cb1, 18, .inl f_13)), (r 2, .inl (cb2, 18, .inl f_15)), (rd, .inr (6, rF r y_7 y_8 a2 a3 a4 a5 a6 a7)), (ba, .inl (cb, kb, .inl fb))] H := hP
          have hD : va_D A [(r 0, .inl (cb0, 18, .inl f_12)), (r 1, .inl (cb1, 18, .inl f_13)), (r 2, .inl (cb2, 18, .inl f_15)), (rd, .inr (6, rF r y_7 y_8 a2 a3 a4 a5 a6 a7)), (ba, .inl (cb, kb, .inl fb))] := hD
          refine lv_aload_n hx hb dX6_readQuote_125 rfl (lv_at hl 2 rfl) ?_
          refine lv_dup hx hb dX6_readQuote_126 rfl ?_
          refine va_get (D := (dC, dI)) (ci := 6) (v := .int a2) (C := RX6) (T := TX6) (N := 11) hx hb hts fin_X6_readQuote_X6 hown hK hP 3 rfl rfl 2 (by decide) (hts (.fieldLink RX6 29 "PatternGate$Reader" "lines" "I") (List.mem_of_getElem? (i := 7) (by decide +kernel))) (fun _ h9 => h9) rfl dX6_readQuote_127 ?_
          refine lv_iconst (v := 1) hx hb dX6_readQuote_130 (by decide) ?_
          refine lv_iadd hx hb dX6_readQuote_131 ?_
          refine lv_topi (fun y_16 ey_16 => ?_)
          first | have ty_16 := i_add (a := a2.toInt) (b := 1) rfl (by decide) ey_16 (by omega) (by omega) | skip
          refine va_put (D := (dC, dI)) (ci := 6) (v := .int y_16) (ty := .int) (C := RX6) (T := TX6) (N := 11) hx hb hts fin_X6_readQuote_X6 tyX6 tyX6_ok nmX6 hown hK hP hD hS 3 rfl rfl 2 (by decide) (hts (.fieldLink RX6 29 "PatternGate$Reader" "lines" "I") (List.mem_of_getElem? (i := 7) (by decide +kernel))) (fun _ h9 => h9) rfl (by decide +kernel) rfl rfl (Nat.le_of_ble_eq_true rfl) dX6_readQuote_132 (fun H locs hP hD hS => ?_)
          have hP : va_P (dC, dI) vwCl [(r 0, .inl (cb0, 18, .inl f_12)), (r 1, .inl (cb1, 18, .inl f_13)), (r 2, .inl (cb2, 18, .inl f_15)), (rd, .inr (6, rF r y_7 y_8 y_16 a3 a4 a5 a6 a7)), (ba, .inl (cb, kb, .inl fb))] H := hP
          have hD : va_D A [(r 0, .inl (cb0, 18, .inl f_12)), (r 1, .inl (cb1, 18, .inl f_13)), (r 2, .inl (cb2, 18, .inl f_15)), (rd, .inr (6, rF r y_7 y_8 y_16 a3 a4 a5 a6 a7)), (ba, .inl (cb, kb, .inl fb))] := hD
          refine lv_aload_n hx hb dX6_readQuote_135 rfl (lv_at hl 2 rfl) ?_
          refine lv_dup hx hb dX6_readQuote_136 rfl ?_
          refine va_get (D := (dC, dI)) (ci := 6) (v := .int a3) (C := RX6) (T := TX6) (N := 11) hx hb hts fin_X6_readQuote_X6 hown hK hP 3 rfl rfl 3 (by decide) (hts (.fieldLink RX6 32 "PatternGate$Reader" "newDocs" "I") (List.mem_of_getElem? (i := 11) (by decide +kernel))) (fun _ h9 => h9) rfl dX6_readQuote_137 ?_
          refine lv_iload hx hb dX6_readQuote_140 (lv_at hl 1 rfl) ?_
          refine lv_if_eq (tgt := 149) hx hb dX6_readQuote_142 (by decide) (fun k_17 => ?_) (fun k_17 => absurd (by decide) k_17)
          have tk_17 := c_eq (a := 0) (b := 0) (by decide) (by decide) k_17
          refine lv_iconst (v := 0) hx hb dX6_readQuote_149 (by decide) ?_
          refine lv_iadd hx hb dX6_readQuote_150 ?_
          refine lv_topi (fun y_18 ey_18 => ?_)
          first | have ty_18 := i_add (a := a3.toInt) (b := 0) rfl (by decide) ey_18 (by omega) (by omega) | skip
          refine va_put (D := (dC, dI)) (ci := 6) (v := .int y_18) (ty := .int) (C := RX6) (T := TX6) (N := 11) hx hb hts fin_X6_readQuote_X6 tyX6 tyX6_ok nmX6 hown hK hP hD hS 3 rfl rfl 3 (by decide) (hts (.fieldLink RX6 32 "PatternGate$Reader" "newDocs" "I") (List.mem_of_getElem? (i := 11) (by decide +kernel))) (fun _ h9 => h9) rfl (by decide +kernel) rfl rfl (Nat.le_of_ble_eq_true rfl) dX6_readQuote_151 (fun H locs hP hD hS => ?_)
          have hP : va_P (dC, dI) vwCl [(r 0, .inl (cb0, 18, .inl f_12)), (r 1, .inl (cb1, 18, .inl f_13)), (r 2, .inl (cb2, 18, .inl f_15)), (rd, .inr (6, rF r y_7 y_8 y_16 y_18 a4 a5 a6 a7)), (ba, .inl (cb, kb, .inl fb))] H := hP
          have hD : va_D A [(r 0, .inl (cb0, 18, .inl f_12)), (r 1, .inl (cb1, 18, .inl f_13)), (r 2, .inl (cb2, 18, .inl f_15)), (rd, .inr (6, rF r y_7 y_8 y_16 y_18 a4 a5 a6 a7)), (ba, .inl (cb, kb, .inl fb))] := hD
          refine lv_aload_n hx hb dX6_readQuote_154 rfl (lv_at hl 2 rfl) ?_
          refine lv_dup hx hb dX6_readQuote_155 rfl ?_
          refine va_get (D := (dC, dI)) (ci := 6) (v := .int a4) (C := RX6) (T := TX6) (N := 11) hx hb hts fin_X6_readQuote_X6 hown hK hP 3 rfl rfl 4 (by decide) (hts (.fieldLink RX6 35 "PatternGate$Reader" "newPatterns" "I") (List.mem_of_getElem? (i := 12) (by decide +kernel))) (fun _ h9 => h9) rfl dX6_readQuote_156 ?_
          refine lv_iload hx hb dX6_readQuote_159 (lv_at hl 1 rfl) ?_
          refine lv_if_eq (tgt := 168) hx hb dX6_readQuote_161 (by decide) (fun k_19 => ?_) (fun k_19 => absurd (by decide) k_19)
          have tk_19 := c_eq (a := 0) (b := 0) (by decide) (by decide) k_19
          refine lv_iconst (v := 1) hx hb dX6_readQuote_168 (by decide) ?_
          refine lv_iadd hx hb dX6_readQuote_169 ?_
          refine lv_topi (fun y_20 ey_20 => ?_)
          first | have ty_20 := i_add (a := a4.toInt) (b := 1) rfl (by decide) ey_20 (by omega) (by omega) | skip
          refine va_put (D := (dC, dI)) (ci := 6) (v := .int y_20) (ty := .int) (C := RX6) (T := TX6) (N := 11) hx hb hts fin_X6_readQuote_X6 tyX6 tyX6_ok nmX6 hown hK hP hD hS 3 rfl rfl 4 (by decide) (hts (.fieldLink RX6 35 "PatternGate$Reader" "newPatterns" "I") (List.mem_of_getElem? (i := 12) (by decide +kernel))) (fun _ h9 => h9) rfl (by decide +kernel) rfl rfl (Nat.le_of_ble_eq_true rfl) dX6_readQuote_170 (fun H locs hP hD hS => ?_)
          have hP : va_P (dC, dI) vwCl [(r 0, .inl (cb0, 18, .inl f_12)), (r 1, .inl (cb1, 18, .inl f_13)), (r 2, .inl (cb2, 18, .inl f_15)), (rd, .inr (6, rF r y_7 y_8 y_16 y_18 y_20 a5 a6 a7)), (ba, .inl (cb, kb, .inl fb))] H := hP
          have hD : va_D A [(r 0, .inl (cb0, 18, .inl f_12)), (r 1, .inl (cb1, 18, .inl f_13)), (r 2, .inl (cb2, 18, .inl f_15)), (rd, .inr (6, rF r y_7 y_8 y_16 y_18 y_20 a5 a6 a7)), (ba, .inl (cb, kb, .inl fb))] := hD
          refine lv_aload_n hx hb dX6_readQuote_173 rfl (lv_at hl 2 rfl) ?_
          refine lv_iconst (v := 3) hx hb dX6_readQuote_174 (by decide) ?_
          refine va_put (D := (dC, dI)) (ci := 6) (v := .int 3) (ty := .int) (C := RX6) (T := TX6) (N := 11) hx hb hts fin_X6_readQuote_X6 tyX6 tyX6_ok nmX6 hown hK hP hD hS 3 rfl rfl 10 (by decide) (hts (.fieldLink RX6 44 "PatternGate$Reader" "wanted" "I") (List.mem_of_getElem? (i := 1) (by decide +kernel))) (fun _ h9 => h9) rfl (by decide +kernel) rfl rfl (Nat.le_of_ble_eq_true rfl) dX6_readQuote_175 (fun H locs hP hD hS => ?_)
          have hP : va_P (dC, dI) vwCl [(r 0, .inl (cb0, 18, .inl f_12)), (r 1, .inl (cb1, 18, .inl f_13)), (r 2, .inl (cb2, 18, .inl f_15)), (rd, .inr (6, rF r y_7 y_8 y_16 y_18 y_20 a5 a6 3)), (ba, .inl (cb, kb, .inl fb))] H := hP
          have hD : va_D A [(r 0, .inl (cb0, 18, .inl f_12)), (r 1, .inl (cb1, 18, .inl f_13)), (r 2, .inl (cb2, 18, .inl f_15)), (rd, .inr (6, rF r y_7 y_8 y_16 y_18 y_20 a5 a6 3)), (ba, .inl (cb, kb, .inl fb))] := hD
          refine lv_iload hx hb dX6_readQuote_178 (lv_at hl 0 rfl) ?_
          have hP9 := hP.sub (ws' := [(rd, .inr (6, rF r y_7 y_8 y_16 y_18 y_20 a5 a6 3)), (ba, .inl (cb, kb, .inl fb)), (r 0, .inl (cb0, 18, .inl f_12)), (r 1, .inl (cb1, 18, .inl f_13)), (r 2, .inl (cb2, 18, .inl f_15))]) [3, 4, 0, 1, 2] rfl
          have hD9 := hD.sub (ws' := [(rd, .inr (6, rF r y_7 y_8 y_16 y_18 y_20 a5 a6 3)), (ba, .inl (cb, kb, .inl fb)), (r 0, .inl (cb0, 18, .inl f_12)), (r 1, .inl (cb1, 18, .inl f_13)), (r 2, .inl (cb2, 18, .inl f_15))]) [3, 4, 0, 1, 2] (by decide) rfl
          have hK9 := hK.sub (tys' := [(cb, .int), (cb0, .int), (cb1, .int), (cb2, .boolean)]) [0, 1, 2, 3] rfl
          exact W.iret hx hb hr (fun t ht hW => ⟨⟨_, r_6, rfl, ⟨rfl, by omega⟩, y_7, y_8, y_16, y_18, y_20, 3, f_12, f_13, f_15, (Or.inr (rJ.line hJ hf_f_12 hf_f_13 hf_f_15 (by omega) (by omega) (by omega) (by omega) (by omega) (by decide) (Or.inr ⟨by omega, rfl, by omega, by omega⟩))), by rw [ht]; exact hP9, va_K.moved hW.alike hK9, hD9⟩, hS.F ht⟩) hS.2.2 dX6_readQuote_180
    · have tk_2 := c_eq (a := a7.toInt) (b := 1) rfl (by decide) k_2
      refine lv_iconst (v := 1) hx hb dX6_readQuote_32 (by decide) ?_
      refine lv_goto (tgt := 37) hx hb dX6_readQuote_33 (by decide) ?_
      refine lv_istore (lv' := [(4, .int 1), (0, .ref rd), (1, .ref ba), (2, .int i1), (3, .int i2)]) hx hb dX6_readQuote_37 hl (by decide) rfl (fun ls hl => ?_)
      refine lv_iload hx hb dX6_readQuote_39 (lv_at hl 0 rfl) ?_
      refine lv_if_eq (tgt := 56) hx hb dX6_readQuote_41 (by decide) (fun k_21 => absurd k_21 (by decide)) (fun k_21 => ?_)
      have tk_21 := c_ne (a := 1) (b := 0) (by decide) (by decide) k_21
      refine lv_aload_n hx hb dX6_readQuote_44 rfl (lv_at hl 1 rfl) ?_
      refine lv_aload_n hx hb dX6_readQuote_45 rfl (lv_at hl 2 rfl) ?_
      refine lv_iload_n hx hb dX6_readQuote_46 rfl (lv_at hl 3 rfl) ?_
      refine lv_iconst (v := 1) hx hb dX6_readQuote_47 (by decide) ?_
      refine lv_iadd hx hb dX6_readQuote_48 ?_
      refine lv_topi (fun y_22 ey_22 => ?_)
      first | have ty_22 := i_add (a := i1.toInt) (b := 1) rfl (by decide) ey_22 (by omega) (by omega) | skip
      refine lv_iload_n hx hb dX6_readQuote_49 rfl (lv_at hl 4 rfl) ?_
      have hPc := hP.sub (ws' := [(rd, .inr (6, rF r a0 a1 a2 a3 a4 a5 a6 a7)), (ba, .inl (cb, kb, .inl fb))]) [0, 1] rfl
      have hKc := hK.sub (tys' := [(cb, .int)]) [0] rfl
      have hDc := hD.sub (ws' := [(rd, .inr (6, rF r a0 a1 a2 a3 a4 a5 a6 a7)), (ba, .inl (cb, kb, .inl fb))]) [0, 1] (by decide) rfl
      have hFc := va_free (wc := [(rd, .inr (6, rF r a0 a1 a2 a3 a4 a5 a6 a7)), (ba, .inl (cb, kb, .inl fb))]) hD hS hA [0, 1] rfl
      refine va_calli (va_runV (As := [.ref ba, .int y_22, .int i2]) (rest := []) ⟨hx, hb, hml, hown, hts⟩ (s_endOfDoc2 l dC dI rd r a0 a1 a2 a3 a4 a5 a6 a7 ba kb cb fb H.size y_22 i2 (by first | omega | decide | (have l0 := Int32.toInt_zero; omega)) (by first | omega | decide | (have l0 := Int32.toInt_zero; omega)) (by first | omega | decide | (have l0 := Int32.toInt_zero; omega)) (by first | omega | decide | (have l0 := Int32.toInt_zero; omega))) (cwV 3 hts mg_X6_readQuote_X6_endOfDoc_93 rfl rfl rfl (by decide +kernel) ⟨Nat.le_of_ble_eq_true rfl, Nat.le_of_ble_eq_true rfl⟩) ⟨fun a U g mk q => by obtain ⟨q0, q1, qP, qK, qD, qE0⟩ := q; exact ⟨q0, q1, qP, va_K.moved (u := U) (U := U.calling g mk a) (Vm.Alike.refl U.vm) qK, qD, va_Nw.same rfl (rfl : U.vm = (U.calling g mk a).vm) qE0⟩, va_recv hKc hPc (ci := 6) (q0 := 0) rfl rfl, fun U hU hW => ⟨rfl, by rw [hU], by rw [hU]; exact hPc, va_K.moved hW.alike hKc, hDc.weaken (fun _ _ _ _ => trivial), va_Nw.warmM hW hN53⟩⟩ rfl rfl hl.1 rfl (lv_room (Nat.le_of_ble_eq_true rfl)) dX6_readQuote_50 ⟨Nat.le_of_ble_eq_true rfl, Nat.le_of_ble_eq_true rfl⟩) hS (fun q _ h => hFc q h) hFc (fun r_24 u t H1 locs ht hvm hw hB hz1 hk1 hS => ?_)
      obtain ⟨y_25, y_26, hP1, hK1, hD1⟩ := hB
      rw [ht] at hP1
      have hr_24 := hw
      have rg_r_24 := i_rng r_24
      obtain ⟨hP, hD⟩ := va_join (wr := [(r 0, .inl (cb0, 18, .inl fb0)), (r 1, .inl (cb1, 18, .inl fb1)), (r 2, .inl (cb2, 18, .inl fb2))]) (w1 := [(rd, .inr (6, rF r y_25 y_26 a2 a3 a4 a5 a6 a7)), (ba, .inl (cb, kb, .inl fb))]) hP hD [0, 1] [2, 3, 4] rfl rfl (by decide) (by decide) hk1 hFc hP1 hD1
      generalize H1 = H at hP hS ⊢
      have hP : va_P (dC, dI) vwCl [(r 0, .inl (cb0, 18, .inl fb0)), (r 1, .inl (cb1, 18, .inl fb1)), (r 2, .inl (cb2, 18, .inl fb2)), (rd, .inr (6, rF r y_25 y_26 a2 a3 a4 a5 a6 a7)), (ba, .inl (cb, kb, .inl fb))] H := hP
      have hD : va_D A [(r 0, .inl (cb0, 18, .inl fb0)), (r 1, .inl (cb1, 18, .inl fb1)), (r 2, .inl (cb2, 18, .inl fb2)), (rd, .inr (6, rF r y_25 y_26 a2 a3 a4 a5 a6 a7)), (ba, .inl (cb, kb, .inl fb))] := hD
      refine lv_goto (tgt := 65) hx hb dX6_readQuote_53 (by decide) ?_
      refine lv_istore (lv' := [(5, .int r_24), (4, .int 1), (0, .ref rd), (1, .ref ba), (2, .int i1), (3, .int i2)]) hx hb dX6_readQuote_65 hl (by decide) rfl (fun ls hl => ?_)
      refine lv_aload_n hx hb dX6_readQuote_67 rfl (lv_at hl 2 rfl) ?_
      refine va_get (D := (dC, dI)) (ci := 6) (v := .int y_25) (C := RX6) (T := TX6) (N := 11) hx hb hts fin_X6_readQuote_X6 hown hK hP 3 rfl rfl 0 (by decide) (hts (.fieldLink RX6 22 "PatternGate$Reader" "faultKind" "I") (List.mem_of_getElem? (i := 6) (by decide +kernel))) (fun _ h9 => h9) rfl dX6_readQuote_68 ?_
      refine lv_if_ne (tgt := 178) hx hb dX6_readQuote_71 (by decide) (fun k_27 => ?_) (fun k_27 => ?_)
      · have tk_27 := c_ne (a := y_25.toInt) (b := 0) rfl (by decide) k_27
        refine lv_iload hx hb dX6_readQuote_178 (lv_at hl 0 rfl) ?_
        have hP9 := hP.sub (ws' := [(rd, .inr (6, rF r y_25 y_26 a2 a3 a4 a5 a6 a7)), (ba, .inl (cb, kb, .inl fb)), (r 0, .inl (cb0, 18, .inl fb0)), (r 1, .inl (cb1, 18, .inl fb1)), (r 2, .inl (cb2, 18, .inl fb2))]) [3, 4, 0, 1, 2] rfl
        have hD9 := hD.sub (ws' := [(rd, .inr (6, rF r y_25 y_26 a2 a3 a4 a5 a6 a7)), (ba, .inl (cb, kb, .inl fb)), (r 0, .inl (cb0, 18, .inl fb0)), (r 1, .inl (cb1, 18, .inl fb1)), (r 2, .inl (cb2, 18, .inl fb2))]) [3, 4, 0, 1, 2] (by decide) rfl
        have hK9 := hK.sub (tys' := [(cb, .int), (cb0, .int), (cb1, .int), (cb2, .boolean)]) [0, 1, 2, 3] rfl
        exact W.iret hx hb hr (fun t ht hW => ⟨⟨_, r_24, rfl, ⟨rfl, by omega⟩, y_25, y_26, a2, a3, a4, a7, fb0, fb1, fb2, (by first | exact Or.inl (by omega) | (exfalso; omega)), by rw [ht]; exact hP9, va_K.moved hW.alike hK9, hD9⟩, hS.F ht⟩) hS.2.2 dX6_readQuote_180
      · have tk_27 := c_eq (a := y_25.toInt) (b := 0) rfl (by decide) k_27
        refine lv_aload_n hx hb dX6_readQuote_74 rfl (lv_at hl 2 rfl) ?_
        refine va_get (D := (dC, dI)) (ci := 6) (v := .int a2) (C := RX6) (T := TX6) (N := 11) hx hb hts fin_X6_readQuote_X6 hown hK hP 3 rfl rfl 2 (by decide) (hts (.fieldLink RX6 29 "PatternGate$Reader" "lines" "I") (List.mem_of_getElem? (i := 7) (by decide +kernel))) (fun _ h9 => h9) rfl dX6_readQuote_75 ?_
        refine lv_bipush (v := 18) hx hb dX6_readQuote_78 (by decide) ?_
        refine lv_icmp_ge (tgt := 178) hx hb dX6_readQuote_80 (by decide) (fun k_28 => ?_) (fun k_28 => ?_)
        · have tk_28 := c_ge (a := a2.toInt) (b := 18) rfl (by decide) k_28
          refine lv_iload hx hb dX6_readQuote_178 (lv_at hl 0 rfl) ?_
          have hP9 := hP.sub (ws' := [(rd, .inr (6, rF r y_25 y_26 a2 a3 a4 a5 a6 a7)), (ba, .inl (cb, kb, .inl fb)), (r 0, .inl (cb0, 18, .inl fb0)), (r 1, .inl (cb1, 18, .inl fb1)), (r 2, .inl (cb2, 18, .inl fb2))]) [3, 4, 0, 1, 2] rfl
          have hD9 := hD.sub (ws' := [(rd, .inr (6, rF r y_25 y_26 a2 a3 a4 a5 a6 a7)), (ba, .inl (cb, kb, .inl fb)), (r 0, .inl (cb0, 18, .inl fb0)), (r 1, .inl (cb1, 18, .inl fb1)), (r 2, .inl (cb2, 18, .inl fb2))]) [3, 4, 0, 1, 2] (by decide) rfl
          have hK9 := hK.sub (tys' := [(cb, .int), (cb0, .int), (cb1, .int), (cb2, .boolean)]) [0, 1, 2, 3] rfl
          exact W.iret hx hb hr (fun t ht hW => ⟨⟨_, r_24, rfl, ⟨rfl, by omega⟩, y_25, y_26, a2, a3, a4, a7, fb0, fb1, fb2, (by first | exact Or.inl (by omega) | (exfalso; omega)), by rw [ht]; exact hP9, va_K.moved hW.alike hK9, hD9⟩, hS.F ht⟩) hS.2.2 dX6_readQuote_180
        · have tk_28 := c_nge (a := a2.toInt) (b := 18) rfl (by decide) k_28
          refine lv_aload_n hx hb dX6_readQuote_83 rfl (lv_at hl 2 rfl) ?_
          refine va_get (D := (dC, dI)) (ci := 6) (v := .ref (r 0)) (C := RX6) (T := TX6) (N := 11) hx hb hts fin_X6_readQuote_X6 hown hK hP 3 rfl rfl 5 (by decide) (hts (.fieldLink RX6 11 "PatternGate$Reader" "begins" "[I") (List.mem_of_getElem? (i := 8) (by decide +kernel))) (fun _ h9 => h9) rfl dX6_readQuote_84 ?_
          refine lv_aload_n hx hb dX6_readQuote_87 rfl (lv_at hl 2 rfl) ?_
          refine va_get (D := (dC, dI)) (ci := 6) (v := .int a2) (C := RX6) (T := TX6) (N := 11) hx hb hts fin_X6_readQuote_X6 hown hK hP 3 rfl rfl 2 (by decide) (hts (.fieldLink RX6 29 "PatternGate$Reader" "lines" "I") (List.mem_of_getElem? (i := 7) (by decide +kernel))) (fun _ h9 => h9) rfl dX6_readQuote_88 ?_
          refine lv_iload_n hx hb dX6_readQuote_91 rfl (lv_at hl 4 rfl) ?_
          refine lv_iconst (v := 1) hx hb dX6_readQuote_92 (by decide) ?_
          refine lv_iadd hx hb dX6_readQuote_93 ?_
          refine lv_topi (fun y_29 ey_29 => ?_)
          first | have ty_29 := i_add (a := i1.toInt) (b := 1) rfl (by decide) ey_29 (by omega) (by omega) | skip
          refine va_iast hx hb hK hP hD hS 0 1 rfl rfl (i := a2) (vp_of (a := a2.toInt) rfl (by omega) (by omega)) dX6_readQuote_94 (fun H locs hP hD hS => ?_)
          generalize hf_f_30 : upd fb0 _ _ = f_30 at hP hD
          have hP : va_P (dC, dI) vwCl [(r 0, .inl (cb0, 18, .inl f_30)), (r 1, .inl (cb1, 18, .inl fb1)), (r 2, .inl (cb2, 18, .inl fb2)), (rd, .inr (6, rF r y_25 y_26 a2 a3 a4 a5 a6 a7)), (ba, .inl (cb, kb, .inl fb))] H := hP
          have hD : va_D A [(r 0, .inl (cb0, 18, .inl f_30)), (r 1, .inl (cb1, 18, .inl fb1)), (r 2, .inl (cb2, 18, .inl fb2)), (rd, .inr (6, rF r y_25 y_26 a2 a3 a4 a5 a6 a7)), (ba, .inl (cb, kb, .inl fb))] := hD
          refine lv_aload_n hx hb dX6_readQuote_95 rfl (lv_at hl 2 rfl) ?_
          refine va_get (D := (dC, dI)) (ci := 6) (v := .ref (r 1)) (C := RX6) (T := TX6) (N := 11) hx hb hts fin_X6_readQuote_X6 hown hK hP 3 rfl rfl 6 (by decide) (hts (.fieldLink RX6 15 "PatternGate$Reader" "ends" "[I") (List.mem_of_getElem? (i := 9) (by decide +kernel))) (fun _ h9 => h9) rfl dX6_readQuote_96 ?_
          refine lv_aload_n hx hb dX6_readQuote_99 rfl (lv_at hl 2 rfl) ?_
          refine va_get (D := (dC, dI)) (ci := 6) (v := .int a2) (C := RX6) (T := TX6) (N := 11) hx hb hts fin_X6_readQuote_X6 hown hK hP 3 rfl rfl 2 (by decide) (hts (.fieldLink RX6 29 "PatternGate$Reader" "lines" "I") (List.mem_of_getElem? (i := 7) (by decide +kernel))) (fun _ h9 => h9) rfl dX6_readQuote_100 ?_
          refine lv_iload hx hb dX6_readQuote_103 (lv_at hl 0 rfl) ?_
          refine va_iast hx hb hK hP hD hS 1 2 rfl rfl (i := a2) (vp_of (a := a2.toInt) rfl (by omega) (by omega)) dX6_readQuote_105 (fun H locs hP hD hS => ?_)
          generalize hf_f_31 : upd fb1 _ _ = f_31 at hP hD
          have hP : va_P (dC, dI) vwCl [(r 0, .inl (cb0, 18, .inl f_30)), (r 1, .inl (cb1, 18, .inl f_31)), (r 2, .inl (cb2, 18, .inl fb2)), (rd, .inr (6, rF r y_25 y_26 a2 a3 a4 a5 a6 a7)), (ba, .inl (cb, kb, .inl fb))] H := hP
          have hD : va_D A [(r 0, .inl (cb0, 18, .inl f_30)), (r 1, .inl (cb1, 18, .inl f_31)), (r 2, .inl (cb2, 18, .inl fb2)), (rd, .inr (6, rF r y_25 y_26 a2 a3 a4 a5 a6 a7)), (ba, .inl (cb, kb, .inl fb))] := hD
          refine lv_aload_n hx hb dX6_readQuote_106 rfl (lv_at hl 2 rfl) ?_
          refine va_get (D := (dC, dI)) (ci := 6) (v := .ref (r 2)) (C := RX6) (T := TX6) (N := 11) hx hb hts fin_X6_readQuote_X6 hown hK hP 3 rfl rfl 7 (by decide) (hts (.fieldLink RX6 18 "PatternGate$Reader" "isPattern" "[Z") (List.mem_of_getElem? (i := 10) (by decide +kernel))) (fun _ h9 => h9) rfl dX6_readQuote_107 ?_
          refine lv_aload_n hx hb dX6_readQuote_110 rfl (lv_at hl 2 rfl) ?_
          refine va_get (D := (dC, dI)) (ci := 6) (v := .int a2) (C := RX6) (T := TX6) (N := 11) hx hb hts fin_X6_readQuote_X6 hown hK hP 3 rfl rfl 2 (by decide) (hts (.fieldLink RX6 29 "PatternGate$Reader" "lines" "I") (List.mem_of_getElem? (i := 7) (by decide +kernel))) (fun _ h9 => h9) rfl dX6_readQuote_111 ?_
          refine lv_iload hx hb dX6_readQuote_114 (lv_at hl 1 rfl) ?_
          refine lv_if_ne (tgt := 123) hx hb dX6_readQuote_116 (by decide) (fun k_32 => ?_) (fun k_32 => absurd k_32 (by decide))
          have tk_32 := c_ne (a := 1) (b := 0) (by decide) (by decide) k_32
          refine lv_iconst (v := 0) hx hb dX6_readQuote_123 (by decide) ?_
          refine va_zast hx hb hK hP hD hS 2 3 rfl rfl (i := a2) (vp_of (a := a2.toInt) rfl (by omega) (by omega)) dX6_readQuote_124 (fun H locs hP hD hS => ?_)
          generalize hf_f_33 : upd fb2 _ _ = f_33 at hP hD
          have hP : va_P (dC, dI) vwCl [(r 0, .inl (cb0, 18, .inl f_30)), (r 1, .inl (cb1, 18, .inl f_31)), (r 2, .inl (cb2, 18, .inl f_33)), (rd, .inr (6, rF r y_25 y_26 a2 a3 a4 a5 a6 a7)), (ba, .inl (cb, kb, .inl fb))] H := hP
          have hD : va_D A [(r 0, .inl (cb0, 18, .inl f_30)), (r 1, .inl (cb1, 18, .inl f_31)), (r 2, .inl (cb2, 18, .inl f_33)), (rd, .inr (6, rF r y_25 y_26 a2 a3 a4 a5 a6 a7)), (ba, .inl (cb, kb, .inl fb))] := hD
          refine lv_aload_n hx hb dX6_readQuote_125 rfl (lv_at hl 2 rfl) ?_
          refine lv_dup hx hb dX6_readQuote_126 rfl ?_
          refine va_get (D := (dC, dI)) (ci := 6) (v := .int a2) (C := RX6) (T := TX6) (N := 11) hx hb hts fin_X6_readQuote_X6 hown hK hP 3 rfl rfl 2 (by decide) (hts (.fieldLink RX6 29 "PatternGate$Reader" "lines" "I") (List.mem_of_getElem? (i := 7) (by decide +kernel))) (fun _ h9 => h9) rfl dX6_readQuote_127 ?_
          refine lv_iconst (v := 1) hx hb dX6_readQuote_130 (by decide) ?_
          refine lv_iadd hx hb dX6_readQuote_131 ?_
          refine lv_topi (fun y_34 ey_34 => ?_)
          first | have ty_34 := i_add (a := a2.toInt) (b := 1) rfl (by decide) ey_34 (by omega) (by omega) | skip
          refine va_put (D := (dC, dI)) (ci := 6) (v := .int y_34) (ty := .int) (C := RX6) (T := TX6) (N := 11) hx hb hts fin_X6_readQuote_X6 tyX6 tyX6_ok nmX6 hown hK hP hD hS 3 rfl rfl 2 (by decide) (hts (.fieldLink RX6 29 "PatternGate$Reader" "lines" "I") (List.mem_of_getElem? (i := 7) (by decide +kernel))) (fun _ h9 => h9) rfl (by decide +kernel) rfl rfl (Nat.le_of_ble_eq_true rfl) dX6_readQuote_132 (fun H locs hP hD hS => ?_)
          have hP : va_P (dC, dI) vwCl [(r 0, .inl (cb0, 18, .inl f_30)), (r 1, .inl (cb1, 18, .inl f_31)), (r 2, .inl (cb2, 18, .inl f_33)), (rd, .inr (6, rF r y_25 y_26 y_34 a3 a4 a5 a6 a7)), (ba, .inl (cb, kb, .inl fb))] H := hP
          have hD : va_D A [(r 0, .inl (cb0, 18, .inl f_30)), (r 1, .inl (cb1, 18, .inl f_31)), (r 2, .inl (cb2, 18, .inl f_33)), (rd, .inr (6, rF r y_25 y_26 y_34 a3 a4 a5 a6 a7)), (ba, .inl (cb, kb, .inl fb))] := hD
          refine lv_aload_n hx hb dX6_readQuote_135 rfl (lv_at hl 2 rfl) ?_
          refine lv_dup hx hb dX6_readQuote_136 rfl ?_
          refine va_get (D := (dC, dI)) (ci := 6) (v := .int a3) (C := RX6) (T := TX6) (N := 11) hx hb hts fin_X6_readQuote_X6 hown hK hP 3 rfl rfl 3 (by decide) (hts (.fieldLink RX6 32 "PatternGate$Reader" "newDocs" "I") (List.mem_of_getElem? (i := 11) (by decide +kernel))) (fun _ h9 => h9) rfl dX6_readQuote_137 ?_
          refine lv_iload hx hb dX6_readQuote_140 (lv_at hl 1 rfl) ?_
          refine lv_if_eq (tgt := 149) hx hb dX6_readQuote_142 (by decide) (fun k_35 => absurd k_35 (by decide)) (fun k_35 => ?_)
          have tk_35 := c_ne (a := 1) (b := 0) (by decide) (by decide) k_35
          refine lv_iconst (v := 1) hx hb dX6_readQuote_145 (by decide) ?_
          refine lv_goto (tgt := 150) hx hb dX6_readQuote_146 (by decide) ?_
          refine lv_iadd hx hb dX6_readQuote_150 ?_
          refine lv_topi (fun y_36 ey_36 => ?_)
          first | have ty_36 := i_add (a := a3.toInt) (b := 1) rfl (by decide) ey_36 (by omega) (by omega) | skip
          refine va_put (D := (dC, dI)) (ci := 6) (v := .int y_36) (ty := .int) (C := RX6) (T := TX6) (N := 11) hx hb hts fin_X6_readQuote_X6 tyX6 tyX6_ok nmX6 hown hK hP hD hS 3 rfl rfl 3 (by decide) (hts (.fieldLink RX6 32 "PatternGate$Reader" "newDocs" "I") (List.mem_of_getElem? (i := 11) (by decide +kernel))) (fun _ h9 => h9) rfl (by decide +kernel) rfl rfl (Nat.le_of_ble_eq_true rfl) dX6_readQuote_151 (fun H locs hP hD hS => ?_)
          have hP : va_P (dC, dI) vwCl [(r 0, .inl (cb0, 18, .inl f_30)), (r 1, .inl (cb1, 18, .inl f_31)), (r 2, .inl (cb2, 18, .inl f_33)), (rd, .inr (6, rF r y_25 y_26 y_34 y_36 a4 a5 a6 a7)), (ba, .inl (cb, kb, .inl fb))] H := hP
          have hD : va_D A [(r 0, .inl (cb0, 18, .inl f_30)), (r 1, .inl (cb1, 18, .inl f_31)), (r 2, .inl (cb2, 18, .inl f_33)), (rd, .inr (6, rF r y_25 y_26 y_34 y_36 a4 a5 a6 a7)), (ba, .inl (cb, kb, .inl fb))] := hD
          refine lv_aload_n hx hb dX6_readQuote_154 rfl (lv_at hl 2 rfl) ?_
          refine lv_dup hx hb dX6_readQuote_155 rfl ?_
          refine va_get (D := (dC, dI)) (ci := 6) (v := .int a4) (C := RX6) (T := TX6) (N := 11) hx hb hts fin_X6_readQuote_X6 hown hK hP 3 rfl rfl 4 (by decide) (hts (.fieldLink RX6 35 "PatternGate$Reader" "newPatterns" "I") (List.mem_of_getElem? (i := 12) (by decide +kernel))) (fun _ h9 => h9) rfl dX6_readQuote_156 ?_
          refine lv_iload hx hb dX6_readQuote_159 (lv_at hl 1 rfl) ?_
          refine lv_if_eq (tgt := 168) hx hb dX6_readQuote_161 (by decide) (fun k_37 => absurd k_37 (by decide)) (fun k_37 => ?_)
          have tk_37 := c_ne (a := 1) (b := 0) (by decide) (by decide) k_37
          refine lv_iconst (v := 0) hx hb dX6_readQuote_164 (by decide) ?_
          refine lv_goto (tgt := 169) hx hb dX6_readQuote_165 (by decide) ?_
          refine lv_iadd hx hb dX6_readQuote_169 ?_
          refine lv_topi (fun y_38 ey_38 => ?_)
          first | have ty_38 := i_add (a := a4.toInt) (b := 0) rfl (by decide) ey_38 (by omega) (by omega) | skip
          refine va_put (D := (dC, dI)) (ci := 6) (v := .int y_38) (ty := .int) (C := RX6) (T := TX6) (N := 11) hx hb hts fin_X6_readQuote_X6 tyX6 tyX6_ok nmX6 hown hK hP hD hS 3 rfl rfl 4 (by decide) (hts (.fieldLink RX6 35 "PatternGate$Reader" "newPatterns" "I") (List.mem_of_getElem? (i := 12) (by decide +kernel))) (fun _ h9 => h9) rfl (by decide +kernel) rfl rfl (Nat.le_of_ble_eq_true rfl) dX6_readQuote_170 (fun H locs hP hD hS => ?_)
          have hP : va_P (dC, dI) vwCl [(r 0, .inl (cb0, 18, .inl f_30)), (r 1, .inl (cb1, 18, .inl f_31)), (r 2, .inl (cb2, 18, .inl f_33)), (rd, .inr (6, rF r y_25 y_26 y_34 y_36 y_38 a5 a6 a7)), (ba, .inl (cb, kb, .inl fb))] H := hP
          have hD : va_D A [(r 0, .inl (cb0, 18, .inl f_30)), (r 1, .inl (cb1, 18, .inl f_31)), (r 2, .inl (cb2, 18, .inl f_33)), (rd, .inr (6, rF r y_25 y_26 y_34 y_36 y_38 a5 a6 a7)), (ba, .inl (cb, kb, .inl fb))] := hD
          refine lv_aload_n hx hb dX6_readQuote_173 rfl (lv_at hl 2 rfl) ?_
          refine lv_iconst (v := 3) hx hb dX6_readQuote_174 (by decide) ?_
          refine va_put (D := (dC, dI)) (ci := 6) (v := .int 3) (ty := .int) (C := RX6) (T := TX6) (N := 11) hx hb hts fin_X6_readQuote_X6 tyX6 tyX6_ok nmX6 hown hK hP hD hS 3 rfl rfl 10 (by decide) (hts (.fieldLink RX6 44 "PatternGate$Reader" "wanted" "I") (List.mem_of_getElem? (i := 1) (by decide +kernel))) (fun _ h9 => h9) rfl (by decide +kernel) rfl rfl (Nat.le_of_ble_eq_true rfl) dX6_readQuote_175 (fun H locs hP hD hS => ?_)
          have hP : va_P (dC, dI) vwCl [(r 0, .inl (cb0, 18, .inl f_30)), (r 1, .inl (cb1, 18, .inl f_31)), (r 2, .inl (cb2, 18, .inl f_33)), (rd, .inr (6, rF r y_25 y_26 y_34 y_36 y_38 a5 a6 3)), (ba, .inl (cb, kb, .inl fb))] H := hP
          have hD : va_D A [(r 0, .inl (cb0, 18, .inl f_30)), (r 1, .inl (cb1, 18, .inl f_31)), (r 2, .inl (cb2, 18, .inl f_33)), (rd, .inr (6, rF r y_25 y_26 y_34 y_36 y_38 a5 a6 3)), (ba, .inl (cb, kb, .inl fb))] := hD
          refine lv_iload hx hb dX6_readQuote_178 (lv_at hl 0 rfl) ?_
          have hP9 := hP.sub (ws' := [(rd, .inr (6, rF r y_25 y_26 y_34 y_36 y_38 a5 a6 3)), (ba, .inl (cb, kb, .inl fb)), (r 0, .inl (cb0, 18, .inl f_30)), (r 1, .inl (cb1, 18, .inl f_31)), (r 2, .inl (cb2, 18, .inl f_33))]) [3, 4, 0, 1, 2] rfl
          have hD9 := hD.sub (ws' := [(rd, .inr (6, rF r y_25 y_26 y_34 y_36 y_38 a5 a6 3)), (ba, .inl (cb, kb, .inl fb)), (r 0, .inl (cb0, 18, .inl f_30)), (r 1, .inl (cb1, 18, .inl f_31)), (r 2, .inl (cb2, 18, .inl f_33))]) [3, 4, 0, 1, 2] (by decide) rfl
          have hK9 := hK.sub (tys' := [(cb, .int), (cb0, .int), (cb1, .int), (cb2, .boolean)]) [0, 1, 2, 3] rfl
          exact W.iret hx hb hr (fun t ht hW => ⟨⟨_, r_24, rfl, ⟨rfl, by omega⟩, y_25, y_26, y_34, y_36, y_38, 3, f_30, f_31, f_33, (Or.inr (rJ.line hJ hf_f_30 hf_f_31 hf_f_33 (by omega) (by omega) (by omega) (by omega) (by omega) (by decide) (Or.inl ⟨by omega, rfl, by omega, by omega, by omega⟩))), by rw [ht]; exact hP9, va_K.moved hW.alike hK9, hD9⟩, hS.F ht⟩) hS.2.2 dX6_readQuote_180
  · have tk_1 := c_ne (a := a7.toInt) (b := 1) rfl (by decide) k_1
    refine lv_aload_n hx hb dX6_readQuote_8 rfl (lv_at hl 0 rfl) ?_
    refine va_get (D := (dC, dI)) (ci := 6) (v := .int a7) (C := RX6) (T := TX6) (N := 11) hx hb hts fin_X6_readQuote_X6 hown hK hP 0 rfl rfl 10 (by decide) (hts (.fieldLink RX6 44 "PatternGate$Reader" "wanted" "I") (List.mem_of_getElem? (i := 1) (by decide +kernel))) (fun _ h9 => h9) rfl dX6_readQuote_9 ?_
    refine lv_iconst (v := 2) hx hb dX6_readQuote_12 (by decide) ?_
    refine lv_icmp_eq (tgt := 24) hx hb dX6_readQuote_13 (by decide) (fun k_39 => ?_) (fun k_39 => ?_)
    · have tk_39 := c_eq (a := a7.toInt) (b := 2) rfl (by decide) k_39
      refine lv_aload_n hx hb dX6_readQuote_24 rfl (lv_at hl 0 rfl) ?_
      refine va_get (D := (dC, dI)) (ci := 6) (v := .int a7) (C := RX6) (T := TX6) (N := 11) hx hb hts fin_X6_readQuote_X6 hown hK hP 0 rfl rfl 10 (by decide) (hts (.fieldLink RX6 44 "PatternGate$Reader" "wanted" "I") (List.mem_of_getElem? (i := 1) (by decide +kernel))) (fun _ h9 => h9) rfl dX6_readQuote_25 ?_
      refine lv_iconst (v := 1) hx hb dX6_readQuote_28 (by decide) ?_
      refine lv_icmp_ne (tgt := 36) hx hb dX6_readQuote_29 (by decide) (fun k_40 => ?_) (fun k_40 => ?_)
      · have tk_40 := c_ne (a := a7.toInt) (b := 1) rfl (by decide) k_40
        refine lv_iconst (v := 0) hx hb dX6_readQuote_36 (by decide) ?_
        refine lv_istore (lv' := [(4, .int 0), (0, .ref rd), (1, .ref ba), (2, .int i1), (3, .int i2)]) hx hb dX6_readQuote_37 hl (by decide) rfl (fun ls hl => ?_)
        refine lv_iload hx hb dX6_readQuote_39 (lv_at hl 0 rfl) ?_
        refine lv_if_eq (tgt := 56) hx hb dX6_readQuote_41 (by decide) (fun k_41 => ?_) (fun k_41 => absurd (by decide) k_41)
        have tk_41 := c_eq (a := 0) (b := 0) (by decide) (by decide) k_41
        refine lv_aload_n hx hb dX6_readQuote_56 rfl (lv_at hl 1 rfl) ?_
        refine lv_aload_n hx hb dX6_readQuote_57 rfl (lv_at hl 2 rfl) ?_
        refine lv_iload_n hx hb dX6_readQuote_58 rfl (lv_at hl 3 rfl) ?_
        refine lv_iconst (v := 1) hx hb dX6_readQuote_59 (by decide) ?_
        refine lv_iadd hx hb dX6_readQuote_60 ?_
        refine lv_topi (fun y_42 ey_42 => ?_)
        first | have ty_42 := i_add (a := i1.toInt) (b := 1) rfl (by decide) ey_42 (by omega) (by omega) | skip
        refine lv_iload_n hx hb dX6_readQuote_61 rfl (lv_at hl 4 rfl) ?_
        have hPc := hP.sub (ws' := [(rd, .inr (6, rF r a0 a1 a2 a3 a4 a5 a6 a7)), (ba, .inl (cb, kb, .inl fb))]) [0, 1] rfl
        have hKc := hK.sub (tys' := [(cb, .int)]) [0] rfl
        have hDc := hD.sub (ws' := [(rd, .inr (6, rF r a0 a1 a2 a3 a4 a5 a6 a7)), (ba, .inl (cb, kb, .inl fb))]) [0, 1] (by decide) rfl
        have hFc := va_free (wc := [(rd, .inr (6, rF r a0 a1 a2 a3 a4 a5 a6 a7)), (ba, .inl (cb, kb, .inl fb))]) hD hS hA [0, 1] rfl
        refine va_calli (va_runV (As := [.ref ba, .int y_42, .int i2]) (rest := []) ⟨hx, hb, hml, hown, hts⟩ (s_endOfPattern l dC dI rd r a0 a1 a2 a3 a4 a5 a6 a7 ba kb cb fb H.size y_42 i2 (by first | omega | decide | (have l0 := Int32.toInt_zero; omega)) (by first | omega | decide | (have l0 := Int32.toInt_zero; omega)) (by first | omega | decide | (have l0 := Int32.toInt_zero; omega)) (by first | omega | decide | (have l0 := Int32.toInt_zero; omega))) (cwV 3 hts mg_X6_readQuote_X6_endOfPattern_96 rfl rfl rfl (by decide +kernel) ⟨Nat.le_of_ble_eq_true rfl, Nat.le_of_ble_eq_true rfl⟩) ⟨fun a U g mk q => by obtain ⟨q0, q1, qP, qK, qD, qE0⟩ := q; exact ⟨q0, q1, qP, va_K.moved (u := U) (U := U.calling g mk a) (Vm.Alike.refl U.vm) qK, qD, va_Nw.same rfl (rfl : U.vm = (U.calling g mk a).vm) qE0⟩, va_recv hKc hPc (ci := 6) (q0 := 0) rfl rfl, fun U hU hW => ⟨rfl, by rw [hU], by rw [hU]; exact hPc, va_K.moved hW.alike hKc, hDc.weaken (fun _ _ _ _ => trivial), va_Nw.warmM hW hN53⟩⟩ rfl rfl hl.1 rfl (lv_room (Nat.le_of_ble_eq_true rfl)) dX6_readQuote_62 ⟨Nat.le_of_ble_eq_true rfl, Nat.le_of_ble_eq_true rfl⟩) hS (fun q _ h => hFc q h) hFc (fun r_44 u t H1 locs ht hvm hw hB hz1 hk1 hS => ?_)
        obtain ⟨y_45, y_46, hP1, hK1, hD1⟩ := hB
        rw [ht] at hP1
        have hr_44 := hw
        have rg_r_44 := i_rng r_44
        obtain ⟨hP, hD⟩ := va_join (wr := [(r 0, .inl (cb0, 18, .inl fb0)), (r 1, .inl (cb1, 18, .inl fb1)), (r 2, .inl (cb2, 18, .inl fb2))]) (w1 := [(rd, .inr (6, rF r y_45 y_46 a2 a3 a4 a5 a6 a7)), (ba, .inl (cb, kb, .inl fb))]) hP hD [0, 1] [2, 3, 4] rfl rfl (by decide) (by decide) hk1 hFc hP1 hD1
        generalize H1 = H at hP hS ⊢
        have hP : va_P (dC, dI) vwCl [(r 0, .inl (cb0, 18, .inl fb0)), (r 1, .inl (cb1, 18, .inl fb1)), (r 2, .inl (cb2, 18, .inl fb2)), (rd, .inr (6, rF r y_45 y_46 a2 a3 a4 a5 a6 a7)), (ba, .inl (cb, kb, .inl fb))] H := hP
        have hD : va_D A [(r 0, .inl (cb0, 18, .inl fb0)), (r 1, .inl (cb1, 18, .inl fb1)), (r 2, .inl (cb2, 18, .inl fb2)), (rd, .inr (6, rF r y_45 y_46 a2 a3 a4 a5 a6 a7)), (ba, .inl (cb, kb, .inl fb))] := hD
        refine lv_istore (lv' := [(5, .int r_44), (4, .int 0), (0, .ref rd), (1, .ref ba), (2, .int i1), (3, .int i2)]) hx hb dX6_readQuote_65 hl (by decide) rfl (fun ls hl => ?_)
        refine lv_aload_n hx hb dX6_readQuote_67 rfl (lv_at hl 2 rfl) ?_
        refine va_get (D := (dC, dI)) (ci := 6) (v := .int y_45) (C := RX6) (T := TX6) (N := 11) hx hb hts fin_X6_readQuote_X6 hown hK hP 3 rfl rfl 0 (by decide) (hts (.fieldLink RX6 22 "PatternGate$Reader" "faultKind" "I") (List.mem_of_getElem? (i := 6) (by decide +kernel))) (fun _ h9 => h9) rfl dX6_readQuote_68 ?_
        refine lv_if_ne (tgt := 178) hx hb dX6_readQuote_71 (by decide) (fun k_47 => ?_) (fun k_47 => ?_)
        · have tk_47 := c_ne (a := y_45.toInt) (b := 0) rfl (by decide) k_47
          refine lv_iload hx hb dX6_readQuote_178 (lv_at hl 0 rfl) ?_
          have hP9 := hP.sub (ws' := [(rd, .inr (6, rF r y_45 y_46 a2 a3 a4 a5 a6 a7)), (ba, .inl (cb, kb, .inl fb)), (r 0, .inl (cb0, 18, .inl fb0)), (r 1, .inl (cb1, 18, .inl fb1)), (r 2, .inl (cb2, 18, .inl fb2))]) [3, 4, 0, 1, 2] rfl
          have hD9 := hD.sub (ws' := [(rd, .inr (6, rF r y_45 y_46 a2 a3 a4 a5 a6 a7)), (ba, .inl (cb, kb, .inl fb)), (r 0, .inl (cb0, 18, .inl fb0)), (r 1, .inl (cb1, 18, .inl fb1)), (r 2, .inl (cb2, 18, .inl fb2))]) [3, 4, 0, 1, 2] (by decide) rfl
          have hK9 := hK.sub (tys' := [(cb, .int), (cb0, .int), (cb1, .int), (cb2, .boolean)]) [0, 1, 2, 3] rfl
          exact W.iret hx hb hr (fun t ht hW => ⟨⟨_, r_44, rfl, ⟨rfl, by omega⟩, y_45, y_46, a2, a3, a4, a7, fb0, fb1, fb2, (by first | exact Or.inl (by omega) | (exfalso; omega)), by rw [ht]; exact hP9, va_K.moved hW.alike hK9, hD9⟩, hS.F ht⟩) hS.2.2 dX6_readQuote_180
        · have tk_47 := c_eq (a := y_45.toInt) (b := 0) rfl (by decide) k_47
          refine lv_aload_n hx hb dX6_readQuote_74 rfl (lv_at hl 2 rfl) ?_
          refine va_get (D := (dC, dI)) (ci := 6) (v := .int a2) (C := RX6) (T := TX6) (N := 11) hx hb hts fin_X6_readQuote_X6 hown hK hP 3 rfl rfl 2 (by decide) (hts (.fieldLink RX6 29 "PatternGate$Reader" "lines" "I") (List.mem_of_getElem? (i := 7) (by decide +kernel))) (fun _ h9 => h9) rfl dX6_readQuote_75 ?_
          refine lv_bipush (v := 18) hx hb dX6_readQuote_78 (by decide) ?_
          refine lv_icmp_ge (tgt := 178) hx hb dX6_readQuote_80 (by decide) (fun k_48 => ?_) (fun k_48 => ?_)
          · have tk_48 := c_ge (a := a2.toInt) (b := 18) rfl (by decide) k_48
            refine lv_iload hx hb dX6_readQuote_178 (lv_at hl 0 rfl) ?_
            have hP9 := hP.sub (ws' := [(rd, .inr (6, rF r y_45 y_46 a2 a3 a4 a5 a6 a7)), (ba, .inl (cb, kb, .inl fb)), (r 0, .inl (cb0, 18, .inl fb0)), (r 1, .inl (cb1, 18, .inl fb1)), (r 2, .inl (cb2, 18, .inl fb2))]) [3, 4, 0, 1, 2] rfl
            have hD9 := hD.sub (ws' := [(rd, .inr (6, rF r y_45 y_46 a2 a3 a4 a5 a6 a7)), (ba, .inl (cb, kb, .inl fb)), (r 0, .inl (cb0, 18, .inl fb0)), (r 1, .inl (cb1, 18, .inl fb1)), (r 2, .inl (cb2, 18, .inl fb2))]) [3, 4, 0, 1, 2] (by decide) rfl
            have hK9 := hK.sub (tys' := [(cb, .int), (cb0, .int), (cb1, .int), (cb2, .boolean)]) [0, 1, 2, 3] rfl
            exact W.iret hx hb hr (fun t ht hW => ⟨⟨_, r_44, rfl, ⟨rfl, by omega⟩, y_45, y_46, a2, a3, a4, a7, fb0, fb1, fb2, (by first | exact Or.inl (by omega) | (exfalso; omega)), by rw [ht]; exact hP9, va_K.moved hW.alike hK9, hD9⟩, hS.F ht⟩) hS.2.2 dX6_readQuote_180
          · have tk_48 := c_nge (a := a2.toInt) (b := 18) rfl (by decide) k_48
            refine lv_aload_n hx hb dX6_readQuote_83 rfl (lv_at hl 2 rfl) ?_
            refine va_get (D := (dC, dI)) (ci := 6) (v := .ref (r 0)) (C := RX6) (T := TX6) (N := 11) hx hb hts fin_X6_readQuote_X6 hown hK hP 3 rfl rfl 5 (by decide) (hts (.fieldLink RX6 11 "PatternGate$Reader" "begins" "[I") (List.mem_of_getElem? (i := 8) (by decide +kernel))) (fun _ h9 => h9) rfl dX6_readQuote_84 ?_
            refine lv_aload_n hx hb dX6_readQuote_87 rfl (lv_at hl 2 rfl) ?_
            refine va_get (D := (dC, dI)) (ci := 6) (v := .int a2) (C := RX6) (T := TX6) (N := 11) hx hb hts fin_X6_readQuote_X6 hown hK hP 3 rfl rfl 2 (by decide) (hts (.fieldLink RX6 29 "PatternGate$Reader" "lines" "I") (List.mem_of_getElem? (i := 7) (by decide +kernel))) (fun _ h9 => h9) rfl dX6_readQuote_88 ?_
            refine lv_iload_n hx hb dX6_readQuote_91 rfl (lv_at hl 4 rfl) ?_
            refine lv_iconst (v := 1) hx hb dX6_readQuote_92 (by decide) ?_
            refine lv_iadd hx hb dX6_readQuote_93 ?_
            refine lv_topi (fun y_49 ey_49 => ?_)
            first | have ty_49 := i_add (a := i1.toInt) (b := 1) rfl (by decide) ey_49 (by omega) (by omega) | skip
            refine va_iast hx hb hK hP hD hS 0 1 rfl rfl (i := a2) (vp_of (a := a2.toInt) rfl (by omega) (by omega)) dX6_readQuote_94 (fun H locs hP hD hS => ?_)
            generalize hf_f_50 : upd fb0 _ _ = f_50 at hP hD
            have hP : va_P (dC, dI) vwCl [(r 0, .inl (cb0, 18, .inl f_50)), (r 1, .inl (cb1, 18, .inl fb1)), (r 2, .inl (cb2, 18, .inl fb2)), (rd, .inr (6, rF r y_45 y_46 a2 a3 a4 a5 a6 a7)), (ba, .inl (cb, kb, .inl fb))] H := hP
            have hD : va_D A [(r 0, .inl (cb0, 18, .inl f_50)), (r 1, .inl (cb1, 18, .inl fb1)), (r 2, .inl (cb2, 18, .inl fb2)), (rd, .inr (6, rF r y_45 y_46 a2 a3 a4 a5 a6 a7)), (ba, .inl (cb, kb, .inl fb))] := hD
            refine lv_aload_n hx hb dX6_readQuote_95 rfl (lv_at hl 2 rfl) ?_
            refine va_get (D := (dC, dI)) (ci := 6) (v := .ref (r 1)) (C := RX6) (T := TX6) (N := 11) hx hb hts fin_X6_readQuote_X6 hown hK hP 3 rfl rfl 6 (by decide) (hts (.fieldLink RX6 15 "PatternGate$Reader" "ends" "[I") (List.mem_of_getElem? (i := 9) (by decide +kernel))) (fun _ h9 => h9) rfl dX6_readQuote_96 ?_
            refine lv_aload_n hx hb dX6_readQuote_99 rfl (lv_at hl 2 rfl) ?_
            refine va_get (D := (dC, dI)) (ci := 6) (v := .int a2) (C := RX6) (T := TX6) (N := 11) hx hb hts fin_X6_readQuote_X6 hown hK hP 3 rfl rfl 2 (by decide) (hts (.fieldLink RX6 29 "PatternGate$Reader" "lines" "I") (List.mem_of_getElem? (i := 7) (by decide +kernel))) (fun _ h9 => h9) rfl dX6_readQuote_100 ?_
            refine lv_iload hx hb dX6_readQuote_103 (lv_at hl 0 rfl) ?_
            refine va_iast hx hb hK hP hD hS 1 2 rfl rfl (i := a2) (vp_of (a := a2.toInt) rfl (by omega) (by omega)) dX6_readQuote_105 (fun H locs hP hD hS => ?_)
            generalize hf_f_51 : upd fb1 _ _ = f_51 at hP hD
            have hP : va_P (dC, dI) vwCl [(r 0, .inl (cb0, 18, .inl f_50)), (r 1, .inl (cb1, 18, .inl f_51)), (r 2, .inl (cb2, 18, .inl fb2)), (rd, .inr (6, rF r y_45 y_46 a2 a3 a4 a5 a6 a7)), (ba, .inl (cb, kb, .inl fb))] H := hP
            have hD : va_D A [(r 0, .inl (cb0, 18, .inl f_50)), (r 1, .inl (cb1, 18, .inl f_51)), (r 2, .inl (cb2, 18, .inl fb2)), (rd, .inr (6, rF r y_45 y_46 a2 a3 a4 a5 a6 a7)), (ba, .inl (cb, kb, .inl fb))] := hD
            refine lv_aload_n hx hb dX6_readQuote_106 rfl (lv_at hl 2 rfl) ?_
            refine va_get (D := (dC, dI)) (ci := 6) (v := .ref (r 2)) (C := RX6) (T := TX6) (N := 11) hx hb hts fin_X6_readQuote_X6 hown hK hP 3 rfl rfl 7 (by decide) (hts (.fieldLink RX6 18 "PatternGate$Reader" "isPattern" "[Z") (List.mem_of_getElem? (i := 10) (by decide +kernel))) (fun _ h9 => h9) rfl dX6_readQuote_107 ?_
            refine lv_aload_n hx hb dX6_readQuote_110 rfl (lv_at hl 2 rfl) ?_
            refine va_get (D := (dC, dI)) (ci := 6) (v := .int a2) (C := RX6) (T := TX6) (N := 11) hx hb hts fin_X6_readQuote_X6 hown hK hP 3 rfl rfl 2 (by decide) (hts (.fieldLink RX6 29 "PatternGate$Reader" "lines" "I") (List.mem_of_getElem? (i := 7) (by decide +kernel))) (fun _ h9 => h9) rfl dX6_readQuote_111 ?_
            refine lv_iload hx hb dX6_readQuote_114 (lv_at hl 1 rfl) ?_
            refine lv_if_ne (tgt := 123) hx hb dX6_readQuote_116 (by decide) (fun k_52 => absurd (by decide) k_52) (fun k_52 => ?_)
            have tk_52 := c_eq (a := 0) (b := 0) (by decide) (by decide) k_52
            refine lv_iconst (v := 1) hx hb dX6_readQuote_119 (by decide) ?_
            refine lv_goto (tgt := 124) hx hb dX6_readQuote_120 (by decide) ?_
            refine va_zast hx hb hK hP hD hS 2 3 rfl rfl (i := a2) (vp_of (a := a2.toInt) rfl (by omega) (by omega)) dX6_readQuote_124 (fun H locs hP hD hS => ?_)
            generalize hf_f_53 : upd fb2 _ _ = f_53 at hP hD
            have hP : va_P (dC, dI) vwCl [(r 0, .inl (cb0, 18, .inl f_50)), (r 1, .inl (cb1, 18, .inl f_51)), (r 2, .inl (cb2, 18, .inl f_53)), (rd, .inr (6, rF r y_45 y_46 a2 a3 a4 a5 a6 a7)), (ba, .inl (cb, kb, .inl fb))] H := hP
            have hD : va_D A [(r 0, .inl (cb0, 18, .inl f_50)), (r 1, .inl (cb1, 18, .inl f_51)), (r 2, .inl (cb2, 18, .inl f_53)), (rd, .inr (6, rF r y_45 y_46 a2 a3 a4 a5 a6 a7)), (ba, .inl (cb, kb, .inl fb))] := hD
            refine lv_aload_n hx hb dX6_readQuote_125 rfl (lv_at hl 2 rfl) ?_
            refine lv_dup hx hb dX6_readQuote_126 rfl ?_
            refine va_get (D := (dC, dI)) (ci := 6) (v := .int a2) (C := RX6) (T := TX6) (N := 11) hx hb hts fin_X6_readQuote_X6 hown hK hP 3 rfl rfl 2 (by decide) (hts (.fieldLink RX6 29 "PatternGate$Reader" "lines" "I") (List.mem_of_getElem? (i := 7) (by decide +kernel))) (fun _ h9 => h9) rfl dX6_readQuote_127 ?_
            refine lv_iconst (v := 1) hx hb dX6_readQuote_130 (by decide) ?_
            refine lv_iadd hx hb dX6_readQuote_131 ?_
            refine lv_topi (fun y_54 ey_54 => ?_)
            first | have ty_54 := i_add (a := a2.toInt) (b := 1) rfl (by decide) ey_54 (by omega) (by omega) | skip
            refine va_put (D := (dC, dI)) (ci := 6) (v := .int y_54) (ty := .int) (C := RX6) (T := TX6) (N := 11) hx hb hts fin_X6_readQuote_X6 tyX6 tyX6_ok nmX6 hown hK hP hD hS 3 rfl rfl 2 (by decide) (hts (.fieldLink RX6 29 "PatternGate$Reader" "lines" "I") (List.mem_of_getElem? (i := 7) (by decide +kernel))) (fun _ h9 => h9) rfl (by decide +kernel) rfl rfl (Nat.le_of_ble_eq_true rfl) dX6_readQuote_132 (fun H locs hP hD hS => ?_)
            have hP : va_P (dC, dI) vwCl [(r 0, .inl (cb0, 18, .inl f_50)), (r 1, .inl (cb1, 18, .inl f_51)), (r 2, .inl (cb2, 18, .inl f_53)), (rd, .inr (6, rF r y_45 y_46 y_54 a3 a4 a5 a6 a7)), (ba, .inl (cb, kb, .inl fb))] H := hP
            have hD : va_D A [(r 0, .inl (cb0, 18, .inl f_50)), (r 1, .inl (cb1, 18, .inl f_51)), (r 2, .inl (cb2, 18, .inl f_53)), (rd, .inr (6, rF r y_45 y_46 y_54 a3 a4 a5 a6 a7)), (ba, .inl (cb, kb, .inl fb))] := hD
            refine lv_aload_n hx hb dX6_readQuote_135 rfl (lv_at hl 2 rfl) ?_
            refine lv_dup hx hb dX6_readQuote_136 rfl ?_
            refine va_get (D := (dC, dI)) (ci := 6) (v := .int a3) (C := RX6) (T := TX6) (N := 11) hx hb hts fin_X6_readQuote_X6 hown hK hP 3 rfl rfl 3 (by decide) (hts (.fieldLink RX6 32 "PatternGate$Reader" "newDocs" "I") (List.mem_of_getElem? (i := 11) (by decide +kernel))) (fun _ h9 => h9) rfl dX6_readQuote_137 ?_
            refine lv_iload hx hb dX6_readQuote_140 (lv_at hl 1 rfl) ?_
            refine lv_if_eq (tgt := 149) hx hb dX6_readQuote_142 (by decide) (fun k_55 => ?_) (fun k_55 => absurd (by decide) k_55)
            have tk_55 := c_eq (a := 0) (b := 0) (by decide) (by decide) k_55
            refine lv_iconst (v := 0) hx hb dX6_readQuote_149 (by decide) ?_
            refine lv_iadd hx hb dX6_readQuote_150 ?_
            refine lv_topi (fun y_56 ey_56 => ?_)
            first | have ty_56 := i_add (a := a3.toInt) (b := 0) rfl (by decide) ey_56 (by omega) (by omega) | skip
            refine va_put (D := (dC, dI)) (ci := 6) (v := .int y_56) (ty := .int) (C := RX6) (T := TX6) (N := 11) hx hb hts fin_X6_readQuote_X6 tyX6 tyX6_ok nmX6 hown hK hP hD hS 3 rfl rfl 3 (by decide) (hts (.fieldLink RX6 32 "PatternGate$Reader" "newDocs" "I") (List.mem_of_getElem? (i := 11) (by decide +kernel))) (fun _ h9 => h9) rfl (by decide +kernel) rfl rfl (Nat.le_of_ble_eq_true rfl) dX6_readQuote_151 (fun H locs hP hD hS => ?_)
            have hP : va_P (dC, dI) vwCl [(r 0, .inl (cb0, 18, .inl f_50)), (r 1, .inl (cb1, 18, .inl f_51)), (r 2, .inl (cb2, 18, .inl f_53)), (rd, .inr (6, rF r y_45 y_46 y_54 y_56 a4 a5 a6 a7)), (ba, .inl (cb, kb, .inl fb))] H := hP
            have hD : va_D A [(r 0, .inl (cb0, 18, .inl f_50)), (r 1, .inl (cb1, 18, .inl f_51)), (r 2, .inl (cb2, 18, .inl f_53)), (rd, .inr (6, rF r y_45 y_46 y_54 y_56 a4 a5 a6 a7)), (ba, .inl (cb, kb, .inl fb))] := hD
            refine lv_aload_n hx hb dX6_readQuote_154 rfl (lv_at hl 2 rfl) ?_
            refine lv_dup hx hb dX6_readQuote_155 rfl ?_
            refine va_get (D := (dC, dI)) (ci := 6) (v := .int a4) (C := RX6) (T := TX6) (N := 11) hx hb hts fin_X6_readQuote_X6 hown hK hP 3 rfl rfl 4 (by decide) (hts (.fieldLink RX6 35 "PatternGate$Reader" "newPatterns" "I") (List.mem_of_getElem? (i := 12) (by decide +kernel))) (fun _ h9 => h9) rfl dX6_readQuote_156 ?_
            refine lv_iload hx hb dX6_readQuote_159 (lv_at hl 1 rfl) ?_
            refine lv_if_eq (tgt := 168) hx hb dX6_readQuote_161 (by decide) (fun k_57 => ?_) (fun k_57 => absurd (by decide) k_57)
            have tk_57 := c_eq (a := 0) (b := 0) (by decide) (by decide) k_57
            refine lv_iconst (v := 1) hx hb dX6_readQuote_168 (by decide) ?_
            refine lv_iadd hx hb dX6_readQuote_169 ?_
            refine lv_topi (fun y_58 ey_58 => ?_)
            first | have ty_58 := i_add (a := a4.toInt) (b := 1) rfl (by decide) ey_58 (by omega) (by omega) | skip
            refine va_put (D := (dC, dI)) (ci := 6) (v := .int y_58) (ty := .int) (C := RX6) (T := TX6) (N := 11) hx hb hts fin_X6_readQuote_X6 tyX6 tyX6_ok nmX6 hown hK hP hD hS 3 rfl rfl 4 (by decide) (hts (.fieldLink RX6 35 "PatternGate$Reader" "newPatterns" "I") (List.mem_of_getElem? (i := 12) (by decide +kernel))) (fun _ h9 => h9) rfl (by decide +kernel) rfl rfl (Nat.le_of_ble_eq_true rfl) dX6_readQuote_170 (fun H locs hP hD hS => ?_)
            have hP : va_P (dC, dI) vwCl [(r 0, .inl (cb0, 18, .inl f_50)), (r 1, .inl (cb1, 18, .inl f_51)), (r 2, .inl (cb2, 18, .inl f_53)), (rd, .inr (6, rF r y_45 y_46 y_54 y_56 y_58 a5 a6 a7)), (ba, .inl (cb, kb, .inl fb))] H := hP
            have hD : va_D A [(r 0, .inl (cb0, 18, .inl f_50)), (r 1, .inl (cb1, 18, .inl f_51)), (r 2, .inl (cb2, 18, .inl f_53)), (rd, .inr (6, rF r y_45 y_46 y_54 y_56 y_58 a5 a6 a7)), (ba, .inl (cb, kb, .inl fb))] := hD
            refine lv_aload_n hx hb dX6_readQuote_173 rfl (lv_at hl 2 rfl) ?_
            refine lv_iconst (v := 3) hx hb dX6_readQuote_174 (by decide) ?_
            refine va_put (D := (dC, dI)) (ci := 6) (v := .int 3) (ty := .int) (C := RX6) (T := TX6) (N := 11) hx hb hts fin_X6_readQuote_X6 tyX6 tyX6_ok nmX6 hown hK hP hD hS 3 rfl rfl 10 (by decide) (hts (.fieldLink RX6 44 "PatternGate$Reader" "wanted" "I") (List.mem_of_getElem? (i := 1) (by decide +kernel))) (fun _ h9 => h9) rfl (by decide +kernel) rfl rfl (Nat.le_of_ble_eq_true rfl) dX6_readQuote_175 (fun H locs hP hD hS => ?_)
            have hP : va_P (dC, dI) vwCl [(r 0, .inl (cb0, 18, .inl f_50)), (r 1, .inl (cb1, 18, .inl f_51)), (r 2, .inl (cb2, 18, .inl f_53)), (rd, .inr (6, rF r y_45 y_46 y_54 y_56 y_58 a5 a6 3)), (ba, .inl (cb, kb, .inl fb))] H := hP
            have hD : va_D A [(r 0, .inl (cb0, 18, .inl f_50)), (r 1, .inl (cb1, 18, .inl f_51)), (r 2, .inl (cb2, 18, .inl f_53)), (rd, .inr (6, rF r y_45 y_46 y_54 y_56 y_58 a5 a6 3)), (ba, .inl (cb, kb, .inl fb))] := hD
            refine lv_iload hx hb dX6_readQuote_178 (lv_at hl 0 rfl) ?_
            have hP9 := hP.sub (ws' := [(rd, .inr (6, rF r y_45 y_46 y_54 y_56 y_58 a5 a6 3)), (ba, .inl (cb, kb, .inl fb)), (r 0, .inl (cb0, 18, .inl f_50)), (r 1, .inl (cb1, 18, .inl f_51)), (r 2, .inl (cb2, 18, .inl f_53))]) [3, 4, 0, 1, 2] rfl
            have hD9 := hD.sub (ws' := [(rd, .inr (6, rF r y_45 y_46 y_54 y_56 y_58 a5 a6 3)), (ba, .inl (cb, kb, .inl fb)), (r 0, .inl (cb0, 18, .inl f_50)), (r 1, .inl (cb1, 18, .inl f_51)), (r 2, .inl (cb2, 18, .inl f_53))]) [3, 4, 0, 1, 2] (by decide) rfl
            have hK9 := hK.sub (tys' := [(cb, .int), (cb0, .int), (cb1, .int), (cb2, .boolean)]) [0, 1, 2, 3] rfl
            exact W.iret hx hb hr (fun t ht hW => ⟨⟨_, r_44, rfl, ⟨rfl, by omega⟩, y_45, y_46, y_54, y_56, y_58, 3, f_50, f_51, f_53, (Or.inr (rJ.line hJ hf_f_50 hf_f_51 hf_f_53 (by omega) (by omega) (by omega) (by omega) (by omega) (by decide) (Or.inr ⟨by omega, rfl, by omega, by omega⟩))), by rw [ht]; exact hP9, va_K.moved hW.alike hK9, hD9⟩, hS.F ht⟩) hS.2.2 dX6_readQuote_180
      · have tk_40 := c_eq (a := a7.toInt) (b := 1) rfl (by decide) k_40
        refine lv_iconst (v := 1) hx hb dX6_readQuote_32 (by decide) ?_
        refine lv_goto (tgt := 37) hx hb dX6_readQuote_33 (by decide) ?_
        refine lv_istore (lv' := [(4, .int 1), (0, .ref rd), (1, .ref ba), (2, .int i1), (3, .int i2)]) hx hb dX6_readQuote_37 hl (by decide) rfl (fun ls hl => ?_)
        refine lv_iload hx hb dX6_readQuote_39 (lv_at hl 0 rfl) ?_
        refine lv_if_eq (tgt := 56) hx hb dX6_readQuote_41 (by decide) (fun k_59 => absurd k_59 (by decide)) (fun k_59 => ?_)
        have tk_59 := c_ne (a := 1) (b := 0) (by decide) (by decide) k_59
        refine lv_aload_n hx hb dX6_readQuote_44 rfl (lv_at hl 1 rfl) ?_
        refine lv_aload_n hx hb dX6_readQuote_45 rfl (lv_at hl 2 rfl) ?_
        refine lv_iload_n hx hb dX6_readQuote_46 rfl (lv_at hl 3 rfl) ?_
        refine lv_iconst (v := 1) hx hb dX6_readQuote_47 (by decide) ?_
        refine lv_iadd hx hb dX6_readQuote_48 ?_
        refine lv_topi (fun y_60 ey_60 => ?_)
        first | have ty_60 := i_add (a := i1.toInt) (b := 1) rfl (by decide) ey_60 (by omega) (by omega) | skip
        refine lv_iload_n hx hb dX6_readQuote_49 rfl (lv_at hl 4 rfl) ?_
        have hPc := hP.sub (ws' := [(rd, .inr (6, rF r a0 a1 a2 a3 a4 a5 a6 a7)), (ba, .inl (cb, kb, .inl fb))]) [0, 1] rfl
        have hKc := hK.sub (tys' := [(cb, .int)]) [0] rfl
        have hDc := hD.sub (ws' := [(rd, .inr (6, rF r a0 a1 a2 a3 a4 a5 a6 a7)), (ba, .inl (cb, kb, .inl fb))]) [0, 1] (by decide) rfl
        have hFc := va_free (wc := [(rd, .inr (6, rF r a0 a1 a2 a3 a4 a5 a6 a7)), (ba, .inl (cb, kb, .inl fb))]) hD hS hA [0, 1] rfl
        refine va_calli (va_runV (As := [.ref ba, .int y_60, .int i2]) (rest := []) ⟨hx, hb, hml, hown, hts⟩ (s_endOfDoc2 l dC dI rd r a0 a1 a2 a3 a4 a5 a6 a7 ba kb cb fb H.size y_60 i2 (by first | omega | decide | (have l0 := Int32.toInt_zero; omega)) (by first | omega | decide | (have l0 := Int32.toInt_zero; omega)) (by first | omega | decide | (have l0 := Int32.toInt_zero; omega)) (by first | omega | decide | (have l0 := Int32.toInt_zero; omega))) (cwV 3 hts mg_X6_readQuote_X6_endOfDoc_93 rfl rfl rfl (by decide +kernel) ⟨Nat.le_of_ble_eq_true rfl, Nat.le_of_ble_eq_true rfl⟩) ⟨fun a U g mk q => by obtain ⟨q0, q1, qP, qK, qD, qE0⟩ := q; exact ⟨q0, q1, qP, va_K.moved (u := U) (U := U.calling g mk a) (Vm.Alike.refl U.vm) qK, qD, va_Nw.same rfl (rfl : U.vm = (U.calling g mk a).vm) qE0⟩, va_recv hKc hPc (ci := 6) (q0 := 0) rfl rfl, fun U hU hW => ⟨rfl, by rw [hU], by rw [hU]; exact hPc, va_K.moved hW.alike hKc, hDc.weaken (fun _ _ _ _ => trivial), va_Nw.warmM hW hN53⟩⟩ rfl rfl hl.1 rfl (lv_room (Nat.le_of_ble_eq_true rfl)) dX6_readQuote_50 ⟨Nat.le_of_ble_eq_true rfl, Nat.le_of_ble_eq_true rfl⟩) hS (fun q _ h => hFc q h) hFc (fun r_62 u t H1 locs ht hvm hw hB hz1 hk1 hS => ?_)
        obtain ⟨y_63, y_64, hP1, hK1, hD1⟩ := hB
        rw [ht] at hP1
        have hr_62 := hw
        have rg_r_62 := i_rng r_62
        obtain ⟨hP, hD⟩ := va_join (wr := [(r 0, .inl (cb0, 18, .inl fb0)), (r 1, .inl (cb1, 18, .inl fb1)), (r 2, .inl (cb2, 18, .inl fb2))]) (w1 := [(rd, .inr (6, rF r y_63 y_64 a2 a3 a4 a5 a6 a7)), (ba, .inl (cb, kb, .inl fb))]) hP hD [0, 1] [2, 3, 4] rfl rfl (by decide) (by decide) hk1 hFc hP1 hD1
        generalize H1 = H at hP hS ⊢
        have hP : va_P (dC, dI) vwCl [(r 0, .inl (cb0, 18, .inl fb0)), (r 1, .inl (cb1, 18, .inl fb1)), (r 2, .inl (cb2, 18, .inl fb2)), (rd, .inr (6, rF r y_63 y_64 a2 a3 a4 a5 a6 a7)), (ba, .inl (cb, kb, .inl fb))] H := hP
        have hD : va_D A [(r 0, .inl (cb0, 18, .inl fb0)), (r 1, .inl (cb1, 18, .inl fb1)), (r 2, .inl (cb2, 18, .inl fb2)), (rd, .inr (6, rF r y_63 y_64 a2 a3 a4 a5 a6 a7)), (ba, .inl (cb, kb, .inl fb))] := hD
        refine lv_goto (tgt := 65) hx hb dX6_readQuote_53 (by decide) ?_
        refine lv_istore (lv' := [(5, .int r_62), (4, .int 1), (0, .ref rd), (1, .ref ba), (2, .int i1), (3, .int i2)]) hx hb dX6_readQuote_65 hl (by decide) rfl (fun ls hl => ?_)
        refine lv_aload_n hx hb dX6_readQuote_67 rfl (lv_at hl 2 rfl) ?_
        refine va_get (D := (dC, dI)) (ci := 6) (v := .int y_63) (C := RX6) (T := TX6) (N := 11) hx hb hts fin_X6_readQuote_X6 hown hK hP 3 rfl rfl 0 (by decide) (hts (.fieldLink RX6 22 "PatternGate$Reader" "faultKind" "I") (List.mem_of_getElem? (i := 6) (by decide +kernel))) (fun _ h9 => h9) rfl dX6_readQuote_68 ?_
        refine lv_if_ne (tgt := 178) hx hb dX6_readQuote_71 (by decide) (fun k_65 => ?_) (fun k_65 => ?_)
        · have tk_65 := c_ne (a := y_63.toInt) (b := 0) rfl (by decide) k_65
          refine lv_iload hx hb dX6_readQuote_178 (lv_at hl 0 rfl) ?_
          have hP9 := hP.sub (ws' := [(rd, .inr (6, rF r y_63 y_64 a2 a3 a4 a5 a6 a7)), (ba, .inl (cb, kb, .inl fb)), (r 0, .inl (cb0, 18, .inl fb0)), (r 1, .inl (cb1, 18, .inl fb1)), (r 2, .inl (cb2, 18, .inl fb2))]) [3, 4, 0, 1, 2] rfl
          have hD9 := hD.sub (ws' := [(rd, .inr (6, rF r y_63 y_64 a2 a3 a4 a5 a6 a7)), (ba, .inl (cb, kb, .inl fb)), (r 0, .inl (cb0, 18, .inl fb0)), (r 1, .inl (cb1, 18, .inl fb1)), (r 2, .inl (cb2, 18, .inl fb2))]) [3, 4, 0, 1, 2] (by decide) rfl
          have hK9 := hK.sub (tys' := [(cb, .int), (cb0, .int), (cb1, .int), (cb2, .boolean)]) [0, 1, 2, 3] rfl
          exact W.iret hx hb hr (fun t ht hW => ⟨⟨_, r_62, rfl, ⟨rfl, by omega⟩, y_63, y_64, a2, a3, a4, a7, fb0, fb1, fb2, (by first | exact Or.inl (by omega) | (exfalso; omega)), by rw [ht]; exact hP9, va_K.moved hW.alike hK9, hD9⟩, hS.F ht⟩) hS.2.2 dX6_readQuote_180
        · have tk_65 := c_eq (a := y_63.toInt) (b := 0) rfl (by decide) k_65
          refine lv_aload_n hx hb dX6_readQuote_74 rfl (lv_at hl 2 rfl) ?_
          refine va_get (D := (dC, dI)) (ci := 6) (v := .int a2) (C := RX6) (T := TX6) (N := 11) hx hb hts fin_X6_readQuote_X6 hown hK hP 3 rfl rfl 2 (by decide) (hts (.fieldLink RX6 29 "PatternGate$Reader" "lines" "I") (List.mem_of_getElem? (i := 7) (by decide +kernel))) (fun _ h9 => h9) rfl dX6_readQuote_75 ?_
          refine lv_bipush (v := 18) hx hb dX6_readQuote_78 (by decide) ?_
          refine lv_icmp_ge (tgt := 178) hx hb dX6_readQuote_80 (by decide) (fun k_66 => ?_) (fun k_66 => ?_)
          · have tk_66 := c_ge (a := a2.toInt) (b := 18) rfl (by decide) k_66
            refine lv_iload hx hb dX6_readQuote_178 (lv_at hl 0 rfl) ?_
            have hP9 := hP.sub (ws' := [(rd, .inr (6, rF r y_63 y_64 a2 a3 a4 a5 a6 a7)), (ba, .inl (cb, kb, .inl fb)), (r 0, .inl (cb0, 18, .inl fb0)), (r 1, .inl (cb1, 18, .inl fb1)), (r 2, .inl (cb2, 18, .inl fb2))]) [3, 4, 0, 1, 2] rfl
            have hD9 := hD.sub (ws' := [(rd, .inr (6, rF r y_63 y_64 a2 a3 a4 a5 a6 a7)), (ba, .inl (cb, kb, .inl fb)), (r 0, .inl (cb0, 18, .inl fb0)), (r 1, .inl (cb1, 18, .inl fb1)), (r 2, .inl (cb2, 18, .inl fb2))]) [3, 4, 0, 1, 2] (by decide) rfl
            have hK9 := hK.sub (tys' := [(cb, .int), (cb0, .int), (cb1, .int), (cb2, .boolean)]) [0, 1, 2, 3] rfl
            exact W.iret hx hb hr (fun t ht hW => ⟨⟨_, r_62, rfl, ⟨rfl, by omega⟩, y_63, y_64, a2, a3, a4, a7, fb0, fb1, fb2, (by first | exact Or.inl (by omega) | (exfalso; omega)), by rw [ht]; exact hP9, va_K.moved hW.alike hK9, hD9⟩, hS.F ht⟩) hS.2.2 dX6_readQuote_180
          · have tk_66 := c_nge (a := a2.toInt) (b := 18) rfl (by decide) k_66
            refine lv_aload_n hx hb dX6_readQuote_83 rfl (lv_at hl 2 rfl) ?_
            refine va_get (D := (dC, dI)) (ci := 6) (v := .ref (r 0)) (C := RX6) (T := TX6) (N := 11) hx hb hts fin_X6_readQuote_X6 hown hK hP 3 rfl rfl 5 (by decide) (hts (.fieldLink RX6 11 "PatternGate$Reader" "begins" "[I") (List.mem_of_getElem? (i := 8) (by decide +kernel))) (fun _ h9 => h9) rfl dX6_readQuote_84 ?_
            refine lv_aload_n hx hb dX6_readQuote_87 rfl (lv_at hl 2 rfl) ?_
            refine va_get (D := (dC, dI)) (ci := 6) (v := .int a2) (C := RX6) (T := TX6) (N := 11) hx hb hts fin_X6_readQuote_X6 hown hK hP 3 rfl rfl 2 (by decide) (hts (.fieldLink RX6 29 "PatternGate$Reader" "lines" "I") (List.mem_of_getElem? (i := 7) (by decide +kernel))) (fun _ h9 => h9) rfl dX6_readQuote_88 ?_
            refine lv_iload_n hx hb dX6_readQuote_91 rfl (lv_at hl 4 rfl) ?_
            refine lv_iconst (v := 1) hx hb dX6_readQuote_92 (by decide) ?_
            refine lv_iadd hx hb dX6_readQuote_93 ?_
            refine lv_topi (fun y_67 ey_67 => ?_)
            first | have ty_67 := i_add (a := i1.toInt) (b := 1) rfl (by decide) ey_67 (by omega) (by omega) | skip
            refine va_iast hx hb hK hP hD hS 0 1 rfl rfl (i := a2) (vp_of (a := a2.toInt) rfl (by omega) (by omega)) dX6_readQuote_94 (fun H locs hP hD hS => ?_)
            generalize hf_f_68 : upd fb0 _ _ = f_68 at hP hD
            have hP : va_P (dC, dI) vwCl [(r 0, .inl (cb0, 18, .inl f_68)), (r 1, .inl (cb1, 18, .inl fb1)), (r 2, .inl (cb2, 18, .inl fb2)), (rd, .inr (6, rF r y_63 y_64 a2 a3 a4 a5 a6 a7)), (ba, .inl (cb, kb, .inl fb))] H := hP
            have hD : va_D A [(r 0, .inl (cb0, 18, .inl f_68)), (r 1, .inl (cb1, 18, .inl fb1)), (r 2, .inl (cb2, 18, .inl fb2)), (rd, .inr (6, rF r y_63 y_64 a2 a3 a4 a5 a6 a7)), (ba, .inl (cb, kb, .inl fb))] := hD
            refine lv_aload_n hx hb dX6_readQuote_95 rfl (lv_at hl 2 rfl) ?_
            refine va_get (D := (dC, dI)) (ci := 6) (v := .ref (r 1)) (C := RX6) (T := TX6) (N := 11) hx hb hts fin_X6_readQuote_X6 hown hK hP 3 rfl rfl 6 (by decide) (hts (.fieldLink RX6 15 "PatternGate$Reader" "ends" "[I") (List.mem_of_getElem? (i := 9) (by decide +kernel))) (fun _ h9 => h9) rfl dX6_readQuote_96 ?_
            refine lv_aload_n hx hb dX6_readQuote_99 rfl (lv_at hl 2 rfl) ?_
            refine va_get (D := (dC, dI)) (ci := 6) (v := .int a2) (C := RX6) (T := TX6) (N := 11) hx hb hts fin_X6_readQuote_X6 hown hK hP 3 rfl rfl 2 (by decide) (hts (.fieldLink RX6 29 "PatternGate$Reader" "lines" "I") (List.mem_of_getElem? (i := 7) (by decide +kernel))) (fun _ h9 => h9) rfl dX6_readQuote_100 ?_
            refine lv_iload hx hb dX6_readQuote_103 (lv_at hl 0 rfl) ?_
            refine va_iast hx hb hK hP hD hS 1 2 rfl rfl (i := a2) (vp_of (a := a2.toInt) rfl (by omega) (by omega)) dX6_readQuote_105 (fun H locs hP hD hS => ?_)
            generalize hf_f_69 : upd fb1 _ _ = f_69 at hP hD
            have hP : va_P (dC, dI) vwCl [(r 0, .inl (cb0, 18, .inl f_68)), (r 1, .inl (cb1, 18, .inl f_69)), (r 2, .inl (cb2, 18, .inl fb2)), (rd, .inr (6, rF r y_63 y_64 a2 a3 a4 a5 a6 a7)), (ba, .inl (cb, kb, .inl fb))] H := hP
            have hD : va_D A [(r 0, .inl (cb0, 18, .inl f_68)), (r 1, .inl (cb1, 18, .inl f_69)), (r 2, .inl (cb2, 18, .inl fb2)), (rd, .inr (6, rF r y_63 y_64 a2 a3 a4 a5 a6 a7)), (ba, .inl (cb, kb, .inl fb))] := hD
            refine lv_aload_n hx hb dX6_readQuote_106 rfl (lv_at hl 2 rfl) ?_
            refine va_get (D := (dC, dI)) (ci := 6) (v := .ref (r 2)) (C := RX6) (T := TX6) (N := 11) hx hb hts fin_X6_readQuote_X6 hown hK hP 3 rfl rfl 7 (by decide) (hts (.fieldLink RX6 18 "PatternGate$Reader" "isPattern" "[Z") (List.mem_of_getElem? (i := 10) (by decide +kernel))) (fun _ h9 => h9) rfl dX6_readQuote_107 ?_
            refine lv_aload_n hx hb dX6_readQuote_110 rfl (lv_at hl 2 rfl) ?_
            refine va_get (D := (dC, dI)) (ci := 6) (v := .int a2) (C := RX6) (T := TX6) (N := 11) hx hb hts fin_X6_readQuote_X6 hown hK hP 3 rfl rfl 2 (by decide) (hts (.fieldLink RX6 29 "PatternGate$Reader" "lines" "I") (List.mem_of_getElem? (i := 7) (by decide +kernel))) (fun _ h9 => h9) rfl dX6_readQuote_111 ?_
            refine lv_iload hx hb dX6_readQuote_114 (lv_at hl 1 rfl) ?_
            refine lv_if_ne (tgt := 123) hx hb dX6_readQuote_116 (by decide) (fun k_70 => ?_) (fun k_70 => absurd k_70 (by decide))
            have tk_70 := c_ne (a := 1) (b := 0) (by decide) (by decide) k_70
            refine lv_iconst (v := 0) hx hb dX6_readQuote_123 (by decide) ?_
            refine va_zast hx hb hK hP hD hS 2 3 rfl rfl (i := a2) (vp_of (a := a2.toInt) rfl (by omega) (by omega)) dX6_readQuote_124 (fun H locs hP hD hS => ?_)
            generalize hf_f_71 : upd fb2 _ _ = f_71 at hP hD
            have hP : va_P (dC, dI) vwCl [(r 0, .inl (cb0, 18, .inl f_68)), (r 1, .inl (cb1, 18, .inl f_69)), (r 2, .inl (cb2, 18, .inl f_71)), (rd, .inr (6, rF r y_63 y_64 a2 a3 a4 a5 a6 a7)), (ba, .inl (cb, kb, .inl fb))] H := hP
            have hD : va_D A [(r 0, .inl (cb0, 18, .inl f_68)), (r 1, .inl (cb1, 18, .inl f_69)), (r 2, .inl (cb2, 18, .inl f_71)), (rd, .inr (6, rF r y_63 y_64 a2 a3 a4 a5 a6 a7)), (ba, .inl (cb, kb, .inl fb))] := hD
            refine lv_aload_n hx hb dX6_readQuote_125 rfl (lv_at hl 2 rfl) ?_
            refine lv_dup hx hb dX6_readQuote_126 rfl ?_
            refine va_get (D := (dC, dI)) (ci := 6) (v := .int a2) (C := RX6) (T := TX6) (N := 11) hx hb hts fin_X6_readQuote_X6 hown hK hP 3 rfl rfl 2 (by decide) (hts (.fieldLink RX6 29 "PatternGate$Reader" "lines" "I") (List.mem_of_getElem? (i := 7) (by decide +kernel))) (fun _ h9 => h9) rfl dX6_readQuote_127 ?_
            refine lv_iconst (v := 1) hx hb dX6_readQuote_130 (by decide) ?_
            refine lv_iadd hx hb dX6_readQuote_131 ?_
            refine lv_topi (fun y_72 ey_72 => ?_)
            first | have ty_72 := i_add (a := a2.toInt) (b := 1) rfl (by decide) ey_72 (by omega) (by omega) | skip
            refine va_put (D := (dC, dI)) (ci := 6) (v := .int y_72) (ty := .int) (C := RX6) (T := TX6) (N := 11) hx hb hts fin_X6_readQuote_X6 tyX6 tyX6_ok nmX6 hown hK hP hD hS 3 rfl rfl 2 (by decide) (hts (.fieldLink RX6 29 "PatternGate$Reader" "lines" "I") (List.mem_of_getElem? (i := 7) (by decide +kernel))) (fun _ h9 => h9) rfl (by decide +kernel) rfl rfl (Nat.le_of_ble_eq_true rfl) dX6_readQuote_132 (fun H locs hP hD hS => ?_)
            have hP : va_P (dC, dI) vwCl [(r 0, .inl (cb0, 18, .inl f_68)), (r 1, .inl (cb1, 18, .inl f_69)), (r 2, .inl (cb2, 18, .inl f_71)), (rd, .inr (6, rF r y_63 y_64 y_72 a3 a4 a5 a6 a7)), (ba, .inl (cb, kb, .inl fb))] H := hP
            have hD : va_D A [(r 0, .inl (cb0, 18, .inl f_68)), (r 1, .inl (cb1, 18, .inl f_69)), (r 2, .inl (cb2, 18, .inl f_71)), (rd, .inr (6, rF r y_63 y_64 y_72 a3 a4 a5 a6 a7)), (ba, .inl (cb, kb, .inl fb))] := hD
            refine lv_aload_n hx hb dX6_readQuote_135 rfl (lv_at hl 2 rfl) ?_
            refine lv_dup hx hb dX6_readQuote_136 rfl ?_
            refine va_get (D := (dC, dI)) (ci := 6) (v := .int a3) (C := RX6) (T := TX6) (N := 11) hx hb hts fin_X6_readQuote_X6 hown hK hP 3 rfl rfl 3 (by decide) (hts (.fieldLink RX6 32 "PatternGate$Reader" "newDocs" "I") (List.mem_of_getElem? (i := 11) (by decide +kernel))) (fun _ h9 => h9) rfl dX6_readQuote_137 ?_
            refine lv_iload hx hb dX6_readQuote_140 (lv_at hl 1 rfl) ?_
            refine lv_if_eq (tgt := 149) hx hb dX6_readQuote_142 (by decide) (fun k_73 => absurd k_73 (by decide)) (fun k_73 => ?_)
            have tk_73 := c_ne (a := 1) (b := 0) (by decide) (by decide) k_73
            refine lv_iconst (v := 1) hx hb dX6_readQuote_145 (by decide) ?_
            refine lv_goto (tgt := 150) hx hb dX6_readQuote_146 (by decide) ?_
            refine lv_iadd hx hb dX6_readQuote_150 ?_
            refine lv_topi (fun y_74 ey_74 => ?_)
            first | have ty_74 := i_add (a := a3.toInt) (b := 1) rfl (by decide) ey_74 (by omega) (by omega) | skip
            refine va_put (D := (dC, dI)) (ci := 6) (v := .int y_74) (ty := .int) (C := RX6) (T := TX6) (N := 11) hx hb hts fin_X6_readQuote_X6 tyX6 tyX6_ok nmX6 hown hK hP hD hS 3 rfl rfl 3 (by decide) (hts (.fieldLink RX6 32 "PatternGate$Reader" "newDocs" "I") (List.mem_of_getElem? (i := 11) (by decide +kernel))) (fun _ h9 => h9) rfl (by decide +kernel) rfl rfl (Nat.le_of_ble_eq_true rfl) dX6_readQuote_151 (fun H locs hP hD hS => ?_)
            have hP : va_P (dC, dI) vwCl [(r 0, .inl (cb0, 18, .inl f_68)), (r 1, .inl (cb1, 18, .inl f_69)), (r 2, .inl (cb2, 18, .inl f_71)), (rd, .inr (6, rF r y_63 y_64 y_72 y_74 a4 a5 a6 a7)), (ba, .inl (cb, kb, .inl fb))] H := hP
            have hD : va_D A [(r 0, .inl (cb0, 18, .inl f_68)), (r 1, .inl (cb1, 18, .inl f_69)), (r 2, .inl (cb2, 18, .inl f_71)), (rd, .inr (6, rF r y_63 y_64 y_72 y_74 a4 a5 a6 a7)), (ba, .inl (cb, kb, .inl fb))] := hD
            refine lv_aload_n hx hb dX6_readQuote_154 rfl (lv_at hl 2 rfl) ?_
            refine lv_dup hx hb dX6_readQuote_155 rfl ?_
            refine va_get (D := (dC, dI)) (ci := 6) (v := .int a4) (C := RX6) (T := TX6) (N := 11) hx hb hts fin_X6_readQuote_X6 hown hK hP 3 rfl rfl 4 (by decide) (hts (.fieldLink RX6 35 "PatternGate$Reader" "newPatterns" "I") (List.mem_of_getElem? (i := 12) (by decide +kernel))) (fun _ h9 => h9) rfl dX6_readQuote_156 ?_
            refine lv_iload hx hb dX6_readQuote_159 (lv_at hl 1 rfl) ?_
            refine lv_if_eq (tgt := 168) hx hb dX6_readQuote_161 (by decide) (fun k_75 => absurd k_75 (by decide)) (fun k_75 => ?_)
            have tk_75 := c_ne (a := 1) (b := 0) (by decide) (by decide) k_75
            refine lv_iconst (v := 0) hx hb dX6_readQuote_164 (by decide) ?_
            refine lv_goto (tgt := 169) hx hb dX6_readQuote_165 (by decide) ?_
            refine lv_iadd hx hb dX6_readQuote_169 ?_
            refine lv_topi (fun y_76 ey_76 => ?_)
            first | have ty_76 := i_add (a := a4.toInt) (b := 0) rfl (by decide) ey_76 (by omega) (by omega) | skip
            refine va_put (D := (dC, dI)) (ci := 6) (v := .int y_76) (ty := .int) (C := RX6) (T := TX6) (N := 11) hx hb hts fin_X6_readQuote_X6 tyX6 tyX6_ok nmX6 hown hK hP hD hS 3 rfl rfl 4 (by decide) (hts (.fieldLink RX6 35 "PatternGate$Reader" "newPatterns" "I") (List.mem_of_getElem? (i := 12) (by decide +kernel))) (fun _ h9 => h9) rfl (by decide +kernel) rfl rfl (Nat.le_of_ble_eq_true rfl) dX6_readQuote_170 (fun H locs hP hD hS => ?_)
            have hP : va_P (dC, dI) vwCl [(r 0, .inl (cb0, 18, .inl f_68)), (r 1, .inl (cb1, 18, .inl f_69)), (r 2, .inl (cb2, 18, .inl f_71)), (rd, .inr (6, rF r y_63 y_64 y_72 y_74 y_76 a5 a6 a7)), (ba, .inl (cb, kb, .inl fb))] H := hP
            have hD : va_D A [(r 0, .inl (cb0, 18, .inl f_68)), (r 1, .inl (cb1, 18, .inl f_69)), (r 2, .inl (cb2, 18, .inl f_71)), (rd, .inr (6, rF r y_63 y_64 y_72 y_74 y_76 a5 a6 a7)), (ba, .inl (cb, kb, .inl fb))] := hD
            refine lv_aload_n hx hb dX6_readQuote_173 rfl (lv_at hl 2 rfl) ?_
            refine lv_iconst (v := 3) hx hb dX6_readQuote_174 (by decide) ?_
            refine va_put (D := (dC, dI)) (ci := 6) (v := .int 3) (ty := .int) (C := RX6) (T := TX6) (N := 11) hx hb hts fin_X6_readQuote_X6 tyX6 tyX6_ok nmX6 hown hK hP hD hS 3 rfl rfl 10 (by decide) (hts (.fieldLink RX6 44 "PatternGate$Reader" "wanted" "I") (List.mem_of_getElem? (i := 1) (by decide +kernel))) (fun _ h9 => h9) rfl (by decide +kernel) rfl rfl (Nat.le_of_ble_eq_true rfl) dX6_readQuote_175 (fun H locs hP hD hS => ?_)
            have hP : va_P (dC, dI) vwCl [(r 0, .inl (cb0, 18, .inl f_68)), (r 1, .inl (cb1, 18, .inl f_69)), (r 2, .inl (cb2, 18, .inl f_71)), (rd, .inr (6, rF r y_63 y_64 y_72 y_74 y_76 a5 a6 3)), (ba, .inl (cb, kb, .inl fb))] H := hP
            have hD : va_D A [(r 0, .inl (cb0, 18, .inl f_68)), (r 1, .inl (cb1, 18, .inl f_69)), (r 2, .inl (cb2, 18, .inl f_71)), (rd, .inr (6, rF r y_63 y_64 y_72 y_74 y_76 a5 a6 3)), (ba, .inl (cb, kb, .inl fb))] := hD
            refine lv_iload hx hb dX6_readQuote_178 (lv_at hl 0 rfl) ?_
            have hP9 := hP.sub (ws' := [(rd, .inr (6, rF r y_63 y_64 y_72 y_74 y_76 a5 a6 3)), (ba, .inl (cb, kb, .inl fb)), (r 0, .inl (cb0, 18, .inl f_68)), (r 1, .inl (cb1, 18, .inl f_69)), (r 2, .inl (cb2, 18, .inl f_71))]) [3, 4, 0, 1, 2] rfl
            have hD9 := hD.sub (ws' := [(rd, .inr (6, rF r y_63 y_64 y_72 y_74 y_76 a5 a6 3)), (ba, .inl (cb, kb, .inl fb)), (r 0, .inl (cb0, 18, .inl f_68)), (r 1, .inl (cb1, 18, .inl f_69)), (r 2, .inl (cb2, 18, .inl f_71))]) [3, 4, 0, 1, 2] (by decide) rfl
            have hK9 := hK.sub (tys' := [(cb, .int), (cb0, .int), (cb1, .int), (cb2, .boolean)]) [0, 1, 2, 3] rfl
            exact W.iret hx hb hr (fun t ht hW => ⟨⟨_, r_62, rfl, ⟨rfl, by omega⟩, y_63, y_64, y_72, y_74, y_76, 3, f_68, f_69, f_71, (Or.inr (rJ.line hJ hf_f_68 hf_f_69 hf_f_71 (by omega) (by omega) (by omega) (by omega) (by omega) (by decide) (Or.inl ⟨by omega, rfl, by omega, by omega, by omega⟩))), by rw [ht]; exact hP9, va_K.moved hW.alike hK9, hD9⟩, hS.F ht⟩) hS.2.2 dX6_readQuote_180
    · have tk_39 := c_ne (a := a7.toInt) (b := 2) rfl (by decide) k_39
      refine lv_aload_n hx hb dX6_readQuote_16 rfl (lv_at hl 0 rfl) ?_
      refine lv_iconst (v := 2) hx hb dX6_readQuote_17 (by decide) ?_
      refine lv_iload_n hx hb dX6_readQuote_18 rfl (lv_at hl 2 rfl) ?_
      have hPc := hP.sub (ws' := [(rd, .inr (6, rF r a0 a1 a2 a3 a4 a5 a6 a7))]) [0] rfl
      have hKc := hK.sub (tys' := []) [] rfl
      have hDc := hD.sub (ws' := [(rd, .inr (6, rF r a0 a1 a2 a3 a4 a5 a6 a7))]) [0] (by decide) rfl
      have hFc := va_free (wc := [(rd, .inr (6, rF r a0 a1 a2 a3 a4 a5 a6 a7))]) hD hS hA [0] rfl
      refine va_callv (va_runV (As := [.int 2, .int i1]) (rest := []) ⟨hx, hb, hml, hown, hts⟩ (s_fail l dC dI rd r a0 a1 a2 a3 a4 a5 a6 a7 H.size 2 i1) (cwV 2 hts mg_X6_readQuote_X6_fail_71 rfl rfl rfl (by decide +kernel) ⟨Nat.le_of_ble_eq_true rfl, Nat.le_of_ble_eq_true rfl⟩) ⟨fun a U g mk q => by obtain ⟨q0, q1, qP, qK, qD⟩ := q; exact ⟨q0, q1, qP, va_K.moved (u := U) (U := U.calling g mk a) (Vm.Alike.refl U.vm) qK, qD⟩, va_recv hKc hPc (ci := 6) (q0 := 0) rfl rfl, fun U hU hW => ⟨rfl, by rw [hU], by rw [hU]; exact hPc, va_K.moved hW.alike hKc, hDc.weaken (fun _ _ _ _ => trivial)⟩⟩ rfl rfl hl.1 rfl (lv_room (Nat.le_of_ble_eq_true rfl)) dX6_readQuote_19 ⟨Nat.le_of_ble_eq_true rfl, Nat.le_of_ble_eq_true rfl⟩) hS (fun q _ h => hFc q h) hFc (fun u t H1 locs ht hvm hw hB hz1 hk1 hS => ?_)
      obtain ⟨hP1, hK1, hD1⟩ := hB
      rw [ht] at hP1
      obtain ⟨hP, hD⟩ := va_join (wr := [(ba, .inl (cb, kb, .inl fb)), (r 0, .inl (cb0, 18, .inl fb0)), (r 1, .inl (cb1, 18, .inl fb1)), (r 2, .inl (cb2, 18, .inl fb2))]) (w1 := [(rd, .inr (6, rF r 2 i1 a2 a3 a4 a5 a6 a7))]) hP hD [0] [1, 2, 3, 4] rfl rfl (by decide) (by decide) hk1 hFc hP1 hD1
      generalize H1 = H at hP hS ⊢
      have hP : va_P (dC, dI) vwCl [(ba, .inl (cb, kb, .inl fb)), (r 0, .inl (cb0, 18, .inl fb0)), (r 1, .inl (cb1, 18, .inl fb1)), (r 2, .inl (cb2, 18, .inl fb2)), (rd, .inr (6, rF r 2 i1 a2 a3 a4 a5 a6 a7))] H := hP
      have hD : va_D A [(ba, .inl (cb, kb, .inl fb)), (r 0, .inl (cb0, 18, .inl fb0)), (r 1, .inl (cb1, 18, .inl fb1)), (r 2, .inl (cb2, 18, .inl fb2)), (rd, .inr (6, rF r 2 i1 a2 a3 a4 a5 a6 a7))] := hD
      refine lv_iload_n hx hb dX6_readQuote_22 rfl (lv_at hl 2 rfl) ?_
      have hP9 := hP.sub (ws' := [(rd, .inr (6, rF r 2 i1 a2 a3 a4 a5 a6 a7)), (ba, .inl (cb, kb, .inl fb)), (r 0, .inl (cb0, 18, .inl fb0)), (r 1, .inl (cb1, 18, .inl fb1)), (r 2, .inl (cb2, 18, .inl fb2))]) [4, 0, 1, 2, 3] rfl
      have hD9 := hD.sub (ws' := [(rd, .inr (6, rF r 2 i1 a2 a3 a4 a5 a6 a7)), (ba, .inl (cb, kb, .inl fb)), (r 0, .inl (cb0, 18, .inl fb0)), (r 1, .inl (cb1, 18, .inl fb1)), (r 2, .inl (cb2, 18, .inl fb2))]) [4, 0, 1, 2, 3] (by decide) rfl
      have hK9 := hK.sub (tys' := [(cb, .int), (cb0, .int), (cb1, .int), (cb2, .boolean)]) [0, 1, 2, 3] rfl
      exact W.iret hx hb hr (fun t ht hW => ⟨⟨_, i1, rfl, ⟨rfl, by omega⟩, 2, i1, a2, a3, a4, a7, fb0, fb1, fb2, (Or.inl (by decide)), by rw [ht]; exact hP9, va_K.moved hW.alike hK9, hD9⟩, hS.F ht⟩) hS.2.2 dX6_readQuote_23

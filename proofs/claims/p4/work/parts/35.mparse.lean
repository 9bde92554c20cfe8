theorem dX10_docQuote_0 : decode cX10_docQuote 0 = .ok (.aload_n 0, 1) := by decide +kernel
theorem dX10_docQuote_1 : decode cX10_docQuote 1 = .ok (.getfield 8, 3) := by decide +kernel
theorem dX10_docQuote_4 : decode cX10_docQuote 4 = .ok (.iconst 0, 1) := by decide +kernel
theorem dX10_docQuote_5 : decode cX10_docQuote 5 = .ok (.iaload, 1) := by decide +kernel
theorem dX10_docQuote_6 : decode cX10_docQuote 6 = .ok (.istore_n 1, 1) := by decide +kernel
theorem dX10_docQuote_7 : decode cX10_docQuote 7 = .ok (.iconst 0, 1) := by decide +kernel
theorem dX10_docQuote_8 : decode cX10_docQuote 8 = .ok (.istore_n 2, 1) := by decide +kernel
theorem dX10_docQuote_9 : decode cX10_docQuote 9 = .ok (.aload_n 0, 1) := by decide +kernel
theorem dX10_docQuote_10 : decode cX10_docQuote 10 = .ok (.aload_n 0, 1) := by decide +kernel
theorem dX10_docQuote_11 : decode cX10_docQuote 11 = .ok (.getfield 130, 3) := by decide +kernel
theorem dX10_docQuote_14 : decode cX10_docQuote 14 = .ok (.invokevirtual 133, 3) := by decide +kernel
theorem dX10_docQuote_17 : decode cX10_docQuote 17 = .ok (.invokestatic 137, 3) := by decide +kernel
theorem dX10_docQuote_20 : decode cX10_docQuote 20 = .ok (.ifCond .eq 60, 3) := by decide +kernel
theorem dX10_docQuote_23 : decode cX10_docQuote 23 = .ok (.iload_n 2, 1) := by decide +kernel
theorem dX10_docQuote_24 : decode cX10_docQuote 24 = .ok (.bipush 60, 2) := by decide +kernel
theorem dX10_docQuote_26 : decode cX10_docQuote 26 = .ok (.if_icmp .ne 13, 3) := by decide +kernel
theorem dX10_docQuote_29 : decode cX10_docQuote 29 = .ok (.aload_n 0, 1) := by decide +kernel
theorem dX10_docQuote_30 : decode cX10_docQuote 30 = .ok (.iconst 4, 1) := by decide +kernel
theorem dX10_docQuote_31 : decode cX10_docQuote 31 = .ok (.aload_n 0, 1) := by decide +kernel
theorem dX10_docQuote_32 : decode cX10_docQuote 32 = .ok (.getfield 130, 3) := by decide +kernel
theorem dX10_docQuote_35 : decode cX10_docQuote 35 = .ok (.invokevirtual 126, 3) := by decide +kernel
theorem dX10_docQuote_38 : decode cX10_docQuote 38 = .ok (.ireturn, 1) := by decide +kernel
theorem dX10_docQuote_39 : decode cX10_docQuote 39 = .ok (.aload_n 0, 1) := by decide +kernel
theorem dX10_docQuote_40 : decode cX10_docQuote 40 = .ok (.getfield 8, 3) := by decide +kernel
theorem dX10_docQuote_43 : decode cX10_docQuote 43 = .ok (.bipush 11, 2) := by decide +kernel
theorem dX10_docQuote_45 : decode cX10_docQuote 45 = .ok (.bipush 60, 2) := by decide +kernel
theorem dX10_docQuote_47 : decode cX10_docQuote 47 = .ok (.iload_n 1, 1) := by decide +kernel
theorem dX10_docQuote_48 : decode cX10_docQuote 48 = .ok (.imul, 1) := by decide +kernel
theorem dX10_docQuote_49 : decode cX10_docQuote 49 = .ok (.iadd, 1) := by decide +kernel
theorem dX10_docQuote_50 : decode cX10_docQuote 50 = .ok (.iload_n 2, 1) := by decide +kernel
theorem dX10_docQuote_51 : decode cX10_docQuote 51 = .ok (.iadd, 1) := by decide +kernel
theorem dX10_docQuote_52 : decode cX10_docQuote 52 = .ok (.aload_n 0, 1) := by decide +kernel
theorem dX10_docQuote_53 : decode cX10_docQuote 53 = .ok (.aload_n 0, 1) := by decide +kernel
theorem dX10_docQuote_54 : decode cX10_docQuote 54 = .ok (.getfield 130, 3) := by decide +kernel
theorem dX10_docQuote_57 : decode cX10_docQuote 57 = .ok (.invokevirtual 133, 3) := by decide +kernel
theorem dX10_docQuote_60 : decode cX10_docQuote 60 = .ok (.bipush 97, 2) := by decide +kernel
theorem dX10_docQuote_62 : decode cX10_docQuote 62 = .ok (.isub, 1) := by decide +kernel
theorem dX10_docQuote_63 : decode cX10_docQuote 63 = .ok (.iastore, 1) := by decide +kernel
theorem dX10_docQuote_64 : decode cX10_docQuote 64 = .ok (.iinc 2 1, 3) := by decide +kernel
theorem dX10_docQuote_67 : decode cX10_docQuote 67 = .ok (.aload_n 0, 1) := by decide +kernel
theorem dX10_docQuote_68 : decode cX10_docQuote 68 = .ok (.dup, 1) := by decide +kernel
theorem dX10_docQuote_69 : decode cX10_docQuote 69 = .ok (.getfield 130, 3) := by decide +kernel
theorem dX10_docQuote_72 : decode cX10_docQuote 72 = .ok (.iconst 1, 1) := by decide +kernel
theorem dX10_docQuote_73 : decode cX10_docQuote 73 = .ok (.iadd, 1) := by decide +kernel
theorem dX10_docQuote_74 : decode cX10_docQuote 74 = .ok (.putfield 130, 3) := by decide +kernel
theorem dX10_docQuote_77 : decode cX10_docQuote 77 = .ok (.goto (-68), 3) := by decide +kernel
theorem dX10_docQuote_80 : decode cX10_docQuote 80 = .ok (.iload_n 2, 1) := by decide +kernel
theorem dX10_docQuote_81 : decode cX10_docQuote 81 = .ok (.ifCond .eq 16, 3) := by decide +kernel
theorem dX10_docQuote_84 : decode cX10_docQuote 84 = .ok (.aload_n 0, 1) := by decide +kernel
theorem dX10_docQuote_85 : decode cX10_docQuote 85 = .ok (.aload_n 0, 1) := by decide +kernel
theorem dX10_docQuote_86 : decode cX10_docQuote 86 = .ok (.getfield 130, 3) := by decide +kernel
theorem dX10_docQuote_89 : decode cX10_docQuote 89 = .ok (.invokevirtual 133, 3) := by decide +kernel
theorem dX10_docQuote_92 : decode cX10_docQuote 92 = .ok (.bipush 34, 2) := by decide +kernel
theorem dX10_docQuote_94 : decode cX10_docQuote 94 = .ok (.if_icmp .eq 13, 3) := by decide +kernel
theorem dX10_docQuote_97 : decode cX10_docQuote 97 = .ok (.aload_n 0, 1) := by decide +kernel
theorem dX10_docQuote_98 : decode cX10_docQuote 98 = .ok (.iconst 1, 1) := by decide +kernel
theorem dX10_docQuote_99 : decode cX10_docQuote 99 = .ok (.aload_n 0, 1) := by decide +kernel
theorem dX10_docQuote_100 : decode cX10_docQuote 100 = .ok (.getfield 130, 3) := by decide +kernel
theorem dX10_docQuote_103 : decode cX10_docQuote 103 = .ok (.invokevirtual 126, 3) := by decide +kernel
theorem dX10_docQuote_106 : decode cX10_docQuote 106 = .ok (.ireturn, 1) := by decide +kernel
theorem dX10_docQuote_107 : decode cX10_docQuote 107 = .ok (.aload_n 0, 1) := by decide +kernel
theorem dX10_docQuote_108 : decode cX10_docQuote 108 = .ok (.getfield 8, 3) := by decide +kernel
theorem dX10_docQuote_111 : decode cX10_docQuote 111 = .ok (.iconst 1, 1) := by decide +kernel
theorem dX10_docQuote_112 : decode cX10_docQuote 112 = .ok (.iload_n 1, 1) := by decide +kernel
theorem dX10_docQuote_113 : decode cX10_docQuote 113 = .ok (.iadd, 1) := by decide +kernel
theorem dX10_docQuote_114 : decode cX10_docQuote 114 = .ok (.iload_n 2, 1) := by decide +kernel
theorem dX10_docQuote_115 : decode cX10_docQuote 115 = .ok (.iastore, 1) := by decide +kernel
theorem dX10_docQuote_116 : decode cX10_docQuote 116 = .ok (.aload_n 0, 1) := by decide +kernel
theorem dX10_docQuote_117 : decode cX10_docQuote 117 = .ok (.getfield 8, 3) := by decide +kernel
theorem dX10_docQuote_120 : decode cX10_docQuote 120 = .ok (.iconst 0, 1) := by decide +kernel
theorem dX10_docQuote_121 : decode cX10_docQuote 121 = .ok (.dup2, 1) := by decide +kernel
theorem dX10_docQuote_122 : decode cX10_docQuote 122 = .ok (.iaload, 1) := by decide +kernel
theorem dX10_docQuote_123 : decode cX10_docQuote 123 = .ok (.iconst 1, 1) := by decide +kernel
theorem dX10_docQuote_124 : decode cX10_docQuote 124 = .ok (.iadd, 1) := by decide +kernel
theorem dX10_docQuote_125 : decode cX10_docQuote 125 = .ok (.iastore, 1) := by decide +kernel
theorem dX10_docQuote_126 : decode cX10_docQuote 126 = .ok (.aload_n 0, 1) := by decide +kernel
theorem dX10_docQuote_127 : decode cX10_docQuote 127 = .ok (.dup, 1) := by decide +kernel
theorem dX10_docQuote_128 : decode cX10_docQuote 128 = .ok (.getfield 130, 3) := by decide +kernel
theorem dX10_docQuote_131 : decode cX10_docQuote 131 = .ok (.iconst 1, 1) := by decide +kernel
theorem dX10_docQuote_132 : decode cX10_docQuote 132 = .ok (.iadd, 1) := by decide +kernel
theorem dX10_docQuote_133 : decode cX10_docQuote 133 = .ok (.putfield 130, 3) := by decide +kernel
theorem dX10_docQuote_136 : decode cX10_docQuote 136 = .ok (.iconst 1, 1) := by decide +kernel
theorem dX10_docQuote_137 : decode cX10_docQuote 137 = .ok (.ireturn, 1) := by decide +kernel
def mwX10_docQuotem : List Cond := .code yX10_docQuote cX10_docQuote 3 (some .boolean) :: ([.fieldLink RX10 8 "PatternGateModel" "all" "[I", .fieldLink RX10 130 "PatternGateModel" "end" "I", .code yX10_byteAt cX10_byteAt 2 (some .int), .fieldLink RX10 114 "PatternGateModel" "size" "I", .fieldLink RX10 18 "PatternGateModel" "text" "[B", .methodLink RX10 133 yX10_byteAt, .instanceMethod yX10_byteAt, .selects RX10 yX10_byteAt yX10_byteAt, .initialized RX10, .code yX10_isSmall cX10_isSmall 1 (some .boolean), .methodLink RX10 137 yX10_isSmall, .static yX10_isSmall, .code yX10_failsAt cX10_failsAt 3 (some .boolean), .fieldLink RX10 117 "PatternGateModel" "faults" "I", .fieldLink RX10 21 "PatternGateModel" "faultPlace" "I", .methodLink RX10 126 yX10_failsAt, .instanceMethod yX10_failsAt, .selects RX10 yX10_failsAt yX10_failsAt] ++ wsX100)
theorem fin_X10_docQuotem_X10 : ∀ w ∈ wsX100, w ∈ mwX10_docQuotem := fun w h => List.mem_cons_of_mem _ (List.mem_append_right _ h)
set_option maxRecDepth 20000 in
theorem mg_X10_docQuotem_X10_byteAt_133 : GoodIn mwX10_docQuotem (wsV RX10 133 RX10 yX10_byteAt mwX10_byteAtm) := goodIn_r _ [6, 7, 8, 9, 3, 4, 5, 19, 20, 21, 22, 23, 24, 25, 26, 27, 28, 29, 30, 31, 32, 33, 34, 35, 36, 37, 38, 39, 40, 41, 42, 43, 44, 45, 46, 47, 48, 49, 50, 51, 52, 53, 54, 55, 56, 57, 58, 59, 60, 61, 62, 63, 64, 65, 66] (by decide +kernel) (by decide +kernel)
set_option maxRecDepth 20000 in
theorem mg_X10_docQuotem_X10_isSmall_137 : GoodIn mwX10_docQuotem (va_wsS RX10 137 yX10_isSmall mwX10_isSmallm) := goodIn_r _ [11, 12, 9, 10] (by decide +kernel) (by decide +kernel)
set_option maxRecDepth 20000 in
theorem mg_X10_docQuotem_X10_failsAt_126 : GoodIn mwX10_docQuotem (wsV RX10 126 RX10 yX10_failsAt mwX10_failsAtm) := goodIn_r _ [16, 17, 18, 9, 13, 14, 15, 19, 20, 21, 22, 23, 24, 25, 26, 27, 28, 29, 30, 31, 32, 33, 34, 35, 36, 37, 38, 39, 40, 41, 42, 43, 44, 45, 46, 47, 48, 49, 50, 51, 52, 53, 54, 55, 56, 57, 58, 59, 60, 61, 62, 63, 64, 65, 66] (by decide +kernel) (by decide +kernel)
set_option maxHeartbeats 4000000 in
set_option maxRecDepth 100000 in
theorem m_docQuote (l : Launch) (dC : Nat → ClassId) (dI : Nat → Nat → Nat) (ad : Nat → Nat) (kc : Nat → ClassId) (x0 x1 x2 x3 x4 x5 x6 x7 x8 x9 x10 x11 x12 x13 x14 x15 x16 x17 x18 x19 x20 x21 : Int32) (f0 f1 f2 f3 f4 f5 f6 f7 f8 f9 f10 f11 f12 f13 f14 f15 f16 f17 f18 f19 f20 f21 : Nat → Int32) (fL : Nat → Nat → Int64) (fN : Nat → Nat → Int32) (fP : Nat → Nat → Nat) (fM : Nat → Nat → Int32) (fO : Nat → Nat → Int32) (sz : Nat) (q0 : 0 ≤ x7.toInt) (q1 : x7.toInt ≤ x4.toInt) (q2 : x4.toInt ≤ 900) (q3 : OKd f0 0) (q4 : vI f0 0 < 10) : Met l yX10_docQuote mwX10_docQuotem ({ frames := 1, cells := 0, slots := 0, locals := 60 }) (va_Pc [.ref (ad 0)] (fun U => U.heap.size = sz ∧ va_P (dC, dI) vwCl (mW ad kc x0 x1 x2 x3 x4 x5 x6 x7 x8 x9 x10 x11 x12 x13 x14 x15 x16 x17 x18 x19 x20 x21 f0 f1 f2 f3 f4 f5 f6 f7 f8 f9 f10 f11 f12 f13 f14 f15 f16 f17 f18 f19 f20 f21 fL fN fP fM fO) U.heap ∧ va_K (dC, dI) vwCl (mT kc) U ∧ va_D (fun _ => True) (mW ad kc x0 x1 x2 x3 x4 x5 x6 x7 x8 x9 x10 x11 x12 x13 x14 x15 x16 x17 x18 x19 x20 x21 f0 f1 f2 f3 f4 f5 f6 f7 f8 f9 f10 f11 f12 f13 f14 f15 f16 f17 f18 f19 f20 f21 fL fN fP fM fO))) (va_Qi (fun (o9 u9 : Int32) => o9 = u9) (fun (o9 : Int32) t => ∃ (y7 y8 y9 : Int32) (g0 : Nat → Int32), (OKd g0 0) ∧ (∀ z : Int, 7820 ≤ z → vI g0 z = vI f0 z) ∧ (x7.toInt ≤ y7.toInt) ∧ (y7.toInt ≤ x4.toInt) ∧ (o9.toInt = 0 ∨ o9.toInt = 1) ∧ va_P (dC, dI) vwCl (mW ad kc x0 x1 x2 x3 x4 x5 x6 y7 y8 y9 x10 x11 x12 x13 x14 x15 x16 x17 x18 x19 x20 x21 g0 f1 f2 f3 f4 f5 f6 f7 f8 f9 f10 f11 f12 f13 f14 f15 f16 f17 f18 f19 f20 f21 fL fN fP fM fO) t.heap ∧ va_K (dC, dI) vwCl (mT kc) t ∧ va_D (va_A (mW ad kc x0 x1 x2 x3 x4 x5 x6 x7 x8 x9 x10 x11 x12 x13 x14 x15 x16 x17 x18 x19 x20 x21 f0 f1 f2 f3 f4 f5 f6 f7 f8 f9 f10 f11 f12 f13 f14 f15 f16 f17 f18 f19 f20 f21 fL fN fP fM fO) sz) (mW ad kc x0 x1 x2 x3 x4 x5 x6 y7 y8 y9 x10 x11 x12 x13 x14 x15 x16 x17 x18 x19 x20 x21 g0 f1 f2 f3 f4 f5 f6 f7 f8 f9 f10 f11 f12 f13 f14 f15 f16 f17 f18 f19 f20 f21 fL fN fP fM fO)) (va_A (mW ad kc x0 x1 x2 x3 x4 x5 x6 x7 x8 x9 x10 x11 x12 x13 x14 x15 x16 x17 x18 x19 x20 x21 f0 f1 f2 f3 f4 f5 f6 f7 f8 f9 f10 f11 f12 f13 f14 f15 f16 f17 f18 f19 f20 f21 fL fN fP fM fO) sz)) 0 0 (va_A (mW ad kc x0 x1 x2 x3 x4 x5 x6 x7 x8 x9 x10 x11 x12 x13 x14 x15 x16 x17 x18 x19 x20 x21 f0 f1 f2 f3 f4 f5 f6 f7 f8 f9 f10 f11 f12 f13 f14 f15 f16 f17 f18 f19 f20 f21 fL fN fP fM fO) sz) := by
  refine Met.ofW (cc := cX10_docQuote) (maxL := 3) (ret := (some .boolean)) (by decide +kernel) rfl ?_
  intro p e s m args below meth c s₁ B hml hv
  obtain ⟨rfl, hsz, hP, hK, hD0⟩ := hv
  have hx := B.exec
  have hb := B.bytes
  have hr := B.returns
  have hts := atoms_spec (ws := mwX10_docQuotem) B.pre
  have hown : s.vm.findClass RX10 = some m.cls := findClass_of_methodNamed B.named
  have hlocks := B.notSynchronized
  subst hsz
  have hD := hD0.self (sz := s.heap.size)
  generalize hAe : va_A (mW ad kc x0 x1 x2 x3 x4 x5 x6 x7 x8 x9 x10 x11 x12 x13 x14 x15 x16 x17 x18 x19 x20 x21 f0 f1 f2 f3 f4 f5 f6 f7 f8 f9 f10 f11 f12 f13 f14 f15 f16 f17 f18 f19 f20 f21 fL fN fP fM fO) s.heap.size = A at hD ⊢
  have hA : ∀ q : Nat, s.heap.size ≤ q → A q := fun q h => by rw [← hAe]; exact Or.inr h
  have hP : va_P (dC, dI) vwCl (mW ad kc x0 x1 x2 x3 x4 x5 x6 x7 x8 x9 x10 x11 x12 x13 x14 x15 x16 x17 x18 x19 x20 x21 f0 f1 f2 f3 f4 f5 f6 f7 f8 f9 f10 f11 f12 f13 f14 f15 f16 f17 f18 f19 f20 f21 fL fN fP fM fO) s.heap := hP
  have hD : va_D A (mW ad kc x0 x1 x2 x3 x4 x5 x6 x7 x8 x9 x10 x11 x12 x13 x14 x15 x16 x17 x18 x19 x20 x21 f0 f1 f2 f3 f4 f5 f6 f7 f8 f9 f10 f11 f12 f13 f14 f15 f16 f17 f18 f19 f20 f21 fL fN fP fM fO) := hD
  have hK : va_K (dC, dI) vwCl (mT kc) s := hK
  generalize hH : s.heap = H at hP ⊢
  have hS : va_S A s.heap H [] := by rw [← hH]; exact va_S.rf
  have hl := lv_entry ([.ref (ad 0)]) (n := 3) (Nat.le_of_ble_eq_true rfl)
  rw [lg_entry_eq]
  generalize (lg_sl ([.ref (ad 0)]) ++ List.replicate (3 - (lg_sl ([.ref (ad 0)])).length) Slot.unset).toArray = ls at hl ⊢
  have hl : lv_has ls 3 [(0, .ref (ad 0))] := hl
  have q3a := q3.1
  refine lv_aload_n hx hb dX10_docQuote_0 rfl (lv_at hl 0 rfl) ?_
  refine va_get (D := (dC, dI)) (ci := 10) (v := .ref (ad 1)) (C := RX10) (T := TX10) (N := 48) hx hb hts fin_X10_docQuotem_X10 hown hK hP 0 rfl rfl 0 (by decide) (hts (.fieldLink RX10 8 "PatternGateModel" "all" "[I") (List.mem_of_getElem? (i := 1) (by decide +kernel))) (fun _ h9 => h9) rfl dX10_docQuote_1 ?_
  refine lv_iconst (v := 0) hx hb dX10_docQuote_4 (by decide) ?_
  refine va_iald hx hb hK hP 1 0 rfl rfl (i := 0) (by unfold vp_in; decide +kernel) dX10_docQuote_5 ?_
  refine lv_topi (fun y_1 ey_1 => ?_)
  have rg_y_1 := i_rng y_1
  have vy_1 := vI_lda (f := f0) (i := 0) (a := 0) ey_1 (by first | omega | decide)
  have rg_y_1 := i_rng y_1
  refine lv_istore_n (lv' := [(1, .int y_1), (0, .ref (ad 0))]) hx hb dX10_docQuote_6 rfl hl (by decide) rfl (fun ls hl => ?_)
  refine lv_iconst (v := 0) hx hb dX10_docQuote_7 (by decide) ?_
  refine lv_istore_n (lv' := [(2, .int 0), (1, .int y_1), (0, .ref (ad 0))]) hx hb dX10_docQuote_8 rfl hl (by decide) rfl (fun ls hl => ?_)
  have loop9 : ∀ (lm9 : Nat) (nn ea : Int32) (ga : Nat → Int32), (0 ≤ nn.toInt) → (nn.toInt ≤ 60) → (x7.toInt ≤ ea.toInt) → (ea.toInt ≤ x4.toInt) → (∀ z : Int, 0 ≤ z → (z < 11 + 60 * y_1.toInt ∨ 71 + 60 * y_1.toInt ≤ z) → vI ga z = vI f0 z) → (∀ k : Int, 0 ≤ k → k < nn.toInt → 0 ≤ vI ga (11 + 60 * y_1.toInt + k) ∧ vI ga (11 + 60 * y_1.toInt + k) ≤ 25) → ((x4.toInt - ea.toInt).toNat) < lm9 → ∀ (H : Heap) (locs : List Loc) (ls : Array Slot), va_P (dC, dI) vwCl (mW ad kc x0 x1 x2 x3 x4 x5 x6 ea x8 x9 x10 x11 x12 x13 x14 x15 x16 x17 x18 x19 x20 x21 ga f1 f2 f3 f4 f5 f6 f7 f8 f9 f10 f11 f12 f13 f14 f15 f16 f17 f18 f19 f20 f21 fL fN fP fM fO) H → va_D A (mW ad kc x0 x1 x2 x3 x4 x5 x6 ea x8 x9 x10 x11 x12 x13 x14 x15 x16 x17 x18 x19 x20 x21 ga f1 f2 f3 f4 f5 f6 f7 f8 f9 f10 f11 f12 f13 f14 f15 f16 f17 f18 f19 f20 f21 fL fN fP fM fO) → va_S A s.heap H locs → lv_has ls 3 [(2, .int nn), (1, .int y_1), (0, .ref (ad 0))] → W p l e (headSpec mwX10_docQuotem ({ frames := 1, cells := 0, slots := 0, locals := 60 })).room s m ([.ref (ad 0)]).toArray below meth c H locs 0 0 (MQ below (va_Qi (fun (o9 u9 : Int32) => o9 = u9) (fun (o9 : Int32) t => ∃ (y7 y8 y9 : Int32) (g0 : Nat → Int32), (OKd g0 0) ∧ (∀ z : Int, 7820 ≤ z → vI g0 z = vI f0 z) ∧ (x7.toInt ≤ y7.toInt) ∧ (y7.toInt ≤ x4.toInt) ∧ (o9.toInt = 0 ∨ o9.toInt = 1) ∧ va_P (dC, dI) vwCl (mW ad kc x0 x1 x2 x3 x4 x5 x6 y7 y8 y9 x10 x11 x12 x13 x14 x15 x16 x17 x18 x19 x20 x21 g0 f1 f2 f3 f4 f5 f6 f7 f8 f9 f10 f11 f12 f13 f14 f15 f16 f17 f18 f19 f20 f21 fL fN fP fM fO) t.heap ∧ va_K (dC, dI) vwCl (mT kc) t ∧ va_D A (mW ad kc x0 x1 x2 x3 x4 x5 x6 y7 y8 y9 x10 x11 x12 x13 x14 x15 x16 x17 x18 x19 x20 x21 g0 f1 f2 f3 f4 f5 f6 f7 f8 f9 f10 f11 f12 f13 f14 f15 f16 f17 f18 f19 f20 f21 fL fN fP fM fO)) A) ([.ref (ad 0)]).toArray s 0 0 A) (F0 m 9 ls []) := by
    intro lm9
    induction lm9 with
    | zero => intro nn ea ga v9_0 v9_1 v9_2 v9_3 v9_4 v9_5 hm9; exact absurd hm9 (Nat.not_lt_zero _)
    | succ lm9 ih9 =>
      intro nn ea ga v9_0 v9_1 v9_2 v9_3 v9_4 v9_5 hm9 H locs ls hP hD hS hl
      have rg_nn := i_rng nn
      have rg_ea := i_rng ea
      refine lv_aload_n hx hb dX10_docQuote_9 rfl (lv_at hl 2 rfl) ?_
      refine lv_aload_n hx hb dX10_docQuote_10 rfl (lv_at hl 2 rfl) ?_
      refine va_get (D := (dC, dI)) (ci := 10) (v := .int ea) (C := RX10) (T := TX10) (N := 48) hx hb hts fin_X10_docQuotem_X10 hown hK hP 0 rfl rfl 10 (by decide) (hts (.fieldLink RX10 130 "PatternGateModel" "end" "I") (List.mem_of_getElem? (i := 2) (by decide +kernel))) (fun _ h9 => h9) rfl dX10_docQuote_11 ?_
      refine vp_callSi (W.runV (As := [.int ea]) (rest := []) ⟨hx, hb, hml, hown, hts⟩ (m_byteAt l dC dI ad kc x0 x1 x2 x3 x4 x5 x6 ea x8 x9 x10 x11 x12 x13 x14 x15 x16 x17 x18 x19 x20 x21 ga f1 f2 f3 f4 f5 f6 f7 f8 f9 f10 f11 f12 f13 f14 f15 f16 f17 f18 f19 f20 f21 fL fN fP fM fO ea (by first | omega | assumption | decide | (have l0 := Int32.toInt_zero; omega)) (by first | omega | assumption | decide | (have l0 := Int32.toInt_zero; omega))) (cwV 1 hts mg_X10_docQuotem_X10_byteAt_133 rfl rfl rfl (by decide +kernel) ⟨Nat.le_of_ble_eq_true rfl, Nat.le_of_ble_eq_true rfl⟩) ⟨fun a U g mk q => by obtain ⟨q0, qP, qK⟩ := q; exact ⟨q0, qP, va_K.moved (u := U) (U := U.calling g mk a) (Vm.Alike.refl U.vm) qK⟩, va_recv hK hP (ci := 10) (q0 := 0) rfl rfl, fun U hU hW => ⟨rfl, by rw [hU]; exact hP, va_K.moved hW.alike hK⟩⟩ rfl rfl hl.1 rfl (lv_room (Nat.le_of_ble_eq_true rfl)) dX10_docQuote_14 ⟨Nat.le_of_ble_eq_true rfl, Nat.le_of_ble_eq_true rfl⟩) (fun r_2 hr_2 => ?_)
      have rg_r_2 := i_rng r_2
      refine vp_callSi (W.runS (As := [.int r_2]) (rest := []) ⟨hx, hb, hml, hown, hts⟩ (m_isSmall l dC dI  r_2 ) (va_cwS 1 hts mg_X10_docQuotem_X10_isSmall_137 rfl rfl rfl (by decide +kernel) ⟨Nat.le_of_ble_eq_true rfl, Nat.le_of_ble_eq_true rfl⟩) ⟨fun a U g mk q => ⟨q.1, trivial⟩, fun U hU hW => ⟨rfl, trivial⟩⟩ rfl rfl hl.1 rfl (lv_room (Nat.le_of_ble_eq_true rfl)) dX10_docQuote_17 ⟨Nat.le_of_ble_eq_true rfl, Nat.le_of_ble_eq_true rfl⟩) (fun r_3 hr_3 => ?_)
      have rg_r_3 := i_rng r_3
      refine lv_if_eq (tgt := 80) hx hb dX10_docQuote_20 (by decide) (fun k_4 => ?_) (fun k_4 => ?_)
      · have tk_4 := c_eq (a := r_3.toInt) (b := 0) rfl (by decide) k_4
        refine lv_iload_n hx hb dX10_docQuote_80 rfl (lv_at hl 0 rfl) ?_
        refine lv_if_eq (tgt := 97) hx hb dX10_docQuote_81 (by decide) (fun k_5 => ?_) (fun k_5 => ?_)
        · have tk_5 := c_eq (a := nn.toInt) (b := 0) rfl (by decide) k_5
          refine lv_aload_n hx hb dX10_docQuote_97 rfl (lv_at hl 2 rfl) ?_
          refine lv_iconst (v := 1) hx hb dX10_docQuote_98 (by decide) ?_
          refine lv_aload_n hx hb dX10_docQuote_99 rfl (lv_at hl 2 rfl) ?_
          refine va_get (D := (dC, dI)) (ci := 10) (v := .int ea) (C := RX10) (T := TX10) (N := 48) hx hb hts fin_X10_docQuotem_X10 hown hK hP 0 rfl rfl 10 (by decide) (hts (.fieldLink RX10 130 "PatternGateModel" "end" "I") (List.mem_of_getElem? (i := 2) (by decide +kernel))) (fun _ h9 => h9) rfl dX10_docQuote_100 ?_
          have hFc := m_free hD hS hA
          refine va_calli (va_runV (As := [.int 1, .int ea]) (rest := []) ⟨hx, hb, hml, hown, hts⟩ (m_failsAt l dC dI ad kc x0 x1 x2 x3 x4 x5 x6 ea x8 x9 x10 x11 x12 x13 x14 x15 x16 x17 x18 x19 x20 x21 ga f1 f2 f3 f4 f5 f6 f7 f8 f9 f10 f11 f12 f13 f14 f15 f16 f17 f18 f19 f20 f21 fL fN fP fM fO H.size 1 ea ) (cwV 2 hts mg_X10_docQuotem_X10_failsAt_126 rfl rfl rfl (by decide +kernel) ⟨Nat.le_of_ble_eq_true rfl, Nat.le_of_ble_eq_true rfl⟩) ⟨fun a U g mk q => by obtain ⟨q0, q1, qP, qK, qD⟩ := q; exact ⟨q0, q1, qP, va_K.moved (u := U) (U := U.calling g mk a) (Vm.Alike.refl U.vm) qK, qD⟩, va_recv hK hP (ci := 10) (q0 := 0) rfl rfl, fun U hU hW => ⟨rfl, by rw [hU], by rw [hU]; exact hP, va_K.moved hW.alike hK, hD.weaken (fun _ _ _ _ => trivial)⟩⟩ rfl rfl hl.1 rfl (lv_room (Nat.le_of_ble_eq_true rfl)) dX10_docQuote_103 ⟨Nat.le_of_ble_eq_true rfl, Nat.le_of_ble_eq_true rfl⟩) hS (fun q _ h => hFc q h) hFc (fun r_6 u t H1 locs ht hvm hw hB hz1 hk1 hS => ?_)
          subst hw
          obtain ⟨x_7, x_8, hr_6_0, hP, hK1, hD1⟩ := hB
          rw [ht] at hP
          have hD := hD1.weaken (fun k q _ h => hFc q.1 h)
          generalize H1 = H at hP hS ⊢
          have rg_x_7 := i_rng x_7
          have rg_x_8 := i_rng x_8
          have rg_r_6 := i_rng r_6
          have hP : va_P (dC, dI) vwCl (mW ad kc x0 x1 x2 x3 x4 x5 x6 ea x_7 x_8 x10 x11 x12 x13 x14 x15 x16 x17 x18 x19 x20 x21 ga f1 f2 f3 f4 f5 f6 f7 f8 f9 f10 f11 f12 f13 f14 f15 f16 f17 f18 f19 f20 f21 fL fN fP fM fO) H := hP
          have hD : va_D A (mW ad kc x0 x1 x2 x3 x4 x5 x6 ea x_7 x_8 x10 x11 x12 x13 x14 x15 x16 x17 x18 x19 x20 x21 ga f1 f2 f3 f4 f5 f6 f7 f8 f9 f10 f11 f12 f13 f14 f15 f16 f17 f18 f19 f20 f21 fL fN fP fM fO) := hD
          exact W.zret hx hb hr (z_nar (by first | assumption | decide | exact z_of (by omega))) (fun t ht hW => ⟨⟨_, _, rfl, rfl, ea, x_7, x_8, ga, (q3.congr (b' := 0) (fun z hz => by unfold OKl at hz; exact v9_4 _ (by omega) (by omega))), (fun z hz => v9_4 z (by omega) (by omega)), (by first | omega | assumption | rfl | decide), (by first | omega | assumption | rfl | decide), (by first | omega | assumption | rfl | decide), by rw [ht]; exact hP, va_K.moved hW.alike hK, hD⟩, hS.F ht⟩) hS.2.2 dX10_docQuote_106
        · have tk_5 := c_ne (a := nn.toInt) (b := 0) rfl (by decide) k_5
          refine lv_aload_n hx hb dX10_docQuote_84 rfl (lv_at hl 2 rfl) ?_
          refine lv_aload_n hx hb dX10_docQuote_85 rfl (lv_at hl 2 rfl) ?_
          refine va_get (D := (dC, dI)) (ci := 10) (v := .int ea) (C := RX10) (T := TX10) (N := 48) hx hb hts fin_X10_docQuotem_X10 hown hK hP 0 rfl rfl 10 (by decide) (hts (.fieldLink RX10 130 "PatternGateModel" "end" "I") (List.mem_of_getElem? (i := 2) (by decide +kernel))) (fun _ h9 => h9) rfl dX10_docQuote_86 ?_
          refine vp_callSi (W.runV (As := [.int ea]) (rest := []) ⟨hx, hb, hml, hown, hts⟩ (m_byteAt l dC dI ad kc x0 x1 x2 x3 x4 x5 x6 ea x8 x9 x10 x11 x12 x13 x14 x15 x16 x17 x18 x19 x20 x21 ga f1 f2 f3 f4 f5 f6 f7 f8 f9 f10 f11 f12 f13 f14 f15 f16 f17 f18 f19 f20 f21 fL fN fP fM fO ea (by first | omega | assumption | decide | (have l0 := Int32.toInt_zero; omega)) (by first | omega | assumption | decide | (have l0 := Int32.toInt_zero; omega))) (cwV 1 hts mg_X10_docQuotem_X10_byteAt_133 rfl rfl rfl (by decide +kernel) ⟨Nat.le_of_ble_eq_true rfl, Nat.le_of_ble_eq_true rfl⟩) ⟨fun a U g mk q => by obtain ⟨q0, qP, qK⟩ := q; exact ⟨q0, qP, va_K.moved (u := U) (U := U.calling g mk a) (Vm.Alike.refl U.vm) qK⟩, va_recv hK hP (ci := 10) (q0 := 0) rfl rfl, fun U hU hW => ⟨rfl, by rw [hU]; exact hP, va_K.moved hW.alike hK⟩⟩ rfl rfl hl.1 rfl (lv_room (Nat.le_of_ble_eq_true rfl)) dX10_docQuote_89 ⟨Nat.le_of_ble_eq_true rfl, Nat.le_of_ble_eq_true rfl⟩) (fun r_9 hr_9 => ?_)
          have rg_r_9 := i_rng r_9
          refine lv_bipush (v := 34) hx hb dX10_docQuote_92 (by decide) ?_
          refine lv_icmp_eq (tgt := 107) hx hb dX10_docQuote_94 (by decide) (fun k_10 => ?_) (fun k_10 => ?_)
          · have tk_10 := c_eq (a := r_9.toInt) (b := 34) rfl (by decide) k_10
            refine lv_aload_n hx hb dX10_docQuote_107 rfl (lv_at hl 2 rfl) ?_
            refine va_get (D := (dC, dI)) (ci := 10) (v := .ref (ad 1)) (C := RX10) (T := TX10) (N := 48) hx hb hts fin_X10_docQuotem_X10 hown hK hP 0 rfl rfl 0 (by decide) (hts (.fieldLink RX10 8 "PatternGateModel" "all" "[I") (List.mem_of_getElem? (i := 1) (by decide +kernel))) (fun _ h9 => h9) rfl dX10_docQuote_108 ?_
            refine lv_iconst (v := 1) hx hb dX10_docQuote_111 (by decide) ?_
            refine lv_iload_n hx hb dX10_docQuote_112 rfl (lv_at hl 1 rfl) ?_
            refine lv_iadd hx hb dX10_docQuote_113 ?_
            refine lv_topi (fun y_11 ey_11 => ?_)
            first | have ty_11 := i_add (a := 1) (b := y_1.toInt) (by decide) rfl ey_11 (by omega) (by omega) | skip
            refine lv_iload_n hx hb dX10_docQuote_114 rfl (lv_at hl 0 rfl) ?_
            refine va_iast hx hb hK hP hD hS 1 0 rfl rfl (i := y_11) (vp_of (a := y_11.toInt) rfl (by omega) (by omega)) dX10_docQuote_115 (fun H locs hP hD hS => ?_)
            generalize hf_f_12 : upd ga _ _ = f_12 at hP hD
            have uf_12 := vI_up (a := (1 + y_1.toInt)) (b := nn.toInt) hf_f_12 (by first | omega | decide) (by omega) rfl
            have hP : va_P (dC, dI) vwCl (mW ad kc x0 x1 x2 x3 x4 x5 x6 ea x8 x9 x10 x11 x12 x13 x14 x15 x16 x17 x18 x19 x20 x21 f_12 f1 f2 f3 f4 f5 f6 f7 f8 f9 f10 f11 f12 f13 f14 f15 f16 f17 f18 f19 f20 f21 fL fN fP fM fO) H := hP
            have hD : va_D A (mW ad kc x0 x1 x2 x3 x4 x5 x6 ea x8 x9 x10 x11 x12 x13 x14 x15 x16 x17 x18 x19 x20 x21 f_12 f1 f2 f3 f4 f5 f6 f7 f8 f9 f10 f11 f12 f13 f14 f15 f16 f17 f18 f19 f20 f21 fL fN fP fM fO) := hD
            refine lv_aload_n hx hb dX10_docQuote_116 rfl (lv_at hl 2 rfl) ?_
            refine va_get (D := (dC, dI)) (ci := 10) (v := .ref (ad 1)) (C := RX10) (T := TX10) (N := 48) hx hb hts fin_X10_docQuotem_X10 hown hK hP 0 rfl rfl 0 (by decide) (hts (.fieldLink RX10 8 "PatternGateModel" "all" "[I") (List.mem_of_getElem? (i := 1) (by decide +kernel))) (fun _ h9 => h9) rfl dX10_docQuote_117 ?_
            refine lv_iconst (v := 0) hx hb dX10_docQuote_120 (by decide) ?_
            refine lv_dup2_11 hx hb dX10_docQuote_121 rfl rfl ?_
            refine va_iald hx hb hK hP 1 0 rfl rfl (i := 0) (by unfold vp_in; decide +kernel) dX10_docQuote_122 ?_
            refine lv_topi (fun y_13 ey_13 => ?_)
            have rg_y_13 := i_rng y_13
            have vy_13 := vI_lda (f := f_12) (i := 0) (a := 0) ey_13 (by first | omega | decide)
            have rg_y_13 := i_rng y_13
            have wy_13 := (uf_12.2 0 (by omega) (by omega)).trans (v9_4 0 (by omega) (by omega))
            refine lv_iconst (v := 1) hx hb dX10_docQuote_123 (by decide) ?_
            refine lv_iadd hx hb dX10_docQuote_124 ?_
            refine lv_topi (fun y_14 ey_14 => ?_)
            first | have ty_14 := i_add (a := y_13.toInt) (b := 1) rfl (by decide) ey_14 (by omega) (by omega) | skip
            refine va_iast hx hb hK hP hD hS 1 0 rfl rfl (i := 0) (by unfold vp_in; decide +kernel) dX10_docQuote_125 (fun H locs hP hD hS => ?_)
            generalize hf_f_15 : upd f_12 _ _ = f_15 at hP hD
            have uf_15 := vI_up (a := 0) (b := y_14.toInt) hf_f_15 (by first | omega | decide) (by omega) rfl
            have hP : va_P (dC, dI) vwCl (mW ad kc x0 x1 x2 x3 x4 x5 x6 ea x8 x9 x10 x11 x12 x13 x14 x15 x16 x17 x18 x19 x20 x21 f_15 f1 f2 f3 f4 f5 f6 f7 f8 f9 f10 f11 f12 f13 f14 f15 f16 f17 f18 f19 f20 f21 fL fN fP fM fO) H := hP
            have hD : va_D A (mW ad kc x0 x1 x2 x3 x4 x5 x6 ea x8 x9 x10 x11 x12 x13 x14 x15 x16 x17 x18 x19 x20 x21 f_15 f1 f2 f3 f4 f5 f6 f7 f8 f9 f10 f11 f12 f13 f14 f15 f16 f17 f18 f19 f20 f21 fL fN fP fM fO) := hD
            refine lv_aload_n hx hb dX10_docQuote_126 rfl (lv_at hl 2 rfl) ?_
            refine lv_dup hx hb dX10_docQuote_127 rfl ?_
            refine va_get (D := (dC, dI)) (ci := 10) (v := .int ea) (C := RX10) (T := TX10) (N := 48) hx hb hts fin_X10_docQuotem_X10 hown hK hP 0 rfl rfl 10 (by decide) (hts (.fieldLink RX10 130 "PatternGateModel" "end" "I") (List.mem_of_getElem? (i := 2) (by decide +kernel))) (fun _ h9 => h9) rfl dX10_docQuote_128 ?_
            refine lv_iconst (v := 1) hx hb dX10_docQuote_131 (by decide) ?_
            refine lv_iadd hx hb dX10_docQuote_132 ?_
            refine lv_topi (fun y_16 ey_16 => ?_)
            first | have ty_16 := i_add (a := ea.toInt) (b := 1) rfl (by decide) ey_16 (by omega) (by omega) | skip
            refine va_put (D := (dC, dI)) (ci := 10) (v := .int y_16) (ty := .int) (C := RX10) (T := TX10) (N := 48) hx hb hts fin_X10_docQuotem_X10 tyX10 tyX10_ok nmX10 hown hK hP hD hS 0 rfl rfl 10 (by decide) (hts (.fieldLink RX10 130 "PatternGateModel" "end" "I") (List.mem_of_getElem? (i := 2) (by decide +kernel))) (fun _ h9 => h9) rfl (by decide +kernel) rfl rfl (Nat.le_of_ble_eq_true rfl) dX10_docQuote_133 (fun H locs hP hD hS => ?_)
            have hP : va_P (dC, dI) vwCl (mW ad kc x0 x1 x2 x3 x4 x5 x6 y_16 x8 x9 x10 x11 x12 x13 x14 x15 x16 x17 x18 x19 x20 x21 f_15 f1 f2 f3 f4 f5 f6 f7 f8 f9 f10 f11 f12 f13 f14 f15 f16 f17 f18 f19 f20 f21 fL fN fP fM fO) H := hP
            have hD : va_D A (mW ad kc x0 x1 x2 x3 x4 x5 x6 y_16 x8 x9 x10 x11 x12 x13 x14 x15 x16 x17 x18 x19 x20 x21 f_15 f1 f2 f3 f4 f5 f6 f7 f8 f9 f10 f11 f12 f13 f14 f15 f16 f17 f18 f19 f20 f21 fL fN fP fM fO) := hD
            refine lv_iconst (v := 1) hx hb dX10_docQuote_136 (by decide) ?_
            have lit_16 : (1 : Int32).toInt = 1 := by decide
            exact W.zret hx hb hr (z_nar (by first | assumption | decide | exact z_of (by omega))) (fun t ht hW => ⟨⟨_, _, rfl, rfl, y_16, x8, x9, f_15, (OKd.doc (n := nn.toInt) (d := y_1.toInt) q3 vy_1.symm (by omega) (by omega) (by omega) (fun k a b => by rw [uf_15.2 _ (by omega) (by omega), uf_12.2 _ (by omega) (by omega)]; exact v9_5 k a b) (by have h3 := uf_15.1; have h1 := uf_12.2 0 (by omega) (by omega); have h2 := v9_4 0 (by omega) (by omega); omega) (by rw [uf_15.2 _ (by omega) (by omega)]; exact uf_12.1) (fun z a b c d => by rw [uf_15.2 z a (by omega), uf_12.2 z a (by omega)]; exact v9_4 z a d)), (fun z hz => by rw [uf_15.2 z (by omega) (by omega), uf_12.2 z (by omega) (by omega)]; exact v9_4 z (by omega) (by omega)), (by first | omega | assumption | rfl | decide), (by first | omega | assumption | rfl | decide), (by first | omega | assumption | rfl | decide), by rw [ht]; exact hP, va_K.moved hW.alike hK, hD⟩, hS.F ht⟩) hS.2.2 dX10_docQuote_137
          · have tk_10 := c_ne (a := r_9.toInt) (b := 34) rfl (by decide) k_10
            refine lv_aload_n hx hb dX10_docQuote_97 rfl (lv_at hl 2 rfl) ?_
            refine lv_iconst (v := 1) hx hb dX10_docQuote_98 (by decide) ?_
            refine lv_aload_n hx hb dX10_docQuote_99 rfl (lv_at hl 2 rfl) ?_
            refine va_get (D := (dC, dI)) (ci := 10) (v := .int ea) (C := RX10) (T := TX10) (N := 48) hx hb hts fin_X10_docQuotem_X10 hown hK hP 0 rfl rfl 10 (by decide) (hts (.fieldLink RX10 130 "PatternGateModel" "end" "I") (List.mem_of_getElem? (i := 2) (by decide +kernel))) (fun _ h9 => h9) rfl dX10_docQuote_100 ?_
            have hFc := m_free hD hS hA
            refine va_calli (va_runV (As := [.int 1, .int ea]) (rest := []) ⟨hx, hb, hml, hown, hts⟩ (m_failsAt l dC dI ad kc x0 x1 x2 x3 x4 x5 x6 ea x8 x9 x10 x11 x12 x13 x14 x15 x16 x17 x18 x19 x20 x21 ga f1 f2 f3 f4 f5 f6 f7 f8 f9 f10 f11 f12 f13 f14 f15 f16 f17 f18 f19 f20 f21 fL fN fP fM fO H.size 1 ea ) (cwV 2 hts mg_X10_docQuotem_X10_failsAt_126 rfl rfl rfl (by decide +kernel) ⟨Nat.le_of_ble_eq_true rfl, Nat.le_of_ble_eq_true rfl⟩) ⟨fun a U g mk q => by obtain ⟨q0, q1, qP, qK, qD⟩ := q; exact ⟨q0, q1, qP, va_K.moved (u := U) (U := U.calling g mk a) (Vm.Alike.refl U.vm) qK, qD⟩, va_recv hK hP (ci := 10) (q0 := 0) rfl rfl, fun U hU hW => ⟨rfl, by rw [hU], by rw [hU]; exact hP, va_K.moved hW.alike hK, hD.weaken (fun _ _ _ _ => trivial)⟩⟩ rfl rfl hl.1 rfl (lv_room (Nat.le_of_ble_eq_true rfl)) dX10_docQuote_103 ⟨Nat.le_of_ble_eq_true rfl, Nat.le_of_ble_eq_true rfl⟩) hS (fun q _ h => hFc q h) hFc (fun r_18 u t H1 locs ht hvm hw hB hz1 hk1 hS => ?_)
            subst hw
            obtain ⟨x_19, x_20, hr_18_0, hP, hK1, hD1⟩ := hB
            rw [ht] at hP
            have hD := hD1.weaken (fun k q _ h => hFc q.1 h)
            generalize H1 = H at hP hS ⊢
            have rg_x_19 := i_rng x_19
            have rg_x_20 := i_rng x_20
            have rg_r_18 := i_rng r_18
            have hP : va_P (dC, dI) vwCl (mW ad kc x0 x1 x2 x3 x4 x5 x6 ea x_19 x_20 x10 x11 x12 x13 x14 x15 x16 x17 x18 x19 x20 x21 ga f1 f2 f3 f4 f5 f6 f7 f8 f9 f10 f11 f12 f13 f14 f15 f16 f17 f18 f19 f20 f21 fL fN fP fM fO) H := hP
            have hD : va_D A (mW ad kc x0 x1 x2 x3 x4 x5 x6 ea x_19 x_20 x10 x11 x12 x13 x14 x15 x16 x17 x18 x19 x20 x21 ga f1 f2 f3 f4 f5 f6 f7 f8 f9 f10 f11 f12 f13 f14 f15 f16 f17 f18 f19 f20 f21 fL fN fP fM fO) := hD
            exact W.zret hx hb hr (z_nar (by first | assumption | decide | exact z_of (by omega))) (fun t ht hW => ⟨⟨_, _, rfl, rfl, ea, x_19, x_20, ga, (q3.congr (b' := 0) (fun z hz => by unfold OKl at hz; exact v9_4 _ (by omega) (by omega))), (fun z hz => v9_4 z (by omega) (by omega)), (by first | omega | assumption | rfl | decide), (by first | omega | assumption | rfl | decide), (by first | omega | assumption | rfl | decide), by rw [ht]; exact hP, va_K.moved hW.alike hK, hD⟩, hS.F ht⟩) hS.2.2 dX10_docQuote_106
      · have tk_4 := c_ne (a := r_3.toInt) (b := 0) rfl (by decide) k_4
        refine lv_iload_n hx hb dX10_docQuote_23 rfl (lv_at hl 0 rfl) ?_
        refine lv_bipush (v := 60) hx hb dX10_docQuote_24 (by decide) ?_
        refine lv_icmp_ne (tgt := 39) hx hb dX10_docQuote_26 (by decide) (fun k_21 => ?_) (fun k_21 => ?_)
        · have tk_21 := c_ne (a := nn.toInt) (b := 60) rfl (by decide) k_21
          refine lv_aload_n hx hb dX10_docQuote_39 rfl (lv_at hl 2 rfl) ?_
          refine va_get (D := (dC, dI)) (ci := 10) (v := .ref (ad 1)) (C := RX10) (T := TX10) (N := 48) hx hb hts fin_X10_docQuotem_X10 hown hK hP 0 rfl rfl 0 (by decide) (hts (.fieldLink RX10 8 "PatternGateModel" "all" "[I") (List.mem_of_getElem? (i := 1) (by decide +kernel))) (fun _ h9 => h9) rfl dX10_docQuote_40 ?_
          refine lv_bipush (v := 11) hx hb dX10_docQuote_43 (by decide) ?_
          refine lv_bipush (v := 60) hx hb dX10_docQuote_45 (by decide) ?_
          refine lv_iload_n hx hb dX10_docQuote_47 rfl (lv_at hl 1 rfl) ?_
          refine lv_imul hx hb dX10_docQuote_48 ?_
          refine lv_topi (fun y_22 ey_22 => ?_)
          first | have ty_22 := i_mul (a := 60) (b := y_1.toInt) (by decide) rfl ey_22 (by omega) (by omega) | skip
          refine lv_iadd hx hb dX10_docQuote_49 ?_
          refine lv_topi (fun y_23 ey_23 => ?_)
          first | have ty_23 := i_add (a := 11) (b := y_22.toInt) (by decide) rfl ey_23 (by omega) (by omega) | skip
          refine lv_iload_n hx hb dX10_docQuote_50 rfl (lv_at hl 0 rfl) ?_
          refine lv_iadd hx hb dX10_docQuote_51 ?_
          refine lv_topi (fun y_24 ey_24 => ?_)
          first | have ty_24 := i_add (a := y_23.toInt) (b := nn.toInt) rfl rfl ey_24 (by omega) (by omega) | skip
          refine lv_aload_n hx hb dX10_docQuote_52 rfl (lv_at hl 2 rfl) ?_
          refine lv_aload_n hx hb dX10_docQuote_53 rfl (lv_at hl 2 rfl) ?_
          refine va_get (D := (dC, dI)) (ci := 10) (v := .int ea) (C := RX10) (T := TX10) (N := 48) hx hb hts fin_X10_docQuotem_X10 hown hK hP 0 rfl rfl 10 (by decide) (hts (.fieldLink RX10 130 "PatternGateModel" "end" "I") (List.mem_of_getElem? (i := 2) (by decide +kernel))) (fun _ h9 => h9) rfl dX10_docQuote_54 ?_
          refine vp_callSi (W.runV (As := [.int ea]) (rest := [.int y_24, .ref (ad 1)]) ⟨hx, hb, hml, hown, hts⟩ (m_byteAt l dC dI ad kc x0 x1 x2 x3 x4 x5 x6 ea x8 x9 x10 x11 x12 x13 x14 x15 x16 x17 x18 x19 x20 x21 ga f1 f2 f3 f4 f5 f6 f7 f8 f9 f10 f11 f12 f13 f14 f15 f16 f17 f18 f19 f20 f21 fL fN fP fM fO ea (by first | omega | assumption | decide | (have l0 := Int32.toInt_zero; omega)) (by first | omega | assumption | decide | (have l0 := Int32.toInt_zero; omega))) (cwV 1 hts mg_X10_docQuotem_X10_byteAt_133 rfl rfl rfl (by decide +kernel) ⟨Nat.le_of_ble_eq_true rfl, Nat.le_of_ble_eq_true rfl⟩) ⟨fun a U g mk q => by obtain ⟨q0, qP, qK⟩ := q; exact ⟨q0, qP, va_K.moved (u := U) (U := U.calling g mk a) (Vm.Alike.refl U.vm) qK⟩, va_recv hK hP (ci := 10) (q0 := 0) rfl rfl, fun U hU hW => ⟨rfl, by rw [hU]; exact hP, va_K.moved hW.alike hK⟩⟩ rfl rfl hl.1 rfl (lv_room (Nat.le_of_ble_eq_true rfl)) dX10_docQuote_57 ⟨Nat.le_of_ble_eq_true rfl, Nat.le_of_ble_eq_true rfl⟩) (fun r_25 hr_25 => ?_)
          have rg_r_25 := i_rng r_25
          refine lv_bipush (v := 97) hx hb dX10_docQuote_60 (by decide) ?_
          refine lv_isub hx hb dX10_docQuote_62 ?_
          refine lv_topi (fun y_26 ey_26 => ?_)
          first | have ty_26 := i_sub (a := r_25.toInt) (b := 97) rfl (by decide) ey_26 (by omega) (by omega) | skip
          refine va_iast hx hb hK hP hD hS 1 0 rfl rfl (i := y_24) (vp_of (a := y_24.toInt) rfl (by omega) (by omega)) dX10_docQuote_63 (fun H locs hP hD hS => ?_)
          generalize hf_f_27 : upd ga _ _ = f_27 at hP hD
          have uf_27 := vI_up (a := ((11 + (60 * y_1.toInt)) + nn.toInt)) (b := y_26.toInt) hf_f_27 (by first | omega | decide) (by omega) rfl
          have hP : va_P (dC, dI) vwCl (mW ad kc x0 x1 x2 x3 x4 x5 x6 ea x8 x9 x10 x11 x12 x13 x14 x15 x16 x17 x18 x19 x20 x21 f_27 f1 f2 f3 f4 f5 f6 f7 f8 f9 f10 f11 f12 f13 f14 f15 f16 f17 f18 f19 f20 f21 fL fN fP fM fO) H := hP
          have hD : va_D A (mW ad kc x0 x1 x2 x3 x4 x5 x6 ea x8 x9 x10 x11 x12 x13 x14 x15 x16 x17 x18 x19 x20 x21 f_27 f1 f2 f3 f4 f5 f6 f7 f8 f9 f10 f11 f12 f13 f14 f15 f16 f17 f18 f19 f20 f21 fL fN fP fM fO) := hD
          obtain ⟨y_28, ey_28⟩ : ∃ y : Int32, y = nn + 1 := ⟨_, rfl⟩
          first | have ty_28 := i_add (a := nn.toInt) (b := 1) rfl (by decide) ey_28 (by omega) (by omega) | skip
          refine lv_iinc (v := y_28) (lv' := [(2, .int y_28), (1, .int y_1), (0, .ref (ad 0))]) hx hb dX10_docQuote_64 hl (k := 0) rfl (by rw [ey_28]; rfl) (by decide) rfl (fun ls hl => ?_)
          refine lv_aload_n hx hb dX10_docQuote_67 rfl (lv_at hl 2 rfl) ?_
          refine lv_dup hx hb dX10_docQuote_68 rfl ?_
          refine va_get (D := (dC, dI)) (ci := 10) (v := .int ea) (C := RX10) (T := TX10) (N := 48) hx hb hts fin_X10_docQuotem_X10 hown hK hP 0 rfl rfl 10 (by decide) (hts (.fieldLink RX10 130 "PatternGateModel" "end" "I") (List.mem_of_getElem? (i := 2) (by decide +kernel))) (fun _ h9 => h9) rfl dX10_docQuote_69 ?_
          refine lv_iconst (v := 1) hx hb dX10_docQuote_72 (by decide) ?_
          refine lv_iadd hx hb dX10_docQuote_73 ?_
          refine lv_topi (fun y_29 ey_29 => ?_)
          first | have ty_29 := i_add (a := ea.toInt) (b := 1) rfl (by decide) ey_29 (by omega) (by omega) | skip
          refine va_put (D := (dC, dI)) (ci := 10) (v := .int y_29) (ty := .int) (C := RX10) (T := TX10) (N := 48) hx hb hts fin_X10_docQuotem_X10 tyX10 tyX10_ok nmX10 hown hK hP hD hS 0 rfl rfl 10 (by decide) (hts (.fieldLink RX10 130 "PatternGateModel" "end" "I") (List.mem_of_getElem? (i := 2) (by decide +kernel))) (fun _ h9 => h9) rfl (by decide +kernel) rfl rfl (Nat.le_of_ble_eq_true rfl) dX10_docQuote_74 (fun H locs hP hD hS => ?_)
          have hP : va_P (dC, dI) vwCl (mW ad kc x0 x1 x2 x3 x4 x5 x6 y_29 x8 x9 x10 x11 x12 x13 x14 x15 x16 x17 x18 x19 x20 x21 f_27 f1 f2 f3 f4 f5 f6 f7 f8 f9 f10 f11 f12 f13 f14 f15 f16 f17 f18 f19 f20 f21 fL fN fP fM fO) H := hP
          have hD : va_D A (mW ad kc x0 x1 x2 x3 x4 x5 x6 y_29 x8 x9 x10 x11 x12 x13 x14 x15 x16 x17 x18 x19 x20 x21 f_27 f1 f2 f3 f4 f5 f6 f7 f8 f9 f10 f11 f12 f13 f14 f15 f16 f17 f18 f19 f20 f21 fL fN fP fM fO) := hD
          refine lv_goto (tgt := 9) hx hb dX10_docQuote_77 (by decide) ?_
          exact ih9 y_28 y_29 f_27 (by first | omega | assumption | decide) (by first | omega | assumption | decide) (by first | omega | assumption | decide) (by first | omega | assumption | decide) (fun z hz hd => (uf_27.2 z hz (by omega)).trans (v9_4 z hz hd)) (by rw [show y_28.toInt = nn.toInt + 1 by omega]; exact dl_step v9_5 uf_27 (by omega) (by omega) (by omega)) (by omega) _ _ ls hP hD hS (lv_sub hl [0, 1, 2] rfl)
        · have tk_21 := c_eq (a := nn.toInt) (b := 60) rfl (by decide) k_21
          refine lv_aload_n hx hb dX10_docQuote_29 rfl (lv_at hl 2 rfl) ?_
          refine lv_iconst (v := 4) hx hb dX10_docQuote_30 (by decide) ?_
          refine lv_aload_n hx hb dX10_docQuote_31 rfl (lv_at hl 2 rfl) ?_
          refine va_get (D := (dC, dI)) (ci := 10) (v := .int ea) (C := RX10) (T := TX10) (N := 48) hx hb hts fin_X10_docQuotem_X10 hown hK hP 0 rfl rfl 10 (by decide) (hts (.fieldLink RX10 130 "PatternGateModel" "end" "I") (List.mem_of_getElem? (i := 2) (by decide +kernel))) (fun _ h9 => h9) rfl dX10_docQuote_32 ?_
          have hFc := m_free hD hS hA
          refine va_calli (va_runV (As := [.int 4, .int ea]) (rest := []) ⟨hx, hb, hml, hown, hts⟩ (m_failsAt l dC dI ad kc x0 x1 x2 x3 x4 x5 x6 ea x8 x9 x10 x11 x12 x13 x14 x15 x16 x17 x18 x19 x20 x21 ga f1 f2 f3 f4 f5 f6 f7 f8 f9 f10 f11 f12 f13 f14 f15 f16 f17 f18 f19 f20 f21 fL fN fP fM fO H.size 4 ea ) (cwV 2 hts mg_X10_docQuotem_X10_failsAt_126 rfl rfl rfl (by decide +kernel) ⟨Nat.le_of_ble_eq_true rfl, Nat.le_of_ble_eq_true rfl⟩) ⟨fun a U g mk q => by obtain ⟨q0, q1, qP, qK, qD⟩ := q; exact ⟨q0, q1, qP, va_K.moved (u := U) (U := U.calling g mk a) (Vm.Alike.refl U.vm) qK, qD⟩, va_recv hK hP (ci := 10) (q0 := 0) rfl rfl, fun U hU hW => ⟨rfl, by rw [hU], by rw [hU]; exact hP, va_K.moved hW.alike hK, hD.weaken (fun _ _ _ _ => trivial)⟩⟩ rfl rfl hl.1 rfl (lv_room (Nat.le_of_ble_eq_true rfl)) dX10_docQuote_35 ⟨Nat.le_of_ble_eq_true rfl, Nat.le_of_ble_eq_true rfl⟩) hS (fun q _ h => hFc q h) hFc (fun r_30 u t H1 locs ht hvm hw hB hz1 hk1 hS => ?_)
          subst hw
          obtain ⟨x_31, x_32, hr_30_0, hP, hK1, hD1⟩ := hB
          rw [ht] at hP
          have hD := hD1.weaken (fun k q _ h => hFc q.1 h)
          generalize H1 = H at hP hS ⊢
          have rg_x_31 := i_rng x_31
          have rg_x_32 := i_rng x_32
          have rg_r_30 := i_rng r_30
          have hP : va_P (dC, dI) vwCl (mW ad kc x0 x1 x2 x3 x4 x5 x6 ea x_31 x_32 x10 x11 x12 x13 x14 x15 x16 x17 x18 x19 x20 x21 ga f1 f2 f3 f4 f5 f6 f7 f8 f9 f10 f11 f12 f13 f14 f15 f16 f17 f18 f19 f20 f21 fL fN fP fM fO) H := hP
          have hD : va_D A (mW ad kc x0 x1 x2 x3 x4 x5 x6 ea x_31 x_32 x10 x11 x12 x13 x14 x15 x16 x17 x18 x19 x20 x21 ga f1 f2 f3 f4 f5 f6 f7 f8 f9 f10 f11 f12 f13 f14 f15 f16 f17 f18 f19 f20 f21 fL fN fP fM fO) := hD
          exact W.zret hx hb hr (z_nar (by first | assumption | decide | exact z_of (by omega))) (fun t ht hW => ⟨⟨_, _, rfl, rfl, ea, x_31, x_32, ga, (q3.congr (b' := 0) (fun z hz => by unfold OKl at hz; exact v9_4 _ (by omega) (by omega))), (fun z hz => v9_4 z (by omega) (by omega)), (by first | omega | assumption | rfl | decide), (by first | omega | assumption | rfl | decide), (by first | omega | assumption | rfl | decide), by rw [ht]; exact hP, va_K.moved hW.alike hK, hD⟩, hS.F ht⟩) hS.2.2 dX10_docQuote_38
  have lit_32 : (0 : Int32).toInt = 0 := by decide
  exact loop9 _ 0 x7 f0 (by first | omega | assumption | decide) (by first | omega | assumption | decide) (by first | omega | assumption | decide) (by first | omega | assumption | decide) (fun z _ _ => rfl) (fun k a b => by omega) (Nat.lt_succ_self _) _ _ ls hP hD hS (lv_sub hl [0, 1, 2] rfl)
theorem dX10_isSetAt_0 : decode cX10_isSetAt 0 = .ok (.iconst 0, 1) := by decide +kernel
theorem dX10_isSetAt_1 : decode cX10_isSetAt 1 = .ok (.istore_n 1, 1) := by decide +kernel
theorem dX10_isSetAt_2 : decode cX10_isSetAt 2 = .ok (.aload_n 0, 1) := by decide +kernel
theorem dX10_isSetAt_3 : decode cX10_isSetAt 3 = .ok (.aload_n 0, 1) := by decide +kernel
theorem dX10_isSetAt_4 : decode cX10_isSetAt 4 = .ok (.getfield 130, 3) := by decide +kernel
theorem dX10_isSetAt_7 : decode cX10_isSetAt 7 = .ok (.invokevirtual 133, 3) := by decide +kernel
theorem dX10_isSetAt_10 : decode cX10_isSetAt 10 = .ok (.invokestatic 137, 3) := by decide +kernel
theorem dX10_isSetAt_13 : decode cX10_isSetAt 13 = .ok (.ifCond .eq 52, 3) := by decide +kernel
theorem dX10_isSetAt_16 : decode cX10_isSetAt 16 = .ok (.aload_n 0, 1) := by decide +kernel
theorem dX10_isSetAt_17 : decode cX10_isSetAt 17 = .ok (.aload_n 0, 1) := by decide +kernel
theorem dX10_isSetAt_18 : decode cX10_isSetAt 18 = .ok (.getfield 130, 3) := by decide +kernel
theorem dX10_isSetAt_21 : decode cX10_isSetAt 21 = .ok (.invokevirtual 133, 3) := by decide +kernel
theorem dX10_isSetAt_24 : decode cX10_isSetAt 24 = .ok (.bipush 97, 2) := by decide +kernel
theorem dX10_isSetAt_26 : decode cX10_isSetAt 26 = .ok (.isub, 1) := by decide +kernel
theorem dX10_isSetAt_27 : decode cX10_isSetAt 27 = .ok (.istore_n 2, 1) := by decide +kernel
theorem dX10_isSetAt_28 : decode cX10_isSetAt 28 = .ok (.iload_n 1, 1) := by decide +kernel
theorem dX10_isSetAt_29 : decode cX10_isSetAt 29 = .ok (.iload_n 2, 1) := by decide +kernel
theorem dX10_isSetAt_30 : decode cX10_isSetAt 30 = .ok (.invokestatic 170, 3) := by decide +kernel
theorem dX10_isSetAt_33 : decode cX10_isSetAt 33 = .ok (.ifCond .eq 13, 3) := by decide +kernel
theorem dX10_isSetAt_36 : decode cX10_isSetAt 36 = .ok (.aload_n 0, 1) := by decide +kernel
theorem dX10_isSetAt_37 : decode cX10_isSetAt 37 = .ok (.iconst 4, 1) := by decide +kernel
theorem dX10_isSetAt_38 : decode cX10_isSetAt 38 = .ok (.aload_n 0, 1) := by decide +kernel
theorem dX10_isSetAt_39 : decode cX10_isSetAt 39 = .ok (.getfield 130, 3) := by decide +kernel
theorem dX10_isSetAt_42 : decode cX10_isSetAt 42 = .ok (.invokevirtual 126, 3) := by decide +kernel
theorem dX10_isSetAt_45 : decode cX10_isSetAt 45 = .ok (.ireturn, 1) := by decide +kernel
theorem dX10_isSetAt_46 : decode cX10_isSetAt 46 = .ok (.iload_n 1, 1) := by decide +kernel
theorem dX10_isSetAt_47 : decode cX10_isSetAt 47 = .ok (.iconst 1, 1) := by decide +kernel
theorem dX10_isSetAt_48 : decode cX10_isSetAt 48 = .ok (.iload_n 2, 1) := by decide +kernel
theorem dX10_isSetAt_49 : decode cX10_isSetAt 49 = .ok (.ishl, 1) := by decide +kernel
theorem dX10_isSetAt_50 : decode cX10_isSetAt 50 = .ok (.ior, 1) := by decide +kernel
theorem dX10_isSetAt_51 : decode cX10_isSetAt 51 = .ok (.istore_n 1, 1) := by decide +kernel
theorem dX10_isSetAt_52 : decode cX10_isSetAt 52 = .ok (.aload_n 0, 1) := by decide +kernel
theorem dX10_isSetAt_53 : decode cX10_isSetAt 53 = .ok (.dup, 1) := by decide +kernel
theorem dX10_isSetAt_54 : decode cX10_isSetAt 54 = .ok (.getfield 130, 3) := by decide +kernel
theorem dX10_isSetAt_57 : decode cX10_isSetAt 57 = .ok (.iconst 1, 1) := by decide +kernel
theorem dX10_isSetAt_58 : decode cX10_isSetAt 58 = .ok (.iadd, 1) := by decide +kernel
theorem dX10_isSetAt_59 : decode cX10_isSetAt 59 = .ok (.putfield 130, 3) := by decide +kernel
theorem dX10_isSetAt_62 : decode cX10_isSetAt 62 = .ok (.goto (-60), 3) := by decide +kernel
theorem dX10_isSetAt_65 : decode cX10_isSetAt 65 = .ok (.iload_n 1, 1) := by decide +kernel
theorem dX10_isSetAt_66 : decode cX10_isSetAt 66 = .ok (.ifCond .eq 16, 3) := by decide +kernel
theorem dX10_isSetAt_69 : decode cX10_isSetAt 69 = .ok (.aload_n 0, 1) := by decide +kernel
theorem dX10_isSetAt_70 : decode cX10_isSetAt 70 = .ok (.aload_n 0, 1) := by decide +kernel
theorem dX10_isSetAt_71 : decode cX10_isSetAt 71 = .ok (.getfield 130, 3) := by decide +kernel
theorem dX10_isSetAt_74 : decode cX10_isSetAt 74 = .ok (.invokevirtual 133, 3) := by decide +kernel
theorem dX10_isSetAt_77 : decode cX10_isSetAt 77 = .ok (.bipush 93, 2) := by decide +kernel
theorem dX10_isSetAt_79 : decode cX10_isSetAt 79 = .ok (.if_icmp .eq 13, 3) := by decide +kernel
theorem dX10_isSetAt_82 : decode cX10_isSetAt 82 = .ok (.aload_n 0, 1) := by decide +kernel
theorem dX10_isSetAt_83 : decode cX10_isSetAt 83 = .ok (.iconst 1, 1) := by decide +kernel
theorem dX10_isSetAt_84 : decode cX10_isSetAt 84 = .ok (.aload_n 0, 1) := by decide +kernel
theorem dX10_isSetAt_85 : decode cX10_isSetAt 85 = .ok (.getfield 130, 3) := by decide +kernel
theorem dX10_isSetAt_88 : decode cX10_isSetAt 88 = .ok (.invokevirtual 126, 3) := by decide +kernel
theorem dX10_isSetAt_91 : decode cX10_isSetAt 91 = .ok (.ireturn, 1) := by decide +kernel
theorem dX10_isSetAt_92 : decode cX10_isSetAt 92 = .ok (.aload_n 0, 1) := by decide +kernel
theorem dX10_isSetAt_93 : decode cX10_isSetAt 93 = .ok (.dup, 1) := by decide +kernel
theorem dX10_isSetAt_94 : decode cX10_isSetAt 94 = .ok (.getfield 130, 3) := by decide +kernel
theorem dX10_isSetAt_97 : decode cX10_isSetAt 97 = .ok (.iconst 1, 1) := by decide +kernel
theorem dX10_isSetAt_98 : decode cX10_isSetAt 98 = .ok (.iadd, 1) := by decide +kernel
theorem dX10_isSetAt_99 : decode cX10_isSetAt 99 = .ok (.putfield 130, 3) := by decide +kernel
theorem dX10_isSetAt_102 : decode cX10_isSetAt 102 = .ok (.iconst 1, 1) := by decide +kernel
theorem dX10_isSetAt_103 : decode cX10_isSetAt 103 = .ok (.ireturn, 1) := by decide +kernel
def mwX10_isSetAtm : List Cond := .code yX10_isSetAt cX10_isSetAt 3 (some .boolean) :: ([.fieldLink RX10 130 "PatternGateModel" "end" "I", .code yX10_byteAt cX10_byteAt 2 (some .int), .fieldLink RX10 114 "PatternGateModel" "size" "I", .fieldLink RX10 18 "PatternGateModel" "text" "[B", .methodLink RX10 133 yX10_byteAt, .instanceMethod yX10_byteAt, .selects RX10 yX10_byteAt yX10_byteAt, .initialized RX10, .code yX10_isSmall cX10_isSmall 1 (some .boolean), .methodLink RX10 137 yX10_isSmall, .static yX10_isSmall, .code yX10_failsAt cX10_failsAt 3 (some .boolean), .fieldLink RX10 117 "PatternGateModel" "faults" "I", .fieldLink RX10 21 "PatternGateModel" "faultPlace" "I", .methodLink RX10 126 yX10_failsAt, .instanceMethod yX10_failsAt, .selects RX10 yX10_failsAt yX10_failsAt, .code yX10_has cX10_has 2 (some .boolean), .methodLink RX10 170 yX10_has, .static yX10_has] ++ wsX100)
theorem fin_X10_isSetAtm_X10 : ∀ w ∈ wsX100, w ∈ mwX10_isSetAtm := fun w h => List.mem_cons_of_mem _ (List.mem_append_right _ h)
set_option maxRecDepth 20000 in
theorem mg_X10_isSetAtm_X10_byteAt_133 : GoodIn mwX10_isSetAtm (wsV RX10 133 RX10 yX10_byteAt mwX10_byteAtm) := goodIn_r _ [5, 6, 7, 8, 2, 3, 4, 21, 22, 23, 24, 25, 26, 27, 28, 29, 30, 31, 32, 33, 34, 35, 36, 37, 38, 39, 40, 41, 42, 43, 44, 45, 46, 47, 48, 49, 50, 51, 52, 53, 54, 55, 56, 57, 58, 59, 60, 61, 62, 63, 64, 65, 66, 67, 68] (by decide +kernel) (by decide +kernel)
set_option maxRecDepth 20000 in
theorem mg_X10_isSetAtm_X10_isSmall_137 : GoodIn mwX10_isSetAtm (va_wsS RX10 137 yX10_isSmall mwX10_isSmallm) := goodIn_r _ [10, 11, 8, 9] (by decide +kernel) (by decide +kernel)
set_option maxRecDepth 20000 in
theorem mg_X10_isSetAtm_X10_failsAt_126 : GoodIn mwX10_isSetAtm (wsV RX10 126 RX10 yX10_failsAt mwX10_failsAtm) := goodIn_r _ [15, 16, 17, 8, 12, 13, 14, 21, 22, 23, 24, 25, 26, 27, 28, 29, 30, 31, 32, 33, 34, 35, 36, 37, 38, 39, 40, 41, 42, 43, 44, 45, 46, 47, 48, 49, 50, 51, 52, 53, 54, 55, 56, 57, 58, 59, 60, 61, 62, 63, 64, 65, 66, 67, 68] (by decide +kernel) (by decide +kernel)
set_option maxRecDepth 20000 in
theorem mg_X10_isSetAtm_X10_has_170 : GoodIn mwX10_isSetAtm (va_wsS RX10 170 yX10_has mwX10_hasm) := goodIn_r _ [19, 20, 8, 18] (by decide +kernel) (by decide +kernel)
set_option maxHeartbeats 4000000 in
set_option maxRecDepth 100000 in
theorem m_isSetAt (l : Launch) (dC : Nat → ClassId) (dI : Nat → Nat → Nat) (ad : Nat → Nat) (kc : Nat → ClassId) (x0 x1 x2 x3 x4 x5 x6 x7 x8 x9 x10 x11 x12 x13 x14 x15 x16 x17 x18 x19 x20 x21 : Int32) (f0 f1 f2 f3 f4 f5 f6 f7 f8 f9 f10 f11 f12 f13 f14 f15 f16 f17 f18 f19 f20 f21 : Nat → Int32) (fL : Nat → Nat → Int64) (fN : Nat → Nat → Int32) (fP : Nat → Nat → Nat) (fM : Nat → Nat → Int32) (fO : Nat → Nat → Int32) (sz : Nat) (q0 : 0 ≤ x7.toInt) (q1 : x7.toInt ≤ x4.toInt) (q2 : x4.toInt ≤ 900) : Met l yX10_isSetAt mwX10_isSetAtm ({ frames := 1, cells := 0, slots := 0, locals := 60 }) (va_Pc [.ref (ad 0)] (fun U => U.heap.size = sz ∧ va_P (dC, dI) vwCl (mW ad kc x0 x1 x2 x3 x4 x5 x6 x7 x8 x9 x10 x11 x12 x13 x14 x15 x16 x17 x18 x19 x20 x21 f0 f1 f2 f3 f4 f5 f6 f7 f8 f9 f10 f11 f12 f13 f14 f15 f16 f17 f18 f19 f20 f21 fL fN fP fM fO) U.heap ∧ va_K (dC, dI) vwCl (mT kc) U ∧ va_D (fun _ => True) (mW ad kc x0 x1 x2 x3 x4 x5 x6 x7 x8 x9 x10 x11 x12 x13 x14 x15 x16 x17 x18 x19 x20 x21 f0 f1 f2 f3 f4 f5 f6 f7 f8 f9 f10 f11 f12 f13 f14 f15 f16 f17 f18 f19 f20 f21 fL fN fP fM fO))) (va_Qi (fun (o9 u9 : Int32) => o9 = u9) (fun (o9 : Int32) t => ∃ (y7 y8 y9 : Int32), (x7.toInt ≤ y7.toInt) ∧ (y7.toInt ≤ x4.toInt) ∧ (o9.toInt = 1 ∧ (pSet (tx f2 x4.toInt) x7.toInt (y7.toInt - 1) ∧ x7.toInt < y7.toInt) ∨ o9.toInt = 0) ∧ va_P (dC, dI) vwCl (mW ad kc x0 x1 x2 x3 x4 x5 x6 y7 y8 y9 x10 x11 x12 x13 x14 x15 x16 x17 x18 x19 x20 x21 f0 f1 f2 f3 f4 f5 f6 f7 f8 f9 f10 f11 f12 f13 f14 f15 f16 f17 f18 f19 f20 f21 fL fN fP fM fO) t.heap ∧ va_K (dC, dI) vwCl (mT kc) t ∧ va_D (va_A (mW ad kc x0 x1 x2 x3 x4 x5 x6 x7 x8 x9 x10 x11 x12 x13 x14 x15 x16 x17 x18 x19 x20 x21 f0 f1 f2 f3 f4 f5 f6 f7 f8 f9 f10 f11 f12 f13 f14 f15 f16 f17 f18 f19 f20 f21 fL fN fP fM fO) sz) (mW ad kc x0 x1 x2 x3 x4 x5 x6 y7 y8 y9 x10 x11 x12 x13 x14 x15 x16 x17 x18 x19 x20 x21 f0 f1 f2 f3 f4 f5 f6 f7 f8 f9 f10 f11 f12 f13 f14 f15 f16 f17 f18 f19 f20 f21 fL fN fP fM fO)) (va_A (mW ad kc x0 x1 x2 x3 x4 x5 x6 x7 x8 x9 x10 x11 x12 x13 x14 x15 x16 x17 x18 x19 x20 x21 f0 f1 f2 f3 f4 f5 f6 f7 f8 f9 f10 f11 f12 f13 f14 f15 f16 f17 f18 f19 f20 f21 fL fN fP fM fO) sz)) 0 0 (va_A (mW ad kc x0 x1 x2 x3 x4 x5 x6 x7 x8 x9 x10 x11 x12 x13 x14 x15 x16 x17 x18 x19 x20 x21 f0 f1 f2 f3 f4 f5 f6 f7 f8 f9 f10 f11 f12 f13 f14 f15 f16 f17 f18 f19 f20 f21 fL fN fP fM fO) sz) := by
  refine Met.ofW (cc := cX10_isSetAt) (maxL := 3) (ret := (some .boolean)) (by decide +kernel) rfl ?_
  intro p e s m args below meth c s₁ B hml hv
  obtain ⟨rfl, hsz, hP, hK, hD0⟩ := hv
  have hx := B.exec
  have hb := B.bytes
  have hr := B.returns
  have hts := atoms_spec (ws := mwX10_isSetAtm) B.pre
  have hown : s.vm.findClass RX10 = some m.cls := findClass_of_methodNamed B.named
  have hlocks := B.notSynchronized
  subst hsz
  have hD := hD0.self (sz := s.heap.size)
  generalize hAe : va_A (mW ad kc x0 x1 x2 x3 x4 x5 x6 x7 x8 x9 x10 x11 x12 x13 x14 x15 x16 x17 x18 x19 x20 x21 f0 f1 f2 f3 f4 f5 f6 f7 f8 f9 f10 f11 f12 f13 f14 f15 f16 f17 f18 f19 f20 f21 fL fN fP fM fO) s.heap.size = A at hD ⊢
  have hA : ∀ q : Nat, s.heap.size ≤ q → A q := fun q h => by rw [← hAe]; exact Or.inr h
  have hP : va_P (dC, dI) vwCl (mW ad kc x0 x1 x2 x3 x4 x5 x6 x7 x8 x9 x10 x11 x12 x13 x14 x15 x16 x17 x18 x19 x20 x21 f0 f1 f2 f3 f4 f5 f6 f7 f8 f9 f10 f11 f12 f13 f14 f15 f16 f17 f18 f19 f20 f21 fL fN fP fM fO) s.heap := hP
  have hD : va_D A (mW ad kc x0 x1 x2 x3 x4 x5 x6 x7 x8 x9 x10 x11 x12 x13 x14 x15 x16 x17 x18 x19 x20 x21 f0 f1 f2 f3 f4 f5 f6 f7 f8 f9 f10 f11 f12 f13 f14 f15 f16 f17 f18 f19 f20 f21 fL fN fP fM fO) := hD
  have hK : va_K (dC, dI) vwCl (mT kc) s := hK
  generalize hH : s.heap = H at hP ⊢
  have hS : va_S A s.heap H [] := by rw [← hH]; exact va_S.rf
  have hl := lv_entry ([.ref (ad 0)]) (n := 3) (Nat.le_of_ble_eq_true rfl)
  rw [lg_entry_eq]
  generalize (lg_sl ([.ref (ad 0)]) ++ List.replicate (3 - (lg_sl ([.ref (ad 0)])).length) Slot.unset).toArray = ls at hl ⊢
  have hl : lv_has ls 3 [(0, .ref (ad 0))] := hl
  refine lv_iconst (v := 0) hx hb dX10_isSetAt_0 (by decide) ?_
  refine lv_istore_n (lv' := [(1, .int 0), (0, .ref (ad 0))]) hx hb dX10_isSetAt_1 rfl hl (by decide) rfl (fun ls hl => ?_)
  have loop2 : ∀ (lm2 : Nat) (st ea : Int32), (x7.toInt ≤ ea.toInt) → (ea.toInt ≤ x4.toInt) → (∀ k : Int, x7.toInt ≤ k → k < ea.toInt → isSm (tx f2 x4.toInt k)) → ((x4.toInt - ea.toInt).toNat) < lm2 → ∀ (H : Heap) (locs : List Loc) (ls : Array Slot), va_P (dC, dI) vwCl (mW ad kc x0 x1 x2 x3 x4 x5 x6 ea x8 x9 x10 x11 x12 x13 x14 x15 x16 x17 x18 x19 x20 x21 f0 f1 f2 f3 f4 f5 f6 f7 f8 f9 f10 f11 f12 f13 f14 f15 f16 f17 f18 f19 f20 f21 fL fN fP fM fO) H → va_D A (mW ad kc x0 x1 x2 x3 x4 x5 x6 ea x8 x9 x10 x11 x12 x13 x14 x15 x16 x17 x18 x19 x20 x21 f0 f1 f2 f3 f4 f5 f6 f7 f8 f9 f10 f11 f12 f13 f14 f15 f16 f17 f18 f19 f20 f21 fL fN fP fM fO) → va_S A s.heap H locs → lv_has ls 3 [(1, .int st), (0, .ref (ad 0))] → W p l e (headSpec mwX10_isSetAtm ({ frames := 1, cells := 0, slots := 0, locals := 60 })).room s m ([.ref (ad 0)]).toArray below meth c H locs 0 0 (MQ below (va_Qi (fun (o9 u9 : Int32) => o9 = u9) (fun (o9 : Int32) t => ∃ (y7 y8 y9 : Int32), (x7.toInt ≤ y7.toInt) ∧ (y7.toInt ≤ x4.toInt) ∧ (o9.toInt = 1 ∧ (pSet (tx f2 x4.toInt) x7.toInt (y7.toInt - 1) ∧ x7.toInt < y7.toInt) ∨ o9.toInt = 0) ∧ va_P (dC, dI) vwCl (mW ad kc x0 x1 x2 x3 x4 x5 x6 y7 y8 y9 x10 x11 x12 x13 x14 x15 x16 x17 x18 x19 x20 x21 f0 f1 f2 f3 f4 f5 f6 f7 f8 f9 f10 f11 f12 f13 f14 f15 f16 f17 f18 f19 f20 f21 fL fN fP fM fO) t.heap ∧ va_K (dC, dI) vwCl (mT kc) t ∧ va_D A (mW ad kc x0 x1 x2 x3 x4 x5 x6 y7 y8 y9 x10 x11 x12 x13 x14 x15 x16 x17 x18 x19 x20 x21 f0 f1 f2 f3 f4 f5 f6 f7 f8 f9 f10 f11 f12 f13 f14 f15 f16 f17 f18 f19 f20 f21 fL fN fP fM fO)) A) ([.ref (ad 0)]).toArray s 0 0 A) (F0 m 2 ls []) := by
    intro lm2
    induction lm2 with
    | zero => intro st ea v2_0 v2_1 v2_2 hm2; exact absurd hm2 (Nat.not_lt_zero _)
    | succ lm2 ih2 =>
      intro st ea v2_0 v2_1 v2_2 hm2 H locs ls hP hD hS hl
      have rg_st := i_rng st
      have rg_ea := i_rng ea
      refine lv_aload_n hx hb dX10_isSetAt_2 rfl (lv_at hl 1 rfl) ?_
      refine lv_aload_n hx hb dX10_isSetAt_3 rfl (lv_at hl 1 rfl) ?_
      refine va_get (D := (dC, dI)) (ci := 10) (v := .int ea) (C := RX10) (T := TX10) (N := 48) hx hb hts fin_X10_isSetAtm_X10 hown hK hP 0 rfl rfl 10 (by decide) (hts (.fieldLink RX10 130 "PatternGateModel" "end" "I") (List.mem_of_getElem? (i := 1) (by decide +kernel))) (fun _ h9 => h9) rfl dX10_isSetAt_4 ?_
      refine vp_callSi (W.runV (As := [.int ea]) (rest := []) ⟨hx, hb, hml, hown, hts⟩ (m_byteAt l dC dI ad kc x0 x1 x2 x3 x4 x5 x6 ea x8 x9 x10 x11 x12 x13 x14 x15 x16 x17 x18 x19 x20 x21 f0 f1 f2 f3 f4 f5 f6 f7 f8 f9 f10 f11 f12 f13 f14 f15 f16 f17 f18 f19 f20 f21 fL fN fP fM fO ea (by first | omega | assumption | decide | (have l0 := Int32.toInt_zero; omega)) (by first | omega | assumption | decide | (have l0 := Int32.toInt_zero; omega))) (cwV 1 hts mg_X10_isSetAtm_X10_byteAt_133 rfl rfl rfl (by decide +kernel) ⟨Nat.le_of_ble_eq_true rfl, Nat.le_of_ble_eq_true rfl⟩) ⟨fun a U g mk q => by obtain ⟨q0, qP, qK⟩ := q; exact ⟨q0, qP, va_K.moved (u := U) (U := U.calling g mk a) (Vm.Alike.refl U.vm) qK⟩, va_recv hK hP (ci := 10) (q0 := 0) rfl rfl, fun U hU hW => ⟨rfl, by rw [hU]; exact hP, va_K.moved hW.alike hK⟩⟩ rfl rfl hl.1 rfl (lv_room (Nat.le_of_ble_eq_true rfl)) dX10_isSetAt_7 ⟨Nat.le_of_ble_eq_true rfl, Nat.le_of_ble_eq_true rfl⟩) (fun r_1 hr_1 => ?_)
      have rg_r_1 := i_rng r_1
      refine vp_callSi (W.runS (As := [.int r_1]) (rest := []) ⟨hx, hb, hml, hown, hts⟩ (m_isSmall l dC dI  r_1 ) (va_cwS 1 hts mg_X10_isSetAtm_X10_isSmall_137 rfl rfl rfl (by decide +kernel) ⟨Nat.le_of_ble_eq_true rfl, Nat.le_of_ble_eq_true rfl⟩) ⟨fun a U g mk q => ⟨q.1, trivial⟩, fun U hU hW => ⟨rfl, trivial⟩⟩ rfl rfl hl.1 rfl (lv_room (Nat.le_of_ble_eq_true rfl)) dX10_isSetAt_10 ⟨Nat.le_of_ble_eq_true rfl, Nat.le_of_ble_eq_true rfl⟩) (fun r_2 hr_2 => ?_)
      have rg_r_2 := i_rng r_2
      refine lv_if_eq (tgt := 65) hx hb dX10_isSetAt_13 (by decide) (fun k_3 => ?_) (fun k_3 => ?_)
      · have tk_3 := c_eq (a := r_2.toInt) (b := 0) rfl (by decide) k_3
        refine lv_iload_n hx hb dX10_isSetAt_65 rfl (lv_at hl 0 rfl) ?_
        refine lv_if_eq (tgt := 82) hx hb dX10_isSetAt_66 (by decide) (fun k_4 => ?_) (fun k_4 => ?_)
        · have tk_4 := c_eq (a := st.toInt) (b := 0) rfl (by decide) k_4
          refine lv_aload_n hx hb dX10_isSetAt_82 rfl (lv_at hl 1 rfl) ?_
          refine lv_iconst (v := 1) hx hb dX10_isSetAt_83 (by decide) ?_
          refine lv_aload_n hx hb dX10_isSetAt_84 rfl (lv_at hl 1 rfl) ?_
          refine va_get (D := (dC, dI)) (ci := 10) (v := .int ea) (C := RX10) (T := TX10) (N := 48) hx hb hts fin_X10_isSetAtm_X10 hown hK hP 0 rfl rfl 10 (by decide) (hts (.fieldLink RX10 130 "PatternGateModel" "end" "I") (List.mem_of_getElem? (i := 1) (by decide +kernel))) (fun _ h9 => h9) rfl dX10_isSetAt_85 ?_
          have hFc := m_free hD hS hA
          refine va_calli (va_runV (As := [.int 1, .int ea]) (rest := []) ⟨hx, hb, hml, hown, hts⟩ (m_failsAt l dC dI ad kc x0 x1 x2 x3 x4 x5 x6 ea x8 x9 x10 x11 x12 x13 x14 x15 x16 x17 x18 x19 x20 x21 f0 f1 f2 f3 f4 f5 f6 f7 f8 f9 f10 f11 f12 f13 f14 f15 f16 f17 f18 f19 f20 f21 fL fN fP fM fO H.size 1 ea ) (cwV 2 hts mg_X10_isSetAtm_X10_failsAt_126 rfl rfl rfl (by decide +kernel) ⟨Nat.le_of_ble_eq_true rfl, Nat.le_of_ble_eq_true rfl⟩) ⟨fun a U g mk q => by obtain ⟨q0, q1, qP, qK, qD⟩ := q; exact ⟨q0, q1, qP, va_K.moved (u := U) (U := U.calling g mk a) (Vm.Alike.refl U.vm) qK, qD⟩, va_recv hK hP (ci := 10) (q0 := 0) rfl rfl, fun U hU hW => ⟨rfl, by rw [hU], by rw [hU]; exact hP, va_K.moved hW.alike hK, hD.weaken (fun _ _ _ _ => trivial)⟩⟩ rfl rfl hl.1 rfl (lv_room (Nat.le_of_ble_eq_true rfl)) dX10_isSetAt_88 ⟨Nat.le_of_ble_eq_true rfl, Nat.le_of_ble_eq_true rfl⟩) hS (fun q _ h => hFc q h) hFc (fun r_5 u t H1 locs ht hvm hw hB hz1 hk1 hS => ?_)
          subst hw
          obtain ⟨x_6, x_7, hr_5_0, hP, hK1, hD1⟩ := hB
          rw [ht] at hP
          have hD := hD1.weaken (fun k q _ h => hFc q.1 h)
          generalize H1 = H at hP hS ⊢
          have rg_x_6 := i_rng x_6
          have rg_x_7 := i_rng x_7
          have rg_r_5 := i_rng r_5
          have hP : va_P (dC, dI) vwCl (mW ad kc x0 x1 x2 x3 x4 x5 x6 ea x_6 x_7 x10 x11 x12 x13 x14 x15 x16 x17 x18 x19 x20 x21 f0 f1 f2 f3 f4 f5 f6 f7 f8 f9 f10 f11 f12 f13 f14 f15 f16 f17 f18 f19 f20 f21 fL fN fP fM fO) H := hP
          have hD : va_D A (mW ad kc x0 x1 x2 x3 x4 x5 x6 ea x_6 x_7 x10 x11 x12 x13 x14 x15 x16 x17 x18 x19 x20 x21 f0 f1 f2 f3 f4 f5 f6 f7 f8 f9 f10 f11 f12 f13 f14 f15 f16 f17 f18 f19 f20 f21 fL fN fP fM fO) := hD
          exact W.zret hx hb hr (z_nar (by first | assumption | decide | exact z_of (by omega))) (fun t ht hW => ⟨⟨_, _, rfl, rfl, ea, x_6, x_7, (by first | omega | assumption | rfl | decide), (by first | omega | assumption | rfl | decide), (Or.inr (by first | omega | decide)), by rw [ht]; exact hP, va_K.moved hW.alike hK, hD⟩, hS.F ht⟩) hS.2.2 dX10_isSetAt_91
        · have tk_4 := c_ne (a := st.toInt) (b := 0) rfl (by decide) k_4
          refine lv_aload_n hx hb dX10_isSetAt_69 rfl (lv_at hl 1 rfl) ?_
          refine lv_aload_n hx hb dX10_isSetAt_70 rfl (lv_at hl 1 rfl) ?_
          refine va_get (D := (dC, dI)) (ci := 10) (v := .int ea) (C := RX10) (T := TX10) (N := 48) hx hb hts fin_X10_isSetAtm_X10 hown hK hP 0 rfl rfl 10 (by decide) (hts (.fieldLink RX10 130 "PatternGateModel" "end" "I") (List.mem_of_getElem? (i := 1) (by decide +kernel))) (fun _ h9 => h9) rfl dX10_isSetAt_71 ?_
          refine vp_callSi (W.runV (As := [.int ea]) (rest := []) ⟨hx, hb, hml, hown, hts⟩ (m_byteAt l dC dI ad kc x0 x1 x2 x3 x4 x5 x6 ea x8 x9 x10 x11 x12 x13 x14 x15 x16 x17 x18 x19 x20 x21 f0 f1 f2 f3 f4 f5 f6 f7 f8 f9 f10 f11 f12 f13 f14 f15 f16 f17 f18 f19 f20 f21 fL fN fP fM fO ea (by first | omega | assumption | decide | (have l0 := Int32.toInt_zero; omega)) (by first | omega | assumption | decide | (have l0 := Int32.toInt_zero; omega))) (cwV 1 hts mg_X10_isSetAtm_X10_byteAt_133 rfl rfl rfl (by decide +kernel) ⟨Nat.le_of_ble_eq_true rfl, Nat.le_of_ble_eq_true rfl⟩) ⟨fun a U g mk q => by obtain ⟨q0, qP, qK⟩ := q; exact ⟨q0, qP, va_K.moved (u := U) (U := U.calling g mk a) (Vm.Alike.refl U.vm) qK⟩, va_recv hK hP (ci := 10) (q0 := 0) rfl rfl, fun U hU hW => ⟨rfl, by rw [hU]; exact hP, va_K.moved hW.alike hK⟩⟩ rfl rfl hl.1 rfl (lv_room (Nat.le_of_ble_eq_true rfl)) dX10_isSetAt_74 ⟨Nat.le_of_ble_eq_true rfl, Nat.le_of_ble_eq_true rfl⟩) (fun r_8 hr_8 => ?_)
          have rg_r_8 := i_rng r_8
          refine lv_bipush (v := 93) hx hb dX10_isSetAt_77 (by decide) ?_
          refine lv_icmp_eq (tgt := 92) hx hb dX10_isSetAt_79 (by decide) (fun k_9 => ?_) (fun k_9 => ?_)
          · have tk_9 := c_eq (a := r_8.toInt) (b := 93) rfl (by decide) k_9
            refine lv_aload_n hx hb dX10_isSetAt_92 rfl (lv_at hl 1 rfl) ?_
            refine lv_dup hx hb dX10_isSetAt_93 rfl ?_
            refine va_get (D := (dC, dI)) (ci := 10) (v := .int ea) (C := RX10) (T := TX10) (N := 48) hx hb hts fin_X10_isSetAtm_X10 hown hK hP 0 rfl rfl 10 (by decide) (hts (.fieldLink RX10 130 "PatternGateModel" "end" "I") (List.mem_of_getElem? (i := 1) (by decide +kernel))) (fun _ h9 => h9) rfl dX10_isSetAt_94 ?_
            refine lv_iconst (v := 1) hx hb dX10_isSetAt_97 (by decide) ?_
            refine lv_iadd hx hb dX10_isSetAt_98 ?_
            refine lv_topi (fun y_10 ey_10 => ?_)
            first | have ty_10 := i_add (a := ea.toInt) (b := 1) rfl (by decide) ey_10 (by omega) (by omega) | skip
            refine va_put (D := (dC, dI)) (ci := 10) (v := .int y_10) (ty := .int) (C := RX10) (T := TX10) (N := 48) hx hb hts fin_X10_isSetAtm_X10 tyX10 tyX10_ok nmX10 hown hK hP hD hS 0 rfl rfl 10 (by decide) (hts (.fieldLink RX10 130 "PatternGateModel" "end" "I") (List.mem_of_getElem? (i := 1) (by decide +kernel))) (fun _ h9 => h9) rfl (by decide +kernel) rfl rfl (Nat.le_of_ble_eq_true rfl) dX10_isSetAt_99 (fun H locs hP hD hS => ?_)
            have hP : va_P (dC, dI) vwCl (mW ad kc x0 x1 x2 x3 x4 x5 x6 y_10 x8 x9 x10 x11 x12 x13 x14 x15 x16 x17 x18 x19 x20 x21 f0 f1 f2 f3 f4 f5 f6 f7 f8 f9 f10 f11 f12 f13 f14 f15 f16 f17 f18 f19 f20 f21 fL fN fP fM fO) H := hP
            have hD : va_D A (mW ad kc x0 x1 x2 x3 x4 x5 x6 y_10 x8 x9 x10 x11 x12 x13 x14 x15 x16 x17 x18 x19 x20 x21 f0 f1 f2 f3 f4 f5 f6 f7 f8 f9 f10 f11 f12 f13 f14 f15 f16 f17 f18 f19 f20 f21 fL fN fP fM fO) := hD
            refine lv_iconst (v := 1) hx hb dX10_isSetAt_102 (by decide) ?_
            have lit_10 : (1 : Int32).toInt = 1 := by decide
            exact W.zret hx hb hr (z_nar (by first | assumption | decide | exact z_of (by omega))) (fun t ht hW => ⟨⟨_, _, rfl, rfl, y_10, x8, x9, (by first | omega | assumption | rfl | decide), (by first | omega | assumption | rfl | decide), (Or.inl ⟨by decide, ⟨by omega, fun k a b => v2_2 k a (by omega), by rw [show y_10.toInt - 1 = ea.toInt by omega]; omega⟩, by omega⟩), by rw [ht]; exact hP, va_K.moved hW.alike hK, hD⟩, hS.F ht⟩) hS.2.2 dX10_isSetAt_103
          · have tk_9 := c_ne (a := r_8.toInt) (b := 93) rfl (by decide) k_9
            refine lv_aload_n hx hb dX10_isSetAt_82 rfl (lv_at hl 1 rfl) ?_
            refine lv_iconst (v := 1) hx hb dX10_isSetAt_83 (by decide) ?_
            refine lv_aload_n hx hb dX10_isSetAt_84 rfl (lv_at hl 1 rfl) ?_
            refine va_get (D := (dC, dI)) (ci := 10) (v := .int ea) (C := RX10) (T := TX10) (N := 48) hx hb hts fin_X10_isSetAtm_X10 hown hK hP 0 rfl rfl 10 (by decide) (hts (.fieldLink RX10 130 "PatternGateModel" "end" "I") (List.mem_of_getElem? (i := 1) (by decide +kernel))) (fun _ h9 => h9) rfl dX10_isSetAt_85 ?_
            have hFc := m_free hD hS hA
            refine va_calli (va_runV (As := [.int 1, .int ea]) (rest := []) ⟨hx, hb, hml, hown, hts⟩ (m_failsAt l dC dI ad kc x0 x1 x2 x3 x4 x5 x6 ea x8 x9 x10 x11 x12 x13 x14 x15 x16 x17 x18 x19 x20 x21 f0 f1 f2 f3 f4 f5 f6 f7 f8 f9 f10 f11 f12 f13 f14 f15 f16 f17 f18 f19 f20 f21 fL fN fP fM fO H.size 1 ea ) (cwV 2 hts mg_X10_isSetAtm_X10_failsAt_126 rfl rfl rfl (by decide +kernel) ⟨Nat.le_of_ble_eq_true rfl, Nat.le_of_ble_eq_true rfl⟩) ⟨fun a U g mk q => by obtain ⟨q0, q1, qP, qK, qD⟩ := q; exact ⟨q0, q1, qP, va_K.moved (u := U) (U := U.calling g mk a) (Vm.Alike.refl U.vm) qK, qD⟩, va_recv hK hP (ci := 10) (q0 := 0) rfl rfl, fun U hU hW => ⟨rfl, by rw [hU], by rw [hU]; exact hP, va_K.moved hW.alike hK, hD.weaken (fun _ _ _ _ => trivial)⟩⟩ rfl rfl hl.1 rfl (lv_room (Nat.le_of_ble_eq_true rfl)) dX10_isSetAt_88 ⟨Nat.le_of_ble_eq_true rfl, Nat.le_of_ble_eq_true rfl⟩) hS (fun q _ h => hFc q h) hFc (fun r_12 u t H1 locs ht hvm hw hB hz1 hk1 hS => ?_)
            subst hw
            obtain ⟨x_13, x_14, hr_12_0, hP, hK1, hD1⟩ := hB
            rw [ht] at hP
            have hD := hD1.weaken (fun k q _ h => hFc q.1 h)
            generalize H1 = H at hP hS ⊢
            have rg_x_13 := i_rng x_13
            have rg_x_14 := i_rng x_14
            have rg_r_12 := i_rng r_12
            have hP : va_P (dC, dI) vwCl (mW ad kc x0 x1 x2 x3 x4 x5 x6 ea x_13 x_14 x10 x11 x12 x13 x14 x15 x16 x17 x18 x19 x20 x21 f0 f1 f2 f3 f4 f5 f6 f7 f8 f9 f10 f11 f12 f13 f14 f15 f16 f17 f18 f19 f20 f21 fL fN fP fM fO) H := hP
            have hD : va_D A (mW ad kc x0 x1 x2 x3 x4 x5 x6 ea x_13 x_14 x10 x11 x12 x13 x14 x15 x16 x17 x18 x19 x20 x21 f0 f1 f2 f3 f4 f5 f6 f7 f8 f9 f10 f11 f12 f13 f14 f15 f16 f17 f18 f19 f20 f21 fL fN fP fM fO) := hD
            exact W.zret hx hb hr (z_nar (by first | assumption | decide | exact z_of (by omega))) (fun t ht hW => ⟨⟨_, _, rfl, rfl, ea, x_13, x_14, (by first | omega | assumption | rfl | decide), (by first | omega | assumption | rfl | decide), (Or.inr (by first | omega | decide)), by rw [ht]; exact hP, va_K.moved hW.alike hK, hD⟩, hS.F ht⟩) hS.2.2 dX10_isSetAt_91
      · have tk_3 := c_ne (a := r_2.toInt) (b := 0) rfl (by decide) k_3
        refine lv_aload_n hx hb dX10_isSetAt_16 rfl (lv_at hl 1 rfl) ?_
        refine lv_aload_n hx hb dX10_isSetAt_17 rfl (lv_at hl 1 rfl) ?_
        refine va_get (D := (dC, dI)) (ci := 10) (v := .int ea) (C := RX10) (T := TX10) (N := 48) hx hb hts fin_X10_isSetAtm_X10 hown hK hP 0 rfl rfl 10 (by decide) (hts (.fieldLink RX10 130 "PatternGateModel" "end" "I") (List.mem_of_getElem? (i := 1) (by decide +kernel))) (fun _ h9 => h9) rfl dX10_isSetAt_18 ?_
        refine vp_callSi (W.runV (As := [.int ea]) (rest := []) ⟨hx, hb, hml, hown, hts⟩ (m_byteAt l dC dI ad kc x0 x1 x2 x3 x4 x5 x6 ea x8 x9 x10 x11 x12 x13 x14 x15 x16 x17 x18 x19 x20 x21 f0 f1 f2 f3 f4 f5 f6 f7 f8 f9 f10 f11 f12 f13 f14 f15 f16 f17 f18 f19 f20 f21 fL fN fP fM fO ea (by first | omega | assumption | decide | (have l0 := Int32.toInt_zero; omega)) (by first | omega | assumption | decide | (have l0 := Int32.toInt_zero; omega))) (cwV 1 hts mg_X10_isSetAtm_X10_byteAt_133 rfl rfl rfl (by decide +kernel) ⟨Nat.le_of_ble_eq_true rfl, Nat.le_of_ble_eq_true rfl⟩) ⟨fun a U g mk q => by obtain ⟨q0, qP, qK⟩ := q; exact ⟨q0, qP, va_K.moved (u := U) (U := U.calling g mk a) (Vm.Alike.refl U.vm) qK⟩, va_recv hK hP (ci := 10) (q0 := 0) rfl rfl, fun U hU hW => ⟨rfl, by rw [hU]; exact hP, va_K.moved hW.alike hK⟩⟩ rfl rfl hl.1 rfl (lv_room (Nat.le_of_ble_eq_true rfl)) dX10_isSetAt_21 ⟨Nat.le_of_ble_eq_true rfl, Nat.le_of_ble_eq_true rfl⟩) (fun r_15 hr_15 => ?_)
        have rg_r_15 := i_rng r_15
        refine lv_bipush (v := 97) hx hb dX10_isSetAt_24 (by decide) ?_
        refine lv_isub hx hb dX10_isSetAt_26 ?_
        refine lv_topi (fun y_16 ey_16 => ?_)
        first | have ty_16 := i_sub (a := r_15.toInt) (b := 97) rfl (by decide) ey_16 (by omega) (by omega) | skip
        refine lv_istore_n (lv' := [(2, .int y_16), (1, .int st), (0, .ref (ad 0))]) hx hb dX10_isSetAt_27 rfl hl (by decide) rfl (fun ls hl => ?_)
        refine lv_iload_n hx hb dX10_isSetAt_28 rfl (lv_at hl 1 rfl) ?_
        refine lv_iload_n hx hb dX10_isSetAt_29 rfl (lv_at hl 0 rfl) ?_
        refine vp_callSi (W.runS (As := [.int st, .int y_16]) (rest := []) ⟨hx, hb, hml, hown, hts⟩ (m_has l dC dI  st y_16 ) (va_cwS 2 hts mg_X10_isSetAtm_X10_has_170 rfl rfl rfl (by decide +kernel) ⟨Nat.le_of_ble_eq_true rfl, Nat.le_of_ble_eq_true rfl⟩) ⟨fun a U g mk q => ⟨q.1, trivial⟩, fun U hU hW => ⟨rfl, trivial⟩⟩ rfl rfl hl.1 rfl (lv_room (Nat.le_of_ble_eq_true rfl)) dX10_isSetAt_30 ⟨Nat.le_of_ble_eq_true rfl, Nat.le_of_ble_eq_true rfl⟩) (fun r_17 hr_17 => ?_)
        have rg_r_17 := i_rng r_17
        refine lv_if_eq (tgt := 46) hx hb dX10_isSetAt_33 (by decide) (fun k_18 => ?_) (fun k_18 => ?_)
        · have tk_18 := c_eq (a := r_17.toInt) (b := 0) rfl (by decide) k_18
          refine lv_iload_n hx hb dX10_isSetAt_46 rfl (lv_at hl 1 rfl) ?_
          refine lv_iconst (v := 1) hx hb dX10_isSetAt_47 (by decide) ?_
          refine lv_iload_n hx hb dX10_isSetAt_48 rfl (lv_at hl 0 rfl) ?_
          refine lv_ishl hx hb dX10_isSetAt_49 ?_
          refine lv_topi (fun y_19 ey_19 => ?_)
          have rg_y_19 := i_rng y_19
          refine lv_ior hx hb dX10_isSetAt_50 ?_
          refine lv_topi (fun y_20 ey_20 => ?_)
          have rg_y_20 := i_rng y_20
          refine lv_istore_n (lv' := [(1, .int y_20), (2, .int y_16), (0, .ref (ad 0))]) hx hb dX10_isSetAt_51 rfl hl (by decide) rfl (fun ls hl => ?_)
          refine lv_aload_n hx hb dX10_isSetAt_52 rfl (lv_at hl 2 rfl) ?_
          refine lv_dup hx hb dX10_isSetAt_53 rfl ?_
          refine va_get (D := (dC, dI)) (ci := 10) (v := .int ea) (C := RX10) (T := TX10) (N := 48) hx hb hts fin_X10_isSetAtm_X10 hown hK hP 0 rfl rfl 10 (by decide) (hts (.fieldLink RX10 130 "PatternGateModel" "end" "I") (List.mem_of_getElem? (i := 1) (by decide +kernel))) (fun _ h9 => h9) rfl dX10_isSetAt_54 ?_
          refine lv_iconst (v := 1) hx hb dX10_isSetAt_57 (by decide) ?_
          refine lv_iadd hx hb dX10_isSetAt_58 ?_
          refine lv_topi (fun y_21 ey_21 => ?_)
          first | have ty_21 := i_add (a := ea.toInt) (b := 1) rfl (by decide) ey_21 (by omega) (by omega) | skip
          refine va_put (D := (dC, dI)) (ci := 10) (v := .int y_21) (ty := .int) (C := RX10) (T := TX10) (N := 48) hx hb hts fin_X10_isSetAtm_X10 tyX10 tyX10_ok nmX10 hown hK hP hD hS 0 rfl rfl 10 (by decide) (hts (.fieldLink RX10 130 "PatternGateModel" "end" "I") (List.mem_of_getElem? (i := 1) (by decide +kernel))) (fun _ h9 => h9) rfl (by decide +kernel) rfl rfl (Nat.le_of_ble_eq_true rfl) dX10_isSetAt_59 (fun H locs hP hD hS => ?_)
          have hP : va_P (dC, dI) vwCl (mW ad kc x0 x1 x2 x3 x4 x5 x6 y_21 x8 x9 x10 x11 x12 x13 x14 x15 x16 x17 x18 x19 x20 x21 f0 f1 f2 f3 f4 f5 f6 f7 f8 f9 f10 f11 f12 f13 f14 f15 f16 f17 f18 f19 f20 f21 fL fN fP fM fO) H := hP
          have hD : va_D A (mW ad kc x0 x1 x2 x3 x4 x5 x6 y_21 x8 x9 x10 x11 x12 x13 x14 x15 x16 x17 x18 x19 x20 x21 f0 f1 f2 f3 f4 f5 f6 f7 f8 f9 f10 f11 f12 f13 f14 f15 f16 f17 f18 f19 f20 f21 fL fN fP fM fO) := hD
          refine lv_goto (tgt := 2) hx hb dX10_isSetAt_62 (by decide) ?_
          exact ih2 y_20 y_21 (by first | omega | assumption | decide) (by first | omega | assumption | decide) (by rw [show y_21.toInt = ea.toInt + 1 by omega]; exact sm_step v2_2 (by unfold isSm; omega)) (by omega) _ _ ls hP hD hS (lv_sub hl [0, 2] rfl)
        · have tk_18 := c_ne (a := r_17.toInt) (b := 0) rfl (by decide) k_18
          refine lv_aload_n hx hb dX10_isSetAt_36 rfl (lv_at hl 2 rfl) ?_
          refine lv_iconst (v := 4) hx hb dX10_isSetAt_37 (by decide) ?_
          refine lv_aload_n hx hb dX10_isSetAt_38 rfl (lv_at hl 2 rfl) ?_
          refine va_get (D := (dC, dI)) (ci := 10) (v := .int ea) (C := RX10) (T := TX10) (N := 48) hx hb hts fin_X10_isSetAtm_X10 hown hK hP 0 rfl rfl 10 (by decide) (hts (.fieldLink RX10 130 "PatternGateModel" "end" "I") (List.mem_of_getElem? (i := 1) (by decide +kernel))) (fun _ h9 => h9) rfl dX10_isSetAt_39 ?_
          have hFc := m_free hD hS hA
          refine va_calli (va_runV (As := [.int 4, .int ea]) (rest := []) ⟨hx, hb, hml, hown, hts⟩ (m_failsAt l dC dI ad kc x0 x1 x2 x3 x4 x5 x6 ea x8 x9 x10 x11 x12 x13 x14 x15 x16 x17 x18 x19 x20 x21 f0 f1 f2 f3 f4 f5 f6 f7 f8 f9 f10 f11 f12 f13 f14 f15 f16 f17 f18 f19 f20 f21 fL fN fP fM fO H.size 4 ea ) (cwV 2 hts mg_X10_isSetAtm_X10_failsAt_126 rfl rfl rfl (by decide +kernel) ⟨Nat.le_of_ble_eq_true rfl, Nat.le_of_ble_eq_true rfl⟩) ⟨fun a U g mk q => by obtain ⟨q0, q1, qP, qK, qD⟩ := q; exact ⟨q0, q1, qP, va_K.moved (u := U) (U := U.calling g mk a) (Vm.Alike.refl U.vm) qK, qD⟩, va_recv hK hP (ci := 10) (q0 := 0) rfl rfl, fun U hU hW => ⟨rfl, by rw [hU], by rw [hU]; exact hP, va_K.moved hW.alike hK, hD.weaken (fun _ _ _ _ => trivial)⟩⟩ rfl rfl hl.1 rfl (lv_room (Nat.le_of_ble_eq_true rfl)) dX10_isSetAt_42 ⟨Nat.le_of_ble_eq_true rfl, Nat.le_of_ble_eq_true rfl⟩) hS (fun q _ h => hFc q h) hFc (fun r_22 u t H1 locs ht hvm hw hB hz1 hk1 hS => ?_)
          subst hw
          obtain ⟨x_23, x_24, hr_22_0, hP, hK1, hD1⟩ := hB
          rw [ht] at hP
          have hD := hD1.weaken (fun k q _ h => hFc q.1 h)
          generalize H1 = H at hP hS ⊢
          have rg_x_23 := i_rng x_23
          have rg_x_24 := i_rng x_24
          have rg_r_22 := i_rng r_22
          have hP : va_P (dC, dI) vwCl (mW ad kc x0 x1 x2 x3 x4 x5 x6 ea x_23 x_24 x10 x11 x12 x13 x14 x15 x16 x17 x18 x19 x20 x21 f0 f1 f2 f3 f4 f5 f6 f7 f8 f9 f10 f11 f12 f13 f14 f15 f16 f17 f18 f19 f20 f21 fL fN fP fM fO) H := hP
          have hD : va_D A (mW ad kc x0 x1 x2 x3 x4 x5 x6 ea x_23 x_24 x10 x11 x12 x13 x14 x15 x16 x17 x18 x19 x20 x21 f0 f1 f2 f3 f4 f5 f6 f7 f8 f9 f10 f11 f12 f13 f14 f15 f16 f17 f18 f19 f20 f21 fL fN fP fM fO) := hD
          exact W.zret hx hb hr (z_nar (by first | assumption | decide | exact z_of (by omega))) (fun t ht hW => ⟨⟨_, _, rfl, rfl, ea, x_23, x_24, (by first | omega | assumption | rfl | decide), (by first | omega | assumption | rfl | decide), (Or.inr (by first | omega | decide)), by rw [ht]; exact hP, va_K.moved hW.alike hK, hD⟩, hS.F ht⟩) hS.2.2 dX10_isSetAt_45
  have lit_24 : (0 : Int32).toInt = 0 := by decide
  exact loop2 _ 0 x7 (by first | omega | assumption | decide) (by first | omega | assumption | decide) (fun k a b => by omega) (Nat.lt_succ_self _) _ _ ls hP hD hS (lv_sub hl [0, 1] rfl)
theorem dX10_isAtomAt_0 : decode cX10_isAtomAt 0 = .ok (.aload_n 0, 1) := by decide +kernel
theorem dX10_isAtomAt_1 : decode cX10_isAtomAt 1 = .ok (.aload_n 0, 1) := by decide +kernel
theorem dX10_isAtomAt_2 : decode cX10_isAtomAt 2 = .ok (.getfield 130, 3) := by decide +kernel
theorem dX10_isAtomAt_5 : decode cX10_isAtomAt 5 = .ok (.invokevirtual 133, 3) := by decide +kernel
theorem dX10_isAtomAt_8 : decode cX10_isAtomAt 8 = .ok (.istore_n 2, 1) := by decide +kernel
theorem dX10_isAtomAt_9 : decode cX10_isAtomAt 9 = .ok (.iload_n 2, 1) := by decide +kernel
theorem dX10_isAtomAt_10 : decode cX10_isAtomAt 10 = .ok (.bipush 40, 2) := by decide +kernel
theorem dX10_isAtomAt_12 : decode cX10_isAtomAt 12 = .ok (.if_icmp .ne 75, 3) := by decide +kernel
theorem dX10_isAtomAt_15 : decode cX10_isAtomAt 15 = .ok (.iload_n 1, 1) := by decide +kernel
theorem dX10_isAtomAt_16 : decode cX10_isAtomAt 16 = .ok (.iconst 5, 1) := by decide +kernel
theorem dX10_isAtomAt_17 : decode cX10_isAtomAt 17 = .ok (.if_icmp .ne 13, 3) := by decide +kernel
theorem dX10_isAtomAt_20 : decode cX10_isAtomAt 20 = .ok (.aload_n 0, 1) := by decide +kernel
theorem dX10_isAtomAt_21 : decode cX10_isAtomAt 21 = .ok (.iconst 4, 1) := by decide +kernel
theorem dX10_isAtomAt_22 : decode cX10_isAtomAt 22 = .ok (.aload_n 0, 1) := by decide +kernel
theorem dX10_isAtomAt_23 : decode cX10_isAtomAt 23 = .ok (.getfield 130, 3) := by decide +kernel
theorem dX10_isAtomAt_26 : decode cX10_isAtomAt 26 = .ok (.invokevirtual 126, 3) := by decide +kernel
theorem dX10_isAtomAt_29 : decode cX10_isAtomAt 29 = .ok (.ireturn, 1) := by decide +kernel
theorem dX10_isAtomAt_87 : decode cX10_isAtomAt 87 = .ok (.aload_n 0, 1) := by decide +kernel
theorem dX10_isAtomAt_88 : decode cX10_isAtomAt 88 = .ok (.getfield 151, 3) := by decide +kernel
theorem dX10_isAtomAt_91 : decode cX10_isAtomAt 91 = .ok (.bipush 24, 2) := by decide +kernel
theorem dX10_isAtomAt_93 : decode cX10_isAtomAt 93 = .ok (.if_icmp .ne 13, 3) := by decide +kernel
theorem dX10_isAtomAt_96 : decode cX10_isAtomAt 96 = .ok (.aload_n 0, 1) := by decide +kernel
theorem dX10_isAtomAt_97 : decode cX10_isAtomAt 97 = .ok (.iconst 4, 1) := by decide +kernel
theorem dX10_isAtomAt_98 : decode cX10_isAtomAt 98 = .ok (.aload_n 0, 1) := by decide +kernel
theorem dX10_isAtomAt_99 : decode cX10_isAtomAt 99 = .ok (.getfield 130, 3) := by decide +kernel
theorem dX10_isAtomAt_102 : decode cX10_isAtomAt 102 = .ok (.invokevirtual 126, 3) := by decide +kernel
theorem dX10_isAtomAt_105 : decode cX10_isAtomAt 105 = .ok (.ireturn, 1) := by decide +kernel
theorem dX10_isAtomAt_106 : decode cX10_isAtomAt 106 = .ok (.aload_n 0, 1) := by decide +kernel
theorem dX10_isAtomAt_107 : decode cX10_isAtomAt 107 = .ok (.dup, 1) := by decide +kernel
theorem dX10_isAtomAt_108 : decode cX10_isAtomAt 108 = .ok (.getfield 151, 3) := by decide +kernel
theorem dX10_isAtomAt_111 : decode cX10_isAtomAt 111 = .ok (.iconst 1, 1) := by decide +kernel
theorem dX10_isAtomAt_112 : decode cX10_isAtomAt 112 = .ok (.iadd, 1) := by decide +kernel
theorem dX10_isAtomAt_113 : decode cX10_isAtomAt 113 = .ok (.putfield 151, 3) := by decide +kernel
theorem dX10_isAtomAt_116 : decode cX10_isAtomAt 116 = .ok (.aload_n 0, 1) := by decide +kernel
theorem dX10_isAtomAt_117 : decode cX10_isAtomAt 117 = .ok (.dup, 1) := by decide +kernel
theorem dX10_isAtomAt_118 : decode cX10_isAtomAt 118 = .ok (.getfield 130, 3) := by decide +kernel
theorem dX10_isAtomAt_121 : decode cX10_isAtomAt 121 = .ok (.iconst 1, 1) := by decide +kernel
theorem dX10_isAtomAt_122 : decode cX10_isAtomAt 122 = .ok (.iadd, 1) := by decide +kernel
theorem dX10_isAtomAt_123 : decode cX10_isAtomAt 123 = .ok (.putfield 130, 3) := by decide +kernel
theorem dX10_isAtomAt_126 : decode cX10_isAtomAt 126 = .ok (.iload_n 2, 1) := by decide +kernel
theorem dX10_isAtomAt_127 : decode cX10_isAtomAt 127 = .ok (.bipush 91, 2) := by decide +kernel
theorem dX10_isAtomAt_129 : decode cX10_isAtomAt 129 = .ok (.if_icmp .ne 10, 3) := by decide +kernel
theorem dX10_isAtomAt_132 : decode cX10_isAtomAt 132 = .ok (.aload_n 0, 1) := by decide +kernel
theorem dX10_isAtomAt_133 : decode cX10_isAtomAt 133 = .ok (.invokevirtual 166, 3) := by decide +kernel
theorem dX10_isAtomAt_136 : decode cX10_isAtomAt 136 = .ok (.ifCond .eq 7, 3) := by decide +kernel
theorem dX10_isAtomAt_139 : decode cX10_isAtomAt 139 = .ok (.iconst 1, 1) := by decide +kernel
theorem dX10_isAtomAt_140 : decode cX10_isAtomAt 140 = .ok (.goto 4, 3) := by decide +kernel
theorem dX10_isAtomAt_143 : decode cX10_isAtomAt 143 = .ok (.iconst 0, 1) := by decide +kernel
theorem dX10_isAtomAt_144 : decode cX10_isAtomAt 144 = .ok (.ireturn, 1) := by decide +kernel
def mwX10_isAtomAtmd5 : List Cond := .code yX10_isAtomAt cX10_isAtomAt 3 (some .boolean) :: ([.fieldLink RX10 130 "PatternGateModel" "end" "I", .code yX10_byteAt cX10_byteAt 2 (some .int), .fieldLink RX10 114 "PatternGateModel" "size" "I", .fieldLink RX10 18 "PatternGateModel" "text" "[B", .methodLink RX10 133 yX10_byteAt, .instanceMethod yX10_byteAt, .selects RX10 yX10_byteAt yX10_byteAt, .initialized RX10, .fieldLink RX10 151 "PatternGateModel" "spots" "I", .code yX10_isSetAt cX10_isSetAt 3 (some .boolean), .code yX10_isSmall cX10_isSmall 1 (some .boolean), .methodLink RX10 137 yX10_isSmall, .static yX10_isSmall, .code yX10_failsAt cX10_failsAt 3 (some .boolean), .fieldLink RX10 117 "PatternGateModel" "faults" "I", .fieldLink RX10 21 "PatternGateModel" "faultPlace" "I", .methodLink RX10 126 yX10_failsAt, .instanceMethod yX10_failsAt, .selects RX10 yX10_failsAt yX10_failsAt, .code yX10_has cX10_has 2 (some .boolean), .methodLink RX10 170 yX10_has, .static yX10_has, .methodLink RX10 166 yX10_isSetAt, .instanceMethod yX10_isSetAt, .selects RX10 yX10_isSetAt yX10_isSetAt] ++ wsX100)
theorem fin_X10_isAtomAtmd5_X10 : ∀ w ∈ wsX100, w ∈ mwX10_isAtomAtmd5 := fun w h => List.mem_cons_of_mem _ (List.mem_append_right _ h)
set_option maxRecDepth 20000 in
theorem mg_X10_isAtomAtmd5_X10_byteAt_133 : GoodIn mwX10_isAtomAtmd5 (wsV RX10 133 RX10 yX10_byteAt mwX10_byteAtm) := goodIn_r _ [5, 6, 7, 8, 2, 3, 4, 26, 27, 28, 29, 30, 31, 32, 33, 34, 35, 36, 37, 38, 39, 40, 41, 42, 43, 44, 45, 46, 47, 48, 49, 50, 51, 52, 53, 54, 55, 56, 57, 58, 59, 60, 61, 62, 63, 64, 65, 66, 67, 68, 69, 70, 71, 72, 73] (by decide +kernel) (by decide +kernel)
set_option maxRecDepth 20000 in
theorem mg_X10_isAtomAtmd5_X10_isSetAt_166 : GoodIn mwX10_isAtomAtmd5 (wsV RX10 166 RX10 yX10_isSetAt mwX10_isSetAtm) := goodIn_r _ [23, 24, 25, 8, 10, 1, 2, 3, 4, 5, 6, 7, 8, 11, 12, 13, 14, 15, 16, 17, 18, 19, 20, 21, 22, 26, 27, 28, 29, 30, 31, 32, 33, 34, 35, 36, 37, 38, 39, 40, 41, 42, 43, 44, 45, 46, 47, 48, 49, 50, 51, 52, 53, 54, 55, 56, 57, 58, 59, 60, 61, 62, 63, 64, 65, 66, 67, 68, 69, 70, 71, 72, 73] (by decide +kernel) (by decide +kernel)
set_option maxRecDepth 20000 in
theorem mg_X10_isAtomAtmd5_X10_failsAt_126 : GoodIn mwX10_isAtomAtmd5 (wsV RX10 126 RX10 yX10_failsAt mwX10_failsAtm) := goodIn_r _ [17, 18, 19, 8, 14, 15, 16, 26, 27, 28, 29, 30, 31, 32, 33, 34, 35, 36, 37, 38, 39, 40, 41, 42, 43, 44, 45, 46, 47, 48, 49, 50, 51, 52, 53, 54, 55, 56, 57, 58, 59, 60, 61, 62, 63, 64, 65, 66, 67, 68, 69, 70, 71, 72, 73] (by decide +kernel) (by decide +kernel)
set_option maxHeartbeats 4000000 in
set_option maxRecDepth 100000 in
theorem m_isAtomAt5 (l : Launch) (dC : Nat → ClassId) (dI : Nat → Nat → Nat) (ad : Nat → Nat) (kc : Nat → ClassId) (x0 x1 x2 x3 x4 x5 x6 x7 x8 x9 x10 x11 x12 x13 x14 x15 x16 x17 x18 x19 x20 x21 : Int32) (f0 f1 f2 f3 f4 f5 f6 f7 f8 f9 f10 f11 f12 f13 f14 f15 f16 f17 f18 f19 f20 f21 : Nat → Int32) (fL : Nat → Nat → Int64) (fN : Nat → Nat → Int32) (fP : Nat → Nat → Nat) (fM : Nat → Nat → Int32) (fO : Nat → Nat → Int32) (sz : Nat) (i1 : Int32) (q0 : 0 ≤ x7.toInt) (q1 : x7.toInt ≤ x4.toInt) (q2 : x4.toInt ≤ 900) (q3 : 0 ≤ x11.toInt) (q4 : x11.toInt ≤ 24) (q5 : i1.toInt = 5) (q6 : isAt (tx f2 x4.toInt x7.toInt)) : Met l yX10_isAtomAt mwX10_isAtomAtmd5 ({ frames := 2, cells := 0, slots := 0, locals := 120 }) (va_Pc [.ref (ad 0), .int i1] (fun U => U.heap.size = sz ∧ va_P (dC, dI) vwCl (mW ad kc x0 x1 x2 x3 x4 x5 x6 x7 x8 x9 x10 x11 x12 x13 x14 x15 x16 x17 x18 x19 x20 x21 f0 f1 f2 f3 f4 f5 f6 f7 f8 f9 f10 f11 f12 f13 f14 f15 f16 f17 f18 f19 f20 f21 fL fN fP fM fO) U.heap ∧ va_K (dC, dI) vwCl (mT kc) U ∧ va_D (fun _ => True) (mW ad kc x0 x1 x2 x3 x4 x5 x6 x7 x8 x9 x10 x11 x12 x13 x14 x15 x16 x17 x18 x19 x20 x21 f0 f1 f2 f3 f4 f5 f6 f7 f8 f9 f10 f11 f12 f13 f14 f15 f16 f17 f18 f19 f20 f21 fL fN fP fM fO))) (va_Qi (fun (o9 u9 : Int32) => o9 = u9) (fun (o9 : Int32) t => ∃ (y7 y8 y9 y11 : Int32), (x7.toInt ≤ y7.toInt) ∧ (y7.toInt ≤ x4.toInt) ∧ (x11.toInt ≤ y11.toInt) ∧ (y11.toInt ≤ 24) ∧ (o9.toInt = 1 ∧ (pAtom (tx f2 x4.toInt) (pSub (tx f2 x4.toInt) 0) x7.toInt y7.toInt (y11.toInt - x11.toInt) ∧ x11.toInt < y11.toInt ∧ x7.toInt < y7.toInt) ∨ o9.toInt = 0) ∧ va_P (dC, dI) vwCl (mW ad kc x0 x1 x2 x3 x4 x5 x6 y7 y8 y9 x10 y11 x12 x13 x14 x15 x16 x17 x18 x19 x20 x21 f0 f1 f2 f3 f4 f5 f6 f7 f8 f9 f10 f11 f12 f13 f14 f15 f16 f17 f18 f19 f20 f21 fL fN fP fM fO) t.heap ∧ va_K (dC, dI) vwCl (mT kc) t ∧ va_D (va_A (mW ad kc x0 x1 x2 x3 x4 x5 x6 x7 x8 x9 x10 x11 x12 x13 x14 x15 x16 x17 x18 x19 x20 x21 f0 f1 f2 f3 f4 f5 f6 f7 f8 f9 f10 f11 f12 f13 f14 f15 f16 f17 f18 f19 f20 f21 fL fN fP fM fO) sz) (mW ad kc x0 x1 x2 x3 x4 x5 x6 y7 y8 y9 x10 y11 x12 x13 x14 x15 x16 x17 x18 x19 x20 x21 f0 f1 f2 f3 f4 f5 f6 f7 f8 f9 f10 f11 f12 f13 f14 f15 f16 f17 f18 f19 f20 f21 fL fN fP fM fO)) (va_A (mW ad kc x0 x1 x2 x3 x4 x5 x6 x7 x8 x9 x10 x11 x12 x13 x14 x15 x16 x17 x18 x19 x20 x21 f0 f1 f2 f3 f4 f5 f6 f7 f8 f9 f10 f11 f12 f13 f14 f15 f16 f17 f18 f19 f20 f21 fL fN fP fM fO) sz)) 0 0 (va_A (mW ad kc x0 x1 x2 x3 x4 x5 x6 x7 x8 x9 x10 x11 x12 x13 x14 x15 x16 x17 x18 x19 x20 x21 f0 f1 f2 f3 f4 f5 f6 f7 f8 f9 f10 f11 f12 f13 f14 f15 f16 f17 f18 f19 f20 f21 fL fN fP fM fO) sz) := by
  refine Met.ofW (cc := cX10_isAtomAt) (maxL := 3) (ret := (some .boolean)) (by decide +kernel) rfl ?_
  intro p e s m args below meth c s₁ B hml hv
  obtain ⟨rfl, hsz, hP, hK, hD0⟩ := hv
  have hx := B.exec
  have hb := B.bytes
  have hr := B.returns
  have hts := atoms_spec (ws := mwX10_isAtomAtmd5) B.pre
  have hown : s.vm.findClass RX10 = some m.cls := findClass_of_methodNamed B.named
  have hlocks := B.notSynchronized
  subst hsz
  have hD := hD0.self (sz := s.heap.size)
  generalize hAe : va_A (mW ad kc x0 x1 x2 x3 x4 x5 x6 x7 x8 x9 x10 x11 x12 x13 x14 x15 x16 x17 x18 x19 x20 x21 f0 f1 f2 f3 f4 f5 f6 f7 f8 f9 f10 f11 f12 f13 f14 f15 f16 f17 f18 f19 f20 f21 fL fN fP fM fO) s.heap.size = A at hD ⊢
  have hA : ∀ q : Nat, s.heap.size ≤ q → A q := fun q h => by rw [← hAe]; exact Or.inr h
  have hP : va_P (dC, dI) vwCl (mW ad kc x0 x1 x2 x3 x4 x5 x6 x7 x8 x9 x10 x11 x12 x13 x14 x15 x16 x17 x18 x19 x20 x21 f0 f1 f2 f3 f4 f5 f6 f7 f8 f9 f10 f11 f12 f13 f14 f15 f16 f17 f18 f19 f20 f21 fL fN fP fM fO) s.heap := hP
  have hD : va_D A (mW ad kc x0 x1 x2 x3 x4 x5 x6 x7 x8 x9 x10 x11 x12 x13 x14 x15 x16 x17 x18 x19 x20 x21 f0 f1 f2 f3 f4 f5 f6 f7 f8 f9 f10 f11 f12 f13 f14 f15 f16 f17 f18 f19 f20 f21 fL fN fP fM fO) := hD
  have hK : va_K (dC, dI) vwCl (mT kc) s := hK
  generalize hH : s.heap = H at hP ⊢
  have hS : va_S A s.heap H [] := by rw [← hH]; exact va_S.rf
  have hl := lv_entry ([.ref (ad 0), .int i1]) (n := 3) (Nat.le_of_ble_eq_true rfl)
  rw [lg_entry_eq]
  generalize (lg_sl ([.ref (ad 0), .int i1]) ++ List.replicate (3 - (lg_sl ([.ref (ad 0), .int i1])).length) Slot.unset).toArray = ls at hl ⊢
  have hl : lv_has ls 3 [(0, .ref (ad 0)), (1, .int i1)] := hl
  have rg_i1 := i_rng i1
  unfold isAt at q6
  refine lv_aload_n hx hb dX10_isAtomAt_0 rfl (lv_at hl 0 rfl) ?_
  refine lv_aload_n hx hb dX10_isAtomAt_1 rfl (lv_at hl 0 rfl) ?_
  refine va_get (D := (dC, dI)) (ci := 10) (v := .int x7) (C := RX10) (T := TX10) (N := 48) hx hb hts fin_X10_isAtomAtmd5_X10 hown hK hP 0 rfl rfl 10 (by decide) (hts (.fieldLink RX10 130 "PatternGateModel" "end" "I") (List.mem_of_getElem? (i := 1) (by decide +kernel))) (fun _ h9 => h9) rfl dX10_isAtomAt_2 ?_
  refine vp_callSi (W.runV (As := [.int x7]) (rest := []) ⟨hx, hb, hml, hown, hts⟩ (m_byteAt l dC dI ad kc x0 x1 x2 x3 x4 x5 x6 x7 x8 x9 x10 x11 x12 x13 x14 x15 x16 x17 x18 x19 x20 x21 f0 f1 f2 f3 f4 f5 f6 f7 f8 f9 f10 f11 f12 f13 f14 f15 f16 f17 f18 f19 f20 f21 fL fN fP fM fO x7 (by first | omega | assumption | decide | (have l0 := Int32.toInt_zero; omega)) (by first | omega | assumption | decide | (have l0 := Int32.toInt_zero; omega))) (cwV 1 hts mg_X10_isAtomAtmd5_X10_byteAt_133 rfl rfl rfl (by decide +kernel) ⟨Nat.le_of_ble_eq_true rfl, Nat.le_of_ble_eq_true rfl⟩) ⟨fun a U g mk q => by obtain ⟨q0, qP, qK⟩ := q; exact ⟨q0, qP, va_K.moved (u := U) (U := U.calling g mk a) (Vm.Alike.refl U.vm) qK⟩, va_recv hK hP (ci := 10) (q0 := 0) rfl rfl, fun U hU hW => ⟨rfl, by rw [hU]; exact hP, va_K.moved hW.alike hK⟩⟩ rfl rfl hl.1 rfl (lv_room (Nat.le_of_ble_eq_true rfl)) dX10_isAtomAt_5 ⟨Nat.le_of_ble_eq_true rfl, Nat.le_of_ble_eq_true rfl⟩) (fun r_1 hr_1 => ?_)
  have rg_r_1 := i_rng r_1
  refine lv_istore_n (lv' := [(2, .int r_1), (0, .ref (ad 0)), (1, .int i1)]) hx hb dX10_isAtomAt_8 rfl hl (by decide) rfl (fun ls hl => ?_)
  refine lv_iload_n hx hb dX10_isAtomAt_9 rfl (lv_at hl 0 rfl) ?_
  refine lv_bipush (v := 40) hx hb dX10_isAtomAt_10 (by decide) ?_
  refine lv_icmp_ne (tgt := 87) hx hb dX10_isAtomAt_12 (by decide) (fun k_2 => ?_) (fun k_2 => ?_)
  · have tk_2 := c_ne (a := r_1.toInt) (b := 40) rfl (by decide) k_2
    refine lv_aload_n hx hb dX10_isAtomAt_87 rfl (lv_at hl 1 rfl) ?_
    refine va_get (D := (dC, dI)) (ci := 10) (v := .int x11) (C := RX10) (T := TX10) (N := 48) hx hb hts fin_X10_isAtomAtmd5_X10 hown hK hP 0 rfl rfl 14 (by decide) (hts (.fieldLink RX10 151 "PatternGateModel" "spots" "I") (List.mem_of_getElem? (i := 9) (by decide +kernel))) (fun _ h9 => h9) rfl dX10_isAtomAt_88 ?_
    refine lv_bipush (v := 24) hx hb dX10_isAtomAt_91 (by decide) ?_
    refine lv_icmp_ne (tgt := 106) hx hb dX10_isAtomAt_93 (by decide) (fun k_3 => ?_) (fun k_3 => ?_)
    · have tk_3 := c_ne (a := x11.toInt) (b := 24) rfl (by decide) k_3
      refine lv_aload_n hx hb dX10_isAtomAt_106 rfl (lv_at hl 1 rfl) ?_
      refine lv_dup hx hb dX10_isAtomAt_107 rfl ?_
      refine va_get (D := (dC, dI)) (ci := 10) (v := .int x11) (C := RX10) (T := TX10) (N := 48) hx hb hts fin_X10_isAtomAtmd5_X10 hown hK hP 0 rfl rfl 14 (by decide) (hts (.fieldLink RX10 151 "PatternGateModel" "spots" "I") (List.mem_of_getElem? (i := 9) (by decide +kernel))) (fun _ h9 => h9) rfl dX10_isAtomAt_108 ?_
      refine lv_iconst (v := 1) hx hb dX10_isAtomAt_111 (by decide) ?_
      refine lv_iadd hx hb dX10_isAtomAt_112 ?_
      refine lv_topi (fun y_4 ey_4 => ?_)
      first | have ty_4 := i_add (a := x11.toInt) (b := 1) rfl (by decide) ey_4 (by omega) (by omega) | skip
      refine va_put (D := (dC, dI)) (ci := 10) (v := .int y_4) (ty := .int) (C := RX10) (T := TX10) (N := 48) hx hb hts fin_X10_isAtomAtmd5_X10 tyX10 tyX10_ok nmX10 hown hK hP hD hS 0 rfl rfl 14 (by decide) (hts (.fieldLink RX10 151 "PatternGateModel" "spots" "I") (List.mem_of_getElem? (i := 9) (by decide +kernel))) (fun _ h9 => h9) rfl (by decide +kernel) rfl rfl (Nat.le_of_ble_eq_true rfl) dX10_isAtomAt_113 (fun H locs hP hD hS => ?_)
      have hP : va_P (dC, dI) vwCl (mW ad kc x0 x1 x2 x3 x4 x5 x6 x7 x8 x9 x10 y_4 x12 x13 x14 x15 x16 x17 x18 x19 x20 x21 f0 f1 f2 f3 f4 f5 f6 f7 f8 f9 f10 f11 f12 f13 f14 f15 f16 f17 f18 f19 f20 f21 fL fN fP fM fO) H := hP
      have hD : va_D A (mW ad kc x0 x1 x2 x3 x4 x5 x6 x7 x8 x9 x10 y_4 x12 x13 x14 x15 x16 x17 x18 x19 x20 x21 f0 f1 f2 f3 f4 f5 f6 f7 f8 f9 f10 f11 f12 f13 f14 f15 f16 f17 f18 f19 f20 f21 fL fN fP fM fO) := hD
      refine lv_aload_n hx hb dX10_isAtomAt_116 rfl (lv_at hl 1 rfl) ?_
      refine lv_dup hx hb dX10_isAtomAt_117 rfl ?_
      refine va_get (D := (dC, dI)) (ci := 10) (v := .int x7) (C := RX10) (T := TX10) (N := 48) hx hb hts fin_X10_isAtomAtmd5_X10 hown hK hP 0 rfl rfl 10 (by decide) (hts (.fieldLink RX10 130 "PatternGateModel" "end" "I") (List.mem_of_getElem? (i := 1) (by decide +kernel))) (fun _ h9 => h9) rfl dX10_isAtomAt_118 ?_
      refine lv_iconst (v := 1) hx hb dX10_isAtomAt_121 (by decide) ?_
      refine lv_iadd hx hb dX10_isAtomAt_122 ?_
      refine lv_topi (fun y_5 ey_5 => ?_)
      first | have ty_5 := i_add (a := x7.toInt) (b := 1) rfl (by decide) ey_5 (by omega) (by omega) | skip
      refine va_put (D := (dC, dI)) (ci := 10) (v := .int y_5) (ty := .int) (C := RX10) (T := TX10) (N := 48) hx hb hts fin_X10_isAtomAtmd5_X10 tyX10 tyX10_ok nmX10 hown hK hP hD hS 0 rfl rfl 10 (by decide) (hts (.fieldLink RX10 130 "PatternGateModel" "end" "I") (List.mem_of_getElem? (i := 1) (by decide +kernel))) (fun _ h9 => h9) rfl (by decide +kernel) rfl rfl (Nat.le_of_ble_eq_true rfl) dX10_isAtomAt_123 (fun H locs hP hD hS => ?_)
      have hP : va_P (dC, dI) vwCl (mW ad kc x0 x1 x2 x3 x4 x5 x6 y_5 x8 x9 x10 y_4 x12 x13 x14 x15 x16 x17 x18 x19 x20 x21 f0 f1 f2 f3 f4 f5 f6 f7 f8 f9 f10 f11 f12 f13 f14 f15 f16 f17 f18 f19 f20 f21 fL fN fP fM fO) H := hP
      have hD : va_D A (mW ad kc x0 x1 x2 x3 x4 x5 x6 y_5 x8 x9 x10 y_4 x12 x13 x14 x15 x16 x17 x18 x19 x20 x21 f0 f1 f2 f3 f4 f5 f6 f7 f8 f9 f10 f11 f12 f13 f14 f15 f16 f17 f18 f19 f20 f21 fL fN fP fM fO) := hD
      refine lv_iload_n hx hb dX10_isAtomAt_126 rfl (lv_at hl 0 rfl) ?_
      refine lv_bipush (v := 91) hx hb dX10_isAtomAt_127 (by decide) ?_
      refine lv_icmp_ne (tgt := 139) hx hb dX10_isAtomAt_129 (by decide) (fun k_6 => ?_) (fun k_6 => ?_)
      · have tk_6 := c_ne (a := r_1.toInt) (b := 91) rfl (by decide) k_6
        refine lv_iconst (v := 1) hx hb dX10_isAtomAt_139 (by decide) ?_
        refine lv_goto (tgt := 144) hx hb dX10_isAtomAt_140 (by decide) ?_
        have lit_6 : (1 : Int32).toInt = 1 := by decide
        exact W.zret hx hb hr (z_nar (by first | assumption | decide | exact z_of (by omega))) (fun t ht hW => ⟨⟨_, _, rfl, rfl, y_5, x8, x9, y_4, (by first | omega | assumption | rfl | decide), (by first | omega | assumption | rfl | decide), (by first | omega | assumption | rfl | decide), (by first | omega | assumption | rfl | decide), (Or.inl ⟨by decide, ⟨Or.inl ⟨by unfold isSm; omega, by omega, by omega⟩, by omega, by omega⟩⟩), by rw [ht]; exact hP, va_K.moved hW.alike hK, hD⟩, hS.F ht⟩) hS.2.2 dX10_isAtomAt_144
      · have tk_6 := c_eq (a := r_1.toInt) (b := 91) rfl (by decide) k_6
        refine lv_aload_n hx hb dX10_isAtomAt_132 rfl (lv_at hl 1 rfl) ?_
        have hFc := m_free hD hS hA
        refine va_calli (va_runV (As := []) (rest := []) ⟨hx, hb, hml, hown, hts⟩ (m_isSetAt l dC dI ad kc x0 x1 x2 x3 x4 x5 x6 y_5 x8 x9 x10 y_4 x12 x13 x14 x15 x16 x17 x18 x19 x20 x21 f0 f1 f2 f3 f4 f5 f6 f7 f8 f9 f10 f11 f12 f13 f14 f15 f16 f17 f18 f19 f20 f21 fL fN fP fM fO H.size (by first | omega | assumption | decide | (have l0 := Int32.toInt_zero; omega)) (by first | omega | assumption | decide | (have l0 := Int32.toInt_zero; omega)) (by first | omega | assumption | decide | (have l0 := Int32.toInt_zero; omega))) (cwV 0 hts mg_X10_isAtomAtmd5_X10_isSetAt_166 rfl rfl rfl (by decide +kernel) ⟨Nat.le_of_ble_eq_true rfl, Nat.le_of_ble_eq_true rfl⟩) ⟨fun a U g mk q => by obtain ⟨q0, q1, qP, qK, qD⟩ := q; exact ⟨q0, q1, qP, va_K.moved (u := U) (U := U.calling g mk a) (Vm.Alike.refl U.vm) qK, qD⟩, va_recv hK hP (ci := 10) (q0 := 0) rfl rfl, fun U hU hW => ⟨rfl, by rw [hU], by rw [hU]; exact hP, va_K.moved hW.alike hK, hD.weaken (fun _ _ _ _ => trivial)⟩⟩ rfl rfl hl.1 rfl (lv_room (Nat.le_of_ble_eq_true rfl)) dX10_isAtomAt_133 ⟨Nat.le_of_ble_eq_true rfl, Nat.le_of_ble_eq_true rfl⟩) hS (fun q _ h => hFc q h) hFc (fun r_8 u t H1 locs ht hvm hw hB hz1 hk1 hS => ?_)
        subst hw
        obtain ⟨x_9, x_10, x_11, hr_8_0, hr_8_1, hr_8_2, hP, hK1, hD1⟩ := hB
        rw [ht] at hP
        have hD := hD1.weaken (fun k q _ h => hFc q.1 h)
        generalize H1 = H at hP hS ⊢
        have rg_x_9 := i_rng x_9
        have rg_x_10 := i_rng x_10
        have rg_x_11 := i_rng x_11
        have rg_r_8 := i_rng r_8
        have hP : va_P (dC, dI) vwCl (mW ad kc x0 x1 x2 x3 x4 x5 x6 x_9 x_10 x_11 x10 y_4 x12 x13 x14 x15 x16 x17 x18 x19 x20 x21 f0 f1 f2 f3 f4 f5 f6 f7 f8 f9 f10 f11 f12 f13 f14 f15 f16 f17 f18 f19 f20 f21 fL fN fP fM fO) H := hP
        have hD : va_D A (mW ad kc x0 x1 x2 x3 x4 x5 x6 x_9 x_10 x_11 x10 y_4 x12 x13 x14 x15 x16 x17 x18 x19 x20 x21 f0 f1 f2 f3 f4 f5 f6 f7 f8 f9 f10 f11 f12 f13 f14 f15 f16 f17 f18 f19 f20 f21 fL fN fP fM fO) := hD
        refine lv_if_eq (tgt := 143) hx hb dX10_isAtomAt_136 (by decide) (fun k_12 => ?_) (fun k_12 => ?_)
        · have tk_12 := c_eq (a := r_8.toInt) (b := 0) rfl (by decide) k_12
          refine lv_iconst (v := 0) hx hb dX10_isAtomAt_143 (by decide) ?_
          have lit_12 : (0 : Int32).toInt = 0 := by decide
          exact W.zret hx hb hr (z_nar (by first | assumption | decide | exact z_of (by omega))) (fun t ht hW => ⟨⟨_, _, rfl, rfl, x_9, x_10, x_11, y_4, (by first | omega | assumption | rfl | decide), (by first | omega | assumption | rfl | decide), (by first | omega | assumption | rfl | decide), (by first | omega | assumption | rfl | decide), (Or.inr (by first | omega | decide)), by rw [ht]; exact hP, va_K.moved hW.alike hK, hD⟩, hS.F ht⟩) hS.2.2 dX10_isAtomAt_144
        · have tk_12 := c_ne (a := r_8.toInt) (b := 0) rfl (by decide) k_12
          have hT := tf_t hr_8_2 (by omega)
          refine lv_iconst (v := 1) hx hb dX10_isAtomAt_139 (by decide) ?_
          refine lv_goto (tgt := 144) hx hb dX10_isAtomAt_140 (by decide) ?_
          have lit_13 : (1 : Int32).toInt = 1 := by decide
          exact W.zret hx hb hr (z_nar (by first | assumption | decide | exact z_of (by omega))) (fun t ht hW => ⟨⟨_, _, rfl, rfl, x_9, x_10, x_11, y_4, (by first | omega | assumption | rfl | decide), (by first | omega | assumption | rfl | decide), (by first | omega | assumption | rfl | decide), (by first | omega | assumption | rfl | decide), (Or.inl ⟨by decide, ⟨Or.inr (Or.inl ⟨by omega, by rw [← show y_5.toInt = x7.toInt + 1 by omega]; exact hT.1, by omega⟩), by omega, by omega⟩⟩), by rw [ht]; exact hP, va_K.moved hW.alike hK, hD⟩, hS.F ht⟩) hS.2.2 dX10_isAtomAt_144
    · have tk_3 := c_eq (a := x11.toInt) (b := 24) rfl (by decide) k_3
      refine lv_aload_n hx hb dX10_isAtomAt_96 rfl (lv_at hl 1 rfl) ?_
      refine lv_iconst (v := 4) hx hb dX10_isAtomAt_97 (by decide) ?_
      refine lv_aload_n hx hb dX10_isAtomAt_98 rfl (lv_at hl 1 rfl) ?_
      refine va_get (D := (dC, dI)) (ci := 10) (v := .int x7) (C := RX10) (T := TX10) (N := 48) hx hb hts fin_X10_isAtomAtmd5_X10 hown hK hP 0 rfl rfl 10 (by decide) (hts (.fieldLink RX10 130 "PatternGateModel" "end" "I") (List.mem_of_getElem? (i := 1) (by decide +kernel))) (fun _ h9 => h9) rfl dX10_isAtomAt_99 ?_
      have hFc := m_free hD hS hA
      refine va_calli (va_runV (As := [.int 4, .int x7]) (rest := []) ⟨hx, hb, hml, hown, hts⟩ (m_failsAt l dC dI ad kc x0 x1 x2 x3 x4 x5 x6 x7 x8 x9 x10 x11 x12 x13 x14 x15 x16 x17 x18 x19 x20 x21 f0 f1 f2 f3 f4 f5 f6 f7 f8 f9 f10 f11 f12 f13 f14 f15 f16 f17 f18 f19 f20 f21 fL fN fP fM fO H.size 4 x7 ) (cwV 2 hts mg_X10_isAtomAtmd5_X10_failsAt_126 rfl rfl rfl (by decide +kernel) ⟨Nat.le_of_ble_eq_true rfl, Nat.le_of_ble_eq_true rfl⟩) ⟨fun a U g mk q => by obtain ⟨q0, q1, qP, qK, qD⟩ := q; exact ⟨q0, q1, qP, va_K.moved (u := U) (U := U.calling g mk a) (Vm.Alike.refl U.vm) qK, qD⟩, va_recv hK hP (ci := 10) (q0 := 0) rfl rfl, fun U hU hW => ⟨rfl, by rw [hU], by rw [hU]; exact hP, va_K.moved hW.alike hK, hD.weaken (fun _ _ _ _ => trivial)⟩⟩ rfl rfl hl.1 rfl (lv_room (Nat.le_of_ble_eq_true rfl)) dX10_isAtomAt_102 ⟨Nat.le_of_ble_eq_true rfl, Nat.le_of_ble_eq_true rfl⟩) hS (fun q _ h => hFc q h) hFc (fun r_15 u t H1 locs ht hvm hw hB hz1 hk1 hS => ?_)
      subst hw
      obtain ⟨x_16, x_17, hr_15_0, hP, hK1, hD1⟩ := hB
      rw [ht] at hP
      have hD := hD1.weaken (fun k q _ h => hFc q.1 h)
      generalize H1 = H at hP hS ⊢
      have rg_x_16 := i_rng x_16
      have rg_x_17 := i_rng x_17
      have rg_r_15 := i_rng r_15
      have hP : va_P (dC, dI) vwCl (mW ad kc x0 x1 x2 x3 x4 x5 x6 x7 x_16 x_17 x10 x11 x12 x13 x14 x15 x16 x17 x18 x19 x20 x21 f0 f1 f2 f3 f4 f5 f6 f7 f8 f9 f10 f11 f12 f13 f14 f15 f16 f17 f18 f19 f20 f21 fL fN fP fM fO) H := hP
      have hD : va_D A (mW ad kc x0 x1 x2 x3 x4 x5 x6 x7 x_16 x_17 x10 x11 x12 x13 x14 x15 x16 x17 x18 x19 x20 x21 f0 f1 f2 f3 f4 f5 f6 f7 f8 f9 f10 f11 f12 f13 f14 f15 f16 f17 f18 f19 f20 f21 fL fN fP fM fO) := hD
      exact W.zret hx hb hr (z_nar (by first | assumption | decide | exact z_of (by omega))) (fun t ht hW => ⟨⟨_, _, rfl, rfl, x7, x_16, x_17, x11, (by first | omega | assumption | rfl | decide), (by first | omega | assumption | rfl | decide), (by first | omega | assumption | rfl | decide), (by first | omega | assumption | rfl | decide), (Or.inr (by first | omega | decide)), by rw [ht]; exact hP, va_K.moved hW.alike hK, hD⟩, hS.F ht⟩) hS.2.2 dX10_isAtomAt_105
  · have tk_2 := c_eq (a := r_1.toInt) (b := 40) rfl (by decide) k_2
    refine lv_iload_n hx hb dX10_isAtomAt_15 rfl (lv_at hl 2 rfl) ?_
    refine lv_iconst (v := 5) hx hb dX10_isAtomAt_16 (by decide) ?_
    refine lv_icmp_ne (tgt := 30) hx hb dX10_isAtomAt_17 (by decide) (fun k_18 => absurd (Int32.toInt_inj.mp (by rw [q5]; decide)) k_18) (fun k_18 => ?_)
    have tk_18 := c_eq (a := i1.toInt) (b := 5) rfl (by decide) k_18
    refine lv_aload_n hx hb dX10_isAtomAt_20 rfl (lv_at hl 1 rfl) ?_
    refine lv_iconst (v := 4) hx hb dX10_isAtomAt_21 (by decide) ?_
    refine lv_aload_n hx hb dX10_isAtomAt_22 rfl (lv_at hl 1 rfl) ?_
    refine va_get (D := (dC, dI)) (ci := 10) (v := .int x7) (C := RX10) (T := TX10) (N := 48) hx hb hts fin_X10_isAtomAtmd5_X10 hown hK hP 0 rfl rfl 10 (by decide) (hts (.fieldLink RX10 130 "PatternGateModel" "end" "I") (List.mem_of_getElem? (i := 1) (by decide +kernel))) (fun _ h9 => h9) rfl dX10_isAtomAt_23 ?_
    have hFc := m_free hD hS hA
    refine va_calli (va_runV (As := [.int 4, .int x7]) (rest := []) ⟨hx, hb, hml, hown, hts⟩ (m_failsAt l dC dI ad kc x0 x1 x2 x3 x4 x5 x6 x7 x8 x9 x10 x11 x12 x13 x14 x15 x16 x17 x18 x19 x20 x21 f0 f1 f2 f3 f4 f5 f6 f7 f8 f9 f10 f11 f12 f13 f14 f15 f16 f17 f18 f19 f20 f21 fL fN fP fM fO H.size 4 x7 ) (cwV 2 hts mg_X10_isAtomAtmd5_X10_failsAt_126 rfl rfl rfl (by decide +kernel) ⟨Nat.le_of_ble_eq_true rfl, Nat.le_of_ble_eq_true rfl⟩) ⟨fun a U g mk q => by obtain ⟨q0, q1, qP, qK, qD⟩ := q; exact ⟨q0, q1, qP, va_K.moved (u := U) (U := U.calling g mk a) (Vm.Alike.refl U.vm) qK, qD⟩, va_recv hK hP (ci := 10) (q0 := 0) rfl rfl, fun U hU hW => ⟨rfl, by rw [hU], by rw [hU]; exact hP, va_K.moved hW.alike hK, hD.weaken (fun _ _ _ _ => trivial)⟩⟩ rfl rfl hl.1 rfl (lv_room (Nat.le_of_ble_eq_true rfl)) dX10_isAtomAt_26 ⟨Nat.le_of_ble_eq_true rfl, Nat.le_of_ble_eq_true rfl⟩) hS (fun q _ h => hFc q h) hFc (fun r_19 u t H1 locs ht hvm hw hB hz1 hk1 hS => ?_)
    subst hw
    obtain ⟨x_20, x_21, hr_19_0, hP, hK1, hD1⟩ := hB
    rw [ht] at hP
    have hD := hD1.weaken (fun k q _ h => hFc q.1 h)
    generalize H1 = H at hP hS ⊢
    have rg_x_20 := i_rng x_20
    have rg_x_21 := i_rng x_21
    have rg_r_19 := i_rng r_19
    have hP : va_P (dC, dI) vwCl (mW ad kc x0 x1 x2 x3 x4 x5 x6 x7 x_20 x_21 x10 x11 x12 x13 x14 x15 x16 x17 x18 x19 x20 x21 f0 f1 f2 f3 f4 f5 f6 f7 f8 f9 f10 f11 f12 f13 f14 f15 f16 f17 f18 f19 f20 f21 fL fN fP fM fO) H := hP
    have hD : va_D A (mW ad kc x0 x1 x2 x3 x4 x5 x6 x7 x_20 x_21 x10 x11 x12 x13 x14 x15 x16 x17 x18 x19 x20 x21 f0 f1 f2 f3 f4 f5 f6 f7 f8 f9 f10 f11 f12 f13 f14 f15 f16 f17 f18 f19 f20 f21 fL fN fP fM fO) := hD
    exact W.zret hx hb hr (z_nar (by first | assumption | decide | exact z_of (by omega))) (fun t ht hW => ⟨⟨_, _, rfl, rfl, x7, x_20, x_21, x11, (by first | omega | assumption | rfl | decide), (by first | omega | assumption | rfl | decide), (by first | omega | assumption | rfl | decide), (by first | omega | assumption | rfl | decide), (Or.inr (by first | omega | decide)), by rw [ht]; exact hP, va_K.moved hW.alike hK, hD⟩, hS.F ht⟩) hS.2.2 dX10_isAtomAt_29
theorem dX10_isBranchAt_0 : decode cX10_isBranchAt 0 = .ok (.aload_n 0, 1) := by decide +kernel
theorem dX10_isBranchAt_1 : decode cX10_isBranchAt 1 = .ok (.aload_n 0, 1) := by decide +kernel
theorem dX10_isBranchAt_2 : decode cX10_isBranchAt 2 = .ok (.aload_n 0, 1) := by decide +kernel
theorem dX10_isBranchAt_3 : decode cX10_isBranchAt 3 = .ok (.getfield 130, 3) := by decide +kernel
theorem dX10_isBranchAt_6 : decode cX10_isBranchAt 6 = .ok (.invokevirtual 133, 3) := by decide +kernel
theorem dX10_isBranchAt_9 : decode cX10_isBranchAt 9 = .ok (.invokevirtual 160, 3) := by decide +kernel
theorem dX10_isBranchAt_12 : decode cX10_isBranchAt 12 = .ok (.ifCond .ne 13, 3) := by decide +kernel
theorem dX10_isBranchAt_15 : decode cX10_isBranchAt 15 = .ok (.aload_n 0, 1) := by decide +kernel
theorem dX10_isBranchAt_16 : decode cX10_isBranchAt 16 = .ok (.iconst 1, 1) := by decide +kernel
theorem dX10_isBranchAt_17 : decode cX10_isBranchAt 17 = .ok (.aload_n 0, 1) := by decide +kernel
theorem dX10_isBranchAt_18 : decode cX10_isBranchAt 18 = .ok (.getfield 130, 3) := by decide +kernel
theorem dX10_isBranchAt_21 : decode cX10_isBranchAt 21 = .ok (.invokevirtual 126, 3) := by decide +kernel
theorem dX10_isBranchAt_24 : decode cX10_isBranchAt 24 = .ok (.ireturn, 1) := by decide +kernel
theorem dX10_isBranchAt_25 : decode cX10_isBranchAt 25 = .ok (.aload_n 0, 1) := by decide +kernel
theorem dX10_isBranchAt_26 : decode cX10_isBranchAt 26 = .ok (.aload_n 0, 1) := by decide +kernel
theorem dX10_isBranchAt_27 : decode cX10_isBranchAt 27 = .ok (.aload_n 0, 1) := by decide +kernel
theorem dX10_isBranchAt_28 : decode cX10_isBranchAt 28 = .ok (.getfield 130, 3) := by decide +kernel
theorem dX10_isBranchAt_31 : decode cX10_isBranchAt 31 = .ok (.invokevirtual 133, 3) := by decide +kernel
theorem dX10_isBranchAt_34 : decode cX10_isBranchAt 34 = .ok (.invokevirtual 160, 3) := by decide +kernel
theorem dX10_isBranchAt_37 : decode cX10_isBranchAt 37 = .ok (.ifCond .eq 57, 3) := by decide +kernel
theorem dX10_isBranchAt_40 : decode cX10_isBranchAt 40 = .ok (.aload_n 0, 1) := by decide +kernel
theorem dX10_isBranchAt_41 : decode cX10_isBranchAt 41 = .ok (.iload_n 1, 1) := by decide +kernel
theorem dX10_isBranchAt_42 : decode cX10_isBranchAt 42 = .ok (.invokevirtual 163, 3) := by decide +kernel
theorem dX10_isBranchAt_45 : decode cX10_isBranchAt 45 = .ok (.ifCond .ne 5, 3) := by decide +kernel
theorem dX10_isBranchAt_48 : decode cX10_isBranchAt 48 = .ok (.iconst 0, 1) := by decide +kernel
theorem dX10_isBranchAt_49 : decode cX10_isBranchAt 49 = .ok (.ireturn, 1) := by decide +kernel
theorem dX10_isBranchAt_50 : decode cX10_isBranchAt 50 = .ok (.aload_n 0, 1) := by decide +kernel
theorem dX10_isBranchAt_51 : decode cX10_isBranchAt 51 = .ok (.aload_n 0, 1) := by decide +kernel
theorem dX10_isBranchAt_52 : decode cX10_isBranchAt 52 = .ok (.getfield 130, 3) := by decide +kernel
theorem dX10_isBranchAt_55 : decode cX10_isBranchAt 55 = .ok (.invokevirtual 133, 3) := by decide +kernel
theorem dX10_isBranchAt_58 : decode cX10_isBranchAt 58 = .ok (.istore_n 2, 1) := by decide +kernel
theorem dX10_isBranchAt_59 : decode cX10_isBranchAt 59 = .ok (.aload_n 0, 1) := by decide +kernel
theorem dX10_isBranchAt_60 : decode cX10_isBranchAt 60 = .ok (.dup, 1) := by decide +kernel
theorem dX10_isBranchAt_61 : decode cX10_isBranchAt 61 = .ok (.getfield 130, 3) := by decide +kernel
theorem dX10_isBranchAt_64 : decode cX10_isBranchAt 64 = .ok (.iload_n 2, 1) := by decide +kernel
theorem dX10_isBranchAt_65 : decode cX10_isBranchAt 65 = .ok (.bipush 42, 2) := by decide +kernel
theorem dX10_isBranchAt_67 : decode cX10_isBranchAt 67 = .ok (.if_icmp .eq 15, 3) := by decide +kernel
theorem dX10_isBranchAt_70 : decode cX10_isBranchAt 70 = .ok (.iload_n 2, 1) := by decide +kernel
theorem dX10_isBranchAt_71 : decode cX10_isBranchAt 71 = .ok (.bipush 43, 2) := by decide +kernel
theorem dX10_isBranchAt_73 : decode cX10_isBranchAt 73 = .ok (.if_icmp .eq 9, 3) := by decide +kernel
theorem dX10_isBranchAt_76 : decode cX10_isBranchAt 76 = .ok (.iload_n 2, 1) := by decide +kernel
theorem dX10_isBranchAt_77 : decode cX10_isBranchAt 77 = .ok (.bipush 63, 2) := by decide +kernel
theorem dX10_isBranchAt_79 : decode cX10_isBranchAt 79 = .ok (.if_icmp .ne 7, 3) := by decide +kernel
theorem dX10_isBranchAt_82 : decode cX10_isBranchAt 82 = .ok (.iconst 1, 1) := by decide +kernel
theorem dX10_isBranchAt_83 : decode cX10_isBranchAt 83 = .ok (.goto 4, 3) := by decide +kernel
theorem dX10_isBranchAt_86 : decode cX10_isBranchAt 86 = .ok (.iconst 0, 1) := by decide +kernel
theorem dX10_isBranchAt_87 : decode cX10_isBranchAt 87 = .ok (.iadd, 1) := by decide +kernel
theorem dX10_isBranchAt_88 : decode cX10_isBranchAt 88 = .ok (.putfield 130, 3) := by decide +kernel
theorem dX10_isBranchAt_91 : decode cX10_isBranchAt 91 = .ok (.goto (-66), 3) := by decide +kernel
theorem dX10_isBranchAt_94 : decode cX10_isBranchAt 94 = .ok (.iconst 1, 1) := by decide +kernel
theorem dX10_isBranchAt_95 : decode cX10_isBranchAt 95 = .ok (.ireturn, 1) := by decide +kernel
def mwX10_isBranchAtmd5 : List Cond := .code yX10_isBranchAt cX10_isBranchAt 3 (some .boolean) :: ([.fieldLink RX10 130 "PatternGateModel" "end" "I", .code yX10_byteAt cX10_byteAt 2 (some .int), .fieldLink RX10 114 "PatternGateModel" "size" "I", .fieldLink RX10 18 "PatternGateModel" "text" "[B", .methodLink RX10 133 yX10_byteAt, .instanceMethod yX10_byteAt, .selects RX10 yX10_byteAt yX10_byteAt, .initialized RX10, .code yX10_isAtomSign cX10_isAtomSign 2 (some .boolean), .code yX10_isSmall cX10_isSmall 1 (some .boolean), .methodLink RX10 137 yX10_isSmall, .static yX10_isSmall, .methodLink RX10 160 yX10_isAtomSign, .instanceMethod yX10_isAtomSign, .selects RX10 yX10_isAtomSign yX10_isAtomSign, .code yX10_isAtomAt cX10_isAtomAt 3 (some .boolean), .fieldLink RX10 151 "PatternGateModel" "spots" "I", .code yX10_isSetAt cX10_isSetAt 3 (some .boolean), .code yX10_failsAt cX10_failsAt 3 (some .boolean), .fieldLink RX10 117 "PatternGateModel" "faults" "I", .fieldLink RX10 21 "PatternGateModel" "faultPlace" "I", .methodLink RX10 126 yX10_failsAt, .instanceMethod yX10_failsAt, .selects RX10 yX10_failsAt yX10_failsAt, .code yX10_has cX10_has 2 (some .boolean), .methodLink RX10 170 yX10_has, .static yX10_has, .methodLink RX10 166 yX10_isSetAt, .instanceMethod yX10_isSetAt, .selects RX10 yX10_isSetAt yX10_isSetAt, .methodLink RX10 163 yX10_isAtomAt, .instanceMethod yX10_isAtomAt, .selects RX10 yX10_isAtomAt yX10_isAtomAt] ++ wsX100)
theorem fin_X10_isBranchAtmd5_X10 : ∀ w ∈ wsX100, w ∈ mwX10_isBranchAtmd5 := fun w h => List.mem_cons_of_mem _ (List.mem_append_right _ h)
set_option maxRecDepth 20000 in
theorem mg_X10_isBranchAtmd5_X10_byteAt_133 : GoodIn mwX10_isBranchAtmd5 (wsV RX10 133 RX10 yX10_byteAt mwX10_byteAtm) := goodIn_r _ [5, 6, 7, 8, 2, 3, 4, 34, 35, 36, 37, 38, 39, 40, 41, 42, 43, 44, 45, 46, 47, 48, 49, 50, 51, 52, 53, 54, 55, 56, 57, 58, 59, 60, 61, 62, 63, 64, 65, 66, 67, 68, 69, 70, 71, 72, 73, 74, 75, 76, 77, 78, 79, 80, 81] (by decide +kernel) (by decide +kernel)
set_option maxRecDepth 20000 in
theorem mg_X10_isBranchAtmd5_X10_isAtomSign_160 : GoodIn mwX10_isBranchAtmd5 (wsV RX10 160 RX10 yX10_isAtomSign mwX10_isAtomSignm) := goodIn_r _ [13, 14, 15, 8, 9, 10, 11, 12, 8] (by decide +kernel) (by decide +kernel)
set_option maxRecDepth 20000 in
theorem mg_X10_isBranchAtmd5_X10_isAtomAt_163 : GoodIn mwX10_isBranchAtmd5 (wsV RX10 163 RX10 yX10_isAtomAt mwX10_isAtomAtmd5) := goodIn_r _ [31, 32, 33, 8, 16, 1, 2, 3, 4, 5, 6, 7, 8, 17, 18, 10, 11, 12, 19, 20, 21, 22, 23, 24, 25, 26, 27, 28, 29, 30, 34, 35, 36, 37, 38, 39, 40, 41, 42, 43, 44, 45, 46, 47, 48, 49, 50, 51, 52, 53, 54, 55, 56, 57, 58, 59, 60, 61, 62, 63, 64, 65, 66, 67, 68, 69, 70, 71, 72, 73, 74, 75, 76, 77, 78, 79, 80, 81] (by decide +kernel) (by decide +kernel)
set_option maxRecDepth 20000 in
theorem mg_X10_isBranchAtmd5_X10_failsAt_126 : GoodIn mwX10_isBranchAtmd5 (wsV RX10 126 RX10 yX10_failsAt mwX10_failsAtm) := goodIn_r _ [22, 23, 24, 8, 19, 20, 21, 34, 35, 36, 37, 38, 39, 40, 41, 42, 43, 44, 45, 46, 47, 48, 49, 50, 51, 52, 53, 54, 55, 56, 57, 58, 59, 60, 61, 62, 63, 64, 65, 66, 67, 68, 69, 70, 71, 72, 73, 74, 75, 76, 77, 78, 79, 80, 81] (by decide +kernel) (by decide +kernel)
set_option maxHeartbeats 4000000 in
set_option maxRecDepth 100000 in
theorem m_isBranchAt5 (l : Launch) (dC : Nat → ClassId) (dI : Nat → Nat → Nat) (ad : Nat → Nat) (kc : Nat → ClassId) (x0 x1 x2 x3 x4 x5 x6 x7 x8 x9 x10 x11 x12 x13 x14 x15 x16 x17 x18 x19 x20 x21 : Int32) (f0 f1 f2 f3 f4 f5 f6 f7 f8 f9 f10 f11 f12 f13 f14 f15 f16 f17 f18 f19 f20 f21 : Nat → Int32) (fL : Nat → Nat → Int64) (fN : Nat → Nat → Int32) (fP : Nat → Nat → Nat) (fM : Nat → Nat → Int32) (fO : Nat → Nat → Int32) (sz : Nat) (i1 : Int32) (q0 : 0 ≤ x7.toInt) (q1 : x7.toInt ≤ x4.toInt) (q2 : x4.toInt ≤ 900) (q3 : 0 ≤ x11.toInt) (q4 : x11.toInt ≤ 24) (q5 : i1.toInt = 5) : Met l yX10_isBranchAt mwX10_isBranchAtmd5 ({ frames := 3, cells := 0, slots := 0, locals := 180 }) (va_Pc [.ref (ad 0), .int i1] (fun U => U.heap.size = sz ∧ va_P (dC, dI) vwCl (mW ad kc x0 x1 x2 x3 x4 x5 x6 x7 x8 x9 x10 x11 x12 x13 x14 x15 x16 x17 x18 x19 x20 x21 f0 f1 f2 f3 f4 f5 f6 f7 f8 f9 f10 f11 f12 f13 f14 f15 f16 f17 f18 f19 f20 f21 fL fN fP fM fO) U.heap ∧ va_K (dC, dI) vwCl (mT kc) U ∧ va_D (fun _ => True) (mW ad kc x0 x1 x2 x3 x4 x5 x6 x7 x8 x9 x10 x11 x12 x13 x14 x15 x16 x17 x18 x19 x20 x21 f0 f1 f2 f3 f4 f5 f6 f7 f8 f9 f10 f11 f12 f13 f14 f15 f16 f17 f18 f19 f20 f21 fL fN fP fM fO))) (va_Qi (fun (o9 u9 : Int32) => o9 = u9) (fun (o9 : Int32) t => ∃ (y7 y8 y9 y11 : Int32), (x7.toInt ≤ y7.toInt) ∧ (y7.toInt ≤ x4.toInt) ∧ (x11.toInt ≤ y11.toInt) ∧ (y11.toInt ≤ 24) ∧ (o9.toInt = 1 ∧ (pBranch (tx f2 x4.toInt) (pSub (tx f2 x4.toInt) 0) x7.toInt y7.toInt (y11.toInt - x11.toInt) ∧ x11.toInt < y11.toInt ∧ x7.toInt < y7.toInt) ∨ o9.toInt = 0) ∧ va_P (dC, dI) vwCl (mW ad kc x0 x1 x2 x3 x4 x5 x6 y7 y8 y9 x10 y11 x12 x13 x14 x15 x16 x17 x18 x19 x20 x21 f0 f1 f2 f3 f4 f5 f6 f7 f8 f9 f10 f11 f12 f13 f14 f15 f16 f17 f18 f19 f20 f21 fL fN fP fM fO) t.heap ∧ va_K (dC, dI) vwCl (mT kc) t ∧ va_D (va_A (mW ad kc x0 x1 x2 x3 x4 x5 x6 x7 x8 x9 x10 x11 x12 x13 x14 x15 x16 x17 x18 x19 x20 x21 f0 f1 f2 f3 f4 f5 f6 f7 f8 f9 f10 f11 f12 f13 f14 f15 f16 f17 f18 f19 f20 f21 fL fN fP fM fO) sz) (mW ad kc x0 x1 x2 x3 x4 x5 x6 y7 y8 y9 x10 y11 x12 x13 x14 x15 x16 x17 x18 x19 x20 x21 f0 f1 f2 f3 f4 f5 f6 f7 f8 f9 f10 f11 f12 f13 f14 f15 f16 f17 f18 f19 f20 f21 fL fN fP fM fO)) (va_A (mW ad kc x0 x1 x2 x3 x4 x5 x6 x7 x8 x9 x10 x11 x12 x13 x14 x15 x16 x17 x18 x19 x20 x21 f0 f1 f2 f3 f4 f5 f6 f7 f8 f9 f10 f11 f12 f13 f14 f15 f16 f17 f18 f19 f20 f21 fL fN fP fM fO) sz)) 0 0 (va_A (mW ad kc x0 x1 x2 x3 x4 x5 x6 x7 x8 x9 x10 x11 x12 x13 x14 x15 x16 x17 x18 x19 x20 x21 f0 f1 f2 f3 f4 f5 f6 f7 f8 f9 f10 f11 f12 f13 f14 f15 f16 f17 f18 f19 f20 f21 fL fN fP fM fO) sz) := by
  refine Met.ofW (cc := cX10_isBranchAt) (maxL := 3) (ret := (some .boolean)) (by decide +kernel) rfl ?_
  intro p e s m args below meth c s₁ B hml hv
  obtain ⟨rfl, hsz, hP, hK, hD0⟩ := hv
  have hx := B.exec
  have hb := B.bytes
  have hr := B.returns
  have hts := atoms_spec (ws := mwX10_isBranchAtmd5) B.pre
  have hown : s.vm.findClass RX10 = some m.cls := findClass_of_methodNamed B.named
  have hlocks := B.notSynchronized
  subst hsz
  have hD := hD0.self (sz := s.heap.size)
  generalize hAe : va_A (mW ad kc x0 x1 x2 x3 x4 x5 x6 x7 x8 x9 x10 x11 x12 x13 x14 x15 x16 x17 x18 x19 x20 x21 f0 f1 f2 f3 f4 f5 f6 f7 f8 f9 f10 f11 f12 f13 f14 f15 f16 f17 f18 f19 f20 f21 fL fN fP fM fO) s.heap.size = A at hD ⊢
  have hA : ∀ q : Nat, s.heap.size ≤ q → A q := fun q h => by rw [← hAe]; exact Or.inr h
  have hP : va_P (dC, dI) vwCl (mW ad kc x0 x1 x2 x3 x4 x5 x6 x7 x8 x9 x10 x11 x12 x13 x14 x15 x16 x17 x18 x19 x20 x21 f0 f1 f2 f3 f4 f5 f6 f7 f8 f9 f10 f11 f12 f13 f14 f15 f16 f17 f18 f19 f20 f21 fL fN fP fM fO) s.heap := hP
  have hD : va_D A (mW ad kc x0 x1 x2 x3 x4 x5 x6 x7 x8 x9 x10 x11 x12 x13 x14 x15 x16 x17 x18 x19 x20 x21 f0 f1 f2 f3 f4 f5 f6 f7 f8 f9 f10 f11 f12 f13 f14 f15 f16 f17 f18 f19 f20 f21 fL fN fP fM fO) := hD
  have hK : va_K (dC, dI) vwCl (mT kc) s := hK
  generalize hH : s.heap = H at hP ⊢
  have hS : va_S A s.heap H [] := by rw [← hH]; exact va_S.rf
  have hl := lv_entry ([.ref (ad 0), .int i1]) (n := 3) (Nat.le_of_ble_eq_true rfl)
  rw [lg_entry_eq]
  generalize (lg_sl ([.ref (ad 0), .int i1]) ++ List.replicate (3 - (lg_sl ([.ref (ad 0), .int i1])).length) Slot.unset).toArray = ls at hl ⊢
  have hl : lv_has ls 3 [(0, .ref (ad 0)), (1, .int i1)] := hl
  have rg_i1 := i_rng i1
  refine lv_aload_n hx hb dX10_isBranchAt_0 rfl (lv_at hl 0 rfl) ?_
  refine lv_aload_n hx hb dX10_isBranchAt_1 rfl (lv_at hl 0 rfl) ?_
  refine lv_aload_n hx hb dX10_isBranchAt_2 rfl (lv_at hl 0 rfl) ?_
  refine va_get (D := (dC, dI)) (ci := 10) (v := .int x7) (C := RX10) (T := TX10) (N := 48) hx hb hts fin_X10_isBranchAtmd5_X10 hown hK hP 0 rfl rfl 10 (by decide) (hts (.fieldLink RX10 130 "PatternGateModel" "end" "I") (List.mem_of_getElem? (i := 1) (by decide +kernel))) (fun _ h9 => h9) rfl dX10_isBranchAt_3 ?_
  refine vp_callSi (W.runV (As := [.int x7]) (rest := [.ref (ad 0)]) ⟨hx, hb, hml, hown, hts⟩ (m_byteAt l dC dI ad kc x0 x1 x2 x3 x4 x5 x6 x7 x8 x9 x10 x11 x12 x13 x14 x15 x16 x17 x18 x19 x20 x21 f0 f1 f2 f3 f4 f5 f6 f7 f8 f9 f10 f11 f12 f13 f14 f15 f16 f17 f18 f19 f20 f21 fL fN fP fM fO x7 (by first | omega | assumption | decide | (have l0 := Int32.toInt_zero; omega)) (by first | omega | assumption | decide | (have l0 := Int32.toInt_zero; omega))) (cwV 1 hts mg_X10_isBranchAtmd5_X10_byteAt_133 rfl rfl rfl (by decide +kernel) ⟨Nat.le_of_ble_eq_true rfl, Nat.le_of_ble_eq_true rfl⟩) ⟨fun a U g mk q => by obtain ⟨q0, qP, qK⟩ := q; exact ⟨q0, qP, va_K.moved (u := U) (U := U.calling g mk a) (Vm.Alike.refl U.vm) qK⟩, va_recv hK hP (ci := 10) (q0 := 0) rfl rfl, fun U hU hW => ⟨rfl, by rw [hU]; exact hP, va_K.moved hW.alike hK⟩⟩ rfl rfl hl.1 rfl (lv_room (Nat.le_of_ble_eq_true rfl)) dX10_isBranchAt_6 ⟨Nat.le_of_ble_eq_true rfl, Nat.le_of_ble_eq_true rfl⟩) (fun r_1 hr_1 => ?_)
  have rg_r_1 := i_rng r_1
  refine vp_callSi (W.runV (As := [.int r_1]) (rest := []) ⟨hx, hb, hml, hown, hts⟩ (m_isAtomSign l dC dI ad kc x0 x1 x2 x3 x4 x5 x6 x7 x8 x9 x10 x11 x12 x13 x14 x15 x16 x17 x18 x19 x20 x21 f0 f1 f2 f3 f4 f5 f6 f7 f8 f9 f10 f11 f12 f13 f14 f15 f16 f17 f18 f19 f20 f21 fL fN fP fM fO r_1 ) (cwV 1 hts mg_X10_isBranchAtmd5_X10_isAtomSign_160 rfl rfl rfl (by decide +kernel) ⟨Nat.le_of_ble_eq_true rfl, Nat.le_of_ble_eq_true rfl⟩) ⟨fun a U g mk q => by obtain ⟨q0, qP, qK⟩ := q; exact ⟨q0, qP, va_K.moved (u := U) (U := U.calling g mk a) (Vm.Alike.refl U.vm) qK⟩, va_recv hK hP (ci := 10) (q0 := 0) rfl rfl, fun U hU hW => ⟨rfl, by rw [hU]; exact hP, va_K.moved hW.alike hK⟩⟩ rfl rfl hl.1 rfl (lv_room (Nat.le_of_ble_eq_true rfl)) dX10_isBranchAt_9 ⟨Nat.le_of_ble_eq_true rfl, Nat.le_of_ble_eq_true rfl⟩) (fun r_2 hr_2 => ?_)
  have rg_r_2 := i_rng r_2
  refine lv_if_ne (tgt := 25) hx hb dX10_isBranchAt_12 (by decide) (fun k_3 => ?_) (fun k_3 => ?_)
  · have tk_3 := c_ne (a := r_2.toInt) (b := 0) rfl (by decide) k_3
    have hAt := tf2_t hr_2 (by omega)
    rw [hr_1.1] at hAt
    have loop25 : ∀ (lm25 : Nat) (ea fa fb sa : Int32), (x7.toInt ≤ ea.toInt) → (ea.toInt ≤ x4.toInt) → (x11.toInt ≤ sa.toInt) → (sa.toInt ≤ 24) → (brI (tx f2 x4.toInt) (pSub (tx f2 x4.toInt) 0) x7.toInt ea.toInt x11.toInt sa.toInt) → ((x4.toInt - ea.toInt).toNat) < lm25 → ∀ (H : Heap) (locs : List Loc) (ls : Array Slot), va_P (dC, dI) vwCl (mW ad kc x0 x1 x2 x3 x4 x5 x6 ea fa fb x10 sa x12 x13 x14 x15 x16 x17 x18 x19 x20 x21 f0 f1 f2 f3 f4 f5 f6 f7 f8 f9 f10 f11 f12 f13 f14 f15 f16 f17 f18 f19 f20 f21 fL fN fP fM fO) H → va_D A (mW ad kc x0 x1 x2 x3 x4 x5 x6 ea fa fb x10 sa x12 x13 x14 x15 x16 x17 x18 x19 x20 x21 f0 f1 f2 f3 f4 f5 f6 f7 f8 f9 f10 f11 f12 f13 f14 f15 f16 f17 f18 f19 f20 f21 fL fN fP fM fO) → va_S A s.heap H locs → lv_has ls 3 [(0, .ref (ad 0)), (1, .int i1)] → W p l e (headSpec mwX10_isBranchAtmd5 ({ frames := 3, cells := 0, slots := 0, locals := 180 })).room s m ([.ref (ad 0), .int i1]).toArray below meth c H locs 0 0 (MQ below (va_Qi (fun (o9 u9 : Int32) => o9 = u9) (fun (o9 : Int32) t => ∃ (y7 y8 y9 y11 : Int32), (x7.toInt ≤ y7.toInt) ∧ (y7.toInt ≤ x4.toInt) ∧ (x11.toInt ≤ y11.toInt) ∧ (y11.toInt ≤ 24) ∧ (o9.toInt = 1 ∧ (pBranch (tx f2 x4.toInt) (pSub (tx f2 x4.toInt) 0) x7.toInt y7.toInt (y11.toInt - x11.toInt) ∧ x11.toInt < y11.toInt ∧ x7.toInt < y7.toInt) ∨ o9.toInt = 0) ∧ va_P (dC, dI) vwCl (mW ad kc x0 x1 x2 x3 x4 x5 x6 y7 y8 y9 x10 y11 x12 x13 x14 x15 x16 x17 x18 x19 x20 x21 f0 f1 f2 f3 f4 f5 f6 f7 f8 f9 f10 f11 f12 f13 f14 f15 f16 f17 f18 f19 f20 f21 fL fN fP fM fO) t.heap ∧ va_K (dC, dI) vwCl (mT kc) t ∧ va_D A (mW ad kc x0 x1 x2 x3 x4 x5 x6 y7 y8 y9 x10 y11 x12 x13 x14 x15 x16 x17 x18 x19 x20 x21 f0 f1 f2 f3 f4 f5 f6 f7 f8 f9 f10 f11 f12 f13 f14 f15 f16 f17 f18 f19 f20 f21 fL fN fP fM fO)) A) ([.ref (ad 0), .int i1]).toArray s 0 0 A) (F0 m 25 ls []) := by
      intro lm25
      induction lm25 with
      | zero => intro ea fa fb sa v25_0 v25_1 v25_2 v25_3 v25_4 hm25; exact absurd hm25 (Nat.not_lt_zero _)
      | succ lm25 ih25 =>
        intro ea fa fb sa v25_0 v25_1 v25_2 v25_3 v25_4 hm25 H locs ls hP hD hS hl
        have rg_ea := i_rng ea
        have rg_fa := i_rng fa
        have rg_fb := i_rng fb
        have rg_sa := i_rng sa
        refine lv_aload_n hx hb dX10_isBranchAt_25 rfl (lv_at hl 0 rfl) ?_
        refine lv_aload_n hx hb dX10_isBranchAt_26 rfl (lv_at hl 0 rfl) ?_
        refine lv_aload_n hx hb dX10_isBranchAt_27 rfl (lv_at hl 0 rfl) ?_
        refine va_get (D := (dC, dI)) (ci := 10) (v := .int ea) (C := RX10) (T := TX10) (N := 48) hx hb hts fin_X10_isBranchAtmd5_X10 hown hK hP 0 rfl rfl 10 (by decide) (hts (.fieldLink RX10 130 "PatternGateModel" "end" "I") (List.mem_of_getElem? (i := 1) (by decide +kernel))) (fun _ h9 => h9) rfl dX10_isBranchAt_28 ?_
        refine vp_callSi (W.runV (As := [.int ea]) (rest := [.ref (ad 0)]) ⟨hx, hb, hml, hown, hts⟩ (m_byteAt l dC dI ad kc x0 x1 x2 x3 x4 x5 x6 ea fa fb x10 sa x12 x13 x14 x15 x16 x17 x18 x19 x20 x21 f0 f1 f2 f3 f4 f5 f6 f7 f8 f9 f10 f11 f12 f13 f14 f15 f16 f17 f18 f19 f20 f21 fL fN fP fM fO ea (by first | omega | assumption | decide | (have l0 := Int32.toInt_zero; omega)) (by first | omega | assumption | decide | (have l0 := Int32.toInt_zero; omega))) (cwV 1 hts mg_X10_isBranchAtmd5_X10_byteAt_133 rfl rfl rfl (by decide +kernel) ⟨Nat.le_of_ble_eq_true rfl, Nat.le_of_ble_eq_true rfl⟩) ⟨fun a U g mk q => by obtain ⟨q0, qP, qK⟩ := q; exact ⟨q0, qP, va_K.moved (u := U) (U := U.calling g mk a) (Vm.Alike.refl U.vm) qK⟩, va_recv hK hP (ci := 10) (q0 := 0) rfl rfl, fun U hU hW => ⟨rfl, by rw [hU]; exact hP, va_K.moved hW.alike hK⟩⟩ rfl rfl hl.1 rfl (lv_room (Nat.le_of_ble_eq_true rfl)) dX10_isBranchAt_31 ⟨Nat.le_of_ble_eq_true rfl, Nat.le_of_ble_eq_true rfl⟩) (fun r_4 hr_4 => ?_)
        have rg_r_4 := i_rng r_4
        refine vp_callSi (W.runV (As := [.int r_4]) (rest := []) ⟨hx, hb, hml, hown, hts⟩ (m_isAtomSign l dC dI ad kc x0 x1 x2 x3 x4 x5 x6 ea fa fb x10 sa x12 x13 x14 x15 x16 x17 x18 x19 x20 x21 f0 f1 f2 f3 f4 f5 f6 f7 f8 f9 f10 f11 f12 f13 f14 f15 f16 f17 f18 f19 f20 f21 fL fN fP fM fO r_4 ) (cwV 1 hts mg_X10_isBranchAtmd5_X10_isAtomSign_160 rfl rfl rfl (by decide +kernel) ⟨Nat.le_of_ble_eq_true rfl, Nat.le_of_ble_eq_true rfl⟩) ⟨fun a U g mk q => by obtain ⟨q0, qP, qK⟩ := q; exact ⟨q0, qP, va_K.moved (u := U) (U := U.calling g mk a) (Vm.Alike.refl U.vm) qK⟩, va_recv hK hP (ci := 10) (q0 := 0) rfl rfl, fun U hU hW => ⟨rfl, by rw [hU]; exact hP, va_K.moved hW.alike hK⟩⟩ rfl rfl hl.1 rfl (lv_room (Nat.le_of_ble_eq_true rfl)) dX10_isBranchAt_34 ⟨Nat.le_of_ble_eq_true rfl, Nat.le_of_ble_eq_true rfl⟩) (fun r_5 hr_5 => ?_)
        have rg_r_5 := i_rng r_5
        refine lv_if_eq (tgt := 94) hx hb dX10_isBranchAt_37 (by decide) (fun k_6 => ?_) (fun k_6 => ?_)
        · have tk_6 := c_eq (a := r_5.toInt) (b := 0) rfl (by decide) k_6
          have hNA := tf2_f hr_5 (by omega)
          rw [hr_4.1] at hNA
          refine lv_iconst (v := 1) hx hb dX10_isBranchAt_94 (by decide) ?_
          have lit_6 : (1 : Int32).toInt = 1 := by decide
          exact W.zret hx hb hr (z_nar (by first | assumption | decide | exact z_of (by omega))) (fun t ht hW => ⟨⟨_, _, rfl, rfl, ea, fa, fb, sa, (by first | omega | assumption | rfl | decide), (by first | omega | assumption | rfl | decide), (by first | omega | assumption | rfl | decide), (by first | omega | assumption | rfl | decide), (Or.inl ⟨by decide, br_end v25_4 hAt hNA⟩), by rw [ht]; exact hP, va_K.moved hW.alike hK, hD⟩, hS.F ht⟩) hS.2.2 dX10_isBranchAt_95
        · have tk_6 := c_ne (a := r_5.toInt) (b := 0) rfl (by decide) k_6
          have hIA := tf2_t hr_5 (by omega)
          rw [hr_4.1] at hIA
          refine lv_aload_n hx hb dX10_isBranchAt_40 rfl (lv_at hl 0 rfl) ?_
          refine lv_iload_n hx hb dX10_isBranchAt_41 rfl (lv_at hl 1 rfl) ?_
          have hFc := m_free hD hS hA
          refine va_calli (va_runV (As := [.int i1]) (rest := []) ⟨hx, hb, hml, hown, hts⟩ (m_isAtomAt5 l dC dI ad kc x0 x1 x2 x3 x4 x5 x6 ea fa fb x10 sa x12 x13 x14 x15 x16 x17 x18 x19 x20 x21 f0 f1 f2 f3 f4 f5 f6 f7 f8 f9 f10 f11 f12 f13 f14 f15 f16 f17 f18 f19 f20 f21 fL fN fP fM fO H.size i1 (by first | omega | assumption | decide | (have l0 := Int32.toInt_zero; omega)) (by first | omega | assumption | decide | (have l0 := Int32.toInt_zero; omega)) (by first | omega | assumption | decide | (have l0 := Int32.toInt_zero; omega)) (by first | omega | assumption | decide | (have l0 := Int32.toInt_zero; omega)) (by first | omega | assumption | decide | (have l0 := Int32.toInt_zero; omega)) (by first | omega | assumption | decide | (have l0 := Int32.toInt_zero; omega)) (by first | omega | assumption | decide | (have l0 := Int32.toInt_zero; omega))) (cwV 1 hts mg_X10_isBranchAtmd5_X10_isAtomAt_163 rfl rfl rfl (by decide +kernel) ⟨Nat.le_of_ble_eq_true rfl, Nat.le_of_ble_eq_true rfl⟩) ⟨fun a U g mk q => by obtain ⟨q0, q1, qP, qK, qD⟩ := q; exact ⟨q0, q1, qP, va_K.moved (u := U) (U := U.calling g mk a) (Vm.Alike.refl U.vm) qK, qD⟩, va_recv hK hP (ci := 10) (q0 := 0) rfl rfl, fun U hU hW => ⟨rfl, by rw [hU], by rw [hU]; exact hP, va_K.moved hW.alike hK, hD.weaken (fun _ _ _ _ => trivial)⟩⟩ rfl rfl hl.1 rfl (lv_room (Nat.le_of_ble_eq_true rfl)) dX10_isBranchAt_42 ⟨Nat.le_of_ble_eq_true rfl, Nat.le_of_ble_eq_true rfl⟩) hS (fun q _ h => hFc q h) hFc (fun r_8 u t H1 locs ht hvm hw hB hz1 hk1 hS => ?_)
          subst hw
          obtain ⟨x_9, x_10, x_11, x_12, hr_8_0, hr_8_1, hr_8_2, hr_8_3, hr_8_4, hP, hK1, hD1⟩ := hB
          rw [ht] at hP
          have hD := hD1.weaken (fun k q _ h => hFc q.1 h)
          generalize H1 = H at hP hS ⊢
          have rg_x_9 := i_rng x_9
          have rg_x_10 := i_rng x_10
          have rg_x_11 := i_rng x_11
          have rg_x_12 := i_rng x_12
          have rg_r_8 := i_rng r_8
          have hP : va_P (dC, dI) vwCl (mW ad kc x0 x1 x2 x3 x4 x5 x6 x_9 x_10 x_11 x10 x_12 x12 x13 x14 x15 x16 x17 x18 x19 x20 x21 f0 f1 f2 f3 f4 f5 f6 f7 f8 f9 f10 f11 f12 f13 f14 f15 f16 f17 f18 f19 f20 f21 fL fN fP fM fO) H := hP
          have hD : va_D A (mW ad kc x0 x1 x2 x3 x4 x5 x6 x_9 x_10 x_11 x10 x_12 x12 x13 x14 x15 x16 x17 x18 x19 x20 x21 f0 f1 f2 f3 f4 f5 f6 f7 f8 f9 f10 f11 f12 f13 f14 f15 f16 f17 f18 f19 f20 f21 fL fN fP fM fO) := hD
          refine lv_if_ne (tgt := 50) hx hb dX10_isBranchAt_45 (by decide) (fun k_13 => ?_) (fun k_13 => ?_)
          · have tk_13 := c_ne (a := r_8.toInt) (b := 0) rfl (by decide) k_13
            have hT := tf_t hr_8_4 (by omega)
            refine lv_aload_n hx hb dX10_isBranchAt_50 rfl (lv_at hl 0 rfl) ?_
            refine lv_aload_n hx hb dX10_isBranchAt_51 rfl (lv_at hl 0 rfl) ?_
            refine va_get (D := (dC, dI)) (ci := 10) (v := .int x_9) (C := RX10) (T := TX10) (N := 48) hx hb hts fin_X10_isBranchAtmd5_X10 hown hK hP 0 rfl rfl 10 (by decide) (hts (.fieldLink RX10 130 "PatternGateModel" "end" "I") (List.mem_of_getElem? (i := 1) (by decide +kernel))) (fun _ h9 => h9) rfl dX10_isBranchAt_52 ?_
            refine vp_callSi (W.runV (As := [.int x_9]) (rest := []) ⟨hx, hb, hml, hown, hts⟩ (m_byteAt l dC dI ad kc x0 x1 x2 x3 x4 x5 x6 x_9 x_10 x_11 x10 x_12 x12 x13 x14 x15 x16 x17 x18 x19 x20 x21 f0 f1 f2 f3 f4 f5 f6 f7 f8 f9 f10 f11 f12 f13 f14 f15 f16 f17 f18 f19 f20 f21 fL fN fP fM fO x_9 (by first | omega | assumption | decide | (have l0 := Int32.toInt_zero; omega)) (by first | omega | assumption | decide | (have l0 := Int32.toInt_zero; omega))) (cwV 1 hts mg_X10_isBranchAtmd5_X10_byteAt_133 rfl rfl rfl (by decide +kernel) ⟨Nat.le_of_ble_eq_true rfl, Nat.le_of_ble_eq_true rfl⟩) ⟨fun a U g mk q => by obtain ⟨q0, qP, qK⟩ := q; exact ⟨q0, qP, va_K.moved (u := U) (U := U.calling g mk a) (Vm.Alike.refl U.vm) qK⟩, va_recv hK hP (ci := 10) (q0 := 0) rfl rfl, fun U hU hW => ⟨rfl, by rw [hU]; exact hP, va_K.moved hW.alike hK⟩⟩ rfl rfl hl.1 rfl (lv_room (Nat.le_of_ble_eq_true rfl)) dX10_isBranchAt_55 ⟨Nat.le_of_ble_eq_true rfl, Nat.le_of_ble_eq_true rfl⟩) (fun r_14 hr_14 => ?_)
            have rg_r_14 := i_rng r_14
            refine lv_istore_n (lv' := [(2, .int r_14), (0, .ref (ad 0)), (1, .int i1)]) hx hb dX10_isBranchAt_58 rfl hl (by decide) rfl (fun ls hl => ?_)
            refine lv_aload_n hx hb dX10_isBranchAt_59 rfl (lv_at hl 1 rfl) ?_
            refine lv_dup hx hb dX10_isBranchAt_60 rfl ?_
            refine va_get (D := (dC, dI)) (ci := 10) (v := .int x_9) (C := RX10) (T := TX10) (N := 48) hx hb hts fin_X10_isBranchAtmd5_X10 hown hK hP 0 rfl rfl 10 (by decide) (hts (.fieldLink RX10 130 "PatternGateModel" "end" "I") (List.mem_of_getElem? (i := 1) (by decide +kernel))) (fun _ h9 => h9) rfl dX10_isBranchAt_61 ?_
            refine lv_iload_n hx hb dX10_isBranchAt_64 rfl (lv_at hl 0 rfl) ?_
            refine lv_bipush (v := 42) hx hb dX10_isBranchAt_65 (by decide) ?_
            refine lv_icmp_eq (tgt := 82) hx hb dX10_isBranchAt_67 (by decide) (fun k_15 => ?_) (fun k_15 => ?_)
            · have tk_15 := c_eq (a := r_14.toInt) (b := 42) rfl (by decide) k_15
              refine lv_iconst (v := 1) hx hb dX10_isBranchAt_82 (by decide) ?_
              refine lv_goto (tgt := 87) hx hb dX10_isBranchAt_83 (by decide) ?_
              refine lv_iadd hx hb dX10_isBranchAt_87 ?_
              refine lv_topi (fun y_16 ey_16 => ?_)
              first | have ty_16 := i_add (a := x_9.toInt) (b := 1) rfl (by decide) ey_16 (by omega) (by omega) | skip
              refine va_put (D := (dC, dI)) (ci := 10) (v := .int y_16) (ty := .int) (C := RX10) (T := TX10) (N := 48) hx hb hts fin_X10_isBranchAtmd5_X10 tyX10 tyX10_ok nmX10 hown hK hP hD hS 0 rfl rfl 10 (by decide) (hts (.fieldLink RX10 130 "PatternGateModel" "end" "I") (List.mem_of_getElem? (i := 1) (by decide +kernel))) (fun _ h9 => h9) rfl (by decide +kernel) rfl rfl (Nat.le_of_ble_eq_true rfl) dX10_isBranchAt_88 (fun H locs hP hD hS => ?_)
              have hP : va_P (dC, dI) vwCl (mW ad kc x0 x1 x2 x3 x4 x5 x6 y_16 x_10 x_11 x10 x_12 x12 x13 x14 x15 x16 x17 x18 x19 x20 x21 f0 f1 f2 f3 f4 f5 f6 f7 f8 f9 f10 f11 f12 f13 f14 f15 f16 f17 f18 f19 f20 f21 fL fN fP fM fO) H := hP
              have hD : va_D A (mW ad kc x0 x1 x2 x3 x4 x5 x6 y_16 x_10 x_11 x10 x_12 x12 x13 x14 x15 x16 x17 x18 x19 x20 x21 f0 f1 f2 f3 f4 f5 f6 f7 f8 f9 f10 f11 f12 f13 f14 f15 f16 f17 f18 f19 f20 f21 fL fN fP fM fO) := hD
              refine lv_goto (tgt := 25) hx hb dX10_isBranchAt_91 (by decide) ?_
              exact ih25 y_16 x_10 x_11 x_12 (by first | omega | assumption | decide) (by first | omega | assumption | decide) (by first | omega | assumption | decide) (by first | omega | assumption | decide) (by first | exact br_q v25_4 hT.1 (by omega) (by omega) (by omega) (by unfold isQu; omega) | exact br_n v25_4 hT.1 (by omega) (by omega) (by omega) (by unfold isQu; omega)) (by omega) _ _ ls hP hD hS (lv_sub hl [1, 2] rfl)
            · have tk_15 := c_ne (a := r_14.toInt) (b := 42) rfl (by decide) k_15
              refine lv_iload_n hx hb dX10_isBranchAt_70 rfl (lv_at hl 0 rfl) ?_
              refine lv_bipush (v := 43) hx hb dX10_isBranchAt_71 (by decide) ?_
              refine lv_icmp_eq (tgt := 82) hx hb dX10_isBranchAt_73 (by decide) (fun k_17 => ?_) (fun k_17 => ?_)
              · have tk_17 := c_eq (a := r_14.toInt) (b := 43) rfl (by decide) k_17
                refine lv_iconst (v := 1) hx hb dX10_isBranchAt_82 (by decide) ?_
                refine lv_goto (tgt := 87) hx hb dX10_isBranchAt_83 (by decide) ?_
                refine lv_iadd hx hb dX10_isBranchAt_87 ?_
                refine lv_topi (fun y_18 ey_18 => ?_)
                first | have ty_18 := i_add (a := x_9.toInt) (b := 1) rfl (by decide) ey_18 (by omega) (by omega) | skip
                refine va_put (D := (dC, dI)) (ci := 10) (v := .int y_18) (ty := .int) (C := RX10) (T := TX10) (N := 48) hx hb hts fin_X10_isBranchAtmd5_X10 tyX10 tyX10_ok nmX10 hown hK hP hD hS 0 rfl rfl 10 (by decide) (hts (.fieldLink RX10 130 "PatternGateModel" "end" "I") (List.mem_of_getElem? (i := 1) (by decide +kernel))) (fun _ h9 => h9) rfl (by decide +kernel) rfl rfl (Nat.le_of_ble_eq_true rfl) dX10_isBranchAt_88 (fun H locs hP hD hS => ?_)
                have hP : va_P (dC, dI) vwCl (mW ad kc x0 x1 x2 x3 x4 x5 x6 y_18 x_10 x_11 x10 x_12 x12 x13 x14 x15 x16 x17 x18 x19 x20 x21 f0 f1 f2 f3 f4 f5 f6 f7 f8 f9 f10 f11 f12 f13 f14 f15 f16 f17 f18 f19 f20 f21 fL fN fP fM fO) H := hP
                have hD : va_D A (mW ad kc x0 x1 x2 x3 x4 x5 x6 y_18 x_10 x_11 x10 x_12 x12 x13 x14 x15 x16 x17 x18 x19 x20 x21 f0 f1 f2 f3 f4 f5 f6 f7 f8 f9 f10 f11 f12 f13 f14 f15 f16 f17 f18 f19 f20 f21 fL fN fP fM fO) := hD
                refine lv_goto (tgt := 25) hx hb dX10_isBranchAt_91 (by decide) ?_
                exact ih25 y_18 x_10 x_11 x_12 (by first | omega | assumption | decide) (by first | omega | assumption | decide) (by first | omega | assumption | decide) (by first | omega | assumption | decide) (by first | exact br_q v25_4 hT.1 (by omega) (by omega) (by omega) (by unfold isQu; omega) | exact br_n v25_4 hT.1 (by omega) (by omega) (by omega) (by unfold isQu; omega)) (by omega) _ _ ls hP hD hS (lv_sub hl [1, 2] rfl)
              · have tk_17 := c_ne (a := r_14.toInt) (b := 43) rfl (by decide) k_17
                refine lv_iload_n hx hb dX10_isBranchAt_76 rfl (lv_at hl 0 rfl) ?_
                refine lv_bipush (v := 63) hx hb dX10_isBranchAt_77 (by decide) ?_
                refine lv_icmp_ne (tgt := 86) hx hb dX10_isBranchAt_79 (by decide) (fun k_19 => ?_) (fun k_19 => ?_)
                · have tk_19 := c_ne (a := r_14.toInt) (b := 63) rfl (by decide) k_19
                  refine lv_iconst (v := 0) hx hb dX10_isBranchAt_86 (by decide) ?_
                  refine lv_iadd hx hb dX10_isBranchAt_87 ?_
                  refine lv_topi (fun y_20 ey_20 => ?_)
                  first | have ty_20 := i_add (a := x_9.toInt) (b := 0) rfl (by decide) ey_20 (by omega) (by omega) | skip
                  refine va_put (D := (dC, dI)) (ci := 10) (v := .int y_20) (ty := .int) (C := RX10) (T := TX10) (N := 48) hx hb hts fin_X10_isBranchAtmd5_X10 tyX10 tyX10_ok nmX10 hown hK hP hD hS 0 rfl rfl 10 (by decide) (hts (.fieldLink RX10 130 "PatternGateModel" "end" "I") (List.mem_of_getElem? (i := 1) (by decide +kernel))) (fun _ h9 => h9) rfl (by decide +kernel) rfl rfl (Nat.le_of_ble_eq_true rfl) dX10_isBranchAt_88 (fun H locs hP hD hS => ?_)
                  have hP : va_P (dC, dI) vwCl (mW ad kc x0 x1 x2 x3 x4 x5 x6 y_20 x_10 x_11 x10 x_12 x12 x13 x14 x15 x16 x17 x18 x19 x20 x21 f0 f1 f2 f3 f4 f5 f6 f7 f8 f9 f10 f11 f12 f13 f14 f15 f16 f17 f18 f19 f20 f21 fL fN fP fM fO) H := hP
                  have hD : va_D A (mW ad kc x0 x1 x2 x3 x4 x5 x6 y_20 x_10 x_11 x10 x_12 x12 x13 x14 x15 x16 x17 x18 x19 x20 x21 f0 f1 f2 f3 f4 f5 f6 f7 f8 f9 f10 f11 f12 f13 f14 f15 f16 f17 f18 f19 f20 f21 fL fN fP fM fO) := hD
                  refine lv_goto (tgt := 25) hx hb dX10_isBranchAt_91 (by decide) ?_
                  exact ih25 y_20 x_10 x_11 x_12 (by first | omega | assumption | decide) (by first | omega | assumption | decide) (by first | omega | assumption | decide) (by first | omega | assumption | decide) (by first | exact br_q v25_4 hT.1 (by omega) (by omega) (by omega) (by unfold isQu; omega) | exact br_n v25_4 hT.1 (by omega) (by omega) (by omega) (by unfold isQu; omega)) (by omega) _ _ ls hP hD hS (lv_sub hl [1, 2] rfl)
                · have tk_19 := c_eq (a := r_14.toInt) (b := 63) rfl (by decide) k_19
                  refine lv_iconst (v := 1) hx hb dX10_isBranchAt_82 (by decide) ?_
                  refine lv_goto (tgt := 87) hx hb dX10_isBranchAt_83 (by decide) ?_
                  refine lv_iadd hx hb dX10_isBranchAt_87 ?_
                  refine lv_topi (fun y_21 ey_21 => ?_)
                  first | have ty_21 := i_add (a := x_9.toInt) (b := 1) rfl (by decide) ey_21 (by omega) (by omega) | skip
                  refine va_put (D := (dC, dI)) (ci := 10) (v := .int y_21) (ty := .int) (C := RX10) (T := TX10) (N := 48) hx hb hts fin_X10_isBranchAtmd5_X10 tyX10 tyX10_ok nmX10 hown hK hP hD hS 0 rfl rfl 10 (by decide) (hts (.fieldLink RX10 130 "PatternGateModel" "end" "I") (List.mem_of_getElem? (i := 1) (by decide +kernel))) (fun _ h9 => h9) rfl (by decide +kernel) rfl rfl (Nat.le_of_ble_eq_true rfl) dX10_isBranchAt_88 (fun H locs hP hD hS => ?_)
                  have hP : va_P (dC, dI) vwCl (mW ad kc x0 x1 x2 x3 x4 x5 x6 y_21 x_10 x_11 x10 x_12 x12 x13 x14 x15 x16 x17 x18 x19 x20 x21 f0 f1 f2 f3 f4 f5 f6 f7 f8 f9 f10 f11 f12 f13 f14 f15 f16 f17 f18 f19 f20 f21 fL fN fP fM fO) H := hP
                  have hD : va_D A (mW ad kc x0 x1 x2 x3 x4 x5 x6 y_21 x_10 x_11 x10 x_12 x12 x13 x14 x15 x16 x17 x18 x19 x20 x21 f0 f1 f2 f3 f4 f5 f6 f7 f8 f9 f10 f11 f12 f13 f14 f15 f16 f17 f18 f19 f20 f21 fL fN fP fM fO) := hD
                  refine lv_goto (tgt := 25) hx hb dX10_isBranchAt_91 (by decide) ?_
                  exact ih25 y_21 x_10 x_11 x_12 (by first | omega | assumption | decide) (by first | omega | assumption | decide) (by first | omega | assumption | decide) (by first | omega | assumption | decide) (by first | exact br_q v25_4 hT.1 (by omega) (by omega) (by omega) (by unfold isQu; omega) | exact br_n v25_4 hT.1 (by omega) (by omega) (by omega) (by unfold isQu; omega)) (by omega) _ _ ls hP hD hS (lv_sub hl [1, 2] rfl)
          · have tk_13 := c_eq (a := r_8.toInt) (b := 0) rfl (by decide) k_13
            refine lv_iconst (v := 0) hx hb dX10_isBranchAt_48 (by decide) ?_
            have lit_21 : (0 : Int32).toInt = 0 := by decide
            exact W.zret hx hb hr (z_nar (by first | assumption | decide | exact z_of (by omega))) (fun t ht hW => ⟨⟨_, _, rfl, rfl, x_9, x_10, x_11, x_12, (by first | omega | assumption | rfl | decide), (by first | omega | assumption | rfl | decide), (by first | omega | assumption | rfl | decide), (by first | omega | assumption | rfl | decide), (Or.inr (by first | omega | decide)), by rw [ht]; exact hP, va_K.moved hW.alike hK, hD⟩, hS.F ht⟩) hS.2.2 dX10_isBranchAt_49
    exact loop25 _ x7 x8 x9 x11 (by first | omega | assumption | decide) (by first | omega | assumption | decide) (by first | omega | assumption | decide) (by first | omega | assumption | decide) (Or.inl ⟨rfl, rfl⟩) (Nat.lt_succ_self _) _ _ ls hP hD hS (lv_sub hl [0, 1] rfl)
  · have tk_3 := c_eq (a := r_2.toInt) (b := 0) rfl (by decide) k_3
    refine lv_aload_n hx hb dX10_isBranchAt_15 rfl (lv_at hl 0 rfl) ?_
    refine lv_iconst (v := 1) hx hb dX10_isBranchAt_16 (by decide) ?_
    refine lv_aload_n hx hb dX10_isBranchAt_17 rfl (lv_at hl 0 rfl) ?_
    refine va_get (D := (dC, dI)) (ci := 10) (v := .int x7) (C := RX10) (T := TX10) (N := 48) hx hb hts fin_X10_isBranchAtmd5_X10 hown hK hP 0 rfl rfl 10 (by decide) (hts (.fieldLink RX10 130 "PatternGateModel" "end" "I") (List.mem_of_getElem? (i := 1) (by decide +kernel))) (fun _ h9 => h9) rfl dX10_isBranchAt_18 ?_
    have hFc := m_free hD hS hA
    refine va_calli (va_runV (As := [.int 1, .int x7]) (rest := []) ⟨hx, hb, hml, hown, hts⟩ (m_failsAt l dC dI ad kc x0 x1 x2 x3 x4 x5 x6 x7 x8 x9 x10 x11 x12 x13 x14 x15 x16 x17 x18 x19 x20 x21 f0 f1 f2 f3 f4 f5 f6 f7 f8 f9 f10 f11 f12 f13 f14 f15 f16 f17 f18 f19 f20 f21 fL fN fP fM fO H.size 1 x7 ) (cwV 2 hts mg_X10_isBranchAtmd5_X10_failsAt_126 rfl rfl rfl (by decide +kernel) ⟨Nat.le_of_ble_eq_true rfl, Nat.le_of_ble_eq_true rfl⟩) ⟨fun a U g mk q => by obtain ⟨q0, q1, qP, qK, qD⟩ := q; exact ⟨q0, q1, qP, va_K.moved (u := U) (U := U.calling g mk a) (Vm.Alike.refl U.vm) qK, qD⟩, va_recv hK hP (ci := 10) (q0 := 0) rfl rfl, fun U hU hW => ⟨rfl, by rw [hU], by rw [hU]; exact hP, va_K.moved hW.alike hK, hD.weaken (fun _ _ _ _ => trivial)⟩⟩ rfl rfl hl.1 rfl (lv_room (Nat.le_of_ble_eq_true rfl)) dX10_isBranchAt_21 ⟨Nat.le_of_ble_eq_true rfl, Nat.le_of_ble_eq_true rfl⟩) hS (fun q _ h => hFc q h) hFc (fun r_23 u t H1 locs ht hvm hw hB hz1 hk1 hS => ?_)
    subst hw
    obtain ⟨x_24, x_25, hr_23_0, hP, hK1, hD1⟩ := hB
    rw [ht] at hP
    have hD := hD1.weaken (fun k q _ h => hFc q.1 h)
    generalize H1 = H at hP hS ⊢
    have rg_x_24 := i_rng x_24
    have rg_x_25 := i_rng x_25
    have rg_r_23 := i_rng r_23
    have hP : va_P (dC, dI) vwCl (mW ad kc x0 x1 x2 x3 x4 x5 x6 x7 x_24 x_25 x10 x11 x12 x13 x14 x15 x16 x17 x18 x19 x20 x21 f0 f1 f2 f3 f4 f5 f6 f7 f8 f9 f10 f11 f12 f13 f14 f15 f16 f17 f18 f19 f20 f21 fL fN fP fM fO) H := hP
    have hD : va_D A (mW ad kc x0 x1 x2 x3 x4 x5 x6 x7 x_24 x_25 x10 x11 x12 x13 x14 x15 x16 x17 x18 x19 x20 x21 f0 f1 f2 f3 f4 f5 f6 f7 f8 f9 f10 f11 f12 f13 f14 f15 f16 f17 f18 f19 f20 f21 fL fN fP fM fO) := hD
    exact W.zret hx hb hr (z_nar (by first | assumption | decide | exact z_of (by omega))) (fun t ht hW => ⟨⟨_, _, rfl, rfl, x7, x_24, x_25, x11, (by first | omega | assumption | rfl | decide), (by first | omega | assumption | rfl | decide), (by first | omega | assumption | rfl | decide), (by first | omega | assumption | rfl | decide), (Or.inr (by first | omega | decide)), by rw [ht]; exact hP, va_K.moved hW.alike hK, hD⟩, hS.F ht⟩) hS.2.2 dX10_isBranchAt_24
theorem dX10_isPatternAt_0 : decode cX10_isPatternAt 0 = .ok (.aload_n 0, 1) := by decide +kernel
theorem dX10_isPatternAt_1 : decode cX10_isPatternAt 1 = .ok (.iload_n 1, 1) := by decide +kernel
theorem dX10_isPatternAt_2 : decode cX10_isPatternAt 2 = .ok (.invokevirtual 157, 3) := by decide +kernel
theorem dX10_isPatternAt_5 : decode cX10_isPatternAt 5 = .ok (.ifCond .ne 5, 3) := by decide +kernel
theorem dX10_isPatternAt_8 : decode cX10_isPatternAt 8 = .ok (.iconst 0, 1) := by decide +kernel
theorem dX10_isPatternAt_9 : decode cX10_isPatternAt 9 = .ok (.ireturn, 1) := by decide +kernel
theorem dX10_isPatternAt_10 : decode cX10_isPatternAt 10 = .ok (.aload_n 0, 1) := by decide +kernel
theorem dX10_isPatternAt_11 : decode cX10_isPatternAt 11 = .ok (.aload_n 0, 1) := by decide +kernel
theorem dX10_isPatternAt_12 : decode cX10_isPatternAt 12 = .ok (.getfield 130, 3) := by decide +kernel
theorem dX10_isPatternAt_15 : decode cX10_isPatternAt 15 = .ok (.invokevirtual 133, 3) := by decide +kernel
theorem dX10_isPatternAt_18 : decode cX10_isPatternAt 18 = .ok (.bipush 124, 2) := by decide +kernel
theorem dX10_isPatternAt_20 : decode cX10_isPatternAt 20 = .ok (.if_icmp .ne 23, 3) := by decide +kernel
theorem dX10_isPatternAt_23 : decode cX10_isPatternAt 23 = .ok (.aload_n 0, 1) := by decide +kernel
theorem dX10_isPatternAt_24 : decode cX10_isPatternAt 24 = .ok (.dup, 1) := by decide +kernel
theorem dX10_isPatternAt_25 : decode cX10_isPatternAt 25 = .ok (.getfield 130, 3) := by decide +kernel
theorem dX10_isPatternAt_28 : decode cX10_isPatternAt 28 = .ok (.iconst 1, 1) := by decide +kernel
theorem dX10_isPatternAt_29 : decode cX10_isPatternAt 29 = .ok (.iadd, 1) := by decide +kernel
theorem dX10_isPatternAt_30 : decode cX10_isPatternAt 30 = .ok (.putfield 130, 3) := by decide +kernel
theorem dX10_isPatternAt_33 : decode cX10_isPatternAt 33 = .ok (.aload_n 0, 1) := by decide +kernel
theorem dX10_isPatternAt_34 : decode cX10_isPatternAt 34 = .ok (.iload_n 1, 1) := by decide +kernel
theorem dX10_isPatternAt_35 : decode cX10_isPatternAt 35 = .ok (.invokevirtual 157, 3) := by decide +kernel
theorem dX10_isPatternAt_38 : decode cX10_isPatternAt 38 = .ok (.ifCond .ne (-28), 3) := by decide +kernel
theorem dX10_isPatternAt_41 : decode cX10_isPatternAt 41 = .ok (.iconst 0, 1) := by decide +kernel
theorem dX10_isPatternAt_42 : decode cX10_isPatternAt 42 = .ok (.ireturn, 1) := by decide +kernel
theorem dX10_isPatternAt_43 : decode cX10_isPatternAt 43 = .ok (.iconst 1, 1) := by decide +kernel
theorem dX10_isPatternAt_44 : decode cX10_isPatternAt 44 = .ok (.ireturn, 1) := by decide +kernel
def mwX10_isPatternAtmd5 : List Cond := .code yX10_isPatternAt cX10_isPatternAt 2 (some .boolean) :: ([.code yX10_isBranchAt cX10_isBranchAt 3 (some .boolean), .fieldLink RX10 130 "PatternGateModel" "end" "I", .code yX10_byteAt cX10_byteAt 2 (some .int), .fieldLink RX10 114 "PatternGateModel" "size" "I", .fieldLink RX10 18 "PatternGateModel" "text" "[B", .methodLink RX10 133 yX10_byteAt, .instanceMethod yX10_byteAt, .selects RX10 yX10_byteAt yX10_byteAt, .initialized RX10, .code yX10_isAtomSign cX10_isAtomSign 2 (some .boolean), .code yX10_isSmall cX10_isSmall 1 (some .boolean), .methodLink RX10 137 yX10_isSmall, .static yX10_isSmall, .methodLink RX10 160 yX10_isAtomSign, .instanceMethod yX10_isAtomSign, .selects RX10 yX10_isAtomSign yX10_isAtomSign, .code yX10_isAtomAt cX10_isAtomAt 3 (some .boolean), .fieldLink RX10 151 "PatternGateModel" "spots" "I", .code yX10_isSetAt cX10_isSetAt 3 (some .boolean), .code yX10_failsAt cX10_failsAt 3 (some .boolean), .fieldLink RX10 117 "PatternGateModel" "faults" "I", .fieldLink RX10 21 "PatternGateModel" "faultPlace" "I", .methodLink RX10 126 yX10_failsAt, .instanceMethod yX10_failsAt, .selects RX10 yX10_failsAt yX10_failsAt, .code yX10_has cX10_has 2 (some .boolean), .methodLink RX10 170 yX10_has, .static yX10_has, .methodLink RX10 166 yX10_isSetAt, .instanceMethod yX10_isSetAt, .selects RX10 yX10_isSetAt yX10_isSetAt, .methodLink RX10 163 yX10_isAtomAt, .instanceMethod yX10_isAtomAt, .selects RX10 yX10_isAtomAt yX10_isAtomAt, .methodLink RX10 157 yX10_isBranchAt, .instanceMethod yX10_isBranchAt, .selects RX10 yX10_isBranchAt yX10_isBranchAt] ++ wsX100)
theorem fin_X10_isPatternAtmd5_X10 : ∀ w ∈ wsX100, w ∈ mwX10_isPatternAtmd5 := fun w h => List.mem_cons_of_mem _ (List.mem_append_right _ h)
set_option maxRecDepth 20000 in
theorem mg_X10_isPatternAtmd5_X10_isBranchAt_157 : GoodIn mwX10_isPatternAtmd5 (wsV RX10 157 RX10 yX10_isBranchAt mwX10_isBranchAtmd5) := goodIn_r _ [35, 36, 37, 9, 1, 2, 3, 4, 5, 6, 7, 8, 9, 10, 11, 12, 13, 14, 15, 16, 17, 18, 19, 20, 21, 22, 23, 24, 25, 26, 27, 28, 29, 30, 31, 32, 33, 34, 38, 39, 40, 41, 42, 43, 44, 45, 46, 47, 48, 49, 50, 51, 52, 53, 54, 55, 56, 57, 58, 59, 60, 61, 62, 63, 64, 65, 66, 67, 68, 69, 70, 71, 72, 73, 74, 75, 76, 77, 78, 79, 80, 81, 82, 83, 84, 85] (by decide +kernel) (by decide +kernel)
set_option maxRecDepth 20000 in
theorem mg_X10_isPatternAtmd5_X10_byteAt_133 : GoodIn mwX10_isPatternAtmd5 (wsV RX10 133 RX10 yX10_byteAt mwX10_byteAtm) := goodIn_r _ [6, 7, 8, 9, 3, 4, 5, 38, 39, 40, 41, 42, 43, 44, 45, 46, 47, 48, 49, 50, 51, 52, 53, 54, 55, 56, 57, 58, 59, 60, 61, 62, 63, 64, 65, 66, 67, 68, 69, 70, 71, 72, 73, 74, 75, 76, 77, 78, 79, 80, 81, 82, 83, 84, 85] (by decide +kernel) (by decide +kernel)
set_option maxHeartbeats 4000000 in
set_option maxRecDepth 100000 in
theorem m_isPatternAt5 (l : Launch) (dC : Nat → ClassId) (dI : Nat → Nat → Nat) (ad : Nat → Nat) (kc : Nat → ClassId) (x0 x1 x2 x3 x4 x5 x6 x7 x8 x9 x10 x11 x12 x13 x14 x15 x16 x17 x18 x19 x20 x21 : Int32) (f0 f1 f2 f3 f4 f5 f6 f7 f8 f9 f10 f11 f12 f13 f14 f15 f16 f17 f18 f19 f20 f21 : Nat → Int32) (fL : Nat → Nat → Int64) (fN : Nat → Nat → Int32) (fP : Nat → Nat → Nat) (fM : Nat → Nat → Int32) (fO : Nat → Nat → Int32) (sz : Nat) (i1 : Int32) (q0 : 0 ≤ x7.toInt) (q1 : x7.toInt ≤ x4.toInt) (q2 : x4.toInt ≤ 900) (q3 : 0 ≤ x11.toInt) (q4 : x11.toInt ≤ 24) (q5 : i1.toInt = 5) : Met l yX10_isPatternAt mwX10_isPatternAtmd5 ({ frames := 4, cells := 0, slots := 0, locals := 240 }) (va_Pc [.ref (ad 0), .int i1] (fun U => U.heap.size = sz ∧ va_P (dC, dI) vwCl (mW ad kc x0 x1 x2 x3 x4 x5 x6 x7 x8 x9 x10 x11 x12 x13 x14 x15 x16 x17 x18 x19 x20 x21 f0 f1 f2 f3 f4 f5 f6 f7 f8 f9 f10 f11 f12 f13 f14 f15 f16 f17 f18 f19 f20 f21 fL fN fP fM fO) U.heap ∧ va_K (dC, dI) vwCl (mT kc) U ∧ va_D (fun _ => True) (mW ad kc x0 x1 x2 x3 x4 x5 x6 x7 x8 x9 x10 x11 x12 x13 x14 x15 x16 x17 x18 x19 x20 x21 f0 f1 f2 f3 f4 f5 f6 f7 f8 f9 f10 f11 f12 f13 f14 f15 f16 f17 f18 f19 f20 f21 fL fN fP fM fO))) (va_Qi (fun (o9 u9 : Int32) => o9 = u9) (fun (o9 : Int32) t => ∃ (y7 y8 y9 y11 : Int32), (x7.toInt ≤ y7.toInt) ∧ (y7.toInt ≤ x4.toInt) ∧ (x11.toInt ≤ y11.toInt) ∧ (y11.toInt ≤ 24) ∧ (o9.toInt = 1 ∧ (pPat (tx f2 x4.toInt) 0 x7.toInt y7.toInt (y11.toInt - x11.toInt) ∧ x11.toInt < y11.toInt ∧ x7.toInt < y7.toInt) ∨ o9.toInt = 0) ∧ va_P (dC, dI) vwCl (mW ad kc x0 x1 x2 x3 x4 x5 x6 y7 y8 y9 x10 y11 x12 x13 x14 x15 x16 x17 x18 x19 x20 x21 f0 f1 f2 f3 f4 f5 f6 f7 f8 f9 f10 f11 f12 f13 f14 f15 f16 f17 f18 f19 f20 f21 fL fN fP fM fO) t.heap ∧ va_K (dC, dI) vwCl (mT kc) t ∧ va_D (va_A (mW ad kc x0 x1 x2 x3 x4 x5 x6 x7 x8 x9 x10 x11 x12 x13 x14 x15 x16 x17 x18 x19 x20 x21 f0 f1 f2 f3 f4 f5 f6 f7 f8 f9 f10 f11 f12 f13 f14 f15 f16 f17 f18 f19 f20 f21 fL fN fP fM fO) sz) (mW ad kc x0 x1 x2 x3 x4 x5 x6 y7 y8 y9 x10 y11 x12 x13 x14 x15 x16 x17 x18 x19 x20 x21 f0 f1 f2 f3 f4 f5 f6 f7 f8 f9 f10 f11 f12 f13 f14 f15 f16 f17 f18 f19 f20 f21 fL fN fP fM fO)) (va_A (mW ad kc x0 x1 x2 x3 x4 x5 x6 x7 x8 x9 x10 x11 x12 x13 x14 x15 x16 x17 x18 x19 x20 x21 f0 f1 f2 f3 f4 f5 f6 f7 f8 f9 f10 f11 f12 f13 f14 f15 f16 f17 f18 f19 f20 f21 fL fN fP fM fO) sz)) 0 0 (va_A (mW ad kc x0 x1 x2 x3 x4 x5 x6 x7 x8 x9 x10 x11 x12 x13 x14 x15 x16 x17 x18 x19 x20 x21 f0 f1 f2 f3 f4 f5 f6 f7 f8 f9 f10 f11 f12 f13 f14 f15 f16 f17 f18 f19 f20 f21 fL fN fP fM fO) sz) := by
  refine Met.ofW (cc := cX10_isPatternAt) (maxL := 2) (ret := (some .boolean)) (by decide +kernel) rfl ?_
  intro p e s m args below meth c s₁ B hml hv
  obtain ⟨rfl, hsz, hP, hK, hD0⟩ := hv
  have hx := B.exec
  have hb := B.bytes
  have hr := B.returns
  have hts := atoms_spec (ws := mwX10_isPatternAtmd5) B.pre
  have hown : s.vm.findClass RX10 = some m.cls := findClass_of_methodNamed B.named
  have hlocks := B.notSynchronized
  subst hsz
  have hD := hD0.self (sz := s.heap.size)
  generalize hAe : va_A (mW ad kc x0 x1 x2 x3 x4 x5 x6 x7 x8 x9 x10 x11 x12 x13 x14 x15 x16 x17 x18 x19 x20 x21 f0 f1 f2 f3 f4 f5 f6 f7 f8 f9 f10 f11 f12 f13 f14 f15 f16 f17 f18 f19 f20 f21 fL fN fP fM fO) s.heap.size = A at hD ⊢
  have hA : ∀ q : Nat, s.heap.size ≤ q → A q := fun q h => by rw [← hAe]; exact Or.inr h
  have hP : va_P (dC, dI) vwCl (mW ad kc x0 x1 x2 x3 x4 x5 x6 x7 x8 x9 x10 x11 x12 x13 x14 x15 x16 x17 x18 x19 x20 x21 f0 f1 f2 f3 f4 f5 f6 f7 f8 f9 f10 f11 f12 f13 f14 f15 f16 f17 f18 f19 f20 f21 fL fN fP fM fO) s.heap := hP
  have hD : va_D A (mW ad kc x0 x1 x2 x3 x4 x5 x6 x7 x8 x9 x10 x11 x12 x13 x14 x15 x16 x17 x18 x19 x20 x21 f0 f1 f2 f3 f4 f5 f6 f7 f8 f9 f10 f11 f12 f13 f14 f15 f16 f17 f18 f19 f20 f21 fL fN fP fM fO) := hD
  have hK : va_K (dC, dI) vwCl (mT kc) s := hK
  generalize hH : s.heap = H at hP ⊢
  have hS : va_S A s.heap H [] := by rw [← hH]; exact va_S.rf
  have hl := lv_entry ([.ref (ad 0), .int i1]) (n := 2) (Nat.le_of_ble_eq_true rfl)
  rw [lg_entry_eq]
  generalize (lg_sl ([.ref (ad 0), .int i1]) ++ List.replicate (2 - (lg_sl ([.ref (ad 0), .int i1])).length) Slot.unset).toArray = ls at hl ⊢
  have hl : lv_has ls 2 [(0, .ref (ad 0)), (1, .int i1)] := hl
  have rg_i1 := i_rng i1
  refine lv_aload_n hx hb dX10_isPatternAt_0 rfl (lv_at hl 0 rfl) ?_
  refine lv_iload_n hx hb dX10_isPatternAt_1 rfl (lv_at hl 1 rfl) ?_
  have hFc := m_free hD hS hA
  refine va_calli (va_runV (As := [.int i1]) (rest := []) ⟨hx, hb, hml, hown, hts⟩ (m_isBranchAt5 l dC dI ad kc x0 x1 x2 x3 x4 x5 x6 x7 x8 x9 x10 x11 x12 x13 x14 x15 x16 x17 x18 x19 x20 x21 f0 f1 f2 f3 f4 f5 f6 f7 f8 f9 f10 f11 f12 f13 f14 f15 f16 f17 f18 f19 f20 f21 fL fN fP fM fO H.size i1 (by first | omega | assumption | decide | (have l0 := Int32.toInt_zero; omega)) (by first | omega | assumption | decide | (have l0 := Int32.toInt_zero; omega)) (by first | omega | assumption | decide | (have l0 := Int32.toInt_zero; omega)) (by first | omega | assumption | decide | (have l0 := Int32.toInt_zero; omega)) (by first | omega | assumption | decide | (have l0 := Int32.toInt_zero; omega)) (by first | omega | assumption | decide | (have l0 := Int32.toInt_zero; omega))) (cwV 1 hts mg_X10_isPatternAtmd5_X10_isBranchAt_157 rfl rfl rfl (by decide +kernel) ⟨Nat.le_of_ble_eq_true rfl, Nat.le_of_ble_eq_true rfl⟩) ⟨fun a U g mk q => by obtain ⟨q0, q1, qP, qK, qD⟩ := q; exact ⟨q0, q1, qP, va_K.moved (u := U) (U := U.calling g mk a) (Vm.Alike.refl U.vm) qK, qD⟩, va_recv hK hP (ci := 10) (q0 := 0) rfl rfl, fun U hU hW => ⟨rfl, by rw [hU], by rw [hU]; exact hP, va_K.moved hW.alike hK, hD.weaken (fun _ _ _ _ => trivial)⟩⟩ rfl rfl hl.1 rfl (lv_room (Nat.le_of_ble_eq_true rfl)) dX10_isPatternAt_2 ⟨Nat.le_of_ble_eq_true rfl, Nat.le_of_ble_eq_true rfl⟩) hS (fun q _ h => hFc q h) hFc (fun r_1 u t H1 locs ht hvm hw hB hz1 hk1 hS => ?_)
  subst hw
  obtain ⟨x_2, x_3, x_4, x_5, hr_1_0, hr_1_1, hr_1_2, hr_1_3, hr_1_4, hP, hK1, hD1⟩ := hB
  rw [ht] at hP
  have hD := hD1.weaken (fun k q _ h => hFc q.1 h)
  generalize H1 = H at hP hS ⊢
  have rg_x_2 := i_rng x_2
  have rg_x_3 := i_rng x_3
  have rg_x_4 := i_rng x_4
  have rg_x_5 := i_rng x_5
  have rg_r_1 := i_rng r_1
  have hP : va_P (dC, dI) vwCl (mW ad kc x0 x1 x2 x3 x4 x5 x6 x_2 x_3 x_4 x10 x_5 x12 x13 x14 x15 x16 x17 x18 x19 x20 x21 f0 f1 f2 f3 f4 f5 f6 f7 f8 f9 f10 f11 f12 f13 f14 f15 f16 f17 f18 f19 f20 f21 fL fN fP fM fO) H := hP
  have hD : va_D A (mW ad kc x0 x1 x2 x3 x4 x5 x6 x_2 x_3 x_4 x10 x_5 x12 x13 x14 x15 x16 x17 x18 x19 x20 x21 f0 f1 f2 f3 f4 f5 f6 f7 f8 f9 f10 f11 f12 f13 f14 f15 f16 f17 f18 f19 f20 f21 fL fN fP fM fO) := hD
  refine lv_if_ne (tgt := 10) hx hb dX10_isPatternAt_5 (by decide) (fun k_6 => ?_) (fun k_6 => ?_)
  · have tk_6 := c_ne (a := r_1.toInt) (b := 0) rfl (by decide) k_6
    have hT := tf_t hr_1_4 (by omega)
    have loop10 : ∀ (lm10 : Nat) (ea fa fb sa : Int32), (x7.toInt ≤ ea.toInt) → (ea.toInt ≤ x4.toInt) → (x11.toInt ≤ sa.toInt) → (sa.toInt ≤ 24) → (paI (tx f2 x4.toInt) (pSub (tx f2 x4.toInt) 0) x7.toInt ea.toInt x11.toInt sa.toInt) → ((x4.toInt - ea.toInt).toNat) < lm10 → ∀ (H : Heap) (locs : List Loc) (ls : Array Slot), va_P (dC, dI) vwCl (mW ad kc x0 x1 x2 x3 x4 x5 x6 ea fa fb x10 sa x12 x13 x14 x15 x16 x17 x18 x19 x20 x21 f0 f1 f2 f3 f4 f5 f6 f7 f8 f9 f10 f11 f12 f13 f14 f15 f16 f17 f18 f19 f20 f21 fL fN fP fM fO) H → va_D A (mW ad kc x0 x1 x2 x3 x4 x5 x6 ea fa fb x10 sa x12 x13 x14 x15 x16 x17 x18 x19 x20 x21 f0 f1 f2 f3 f4 f5 f6 f7 f8 f9 f10 f11 f12 f13 f14 f15 f16 f17 f18 f19 f20 f21 fL fN fP fM fO) → va_S A s.heap H locs → lv_has ls 2 [(0, .ref (ad 0)), (1, .int i1)] → W p l e (headSpec mwX10_isPatternAtmd5 ({ frames := 4, cells := 0, slots := 0, locals := 240 })).room s m ([.ref (ad 0), .int i1]).toArray below meth c H locs 0 0 (MQ below (va_Qi (fun (o9 u9 : Int32) => o9 = u9) (fun (o9 : Int32) t => ∃ (y7 y8 y9 y11 : Int32), (x7.toInt ≤ y7.toInt) ∧ (y7.toInt ≤ x4.toInt) ∧ (x11.toInt ≤ y11.toInt) ∧ (y11.toInt ≤ 24) ∧ (o9.toInt = 1 ∧ (pPat (tx f2 x4.toInt) 0 x7.toInt y7.toInt (y11.toInt - x11.toInt) ∧ x11.toInt < y11.toInt ∧ x7.toInt < y7.toInt) ∨ o9.toInt = 0) ∧ va_P (dC, dI) vwCl (mW ad kc x0 x1 x2 x3 x4 x5 x6 y7 y8 y9 x10 y11 x12 x13 x14 x15 x16 x17 x18 x19 x20 x21 f0 f1 f2 f3 f4 f5 f6 f7 f8 f9 f10 f11 f12 f13 f14 f15 f16 f17 f18 f19 f20 f21 fL fN fP fM fO) t.heap ∧ va_K (dC, dI) vwCl (mT kc) t ∧ va_D A (mW ad kc x0 x1 x2 x3 x4 x5 x6 y7 y8 y9 x10 y11 x12 x13 x14 x15 x16 x17 x18 x19 x20 x21 f0 f1 f2 f3 f4 f5 f6 f7 f8 f9 f10 f11 f12 f13 f14 f15 f16 f17 f18 f19 f20 f21 fL fN fP fM fO)) A) ([.ref (ad 0), .int i1]).toArray s 0 0 A) (F0 m 10 ls []) := by
      intro lm10
      induction lm10 with
      | zero => intro ea fa fb sa v10_0 v10_1 v10_2 v10_3 v10_4 hm10; exact absurd hm10 (Nat.not_lt_zero _)
      | succ lm10 ih10 =>
        intro ea fa fb sa v10_0 v10_1 v10_2 v10_3 v10_4 hm10 H locs ls hP hD hS hl
        have rg_ea := i_rng ea
        have rg_fa := i_rng fa
        have rg_fb := i_rng fb
        have rg_sa := i_rng sa
        refine lv_aload_n hx hb dX10_isPatternAt_10 rfl (lv_at hl 0 rfl) ?_
        refine lv_aload_n hx hb dX10_isPatternAt_11 rfl (lv_at hl 0 rfl) ?_
        refine va_get (D := (dC, dI)) (ci := 10) (v := .int ea) (C := RX10) (T := TX10) (N := 48) hx hb hts fin_X10_isPatternAtmd5_X10 hown hK hP 0 rfl rfl 10 (by decide) (hts (.fieldLink RX10 130 "PatternGateModel" "end" "I") (List.mem_of_getElem? (i := 2) (by decide +kernel))) (fun _ h9 => h9) rfl dX10_isPatternAt_12 ?_
        refine vp_callSi (W.runV (As := [.int ea]) (rest := []) ⟨hx, hb, hml, hown, hts⟩ (m_byteAt l dC dI ad kc x0 x1 x2 x3 x4 x5 x6 ea fa fb x10 sa x12 x13 x14 x15 x16 x17 x18 x19 x20 x21 f0 f1 f2 f3 f4 f5 f6 f7 f8 f9 f10 f11 f12 f13 f14 f15 f16 f17 f18 f19 f20 f21 fL fN fP fM fO ea (by first | omega | assumption | decide | (have l0 := Int32.toInt_zero; omega)) (by first | omega | assumption | decide | (have l0 := Int32.toInt_zero; omega))) (cwV 1 hts mg_X10_isPatternAtmd5_X10_byteAt_133 rfl rfl rfl (by decide +kernel) ⟨Nat.le_of_ble_eq_true rfl, Nat.le_of_ble_eq_true rfl⟩) ⟨fun a U g mk q => by obtain ⟨q0, qP, qK⟩ := q; exact ⟨q0, qP, va_K.moved (u := U) (U := U.calling g mk a) (Vm.Alike.refl U.vm) qK⟩, va_recv hK hP (ci := 10) (q0 := 0) rfl rfl, fun U hU hW => ⟨rfl, by rw [hU]; exact hP, va_K.moved hW.alike hK⟩⟩ rfl rfl hl.1 rfl (lv_room (Nat.le_of_ble_eq_true rfl)) dX10_isPatternAt_15 ⟨Nat.le_of_ble_eq_true rfl, Nat.le_of_ble_eq_true rfl⟩) (fun r_7 hr_7 => ?_)
        have rg_r_7 := i_rng r_7
        refine lv_bipush (v := 124) hx hb dX10_isPatternAt_18 (by decide) ?_
        refine lv_icmp_ne (tgt := 43) hx hb dX10_isPatternAt_20 (by decide) (fun k_8 => ?_) (fun k_8 => ?_)
        · have tk_8 := c_ne (a := r_7.toInt) (b := 124) rfl (by decide) k_8
          refine lv_iconst (v := 1) hx hb dX10_isPatternAt_43 (by decide) ?_
          have lit_8 : (1 : Int32).toInt = 1 := by decide
          exact W.zret hx hb hr (z_nar (by first | assumption | decide | exact z_of (by omega))) (fun t ht hW => ⟨⟨_, _, rfl, rfl, ea, fa, fb, sa, (by first | omega | assumption | rfl | decide), (by first | omega | assumption | rfl | decide), (by first | omega | assumption | rfl | decide), (by first | omega | assumption | rfl | decide), (Or.inl ⟨by decide, pa_end v10_4 (by omega)⟩), by rw [ht]; exact hP, va_K.moved hW.alike hK, hD⟩, hS.F ht⟩) hS.2.2 dX10_isPatternAt_44
        · have tk_8 := c_eq (a := r_7.toInt) (b := 124) rfl (by decide) k_8
          refine lv_aload_n hx hb dX10_isPatternAt_23 rfl (lv_at hl 0 rfl) ?_
          refine lv_dup hx hb dX10_isPatternAt_24 rfl ?_
          refine va_get (D := (dC, dI)) (ci := 10) (v := .int ea) (C := RX10) (T := TX10) (N := 48) hx hb hts fin_X10_isPatternAtmd5_X10 hown hK hP 0 rfl rfl 10 (by decide) (hts (.fieldLink RX10 130 "PatternGateModel" "end" "I") (List.mem_of_getElem? (i := 2) (by decide +kernel))) (fun _ h9 => h9) rfl dX10_isPatternAt_25 ?_
          refine lv_iconst (v := 1) hx hb dX10_isPatternAt_28 (by decide) ?_
          refine lv_iadd hx hb dX10_isPatternAt_29 ?_
          refine lv_topi (fun y_10 ey_10 => ?_)
          first | have ty_10 := i_add (a := ea.toInt) (b := 1) rfl (by decide) ey_10 (by omega) (by omega) | skip
          refine va_put (D := (dC, dI)) (ci := 10) (v := .int y_10) (ty := .int) (C := RX10) (T := TX10) (N := 48) hx hb hts fin_X10_isPatternAtmd5_X10 tyX10 tyX10_ok nmX10 hown hK hP hD hS 0 rfl rfl 10 (by decide) (hts (.fieldLink RX10 130 "PatternGateModel" "end" "I") (List.mem_of_getElem? (i := 2) (by decide +kernel))) (fun _ h9 => h9) rfl (by decide +kernel) rfl rfl (Nat.le_of_ble_eq_true rfl) dX10_isPatternAt_30 (fun H locs hP hD hS => ?_)
          have hP : va_P (dC, dI) vwCl (mW ad kc x0 x1 x2 x3 x4 x5 x6 y_10 fa fb x10 sa x12 x13 x14 x15 x16 x17 x18 x19 x20 x21 f0 f1 f2 f3 f4 f5 f6 f7 f8 f9 f10 f11 f12 f13 f14 f15 f16 f17 f18 f19 f20 f21 fL fN fP fM fO) H := hP
          have hD : va_D A (mW ad kc x0 x1 x2 x3 x4 x5 x6 y_10 fa fb x10 sa x12 x13 x14 x15 x16 x17 x18 x19 x20 x21 f0 f1 f2 f3 f4 f5 f6 f7 f8 f9 f10 f11 f12 f13 f14 f15 f16 f17 f18 f19 f20 f21 fL fN fP fM fO) := hD
          refine lv_aload_n hx hb dX10_isPatternAt_33 rfl (lv_at hl 0 rfl) ?_
          refine lv_iload_n hx hb dX10_isPatternAt_34 rfl (lv_at hl 1 rfl) ?_
          have hFc := m_free hD hS hA
          refine va_calli (va_runV (As := [.int i1]) (rest := []) ⟨hx, hb, hml, hown, hts⟩ (m_isBranchAt5 l dC dI ad kc x0 x1 x2 x3 x4 x5 x6 y_10 fa fb x10 sa x12 x13 x14 x15 x16 x17 x18 x19 x20 x21 f0 f1 f2 f3 f4 f5 f6 f7 f8 f9 f10 f11 f12 f13 f14 f15 f16 f17 f18 f19 f20 f21 fL fN fP fM fO H.size i1 (by first | omega | assumption | decide | (have l0 := Int32.toInt_zero; omega)) (by first | omega | assumption | decide | (have l0 := Int32.toInt_zero; omega)) (by first | omega | assumption | decide | (have l0 := Int32.toInt_zero; omega)) (by first | omega | assumption | decide | (have l0 := Int32.toInt_zero; omega)) (by first | omega | assumption | decide | (have l0 := Int32.toInt_zero; omega)) (by first | omega | assumption | decide | (have l0 := Int32.toInt_zero; omega))) (cwV 1 hts mg_X10_isPatternAtmd5_X10_isBranchAt_157 rfl rfl rfl (by decide +kernel) ⟨Nat.le_of_ble_eq_true rfl, Nat.le_of_ble_eq_true rfl⟩) ⟨fun a U g mk q => by obtain ⟨q0, q1, qP, qK, qD⟩ := q; exact ⟨q0, q1, qP, va_K.moved (u := U) (U := U.calling g mk a) (Vm.Alike.refl U.vm) qK, qD⟩, va_recv hK hP (ci := 10) (q0 := 0) rfl rfl, fun U hU hW => ⟨rfl, by rw [hU], by rw [hU]; exact hP, va_K.moved hW.alike hK, hD.weaken (fun _ _ _ _ => trivial)⟩⟩ rfl rfl hl.1 rfl (lv_room (Nat.le_of_ble_eq_true rfl)) dX10_isPatternAt_35 ⟨Nat.le_of_ble_eq_true rfl, Nat.le_of_ble_eq_true rfl⟩) hS (fun q _ h => hFc q h) hFc (fun r_11 u t H1 locs ht hvm hw hB hz1 hk1 hS => ?_)
          subst hw
          obtain ⟨x_12, x_13, x_14, x_15, hr_11_0, hr_11_1, hr_11_2, hr_11_3, hr_11_4, hP, hK1, hD1⟩ := hB
          rw [ht] at hP
          have hD := hD1.weaken (fun k q _ h => hFc q.1 h)
          generalize H1 = H at hP hS ⊢
          have rg_x_12 := i_rng x_12
          have rg_x_13 := i_rng x_13
          have rg_x_14 := i_rng x_14
          have rg_x_15 := i_rng x_15
          have rg_r_11 := i_rng r_11
          have hP : va_P (dC, dI) vwCl (mW ad kc x0 x1 x2 x3 x4 x5 x6 x_12 x_13 x_14 x10 x_15 x12 x13 x14 x15 x16 x17 x18 x19 x20 x21 f0 f1 f2 f3 f4 f5 f6 f7 f8 f9 f10 f11 f12 f13 f14 f15 f16 f17 f18 f19 f20 f21 fL fN fP fM fO) H := hP
          have hD : va_D A (mW ad kc x0 x1 x2 x3 x4 x5 x6 x_12 x_13 x_14 x10 x_15 x12 x13 x14 x15 x16 x17 x18 x19 x20 x21 f0 f1 f2 f3 f4 f5 f6 f7 f8 f9 f10 f11 f12 f13 f14 f15 f16 f17 f18 f19 f20 f21 fL fN fP fM fO) := hD
          refine lv_if_ne (tgt := 10) hx hb dX10_isPatternAt_38 (by decide) (fun k_16 => ?_) (fun k_16 => ?_)
          · have tk_16 := c_ne (a := r_11.toInt) (b := 0) rfl (by decide) k_16
            have hT := tf_t hr_11_4 (by omega)
            exact ih10 x_12 x_13 x_14 x_15 (by first | omega | assumption | decide) (by first | omega | assumption | decide) (by first | omega | assumption | decide) (by first | omega | assumption | decide) (pa_add v10_4 (by omega) (by omega) hT) (by omega) _ _ ls hP hD hS (lv_sub hl [0, 1] rfl)
          · have tk_16 := c_eq (a := r_11.toInt) (b := 0) rfl (by decide) k_16
            refine lv_iconst (v := 0) hx hb dX10_isPatternAt_41 (by decide) ?_
            have lit_16 : (0 : Int32).toInt = 0 := by decide
            exact W.zret hx hb hr (z_nar (by first | assumption | decide | exact z_of (by omega))) (fun t ht hW => ⟨⟨_, _, rfl, rfl, x_12, x_13, x_14, x_15, (by first | omega | assumption | rfl | decide), (by first | omega | assumption | rfl | decide), (by first | omega | assumption | rfl | decide), (by first | omega | assumption | rfl | decide), (Or.inr (by first | omega | decide)), by rw [ht]; exact hP, va_K.moved hW.alike hK, hD⟩, hS.F ht⟩) hS.2.2 dX10_isPatternAt_42
    exact loop10 _ x_2 x_3 x_4 x_5 (by first | omega | assumption | decide) (by first | omega | assumption | decide) (by first | omega | assumption | decide) (by first | omega | assumption | decide) (pa_one hT) (Nat.lt_succ_self _) _ _ ls hP hD hS (lv_sub hl [0, 1] rfl)
  · have tk_6 := c_eq (a := r_1.toInt) (b := 0) rfl (by decide) k_6
    refine lv_iconst (v := 0) hx hb dX10_isPatternAt_8 (by decide) ?_
    have lit_17 : (0 : Int32).toInt = 0 := by decide
    exact W.zret hx hb hr (z_nar (by first | assumption | decide | exact z_of (by omega))) (fun t ht hW => ⟨⟨_, _, rfl, rfl, x_2, x_3, x_4, x_5, (by first | omega | assumption | rfl | decide), (by first | omega | assumption | rfl | decide), (by first | omega | assumption | rfl | decide), (by first | omega | assumption | rfl | decide), (Or.inr (by first | omega | decide)), by rw [ht]; exact hP, va_K.moved hW.alike hK, hD⟩, hS.F ht⟩) hS.2.2 dX10_isPatternAt_9
theorem dX10_isAtomAt_30 : decode cX10_isAtomAt 30 = .ok (.aload_n 0, 1) := by decide +kernel
theorem dX10_isAtomAt_31 : decode cX10_isAtomAt 31 = .ok (.dup, 1) := by decide +kernel
theorem dX10_isAtomAt_32 : decode cX10_isAtomAt 32 = .ok (.getfield 130, 3) := by decide +kernel
theorem dX10_isAtomAt_35 : decode cX10_isAtomAt 35 = .ok (.iconst 1, 1) := by decide +kernel
theorem dX10_isAtomAt_36 : decode cX10_isAtomAt 36 = .ok (.iadd, 1) := by decide +kernel
theorem dX10_isAtomAt_37 : decode cX10_isAtomAt 37 = .ok (.putfield 130, 3) := by decide +kernel
theorem dX10_isAtomAt_40 : decode cX10_isAtomAt 40 = .ok (.aload_n 0, 1) := by decide +kernel
theorem dX10_isAtomAt_41 : decode cX10_isAtomAt 41 = .ok (.iload_n 1, 1) := by decide +kernel
theorem dX10_isAtomAt_42 : decode cX10_isAtomAt 42 = .ok (.iconst 1, 1) := by decide +kernel
theorem dX10_isAtomAt_43 : decode cX10_isAtomAt 43 = .ok (.iadd, 1) := by decide +kernel
theorem dX10_isAtomAt_44 : decode cX10_isAtomAt 44 = .ok (.invokevirtual 154, 3) := by decide +kernel
theorem dX10_isAtomAt_47 : decode cX10_isAtomAt 47 = .ok (.ifCond .ne 5, 3) := by decide +kernel
theorem dX10_isAtomAt_50 : decode cX10_isAtomAt 50 = .ok (.iconst 0, 1) := by decide +kernel
theorem dX10_isAtomAt_51 : decode cX10_isAtomAt 51 = .ok (.ireturn, 1) := by decide +kernel
theorem dX10_isAtomAt_52 : decode cX10_isAtomAt 52 = .ok (.aload_n 0, 1) := by decide +kernel
theorem dX10_isAtomAt_53 : decode cX10_isAtomAt 53 = .ok (.aload_n 0, 1) := by decide +kernel
theorem dX10_isAtomAt_54 : decode cX10_isAtomAt 54 = .ok (.getfield 130, 3) := by decide +kernel
theorem dX10_isAtomAt_57 : decode cX10_isAtomAt 57 = .ok (.invokevirtual 133, 3) := by decide +kernel
theorem dX10_isAtomAt_60 : decode cX10_isAtomAt 60 = .ok (.bipush 41, 2) := by decide +kernel
theorem dX10_isAtomAt_62 : decode cX10_isAtomAt 62 = .ok (.if_icmp .eq 13, 3) := by decide +kernel
theorem dX10_isAtomAt_65 : decode cX10_isAtomAt 65 = .ok (.aload_n 0, 1) := by decide +kernel
theorem dX10_isAtomAt_66 : decode cX10_isAtomAt 66 = .ok (.iconst 1, 1) := by decide +kernel
theorem dX10_isAtomAt_67 : decode cX10_isAtomAt 67 = .ok (.aload_n 0, 1) := by decide +kernel
theorem dX10_isAtomAt_68 : decode cX10_isAtomAt 68 = .ok (.getfield 130, 3) := by decide +kernel
theorem dX10_isAtomAt_71 : decode cX10_isAtomAt 71 = .ok (.invokevirtual 126, 3) := by decide +kernel
theorem dX10_isAtomAt_74 : decode cX10_isAtomAt 74 = .ok (.ireturn, 1) := by decide +kernel
theorem dX10_isAtomAt_75 : decode cX10_isAtomAt 75 = .ok (.aload_n 0, 1) := by decide +kernel
theorem dX10_isAtomAt_76 : decode cX10_isAtomAt 76 = .ok (.dup, 1) := by decide +kernel
theorem dX10_isAtomAt_77 : decode cX10_isAtomAt 77 = .ok (.getfield 130, 3) := by decide +kernel
theorem dX10_isAtomAt_80 : decode cX10_isAtomAt 80 = .ok (.iconst 1, 1) := by decide +kernel
theorem dX10_isAtomAt_81 : decode cX10_isAtomAt 81 = .ok (.iadd, 1) := by decide +kernel
theorem dX10_isAtomAt_82 : decode cX10_isAtomAt 82 = .ok (.putfield 130, 3) := by decide +kernel
theorem dX10_isAtomAt_85 : decode cX10_isAtomAt 85 = .ok (.iconst 1, 1) := by decide +kernel
theorem dX10_isAtomAt_86 : decode cX10_isAtomAt 86 = .ok (.ireturn, 1) := by decide +kernel
def mwX10_isAtomAtmd4 : List Cond := .code yX10_isAtomAt cX10_isAtomAt 3 (some .boolean) :: ([.fieldLink RX10 130 "PatternGateModel" "end" "I", .code yX10_byteAt cX10_byteAt 2 (some .int), .fieldLink RX10 114 "PatternGateModel" "size" "I", .fieldLink RX10 18 "PatternGateModel" "text" "[B", .methodLink RX10 133 yX10_byteAt, .instanceMethod yX10_byteAt, .selects RX10 yX10_byteAt yX10_byteAt, .initialized RX10, .fieldLink RX10 151 "PatternGateModel" "spots" "I", .code yX10_isSetAt cX10_isSetAt 3 (some .boolean), .code yX10_isSmall cX10_isSmall 1 (some .boolean), .methodLink RX10 137 yX10_isSmall, .static yX10_isSmall, .code yX10_failsAt cX10_failsAt 3 (some .boolean), .fieldLink RX10 117 "PatternGateModel" "faults" "I", .fieldLink RX10 21 "PatternGateModel" "faultPlace" "I", .methodLink RX10 126 yX10_failsAt, .instanceMethod yX10_failsAt, .selects RX10 yX10_failsAt yX10_failsAt, .code yX10_has cX10_has 2 (some .boolean), .methodLink RX10 170 yX10_has, .static yX10_has, .methodLink RX10 166 yX10_isSetAt, .instanceMethod yX10_isSetAt, .selects RX10 yX10_isSetAt yX10_isSetAt, .code yX10_isPatternAt cX10_isPatternAt 2 (some .boolean), .code yX10_isBranchAt cX10_isBranchAt 3 (some .boolean), .code yX10_isAtomSign cX10_isAtomSign 2 (some .boolean), .methodLink RX10 160 yX10_isAtomSign, .instanceMethod yX10_isAtomSign, .selects RX10 yX10_isAtomSign yX10_isAtomSign, .code yX10_isAtomAt cX10_isAtomAt 3 (some .boolean), .methodLink RX10 163 yX10_isAtomAt, .instanceMethod yX10_isAtomAt, .selects RX10 yX10_isAtomAt yX10_isAtomAt, .methodLink RX10 157 yX10_isBranchAt, .instanceMethod yX10_isBranchAt, .selects RX10 yX10_isBranchAt yX10_isBranchAt, .methodLink RX10 154 yX10_isPatternAt, .instanceMethod yX10_isPatternAt, .selects RX10 yX10_isPatternAt yX10_isPatternAt] ++ wsX100)
theorem fin_X10_isAtomAtmd4_X10 : ∀ w ∈ wsX100, w ∈ mwX10_isAtomAtmd4 := fun w h => List.mem_cons_of_mem _ (List.mem_append_right _ h)
set_option maxRecDepth 20000 in
theorem mg_X10_isAtomAtmd4_X10_byteAt_133 : GoodIn mwX10_isAtomAtmd4 (wsV RX10 133 RX10 yX10_byteAt mwX10_byteAtm) := goodIn_r _ [5, 6, 7, 8, 2, 3, 4, 42, 43, 44, 45, 46, 47, 48, 49, 50, 51, 52, 53, 54, 55, 56, 57, 58, 59, 60, 61, 62, 63, 64, 65, 66, 67, 68, 69, 70, 71, 72, 73, 74, 75, 76, 77, 78, 79, 80, 81, 82, 83, 84, 85, 86, 87, 88, 89] (by decide +kernel) (by decide +kernel)
set_option maxRecDepth 20000 in
theorem mg_X10_isAtomAtmd4_X10_isSetAt_166 : GoodIn mwX10_isAtomAtmd4 (wsV RX10 166 RX10 yX10_isSetAt mwX10_isSetAtm) := goodIn_r _ [23, 24, 25, 8, 10, 1, 2, 3, 4, 5, 6, 7, 8, 11, 12, 13, 14, 15, 16, 17, 18, 19, 20, 21, 22, 42, 43, 44, 45, 46, 47, 48, 49, 50, 51, 52, 53, 54, 55, 56, 57, 58, 59, 60, 61, 62, 63, 64, 65, 66, 67, 68, 69, 70, 71, 72, 73, 74, 75, 76, 77, 78, 79, 80, 81, 82, 83, 84, 85, 86, 87, 88, 89] (by decide +kernel) (by decide +kernel)
set_option maxRecDepth 20000 in
theorem mg_X10_isAtomAtmd4_X10_failsAt_126 : GoodIn mwX10_isAtomAtmd4 (wsV RX10 126 RX10 yX10_failsAt mwX10_failsAtm) := goodIn_r _ [17, 18, 19, 8, 14, 15, 16, 42, 43, 44, 45, 46, 47, 48, 49, 50, 51, 52, 53, 54, 55, 56, 57, 58, 59, 60, 61, 62, 63, 64, 65, 66, 67, 68, 69, 70, 71, 72, 73, 74, 75, 76, 77, 78, 79, 80, 81, 82, 83, 84, 85, 86, 87, 88, 89] (by decide +kernel) (by decide +kernel)
set_option maxRecDepth 20000 in
theorem mg_X10_isAtomAtmd4_X10_isPatternAt_154 : GoodIn mwX10_isAtomAtmd4 (wsV RX10 154 RX10 yX10_isPatternAt mwX10_isPatternAtmd5) := goodIn_r _ [39, 40, 41, 8, 26, 27, 1, 2, 3, 4, 5, 6, 7, 8, 28, 11, 12, 13, 29, 30, 31, 0, 9, 10, 14, 15, 16, 17, 18, 19, 20, 21, 22, 23, 24, 25, 33, 34, 35, 36, 37, 38, 42, 43, 44, 45, 46, 47, 48, 49, 50, 51, 52, 53, 54, 55, 56, 57, 58, 59, 60, 61, 62, 63, 64, 65, 66, 67, 68, 69, 70, 71, 72, 73, 74, 75, 76, 77, 78, 79, 80, 81, 82, 83, 84, 85, 86, 87, 88, 89] (by decide +kernel) (by decide +kernel)
set_option maxHeartbeats 4000000 in
set_option maxRecDepth 100000 in
theorem m_isAtomAt4 (l : Launch) (dC : Nat → ClassId) (dI : Nat → Nat → Nat) (ad : Nat → Nat) (kc : Nat → ClassId) (x0 x1 x2 x3 x4 x5 x6 x7 x8 x9 x10 x11 x12 x13 x14 x15 x16 x17 x18 x19 x20 x21 : Int32) (f0 f1 f2 f3 f4 f5 f6 f7 f8 f9 f10 f11 f12 f13 f14 f15 f16 f17 f18 f19 f20 f21 : Nat → Int32) (fL : Nat → Nat → Int64) (fN : Nat → Nat → Int32) (fP : Nat → Nat → Nat) (fM : Nat → Nat → Int32) (fO : Nat → Nat → Int32) (sz : Nat) (i1 : Int32) (q0 : 0 ≤ x7.toInt) (q1 : x7.toInt ≤ x4.toInt) (q2 : x4.toInt ≤ 900) (q3 : 0 ≤ x11.toInt) (q4 : x11.toInt ≤ 24) (q5 : i1.toInt = 4) (q6 : isAt (tx f2 x4.toInt x7.toInt)) : Met l yX10_isAtomAt mwX10_isAtomAtmd4 ({ frames := 5, cells := 0, slots := 0, locals := 300 }) (va_Pc [.ref (ad 0), .int i1] (fun U => U.heap.size = sz ∧ va_P (dC, dI) vwCl (mW ad kc x0 x1 x2 x3 x4 x5 x6 x7 x8 x9 x10 x11 x12 x13 x14 x15 x16 x17 x18 x19 x20 x21 f0 f1 f2 f3 f4 f5 f6 f7 f8 f9 f10 f11 f12 f13 f14 f15 f16 f17 f18 f19 f20 f21 fL fN fP fM fO) U.heap ∧ va_K (dC, dI) vwCl (mT kc) U ∧ va_D (fun _ => True) (mW ad kc x0 x1 x2 x3 x4 x5 x6 x7 x8 x9 x10 x11 x12 x13 x14 x15 x16 x17 x18 x19 x20 x21 f0 f1 f2 f3 f4 f5 f6 f7 f8 f9 f10 f11 f12 f13 f14 f15 f16 f17 f18 f19 f20 f21 fL fN fP fM fO))) (va_Qi (fun (o9 u9 : Int32) => o9 = u9) (fun (o9 : Int32) t => ∃ (y7 y8 y9 y11 : Int32), (x7.toInt ≤ y7.toInt) ∧ (y7.toInt ≤ x4.toInt) ∧ (x11.toInt ≤ y11.toInt) ∧ (y11.toInt ≤ 24) ∧ (o9.toInt = 1 ∧ (pAtom (tx f2 x4.toInt) (pSub (tx f2 x4.toInt) 1) x7.toInt y7.toInt (y11.toInt - x11.toInt) ∧ x11.toInt < y11.toInt ∧ x7.toInt < y7.toInt) ∨ o9.toInt = 0) ∧ va_P (dC, dI) vwCl (mW ad kc x0 x1 x2 x3 x4 x5 x6 y7 y8 y9 x10 y11 x12 x13 x14 x15 x16 x17 x18 x19 x20 x21 f0 f1 f2 f3 f4 f5 f6 f7 f8 f9 f10 f11 f12 f13 f14 f15 f16 f17 f18 f19 f20 f21 fL fN fP fM fO) t.heap ∧ va_K (dC, dI) vwCl (mT kc) t ∧ va_D (va_A (mW ad kc x0 x1 x2 x3 x4 x5 x6 x7 x8 x9 x10 x11 x12 x13 x14 x15 x16 x17 x18 x19 x20 x21 f0 f1 f2 f3 f4 f5 f6 f7 f8 f9 f10 f11 f12 f13 f14 f15 f16 f17 f18 f19 f20 f21 fL fN fP fM fO) sz) (mW ad kc x0 x1 x2 x3 x4 x5 x6 y7 y8 y9 x10 y11 x12 x13 x14 x15 x16 x17 x18 x19 x20 x21 f0 f1 f2 f3 f4 f5 f6 f7 f8 f9 f10 f11 f12 f13 f14 f15 f16 f17 f18 f19 f20 f21 fL fN fP fM fO)) (va_A (mW ad kc x0 x1 x2 x3 x4 x5 x6 x7 x8 x9 x10 x11 x12 x13 x14 x15 x16 x17 x18 x19 x20 x21 f0 f1 f2 f3 f4 f5 f6 f7 f8 f9 f10 f11 f12 f13 f14 f15 f16 f17 f18 f19 f20 f21 fL fN fP fM fO) sz)) 0 0 (va_A (mW ad kc x0 x1 x2 x3 x4 x5 x6 x7 x8 x9 x10 x11 x12 x13 x14 x15 x16 x17 x18 x19 x20 x21 f0 f1 f2 f3 f4 f5 f6 f7 f8 f9 f10 f11 f12 f13 f14 f15 f16 f17 f18 f19 f20 f21 fL fN fP fM fO) sz) := by
  refine Met.ofW (cc := cX10_isAtomAt) (maxL := 3) (ret := (some .boolean)) (by decide +kernel) rfl ?_
  intro p e s m args below meth c s₁ B hml hv
  obtain ⟨rfl, hsz, hP, hK, hD0⟩ := hv
  have hx := B.exec
  have hb := B.bytes
  have hr := B.returns
  have hts := atoms_spec (ws := mwX10_isAtomAtmd4) B.pre
  have hown : s.vm.findClass RX10 = some m.cls := findClass_of_methodNamed B.named
  have hlocks := B.notSynchronized
  subst hsz
  have hD := hD0.self (sz := s.heap.size)
  generalize hAe : va_A (mW ad kc x0 x1 x2 x3 x4 x5 x6 x7 x8 x9 x10 x11 x12 x13 x14 x15 x16 x17 x18 x19 x20 x21 f0 f1 f2 f3 f4 f5 f6 f7 f8 f9 f10 f11 f12 f13 f14 f15 f16 f17 f18 f19 f20 f21 fL fN fP fM fO) s.heap.size = A at hD ⊢
  have hA : ∀ q : Nat, s.heap.size ≤ q → A q := fun q h => by rw [← hAe]; exact Or.inr h
  have hP : va_P (dC, dI) vwCl (mW ad kc x0 x1 x2 x3 x4 x5 x6 x7 x8 x9 x10 x11 x12 x13 x14 x15 x16 x17 x18 x19 x20 x21 f0 f1 f2 f3 f4 f5 f6 f7 f8 f9 f10 f11 f12 f13 f14 f15 f16 f17 f18 f19 f20 f21 fL fN fP fM fO) s.heap := hP
  have hD : va_D A (mW ad kc x0 x1 x2 x3 x4 x5 x6 x7 x8 x9 x10 x11 x12 x13 x14 x15 x16 x17 x18 x19 x20 x21 f0 f1 f2 f3 f4 f5 f6 f7 f8 f9 f10 f11 f12 f13 f14 f15 f16 f17 f18 f19 f20 f21 fL fN fP fM fO) := hD
  have hK : va_K (dC, dI) vwCl (mT kc) s := hK
  generalize hH : s.heap = H at hP ⊢
  have hS : va_S A s.heap H [] := by rw [← hH]; exact va_S.rf
  have hl := lv_entry ([.ref (ad 0), .int i1]) (n := 3) (Nat.le_of_ble_eq_true rfl)
  rw [lg_entry_eq]
  generalize (lg_sl ([.ref (ad 0), .int i1]) ++ List.replicate (3 - (lg_sl ([.ref (ad 0), .int i1])).length) Slot.unset).toArray = ls at hl ⊢
  have hl : lv_has ls 3 [(0, .ref (ad 0)), (1, .int i1)] := hl
  have rg_i1 := i_rng i1
  unfold isAt at q6
  refine lv_aload_n hx hb dX10_isAtomAt_0 rfl (lv_at hl 0 rfl) ?_
  refine lv_aload_n hx hb dX10_isAtomAt_1 rfl (lv_at hl 0 rfl) ?_
  refine va_get (D := (dC, dI)) (ci := 10) (v := .int x7) (C := RX10) (T := TX10) (N := 48) hx hb hts fin_X10_isAtomAtmd4_X10 hown hK hP 0 rfl rfl 10 (by decide) (hts (.fieldLink RX10 130 "PatternGateModel" "end" "I") (List.mem_of_getElem? (i := 1) (by decide +kernel))) (fun _ h9 => h9) rfl dX10_isAtomAt_2 ?_
  refine vp_callSi (W.runV (As := [.int x7]) (rest := []) ⟨hx, hb, hml, hown, hts⟩ (m_byteAt l dC dI ad kc x0 x1 x2 x3 x4 x5 x6 x7 x8 x9 x10 x11 x12 x13 x14 x15 x16 x17 x18 x19 x20 x21 f0 f1 f2 f3 f4 f5 f6 f7 f8 f9 f10 f11 f12 f13 f14 f15 f16 f17 f18 f19 f20 f21 fL fN fP fM fO x7 (by first | omega | assumption | decide | (have l0 := Int32.toInt_zero; omega)) (by first | omega | assumption | decide | (have l0 := Int32.toInt_zero; omega))) (cwV 1 hts mg_X10_isAtomAtmd4_X10_byteAt_133 rfl rfl rfl (by decide +kernel) ⟨Nat.le_of_ble_eq_true rfl, Nat.le_of_ble_eq_true rfl⟩) ⟨fun a U g mk q => by obtain ⟨q0, qP, qK⟩ := q; exact ⟨q0, qP, va_K.moved (u := U) (U := U.calling g mk a) (Vm.Alike.refl U.vm) qK⟩, va_recv hK hP (ci := 10) (q0 := 0) rfl rfl, fun U hU hW => ⟨rfl, by rw [hU]; exact hP, va_K.moved hW.alike hK⟩⟩ rfl rfl hl.1 rfl (lv_room (Nat.le_of_ble_eq_true rfl)) dX10_isAtomAt_5 ⟨Nat.le_of_ble_eq_true rfl, Nat.le_of_ble_eq_true rfl⟩) (fun r_1 hr_1 => ?_)
  have rg_r_1 := i_rng r_1
  refine lv_istore_n (lv' := [(2, .int r_1), (0, .ref (ad 0)), (1, .int i1)]) hx hb dX10_isAtomAt_8 rfl hl (by decide) rfl (fun ls hl => ?_)
  refine lv_iload_n hx hb dX10_isAtomAt_9 rfl (lv_at hl 0 rfl) ?_
  refine lv_bipush (v := 40) hx hb dX10_isAtomAt_10 (by decide) ?_
  refine lv_icmp_ne (tgt := 87) hx hb dX10_isAtomAt_12 (by decide) (fun k_2 => ?_) (fun k_2 => ?_)
  · have tk_2 := c_ne (a := r_1.toInt) (b := 40) rfl (by decide) k_2
    refine lv_aload_n hx hb dX10_isAtomAt_87 rfl (lv_at hl 1 rfl) ?_
    refine va_get (D := (dC, dI)) (ci := 10) (v := .int x11) (C := RX10) (T := TX10) (N := 48) hx hb hts fin_X10_isAtomAtmd4_X10 hown hK hP 0 rfl rfl 14 (by decide) (hts (.fieldLink RX10 151 "PatternGateModel" "spots" "I") (List.mem_of_getElem? (i := 9) (by decide +kernel))) (fun _ h9 => h9) rfl dX10_isAtomAt_88 ?_
    refine lv_bipush (v := 24) hx hb dX10_isAtomAt_91 (by decide) ?_
    refine lv_icmp_ne (tgt := 106) hx hb dX10_isAtomAt_93 (by decide) (fun k_3 => ?_) (fun k_3 => ?_)
    · have tk_3 := c_ne (a := x11.toInt) (b := 24) rfl (by decide) k_3
      refine lv_aload_n hx hb dX10_isAtomAt_106 rfl (lv_at hl 1 rfl) ?_
      refine lv_dup hx hb dX10_isAtomAt_107 rfl ?_
      refine va_get (D := (dC, dI)) (ci := 10) (v := .int x11) (C := RX10) (T := TX10) (N := 48) hx hb hts fin_X10_isAtomAtmd4_X10 hown hK hP 0 rfl rfl 14 (by decide) (hts (.fieldLink RX10 151 "PatternGateModel" "spots" "I") (List.mem_of_getElem? (i := 9) (by decide +kernel))) (fun _ h9 => h9) rfl dX10_isAtomAt_108 ?_
      refine lv_iconst (v := 1) hx hb dX10_isAtomAt_111 (by decide) ?_
      refine lv_iadd hx hb dX10_isAtomAt_112 ?_
      refine lv_topi (fun y_4 ey_4 => ?_)
      first | have ty_4 := i_add (a := x11.toInt) (b := 1) rfl (by decide) ey_4 (by omega) (by omega) | skip
      refine va_put (D := (dC, dI)) (ci := 10) (v := .int y_4) (ty := .int) (C := RX10) (T := TX10) (N := 48) hx hb hts fin_X10_isAtomAtmd4_X10 tyX10 tyX10_ok nmX10 hown hK hP hD hS 0 rfl rfl 14 (by decide) (hts (.fieldLink RX10 151 "PatternGateModel" "spots" "I") (List.mem_of_getElem? (i := 9) (by decide +kernel))) (fun _ h9 => h9) rfl (by decide +kernel) rfl rfl (Nat.le_of_ble_eq_true rfl) dX10_isAtomAt_113 (fun H locs hP hD hS => ?_)
      have hP : va_P (dC, dI) vwCl (mW ad kc x0 x1 x2 x3 x4 x5 x6 x7 x8 x9 x10 y_4 x12 x13 x14 x15 x16 x17 x18 x19 x20 x21 f0 f1 f2 f3 f4 f5 f6 f7 f8 f9 f10 f11 f12 f13 f14 f15 f16 f17 f18 f19 f20 f21 fL fN fP fM fO) H := hP
      have hD : va_D A (mW ad kc x0 x1 x2 x3 x4 x5 x6 x7 x8 x9 x10 y_4 x12 x13 x14 x15 x16 x17 x18 x19 x20 x21 f0 f1 f2 f3 f4 f5 f6 f7 f8 f9 f10 f11 f12 f13 f14 f15 f16 f17 f18 f19 f20 f21 fL fN fP fM fO) := hD
      refine lv_aload_n hx hb dX10_isAtomAt_116 rfl (lv_at hl 1 rfl) ?_
      refine lv_dup hx hb dX10_isAtomAt_117 rfl ?_
      refine va_get (D := (dC, dI)) (ci := 10) (v := .int x7) (C := RX10) (T := TX10) (N := 48) hx hb hts fin_X10_isAtomAtmd4_X10 hown hK hP 0 rfl rfl 10 (by decide) (hts (.fieldLink RX10 130 "PatternGateModel" "end" "I") (List.mem_of_getElem? (i := 1) (by decide +kernel))) (fun _ h9 => h9) rfl dX10_isAtomAt_118 ?_
      refine lv_iconst (v := 1) hx hb dX10_isAtomAt_121 (by decide) ?_
      refine lv_iadd hx hb dX10_isAtomAt_122 ?_
      refine lv_topi (fun y_5 ey_5 => ?_)
      first | have ty_5 := i_add (a := x7.toInt) (b := 1) rfl (by decide) ey_5 (by omega) (by omega) | skip
      refine va_put (D := (dC, dI)) (ci := 10) (v := .int y_5) (ty := .int) (C := RX10) (T := TX10) (N := 48) hx hb hts fin_X10_isAtomAtmd4_X10 tyX10 tyX10_ok nmX10 hown hK hP hD hS 0 rfl rfl 10 (by decide) (hts (.fieldLink RX10 130 "PatternGateModel" "end" "I") (List.mem_of_getElem? (i := 1) (by decide +kernel))) (fun _ h9 => h9) rfl (by decide +kernel) rfl rfl (Nat.le_of_ble_eq_true rfl) dX10_isAtomAt_123 (fun H locs hP hD hS => ?_)
      have hP : va_P (dC, dI) vwCl (mW ad kc x0 x1 x2 x3 x4 x5 x6 y_5 x8 x9 x10 y_4 x12 x13 x14 x15 x16 x17 x18 x19 x20 x21 f0 f1 f2 f3 f4 f5 f6 f7 f8 f9 f10 f11 f12 f13 f14 f15 f16 f17 f18 f19 f20 f21 fL fN fP fM fO) H := hP
      have hD : va_D A (mW ad kc x0 x1 x2 x3 x4 x5 x6 y_5 x8 x9 x10 y_4 x12 x13 x14 x15 x16 x17 x18 x19 x20 x21 f0 f1 f2 f3 f4 f5 f6 f7 f8 f9 f10 f11 f12 f13 f14 f15 f16 f17 f18 f19 f20 f21 fL fN fP fM fO) := hD
      refine lv_iload_n hx hb dX10_isAtomAt_126 rfl (lv_at hl 0 rfl) ?_
      refine lv_bipush (v := 91) hx hb dX10_isAtomAt_127 (by decide) ?_
      refine lv_icmp_ne (tgt := 139) hx hb dX10_isAtomAt_129 (by decide) (fun k_6 => ?_) (fun k_6 => ?_)
      · have tk_6 := c_ne (a := r_1.toInt) (b := 91) rfl (by decide) k_6
        refine lv_iconst (v := 1) hx hb dX10_isAtomAt_139 (by decide) ?_
        refine lv_goto (tgt := 144) hx hb dX10_isAtomAt_140 (by decide) ?_
        have lit_6 : (1 : Int32).toInt = 1 := by decide
        exact W.zret hx hb hr (z_nar (by first | assumption | decide | exact z_of (by omega))) (fun t ht hW => ⟨⟨_, _, rfl, rfl, y_5, x8, x9, y_4, (by first | omega | assumption | rfl | decide), (by first | omega | assumption | rfl | decide), (by first | omega | assumption | rfl | decide), (by first | omega | assumption | rfl | decide), (Or.inl ⟨by decide, ⟨Or.inl ⟨by unfold isSm; omega, by omega, by omega⟩, by omega, by omega⟩⟩), by rw [ht]; exact hP, va_K.moved hW.alike hK, hD⟩, hS.F ht⟩) hS.2.2 dX10_isAtomAt_144
      · have tk_6 := c_eq (a := r_1.toInt) (b := 91) rfl (by decide) k_6
        refine lv_aload_n hx hb dX10_isAtomAt_132 rfl (lv_at hl 1 rfl) ?_
        have hFc := m_free hD hS hA
        refine va_calli (va_runV (As := []) (rest := []) ⟨hx, hb, hml, hown, hts⟩ (m_isSetAt l dC dI ad kc x0 x1 x2 x3 x4 x5 x6 y_5 x8 x9 x10 y_4 x12 x13 x14 x15 x16 x17 x18 x19 x20 x21 f0 f1 f2 f3 f4 f5 f6 f7 f8 f9 f10 f11 f12 f13 f14 f15 f16 f17 f18 f19 f20 f21 fL fN fP fM fO H.size (by first | omega | assumption | decide | (have l0 := Int32.toInt_zero; omega)) (by first | omega | assumption | decide | (have l0 := Int32.toInt_zero; omega)) (by first | omega | assumption | decide | (have l0 := Int32.toInt_zero; omega))) (cwV 0 hts mg_X10_isAtomAtmd4_X10_isSetAt_166 rfl rfl rfl (by decide +kernel) ⟨Nat.le_of_ble_eq_true rfl, Nat.le_of_ble_eq_true rfl⟩) ⟨fun a U g mk q => by obtain ⟨q0, q1, qP, qK, qD⟩ := q; exact ⟨q0, q1, qP, va_K.moved (u := U) (U := U.calling g mk a) (Vm.Alike.refl U.vm) qK, qD⟩, va_recv hK hP (ci := 10) (q0 := 0) rfl rfl, fun U hU hW => ⟨rfl, by rw [hU], by rw [hU]; exact hP, va_K.moved hW.alike hK, hD.weaken (fun _ _ _ _ => trivial)⟩⟩ rfl rfl hl.1 rfl (lv_room (Nat.le_of_ble_eq_true rfl)) dX10_isAtomAt_133 ⟨Nat.le_of_ble_eq_true rfl, Nat.le_of_ble_eq_true rfl⟩) hS (fun q _ h => hFc q h) hFc (fun r_8 u t H1 locs ht hvm hw hB hz1 hk1 hS => ?_)
        subst hw
        obtain ⟨x_9, x_10, x_11, hr_8_0, hr_8_1, hr_8_2, hP, hK1, hD1⟩ := hB
        rw [ht] at hP
        have hD := hD1.weaken (fun k q _ h => hFc q.1 h)
        generalize H1 = H at hP hS ⊢
        have rg_x_9 := i_rng x_9
        have rg_x_10 := i_rng x_10
        have rg_x_11 := i_rng x_11
        have rg_r_8 := i_rng r_8
        have hP : va_P (dC, dI) vwCl (mW ad kc x0 x1 x2 x3 x4 x5 x6 x_9 x_10 x_11 x10 y_4 x12 x13 x14 x15 x16 x17 x18 x19 x20 x21 f0 f1 f2 f3 f4 f5 f6 f7 f8 f9 f10 f11 f12 f13 f14 f15 f16 f17 f18 f19 f20 f21 fL fN fP fM fO) H := hP
        have hD : va_D A (mW ad kc x0 x1 x2 x3 x4 x5 x6 x_9 x_10 x_11 x10 y_4 x12 x13 x14 x15 x16 x17 x18 x19 x20 x21 f0 f1 f2 f3 f4 f5 f6 f7 f8 f9 f10 f11 f12 f13 f14 f15 f16 f17 f18 f19 f20 f21 fL fN fP fM fO) := hD
        refine lv_if_eq (tgt := 143) hx hb dX10_isAtomAt_136 (by decide) (fun k_12 => ?_) (fun k_12 => ?_)
        · have tk_12 := c_eq (a := r_8.toInt) (b := 0) rfl (by decide) k_12
          refine lv_iconst (v := 0) hx hb dX10_isAtomAt_143 (by decide) ?_
          have lit_12 : (0 : Int32).toInt = 0 := by decide
          exact W.zret hx hb hr (z_nar (by first | assumption | decide | exact z_of (by omega))) (fun t ht hW => ⟨⟨_, _, rfl, rfl, x_9, x_10, x_11, y_4, (by first | omega | assumption | rfl | decide), (by first | omega | assumption | rfl | decide), (by first | omega | assumption | rfl | decide), (by first | omega | assumption | rfl | decide), (Or.inr (by first | omega | decide)), by rw [ht]; exact hP, va_K.moved hW.alike hK, hD⟩, hS.F ht⟩) hS.2.2 dX10_isAtomAt_144
        · have tk_12 := c_ne (a := r_8.toInt) (b := 0) rfl (by decide) k_12
          have hT := tf_t hr_8_2 (by omega)
          refine lv_iconst (v := 1) hx hb dX10_isAtomAt_139 (by decide) ?_
          refine lv_goto (tgt := 144) hx hb dX10_isAtomAt_140 (by decide) ?_
          have lit_13 : (1 : Int32).toInt = 1 := by decide
          exact W.zret hx hb hr (z_nar (by first | assumption | decide | exact z_of (by omega))) (fun t ht hW => ⟨⟨_, _, rfl, rfl, x_9, x_10, x_11, y_4, (by first | omega | assumption | rfl | decide), (by first | omega | assumption | rfl | decide), (by first | omega | assumption | rfl | decide), (by first | omega | assumption | rfl | decide), (Or.inl ⟨by decide, ⟨Or.inr (Or.inl ⟨by omega, by rw [← show y_5.toInt = x7.toInt + 1 by omega]; exact hT.1, by omega⟩), by omega, by omega⟩⟩), by rw [ht]; exact hP, va_K.moved hW.alike hK, hD⟩, hS.F ht⟩) hS.2.2 dX10_isAtomAt_144
    · have tk_3 := c_eq (a := x11.toInt) (b := 24) rfl (by decide) k_3
      refine lv_aload_n hx hb dX10_isAtomAt_96 rfl (lv_at hl 1 rfl) ?_
      refine lv_iconst (v := 4) hx hb dX10_isAtomAt_97 (by decide) ?_
      refine lv_aload_n hx hb dX10_isAtomAt_98 rfl (lv_at hl 1 rfl) ?_
      refine va_get (D := (dC, dI)) (ci := 10) (v := .int x7) (C := RX10) (T := TX10) (N := 48) hx hb hts fin_X10_isAtomAtmd4_X10 hown hK hP 0 rfl rfl 10 (by decide) (hts (.fieldLink RX10 130 "PatternGateModel" "end" "I") (List.mem_of_getElem? (i := 1) (by decide +kernel))) (fun _ h9 => h9) rfl dX10_isAtomAt_99 ?_
      have hFc := m_free hD hS hA
      refine va_calli (va_runV (As := [.int 4, .int x7]) (rest := []) ⟨hx, hb, hml, hown, hts⟩ (m_failsAt l dC dI ad kc x0 x1 x2 x3 x4 x5 x6 x7 x8 x9 x10 x11 x12 x13 x14 x15 x16 x17 x18 x19 x20 x21 f0 f1 f2 f3 f4 f5 f6 f7 f8 f9 f10 f11 f12 f13 f14 f15 f16 f17 f18 f19 f20 f21 fL fN fP fM fO H.size 4 x7 ) (cwV 2 hts mg_X10_isAtomAtmd4_X10_failsAt_126 rfl rfl rfl (by decide +kernel) ⟨Nat.le_of_ble_eq_true rfl, Nat.le_of_ble_eq_true rfl⟩) ⟨fun a U g mk q => by obtain ⟨q0, q1, qP, qK, qD⟩ := q; exact ⟨q0, q1, qP, va_K.moved (u := U) (U := U.calling g mk a) (Vm.Alike.refl U.vm) qK, qD⟩, va_recv hK hP (ci := 10) (q0 := 0) rfl rfl, fun U hU hW => ⟨rfl, by rw [hU], by rw [hU]; exact hP, va_K.moved hW.alike hK, hD.weaken (fun _ _ _ _ => trivial)⟩⟩ rfl rfl hl.1 rfl (lv_room (Nat.le_of_ble_eq_true rfl)) dX10_isAtomAt_102 ⟨Nat.le_of_ble_eq_true rfl, Nat.le_of_ble_eq_true rfl⟩) hS (fun q _ h => hFc q h) hFc (fun r_15 u t H1 locs ht hvm hw hB hz1 hk1 hS => ?_)
      subst hw
      obtain ⟨x_16, x_17, hr_15_0, hP, hK1, hD1⟩ := hB
      rw [ht] at hP
      have hD := hD1.weaken (fun k q _ h => hFc q.1 h)
      generalize H1 = H at hP hS ⊢
      have rg_x_16 := i_rng x_16
      have rg_x_17 := i_rng x_17
      have rg_r_15 := i_rng r_15
      have hP : va_P (dC, dI) vwCl (mW ad kc x0 x1 x2 x3 x4 x5 x6 x7 x_16 x_17 x10 x11 x12 x13 x14 x15 x16 x17 x18 x19 x20 x21 f0 f1 f2 f3 f4 f5 f6 f7 f8 f9 f10 f11 f12 f13 f14 f15 f16 f17 f18 f19 f20 f21 fL fN fP fM fO) H := hP
      have hD : va_D A (mW ad kc x0 x1 x2 x3 x4 x5 x6 x7 x_16 x_17 x10 x11 x12 x13 x14 x15 x16 x17 x18 x19 x20 x21 f0 f1 f2 f3 f4 f5 f6 f7 f8 f9 f10 f11 f12 f13 f14 f15 f16 f17 f18 f19 f20 f21 fL fN fP fM fO) := hD
      exact W.zret hx hb hr (z_nar (by first | assumption | decide | exact z_of (by omega))) (fun t ht hW => ⟨⟨_, _, rfl, rfl, x7, x_16, x_17, x11, (by first | omega | assumption | rfl | decide), (by first | omega | assumption | rfl | decide), (by first | omega | assumption | rfl | decide), (by first | omega | assumption | rfl | decide), (Or.inr (by first | omega | decide)), by rw [ht]; exact hP, va_K.moved hW.alike hK, hD⟩, hS.F ht⟩) hS.2.2 dX10_isAtomAt_105
  · have tk_2 := c_eq (a := r_1.toInt) (b := 40) rfl (by decide) k_2
    refine lv_iload_n hx hb dX10_isAtomAt_15 rfl (lv_at hl 2 rfl) ?_
    refine lv_iconst (v := 5) hx hb dX10_isAtomAt_16 (by decide) ?_
    refine lv_icmp_ne (tgt := 30) hx hb dX10_isAtomAt_17 (by decide) (fun k_18 => ?_) (fun k_18 => ?_)
    · have tk_18 := c_ne (a := i1.toInt) (b := 5) rfl (by decide) k_18
      refine lv_aload_n hx hb dX10_isAtomAt_30 rfl (lv_at hl 1 rfl) ?_
      refine lv_dup hx hb dX10_isAtomAt_31 rfl ?_
      refine va_get (D := (dC, dI)) (ci := 10) (v := .int x7) (C := RX10) (T := TX10) (N := 48) hx hb hts fin_X10_isAtomAtmd4_X10 hown hK hP 0 rfl rfl 10 (by decide) (hts (.fieldLink RX10 130 "PatternGateModel" "end" "I") (List.mem_of_getElem? (i := 1) (by decide +kernel))) (fun _ h9 => h9) rfl dX10_isAtomAt_32 ?_
      refine lv_iconst (v := 1) hx hb dX10_isAtomAt_35 (by decide) ?_
      refine lv_iadd hx hb dX10_isAtomAt_36 ?_
      refine lv_topi (fun y_19 ey_19 => ?_)
      first | have ty_19 := i_add (a := x7.toInt) (b := 1) rfl (by decide) ey_19 (by omega) (by omega) | skip
      refine va_put (D := (dC, dI)) (ci := 10) (v := .int y_19) (ty := .int) (C := RX10) (T := TX10) (N := 48) hx hb hts fin_X10_isAtomAtmd4_X10 tyX10 tyX10_ok nmX10 hown hK hP hD hS 0 rfl rfl 10 (by decide) (hts (.fieldLink RX10 130 "PatternGateModel" "end" "I") (List.mem_of_getElem? (i := 1) (by decide +kernel))) (fun _ h9 => h9) rfl (by decide +kernel) rfl rfl (Nat.le_of_ble_eq_true rfl) dX10_isAtomAt_37 (fun H locs hP hD hS => ?_)
      have hP : va_P (dC, dI) vwCl (mW ad kc x0 x1 x2 x3 x4 x5 x6 y_19 x8 x9 x10 x11 x12 x13 x14 x15 x16 x17 x18 x19 x20 x21 f0 f1 f2 f3 f4 f5 f6 f7 f8 f9 f10 f11 f12 f13 f14 f15 f16 f17 f18 f19 f20 f21 fL fN fP fM fO) H := hP
      have hD : va_D A (mW ad kc x0 x1 x2 x3 x4 x5 x6 y_19 x8 x9 x10 x11 x12 x13 x14 x15 x16 x17 x18 x19 x20 x21 f0 f1 f2 f3 f4 f5 f6 f7 f8 f9 f10 f11 f12 f13 f14 f15 f16 f17 f18 f19 f20 f21 fL fN fP fM fO) := hD
      refine lv_aload_n hx hb dX10_isAtomAt_40 rfl (lv_at hl 1 rfl) ?_
      refine lv_iload_n hx hb dX10_isAtomAt_41 rfl (lv_at hl 2 rfl) ?_
      refine lv_iconst (v := 1) hx hb dX10_isAtomAt_42 (by decide) ?_
      refine lv_iadd hx hb dX10_isAtomAt_43 ?_
      refine lv_topi (fun y_20 ey_20 => ?_)
      first | have ty_20 := i_add (a := i1.toInt) (b := 1) rfl (by decide) ey_20 (by omega) (by omega) | skip
      have hFc := m_free hD hS hA
      refine va_calli (va_runV (As := [.int y_20]) (rest := []) ⟨hx, hb, hml, hown, hts⟩ (m_isPatternAt5 l dC dI ad kc x0 x1 x2 x3 x4 x5 x6 y_19 x8 x9 x10 x11 x12 x13 x14 x15 x16 x17 x18 x19 x20 x21 f0 f1 f2 f3 f4 f5 f6 f7 f8 f9 f10 f11 f12 f13 f14 f15 f16 f17 f18 f19 f20 f21 fL fN fP fM fO H.size y_20 (by first | omega | assumption | decide | (have l0 := Int32.toInt_zero; omega)) (by first | omega | assumption | decide | (have l0 := Int32.toInt_zero; omega)) (by first | omega | assumption | decide | (have l0 := Int32.toInt_zero; omega)) (by first | omega | assumption | decide | (have l0 := Int32.toInt_zero; omega)) (by first | omega | assumption | decide | (have l0 := Int32.toInt_zero; omega)) (by first | omega | assumption | decide | (have l0 := Int32.toInt_zero; omega))) (cwV 1 hts mg_X10_isAtomAtmd4_X10_isPatternAt_154 rfl rfl rfl (by decide +kernel) ⟨Nat.le_of_ble_eq_true rfl, Nat.le_of_ble_eq_true rfl⟩) ⟨fun a U g mk q => by obtain ⟨q0, q1, qP, qK, qD⟩ := q; exact ⟨q0, q1, qP, va_K.moved (u := U) (U := U.calling g mk a) (Vm.Alike.refl U.vm) qK, qD⟩, va_recv hK hP (ci := 10) (q0 := 0) rfl rfl, fun U hU hW => ⟨rfl, by rw [hU], by rw [hU]; exact hP, va_K.moved hW.alike hK, hD.weaken (fun _ _ _ _ => trivial)⟩⟩ rfl rfl hl.1 rfl (lv_room (Nat.le_of_ble_eq_true rfl)) dX10_isAtomAt_44 ⟨Nat.le_of_ble_eq_true rfl, Nat.le_of_ble_eq_true rfl⟩) hS (fun q _ h => hFc q h) hFc (fun r_21 u t H1 locs ht hvm hw hB hz1 hk1 hS => ?_)
      subst hw
      obtain ⟨x_22, x_23, x_24, x_25, hr_21_0, hr_21_1, hr_21_2, hr_21_3, hr_21_4, hP, hK1, hD1⟩ := hB
      rw [ht] at hP
      have hD := hD1.weaken (fun k q _ h => hFc q.1 h)
      generalize H1 = H at hP hS ⊢
      have rg_x_22 := i_rng x_22
      have rg_x_23 := i_rng x_23
      have rg_x_24 := i_rng x_24
      have rg_x_25 := i_rng x_25
      have rg_r_21 := i_rng r_21
      have hP : va_P (dC, dI) vwCl (mW ad kc x0 x1 x2 x3 x4 x5 x6 x_22 x_23 x_24 x10 x_25 x12 x13 x14 x15 x16 x17 x18 x19 x20 x21 f0 f1 f2 f3 f4 f5 f6 f7 f8 f9 f10 f11 f12 f13 f14 f15 f16 f17 f18 f19 f20 f21 fL fN fP fM fO) H := hP
      have hD : va_D A (mW ad kc x0 x1 x2 x3 x4 x5 x6 x_22 x_23 x_24 x10 x_25 x12 x13 x14 x15 x16 x17 x18 x19 x20 x21 f0 f1 f2 f3 f4 f5 f6 f7 f8 f9 f10 f11 f12 f13 f14 f15 f16 f17 f18 f19 f20 f21 fL fN fP fM fO) := hD
      refine lv_if_ne (tgt := 52) hx hb dX10_isAtomAt_47 (by decide) (fun k_26 => ?_) (fun k_26 => ?_)
      · have tk_26 := c_ne (a := r_21.toInt) (b := 0) rfl (by decide) k_26
        have hT := tf_t hr_21_4 (by omega)
        refine lv_aload_n hx hb dX10_isAtomAt_52 rfl (lv_at hl 1 rfl) ?_
        refine lv_aload_n hx hb dX10_isAtomAt_53 rfl (lv_at hl 1 rfl) ?_
        refine va_get (D := (dC, dI)) (ci := 10) (v := .int x_22) (C := RX10) (T := TX10) (N := 48) hx hb hts fin_X10_isAtomAtmd4_X10 hown hK hP 0 rfl rfl 10 (by decide) (hts (.fieldLink RX10 130 "PatternGateModel" "end" "I") (List.mem_of_getElem? (i := 1) (by decide +kernel))) (fun _ h9 => h9) rfl dX10_isAtomAt_54 ?_
        refine vp_callSi (W.runV (As := [.int x_22]) (rest := []) ⟨hx, hb, hml, hown, hts⟩ (m_byteAt l dC dI ad kc x0 x1 x2 x3 x4 x5 x6 x_22 x_23 x_24 x10 x_25 x12 x13 x14 x15 x16 x17 x18 x19 x20 x21 f0 f1 f2 f3 f4 f5 f6 f7 f8 f9 f10 f11 f12 f13 f14 f15 f16 f17 f18 f19 f20 f21 fL fN fP fM fO x_22 (by first | omega | assumption | decide | (have l0 := Int32.toInt_zero; omega)) (by first | omega | assumption | decide | (have l0 := Int32.toInt_zero; omega))) (cwV 1 hts mg_X10_isAtomAtmd4_X10_byteAt_133 rfl rfl rfl (by decide +kernel) ⟨Nat.le_of_ble_eq_true rfl, Nat.le_of_ble_eq_true rfl⟩) ⟨fun a U g mk q => by obtain ⟨q0, qP, qK⟩ := q; exact ⟨q0, qP, va_K.moved (u := U) (U := U.calling g mk a) (Vm.Alike.refl U.vm) qK⟩, va_recv hK hP (ci := 10) (q0 := 0) rfl rfl, fun U hU hW => ⟨rfl, by rw [hU]; exact hP, va_K.moved hW.alike hK⟩⟩ rfl rfl hl.1 rfl (lv_room (Nat.le_of_ble_eq_true rfl)) dX10_isAtomAt_57 ⟨Nat.le_of_ble_eq_true rfl, Nat.le_of_ble_eq_true rfl⟩) (fun r_27 hr_27 => ?_)
        have rg_r_27 := i_rng r_27
        refine lv_bipush (v := 41) hx hb dX10_isAtomAt_60 (by decide) ?_
        refine lv_icmp_eq (tgt := 75) hx hb dX10_isAtomAt_62 (by decide) (fun k_28 => ?_) (fun k_28 => ?_)
        · have tk_28 := c_eq (a := r_27.toInt) (b := 41) rfl (by decide) k_28
          refine lv_aload_n hx hb dX10_isAtomAt_75 rfl (lv_at hl 1 rfl) ?_
          refine lv_dup hx hb dX10_isAtomAt_76 rfl ?_
          refine va_get (D := (dC, dI)) (ci := 10) (v := .int x_22) (C := RX10) (T := TX10) (N := 48) hx hb hts fin_X10_isAtomAtmd4_X10 hown hK hP 0 rfl rfl 10 (by decide) (hts (.fieldLink RX10 130 "PatternGateModel" "end" "I") (List.mem_of_getElem? (i := 1) (by decide +kernel))) (fun _ h9 => h9) rfl dX10_isAtomAt_77 ?_
          refine lv_iconst (v := 1) hx hb dX10_isAtomAt_80 (by decide) ?_
          refine lv_iadd hx hb dX10_isAtomAt_81 ?_
          refine lv_topi (fun y_29 ey_29 => ?_)
          first | have ty_29 := i_add (a := x_22.toInt) (b := 1) rfl (by decide) ey_29 (by omega) (by omega) | skip
          refine va_put (D := (dC, dI)) (ci := 10) (v := .int y_29) (ty := .int) (C := RX10) (T := TX10) (N := 48) hx hb hts fin_X10_isAtomAtmd4_X10 tyX10 tyX10_ok nmX10 hown hK hP hD hS 0 rfl rfl 10 (by decide) (hts (.fieldLink RX10 130 "PatternGateModel" "end" "I") (List.mem_of_getElem? (i := 1) (by decide +kernel))) (fun _ h9 => h9) rfl (by decide +kernel) rfl rfl (Nat.le_of_ble_eq_true rfl) dX10_isAtomAt_82 (fun H locs hP hD hS => ?_)
          have hP : va_P (dC, dI) vwCl (mW ad kc x0 x1 x2 x3 x4 x5 x6 y_29 x_23 x_24 x10 x_25 x12 x13 x14 x15 x16 x17 x18 x19 x20 x21 f0 f1 f2 f3 f4 f5 f6 f7 f8 f9 f10 f11 f12 f13 f14 f15 f16 f17 f18 f19 f20 f21 fL fN fP fM fO) H := hP
          have hD : va_D A (mW ad kc x0 x1 x2 x3 x4 x5 x6 y_29 x_23 x_24 x10 x_25 x12 x13 x14 x15 x16 x17 x18 x19 x20 x21 f0 f1 f2 f3 f4 f5 f6 f7 f8 f9 f10 f11 f12 f13 f14 f15 f16 f17 f18 f19 f20 f21 fL fN fP fM fO) := hD
          refine lv_iconst (v := 1) hx hb dX10_isAtomAt_85 (by decide) ?_
          have lit_29 : (1 : Int32).toInt = 1 := by decide
          exact W.zret hx hb hr (z_nar (by first | assumption | decide | exact z_of (by omega))) (fun t ht hW => ⟨⟨_, _, rfl, rfl, y_29, x_23, x_24, x_25, (by first | omega | assumption | rfl | decide), (by first | omega | assumption | rfl | decide), (by first | omega | assumption | rfl | decide), (by first | omega | assumption | rfl | decide), (Or.inl ⟨by decide, ⟨Or.inr (Or.inr ⟨by omega, by rw [show y_29.toInt - 1 = x_22.toInt by omega, ← show y_19.toInt = x7.toInt + 1 by omega]; exact hT.1, by rw [show y_29.toInt - 1 = x_22.toInt by omega]; omega⟩), by omega, by omega⟩⟩), by rw [ht]; exact hP, va_K.moved hW.alike hK, hD⟩, hS.F ht⟩) hS.2.2 dX10_isAtomAt_86
        · have tk_28 := c_ne (a := r_27.toInt) (b := 41) rfl (by decide) k_28
          refine lv_aload_n hx hb dX10_isAtomAt_65 rfl (lv_at hl 1 rfl) ?_
          refine lv_iconst (v := 1) hx hb dX10_isAtomAt_66 (by decide) ?_
          refine lv_aload_n hx hb dX10_isAtomAt_67 rfl (lv_at hl 1 rfl) ?_
          refine va_get (D := (dC, dI)) (ci := 10) (v := .int x_22) (C := RX10) (T := TX10) (N := 48) hx hb hts fin_X10_isAtomAtmd4_X10 hown hK hP 0 rfl rfl 10 (by decide) (hts (.fieldLink RX10 130 "PatternGateModel" "end" "I") (List.mem_of_getElem? (i := 1) (by decide +kernel))) (fun _ h9 => h9) rfl dX10_isAtomAt_68 ?_
          have hFc := m_free hD hS hA
          refine va_calli (va_runV (As := [.int 1, .int x_22]) (rest := []) ⟨hx, hb, hml, hown, hts⟩ (m_failsAt l dC dI ad kc x0 x1 x2 x3 x4 x5 x6 x_22 x_23 x_24 x10 x_25 x12 x13 x14 x15 x16 x17 x18 x19 x20 x21 f0 f1 f2 f3 f4 f5 f6 f7 f8 f9 f10 f11 f12 f13 f14 f15 f16 f17 f18 f19 f20 f21 fL fN fP fM fO H.size 1 x_22 ) (cwV 2 hts mg_X10_isAtomAtmd4_X10_failsAt_126 rfl rfl rfl (by decide +kernel) ⟨Nat.le_of_ble_eq_true rfl, Nat.le_of_ble_eq_true rfl⟩) ⟨fun a U g mk q => by obtain ⟨q0, q1, qP, qK, qD⟩ := q; exact ⟨q0, q1, qP, va_K.moved (u := U) (U := U.calling g mk a) (Vm.Alike.refl U.vm) qK, qD⟩, va_recv hK hP (ci := 10) (q0 := 0) rfl rfl, fun U hU hW => ⟨rfl, by rw [hU], by rw [hU]; exact hP, va_K.moved hW.alike hK, hD.weaken (fun _ _ _ _ => trivial)⟩⟩ rfl rfl hl.1 rfl (lv_room (Nat.le_of_ble_eq_true rfl)) dX10_isAtomAt_71 ⟨Nat.le_of_ble_eq_true rfl, Nat.le_of_ble_eq_true rfl⟩) hS (fun q _ h => hFc q h) hFc (fun r_31 u t H1 locs ht hvm hw hB hz1 hk1 hS => ?_)
          subst hw
          obtain ⟨x_32, x_33, hr_31_0, hP, hK1, hD1⟩ := hB
          rw [ht] at hP
          have hD := hD1.weaken (fun k q _ h => hFc q.1 h)
          generalize H1 = H at hP hS ⊢
          have rg_x_32 := i_rng x_32
          have rg_x_33 := i_rng x_33
          have rg_r_31 := i_rng r_31
          have hP : va_P (dC, dI) vwCl (mW ad kc x0 x1 x2 x3 x4 x5 x6 x_22 x_32 x_33 x10 x_25 x12 x13 x14 x15 x16 x17 x18 x19 x20 x21 f0 f1 f2 f3 f4 f5 f6 f7 f8 f9 f10 f11 f12 f13 f14 f15 f16 f17 f18 f19 f20 f21 fL fN fP fM fO) H := hP
          have hD : va_D A (mW ad kc x0 x1 x2 x3 x4 x5 x6 x_22 x_32 x_33 x10 x_25 x12 x13 x14 x15 x16 x17 x18 x19 x20 x21 f0 f1 f2 f3 f4 f5 f6 f7 f8 f9 f10 f11 f12 f13 f14 f15 f16 f17 f18 f19 f20 f21 fL fN fP fM fO) := hD
          exact W.zret hx hb hr (z_nar (by first | assumption | decide | exact z_of (by omega))) (fun t ht hW => ⟨⟨_, _, rfl, rfl, x_22, x_32, x_33, x_25, (by first | omega | assumption | rfl | decide), (by first | omega | assumption | rfl | decide), (by first | omega | assumption | rfl | decide), (by first | omega | assumption | rfl | decide), (Or.inr (by first | omega | decide)), by rw [ht]; exact hP, va_K.moved hW.alike hK, hD⟩, hS.F ht⟩) hS.2.2 dX10_isAtomAt_74
      · have tk_26 := c_eq (a := r_21.toInt) (b := 0) rfl (by decide) k_26
        refine lv_iconst (v := 0) hx hb dX10_isAtomAt_50 (by decide) ?_
        have lit_33 : (0 : Int32).toInt = 0 := by decide
        exact W.zret hx hb hr (z_nar (by first | assumption | decide | exact z_of (by omega))) (fun t ht hW => ⟨⟨_, _, rfl, rfl, x_22, x_23, x_24, x_25, (by first | omega | assumption | rfl | decide), (by first | omega | assumption | rfl | decide), (by first | omega | assumption | rfl | decide), (by first | omega | assumption | rfl | decide), (Or.inr (by first | omega | decide)), by rw [ht]; exact hP, va_K.moved hW.alike hK, hD⟩, hS.F ht⟩) hS.2.2 dX10_isAtomAt_51
    · have tk_18 := c_eq (a := i1.toInt) (b := 5) rfl (by decide) k_18
      refine lv_aload_n hx hb dX10_isAtomAt_20 rfl (lv_at hl 1 rfl) ?_
      refine lv_iconst (v := 4) hx hb dX10_isAtomAt_21 (by decide) ?_
      refine lv_aload_n hx hb dX10_isAtomAt_22 rfl (lv_at hl 1 rfl) ?_
      refine va_get (D := (dC, dI)) (ci := 10) (v := .int x7) (C := RX10) (T := TX10) (N := 48) hx hb hts fin_X10_isAtomAtmd4_X10 hown hK hP 0 rfl rfl 10 (by decide) (hts (.fieldLink RX10 130 "PatternGateModel" "end" "I") (List.mem_of_getElem? (i := 1) (by decide +kernel))) (fun _ h9 => h9) rfl dX10_isAtomAt_23 ?_
      have hFc := m_free hD hS hA
      refine va_calli (va_runV (As := [.int 4, .int x7]) (rest := []) ⟨hx, hb, hml, hown, hts⟩ (m_failsAt l dC dI ad kc x0 x1 x2 x3 x4 x5 x6 x7 x8 x9 x10 x11 x12 x13 x14 x15 x16 x17 x18 x19 x20 x21 f0 f1 f2 f3 f4 f5 f6 f7 f8 f9 f10 f11 f12 f13 f14 f15 f16 f17 f18 f19 f20 f21 fL fN fP fM fO H.size 4 x7 ) (cwV 2 hts mg_X10_isAtomAtmd4_X10_failsAt_126 rfl rfl rfl (by decide +kernel) ⟨Nat.le_of_ble_eq_true rfl, Nat.le_of_ble_eq_true rfl⟩) ⟨fun a U g mk q => by obtain ⟨q0, q1, qP, qK, qD⟩ := q; exact ⟨q0, q1, qP, va_K.moved (u := U) (U := U.calling g mk a) (Vm.Alike.refl U.vm) qK, qD⟩, va_recv hK hP (ci := 10) (q0 := 0) rfl rfl, fun U hU hW => ⟨rfl, by rw [hU], by rw [hU]; exact hP, va_K.moved hW.alike hK, hD.weaken (fun _ _ _ _ => trivial)⟩⟩ rfl rfl hl.1 rfl (lv_room (Nat.le_of_ble_eq_true rfl)) dX10_isAtomAt_26 ⟨Nat.le_of_ble_eq_true rfl, Nat.le_of_ble_eq_true rfl⟩) hS (fun q _ h => hFc q h) hFc (fun r_35 u t H1 locs ht hvm hw hB hz1 hk1 hS => ?_)
      subst hw
      obtain ⟨x_36, x_37, hr_35_0, hP, hK1, hD1⟩ := hB
      rw [ht] at hP
      have hD := hD1.weaken (fun k q _ h => hFc q.1 h)
      generalize H1 = H at hP hS ⊢
      have rg_x_36 := i_rng x_36
      have rg_x_37 := i_rng x_37
      have rg_r_35 := i_rng r_35
      have hP : va_P (dC, dI) vwCl (mW ad kc x0 x1 x2 x3 x4 x5 x6 x7 x_36 x_37 x10 x11 x12 x13 x14 x15 x16 x17 x18 x19 x20 x21 f0 f1 f2 f3 f4 f5 f6 f7 f8 f9 f10 f11 f12 f13 f14 f15 f16 f17 f18 f19 f20 f21 fL fN fP fM fO) H := hP
      have hD : va_D A (mW ad kc x0 x1 x2 x3 x4 x5 x6 x7 x_36 x_37 x10 x11 x12 x13 x14 x15 x16 x17 x18 x19 x20 x21 f0 f1 f2 f3 f4 f5 f6 f7 f8 f9 f10 f11 f12 f13 f14 f15 f16 f17 f18 f19 f20 f21 fL fN fP fM fO) := hD
      exact W.zret hx hb hr (z_nar (by first | assumption | decide | exact z_of (by omega))) (fun t ht hW => ⟨⟨_, _, rfl, rfl, x7, x_36, x_37, x11, (by first | omega | assumption | rfl | decide), (by first | omega | assumption | rfl | decide), (by first | omega | assumption | rfl | decide), (by first | omega | assumption | rfl | decide), (Or.inr (by first | omega | decide)), by rw [ht]; exact hP, va_K.moved hW.alike hK, hD⟩, hS.F ht⟩) hS.2.2 dX10_isAtomAt_29
def mwX10_isBranchAtmd4 : List Cond := .code yX10_isBranchAt cX10_isBranchAt 3 (some .boolean) :: ([.fieldLink RX10 130 "PatternGateModel" "end" "I", .code yX10_byteAt cX10_byteAt 2 (some .int), .fieldLink RX10 114 "PatternGateModel" "size" "I", .fieldLink RX10 18 "PatternGateModel" "text" "[B", .methodLink RX10 133 yX10_byteAt, .instanceMethod yX10_byteAt, .selects RX10 yX10_byteAt yX10_byteAt, .initialized RX10, .code yX10_isAtomSign cX10_isAtomSign 2 (some .boolean), .code yX10_isSmall cX10_isSmall 1 (some .boolean), .methodLink RX10 137 yX10_isSmall, .static yX10_isSmall, .methodLink RX10 160 yX10_isAtomSign, .instanceMethod yX10_isAtomSign, .selects RX10 yX10_isAtomSign yX10_isAtomSign, .code yX10_isAtomAt cX10_isAtomAt 3 (some .boolean), .fieldLink RX10 151 "PatternGateModel" "spots" "I", .code yX10_isSetAt cX10_isSetAt 3 (some .boolean), .code yX10_failsAt cX10_failsAt 3 (some .boolean), .fieldLink RX10 117 "PatternGateModel" "faults" "I", .fieldLink RX10 21 "PatternGateModel" "faultPlace" "I", .methodLink RX10 126 yX10_failsAt, .instanceMethod yX10_failsAt, .selects RX10 yX10_failsAt yX10_failsAt, .code yX10_has cX10_has 2 (some .boolean), .methodLink RX10 170 yX10_has, .static yX10_has, .methodLink RX10 166 yX10_isSetAt, .instanceMethod yX10_isSetAt, .selects RX10 yX10_isSetAt yX10_isSetAt, .code yX10_isPatternAt cX10_isPatternAt 2 (some .boolean), .code yX10_isBranchAt cX10_isBranchAt 3 (some .boolean), .methodLink RX10 163 yX10_isAtomAt, .instanceMethod yX10_isAtomAt, .selects RX10 yX10_isAtomAt yX10_isAtomAt, .methodLink RX10 157 yX10_isBranchAt, .instanceMethod yX10_isBranchAt, .selects RX10 yX10_isBranchAt yX10_isBranchAt, .methodLink RX10 154 yX10_isPatternAt, .instanceMethod yX10_isPatternAt, .selects RX10 yX10_isPatternAt yX10_isPatternAt] ++ wsX100)
theorem fin_X10_isBranchAtmd4_X10 : ∀ w ∈ wsX100, w ∈ mwX10_isBranchAtmd4 := fun w h => List.mem_cons_of_mem _ (List.mem_append_right _ h)
set_option maxRecDepth 20000 in
theorem mg_X10_isBranchAtmd4_X10_byteAt_133 : GoodIn mwX10_isBranchAtmd4 (wsV RX10 133 RX10 yX10_byteAt mwX10_byteAtm) := goodIn_r _ [5, 6, 7, 8, 2, 3, 4, 42, 43, 44, 45, 46, 47, 48, 49, 50, 51, 52, 53, 54, 55, 56, 57, 58, 59, 60, 61, 62, 63, 64, 65, 66, 67, 68, 69, 70, 71, 72, 73, 74, 75, 76, 77, 78, 79, 80, 81, 82, 83, 84, 85, 86, 87, 88, 89] (by decide +kernel) (by decide +kernel)
set_option maxRecDepth 20000 in
theorem mg_X10_isBranchAtmd4_X10_isAtomSign_160 : GoodIn mwX10_isBranchAtmd4 (wsV RX10 160 RX10 yX10_isAtomSign mwX10_isAtomSignm) := goodIn_r _ [13, 14, 15, 8, 9, 10, 11, 12, 8] (by decide +kernel) (by decide +kernel)
set_option maxRecDepth 20000 in
theorem mg_X10_isBranchAtmd4_X10_isAtomAt_163 : GoodIn mwX10_isBranchAtmd4 (wsV RX10 163 RX10 yX10_isAtomAt mwX10_isAtomAtmd4) := goodIn_r _ [33, 34, 35, 8, 16, 1, 2, 3, 4, 5, 6, 7, 8, 17, 18, 10, 11, 12, 19, 20, 21, 22, 23, 24, 25, 26, 27, 28, 29, 30, 31, 0, 9, 13, 14, 15, 16, 33, 34, 35, 36, 37, 38, 39, 40, 41, 42, 43, 44, 45, 46, 47, 48, 49, 50, 51, 52, 53, 54, 55, 56, 57, 58, 59, 60, 61, 62, 63, 64, 65, 66, 67, 68, 69, 70, 71, 72, 73, 74, 75, 76, 77, 78, 79, 80, 81, 82, 83, 84, 85, 86, 87, 88, 89] (by decide +kernel) (by decide +kernel)
set_option maxRecDepth 20000 in
theorem mg_X10_isBranchAtmd4_X10_failsAt_126 : GoodIn mwX10_isBranchAtmd4 (wsV RX10 126 RX10 yX10_failsAt mwX10_failsAtm) := goodIn_r _ [22, 23, 24, 8, 19, 20, 21, 42, 43, 44, 45, 46, 47, 48, 49, 50, 51, 52, 53, 54, 55, 56, 57, 58, 59, 60, 61, 62, 63, 64, 65, 66, 67, 68, 69, 70, 71, 72, 73, 74, 75, 76, 77, 78, 79, 80, 81, 82, 83, 84, 85, 86, 87, 88, 89] (by decide +kernel) (by decide +kernel)
set_option maxHeartbeats 4000000 in
set_option maxRecDepth 100000 in
theorem m_isBranchAt4 (l : Launch) (dC : Nat → ClassId) (dI : Nat → Nat → Nat) (ad : Nat → Nat) (kc : Nat → ClassId) (x0 x1 x2 x3 x4 x5 x6 x7 x8 x9 x10 x11 x12 x13 x14 x15 x16 x17 x18 x19 x20 x21 : Int32) (f0 f1 f2 f3 f4 f5 f6 f7 f8 f9 f10 f11 f12 f13 f14 f15 f16 f17 f18 f19 f20 f21 : Nat → Int32) (fL : Nat → Nat → Int64) (fN : Nat → Nat → Int32) (fP : Nat → Nat → Nat) (fM : Nat → Nat → Int32) (fO : Nat → Nat → Int32) (sz : Nat) (i1 : Int32) (q0 : 0 ≤ x7.toInt) (q1 : x7.toInt ≤ x4.toInt) (q2 : x4.toInt ≤ 900) (q3 : 0 ≤ x11.toInt) (q4 : x11.toInt ≤ 24) (q5 : i1.toInt = 4) : Met l yX10_isBranchAt mwX10_isBranchAtmd4 ({ frames := 6, cells := 0, slots := 0, locals := 360 }) (va_Pc [.ref (ad 0), .int i1] (fun U => U.heap.size = sz ∧ va_P (dC, dI) vwCl (mW ad kc x0 x1 x2 x3 x4 x5 x6 x7 x8 x9 x10 x11 x12 x13 x14 x15 x16 x17 x18 x19 x20 x21 f0 f1 f2 f3 f4 f5 f6 f7 f8 f9 f10 f11 f12 f13 f14 f15 f16 f17 f18 f19 f20 f21 fL fN fP fM fO) U.heap ∧ va_K (dC, dI) vwCl (mT kc) U ∧ va_D (fun _ => True) (mW ad kc x0 x1 x2 x3 x4 x5 x6 x7 x8 x9 x10 x11 x12 x13 x14 x15 x16 x17 x18 x19 x20 x21 f0 f1 f2 f3 f4 f5 f6 f7 f8 f9 f10 f11 f12 f13 f14 f15 f16 f17 f18 f19 f20 f21 fL fN fP fM fO))) (va_Qi (fun (o9 u9 : Int32) => o9 = u9) (fun (o9 : Int32) t => ∃ (y7 y8 y9 y11 : Int32), (x7.toInt ≤ y7.toInt) ∧ (y7.toInt ≤ x4.toInt) ∧ (x11.toInt ≤ y11.toInt) ∧ (y11.toInt ≤ 24) ∧ (o9.toInt = 1 ∧ (pBranch (tx f2 x4.toInt) (pSub (tx f2 x4.toInt) 1) x7.toInt y7.toInt (y11.toInt - x11.toInt) ∧ x11.toInt < y11.toInt ∧ x7.toInt < y7.toInt) ∨ o9.toInt = 0) ∧ va_P (dC, dI) vwCl (mW ad kc x0 x1 x2 x3 x4 x5 x6 y7 y8 y9 x10 y11 x12 x13 x14 x15 x16 x17 x18 x19 x20 x21 f0 f1 f2 f3 f4 f5 f6 f7 f8 f9 f10 f11 f12 f13 f14 f15 f16 f17 f18 f19 f20 f21 fL fN fP fM fO) t.heap ∧ va_K (dC, dI) vwCl (mT kc) t ∧ va_D (va_A (mW ad kc x0 x1 x2 x3 x4 x5 x6 x7 x8 x9 x10 x11 x12 x13 x14 x15 x16 x17 x18 x19 x20 x21 f0 f1 f2 f3 f4 f5 f6 f7 f8 f9 f10 f11 f12 f13 f14 f15 f16 f17 f18 f19 f20 f21 fL fN fP fM fO) sz) (mW ad kc x0 x1 x2 x3 x4 x5 x6 y7 y8 y9 x10 y11 x12 x13 x14 x15 x16 x17 x18 x19 x20 x21 f0 f1 f2 f3 f4 f5 f6 f7 f8 f9 f10 f11 f12 f13 f14 f15 f16 f17 f18 f19 f20 f21 fL fN fP fM fO)) (va_A (mW ad kc x0 x1 x2 x3 x4 x5 x6 x7 x8 x9 x10 x11 x12 x13 x14 x15 x16 x17 x18 x19 x20 x21 f0 f1 f2 f3 f4 f5 f6 f7 f8 f9 f10 f11 f12 f13 f14 f15 f16 f17 f18 f19 f20 f21 fL fN fP fM fO) sz)) 0 0 (va_A (mW ad kc x0 x1 x2 x3 x4 x5 x6 x7 x8 x9 x10 x11 x12 x13 x14 x15 x16 x17 x18 x19 x20 x21 f0 f1 f2 f3 f4 f5 f6 f7 f8 f9 f10 f11 f12 f13 f14 f15 f16 f17 f18 f19 f20 f21 fL fN fP fM fO) sz) := by
  refine Met.ofW (cc := cX10_isBranchAt) (maxL := 3) (ret := (some .boolean)) (by decide +kernel) rfl ?_
  intro p e s m args below meth c s₁ B hml hv
  obtain ⟨rfl, hsz, hP, hK, hD0⟩ := hv
  have hx := B.exec
  have hb := B.bytes
  have hr := B.returns
  have hts := atoms_spec (ws := mwX10_isBranchAtmd4) B.pre
  have hown : s.vm.findClass RX10 = some m.cls := findClass_of_methodNamed B.named
  have hlocks := B.notSynchronized
  subst hsz
  have hD := hD0.self (sz := s.heap.size)
  generalize hAe : va_A (mW ad kc x0 x1 x2 x3 x4 x5 x6 x7 x8 x9 x10 x11 x12 x13 x14 x15 x16 x17 x18 x19 x20 x21 f0 f1 f2 f3 f4 f5 f6 f7 f8 f9 f10 f11 f12 f13 f14 f15 f16 f17 f18 f19 f20 f21 fL fN fP fM fO) s.heap.size = A at hD ⊢
  have hA : ∀ q : Nat, s.heap.size ≤ q → A q := fun q h => by rw [← hAe]; exact Or.inr h
  have hP : va_P (dC, dI) vwCl (mW ad kc x0 x1 x2 x3 x4 x5 x6 x7 x8 x9 x10 x11 x12 x13 x14 x15 x16 x17 x18 x19 x20 x21 f0 f1 f2 f3 f4 f5 f6 f7 f8 f9 f10 f11 f12 f13 f14 f15 f16 f17 f18 f19 f20 f21 fL fN fP fM fO) s.heap := hP
  have hD : va_D A (mW ad kc x0 x1 x2 x3 x4 x5 x6 x7 x8 x9 x10 x11 x12 x13 x14 x15 x16 x17 x18 x19 x20 x21 f0 f1 f2 f3 f4 f5 f6 f7 f8 f9 f10 f11 f12 f13 f14 f15 f16 f17 f18 f19 f20 f21 fL fN fP fM fO) := hD
  have hK : va_K (dC, dI) vwCl (mT kc) s := hK
  generalize hH : s.heap = H at hP ⊢
  have hS : va_S A s.heap H [] := by rw [← hH]; exact va_S.rf
  have hl := lv_entry ([.ref (ad 0), .int i1]) (n := 3) (Nat.le_of_ble_eq_true rfl)
  rw [lg_entry_eq]
  generalize (lg_sl ([.ref (ad 0), .int i1]) ++ List.replicate (3 - (lg_sl ([.ref (ad 0), .int i1])).length) Slot.unset).toArray = ls at hl ⊢
  have hl : lv_has ls 3 [(0, .ref (ad 0)), (1, .int i1)] := hl
  have rg_i1 := i_rng i1
  refine lv_aload_n hx hb dX10_isBranchAt_0 rfl (lv_at hl 0 rfl) ?_
  refine lv_aload_n hx hb dX10_isBranchAt_1 rfl (lv_at hl 0 rfl) ?_
  refine lv_aload_n hx hb dX10_isBranchAt_2 rfl (lv_at hl 0 rfl) ?_
  refine va_get (D := (dC, dI)) (ci := 10) (v := .int x7) (C := RX10) (T := TX10) (N := 48) hx hb hts fin_X10_isBranchAtmd4_X10 hown hK hP 0 rfl rfl 10 (by decide) (hts (.fieldLink RX10 130 "PatternGateModel" "end" "I") (List.mem_of_getElem? (i := 1) (by decide +kernel))) (fun _ h9 => h9) rfl dX10_isBranchAt_3 ?_
  refine vp_callSi (W.runV (As := [.int x7]) (rest := [.ref (ad 0)]) ⟨hx, hb, hml, hown, hts⟩ (m_byteAt l dC dI ad kc x0 x1 x2 x3 x4 x5 x6 x7 x8 x9 x10 x11 x12 x13 x14 x15 x16 x17 x18 x19 x20 x21 f0 f1 f2 f3 f4 f5 f6 f7 f8 f9 f10 f11 f12 f13 f14 f15 f16 f17 f18 f19 f20 f21 fL fN fP fM fO x7 (by first | omega | assumption | decide | (have l0 := Int32.toInt_zero; omega)) (by first | omega | assumption | decide | (have l0 := Int32.toInt_zero; omega))) (cwV 1 hts mg_X10_isBranchAtmd4_X10_byteAt_133 rfl rfl rfl (by decide +kernel) ⟨Nat.le_of_ble_eq_true rfl, Nat.le_of_ble_eq_true rfl⟩) ⟨fun a U g mk q => by obtain ⟨q0, qP, qK⟩ := q; exact ⟨q0, qP, va_K.moved (u := U) (U := U.calling g mk a) (Vm.Alike.refl U.vm) qK⟩, va_recv hK hP (ci := 10) (q0 := 0) rfl rfl, fun U hU hW => ⟨rfl, by rw [hU]; exact hP, va_K.moved hW.alike hK⟩⟩ rfl rfl hl.1 rfl (lv_room (Nat.le_of_ble_eq_true rfl)) dX10_isBranchAt_6 ⟨Nat.le_of_ble_eq_true rfl, Nat.le_of_ble_eq_true rfl⟩) (fun r_1 hr_1 => ?_)
  have rg_r_1 := i_rng r_1
  refine vp_callSi (W.runV (As := [.int r_1]) (rest := []) ⟨hx, hb, hml, hown, hts⟩ (m_isAtomSign l dC dI ad kc x0 x1 x2 x3 x4 x5 x6 x7 x8 x9 x10 x11 x12 x13 x14 x15 x16 x17 x18 x19 x20 x21 f0 f1 f2 f3 f4 f5 f6 f7 f8 f9 f10 f11 f12 f13 f14 f15 f16 f17 f18 f19 f20 f21 fL fN fP fM fO r_1 ) (cwV 1 hts mg_X10_isBranchAtmd4_X10_isAtomSign_160 rfl rfl rfl (by decide +kernel) ⟨Nat.le_of_ble_eq_true rfl, Nat.le_of_ble_eq_true rfl⟩) ⟨fun a U g mk q => by obtain ⟨q0, qP, qK⟩ := q; exact ⟨q0, qP, va_K.moved (u := U) (U := U.calling g mk a) (Vm.Alike.refl U.vm) qK⟩, va_recv hK hP (ci := 10) (q0 := 0) rfl rfl, fun U hU hW => ⟨rfl, by rw [hU]; exact hP, va_K.moved hW.alike hK⟩⟩ rfl rfl hl.1 rfl (lv_room (Nat.le_of_ble_eq_true rfl)) dX10_isBranchAt_9 ⟨Nat.le_of_ble_eq_true rfl, Nat.le_of_ble_eq_true rfl⟩) (fun r_2 hr_2 => ?_)
  have rg_r_2 := i_rng r_2
  refine lv_if_ne (tgt := 25) hx hb dX10_isBranchAt_12 (by decide) (fun k_3 => ?_) (fun k_3 => ?_)
  · have tk_3 := c_ne (a := r_2.toInt) (b := 0) rfl (by decide) k_3
    have hAt := tf2_t hr_2 (by omega)
    rw [hr_1.1] at hAt
    have loop25 : ∀ (lm25 : Nat) (ea fa fb sa : Int32), (x7.toInt ≤ ea.toInt) → (ea.toInt ≤ x4.toInt) → (x11.toInt ≤ sa.toInt) → (sa.toInt ≤ 24) → (brI (tx f2 x4.toInt) (pSub (tx f2 x4.toInt) 1) x7.toInt ea.toInt x11.toInt sa.toInt) → ((x4.toInt - ea.toInt).toNat) < lm25 → ∀ (H : Heap) (locs : List Loc) (ls : Array Slot), va_P (dC, dI) vwCl (mW ad kc x0 x1 x2 x3 x4 x5 x6 ea fa fb x10 sa x12 x13 x14 x15 x16 x17 x18 x19 x20 x21 f0 f1 f2 f3 f4 f5 f6 f7 f8 f9 f10 f11 f12 f13 f14 f15 f16 f17 f18 f19 f20 f21 fL fN fP fM fO) H → va_D A (mW ad kc x0 x1 x2 x3 x4 x5 x6 ea fa fb x10 sa x12 x13 x14 x15 x16 x17 x18 x19 x20 x21 f0 f1 f2 f3 f4 f5 f6 f7 f8 f9 f10 f11 f12 f13 f14 f15 f16 f17 f18 f19 f20 f21 fL fN fP fM fO) → va_S A s.heap H locs → lv_has ls 3 [(0, .ref (ad 0)), (1, .int i1)] → W p l e (headSpec mwX10_isBranchAtmd4 ({ frames := 6, cells := 0, slots := 0, locals := 360 })).room s m ([.ref (ad 0), .int i1]).toArray below meth c H locs 0 0 (MQ below (va_Qi (fun (o9 u9 : Int32) => o9 = u9) (fun (o9 : Int32) t => ∃ (y7 y8 y9 y11 : Int32), (x7.toInt ≤ y7.toInt) ∧ (y7.toInt ≤ x4.toInt) ∧ (x11.toInt ≤ y11.toInt) ∧ (y11.toInt ≤ 24) ∧ (o9.toInt = 1 ∧ (pBranch (tx f2 x4.toInt) (pSub (tx f2 x4.toInt) 1) x7.toInt y7.toInt (y11.toInt - x11.toInt) ∧ x11.toInt < y11.toInt ∧ x7.toInt < y7.toInt) ∨ o9.toInt = 0) ∧ va_P (dC, dI) vwCl (mW ad kc x0 x1 x2 x3 x4 x5 x6 y7 y8 y9 x10 y11 x12 x13 x14 x15 x16 x17 x18 x19 x20 x21 f0 f1 f2 f3 f4 f5 f6 f7 f8 f9 f10 f11 f12 f13 f14 f15 f16 f17 f18 f19 f20 f21 fL fN fP fM fO) t.heap ∧ va_K (dC, dI) vwCl (mT kc) t ∧ va_D A (mW ad kc x0 x1 x2 x3 x4 x5 x6 y7 y8 y9 x10 y11 x12 x13 x14 x15 x16 x17 x18 x19 x20 x21 f0 f1 f2 f3 f4 f5 f6 f7 f8 f9 f10 f11 f12 f13 f14 f15 f16 f17 f18 f19 f20 f21 fL fN fP fM fO)) A) ([.ref (ad 0), .int i1]).toArray s 0 0 A) (F0 m 25 ls []) := by
      intro lm25
      induction lm25 with
      | zero => intro ea fa fb sa v25_0 v25_1 v25_2 v25_3 v25_4 hm25; exact absurd hm25 (Nat.not_lt_zero _)
      | succ lm25 ih25 =>
        intro ea fa fb sa v25_0 v25_1 v25_2 v25_3 v25_4 hm25 H locs ls hP hD hS hl
        have rg_ea := i_rng ea
        have rg_fa := i_rng fa
        have rg_fb := i_rng fb
        have rg_sa := i_rng sa
        refine lv_aload_n hx hb dX10_isBranchAt_25 rfl (lv_at hl 0 rfl) ?_
        refine lv_aload_n hx hb dX10_isBranchAt_26 rfl (lv_at hl 0 rfl) ?_
        refine lv_aload_n hx hb dX10_isBranchAt_27 rfl (lv_at hl 0 rfl) ?_
        refine va_get (D := (dC, dI)) (ci := 10) (v := .int ea) (C := RX10) (T := TX10) (N := 48) hx hb hts fin_X10_isBranchAtmd4_X10 hown hK hP 0 rfl rfl 10 (by decide) (hts (.fieldLink RX10 130 "PatternGateModel" "end" "I") (List.mem_of_getElem? (i := 1) (by decide +kernel))) (fun _ h9 => h9) rfl dX10_isBranchAt_28 ?_
        refine vp_callSi (W.runV (As := [.int ea]) (rest := [.ref (ad 0)]) ⟨hx, hb, hml, hown, hts⟩ (m_byteAt l dC dI ad kc x0 x1 x2 x3 x4 x5 x6 ea fa fb x10 sa x12 x13 x14 x15 x16 x17 x18 x19 x20 x21 f0 f1 f2 f3 f4 f5 f6 f7 f8 f9 f10 f11 f12 f13 f14 f15 f16 f17 f18 f19 f20 f21 fL fN fP fM fO ea (by first | omega | assumption | decide | (have l0 := Int32.toInt_zero; omega)) (by first | omega | assumption | decide | (have l0 := Int32.toInt_zero; omega))) (cwV 1 hts mg_X10_isBranchAtmd4_X10_byteAt_133 rfl rfl rfl (by decide +kernel) ⟨Nat.le_of_ble_eq_true rfl, Nat.le_of_ble_eq_true rfl⟩) ⟨fun a U g mk q => by obtain ⟨q0, qP, qK⟩ := q; exact ⟨q0, qP, va_K.moved (u := U) (U := U.calling g mk a) (Vm.Alike.refl U.vm) qK⟩, va_recv hK hP (ci := 10) (q0 := 0) rfl rfl, fun U hU hW => ⟨rfl, by rw [hU]; exact hP, va_K.moved hW.alike hK⟩⟩ rfl rfl hl.1 rfl (lv_room (Nat.le_of_ble_eq_true rfl)) dX10_isBranchAt_31 ⟨Nat.le_of_ble_eq_true rfl, Nat.le_of_ble_eq_true rfl⟩) (fun r_4 hr_4 => ?_)
        have rg_r_4 := i_rng r_4
        refine vp_callSi (W.runV (As := [.int r_4]) (rest := []) ⟨hx, hb, hml, hown, hts⟩ (m_isAtomSign l dC dI ad kc x0 x1 x2 x3 x4 x5 x6 ea fa fb x10 sa x12 x13 x14 x15 x16 x17 x18 x19 x20 x21 f0 f1 f2 f3 f4 f5 f6 f7 f8 f9 f10 f11 f12 f13 f14 f15 f16 f17 f18 f19 f20 f21 fL fN fP fM fO r_4 ) (cwV 1 hts mg_X10_isBranchAtmd4_X10_isAtomSign_160 rfl rfl rfl (by decide +kernel) ⟨Nat.le_of_ble_eq_true rfl, Nat.le_of_ble_eq_true rfl⟩) ⟨fun a U g mk q => by obtain ⟨q0, qP, qK⟩ := q; exact ⟨q0, qP, va_K.moved (u := U) (U := U.calling g mk a) (Vm.Alike.refl U.vm) qK⟩, va_recv hK hP (ci := 10) (q0 := 0) rfl rfl, fun U hU hW => ⟨rfl, by rw [hU]; exact hP, va_K.moved hW.alike hK⟩⟩ rfl rfl hl.1 rfl (lv_room (Nat.le_of_ble_eq_true rfl)) dX10_isBranchAt_34 ⟨Nat.le_of_ble_eq_true rfl, Nat.le_of_ble_eq_true rfl⟩) (fun r_5 hr_5 => ?_)
        have rg_r_5 := i_rng r_5
        refine lv_if_eq (tgt := 94) hx hb dX10_isBranchAt_37 (by decide) (fun k_6 => ?_) (fun k_6 => ?_)
        · have tk_6 := c_eq (a := r_5.toInt) (b := 0) rfl (by decide) k_6
          have hNA := tf2_f hr_5 (by omega)
          rw [hr_4.1] at hNA
          refine lv_iconst (v := 1) hx hb dX10_isBranchAt_94 (by decide) ?_
          have lit_6 : (1 : Int32).toInt = 1 := by decide
          exact W.zret hx hb hr (z_nar (by first | assumption | decide | exact z_of (by omega))) (fun t ht hW => ⟨⟨_, _, rfl, rfl, ea, fa, fb, sa, (by first | omega | assumption | rfl | decide), (by first | omega | assumption | rfl | decide), (by first | omega | assumption | rfl | decide), (by first | omega | assumption | rfl | decide), (Or.inl ⟨by decide, br_end v25_4 hAt hNA⟩), by rw [ht]; exact hP, va_K.moved hW.alike hK, hD⟩, hS.F ht⟩) hS.2.2 dX10_isBranchAt_95
        · have tk_6 := c_ne (a := r_5.toInt) (b := 0) rfl (by decide) k_6
          have hIA := tf2_t hr_5 (by omega)
          rw [hr_4.1] at hIA
          refine lv_aload_n hx hb dX10_isBranchAt_40 rfl (lv_at hl 0 rfl) ?_
          refine lv_iload_n hx hb dX10_isBranchAt_41 rfl (lv_at hl 1 rfl) ?_
          have hFc := m_free hD hS hA
          refine va_calli (va_runV (As := [.int i1]) (rest := []) ⟨hx, hb, hml, hown, hts⟩ (m_isAtomAt4 l dC dI ad kc x0 x1 x2 x3 x4 x5 x6 ea fa fb x10 sa x12 x13 x14 x15 x16 x17 x18 x19 x20 x21 f0 f1 f2 f3 f4 f5 f6 f7 f8 f9 f10 f11 f12 f13 f14 f15 f16 f17 f18 f19 f20 f21 fL fN fP fM fO H.size i1 (by first | omega | assumption | decide | (have l0 := Int32.toInt_zero; omega)) (by first | omega | assumption | decide | (have l0 := Int32.toInt_zero; omega)) (by first | omega | assumption | decide | (have l0 := Int32.toInt_zero; omega)) (by first | omega | assumption | decide | (have l0 := Int32.toInt_zero; omega)) (by first | omega | assumption | decide | (have l0 := Int32.toInt_zero; omega)) (by first | omega | assumption | decide | (have l0 := Int32.toInt_zero; omega)) (by first | omega | assumption | decide | (have l0 := Int32.toInt_zero; omega))) (cwV 1 hts mg_X10_isBranchAtmd4_X10_isAtomAt_163 rfl rfl rfl (by decide +kernel) ⟨Nat.le_of_ble_eq_true rfl, Nat.le_of_ble_eq_true rfl⟩) ⟨fun a U g mk q => by obtain ⟨q0, q1, qP, qK, qD⟩ := q; exact ⟨q0, q1, qP, va_K.moved (u := U) (U := U.calling g mk a) (Vm.Alike.refl U.vm) qK, qD⟩, va_recv hK hP (ci := 10) (q0 := 0) rfl rfl, fun U hU hW => ⟨rfl, by rw [hU], by rw [hU]; exact hP, va_K.moved hW.alike hK, hD.weaken (fun _ _ _ _ => trivial)⟩⟩ rfl rfl hl.1 rfl (lv_room (Nat.le_of_ble_eq_true rfl)) dX10_isBranchAt_42 ⟨Nat.le_of_ble_eq_true rfl, Nat.le_of_ble_eq_true rfl⟩) hS (fun q _ h => hFc q h) hFc (fun r_8 u t H1 locs ht hvm hw hB hz1 hk1 hS => ?_)
          subst hw
          obtain ⟨x_9, x_10, x_11, x_12, hr_8_0, hr_8_1, hr_8_2, hr_8_3, hr_8_4, hP, hK1, hD1⟩ := hB
          rw [ht] at hP
          have hD := hD1.weaken (fun k q _ h => hFc q.1 h)
          generalize H1 = H at hP hS ⊢
          have rg_x_9 := i_rng x_9
          have rg_x_10 := i_rng x_10
          have rg_x_11 := i_rng x_11
          have rg_x_12 := i_rng x_12
          have rg_r_8 := i_rng r_8
          have hP : va_P (dC, dI) vwCl (mW ad kc x0 x1 x2 x3 x4 x5 x6 x_9 x_10 x_11 x10 x_12 x12 x13 x14 x15 x16 x17 x18 x19 x20 x21 f0 f1 f2 f3 f4 f5 f6 f7 f8 f9 f10 f11 f12 f13 f14 f15 f16 f17 f18 f19 f20 f21 fL fN fP fM fO) H := hP
          have hD : va_D A (mW ad kc x0 x1 x2 x3 x4 x5 x6 x_9 x_10 x_11 x10 x_12 x12 x13 x14 x15 x16 x17 x18 x19 x20 x21 f0 f1 f2 f3 f4 f5 f6 f7 f8 f9 f10 f11 f12 f13 f14 f15 f16 f17 f18 f19 f20 f21 fL fN fP fM fO) := hD
          refine lv_if_ne (tgt := 50) hx hb dX10_isBranchAt_45 (by decide) (fun k_13 => ?_) (fun k_13 => ?_)
          · have tk_13 := c_ne (a := r_8.toInt) (b := 0) rfl (by decide) k_13
            have hT := tf_t hr_8_4 (by omega)
            refine lv_aload_n hx hb dX10_isBranchAt_50 rfl (lv_at hl 0 rfl) ?_
            refine lv_aload_n hx hb dX10_isBranchAt_51 rfl (lv_at hl 0 rfl) ?_
            refine va_get (D := (dC, dI)) (ci := 10) (v := .int x_9) (C := RX10) (T := TX10) (N := 48) hx hb hts fin_X10_isBranchAtmd4_X10 hown hK hP 0 rfl rfl 10 (by decide) (hts (.fieldLink RX10 130 "PatternGateModel" "end" "I") (List.mem_of_getElem? (i := 1) (by decide +kernel))) (fun _ h9 => h9) rfl dX10_isBranchAt_52 ?_
            refine vp_callSi (W.runV (As := [.int x_9]) (rest := []) ⟨hx, hb, hml, hown, hts⟩ (m_byteAt l dC dI ad kc x0 x1 x2 x3 x4 x5 x6 x_9 x_10 x_11 x10 x_12 x12 x13 x14 x15 x16 x17 x18 x19 x20 x21 f0 f1 f2 f3 f4 f5 f6 f7 f8 f9 f10 f11 f12 f13 f14 f15 f16 f17 f18 f19 f20 f21 fL fN fP fM fO x_9 (by first | omega | assumption | decide | (have l0 := Int32.toInt_zero; omega)) (by first | omega | assumption | decide | (have l0 := Int32.toInt_zero; omega))) (cwV 1 hts mg_X10_isBranchAtmd4_X10_byteAt_133 rfl rfl rfl (by decide +kernel) ⟨Nat.le_of_ble_eq_true rfl, Nat.le_of_ble_eq_true rfl⟩) ⟨fun a U g mk q => by obtain ⟨q0, qP, qK⟩ := q; exact ⟨q0, qP, va_K.moved (u := U) (U := U.calling g mk a) (Vm.Alike.refl U.vm) qK⟩, va_recv hK hP (ci := 10) (q0 := 0) rfl rfl, fun U hU hW => ⟨rfl, by rw [hU]; exact hP, va_K.moved hW.alike hK⟩⟩ rfl rfl hl.1 rfl (lv_room (Nat.le_of_ble_eq_true rfl)) dX10_isBranchAt_55 ⟨Nat.le_of_ble_eq_true rfl, Nat.le_of_ble_eq_true rfl⟩) (fun r_14 hr_14 => ?_)
            have rg_r_14 := i_rng r_14
            refine lv_istore_n (lv' := [(2, .int r_14), (0, .ref (ad 0)), (1, .int i1)]) hx hb dX10_isBranchAt_58 rfl hl (by decide) rfl (fun ls hl => ?_)
            refine lv_aload_n hx hb dX10_isBranchAt_59 rfl (lv_at hl 1 rfl) ?_
            refine lv_dup hx hb dX10_isBranchAt_60 rfl ?_
            refine va_get (D := (dC, dI)) (ci := 10) (v := .int x_9) (C := RX10) (T := TX10) (N := 48) hx hb hts fin_X10_isBranchAtmd4_X10 hown hK hP 0 rfl rfl 10 (by decide) (hts (.fieldLink RX10 130 "PatternGateModel" "end" "I") (List.mem_of_getElem? (i := 1) (by decide +kernel))) (fun _ h9 => h9) rfl dX10_isBranchAt_61 ?_
            refine lv_iload_n hx hb dX10_isBranchAt_64 rfl (lv_at hl 0 rfl) ?_
            refine lv_bipush (v := 42) hx hb dX10_isBranchAt_65 (by decide) ?_
            refine lv_icmp_eq (tgt := 82) hx hb dX10_isBranchAt_67 (by decide) (fun k_15 => ?_) (fun k_15 => ?_)
            · have tk_15 := c_eq (a := r_14.toInt) (b := 42) rfl (by decide) k_15
              refine lv_iconst (v := 1) hx hb dX10_isBranchAt_82 (by decide) ?_
              refine lv_goto (tgt := 87) hx hb dX10_isBranchAt_83 (by decide) ?_
              refine lv_iadd hx hb dX10_isBranchAt_87 ?_
              refine lv_topi (fun y_16 ey_16 => ?_)
              first | have ty_16 := i_add (a := x_9.toInt) (b := 1) rfl (by decide) ey_16 (by omega) (by omega) | skip
              refine va_put (D := (dC, dI)) (ci := 10) (v := .int y_16) (ty := .int) (C := RX10) (T := TX10) (N := 48) hx hb hts fin_X10_isBranchAtmd4_X10 tyX10 tyX10_ok nmX10 hown hK hP hD hS 0 rfl rfl 10 (by decide) (hts (.fieldLink RX10 130 "PatternGateModel" "end" "I") (List.mem_of_getElem? (i := 1) (by decide +kernel))) (fun _ h9 => h9) rfl (by decide +kernel) rfl rfl (Nat.le_of_ble_eq_true rfl) dX10_isBranchAt_88 (fun H locs hP hD hS => ?_)
              have hP : va_P (dC, dI) vwCl (mW ad kc x0 x1 x2 x3 x4 x5 x6 y_16 x_10 x_11 x10 x_12 x12 x13 x14 x15 x16 x17 x18 x19 x20 x21 f0 f1 f2 f3 f4 f5 f6 f7 f8 f9 f10 f11 f12 f13 f14 f15 f16 f17 f18 f19 f20 f21 fL fN fP fM fO) H := hP
              have hD : va_D A (mW ad kc x0 x1 x2 x3 x4 x5 x6 y_16 x_10 x_11 x10 x_12 x12 x13 x14 x15 x16 x17 x18 x19 x20 x21 f0 f1 f2 f3 f4 f5 f6 f7 f8 f9 f10 f11 f12 f13 f14 f15 f16 f17 f18 f19 f20 f21 fL fN fP fM fO) := hD
              refine lv_goto (tgt := 25) hx hb dX10_isBranchAt_91 (by decide) ?_
              exact ih25 y_16 x_10 x_11 x_12 (by first | omega | assumption | decide) (by first | omega | assumption | decide) (by first | omega | assumption | decide) (by first | omega | assumption | decide) (by first | exact br_q v25_4 hT.1 (by omega) (by omega) (by omega) (by unfold isQu; omega) | exact br_n v25_4 hT.1 (by omega) (by omega) (by omega) (by unfold isQu; omega)) (by omega) _ _ ls hP hD hS (lv_sub hl [1, 2] rfl)
            · have tk_15 := c_ne (a := r_14.toInt) (b := 42) rfl (by decide) k_15
              refine lv_iload_n hx hb dX10_isBranchAt_70 rfl (lv_at hl 0 rfl) ?_
              refine lv_bipush (v := 43) hx hb dX10_isBranchAt_71 (by decide) ?_
              refine lv_icmp_eq (tgt := 82) hx hb dX10_isBranchAt_73 (by decide) (fun k_17 => ?_) (fun k_17 => ?_)
              · have tk_17 := c_eq (a := r_14.toInt) (b := 43) rfl (by decide) k_17
                refine lv_iconst (v := 1) hx hb dX10_isBranchAt_82 (by decide) ?_
                refine lv_goto (tgt := 87) hx hb dX10_isBranchAt_83 (by decide) ?_
                refine lv_iadd hx hb dX10_isBranchAt_87 ?_
                refine lv_topi (fun y_18 ey_18 => ?_)
                first | have ty_18 := i_add (a := x_9.toInt) (b := 1) rfl (by decide) ey_18 (by omega) (by omega) | skip
                refine va_put (D := (dC, dI)) (ci := 10) (v := .int y_18) (ty := .int) (C := RX10) (T := TX10) (N := 48) hx hb hts fin_X10_isBranchAtmd4_X10 tyX10 tyX10_ok nmX10 hown hK hP hD hS 0 rfl rfl 10 (by decide) (hts (.fieldLink RX10 130 "PatternGateModel" "end" "I") (List.mem_of_getElem? (i := 1) (by decide +kernel))) (fun _ h9 => h9) rfl (by decide +kernel) rfl rfl (Nat.le_of_ble_eq_true rfl) dX10_isBranchAt_88 (fun H locs hP hD hS => ?_)
                have hP : va_P (dC, dI) vwCl (mW ad kc x0 x1 x2 x3 x4 x5 x6 y_18 x_10 x_11 x10 x_12 x12 x13 x14 x15 x16 x17 x18 x19 x20 x21 f0 f1 f2 f3 f4 f5 f6 f7 f8 f9 f10 f11 f12 f13 f14 f15 f16 f17 f18 f19 f20 f21 fL fN fP fM fO) H := hP
                have hD : va_D A (mW ad kc x0 x1 x2 x3 x4 x5 x6 y_18 x_10 x_11 x10 x_12 x12 x13 x14 x15 x16 x17 x18 x19 x20 x21 f0 f1 f2 f3 f4 f5 f6 f7 f8 f9 f10 f11 f12 f13 f14 f15 f16 f17 f18 f19 f20 f21 fL fN fP fM fO) := hD
                refine lv_goto (tgt := 25) hx hb dX10_isBranchAt_91 (by decide) ?_
                exact ih25 y_18 x_10 x_11 x_12 (by first | omega | assumption | decide) (by first | omega | assumption | decide) (by first | omega | assumption | decide) (by first | omega | assumption | decide) (by first | exact br_q v25_4 hT.1 (by omega) (by omega) (by omega) (by unfold isQu; omega) | exact br_n v25_4 hT.1 (by omega) (by omega) (by omega) (by unfold isQu; omega)) (by omega) _ _ ls hP hD hS (lv_sub hl [1, 2] rfl)
              · have tk_17 := c_ne (a := r_14.toInt) (b := 43) rfl (by decide) k_17
                refine lv_iload_n hx hb dX10_isBranchAt_76 rfl (lv_at hl 0 rfl) ?_
                refine lv_bipush (v := 63) hx hb dX10_isBranchAt_77 (by decide) ?_
                refine lv_icmp_ne (tgt := 86) hx hb dX10_isBranchAt_79 (by decide) (fun k_19 => ?_) (fun k_19 => ?_)
                · have tk_19 := c_ne (a := r_14.toInt) (b := 63) rfl (by decide) k_19
                  refine lv_iconst (v := 0) hx hb dX10_isBranchAt_86 (by decide) ?_
                  refine lv_iadd hx hb dX10_isBranchAt_87 ?_
                  refine lv_topi (fun y_20 ey_20 => ?_)
                  first | have ty_20 := i_add (a := x_9.toInt) (b := 0) rfl (by decide) ey_20 (by omega) (by omega) | skip
                  refine va_put (D := (dC, dI)) (ci := 10) (v := .int y_20) (ty := .int) (C := RX10) (T := TX10) (N := 48) hx hb hts fin_X10_isBranchAtmd4_X10 tyX10 tyX10_ok nmX10 hown hK hP hD hS 0 rfl rfl 10 (by decide) (hts (.fieldLink RX10 130 "PatternGateModel" "end" "I") (List.mem_of_getElem? (i := 1) (by decide +kernel))) (fun _ h9 => h9) rfl (by decide +kernel) rfl rfl (Nat.le_of_ble_eq_true rfl) dX10_isBranchAt_88 (fun H locs hP hD hS => ?_)
                  have hP : va_P (dC, dI) vwCl (mW ad kc x0 x1 x2 x3 x4 x5 x6 y_20 x_10 x_11 x10 x_12 x12 x13 x14 x15 x16 x17 x18 x19 x20 x21 f0 f1 f2 f3 f4 f5 f6 f7 f8 f9 f10 f11 f12 f13 f14 f15 f16 f17 f18 f19 f20 f21 fL fN fP fM fO) H := hP
                  have hD : va_D A (mW ad kc x0 x1 x2 x3 x4 x5 x6 y_20 x_10 x_11 x10 x_12 x12 x13 x14 x15 x16 x17 x18 x19 x20 x21 f0 f1 f2 f3 f4 f5 f6 f7 f8 f9 f10 f11 f12 f13 f14 f15 f16 f17 f18 f19 f20 f21 fL fN fP fM fO) := hD
                  refine lv_goto (tgt := 25) hx hb dX10_isBranchAt_91 (by decide) ?_
                  exact ih25 y_20 x_10 x_11 x_12 (by first | omega | assumption | decide) (by first | omega | assumption | decide) (by first | omega | assumption | decide) (by first | omega | assumption | decide) (by first | exact br_q v25_4 hT.1 (by omega) (by omega) (by omega) (by unfold isQu; omega) | exact br_n v25_4 hT.1 (by omega) (by omega) (by omega) (by unfold isQu; omega)) (by omega) _ _ ls hP hD hS (lv_sub hl [1, 2] rfl)
                · have tk_19 := c_eq (a := r_14.toInt) (b := 63) rfl (by decide) k_19
                  refine lv_iconst (v := 1) hx hb dX10_isBranchAt_82 (by decide) ?_
                  refine lv_goto (tgt := 87) hx hb dX10_isBranchAt_83 (by decide) ?_
                  refine lv_iadd hx hb dX10_isBranchAt_87 ?_
                  refine lv_topi (fun y_21 ey_21 => ?_)
                  first | have ty_21 := i_add (a := x_9.toInt) (b := 1) rfl (by decide) ey_21 (by omega) (by omega) | skip
                  refine va_put (D := (dC, dI)) (ci := 10) (v := .int y_21) (ty := .int) (C := RX10) (T := TX10) (N := 48) hx hb hts fin_X10_isBranchAtmd4_X10 tyX10 tyX10_ok nmX10 hown hK hP hD hS 0 rfl rfl 10 (by decide) (hts (.fieldLink RX10 130 "PatternGateModel" "end" "I") (List.mem_of_getElem? (i := 1) (by decide +kernel))) (fun _ h9 => h9) rfl (by decide +kernel) rfl rfl (Nat.le_of_ble_eq_true rfl) dX10_isBranchAt_88 (fun H locs hP hD hS => ?_)
                  have hP : va_P (dC, dI) vwCl (mW ad kc x0 x1 x2 x3 x4 x5 x6 y_21 x_10 x_11 x10 x_12 x12 x13 x14 x15 x16 x17 x18 x19 x20 x21 f0 f1 f2 f3 f4 f5 f6 f7 f8 f9 f10 f11 f12 f13 f14 f15 f16 f17 f18 f19 f20 f21 fL fN fP fM fO) H := hP
                  have hD : va_D A (mW ad kc x0 x1 x2 x3 x4 x5 x6 y_21 x_10 x_11 x10 x_12 x12 x13 x14 x15 x16 x17 x18 x19 x20 x21 f0 f1 f2 f3 f4 f5 f6 f7 f8 f9 f10 f11 f12 f13 f14 f15 f16 f17 f18 f19 f20 f21 fL fN fP fM fO) := hD
                  refine lv_goto (tgt := 25) hx hb dX10_isBranchAt_91 (by decide) ?_
                  exact ih25 y_21 x_10 x_11 x_12 (by first | omega | assumption | decide) (by first | omega | assumption | decide) (by first | omega | assumption | decide) (by first | omega | assumption | decide) (by first | exact br_q v25_4 hT.1 (by omega) (by omega) (by omega) (by unfold isQu; omega) | exact br_n v25_4 hT.1 (by omega) (by omega) (by omega) (by unfold isQu; omega)) (by omega) _ _ ls hP hD hS (lv_sub hl [1, 2] rfl)
          · have tk_13 := c_eq (a := r_8.toInt) (b := 0) rfl (by decide) k_13
            refine lv_iconst (v := 0) hx hb dX10_isBranchAt_48 (by decide) ?_
            have lit_21 : (0 : Int32).toInt = 0 := by decide
            exact W.zret hx hb hr (z_nar (by first | assumption | decide | exact z_of (by omega))) (fun t ht hW => ⟨⟨_, _, rfl, rfl, x_9, x_10, x_11, x_12, (by first | omega | assumption | rfl | decide), (by first | omega | assumption | rfl | decide), (by first | omega | assumption | rfl | decide), (by first | omega | assumption | rfl | decide), (Or.inr (by first | omega | decide)), by rw [ht]; exact hP, va_K.moved hW.alike hK, hD⟩, hS.F ht⟩) hS.2.2 dX10_isBranchAt_49
    exact loop25 _ x7 x8 x9 x11 (by first | omega | assumption | decide) (by first | omega | assumption | decide) (by first | omega | assumption | decide) (by first | omega | assumption | decide) (Or.inl ⟨rfl, rfl⟩) (Nat.lt_succ_self _) _ _ ls hP hD hS (lv_sub hl [0, 1] rfl)
  · have tk_3 := c_eq (a := r_2.toInt) (b := 0) rfl (by decide) k_3
    refine lv_aload_n hx hb dX10_isBranchAt_15 rfl (lv_at hl 0 rfl) ?_
    refine lv_iconst (v := 1) hx hb dX10_isBranchAt_16 (by decide) ?_
    refine lv_aload_n hx hb dX10_isBranchAt_17 rfl (lv_at hl 0 rfl) ?_
    refine va_get (D := (dC, dI)) (ci := 10) (v := .int x7) (C := RX10) (T := TX10) (N := 48) hx hb hts fin_X10_isBranchAtmd4_X10 hown hK hP 0 rfl rfl 10 (by decide) (hts (.fieldLink RX10 130 "PatternGateModel" "end" "I") (List.mem_of_getElem? (i := 1) (by decide +kernel))) (fun _ h9 => h9) rfl dX10_isBranchAt_18 ?_
    have hFc := m_free hD hS hA
    refine va_calli (va_runV (As := [.int 1, .int x7]) (rest := []) ⟨hx, hb, hml, hown, hts⟩ (m_failsAt l dC dI ad kc x0 x1 x2 x3 x4 x5 x6 x7 x8 x9 x10 x11 x12 x13 x14 x15 x16 x17 x18 x19 x20 x21 f0 f1 f2 f3 f4 f5 f6 f7 f8 f9 f10 f11 f12 f13 f14 f15 f16 f17 f18 f19 f20 f21 fL fN fP fM fO H.size 1 x7 ) (cwV 2 hts mg_X10_isBranchAtmd4_X10_failsAt_126 rfl rfl rfl (by decide +kernel) ⟨Nat.le_of_ble_eq_true rfl, Nat.le_of_ble_eq_true rfl⟩) ⟨fun a U g mk q => by obtain ⟨q0, q1, qP, qK, qD⟩ := q; exact ⟨q0, q1, qP, va_K.moved (u := U) (U := U.calling g mk a) (Vm.Alike.refl U.vm) qK, qD⟩, va_recv hK hP (ci := 10) (q0 := 0) rfl rfl, fun U hU hW => ⟨rfl, by rw [hU], by rw [hU]; exact hP, va_K.moved hW.alike hK, hD.weaken (fun _ _ _ _ => trivial)⟩⟩ rfl rfl hl.1 rfl (lv_room (Nat.le_of_ble_eq_true rfl)) dX10_isBranchAt_21 ⟨Nat.le_of_ble_eq_true rfl, Nat.le_of_ble_eq_true rfl⟩) hS (fun q _ h => hFc q h) hFc (fun r_23 u t H1 locs ht hvm hw hB hz1 hk1 hS => ?_)
    subst hw
    obtain ⟨x_24, x_25, hr_23_0, hP, hK1, hD1⟩ := hB
    rw [ht] at hP
    have hD := hD1.weaken (fun k q _ h => hFc q.1 h)
    generalize H1 = H at hP hS ⊢
    have rg_x_24 := i_rng x_24
    have rg_x_25 := i_rng x_25
    have rg_r_23 := i_rng r_23
    have hP : va_P (dC, dI) vwCl (mW ad kc x0 x1 x2 x3 x4 x5 x6 x7 x_24 x_25 x10 x11 x12 x13 x14 x15 x16 x17 x18 x19 x20 x21 f0 f1 f2 f3 f4 f5 f6 f7 f8 f9 f10 f11 f12 f13 f14 f15 f16 f17 f18 f19 f20 f21 fL fN fP fM fO) H := hP
    have hD : va_D A (mW ad kc x0 x1 x2 x3 x4 x5 x6 x7 x_24 x_25 x10 x11 x12 x13 x14 x15 x16 x17 x18 x19 x20 x21 f0 f1 f2 f3 f4 f5 f6 f7 f8 f9 f10 f11 f12 f13 f14 f15 f16 f17 f18 f19 f20 f21 fL fN fP fM fO) := hD
    exact W.zret hx hb hr (z_nar (by first | assumption | decide | exact z_of (by omega))) (fun t ht hW => ⟨⟨_, _, rfl, rfl, x7, x_24, x_25, x11, (by first | omega | assumption | rfl | decide), (by first | omega | assumption | rfl | decide), (by first | omega | assumption | rfl | decide), (by first | omega | assumption | rfl | decide), (Or.inr (by first | omega | decide)), by rw [ht]; exact hP, va_K.moved hW.alike hK, hD⟩, hS.F ht⟩) hS.2.2 dX10_isBranchAt_24
def mwX10_isPatternAtmd4 : List Cond := .code yX10_isPatternAt cX10_isPatternAt 2 (some .boolean) :: ([.code yX10_isBranchAt cX10_isBranchAt 3 (some .boolean), .fieldLink RX10 130 "PatternGateModel" "end" "I", .code yX10_byteAt cX10_byteAt 2 (some .int), .fieldLink RX10 114 "PatternGateModel" "size" "I", .fieldLink RX10 18 "PatternGateModel" "text" "[B", .methodLink RX10 133 yX10_byteAt, .instanceMethod yX10_byteAt, .selects RX10 yX10_byteAt yX10_byteAt, .initialized RX10, .code yX10_isAtomSign cX10_isAtomSign 2 (some .boolean), .code yX10_isSmall cX10_isSmall 1 (some .boolean), .methodLink RX10 137 yX10_isSmall, .static yX10_isSmall, .methodLink RX10 160 yX10_isAtomSign, .instanceMethod yX10_isAtomSign, .selects RX10 yX10_isAtomSign yX10_isAtomSign, .code yX10_isAtomAt cX10_isAtomAt 3 (some .boolean), .fieldLink RX10 151 "PatternGateModel" "spots" "I", .code yX10_isSetAt cX10_isSetAt 3 (some .boolean), .code yX10_failsAt cX10_failsAt 3 (some .boolean), .fieldLink RX10 117 "PatternGateModel" "faults" "I", .fieldLink RX10 21 "PatternGateModel" "faultPlace" "I", .methodLink RX10 126 yX10_failsAt, .instanceMethod yX10_failsAt, .selects RX10 yX10_failsAt yX10_failsAt, .code yX10_has cX10_has 2 (some .boolean), .methodLink RX10 170 yX10_has, .static yX10_has, .methodLink RX10 166 yX10_isSetAt, .instanceMethod yX10_isSetAt, .selects RX10 yX10_isSetAt yX10_isSetAt, .code yX10_isPatternAt cX10_isPatternAt 2 (some .boolean), .methodLink RX10 163 yX10_isAtomAt, .instanceMethod yX10_isAtomAt, .selects RX10 yX10_isAtomAt yX10_isAtomAt, .methodLink RX10 157 yX10_isBranchAt, .instanceMethod yX10_isBranchAt, .selects RX10 yX10_isBranchAt yX10_isBranchAt, .methodLink RX10 154 yX10_isPatternAt, .instanceMethod yX10_isPatternAt, .selects RX10 yX10_isPatternAt yX10_isPatternAt] ++ wsX100)
theorem fin_X10_isPatternAtmd4_X10 : ∀ w ∈ wsX100, w ∈ mwX10_isPatternAtmd4 := fun w h => List.mem_cons_of_mem _ (List.mem_append_right _ h)
set_option maxRecDepth 20000 in
theorem mg_X10_isPatternAtmd4_X10_isBranchAt_157 : GoodIn mwX10_isPatternAtmd4 (wsV RX10 157 RX10 yX10_isBranchAt mwX10_isBranchAtmd4) := goodIn_r _ [36, 37, 38, 9, 1, 2, 3, 4, 5, 6, 7, 8, 9, 10, 11, 12, 13, 14, 15, 16, 17, 18, 19, 20, 21, 22, 23, 24, 25, 26, 27, 28, 29, 30, 31, 0, 1, 33, 34, 35, 36, 37, 38, 39, 40, 41, 42, 43, 44, 45, 46, 47, 48, 49, 50, 51, 52, 53, 54, 55, 56, 57, 58, 59, 60, 61, 62, 63, 64, 65, 66, 67, 68, 69, 70, 71, 72, 73, 74, 75, 76, 77, 78, 79, 80, 81, 82, 83, 84, 85, 86, 87, 88, 89] (by decide +kernel) (by decide +kernel)
set_option maxRecDepth 20000 in
theorem mg_X10_isPatternAtmd4_X10_byteAt_133 : GoodIn mwX10_isPatternAtmd4 (wsV RX10 133 RX10 yX10_byteAt mwX10_byteAtm) := goodIn_r _ [6, 7, 8, 9, 3, 4, 5, 42, 43, 44, 45, 46, 47, 48, 49, 50, 51, 52, 53, 54, 55, 56, 57, 58, 59, 60, 61, 62, 63, 64, 65, 66, 67, 68, 69, 70, 71, 72, 73, 74, 75, 76, 77, 78, 79, 80, 81, 82, 83, 84, 85, 86, 87, 88, 89] (by decide +kernel) (by decide +kernel)
set_option maxHeartbeats 4000000 in
set_option maxRecDepth 100000 in
theorem m_isPatternAt4 (l : Launch) (dC : Nat → ClassId) (dI : Nat → Nat → Nat) (ad : Nat → Nat) (kc : Nat → ClassId) (x0 x1 x2 x3 x4 x5 x6 x7 x8 x9 x10 x11 x12 x13 x14 x15 x16 x17 x18 x19 x20 x21 : Int32) (f0 f1 f2 f3 f4 f5 f6 f7 f8 f9 f10 f11 f12 f13 f14 f15 f16 f17 f18 f19 f20 f21 : Nat → Int32) (fL : Nat → Nat → Int64) (fN : Nat → Nat → Int32) (fP : Nat → Nat → Nat) (fM : Nat → Nat → Int32) (fO : Nat → Nat → Int32) (sz : Nat) (i1 : Int32) (q0 : 0 ≤ x7.toInt) (q1 : x7.toInt ≤ x4.toInt) (q2 : x4.toInt ≤ 900) (q3 : 0 ≤ x11.toInt) (q4 : x11.toInt ≤ 24) (q5 : i1.toInt = 4) : Met l yX10_isPatternAt mwX10_isPatternAtmd4 ({ frames := 7, cells := 0, slots := 0, locals := 420 }) (va_Pc [.ref (ad 0), .int i1] (fun U => U.heap.size = sz ∧ va_P (dC, dI) vwCl (mW ad kc x0 x1 x2 x3 x4 x5 x6 x7 x8 x9 x10 x11 x12 x13 x14 x15 x16 x17 x18 x19 x20 x21 f0 f1 f2 f3 f4 f5 f6 f7 f8 f9 f10 f11 f12 f13 f14 f15 f16 f17 f18 f19 f20 f21 fL fN fP fM fO) U.heap ∧ va_K (dC, dI) vwCl (mT kc) U ∧ va_D (fun _ => True) (mW ad kc x0 x1 x2 x3 x4 x5 x6 x7 x8 x9 x10 x11 x12 x13 x14 x15 x16 x17 x18 x19 x20 x21 f0 f1 f2 f3 f4 f5 f6 f7 f8 f9 f10 f11 f12 f13 f14 f15 f16 f17 f18 f19 f20 f21 fL fN fP fM fO))) (va_Qi (fun (o9 u9 : Int32) => o9 = u9) (fun (o9 : Int32) t => ∃ (y7 y8 y9 y11 : Int32), (x7.toInt ≤ y7.toInt) ∧ (y7.toInt ≤ x4.toInt) ∧ (x11.toInt ≤ y11.toInt) ∧ (y11.toInt ≤ 24) ∧ (o9.toInt = 1 ∧ (pPat (tx f2 x4.toInt) 1 x7.toInt y7.toInt (y11.toInt - x11.toInt) ∧ x11.toInt < y11.toInt ∧ x7.toInt < y7.toInt) ∨ o9.toInt = 0) ∧ va_P (dC, dI) vwCl (mW ad kc x0 x1 x2 x3 x4 x5 x6 y7 y8 y9 x10 y11 x12 x13 x14 x15 x16 x17 x18 x19 x20 x21 f0 f1 f2 f3 f4 f5 f6 f7 f8 f9 f10 f11 f12 f13 f14 f15 f16 f17 f18 f19 f20 f21 fL fN fP fM fO) t.heap ∧ va_K (dC, dI) vwCl (mT kc) t ∧ va_D (va_A (mW ad kc x0 x1 x2 x3 x4 x5 x6 x7 x8 x9 x10 x11 x12 x13 x14 x15 x16 x17 x18 x19 x20 x21 f0 f1 f2 f3 f4 f5 f6 f7 f8 f9 f10 f11 f12 f13 f14 f15 f16 f17 f18 f19 f20 f21 fL fN fP fM fO) sz) (mW ad kc x0 x1 x2 x3 x4 x5 x6 y7 y8 y9 x10 y11 x12 x13 x14 x15 x16 x17 x18 x19 x20 x21 f0 f1 f2 f3 f4 f5 f6 f7 f8 f9 f10 f11 f12 f13 f14 f15 f16 f17 f18 f19 f20 f21 fL fN fP fM fO)) (va_A (mW ad kc x0 x1 x2 x3 x4 x5 x6 x7 x8 x9 x10 x11 x12 x13 x14 x15 x16 x17 x18 x19 x20 x21 f0 f1 f2 f3 f4 f5 f6 f7 f8 f9 f10 f11 f12 f13 f14 f15 f16 f17 f18 f19 f20 f21 fL fN fP fM fO) sz)) 0 0 (va_A (mW ad kc x0 x1 x2 x3 x4 x5 x6 x7 x8 x9 x10 x11 x12 x13 x14 x15 x16 x17 x18 x19 x20 x21 f0 f1 f2 f3 f4 f5 f6 f7 f8 f9 f10 f11 f12 f13 f14 f15 f16 f17 f18 f19 f20 f21 fL fN fP fM fO) sz) := by
  refine Met.ofW (cc := cX10_isPatternAt) (maxL := 2) (ret := (some .boolean)) (by decide +kernel) rfl ?_
  intro p e s m args below meth c s₁ B hml hv
  obtain ⟨rfl, hsz, hP, hK, hD0⟩ := hv
  have hx := B.exec
  have hb := B.bytes
  have hr := B.returns
  have hts := atoms_spec (ws := mwX10_isPatternAtmd4) B.pre
  have hown : s.vm.findClass RX10 = some m.cls := findClass_of_methodNamed B.named
  have hlocks := B.notSynchronized
  subst hsz
  have hD := hD0.self (sz := s.heap.size)
  generalize hAe : va_A (mW ad kc x0 x1 x2 x3 x4 x5 x6 x7 x8 x9 x10 x11 x12 x13 x14 x15 x16 x17 x18 x19 x20 x21 f0 f1 f2 f3 f4 f5 f6 f7 f8 f9 f10 f11 f12 f13 f14 f15 f16 f17 f18 f19 f20 f21 fL fN fP fM fO) s.heap.size = A at hD ⊢
  have hA : ∀ q : Nat, s.heap.size ≤ q → A q := fun q h => by rw [← hAe]; exact Or.inr h
  have hP : va_P (dC, dI) vwCl (mW ad kc x0 x1 x2 x3 x4 x5 x6 x7 x8 x9 x10 x11 x12 x13 x14 x15 x16 x17 x18 x19 x20 x21 f0 f1 f2 f3 f4 f5 f6 f7 f8 f9 f10 f11 f12 f13 f14 f15 f16 f17 f18 f19 f20 f21 fL fN fP fM fO) s.heap := hP
  have hD : va_D A (mW ad kc x0 x1 x2 x3 x4 x5 x6 x7 x8 x9 x10 x11 x12 x13 x14 x15 x16 x17 x18 x19 x20 x21 f0 f1 f2 f3 f4 f5 f6 f7 f8 f9 f10 f11 f12 f13 f14 f15 f16 f17 f18 f19 f20 f21 fL fN fP fM fO) := hD
  have hK : va_K (dC, dI) vwCl (mT kc) s := hK
  generalize hH : s.heap = H at hP ⊢
  have hS : va_S A s.heap H [] := by rw [← hH]; exact va_S.rf
  have hl := lv_entry ([.ref (ad 0), .int i1]) (n := 2) (Nat.le_of_ble_eq_true rfl)
  rw [lg_entry_eq]
  generalize (lg_sl ([.ref (ad 0), .int i1]) ++ List.replicate (2 - (lg_sl ([.ref (ad 0), .int i1])).length) Slot.unset).toArray = ls at hl ⊢
  have hl : lv_has ls 2 [(0, .ref (ad 0)), (1, .int i1)] := hl
  have rg_i1 := i_rng i1
  refine lv_aload_n hx hb dX10_isPatternAt_0 rfl (lv_at hl 0 rfl) ?_
  refine lv_iload_n hx hb dX10_isPatternAt_1 rfl (lv_at hl 1 rfl) ?_
  have hFc := m_free hD hS hA
  refine va_calli (va_runV (As := [.int i1]) (rest := []) ⟨hx, hb, hml, hown, hts⟩ (m_isBranchAt4 l dC dI ad kc x0 x1 x2 x3 x4 x5 x6 x7 x8 x9 x10 x11 x12 x13 x14 x15 x16 x17 x18 x19 x20 x21 f0 f1 f2 f3 f4 f5 f6 f7 f8 f9 f10 f11 f12 f13 f14 f15 f16 f17 f18 f19 f20 f21 fL fN fP fM fO H.size i1 (by first | omega | assumption | decide | (have l0 := Int32.toInt_zero; omega)) (by first | omega | assumption | decide | (have l0 := Int32.toInt_zero; omega)) (by first | omega | assumption | decide | (have l0 := Int32.toInt_zero; omega)) (by first | omega | assumption | decide | (have l0 := Int32.toInt_zero; omega)) (by first | omega | assumption | decide | (have l0 := Int32.toInt_zero; omega)) (by first | omega | assumption | decide | (have l0 := Int32.toInt_zero; omega))) (cwV 1 hts mg_X10_isPatternAtmd4_X10_isBranchAt_157 rfl rfl rfl (by decide +kernel) ⟨Nat.le_of_ble_eq_true rfl, Nat.le_of_ble_eq_true rfl⟩) ⟨fun a U g mk q => by obtain ⟨q0, q1, qP, qK, qD⟩ := q; exact ⟨q0, q1, qP, va_K.moved (u := U) (U := U.calling g mk a) (Vm.Alike.refl U.vm) qK, qD⟩, va_recv hK hP (ci := 10) (q0 := 0) rfl rfl, fun U hU hW => ⟨rfl, by rw [hU], by rw [hU]; exact hP, va_K.moved hW.alike hK, hD.weaken (fun _ _ _ _ => trivial)⟩⟩ rfl rfl hl.1 rfl (lv_room (Nat.le_of_ble_eq_true rfl)) dX10_isPatternAt_2 ⟨Nat.le_of_ble_eq_true rfl, Nat.le_of_ble_eq_true rfl⟩) hS (fun q _ h => hFc q h) hFc (fun r_1 u t H1 locs ht hvm hw hB hz1 hk1 hS => ?_)
  subst hw
  obtain ⟨x_2, x_3, x_4, x_5, hr_1_0, hr_1_1, hr_1_2, hr_1_3, hr_1_4, hP, hK1, hD1⟩ := hB
  rw [ht] at hP
  have hD := hD1.weaken (fun k q _ h => hFc q.1 h)
  generalize H1 = H at hP hS ⊢
  have rg_x_2 := i_rng x_2
  have rg_x_3 := i_rng x_3
  have rg_x_4 := i_rng x_4
  have rg_x_5 := i_rng x_5
  have rg_r_1 := i_rng r_1
  have hP : va_P (dC, dI) vwCl (mW ad kc x0 x1 x2 x3 x4 x5 x6 x_2 x_3 x_4 x10 x_5 x12 x13 x14 x15 x16 x17 x18 x19 x20 x21 f0 f1 f2 f3 f4 f5 f6 f7 f8 f9 f10 f11 f12 f13 f14 f15 f16 f17 f18 f19 f20 f21 fL fN fP fM fO) H := hP
  have hD : va_D A (mW ad kc x0 x1 x2 x3 x4 x5 x6 x_2 x_3 x_4 x10 x_5 x12 x13 x14 x15 x16 x17 x18 x19 x20 x21 f0 f1 f2 f3 f4 f5 f6 f7 f8 f9 f10 f11 f12 f13 f14 f15 f16 f17 f18 f19 f20 f21 fL fN fP fM fO) := hD
  refine lv_if_ne (tgt := 10) hx hb dX10_isPatternAt_5 (by decide) (fun k_6 => ?_) (fun k_6 => ?_)
  · have tk_6 := c_ne (a := r_1.toInt) (b := 0) rfl (by decide) k_6
    have hT := tf_t hr_1_4 (by omega)
    have loop10 : ∀ (lm10 : Nat) (ea fa fb sa : Int32), (x7.toInt ≤ ea.toInt) → (ea.toInt ≤ x4.toInt) → (x11.toInt ≤ sa.toInt) → (sa.toInt ≤ 24) → (paI (tx f2 x4.toInt) (pSub (tx f2 x4.toInt) 1) x7.toInt ea.toInt x11.toInt sa.toInt) → ((x4.toInt - ea.toInt).toNat) < lm10 → ∀ (H : Heap) (locs : List Loc) (ls : Array Slot), va_P (dC, dI) vwCl (mW ad kc x0 x1 x2 x3 x4 x5 x6 ea fa fb x10 sa x12 x13 x14 x15 x16 x17 x18 x19 x20 x21 f0 f1 f2 f3 f4 f5 f6 f7 f8 f9 f10 f11 f12 f13 f14 f15 f16 f17 f18 f19 f20 f21 fL fN fP fM fO) H → va_D A (mW ad kc x0 x1 x2 x3 x4 x5 x6 ea fa fb x10 sa x12 x13 x14 x15 x16 x17 x18 x19 x20 x21 f0 f1 f2 f3 f4 f5 f6 f7 f8 f9 f10 f11 f12 f13 f14 f15 f16 f17 f18 f19 f20 f21 fL fN fP fM fO) → va_S A s.heap H locs → lv_has ls 2 [(0, .ref (ad 0)), (1, .int i1)] → W p l e (headSpec mwX10_isPatternAtmd4 ({ frames := 7, cells := 0, slots := 0, locals := 420 })).room s m ([.ref (ad 0), .int i1]).toArray below meth c H locs 0 0 (MQ below (va_Qi (fun (o9 u9 : Int32) => o9 = u9) (fun (o9 : Int32) t => ∃ (y7 y8 y9 y11 : Int32), (x7.toInt ≤ y7.toInt) ∧ (y7.toInt ≤ x4.toInt) ∧ (x11.toInt ≤ y11.toInt) ∧ (y11.toInt ≤ 24) ∧ (o9.toInt = 1 ∧ (pPat (tx f2 x4.toInt) 1 x7.toInt y7.toInt (y11.toInt - x11.toInt) ∧ x11.toInt < y11.toInt ∧ x7.toInt < y7.toInt) ∨ o9.toInt = 0) ∧ va_P (dC, dI) vwCl (mW ad kc x0 x1 x2 x3 x4 x5 x6 y7 y8 y9 x10 y11 x12 x13 x14 x15 x16 x17 x18 x19 x20 x21 f0 f1 f2 f3 f4 f5 f6 f7 f8 f9 f10 f11 f12 f13 f14 f15 f16 f17 f18 f19 f20 f21 fL fN fP fM fO) t.heap ∧ va_K (dC, dI) vwCl (mT kc) t ∧ va_D A (mW ad kc x0 x1 x2 x3 x4 x5 x6 y7 y8 y9 x10 y11 x12 x13 x14 x15 x16 x17 x18 x19 x20 x21 f0 f1 f2 f3 f4 f5 f6 f7 f8 f9 f10 f11 f12 f13 f14 f15 f16 f17 f18 f19 f20 f21 fL fN fP fM fO)) A) ([.ref (ad 0), .int i1]).toArray s 0 0 A) (F0 m 10 ls []) := by
      intro lm10
      induction lm10 with
      | zero => intro ea fa fb sa v10_0 v10_1 v10_2 v10_3 v10_4 hm10; exact absurd hm10 (Nat.not_lt_zero _)
      | succ lm10 ih10 =>
        intro ea fa fb sa v10_0 v10_1 v10_2 v10_3 v10_4 hm10 H locs ls hP hD hS hl
        have rg_ea := i_rng ea
        have rg_fa := i_rng fa
        have rg_fb := i_rng fb
        have rg_sa := i_rng sa
        refine lv_aload_n hx hb dX10_isPatternAt_10 rfl (lv_at hl 0 rfl) ?_
        refine lv_aload_n hx hb dX10_isPatternAt_11 rfl (lv_at hl 0 rfl) ?_
        refine va_get (D := (dC, dI)) (ci := 10) (v := .int ea) (C := RX10) (T := TX10) (N := 48) hx hb hts fin_X10_isPatternAtmd4_X10 hown hK hP 0 rfl rfl 10 (by decide) (hts (.fieldLink RX10 130 "PatternGateModel" "end" "I") (List.mem_of_getElem? (i := 2) (by decide +kernel))) (fun _ h9 => h9) rfl dX10_isPatternAt_12 ?_
        refine vp_callSi (W.runV (As := [.int ea]) (rest := []) ⟨hx, hb, hml, hown, hts⟩ (m_byteAt l dC dI ad kc x0 x1 x2 x3 x4 x5 x6 ea fa fb x10 sa x12 x13 x14 x15 x16 x17 x18 x19 x20 x21 f0 f1 f2 f3 f4 f5 f6 f7 f8 f9 f10 f11 f12 f13 f14 f15 f16 f17 f18 f19 f20 f21 fL fN fP fM fO ea (by first | omega | assumption | decide | (have l0 := Int32.toInt_zero; omega)) (by first | omega | assumption | decide | (have l0 := Int32.toInt_zero; omega))) (cwV 1 hts mg_X10_isPatternAtmd4_X10_byteAt_133 rfl rfl rfl (by decide +kernel) ⟨Nat.le_of_ble_eq_true rfl, Nat.le_of_ble_eq_true rfl⟩) ⟨fun a U g mk q => by obtain ⟨q0, qP, qK⟩ := q; exact ⟨q0, qP, va_K.moved (u := U) (U := U.calling g mk a) (Vm.Alike.refl U.vm) qK⟩, va_recv hK hP (ci := 10) (q0 := 0) rfl rfl, fun U hU hW => ⟨rfl, by rw [hU]; exact hP, va_K.moved hW.alike hK⟩⟩ rfl rfl hl.1 rfl (lv_room (Nat.le_of_ble_eq_true rfl)) dX10_isPatternAt_15 ⟨Nat.le_of_ble_eq_true rfl, Nat.le_of_ble_eq_true rfl⟩) (fun r_7 hr_7 => ?_)
        have rg_r_7 := i_rng r_7
        refine lv_bipush (v := 124) hx hb dX10_isPatternAt_18 (by decide) ?_
        refine lv_icmp_ne (tgt := 43) hx hb dX10_isPatternAt_20 (by decide) (fun k_8 => ?_) (fun k_8 => ?_)
        · have tk_8 := c_ne (a := r_7.toInt) (b := 124) rfl (by decide) k_8
          refine lv_iconst (v := 1) hx hb dX10_isPatternAt_43 (by decide) ?_
          have lit_8 : (1 : Int32).toInt = 1 := by decide
          exact W.zret hx hb hr (z_nar (by first | assumption | decide | exact z_of (by omega))) (fun t ht hW => ⟨⟨_, _, rfl, rfl, ea, fa, fb, sa, (by first | omega | assumption | rfl | decide), (by first | omega | assumption | rfl | decide), (by first | omega | assumption | rfl | decide), (by first | omega | assumption | rfl | decide), (Or.inl ⟨by decide, pa_end v10_4 (by omega)⟩), by rw [ht]; exact hP, va_K.moved hW.alike hK, hD⟩, hS.F ht⟩) hS.2.2 dX10_isPatternAt_44
        · have tk_8 := c_eq (a := r_7.toInt) (b := 124) rfl (by decide) k_8
          refine lv_aload_n hx hb dX10_isPatternAt_23 rfl (lv_at hl 0 rfl) ?_
          refine lv_dup hx hb dX10_isPatternAt_24 rfl ?_
          refine va_get (D := (dC, dI)) (ci := 10) (v := .int ea) (C := RX10) (T := TX10) (N := 48) hx hb hts fin_X10_isPatternAtmd4_X10 hown hK hP 0 rfl rfl 10 (by decide) (hts (.fieldLink RX10 130 "PatternGateModel" "end" "I") (List.mem_of_getElem? (i := 2) (by decide +kernel))) (fun _ h9 => h9) rfl dX10_isPatternAt_25 ?_
          refine lv_iconst (v := 1) hx hb dX10_isPatternAt_28 (by decide) ?_
          refine lv_iadd hx hb dX10_isPatternAt_29 ?_
          refine lv_topi (fun y_10 ey_10 => ?_)
          first | have ty_10 := i_add (a := ea.toInt) (b := 1) rfl (by decide) ey_10 (by omega) (by omega) | skip
          refine va_put (D := (dC, dI)) (ci := 10) (v := .int y_10) (ty := .int) (C := RX10) (T := TX10) (N := 48) hx hb hts fin_X10_isPatternAtmd4_X10 tyX10 tyX10_ok nmX10 hown hK hP hD hS 0 rfl rfl 10 (by decide) (hts (.fieldLink RX10 130 "PatternGateModel" "end" "I") (List.mem_of_getElem? (i := 2) (by decide +kernel))) (fun _ h9 => h9) rfl (by decide +kernel) rfl rfl (Nat.le_of_ble_eq_true rfl) dX10_isPatternAt_30 (fun H locs hP hD hS => ?_)
          have hP : va_P (dC, dI) vwCl (mW ad kc x0 x1 x2 x3 x4 x5 x6 y_10 fa fb x10 sa x12 x13 x14 x15 x16 x17 x18 x19 x20 x21 f0 f1 f2 f3 f4 f5 f6 f7 f8 f9 f10 f11 f12 f13 f14 f15 f16 f17 f18 f19 f20 f21 fL fN fP fM fO) H := hP
          have hD : va_D A (mW ad kc x0 x1 x2 x3 x4 x5 x6 y_10 fa fb x10 sa x12 x13 x14 x15 x16 x17 x18 x19 x20 x21 f0 f1 f2 f3 f4 f5 f6 f7 f8 f9 f10 f11 f12 f13 f14 f15 f16 f17 f18 f19 f20 f21 fL fN fP fM fO) := hD
          refine lv_aload_n hx hb dX10_isPatternAt_33 rfl (lv_at hl 0 rfl) ?_
          refine lv_iload_n hx hb dX10_isPatternAt_34 rfl (lv_at hl 1 rfl) ?_
          have hFc := m_free hD hS hA
          refine va_calli (va_runV (As := [.int i1]) (rest := []) ⟨hx, hb, hml, hown, hts⟩ (m_isBranchAt4 l dC dI ad kc x0 x1 x2 x3 x4 x5 x6 y_10 fa fb x10 sa x12 x13 x14 x15 x16 x17 x18 x19 x20 x21 f0 f1 f2 f3 f4 f5 f6 f7 f8 f9 f10 f11 f12 f13 f14 f15 f16 f17 f18 f19 f20 f21 fL fN fP fM fO H.size i1 (by first | omega | assumption | decide | (have l0 := Int32.toInt_zero; omega)) (by first | omega | assumption | decide | (have l0 := Int32.toInt_zero; omega)) (by first | omega | assumption | decide | (have l0 := Int32.toInt_zero; omega)) (by first | omega | assumption | decide | (have l0 := Int32.toInt_zero; omega)) (by first | omega | assumption | decide | (have l0 := Int32.toInt_zero; omega)) (by first | omega | assumption | decide | (have l0 := Int32.toInt_zero; omega))) (cwV 1 hts mg_X10_isPatternAtmd4_X10_isBranchAt_157 rfl rfl rfl (by decide +kernel) ⟨Nat.le_of_ble_eq_true rfl, Nat.le_of_ble_eq_true rfl⟩) ⟨fun a U g mk q => by obtain ⟨q0, q1, qP, qK, qD⟩ := q; exact ⟨q0, q1, qP, va_K.moved (u := U) (U := U.calling g mk a) (Vm.Alike.refl U.vm) qK, qD⟩, va_recv hK hP (ci := 10) (q0 := 0) rfl rfl, fun U hU hW => ⟨rfl, by rw [hU], by rw [hU]; exact hP, va_K.moved hW.alike hK, hD.weaken (fun _ _ _ _ => trivial)⟩⟩ rfl rfl hl.1 rfl (lv_room (Nat.le_of_ble_eq_true rfl)) dX10_isPatternAt_35 ⟨Nat.le_of_ble_eq_true rfl, Nat.le_of_ble_eq_true rfl⟩) hS (fun q _ h => hFc q h) hFc (fun r_11 u t H1 locs ht hvm hw hB hz1 hk1 hS => ?_)
          subst hw
          obtain ⟨x_12, x_13, x_14, x_15, hr_11_0, hr_11_1, hr_11_2, hr_11_3, hr_11_4, hP, hK1, hD1⟩ := hB
          rw [ht] at hP
          have hD := hD1.weaken (fun k q _ h => hFc q.1 h)
          generalize H1 = H at hP hS ⊢
          have rg_x_12 := i_rng x_12
          have rg_x_13 := i_rng x_13
          have rg_x_14 := i_rng x_14
          have rg_x_15 := i_rng x_15
          have rg_r_11 := i_rng r_11
          have hP : va_P (dC, dI) vwCl (mW ad kc x0 x1 x2 x3 x4 x5 x6 x_12 x_13 x_14 x10 x_15 x12 x13 x14 x15 x16 x17 x18 x19 x20 x21 f0 f1 f2 f3 f4 f5 f6 f7 f8 f9 f10 f11 f12 f13 f14 f15 f16 f17 f18 f19 f20 f21 fL fN fP fM fO) H := hP
          have hD : va_D A (mW ad kc x0 x1 x2 x3 x4 x5 x6 x_12 x_13 x_14 x10 x_15 x12 x13 x14 x15 x16 x17 x18 x19 x20 x21 f0 f1 f2 f3 f4 f5 f6 f7 f8 f9 f10 f11 f12 f13 f14 f15 f16 f17 f18 f19 f20 f21 fL fN fP fM fO) := hD
          refine lv_if_ne (tgt := 10) hx hb dX10_isPatternAt_38 (by decide) (fun k_16 => ?_) (fun k_16 => ?_)
          · have tk_16 := c_ne (a := r_11.toInt) (b := 0) rfl (by decide) k_16
            have hT := tf_t hr_11_4 (by omega)
            exact ih10 x_12 x_13 x_14 x_15 (by first | omega | assumption | decide) (by first | omega | assumption | decide) (by first | omega | assumption | decide) (by first | omega | assumption | decide) (pa_add v10_4 (by omega) (by omega) hT) (by omega) _ _ ls hP hD hS (lv_sub hl [0, 1] rfl)
          · have tk_16 := c_eq (a := r_11.toInt) (b := 0) rfl (by decide) k_16
            refine lv_iconst (v := 0) hx hb dX10_isPatternAt_41 (by decide) ?_
            have lit_16 : (0 : Int32).toInt = 0 := by decide
            exact W.zret hx hb hr (z_nar (by first | assumption | decide | exact z_of (by omega))) (fun t ht hW => ⟨⟨_, _, rfl, rfl, x_12, x_13, x_14, x_15, (by first | omega | assumption | rfl | decide), (by first | omega | assumption | rfl | decide), (by first | omega | assumption | rfl | decide), (by first | omega | assumption | rfl | decide), (Or.inr (by first | omega | decide)), by rw [ht]; exact hP, va_K.moved hW.alike hK, hD⟩, hS.F ht⟩) hS.2.2 dX10_isPatternAt_42
    exact loop10 _ x_2 x_3 x_4 x_5 (by first | omega | assumption | decide) (by first | omega | assumption | decide) (by first | omega | assumption | decide) (by first | omega | assumption | decide) (pa_one hT) (Nat.lt_succ_self _) _ _ ls hP hD hS (lv_sub hl [0, 1] rfl)
  · have tk_6 := c_eq (a := r_1.toInt) (b := 0) rfl (by decide) k_6
    refine lv_iconst (v := 0) hx hb dX10_isPatternAt_8 (by decide) ?_
    have lit_17 : (0 : Int32).toInt = 0 := by decide
    exact W.zret hx hb hr (z_nar (by first | assumption | decide | exact z_of (by omega))) (fun t ht hW => ⟨⟨_, _, rfl, rfl, x_2, x_3, x_4, x_5, (by first | omega | assumption | rfl | decide), (by first | omega | assumption | rfl | decide), (by first | omega | assumption | rfl | decide), (by first | omega | assumption | rfl | decide), (Or.inr (by first | omega | decide)), by rw [ht]; exact hP, va_K.moved hW.alike hK, hD⟩, hS.F ht⟩) hS.2.2 dX10_isPatternAt_9
